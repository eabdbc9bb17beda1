/-! FILLING: the words of a line. -/
theorem lm_or {g : Nat → Int32} {f : Nat} : ∀ k, lm g f k = FAR ∨ ∃ j, j < k ∧ g (f + j + 1) = lm g f k := by
  intro k
  induction k with
  | zero => exact Or.inl rfl
  | succ k ih =>
    show (if g (f + k + 1) < lm g f k then g (f + k + 1) else lm g f k) = FAR ∨ ∃ j, j < k + 1 ∧ g (f + j + 1) = (if g (f + k + 1) < lm g f k then g (f + k + 1) else lm g f k)
    by_cases c : g (f + k + 1) < lm g f k
    · rw [if_pos c]
      exact Or.inr ⟨k, by omega, rfl⟩
    · rw [if_neg c]
      rcases ih with e | ⟨j, h1, h2⟩
      · exact Or.inl e
      · exact Or.inr ⟨j, by omega, h2⟩
def tk (g : Nat → Int32) (v : Int32) (f : Nat) : Nat → Nat
  | 0 => 0
  | k + 1 => if g (f + k + 1) = v then k + 1 else tk g v f k
section
variable {g : Nat → Int32} {v : Int32} {f : Nat}
theorem tk_t {k : Nat} (h : g (f + k + 1) = v) : tk g v f (k + 1) = k + 1 := if_pos h
theorem tk_f {k : Nat} (h : ¬ g (f + k + 1) = v) : tk g v f (k + 1) = tk g v f k := if_neg h
theorem tk_le : ∀ k, tk g v f k ≤ k := by
  intro k
  induction k with
  | zero => exact Nat.le_refl _
  | succ k ih =>
    by_cases c : g (f + k + 1) = v
    · rw [tk_t c]; exact Nat.le_refl _
    · rw [tk_f c]; omega
theorem tk_at : ∀ k, 0 < tk g v f k → g (f + tk g v f k) = v := by
  intro k
  induction k with
  | zero => intro h; exact absurd h (Nat.lt_irrefl _)
  | succ k ih =>
    intro h
    by_cases c : g (f + k + 1) = v
    · rw [tk_t c]; exact c
    · rw [tk_f c] at h ⊢; exact ih h
theorem tk_pos {j : Nat} (e : g (f + j + 1) = v) : ∀ k, j < k → 0 < tk g v f k := by
  intro k
  induction k with
  | zero => intro h; omega
  | succ k ih =>
    intro h
    by_cases c : g (f + k + 1) = v
    · rw [tk_t c]; omega
    · rw [tk_f c]
      refine ih ?_
      by_cases ej : j = k
      · rw [ej] at e; exact absurd e c
      · omega
theorem tk_stop : ∀ d k, (∀ j, k ≤ j → j < k + d → ¬ g (f + j + 1) = v) → tk g v f (k + d) = tk g v f k := by
  intro d
  induction d with
  | zero => intro k _; rfl
  | succ d ih =>
    intro k h
    rw [← ih k (fun j h1 h2 => h j h1 (by omega))]
    exact tk_f (h (k + d) (by omega) (by omega))
end
def tkn (L : Nat → Int32) (m : Nat) (W : Int32) (r f : Nat) : Nat := tk (cand L m W (lc L m W (r - 1)) f) (lc L m W r f) f (m - f)
section
variable {L : Nat → Int32} {m : Nat} {W : Int32}
theorem lc_nf {n f : Nat} (h : ¬ lc L m W n f = FAR) : (lc L m W n f).toInt < 1000000000 := by
  have := lc_le (L := L) (m := m) (W := W) n f
  by_cases c : (lc L m W n f).toInt = 1000000000
  · exact absurd (Int32.toInt_inj.mp (c.trans FAR_i.symm)) h
  · omega
theorem tkn_p {r f : Nat} (hr : 1 ≤ r) (hv : ¬ lc L m W r f = FAR) : 0 < tkn L m W r f ∧ tkn L m W r f ≤ m - f ∧ cand L m W (lc L m W (r - 1)) f (f + tkn L m W r f) = lc L m W r f ∧ ¬ lc L m W (r - 1) (f + tkn L m W r f) = FAR := by
  have p0 : 0 < tkn L m W r f := by
    obtain ⟨r', rfl⟩ : ∃ r', r = r' + 1 := ⟨r - 1, by omega⟩
    rcases lm_or (g := cand L m W (lc L m W r') f) (f := f) (m - f) with e | ⟨j, h1, h2⟩
    · exact absurd e hv
    · exact tk_pos h2 _ h1
  have e := tk_at _ p0
  refine ⟨p0, tk_le _, e, fun c => hv ?_⟩
  rw [← e]
  show cand L m W (lc L m W (r - 1)) f (f + tkn L m W r f) = FAR
  unfold cand
  rw [c]
  split
  · rfl
  · rw [if_pos (by decide)]
theorem lc_b (h : okL L m) (hW : 10 ≤ W.toInt ∧ W.toInt ≤ 60) : ∀ n f, f ≤ m → (lc L m W n f).toInt ≤ 3600 * n ∨ lc L m W n f = FAR := by
  intro n
  induction n with
  | zero =>
    intro f _
    show (if f = m then (0 : Int32) else FAR).toInt ≤ _ ∨ (if f = m then (0 : Int32) else FAR) = FAR
    split
    · exact Or.inl (by decide)
    · exact Or.inr rfl
  | succ n ih =>
    intro f hf
    by_cases c : lc L m W (n + 1) f = FAR
    · exact Or.inr c
    · obtain ⟨t1, t2, t3, t4⟩ := tkn_p (r := n + 1) (by omega) c
      refine Or.inl ?_
      rw [← t3]
      generalize tkn L m W (n + 1) f = j at *
      have e : n + 1 - 1 = n := rfl
      rw [e] at t4 t3 ⊢
      have i := (ih (f + j) (by omega)).resolve_right t4
      have i0 := lc_pos h hW n (f + j) (by omega)
      unfold cand at t3 ⊢
      rw [show f + j - f = j by omega] at t3 ⊢
      by_cases c1 : W < ln L f j
      · rw [if_pos c1] at t3
        exact absurd t3.symm c
      · rw [if_neg c1] at t3 ⊢
        by_cases c2 : FAR ≤ lc L m W n (f + j)
        · rw [if_pos c2] at t3
          exact absurd t3.symm c
        · rw [if_neg c2]
          have b := ln_b h (f := f) j (by omega)
          have s := sq_b hW (x := ln L f j) (by omega) (Int32.le_iff_toInt_le.mp (Int32.not_lt.mp c1))
          have lf := lc_nf t4
          split
          · rw [Int32.zero_add]; omega
          · rw [ti_add (by omega) (by omega)]; omega
end
section
variable {S : XS} {τ : St} {p m r f : Nat} {W : Int32} {G : Nat → Nat → Int32} {Q : Int32 → St → Prop}
theorem K_wt (hp : p < 20) (hL : okL (gB τ 0 p) m) (hr : 1 ≤ r) (hrm : r ≤ m) (hf : f ≤ m) (hG : ∀ a b, a ≤ m → b ≤ m → G a b = lc (gB τ 0 p) m W a b) (hv : ¬ lc (gB τ 0 p) m W r f = FAR) (H : Q (nI (tkn (gB τ 0 p) m W r f)) (brs τ p (nI m) W G)) : CM S m_Br_wordsTaken [.ref 49, .int (nI r), .int (nI f)] (enc (brs τ p (nI m) W G)) (qI Q) := by
  have hm := hL.1
  have hvl := lc_nf hv
  refine C_Br_wordsTaken _ _ _ (B_Br_wordsTaken_0 _ _ _ (bq_f (nI_nlt (b := 1) (a := r) hr (by omega)) ?_))
  rw [brs_9, brs_N]
  refine bq_f (nI_nlt hrm (by omega)) (bq_f (nI_pos (by omega)) ⟨fun z => absurd z (by simp), fun p1 z => ?_⟩)
  obtain rfl : p = p1 := Option.some.inj z
  refine ⟨hp, ?_⟩
  unfold tkn at H
  have L : ∀ d k, m - (f + k) = d → f + k ≤ m → BW S m_Br_wordsTaken 36 [some (.ref 49), some (.int (nI r)), some (.int (nI f)), some (.int (nI (tk (cand (gB τ 0 p) m W (lc (gB τ 0 p) m W (r - 1)) f) (lc (gB τ 0 p) m W r f) f k))), some (.int (ln (gB τ 0 p) f k)), some (.int (nI (f + k + 1)))] [] (enc (brs τ p (nI m) W G)) (qI Q) := by
    intro d
    induction d with
    | zero =>
      intro k hd hk
      refine B_Br_wordsTaken_36 _ _ _ _ _ _ ?_
      rw [brs_9]
      rw [show m - f = k by omega] at H
      exact bq_t (nI_lt (by omega) (by omega)) H
    | succ d ih =>
      intro k hd hk
      have e5 : nI (f + k + 1) - 1 = nI (f + k) := nI_pred (f + k)
      have ln1 : ln (gB τ 0 p) f k + (1 + gB τ 0 p (f + k)) = ln (gB τ 0 p) f (k + 1) := rfl
      have et : f + k + 1 - f = k + 1 := by omega
      refine B_Br_wordsTaken_36 _ _ _ _ _ _ ?_
      rw [brs_9, brs_10, brs_N, brs_0, e5, nI_clamp (n := f + k) (by omega), nI_clamp (n := r) (by omega), nI_clamp (n := f) (by omega), nI_1, nI_sub (by omega)]
      refine bq_f (nI_nlt (by omega) (by omega)) ⟨fun z => absurd z (by simp), fun p4 z => ?_⟩
      obtain rfl : p = p4 := Option.some.inj z
      refine ⟨hp, bq_f (nI_nlt (a := 30) (by omega) (by decide)) ⟨vp_in_nI (by omega) (by decide), ?_⟩⟩
      rw [ln1]
      by_cases y : ln (gB τ 0 p) f (k + 1) ≤ W
      · refine bq_t y ?_
        have hle : ¬ W < ln (gB τ 0 p) f (f + k + 1 - f) := by rw [et]; exact Int32.not_lt.mpr y
        have kc := K_costWith (S := S) (σ := τ) (p := p) (m := m) (W := W) (G := G) (l := r) (t := f + k + 1) (f := f) (c := nI m) (Q := fun v11 τ12 => (vp_in (nI r) 31) ∧ (vp_in (nI f) 31) ∧ ((¬ v11 = gB τ12 2 r f → BW S m_Br_wordsTaken 36 [some (.ref 49), some (.int (nI r)), some (.int (nI f)), some (.int (nI (tk (cand (gB τ 0 p) m W (lc (gB τ 0 p) m W (r - 1)) f) (lc (gB τ 0 p) m W r f) f k))), some (.int (ln (gB τ 0 p) f (k + 1))), some (.int (nI (f + k + 1 + 1)))] [] (enc τ12) (qI Q)) ∧ (v11 = gB τ12 2 r f → BW S m_Br_wordsTaken 36 [some (.ref 49), some (.int (nI r)), some (.int (nI f)), some (.int (nI (f + k + 1 - f))), some (.int (ln (gB τ 0 p) f (k + 1))), some (.int (nI (f + k + 1 + 1)))] [] (enc τ12) (qI Q)))) hL hr hrm (by omega) (by omega) (hG _ _ (by omega) (by omega)) hle (fun v _ i1 i2 => ?_)
        · rw [et] at kc ⊢
          exact kc
        · refine ⟨vp_in_nI (by omega) (by decide), vp_in_nI (by omega) (by decide), ?_⟩
          rw [brs_2, hG r f hrm hf]
          have ih := ih (k + 1) (by omega) (by omega)
          rw [show f + (k + 1) + 1 = f + k + 1 + 1 by omega] at ih
          by_cases c : cand (gB τ 0 p) m W (lc (gB τ 0 p) m W (r - 1)) f (f + k + 1) = lc (gB τ 0 p) m W r f
          · rw [tk_t c] at ih
            have vl : v.toInt < 1000000000 := i1.mpr (by rw [c]; exact hvl)
            rw [et]
            exact bq_tn ((i2 vl).trans c) ih
          · rw [tk_f c] at ih
            refine bq_fn (fun e => c ?_) ih
            rw [← i2 (by rw [e]; exact hvl)]
            exact e
      · refine bq_f y ?_
        rw [show m - f = k + (m - f - k) by omega, tk_stop (m - f - k) k (fun j h1 h2 => ?_)] at H
        · exact H
        · intro e
          apply hv
          rw [← e]
          unfold cand
          rw [show f + j + 1 - f = j + 1 by omega, if_pos]
          have q1 := Int32.lt_iff_toInt_lt.mp (Int32.not_le.mp y)
          have q2 := ln_mono hL (f := f) (j - k) (k + 1) (by omega)
          rw [show k + 1 + (j - k) = j + 1 by omega] at q2
          exact Int32.lt_iff_toInt_lt.mpr (by omega)
  rw [nI_1]
  exact L _ 0 rfl (by omega)
end
