/-! an operation -/
section
variable {n : Nat} {x18 x19 x20 x21 y15 y16 y17 y18 : Int32} {P Q : Int64} {A13 A14 A15 A16 A17 C28 : Nat → Int32}
theorem M6.v3 (h : M6 n x18 x19 x20 x21 y15 y16 y17 y18 P Q A13 A14 A15 A16 A17 C28) {p e : Nat} {v : Int32} (hp : p < 24) (he : e < 4) (hb : 0 ≤ v.toInt ∧ (A14 (4 * p + e)).toInt + (A15 (4 * p + e)).toInt + v.toInt ≤ (A13 (4 * p + e)).toInt) : M6 n x18 x19 x20 x21 y15 y16 y17 y18 P Q A13 A14 A15 (upd A16 (4 * p + e) v) A17 (upd C28 (20 * p + 5 * e + 3) v) := by
  obtain ⟨h1, h2, h3, h4, h5, h6, h7⟩ := h
  refine ⟨h1, h2, h3, h4, h5, fun p' e' hp' he' => ?_, fun s hs => ?_⟩
  · obtain ⟨g0, g1, g2, g3, g4⟩ := h6 p' e' hp' he'
    unfold upd
    by_cases c : p' = p ∧ e' = e
    · obtain ⟨rfl, rfl⟩ := c
      rw [if_neg (show ¬ 20 * p' + 5 * e' = 20 * p' + 5 * e' + 3 by omega), if_neg (show ¬ 20 * p' + 5 * e' + 1 = 20 * p' + 5 * e' + 3 by omega), if_neg (show ¬ 20 * p' + 5 * e' + 2 = 20 * p' + 5 * e' + 3 by omega), if_neg (show ¬ 20 * p' + 5 * e' + 4 = 20 * p' + 5 * e' + 3 by omega), if_pos rfl, if_pos rfl]
      exact ⟨g0, g1, g2, rfl, g4⟩
    · rw [if_neg (show ¬ 20 * p' + 5 * e' = 20 * p + 5 * e + 3 by omega), if_neg (show ¬ 20 * p' + 5 * e' + 1 = 20 * p + 5 * e + 3 by omega), if_neg (show ¬ 20 * p' + 5 * e' + 2 = 20 * p + 5 * e + 3 by omega), if_neg (show ¬ 20 * p' + 5 * e' + 3 = 20 * p + 5 * e + 3 by omega), if_neg (show ¬ 20 * p' + 5 * e' + 4 = 20 * p + 5 * e + 3 by omega), if_neg (show ¬ 4 * p' + e' = 4 * p + e by omega)]
      exact ⟨g0, g1, g2, g3, g4⟩
  · unfold upd
    obtain ⟨a, b, c, d, f, g⟩ := h7 s hs
    by_cases y : s = 4 * p + e
    · subst y
      rw [if_pos rfl]
      exact ⟨a, b, c, hb.1, hb.2, g⟩
    · rw [if_neg y]
      exact ⟨a, b, c, d, f, g⟩
end
def bnA (x : Int32) (e : Nat) (a : Nat) (A : Nat → Int32) : Nat → Nat → Int32
  | 0 => A
  | k + 1 => upd (bnA x e a A k) (4 * (a + k) + e) (bnA x e a A k (4 * (a + k) + e) + x)
def bnC (x : Int32) (e : Nat) (a : Nat) (C : Nat → Int32) : Nat → Nat → Int32
  | 0 => C
  | k + 1 => upd (bnC x e a C k) (20 * (a + k) + 5 * e + 3) (bnC x e a C k (20 * (a + k) + 5 * e + 3) + x)
theorem bnA_out {x : Int32} {e a : Nat} {A : Nat → Int32} : ∀ k m, k ≤ m → bnA x e a A k (4 * (a + m) + e) = A (4 * (a + m) + e) := by
  intro k
  induction k with
  | zero => intro m _; rfl
  | succ k ih =>
    intro m hm
    show upd (bnA x e a A k) (4 * (a + k) + e) _ _ = _
    unfold upd
    rw [if_neg (by omega)]
    exact ih m (by omega)
/-- what is left of part k -/
def lvf (σ : St) (e k : Nat) : Int32 := ((gA σ 13 (4 * k + e) - gA σ 14 (4 * k + e)) - gA σ 15 (4 * k + e)) - gA σ 16 (4 * k + e)
def lfm (σ : St) (e a : Nat) (m0 : Int32) : Nat → Int32
  | 0 => m0
  | k + 1 => if lvf σ e (a + k) < lfm σ e a m0 k then lvf σ e (a + k) else lfm σ e a m0 k
theorem bn_M6 {n : Nat} {σ : St} {x : Int32} {e a b : Nat} (hn : n < 512) (h : R6 n σ) (he : e < 4) (hb : b < 24) (hx : 0 ≤ x.toInt) (hl : ∀ k, a ≤ k → k ≤ b → x ≤ lvf σ e k) : ∀ k, a + k ≤ b + 1 → M6 n (gX σ 18) (gX σ 19) (gX σ 20) (gX σ 21) (gY σ 15) (gY σ 16) (gY σ 17) (gY σ 18) (gP σ) (gQ σ) (gA σ 13) (gA σ 14) (gA σ 15) (bnA x e a (gA σ 16) k) (gA σ 17) (bnC x e a (gC σ 28) k) := by
  intro k
  induction k with
  | zero => intro _; exact h
  | succ k ih =>
    intro hk
    have q := ih (by omega)
    have g3 := (q.2.2.2.2.2.1 (a + k) e (by omega) he).2.2.2.1
    obtain ⟨c0, c1, c2, c3, c4, c5⟩ := h.2.2.2.2.2.2 (4 * (a + k) + e) (by omega)
    have l0 := lv hn c1 c2 c3 c4 c5
    have l1 := Int32.le_iff_toInt_le.mp (hl (a + k) (by omega) (by omega))
    have l2 : (lvf σ e (a + k)).toInt = _ := l0
    have t := ti_add (x := gA σ 16 (4 * (a + k) + e)) (y := x) (by omega) (by omega)
    have r := M6.v3 q (p := a + k) (e := e) (v := bnA x e a (gA σ 16) k (4 * (a + k) + e) + x) (by omega) he (by rw [bnA_out k k (Nat.le_refl _), t]; omega)
    show M6 n _ _ _ _ _ _ _ _ _ _ _ _ _ (upd (bnA x e a (gA σ 16) k) (4 * (a + k) + e) (bnA x e a (gA σ 16) k (4 * (a + k) + e) + x)) _ (upd (bnC x e a (gC σ 28) k) (20 * (a + k) + 5 * e + 3) (bnC x e a (gC σ 28) k (20 * (a + k) + 5 * e + 3) + x))
    rw [g3]
    exact r
section
variable {S : XS} {σ : St}
theorem slN {i j : Nat} : nI i * 4 + nI j = nI (4 * i + j) := by
  show nI i * nI 4 + nI j = _
  rw [nI_mul, nI_add, Nat.mul_comm]
theorem rwN {i j : Nat} : 20 * nI i + 5 * nI j = nI (20 * i + 5 * j) := by
  show nI 20 * nI i + nI 5 * nI j = _
  rw [nI_mul, nI_mul, nI_add]
theorem allHave {Q : Int32 → St → Prop} {e : Int32} {b : Nat} (hb : b < 24) : ∀ d k, b + 1 - k = d → k ≤ b + 1 → ((∀ j, k ≤ j → j ≤ b → HE (gA σ 9) (nI j) e) → Q 1 σ) → (¬ (∀ j, k ≤ j → j ≤ b → HE (gA σ 9) (nI j) e) → Q 0 σ) → BW S m_Pa_allHaveEdition 24 [some (.ref 131), none, some (.int (nI b)), some (.int e), some (.int (nI k))] [] (enc σ) (qI Q) := by
  intro d
  induction d with
  | zero =>
    intro k hd hk H1 H0
    exact B_Pa_allHaveEdition_24 _ _ _ _ (bq_t (nI_lt (by omega) (by omega)) (H1 (fun j h1 h2 => absurd h1 (by omega))))
  | succ d ih =>
    intro k hd hk H1 H0
    refine B_Pa_allHaveEdition_24 _ _ _ _ (bq_f (nI_nlt (by omega) (by omega)) ?_)
    by_cases c : HE (gA σ 9) (nI k) e
    · refine K_haveT c (bq_fn (by decide) ?_)
      rw [nI_1]
      refine ih (k + 1) (by omega) (by omega) (fun h => H1 (fun j h1 h2 => ?_)) (fun h => H0 (fun g => h (fun j h1 h2 => g j (by omega) h2)))
      by_cases y : j = k
      · rw [y]; exact c
      · exact h j (by omega) h2
    · exact K_haveF c (bq_tn rfl (H0 (fun g => c (g k (Nat.le_refl _) (by omega)))))
theorem leastL {Q : Int32 → St → Prop} {e a b : Nat} {m0 : Int32} (he : e < 4) (hb : b < 24) (hab : a ≤ b + 1) (H : Q (lfm σ e a m0 (b + 1 - a)) σ) : ∀ d k, b + 1 - (a + k) = d → a + k ≤ b + 1 → BW S m_Sh_leastLeft 7 [some (.ref 144), none, some (.int (nI b)), some (.int (nI e)), some (.int (lfm σ e a m0 k)), some (.int (nI (a + k)))] [] (enc σ) (qI Q) := by
  intro d
  induction d with
  | zero =>
    intro k hd hk
    have e1 : b + 1 - a = k := by omega
    rw [e1] at H
    exact B_Sh_leastLeft_7 _ _ _ _ _ (bq_t (nI_lt (by omega) (by omega)) H)
  | succ d ih =>
    intro k hd hk
    refine B_Sh_leastLeft_7 _ _ _ _ _ (bq_f (nI_nlt (by omega) (by omega)) (bq_f (nI_ge (b := 24) (by omega) (by decide)) (K_slot ?_)))
    rw [slN]
    refine K_left (vp_in_nI (by omega) (by decide)) ?_
    rw [nI_clamp (by omega), nI_1]
    exact ih (k + 1) (by omega) (by omega)
theorem bindL {Q : St → Prop} {e a b : Nat} {x : Int32} (he : e < 4) (hb : b < 24) (hab : a ≤ b + 1) (H : Q (sA σ 16 (bnA x e a (gA σ 16) (b + 1 - a)))) : ∀ d k, b + 1 - (a + k) = d → a + k ≤ b + 1 → BW S m_Sh_bind 3 [some (.ref 144), none, some (.int (nI b)), some (.int (nI e)), some (.int x), some (.int (nI (a + k))), none] [] (enc (sA σ 16 (bnA x e a (gA σ 16) k))) (qV Q) := by
  intro d
  induction d with
  | zero =>
    intro k hd hk
    have e1 : b + 1 - a = k := by omega
    rw [e1] at H
    exact B_Sh_bind_3 _ _ _ _ _ (bq_t (nI_lt (by omega) (by omega)) H)
  | succ d ih =>
    intro k hd hk
    refine B_Sh_bind_3 _ _ _ _ _ (bq_f (nI_nlt (by omega) (by omega)) (bq_f (nI_ge (b := 24) (by omega) (by decide)) (K_slot ?_)))
    rw [slN]
    refine K_isSlot (vp_in_nI (by omega) (by decide)) (bq_f (by decide) ⟨vp_in_nI (by omega) (by decide), ?_⟩)
    rw [nI_clamp (by omega), nI_1, sA_sA, gs_A_A, if_pos rfl]
    exact ih (k + 1) (by omega) (by omega)
/-- the reference's first loop -/
theorem mvol1 {Q : Int32 → St → Prop} {e a b : Nat} {x : Int32} {n : Nat} {τ : St} (h9 : gC τ 21 = gA σ 9) (h28 : gC τ 28 = gC σ 28) (h6 : R6 n σ) (he : e < 4) (hb : b < 24) (hab : a ≤ b + 1)
    (H : (∀ j, a ≤ j → j ≤ b → HE (gA σ 9) (nI j) (nI e)) → ((x ≤ lfm σ e a 1000000000 (b + 1 - a) → BW S m_Md_volume 97 [some (.ref 153), none, some (.int (nI b)), some (.int (nI e)), some (.int x), some (.int (lfm σ e a 1000000000 (b + 1 - a))), some (.int (nI a))] [] (enc τ) (qI Q)) ∧ (¬ x ≤ lfm σ e a 1000000000 (b + 1 - a) → Q (-2) τ))) (H0 : ¬ (∀ j, a ≤ j → j ≤ b → HE (gA σ 9) (nI j) (nI e)) → Q (-1) τ) :
    ∀ d k, b + 1 - (a + k) = d → a + k ≤ b + 1 → (∀ j, a ≤ j → j < a + k → HE (gA σ 9) (nI j) (nI e)) → BW S m_Md_volume 34 [some (.ref 153), some (.int (nI a)), some (.int (nI b)), some (.int (nI e)), some (.int x), some (.int (lfm σ e a 1000000000 k)), some (.int (nI (a + k)))] [] (enc τ) (qI Q) := by
  intro d
  induction d with
  | zero =>
    intro k hd hk hh
    have e1 : b + 1 - a = k := by omega
    rw [e1] at H
    exact B_Md_volume_34 _ _ _ _ _ _ _ (bq_t (nI_lt (by omega) (by omega)) (H (fun j h1 h2 => hh j h1 (by omega))))
  | succ d ih =>
    intro k hd hk hh
    refine B_Md_volume_34 _ _ _ _ _ _ _ (bq_f (nI_nlt (by omega) (by omega)) ?_)
    by_cases c : HE (gA σ 9) (nI (a + k)) (nI e)
    · refine K_isEdT (by rw [h9]; exact c) (bq_fn (by decide) ?_)
      obtain ⟨f0, f1, f2, f3, f4⟩ := h6.2.2.2.2.2.1 (a + k) e (by omega) he
      have v : ∀ q : Nat, q < 5 → vp_in (nI (20 * (a + k) + 5 * e) + nI q) 480 := fun q hq => by
        rw [nI_add]
        exact vp_in_nI (by omega) (by decide)
      have w : ∀ q : Nat, q < 5 → (nI (20 * (a + k) + 5 * e) + nI q).toNatClampNeg = 20 * (a + k) + 5 * e + q := fun q hq => by
        rw [nI_add, nI_clamp (by omega)]
      have K : ∀ {Q' : Int32 → St → Prop}, Q' (lvf σ e (a + k)) τ → CM S m_Md_stays [.ref 153, .int (nI (a + k)), .int (nI e)] (enc τ) (qI Q') := by
        intro Q' q
        refine K_stays (by rw [rwN]; exact vp_in_nI (by omega) (by decide)) (by rw [rwN]; exact v 1 (by omega)) (by rw [rwN]; exact v 2 (by omega)) (by rw [rwN]; exact v 3 (by omega)) ?_
        rw [rwN, h28, nI_clamp (show 20 * (a + k) + 5 * e < 2 ^ 31 by omega), show (nI (20 * (a + k) + 5 * e) + 1).toNatClampNeg = _ from w 1 (by omega), show (nI (20 * (a + k) + 5 * e) + 2).toNatClampNeg = _ from w 2 (by omega), show (nI (20 * (a + k) + 5 * e) + 3).toNatClampNeg = _ from w 3 (by omega), f0, f1, f2, f3]
        exact q
      have q := ih (k + 1) (by omega) (by omega) (fun j h1 h2 => by
        by_cases y : j = a + k
        · rw [y]; exact c
        · exact hh j h1 (by omega))
      have e2 : lfm σ e a 1000000000 (k + 1) = if lvf σ e (a + k) < lfm σ e a 1000000000 k then lvf σ e (a + k) else lfm σ e a 1000000000 k := rfl
      rw [e2] at q
      refine K ?_
      rw [nI_1]
      by_cases y : lvf σ e (a + k) < lfm σ e a 1000000000 k
      · rw [if_pos y] at q
        exact bq_f (Int32.not_le.mpr y) (K q)
      · rw [if_neg y] at q
        exact bq_t (Int32.not_lt.mp y) q
    · exact K_isEdF (by rw [h9]; exact c) (bq_tn rfl (H0 (fun g => c (g (a + k) (by omega) (by omega)))))
theorem sC_sC (σ : St) (k : Nat) (f g : Nat → Int32) : sC (sC σ k f) k g = sC σ k g := by
  obtain ⟨a, b1, b2, b3⟩ := σ
  have e : va_up (va_up b2 k f) k g = va_up b2 k g := by
    funext j
    unfold va_up
    by_cases h : j = k
    · rw [if_pos h, if_pos h]
    · rw [if_neg h, if_neg h, if_neg h]
  show (a, b1, va_up (va_up b2 k f) k g, b3) = (a, b1, va_up b2 k g, b3)
  rw [e]
theorem mvol2 {Q : Int32 → St → Prop} {e a b : Nat} {x y : Int32} {C : Nat → Int32} (he : e < 4) (hb : b < 24) (hab : a ≤ b + 1) (H : Q (y - x) (sC σ 28 (bnC x e a C (b + 1 - a)))) : ∀ d k, b + 1 - (a + k) = d → a + k ≤ b + 1 → BW S m_Md_volume 97 [some (.ref 153), none, some (.int (nI b)), some (.int (nI e)), some (.int x), some (.int y), some (.int (nI (a + k)))] [] (enc (sC σ 28 (bnC x e a C k))) (qI Q) := by
  intro d
  induction d with
  | zero =>
    intro k hd hk
    have e1 : b + 1 - a = k := by omega
    rw [e1] at H
    exact B_Md_volume_97 _ _ _ _ _ _ (bq_t (nI_lt (by omega) (by omega)) H)
  | succ d ih =>
    intro k hd hk
    refine B_Md_volume_97 _ _ _ _ _ _ (bq_f (nI_nlt (by omega) (by omega)) (K_row ?_))
    have w : (20 * nI (a + k) + 5 * nI e + 3) = nI (20 * (a + k) + 5 * e + 3) := by
      rw [rwN]
      exact nI_add _ 3
    rw [w, nI_clamp (by omega), nI_1, sC_sC, gs_C_C, if_pos rfl]
    exact ⟨vp_in_nI (by omega) (by decide), ih (k + 1) (by omega) (by omega)⟩
end
theorem lfm_le {σ : St} {e a : Nat} {m0 : Int32} : ∀ k m, m < k → lfm σ e a m0 k ≤ lvf σ e (a + m) := by
  intro k
  induction k with
  | zero => intro m h; omega
  | succ k ih =>
    intro m h
    show (if lvf σ e (a + k) < lfm σ e a m0 k then lvf σ e (a + k) else lfm σ e a m0 k) ≤ _
    by_cases y : lvf σ e (a + k) < lfm σ e a m0 k
    · rw [if_pos y]
      by_cases z : m = k
      · rw [z]
        exact Int32.le_refl _
      · exact Int32.le_trans (Int32.le_of_lt y) (ih m (by omega))
    · rw [if_neg y]
      by_cases z : m = k
      · rw [z]
        exact Int32.not_lt.mp y
      · exact ih m (by omega)
theorem lfm_eq {σ : St} {e a : Nat} {m0 m1 : Int32} (h : lvf σ e a < m0 ∧ lvf σ e a < m1) : ∀ k, lfm σ e a m0 (k + 1) = lfm σ e a m1 (k + 1) := by
  intro k
  induction k with
  | zero =>
    show (if lvf σ e a < m0 then _ else _) = (if lvf σ e a < m1 then _ else _)
    rw [if_pos h.1, if_pos h.2]
  | succ k ih =>
    show (if lvf σ e (a + (k + 1)) < lfm σ e a m0 (k + 1) then _ else lfm σ e a m0 (k + 1)) = (if lvf σ e (a + (k + 1)) < lfm σ e a m1 (k + 1) then _ else lfm σ e a m1 (k + 1))
    rw [ih]
theorem sC_self28 (σ : St) : sC σ 28 (gC σ 28) = σ := by
  obtain ⟨a, b1, b2, b3⟩ := σ
  have e : va_up b2 28 (b2 28) = b2 := by
    funext j
    unfold va_up
    by_cases h : j = 28
    · rw [if_pos h, h]
    · rw [if_neg h]
  show (a, b1, va_up b2 28 (b2 28), b3) = (a, b1, b2, b3)
  rw [e]
theorem sA_self16 (σ : St) : sA σ 16 (gA σ 16) = σ := by
  obtain ⟨⟨a1, a2, a3⟩, b⟩ := σ
  have e : va_up a2 16 (a2 16) = a2 := by
    funext j
    unfold va_up
    by_cases h : j = 16
    · rw [if_pos h, h]
    · rw [if_neg h]
  show ((a1, va_up a2 16 (a2 16), a3), b) = ((a1, a2, a3), b)
  rw [e]
set_option maxHeartbeats 2000000 in
theorem op_volume {S : XS} {n : Nat} {σ : St} (h : RR n σ) (p : Int32) (q : Int32) (e : Int32) (x : Int32) (hn : n < 512) : OPI S n σ m_TH_volume m_Md_volume [.int p, .int q, .int e, .int x] := by
  obtain ⟨r0, r1, r2, r3, r4, r5, r6, r7, r8⟩ := h
  unfold OPI
  have a9 : gC σ 21 = gA σ 9 := r3.1.symm
  refine C_TH_volume _ _ _ _ _ (B_TH_volume_0 _ _ _ _ _ ?_)
  -- when the reference refuses with -1
  have NO : ¬ ((0 ≤ p ∧ p < 24) ∧ (0 ≤ q ∧ q < 24) ∧ ¬ q < p ∧ 1 ≤ x) → CM S m_Md_volume [.ref 153, .int p, .int q, .int e, .int x] (enc σ) (qI fun w ρ => (-1 : Int32) = w ∧ RR (n + 1) ρ) := by
    intro hno
    refine C_Md_volume _ _ _ _ _ (B_Md_volume_0 _ _ _ _ _ ?_)
    by_cases k1 : 0 ≤ p ∧ p < 24
    · refine K_misPartT k1 (bq_f (by decide) ?_)
      by_cases k2 : 0 ≤ q ∧ q < 24
      · refine K_misPartT k2 (bq_f (by decide) (bq_s (fun _ => ⟨rfl, ⟨r0, r1, r2, r3, r4, r5, r6.succ, r7, r8.succ⟩⟩) (fun k3 => bq_s (fun k4 => absurd ⟨k1, k2, k3, k4⟩ hno) (fun _ => ⟨rfl, ⟨r0, r1, r2, r3, r4, r5, r6.succ, r7, r8.succ⟩⟩))))
      · exact K_misPartF k2 (bq_t rfl ⟨rfl, ⟨r0, r1, r2, r3, r4, r5, r6.succ, r7, r8.succ⟩⟩)
    · exact K_misPartF k1 (bq_t rfl ⟨rfl, ⟨r0, r1, r2, r3, r4, r5, r6.succ, r7, r8.succ⟩⟩)
  refine bq_s (fun k => NO (fun z => Int32.not_le.mpr k z.2.2.2)) (fun k0 => ?_)
  refine C_Pa_allHaveEdition _ _ _ _ (B_Pa_allHaveEdition_0 _ _ _ _ ?_)
  by_cases k1 : 0 ≤ p ∧ p < 24
  · refine K_isPartT k1 (bq_f (by decide) ?_)
    by_cases k2 : 0 ≤ q ∧ q < 24
    · refine K_isPartT k2 (bq_f (by decide) ?_)
      by_cases k3 : p ≤ q
      · refine bq_t k3 ?_
        have ta := vp_in_iff.mp (vp_24 k1.1 k1.2)
        have tb := vp_in_iff.mp (vp_24 k2.1 k2.2)
        obtain ⟨a, ha, rfl, -⟩ := nI_ex (n := 24) ta.1 ta.2
        obtain ⟨b, hb, rfl, -⟩ := nI_ex (n := 24) tb.1 tb.2
        have hab : a ≤ b := (nI_leI (by omega) (by omega)).mp k3
        have k4 : 1 ≤ x := Int32.not_lt.mp k0
        -- the reference's start
        have RS : ∀ {τ : St} {Q : Int32 → St → Prop}, BW S m_Md_volume 34 [some (.ref 153), some (.int (nI a)), some (.int (nI b)), some (.int e), some (.int x), some (.int 1000000000), some (.int (nI a))] [] (enc τ) (qI Q) → CM S m_Md_volume [.ref 153, .int (nI a), .int (nI b), .int e, .int x] (enc τ) (qI Q) := fun h => C_Md_volume _ _ _ _ _ (B_Md_volume_0 _ _ _ _ _ (K_misPartT k1 (bq_f (by decide) (K_misPartT k2 (bq_f (by decide) (bq_f (nI_nlt hab (by omega)) (bq_t k4 h)))))))
        by_cases ke : 0 ≤ e ∧ e ≤ 3
        · have t3 := ti_nonneg ke.1
          have t4 := Int32.le_iff_toInt_le.mp ke.2
          have z2 : (3 : Int32).toInt = 3 := rfl
          obtain ⟨j, hj, rfl, -⟩ := nI_ex (n := 4) t3 (by omega)
          refine allHave hb (b + 1 - a) a rfl (by omega) (fun hall => ?_) (fun hnot => ?_)
          · refine bq_fn (by decide) (C_Sh_leastLeft _ _ _ _ (B_Sh_leastLeft_0 _ _ _ _ ?_))
            have cl : ∀ k, k < 24 → (lvf σ j k).toInt ≤ 51200000 ∧ 0 ≤ (lvf σ j k).toInt := by
              intro k hk
              obtain ⟨c0, c1, c2, c3, c4, c5⟩ := r6.2.2.2.2.2.2 (4 * k + j) (by omega)
              have l0 := lv hn c1 c2 c3 c4 c5
              have l2 : (lvf σ j k).toInt = _ := l0
              omega
            have zf : (1000000000 : Int32).toInt = 1000000000 := rfl
            have zm : (2147483647 : Int32).toInt = 2147483647 := rfl
            have hlt : lvf σ j a < 2147483647 ∧ lvf σ j a < 1000000000 := by
              have := cl a ha
              exact ⟨Int32.lt_iff_toInt_lt.mpr (by omega), Int32.lt_iff_toInt_lt.mpr (by omega)⟩
            obtain ⟨m, hm⟩ : ∃ m, b + 1 - a = m + 1 := ⟨b - a, by omega⟩
            have eq : lfm σ j a 2147483647 (b + 1 - a) = lfm σ j a 1000000000 (b + 1 - a) := by
              rw [hm]
              exact lfm_eq hlt m
            refine leastL (m0 := 2147483647) hj hb (by omega) ?_ (b + 1 - a) 0 (by omega) (by omega)
            rw [eq]
            by_cases k5 : x ≤ lfm σ j a 1000000000 (b + 1 - a)
            · refine bq_t k5 (C_Sh_bind _ _ _ _ _ (B_Sh_bind_0 _ _ _ _ _ ?_))
              have BL := bindL (S := S) (σ := σ) (e := j) (a := a) (b := b) (x := x) (Q := fun τ6 => CM S m_Md_volume [.ref 153, .int (nI a), .int (nI b), .int (nI j), .int x] (enc τ6) (qI fun w ρ => lfm σ j a 1000000000 (b + 1 - a) - x = w ∧ RR (n + 1) ρ)) hj hb (by omega) ?_ (b + 1 - a) 0 (by omega) (by omega)
              · have e0 : sA σ 16 (bnA x j a (gA σ 16) 0) = σ := sA_self16 σ
                rw [e0] at BL
                exact BL
              · refine RS (τ := sA σ 16 (bnA x j a (gA σ 16) (b + 1 - a))) (mvol1 (τ := sA σ 16 (bnA x j a (gA σ 16) (b + 1 - a))) (σ := σ) (x := x) (n := n) a9 rfl r6 hj hb (by omega) (fun _ => ⟨fun _ => ?_, fun z => absurd k5 z⟩) (fun z => absurd hall z) (b + 1 - a) 0 (by omega) (by omega) (fun i h1 h2 => absurd h2 (by omega)))
                have V := mvol2 (S := S) (σ := sA σ 16 (bnA x j a (gA σ 16) (b + 1 - a))) (e := j) (a := a) (b := b) (x := x) (y := lfm σ j a 1000000000 (b + 1 - a)) (C := gC σ 28) (Q := fun w ρ => lfm σ j a 1000000000 (b + 1 - a) - x = w ∧ RR (n + 1) ρ) hj hb (by omega) ⟨rfl, ?_⟩ (b + 1 - a) 0 (by omega) (by omega)
                · have e0 : sC (sA σ 16 (bnA x j a (gA σ 16) (b + 1 - a))) 28 (bnC x j a (gC σ 28) 0) = sA σ 16 (bnA x j a (gA σ 16) (b + 1 - a)) := sC_self28 (sA σ 16 (bnA x j a (gA σ 16) (b + 1 - a)))
                  rw [e0] at V
                  exact V
                · have z1 : (1 : Int32).toInt = 1 := rfl
                  have u := Int32.le_iff_toInt_le.mp k4
                  have M := bn_M6 hn r6 hj hb (by omega) (x := x) (a := a) (fun k h1 h2 => by
                    have := lfm_le (σ := σ) (e := j) (a := a) (m0 := 1000000000) (b + 1 - a) (k - a) (by omega)
                    rw [show a + (k - a) = k by omega] at this
                    exact Int32.le_trans k5 this) (b + 1 - a) (by omega)
                  exact ⟨r0, r1, r2, r3, r4, r5, M.succ, r7, r8.succ⟩
            · refine bq_f k5 (RS (τ := σ) (mvol1 (τ := σ) (σ := σ) (x := x) (n := n) a9 rfl r6 hj hb (by omega) (fun _ => ⟨fun z => absurd z k5, fun _ => ⟨rfl, ⟨r0, r1, r2, r3, r4, r5, r6.succ, r7, r8.succ⟩⟩⟩) (fun z => absurd hall z) (b + 1 - a) 0 (by omega) (by omega) (fun i h1 h2 => absurd h2 (by omega))))
          · exact bq_tn rfl (RS (τ := σ) (mvol1 (τ := σ) (σ := σ) (x := x) (n := n) a9 rfl r6 hj hb (by omega) (fun z => absurd z hnot) (fun _ => ⟨rfl, ⟨r0, r1, r2, r3, r4, r5, r6.succ, r7, r8.succ⟩⟩) (b + 1 - a) 0 (by omega) (by omega) (fun i h1 h2 => absurd h2 (by omega))))
        · have hE : ¬ HE (gA σ 9) (nI a) e := fun z => ke ⟨z.2.1, Int32.le_trans z.2.2 (r3.2.1 _ (vp_lt (vp_24 k1.1 k1.2))).2⟩
          refine allHave hb (b + 1 - a) a rfl (by omega) (fun hall => absurd (hall a (Nat.le_refl _) hab) hE) (fun _ => bq_tn rfl (RS (B_Md_volume_34 _ _ _ _ _ _ _ (bq_f (nI_nlt hab (by omega)) (K_isEdF (by rw [a9]; exact hE) (bq_tn rfl ⟨rfl, ⟨r0, r1, r2, r3, r4, r5, r6.succ, r7, r8.succ⟩⟩))))))
      · exact bq_f k3 (bq_tn rfl (NO (fun z => k3 (Int32.not_lt.mp z.2.2.1))))
    · exact K_isPartF k2 (bq_t rfl (bq_tn rfl (NO (fun z => k2 z.2.1))))
  · exact K_isPartF k1 (bq_t rfl (bq_tn rfl (NO (fun z => k1 z.1))))
