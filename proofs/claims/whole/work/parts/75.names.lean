/-! NAMES AND QUARRELS. -/
def dg (x : Int32) : Nat := (x.toInt - 96).toNat
def nmN (g : Nat → Int32) : Nat → Nat
  | 0 => 0
  | k + 1 => nmN g k * 27 + dg (g k)
def lt27 (g : Nat → Int32) (k : Nat) : Prop := ∀ i, i < k → 97 ≤ g i ∧ g i ≤ 122
theorem dg_b {x : Int32} (h : 97 ≤ x ∧ x ≤ 122) : 1 ≤ dg x ∧ dg x ≤ 26 ∧ x.toInt = dg x + 96 := by
  have a := Int32.le_iff_toInt_le.mp h.1
  have b := Int32.le_iff_toInt_le.mp h.2
  have z1 : (97 : Int32).toInt = 97 := rfl
  have z2 : (122 : Int32).toInt = 122 := rfl
  unfold dg
  omega
theorem nmN_lt {g : Nat → Int32} : ∀ k, lt27 g k → nmN g k < 27 ^ k := by
  intro k
  induction k with
  | zero => intro _; exact Nat.zero_lt_one
  | succ k ih =>
    intro h
    have i := ih (fun i hi => h i (by omega))
    have d := dg_b (h k (by omega))
    show nmN g k * 27 + dg (g k) < 27 ^ (k + 1)
    rw [Nat.pow_succ]
    omega
theorem nm_N {g : Nat → Int32} : ∀ k, k ≤ 10 → lt27 g k → (nm g k).toInt = (nmN g k : Int) := by
  intro k
  induction k with
  | zero => intro _ _; rfl
  | succ k ih =>
    intro hk h
    have i := ih (by omega) (fun i hi => h i (by omega))
    have l := nmN_lt k (fun i hi => h i (by omega))
    have p : 27 ^ k ≤ 27 ^ 10 := Nat.pow_le_pow_right (by decide) (by omega)
    have p2 : (27 : Nat) ^ 10 = 205891132094649 := by decide
    have d := dg_b (h k (by omega))
    have z97 : (97 : Int32).toInt = 97 := rfl
    have z1 : (1 : Int32).toInt = 1 := rfl
    have z27 : (27 : Int64).toInt = 27 := rfl
    have t1 := ti_sub (x := g k) (y := 97) (by omega) (by omega)
    have t2 := ti_add (x := g k - 97) (y := 1) (by omega) (by omega)
    have t3 := tl_mul (x := nm g k) (y := 27) (by rw [i, z27]; omega) (by rw [i, z27]; omega)
    rw [i, z27] at t3
    show (nm g k * 27 + (g k - 97 + 1).toInt64).toInt = ((nmN g k * 27 + dg (g k) : Nat) : Int)
    rw [tl_add (by rw [t3, tl_i, t2, t1]; omega) (by rw [t3, tl_i, t2, t1]; omega), t3, tl_i, t2, t1]
    omega
theorem nmN_inj {g g' : Nat → Int32} : ∀ k k', lt27 g k → lt27 g' k' → nmN g k = nmN g' k' → k = k' ∧ ∀ i, i < k → g i = g' i := by
  intro k
  induction k with
  | zero =>
    intro k' _ h' e
    rcases k' with _ | j
    · exact ⟨rfl, fun i hi => absurd hi (by omega)⟩
    · have d := dg_b (h' j (by omega))
      have e2 : (0 : Nat) = nmN g' j * 27 + dg (g' j) := e
      omega
  | succ k ih =>
    intro k' h h' e
    have d := dg_b (h k (by omega))
    rcases k' with _ | j
    · have e2 : nmN g k * 27 + dg (g k) = 0 := e
      omega
    · have d' := dg_b (h' j (by omega))
      have e2 : nmN g k * 27 + dg (g k) = nmN g' j * 27 + dg (g' j) := e
      obtain ⟨r1, r2⟩ := ih j (fun i hi => h i (by omega)) (fun i hi => h' i (by omega)) (by omega)
      subst r1
      refine ⟨rfl, fun i hi => ?_⟩
      by_cases c : i = k
      · subst c
        exact Int32.toInt_inj.mp (by omega)
      · exact r2 i (by omega)
theorem nmN_eq {g g' : Nat → Int32} : ∀ k, (∀ i, i < k → g i = g' i) → nm g k = nm g' k := by
  intro k
  induction k with
  | zero => intro _; rfl
  | succ k ih =>
    intro h
    show nm g k * 27 + (g k - 97 + 1).toInt64 = nm g' k * 27 + (g' k - 97 + 1).toInt64
    rw [ih (fun i hi => h i (by omega)), h k (by omega)]
theorem NN.b {v : Int64} {g : Nat → Int32} {z : Int32} (h : NN v g z) : 1 ≤ z.toNatClampNeg ∧ z.toNatClampNeg ≤ 10 ∧ z = nI z.toNatClampNeg := by
  have a := Int32.le_iff_toInt_le.mp h.2.1.1
  have b := Int32.le_iff_toInt_le.mp h.2.1.2
  have z1 : (1 : Int32).toInt = 1 := rfl
  have z2 : (10 : Int32).toInt = 10 := rfl
  obtain ⟨k, hk, e1, e2⟩ := nI_ex (x := z) (n := 11) (by omega) (by omega)
  rw [e2]
  refine ⟨?_, by omega, e1⟩
  rw [← e2, ti_N]
  omega
/-- two names are one -/
def alk (C14 C15 : Nat → Int32) (a b w : Nat) : Prop := C15 (2 * a + w) = C15 (2 * b + w) ∧ ∀ i, i < (C15 (2 * a + w)).toNatClampNeg → C14 (20 * a + 10 * w + i) = C14 (20 * b + 10 * w + i)
theorem alk.symm {C14 C15 : Nat → Int32} {a b w : Nat} (h : alk C14 C15 a b w) : alk C14 C15 b a w := ⟨h.1.symm, fun i hi => (h.2 i (by rw [h.1]; exact hi)).symm⟩
theorem NN.inj {v v' : Int64} {C14 C15 : Nat → Int32} {a b w : Nat} (h : NN v (fun k => C14 (20 * a + 10 * w + k)) (C15 (2 * a + w))) (h' : NN v' (fun k => C14 (20 * b + 10 * w + k)) (C15 (2 * b + w))) : v = v' ↔ alk C14 C15 a b w := by
  have b1 := h.b
  have b2 := h'.b
  constructor
  · intro e
    have e2 : (nm (fun k => C14 (20 * a + 10 * w + k)) (C15 (2 * a + w)).toNatClampNeg).toInt = (nm (fun k => C14 (20 * b + 10 * w + k)) (C15 (2 * b + w)).toNatClampNeg).toInt := by rw [← h.1, ← h'.1, e]
    rw [nm_N _ b1.2.1 h.2.2, nm_N _ b2.2.1 h'.2.2] at e2
    obtain ⟨r1, r2⟩ := nmN_inj _ _ h.2.2 h'.2.2 (by omega)
    refine ⟨?_, r2⟩
    rw [b1.2.2, b2.2.2, r1]
  · intro e
    rw [h.1, h'.1, ← e.1]
    exact nmN_eq _ e.2
section
variable {S : XS} {σ : St} {Q : Int32 → St → Prop}
theorem alkL {a b w s : Nat} (ha : a < 61) (hb : b < 61) (hw : w < 2) (hs : gC σ 15 (2 * a + w) = nI s) (hs2 : s ≤ 10) (H1 : (∀ i, i < s → gC σ 14 (20 * a + 10 * w + i) = gC σ 14 (20 * b + 10 * w + i)) → Q 1 σ) (H0 : ¬ (∀ i, i < s → gC σ 14 (20 * a + 10 * w + i) = gC σ 14 (20 * b + 10 * w + i)) → Q 0 σ) : ∀ d k, s - k = d → k ≤ s → (∀ i, i < k → gC σ 14 (20 * a + 10 * w + i) = gC σ 14 (20 * b + 10 * w + i)) → BW S m_Md_isAlike 33 [some (.ref 153), some (.int (nI a)), some (.int (nI b)), some (.int (nI w)), some (.int 1), some (.int (nI k))] [] (enc σ) (qI Q) := by
  have w0 : ∀ c : Nat, (2 * nI c + nI w) = nI (2 * c + w) := fun c => by
    show nI 2 * nI c + nI w = _
    rw [nI_mul, nI_add]
  have w1 : ∀ c k : Nat, (20 * nI c + 10 * nI w + nI k) = nI (20 * c + 10 * w + k) := fun c k => by
    show nI 20 * nI c + nI 10 * nI w + nI k = _
    rw [nI_mul, nI_mul, nI_add, nI_add]
  have v := vp_in_nI (n := 2 * a + w) (N := 122) (by omega) (by decide)
  intro d
  induction d with
  | zero =>
    intro k hd hk hh
    have : k = s := by omega
    subst this
    refine B_Md_isAlike_33 _ _ _ _ _ _ ?_
    rw [w0, nI_clamp (n := 2 * a + w) (by omega), hs]
    exact ⟨v, bq_t (nI_le (Nat.le_refl _) (by omega)) ⟨lnb _ (Or.inr rfl), H1 hh⟩⟩
  | succ d ih =>
    intro k hd hk hh
    refine B_Md_isAlike_33 _ _ _ _ _ _ ?_
    rw [w0, nI_clamp (n := 2 * a + w) (by omega), hs, w1, w1, nI_clamp (n := 20 * a + 10 * w + k) (by omega), nI_clamp (n := 20 * b + 10 * w + k) (by omega), nI_1]
    refine ⟨v, bq_f (nI_ge (by omega) (by omega)) (bq_f (by decide) ⟨vp_in_nI (by omega) (by decide), vp_in_nI (by omega) (by decide), ?_⟩)⟩
    by_cases y : gC σ 14 (20 * a + 10 * w + k) = gC σ 14 (20 * b + 10 * w + k)
    · refine bq_tn y (ih (k + 1) (by omega) (by omega) (fun i hi => ?_))
      by_cases c : i = k
      · rw [c]; exact y
      · exact hh i (by omega)
    · refine bq_fn y (B_Md_isAlike_33 _ _ _ _ _ _ ?_)
      rw [w0]
      exact ⟨v, bq_s (fun _ => ⟨lnb _ (Or.inl rfl), H0 (fun z => y (z k (by omega)))⟩) (fun _ => bq_t rfl ⟨lnb _ (Or.inl rfl), H0 (fun z => y (z k (by omega)))⟩)⟩
theorem K_alike {a b w s : Nat} (ha : a < 61) (hb : b < 61) (hw : w < 2) (hs : gC σ 15 (2 * a + w) = nI s) (hs2 : s ≤ 10) (H1 : alk (gC σ 14) (gC σ 15) a b w → Q 1 σ) (H0 : ¬ alk (gC σ 14) (gC σ 15) a b w → Q 0 σ) : CM S m_Md_isAlike [.ref 153, .int (nI a), .int (nI b), .int (nI w)] (enc σ) (qI Q) := by
  have w0 : ∀ c : Nat, (2 * nI c + nI w) = nI (2 * c + w) := fun c => by
    show nI 2 * nI c + nI w = _
    rw [nI_mul, nI_add]
  have v := vp_in_nI (n := 2 * a + w) (N := 122) (by omega) (by decide)
  have es : (gC σ 15 (2 * a + w)).toNatClampNeg = s := by rw [hs, nI_clamp (by omega)]
  refine C_Md_isAlike _ _ _ _ (B_Md_isAlike_0 _ _ _ _ ?_)
  rw [w0, w0, nI_clamp (n := 2 * a + w) (by omega), nI_clamp (n := 2 * b + w) (by omega)]
  refine ⟨v, vp_in_nI (by omega) (by decide), ?_⟩
  by_cases y : gC σ 15 (2 * a + w) = gC σ 15 (2 * b + w)
  · refine bq_tn y (alkL ha hb hw hs hs2 (fun z => H1 ⟨y, by rw [es]; exact z⟩) (fun z => H0 (fun q => z (by have := q.2; rw [es] at this; exact this))) s 0 (by omega) (by omega) (fun i hi => absurd hi (by omega)))
  · have N : Q 0 σ := H0 (fun q => y q.1)
    refine bq_fn y (B_Md_isAlike_33 _ _ _ _ _ _ ?_)
    rw [w0]
    exact ⟨v, bq_s (fun _ => ⟨lnb _ (Or.inl rfl), N⟩) (fun _ => bq_t rfl ⟨lnb _ (Or.inl rfl), N⟩)⟩
end
def qlt (kx ky dx dy : Int32) (sl : Bool) : Int32 :=
  if kx = 2 then (if dx = dy then (if sl = true then 0 else 2) else 0) else if kx = ky then (if dx = dy then 0 else 1) else if ky = 1 then (if dx ≤ dy then 0 else 4) else if kx = 0 then (if dx ≤ dy then 0 else 3) else (if dy ≤ dx then 0 else 3)
def qvf (ka kb da db : Int32) (sp sl : Bool) : Int32 := if sp = true then (if ka ≤ kb then qlt ka kb da db sl else qlt kb ka db da sl) else 0
section
variable {S : XS} {σ : St} {Q : Int32 → St → Prop}
theorem K_qlater {q r : Nat} {kx ky dx dy : Int32} {sl : Bool} (hq : isFa σ q) (hr : isFa σ r) (h1 : fI σ q 1 = kx) (h2 : fI σ r 1 = ky) (h3 : fI σ q 3 = dx) (h4 : fI σ r 3 = dy) (hsl : kx = 2 → ky = 2 → (fL σ q 2 = fL σ r 2 ↔ sl = true)) (hk : kx = 2 → ky = 2) (H : Q (qlt kx ky dx dy sl) σ) : CM S m_Fa_quarrelWithLater [.ref q, .ref r] (enc σ) (qI Q) := by
  refine C_Fa_quarrelWithLater _ _ _ (B_Fa_quarrelWithLater_0 _ _ _ ⟨hq, ?_⟩)
  rw [h1, h2, h3, h4]
  unfold qlt at H
  by_cases c1 : kx = 2
  · rw [if_pos c1] at H
    refine bq_tn c1 ⟨hr, ?_⟩
    by_cases c2 : dx = dy
    · rw [if_pos c2] at H
      refine bq_tn c2 ?_
      have hs := hsl c1 (hk c1)
      by_cases c3 : sl = true
      · rw [if_pos c3] at H
        exact bq_t ((lgc_eq _ _).mpr (hs.mpr c3)) H
      · rw [if_neg c3] at H
        exact bq_f (fun z => c3 (hs.mp ((lgc_eq _ _).mp z))) H
    · rw [if_neg c2] at H
      exact bq_fn c2 H
  · rw [if_neg c1] at H
    refine bq_fn c1 ⟨hr, ?_⟩
    by_cases c2 : kx = ky
    · rw [if_pos c2] at H
      refine bq_tn c2 ?_
      by_cases c3 : dx = dy
      · rw [if_pos c3] at H
        exact bq_t c3 H
      · rw [if_neg c3] at H
        exact bq_f c3 H
    · rw [if_neg c2] at H
      refine bq_fn c2 ?_
      by_cases c3 : ky = 1
      · rw [if_pos c3] at H
        refine bq_tn c3 ?_
        by_cases c4 : dx ≤ dy
        · rw [if_pos c4] at H
          exact bq_t c4 H
        · rw [if_neg c4] at H
          exact bq_f c4 H
      · rw [if_neg c3] at H
        refine bq_fn c3 ?_
        by_cases c4 : kx = 0
        · rw [if_pos c4] at H
          refine bq_tn c4 ?_
          by_cases c5 : dx ≤ dy
          · rw [if_pos c5] at H
            exact bq_t c5 (bq_t rfl H)
          · rw [if_neg c5] at H
            exact bq_f c5 (bq_f (by decide) H)
        · rw [if_neg c4] at H
          refine bq_fn c4 ?_
          by_cases c5 : dy ≤ dx
          · rw [if_pos c5] at H
            exact bq_t c5 (bq_t rfl H)
          · rw [if_neg c5] at H
            exact bq_f c5 (bq_f (by decide) H)
theorem K_qwith {q r : Nat} {ka kb da db : Int32} {sp sl : Bool} (hq : isFa σ q) (hr : isFa σ r) (h1 : fI σ q 1 = ka) (h2 : fI σ r 1 = kb) (h3 : fI σ q 3 = da) (h4 : fI σ r 3 = db) (ba : ka ≤ 2) (bb : kb ≤ 2) (hsp : fL σ q 0 = fL σ r 0 ↔ sp = true) (hsl : ka = 2 → kb = 2 → (fL σ q 2 = fL σ r 2 ↔ sl = true)) (H : Q (qvf ka kb da db sp sl) σ) : CM S m_Fa_quarrelWith [.ref q, .ref r] (enc σ) (qI Q) := by
  refine C_Fa_quarrelWith _ _ _ (B_Fa_quarrelWith_0 _ _ _ ⟨hq, hr, ?_⟩)
  rw [h1, h2]
  unfold qvf at H
  by_cases c1 : sp = true
  · rw [if_pos c1] at H
    refine bq_t ((lgc_eq _ _).mpr (hsp.mpr c1)) ?_
    by_cases c2 : ka ≤ kb
    · rw [if_pos c2] at H
      exact bq_t c2 (K_qlater hq hr h1 h2 h3 h4 hsl (fun z => by grind) H)
    · rw [if_neg c2] at H
      exact bq_f c2 (K_qlater hr hq h2 h1 h4 h3 (fun z1 z2 => ⟨fun e => (hsl z2 z1).mp e.symm, fun e => ((hsl z2 z1).mpr e).symm⟩) (fun z => by grind) H)
  · rw [if_neg c1] at H
    exact bq_f (fun z => c1 (hsp.mp ((lgc_eq _ _).mp z))) H
end
