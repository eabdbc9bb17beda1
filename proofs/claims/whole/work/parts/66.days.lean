/-! DAYS. -/
def db (A : Nat → Int32) (c k : Nat) (d : Int32) : Int32 := if k < c then (if d < A k then A k - d else 0) else 0
def dd (A : Nat → Int32) (c : Nat) (s : Int32) : Nat → Int32
  | 0 => s
  | k + 1 => dd A c s k + (30 + 30 * ((db A c k (dd A c s k) + 29) / 30))
def BD (A : Nat → Int32) (c : Nat) (s : Int32) : Prop := c ≤ 24 ∧ (0 ≤ s.toInt ∧ s.toInt ≤ 20000) ∧ ∀ k, k < c → 0 ≤ (A k).toInt ∧ (A k).toInt ≤ 30000
def DC (σ : St) (A : Nat → Int32) (c : Nat) (s : Int32) : Prop := gA σ 10 = A ∧ gX σ 13 = nI c ∧ gX σ 14 = s
def DM (σ : St) (A : Nat → Int32) (c : Nat) (s : Int32) : Prop := gY σ 14 = s ∧ ∀ p, p < 24 → gC σ 27 p = if p < c then A p else -1
theorem ti_div30 {x : Int32} (h : 0 ≤ x.toInt) : (x / 30).toInt = x.toInt / 30 := by
  have h2 := Int32.toInt_lt x
  have z : (30 : Int32).toInt = 30 := rfl
  rw [Int32.toInt_div, z, Int.tdiv_eq_ediv_of_nonneg h]
  exact Int.bmod_eq_of_le (by omega) (by omega)
theorem subpos {a d : Int32} (ha : 0 ≤ a.toInt ∧ a.toInt ≤ 30000) (hd : 0 ≤ d.toInt ∧ d.toInt ≤ 1000000) : (0 < a - d) ↔ d < a := by
  have t := ti_sub (x := a) (y := d) (by omega) (by omega)
  have z : (0 : Int32).toInt = 0 := rfl
  rw [Int32.lt_iff_toInt_lt, Int32.lt_iff_toInt_lt, t, z]
  omega
theorem p29 (b : Int32) : b + 30 - 1 = b + 29 := by
  rw [Int32.sub_eq_add_neg, Int32.add_assoc]
  rfl
theorem db_b {A : Nat → Int32} {c k : Nat} {s d : Int32} (h : BD A c s) (hd : 0 ≤ d.toInt ∧ d.toInt ≤ 1000000) : 0 ≤ (db A c k d).toInt ∧ (db A c k d).toInt ≤ 30000 := by
  have z : (0 : Int32).toInt = 0 := rfl
  unfold db
  by_cases h1 : k < c
  · rw [if_pos h1]
    have b := h.2.2 k h1
    by_cases h2 : d < A k
    · rw [if_pos h2]
      have h3 := Int32.lt_iff_toInt_lt.mp h2
      rw [ti_sub (by omega) (by omega)]
      omega
    · rw [if_neg h2, z]
      omega
  · rw [if_neg h1, z]
    omega
theorem dd_b {A : Nat → Int32} {c : Nat} {s : Int32} (h : BD A c s) : ∀ k, k ≤ 24 → 0 ≤ (dd A c s k).toInt ∧ (dd A c s k).toInt ≤ 20000 + 30060 * k := by
  intro k
  induction k with
  | zero => intro _; have := h.2.1; exact ⟨this.1, by show s.toInt ≤ _; omega⟩
  | succ k ih =>
    intro hk
    have i := ih (by omega)
    have b := db_b (k := k) h (d := dd A c s k) ⟨i.1, by omega⟩
    have z29 : (29 : Int32).toInt = 29 := rfl
    have z30 : (30 : Int32).toInt = 30 := rfl
    have t1 := ti_add (x := db A c k (dd A c s k)) (y := 29) (by omega) (by omega)
    rw [z29] at t1
    have t2 := ti_div30 (x := db A c k (dd A c s k) + 29) (by omega)
    have t3 := ti_mul (x := 30) (y := (db A c k (dd A c s k) + 29) / 30) (by rw [z30, t2, t1]; omega) (by rw [z30, t2, t1]; omega)
    rw [z30] at t3
    have t4 := ti_add (x := 30) (y := 30 * ((db A c k (dd A c s k) + 29) / 30)) (by rw [z30, t3, t2, t1]; omega) (by rw [z30, t3, t2, t1]; omega)
    rw [z30] at t4
    have t5 := ti_add (x := dd A c s k) (y := 30 + 30 * ((db A c k (dd A c s k) + 29) / 30)) (by rw [t4, t3, t2, t1]; omega) (by rw [t4, t3, t2, t1]; omega)
    show 0 ≤ (dd A c s k + (30 + 30 * ((db A c k (dd A c s k) + 29) / 30))).toInt ∧ (dd A c s k + (30 + 30 * ((db A c k (dd A c s k) + 29) / 30))).toInt ≤ _
    rw [t5, t4, t3, t2, t1]
    omega
section
variable {S : XS} {Q : Int32 → St → Prop} {σ : St} {A : Nat → Int32} {c : Nat} {s : Int32}
theorem K_behind (hB : BD A c s) (hC : DC σ A c s) {k : Nat} (hk : k < 24) {d : Int32} (hd : 0 ≤ d.toInt ∧ d.toInt ≤ 1000000) (H : Q (db A c k d) σ) : CM S m_Pa_daysBehind [.ref 131, .int (nI k), .int d] (enc σ) (qI Q) := by
  obtain ⟨h1, h2, h3⟩ := hC
  have hB1 := hB.1
  have p1 : 0 ≤ nI k ∧ nI k < 24 := ⟨nI_pos' (by omega), nI_lt (b := 24) hk (by decide)⟩
  refine C_Pa_daysBehind _ _ _ (B_Pa_daysBehind_0 _ _ _ ?_)
  unfold db at H
  by_cases c1 : k < c
  · rw [if_pos c1] at H
    refine K_hasComeT p1 (by rw [h2]; exact nI_ge c1 (by omega)) (bq_f (by decide) ⟨vp_24 p1.1 p1.2, ?_⟩)
    rw [h1, nI_clamp (by omega)]
    have b := hB.2.2 k c1
    by_cases c2 : d < A k
    · rw [if_pos c2] at H
      rw [if_pos ((subpos b hd).mpr c2)]
      exact H
    · rw [if_neg c2] at H
      rw [if_neg (fun q => c2 ((subpos b hd).mp q))]
      exact H
  · rw [if_neg c1] at H
    exact K_hasComeF p1 (by rw [h2]; exact nI_le (by omega) (by omega)) (bq_t rfl H)
theorem dueC (hB : BD A c s) (hC : DC σ A c s) {p : Nat} (hp : p ≤ 24) (H : Q (dd A c s p) σ) : ∀ d k, p - k = d → k ≤ p → BW S m_Pa_dueDay 7 [some (.ref 131), some (.int (nI p)), some (.int (dd A c s k)), some (.int (nI k)), none] [] (enc σ) (qI Q) := by
  intro d
  induction d with
  | zero =>
    intro k hd hk
    have : k = p := by omega
    subst this
    exact B_Pa_dueDay_7 _ _ _ _ (bq_t (nI_le (Nat.le_refl _) (by omega)) H)
  | succ d ih =>
    intro k hd hk
    have hlt : k < p := by omega
    refine B_Pa_dueDay_7 _ _ _ _ (bq_f (nI_ge hlt (by omega)) (bq_f (nI_ge (b := 24) (by omega) (by decide)) ?_))
    have b := dd_b hB k (by omega)
    refine K_behind hB hC (by omega) ⟨b.1, by omega⟩ ?_
    rw [p29, nI_1]
    exact ih (k + 1) (by omega) (by omega)
theorem K_due (hB : BD A c s) (hC : DC σ A c s) {p : Nat} (hp : p ≤ 24) (H : Q (dd A c s p) σ) : CM S m_Pa_dueDay [.ref 131, .int (nI p)] (enc σ) (qI Q) := by
  refine C_Pa_dueDay _ _ (B_Pa_dueDay_0 _ _ ?_)
  have q := dueC (S := S) hB hC hp H p 0 (by omega) (by omega)
  rw [hC.2.2]
  exact q
theorem K_daysLate (hB : BD A c s) (hC : DC σ A c s) {p : Nat} (hp : p < 24) (H : Q (db A c p (dd A c s p)) σ) : CM S m_Pa_daysLate [.ref 131, .int (nI p)] (enc σ) (qI Q) := by
  have b := dd_b hB p (by omega)
  exact C_Pa_daysLate _ _ (B_Pa_daysLate_0 _ _ (K_due hB hC (by omega) (K_behind hB hC hp ⟨b.1, by omega⟩ H)))
theorem dueR (hB : BD A c s) (hM : DM σ A c s) {p : Nat} (hp : p ≤ 24) (H : Q (dd A c s p) σ) : ∀ d k, p - k = d → k ≤ p → BW S m_Md_due 16 [some (.ref 153), some (.int (nI p)), some (.int (dd A c s k)), some (.int (nI k)), none] [] (enc σ) (qI Q) := by
  intro d
  induction d with
  | zero =>
    intro k hd hk
    have : k = p := by omega
    subst this
    exact B_Md_due_16 _ _ _ _ (bq_t (nI_le (Nat.le_refl _) (by omega)) H)
  | succ d ih =>
    intro k hd hk
    have hlt : k < p := by omega
    have q := ih (k + 1) (by omega) (by omega)
    have e : dd A c s (k + 1) = dd A c s k + (30 + 30 * ((db A c k (dd A c s k) + 29) / 30)) := rfl
    rw [e] at q
    unfold db at q
    refine B_Md_due_16 _ _ _ _ (bq_f (nI_ge hlt (by omega)) ⟨vp_in_nI (by omega) (by decide), ?_⟩)
    rw [nI_clamp (by omega), nI_1, hM.2 k (by omega)]
    by_cases c1 : k < c
    · rw [if_pos c1] at q ⊢
      have b := hB.2.2 k c1
      have ne : ¬ A k = -1 := by
        intro z
        rw [z] at b
        exact absurd b.1 (by decide)
      refine bq_f ne ?_
      by_cases c2 : dd A c s k < A k
      · rw [if_pos c2] at q
        exact bq_t c2 q
      · rw [if_neg c2] at q
        exact bq_f c2 q
    · rw [if_neg c1] at q ⊢
      exact bq_t rfl q
theorem K_mdue (hB : BD A c s) (hM : DM σ A c s) {p : Nat} (hp : p < 24) (H : Q (dd A c s p) σ) : CM S m_Md_due [.ref 153, .int (nI p)] (enc σ) (qI Q) := by
  refine C_Md_due _ _ (B_Md_due_0 _ _ (K_misPartT ⟨nI_pos' (by omega), nI_lt (b := 24) hp (by decide)⟩ (bq_fn (by decide) ?_)))
  have q := dueR (S := S) hB hM (Nat.le_of_lt hp) H p 0 (by omega) (by omega)
  rw [hM.1]
  exact q
theorem K_lateDays (hB : BD A c s) (hM : DM σ A c s) {p : Nat} (hp : p < 24) (H : Q (db A c p (dd A c s p)) σ) : CM S m_Md_lateDays [.ref 153, .int (nI p)] (enc σ) (qI Q) := by
  have v := vp_in_nI (n := p) (N := 24) hp (by decide)
  refine C_Md_lateDays _ _ (B_Md_lateDays_0 _ _ ⟨v, ?_⟩)
  rw [nI_clamp (by omega), hM.2 p hp]
  unfold db at H
  by_cases c1 : p < c
  · rw [if_pos c1] at H ⊢
    have b := hB.2.2 p c1
    have ne : ¬ A p = -1 := by
      intro z
      rw [z] at b
      exact absurd b.1 (by decide)
    refine bq_f ne (K_mdue hB hM hp ?_)
    by_cases c2 : dd A c s p < A p
    · rw [if_pos c2] at H
      refine bq_t c2 ⟨v, K_mdue hB hM hp ?_⟩
      have e : gC σ 27 p = A p := by rw [hM.2 p hp, if_pos c1]
      rw [e]
      exact H
    · rw [if_neg c2] at H
      exact bq_f c2 H
  · rw [if_neg c1] at H ⊢
    exact bq_t rfl H
end
theorem R3.days {σ : St} (h : R3 σ) : BD (gA σ 10) (gX σ 13).toNatClampNeg (gX σ 14) ∧ DC σ (gA σ 10) (gX σ 13).toNatClampNeg (gX σ 14) ∧ DM σ (gA σ 10) (gX σ 13).toNatClampNeg (gX σ 14) := by
  obtain ⟨h1, h2, h3, h4, h5, h6⟩ := h
  have t1 := ti_nonneg h3.1
  have t2 := Int32.le_iff_toInt_le.mp h3.2
  have t3 := ti_nonneg h5.1
  have t4 := Int32.le_iff_toInt_le.mp h5.2
  have z1 : (24 : Int32).toInt = 24 := rfl
  have z2 : (20000 : Int32).toInt = 20000 := rfl
  have z3 : (30000 : Int32).toInt = 30000 := rfl
  have hN : (gX σ 13).toNatClampNeg ≤ 24 := by rw [ti_N]; omega
  refine ⟨⟨hN, by omega, fun k hk => ?_⟩, ⟨rfl, ?_, rfl⟩, h4.symm, fun p hp => ?_⟩
  · have b := (h6 k (by omega)).1 hk
    have u1 := ti_nonneg b.2.1
    have u2 := Int32.le_iff_toInt_le.mp b.2.2
    omega
  · obtain ⟨k, hk, e1, e2⟩ := nI_ex (x := gX σ 13) (n := 25) t1 (by omega)
    rw [e2]
    exact e1
  · by_cases c1 : p < (gX σ 13).toNatClampNeg
    · rw [if_pos c1]
      exact ((h6 p hp).1 c1).1
    · rw [if_neg c1]
      exact (h6 p hp).2 (by omega)
