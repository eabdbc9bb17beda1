/-! an operation -/
/-- the latest agreement for a part -/
def agf (C : Nat → Int32) (x : Int32) : Nat → Int32
  | 0 => -1
  | k + 1 => if C k ≤ x then nI k else agf C x k
theorem agf_b {C : Nat → Int32} {x : Int32} : ∀ k, k ≤ 12 → agf C x k = -1 ∨ ∃ a, a < k ∧ agf C x k = nI a := by
  intro k
  induction k with
  | zero => intro _; exact Or.inl rfl
  | succ k ih =>
    intro hk
    show (if C k ≤ x then nI k else agf C x k) = -1 ∨ ∃ a, a < k + 1 ∧ (if C k ≤ x then nI k else agf C x k) = nI a
    by_cases c : C k ≤ x
    · rw [if_pos c]
      exact Or.inr ⟨k, by omega, rfl⟩
    · rw [if_neg c]
      rcases ih (by omega) with h | ⟨a, h1, h2⟩
      · exact Or.inl h
      · exact Or.inr ⟨a, by omega, h2⟩
section
variable {S : XS} {σ : St}
theorem K_numAgF {Q : Option Nat → St → Prop} {x : Int32} (h : x < 0) (H : Q none σ) : CM S m_As_numbered [.ref 139, .int x] (enc σ) (qR Q) := C_As_numbered _ _ (B_As_numbered_0 _ _ (bq_t h H))
theorem K_numAg {Q : Option Nat → St → Prop} {c k : Nat} (hc : gX σ 17 = nI c) (hc2 : c ≤ 12) (hk : k < c) (H : Q (gG σ k) σ) : CM S m_As_numbered [.ref 139, .int (nI k)] (enc σ) (qR Q) := by
  refine C_As_numbered _ _ (B_As_numbered_0 _ _ (bq_f (nI_pos (by omega)) ?_))
  rw [hc]
  refine bq_t (nI_lt hk (by omega)) ⟨vp_in_nI (by omega) (by decide), ?_⟩
  rw [nI_clamp (by omega)]
  exact H
theorem latest {Q : Int32 → St → Prop} {x : Int32} {c : Nat} (h5 : R5 σ) (hc : gX σ 17 = nI c) (hc2 : c ≤ 12) (H : Q (agf (gC σ 26) x c) σ) : ∀ d k, k = d → k ≤ c → agf (gC σ 26) x k = agf (gC σ 26) x c → BW S m_As_latestFor 7 [some (.ref 139), some (.int x), some (.int (nI k - 1)), none] [] (enc σ) (qI Q) := by
  intro d
  induction d with
  | zero =>
    intro k hd hk he
    subst hd
    rw [← he] at H
    exact B_As_latestFor_7 _ _ _ (bq_t (by decide) H)
  | succ d ih =>
    intro k hd hk he
    subst hd
    rw [nI_pred]
    refine B_As_latestFor_7 _ _ _ (bq_f (nI_pos (by omega)) (K_numAg hc hc2 (by omega) ?_))
    have e13 : (gX σ 17).toNatClampNeg = c := by rw [hc, nI_clamp (by omega)]
    obtain ⟨q, hq1, hq2, hq3, hq4⟩ := h5.2.2 d (by rw [e13]; omega)
    have f4 : fI σ q 4 = gC σ 26 d := hq4.2.2.2.2.1
    refine ⟨fun z => absurd (hq1.symm.trans z) (by simp), fun q3 z => ?_⟩
    obtain rfl : q = q3 := Option.some.inj (hq1.symm.trans z)
    refine ⟨hq3.1, ?_⟩
    rw [f4]
    have e2 : agf (gC σ 26) x (d + 1) = if gC σ 26 d ≤ x then nI d else agf (gC σ 26) x d := rfl
    rw [e2] at he
    by_cases k2 : gC σ 26 d ≤ x
    · rw [if_pos k2] at he
      rw [← he] at H
      exact bq_f (Int32.not_lt.mpr k2) H
    · rw [if_neg k2] at he
      refine bq_t (Int32.not_le.mp k2) ?_
      have e3 : nI d + -1 = nI d - 1 := (Int32.sub_eq_add_neg _ _).symm
      rw [e3]
      exact ih d rfl (by omega) he
theorem K_latest {Q : Int32 → St → Prop} {x : Int32} {c : Nat} (h5 : R5 σ) (hc : gX σ 17 = nI c) (hc2 : c ≤ 12) (H : Q (agf (gC σ 26) x c) σ) : CM S m_As_latestFor [.ref 139, .int x] (enc σ) (qI Q) := by
  refine C_As_latestFor _ _ (B_As_latestFor_0 _ _ ?_)
  rw [hc]
  exact latest h5 hc hc2 H c c rfl (Nat.le_refl _) rfl
theorem magreed {Q : Int32 → St → Prop} {x : Int32} {c : Nat} (hx : 0 ≤ x ∧ x < 24) (hc : gY σ 13 = nI c) (hc2 : c ≤ 12) (H : Q (agf (gC σ 26) x c) σ) : ∀ d k, c - k = d → k ≤ c → BW S m_Md_agreed 4 [some (.ref 153), some (.int x), some (.int (agf (gC σ 26) x k)), some (.int (nI k))] [] (enc σ) (qI Q) := by
  intro d
  induction d with
  | zero =>
    intro k hd hk
    have : k = c := by omega
    subst this
    refine B_Md_agreed_4 _ _ _ _ ?_
    rw [hc]
    exact bq_t (nI_le (Nat.le_refl _) (by omega)) H
  | succ d ih =>
    intro k hd hk
    refine B_Md_agreed_4 _ _ _ _ ?_
    rw [hc]
    have q := ih (k + 1) (by omega) (by omega)
    have e2 : agf (gC σ 26) x (k + 1) = if gC σ 26 k ≤ x then nI k else agf (gC σ 26) x k := rfl
    rw [e2] at q
    refine bq_f (nI_ge (by omega) (by omega)) (K_misPartT hx (bq_f (by decide) ⟨vp_in_nI (by omega) (by decide), ?_⟩))
    rw [nI_clamp (by omega), nI_1]
    by_cases k2 : gC σ 26 k ≤ x
    · rw [if_pos k2] at q
      exact bq_f (Int32.not_lt.mpr k2) q
    · rw [if_neg k2] at q
      exact bq_t (Int32.not_le.mp k2) q
theorem K_magreed {Q : Int32 → St → Prop} {x : Int32} {c : Nat} (hx : 0 ≤ x ∧ x < 24) (hc : gY σ 13 = nI c) (hc2 : c ≤ 12) (H : Q (agf (gC σ 26) x c) σ) : CM S m_Md_agreed [.ref 153, .int x] (enc σ) (qI Q) :=
  C_Md_agreed _ _ (B_Md_agreed_0 _ _ (magreed hx hc hc2 H c 0 (by omega) (by omega)))
theorem K_magreedF {Q : Int32 → St → Prop} {x : Int32} (hx : ¬ (0 ≤ x ∧ x < 24)) (H : Q (-1) σ) : CM S m_Md_agreed [.ref 153, .int x] (enc σ) (qI Q) :=
  C_Md_agreed _ _ (B_Md_agreed_0 _ _ (B_Md_agreed_4 _ _ _ _ (bq_s (fun _ => H) (fun _ => K_misPartF hx (bq_t rfl H)))))
end
theorem R5.cnt {σ : St} (h : R5 σ) : ∃ c, c ≤ 12 ∧ gX σ 17 = nI c ∧ gY σ 13 = nI c ∧ (gX σ 17).toNatClampNeg = c := by
  have t1 := ti_nonneg h.1.2.1
  have t2 := Int32.le_iff_toInt_le.mp h.1.2.2
  have z : (12 : Int32).toInt = 12 := rfl
  obtain ⟨c, hc, e, e2⟩ := nI_ex (x := gX σ 17) (n := 13) t1 (by omega)
  exact ⟨c, by omega, e, by rw [← h.1.1, e], e2⟩
set_option maxHeartbeats 2000000 in
theorem op_agreed {S : XS} {n : Nat} {σ : St} (h : RR n σ) (x : Int32) : OPI S n σ m_TH_agreed m_Md_agreed [.int x] := by
  obtain ⟨r0, r1, r2, r3, r4, r5, r6, r7, r8⟩ := h
  unfold OPI
  obtain ⟨c, hc, e1, e2, -⟩ := r5.cnt
  by_cases k : 0 ≤ x ∧ x < 24
  · exact C_TH_agreed _ _ (B_TH_agreed_0 _ _ (K_isPartT k (bq_f (by decide) (K_latest r5 e1 hc (K_magreed k e2 hc ⟨rfl, ⟨r0, r1, r2, r3, r4, r5, r6.succ, r7, r8.succ⟩⟩)))))
  · exact C_TH_agreed _ _ (B_TH_agreed_0 _ _ (K_isPartF k (bq_t rfl (K_magreedF k ⟨rfl, ⟨r0, r1, r2, r3, r4, r5, r6.succ, r7, r8.succ⟩⟩))))
