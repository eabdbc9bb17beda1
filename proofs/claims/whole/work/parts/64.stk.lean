/-! STOCKS: rules and lemmas. -/
def HE (A : Nat → Int32) (p e : Int32) : Prop := (0 ≤ p ∧ p < 24) ∧ 0 ≤ e ∧ e ≤ A p.toNatClampNeg
section
variable {S : XS} {Q : Int32 → St → Prop}
theorem K_isPartT {σ : St} {x : Int32} (h : 0 ≤ x ∧ x < 24) (H : Q 1 σ) : CM S m_TH_isPart [.int x] (enc σ) (qI Q) :=
  C_TH_isPart _ _ (B_TH_isPart_0 _ _ (bq_f (Int32.not_lt.mpr h.1) (bq_f (Int32.not_le.mpr h.2) H)))
theorem K_isPartF {σ : St} {x : Int32} (h : ¬ (0 ≤ x ∧ x < 24)) (H : Q 0 σ) : CM S m_TH_isPart [.int x] (enc σ) (qI Q) :=
  C_TH_isPart _ _ (B_TH_isPart_0 _ _ (bq_s (fun _ => H) (fun a => bq_s (fun _ => H) (fun b => absurd ⟨Int32.not_lt.mp a, Int32.not_le.mp b⟩ h))))
theorem K_misPartT {σ : St} {x : Int32} (h : 0 ≤ x ∧ x < 24) (H : Q 1 σ) : CM S m_Md_isPart [.int x] (enc σ) (qI Q) :=
  C_Md_isPart _ _ (B_Md_isPart_0 _ _ (bq_f (Int32.not_lt.mpr h.1) (bq_f (Int32.not_le.mpr h.2) H)))
theorem K_misPartF {σ : St} {x : Int32} (h : ¬ (0 ≤ x ∧ x < 24)) (H : Q 0 σ) : CM S m_Md_isPart [.int x] (enc σ) (qI Q) :=
  C_Md_isPart _ _ (B_Md_isPart_0 _ _ (bq_s (fun _ => H) (fun a => bq_s (fun _ => H) (fun b => absurd ⟨Int32.not_lt.mp a, Int32.not_le.mp b⟩ h))))
theorem K_isT {σ : St} {x a b : Int32} (h : a ≤ x ∧ x ≤ b) (H : Q 1 σ) : CM S m_Md_is [.int x, .int a, .int b] (enc σ) (qI Q) :=
  C_Md_is _ _ _ _ (B_Md_is_0 _ _ _ _ (bq_f (Int32.not_lt.mpr h.1) (bq_f (Int32.not_lt.mpr h.2) H)))
theorem K_isF {σ : St} {x a b : Int32} (h : ¬ (a ≤ x ∧ x ≤ b)) (H : Q 0 σ) : CM S m_Md_is [.int x, .int a, .int b] (enc σ) (qI Q) :=
  C_Md_is _ _ _ _ (B_Md_is_0 _ _ _ _ (bq_s (fun _ => H) (fun a => bq_s (fun _ => H) (fun b => absurd ⟨Int32.not_lt.mp a, Int32.not_lt.mp b⟩ h))))
theorem K_haveT {σ : St} {p e : Int32} (h : HE (gA σ 9) p e) (H : Q 1 σ) : CM S m_Pa_haveEdition [.ref 131, .int p, .int e] (enc σ) (qI Q) :=
  C_Pa_haveEdition _ _ _ (B_Pa_haveEdition_0 _ _ _ (K_isPartT h.1 (bq_f (by decide) (bq_f (Int32.not_lt.mpr h.2.1) ⟨vp_24 h.1.1 h.1.2, bq_f (Int32.not_lt.mpr h.2.2) H⟩))))
theorem K_haveF {σ : St} {p e : Int32} (h : ¬ HE (gA σ 9) p e) (H : Q 0 σ) : CM S m_Pa_haveEdition [.ref 131, .int p, .int e] (enc σ) (qI Q) := by
  refine C_Pa_haveEdition _ _ _ (B_Pa_haveEdition_0 _ _ _ ?_)
  by_cases c : 0 ≤ p ∧ p < 24
  · refine K_isPartT c (bq_f (by decide) (bq_s (fun _ => H) (fun a => ⟨vp_24 c.1 c.2, bq_s (fun _ => H) (fun b => absurd ⟨c, Int32.not_lt.mp a, Int32.not_lt.mp b⟩ h)⟩)))
  · exact K_isPartF c (bq_t rfl H)
theorem K_isEdT {σ : St} {p e : Int32} (h : HE (gC σ 21) p e) (H : Q 1 σ) : CM S m_Md_isEdition [.ref 153, .int p, .int e] (enc σ) (qI Q) :=
  C_Md_isEdition _ _ _ (B_Md_isEdition_0 _ _ _ (K_misPartT h.1 (bq_f (by decide) (bq_f (Int32.not_lt.mpr h.2.1) ⟨vp_24 h.1.1 h.1.2, bq_f (Int32.not_lt.mpr h.2.2) H⟩))))
theorem K_isEdF {σ : St} {p e : Int32} (h : ¬ HE (gC σ 21) p e) (H : Q 0 σ) : CM S m_Md_isEdition [.ref 153, .int p, .int e] (enc σ) (qI Q) := by
  refine C_Md_isEdition _ _ _ (B_Md_isEdition_0 _ _ _ ?_)
  by_cases c : 0 ≤ p ∧ p < 24
  · refine K_misPartT c (bq_f (by decide) (bq_s (fun _ => H) (fun a => ⟨vp_24 c.1 c.2, bq_s (fun _ => H) (fun b => absurd ⟨c, Int32.not_lt.mp a, Int32.not_lt.mp b⟩ h)⟩)))
  · exact K_misPartF c (bq_t rfl H)
theorem K_isSlot {σ : St} {s : Int32} (h : vp_in s 96) (H : Q 1 σ) : CM S m_Sh_isSlot [.int s] (enc σ) (qI Q) := by
  obtain ⟨a, b⟩ := vp_in_iff.mp h
  refine C_Sh_isSlot _ _ (B_Sh_isSlot_0 _ _ (bq_f (fun q => ?_) (bq_f (fun q => ?_) H)))
  · have := Int32.lt_iff_toInt_lt.mp q
    have z : (0 : Int32).toInt = 0 := rfl
    omega
  · have := Int32.le_iff_toInt_le.mp q
    have z : (96 : Int32).toInt = 96 := rfl
    omega
theorem K_left {σ : St} {s : Int32} (h : vp_in s 96) (H : Q (((gA σ 13 s.toNatClampNeg - gA σ 14 s.toNatClampNeg) - gA σ 15 s.toNatClampNeg) - gA σ 16 s.toNatClampNeg) σ) : CM S m_Sh_left [.ref 144, .int s] (enc σ) (qI Q) :=
  C_Sh_left _ _ (B_Sh_left_0 _ _ (K_isSlot h (bq_f (by decide) ⟨h, H⟩)))
theorem K_row {σ : St} {p e : Int32} (H : Q (20 * p + 5 * e) σ) : CM S m_Md_row [.int p, .int e] (enc σ) (qI Q) := C_Md_row _ _ _ (B_Md_row_0 _ _ _ H)
theorem K_slot {σ : St} {p e : Int32} (H : Q (p * 4 + e) σ) : CM S m_TH_slot [.int p, .int e] (enc σ) (qI Q) := C_TH_slot _ _ _ (B_TH_slot_0 _ _ _ H)
theorem K_stays {σ : St} {p e : Int32} (h0 : vp_in (20 * p + 5 * e) 480) (h1 : vp_in (20 * p + 5 * e + 1) 480) (h2 : vp_in (20 * p + 5 * e + 2) 480) (h3 : vp_in (20 * p + 5 * e + 3) 480) (H : Q (((gC σ 28 (20 * p + 5 * e).toNatClampNeg - gC σ 28 (20 * p + 5 * e + 1).toNatClampNeg) - gC σ 28 (20 * p + 5 * e + 2).toNatClampNeg) - gC σ 28 (20 * p + 5 * e + 3).toNatClampNeg) σ) : CM S m_Md_stays [.ref 153, .int p, .int e] (enc σ) (qI Q) :=
  C_Md_stays _ _ _ (B_Md_stays_0 _ _ _ (K_row ⟨h0, h1, h2, h3, H⟩))
end
/-- where an edition's numbers stand -/
def SLF (σ : St) (p e : Int32) (i j : Nat) : Prop :=
  (i < 24 ∧ j < 4 ∧ (p * 4 + e).toNatClampNeg = 4 * i + j ∧ (20 * p + 5 * e).toNatClampNeg = 20 * i + 5 * j ∧ (20 * p + 5 * e + 1).toNatClampNeg = 20 * i + 5 * j + 1 ∧ (20 * p + 5 * e + 2).toNatClampNeg = 20 * i + 5 * j + 2 ∧ (20 * p + 5 * e + 3).toNatClampNeg = 20 * i + 5 * j + 3 ∧ (20 * p + 5 * e + 4).toNatClampNeg = 20 * i + 5 * j + 4) ∧
  (vp_in (p * 4 + e) 96 ∧ vp_in (20 * p + 5 * e) 480 ∧ vp_in (20 * p + 5 * e + 1) 480 ∧ vp_in (20 * p + 5 * e + 2) 480 ∧ vp_in (20 * p + 5 * e + 3) 480 ∧ vp_in (20 * p + 5 * e + 4) 480) ∧ (p = nI i ∧ e = nI j)
theorem SLF.of {σ : St} {p e : Int32} (hp : 0 ≤ p ∧ p < 24) (he : 0 ≤ e ∧ e ≤ 3) : ∃ i j, SLF σ p e i j := by
  have t1 := ti_nonneg hp.1
  have t2 := Int32.lt_iff_toInt_lt.mp hp.2
  have t3 := ti_nonneg he.1
  have t4 := Int32.le_iff_toInt_le.mp he.2
  have z1 : (24 : Int32).toInt = 24 := rfl
  have z2 : (3 : Int32).toInt = 3 := rfl
  obtain ⟨i, hi, rfl, -⟩ := nI_ex (n := 24) t1 (by omega)
  obtain ⟨j, hj, rfl, -⟩ := nI_ex (n := 4) t3 (by omega)
  have e1 : nI i * 4 + nI j = nI (4 * i + j) := by
    show nI i * nI 4 + nI j = _
    rw [nI_mul, nI_add, Nat.mul_comm]
  have e2 : 20 * nI i + 5 * nI j = nI (20 * i + 5 * j) := by
    show nI 20 * nI i + nI 5 * nI j = _
    rw [nI_mul, nI_mul, nI_add]
  have e3 : ∀ k : Nat, nI (20 * i + 5 * j) + nI k = nI (20 * i + 5 * j + k) := fun k => nI_add _ _
  refine ⟨i, j, ⟨hi, hj, ?_, ?_, ?_, ?_, ?_, ?_⟩, ⟨?_, ?_, ?_, ?_, ?_, ?_⟩, rfl, rfl⟩
  · rw [e1, nI_clamp (by omega)]
  · rw [e2, nI_clamp (by omega)]
  · rw [e2]
    show (nI _ + nI 1).toNatClampNeg = _
    rw [e3, nI_clamp (by omega)]
  · rw [e2]
    show (nI _ + nI 2).toNatClampNeg = _
    rw [e3, nI_clamp (by omega)]
  · rw [e2]
    show (nI _ + nI 3).toNatClampNeg = _
    rw [e3, nI_clamp (by omega)]
  · rw [e2]
    show (nI _ + nI 4).toNatClampNeg = _
    rw [e3, nI_clamp (by omega)]
  · rw [e1]
    exact vp_in_nI (by omega) (by decide)
  · rw [e2]
    exact vp_in_nI (by omega) (by decide)
  · rw [e2]
    show vp_in (nI _ + nI 1) 480
    rw [e3]
    exact vp_in_nI (by omega) (by decide)
  · rw [e2]
    show vp_in (nI _ + nI 2) 480
    rw [e3]
    exact vp_in_nI (by omega) (by decide)
  · rw [e2]
    show vp_in (nI _ + nI 3) 480
    rw [e3]
    exact vp_in_nI (by omega) (by decide)
  · rw [e2]
    show vp_in (nI _ + nI 4) 480
    rw [e3]
    exact vp_in_nI (by omega) (by decide)
theorem HE.slf {σ : St} {p e : Int32} (h3 : R3 σ) (h : HE (gA σ 9) p e) : ∃ i j, SLF σ p e i j := by
  have b := h3.2.1 p.toNatClampNeg (vp_lt (vp_24 h.1.1 h.1.2))
  exact SLF.of h.1 ⟨h.2.1, Int32.le_trans h.2.2 b.2⟩
section
variable {n : Nat} {x18 x19 x20 x21 y15 y16 y17 y18 : Int32} {P Q P1 Q1 : Int64} {A13 A14 A15 A16 A17 C28 : Nat → Int32}
theorem M6.u0 (h : M6 n x18 x19 x20 x21 y15 y16 y17 y18 P Q A13 A14 A15 A16 A17 C28) {p e : Nat} {v : Int32} (hp : p < 24) (he : e < 4) (hPQ : P1 = Q1) (hb : (A17 (4 * p + e) = 0 ∨ A17 (4 * p + e) = 1) ∧ 0 ≤ (A14 (4 * p + e)).toInt ∧ 0 ≤ (A15 (4 * p + e)).toInt ∧ 0 ≤ (A16 (4 * p + e)).toInt ∧ (A14 (4 * p + e)).toInt + (A15 (4 * p + e)).toInt + (A16 (4 * p + e)).toInt ≤ (v).toInt ∧ (v).toInt ≤ 100000 * (n + 1 : Nat)) : M6 (n + 1) x18 x19 x20 x21 y15 y16 y17 y18 P1 Q1 (upd A13 (4 * p + e) v) A14 A15 A16 A17 (upd C28 (20 * p + 5 * e) v) := by
  obtain ⟨h1, h2, h3, h4, h5, h6, h7⟩ := h.succ
  refine ⟨h1, h2, h3, h4, hPQ, fun p' e' hp' he' => ?_, fun s hs => ?_⟩
  · obtain ⟨g0, g1, g2, g3, g4⟩ := h6 p' e' hp' he'
    unfold upd
    by_cases c : p' = p ∧ e' = e
    · obtain ⟨rfl, rfl⟩ := c
      rw [if_neg (show ¬ 20 * p' + 5 * e' + 1 = 20 * p' + 5 * e' by omega), if_neg (show ¬ 20 * p' + 5 * e' + 2 = 20 * p' + 5 * e' by omega), if_neg (show ¬ 20 * p' + 5 * e' + 3 = 20 * p' + 5 * e' by omega), if_neg (show ¬ 20 * p' + 5 * e' + 4 = 20 * p' + 5 * e' by omega), if_pos rfl, if_pos rfl]
      exact ⟨rfl, g1, g2, g3, g4⟩
    · rw [if_neg (show ¬ 20 * p' + 5 * e' = 20 * p + 5 * e by omega), if_neg (show ¬ 20 * p' + 5 * e' + 1 = 20 * p + 5 * e by omega), if_neg (show ¬ 20 * p' + 5 * e' + 2 = 20 * p + 5 * e by omega), if_neg (show ¬ 20 * p' + 5 * e' + 3 = 20 * p + 5 * e by omega), if_neg (show ¬ 20 * p' + 5 * e' + 4 = 20 * p + 5 * e by omega), if_neg (show ¬ 4 * p' + e' = 4 * p + e by omega)]
      exact ⟨g0, g1, g2, g3, g4⟩
  · unfold upd
    by_cases c : s = 4 * p + e
    · subst c
      rw [if_pos rfl]
      exact hb
    · rw [if_neg c]
      exact h7 s hs
theorem M6.u1 (h : M6 n x18 x19 x20 x21 y15 y16 y17 y18 P Q A13 A14 A15 A16 A17 C28) {p e : Nat} {v : Int32} (hp : p < 24) (he : e < 4) (hPQ : P1 = Q1) (hb : (A17 (4 * p + e) = 0 ∨ A17 (4 * p + e) = 1) ∧ 0 ≤ (v).toInt ∧ 0 ≤ (A15 (4 * p + e)).toInt ∧ 0 ≤ (A16 (4 * p + e)).toInt ∧ (v).toInt + (A15 (4 * p + e)).toInt + (A16 (4 * p + e)).toInt ≤ (A13 (4 * p + e)).toInt ∧ (A13 (4 * p + e)).toInt ≤ 100000 * (n + 1 : Nat)) : M6 (n + 1) x18 x19 x20 x21 y15 y16 y17 y18 P1 Q1 A13 (upd A14 (4 * p + e) v) A15 A16 A17 (upd C28 (20 * p + 5 * e + 1) v) := by
  obtain ⟨h1, h2, h3, h4, h5, h6, h7⟩ := h.succ
  refine ⟨h1, h2, h3, h4, hPQ, fun p' e' hp' he' => ?_, fun s hs => ?_⟩
  · obtain ⟨g0, g1, g2, g3, g4⟩ := h6 p' e' hp' he'
    unfold upd
    by_cases c : p' = p ∧ e' = e
    · obtain ⟨rfl, rfl⟩ := c
      rw [if_neg (show ¬ 20 * p' + 5 * e' = 20 * p' + 5 * e' + 1 by omega), if_neg (show ¬ 20 * p' + 5 * e' + 2 = 20 * p' + 5 * e' + 1 by omega), if_neg (show ¬ 20 * p' + 5 * e' + 3 = 20 * p' + 5 * e' + 1 by omega), if_neg (show ¬ 20 * p' + 5 * e' + 4 = 20 * p' + 5 * e' + 1 by omega), if_pos rfl, if_pos rfl]
      exact ⟨g0, rfl, g2, g3, g4⟩
    · rw [if_neg (show ¬ 20 * p' + 5 * e' = 20 * p + 5 * e + 1 by omega), if_neg (show ¬ 20 * p' + 5 * e' + 1 = 20 * p + 5 * e + 1 by omega), if_neg (show ¬ 20 * p' + 5 * e' + 2 = 20 * p + 5 * e + 1 by omega), if_neg (show ¬ 20 * p' + 5 * e' + 3 = 20 * p + 5 * e + 1 by omega), if_neg (show ¬ 20 * p' + 5 * e' + 4 = 20 * p + 5 * e + 1 by omega), if_neg (show ¬ 4 * p' + e' = 4 * p + e by omega)]
      exact ⟨g0, g1, g2, g3, g4⟩
  · unfold upd
    by_cases c : s = 4 * p + e
    · subst c
      rw [if_pos rfl]
      exact hb
    · rw [if_neg c]
      exact h7 s hs
theorem M6.u2 (h : M6 n x18 x19 x20 x21 y15 y16 y17 y18 P Q A13 A14 A15 A16 A17 C28) {p e : Nat} {v : Int32} (hp : p < 24) (he : e < 4) (hPQ : P1 = Q1) (hb : (A17 (4 * p + e) = 0 ∨ A17 (4 * p + e) = 1) ∧ 0 ≤ (A14 (4 * p + e)).toInt ∧ 0 ≤ (v).toInt ∧ 0 ≤ (A16 (4 * p + e)).toInt ∧ (A14 (4 * p + e)).toInt + (v).toInt + (A16 (4 * p + e)).toInt ≤ (A13 (4 * p + e)).toInt ∧ (A13 (4 * p + e)).toInt ≤ 100000 * (n + 1 : Nat)) : M6 (n + 1) x18 x19 x20 x21 y15 y16 y17 y18 P1 Q1 A13 A14 (upd A15 (4 * p + e) v) A16 A17 (upd C28 (20 * p + 5 * e + 2) v) := by
  obtain ⟨h1, h2, h3, h4, h5, h6, h7⟩ := h.succ
  refine ⟨h1, h2, h3, h4, hPQ, fun p' e' hp' he' => ?_, fun s hs => ?_⟩
  · obtain ⟨g0, g1, g2, g3, g4⟩ := h6 p' e' hp' he'
    unfold upd
    by_cases c : p' = p ∧ e' = e
    · obtain ⟨rfl, rfl⟩ := c
      rw [if_neg (show ¬ 20 * p' + 5 * e' = 20 * p' + 5 * e' + 2 by omega), if_neg (show ¬ 20 * p' + 5 * e' + 1 = 20 * p' + 5 * e' + 2 by omega), if_neg (show ¬ 20 * p' + 5 * e' + 3 = 20 * p' + 5 * e' + 2 by omega), if_neg (show ¬ 20 * p' + 5 * e' + 4 = 20 * p' + 5 * e' + 2 by omega), if_pos rfl, if_pos rfl]
      exact ⟨g0, g1, rfl, g3, g4⟩
    · rw [if_neg (show ¬ 20 * p' + 5 * e' = 20 * p + 5 * e + 2 by omega), if_neg (show ¬ 20 * p' + 5 * e' + 1 = 20 * p + 5 * e + 2 by omega), if_neg (show ¬ 20 * p' + 5 * e' + 2 = 20 * p + 5 * e + 2 by omega), if_neg (show ¬ 20 * p' + 5 * e' + 3 = 20 * p + 5 * e + 2 by omega), if_neg (show ¬ 20 * p' + 5 * e' + 4 = 20 * p + 5 * e + 2 by omega), if_neg (show ¬ 4 * p' + e' = 4 * p + e by omega)]
      exact ⟨g0, g1, g2, g3, g4⟩
  · unfold upd
    by_cases c : s = 4 * p + e
    · subst c
      rw [if_pos rfl]
      exact hb
    · rw [if_neg c]
      exact h7 s hs
theorem M6.u3 (h : M6 n x18 x19 x20 x21 y15 y16 y17 y18 P Q A13 A14 A15 A16 A17 C28) {p e : Nat} {v : Int32} (hp : p < 24) (he : e < 4) (hPQ : P1 = Q1) (hb : (A17 (4 * p + e) = 0 ∨ A17 (4 * p + e) = 1) ∧ 0 ≤ (A14 (4 * p + e)).toInt ∧ 0 ≤ (A15 (4 * p + e)).toInt ∧ 0 ≤ (v).toInt ∧ (A14 (4 * p + e)).toInt + (A15 (4 * p + e)).toInt + (v).toInt ≤ (A13 (4 * p + e)).toInt ∧ (A13 (4 * p + e)).toInt ≤ 100000 * (n + 1 : Nat)) : M6 (n + 1) x18 x19 x20 x21 y15 y16 y17 y18 P1 Q1 A13 A14 A15 (upd A16 (4 * p + e) v) A17 (upd C28 (20 * p + 5 * e + 3) v) := by
  obtain ⟨h1, h2, h3, h4, h5, h6, h7⟩ := h.succ
  refine ⟨h1, h2, h3, h4, hPQ, fun p' e' hp' he' => ?_, fun s hs => ?_⟩
  · obtain ⟨g0, g1, g2, g3, g4⟩ := h6 p' e' hp' he'
    unfold upd
    by_cases c : p' = p ∧ e' = e
    · obtain ⟨rfl, rfl⟩ := c
      rw [if_neg (show ¬ 20 * p' + 5 * e' = 20 * p' + 5 * e' + 3 by omega), if_neg (show ¬ 20 * p' + 5 * e' + 1 = 20 * p' + 5 * e' + 3 by omega), if_neg (show ¬ 20 * p' + 5 * e' + 2 = 20 * p' + 5 * e' + 3 by omega), if_neg (show ¬ 20 * p' + 5 * e' + 4 = 20 * p' + 5 * e' + 3 by omega), if_pos rfl, if_pos rfl]
      exact ⟨g0, g1, g2, rfl, g4⟩
    · rw [if_neg (show ¬ 20 * p' + 5 * e' = 20 * p + 5 * e + 3 by omega), if_neg (show ¬ 20 * p' + 5 * e' + 1 = 20 * p + 5 * e + 3 by omega), if_neg (show ¬ 20 * p' + 5 * e' + 2 = 20 * p + 5 * e + 3 by omega), if_neg (show ¬ 20 * p' + 5 * e' + 3 = 20 * p + 5 * e + 3 by omega), if_neg (show ¬ 20 * p' + 5 * e' + 4 = 20 * p + 5 * e + 3 by omega), if_neg (show ¬ 4 * p' + e' = 4 * p + e by omega)]
      exact ⟨g0, g1, g2, g3, g4⟩
  · unfold upd
    by_cases c : s = 4 * p + e
    · subst c
      rw [if_pos rfl]
      exact hb
    · rw [if_neg c]
      exact h7 s hs
theorem M6.u4 (h : M6 n x18 x19 x20 x21 y15 y16 y17 y18 P Q A13 A14 A15 A16 A17 C28) {p e : Nat} {v : Int32} (hp : p < 24) (he : e < 4) (hPQ : P1 = Q1) (hb : (v = 0 ∨ v = 1) ∧ 0 ≤ (A14 (4 * p + e)).toInt ∧ 0 ≤ (A15 (4 * p + e)).toInt ∧ 0 ≤ (A16 (4 * p + e)).toInt ∧ (A14 (4 * p + e)).toInt + (A15 (4 * p + e)).toInt + (A16 (4 * p + e)).toInt ≤ (A13 (4 * p + e)).toInt ∧ (A13 (4 * p + e)).toInt ≤ 100000 * (n + 1 : Nat)) : M6 (n + 1) x18 x19 x20 x21 y15 y16 y17 y18 P1 Q1 A13 A14 A15 A16 (upd A17 (4 * p + e) v) (upd C28 (20 * p + 5 * e + 4) v) := by
  obtain ⟨h1, h2, h3, h4, h5, h6, h7⟩ := h.succ
  refine ⟨h1, h2, h3, h4, hPQ, fun p' e' hp' he' => ?_, fun s hs => ?_⟩
  · obtain ⟨g0, g1, g2, g3, g4⟩ := h6 p' e' hp' he'
    unfold upd
    by_cases c : p' = p ∧ e' = e
    · obtain ⟨rfl, rfl⟩ := c
      rw [if_neg (show ¬ 20 * p' + 5 * e' = 20 * p' + 5 * e' + 4 by omega), if_neg (show ¬ 20 * p' + 5 * e' + 1 = 20 * p' + 5 * e' + 4 by omega), if_neg (show ¬ 20 * p' + 5 * e' + 2 = 20 * p' + 5 * e' + 4 by omega), if_neg (show ¬ 20 * p' + 5 * e' + 3 = 20 * p' + 5 * e' + 4 by omega), if_pos rfl, if_pos rfl]
      exact ⟨g0, g1, g2, g3, rfl⟩
    · rw [if_neg (show ¬ 20 * p' + 5 * e' = 20 * p + 5 * e + 4 by omega), if_neg (show ¬ 20 * p' + 5 * e' + 1 = 20 * p + 5 * e + 4 by omega), if_neg (show ¬ 20 * p' + 5 * e' + 2 = 20 * p + 5 * e + 4 by omega), if_neg (show ¬ 20 * p' + 5 * e' + 3 = 20 * p + 5 * e + 4 by omega), if_neg (show ¬ 20 * p' + 5 * e' + 4 = 20 * p + 5 * e + 4 by omega), if_neg (show ¬ 4 * p' + e' = 4 * p + e by omega)]
      exact ⟨g0, g1, g2, g3, g4⟩
  · unfold upd
    by_cases c : s = 4 * p + e
    · subst c
      rw [if_pos rfl]
      exact hb
    · rw [if_neg c]
      exact h7 s hs
end
