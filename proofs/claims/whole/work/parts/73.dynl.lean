/-! STORES INTO OBJECTS THAT ARE MADE. -/
abbrev mkF (a0 : Int64) (a1 : Int32) (a2 : Int64) (a3 a4 a5 a6 : Int32) : va_E := .inr (3, [.long a0, .int a1, .long a2, .int a3, .int a4, .int a5, .int a6])
theorem sD_at (σ : St) (q : Nat) (c : va_E) : gD (sD σ q c) q = c := by
  show va_up (gD σ) q c q = c
  unfold va_up
  rw [if_pos rfl]
theorem sD_ne {σ : St} {q q' : Nat} {c : va_E} (h : q' ≠ q) : gD (sD σ q c) q' = gD σ q' := by
  show va_up (gD σ) q c q' = _
  unfold va_up
  rw [if_neg h]
theorem fI_ne {σ : St} {q q' k : Nat} {c : va_E} (h : q' ≠ q) : fI (sD σ q c) q' k = fI σ q' k := by unfold fI; rw [sD_ne h]
theorem fL_ne {σ : St} {q q' k : Nat} {c : va_E} (h : q' ≠ q) : fL (sD σ q c) q' k = fL σ q' k := by unfold fL; rw [sD_ne h]
theorem fA_ne {σ : St} {q q' : Nat} {c : va_E} (h : q' ≠ q) : fA (sD σ q c) q' = fA σ q' := by unfold fA; rw [sD_ne h]
theorem isFa_ne {σ : St} {q q' : Nat} {c : va_E} (h : q' ≠ q) (a : isFa σ q') : isFa (sD σ q c) q' := by
  refine ⟨a.1, ?_⟩
  rw [sD_ne h, fL_ne h, fL_ne h, fI_ne h, fI_ne h, fI_ne h, fI_ne h, fI_ne h]
  exact a.2
theorem isAg_ne {σ : St} {q q' : Nat} {c : va_E} (h : q' ≠ q) (a : isAg σ q') : isAg (sD σ q c) q' := by
  refine ⟨a.1, ?_⟩
  rw [sD_ne h, fI_ne h, fI_ne h, fI_ne h]
  exact a.2
theorem isA5_ne {σ : St} {q q' : Nat} {c : va_E} (h : q' ≠ q) (a : isA5 σ q') : isA5 (sD σ q c) q' := by
  refine ⟨a.1, ?_⟩
  rw [sD_ne h, fA_ne h]
  exact a.2
section
variable {σ : St} {q : Nat} {a0 a2 : Int64} {a1 a3 a4 a5 a6 : Int32}
theorem mk_fL0 : fL (sD σ q (mkF a0 a1 a2 a3 a4 a5 a6)) q 0 = a0 := by unfold fL; rw [sD_at]; rfl
theorem mk_fI1 : fI (sD σ q (mkF a0 a1 a2 a3 a4 a5 a6)) q 1 = a1 := by unfold fI; rw [sD_at]; rfl
theorem mk_fL2 : fL (sD σ q (mkF a0 a1 a2 a3 a4 a5 a6)) q 2 = a2 := by unfold fL; rw [sD_at]; rfl
theorem mk_fI3 : fI (sD σ q (mkF a0 a1 a2 a3 a4 a5 a6)) q 3 = a3 := by unfold fI; rw [sD_at]; rfl
theorem mk_fI4 : fI (sD σ q (mkF a0 a1 a2 a3 a4 a5 a6)) q 4 = a4 := by unfold fI; rw [sD_at]; rfl
theorem mk_fI5 : fI (sD σ q (mkF a0 a1 a2 a3 a4 a5 a6)) q 5 = a5 := by unfold fI; rw [sD_at]; rfl
theorem mk_fI6 : fI (sD σ q (mkF a0 a1 a2 a3 a4 a5 a6)) q 6 = a6 := by unfold fI; rw [sD_at]; rfl
theorem mk_isFa (h : isd σ q) : isFa (sD σ q (mkF a0 a1 a2 a3 a4 a5 a6)) q := by
  refine ⟨h, ?_⟩
  rw [sD_at, mk_fL0, mk_fI1, mk_fL2, mk_fI3, mk_fI4, mk_fI5, mk_fI6]
end
section
variable {σ : St} {q : Nat} (h : isFa σ q)
theorem stF_1 (v : Int32) (h : isFa σ q) : stI σ q 1 v = sD σ q (mkF (fL σ q 0) v (fL σ q 2) (fI σ q 3) (fI σ q 4) (fI σ q 5) (fI σ q 6)) := by
  unfold stI
  rw [h.2]
  rfl
theorem stF_3 (v : Int32) (h : isFa σ q) : stI σ q 3 v = sD σ q (mkF (fL σ q 0) (fI σ q 1) (fL σ q 2) v (fI σ q 4) (fI σ q 5) (fI σ q 6)) := by
  unfold stI
  rw [h.2]
  rfl
theorem stF_4 (v : Int32) (h : isFa σ q) : stI σ q 4 v = sD σ q (mkF (fL σ q 0) (fI σ q 1) (fL σ q 2) (fI σ q 3) v (fI σ q 5) (fI σ q 6)) := by
  unfold stI
  rw [h.2]
  rfl
theorem stF_5 (v : Int32) (h : isFa σ q) : stI σ q 5 v = sD σ q (mkF (fL σ q 0) (fI σ q 1) (fL σ q 2) (fI σ q 3) (fI σ q 4) v (fI σ q 6)) := by
  unfold stI
  rw [h.2]
  rfl
theorem stF_6 (v : Int32) (h : isFa σ q) : stI σ q 6 v = sD σ q (mkF (fL σ q 0) (fI σ q 1) (fL σ q 2) (fI σ q 3) (fI σ q 4) (fI σ q 5) v) := by
  unfold stI
  rw [h.2]
  rfl
theorem stF_0 (v : Int64) (h : isFa σ q) : stL σ q 0 v = sD σ q (mkF v (fI σ q 1) (fL σ q 2) (fI σ q 3) (fI σ q 4) (fI σ q 5) (fI σ q 6)) := by
  unfold stL
  rw [h.2]
  rfl
theorem stF_2 (v : Int64) (h : isFa σ q) : stL σ q 2 v = sD σ q (mkF (fL σ q 0) (fI σ q 1) v (fI σ q 3) (fI σ q 4) (fI σ q 5) (fI σ q 6)) := by
  unfold stL
  rw [h.2]
  rfl
end
theorem fa_ne_ag {σ : St} {q q' : Nat} (h : isFa σ q) (a : isAg σ q') : q' ≠ q := by
  intro e
  subst e
  have := a.2.symm.trans h.2
  simp at this
theorem fa_ne_a5 {σ : St} {q q' : Nat} (h : isFa σ q) (a : isA5 σ q') : q' ≠ q := by
  intro e
  subst e
  have := a.2.symm.trans h.2
  simp at this
/-- agreements don't see stores into facts -/
theorem M5.fa {x17 y13 : Int32} {C23 C24 C25 C26 : Nat → Int32} {G : Nat → Option Nat} {g0 : Nat} {δ : St} (h : M5 x17 y13 C23 C24 C25 C26 G g0 δ) {q : Nat} (hq : isFa δ q) (c : va_E) : M5 x17 y13 C23 C24 C25 C26 G g0 (sD δ q c) := by
  obtain ⟨h1, ⟨h2, h3, h4⟩, h5⟩ := h
  refine ⟨h1, ⟨isAg_ne (fa_ne_ag hq h2) h2, isA5_ne (fa_ne_a5 hq h3) h3, isA5_ne (fa_ne_a5 hq h4) h4⟩, fun i hi => ?_⟩
  obtain ⟨q', a1, a2, ⟨a3, a4, a5⟩, b1, b2, b3, b4, b5, b6, b7, b8⟩ := h5 i hi
  have n1 := fa_ne_ag hq a3
  have n2 := fa_ne_a5 hq a4
  have n3 := fa_ne_a5 hq a5
  refine ⟨q', a1, a2, ⟨isAg_ne n1 a3, isA5_ne n2 a4, isA5_ne n3 a5⟩, ?_, b2, ?_, b4, ?_, fun k hk => ?_, fun k hk => ?_, b8⟩
  · rw [fI_ne n1]; exact b1
  · rw [fI_ne n1]; exact b3
  · rw [fI_ne n1]; exact b5
  · rw [fA_ne n2]; exact b6 k hk
  · rw [fA_ne n3]; exact b7 k hk
theorem R8.fa {n : Nat} {D : Nat → va_E} {q : Nat} (h : ∀ q, xs1 (D q) ≤ 7) {a0 a2 : Int64} {a1 a3 a4 a5 a6 : Int32} : ∀ q', xs1 (va_up D q (mkF a0 a1 a2 a3 a4 a5 a6) q') ≤ 7 := by
  intro q'
  unfold va_up
  by_cases e : q' = q
  · rw [if_pos e]
    exact Nat.le_refl 7
  · rw [if_neg e]
    exact h q'
section
variable {x15 x16 y11 y12 : Int32} {A11 A12 C14 C15 C16 C17 C18 C19 C20 C22 : Nat → Int32} {F : Nat → Option Nat} {f0 : Nat} {δ : St}
theorem M4.strike (h : M4 x15 x16 y11 y12 A11 A12 C14 C15 C16 C17 C18 C19 C20 C22 F f0 δ) {i q : Nat} (hi : i < x15.toNatClampNeg) (hF : F i = some q) (v : Int32) : M4 x15 x16 y11 y12 A11 A12 C14 C15 C16 C17 C18 C19 (upd C20 i v) C22 F f0 (stI δ q 6 v) := by
  obtain ⟨h1, h2, h3, ⟨h4, h4b⟩, h5, h6⟩ := h
  obtain ⟨q', e1, e2, e3, e4⟩ := h5 i hi
  obtain rfl : q = q' := Option.some.inj (hF.symm.trans e1)
  rw [stF_6 v e3]
  refine ⟨h1, h2, h3, ⟨isFa_ne (Ne.symm e2) h4, by rw [fI_ne (Ne.symm e2)]; exact h4b⟩, fun j hj => ?_, h6⟩
  by_cases ej : j = i
  · subst ej
    refine ⟨q, hF, e2, mk_isFa e3.1, ?_⟩
    obtain ⟨g1, g2, g3, g4, g5, g6, g7, g8, g9, g10⟩ := e4
    unfold NF
    rw [mk_fL0, mk_fI1, mk_fL2, mk_fI3, mk_fI4, mk_fI5, mk_fI6]
    refine ⟨g1, g2, g3, g4, g5, g6, g7, g8, g9, ?_⟩
    unfold upd
    rw [if_pos rfl]
  · obtain ⟨q', k1, k2, k3, k4⟩ := h5 j hj
    have ne : q' ≠ q := fun z => ej (h6 j i q hj hi (by rw [k1, z]) hF)
    refine ⟨q', k1, k2, isFa_ne ne k3, ?_⟩
    unfold NF at k4 ⊢
    rw [fL_ne ne, fI_ne ne, fL_ne ne, fI_ne ne, fI_ne ne, fI_ne ne, fI_ne ne]
    unfold upd
    rw [if_neg ej]
    exact k4
end
section
variable {S : XS} {σ : St}
theorem K_numF {Q : Option Nat → St → Prop} {x : Int32} (h : x < 0 ∨ gX σ 15 ≤ x) (H : Q none σ) : CM S m_Fs_numbered [.ref 134, .int x] (enc σ) (qR Q) := by
  refine C_Fs_numbered _ _ (B_Fs_numbered_0 _ _ (bq_s (fun _ => H) (fun k => ?_)))
  rcases h with h | h
  · exact absurd h k
  · exact bq_f (Int32.not_lt.mpr h) H
theorem K_numT {Q : Option Nat → St → Prop} {c k : Nat} (hc : gX σ 15 = nI c) (hc2 : c ≤ 60) (hk : k < c) (H : Q (gF σ k) σ) : CM S m_Fs_numbered [.ref 134, .int (nI k)] (enc σ) (qR Q) := by
  refine C_Fs_numbered _ _ (B_Fs_numbered_0 _ _ (bq_f (nI_pos (by omega)) ?_))
  rw [hc]
  refine bq_t (nI_lt hk (by omega)) ⟨vp_in_nI (by omega) (by decide), ?_⟩
  rw [nI_clamp (by omega)]
  exact H
end
theorem R4.cnt {σ : St} (h : R4 σ) : ∃ c, c ≤ 60 ∧ gX σ 15 = nI c ∧ gY σ 11 = nI c ∧ (gX σ 15).toNatClampNeg = c := by
  have t1 := ti_nonneg h.1.2.1
  have t2 := Int32.le_iff_toInt_le.mp h.1.2.2
  have z : (60 : Int32).toInt = 60 := rfl
  obtain ⟨c, hc, e, e2⟩ := nI_ex (x := gX σ 15) (n := 61) t1 (by omega)
  exact ⟨c, by omega, e, by rw [← h.1.1, e], e2⟩
theorem nI_dec (x : Int32) (c : Nat) (hc : c ≤ 60) : (x < 0 ∨ nI c ≤ x) ∨ ∃ k, k < c ∧ x = nI k := by
  by_cases h : x < 0
  · exact Or.inl (Or.inl h)
  · by_cases h2 : nI c ≤ x
    · exact Or.inl (Or.inr h2)
    · have t := Int32.lt_iff_toInt_lt.mp (Int32.not_le.mp h2)
      rw [nI_toInt (by omega)] at t
      obtain ⟨k, hk, e, -⟩ := nI_ex (ti_nonneg (Int32.not_lt.mp h)) t
      exact Or.inr ⟨k, hk, e⟩
