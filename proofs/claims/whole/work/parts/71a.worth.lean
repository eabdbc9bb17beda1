/-! an operation -/
set_option maxHeartbeats 2000000 in
theorem op_worth {S : XS} {n : Nat} {σ : St} (h : RR n σ) (p : Int32) (e : Int32) (x : Int32) : OPL S n σ m_TH_worth m_Md_worth [.int p, .int e, .int x] := by
  obtain ⟨r0, r1, r2, r3, r4, r5, r6, r7, r8⟩ := h
  unfold OPL
  have a9 := r3.1
  obtain ⟨c, hc, e1, e2⟩ := r7.cnt
  refine C_TH_worth _ _ _ _ (B_TH_worth_0 _ _ _ _ ?_)
  by_cases hE : HE (gA σ 9) p e
  · have hE2 : HE (gC σ 21) p e := by rw [← a9]; exact hE
    refine K_haveT hE (bq_f (by decide) ?_)
    rw [e1]
    rcases Nat.eq_zero_or_pos c with z | z
    · subst z
      refine bq_tn rfl (C_Md_worth _ _ _ _ (B_Md_worth_0 _ _ _ _ (K_isEdT hE2 (bq_f (by decide) ?_))))
      rw [e2]
      exact bq_t rfl ⟨rfl, ⟨r0, r1, r2, r3, r4, r5, r6.succ, r7, r8.succ⟩⟩
    · have cne : ¬ nI c = 0 := nI_ne0 z (by omega)
      have R : ¬ (0 ≤ x ∧ x ≤ 100000) → CM S m_Md_worth [.ref 153, .int p, .int e, .int x] (enc σ) (qL fun w ρ => (-9000000000000000000 : Int64) = w ∧ RR (n + 1) ρ) := fun k => C_Md_worth _ _ _ _ (B_Md_worth_0 _ _ _ _ (K_isEdT hE2 (bq_f (by decide) (bq_f (by rw [e2]; exact cne) (K_isF k (bq_tn rfl ⟨rfl, ⟨r0, r1, r2, r3, r4, r5, r6.succ, r7, r8.succ⟩⟩))))))
      refine bq_fn cne (bq_s (fun k => R (fun y => Int32.not_le.mpr k y.1)) (fun k1 => bq_s (fun k2 => K_slot ?_) (fun k => R (fun y => k y.2))))
      obtain ⟨i, j, hs⟩ := hE.slf r3
      have w0 := hs.1.2.2.1
      refine K_worth e1 hc hs.2.1.1 ?_
      rw [w0]
      exact K_mworth r6 r7 hE2 hs e2 z hc ⟨Int32.not_lt.mp k1, k2⟩ ⟨rfl, ⟨r0, r1, r2, r3, r4, r5, r6.succ, r7, r8.succ⟩⟩
  · have hE2 : ¬ HE (gC σ 21) p e := by rw [← a9]; exact hE
    exact K_haveF hE (bq_t rfl (C_Md_worth _ _ _ _ (B_Md_worth_0 _ _ _ _ (K_isEdF hE2 (bq_t rfl ⟨rfl, ⟨r0, r1, r2, r3, r4, r5, r6.succ, r7, r8.succ⟩⟩)))))
