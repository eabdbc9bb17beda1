/-! an operation -/
set_option maxHeartbeats 2000000 in
theorem op_due {S : XS} {n : Nat} {σ : St} (h : RR n σ) (x : Int32) : OPI S n σ m_TH_due m_Md_due [.int x] := by
  obtain ⟨r0, r1, r2, r3, r4, r5, r6, r7, r8⟩ := h
  unfold OPI
  obtain ⟨hB, hC, hM⟩ := r3.days
  by_cases k : 0 ≤ x ∧ x < 24
  · have t := vp_in_iff.mp (vp_24 k.1 k.2)
    obtain ⟨p, hp, rfl, -⟩ := nI_ex (n := 24) t.1 t.2
    refine C_TH_due _ _ (B_TH_due_0 _ _ (K_isPartT k (bq_f (by decide) (K_due hB hC (by omega) (K_mdue hB hM hp ⟨rfl, ⟨r0, r1, r2, r3, r4, r5, r6.succ, r7, r8.succ⟩⟩)))))
  · refine C_TH_due _ _ (B_TH_due_0 _ _ (K_isPartF k (bq_t rfl (C_Md_due _ _ (B_Md_due_0 _ _ (K_misPartF k (bq_tn rfl ⟨rfl, ⟨r0, r1, r2, r3, r4, r5, r6.succ, r7, r8.succ⟩⟩)))))))
