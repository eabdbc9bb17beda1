/-! an operation -/
set_option maxHeartbeats 2000000 in
theorem op_mend {S : XS} {n : Nat} {σ : St} (h : RR n σ) (x : Int32) : OPI S n σ m_TH_mend m_Md_mend [.int x] := by
  obtain ⟨r0, r1, r2, r3, r4, r5, r6, r7, r8⟩ := h
  unfold OPI
  obtain ⟨a1, a2, a3, a4⟩ := id r3
  have e21 : gC σ 21 = gA σ 9 := a1.symm
  have b : 0 ≤ x → x < 24 → 0 ≤ gA σ 9 x.toNatClampNeg ∧ gA σ 9 x.toNatClampNeg ≤ 3 := fun c1 c2 => a2 _ (vp_lt (vp_24 c1 c2))
  repeat' (first
    | refine C_TH_mend _ _ (B_TH_mend_0 _ _ ?_)
    | refine C_Pa_addEdition _ _ (B_Pa_addEdition_0 _ _ ?_)
    | refine C_TH_isPart _ _ (B_TH_isPart_0 _ _ ?_)
    | refine ⟨vp_24 (by first | assumption | exact Int32.not_lt.mp (by assumption) | exact Int32.not_le.mp (by assumption) | exact Int32.not_lt.mpr (by assumption) | exact Int32.not_le.mpr (by assumption) | grind) (by first | assumption | exact Int32.not_lt.mp (by assumption) | exact Int32.not_le.mp (by assumption) | exact Int32.not_lt.mpr (by assumption) | exact Int32.not_le.mpr (by assumption) | grind), ?_⟩
    | refine ⟨lnb _ (Or.inl rfl), ?_⟩
    | refine ⟨lnb _ (Or.inr rfl), ?_⟩
    | refine bq_t rfl ?_
    | refine bq_f (by decide) ?_
    | refine bq_tn rfl ?_
    | refine bq_fn (by decide) ?_
    | refine bq_t trivial ?_
    | refine bq_s (fun _ => ?_) (fun _ => ?_)
    | refine bq_sn (fun _ => ?_) (fun _ => ?_))
  all_goals repeat' (first
    | refine C_Md_mend _ _ (B_Md_mend_0 _ _ ?_)
    | refine C_Md_isPart _ _ (B_Md_isPart_0 _ _ ?_)
    | simp only [-eq_self, gs_X_A, gs_A_A, gs_B_A, gs_P_A, gs_N_A, gs_F_A, gs_G_A, gs_f_A, gs_g_A, gs_D_A, gs_n_A, gs_Y_A, gs_C_A, gs_Q_A, reduceIte, Nat.reduceEqDiff, e21]
    | refine ⟨vp_24 (by first | assumption | exact Int32.not_lt.mp (by assumption) | exact Int32.not_le.mp (by assumption) | exact Int32.not_lt.mpr (by assumption) | exact Int32.not_le.mpr (by assumption) | grind) (by first | assumption | exact Int32.not_lt.mp (by assumption) | exact Int32.not_le.mp (by assumption) | exact Int32.not_lt.mpr (by assumption) | exact Int32.not_le.mpr (by assumption) | grind), ?_⟩
    | refine ⟨lnb _ (Or.inl rfl), ?_⟩
    | refine ⟨lnb _ (Or.inr rfl), ?_⟩
    | refine bq_t rfl ?_
    | refine bq_f (by decide) ?_
    | refine bq_tn rfl ?_
    | refine bq_fn (by decide) ?_
    | refine bq_t trivial ?_
    | refine bq_t (by first | assumption | exact Int32.not_lt.mp (by assumption) | exact Int32.not_le.mp (by assumption) | exact Int32.not_lt.mpr (by assumption) | exact Int32.not_le.mpr (by assumption)) ?_
    | refine bq_f (by first | assumption | exact Int32.not_lt.mp (by assumption) | exact Int32.not_le.mp (by assumption) | exact Int32.not_lt.mpr (by assumption) | exact Int32.not_le.mpr (by assumption)) ?_
    | refine bq_tn (by first | assumption | exact Int32.not_lt.mp (by assumption) | exact Int32.not_le.mp (by assumption) | exact Int32.not_lt.mpr (by assumption) | exact Int32.not_le.mpr (by assumption)) ?_
    | refine bq_fn (by first | assumption | exact Int32.not_lt.mp (by assumption) | exact Int32.not_le.mp (by assumption) | exact Int32.not_lt.mpr (by assumption) | exact Int32.not_le.mpr (by assumption)) ?_
    | refine bq_t (by grind) ?_
    | refine bq_f (by grind) ?_
    | refine bq_tn (by grind) ?_
    | refine bq_fn (by grind) ?_)
  all_goals first
    | exact ⟨rfl, ⟨r0, r1, r2, r3, r4, r5, r6.succ, r7, r8.succ⟩⟩
    | exact ⟨trivial, ⟨r0, r1, r2, r3, r4, r5, r6.succ, r7, r8.succ⟩⟩
    | (refine ⟨(by first | rfl | trivial), ⟨r0, r1, r2, ⟨rfl, fun p hp => ?_, a3, a4⟩, r4, r5, r6.succ, r7, r8.succ⟩⟩
       show 0 ≤ upd (gA σ 9) _ _ p ∧ upd (gA σ 9) _ _ p ≤ 3
       unfold upd
       split
       · grind
       · exact a2 p hp)
