/-! an operation -/
set_option maxHeartbeats 2000000 in
theorem op_foretell {S : XS} {n : Nat} {σ : St} (h : RR n σ) (x : Int32) (y : Int32) : OPI S n σ m_TH_foretell m_Md_foretell [.int x, .int y] := by
  obtain ⟨r0, r1, r2, r3, r4, r5, r6, r7, r8⟩ := h
  unfold OPI
  obtain ⟨a1, a2, a3, a4⟩ := id r7
  have e1 : gY σ 19 = gX σ 22 := a1.1.symm
  have e2 : gC σ 29 = gA σ 18 := a2.symm
  have e3 : gC σ 30 = gA σ 19 := a3.symm
  have b1 := a1.2.1
  have b2 := a1.2.2
  repeat' (first
    | refine C_TH_foretell _ _ _ (B_TH_foretell_0 _ _ _ ?_)
    | refine C_Fo_addRow _ _ _ (B_Fo_addRow_0 _ _ _ ?_)
    | refine ⟨vp_8 (by first | assumption | exact Int32.not_lt.mp (by assumption) | exact Int32.not_le.mp (by assumption) | exact Int32.not_lt.mpr (by assumption) | exact Int32.not_le.mpr (by assumption) | grind) (by first | assumption | exact Int32.not_lt.mp (by assumption) | exact Int32.not_le.mp (by assumption) | exact Int32.not_lt.mpr (by assumption) | exact Int32.not_le.mpr (by assumption) | grind), ?_⟩
    | refine ⟨lnb _ (Or.inl rfl), ?_⟩
    | refine ⟨lnb _ (Or.inr rfl), ?_⟩
    | refine bq_t rfl ?_
    | refine bq_f (by decide) ?_
    | refine bq_tn rfl ?_
    | refine bq_fn (by decide) ?_
    | refine bq_t trivial ?_
    | refine bq_s (fun _ => ?_) (fun _ => ?_)
    | refine bq_sn (fun _ => ?_) (fun _ => ?_))
  all_goals repeat' (first
    | refine C_Md_foretell _ _ _ (B_Md_foretell_0 _ _ _ ?_)
    | refine C_Md_is _ _ _ _ (B_Md_is_0 _ _ _ _ ?_)
    | simp only [-eq_self, gs_X_X, gs_X_A, gs_A_X, gs_A_A, gs_B_X, gs_B_A, gs_P_X, gs_P_A, gs_N_X, gs_N_A, gs_F_X, gs_F_A, gs_G_X, gs_G_A, gs_f_X, gs_f_A, gs_g_X, gs_g_A, gs_D_X, gs_D_A, gs_n_X, gs_n_A, gs_Y_X, gs_Y_A, gs_C_X, gs_C_A, gs_Q_X, gs_Q_A, reduceIte, Nat.reduceEqDiff, e1, e2, e3]
    | refine ⟨vp_8 (by first | assumption | exact Int32.not_lt.mp (by assumption) | exact Int32.not_le.mp (by assumption) | exact Int32.not_lt.mpr (by assumption) | exact Int32.not_le.mpr (by assumption) | grind) (by first | assumption | exact Int32.not_lt.mp (by assumption) | exact Int32.not_le.mp (by assumption) | exact Int32.not_lt.mpr (by assumption) | exact Int32.not_le.mpr (by assumption) | grind), ?_⟩
    | refine ⟨lnb _ (Or.inl rfl), ?_⟩
    | refine ⟨lnb _ (Or.inr rfl), ?_⟩
    | refine bq_t rfl ?_
    | refine bq_f (by decide) ?_
    | refine bq_tn rfl ?_
    | refine bq_fn (by decide) ?_
    | refine bq_t trivial ?_
    | refine bq_t (by first | assumption | exact Int32.not_lt.mp (by assumption) | exact Int32.not_le.mp (by assumption) | exact Int32.not_lt.mpr (by assumption) | exact Int32.not_le.mpr (by assumption)) ?_
    | refine bq_f (by first | assumption | exact Int32.not_lt.mp (by assumption) | exact Int32.not_le.mp (by assumption) | exact Int32.not_lt.mpr (by assumption) | exact Int32.not_le.mpr (by assumption)) ?_
    | refine bq_tn (by first | assumption | exact Int32.not_lt.mp (by assumption) | exact Int32.not_le.mp (by assumption) | exact Int32.not_lt.mpr (by assumption) | exact Int32.not_le.mpr (by assumption)) ?_
    | refine bq_fn (by first | assumption | exact Int32.not_lt.mp (by assumption) | exact Int32.not_le.mp (by assumption) | exact Int32.not_lt.mpr (by assumption) | exact Int32.not_le.mpr (by assumption)) ?_
    | refine bq_t (by grind) ?_
    | refine bq_f (by grind) ?_
    | refine bq_tn (by grind) ?_
    | refine bq_fn (by grind) ?_)
  all_goals first
    | exact ⟨rfl, ⟨r0, r1, r2, r3, r4, r5, r6.succ, r7, r8.succ⟩⟩
    | exact ⟨trivial, ⟨r0, r1, r2, r3, r4, r5, r6.succ, r7, r8.succ⟩⟩
    | exact ⟨rfl, ⟨r0, r1, r2, r3, r4, r5, r6.succ, ⟨⟨rfl, (by decide : (0 : Int32) ≤ 0), (by decide : (0 : Int32) ≤ 8)⟩, a2, a3, a4⟩, r8.succ⟩⟩
    | exact ⟨trivial, ⟨r0, r1, r2, r3, r4, r5, r6.succ, ⟨⟨rfl, (by decide : (0 : Int32) ≤ 0), (by decide : (0 : Int32) ≤ 8)⟩, a2, a3, a4⟩, r8.succ⟩⟩
    | (refine ⟨(by first | rfl | trivial), ⟨r0, r1, r2, r3, r4, r5, r6.succ, ⟨⟨rfl, (by grind : 0 ≤ gX σ 22 + 1), (by grind : gX σ 22 + 1 ≤ 8)⟩, rfl, rfl, fun k hk => ?_⟩, r8.succ⟩⟩
       show (0 ≤ upd (gA σ 18) _ _ k ∧ upd (gA σ 18) _ _ k ≤ 100000) ∧ 0 ≤ upd (gA σ 19) _ _ k ∧ upd (gA σ 19) _ _ k ≤ 99
       have := a4 k hk
       unfold upd
       split
       · grind
       · grind)
