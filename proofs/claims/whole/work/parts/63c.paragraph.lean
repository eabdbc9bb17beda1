/-! an operation -/
set_option maxHeartbeats 2000000 in
theorem op_paragraph {S : XS} {n : Nat} {σ : St} (h : RR n σ) (x : Int32) : OPI S n σ m_TH_paragraph m_Md_paragraph [.int x] := by
  obtain ⟨r0, r1, r2, r3, r4, r5, r6, r7, r8⟩ := h
  unfold OPI
  obtain ⟨a1, b1, b2⟩ := id r1.1
  have e1 : gY σ 1 = gX σ 4 := a1.symm
  repeat' (first
    | refine C_TH_paragraph _ _ (B_TH_paragraph_0 _ _ ?_)
    | refine C_Mn_addParagraph _ _ (B_Mn_addParagraph_0 _ _ ?_)
    | refine ⟨vp_20 (by first | assumption | exact Int32.not_lt.mp (by assumption) | exact Int32.not_le.mp (by assumption) | exact Int32.not_lt.mpr (by assumption) | exact Int32.not_le.mpr (by assumption) | grind) (by first | assumption | exact Int32.not_lt.mp (by assumption) | exact Int32.not_le.mp (by assumption) | exact Int32.not_lt.mpr (by assumption) | exact Int32.not_le.mpr (by assumption) | grind), ?_⟩
    | refine ⟨lnb _ (Or.inl rfl), ?_⟩
    | refine ⟨lnb _ (Or.inr rfl), ?_⟩
    | refine bq_t rfl ?_
    | refine bq_f (by decide) ?_
    | refine bq_tn rfl ?_
    | refine bq_fn (by decide) ?_
    | refine bq_t trivial ?_
    | refine bq_s (fun _ => ?_) (fun _ => ?_)
    | refine bq_sn (fun _ => ?_) (fun _ => ?_))
  all_goals repeat' (first
    | refine C_Md_paragraph _ _ (B_Md_paragraph_0 _ _ ?_)
    | refine C_Md_is _ _ _ _ (B_Md_is_0 _ _ _ _ ?_)
    | simp only [-eq_self, gs_X_X, gs_X_A, gs_A_X, gs_A_A, gs_B_X, gs_B_A, gs_P_X, gs_P_A, gs_N_X, gs_N_A, gs_F_X, gs_F_A, gs_G_X, gs_G_A, gs_f_X, gs_f_A, gs_g_X, gs_g_A, gs_D_X, gs_D_A, gs_n_X, gs_n_A, gs_Y_X, gs_Y_A, gs_C_X, gs_C_A, gs_Q_X, gs_Q_A, reduceIte, Nat.reduceEqDiff, e1]
    | refine ⟨vp_20 (by first | assumption | exact Int32.not_lt.mp (by assumption) | exact Int32.not_le.mp (by assumption) | exact Int32.not_lt.mpr (by assumption) | exact Int32.not_le.mpr (by assumption) | grind) (by first | assumption | exact Int32.not_lt.mp (by assumption) | exact Int32.not_le.mp (by assumption) | exact Int32.not_lt.mpr (by assumption) | exact Int32.not_le.mpr (by assumption) | grind), ?_⟩
    | refine ⟨lnb _ (Or.inl rfl), ?_⟩
    | refine ⟨lnb _ (Or.inr rfl), ?_⟩
    | refine bq_t rfl ?_
    | refine bq_f (by decide) ?_
    | refine bq_tn rfl ?_
    | refine bq_fn (by decide) ?_
    | refine bq_t trivial ?_
    | refine bq_t (by first | assumption | exact Int32.not_lt.mp (by assumption) | exact Int32.not_le.mp (by assumption) | exact Int32.not_lt.mpr (by assumption) | exact Int32.not_le.mpr (by assumption)) ?_
    | refine bq_f (by first | assumption | exact Int32.not_lt.mp (by assumption) | exact Int32.not_le.mp (by assumption) | exact Int32.not_lt.mpr (by assumption) | exact Int32.not_le.mpr (by assumption)) ?_
    | refine bq_tn (by first | assumption | exact Int32.not_lt.mp (by assumption) | exact Int32.not_le.mp (by assumption) | exact Int32.not_lt.mpr (by assumption) | exact Int32.not_le.mpr (by assumption)) ?_
    | refine bq_fn (by first | assumption | exact Int32.not_lt.mp (by assumption) | exact Int32.not_le.mp (by assumption) | exact Int32.not_lt.mpr (by assumption) | exact Int32.not_le.mpr (by assumption)) ?_
    | refine bq_t (by grind) ?_
    | refine bq_f (by grind) ?_
    | refine bq_tn (by grind) ?_
    | refine bq_fn (by grind) ?_)
  all_goals first
    | exact ⟨rfl, ⟨r0, r1, r2, r3, r4, r5, r6.succ, r7, r8.succ⟩⟩
    | exact ⟨trivial, ⟨r0, r1, r2, r3, r4, r5, r6.succ, r7, r8.succ⟩⟩
    | (have e := M1.para r1 (p := (gX σ 4).toNatClampNeg) (v := x) (w := gX σ 4 + 1) (by grind) (by grind)
       refine ⟨(by first | rfl | trivial), ⟨r0, ?_, r2, r3, r4, r5, r6.succ, r7, r8.succ⟩⟩
       rw [e1] at e
       exact e)
