/-! an operation -/
theorem N_add1 {x : Int32} (h0 : 0 ≤ x.toInt) (h : x.toInt < 2147483647) : (x + 1).toNatClampNeg = x.toNatClampNeg + 1 := by
  have t3 : (1 : Int32).toInt = 1 := rfl
  have t5 := ti_add (x := x) (y := 1) (by omega) (by omega)
  rw [ti_N, ti_N, t5]
  omega
set_option maxHeartbeats 2000000 in
theorem op_word {S : XS} {n : Nat} {σ : St} (h : RR n σ) (x : Int32) : OPI S n σ m_TH_word m_Md_word [.int x] := by
  obtain ⟨r0, r1, r2, r3, r4, r5, r6, r7, r8⟩ := h
  unfold OPI
  obtain ⟨a1, b1, b2⟩ := id r1.1
  obtain ⟨a2, a3⟩ := id r1.2.2.2.2.2.2.1
  have eN : gY σ 1 = gX σ 4 := a1.symm
  have e2 : gC σ 2 = gA σ 2 := a2.symm
  clear a2 a1
  by_cases k1 : gX σ 4 - 1 < 0
  · have k7 : gX σ 4 - 1 < 0 ∨ ¬ gX σ 4 - 1 < 0 := Decidable.em _
    try (have k8 : gA σ 2 (gX σ 4 - 1).toNatClampNeg = 30 := by grind)
    try (have k9 : 20 < x := Int32.not_le.mp (by assumption))
    repeat' (first
      | refine C_TH_word _ _ (B_TH_word_0 _ _ ?_)
      | refine C_Mn_addWord _ _ (B_Mn_addWord_0 _ _ ?_)
      | refine C_Md_word _ _ (B_Md_word_0 _ _ ?_)
      | refine C_Md_is _ _ _ _ (B_Md_is_0 _ _ _ _ ?_)
      | refine ⟨(by assumption : vp_in _ _), ?_⟩
      | simp only [-eq_self, gs_X_A, gs_X_B, gs_A_A, gs_A_B, gs_B_A, gs_B_B, gs_P_A, gs_P_B, gs_N_A, gs_N_B, gs_F_A, gs_F_B, gs_G_A, gs_G_B, gs_f_A, gs_f_B, gs_g_A, gs_g_B, gs_D_A, gs_D_B, gs_n_A, gs_n_B, gs_Y_A, gs_Y_B, gs_C_A, gs_C_B, gs_Q_A, gs_Q_B, reduceIte, Nat.reduceEqDiff, eN, e2]
      | refine ⟨lnb _ (Or.inl rfl), ?_⟩
      | refine ⟨lnb _ (Or.inr rfl), ?_⟩
      | refine bq_t rfl ?_
      | refine bq_f (by decide) ?_
      | refine bq_tn rfl ?_
      | refine bq_fn (by decide) ?_
      | refine bq_t trivial ?_
      | refine bq_t (by first | assumption | exact Int32.not_lt.mp (by assumption) | exact Int32.not_le.mp (by assumption) | exact Int32.not_lt.mpr (by assumption) | exact Int32.not_le.mpr (by assumption)) ?_
      | refine bq_f (by first | assumption | exact Int32.not_lt.mp (by assumption) | exact Int32.not_le.mp (by assumption) | exact Int32.not_lt.mpr (by assumption) | exact Int32.not_le.mpr (by assumption)) ?_
      | refine bq_tn (by first | assumption | exact Int32.not_lt.mp (by assumption) | exact Int32.not_le.mp (by assumption) | exact Int32.not_lt.mpr (by assumption) | exact Int32.not_le.mpr (by assumption)) ?_
      | refine bq_fn (by first | assumption | exact Int32.not_lt.mp (by assumption) | exact Int32.not_le.mp (by assumption) | exact Int32.not_lt.mpr (by assumption) | exact Int32.not_le.mpr (by assumption)) ?_)
    first
      | exact ⟨rfl, ⟨r0, r1, r2, r3, r4, r5, r6.succ, r7, r8.succ⟩⟩
      | exact ⟨trivial, ⟨r0, r1, r2, r3, r4, r5, r6.succ, r7, r8.succ⟩⟩
  · have k2 : ¬ 20 ≤ gX σ 4 - 1 := by grind
    have v1 := vp_20 (Int32.not_lt.mp k1) (Int32.not_le.mp k2)
    have b := a3 _ (vp_lt v1)
    have k3 : ¬ gA σ 2 (gX σ 4 - 1).toNatClampNeg < 0 := Int32.not_lt.mpr b.1
    by_cases k4 : x < 1
    · have k7 : gX σ 4 - 1 < 0 ∨ ¬ gX σ 4 - 1 < 0 := Decidable.em _
      try (have k8 : gA σ 2 (gX σ 4 - 1).toNatClampNeg = 30 := by grind)
      try (have k9 : 20 < x := Int32.not_le.mp (by assumption))
      repeat' (first
        | refine C_TH_word _ _ (B_TH_word_0 _ _ ?_)
        | refine C_Mn_addWord _ _ (B_Mn_addWord_0 _ _ ?_)
        | refine C_Md_word _ _ (B_Md_word_0 _ _ ?_)
        | refine C_Md_is _ _ _ _ (B_Md_is_0 _ _ _ _ ?_)
        | refine ⟨(by assumption : vp_in _ _), ?_⟩
        | simp only [-eq_self, gs_X_A, gs_X_B, gs_A_A, gs_A_B, gs_B_A, gs_B_B, gs_P_A, gs_P_B, gs_N_A, gs_N_B, gs_F_A, gs_F_B, gs_G_A, gs_G_B, gs_f_A, gs_f_B, gs_g_A, gs_g_B, gs_D_A, gs_D_B, gs_n_A, gs_n_B, gs_Y_A, gs_Y_B, gs_C_A, gs_C_B, gs_Q_A, gs_Q_B, reduceIte, Nat.reduceEqDiff, eN, e2]
        | refine ⟨lnb _ (Or.inl rfl), ?_⟩
        | refine ⟨lnb _ (Or.inr rfl), ?_⟩
        | refine bq_t rfl ?_
        | refine bq_f (by decide) ?_
        | refine bq_tn rfl ?_
        | refine bq_fn (by decide) ?_
        | refine bq_t trivial ?_
        | refine bq_t (by first | assumption | exact Int32.not_lt.mp (by assumption) | exact Int32.not_le.mp (by assumption) | exact Int32.not_lt.mpr (by assumption) | exact Int32.not_le.mpr (by assumption)) ?_
        | refine bq_f (by first | assumption | exact Int32.not_lt.mp (by assumption) | exact Int32.not_le.mp (by assumption) | exact Int32.not_lt.mpr (by assumption) | exact Int32.not_le.mpr (by assumption)) ?_
        | refine bq_tn (by first | assumption | exact Int32.not_lt.mp (by assumption) | exact Int32.not_le.mp (by assumption) | exact Int32.not_lt.mpr (by assumption) | exact Int32.not_le.mpr (by assumption)) ?_
        | refine bq_fn (by first | assumption | exact Int32.not_lt.mp (by assumption) | exact Int32.not_le.mp (by assumption) | exact Int32.not_lt.mpr (by assumption) | exact Int32.not_le.mpr (by assumption)) ?_)
      first
        | exact ⟨rfl, ⟨r0, r1, r2, r3, r4, r5, r6.succ, r7, r8.succ⟩⟩
        | exact ⟨trivial, ⟨r0, r1, r2, r3, r4, r5, r6.succ, r7, r8.succ⟩⟩
    · by_cases k5 : ¬ x ≤ 20
      · have k7 : gX σ 4 - 1 < 0 ∨ ¬ gX σ 4 - 1 < 0 := Decidable.em _
        try (have k8 : gA σ 2 (gX σ 4 - 1).toNatClampNeg = 30 := by grind)
        try (have k9 : 20 < x := Int32.not_le.mp (by assumption))
        repeat' (first
          | refine C_TH_word _ _ (B_TH_word_0 _ _ ?_)
          | refine C_Mn_addWord _ _ (B_Mn_addWord_0 _ _ ?_)
          | refine C_Md_word _ _ (B_Md_word_0 _ _ ?_)
          | refine C_Md_is _ _ _ _ (B_Md_is_0 _ _ _ _ ?_)
          | refine ⟨(by assumption : vp_in _ _), ?_⟩
          | simp only [-eq_self, gs_X_A, gs_X_B, gs_A_A, gs_A_B, gs_B_A, gs_B_B, gs_P_A, gs_P_B, gs_N_A, gs_N_B, gs_F_A, gs_F_B, gs_G_A, gs_G_B, gs_f_A, gs_f_B, gs_g_A, gs_g_B, gs_D_A, gs_D_B, gs_n_A, gs_n_B, gs_Y_A, gs_Y_B, gs_C_A, gs_C_B, gs_Q_A, gs_Q_B, reduceIte, Nat.reduceEqDiff, eN, e2]
          | refine ⟨lnb _ (Or.inl rfl), ?_⟩
          | refine ⟨lnb _ (Or.inr rfl), ?_⟩
          | refine bq_t rfl ?_
          | refine bq_f (by decide) ?_
          | refine bq_tn rfl ?_
          | refine bq_fn (by decide) ?_
          | refine bq_t trivial ?_
          | refine bq_t (by first | assumption | exact Int32.not_lt.mp (by assumption) | exact Int32.not_le.mp (by assumption) | exact Int32.not_lt.mpr (by assumption) | exact Int32.not_le.mpr (by assumption)) ?_
          | refine bq_f (by first | assumption | exact Int32.not_lt.mp (by assumption) | exact Int32.not_le.mp (by assumption) | exact Int32.not_lt.mpr (by assumption) | exact Int32.not_le.mpr (by assumption)) ?_
          | refine bq_tn (by first | assumption | exact Int32.not_lt.mp (by assumption) | exact Int32.not_le.mp (by assumption) | exact Int32.not_lt.mpr (by assumption) | exact Int32.not_le.mpr (by assumption)) ?_
          | refine bq_fn (by first | assumption | exact Int32.not_lt.mp (by assumption) | exact Int32.not_le.mp (by assumption) | exact Int32.not_lt.mpr (by assumption) | exact Int32.not_le.mpr (by assumption)) ?_)
        first
          | exact ⟨rfl, ⟨r0, r1, r2, r3, r4, r5, r6.succ, r7, r8.succ⟩⟩
          | exact ⟨trivial, ⟨r0, r1, r2, r3, r4, r5, r6.succ, r7, r8.succ⟩⟩
      · replace k5 := Decidable.not_not.mp k5
        have k5b : ¬ 20 < x := Int32.not_lt.mpr k5
        clear a3
        by_cases k6 : ¬ gA σ 2 (gX σ 4 - 1).toNatClampNeg < 30
        · have k7 : gX σ 4 - 1 < 0 ∨ ¬ gX σ 4 - 1 < 0 := Decidable.em _
          try (have k8 : gA σ 2 (gX σ 4 - 1).toNatClampNeg = 30 := by grind)
          try (have k9 : 20 < x := Int32.not_le.mp (by assumption))
          repeat' (first
            | refine C_TH_word _ _ (B_TH_word_0 _ _ ?_)
            | refine C_Mn_addWord _ _ (B_Mn_addWord_0 _ _ ?_)
            | refine C_Md_word _ _ (B_Md_word_0 _ _ ?_)
            | refine C_Md_is _ _ _ _ (B_Md_is_0 _ _ _ _ ?_)
            | refine ⟨(by assumption : vp_in _ _), ?_⟩
            | simp only [-eq_self, gs_X_A, gs_X_B, gs_A_A, gs_A_B, gs_B_A, gs_B_B, gs_P_A, gs_P_B, gs_N_A, gs_N_B, gs_F_A, gs_F_B, gs_G_A, gs_G_B, gs_f_A, gs_f_B, gs_g_A, gs_g_B, gs_D_A, gs_D_B, gs_n_A, gs_n_B, gs_Y_A, gs_Y_B, gs_C_A, gs_C_B, gs_Q_A, gs_Q_B, reduceIte, Nat.reduceEqDiff, eN, e2]
            | refine ⟨lnb _ (Or.inl rfl), ?_⟩
            | refine ⟨lnb _ (Or.inr rfl), ?_⟩
            | refine bq_t rfl ?_
            | refine bq_f (by decide) ?_
            | refine bq_tn rfl ?_
            | refine bq_fn (by decide) ?_
            | refine bq_t trivial ?_
            | refine bq_t (by first | assumption | exact Int32.not_lt.mp (by assumption) | exact Int32.not_le.mp (by assumption) | exact Int32.not_lt.mpr (by assumption) | exact Int32.not_le.mpr (by assumption)) ?_
            | refine bq_f (by first | assumption | exact Int32.not_lt.mp (by assumption) | exact Int32.not_le.mp (by assumption) | exact Int32.not_lt.mpr (by assumption) | exact Int32.not_le.mpr (by assumption)) ?_
            | refine bq_tn (by first | assumption | exact Int32.not_lt.mp (by assumption) | exact Int32.not_le.mp (by assumption) | exact Int32.not_lt.mpr (by assumption) | exact Int32.not_le.mpr (by assumption)) ?_
            | refine bq_fn (by first | assumption | exact Int32.not_lt.mp (by assumption) | exact Int32.not_le.mp (by assumption) | exact Int32.not_lt.mpr (by assumption) | exact Int32.not_le.mpr (by assumption)) ?_)
          first
            | exact ⟨rfl, ⟨r0, r1, r2, r3, r4, r5, r6.succ, r7, r8.succ⟩⟩
            | exact ⟨trivial, ⟨r0, r1, r2, r3, r4, r5, r6.succ, r7, r8.succ⟩⟩
        · replace k6 := Decidable.not_not.mp k6
          have k7 : ¬ gA σ 2 (gX σ 4 - 1).toNatClampNeg = 30 := by
            intro q
            rw [q] at k6
            exact absurd k6 (by decide)
          have v2 := vp_30 b.1 k6
          have v3 : vp_in (30 * (gX σ 4 - 1) + gA σ 2 (gX σ 4 - 1).toNatClampNeg) 600 := ix_abv 30 (n := 20) (m := 30) v1 v2 (by decide) (by decide)
          repeat' (first
            | refine C_TH_word _ _ (B_TH_word_0 _ _ ?_)
            | refine C_Mn_addWord _ _ (B_Mn_addWord_0 _ _ ?_)
            | refine C_Md_word _ _ (B_Md_word_0 _ _ ?_)
            | refine C_Md_is _ _ _ _ (B_Md_is_0 _ _ _ _ ?_)
            | refine ⟨(by assumption : vp_in _ _), ?_⟩
            | simp only [-eq_self, gs_X_A, gs_X_B, gs_A_A, gs_A_B, gs_B_A, gs_B_B, gs_P_A, gs_P_B, gs_N_A, gs_N_B, gs_F_A, gs_F_B, gs_G_A, gs_G_B, gs_f_A, gs_f_B, gs_g_A, gs_g_B, gs_D_A, gs_D_B, gs_n_A, gs_n_B, gs_Y_A, gs_Y_B, gs_C_A, gs_C_B, gs_Q_A, gs_Q_B, reduceIte, Nat.reduceEqDiff, eN, e2]
            | refine ⟨lnb _ (Or.inl rfl), ?_⟩
            | refine ⟨lnb _ (Or.inr rfl), ?_⟩
            | refine bq_t rfl ?_
            | refine bq_f (by decide) ?_
            | refine bq_tn rfl ?_
            | refine bq_fn (by decide) ?_
            | refine bq_t trivial ?_
            | refine bq_t (by first | assumption | exact Int32.not_lt.mp (by assumption) | exact Int32.not_le.mp (by assumption) | exact Int32.not_lt.mpr (by assumption) | exact Int32.not_le.mpr (by assumption)) ?_
            | refine bq_f (by first | assumption | exact Int32.not_lt.mp (by assumption) | exact Int32.not_le.mp (by assumption) | exact Int32.not_lt.mpr (by assumption) | exact Int32.not_le.mpr (by assumption)) ?_
            | refine bq_tn (by first | assumption | exact Int32.not_lt.mp (by assumption) | exact Int32.not_le.mp (by assumption) | exact Int32.not_lt.mpr (by assumption) | exact Int32.not_le.mpr (by assumption)) ?_
            | refine bq_fn (by first | assumption | exact Int32.not_lt.mp (by assumption) | exact Int32.not_le.mp (by assumption) | exact Int32.not_lt.mpr (by assumption) | exact Int32.not_le.mpr (by assumption)) ?_)
          have ei : (30 * (gX σ 4 - 1) + gA σ 2 (gX σ 4 - 1).toNatClampNeg).toNatClampNeg = 30 * (gX σ 4 - 1).toNatClampNeg + (gA σ 2 (gX σ 4 - 1).toNatClampNeg).toNatClampNeg := ix_ab 30 (n := 20) (m := 30) v1 v2 (by decide)
          have t0 := ti_nonneg b.1
          have t1 := Int32.le_iff_toInt_le.mp b.2
          have t4 := Int32.lt_iff_toInt_lt.mp k6
          have t2 : (30 : Int32).toInt = 30 := rfl
          have t3 : (1 : Int32).toInt = 1 := rfl
          have t5 := ti_add (x := gA σ 2 (gX σ 4 - 1).toNatClampNeg) (y := 1) (by omega) (by omega)
          have e := M1.word r1 (p := (gX σ 4 - 1).toNatClampNeg) (k := (gA σ 2 (gX σ 4 - 1).toNatClampNeg).toNatClampNeg) (v := x) (w := gA σ 2 (gX σ 4 - 1).toNatClampNeg + 1) (vp_lt v1) rfl (vp_lt v2) ⟨Int32.not_lt.mp k4, k5⟩ ⟨N_add1 t0 (by omega), Int32.le_iff_toInt_le.mpr (by rw [t5]; show (0 : Int) ≤ _; omega), Int32.le_iff_toInt_le.mpr (by rw [t5]; omega)⟩
          rw [ei]
          refine ⟨?_, ⟨r0, ?_, r2, r3, r4, r5, r6.succ, r7, r8.succ⟩⟩
          · unfold upd
            rw [if_pos rfl]
          · rw [e2] at e
            exact e
