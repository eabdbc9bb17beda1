/-! an operation -/
theorem lv {a b c d : Int32} {n : Nat} (hn : n < 512) (h1 : 0 ≤ b.toInt) (h2 : 0 ≤ c.toInt) (h3 : 0 ≤ d.toInt) (h4 : b.toInt + c.toInt + d.toInt ≤ a.toInt) (h5 : a.toInt ≤ 100000 * n) : (((a - b) - c) - d).toInt = a.toInt - b.toInt - c.toInt - d.toInt := by
  have t1 := ti_sub (x := a) (y := b) (by omega) (by omega)
  have t2 := ti_sub (x := a - b) (y := c) (by omega) (by omega)
  rw [ti_sub (by omega) (by omega), t2, t1]
set_option maxHeartbeats 2000000 in
theorem op_pulp {S : XS} {n : Nat} {σ : St} (h : RR n σ) (a : Int32) (b : Int32) (hn : n < 512) : OPI S n σ m_TH_pulp m_Md_pulp [.int a, .int b] := by
  obtain ⟨r0, r1, r2, r3, r4, r5, r6, r7, r8⟩ := h
  unfold OPI
  have a9 := r3.1
  have eP : gQ σ = gP σ := r6.2.2.2.2.1.symm
  have e18 : gY σ 15 = gX σ 18 := r6.1.1.symm
  have e19 : gY σ 16 = gX σ 19 := r6.2.1.1.symm
  have e20 : gY σ 17 = gX σ 20 := r6.2.2.1.1.symm
  have e21 : gY σ 18 = gX σ 21 := r6.2.2.2.1.1.symm
  by_cases hE : HE (gA σ 9) a b
  · have hE2 : HE (gC σ 21) a b := by rw [← a9]; exact hE
    obtain ⟨i, j, ⟨hi, hj, w0, w1, w2, w3, w4, w5⟩, ⟨v0, v1, v2, v3, v4, v5⟩, pi, pj⟩ := hE.slf r3
    obtain ⟨f0, f1, f2, f3, f4⟩ := r6.2.2.2.2.2.1 i j hi hj
    obtain ⟨c0, c1, c2, c3, c4, c5⟩ := r6.2.2.2.2.2.2 (4 * i + j) (by omega)
    repeat' (first
      | ((with_reducible refine K_haveT ?_ ?_); exact hE)
      | ((with_reducible refine K_isEdT ?_ ?_); exact hE2)
      | ((with_reducible refine K_isSlot ?_ ?_); (with_reducible assumption))
      | ((with_reducible refine K_left ?_ ?_); (with_reducible assumption))
      | with_reducible refine K_row ?_
      | with_reducible refine K_slot ?_
      | ((with_reducible refine K_stays ?_ ?_ ?_ ?_ ?_); (with_reducible assumption); (with_reducible assumption); (with_reducible assumption); (with_reducible assumption))
      | ((with_reducible refine K_isT ?_ ?_); (with_reducible assumption))
      | ((with_reducible refine K_isF ?_ ?_); (with_reducible assumption))
      | ((with_reducible refine K_isPartT ?_ ?_); (with_reducible assumption))
      | ((with_reducible refine K_isPartF ?_ ?_); (with_reducible assumption))
      | ((with_reducible refine K_misPartT ?_ ?_); (with_reducible assumption))
      | ((with_reducible refine K_misPartF ?_ ?_); (with_reducible assumption))
      | with_reducible refine C_TH_pulp _ _ _ (B_TH_pulp_0 _ _ _ ?_)
      | with_reducible refine C_Sh_takePulped _ _ (B_Sh_takePulped_0 _ _ ?_)
      | with_reducible refine C_Md_pulp _ _ _ (B_Md_pulp_0 _ _ _ ?_)
      | refine ⟨(by with_reducible assumption : vp_in _ _), ?_⟩
      | simp only [-eq_self, gs_X_X, gs_X_A, gs_X_P, gs_X_Y, gs_X_C, gs_X_Q, gs_A_X, gs_A_A, gs_A_P, gs_A_Y, gs_A_C, gs_A_Q, gs_B_X, gs_B_A, gs_B_P, gs_B_Y, gs_B_C, gs_B_Q, gs_P_X, gs_P_A, gs_P_P, gs_P_Y, gs_P_C, gs_P_Q, gs_N_X, gs_N_A, gs_N_P, gs_N_Y, gs_N_C, gs_N_Q, gs_F_X, gs_F_A, gs_F_P, gs_F_Y, gs_F_C, gs_F_Q, gs_G_X, gs_G_A, gs_G_P, gs_G_Y, gs_G_C, gs_G_Q, gs_f_X, gs_f_A, gs_f_P, gs_f_Y, gs_f_C, gs_f_Q, gs_g_X, gs_g_A, gs_g_P, gs_g_Y, gs_g_C, gs_g_Q, gs_D_X, gs_D_A, gs_D_P, gs_D_Y, gs_D_C, gs_D_Q, gs_n_X, gs_n_A, gs_n_P, gs_n_Y, gs_n_C, gs_n_Q, gs_Y_X, gs_Y_A, gs_Y_P, gs_Y_Y, gs_Y_C, gs_Y_Q, gs_C_X, gs_C_A, gs_C_P, gs_C_Y, gs_C_C, gs_C_Q, gs_Q_X, gs_Q_A, gs_Q_P, gs_Q_Y, gs_Q_C, gs_Q_Q, reduceIte, Nat.reduceEqDiff, w0, w1, w2, w3, w4, w5, f0, f1, f2, f3, f4, eP, e18, e19, e20, e21]
      | refine ⟨lnb _ (Or.inl rfl), ?_⟩
      | refine ⟨lnb _ (Or.inr rfl), ?_⟩
      | refine bq_t rfl ?_
      | refine bq_f (by decide) ?_
      | refine bq_tn rfl ?_
      | refine bq_fn (by decide) ?_
      | refine bq_t trivial ?_
      | refine bq_t (by first | with_reducible assumption | exact Int32.not_lt.mp (by with_reducible assumption) | exact Int32.not_le.mp (by with_reducible assumption) | exact Int32.not_lt.mpr (by with_reducible assumption) | exact Int32.not_le.mpr (by with_reducible assumption)) ?_
      | refine bq_f (by first | with_reducible assumption | exact Int32.not_lt.mp (by with_reducible assumption) | exact Int32.not_le.mp (by with_reducible assumption) | exact Int32.not_lt.mpr (by with_reducible assumption) | exact Int32.not_le.mpr (by with_reducible assumption)) ?_
      | refine bq_tn (by first | with_reducible assumption | exact Int32.not_lt.mp (by with_reducible assumption) | exact Int32.not_le.mp (by with_reducible assumption) | exact Int32.not_lt.mpr (by with_reducible assumption) | exact Int32.not_le.mpr (by with_reducible assumption)) ?_
      | refine bq_fn (by first | with_reducible assumption | exact Int32.not_lt.mp (by with_reducible assumption) | exact Int32.not_le.mp (by with_reducible assumption) | exact Int32.not_lt.mpr (by with_reducible assumption) | exact Int32.not_le.mpr (by with_reducible assumption)) ?_)
    have l0 := lv hn c1 c2 c3 c4 c5
    have l1 := ti_add (x := gA σ 15 (4 * i + j)) (y := gA σ 13 (4 * i + j) - gA σ 14 (4 * i + j) - gA σ 15 (4 * i + j) - gA σ 16 (4 * i + j)) (by omega) (by omega)
    exact ⟨rfl, ⟨r0, r1, r2, r3, r4, r5, M6.u2 r6 hi hj rfl ⟨c0, c1, by omega, c3, by omega, by omega⟩, r7, r8.succ⟩⟩
  · have hE2 : ¬ HE (gC σ 21) a b := by rw [← a9]; exact hE
    repeat' (first
      | ((with_reducible refine K_haveF ?_ ?_); exact hE)
      | ((with_reducible refine K_isEdF ?_ ?_); exact hE2)
      | ((with_reducible refine K_isSlot ?_ ?_); (with_reducible assumption))
      | ((with_reducible refine K_left ?_ ?_); (with_reducible assumption))
      | with_reducible refine K_row ?_
      | with_reducible refine K_slot ?_
      | ((with_reducible refine K_stays ?_ ?_ ?_ ?_ ?_); (with_reducible assumption); (with_reducible assumption); (with_reducible assumption); (with_reducible assumption))
      | ((with_reducible refine K_isT ?_ ?_); (with_reducible assumption))
      | ((with_reducible refine K_isF ?_ ?_); (with_reducible assumption))
      | ((with_reducible refine K_isPartT ?_ ?_); (with_reducible assumption))
      | ((with_reducible refine K_isPartF ?_ ?_); (with_reducible assumption))
      | ((with_reducible refine K_misPartT ?_ ?_); (with_reducible assumption))
      | ((with_reducible refine K_misPartF ?_ ?_); (with_reducible assumption))
      | with_reducible refine C_TH_pulp _ _ _ (B_TH_pulp_0 _ _ _ ?_)
      | with_reducible refine C_Md_pulp _ _ _ (B_Md_pulp_0 _ _ _ ?_)
      | refine ⟨(by with_reducible assumption : vp_in _ _), ?_⟩
      | refine ⟨lnb _ (Or.inl rfl), ?_⟩
      | refine ⟨lnb _ (Or.inr rfl), ?_⟩
      | refine bq_t rfl ?_
      | refine bq_f (by decide) ?_
      | refine bq_tn rfl ?_
      | refine bq_fn (by decide) ?_
      | refine bq_t trivial ?_
      | refine bq_t (by first | with_reducible assumption | exact Int32.not_lt.mp (by with_reducible assumption) | exact Int32.not_le.mp (by with_reducible assumption) | exact Int32.not_lt.mpr (by with_reducible assumption) | exact Int32.not_le.mpr (by with_reducible assumption)) ?_
      | refine bq_f (by first | with_reducible assumption | exact Int32.not_lt.mp (by with_reducible assumption) | exact Int32.not_le.mp (by with_reducible assumption) | exact Int32.not_lt.mpr (by with_reducible assumption) | exact Int32.not_le.mpr (by with_reducible assumption)) ?_
      | refine bq_tn (by first | with_reducible assumption | exact Int32.not_lt.mp (by with_reducible assumption) | exact Int32.not_le.mp (by with_reducible assumption) | exact Int32.not_lt.mpr (by with_reducible assumption) | exact Int32.not_le.mpr (by with_reducible assumption)) ?_
      | refine bq_fn (by first | with_reducible assumption | exact Int32.not_lt.mp (by with_reducible assumption) | exact Int32.not_le.mp (by with_reducible assumption) | exact Int32.not_lt.mpr (by with_reducible assumption) | exact Int32.not_le.mpr (by with_reducible assumption)) ?_)
    first
      | exact ⟨rfl, ⟨r0, r1, r2, r3, r4, r5, r6.succ, r7, r8.succ⟩⟩
      | exact ⟨trivial, ⟨r0, r1, r2, r3, r4, r5, r6.succ, r7, r8.succ⟩⟩
