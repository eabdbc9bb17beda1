/-! an operation -/
set_option maxHeartbeats 2000000 in
theorem op_found {S : XS} {n : Nat} {σ : St} (h : RR n σ) (x : Int32) (y : Int32) : OPI S n σ m_TH_found m_Md_found [.int x, .int y] := by
  obtain ⟨r0, r1, r2, r3, r4, r5, r6, r7, r8⟩ := h
  unfold OPI
  obtain ⟨a1, a11, a12⟩ := id r4.2.1
  have e1 : gY σ 12 = gX σ 16 := a1.symm
  by_cases k1 : x < 0
  · repeat' (first
      | refine C_TH_found _ _ _ (B_TH_found_0 _ _ _ ?_)
      | refine C_Fs_foundPair _ _ _ (B_Fs_foundPair_0 _ _ _ ?_)
      | refine C_Md_found _ _ _ (B_Md_found_0 _ _ _ ?_)
      | refine C_Md_is _ _ _ _ (B_Md_is_0 _ _ _ _ ?_)
      | refine ⟨(by assumption : vp_in _ _), ?_⟩
      | simp only [-eq_self, e1]
      | refine ⟨lnb _ (Or.inl rfl), ?_⟩
      | refine ⟨lnb _ (Or.inr rfl), ?_⟩
      | refine bq_t rfl ?_
      | refine bq_f (by decide) ?_
      | refine bq_tn rfl ?_
      | refine bq_fn (by decide) ?_
      | refine bq_t trivial ?_
      | refine bq_t (by first | assumption | exact Int32.not_lt.mp (by assumption) | exact Int32.not_le.mp (by assumption) | exact Int32.not_lt.mpr (by assumption) | exact Int32.not_le.mpr (by assumption)) ?_
      | refine bq_f (by first | assumption | exact Int32.not_lt.mp (by assumption) | exact Int32.not_le.mp (by assumption) | exact Int32.not_lt.mpr (by assumption) | exact Int32.not_le.mpr (by assumption)) ?_
      | refine bq_tn (by first | assumption | exact Int32.not_lt.mp (by assumption) | exact Int32.not_le.mp (by assumption) | exact Int32.not_lt.mpr (by assumption) | exact Int32.not_le.mpr (by assumption)) ?_
      | refine bq_fn (by first | assumption | exact Int32.not_lt.mp (by assumption) | exact Int32.not_le.mp (by assumption) | exact Int32.not_lt.mpr (by assumption) | exact Int32.not_le.mpr (by assumption)) ?_)
    first
      | exact ⟨rfl, ⟨r0, r1, r2, r3, r4, r5, r6.succ, r7, r8.succ⟩⟩
      | exact ⟨trivial, ⟨r0, r1, r2, r3, r4, r5, r6.succ, r7, r8.succ⟩⟩
  · by_cases k2 : ¬ x < gX σ 16
    · repeat' (first
        | refine C_TH_found _ _ _ (B_TH_found_0 _ _ _ ?_)
        | refine C_Fs_foundPair _ _ _ (B_Fs_foundPair_0 _ _ _ ?_)
        | refine C_Md_found _ _ _ (B_Md_found_0 _ _ _ ?_)
        | refine C_Md_is _ _ _ _ (B_Md_is_0 _ _ _ _ ?_)
        | refine ⟨(by assumption : vp_in _ _), ?_⟩
        | simp only [-eq_self, e1]
        | refine ⟨lnb _ (Or.inl rfl), ?_⟩
        | refine ⟨lnb _ (Or.inr rfl), ?_⟩
        | refine bq_t rfl ?_
        | refine bq_f (by decide) ?_
        | refine bq_tn rfl ?_
        | refine bq_fn (by decide) ?_
        | refine bq_t trivial ?_
        | refine bq_t (by first | assumption | exact Int32.not_lt.mp (by assumption) | exact Int32.not_le.mp (by assumption) | exact Int32.not_lt.mpr (by assumption) | exact Int32.not_le.mpr (by assumption)) ?_
        | refine bq_f (by first | assumption | exact Int32.not_lt.mp (by assumption) | exact Int32.not_le.mp (by assumption) | exact Int32.not_lt.mpr (by assumption) | exact Int32.not_le.mpr (by assumption)) ?_
        | refine bq_tn (by first | assumption | exact Int32.not_lt.mp (by assumption) | exact Int32.not_le.mp (by assumption) | exact Int32.not_lt.mpr (by assumption) | exact Int32.not_le.mpr (by assumption)) ?_
        | refine bq_fn (by first | assumption | exact Int32.not_lt.mp (by assumption) | exact Int32.not_le.mp (by assumption) | exact Int32.not_lt.mpr (by assumption) | exact Int32.not_le.mpr (by assumption)) ?_)
      first
        | exact ⟨rfl, ⟨r0, r1, r2, r3, r4, r5, r6.succ, r7, r8.succ⟩⟩
        | exact ⟨trivial, ⟨r0, r1, r2, r3, r4, r5, r6.succ, r7, r8.succ⟩⟩
    · replace k2 := Decidable.not_not.mp k2
      have c1 := Int32.not_lt.mp k1
      have c2 : x < 1770 := by grind
      have v1 := vp_1770 c1 c2
      have b := r4.2.2.1 x.toNatClampNeg (vp_lt v1)
      by_cases y0 : y = 0
      · subst y0
        have i0 : (2 * x + 0).toNatClampNeg = 2 * x.toNatClampNeg := ix_ab 2 (n := 1770) (m := 2) v1 (vp_in_iff.mpr ⟨by decide, by decide⟩) (by decide)
        have v2 : vp_in (2 * x + 0) 3600 := ix_abv 2 (n := 1770) (m := 2) v1 (vp_in_iff.mpr ⟨by decide, by decide⟩) (by decide) (by decide)
        have w1 : ¬ (0 : Int32) < 0 := by decide
        have w2 : ¬ (1 : Int32) < 0 := by decide
        repeat' (first
          | refine C_TH_found _ _ _ (B_TH_found_0 _ _ _ ?_)
          | refine C_Fs_foundPair _ _ _ (B_Fs_foundPair_0 _ _ _ ?_)
          | refine C_Md_found _ _ _ (B_Md_found_0 _ _ _ ?_)
          | refine C_Md_is _ _ _ _ (B_Md_is_0 _ _ _ _ ?_)
          | refine ⟨(by assumption : vp_in _ _), ?_⟩
          | simp only [-eq_self, e1]
          | refine ⟨lnb _ (Or.inl rfl), ?_⟩
          | refine ⟨lnb _ (Or.inr rfl), ?_⟩
          | refine bq_t rfl ?_
          | refine bq_f (by decide) ?_
          | refine bq_tn rfl ?_
          | refine bq_fn (by decide) ?_
          | refine bq_t trivial ?_
          | refine bq_t (by first | assumption | exact Int32.not_lt.mp (by assumption) | exact Int32.not_le.mp (by assumption) | exact Int32.not_lt.mpr (by assumption) | exact Int32.not_le.mpr (by assumption)) ?_
          | refine bq_f (by first | assumption | exact Int32.not_lt.mp (by assumption) | exact Int32.not_le.mp (by assumption) | exact Int32.not_lt.mpr (by assumption) | exact Int32.not_le.mpr (by assumption)) ?_
          | refine bq_tn (by first | assumption | exact Int32.not_lt.mp (by assumption) | exact Int32.not_le.mp (by assumption) | exact Int32.not_lt.mpr (by assumption) | exact Int32.not_le.mpr (by assumption)) ?_
          | refine bq_fn (by first | assumption | exact Int32.not_lt.mp (by assumption) | exact Int32.not_le.mp (by assumption) | exact Int32.not_lt.mpr (by assumption) | exact Int32.not_le.mpr (by assumption)) ?_)
        rw [i0]
        exact ⟨b.1.symm, ⟨r0, r1, r2, r3, r4, r5, r6.succ, r7, r8.succ⟩⟩
      · by_cases y1 : y = 1
        · subst y1
          have i0 : (2 * x + 1).toNatClampNeg = 2 * x.toNatClampNeg + 1 := ix_ab 2 (n := 1770) (m := 2) v1 (vp_in_iff.mpr ⟨by decide, by decide⟩) (by decide)
          have v2 : vp_in (2 * x + 1) 3600 := ix_abv 2 (n := 1770) (m := 2) v1 (vp_in_iff.mpr ⟨by decide, by decide⟩) (by decide) (by decide)
          have w1 : ¬ (1 : Int32) < 0 := by decide
          have w2 : ¬ (1 : Int32) < 1 := by decide
          repeat' (first
            | refine C_TH_found _ _ _ (B_TH_found_0 _ _ _ ?_)
            | refine C_Fs_foundPair _ _ _ (B_Fs_foundPair_0 _ _ _ ?_)
            | refine C_Md_found _ _ _ (B_Md_found_0 _ _ _ ?_)
            | refine C_Md_is _ _ _ _ (B_Md_is_0 _ _ _ _ ?_)
            | refine ⟨(by assumption : vp_in _ _), ?_⟩
            | simp only [-eq_self, e1]
            | refine ⟨lnb _ (Or.inl rfl), ?_⟩
            | refine ⟨lnb _ (Or.inr rfl), ?_⟩
            | refine bq_t rfl ?_
            | refine bq_f (by decide) ?_
            | refine bq_tn rfl ?_
            | refine bq_fn (by decide) ?_
            | refine bq_t trivial ?_
            | refine bq_t (by first | assumption | exact Int32.not_lt.mp (by assumption) | exact Int32.not_le.mp (by assumption) | exact Int32.not_lt.mpr (by assumption) | exact Int32.not_le.mpr (by assumption)) ?_
            | refine bq_f (by first | assumption | exact Int32.not_lt.mp (by assumption) | exact Int32.not_le.mp (by assumption) | exact Int32.not_lt.mpr (by assumption) | exact Int32.not_le.mpr (by assumption)) ?_
            | refine bq_tn (by first | assumption | exact Int32.not_lt.mp (by assumption) | exact Int32.not_le.mp (by assumption) | exact Int32.not_lt.mpr (by assumption) | exact Int32.not_le.mpr (by assumption)) ?_
            | refine bq_fn (by first | assumption | exact Int32.not_lt.mp (by assumption) | exact Int32.not_le.mp (by assumption) | exact Int32.not_lt.mpr (by assumption) | exact Int32.not_le.mpr (by assumption)) ?_)
          rw [i0]
          exact ⟨b.2.symm, ⟨r0, r1, r2, r3, r4, r5, r6.succ, r7, r8.succ⟩⟩
        · by_cases y2 : y < 0
          · repeat' (first
              | refine C_TH_found _ _ _ (B_TH_found_0 _ _ _ ?_)
              | refine C_Fs_foundPair _ _ _ (B_Fs_foundPair_0 _ _ _ ?_)
              | refine C_Md_found _ _ _ (B_Md_found_0 _ _ _ ?_)
              | refine C_Md_is _ _ _ _ (B_Md_is_0 _ _ _ _ ?_)
              | refine ⟨(by assumption : vp_in _ _), ?_⟩
              | simp only [-eq_self, e1]
              | refine ⟨lnb _ (Or.inl rfl), ?_⟩
              | refine ⟨lnb _ (Or.inr rfl), ?_⟩
              | refine bq_t rfl ?_
              | refine bq_f (by decide) ?_
              | refine bq_tn rfl ?_
              | refine bq_fn (by decide) ?_
              | refine bq_t trivial ?_
              | refine bq_t (by first | assumption | exact Int32.not_lt.mp (by assumption) | exact Int32.not_le.mp (by assumption) | exact Int32.not_lt.mpr (by assumption) | exact Int32.not_le.mpr (by assumption)) ?_
              | refine bq_f (by first | assumption | exact Int32.not_lt.mp (by assumption) | exact Int32.not_le.mp (by assumption) | exact Int32.not_lt.mpr (by assumption) | exact Int32.not_le.mpr (by assumption)) ?_
              | refine bq_tn (by first | assumption | exact Int32.not_lt.mp (by assumption) | exact Int32.not_le.mp (by assumption) | exact Int32.not_lt.mpr (by assumption) | exact Int32.not_le.mpr (by assumption)) ?_
              | refine bq_fn (by first | assumption | exact Int32.not_lt.mp (by assumption) | exact Int32.not_le.mp (by assumption) | exact Int32.not_lt.mpr (by assumption) | exact Int32.not_le.mpr (by assumption)) ?_)
            first
              | exact ⟨rfl, ⟨r0, r1, r2, r3, r4, r5, r6.succ, r7, r8.succ⟩⟩
              | exact ⟨trivial, ⟨r0, r1, r2, r3, r4, r5, r6.succ, r7, r8.succ⟩⟩
          · have y3 : 1 < y := by grind
            repeat' (first
              | refine C_TH_found _ _ _ (B_TH_found_0 _ _ _ ?_)
              | refine C_Fs_foundPair _ _ _ (B_Fs_foundPair_0 _ _ _ ?_)
              | refine C_Md_found _ _ _ (B_Md_found_0 _ _ _ ?_)
              | refine C_Md_is _ _ _ _ (B_Md_is_0 _ _ _ _ ?_)
              | refine ⟨(by assumption : vp_in _ _), ?_⟩
              | simp only [-eq_self, e1]
              | refine ⟨lnb _ (Or.inl rfl), ?_⟩
              | refine ⟨lnb _ (Or.inr rfl), ?_⟩
              | refine bq_t rfl ?_
              | refine bq_f (by decide) ?_
              | refine bq_tn rfl ?_
              | refine bq_fn (by decide) ?_
              | refine bq_t trivial ?_
              | refine bq_t (by first | assumption | exact Int32.not_lt.mp (by assumption) | exact Int32.not_le.mp (by assumption) | exact Int32.not_lt.mpr (by assumption) | exact Int32.not_le.mpr (by assumption)) ?_
              | refine bq_f (by first | assumption | exact Int32.not_lt.mp (by assumption) | exact Int32.not_le.mp (by assumption) | exact Int32.not_lt.mpr (by assumption) | exact Int32.not_le.mpr (by assumption)) ?_
              | refine bq_tn (by first | assumption | exact Int32.not_lt.mp (by assumption) | exact Int32.not_le.mp (by assumption) | exact Int32.not_lt.mpr (by assumption) | exact Int32.not_le.mpr (by assumption)) ?_
              | refine bq_fn (by first | assumption | exact Int32.not_lt.mp (by assumption) | exact Int32.not_le.mp (by assumption) | exact Int32.not_lt.mpr (by assumption) | exact Int32.not_le.mpr (by assumption)) ?_)
            first
              | exact ⟨rfl, ⟨r0, r1, r2, r3, r4, r5, r6.succ, r7, r8.succ⟩⟩
              | exact ⟨trivial, ⟨r0, r1, r2, r3, r4, r5, r6.succ, r7, r8.succ⟩⟩
