/-! an operation -/
set_option maxHeartbeats 2000000 in
theorem op_set {S : XS} {n : Nat} {σ : St} (h : RR n σ) (x : Int32) (y : Int32) : OPI S n σ m_TH_set m_Md_set [.int x, .int y] := by
  obtain ⟨r0, r1, r2, r3, r4, r5, r6, r7, r8⟩ := h
  unfold OPI
  obtain ⟨a1, b1, b2⟩ := id r2.1
  have e1 : gY σ 6 = gX σ 11 := a1.symm
  have g2 : gX σ 11 ≤ x → ¬ x < gX σ 11 := Int32.not_lt.mpr
  by_cases k1 : x < 0
  · repeat' (first
      | refine sw4 (fun _ => ?_) (fun h => absurd h (by decide)) (fun h => absurd h (by decide)) (fun h => absurd h (by decide)) (fun h _ _ _ => absurd rfl h)
      | refine sw4 (fun h => absurd h (by decide)) (fun _ => ?_) (fun h => absurd h (by decide)) (fun h => absurd h (by decide)) (fun _ h _ _ => absurd rfl h)
      | refine sw4 (fun h => absurd h (by decide)) (fun h => absurd h (by decide)) (fun _ => ?_) (fun h => absurd h (by decide)) (fun _ _ h _ => absurd rfl h)
      | refine sw4 (fun h => absurd h (by decide)) (fun h => absurd h (by decide)) (fun h => absurd h (by decide)) (fun _ => ?_) (fun _ _ _ h => absurd rfl h)
      | refine sw4 (fun h => absurd h (by assumption)) (fun h => absurd h (by assumption)) (fun h => absurd h (by assumption)) (fun h => absurd h (by assumption)) (fun _ _ _ _ => ?_)
      | refine C_TH_set _ _ _ (B_TH_set_0 _ _ _ ?_)
      | refine C_Se_ofParagraph _ _ _ (B_Se_ofParagraph_0 _ _ _ ?_)
      | refine C_Md_set _ _ _ (B_Md_set_0 _ _ _ ?_)
      | refine ⟨(by assumption : vp_in _ _), ?_⟩
      | simp only [-eq_self, e1]
      | refine ⟨lnb _ (Or.inl rfl), ?_⟩
      | refine ⟨lnb _ (Or.inr rfl), ?_⟩
      | refine bq_t rfl ?_
      | refine bq_f (by decide) ?_
      | refine bq_tn rfl ?_
      | refine bq_fn (by decide) ?_
      | refine bq_t trivial ?_
      | refine bq_t (by first | assumption | exact Int32.not_lt.mp (by assumption) | exact Int32.not_le.mp (by assumption) | exact Int32.not_lt.mpr (by assumption) | exact Int32.not_le.mpr (by assumption)) ?_
      | refine bq_f (by first | assumption | exact Int32.not_lt.mp (by assumption) | exact Int32.not_le.mp (by assumption) | exact Int32.not_lt.mpr (by assumption) | exact Int32.not_le.mpr (by assumption)) ?_
      | refine bq_tn (by first | assumption | exact Int32.not_lt.mp (by assumption) | exact Int32.not_le.mp (by assumption) | exact Int32.not_lt.mpr (by assumption) | exact Int32.not_le.mpr (by assumption)) ?_
      | refine bq_fn (by first | assumption | exact Int32.not_lt.mp (by assumption) | exact Int32.not_le.mp (by assumption) | exact Int32.not_lt.mpr (by assumption) | exact Int32.not_le.mpr (by assumption)) ?_)
    first
      | exact ⟨rfl, ⟨r0, r1, r2, r3, r4, r5, r6.succ, r7, r8.succ⟩⟩
      | exact ⟨trivial, ⟨r0, r1, r2, r3, r4, r5, r6.succ, r7, r8.succ⟩⟩
  · by_cases k2 : gX σ 11 ≤ x
    · repeat' (first
        | refine sw4 (fun _ => ?_) (fun h => absurd h (by decide)) (fun h => absurd h (by decide)) (fun h => absurd h (by decide)) (fun h _ _ _ => absurd rfl h)
        | refine sw4 (fun h => absurd h (by decide)) (fun _ => ?_) (fun h => absurd h (by decide)) (fun h => absurd h (by decide)) (fun _ h _ _ => absurd rfl h)
        | refine sw4 (fun h => absurd h (by decide)) (fun h => absurd h (by decide)) (fun _ => ?_) (fun h => absurd h (by decide)) (fun _ _ h _ => absurd rfl h)
        | refine sw4 (fun h => absurd h (by decide)) (fun h => absurd h (by decide)) (fun h => absurd h (by decide)) (fun _ => ?_) (fun _ _ _ h => absurd rfl h)
        | refine sw4 (fun h => absurd h (by assumption)) (fun h => absurd h (by assumption)) (fun h => absurd h (by assumption)) (fun h => absurd h (by assumption)) (fun _ _ _ _ => ?_)
        | refine C_TH_set _ _ _ (B_TH_set_0 _ _ _ ?_)
        | refine C_Se_ofParagraph _ _ _ (B_Se_ofParagraph_0 _ _ _ ?_)
        | refine C_Md_set _ _ _ (B_Md_set_0 _ _ _ ?_)
        | refine ⟨(by assumption : vp_in _ _), ?_⟩
        | simp only [-eq_self, e1]
        | refine ⟨lnb _ (Or.inl rfl), ?_⟩
        | refine ⟨lnb _ (Or.inr rfl), ?_⟩
        | refine bq_t rfl ?_
        | refine bq_f (by decide) ?_
        | refine bq_tn rfl ?_
        | refine bq_fn (by decide) ?_
        | refine bq_t trivial ?_
        | refine bq_t (by first | assumption | exact Int32.not_lt.mp (by assumption) | exact Int32.not_le.mp (by assumption) | exact Int32.not_lt.mpr (by assumption) | exact Int32.not_le.mpr (by assumption)) ?_
        | refine bq_f (by first | assumption | exact Int32.not_lt.mp (by assumption) | exact Int32.not_le.mp (by assumption) | exact Int32.not_lt.mpr (by assumption) | exact Int32.not_le.mpr (by assumption)) ?_
        | refine bq_tn (by first | assumption | exact Int32.not_lt.mp (by assumption) | exact Int32.not_le.mp (by assumption) | exact Int32.not_lt.mpr (by assumption) | exact Int32.not_le.mpr (by assumption)) ?_
        | refine bq_fn (by first | assumption | exact Int32.not_lt.mp (by assumption) | exact Int32.not_le.mp (by assumption) | exact Int32.not_lt.mpr (by assumption) | exact Int32.not_le.mpr (by assumption)) ?_)
      first
        | exact ⟨rfl, ⟨r0, r1, r2, r3, r4, r5, r6.succ, r7, r8.succ⟩⟩
        | exact ⟨trivial, ⟨r0, r1, r2, r3, r4, r5, r6.succ, r7, r8.succ⟩⟩
    · have v1 : vp_in x 20 := vp_20 (Int32.not_lt.mp k1) (by grind)
      have b := r2.2.2.1 x.toNatClampNeg (N_lt (Int32.not_lt.mp k1) (Int32.not_le.mp k2))
      have k2b := Int32.not_le.mp k2
      by_cases k3 : y < 0
      · have n0 : ¬ y = 0 := by intro q; rw [q] at k3; exact absurd k3 (by decide)
        have n1 : ¬ y = 1 := by intro q; rw [q] at k3; exact absurd k3 (by decide)
        have n2 : ¬ y = 2 := by intro q; rw [q] at k3; exact absurd k3 (by decide)
        have n3 : ¬ y = 3 := by intro q; rw [q] at k3; exact absurd k3 (by decide)
        repeat' (first
          | refine sw4 (fun _ => ?_) (fun h => absurd h (by decide)) (fun h => absurd h (by decide)) (fun h => absurd h (by decide)) (fun h _ _ _ => absurd rfl h)
          | refine sw4 (fun h => absurd h (by decide)) (fun _ => ?_) (fun h => absurd h (by decide)) (fun h => absurd h (by decide)) (fun _ h _ _ => absurd rfl h)
          | refine sw4 (fun h => absurd h (by decide)) (fun h => absurd h (by decide)) (fun _ => ?_) (fun h => absurd h (by decide)) (fun _ _ h _ => absurd rfl h)
          | refine sw4 (fun h => absurd h (by decide)) (fun h => absurd h (by decide)) (fun h => absurd h (by decide)) (fun _ => ?_) (fun _ _ _ h => absurd rfl h)
          | refine sw4 (fun h => absurd h (by assumption)) (fun h => absurd h (by assumption)) (fun h => absurd h (by assumption)) (fun h => absurd h (by assumption)) (fun _ _ _ _ => ?_)
          | refine C_TH_set _ _ _ (B_TH_set_0 _ _ _ ?_)
          | refine C_Se_ofParagraph _ _ _ (B_Se_ofParagraph_0 _ _ _ ?_)
          | refine C_Md_set _ _ _ (B_Md_set_0 _ _ _ ?_)
          | refine ⟨(by assumption : vp_in _ _), ?_⟩
          | simp only [-eq_self, e1]
          | refine ⟨lnb _ (Or.inl rfl), ?_⟩
          | refine ⟨lnb _ (Or.inr rfl), ?_⟩
          | refine bq_t rfl ?_
          | refine bq_f (by decide) ?_
          | refine bq_tn rfl ?_
          | refine bq_fn (by decide) ?_
          | refine bq_t trivial ?_
          | refine bq_t (by first | assumption | exact Int32.not_lt.mp (by assumption) | exact Int32.not_le.mp (by assumption) | exact Int32.not_lt.mpr (by assumption) | exact Int32.not_le.mpr (by assumption)) ?_
          | refine bq_f (by first | assumption | exact Int32.not_lt.mp (by assumption) | exact Int32.not_le.mp (by assumption) | exact Int32.not_lt.mpr (by assumption) | exact Int32.not_le.mpr (by assumption)) ?_
          | refine bq_tn (by first | assumption | exact Int32.not_lt.mp (by assumption) | exact Int32.not_le.mp (by assumption) | exact Int32.not_lt.mpr (by assumption) | exact Int32.not_le.mpr (by assumption)) ?_
          | refine bq_fn (by first | assumption | exact Int32.not_lt.mp (by assumption) | exact Int32.not_le.mp (by assumption) | exact Int32.not_lt.mpr (by assumption) | exact Int32.not_le.mpr (by assumption)) ?_)
        first
          | exact ⟨rfl, ⟨r0, r1, r2, r3, r4, r5, r6.succ, r7, r8.succ⟩⟩
          | exact ⟨trivial, ⟨r0, r1, r2, r3, r4, r5, r6.succ, r7, r8.succ⟩⟩
      · by_cases k4 : y < 4
        · have c : y = 0 ∨ y = 1 ∨ y = 2 ∨ y = 3 := by grind
          rcases c with rfl | rfl | rfl | rfl
          · have v2 : vp_in (0 : Int32) 4 := vp_in_iff.mpr ⟨by decide, by decide⟩
            rcases b.2.1 with z | z
            · have z2 := b.1.trans z
              repeat' (first
                | refine sw4 (fun _ => ?_) (fun h => absurd h (by decide)) (fun h => absurd h (by decide)) (fun h => absurd h (by decide)) (fun h _ _ _ => absurd rfl h)
                | refine sw4 (fun h => absurd h (by decide)) (fun _ => ?_) (fun h => absurd h (by decide)) (fun h => absurd h (by decide)) (fun _ h _ _ => absurd rfl h)
                | refine sw4 (fun h => absurd h (by decide)) (fun h => absurd h (by decide)) (fun _ => ?_) (fun h => absurd h (by decide)) (fun _ _ h _ => absurd rfl h)
                | refine sw4 (fun h => absurd h (by decide)) (fun h => absurd h (by decide)) (fun h => absurd h (by decide)) (fun _ => ?_) (fun _ _ _ h => absurd rfl h)
                | refine sw4 (fun h => absurd h (by assumption)) (fun h => absurd h (by assumption)) (fun h => absurd h (by assumption)) (fun h => absurd h (by assumption)) (fun _ _ _ _ => ?_)
                | refine C_TH_set _ _ _ (B_TH_set_0 _ _ _ ?_)
                | refine C_Se_ofParagraph _ _ _ (B_Se_ofParagraph_0 _ _ _ ?_)
                | refine C_Md_set _ _ _ (B_Md_set_0 _ _ _ ?_)
                | refine ⟨(by assumption : vp_in _ _), ?_⟩
                | simp only [-eq_self, e1]
                | refine ⟨lnb _ (Or.inl rfl), ?_⟩
                | refine ⟨lnb _ (Or.inr rfl), ?_⟩
                | refine bq_t rfl ?_
                | refine bq_f (by decide) ?_
                | refine bq_tn rfl ?_
                | refine bq_fn (by decide) ?_
                | refine bq_t trivial ?_
                | refine bq_t (by first | assumption | exact Int32.not_lt.mp (by assumption) | exact Int32.not_le.mp (by assumption) | exact Int32.not_lt.mpr (by assumption) | exact Int32.not_le.mpr (by assumption)) ?_
                | refine bq_f (by first | assumption | exact Int32.not_lt.mp (by assumption) | exact Int32.not_le.mp (by assumption) | exact Int32.not_lt.mpr (by assumption) | exact Int32.not_le.mpr (by assumption)) ?_
                | refine bq_tn (by first | assumption | exact Int32.not_lt.mp (by assumption) | exact Int32.not_le.mp (by assumption) | exact Int32.not_lt.mpr (by assumption) | exact Int32.not_le.mpr (by assumption)) ?_
                | refine bq_fn (by first | assumption | exact Int32.not_lt.mp (by assumption) | exact Int32.not_le.mp (by assumption) | exact Int32.not_lt.mpr (by assumption) | exact Int32.not_le.mpr (by assumption)) ?_)
              exact ⟨z2, ⟨r0, r1, r2, r3, r4, r5, r6.succ, r7, r8.succ⟩⟩
            · have z2 := b.1.trans z
              have z3 : ¬ gC σ 7 x.toNatClampNeg = 0 := by rw [z]; decide
              repeat' (first
                | refine sw4 (fun _ => ?_) (fun h => absurd h (by decide)) (fun h => absurd h (by decide)) (fun h => absurd h (by decide)) (fun h _ _ _ => absurd rfl h)
                | refine sw4 (fun h => absurd h (by decide)) (fun _ => ?_) (fun h => absurd h (by decide)) (fun h => absurd h (by decide)) (fun _ h _ _ => absurd rfl h)
                | refine sw4 (fun h => absurd h (by decide)) (fun h => absurd h (by decide)) (fun _ => ?_) (fun h => absurd h (by decide)) (fun _ _ h _ => absurd rfl h)
                | refine sw4 (fun h => absurd h (by decide)) (fun h => absurd h (by decide)) (fun h => absurd h (by decide)) (fun _ => ?_) (fun _ _ _ h => absurd rfl h)
                | refine sw4 (fun h => absurd h (by assumption)) (fun h => absurd h (by assumption)) (fun h => absurd h (by assumption)) (fun h => absurd h (by assumption)) (fun _ _ _ _ => ?_)
                | refine C_TH_set _ _ _ (B_TH_set_0 _ _ _ ?_)
                | refine C_Se_ofParagraph _ _ _ (B_Se_ofParagraph_0 _ _ _ ?_)
                | refine C_Md_set _ _ _ (B_Md_set_0 _ _ _ ?_)
                | refine ⟨(by assumption : vp_in _ _), ?_⟩
                | simp only [-eq_self, e1]
                | refine ⟨lnb _ (Or.inl rfl), ?_⟩
                | refine ⟨lnb _ (Or.inr rfl), ?_⟩
                | refine bq_t rfl ?_
                | refine bq_f (by decide) ?_
                | refine bq_tn rfl ?_
                | refine bq_fn (by decide) ?_
                | refine bq_t trivial ?_
                | refine bq_t (by first | assumption | exact Int32.not_lt.mp (by assumption) | exact Int32.not_le.mp (by assumption) | exact Int32.not_lt.mpr (by assumption) | exact Int32.not_le.mpr (by assumption)) ?_
                | refine bq_f (by first | assumption | exact Int32.not_lt.mp (by assumption) | exact Int32.not_le.mp (by assumption) | exact Int32.not_lt.mpr (by assumption) | exact Int32.not_le.mpr (by assumption)) ?_
                | refine bq_tn (by first | assumption | exact Int32.not_lt.mp (by assumption) | exact Int32.not_le.mp (by assumption) | exact Int32.not_lt.mpr (by assumption) | exact Int32.not_le.mpr (by assumption)) ?_
                | refine bq_fn (by first | assumption | exact Int32.not_lt.mp (by assumption) | exact Int32.not_le.mp (by assumption) | exact Int32.not_lt.mpr (by assumption) | exact Int32.not_le.mpr (by assumption)) ?_)
              exact ⟨z2, ⟨r0, r1, r2, r3, r4, r5, r6.succ, r7, r8.succ⟩⟩
          · have v2 : vp_in (1 : Int32) 4 := vp_in_iff.mpr ⟨by decide, by decide⟩
            repeat' (first
              | refine sw4 (fun _ => ?_) (fun h => absurd h (by decide)) (fun h => absurd h (by decide)) (fun h => absurd h (by decide)) (fun h _ _ _ => absurd rfl h)
              | refine sw4 (fun h => absurd h (by decide)) (fun _ => ?_) (fun h => absurd h (by decide)) (fun h => absurd h (by decide)) (fun _ h _ _ => absurd rfl h)
              | refine sw4 (fun h => absurd h (by decide)) (fun h => absurd h (by decide)) (fun _ => ?_) (fun h => absurd h (by decide)) (fun _ _ h _ => absurd rfl h)
              | refine sw4 (fun h => absurd h (by decide)) (fun h => absurd h (by decide)) (fun h => absurd h (by decide)) (fun _ => ?_) (fun _ _ _ h => absurd rfl h)
              | refine sw4 (fun h => absurd h (by assumption)) (fun h => absurd h (by assumption)) (fun h => absurd h (by assumption)) (fun h => absurd h (by assumption)) (fun _ _ _ _ => ?_)
              | refine C_TH_set _ _ _ (B_TH_set_0 _ _ _ ?_)
              | refine C_Se_ofParagraph _ _ _ (B_Se_ofParagraph_0 _ _ _ ?_)
              | refine C_Md_set _ _ _ (B_Md_set_0 _ _ _ ?_)
              | refine ⟨(by assumption : vp_in _ _), ?_⟩
              | simp only [-eq_self, e1]
              | refine ⟨lnb _ (Or.inl rfl), ?_⟩
              | refine ⟨lnb _ (Or.inr rfl), ?_⟩
              | refine bq_t rfl ?_
              | refine bq_f (by decide) ?_
              | refine bq_tn rfl ?_
              | refine bq_fn (by decide) ?_
              | refine bq_t trivial ?_
              | refine bq_t (by first | assumption | exact Int32.not_lt.mp (by assumption) | exact Int32.not_le.mp (by assumption) | exact Int32.not_lt.mpr (by assumption) | exact Int32.not_le.mpr (by assumption)) ?_
              | refine bq_f (by first | assumption | exact Int32.not_lt.mp (by assumption) | exact Int32.not_le.mp (by assumption) | exact Int32.not_lt.mpr (by assumption) | exact Int32.not_le.mpr (by assumption)) ?_
              | refine bq_tn (by first | assumption | exact Int32.not_lt.mp (by assumption) | exact Int32.not_le.mp (by assumption) | exact Int32.not_lt.mpr (by assumption) | exact Int32.not_le.mpr (by assumption)) ?_
              | refine bq_fn (by first | assumption | exact Int32.not_lt.mp (by assumption) | exact Int32.not_le.mp (by assumption) | exact Int32.not_lt.mpr (by assumption) | exact Int32.not_le.mpr (by assumption)) ?_)
            exact ⟨b.2.2.1, ⟨r0, r1, r2, r3, r4, r5, r6.succ, r7, r8.succ⟩⟩
          · have v2 : vp_in (2 : Int32) 4 := vp_in_iff.mpr ⟨by decide, by decide⟩
            repeat' (first
              | refine sw4 (fun _ => ?_) (fun h => absurd h (by decide)) (fun h => absurd h (by decide)) (fun h => absurd h (by decide)) (fun h _ _ _ => absurd rfl h)
              | refine sw4 (fun h => absurd h (by decide)) (fun _ => ?_) (fun h => absurd h (by decide)) (fun h => absurd h (by decide)) (fun _ h _ _ => absurd rfl h)
              | refine sw4 (fun h => absurd h (by decide)) (fun h => absurd h (by decide)) (fun _ => ?_) (fun h => absurd h (by decide)) (fun _ _ h _ => absurd rfl h)
              | refine sw4 (fun h => absurd h (by decide)) (fun h => absurd h (by decide)) (fun h => absurd h (by decide)) (fun _ => ?_) (fun _ _ _ h => absurd rfl h)
              | refine sw4 (fun h => absurd h (by assumption)) (fun h => absurd h (by assumption)) (fun h => absurd h (by assumption)) (fun h => absurd h (by assumption)) (fun _ _ _ _ => ?_)
              | refine C_TH_set _ _ _ (B_TH_set_0 _ _ _ ?_)
              | refine C_Se_ofParagraph _ _ _ (B_Se_ofParagraph_0 _ _ _ ?_)
              | refine C_Md_set _ _ _ (B_Md_set_0 _ _ _ ?_)
              | refine ⟨(by assumption : vp_in _ _), ?_⟩
              | simp only [-eq_self, e1]
              | refine ⟨lnb _ (Or.inl rfl), ?_⟩
              | refine ⟨lnb _ (Or.inr rfl), ?_⟩
              | refine bq_t rfl ?_
              | refine bq_f (by decide) ?_
              | refine bq_tn rfl ?_
              | refine bq_fn (by decide) ?_
              | refine bq_t trivial ?_
              | refine bq_t (by first | assumption | exact Int32.not_lt.mp (by assumption) | exact Int32.not_le.mp (by assumption) | exact Int32.not_lt.mpr (by assumption) | exact Int32.not_le.mpr (by assumption)) ?_
              | refine bq_f (by first | assumption | exact Int32.not_lt.mp (by assumption) | exact Int32.not_le.mp (by assumption) | exact Int32.not_lt.mpr (by assumption) | exact Int32.not_le.mpr (by assumption)) ?_
              | refine bq_tn (by first | assumption | exact Int32.not_lt.mp (by assumption) | exact Int32.not_le.mp (by assumption) | exact Int32.not_lt.mpr (by assumption) | exact Int32.not_le.mpr (by assumption)) ?_
              | refine bq_fn (by first | assumption | exact Int32.not_lt.mp (by assumption) | exact Int32.not_le.mp (by assumption) | exact Int32.not_lt.mpr (by assumption) | exact Int32.not_le.mpr (by assumption)) ?_)
            exact ⟨b.2.2.2.1, ⟨r0, r1, r2, r3, r4, r5, r6.succ, r7, r8.succ⟩⟩
          · have v2 : vp_in (3 : Int32) 4 := vp_in_iff.mpr ⟨by decide, by decide⟩
            repeat' (first
              | refine sw4 (fun _ => ?_) (fun h => absurd h (by decide)) (fun h => absurd h (by decide)) (fun h => absurd h (by decide)) (fun h _ _ _ => absurd rfl h)
              | refine sw4 (fun h => absurd h (by decide)) (fun _ => ?_) (fun h => absurd h (by decide)) (fun h => absurd h (by decide)) (fun _ h _ _ => absurd rfl h)
              | refine sw4 (fun h => absurd h (by decide)) (fun h => absurd h (by decide)) (fun _ => ?_) (fun h => absurd h (by decide)) (fun _ _ h _ => absurd rfl h)
              | refine sw4 (fun h => absurd h (by decide)) (fun h => absurd h (by decide)) (fun h => absurd h (by decide)) (fun _ => ?_) (fun _ _ _ h => absurd rfl h)
              | refine sw4 (fun h => absurd h (by assumption)) (fun h => absurd h (by assumption)) (fun h => absurd h (by assumption)) (fun h => absurd h (by assumption)) (fun _ _ _ _ => ?_)
              | refine C_TH_set _ _ _ (B_TH_set_0 _ _ _ ?_)
              | refine C_Se_ofParagraph _ _ _ (B_Se_ofParagraph_0 _ _ _ ?_)
              | refine C_Md_set _ _ _ (B_Md_set_0 _ _ _ ?_)
              | refine ⟨(by assumption : vp_in _ _), ?_⟩
              | simp only [-eq_self, e1]
              | refine ⟨lnb _ (Or.inl rfl), ?_⟩
              | refine ⟨lnb _ (Or.inr rfl), ?_⟩
              | refine bq_t rfl ?_
              | refine bq_f (by decide) ?_
              | refine bq_tn rfl ?_
              | refine bq_fn (by decide) ?_
              | refine bq_t trivial ?_
              | refine bq_t (by first | assumption | exact Int32.not_lt.mp (by assumption) | exact Int32.not_le.mp (by assumption) | exact Int32.not_lt.mpr (by assumption) | exact Int32.not_le.mpr (by assumption)) ?_
              | refine bq_f (by first | assumption | exact Int32.not_lt.mp (by assumption) | exact Int32.not_le.mp (by assumption) | exact Int32.not_lt.mpr (by assumption) | exact Int32.not_le.mpr (by assumption)) ?_
              | refine bq_tn (by first | assumption | exact Int32.not_lt.mp (by assumption) | exact Int32.not_le.mp (by assumption) | exact Int32.not_lt.mpr (by assumption) | exact Int32.not_le.mpr (by assumption)) ?_
              | refine bq_fn (by first | assumption | exact Int32.not_lt.mp (by assumption) | exact Int32.not_le.mp (by assumption) | exact Int32.not_lt.mpr (by assumption) | exact Int32.not_le.mpr (by assumption)) ?_)
            exact ⟨b.2.2.2.2, ⟨r0, r1, r2, r3, r4, r5, r6.succ, r7, r8.succ⟩⟩
        · have n0 : ¬ y = 0 := by intro q; rw [q] at k4; exact absurd k4 (by decide)
          have n1 : ¬ y = 1 := by intro q; rw [q] at k4; exact absurd k4 (by decide)
          have n2 : ¬ y = 2 := by intro q; rw [q] at k4; exact absurd k4 (by decide)
          have n3 : ¬ y = 3 := by intro q; rw [q] at k4; exact absurd k4 (by decide)
          repeat' (first
            | refine sw4 (fun _ => ?_) (fun h => absurd h (by decide)) (fun h => absurd h (by decide)) (fun h => absurd h (by decide)) (fun h _ _ _ => absurd rfl h)
            | refine sw4 (fun h => absurd h (by decide)) (fun _ => ?_) (fun h => absurd h (by decide)) (fun h => absurd h (by decide)) (fun _ h _ _ => absurd rfl h)
            | refine sw4 (fun h => absurd h (by decide)) (fun h => absurd h (by decide)) (fun _ => ?_) (fun h => absurd h (by decide)) (fun _ _ h _ => absurd rfl h)
            | refine sw4 (fun h => absurd h (by decide)) (fun h => absurd h (by decide)) (fun h => absurd h (by decide)) (fun _ => ?_) (fun _ _ _ h => absurd rfl h)
            | refine sw4 (fun h => absurd h (by assumption)) (fun h => absurd h (by assumption)) (fun h => absurd h (by assumption)) (fun h => absurd h (by assumption)) (fun _ _ _ _ => ?_)
            | refine C_TH_set _ _ _ (B_TH_set_0 _ _ _ ?_)
            | refine C_Se_ofParagraph _ _ _ (B_Se_ofParagraph_0 _ _ _ ?_)
            | refine C_Md_set _ _ _ (B_Md_set_0 _ _ _ ?_)
            | refine ⟨(by assumption : vp_in _ _), ?_⟩
            | simp only [-eq_self, e1]
            | refine ⟨lnb _ (Or.inl rfl), ?_⟩
            | refine ⟨lnb _ (Or.inr rfl), ?_⟩
            | refine bq_t rfl ?_
            | refine bq_f (by decide) ?_
            | refine bq_tn rfl ?_
            | refine bq_fn (by decide) ?_
            | refine bq_t trivial ?_
            | refine bq_t (by first | assumption | exact Int32.not_lt.mp (by assumption) | exact Int32.not_le.mp (by assumption) | exact Int32.not_lt.mpr (by assumption) | exact Int32.not_le.mpr (by assumption)) ?_
            | refine bq_f (by first | assumption | exact Int32.not_lt.mp (by assumption) | exact Int32.not_le.mp (by assumption) | exact Int32.not_lt.mpr (by assumption) | exact Int32.not_le.mpr (by assumption)) ?_
            | refine bq_tn (by first | assumption | exact Int32.not_lt.mp (by assumption) | exact Int32.not_le.mp (by assumption) | exact Int32.not_lt.mpr (by assumption) | exact Int32.not_le.mpr (by assumption)) ?_
            | refine bq_fn (by first | assumption | exact Int32.not_lt.mp (by assumption) | exact Int32.not_le.mp (by assumption) | exact Int32.not_lt.mpr (by assumption) | exact Int32.not_le.mpr (by assumption)) ?_)
          first
            | exact ⟨rfl, ⟨r0, r1, r2, r3, r4, r5, r6.succ, r7, r8.succ⟩⟩
            | exact ⟨trivial, ⟨r0, r1, r2, r3, r4, r5, r6.succ, r7, r8.succ⟩⟩
