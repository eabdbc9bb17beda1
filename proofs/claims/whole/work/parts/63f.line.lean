/-! an operation -/
set_option maxHeartbeats 2000000 in
theorem op_line {S : XS} {n : Nat} {σ : St} (h : RR n σ) (x : Int32) (y : Int32) : OPI S n σ m_TH_line m_Md_line [.int x, .int y] := by
  obtain ⟨r0, r1, r2, r3, r4, r5, r6, r7, r8⟩ := h
  unfold OPI
  obtain ⟨a1, a11, a12⟩ := id r2.1
  obtain ⟨a21, a22⟩ := id r2.2.1
  have e1 : gY σ 6 = gX σ 11 := a1.symm
  by_cases k1 : x < 0
  · repeat' (first
      | refine sw3 (fun _ => ?_) (fun h => absurd h (by decide)) (fun h => absurd h (by decide)) (fun h _ _ => absurd rfl h)
      | refine sw3 (fun h => absurd h (by decide)) (fun _ => ?_) (fun h => absurd h (by decide)) (fun _ h _ => absurd rfl h)
      | refine sw3 (fun h => absurd h (by decide)) (fun h => absurd h (by decide)) (fun _ => ?_) (fun _ _ h => absurd rfl h)
      | refine sw3 (fun h => absurd h (by assumption)) (fun h => absurd h (by assumption)) (fun h => absurd h (by assumption)) (fun _ _ _ => ?_)
      | refine C_TH_line _ _ _ (B_TH_line_0 _ _ _ ?_)
      | refine C_Se_ofLine _ _ _ (B_Se_ofLine_0 _ _ _ ?_)
      | refine C_Md_line _ _ _ (B_Md_line_0 _ _ _ ?_)
      | refine ⟨(by assumption : vp_in _ _), ?_⟩
      | simp only [-eq_self, e1]
      | refine ⟨lnb _ (Or.inl rfl), ?_⟩
      | refine ⟨lnb _ (Or.inr rfl), ?_⟩
      | refine bq_t rfl ?_
      | refine bq_f (by decide) ?_
      | refine bq_tn rfl ?_
      | refine bq_fn (by decide) ?_
      | refine bq_t trivial ?_
      | refine bq_t (by first | assumption | exact Int32.not_lt.mp (by assumption) | exact Int32.not_le.mp (by assumption) | exact Int32.not_lt.mpr (by assumption) | exact Int32.not_le.mpr (by assumption)) ?_
      | refine bq_f (by first | assumption | exact Int32.not_lt.mp (by assumption) | exact Int32.not_le.mp (by assumption) | exact Int32.not_lt.mpr (by assumption) | exact Int32.not_le.mpr (by assumption)) ?_
      | refine bq_tn (by first | assumption | exact Int32.not_lt.mp (by assumption) | exact Int32.not_le.mp (by assumption) | exact Int32.not_lt.mpr (by assumption) | exact Int32.not_le.mpr (by assumption)) ?_
      | refine bq_fn (by first | assumption | exact Int32.not_lt.mp (by assumption) | exact Int32.not_le.mp (by assumption) | exact Int32.not_lt.mpr (by assumption) | exact Int32.not_le.mpr (by assumption)) ?_)
    first
      | exact ⟨rfl, ⟨r0, r1, r2, r3, r4, r5, r6.succ, r7, r8.succ⟩⟩
      | exact ⟨trivial, ⟨r0, r1, r2, r3, r4, r5, r6.succ, r7, r8.succ⟩⟩
  · by_cases k2 : 120 ≤ x
    · have k3 : ¬ x < gX σ 12 := by grind
      repeat' (first
        | refine sw3 (fun _ => ?_) (fun h => absurd h (by decide)) (fun h => absurd h (by decide)) (fun h _ _ => absurd rfl h)
        | refine sw3 (fun h => absurd h (by decide)) (fun _ => ?_) (fun h => absurd h (by decide)) (fun _ h _ => absurd rfl h)
        | refine sw3 (fun h => absurd h (by decide)) (fun h => absurd h (by decide)) (fun _ => ?_) (fun _ _ h => absurd rfl h)
        | refine sw3 (fun h => absurd h (by assumption)) (fun h => absurd h (by assumption)) (fun h => absurd h (by assumption)) (fun _ _ _ => ?_)
        | refine C_TH_line _ _ _ (B_TH_line_0 _ _ _ ?_)
        | refine C_Se_ofLine _ _ _ (B_Se_ofLine_0 _ _ _ ?_)
        | refine C_Md_line _ _ _ (B_Md_line_0 _ _ _ ?_)
        | refine ⟨(by assumption : vp_in _ _), ?_⟩
        | simp only [-eq_self, e1]
        | refine ⟨lnb _ (Or.inl rfl), ?_⟩
        | refine ⟨lnb _ (Or.inr rfl), ?_⟩
        | refine bq_t rfl ?_
        | refine bq_f (by decide) ?_
        | refine bq_tn rfl ?_
        | refine bq_fn (by decide) ?_
        | refine bq_t trivial ?_
        | refine bq_t (by first | assumption | exact Int32.not_lt.mp (by assumption) | exact Int32.not_le.mp (by assumption) | exact Int32.not_lt.mpr (by assumption) | exact Int32.not_le.mpr (by assumption)) ?_
        | refine bq_f (by first | assumption | exact Int32.not_lt.mp (by assumption) | exact Int32.not_le.mp (by assumption) | exact Int32.not_lt.mpr (by assumption) | exact Int32.not_le.mpr (by assumption)) ?_
        | refine bq_tn (by first | assumption | exact Int32.not_lt.mp (by assumption) | exact Int32.not_le.mp (by assumption) | exact Int32.not_lt.mpr (by assumption) | exact Int32.not_le.mpr (by assumption)) ?_
        | refine bq_fn (by first | assumption | exact Int32.not_lt.mp (by assumption) | exact Int32.not_le.mp (by assumption) | exact Int32.not_lt.mpr (by assumption) | exact Int32.not_le.mpr (by assumption)) ?_)
      first
        | exact ⟨rfl, ⟨r0, r1, r2, r3, r4, r5, r6.succ, r7, r8.succ⟩⟩
        | exact ⟨trivial, ⟨r0, r1, r2, r3, r4, r5, r6.succ, r7, r8.succ⟩⟩
    · have v1 := vp_120 (Int32.not_lt.mp k1) (Int32.not_le.mp k2)
      have hN := vp_lt v1
      by_cases k3 : x < gX σ 12
      · have d := N_lt (Int32.not_lt.mp k1) k3
        rcases r2.2.2.2 with q | q
        · exfalso
          have := q.2
          grind
        · have q1 := q.1
          obtain ⟨q4, q5, q6⟩ := (q.2 x.toNatClampNeg hN).2 d
          by_cases c4 : gC σ 11 x.toNatClampNeg = -1
          · have q3 := q5 c4
            by_cases y0 : y = 0
            · subst y0
              repeat' (first
                | refine sw3 (fun _ => ?_) (fun h => absurd h (by decide)) (fun h => absurd h (by decide)) (fun h _ _ => absurd rfl h)
                | refine sw3 (fun h => absurd h (by decide)) (fun _ => ?_) (fun h => absurd h (by decide)) (fun _ h _ => absurd rfl h)
                | refine sw3 (fun h => absurd h (by decide)) (fun h => absurd h (by decide)) (fun _ => ?_) (fun _ _ h => absurd rfl h)
                | refine sw3 (fun h => absurd h (by assumption)) (fun h => absurd h (by assumption)) (fun h => absurd h (by assumption)) (fun _ _ _ => ?_)
                | refine C_TH_line _ _ _ (B_TH_line_0 _ _ _ ?_)
                | refine C_Se_ofLine _ _ _ (B_Se_ofLine_0 _ _ _ ?_)
                | refine C_Md_line _ _ _ (B_Md_line_0 _ _ _ ?_)
                | refine ⟨(by assumption : vp_in _ _), ?_⟩
                | simp only [-eq_self, e1]
                | refine ⟨lnb _ (Or.inl rfl), ?_⟩
                | refine ⟨lnb _ (Or.inr rfl), ?_⟩
                | refine bq_t rfl ?_
                | refine bq_f (by decide) ?_
                | refine bq_tn rfl ?_
                | refine bq_fn (by decide) ?_
                | refine bq_t trivial ?_
                | refine bq_t (by first | assumption | exact Int32.not_lt.mp (by assumption) | exact Int32.not_le.mp (by assumption) | exact Int32.not_lt.mpr (by assumption) | exact Int32.not_le.mpr (by assumption)) ?_
                | refine bq_f (by first | assumption | exact Int32.not_lt.mp (by assumption) | exact Int32.not_le.mp (by assumption) | exact Int32.not_lt.mpr (by assumption) | exact Int32.not_le.mpr (by assumption)) ?_
                | refine bq_tn (by first | assumption | exact Int32.not_lt.mp (by assumption) | exact Int32.not_le.mp (by assumption) | exact Int32.not_lt.mpr (by assumption) | exact Int32.not_le.mpr (by assumption)) ?_
                | refine bq_fn (by first | assumption | exact Int32.not_lt.mp (by assumption) | exact Int32.not_le.mp (by assumption) | exact Int32.not_lt.mpr (by assumption) | exact Int32.not_le.mpr (by assumption)) ?_)
              exact ⟨q4.trans c4, ⟨r0, r1, r2, r3, r4, r5, r6.succ, r7, r8.succ⟩⟩
            · by_cases y1 : y = 1
              · subst y1
                repeat' (first
                  | refine sw3 (fun _ => ?_) (fun h => absurd h (by decide)) (fun h => absurd h (by decide)) (fun h _ _ => absurd rfl h)
                  | refine sw3 (fun h => absurd h (by decide)) (fun _ => ?_) (fun h => absurd h (by decide)) (fun _ h _ => absurd rfl h)
                  | refine sw3 (fun h => absurd h (by decide)) (fun h => absurd h (by decide)) (fun _ => ?_) (fun _ _ h => absurd rfl h)
                  | refine sw3 (fun h => absurd h (by assumption)) (fun h => absurd h (by assumption)) (fun h => absurd h (by assumption)) (fun _ _ _ => ?_)
                  | refine C_TH_line _ _ _ (B_TH_line_0 _ _ _ ?_)
                  | refine C_Se_ofLine _ _ _ (B_Se_ofLine_0 _ _ _ ?_)
                  | refine C_Md_line _ _ _ (B_Md_line_0 _ _ _ ?_)
                  | refine ⟨(by assumption : vp_in _ _), ?_⟩
                  | simp only [-eq_self, e1]
                  | refine ⟨lnb _ (Or.inl rfl), ?_⟩
                  | refine ⟨lnb _ (Or.inr rfl), ?_⟩
                  | refine bq_t rfl ?_
                  | refine bq_f (by decide) ?_
                  | refine bq_tn rfl ?_
                  | refine bq_fn (by decide) ?_
                  | refine bq_t trivial ?_
                  | refine bq_t (by first | assumption | exact Int32.not_lt.mp (by assumption) | exact Int32.not_le.mp (by assumption) | exact Int32.not_lt.mpr (by assumption) | exact Int32.not_le.mpr (by assumption)) ?_
                  | refine bq_f (by first | assumption | exact Int32.not_lt.mp (by assumption) | exact Int32.not_le.mp (by assumption) | exact Int32.not_lt.mpr (by assumption) | exact Int32.not_le.mpr (by assumption)) ?_
                  | refine bq_tn (by first | assumption | exact Int32.not_lt.mp (by assumption) | exact Int32.not_le.mp (by assumption) | exact Int32.not_lt.mpr (by assumption) | exact Int32.not_le.mpr (by assumption)) ?_
                  | refine bq_fn (by first | assumption | exact Int32.not_lt.mp (by assumption) | exact Int32.not_le.mp (by assumption) | exact Int32.not_lt.mpr (by assumption) | exact Int32.not_le.mpr (by assumption)) ?_)
                exact ⟨q3.1, ⟨r0, r1, r2, r3, r4, r5, r6.succ, r7, r8.succ⟩⟩
              · by_cases y2 : y = 2
                · subst y2
                  repeat' (first
                    | refine sw3 (fun _ => ?_) (fun h => absurd h (by decide)) (fun h => absurd h (by decide)) (fun h _ _ => absurd rfl h)
                    | refine sw3 (fun h => absurd h (by decide)) (fun _ => ?_) (fun h => absurd h (by decide)) (fun _ h _ => absurd rfl h)
                    | refine sw3 (fun h => absurd h (by decide)) (fun h => absurd h (by decide)) (fun _ => ?_) (fun _ _ h => absurd rfl h)
                    | refine sw3 (fun h => absurd h (by assumption)) (fun h => absurd h (by assumption)) (fun h => absurd h (by assumption)) (fun _ _ _ => ?_)
                    | refine C_TH_line _ _ _ (B_TH_line_0 _ _ _ ?_)
                    | refine C_Se_ofLine _ _ _ (B_Se_ofLine_0 _ _ _ ?_)
                    | refine C_Md_line _ _ _ (B_Md_line_0 _ _ _ ?_)
                    | refine ⟨(by assumption : vp_in _ _), ?_⟩
                    | simp only [-eq_self, e1]
                    | refine ⟨lnb _ (Or.inl rfl), ?_⟩
                    | refine ⟨lnb _ (Or.inr rfl), ?_⟩
                    | refine bq_t rfl ?_
                    | refine bq_f (by decide) ?_
                    | refine bq_tn rfl ?_
                    | refine bq_fn (by decide) ?_
                    | refine bq_t trivial ?_
                    | refine bq_t (by first | assumption | exact Int32.not_lt.mp (by assumption) | exact Int32.not_le.mp (by assumption) | exact Int32.not_lt.mpr (by assumption) | exact Int32.not_le.mpr (by assumption)) ?_
                    | refine bq_f (by first | assumption | exact Int32.not_lt.mp (by assumption) | exact Int32.not_le.mp (by assumption) | exact Int32.not_lt.mpr (by assumption) | exact Int32.not_le.mpr (by assumption)) ?_
                    | refine bq_tn (by first | assumption | exact Int32.not_lt.mp (by assumption) | exact Int32.not_le.mp (by assumption) | exact Int32.not_lt.mpr (by assumption) | exact Int32.not_le.mpr (by assumption)) ?_
                    | refine bq_fn (by first | assumption | exact Int32.not_lt.mp (by assumption) | exact Int32.not_le.mp (by assumption) | exact Int32.not_lt.mpr (by assumption) | exact Int32.not_le.mpr (by assumption)) ?_)
                  exact ⟨q3.2, ⟨r0, r1, r2, r3, r4, r5, r6.succ, r7, r8.succ⟩⟩
                · skip
                  repeat' (first
                    | refine sw3 (fun _ => ?_) (fun h => absurd h (by decide)) (fun h => absurd h (by decide)) (fun h _ _ => absurd rfl h)
                    | refine sw3 (fun h => absurd h (by decide)) (fun _ => ?_) (fun h => absurd h (by decide)) (fun _ h _ => absurd rfl h)
                    | refine sw3 (fun h => absurd h (by decide)) (fun h => absurd h (by decide)) (fun _ => ?_) (fun _ _ h => absurd rfl h)
                    | refine sw3 (fun h => absurd h (by assumption)) (fun h => absurd h (by assumption)) (fun h => absurd h (by assumption)) (fun _ _ _ => ?_)
                    | refine C_TH_line _ _ _ (B_TH_line_0 _ _ _ ?_)
                    | refine C_Se_ofLine _ _ _ (B_Se_ofLine_0 _ _ _ ?_)
                    | refine C_Md_line _ _ _ (B_Md_line_0 _ _ _ ?_)
                    | refine ⟨(by assumption : vp_in _ _), ?_⟩
                    | simp only [-eq_self, e1]
                    | refine ⟨lnb _ (Or.inl rfl), ?_⟩
                    | refine ⟨lnb _ (Or.inr rfl), ?_⟩
                    | refine bq_t rfl ?_
                    | refine bq_f (by decide) ?_
                    | refine bq_tn rfl ?_
                    | refine bq_fn (by decide) ?_
                    | refine bq_t trivial ?_
                    | refine bq_t (by first | assumption | exact Int32.not_lt.mp (by assumption) | exact Int32.not_le.mp (by assumption) | exact Int32.not_lt.mpr (by assumption) | exact Int32.not_le.mpr (by assumption)) ?_
                    | refine bq_f (by first | assumption | exact Int32.not_lt.mp (by assumption) | exact Int32.not_le.mp (by assumption) | exact Int32.not_lt.mpr (by assumption) | exact Int32.not_le.mpr (by assumption)) ?_
                    | refine bq_tn (by first | assumption | exact Int32.not_lt.mp (by assumption) | exact Int32.not_le.mp (by assumption) | exact Int32.not_lt.mpr (by assumption) | exact Int32.not_le.mpr (by assumption)) ?_
                    | refine bq_fn (by first | assumption | exact Int32.not_lt.mp (by assumption) | exact Int32.not_le.mp (by assumption) | exact Int32.not_lt.mpr (by assumption) | exact Int32.not_le.mpr (by assumption)) ?_)
                  first
                    | exact ⟨rfl, ⟨r0, r1, r2, r3, r4, r5, r6.succ, r7, r8.succ⟩⟩
                    | exact ⟨trivial, ⟨r0, r1, r2, r3, r4, r5, r6.succ, r7, r8.succ⟩⟩
          · have q3 := q6 c4
            by_cases y0 : y = 0
            · subst y0
              repeat' (first
                | refine sw3 (fun _ => ?_) (fun h => absurd h (by decide)) (fun h => absurd h (by decide)) (fun h _ _ => absurd rfl h)
                | refine sw3 (fun h => absurd h (by decide)) (fun _ => ?_) (fun h => absurd h (by decide)) (fun _ h _ => absurd rfl h)
                | refine sw3 (fun h => absurd h (by decide)) (fun h => absurd h (by decide)) (fun _ => ?_) (fun _ _ h => absurd rfl h)
                | refine sw3 (fun h => absurd h (by assumption)) (fun h => absurd h (by assumption)) (fun h => absurd h (by assumption)) (fun _ _ _ => ?_)
                | refine C_TH_line _ _ _ (B_TH_line_0 _ _ _ ?_)
                | refine C_Se_ofLine _ _ _ (B_Se_ofLine_0 _ _ _ ?_)
                | refine C_Md_line _ _ _ (B_Md_line_0 _ _ _ ?_)
                | refine ⟨(by assumption : vp_in _ _), ?_⟩
                | simp only [-eq_self, e1]
                | refine ⟨lnb _ (Or.inl rfl), ?_⟩
                | refine ⟨lnb _ (Or.inr rfl), ?_⟩
                | refine bq_t rfl ?_
                | refine bq_f (by decide) ?_
                | refine bq_tn rfl ?_
                | refine bq_fn (by decide) ?_
                | refine bq_t trivial ?_
                | refine bq_t (by first | assumption | exact Int32.not_lt.mp (by assumption) | exact Int32.not_le.mp (by assumption) | exact Int32.not_lt.mpr (by assumption) | exact Int32.not_le.mpr (by assumption)) ?_
                | refine bq_f (by first | assumption | exact Int32.not_lt.mp (by assumption) | exact Int32.not_le.mp (by assumption) | exact Int32.not_lt.mpr (by assumption) | exact Int32.not_le.mpr (by assumption)) ?_
                | refine bq_tn (by first | assumption | exact Int32.not_lt.mp (by assumption) | exact Int32.not_le.mp (by assumption) | exact Int32.not_lt.mpr (by assumption) | exact Int32.not_le.mpr (by assumption)) ?_
                | refine bq_fn (by first | assumption | exact Int32.not_lt.mp (by assumption) | exact Int32.not_le.mp (by assumption) | exact Int32.not_lt.mpr (by assumption) | exact Int32.not_le.mpr (by assumption)) ?_)
              exact ⟨q4, ⟨r0, r1, r2, r3, r4, r5, r6.succ, r7, r8.succ⟩⟩
            · by_cases y1 : y = 1
              · subst y1
                repeat' (first
                  | refine sw3 (fun _ => ?_) (fun h => absurd h (by decide)) (fun h => absurd h (by decide)) (fun h _ _ => absurd rfl h)
                  | refine sw3 (fun h => absurd h (by decide)) (fun _ => ?_) (fun h => absurd h (by decide)) (fun _ h _ => absurd rfl h)
                  | refine sw3 (fun h => absurd h (by decide)) (fun h => absurd h (by decide)) (fun _ => ?_) (fun _ _ h => absurd rfl h)
                  | refine sw3 (fun h => absurd h (by assumption)) (fun h => absurd h (by assumption)) (fun h => absurd h (by assumption)) (fun _ _ _ => ?_)
                  | refine C_TH_line _ _ _ (B_TH_line_0 _ _ _ ?_)
                  | refine C_Se_ofLine _ _ _ (B_Se_ofLine_0 _ _ _ ?_)
                  | refine C_Md_line _ _ _ (B_Md_line_0 _ _ _ ?_)
                  | refine ⟨(by assumption : vp_in _ _), ?_⟩
                  | simp only [-eq_self, e1]
                  | refine ⟨lnb _ (Or.inl rfl), ?_⟩
                  | refine ⟨lnb _ (Or.inr rfl), ?_⟩
                  | refine bq_t rfl ?_
                  | refine bq_f (by decide) ?_
                  | refine bq_tn rfl ?_
                  | refine bq_fn (by decide) ?_
                  | refine bq_t trivial ?_
                  | refine bq_t (by first | assumption | exact Int32.not_lt.mp (by assumption) | exact Int32.not_le.mp (by assumption) | exact Int32.not_lt.mpr (by assumption) | exact Int32.not_le.mpr (by assumption)) ?_
                  | refine bq_f (by first | assumption | exact Int32.not_lt.mp (by assumption) | exact Int32.not_le.mp (by assumption) | exact Int32.not_lt.mpr (by assumption) | exact Int32.not_le.mpr (by assumption)) ?_
                  | refine bq_tn (by first | assumption | exact Int32.not_lt.mp (by assumption) | exact Int32.not_le.mp (by assumption) | exact Int32.not_lt.mpr (by assumption) | exact Int32.not_le.mpr (by assumption)) ?_
                  | refine bq_fn (by first | assumption | exact Int32.not_lt.mp (by assumption) | exact Int32.not_le.mp (by assumption) | exact Int32.not_lt.mpr (by assumption) | exact Int32.not_le.mpr (by assumption)) ?_)
                exact ⟨q3.1, ⟨r0, r1, r2, r3, r4, r5, r6.succ, r7, r8.succ⟩⟩
              · by_cases y2 : y = 2
                · subst y2
                  repeat' (first
                    | refine sw3 (fun _ => ?_) (fun h => absurd h (by decide)) (fun h => absurd h (by decide)) (fun h _ _ => absurd rfl h)
                    | refine sw3 (fun h => absurd h (by decide)) (fun _ => ?_) (fun h => absurd h (by decide)) (fun _ h _ => absurd rfl h)
                    | refine sw3 (fun h => absurd h (by decide)) (fun h => absurd h (by decide)) (fun _ => ?_) (fun _ _ h => absurd rfl h)
                    | refine sw3 (fun h => absurd h (by assumption)) (fun h => absurd h (by assumption)) (fun h => absurd h (by assumption)) (fun _ _ _ => ?_)
                    | refine C_TH_line _ _ _ (B_TH_line_0 _ _ _ ?_)
                    | refine C_Se_ofLine _ _ _ (B_Se_ofLine_0 _ _ _ ?_)
                    | refine C_Md_line _ _ _ (B_Md_line_0 _ _ _ ?_)
                    | refine ⟨(by assumption : vp_in _ _), ?_⟩
                    | simp only [-eq_self, e1]
                    | refine ⟨lnb _ (Or.inl rfl), ?_⟩
                    | refine ⟨lnb _ (Or.inr rfl), ?_⟩
                    | refine bq_t rfl ?_
                    | refine bq_f (by decide) ?_
                    | refine bq_tn rfl ?_
                    | refine bq_fn (by decide) ?_
                    | refine bq_t trivial ?_
                    | refine bq_t (by first | assumption | exact Int32.not_lt.mp (by assumption) | exact Int32.not_le.mp (by assumption) | exact Int32.not_lt.mpr (by assumption) | exact Int32.not_le.mpr (by assumption)) ?_
                    | refine bq_f (by first | assumption | exact Int32.not_lt.mp (by assumption) | exact Int32.not_le.mp (by assumption) | exact Int32.not_lt.mpr (by assumption) | exact Int32.not_le.mpr (by assumption)) ?_
                    | refine bq_tn (by first | assumption | exact Int32.not_lt.mp (by assumption) | exact Int32.not_le.mp (by assumption) | exact Int32.not_lt.mpr (by assumption) | exact Int32.not_le.mpr (by assumption)) ?_
                    | refine bq_fn (by first | assumption | exact Int32.not_lt.mp (by assumption) | exact Int32.not_le.mp (by assumption) | exact Int32.not_lt.mpr (by assumption) | exact Int32.not_le.mpr (by assumption)) ?_)
                  exact ⟨q3.2, ⟨r0, r1, r2, r3, r4, r5, r6.succ, r7, r8.succ⟩⟩
                · skip
                  repeat' (first
                    | refine sw3 (fun _ => ?_) (fun h => absurd h (by decide)) (fun h => absurd h (by decide)) (fun h _ _ => absurd rfl h)
                    | refine sw3 (fun h => absurd h (by decide)) (fun _ => ?_) (fun h => absurd h (by decide)) (fun _ h _ => absurd rfl h)
                    | refine sw3 (fun h => absurd h (by decide)) (fun h => absurd h (by decide)) (fun _ => ?_) (fun _ _ h => absurd rfl h)
                    | refine sw3 (fun h => absurd h (by assumption)) (fun h => absurd h (by assumption)) (fun h => absurd h (by assumption)) (fun _ _ _ => ?_)
                    | refine C_TH_line _ _ _ (B_TH_line_0 _ _ _ ?_)
                    | refine C_Se_ofLine _ _ _ (B_Se_ofLine_0 _ _ _ ?_)
                    | refine C_Md_line _ _ _ (B_Md_line_0 _ _ _ ?_)
                    | refine ⟨(by assumption : vp_in _ _), ?_⟩
                    | simp only [-eq_self, e1]
                    | refine ⟨lnb _ (Or.inl rfl), ?_⟩
                    | refine ⟨lnb _ (Or.inr rfl), ?_⟩
                    | refine bq_t rfl ?_
                    | refine bq_f (by decide) ?_
                    | refine bq_tn rfl ?_
                    | refine bq_fn (by decide) ?_
                    | refine bq_t trivial ?_
                    | refine bq_t (by first | assumption | exact Int32.not_lt.mp (by assumption) | exact Int32.not_le.mp (by assumption) | exact Int32.not_lt.mpr (by assumption) | exact Int32.not_le.mpr (by assumption)) ?_
                    | refine bq_f (by first | assumption | exact Int32.not_lt.mp (by assumption) | exact Int32.not_le.mp (by assumption) | exact Int32.not_lt.mpr (by assumption) | exact Int32.not_le.mpr (by assumption)) ?_
                    | refine bq_tn (by first | assumption | exact Int32.not_lt.mp (by assumption) | exact Int32.not_le.mp (by assumption) | exact Int32.not_lt.mpr (by assumption) | exact Int32.not_le.mpr (by assumption)) ?_
                    | refine bq_fn (by first | assumption | exact Int32.not_lt.mp (by assumption) | exact Int32.not_le.mp (by assumption) | exact Int32.not_lt.mpr (by assumption) | exact Int32.not_le.mpr (by assumption)) ?_)
                  first
                    | exact ⟨rfl, ⟨r0, r1, r2, r3, r4, r5, r6.succ, r7, r8.succ⟩⟩
                    | exact ⟨trivial, ⟨r0, r1, r2, r3, r4, r5, r6.succ, r7, r8.succ⟩⟩
      · have d2 : (gX σ 12).toNatClampNeg ≤ x.toNatClampNeg := by
          have h1 := ti_nonneg a21
          have h3 := Int32.le_iff_toInt_le.mp (Int32.not_lt.mp k3)
          rw [ti_N, ti_N]
          omega
        rcases r2.2.2.2 with q | q
        · have q1 := q.1
          repeat' (first
            | refine sw3 (fun _ => ?_) (fun h => absurd h (by decide)) (fun h => absurd h (by decide)) (fun h _ _ => absurd rfl h)
            | refine sw3 (fun h => absurd h (by decide)) (fun _ => ?_) (fun h => absurd h (by decide)) (fun _ h _ => absurd rfl h)
            | refine sw3 (fun h => absurd h (by decide)) (fun h => absurd h (by decide)) (fun _ => ?_) (fun _ _ h => absurd rfl h)
            | refine sw3 (fun h => absurd h (by assumption)) (fun h => absurd h (by assumption)) (fun h => absurd h (by assumption)) (fun _ _ _ => ?_)
            | refine C_TH_line _ _ _ (B_TH_line_0 _ _ _ ?_)
            | refine C_Se_ofLine _ _ _ (B_Se_ofLine_0 _ _ _ ?_)
            | refine C_Md_line _ _ _ (B_Md_line_0 _ _ _ ?_)
            | refine ⟨(by assumption : vp_in _ _), ?_⟩
            | simp only [-eq_self, e1]
            | refine ⟨lnb _ (Or.inl rfl), ?_⟩
            | refine ⟨lnb _ (Or.inr rfl), ?_⟩
            | refine bq_t rfl ?_
            | refine bq_f (by decide) ?_
            | refine bq_tn rfl ?_
            | refine bq_fn (by decide) ?_
            | refine bq_t trivial ?_
            | refine bq_t (by first | assumption | exact Int32.not_lt.mp (by assumption) | exact Int32.not_le.mp (by assumption) | exact Int32.not_lt.mpr (by assumption) | exact Int32.not_le.mpr (by assumption)) ?_
            | refine bq_f (by first | assumption | exact Int32.not_lt.mp (by assumption) | exact Int32.not_le.mp (by assumption) | exact Int32.not_lt.mpr (by assumption) | exact Int32.not_le.mpr (by assumption)) ?_
            | refine bq_tn (by first | assumption | exact Int32.not_lt.mp (by assumption) | exact Int32.not_le.mp (by assumption) | exact Int32.not_lt.mpr (by assumption) | exact Int32.not_le.mpr (by assumption)) ?_
            | refine bq_fn (by first | assumption | exact Int32.not_lt.mp (by assumption) | exact Int32.not_le.mp (by assumption) | exact Int32.not_lt.mpr (by assumption) | exact Int32.not_le.mpr (by assumption)) ?_)
          first
            | exact ⟨rfl, ⟨r0, r1, r2, r3, r4, r5, r6.succ, r7, r8.succ⟩⟩
            | exact ⟨trivial, ⟨r0, r1, r2, r3, r4, r5, r6.succ, r7, r8.succ⟩⟩
        · have q1 := q.1
          have q2 := (q.2 x.toNatClampNeg hN).1 d2
          repeat' (first
            | refine sw3 (fun _ => ?_) (fun h => absurd h (by decide)) (fun h => absurd h (by decide)) (fun h _ _ => absurd rfl h)
            | refine sw3 (fun h => absurd h (by decide)) (fun _ => ?_) (fun h => absurd h (by decide)) (fun _ h _ => absurd rfl h)
            | refine sw3 (fun h => absurd h (by decide)) (fun h => absurd h (by decide)) (fun _ => ?_) (fun _ _ h => absurd rfl h)
            | refine sw3 (fun h => absurd h (by assumption)) (fun h => absurd h (by assumption)) (fun h => absurd h (by assumption)) (fun _ _ _ => ?_)
            | refine C_TH_line _ _ _ (B_TH_line_0 _ _ _ ?_)
            | refine C_Se_ofLine _ _ _ (B_Se_ofLine_0 _ _ _ ?_)
            | refine C_Md_line _ _ _ (B_Md_line_0 _ _ _ ?_)
            | refine ⟨(by assumption : vp_in _ _), ?_⟩
            | simp only [-eq_self, e1]
            | refine ⟨lnb _ (Or.inl rfl), ?_⟩
            | refine ⟨lnb _ (Or.inr rfl), ?_⟩
            | refine bq_t rfl ?_
            | refine bq_f (by decide) ?_
            | refine bq_tn rfl ?_
            | refine bq_fn (by decide) ?_
            | refine bq_t trivial ?_
            | refine bq_t (by first | assumption | exact Int32.not_lt.mp (by assumption) | exact Int32.not_le.mp (by assumption) | exact Int32.not_lt.mpr (by assumption) | exact Int32.not_le.mpr (by assumption)) ?_
            | refine bq_f (by first | assumption | exact Int32.not_lt.mp (by assumption) | exact Int32.not_le.mp (by assumption) | exact Int32.not_lt.mpr (by assumption) | exact Int32.not_le.mpr (by assumption)) ?_
            | refine bq_tn (by first | assumption | exact Int32.not_lt.mp (by assumption) | exact Int32.not_le.mp (by assumption) | exact Int32.not_lt.mpr (by assumption) | exact Int32.not_le.mpr (by assumption)) ?_
            | refine bq_fn (by first | assumption | exact Int32.not_lt.mp (by assumption) | exact Int32.not_le.mp (by assumption) | exact Int32.not_lt.mpr (by assumption) | exact Int32.not_le.mpr (by assumption)) ?_)
          first
            | exact ⟨rfl, ⟨r0, r1, r2, r3, r4, r5, r6.succ, r7, r8.succ⟩⟩
            | exact ⟨trivial, ⟨r0, r1, r2, r3, r4, r5, r6.succ, r7, r8.succ⟩⟩
