/-! an operation -/
theorem sw6 {x a b c d e f : Int32} {A B C D E F G : Prop} (h0 : x = a → A) (h1 : x = b → B) (h2 : x = c → C) (h3 : x = d → D) (h4 : x = e → E) (h5 : x = f → F) (h6 : ¬ x = a → ¬ x = b → ¬ x = c → ¬ x = d → ¬ x = e → ¬ x = f → G) : (x = a → A) ∧ (x = b → B) ∧ (x = c → C) ∧ (x = d → D) ∧ (x = e → E) ∧ (x = f → F) ∧ (¬ x = a → ¬ x = b → ¬ x = c → ¬ x = d → ¬ x = e → ¬ x = f → G) := ⟨h0, h1, h2, h3, h4, h5, h6⟩
set_option maxHeartbeats 2000000 in
theorem op_stock {S : XS} {n : Nat} {σ : St} (h : RR n σ) (a : Int32) (b : Int32) (c : Int32) : OPI S n σ m_TH_stock m_Md_stock [.int a, .int b, .int c] := by
  obtain ⟨r0, r1, r2, r3, r4, r5, r6, r7, r8⟩ := h
  unfold OPI
  have a9 := r3.1
  have eP : gQ σ = gP σ := r6.2.2.2.2.1.symm
  have e18 : gY σ 15 = gX σ 18 := r6.1.1.symm
  have e19 : gY σ 16 = gX σ 19 := r6.2.1.1.symm
  have e20 : gY σ 17 = gX σ 20 := r6.2.2.1.1.symm
  have e21 : gY σ 18 = gX σ 21 := r6.2.2.2.1.1.symm
  by_cases hE : HE (gA σ 9) a b
  · have hE2 : HE (gC σ 21) a b := by rw [← a9]; exact hE
    obtain ⟨i, j, ⟨hi, hj, w0, w1, w2, w3, w4, w5⟩, ⟨v0, v1, v2, v3, v4, v5⟩, pi, pj⟩ := hE.slf r3
    obtain ⟨f0, f1, f2, f3, f4⟩ := r6.2.2.2.2.2.1 i j hi hj
    obtain ⟨c0, c1, c2, c3, c4, c5⟩ := r6.2.2.2.2.2.2 (4 * i + j) (by omega)
    by_cases k0 : 0 ≤ c ∧ c ≤ 5
    · have q : c = 0 ∨ c = 1 ∨ c = 2 ∨ c = 3 ∨ c = 4 ∨ c = 5 := by grind
      rcases q with rfl | rfl | rfl | rfl | rfl | rfl
      · have x1 : ¬ (4 : Int32) ≤ 0 := by decide
        have y1 : vp_in (20 * a + 5 * b + 0) 480 := by rw [Int32.add_zero]; exact v1
        repeat' (first
          | ((with_reducible refine K_haveT ?_ ?_); exact hE)
          | ((with_reducible refine K_isEdT ?_ ?_); exact hE2)
          | ((with_reducible refine K_isSlot ?_ ?_); (with_reducible assumption))
          | ((with_reducible refine K_left ?_ ?_); (with_reducible assumption))
          | with_reducible refine K_row ?_
          | with_reducible refine K_slot ?_
          | ((with_reducible refine K_stays ?_ ?_ ?_ ?_ ?_); (with_reducible assumption); (with_reducible assumption); (with_reducible assumption); (with_reducible assumption))
          | ((with_reducible refine K_isT ?_ ?_); (with_reducible assumption))
          | ((with_reducible refine K_isF ?_ ?_); (with_reducible assumption))
          | ((with_reducible refine K_isPartT ?_ ?_); (with_reducible assumption))
          | ((with_reducible refine K_isPartF ?_ ?_); (with_reducible assumption))
          | ((with_reducible refine K_misPartT ?_ ?_); (with_reducible assumption))
          | ((with_reducible refine K_misPartF ?_ ?_); (with_reducible assumption))
          | refine sw6 (fun _ => ?_) (fun h => absurd h (by decide)) (fun h => absurd h (by decide)) (fun h => absurd h (by decide)) (fun h => absurd h (by decide)) (fun h => absurd h (by decide)) (fun h _ _ _ _ _ => absurd rfl h)
          | refine sw6 (fun h => absurd h (by decide)) (fun _ => ?_) (fun h => absurd h (by decide)) (fun h => absurd h (by decide)) (fun h => absurd h (by decide)) (fun h => absurd h (by decide)) (fun _ h _ _ _ _ => absurd rfl h)
          | refine sw6 (fun h => absurd h (by decide)) (fun h => absurd h (by decide)) (fun _ => ?_) (fun h => absurd h (by decide)) (fun h => absurd h (by decide)) (fun h => absurd h (by decide)) (fun _ _ h _ _ _ => absurd rfl h)
          | refine sw6 (fun h => absurd h (by decide)) (fun h => absurd h (by decide)) (fun h => absurd h (by decide)) (fun _ => ?_) (fun h => absurd h (by decide)) (fun h => absurd h (by decide)) (fun _ _ _ h _ _ => absurd rfl h)
          | refine sw6 (fun h => absurd h (by decide)) (fun h => absurd h (by decide)) (fun h => absurd h (by decide)) (fun h => absurd h (by decide)) (fun _ => ?_) (fun h => absurd h (by decide)) (fun _ _ _ _ h _ => absurd rfl h)
          | refine sw6 (fun h => absurd h (by decide)) (fun h => absurd h (by decide)) (fun h => absurd h (by decide)) (fun h => absurd h (by decide)) (fun h => absurd h (by decide)) (fun _ => ?_) (fun _ _ _ _ _ h => absurd rfl h)
          | refine sw6 (fun h => absurd h (by assumption)) (fun h => absurd h (by assumption)) (fun h => absurd h (by assumption)) (fun h => absurd h (by assumption)) (fun h => absurd h (by assumption)) (fun h => absurd h (by assumption)) (fun _ _ _ _ _ _ => ?_)
          | with_reducible refine C_TH_stock _ _ _ _ (B_TH_stock_0 _ _ _ _ ?_)
          | with_reducible refine C_Sh_countOf _ _ _ (B_Sh_countOf_0 _ _ _ ?_)
          | with_reducible refine C_Md_stock _ _ _ _ (B_Md_stock_0 _ _ _ _ ?_)
          | refine ⟨(by with_reducible assumption : vp_in _ _), ?_⟩
          | simp only [-eq_self, w0, w1, w2, w3, w4, w5, f0, f1, f2, f3, f4, eP, e18, e19, e20, e21, Int32.add_zero]
          | refine ⟨lnb _ (Or.inl rfl), ?_⟩
          | refine ⟨lnb _ (Or.inr rfl), ?_⟩
          | refine bq_t rfl ?_
          | refine bq_f (by decide) ?_
          | refine bq_tn rfl ?_
          | refine bq_fn (by decide) ?_
          | refine bq_t trivial ?_
          | refine bq_t (by first | with_reducible assumption | exact Int32.not_lt.mp (by with_reducible assumption) | exact Int32.not_le.mp (by with_reducible assumption) | exact Int32.not_lt.mpr (by with_reducible assumption) | exact Int32.not_le.mpr (by with_reducible assumption)) ?_
          | refine bq_f (by first | with_reducible assumption | exact Int32.not_lt.mp (by with_reducible assumption) | exact Int32.not_le.mp (by with_reducible assumption) | exact Int32.not_lt.mpr (by with_reducible assumption) | exact Int32.not_le.mpr (by with_reducible assumption)) ?_
          | refine bq_tn (by first | with_reducible assumption | exact Int32.not_lt.mp (by with_reducible assumption) | exact Int32.not_le.mp (by with_reducible assumption) | exact Int32.not_lt.mpr (by with_reducible assumption) | exact Int32.not_le.mpr (by with_reducible assumption)) ?_
          | refine bq_fn (by first | with_reducible assumption | exact Int32.not_lt.mp (by with_reducible assumption) | exact Int32.not_le.mp (by with_reducible assumption) | exact Int32.not_lt.mpr (by with_reducible assumption) | exact Int32.not_le.mpr (by with_reducible assumption)) ?_)
        exact ⟨rfl, ⟨r0, r1, r2, r3, r4, r5, r6.succ, r7, r8.succ⟩⟩
      · have x1 : ¬ (4 : Int32) ≤ 1 := by decide
        have y1 : vp_in (20 * a + 5 * b + 0) 480 := by rw [Int32.add_zero]; exact v1
        repeat' (first
          | ((with_reducible refine K_haveT ?_ ?_); exact hE)
          | ((with_reducible refine K_isEdT ?_ ?_); exact hE2)
          | ((with_reducible refine K_isSlot ?_ ?_); (with_reducible assumption))
          | ((with_reducible refine K_left ?_ ?_); (with_reducible assumption))
          | with_reducible refine K_row ?_
          | with_reducible refine K_slot ?_
          | ((with_reducible refine K_stays ?_ ?_ ?_ ?_ ?_); (with_reducible assumption); (with_reducible assumption); (with_reducible assumption); (with_reducible assumption))
          | ((with_reducible refine K_isT ?_ ?_); (with_reducible assumption))
          | ((with_reducible refine K_isF ?_ ?_); (with_reducible assumption))
          | ((with_reducible refine K_isPartT ?_ ?_); (with_reducible assumption))
          | ((with_reducible refine K_isPartF ?_ ?_); (with_reducible assumption))
          | ((with_reducible refine K_misPartT ?_ ?_); (with_reducible assumption))
          | ((with_reducible refine K_misPartF ?_ ?_); (with_reducible assumption))
          | refine sw6 (fun _ => ?_) (fun h => absurd h (by decide)) (fun h => absurd h (by decide)) (fun h => absurd h (by decide)) (fun h => absurd h (by decide)) (fun h => absurd h (by decide)) (fun h _ _ _ _ _ => absurd rfl h)
          | refine sw6 (fun h => absurd h (by decide)) (fun _ => ?_) (fun h => absurd h (by decide)) (fun h => absurd h (by decide)) (fun h => absurd h (by decide)) (fun h => absurd h (by decide)) (fun _ h _ _ _ _ => absurd rfl h)
          | refine sw6 (fun h => absurd h (by decide)) (fun h => absurd h (by decide)) (fun _ => ?_) (fun h => absurd h (by decide)) (fun h => absurd h (by decide)) (fun h => absurd h (by decide)) (fun _ _ h _ _ _ => absurd rfl h)
          | refine sw6 (fun h => absurd h (by decide)) (fun h => absurd h (by decide)) (fun h => absurd h (by decide)) (fun _ => ?_) (fun h => absurd h (by decide)) (fun h => absurd h (by decide)) (fun _ _ _ h _ _ => absurd rfl h)
          | refine sw6 (fun h => absurd h (by decide)) (fun h => absurd h (by decide)) (fun h => absurd h (by decide)) (fun h => absurd h (by decide)) (fun _ => ?_) (fun h => absurd h (by decide)) (fun _ _ _ _ h _ => absurd rfl h)
          | refine sw6 (fun h => absurd h (by decide)) (fun h => absurd h (by decide)) (fun h => absurd h (by decide)) (fun h => absurd h (by decide)) (fun h => absurd h (by decide)) (fun _ => ?_) (fun _ _ _ _ _ h => absurd rfl h)
          | refine sw6 (fun h => absurd h (by assumption)) (fun h => absurd h (by assumption)) (fun h => absurd h (by assumption)) (fun h => absurd h (by assumption)) (fun h => absurd h (by assumption)) (fun h => absurd h (by assumption)) (fun _ _ _ _ _ _ => ?_)
          | with_reducible refine C_TH_stock _ _ _ _ (B_TH_stock_0 _ _ _ _ ?_)
          | with_reducible refine C_Sh_countOf _ _ _ (B_Sh_countOf_0 _ _ _ ?_)
          | with_reducible refine C_Md_stock _ _ _ _ (B_Md_stock_0 _ _ _ _ ?_)
          | refine ⟨(by with_reducible assumption : vp_in _ _), ?_⟩
          | simp only [-eq_self, w0, w1, w2, w3, w4, w5, f0, f1, f2, f3, f4, eP, e18, e19, e20, e21, Int32.add_zero]
          | refine ⟨lnb _ (Or.inl rfl), ?_⟩
          | refine ⟨lnb _ (Or.inr rfl), ?_⟩
          | refine bq_t rfl ?_
          | refine bq_f (by decide) ?_
          | refine bq_tn rfl ?_
          | refine bq_fn (by decide) ?_
          | refine bq_t trivial ?_
          | refine bq_t (by first | with_reducible assumption | exact Int32.not_lt.mp (by with_reducible assumption) | exact Int32.not_le.mp (by with_reducible assumption) | exact Int32.not_lt.mpr (by with_reducible assumption) | exact Int32.not_le.mpr (by with_reducible assumption)) ?_
          | refine bq_f (by first | with_reducible assumption | exact Int32.not_lt.mp (by with_reducible assumption) | exact Int32.not_le.mp (by with_reducible assumption) | exact Int32.not_lt.mpr (by with_reducible assumption) | exact Int32.not_le.mpr (by with_reducible assumption)) ?_
          | refine bq_tn (by first | with_reducible assumption | exact Int32.not_lt.mp (by with_reducible assumption) | exact Int32.not_le.mp (by with_reducible assumption) | exact Int32.not_lt.mpr (by with_reducible assumption) | exact Int32.not_le.mpr (by with_reducible assumption)) ?_
          | refine bq_fn (by first | with_reducible assumption | exact Int32.not_lt.mp (by with_reducible assumption) | exact Int32.not_le.mp (by with_reducible assumption) | exact Int32.not_lt.mpr (by with_reducible assumption) | exact Int32.not_le.mpr (by with_reducible assumption)) ?_)
        exact ⟨rfl, ⟨r0, r1, r2, r3, r4, r5, r6.succ, r7, r8.succ⟩⟩
      · have x1 : ¬ (4 : Int32) ≤ 2 := by decide
        have y1 : vp_in (20 * a + 5 * b + 0) 480 := by rw [Int32.add_zero]; exact v1
        repeat' (first
          | ((with_reducible refine K_haveT ?_ ?_); exact hE)
          | ((with_reducible refine K_isEdT ?_ ?_); exact hE2)
          | ((with_reducible refine K_isSlot ?_ ?_); (with_reducible assumption))
          | ((with_reducible refine K_left ?_ ?_); (with_reducible assumption))
          | with_reducible refine K_row ?_
          | with_reducible refine K_slot ?_
          | ((with_reducible refine K_stays ?_ ?_ ?_ ?_ ?_); (with_reducible assumption); (with_reducible assumption); (with_reducible assumption); (with_reducible assumption))
          | ((with_reducible refine K_isT ?_ ?_); (with_reducible assumption))
          | ((with_reducible refine K_isF ?_ ?_); (with_reducible assumption))
          | ((with_reducible refine K_isPartT ?_ ?_); (with_reducible assumption))
          | ((with_reducible refine K_isPartF ?_ ?_); (with_reducible assumption))
          | ((with_reducible refine K_misPartT ?_ ?_); (with_reducible assumption))
          | ((with_reducible refine K_misPartF ?_ ?_); (with_reducible assumption))
          | refine sw6 (fun _ => ?_) (fun h => absurd h (by decide)) (fun h => absurd h (by decide)) (fun h => absurd h (by decide)) (fun h => absurd h (by decide)) (fun h => absurd h (by decide)) (fun h _ _ _ _ _ => absurd rfl h)
          | refine sw6 (fun h => absurd h (by decide)) (fun _ => ?_) (fun h => absurd h (by decide)) (fun h => absurd h (by decide)) (fun h => absurd h (by decide)) (fun h => absurd h (by decide)) (fun _ h _ _ _ _ => absurd rfl h)
          | refine sw6 (fun h => absurd h (by decide)) (fun h => absurd h (by decide)) (fun _ => ?_) (fun h => absurd h (by decide)) (fun h => absurd h (by decide)) (fun h => absurd h (by decide)) (fun _ _ h _ _ _ => absurd rfl h)
          | refine sw6 (fun h => absurd h (by decide)) (fun h => absurd h (by decide)) (fun h => absurd h (by decide)) (fun _ => ?_) (fun h => absurd h (by decide)) (fun h => absurd h (by decide)) (fun _ _ _ h _ _ => absurd rfl h)
          | refine sw6 (fun h => absurd h (by decide)) (fun h => absurd h (by decide)) (fun h => absurd h (by decide)) (fun h => absurd h (by decide)) (fun _ => ?_) (fun h => absurd h (by decide)) (fun _ _ _ _ h _ => absurd rfl h)
          | refine sw6 (fun h => absurd h (by decide)) (fun h => absurd h (by decide)) (fun h => absurd h (by decide)) (fun h => absurd h (by decide)) (fun h => absurd h (by decide)) (fun _ => ?_) (fun _ _ _ _ _ h => absurd rfl h)
          | refine sw6 (fun h => absurd h (by assumption)) (fun h => absurd h (by assumption)) (fun h => absurd h (by assumption)) (fun h => absurd h (by assumption)) (fun h => absurd h (by assumption)) (fun h => absurd h (by assumption)) (fun _ _ _ _ _ _ => ?_)
          | with_reducible refine C_TH_stock _ _ _ _ (B_TH_stock_0 _ _ _ _ ?_)
          | with_reducible refine C_Sh_countOf _ _ _ (B_Sh_countOf_0 _ _ _ ?_)
          | with_reducible refine C_Md_stock _ _ _ _ (B_Md_stock_0 _ _ _ _ ?_)
          | refine ⟨(by with_reducible assumption : vp_in _ _), ?_⟩
          | simp only [-eq_self, w0, w1, w2, w3, w4, w5, f0, f1, f2, f3, f4, eP, e18, e19, e20, e21, Int32.add_zero]
          | refine ⟨lnb _ (Or.inl rfl), ?_⟩
          | refine ⟨lnb _ (Or.inr rfl), ?_⟩
          | refine bq_t rfl ?_
          | refine bq_f (by decide) ?_
          | refine bq_tn rfl ?_
          | refine bq_fn (by decide) ?_
          | refine bq_t trivial ?_
          | refine bq_t (by first | with_reducible assumption | exact Int32.not_lt.mp (by with_reducible assumption) | exact Int32.not_le.mp (by with_reducible assumption) | exact Int32.not_lt.mpr (by with_reducible assumption) | exact Int32.not_le.mpr (by with_reducible assumption)) ?_
          | refine bq_f (by first | with_reducible assumption | exact Int32.not_lt.mp (by with_reducible assumption) | exact Int32.not_le.mp (by with_reducible assumption) | exact Int32.not_lt.mpr (by with_reducible assumption) | exact Int32.not_le.mpr (by with_reducible assumption)) ?_
          | refine bq_tn (by first | with_reducible assumption | exact Int32.not_lt.mp (by with_reducible assumption) | exact Int32.not_le.mp (by with_reducible assumption) | exact Int32.not_lt.mpr (by with_reducible assumption) | exact Int32.not_le.mpr (by with_reducible assumption)) ?_
          | refine bq_fn (by first | with_reducible assumption | exact Int32.not_lt.mp (by with_reducible assumption) | exact Int32.not_le.mp (by with_reducible assumption) | exact Int32.not_lt.mpr (by with_reducible assumption) | exact Int32.not_le.mpr (by with_reducible assumption)) ?_)
        exact ⟨rfl, ⟨r0, r1, r2, r3, r4, r5, r6.succ, r7, r8.succ⟩⟩
      · have x1 : ¬ (4 : Int32) ≤ 3 := by decide
        have y1 : vp_in (20 * a + 5 * b + 0) 480 := by rw [Int32.add_zero]; exact v1
        repeat' (first
          | ((with_reducible refine K_haveT ?_ ?_); exact hE)
          | ((with_reducible refine K_isEdT ?_ ?_); exact hE2)
          | ((with_reducible refine K_isSlot ?_ ?_); (with_reducible assumption))
          | ((with_reducible refine K_left ?_ ?_); (with_reducible assumption))
          | with_reducible refine K_row ?_
          | with_reducible refine K_slot ?_
          | ((with_reducible refine K_stays ?_ ?_ ?_ ?_ ?_); (with_reducible assumption); (with_reducible assumption); (with_reducible assumption); (with_reducible assumption))
          | ((with_reducible refine K_isT ?_ ?_); (with_reducible assumption))
          | ((with_reducible refine K_isF ?_ ?_); (with_reducible assumption))
          | ((with_reducible refine K_isPartT ?_ ?_); (with_reducible assumption))
          | ((with_reducible refine K_isPartF ?_ ?_); (with_reducible assumption))
          | ((with_reducible refine K_misPartT ?_ ?_); (with_reducible assumption))
          | ((with_reducible refine K_misPartF ?_ ?_); (with_reducible assumption))
          | refine sw6 (fun _ => ?_) (fun h => absurd h (by decide)) (fun h => absurd h (by decide)) (fun h => absurd h (by decide)) (fun h => absurd h (by decide)) (fun h => absurd h (by decide)) (fun h _ _ _ _ _ => absurd rfl h)
          | refine sw6 (fun h => absurd h (by decide)) (fun _ => ?_) (fun h => absurd h (by decide)) (fun h => absurd h (by decide)) (fun h => absurd h (by decide)) (fun h => absurd h (by decide)) (fun _ h _ _ _ _ => absurd rfl h)
          | refine sw6 (fun h => absurd h (by decide)) (fun h => absurd h (by decide)) (fun _ => ?_) (fun h => absurd h (by decide)) (fun h => absurd h (by decide)) (fun h => absurd h (by decide)) (fun _ _ h _ _ _ => absurd rfl h)
          | refine sw6 (fun h => absurd h (by decide)) (fun h => absurd h (by decide)) (fun h => absurd h (by decide)) (fun _ => ?_) (fun h => absurd h (by decide)) (fun h => absurd h (by decide)) (fun _ _ _ h _ _ => absurd rfl h)
          | refine sw6 (fun h => absurd h (by decide)) (fun h => absurd h (by decide)) (fun h => absurd h (by decide)) (fun h => absurd h (by decide)) (fun _ => ?_) (fun h => absurd h (by decide)) (fun _ _ _ _ h _ => absurd rfl h)
          | refine sw6 (fun h => absurd h (by decide)) (fun h => absurd h (by decide)) (fun h => absurd h (by decide)) (fun h => absurd h (by decide)) (fun h => absurd h (by decide)) (fun _ => ?_) (fun _ _ _ _ _ h => absurd rfl h)
          | refine sw6 (fun h => absurd h (by assumption)) (fun h => absurd h (by assumption)) (fun h => absurd h (by assumption)) (fun h => absurd h (by assumption)) (fun h => absurd h (by assumption)) (fun h => absurd h (by assumption)) (fun _ _ _ _ _ _ => ?_)
          | with_reducible refine C_TH_stock _ _ _ _ (B_TH_stock_0 _ _ _ _ ?_)
          | with_reducible refine C_Sh_countOf _ _ _ (B_Sh_countOf_0 _ _ _ ?_)
          | with_reducible refine C_Md_stock _ _ _ _ (B_Md_stock_0 _ _ _ _ ?_)
          | refine ⟨(by with_reducible assumption : vp_in _ _), ?_⟩
          | simp only [-eq_self, w0, w1, w2, w3, w4, w5, f0, f1, f2, f3, f4, eP, e18, e19, e20, e21, Int32.add_zero]
          | refine ⟨lnb _ (Or.inl rfl), ?_⟩
          | refine ⟨lnb _ (Or.inr rfl), ?_⟩
          | refine bq_t rfl ?_
          | refine bq_f (by decide) ?_
          | refine bq_tn rfl ?_
          | refine bq_fn (by decide) ?_
          | refine bq_t trivial ?_
          | refine bq_t (by first | with_reducible assumption | exact Int32.not_lt.mp (by with_reducible assumption) | exact Int32.not_le.mp (by with_reducible assumption) | exact Int32.not_lt.mpr (by with_reducible assumption) | exact Int32.not_le.mpr (by with_reducible assumption)) ?_
          | refine bq_f (by first | with_reducible assumption | exact Int32.not_lt.mp (by with_reducible assumption) | exact Int32.not_le.mp (by with_reducible assumption) | exact Int32.not_lt.mpr (by with_reducible assumption) | exact Int32.not_le.mpr (by with_reducible assumption)) ?_
          | refine bq_tn (by first | with_reducible assumption | exact Int32.not_lt.mp (by with_reducible assumption) | exact Int32.not_le.mp (by with_reducible assumption) | exact Int32.not_lt.mpr (by with_reducible assumption) | exact Int32.not_le.mpr (by with_reducible assumption)) ?_
          | refine bq_fn (by first | with_reducible assumption | exact Int32.not_lt.mp (by with_reducible assumption) | exact Int32.not_le.mp (by with_reducible assumption) | exact Int32.not_lt.mpr (by with_reducible assumption) | exact Int32.not_le.mpr (by with_reducible assumption)) ?_)
        exact ⟨rfl, ⟨r0, r1, r2, r3, r4, r5, r6.succ, r7, r8.succ⟩⟩
      · have x1 : (4 : Int32) ≤ 4 := by decide
        repeat' (first
          | ((with_reducible refine K_haveT ?_ ?_); exact hE)
          | ((with_reducible refine K_isEdT ?_ ?_); exact hE2)
          | ((with_reducible refine K_isSlot ?_ ?_); (with_reducible assumption))
          | ((with_reducible refine K_left ?_ ?_); (with_reducible assumption))
          | with_reducible refine K_row ?_
          | with_reducible refine K_slot ?_
          | ((with_reducible refine K_stays ?_ ?_ ?_ ?_ ?_); (with_reducible assumption); (with_reducible assumption); (with_reducible assumption); (with_reducible assumption))
          | ((with_reducible refine K_isT ?_ ?_); (with_reducible assumption))
          | ((with_reducible refine K_isF ?_ ?_); (with_reducible assumption))
          | ((with_reducible refine K_isPartT ?_ ?_); (with_reducible assumption))
          | ((with_reducible refine K_isPartF ?_ ?_); (with_reducible assumption))
          | ((with_reducible refine K_misPartT ?_ ?_); (with_reducible assumption))
          | ((with_reducible refine K_misPartF ?_ ?_); (with_reducible assumption))
          | refine sw6 (fun _ => ?_) (fun h => absurd h (by decide)) (fun h => absurd h (by decide)) (fun h => absurd h (by decide)) (fun h => absurd h (by decide)) (fun h => absurd h (by decide)) (fun h _ _ _ _ _ => absurd rfl h)
          | refine sw6 (fun h => absurd h (by decide)) (fun _ => ?_) (fun h => absurd h (by decide)) (fun h => absurd h (by decide)) (fun h => absurd h (by decide)) (fun h => absurd h (by decide)) (fun _ h _ _ _ _ => absurd rfl h)
          | refine sw6 (fun h => absurd h (by decide)) (fun h => absurd h (by decide)) (fun _ => ?_) (fun h => absurd h (by decide)) (fun h => absurd h (by decide)) (fun h => absurd h (by decide)) (fun _ _ h _ _ _ => absurd rfl h)
          | refine sw6 (fun h => absurd h (by decide)) (fun h => absurd h (by decide)) (fun h => absurd h (by decide)) (fun _ => ?_) (fun h => absurd h (by decide)) (fun h => absurd h (by decide)) (fun _ _ _ h _ _ => absurd rfl h)
          | refine sw6 (fun h => absurd h (by decide)) (fun h => absurd h (by decide)) (fun h => absurd h (by decide)) (fun h => absurd h (by decide)) (fun _ => ?_) (fun h => absurd h (by decide)) (fun _ _ _ _ h _ => absurd rfl h)
          | refine sw6 (fun h => absurd h (by decide)) (fun h => absurd h (by decide)) (fun h => absurd h (by decide)) (fun h => absurd h (by decide)) (fun h => absurd h (by decide)) (fun _ => ?_) (fun _ _ _ _ _ h => absurd rfl h)
          | refine sw6 (fun h => absurd h (by assumption)) (fun h => absurd h (by assumption)) (fun h => absurd h (by assumption)) (fun h => absurd h (by assumption)) (fun h => absurd h (by assumption)) (fun h => absurd h (by assumption)) (fun _ _ _ _ _ _ => ?_)
          | with_reducible refine C_TH_stock _ _ _ _ (B_TH_stock_0 _ _ _ _ ?_)
          | with_reducible refine C_Sh_countOf _ _ _ (B_Sh_countOf_0 _ _ _ ?_)
          | with_reducible refine C_Md_stock _ _ _ _ (B_Md_stock_0 _ _ _ _ ?_)
          | refine ⟨(by with_reducible assumption : vp_in _ _), ?_⟩
          | simp only [-eq_self, w0, w1, w2, w3, w4, w5, f0, f1, f2, f3, f4, eP, e18, e19, e20, e21, Int32.add_zero]
          | refine ⟨lnb _ (Or.inl rfl), ?_⟩
          | refine ⟨lnb _ (Or.inr rfl), ?_⟩
          | refine bq_t rfl ?_
          | refine bq_f (by decide) ?_
          | refine bq_tn rfl ?_
          | refine bq_fn (by decide) ?_
          | refine bq_t trivial ?_
          | refine bq_t (by first | with_reducible assumption | exact Int32.not_lt.mp (by with_reducible assumption) | exact Int32.not_le.mp (by with_reducible assumption) | exact Int32.not_lt.mpr (by with_reducible assumption) | exact Int32.not_le.mpr (by with_reducible assumption)) ?_
          | refine bq_f (by first | with_reducible assumption | exact Int32.not_lt.mp (by with_reducible assumption) | exact Int32.not_le.mp (by with_reducible assumption) | exact Int32.not_lt.mpr (by with_reducible assumption) | exact Int32.not_le.mpr (by with_reducible assumption)) ?_
          | refine bq_tn (by first | with_reducible assumption | exact Int32.not_lt.mp (by with_reducible assumption) | exact Int32.not_le.mp (by with_reducible assumption) | exact Int32.not_lt.mpr (by with_reducible assumption) | exact Int32.not_le.mpr (by with_reducible assumption)) ?_
          | refine bq_fn (by first | with_reducible assumption | exact Int32.not_lt.mp (by with_reducible assumption) | exact Int32.not_le.mp (by with_reducible assumption) | exact Int32.not_lt.mpr (by with_reducible assumption) | exact Int32.not_le.mpr (by with_reducible assumption)) ?_)
        exact ⟨rfl, ⟨r0, r1, r2, r3, r4, r5, r6.succ, r7, r8.succ⟩⟩
      · have x1 : (4 : Int32) ≤ 5 := by decide
        rcases c0 with z | z
        · repeat' (first
            | ((with_reducible refine K_haveT ?_ ?_); exact hE)
            | ((with_reducible refine K_isEdT ?_ ?_); exact hE2)
            | ((with_reducible refine K_isSlot ?_ ?_); (with_reducible assumption))
            | ((with_reducible refine K_left ?_ ?_); (with_reducible assumption))
            | with_reducible refine K_row ?_
            | with_reducible refine K_slot ?_
            | ((with_reducible refine K_stays ?_ ?_ ?_ ?_ ?_); (with_reducible assumption); (with_reducible assumption); (with_reducible assumption); (with_reducible assumption))
            | ((with_reducible refine K_isT ?_ ?_); (with_reducible assumption))
            | ((with_reducible refine K_isF ?_ ?_); (with_reducible assumption))
            | ((with_reducible refine K_isPartT ?_ ?_); (with_reducible assumption))
            | ((with_reducible refine K_isPartF ?_ ?_); (with_reducible assumption))
            | ((with_reducible refine K_misPartT ?_ ?_); (with_reducible assumption))
            | ((with_reducible refine K_misPartF ?_ ?_); (with_reducible assumption))
            | refine sw6 (fun _ => ?_) (fun h => absurd h (by decide)) (fun h => absurd h (by decide)) (fun h => absurd h (by decide)) (fun h => absurd h (by decide)) (fun h => absurd h (by decide)) (fun h _ _ _ _ _ => absurd rfl h)
            | refine sw6 (fun h => absurd h (by decide)) (fun _ => ?_) (fun h => absurd h (by decide)) (fun h => absurd h (by decide)) (fun h => absurd h (by decide)) (fun h => absurd h (by decide)) (fun _ h _ _ _ _ => absurd rfl h)
            | refine sw6 (fun h => absurd h (by decide)) (fun h => absurd h (by decide)) (fun _ => ?_) (fun h => absurd h (by decide)) (fun h => absurd h (by decide)) (fun h => absurd h (by decide)) (fun _ _ h _ _ _ => absurd rfl h)
            | refine sw6 (fun h => absurd h (by decide)) (fun h => absurd h (by decide)) (fun h => absurd h (by decide)) (fun _ => ?_) (fun h => absurd h (by decide)) (fun h => absurd h (by decide)) (fun _ _ _ h _ _ => absurd rfl h)
            | refine sw6 (fun h => absurd h (by decide)) (fun h => absurd h (by decide)) (fun h => absurd h (by decide)) (fun h => absurd h (by decide)) (fun _ => ?_) (fun h => absurd h (by decide)) (fun _ _ _ _ h _ => absurd rfl h)
            | refine sw6 (fun h => absurd h (by decide)) (fun h => absurd h (by decide)) (fun h => absurd h (by decide)) (fun h => absurd h (by decide)) (fun h => absurd h (by decide)) (fun _ => ?_) (fun _ _ _ _ _ h => absurd rfl h)
            | refine sw6 (fun h => absurd h (by assumption)) (fun h => absurd h (by assumption)) (fun h => absurd h (by assumption)) (fun h => absurd h (by assumption)) (fun h => absurd h (by assumption)) (fun h => absurd h (by assumption)) (fun _ _ _ _ _ _ => ?_)
            | with_reducible refine C_TH_stock _ _ _ _ (B_TH_stock_0 _ _ _ _ ?_)
            | with_reducible refine C_Sh_countOf _ _ _ (B_Sh_countOf_0 _ _ _ ?_)
            | with_reducible refine C_Md_stock _ _ _ _ (B_Md_stock_0 _ _ _ _ ?_)
            | refine ⟨(by with_reducible assumption : vp_in _ _), ?_⟩
            | simp only [-eq_self, w0, w1, w2, w3, w4, w5, f0, f1, f2, f3, f4, eP, e18, e19, e20, e21, Int32.add_zero]
            | refine ⟨lnb _ (Or.inl rfl), ?_⟩
            | refine ⟨lnb _ (Or.inr rfl), ?_⟩
            | refine bq_t rfl ?_
            | refine bq_f (by decide) ?_
            | refine bq_tn rfl ?_
            | refine bq_fn (by decide) ?_
            | refine bq_t trivial ?_
            | refine bq_t (by first | with_reducible assumption | exact Int32.not_lt.mp (by with_reducible assumption) | exact Int32.not_le.mp (by with_reducible assumption) | exact Int32.not_lt.mpr (by with_reducible assumption) | exact Int32.not_le.mpr (by with_reducible assumption)) ?_
            | refine bq_f (by first | with_reducible assumption | exact Int32.not_lt.mp (by with_reducible assumption) | exact Int32.not_le.mp (by with_reducible assumption) | exact Int32.not_lt.mpr (by with_reducible assumption) | exact Int32.not_le.mpr (by with_reducible assumption)) ?_
            | refine bq_tn (by first | with_reducible assumption | exact Int32.not_lt.mp (by with_reducible assumption) | exact Int32.not_le.mp (by with_reducible assumption) | exact Int32.not_lt.mpr (by with_reducible assumption) | exact Int32.not_le.mpr (by with_reducible assumption)) ?_
            | refine bq_fn (by first | with_reducible assumption | exact Int32.not_lt.mp (by with_reducible assumption) | exact Int32.not_le.mp (by with_reducible assumption) | exact Int32.not_lt.mpr (by with_reducible assumption) | exact Int32.not_le.mpr (by with_reducible assumption)) ?_)
          exact ⟨z.symm, ⟨r0, r1, r2, r3, r4, r5, r6.succ, r7, r8.succ⟩⟩
        · have z2 : ¬ gA σ 17 (4 * i + j) = 0 := by rw [z]; decide
          repeat' (first
            | ((with_reducible refine K_haveT ?_ ?_); exact hE)
            | ((with_reducible refine K_isEdT ?_ ?_); exact hE2)
            | ((with_reducible refine K_isSlot ?_ ?_); (with_reducible assumption))
            | ((with_reducible refine K_left ?_ ?_); (with_reducible assumption))
            | with_reducible refine K_row ?_
            | with_reducible refine K_slot ?_
            | ((with_reducible refine K_stays ?_ ?_ ?_ ?_ ?_); (with_reducible assumption); (with_reducible assumption); (with_reducible assumption); (with_reducible assumption))
            | ((with_reducible refine K_isT ?_ ?_); (with_reducible assumption))
            | ((with_reducible refine K_isF ?_ ?_); (with_reducible assumption))
            | ((with_reducible refine K_isPartT ?_ ?_); (with_reducible assumption))
            | ((with_reducible refine K_isPartF ?_ ?_); (with_reducible assumption))
            | ((with_reducible refine K_misPartT ?_ ?_); (with_reducible assumption))
            | ((with_reducible refine K_misPartF ?_ ?_); (with_reducible assumption))
            | refine sw6 (fun _ => ?_) (fun h => absurd h (by decide)) (fun h => absurd h (by decide)) (fun h => absurd h (by decide)) (fun h => absurd h (by decide)) (fun h => absurd h (by decide)) (fun h _ _ _ _ _ => absurd rfl h)
            | refine sw6 (fun h => absurd h (by decide)) (fun _ => ?_) (fun h => absurd h (by decide)) (fun h => absurd h (by decide)) (fun h => absurd h (by decide)) (fun h => absurd h (by decide)) (fun _ h _ _ _ _ => absurd rfl h)
            | refine sw6 (fun h => absurd h (by decide)) (fun h => absurd h (by decide)) (fun _ => ?_) (fun h => absurd h (by decide)) (fun h => absurd h (by decide)) (fun h => absurd h (by decide)) (fun _ _ h _ _ _ => absurd rfl h)
            | refine sw6 (fun h => absurd h (by decide)) (fun h => absurd h (by decide)) (fun h => absurd h (by decide)) (fun _ => ?_) (fun h => absurd h (by decide)) (fun h => absurd h (by decide)) (fun _ _ _ h _ _ => absurd rfl h)
            | refine sw6 (fun h => absurd h (by decide)) (fun h => absurd h (by decide)) (fun h => absurd h (by decide)) (fun h => absurd h (by decide)) (fun _ => ?_) (fun h => absurd h (by decide)) (fun _ _ _ _ h _ => absurd rfl h)
            | refine sw6 (fun h => absurd h (by decide)) (fun h => absurd h (by decide)) (fun h => absurd h (by decide)) (fun h => absurd h (by decide)) (fun h => absurd h (by decide)) (fun _ => ?_) (fun _ _ _ _ _ h => absurd rfl h)
            | refine sw6 (fun h => absurd h (by assumption)) (fun h => absurd h (by assumption)) (fun h => absurd h (by assumption)) (fun h => absurd h (by assumption)) (fun h => absurd h (by assumption)) (fun h => absurd h (by assumption)) (fun _ _ _ _ _ _ => ?_)
            | with_reducible refine C_TH_stock _ _ _ _ (B_TH_stock_0 _ _ _ _ ?_)
            | with_reducible refine C_Sh_countOf _ _ _ (B_Sh_countOf_0 _ _ _ ?_)
            | with_reducible refine C_Md_stock _ _ _ _ (B_Md_stock_0 _ _ _ _ ?_)
            | refine ⟨(by with_reducible assumption : vp_in _ _), ?_⟩
            | simp only [-eq_self, w0, w1, w2, w3, w4, w5, f0, f1, f2, f3, f4, eP, e18, e19, e20, e21, Int32.add_zero]
            | refine ⟨lnb _ (Or.inl rfl), ?_⟩
            | refine ⟨lnb _ (Or.inr rfl), ?_⟩
            | refine bq_t rfl ?_
            | refine bq_f (by decide) ?_
            | refine bq_tn rfl ?_
            | refine bq_fn (by decide) ?_
            | refine bq_t trivial ?_
            | refine bq_t (by first | with_reducible assumption | exact Int32.not_lt.mp (by with_reducible assumption) | exact Int32.not_le.mp (by with_reducible assumption) | exact Int32.not_lt.mpr (by with_reducible assumption) | exact Int32.not_le.mpr (by with_reducible assumption)) ?_
            | refine bq_f (by first | with_reducible assumption | exact Int32.not_lt.mp (by with_reducible assumption) | exact Int32.not_le.mp (by with_reducible assumption) | exact Int32.not_lt.mpr (by with_reducible assumption) | exact Int32.not_le.mpr (by with_reducible assumption)) ?_
            | refine bq_tn (by first | with_reducible assumption | exact Int32.not_lt.mp (by with_reducible assumption) | exact Int32.not_le.mp (by with_reducible assumption) | exact Int32.not_lt.mpr (by with_reducible assumption) | exact Int32.not_le.mpr (by with_reducible assumption)) ?_
            | refine bq_fn (by first | with_reducible assumption | exact Int32.not_lt.mp (by with_reducible assumption) | exact Int32.not_le.mp (by with_reducible assumption) | exact Int32.not_lt.mpr (by with_reducible assumption) | exact Int32.not_le.mpr (by with_reducible assumption)) ?_)
          exact ⟨z.symm, ⟨r0, r1, r2, r3, r4, r5, r6.succ, r7, r8.succ⟩⟩
    · have n0 : ¬ c = 0 := fun q => k0 (by rw [q]; decide)
      have n1 : ¬ c = 1 := fun q => k0 (by rw [q]; decide)
      have n2 : ¬ c = 2 := fun q => k0 (by rw [q]; decide)
      have n3 : ¬ c = 3 := fun q => k0 (by rw [q]; decide)
      have n4 : ¬ c = 4 := fun q => k0 (by rw [q]; decide)
      have n5 : ¬ c = 5 := fun q => k0 (by rw [q]; decide)
      repeat' (first
        | ((with_reducible refine K_haveT ?_ ?_); exact hE)
        | ((with_reducible refine K_isEdT ?_ ?_); exact hE2)
        | ((with_reducible refine K_isSlot ?_ ?_); (with_reducible assumption))
        | ((with_reducible refine K_left ?_ ?_); (with_reducible assumption))
        | with_reducible refine K_row ?_
        | with_reducible refine K_slot ?_
        | ((with_reducible refine K_stays ?_ ?_ ?_ ?_ ?_); (with_reducible assumption); (with_reducible assumption); (with_reducible assumption); (with_reducible assumption))
        | ((with_reducible refine K_isT ?_ ?_); (with_reducible assumption))
        | ((with_reducible refine K_isF ?_ ?_); (with_reducible assumption))
        | ((with_reducible refine K_isPartT ?_ ?_); (with_reducible assumption))
        | ((with_reducible refine K_isPartF ?_ ?_); (with_reducible assumption))
        | ((with_reducible refine K_misPartT ?_ ?_); (with_reducible assumption))
        | ((with_reducible refine K_misPartF ?_ ?_); (with_reducible assumption))
        | refine sw6 (fun _ => ?_) (fun h => absurd h (by decide)) (fun h => absurd h (by decide)) (fun h => absurd h (by decide)) (fun h => absurd h (by decide)) (fun h => absurd h (by decide)) (fun h _ _ _ _ _ => absurd rfl h)
        | refine sw6 (fun h => absurd h (by decide)) (fun _ => ?_) (fun h => absurd h (by decide)) (fun h => absurd h (by decide)) (fun h => absurd h (by decide)) (fun h => absurd h (by decide)) (fun _ h _ _ _ _ => absurd rfl h)
        | refine sw6 (fun h => absurd h (by decide)) (fun h => absurd h (by decide)) (fun _ => ?_) (fun h => absurd h (by decide)) (fun h => absurd h (by decide)) (fun h => absurd h (by decide)) (fun _ _ h _ _ _ => absurd rfl h)
        | refine sw6 (fun h => absurd h (by decide)) (fun h => absurd h (by decide)) (fun h => absurd h (by decide)) (fun _ => ?_) (fun h => absurd h (by decide)) (fun h => absurd h (by decide)) (fun _ _ _ h _ _ => absurd rfl h)
        | refine sw6 (fun h => absurd h (by decide)) (fun h => absurd h (by decide)) (fun h => absurd h (by decide)) (fun h => absurd h (by decide)) (fun _ => ?_) (fun h => absurd h (by decide)) (fun _ _ _ _ h _ => absurd rfl h)
        | refine sw6 (fun h => absurd h (by decide)) (fun h => absurd h (by decide)) (fun h => absurd h (by decide)) (fun h => absurd h (by decide)) (fun h => absurd h (by decide)) (fun _ => ?_) (fun _ _ _ _ _ h => absurd rfl h)
        | refine sw6 (fun h => absurd h (by assumption)) (fun h => absurd h (by assumption)) (fun h => absurd h (by assumption)) (fun h => absurd h (by assumption)) (fun h => absurd h (by assumption)) (fun h => absurd h (by assumption)) (fun _ _ _ _ _ _ => ?_)
        | with_reducible refine C_TH_stock _ _ _ _ (B_TH_stock_0 _ _ _ _ ?_)
        | with_reducible refine C_Sh_countOf _ _ _ (B_Sh_countOf_0 _ _ _ ?_)
        | with_reducible refine C_Md_stock _ _ _ _ (B_Md_stock_0 _ _ _ _ ?_)
        | refine ⟨(by with_reducible assumption : vp_in _ _), ?_⟩
        | simp only [-eq_self, w0, w1, w2, w3, w4, w5, f0, f1, f2, f3, f4, eP, e18, e19, e20, e21, Int32.add_zero]
        | refine ⟨lnb _ (Or.inl rfl), ?_⟩
        | refine ⟨lnb _ (Or.inr rfl), ?_⟩
        | refine bq_t rfl ?_
        | refine bq_f (by decide) ?_
        | refine bq_tn rfl ?_
        | refine bq_fn (by decide) ?_
        | refine bq_t trivial ?_
        | refine bq_t (by first | with_reducible assumption | exact Int32.not_lt.mp (by with_reducible assumption) | exact Int32.not_le.mp (by with_reducible assumption) | exact Int32.not_lt.mpr (by with_reducible assumption) | exact Int32.not_le.mpr (by with_reducible assumption)) ?_
        | refine bq_f (by first | with_reducible assumption | exact Int32.not_lt.mp (by with_reducible assumption) | exact Int32.not_le.mp (by with_reducible assumption) | exact Int32.not_lt.mpr (by with_reducible assumption) | exact Int32.not_le.mpr (by with_reducible assumption)) ?_
        | refine bq_tn (by first | with_reducible assumption | exact Int32.not_lt.mp (by with_reducible assumption) | exact Int32.not_le.mp (by with_reducible assumption) | exact Int32.not_lt.mpr (by with_reducible assumption) | exact Int32.not_le.mpr (by with_reducible assumption)) ?_
        | refine bq_fn (by first | with_reducible assumption | exact Int32.not_lt.mp (by with_reducible assumption) | exact Int32.not_le.mp (by with_reducible assumption) | exact Int32.not_lt.mpr (by with_reducible assumption) | exact Int32.not_le.mpr (by with_reducible assumption)) ?_)
      first
        | exact ⟨rfl, ⟨r0, r1, r2, r3, r4, r5, r6.succ, r7, r8.succ⟩⟩
        | exact ⟨trivial, ⟨r0, r1, r2, r3, r4, r5, r6.succ, r7, r8.succ⟩⟩
  · have hE2 : ¬ HE (gC σ 21) a b := by rw [← a9]; exact hE
    repeat' (first
      | ((with_reducible refine K_haveF ?_ ?_); exact hE)
      | ((with_reducible refine K_isEdF ?_ ?_); exact hE2)
      | ((with_reducible refine K_isSlot ?_ ?_); (with_reducible assumption))
      | ((with_reducible refine K_left ?_ ?_); (with_reducible assumption))
      | with_reducible refine K_row ?_
      | with_reducible refine K_slot ?_
      | ((with_reducible refine K_stays ?_ ?_ ?_ ?_ ?_); (with_reducible assumption); (with_reducible assumption); (with_reducible assumption); (with_reducible assumption))
      | ((with_reducible refine K_isT ?_ ?_); (with_reducible assumption))
      | ((with_reducible refine K_isF ?_ ?_); (with_reducible assumption))
      | ((with_reducible refine K_isPartT ?_ ?_); (with_reducible assumption))
      | ((with_reducible refine K_isPartF ?_ ?_); (with_reducible assumption))
      | ((with_reducible refine K_misPartT ?_ ?_); (with_reducible assumption))
      | ((with_reducible refine K_misPartF ?_ ?_); (with_reducible assumption))
      | with_reducible refine C_TH_stock _ _ _ _ (B_TH_stock_0 _ _ _ _ ?_)
      | with_reducible refine C_Md_stock _ _ _ _ (B_Md_stock_0 _ _ _ _ ?_)
      | refine ⟨(by with_reducible assumption : vp_in _ _), ?_⟩
      | refine ⟨lnb _ (Or.inl rfl), ?_⟩
      | refine ⟨lnb _ (Or.inr rfl), ?_⟩
      | refine bq_t rfl ?_
      | refine bq_f (by decide) ?_
      | refine bq_tn rfl ?_
      | refine bq_fn (by decide) ?_
      | refine bq_t trivial ?_
      | refine bq_t (by first | with_reducible assumption | exact Int32.not_lt.mp (by with_reducible assumption) | exact Int32.not_le.mp (by with_reducible assumption) | exact Int32.not_lt.mpr (by with_reducible assumption) | exact Int32.not_le.mpr (by with_reducible assumption)) ?_
      | refine bq_f (by first | with_reducible assumption | exact Int32.not_lt.mp (by with_reducible assumption) | exact Int32.not_le.mp (by with_reducible assumption) | exact Int32.not_lt.mpr (by with_reducible assumption) | exact Int32.not_le.mpr (by with_reducible assumption)) ?_
      | refine bq_tn (by first | with_reducible assumption | exact Int32.not_lt.mp (by with_reducible assumption) | exact Int32.not_le.mp (by with_reducible assumption) | exact Int32.not_lt.mpr (by with_reducible assumption) | exact Int32.not_le.mpr (by with_reducible assumption)) ?_
      | refine bq_fn (by first | with_reducible assumption | exact Int32.not_lt.mp (by with_reducible assumption) | exact Int32.not_le.mp (by with_reducible assumption) | exact Int32.not_lt.mpr (by with_reducible assumption) | exact Int32.not_le.mpr (by with_reducible assumption)) ?_)
    first
      | exact ⟨rfl, ⟨r0, r1, r2, r3, r4, r5, r6.succ, r7, r8.succ⟩⟩
      | exact ⟨trivial, ⟨r0, r1, r2, r3, r4, r5, r6.succ, r7, r8.succ⟩⟩
