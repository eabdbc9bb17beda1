/-! an operation -/
set_option maxHeartbeats 2000000 in
theorem op_strike {S : XS} {n : Nat} {σ : St} (h : RR n σ) (x : Int32) (y : Int32) : OPI S n σ m_TH_strike m_Md_strike [.int x, .int y] := by
  obtain ⟨r0, r1, r2, r3, r4, r5, r6, r7, r8⟩ := h
  unfold OPI
  obtain ⟨c, hc, e1, e2, e3⟩ := r4.cnt
  have a9 := r3.1
  refine C_TH_strike _ _ _ (B_TH_strike_0 _ _ _ (C_Fs_strikeFrom _ _ _ (B_Fs_strikeFrom_0 _ _ _ ?_)))
  rcases nI_dec x c hc with hx | ⟨k, hk, rfl⟩
  · refine K_numF (by rw [e1]; exact hx) ⟨fun _ => ⟨lnb _ (Or.inl rfl), C_Md_strike _ _ _ (B_Md_strike_0 _ _ _ (bq_s (fun _ => ⟨rfl, ⟨r0, r1, r2, r3, r4, r5, r6.succ, r7, r8.succ⟩⟩) (fun h => ?_)))⟩, fun q h => absurd h (by simp)⟩
    rcases hx with z | z
    · exact absurd z h
    · rw [e2]
      exact bq_t z ⟨rfl, ⟨r0, r1, r2, r3, r4, r5, r6.succ, r7, r8.succ⟩⟩
  · refine K_numT e1 hc hk ?_
    obtain ⟨q, hq1, hq2, hq3, hq4⟩ := r4.2.2.2.2.1 k (by rw [e3]; exact hk)
    have hF : isFa σ q := hq3
    obtain ⟨g1, g2, g3, g4, g5, g6, g7, g8, g9, g10⟩ := id hq4
    have f4 : fI σ q 4 = gC σ 18 k := g6
    have f5 : fI σ q 5 = gC σ 19 k := g8
    have f6 : fI σ q 6 = gC σ 20 k := g10
    have v61 := vp_in_nI (n := k) (N := 61) (by omega) (by decide)
    -- the reference up to its third test
    have RS : ∀ {τ : St} {Q : Int32 → St → Prop}, gY τ 11 = nI c → ((¬ gC τ 20 k = -1 → Q 0 τ) ∧ (gC τ 20 k = -1 → CM S m_Md_isEdition [.ref 153, .int (gC τ 18 k), .int y] (enc τ) (qI (fun v2 τ3 => ((v2 = 0 → Q 0 τ3) ∧ (¬ v2 = 0 → (vp_in (nI k) 61) ∧ ((gC τ3 19 (nI k).toNatClampNeg < y → Q 1 (sC τ3 20 (upd (gC τ3 20) (nI k).toNatClampNeg y))) ∧ (¬ gC τ3 19 (nI k).toNatClampNeg < y → Q 0 τ3)))))))) → CM S m_Md_strike [.ref 153, .int (nI k), .int y] (enc τ) (qI Q) := by
      intro τ Q hy H
      refine C_Md_strike _ _ _ (B_Md_strike_0 _ _ _ (bq_f (nI_pos (by omega)) ?_))
      rw [hy]
      refine bq_f (nI_ge hk (by omega)) ⟨v61, ?_⟩
      rw [nI_clamp (n := k) (by omega)] at H ⊢
      exact H
    refine ⟨fun h => absurd (hq1.symm.trans h) (by simp), fun q' h => ?_⟩
    obtain rfl : q = q' := Option.some.inj (hq1.symm.trans h)
    refine ⟨hF, ?_⟩
    rw [f6, f4]
    by_cases k1 : gC σ 20 k = -1
    · refine bq_t k1 ?_
      by_cases hE : HE (gA σ 9) (gC σ 18 k) y
      · have hE2 : HE (gC σ 21) (gC σ 18 k) y := by rw [← a9]; exact hE
        refine K_haveT hE (bq_f (by decide) ⟨hF, ?_⟩)
        rw [f5]
        by_cases k2 : gC σ 19 k < y
        · refine bq_t k2 ⟨lnb _ (Or.inr rfl), RS (τ := stI σ q 6 y) e2 (bq_tn k1 (K_isEdT (σ := stI σ q 6 y) hE2 (bq_f (by decide) ⟨v61, ?_⟩)))⟩
          rw [nI_clamp (n := k) (by omega)]
          refine bq_t k2 ⟨rfl, ?_⟩
          have m4 := M4.strike r4 (i := k) (q := q) (by rw [e3]; exact hk) hq1 y
          have m5 := M5.fa r5 hq3 (mkF (fL σ q 0) (fI σ q 1) (fL σ q 2) (fI σ q 3) (fI σ q 4) (fI σ q 5) y)
          have e6 : stI σ q 6 y = sD σ q (mkF (fL σ q 0) (fI σ q 1) (fL σ q 2) (fI σ q 3) (fI σ q 4) (fI σ q 5) y) := stF_6 y hF
          rw [e6]
          have e7 : stI (dst (gD σ) (gn σ)) q 6 y = sD (dst (gD σ) (gn σ)) q (mkF (fL σ q 0) (fI σ q 1) (fL σ q 2) (fI σ q 3) (fI σ q 4) (fI σ q 5) y) := stF_6 y hq3
          rw [e7] at m4
          exact ⟨r0, r1, r2, r3, m4, m5, r6.succ, r7, ⟨r8.succ.1, R8.fa (n := n) r8.2⟩⟩
        · refine bq_f k2 ⟨lnb _ (Or.inl rfl), RS (τ := σ) e2 (bq_tn k1 (K_isEdT hE2 (bq_f (by decide) ⟨v61, ?_⟩)))⟩
          rw [nI_clamp (n := k) (by omega)]
          exact bq_f k2 ⟨rfl, ⟨r0, r1, r2, r3, r4, r5, r6.succ, r7, r8.succ⟩⟩
      · have hE2 : ¬ HE (gC σ 21) (gC σ 18 k) y := by rw [← a9]; exact hE
        exact K_haveF hE (bq_t rfl ⟨lnb _ (Or.inl rfl), RS (τ := σ) e2 (bq_tn k1 (K_isEdF hE2 (bq_t rfl ⟨rfl, ⟨r0, r1, r2, r3, r4, r5, r6.succ, r7, r8.succ⟩⟩)))⟩)
    · exact bq_f k1 ⟨lnb _ (Or.inl rfl), RS (τ := σ) e2 (bq_fn k1 ⟨rfl, ⟨r0, r1, r2, r3, r4, r5, r6.succ, r7, r8.succ⟩⟩)⟩
