/-! an operation -/
theorem start_1 {S : XS} {Q : Int32 → St → Prop} {σ : St} {x : Int32} (hd : ∀ p, p < 24 → gC σ 27 p = -1) (H : ((¬ (0 ≤ x ∧ x ≤ 20000) → Q 0 σ) ∧ ((0 ≤ x ∧ x ≤ 20000) → Q 1 (sY σ 14 x)))) : ∀ d k, 24 - k = d → k ≤ 24 → BW S m_Md_start 4 [some (.ref 153), some (.int x), some (.int 1), some (.int (nI k))] [] (enc σ) (qI Q) := by
  intro d
  induction d with
  | zero =>
    intro k hd hk
    have : k = 24 := by omega
    subst this
    refine B_Md_start_4 _ _ _ _ (bq_t (by decide) (bq_f (by decide) ?_))
    by_cases c : 0 ≤ x ∧ x ≤ 20000
    · exact K_isT c (bq_fn (by decide) (H.2 c))
    · exact K_isF c (bq_tn rfl (H.1 c))
  | succ d ih =>
    intro k hd2 hk
    refine B_Md_start_4 _ _ _ _ (bq_f (nI_ge (b := 24) (by omega) (by decide)) (bq_f (by decide) ⟨vp_in_nI (by omega) (by decide), ?_⟩))
    rw [nI_clamp (by omega), nI_1]
    exact bq_tn (hd k (by omega)) (ih (k + 1) (by omega) (by omega))
theorem start_0 {S : XS} {Q : Int32 → St → Prop} {σ : St} {x : Int32} (H : Q 0 σ) : ∀ d k, 24 - k = d → k ≤ 24 → BW S m_Md_start 4 [some (.ref 153), some (.int x), some (.int 0), some (.int (nI k))] [] (enc σ) (qI Q) := by
  intro d
  induction d with
  | zero =>
    intro k hd hk
    have : k = 24 := by omega
    subst this
    exact B_Md_start_4 _ _ _ _ (bq_t (by decide) (bq_t rfl H))
  | succ d ih =>
    intro k hd2 hk
    refine B_Md_start_4 _ _ _ _ (bq_f (nI_ge (b := 24) (by omega) (by decide)) (bq_t rfl ?_))
    rw [nI_1]
    exact ih (k + 1) (by omega) (by omega)
set_option maxHeartbeats 2000000 in
theorem op_start {S : XS} {n : Nat} {σ : St} (h : RR n σ) (x : Int32) : OPI S n σ m_TH_start m_Md_start [.int x] := by
  obtain ⟨r0, r1, r2, r3, r4, r5, r6, r7, r8⟩ := h
  unfold OPI
  obtain ⟨h1, h2, h3, h4, h5, h6⟩ := id r3
  refine C_TH_start _ _ (B_TH_start_0 _ _ (C_Pa_beginOn _ _ (B_Pa_beginOn_0 _ _ ?_)))
  by_cases c : gX σ 13 ≤ 0
  · have e0 : (gX σ 13).toNatClampNeg = 0 := by
      have := Int32.le_iff_toInt_le.mp c
      have z : (0 : Int32).toInt = 0 := rfl
      rw [ti_N]
      omega
    have hd : ∀ p, p < 24 → gC σ 27 p = -1 := fun p hp => (h6 p hp).2 (by omega)
    by_cases k1 : x < 0
    · refine bq_t k1 ⟨lnb _ (Or.inl rfl), C_Md_start _ _ (B_Md_start_0 _ _ (start_1 hd ⟨fun _ => ⟨rfl, ⟨r0, r1, r2, r3, r4, r5, r6.succ, r7, r8.succ⟩⟩, fun q => absurd q.1 (Int32.not_le.mpr k1)⟩ 24 0 (by omega) (by omega)))⟩
    · by_cases k2 : 20000 < x
      · refine bq_f k1 (bq_t k2 ⟨lnb _ (Or.inl rfl), C_Md_start _ _ (B_Md_start_0 _ _ (start_1 hd ⟨fun _ => ⟨rfl, ⟨r0, r1, r2, r3, r4, r5, r6.succ, r7, r8.succ⟩⟩, fun q => absurd q.2 (Int32.not_le.mpr k2)⟩ 24 0 (by omega) (by omega)))⟩)
      · refine bq_f k1 (bq_f k2 (bq_t c ⟨lnb _ (Or.inr rfl), C_Md_start _ _ (B_Md_start_0 _ _ (start_1 (σ := sX σ 14 x) hd ⟨fun q => absurd ⟨Int32.not_lt.mp k1, Int32.not_lt.mp k2⟩ q, fun q => ⟨rfl, ⟨r0, r1, r2, ⟨h1, h2, h3, rfl, ⟨q.1, q.2⟩, h6⟩, r4, r5, r6.succ, r7, r8.succ⟩⟩⟩ 24 0 (by omega) (by omega)))⟩))
  · have hne : ¬ gC σ 27 0 = -1 := by
      have b := (h6 0 (by omega)).1 (by
        have := Int32.lt_iff_toInt_lt.mp (Int32.not_le.mp c)
        have z : (0 : Int32).toInt = 0 := rfl
        rw [ti_N]
        omega)
      rw [b.1]
      intro q
      have := b.2.1
      rw [q] at this
      exact absurd this (by decide)
    have R : CM S m_Md_start [.ref 153, .int x] (enc σ) (qI fun w ρ => (0 : Int32) = w ∧ RR (n + 1) ρ) := by
      refine C_Md_start _ _ (B_Md_start_0 _ _ ?_)
      refine B_Md_start_4 _ _ _ _ (bq_f (by decide) (bq_f (by decide) ⟨vp_in_iff.mpr ⟨by decide, by decide⟩, ?_⟩))
      refine bq_fn hne ?_
      exact start_0 ⟨rfl, ⟨r0, r1, r2, r3, r4, r5, r6.succ, r7, r8.succ⟩⟩ 23 1 (by omega) (by omega)
    by_cases k1 : x < 0
    · exact bq_t k1 ⟨lnb _ (Or.inl rfl), R⟩
    · by_cases k2 : 20000 < x
      · exact bq_f k1 (bq_t k2 ⟨lnb _ (Or.inl rfl), R⟩)
      · exact bq_f k1 (bq_f k2 (bq_f c ⟨lnb _ (Or.inl rfl), R⟩))
