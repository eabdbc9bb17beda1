/-! an operation -/
set_option maxHeartbeats 2000000 in
theorem op_lines {S : XS} {n : Nat} {σ : St} (h : RR n σ) (x : Int32) (y : Int32) : OPI S n σ m_TH_lines m_Md_lines [.int x, .int y] := by
  obtain ⟨r0, r1, r2, r3, r4, r5, r6, r7, r8⟩ := h
  unfold OPI
  obtain ⟨e4, b4, b5⟩ := id r1.1
  have ey : gY σ 1 = gX σ 4 := e4.symm
  refine C_TH_lines _ _ _ (B_TH_lines_0 _ _ _ ?_)
  have RB : (x < 0 ∨ gX σ 4 ≤ x) ∨ ¬ 0 ≤ y → CM S m_Md_lines [.ref 153, .int x, .int y] (enc σ) (qI fun w ρ => (-1 : Int32) = w ∧ RR (n + 1) ρ) := by
    intro h
    refine C_Md_lines _ _ _ (B_Md_lines_0 _ _ _ ?_)
    rw [ey]
    refine bq_s (fun _ => ⟨rfl, ⟨r0, r1, r2, r3, r4, r5, r6.succ, r7, r8.succ⟩⟩) (fun k1 => bq_s (fun _ => ⟨rfl, ⟨r0, r1, r2, r3, r4, r5, r6.succ, r7, r8.succ⟩⟩) (fun k2 => bq_f ?_ ⟨rfl, ⟨r0, r1, r2, r3, r4, r5, r6.succ, r7, r8.succ⟩⟩))
    rcases h with (h | h) | h
    · exact absurd h k1
    · exact absurd h k2
    · exact h
  refine bq_s (fun k => RB (Or.inl (Or.inl k))) (fun k1 => bq_s (fun k => RB (Or.inl (Or.inr k))) (fun k2 => bq_s (fun k3 => ?_) (fun k => RB (Or.inr k))))
  have hx20 : vp_in x 20 := vp_20 (Int32.not_lt.mp k1) (by grind)
  have tx := vp_in_iff.mp hx20
  obtain ⟨p, hp, rfl, -⟩ := nI_ex (n := 20) tx.1 tx.2
  obtain ⟨m, m1, m2, hL, hWb, hMB⟩ := r1.par hp
  have hm := hL.1
  have far : (1000000000 : Int32) = FAR := rfl
  -- both sides, once the costs stand in τ
  have GO : ∀ τ, RR n τ → gX τ 4 = gX σ 4 → gC τ 2 = gC σ 2 → gC τ 3 = gC σ 3 → gY τ 2 = gY σ 2 → gY τ 1 = gY σ 1 → (∀ k, k ≤ 30 → gB τ 1 p k = cst (gB σ 0 p) m (gX σ 5) k) → CM S m_Mn_breakCost [.ref 3, .int (nI p), .int y] (enc τ) (qI (fun v3 τ4 => ((v3 < 1000000000 → CM S m_Md_lines [.ref 153, .int (nI p), .int y] (enc τ4) (qI fun w ρ => v3 = w ∧ RR (n + 1) ρ)) ∧ (¬ v3 < 1000000000 → CM S m_Md_lines [.ref 153, .int (nI p), .int y] (enc τ4) (qI fun w ρ => (-2 : Int32) = w ∧ RR (n + 1) ρ))))) := by
    intro τ hR t4 tc2 tc3 ty2 ty1 hcst
    obtain ⟨s0, s1, s2, s3, s4, s5, s6, s7, s8⟩ := id hR
    have M := hMB τ tc2 tc3 ty2
    -- the reference
    have RF : ∀ v, (∀ k, y = nI k → k ≤ m → ((lc (gB σ 0 p) m (gX σ 5) k 0 < FAR → v = lc (gB σ 0 p) m (gX σ 5) k 0) ∧ (¬ lc (gB σ 0 p) m (gX σ 5) k 0 < FAR → v = -2))) → ((∀ k, y = nI k → ¬ k ≤ m) → v = -2) → CM S m_Md_lines [.ref 153, .int (nI p), .int y] (enc τ) (qI fun w ρ => v = w ∧ RR (n + 1) ρ) := by
      intro v hv1 hv2
      refine C_Md_lines _ _ _ (B_Md_lines_0 _ _ _ (bq_f k1 ?_))
      rw [ty1, ey]
      refine bq_f k2 (bq_t k3 (K_mbreaks M (fun C hC => ⟨hx20, ?_⟩)))
      have rr : RR (n + 1) (sC τ 4 C) := ⟨s0, s1, s2, s3, s4, s5, s6.succ, s7, s8.succ⟩
      have c2 : gC (sC τ 4 C) 2 = gC τ 2 := rfl
      have c4 : gC (sC τ 4 C) 4 = C := by rw [gs_C_C, if_pos rfl]
      rw [c2, c4, nI_clamp (n := p) (by omega), M.2.1, far]
      by_cases q : nI m < y
      · refine bq_t q ⟨hv2 (fun k hk hkm => ?_), rr⟩
        rw [hk] at q
        exact nI_nlt hkm (by omega) q
      · have q2 := Int32.le_iff_toInt_le.mp (Int32.not_lt.mp q)
        rw [nI_toInt (by omega)] at q2
        obtain ⟨k, hk, rfl, -⟩ := nI_ex (x := y) (n := m + 1) (ti_nonneg k3) (by omega)
        refine bq_f q ⟨vp_in_nI (by omega) (by decide), ?_⟩
        rw [nI_clamp (n := k) (by omega)]
        have hc := hC 0 k (by omega) (by omega)
        rw [show 31 * 0 + k = k by omega] at hc
        rw [hc]
        obtain ⟨u1, u2⟩ := hv1 k rfl (by omega)
        exact bq_s (fun z => ⟨u1 z, rr⟩) (fun z => ⟨u2 z, rr⟩)
    refine C_Mn_breakCost _ _ _ (B_Mn_breakCost_0 _ _ _ (bq_f k1 ?_))
    rw [t4]
    refine bq_f k2 (bq_f (Int32.not_lt.mpr k3) ?_)
    by_cases q : y ≤ 30
    · have q2 := Int32.le_iff_toInt_le.mp q
      have z30 : (30 : Int32).toInt = 30 := rfl
      obtain ⟨k, hk, rfl, -⟩ := nI_ex (x := y) (n := 31) (ti_nonneg k3) (by omega)
      refine bq_t q ⟨hx20, vp_in_nI (by omega) (by decide), ?_⟩
      rw [nI_clamp (n := p) (by omega), nI_clamp (n := k) (by omega), hcst k (by omega), far]
      unfold cst
      by_cases q3 : k ≤ m
      · rw [if_pos q3]
        refine bq_s (fun z => RF _ (fun k' e _ => ?_) (fun h => absurd q3 (h k rfl))) (fun z => RF _ (fun k' e _ => ?_) (fun _ => rfl))
        · have e2 := (nI_eq (by omega) (by omega)).mp e
          subst e2
          exact ⟨fun _ => rfl, fun w => absurd z w⟩
        · have e2 := (nI_eq (by omega) (by omega)).mp e
          subst e2
          exact ⟨fun w => absurd w z, fun _ => rfl⟩
      · rw [if_neg q3]
        refine bq_f (by decide) (RF _ (fun k' e e3 => ?_) (fun _ => rfl))
        have e2 := (nI_eq (by omega) (by omega)).mp e
        omega
    · refine bq_f q (bq_f (by decide) (RF _ (fun k e e3 => ?_) (fun _ => rfl)))
      exfalso
      apply q
      rw [e]
      exact nI_le (b := 30) (by omega) (by decide)
  refine K_wb hp k2 rfl m1 hL (fun hw => ?_) (fun _ G f hf => ?_)
  · refine GO σ ⟨r0, r1, r2, r3, r4, r5, r6, r7, r8⟩ rfl rfl rfl rfl rfl (fun k hk => ?_)
    have c := r1.2.2.2.2.2.2.2.2.2 p hp hw k hk
    rw [m2] at c
    exact c
  · refine GO _ ⟨r0, ?_, r2, r3, r4, r5, r6, r7, r8⟩ rfl rfl rfl rfl rfl (fun k hk => ?_)
    · exact M1.wb r1 (p := p) (f := f) (by rw [m2]; exact hf)
    · have e : gB (sA (sB (brs σ p (nI m) (gX σ 5) G) 1 p f) 3 (upd (gA σ 3) p 1)) 1 p = f := gB_sB _ _ _ _
      rw [e]
      exact hf k hk
