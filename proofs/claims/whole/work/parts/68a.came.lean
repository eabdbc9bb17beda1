/-! an operation -/
section
variable {S : XS} {Q : Int32 → St → Prop} {τ : St} {A : Nat → Int32} {c : Nat} {s : Int32}
theorem nI_sub1 {p : Nat} (h : 0 < p) : nI p - 1 = nI (p - 1) := by
  obtain ⟨q, rfl⟩ : ∃ q, p = q + 1 := ⟨p - 1, by omega⟩
  rw [nI_pred]
  rfl
/-- the reference refuses -/
theorem mcame_no (hB : BD A c s) (hM : DM τ A c s) {p : Nat} (hp : p < 24) {d : Int32} (hno : ¬ (p = c ∧ (0 ≤ d ∧ d ≤ 30000) ∧ (0 < p → A (p - 1) ≤ d))) (H : Q (-1) τ) : CM S m_Md_came [.ref 153, .int (nI p), .int d] (enc τ) (qI Q) := by
  refine C_Md_came _ _ _ (B_Md_came_0 _ _ _ (K_misPartT ⟨nI_pos' (by omega), nI_lt (b := 24) hp (by decide)⟩ (bq_f (by decide) ?_)))
  by_cases k1 : 0 ≤ d ∧ d ≤ 30000
  · refine K_isT k1 (bq_f (by decide) ⟨vp_in_nI hp (by decide), ?_⟩)
    rw [nI_clamp (by omega), hM.2 p hp]
    by_cases k2 : p < c
    · rw [if_pos k2]
      have b := hB.2.2 p k2
      refine bq_fn (fun z => ?_) H
      rw [z] at b
      exact absurd b.1 (by decide)
    · rw [if_neg k2]
      have h0 : ¬ (p = c ∧ (0 < p → A (p - 1) ≤ d)) := fun z => hno ⟨z.1, k1, z.2⟩
      have hp0 : 0 < p := by
        rcases Nat.eq_zero_or_pos p with z | z
        · exact absurd ⟨by omega, fun q => absurd q (by omega)⟩ h0
        · exact z
      refine bq_tn rfl (bq_f (nI_nle hp0 (by omega)) ?_)
      rw [nI_sub1 hp0]
      refine ⟨vp_in_nI (by omega) (by decide), ?_⟩
      rw [nI_clamp (by omega), hM.2 (p - 1) (by omega)]
      by_cases k3 : p - 1 < c
      · rw [if_pos k3]
        have b := hB.2.2 (p - 1) k3
        refine bq_f (fun z => ?_) (bq_f (fun z => h0 ⟨by omega, fun _ => z⟩) H)
        rw [z] at b
        exact absurd b.1 (by decide)
      · rw [if_neg k3]
        exact bq_t rfl H
  · exact K_isF k1 (bq_t rfl H)
theorem mcame_ok {d : Int32} (hB : BD A c s) (hB2 : BD (upd A c d) (c + 1) s) (hM : DM τ A c s) (hc : c < 24) (hd : 0 ≤ d ∧ d ≤ 30000) (hl : 0 < c → A (c - 1) ≤ d) (hM2 : DM (sC τ 27 (upd (gC τ 27) c d)) (upd A c d) (c + 1) s) (H : Q (db (upd A c d) (c + 1) c (dd (upd A c d) (c + 1) s c)) (sC τ 27 (upd (gC τ 27) c d))) : CM S m_Md_came [.ref 153, .int (nI c), .int d] (enc τ) (qI Q) := by
  refine C_Md_came _ _ _ (B_Md_came_0 _ _ _ (K_misPartT ⟨nI_pos' (by omega), nI_lt (b := 24) hc (by decide)⟩ (bq_f (by decide) (K_isT hd (bq_f (by decide) ⟨vp_in_nI hc (by decide), ?_⟩)))))
  rw [nI_clamp (by omega), hM.2 c hc, if_neg (Nat.lt_irrefl c)]
  refine bq_tn rfl ?_
  rcases Nat.eq_zero_or_pos c with z | z
  · subst z
    exact bq_t (by decide) (K_lateDays hB2 hM2 hc H)
  · refine bq_f (nI_nle z (by omega)) ?_
    rw [nI_sub1 z]
    refine ⟨vp_in_nI (by omega) (by decide), ?_⟩
    have b := hB.2.2 (c - 1) (by omega)
    rw [nI_clamp (by omega), hM.2 (c - 1) (by omega), if_pos (show c - 1 < c by omega)]
    refine bq_f (fun y => ?_) (bq_t (hl z) (K_lateDays hB2 hM2 hc H))
    rw [y] at b
    exact absurd b.1 (by decide)
end
set_option maxHeartbeats 2000000 in
theorem op_came {S : XS} {n : Nat} {σ : St} (h : RR n σ) (x : Int32) (d : Int32) : OPI S n σ m_TH_came m_Md_came [.int x, .int d] := by
  obtain ⟨r0, r1, r2, r3, r4, r5, r6, r7, r8⟩ := h
  unfold OPI
  obtain ⟨h1, h2, h3, h4, h5, h6⟩ := id r3
  obtain ⟨hB, hC, hM⟩ := r3.days
  refine C_TH_came _ _ _ (B_TH_came_0 _ _ _ (C_Pa_arrive _ _ _ (B_Pa_arrive_0 _ _ _ ?_)))
  by_cases k : 0 ≤ x ∧ x < 24
  · have t := vp_in_iff.mp (vp_24 k.1 k.2)
    obtain ⟨p, hp, rfl, -⟩ := nI_ex (n := 24) t.1 t.2
    generalize hc : (gX σ 13).toNatClampNeg = c at hB hC hM h6
    refine K_isPartT k (bq_f (by decide) ?_)
    rw [hC.2.1]
    have hcb := hB.1
    by_cases e : p = c
    · subst e
      refine bq_tn rfl ?_
      by_cases k1 : d < 0
      · exact bq_t k1 (mcame_no hB hM hp (fun z => Int32.not_le.mpr k1 z.2.1.1) ⟨rfl, ⟨r0, r1, r2, r3, r4, r5, r6.succ, r7, r8.succ⟩⟩)
      · refine bq_f k1 ?_
        by_cases k2 : d ≤ 30000
        · refine bq_t k2 ?_
          have z3 : (30000 : Int32).toInt = 30000 := rfl
          have u1 := ti_nonneg (Int32.not_lt.mp k1)
          have u2 := Int32.le_iff_toInt_le.mp k2
          have hB2 : BD (upd (gA σ 10) p d) (p + 1) (gX σ 14) := by
            refine ⟨by omega, hB.2.1, fun k hk => ?_⟩
            unfold upd
            by_cases y : k = p
            · rw [if_pos y]
              omega
            · rw [if_neg y]
              exact hB.2.2 k (by omega)
          have G : (0 < p → gA σ 10 (p - 1) ≤ d) → CM S m_Pa_daysLate [.ref 131, .int (nI p)] (enc (sX (sA σ 10 (upd (gA σ 10) (nI p).toNatClampNeg d)) 13 (nI p + 1))) (qI fun v τ => CM S m_Md_came [.ref 153, .int (nI p), .int d] (enc τ) (qI fun w ρ => v = w ∧ RR (n + 1) ρ)) := by
            intro hl
            rw [nI_clamp (by omega), nI_1]
            have hC2 : DC (sX (sA σ 10 (upd (gA σ 10) p d)) 13 (nI (p + 1))) (upd (gA σ 10) p d) (p + 1) (gX σ 14) := ⟨by rw [gs_A_X, gs_A_A, if_pos rfl], by rw [gs_X_X, if_pos rfl], by rw [gs_X_X, if_neg (by decide), gs_X_A]⟩
            refine K_daysLate hB2 hC2 hp ?_
            have hM2 : DM (sC (sX (sA σ 10 (upd (gA σ 10) p d)) 13 (nI (p + 1))) 27 (upd (gC σ 27) p d)) (upd (gA σ 10) p d) (p + 1) (gX σ 14) := by
              refine ⟨hM.1, fun q hq => ?_⟩
              show upd (gC σ 27) p d q = if q < p + 1 then upd (gA σ 10) p d q else -1
              unfold upd
              by_cases y : q = p
              · rw [if_pos y, if_pos (by omega), if_pos y]
              · rw [if_neg y, hM.2 q hq, if_neg y]
                by_cases y2 : q < p
                · rw [if_pos y2, if_pos (by omega)]
                · rw [if_neg y2, if_neg (by omega)]
            refine mcame_ok (τ := sX (sA σ 10 (upd (gA σ 10) p d)) 13 (nI (p + 1))) (A := gA σ 10) (s := gX σ 14) hB hB2 hM hp ⟨Int32.not_lt.mp k1, k2⟩ hl hM2 ⟨rfl, ⟨r0, r1, r2, ⟨h1, h2, ⟨?_, ?_⟩, h4, h5, fun q hq => ?_⟩, r4, r5, r6.succ, r7, r8.succ⟩⟩
            · exact nI_pos' (by omega)
            · exact nI_le (b := 24) (by omega) (by decide)
            · show (q < (nI (p + 1)).toNatClampNeg → upd (gC σ 27) p d q = upd (gA σ 10) p d q ∧ 0 ≤ upd (gA σ 10) p d q ∧ upd (gA σ 10) p d q ≤ 30000) ∧ ((nI (p + 1)).toNatClampNeg ≤ q → upd (gC σ 27) p d q = -1)
              rw [nI_clamp (by omega)]
              have b := h6 q hq
              refine ⟨fun y => ?_, fun y => ?_⟩
              · unfold upd
                by_cases y2 : q = p
                · rw [if_pos y2, if_pos y2]
                  exact ⟨rfl, Int32.not_lt.mp k1, k2⟩
                · rw [if_neg y2, if_neg y2]
                  exact b.1 (by omega)
              · unfold upd
                rw [if_neg (by omega)]
                exact b.2 (by omega)
          rcases Nat.eq_zero_or_pos p with z | z
          · subst z
            exact bq_t (by decide) ⟨vp_in_nI hp (by decide), G (fun q => absurd q (by omega))⟩
          · refine bq_f (nI_nle z (by omega)) ?_
            rw [nI_sub1 z]
            refine ⟨vp_in_nI (by omega) (by decide), ?_⟩
            rw [nI_clamp (n := p - 1) (by omega)]
            by_cases k3 : gA σ 10 (p - 1) ≤ d
            · exact bq_t k3 ⟨vp_in_nI hp (by decide), G (fun _ => k3)⟩
            · exact bq_f k3 (mcame_no hB hM hp (fun y => k3 (y.2.2 z)) ⟨rfl, ⟨r0, r1, r2, r3, r4, r5, r6.succ, r7, r8.succ⟩⟩)
        · exact bq_f k2 (mcame_no hB hM hp (fun z => k2 z.2.1.2) ⟨rfl, ⟨r0, r1, r2, r3, r4, r5, r6.succ, r7, r8.succ⟩⟩)
    · refine bq_fn (fun z => e ((nI_eq (by omega) (by omega)).mp z)) (mcame_no hB hM hp (fun z => e z.1) ⟨rfl, ⟨r0, r1, r2, r3, r4, r5, r6.succ, r7, r8.succ⟩⟩)
  · exact K_isPartF k (bq_t rfl (C_Md_came _ _ _ (B_Md_came_0 _ _ _ (K_misPartF k (bq_t rfl ⟨rfl, ⟨r0, r1, r2, r3, r4, r5, r6.succ, r7, r8.succ⟩⟩)))))
