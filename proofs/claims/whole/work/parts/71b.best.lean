/-! an operation -/
section
variable {S : XS} {σ : St} {n : Nat}
def bst (σ : St) (c s : Nat) : Nat → Int32
  | 0 => 0
  | k + 1 => if wof σ c s (bst σ c s k) < wof σ c s (gA σ 18 k) then gA σ 18 k else if wof σ c s (gA σ 18 k) = wof σ c s (bst σ c s k) ∧ gA σ 18 k < bst σ c s k then gA σ 18 k else bst σ c s k
theorem R7.sale {σ : St} (h7 : R7 σ) {k : Nat} (hk : k < 8) : 0 ≤ gA σ 18 k ∧ gA σ 18 k ≤ 100000 := (h7.2.2.2 k hk).1
theorem bst_b (h7 : R7 σ) {c s : Nat} : ∀ k, k ≤ 8 → 0 ≤ bst σ c s k ∧ bst σ c s k ≤ 100000 := by
  intro k
  induction k with
  | zero => intro _; exact ⟨(by decide : (0 : Int32) ≤ 0), (by decide : (0 : Int32) ≤ 100000)⟩
  | succ k ih =>
    intro hk
    have i := ih (by omega)
    have b := h7.sale (k := k) (by omega)
    have e1 : bst σ c s (k + 1) = if wof σ c s (bst σ c s k) < wof σ c s (gA σ 18 k) then gA σ 18 k else if wof σ c s (gA σ 18 k) = wof σ c s (bst σ c s k) ∧ gA σ 18 k < bst σ c s k then gA σ 18 k else bst σ c s k := rfl
    rw [e1]
    split
    · exact b
    · split
      · exact b
      · exact i
theorem toI {x : Int32} (h : 0 ≤ x ∧ x ≤ 100000) : 0 ≤ x.toInt ∧ x.toInt ≤ 100000 := ⟨ti_nonneg h.1, by have := Int32.le_iff_toInt_le.mp h.2; have z : (100000 : Int32).toInt = 100000 := rfl; omega⟩
theorem bestL {Q : Int32 → St → Prop} {s : Int32} {c : Nat} (h7 : R7 σ) (hc : gX σ 22 = nI c) (hc2 : c ≤ 8) (h : vp_in s 96) (H : Q (bst σ c s.toNatClampNeg c) σ) : ∀ d k, c - k = d → k ≤ c → BW S m_Fo_bestCopies 14 [some (.ref 150), some (.ref 144), some (.int s), some (.int (bst σ c s.toNatClampNeg k)), some (.long (wof σ c s.toNatClampNeg (bst σ c s.toNatClampNeg k))), none, some (.int (nI k)), none, none] [] (enc σ) (qI Q) := by
  intro d
  induction d with
  | zero =>
    intro k hd hk
    have : k = c := by omega
    subst this
    refine B_Fo_bestCopies_14 _ _ _ _ _ ?_
    rw [hc]
    exact bq_t (nI_le (Nat.le_refl _) (by omega)) H
  | succ d ih =>
    intro k hd hk
    have q := ih (k + 1) (by omega) (by omega)
    have e1 : bst σ c s.toNatClampNeg (k + 1) = if wof σ c s.toNatClampNeg (bst σ c s.toNatClampNeg k) < wof σ c s.toNatClampNeg (gA σ 18 k) then gA σ 18 k else if wof σ c s.toNatClampNeg (gA σ 18 k) = wof σ c s.toNatClampNeg (bst σ c s.toNatClampNeg k) ∧ gA σ 18 k < bst σ c s.toNatClampNeg k then gA σ 18 k else bst σ c s.toNatClampNeg k := rfl
    rw [e1] at q
    have v := vp_in_nI (n := k) (N := 8) (by omega) (by decide)
    refine B_Fo_bestCopies_14 _ _ _ _ _ ?_
    rw [hc]
    refine bq_f (nI_ge (by omega) (by omega)) ⟨v, ?_⟩
    rw [nI_clamp (by omega)]
    refine K_worth hc hc2 h ?_
    rw [nI_1]
    by_cases y1 : wof σ c s.toNatClampNeg (bst σ c s.toNatClampNeg k) < wof σ c s.toNatClampNeg (gA σ 18 k)
    · rw [if_pos y1] at q
      exact bq_t ((lgc_gt _ _).mpr y1) ⟨v, q⟩
    · rw [if_neg y1] at q
      refine bq_f (fun z => y1 ((lgc_gt _ _).mp z)) ?_
      by_cases y2 : wof σ c s.toNatClampNeg (gA σ 18 k) = wof σ c s.toNatClampNeg (bst σ c s.toNatClampNeg k)
      · refine bq_tn ((lgc_eq _ _).mpr y2) ⟨v, ?_⟩
        by_cases y3 : gA σ 18 k < bst σ c s.toNatClampNeg k
        · rw [if_pos ⟨y2, y3⟩] at q
          exact bq_f (Int32.not_le.mpr y3) q
        · rw [if_neg (fun z => y3 z.2)] at q
          exact bq_t (Int32.not_lt.mp y3) q
      · rw [if_neg (fun z => y2 z.1)] at q
        exact bq_fn (fun z => y2 ((lgc_eq _ _).mp z)) q
theorem mbestL {Q : Int32 → St → Prop} {p e : Int32} {c i j : Nat} (h6 : R6 n σ) (h7 : R7 σ) (hE : HE (gC σ 21) p e) (hs : SLF σ p e i j) (hc : gY σ 19 = nI c) (hc0 : 0 < c) (hc2 : c ≤ 8) (H : Q (bst σ c (4 * i + j) c) σ) : ∀ d k, c - k = d → k ≤ c → BW S m_Md_best 23 [some (.ref 153), some (.int p), some (.int e), some (.int (bst σ c (4 * i + j) k)), some (.int (nI k)), none, none] [] (enc σ) (qI Q) := by
  intro d
  induction d with
  | zero =>
    intro k hd hk
    have : k = c := by omega
    subst this
    refine B_Md_best_23 _ _ _ _ _ ?_
    rw [hc]
    exact bq_t (nI_le (Nat.le_refl _) (by omega)) H
  | succ d ih =>
    intro k hd hk
    have q := ih (k + 1) (by omega) (by omega)
    have e1 : bst σ c (4 * i + j) (k + 1) = if wof σ c (4 * i + j) (bst σ c (4 * i + j) k) < wof σ c (4 * i + j) (gA σ 18 k) then gA σ 18 k else if wof σ c (4 * i + j) (gA σ 18 k) = wof σ c (4 * i + j) (bst σ c (4 * i + j) k) ∧ gA σ 18 k < bst σ c (4 * i + j) k then gA σ 18 k else bst σ c (4 * i + j) k := rfl
    rw [e1] at q
    have v := vp_in_nI (n := k) (N := 8) (by omega) (by decide)
    have e29 : gC σ 29 = gA σ 18 := h7.2.1.symm
    have bs := h7.sale (k := k) (by omega)
    have bb := bst_b (c := c) (s := 4 * i + j) h7 k (by omega)
    have w1 := wof_b (c := c) (s := 4 * i + j) h6 h7 hc2 (toI bs)
    have w2 := wof_b (c := c) (s := 4 * i + j) h6 h7 hc2 (toI bb)
    have t := tl_sub (x := wof σ c (4 * i + j) (gA σ 18 k)) (y := wof σ c (4 * i + j) (bst σ c (4 * i + j) k)) (by omega) (by omega)
    have z0 : (0 : Int64).toInt = 0 := rfl
    refine B_Md_best_23 _ _ _ _ _ ?_
    rw [hc]
    refine bq_f (nI_ge (by omega) (by omega)) ⟨v, ?_⟩
    rw [nI_clamp (by omega), e29]
    refine K_mworth h6 h7 hE hs hc hc0 hc2 bs (K_mworth h6 h7 hE hs hc hc0 hc2 bb ?_)
    rw [nI_1, e29]
    by_cases y1 : wof σ c (4 * i + j) (bst σ c (4 * i + j) k) < wof σ c (4 * i + j) (gA σ 18 k)
    · rw [if_pos y1] at q
      refine bq_t ((lgc_gt _ _).mpr (Int64.lt_iff_toInt_lt.mpr ?_)) ⟨v, q⟩
      have := Int64.lt_iff_toInt_lt.mp y1
      omega
    · rw [if_neg y1] at q
      refine bq_f (fun z => y1 (Int64.lt_iff_toInt_lt.mpr ?_)) ?_
      · have := Int64.lt_iff_toInt_lt.mp ((lgc_gt _ _).mp z)
        omega
      · by_cases y2 : wof σ c (4 * i + j) (gA σ 18 k) = wof σ c (4 * i + j) (bst σ c (4 * i + j) k)
        · refine bq_tn ((lgc_eq _ _).mpr (by rw [y2]; exact Int64.sub_self _)) ⟨v, ?_⟩
          by_cases y3 : gA σ 18 k < bst σ c (4 * i + j) k
          · rw [if_pos ⟨y2, y3⟩] at q
            exact bq_f (Int32.not_le.mpr y3) q
          · rw [if_neg (fun z => y3 z.2)] at q
            exact bq_t (Int32.not_lt.mp y3) q
        · rw [if_neg (fun z => y2 z.1)] at q
          refine bq_fn (fun z => y2 ?_) q
          have u := (lgc_eq _ _).mp z
          rw [u] at t
          exact Int64.toInt_inj.mp (by omega)
end
set_option maxHeartbeats 2000000 in
theorem op_best {S : XS} {n : Nat} {σ : St} (h : RR n σ) (p : Int32) (e : Int32) : OPI S n σ m_TH_best m_Md_best [.int p, .int e] := by
  obtain ⟨r0, r1, r2, r3, r4, r5, r6, r7, r8⟩ := h
  unfold OPI
  have a9 := r3.1
  obtain ⟨c, hc, e1, e2⟩ := r7.cnt
  refine C_TH_best _ _ _ (B_TH_best_0 _ _ _ ?_)
  by_cases hE : HE (gA σ 9) p e
  · have hE2 : HE (gC σ 21) p e := by rw [← a9]; exact hE
    refine K_haveT hE (bq_f (by decide) ?_)
    rw [e1]
    rcases Nat.eq_zero_or_pos c with z | z
    · subst z
      refine bq_tn rfl (C_Md_best _ _ _ (B_Md_best_0 _ _ _ (K_isEdT hE2 (bq_f (by decide) ?_))))
      rw [e2]
      exact bq_tn rfl ⟨rfl, ⟨r0, r1, r2, r3, r4, r5, r6.succ, r7, r8.succ⟩⟩
    · have cne : ¬ nI c = 0 := nI_ne0 z (by omega)
      refine bq_fn cne (K_slot ?_)
      obtain ⟨i, j, hs⟩ := hE.slf r3
      have w0 := hs.1.2.2.1
      refine C_Fo_bestCopies _ _ (B_Fo_bestCopies_0 _ _ (K_worth e1 hc hs.2.1.1 (bestL r7 e1 hc hs.2.1.1 ?_ c 0 (by omega) (by omega))))
      rw [w0]
      refine C_Md_best _ _ _ (B_Md_best_0 _ _ _ (K_isEdT hE2 (bq_f (by decide) (bq_fn (by rw [e2]; exact cne) ?_))))
      exact mbestL r6 r7 hE2 hs e2 z hc ⟨rfl, ⟨r0, r1, r2, r3, r4, r5, r6.succ, r7, r8.succ⟩⟩ c 0 (by omega) (by omega)
  · have hE2 : ¬ HE (gC σ 21) p e := by rw [← a9]; exact hE
    exact K_haveF hE (bq_t rfl (C_Md_best _ _ _ (B_Md_best_0 _ _ _ (K_isEdF hE2 (bq_t rfl ⟨rfl, ⟨r0, r1, r2, r3, r4, r5, r6.succ, r7, r8.succ⟩⟩)))))
