/-! READING AN AGREEMENT, the reference. -/
theorem nuS_sk (lo hi : Int32) (f : Nat → Int32) (z a : Nat) : nuS lo hi f z (skf f z a) = nuS lo hi f z a := by unfold nuS; rw [skf_id]
theorem wr56 {f : Nat → Int32} {r n : Nat} (h : wrB f r n 6 = true) : wrB f r n 5 = false := by
  refine wrB_f (fun w => ?_)
  have h1 := (of_decide_eq_true h).1
  have h2 := w.1
  have l5 : xlen.getD 5 0 = 4 := rfl
  have l6 : xlen.getD 6 0 = 2 := rfl
  omega
def aE (Q : Int32 → St → Prop) (c : Nat) (x1 : Int32) (n : Nat) (l : Int32) (ρ : St) (b : Int32) : Prop :=
  ((0 ≤ x1 ∧ x1 < 24) → c < 12 → Q (nI c + 1 - 1) (sY (sC (sC (sC (uM ρ b 0 (-1)) 24 (upd (gC ρ 24) c (nI n))) 25 (upd (gC ρ 25) c l)) 26 (upd (gC ρ 26) c x1)) 13 (nI c + 1))) ∧ (¬ ((0 ≤ x1 ∧ x1 < 24) ∧ c < 12) → Q (-2) (uM ρ b 0 (-1)))
theorem sC_g23 (ρ : St) (C : Nat → Int32) : gC (sC ρ 23 C) 23 = C := rfl
theorem uM_g13 (ρ : St) (a k p : Int32) : gY (uM ρ a k p) 13 = gY ρ 13 := rfl
section
variable {S : XS} {ρ τ : St} {f : Nat → Int32} {z a c n : Nat} {x1 x2 x3 x4 x5 k p b : Int32} {Q : Int32 → St → Prop} {C P U : Nat → Int32}
theorem K_dg1 (hk : ¬ k ≤ 0) (h : TMo ρ f z) (ha : a ≤ z) (H : ∀ v b, Q v (uM ρ b k p)) : CM S m_Md_digits [.ref 153] (enc (uM ρ (nI a) k p)) (qI Q) := by
  obtain ⟨b1, b2⟩ := skf_b (f := f) ha
  have hz := h.2.2
  refine C_Md_digits _ (B_Md_digits_0 _ (K_hereU h ha (K_isDig (fun y => bq_fn (by decide) (B_Md_digits_25 _ _ _ ?_)) (fun y => bq_tn rfl (K_bl1 hk (H _ _))))))
  obtain ⟨d1, d2⟩ := hv_y (by decide) y
  rw [uM_g9, uM_g10, h.2.1]
  refine bq_f (nI_ge d1 (by omega)) ⟨vp_in_nI (by omega) (by decide), K_isDig (fun _ => bq_f (by decide) (bq_fn (k0n hk) (H _ _))) (fun _ => bq_t rfl (H _ _))⟩
theorem K_nu1M {lo hi : Int32} (hk : ¬ k ≤ 0) (h : TMo ρ f z) (ha : a ≤ z) (H : ∀ v b, Q v (uM ρ b k p)) : CM S m_Md_number [.ref 153, .int lo, .int hi] (enc (uM ρ (nI a) k p)) (qI Q) :=
  C_Md_number _ _ _ (B_Md_number_0 _ _ _ (K_hereU h ha (K_dg1 hk h (skf_b ha).2 (fun v b => bq_fn (k0n hk) (H v b)))))
theorem a226 (hk : ¬ k ≤ 0) (H : Q (-1) (uM ρ b k p)) : BW S m_Md_agree 226 [some (.ref 153), some (.int x1), some (.int x2), none, none, none, none] [] (enc (uM ρ b k p)) (qI Q) :=
  B_Md_agree_226 _ _ _ (bq_fn (k0n hk) (K_ed1 hk (bq_f hk H)))
theorem a199 (hk : ¬ k ≤ 0) (H : Q (-1) (uM ρ b k p)) : BW S m_Md_agree 199 [some (.ref 153), some (.int x1), some (.int x2), none, none, none, none] [] (enc (uM ρ b k p)) (qI Q) :=
  B_Md_agree_199 _ _ _ (bq_fn (k0n hk) (a226 hk H))
theorem a11 (hk : ¬ k ≤ 0) (H : Q (-1) (uM ρ b k p)) : BW S m_Md_agree 11 [some (.ref 153), some (.int x1), some (.int x2), some (.int x3), some (.int x4), none, none] [] (enc (uM ρ b k p)) (qI Q) :=
  B_Md_agree_11 _ _ _ _ _ (bq_s (fun _ => a199 hk H) (fun _ => bq_fn (k0n hk) (a199 hk H)))
theorem a89 (hk : ¬ k ≤ 0) (H : Q (-1) (uM ρ b k p)) : BW S m_Md_agree 89 [some (.ref 153), some (.int x1), some (.int x2), some (.int x3), some (.int x4), some (.int x5), none] [] (enc (uM ρ b k p)) (qI Q) :=
  B_Md_agree_89 _ _ _ _ _ _ (bq_f hk (a11 hk H))
theorem a52 (hk : ¬ k ≤ 0) (h : TMo ρ f z) (ha : a ≤ z) (H : ∀ b, Q (-1) (uM ρ b k p)) : BW S m_Md_agree 52 [some (.ref 153), some (.int x1), some (.int x2), some (.int x3), some (.int x4), none, none] [] (enc (uM ρ (nI a) k p)) (qI Q) :=
  B_Md_agree_52 _ _ _ _ _ (K_nu1M hk h ha (fun v b => bq_fn (k0n hk) (a89 hk (H b))))
theorem t226 (h : TMo ρ f z) (ha : a ≤ z) (hf : ∀ i, ¬ f i = -1) (hc : gY ρ 13 = nI c) (hc2 : c ≤ 12) (H : pc z (nuS 0 9999 f z a) (fun k p => ∀ b, Q (-1) (uM ρ b k p)) (fun e => pc z (sgS 59 f z e) (fun k p => ∀ b, Q (-1) (uM ρ b k p)) (fun e2 => pc z (enS f z e2) (fun k p => ∀ b, Q (-1) (uM ρ b k p)) (fun _ => ∀ b, aE Q c x1 n (dv f (skf f z a) (e - skf f z a)) ρ b)))) : BW S m_Md_agree 226 [some (.ref 153), some (.int x1), some (.int (nI n)), none, none, none, none] [] (enc (uM ρ (nI a) 0 (-1))) (qI Q) := by
  refine B_Md_agree_226 _ _ _ (bq_tn (by rw [uM_g7]) (K_nu0M h ha ?_))
  cases hx : nuS 0 9999 f z a with
  | inl e =>
    rw [hx] at H
    intro hk v b hb
    exact K_ed1 hk (bq_f hk (H hk _))
  | inr e =>
    rw [hx] at H
    intro he
    have H := H he
    try dsimp only at H
    refine K_ed0 h he hf ?_
    cases hy : sgS 59 f z e with
    | inl e2 =>
      rw [hy] at H
      intro hk b
      exact bq_f hk (H hk _)
    | inr e2 =>
      rw [hy] at H
      intro h2
      have H := H h2
      try dsimp only at H
      cases hw : enS f z e2 with
      | inl e3 =>
        rw [hw] at H
        intro hk b
        exact bq_f hk (H hk _)
      | inr e3 =>
        rw [hw] at H
        intro h3
        obtain ⟨H1, H2⟩ := H h3 (nI e3)
        refine bq_t (by rw [uM_g7]; decide) ?_
        by_cases hP : 0 ≤ x1 ∧ x1 < 24
        · refine K_misPartT hP (bq_f (by decide) ?_)
          rw [uM_g13, hc]
          by_cases y : c = 12
          · exact bq_tn (by rw [y]; rfl) (B_Md_agree_276 _ (H2 (fun w => by omega)))
          · refine bq_fn (fun w => y ((nI_eq (b := 12) (by omega) (by decide)).mp w)) ⟨vp_in_nI (by omega) (by decide), ?_⟩
            rw [nI_clamp (by omega)]
            exact H1 hP (by omega)
        · exact K_misPartF hP (bq_t rfl (B_Md_agree_276 _ (H2 (fun w => hP w.1))))
theorem Cst {i : Nat} {v w : Int32} (hB : ∀ j, j < 10 * c → C j = gC τ 23 j) (hI : ∀ j, j < i → C (10 * c + 2 * j) = P j ∧ C (10 * c + 2 * j + 1) = U j) : (∀ j, j < 10 * c → upd (upd C (10 * c + 2 * i) v) (10 * c + 2 * i + 1) w j = gC τ 23 j) ∧ (∀ j, j < i + 1 → upd (upd C (10 * c + 2 * i) v) (10 * c + 2 * i + 1) w (10 * c + 2 * j) = upd P i v j) ∧ (∀ j, j < i → upd (upd C (10 * c + 2 * i) v) (10 * c + 2 * i + 1) w (10 * c + 2 * j + 1) = U j) ∧ upd (upd C (10 * c + 2 * i) v) (10 * c + 2 * i + 1) w (10 * c + 2 * i + 1) = w := by
  refine ⟨fun j hj => ?_, fun j hj => ?_, fun j hj => ?_, upd_at _ _ _⟩
  · rw [upd_ne _ _ (by omega), upd_ne _ _ (by omega)]
    exact hB j hj
  · rw [upd_ne _ _ (by omega)]
    by_cases e : j = i
    · rw [e, upd_at, upd_at]
    · rw [upd_ne _ _ (by omega), upd_ne _ _ e]
      exact (hI j (by omega)).1
  · rw [upd_ne _ _ (by omega), upd_ne _ _ (by omega)]
    exact (hI j hj).2
theorem K_agM (h : TMo (bgM τ) f z) (hf : ∀ i, ¬ f i = -1) (hc : gY τ 13 = nI c) (hc2 : c ≤ 12) (H : agP f z (fun k p => ∀ b C, (∀ j, j < 10 * c → C j = gC τ 23 j) → Q (-1) (uM (sC (bgM τ) 23 C) b k p)) (fun P U n l => ∀ b C, (∀ j, j < 10 * c → C j = gC τ 23 j) → (∀ j, j < n → C (10 * c + 2 * j) = P j) → (∀ j, j + 1 < n → C (10 * c + 2 * j + 1) = U j) → aE Q c x1 n l (sC (bgM τ) 23 C) b) 5 0 0 0 P U) : CM S m_Md_agree [.ref 153, .int x1] (enc τ) (qI Q) := by
  refine C_Md_agree _ _ (B_Md_agree_0 _ _ (C_Md_begins _ (B_Md_begins_0 _ ?_)))
  have hT : ∀ u, TMo (sC (bgM τ) 23 u) f z := fun _ => h
  have g13 : ∀ u y k p, gY (uM (sC (bgM τ) 23 u) y k p) 13 = nI c := fun _ _ _ _ => hc
  have e0 : sY (sY (sY (sY (sY τ 10 (gY τ 0)) 0 0) 9 0) 7 0) 8 (-1) = uM (sC (bgM τ) 23 (gC τ 23)) (nI 0) 0 (-1) := by
    rw [nI_0, show sC (bgM τ) 23 (gC τ 23) = bgM τ from sC_id (bgM τ) 23]
    rfl
  rw [e0]
  have L : ∀ m i a bf P U C, i + m = 5 → a ≤ z → (∀ j, j < 10 * c → C j = gC τ 23 j) → (∀ j, j < i → C (10 * c + 2 * j) = P j ∧ C (10 * c + 2 * j + 1) = U j) → agP f z (fun k p => ∀ b C, (∀ j, j < 10 * c → C j = gC τ 23 j) → Q (-1) (uM (sC (bgM τ) 23 C) b k p)) (fun P U n l => ∀ b C, (∀ j, j < 10 * c → C j = gC τ 23 j) → (∀ j, j < n → C (10 * c + 2 * j) = P j) → (∀ j, j + 1 < n → C (10 * c + 2 * j + 1) = U j) → aE Q c x1 n l (sC (bgM τ) 23 C) b) m i a bf P U → BW S m_Md_agree 11 [some (.ref 153), some (.int x1), some (.int (nI i)), some (.int bf), some (.int 1), none, none] [] (enc (uM (sC (bgM τ) 23 C) (nI a) 0 (-1))) (qI Q) := by
    intro m
    induction m with
    | zero =>
      intro i a bf P U C hi ha hB hI H
      obtain rfl : i = 5 := by omega
      have b2 := (skf_b (f := f) ha).2
      have es : skf f z (skf f z a) = skf f z a := skf_id
      refine B_Md_agree_11 _ _ _ _ _ (bq_f (by decide) (bq_tn (by rw [uM_g7]) (K_hereU (hT _) ha (bq_tn (by decide) (K_hereU (hT _) b2 ?_)))))
      rw [es]
      refine K_isDig (fun y => bq_f (by decide) ?_) (fun y => bq_t rfl ?_)
      · rw [uM_g9]
        exact K_bl0 (a52 k1p (hT _) b2 (fun b => H _ _ hB))
      · refine B_Md_agree_52 _ _ _ _ _ (K_nu0M (hT _) b2 ?_)
        unfold nuS nuR
        rw [es, if_pos (hv_n y)]
        intro hk v b hb
        exact bq_fn (k0n hk) (a89 hk (H _ _ hB))
    | succ m ih =>
      intro i a bf P U C hi ha hB hI H
      have b2 := (skf_b (f := f) ha).2
      have es : skf f z (skf f z a) = skf f z a := skf_id
      refine B_Md_agree_11 _ _ _ _ _ (bq_f (by decide) (bq_tn (by rw [uM_g7]) (K_hereU (hT _) ha (bq_fn (fun w => absurd ((nI_eq (b := 5) (by omega) (by decide)).mp w) (by omega)) (B_Md_agree_52 _ _ _ _ _ (K_nu0M (hT _) b2 ?_))))))
      rw [nuS_sk, es]
      unfold agP at H
      cases hx : nuS 0 100 f z a with
      | inl e =>
        rw [hx] at H
        intro hk v b hb
        exact bq_fn (k0n hk) (a89 hk (H hk _ _ hB))
      | inr e =>
        rw [hx] at H
        intro he
        have H := H he
        try dsimp only at H
        generalize dv f (skf f z a) (e - skf f z a) = pv at H ⊢
        refine bq_tn (by rw [uM_g7]) (K_ps0 (t := 4) (hT _) he (by decide) rfl (by decide) (fun w hw => bq_fn (by decide) ?_) (fun w b3 => bq_tn rfl ?_))
        · unfold wdS wdR at H
          rw [if_pos w] at H
          have H := H hw
          try dsimp only at H
          generalize rnf 97 122 f z (skf f z e) = e2 at H hw ⊢
          have es2 : skf f z (skf f z e2) = skf f z e2 := skf_id
          refine B_Md_agree_89 _ _ _ _ _ _ (bq_t (by rw [uM_g7]; decide) (K_ps0 (t := 6) (hT _) hw (by decide) rfl (by decide) (fun w6 hw6 => bq_f (by decide) ?_) (fun w6 b6 => bq_t rfl ?_)))
          · rw [if_neg (by rw [wr56 w6]; decide)] at H
            try unfold wdS wdR at H
            rw [if_pos w6] at H
            have H := H hw6
            try dsimp only at H
            generalize rnf 97 122 f z (skf f z e2) = e3 at H hw6 ⊢
            refine K_nu0M (hT _) hw6 ?_
            cases hn : nuS (bf + 1) 99999 f z e3 with
            | inl e4 =>
              rw [hn] at H
              intro hk v b hb
              exact bq_f hk (a11 hk (H hk _ _ hB))
            | inr e4 =>
              rw [hn] at H
              intro h4
              have H := H h4
              try dsimp only at H
              generalize dv f (skf f z e3) (e4 - skf f z e3) = tv at H ⊢
              obtain ⟨B1, B2, B3, B4⟩ := Cst (i := i) (v := pv) (w := tv) hB hI
              refine bq_t (by rw [uM_g7]; decide) ?_
              rw [g13, show (10 : Int32) = nI 10 from rfl, show (2 : Int32) = nI 2 from rfl, nI_mul, nI_mul, nI_add, nI_1, nI_1, nI_clamp (n := 10 * c + 2 * i) (by omega), nI_clamp (n := 10 * c + 2 * i + 1) (by omega), uM_gC, sC_g23, uM_sC, uM_sC, sC_sC, sC_sC]
              refine ⟨vp_in_nI (by omega) (by decide), vp_in_nI (by omega) (by decide), bq_f (by decide) (K_mu0 (hT _) h4 (by decide) ?_)⟩
              cases hs : sgS 44 f z e4 with
              | inl e5 =>
                rw [hs] at H
                intro hk
                exact B_Md_agree_196 _ _ _ _ _ (a11 hk (H hk _ _ B1))
              | inr e5 =>
                rw [hs] at H
                intro h5
                refine B_Md_agree_196 _ _ _ _ _ (ih (i + 1) e5 tv _ _ _ (by omega) h5 B1 (fun j hj => ⟨B2 j hj, ?_⟩) (H h5))
                by_cases ej : j = i
                · rw [ej]
                  exact B4.trans (upd_at _ _ _).symm
                · rw [upd_ne _ _ ej]
                  exact B3 j (by omega)
          · obtain ⟨B1, B2, B3, B4⟩ := Cst (i := i) (v := pv) (w := 1000000000) hB hI
            refine bq_t (by rw [uM_g7]; decide) ?_
            rw [g13, show (10 : Int32) = nI 10 from rfl, show (2 : Int32) = nI 2 from rfl, nI_mul, nI_mul, nI_add, nI_1, nI_1, nI_clamp (n := 10 * c + 2 * i) (by omega), nI_clamp (n := 10 * c + 2 * i + 1) (by omega), uM_gC, sC_g23, uM_sC, uM_sC, sC_sC, sC_sC]
            refine ⟨vp_in_nI (by omega) (by decide), vp_in_nI (by omega) (by decide), bq_t rfl (B_Md_agree_196 _ _ _ _ _ (B_Md_agree_11 _ _ _ _ _ (bq_t rfl (B_Md_agree_199 _ _ _ (bq_tn (by rw [uM_g7]) (K_ps0 (t := 5) (hT _) b6 (by decide) rfl (by decide) (fun w5 hw5 => bq_fn (by decide) ?_) (fun w5 b5 => bq_tn rfl ?_)))))))⟩
            · rw [es2] at w5 hw5 ⊢
              rw [if_pos w5] at H
              refine t226 (hT _) hw5 hf hc hc2 ?_
              exact pc_mono (fun k p hh b => hh b _ B1) (fun _ => pc_mono (fun k p hh b => hh b _ B1) (fun _ => pc_mono (fun k p hh b => hh b _ B1) (fun _ hh b => hh b _ B1 B2 (fun j hj => B3 j (by omega))))) H
            · rw [es2] at w5 ⊢
              rw [if_neg (by rw [w5]; decide)] at H
              try unfold wdS wdR at H
              rw [if_neg (by rw [w6]; decide)] at H
              rw [uM_g9]
              exact K_bl0 (a226 k1p (H k1p _ _ B1))
        · unfold wdS wdR at H
          rw [if_neg (by rw [w]; decide)] at H
          rw [uM_g9]
          exact K_bl0 (a89 k1p (H k1p _ _ hB))
  exact L 5 0 0 0 _ _ _ rfl (Nat.zero_le _) (fun _ _ => rfl) (fun j hj => absurd hj (by omega)) H
end
