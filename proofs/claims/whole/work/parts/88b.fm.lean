/-! READING A FACT, the reference. -/
theorem upd_at (g : Nat → Int32) (k : Nat) (v : Int32) : upd g k v k = v := by unfold upd; rw [if_pos rfl]
theorem upd_ne (g : Nat → Int32) {k j : Nat} (v : Int32) (h : j ≠ k) : upd g k v j = g j := by unfold upd; rw [if_neg h]
theorem cpf_lt {C : Nat → Int32} {b : Nat} {f : Nat → Int32} {r j : Nat} (h : j < b) : ∀ n, cpf C b f r n j = C j := by
  intro n
  induction n with
  | zero => rfl
  | succ n ih =>
    show upd (cpf C b f r n) (b + n) (f (r + n)) j = C j
    rw [upd_ne _ _ (by omega), ih]
theorem cpf_at {C : Nat → Int32} {b : Nat} {f : Nat → Int32} {r i : Nat} : ∀ n, i < n → cpf C b f r n (b + i) = f (r + i) := by
  intro n
  induction n with
  | zero => intro h; exact absurd h (by omega)
  | succ n ih =>
    intro h
    show upd (cpf C b f r n) (b + n) (f (r + n)) (b + i) = f (r + i)
    by_cases e : i = n
    · rw [e, upd_at]
    · rw [upd_ne _ _ (by omega), ih (by omega)]
def sC4 (ρ : St) (c14 c15 c16 c17 : Nat → Int32) : St := sC (sC (sC (sC ρ 14 c14) 15 c15) 16 c16) 17 c17
section
variable (ρ : St) (a b c d x : Nat → Int32)
theorem sC4_14 : sC (sC4 ρ a b c d) 14 x = sC4 ρ x b c d := by
  show (ρ.1, ρ.2.1, va_up (va_up (va_up (va_up (va_up ρ.2.2.1 14 a) 15 b) 16 c) 17 d) 14 x, ρ.2.2.2) = (ρ.1, ρ.2.1, va_up (va_up (va_up (va_up ρ.2.2.1 14 x) 15 b) 16 c) 17 d, ρ.2.2.2)
  rw [va_upc _ (by decide : (17 : Nat) ≠ 14), va_upc _ (by decide : (16 : Nat) ≠ 14), va_upc _ (by decide : (15 : Nat) ≠ 14), va_up2]
theorem sC4_15 : sC (sC4 ρ a b c d) 15 x = sC4 ρ a x c d := by
  show (ρ.1, ρ.2.1, va_up (va_up (va_up (va_up (va_up ρ.2.2.1 14 a) 15 b) 16 c) 17 d) 15 x, ρ.2.2.2) = (ρ.1, ρ.2.1, va_up (va_up (va_up (va_up ρ.2.2.1 14 a) 15 x) 16 c) 17 d, ρ.2.2.2)
  rw [va_upc _ (by decide : (17 : Nat) ≠ 15), va_upc _ (by decide : (16 : Nat) ≠ 15), va_up2]
theorem sC4_16 : sC (sC4 ρ a b c d) 16 x = sC4 ρ a b x d := by
  show (ρ.1, ρ.2.1, va_up (va_up (va_up (va_up (va_up ρ.2.2.1 14 a) 15 b) 16 c) 17 d) 16 x, ρ.2.2.2) = (ρ.1, ρ.2.1, va_up (va_up (va_up (va_up ρ.2.2.1 14 a) 15 b) 16 x) 17 d, ρ.2.2.2)
  rw [va_upc _ (by decide : (17 : Nat) ≠ 16), va_up2]
theorem sC4_17 : sC (sC4 ρ a b c d) 17 x = sC4 ρ a b c x := by
  show (ρ.1, ρ.2.1, va_up (va_up (va_up (va_up (va_up ρ.2.2.1 14 a) 15 b) 16 c) 17 d) 17 x, ρ.2.2.2) = (ρ.1, ρ.2.1, va_up (va_up (va_up (va_up ρ.2.2.1 14 a) 15 b) 16 c) 17 x, ρ.2.2.2)
  rw [va_up2]
theorem sC4_id : sC4 ρ (gC ρ 14) (gC ρ 15) (gC ρ 16) (gC ρ 17) = ρ := by
  unfold sC4
  rw [sC_id, sC_id, sC_id, sC_id]
theorem sC4_g14 : gC (sC4 ρ a b c d) 14 = a := rfl
theorem sC4_g15 : gC (sC4 ρ a b c d) 15 = b := rfl
theorem sC4_g16 : gC (sC4 ρ a b c d) 16 = c := rfl
theorem sC4_g17 : gC (sC4 ρ a b c d) 17 = d := rfl
end
def BL (σ : St) (c : Nat) (c14 c15 c16 c17 : Nat → Int32) : Prop := (∀ j, j < 20 * c → c14 j = gC σ 14 j) ∧ (∀ j, j < 2 * c → c15 j = gC σ 15 j) ∧ (∀ j, j < c → c16 j = gC σ 16 j) ∧ (∀ j, j < c → c17 j = gC σ 17 j)
def GP (c : Nat) (f : Nat → Int32) (K : Int32) (r1 n1 r2 n2 : Nat) (d : Int32) (c14 c15 c16 c17 : Nat → Int32) : Prop := c15 (2 * c) = nI n1 ∧ (∀ i, i < n1 → c14 (20 * c + i) = f (r1 + i)) ∧ c16 c = K ∧ (K = 2 → c15 (2 * c + 1) = nI n2 ∧ ∀ i, i < n2 → c14 (20 * c + 10 + i) = f (r2 + i)) ∧ c17 c = d
def bgM (τ : St) : St := sY (sY τ 10 (gY τ 0)) 0 0
def fE (Q : Int32 → St → Prop) (c : Nat) (x1 x2 : Int32) (ρ : St) (b : Int32) : Prop :=
  (HE (gC ρ 21) x1 x2 → c < 60 → Q (nI c + 1 - 1) (sY (sC (sC (sC (uM ρ b 0 (-1)) 18 (upd (gC ρ 18) c x1)) 19 (upd (gC ρ 19) c x2)) 20 (upd (gC ρ 20) c (-1))) 11 (nI c + 1))) ∧ (¬ (HE (gC ρ 21) x1 x2 ∧ c < 60) → Q (-2) (uM ρ b 0 (-1)))
section
variable {S : XS} {ρ τ : St} {f : Nat → Int32} {z a c : Nat} {x1 x2 k p b : Int32} {Q : Int32 → St → Prop} {c14 c15 c16 c17 : Nat → Int32}
theorem f165 (hk : ¬ k ≤ 0) (H : Q (-1) (uM ρ b k p)) : BW S m_Md_fact 165 [some (.ref 153), some (.int x1), some (.int x2)] [] (enc (uM ρ b k p)) (qI Q) :=
  B_Md_fact_165 _ _ _ (K_ed1 hk (bq_f hk H))
theorem f145 (hk : ¬ k ≤ 0) (H : Q (-1) (uM ρ b k p)) : BW S m_Md_fact 145 [some (.ref 153), some (.int x1), some (.int x2)] [] (enc (uM ρ b k p)) (qI Q) :=
  B_Md_fact_145 _ _ _ (bq_fn (k0n hk) (f165 hk H))
theorem f93 (hk : ¬ k ≤ 0) (H : Q (-1) (uM ρ b k p)) : BW S m_Md_fact 93 [some (.ref 153), some (.int x1), some (.int x2)] [] (enc (uM ρ b k p)) (qI Q) :=
  B_Md_fact_93 _ _ _ (bq_fn (k0n hk) (f145 hk H))
theorem t165 (h : TMo ρ f z) (ha : a ≤ z) (hf : ∀ i, ¬ f i = -1) (hc : gY ρ 11 = nI c) (hc2 : c ≤ 60) (H : pc z (sgS 59 f z a) (fun k p => ∀ b, Q (-1) (uM ρ b k p)) (fun e => pc z (enS f z e) (fun k p => ∀ b, Q (-1) (uM ρ b k p)) (fun _ => ∀ b, fE Q c x1 x2 ρ b))) : BW S m_Md_fact 165 [some (.ref 153), some (.int x1), some (.int x2)] [] (enc (uM ρ (nI a) 0 (-1))) (qI Q) := by
  refine B_Md_fact_165 _ _ _ (K_ed0 h ha hf ?_)
  cases hx : sgS 59 f z a with
  | inl e =>
    rw [hx] at H
    intro hk b
    exact bq_f hk (H hk b)
  | inr e =>
    rw [hx] at H
    intro he
    have H := H he
    try dsimp only at H
    cases hy : enS f z e with
    | inl e2 =>
      rw [hy] at H
      intro hk b
      exact bq_f hk (H hk b)
    | inr e2 =>
      rw [hy] at H
      intro h2
      obtain ⟨H1, H2⟩ := H h2 (nI e2)
      refine bq_t (by rw [uM_g7]; decide) ?_
      by_cases hE : HE (gC ρ 21) x1 x2
      · refine K_isEdT (σ := uM ρ (nI e2) 0 (-1)) hE (bq_f (by decide) ?_)
        rw [uM_g11, hc]
        by_cases y : c = 60
        · exact bq_tn (by rw [y]; rfl) (B_Md_fact_196 _ (H2 (fun w => by omega)))
        · refine bq_fn (fun w => y ((nI_eq (b := 60) (by omega) (by decide)).mp w)) ⟨vp_in_nI (by omega) (by decide), ?_⟩
          rw [nI_clamp (by omega)]
          exact H1 hE (by omega)
      · exact K_isEdF (σ := uM ρ (nI e2) 0 (-1)) hE (bq_t rfl (B_Md_fact_196 _ (H2 (fun w => hE w.1))))
theorem BL.u17 (h : BL τ c c14 c15 c16 c17) (v : Int32) : BL τ c c14 c15 c16 (upd c17 c v) := ⟨h.1, h.2.1, h.2.2.1, fun j hj => by rw [upd_ne _ _ (by omega)]; exact h.2.2.2 j hj⟩
theorem BL.u16 (h : BL τ c c14 c15 c16 c17) (v : Int32) : BL τ c c14 c15 (upd c16 c v) c17 := ⟨h.1, h.2.1, fun j hj => by rw [upd_ne _ _ (by omega)]; exact h.2.2.1 j hj, h.2.2.2⟩
theorem BL.u15 (h : BL τ c c14 c15 c16 c17) (w : Nat) (v : Int32) : BL τ c c14 (upd c15 (2 * c + w) v) c16 c17 := ⟨h.1, fun j hj => by rw [upd_ne _ _ (by omega)]; exact h.2.1 j hj, h.2.2⟩
theorem BL.u14 (h : BL τ c c14 c15 c16 c17) (w : Nat) (r n : Nat) : BL τ c (cpf c14 (20 * c + 10 * w) f r n) c15 c16 c17 := ⟨fun j hj => by rw [cpf_lt (by omega)]; exact h.1 j hj, h.2⟩
theorem t145 (h : TMo (bgM τ) f z) (ha : a ≤ z) (hf : ∀ i, ¬ f i = -1) (hc : gY τ 11 = nI c) (hc2 : c ≤ 60) (hB : BL τ c c14 c15 c16 c17) (H : tlP f z a (fun k p => ∀ b c17, BL τ c c14 c15 c16 c17 → Q (-1) (uM (sC4 (bgM τ) c14 c15 c16 c17) b k p)) (fun d => ∀ b c17, BL τ c c14 c15 c16 c17 → c17 c = d → fE Q c x1 x2 (sC4 (bgM τ) c14 c15 c16 c17) b)) : BW S m_Md_fact 145 [some (.ref 153), some (.int x1), some (.int x2)] [] (enc (uM (sC4 (bgM τ) c14 c15 c16 c17) (nI a) 0 (-1))) (qI Q) := by
  have hT : ∀ u v w x, TMo (sC4 (bgM τ) u v w x) f z := fun _ _ _ _ => h
  have g11 : ∀ u v w x y k p, gY (uM (sC4 (bgM τ) u v w x) y k p) 11 = nI c := fun _ _ _ _ _ _ _ => hc
  refine B_Md_fact_145 _ _ _ (bq_tn (by rw [uM_g7]) (K_dg0 (hT _ _ _ _) ha ?_))
  unfold tlP at H
  cases hx : dgS f z a with
  | inl e =>
    rw [hx] at H
    intro hk v b hb
    rw [g11, nI_clamp (by omega), uM_gC, sC4_g17, uM_sC, sC4_17]
    exact ⟨vp_in_nI (by omega) (by decide), f165 hk (H hk _ _ (hB.u17 v))⟩
  | inr e =>
    rw [hx] at H
    intro he
    have H := H he
    try dsimp only at H
    rw [g11, nI_clamp (by omega), uM_gC, sC4_g17, uM_sC, sC4_17]
    refine ⟨vp_in_nI (by omega) (by decide), t165 (hT _ _ _ _) he hf hc hc2 ?_⟩
    exact pc_mono (fun k p hh b => hh b _ (hB.u17 _)) (fun e2 hh => pc_mono (fun k p hh b => hh b _ (hB.u17 _)) (fun _ hh b => hh b _ (hB.u17 _) (upd_at _ _ _)) hh) H
theorem t93 {K : Int32} (hK : ¬ K = 2) (h : TMo (bgM τ) f z) (ha : a ≤ z) (hf : ∀ i, ¬ f i = -1) (hc : gY τ 11 = nI c) (hc2 : c ≤ 60) (hB : BL τ c c14 c15 c16 c17) (h16 : c16 c = K) (H : tlP f z a (fun k p => ∀ b c17, BL τ c c14 c15 c16 c17 → Q (-1) (uM (sC4 (bgM τ) c14 c15 c16 c17) b k p)) (fun d => ∀ b c17, BL τ c c14 c15 c16 c17 → c17 c = d → fE Q c x1 x2 (sC4 (bgM τ) c14 c15 c16 c17) b)) : BW S m_Md_fact 93 [some (.ref 153), some (.int x1), some (.int x2)] [] (enc (uM (sC4 (bgM τ) c14 c15 c16 c17) (nI a) 0 (-1))) (qI Q) := by
  have g11 : ∀ u v w x y k p, gY (uM (sC4 (bgM τ) u v w x) y k p) 11 = nI c := fun _ _ _ _ _ _ _ => hc
  refine B_Md_fact_93 _ _ _ (bq_tn (by rw [uM_g7]) ?_)
  rw [g11, nI_clamp (by omega), uM_gC, sC4_g16, h16]
  exact ⟨vp_in_nI (by omega) (by decide), bq_fn hK (t145 h ha hf hc hc2 hB H)⟩
theorem K_factM (h : TMo (bgM τ) f z) (hf : ∀ i, ¬ f i = -1) (hc : gY τ 11 = nI c) (hc2 : c ≤ 60) (H : fp f z (fun k p => ∀ b c14 c15 c16 c17, BL τ c c14 c15 c16 c17 → Q (-1) (uM (sC4 (bgM τ) c14 c15 c16 c17) b k p)) (fun K r1 n1 r2 n2 d => ∀ b c14 c15 c16 c17, BL τ c c14 c15 c16 c17 → GP c f K r1 n1 r2 n2 d c14 c15 c16 c17 → fE Q c x1 x2 (sC4 (bgM τ) c14 c15 c16 c17) b)) : CM S m_Md_fact [.ref 153, .int x1, .int x2] (enc τ) (qI Q) := by
  refine C_Md_fact _ _ _ (B_Md_fact_0 _ _ _ (C_Md_begins _ (B_Md_begins_0 _ ?_)))
  have hT : ∀ u v w x, TMo (sC4 (bgM τ) u v w x) f z := fun _ _ _ _ => h
  have g11 : ∀ u v w x y k p, gY (uM (sC4 (bgM τ) u v w x) y k p) 11 = nI c := fun _ _ _ _ _ _ _ => hc
  have e0 : sY (sY (sY (sY (sY τ 10 (gY τ 0)) 0 0) 9 0) 7 0) 8 (-1) = uM (sC4 (bgM τ) (gC τ 14) (gC τ 15) (gC τ 16) (gC τ 17)) (nI 0) 0 (-1) := by
    rw [nI_0, show sC4 (bgM τ) (gC τ 14) (gC τ 15) (gC τ 16) (gC τ 17) = bgM τ from sC4_id (bgM τ)]
    rfl
  have B0 : BL τ c (gC τ 14) (gC τ 15) (gC τ 16) (gC τ 17) := ⟨fun _ _ => rfl, fun _ _ => rfl, fun _ _ => rfl, fun _ _ => rfl⟩
  rw [e0]
  unfold fp at H
  refine K_nm0 (w := 0) (hT _ _ _ _) (Nat.zero_le _) hc hc2 (by decide) (by decide) ?_
  cases hx : nmS f z 0 with
  | inl e =>
    rw [hx] at H
    intro hk
    exact bq_fn (k0n hk) (f93 hk (H hk _ _ _ _ _ B0))
  | inr e1 =>
    rw [hx] at H
    intro h1
    have H := H h1
    try dsimp only at H
    have m1 := nmS_i hx
    rw [sC4_g15, sC4_g14, sC4_15, sC4_14]
    have B1 := (B0.u15 0 (nI (e1 - skf f z 0))).u14 (f := f) 0 (skf f z 0) (e1 - skf f z 0)
    have P15 : upd (gC τ 15) (2 * c + 0) (nI (e1 - skf f z 0)) (2 * c) = nI (e1 - skf f z 0) := upd_at _ _ _
    have P14 : ∀ i, i < e1 - skf f z 0 → cpf (gC τ 14) (20 * c + 10 * 0) f (skf f z 0) (e1 - skf f z 0) (20 * c + i) = f (skf f z 0 + i) := fun i hi => cpf_at _ hi
    generalize upd (gC τ 15) (2 * c + 0) (nI (e1 - skf f z 0)) = A15 at B1 P15 ⊢
    generalize cpf (gC τ 14) (20 * c + 10 * 0) f (skf f z 0) (e1 - skf f z 0) = A14 at B1 P14 ⊢
    generalize gC τ 16 = A16 at B1 ⊢
    generalize gC τ 17 = A17 at B1 ⊢
    have es : skf f z (skf f z e1) = skf f z e1 := skf_id
    refine bq_tn (by rw [uM_g7]) (K_ps0 (t := 0) (hT _ _ _ _) h1 (by decide) rfl (by decide) (fun w hw => bq_f (by decide) ?_) (fun w b1 => bq_t rfl ?_))
    · rw [if_pos w] at H
      rw [g11, g11, nI_clamp (by omega), uM_gC, sC4_g16, upd_at, uM_sC, sC4_16]
      refine ⟨vp_in_nI (by omega) (by decide), vp_in_nI (by omega) (by decide), bq_fn (by decide) ?_⟩
      exact t93 (K := 0) (by decide) h hw hf hc hc2 (B1.u16 0) (upd_at _ _ _) (tlP_mono (fun k p hh b c17 hB => hh _ _ _ _ _ hB) (fun d hh b c17 hB hd => hh _ _ _ _ _ hB ⟨P15, P14, upd_at _ _ _, fun h => absurd h (by decide), hd⟩) H)
    · rw [if_neg (by rw [w]; decide)] at H
      refine K_ps0 (t := 1) (hT _ _ _ _) b1 (by decide) rfl (by decide) (fun w2 hw2 => bq_f (by decide) ?_) (fun w2 b2 => bq_t rfl ?_)
      · rw [es] at w2 hw2 ⊢
        rw [if_pos w2] at H
        rw [g11, g11, nI_clamp (by omega), uM_gC, sC4_g16, upd_at, uM_sC, sC4_16]
        refine ⟨vp_in_nI (by omega) (by decide), vp_in_nI (by omega) (by decide), bq_fn (by decide) ?_⟩
        exact t93 (K := 1) (by decide) h hw2 hf hc hc2 (B1.u16 1) (upd_at _ _ _) (tlP_mono (fun k p hh b c17 hB => hh _ _ _ _ _ hB) (fun d hh b c17 hB hd => hh _ _ _ _ _ hB ⟨P15, P14, upd_at _ _ _, fun h => absurd h (by decide), hd⟩) H)
      · rw [es] at w2 ⊢
        rw [if_neg (by rw [w2]; decide)] at H
        refine K_ps0 (t := 2) (hT _ _ _ _) b1 (by decide) rfl (by decide) (fun w3 hw3 => bq_f (by decide) ?_) (fun w3 b3 => bq_t rfl ?_)
        · rw [es] at w3 hw3 ⊢
          try unfold wdS wdR at H
          rw [if_pos w3] at H
          have H := H hw3
          try dsimp only at H
          rw [g11, g11, nI_clamp (by omega), uM_gC, sC4_g16, upd_at, uM_sC, sC4_16]
          refine ⟨vp_in_nI (by omega) (by decide), vp_in_nI (by omega) (by decide), bq_fn (by decide) ?_⟩
          generalize rnf 97 122 f z (skf f z e1) = e2 at H hw3 ⊢
          have B2 := B1.u16 2
          have P16 := upd_at A16 c 2
          generalize upd A16 c 2 = A16' at B2 P16 ⊢
          refine B_Md_fact_93 _ _ _ (bq_tn (by rw [uM_g7]) ?_)
          rw [g11, nI_clamp (by omega), uM_gC, sC4_g16, P16]
          refine ⟨vp_in_nI (by omega) (by decide), bq_tn rfl (K_nm0 (w := 1) (hT _ _ _ _) hw3 hc hc2 (by decide) (by decide) ?_)⟩
          cases hy : nmS f z e2 with
          | inl e =>
            rw [hy] at H
            intro hk
            exact bq_fn (k0n hk) (f145 hk (H hk _ _ _ _ _ B2))
          | inr e3 =>
            rw [hy] at H
            intro h3
            have H := H h3
            try dsimp only at H
            rw [sC4_g15, sC4_g14, sC4_15, sC4_14]
            have B3 := (B2.u15 1 (nI (e3 - skf f z e2))).u14 (f := f) 1 (skf f z e2) (e3 - skf f z e2)
            have Q15 : upd A15 (2 * c + 1) (nI (e3 - skf f z e2)) (2 * c) = nI (e1 - skf f z 0) := by rw [upd_ne _ _ (by omega)]; exact P15
            have Q14 : ∀ i, i < e1 - skf f z 0 → cpf A14 (20 * c + 10 * 1) f (skf f z e2) (e3 - skf f z e2) (20 * c + i) = f (skf f z 0 + i) := fun i hi => by
              rw [cpf_lt (by have := m1.2.1; omega)]
              exact P14 i hi
            have R15 : upd A15 (2 * c + 1) (nI (e3 - skf f z e2)) (2 * c + 1) = nI (e3 - skf f z e2) := upd_at _ _ _
            have R14 : ∀ i, i < e3 - skf f z e2 → cpf A14 (20 * c + 10 * 1) f (skf f z e2) (e3 - skf f z e2) (20 * c + 10 + i) = f (skf f z e2 + i) := fun i hi => cpf_at _ hi
            generalize upd A15 (2 * c + 1) (nI (e3 - skf f z e2)) = D15 at B3 Q15 R15 ⊢
            generalize cpf A14 (20 * c + 10 * 1) f (skf f z e2) (e3 - skf f z e2) = D14 at B3 Q14 R14 ⊢
            refine bq_tn (by rw [uM_g7]) (K_ps0 (t := 3) (hT _ _ _ _) h3 (by decide) rfl (by decide) (fun w4 hw4 => bq_fn (by decide) ?_) (fun w4 b4 => bq_tn rfl ?_))
            · try unfold wdS wdR at H
              rw [if_pos w4] at H
              have H := H hw4
              try dsimp only at H
              exact t145 h hw4 hf hc hc2 B3 (tlP_mono (fun k p hh b c17 hB => hh _ _ _ _ _ hB) (fun d hh b c17 hB hd => hh _ _ _ _ _ hB ⟨Q15, Q14, P16, fun _ => ⟨R15, R14⟩, hd⟩) H)
            · try unfold wdS wdR at H
              rw [if_neg (by rw [w4]; decide)] at H
              rw [uM_g9]
              exact K_bl0 (f145 k1p (H k1p _ _ _ _ _ B3))
        · rw [es] at w3 ⊢
          try unfold wdS wdR at H
          rw [if_neg (by rw [w3]; decide)] at H
          rw [g11, g11, nI_clamp (by omega), uM_gC, sC4_g16, upd_at, uM_sC, sC4_16]
          refine ⟨vp_in_nI (by omega) (by decide), vp_in_nI (by omega) (by decide), bq_tn rfl ?_⟩
          rw [uM_g9]
          exact K_bl0 (f93 k1p (H k1p _ _ _ _ _ (B1.u16 (-1))))
end
