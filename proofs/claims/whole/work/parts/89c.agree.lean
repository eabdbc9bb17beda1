/-! THE OPERATION agree. -/
def PE (δ δ' : St) (q : Nat) : Prop := isd δ' q ∧ gD δ' q = gD δ q
section
variable {δ δ' : St} {q : Nat}
theorem PE.eI (h : PE δ δ' q) (k : Nat) : fI δ' q k = fI δ q k := by unfold fI; rw [h.2]
theorem PE.eL (h : PE δ δ' q) (k : Nat) : fL δ' q k = fL δ q k := by unfold fL; rw [h.2]
theorem PE.eA (h : PE δ δ' q) : fA δ' q = fA δ q := by unfold fA; rw [h.2]
theorem PE.isFa (h : PE δ δ' q) (a : isFa δ q) : isFa δ' q := by
  refine ⟨h.1, ?_⟩
  rw [h.2, h.eL, h.eL, h.eI, h.eI, h.eI, h.eI, h.eI]
  exact a.2
theorem PE.isAg (h : PE δ δ' q) (a : isAg δ q) : isAg δ' q := by
  refine ⟨h.1, ?_⟩
  rw [h.2, h.eI, h.eI, h.eI]
  exact a.2
theorem PE.isA5 (h : PE δ δ' q) (a : isA5 δ q) : isA5 δ' q := by
  refine ⟨h.1, ?_⟩
  rw [h.2, h.eA]
  exact a.2
end
theorem ag_ne_a5 {σ : St} {q r : Nat} (h : isAg σ q) (a : isA5 σ r) : r ≠ q := by
  intro e
  subst e
  have := a.2.symm.trans h.2
  simp at this
theorem AD_n {σ : St} {q r : Nat} {P U : Nat → Int32} {s l w : Int32} (h0 : r ≠ q) (h1 : r ≠ q + 1) (h2 : r ≠ q + 2) : gD (AD σ q P U s l w) r = gD σ r := by
  unfold AD
  rw [sD_ne h2, sD_ne h1, sD_ne h0]
theorem EX.trans {a b c : St} (h : EX a b) (h' : EX b c) : EX a c := fun q hq => ⟨(h' q (h q hq).1).1, ((h' q (h q hq).1).2).trans (h q hq).2⟩
theorem M4.gen {x15 x16 y11 y12 : Int32} {A11 A12 C14 C15 C16 C17 C18 C19 C20 C22 : Nat → Int32} {F : Nat → Option Nat} {f0 : Nat} {δ δ' : St} (h : M4 x15 x16 y11 y12 A11 A12 C14 C15 C16 C17 C18 C19 C20 C22 F f0 δ) (x : ∀ q, isFa δ q → PE δ δ' q) : M4 x15 x16 y11 y12 A11 A12 C14 C15 C16 C17 C18 C19 C20 C22 F f0 δ' := by
  obtain ⟨h1, h2, h3, ⟨h4, h4b⟩, h5, h6⟩ := h
  refine ⟨h1, h2, h3, ⟨(x _ h4).isFa h4, by rw [(x _ h4).eI]; exact h4b⟩, fun i hi => ?_, h6⟩
  obtain ⟨q, e1, e2, e3, e4⟩ := h5 i hi
  refine ⟨q, e1, e2, (x _ e3).isFa e3, ?_⟩
  unfold NF at e4 ⊢
  rw [(x _ e3).eL, (x _ e3).eL, (x _ e3).eI, (x _ e3).eI, (x _ e3).eI, (x _ e3).eI, (x _ e3).eI]
  exact e4
section
variable {x17 y13 : Int32} {C23 C24 C25 C26 C23' : Nat → Int32} {G : Nat → Option Nat} {g0 : Nat} {δ δ' : St}
theorem NA.pe {q i : Nat} (h0 : PE δ δ' q) (h1 : PE δ δ' (q + 1)) (h2 : PE δ δ' (q + 2)) (h : NA δ q i C23 C24 C25 C26) : NA δ' q i C23 C24 C25 C26 := by
  unfold NA at h ⊢
  rw [h0.eI, h0.eI, h0.eI, h1.eA, h2.eA]
  exact h
theorem M5.draft (h : M5 x17 y13 C23 C24 C25 C26 G g0 δ) {c : Nat} (hc : x17.toNatClampNeg = c) (hB : ∀ j, j < 10 * c → C23' j = C23 j) {P U : Nat → Int32} {s l w : Int32} : M5 x17 y13 C23' C24 C25 C26 G g0 (AD δ g0 P U s l w) := by
  obtain ⟨h1, h2, h5⟩ := h
  have hG : isG δ g0 := h2
  refine ⟨h1, ⟨AD_G (a1 := gX (AD δ g0 P U s l w) 1) (k := gX (AD δ g0 P U s l w) 2) (p := gX (AD δ g0 P U s l w) 3) hG, AD_5 (a1 := 0) (k := 0) (p := 0) hG, AD_6 (a1 := 0) (k := 0) (p := 0) hG⟩, fun i hi => ?_⟩
  obtain ⟨q, a1, a2, ⟨a3, a4, a5⟩, a6⟩ := h5 i hi
  have n1 := ag_ne_a5 a3 h2.2.1
  have n2 := ag_ne_a5 a3 h2.2.2
  have n3 := ag_ne_a5 h2.1 a4
  have n4 := ag_ne_a5 h2.1 a5
  have p0 : PE δ (AD δ g0 P U s l w) q := ⟨a3.1, AD_n (by omega) (by omega) (by omega)⟩
  have p1 : PE δ (AD δ g0 P U s l w) (q + 1) := ⟨a4.1, AD_n (by omega) (by omega) (by omega)⟩
  have p2 : PE δ (AD δ g0 P U s l w) (q + 2) := ⟨a5.1, AD_n (by omega) (by omega) (by omega)⟩
  refine ⟨q, a1, a2, ⟨p0.isAg a3, p1.isA5 a4, p2.isA5 a5⟩, NA.pe p0 p1 p2 ?_⟩
  rw [hc] at hi
  obtain ⟨b1, b2, b3, b4, b5, b6, b7, b8⟩ := a6
  have c5 : (C24 i).toNatClampNeg ≤ 5 := by
    have t1 := ti_nonneg (Int32.le_trans (by decide : (0 : Int32) ≤ 1) b2.1)
    have t2 := Int32.le_iff_toInt_le.mp b2.2
    have z5 : (5 : Int32).toInt = 5 := rfl
    rw [ti_N]
    omega
  refine ⟨b1, b2, b3, b4, b5, fun k hk => ?_, fun k hk => ?_, fun k hk => ?_⟩
  · rw [hB _ (by omega)]; exact b6 k hk
  · rw [hB _ (by omega)]; exact b7 k hk
  · rw [hB _ (by omega), hB _ (by omega)]; exact b8 k hk
theorem M5.add {X Y : Int32} {C24' C25' C26' : Nat → Int32} {g1 c : Nat} (h : M5 x17 y13 C23 C24 C25 C26 G g0 δ) (hc : x17.toNatClampNeg = c) (hc2 : c < 12) (hX : X = nI (c + 1)) (hY : Y = nI (c + 1)) (hN : NA δ g0 c C23 C24' C25' C26') (hB : ∀ j, j < c → C24' j = C24 j ∧ C25' j = C25 j ∧ C26' j = C26 j) (x : EX δ δ') (hf : ∀ q, isd δ q → q ≠ g1) (hg : isG δ' g1) : M5 X Y C23 C24' C25' C26' (va_up G c (some g0)) g1 δ' := by
  obtain ⟨h1, h2, h5⟩ := h
  have e1 : X.toNatClampNeg = c + 1 := by rw [hX, nI_clamp (by omega)]
  refine ⟨⟨by rw [hX, hY], by rw [hX]; exact nI_pos' (by omega), by rw [hX]; exact nI_le (b := 12) (by omega) (by decide)⟩, hg, fun i hi => ?_⟩
  rw [e1] at hi
  by_cases ei : i = c
  · subst ei
    exact ⟨g0, va_upg _ _ _, hf _ h2.1.1, ⟨x.isAg h2.1, x.isA5 h2.2.1, x.isA5 h2.2.2⟩, NA.pe (x _ h2.1.1) (x _ h2.2.1.1) (x _ h2.2.2.1) hN⟩
  · obtain ⟨q, a1, a2, ⟨a3, a4, a5⟩, a6⟩ := h5 i (by omega)
    obtain ⟨b1, b2, b3⟩ := hB i (by omega)
    refine ⟨q, by rw [va_upn _ _ ei]; exact a1, hf _ a3.1, ⟨x.isAg a3, x.isA5 a4, x.isA5 a5⟩, NA.pe (x _ a3.1) (x _ a4.1) (x _ a5.1) ?_⟩
    unfold NA at a6 ⊢
    rw [b1, b2, b3]
    exact a6
end
theorem R8.up {D : Nat → va_E} {q : Nat} {c : va_E} (h : ∀ q, xs1 (D q) ≤ 7) (hc : xs1 c ≤ 7) : ∀ q', xs1 (va_up D q c q') ≤ 7 := by
  intro q'
  unfold va_up
  by_cases e : q' = q
  · rw [if_pos e]
    exact hc
  · rw [if_neg e]
    exact h q'
theorem x5A {q : Nat} {s l w : Int32} : xs1 (mkA q s l w) ≤ 7 := (by decide : 5 ≤ 7)
theorem x55 {P : Nat → Int32} : xs1 (mk5 P) ≤ 7 := (by decide : 5 ≤ 7)
def D3 (D : Nat → va_E) (g : Nat) : Nat → va_E := va_up (va_up (va_up D (185 + g) (mkA (185 + g) 0 0 0)) (185 + (g + 1)) (zI 5)) (185 + (g + 1 + 1)) (zI 5)
theorem isG_new (D : Nat → va_E) (g : Nat) : isG (dst (D3 D g) (g + 1 + 1 + 1)) (185 + g) := by
  have e0 : D3 D g (185 + g) = mkA (185 + g) 0 0 0 := by
    unfold D3
    rw [va_upn _ _ (by omega), va_upn _ _ (by omega), va_upg]
  have e1 : D3 D g (185 + g + 1) = zI 5 := by
    unfold D3
    rw [va_upn _ _ (by omega), show 185 + g + 1 = 185 + (g + 1) from rfl, va_upg]
  have e2 : D3 D g (185 + g + 2) = zI 5 := by
    unfold D3
    rw [show 185 + g + 2 = 185 + (g + 1 + 1) from rfl, va_upg]
  have d : ∀ q, 185 ≤ q → q < 185 + (g + 1 + 1 + 1) → isd (dst (D3 D g) (g + 1 + 1 + 1)) q := fun q h1 h2 => Or.inr (Or.inr (Or.inr (Or.inr ⟨h1, h2⟩)))
  refine ⟨⟨d _ (by omega) (by omega), ?_⟩, ⟨d _ (by omega) (by omega), ?_⟩, ⟨d _ (by omega) (by omega), ?_⟩⟩
  · unfold fI
    rw [show gD (dst (D3 D g) (g + 1 + 1 + 1)) (185 + g) = mkA (185 + g) 0 0 0 from e0]
    rfl
  · unfold fA
    rw [show gD (dst (D3 D g) (g + 1 + 1 + 1)) (185 + g + 1) = zI 5 from e1]
  · unfold fA
    rw [show gD (dst (D3 D g) (g + 1 + 1 + 1)) (185 + g + 2) = zI 5 from e2]
theorem K_Ag_init {S : XS} {τ : St} {Q : St → Prop} {a : Nat} (ha : a = 185 + gn τ) (H : Q (sM (sM (sM τ (mkA a 0 0 0)) (zI 5)) (zI 5))) : CM S m_Ag_init [.ref a] (enc (sM τ (.inr (0, [.null, .null, .int 0, .int 0, .int 0])))) (qV Q) := by
  subst ha
  refine ⟨none, _, ⟨_, rfl, rfl, H⟩, ?_⟩
  have a := A_Ag_init (S := S) (enc_len τ)
  rw [← esm τ, ← esm, ← esm, ← esm τ]
  rw [List.append_assoc, List.append_assoc]
  exact a
section
variable {σ : St} {q : Nat} {P U : Nat → Int32} {s l w b k p v : Int32}
theorem AD_4 : stI (sX (uC (AD σ q P U s l w) b k p) 0 0) q 4 v = sX (uC (AD σ q P U s l v) b k p) 0 0 := by
  unfold stI
  rw [show gD (sX (uC (AD σ q P U s l w) b k p) 0 0) q = mkA q s l w from AD_0]
  show sX (sD (uC (AD σ q P U s l w) b k p) q (mkA q s l v)) 0 0 = sX (uC (AD σ q P U s l v) b k p) 0 0
  rw [sD_uC, AD_s0]
theorem AD_g (h : isG σ q) : isAg (sX (uC (AD σ q P U s l w) b k p) 0 0) q := AD_G (a1 := b) (k := k) (p := p) h
end
theorem AD_dst (σ : St) (q : Nat) (P U : Nat → Int32) (s l w : Int32) : dst (gD (AD σ q P U s l w)) (gn (AD σ q P U s l w)) = AD (dst (gD σ) (gn σ)) q P U s l w := rfl
theorem eg3 (σ : St) (q : Nat) (P U : Nat → Int32) (s l w b k p : Int32) {G : Nat → Option Nat} : 185 + gn (sG (sX (uC (AD σ q P U s l w) b k p) 0 0) G) = 185 + gn σ := rfl
set_option maxHeartbeats 2000000 in
theorem op_agree {S : XS} {n : Nat} {σ : St} (h : RR n σ) (x : Int32) : OPI S n σ m_TH_agree m_Md_agree [.int x] := by
  obtain ⟨r0, r1, r2, r3, r4, r5, r6, r7, r8⟩ := h
  unfold OPI
  obtain ⟨c, hc, e1, e2, e3⟩ := r5.cnt
  obtain ⟨t1, t2, t3, -, -, t6⟩ := id r0
  obtain ⟨z, hz, ez, -⟩ := nI_ex (x := gX σ 0) (n := 201) (ti_nonneg t3.1) (by have := Int32.le_iff_toInt_le.mp t3.2; have z2 : (200 : Int32).toInt = 200 := rfl; omega)
  have hG : isG σ (gg σ) := r5.2.1
  have hG2 : isG (dst (gD σ) (gn σ)) (gg σ) := r5.2.1
  have hT : TCo σ (gA σ 0) z := ⟨rfl, ez, by omega⟩
  have P4 : ∀ {P U : Nat → Int32} {s l w : Int32}, ∀ q, isFa (dst (gD σ) (gn σ)) q → PE (dst (gD σ) (gn σ)) (AD (dst (gD σ) (gn σ)) (gg σ) P U s l w) q := by
    intro P U s l w q hq
    have n0 := fa_ne_ag hq hG2.1
    have n1 := fa_ne_a5 hq hG2.2.1
    have n2 := fa_ne_a5 hq hG2.2.2
    exact ⟨hq.1, AD_n (by omega) (by omega) (by omega)⟩
  refine C_TH_agree _ _ (B_TH_agree_0 _ _ (C_As_readDraft _ (B_As_readDraft_0 _ ⟨hG.1, ?_⟩)))
  rcases agP_cases (gA σ 0) z 5 0 0 0 (fA σ (gg σ + 1)) (fA σ (gg σ + 2)) rfl ⟨fun j hj => absurd hj (by omega), fun j hj => absurd hj (by omega), by decide, fun j hj => absurd hj (by omega)⟩ with ⟨k, p, hk, u⟩ | ⟨P, U, m, l, hJ, u⟩
  · refine K_agC hG hT (u _ _ (fun b P U s l => ?_))
    refine K_fd1 hk (bq_fn (by decide) (C_Tp_discard _ (B_Tp_discard_0 _ (bq_tn rfl ?_))))
    refine K_agM (τ := sX (uC (AD σ (gg σ) P U s l (fI σ (gg σ) 4)) b k p) 0 0) (f := gA σ 0) (z := z) (c := c) ⟨t1.symm, t2.symm.trans ez, by omega⟩ t6 e2 hc (u _ _ (fun b' C hB => ?_))
    refine ⟨rfl, ⟨t1, rfl, z200, rfl, rfl, t6⟩, r1, r2, r3, M4.gen r4 P4, M5.draft (δ := dst (gD σ) (gn σ)) r5 e3 hB, r6.succ, r7, by have := r8.1; exact Nat.le_trans this (by omega), R8.up (R8.up (R8.up r8.2 x5A) x55) x55⟩
  · refine K_agC hG hT (u _ _ (fun b => ?_))
    refine K_fd0 (bq_tn rfl (C_Tp_discard _ (B_Tp_discard_0 _ (bq_fn (by decide) ?_))))
    have FM : ∀ {τ : St} {Q : Int32 → St → Prop}, gC τ = gC σ → gY τ = gY σ → (∀ b C, (∀ j, j < 10 * c → C j = gC σ 23 j) → (∀ j, j < m → C (10 * c + 2 * j) = P j) → (∀ j, j + 1 < m → C (10 * c + 2 * j + 1) = U j) → aE Q c x m l (sC (bgM τ) 23 C) b) → CM S m_Md_agree [.ref 153, .int x] (enc τ) (qI Q) := by
      intro τ Q g1 g2 H
      refine K_agM (f := gA σ 0) (z := z) (c := c) ⟨by show gC τ 0 = _; rw [g1]; exact t1.symm, by show gY τ 0 = _; rw [g2]; exact t2.symm.trans ez, by omega⟩ t6 (by rw [g2]; exact e2) hc (u _ _ (fun b C hB hP hU => H b C ?_ hP hU))
      rw [g1] at hB
      exact hB
    have RF : ∀ {b b' : Int32} {C : Nat → Int32}, (∀ j, j < 10 * c → C j = gC σ 23 j) → RR (n + 1) (uM (sC (bgM (sX (uC (AD σ (gg σ) P U (nI m) l (fI σ (gg σ) 4)) b 0 (-1)) 0 0)) 23 C) b' 0 (-1)) := by
      intro b b' C hB
      refine ⟨⟨t1, rfl, z200, rfl, rfl, t6⟩, r1, r2, r3, M4.gen r4 P4, M5.draft (δ := dst (gD σ) (gn σ)) r5 e3 hB, r6.succ, r7, by have := r8.1; exact Nat.le_trans this (by omega), R8.up (R8.up (R8.up r8.2 x5A) x55) x55⟩
    by_cases hP : 0 ≤ x ∧ x < 24
    · refine K_isPartT hP (bq_fn (by decide) (C_As_addDraft _ _ (B_As_addDraft_0 _ _ ?_)))
      have ef : ∀ w, gg (sX (uC (AD σ (gg σ) P U (nI m) l w) b 0 (-1)) 0 0) = gg σ := fun _ => rfl
      have ex : ∀ w, gX (sX (uC (AD σ (gg σ) P U (nI m) l w) b 0 (-1)) 0 0) 17 = nI c := fun _ => e1
      have eF : ∀ w, gG (sX (uC (AD σ (gg σ) P U (nI m) l w) b 0 (-1)) 0 0) = gG σ := fun _ => rfl
      have en : ∀ w, gn (sX (uC (AD σ (gg σ) P U (nI m) l w) b 0 (-1)) 0 0) = gn σ := fun _ => rfl
      rw [ef, ex, eF, en, AD_4, nI_clamp (by omega)]
      by_cases hc6 : c < 12
      · refine bq_t (nI_lt (b := 12) hc6 (by decide)) ⟨AD_g hG, AD_g hG, vp_in_nI hc6 (by decide), ?_⟩
        refine K_Ag_init (eg3 _ _ _ _ _ _ _ _ _ _).symm ?_
        refine FM rfl rfl (fun b' C hB hC hC2 => ⟨fun _ _ => ⟨congrArg (fun t => t + 1 - 1) e1, ?_⟩, fun w => absurd ⟨hP, hc6⟩ w⟩)
        obtain ⟨⟨j1, j2⟩, j3, j4, j5, j6⟩ := hJ
        have cm : (nI m).toNatClampNeg = m := nI_clamp (by omega)
        have X1 := EX_new (gD (AD σ (gg σ) P U (nI m) l x)) (gn σ) (mkA (185 + gn σ) 0 0 0)
        have X2 := EX_new (va_up (gD (AD σ (gg σ) P U (nI m) l x)) (185 + gn σ) (mkA (185 + gn σ) 0 0 0)) (gn σ + 1) (zI 5)
        have X3 := EX_new (va_up (va_up (gD (AD σ (gg σ) P U (nI m) l x)) (185 + gn σ) (mkA (185 + gn σ) 0 0 0)) (185 + (gn σ + 1)) (zI 5)) (gn σ + 1 + 1) (zI 5)
        have X : EX (AD (dst (gD σ) (gn σ)) (gg σ) P U (nI m) l x) (dst (D3 (gD (AD σ (gg σ) P U (nI m) l x)) (gn σ)) (gn σ + 1 + 1 + 1)) := (X1.trans X2).trans X3
        refine ⟨⟨t1, rfl, z200, rfl, rfl, t6⟩, r1, r2, r3, ?_, ?_, r6.succ, r7, by have := r8.1; exact (by show gn σ + 1 + 1 + 1 ≤ 3 * (n + 1); omega), R8.up (R8.up (R8.up (R8.up (R8.up (R8.up r8.2 x5A) x55) x55) x5A) x55) x55⟩
        · exact M4.gen (M4.gen r4 (P4 (P := P) (U := U) (s := nI m) (l := l) (w := x))) (fun q hq => X q hq.1)
        · have q5 := M5.draft (δ := dst (gD σ) (gn σ)) (P := P) (U := U) (s := nI m) (l := l) (w := x) r5 e3 hB
          have hN : NA (AD (dst (gD σ) (gn σ)) (gg σ) P U (nI m) l x) (gg σ) c C (upd (gC σ 24) c (nI m)) (upd (gC σ 25) c l) (upd (gC σ 26) c x) := by
            have f2 : fI (AD (dst (gD σ) (gn σ)) (gg σ) P U (nI m) l x) (gg σ) 2 = nI m := by unfold fI; rw [AD_0]; rfl
            have f3 : fI (AD (dst (gD σ) (gn σ)) (gg σ) P U (nI m) l x) (gg σ) 3 = l := by unfold fI; rw [AD_0]; rfl
            have f4 : fI (AD (dst (gD σ) (gn σ)) (gg σ) P U (nI m) l x) (gg σ) 4 = x := by unfold fI; rw [AD_0]; rfl
            have f5 : fA (AD (dst (gD σ) (gn σ)) (gg σ) P U (nI m) l x) (gg σ + 1) = P := by unfold fA; rw [AD_1]
            have f6 : fA (AD (dst (gD σ) (gn σ)) (gg σ) P U (nI m) l x) (gg σ + 2) = U := by unfold fA; rw [AD_2]
            unfold NA
            rw [f2, f3, f4, f5, f6, upd_at, upd_at, upd_at, cm]
            refine ⟨rfl, ⟨nI_le (a := 1) j1 (by omega), nI_le (b := 5) j2 (by decide)⟩, rfl, j3, rfl, fun k hk => ?_, fun k hk => ?_, fun k hk => ?_⟩
            · rw [hC k hk]; exact ⟨rfl, j4 k hk⟩
            · rw [hC2 k hk]; exact ⟨rfl, j5 k hk⟩
            · rw [hC2 k (by omega), show 10 * c + 2 * k + 3 = 10 * c + 2 * (k + 1) + 1 by omega, hC2 (k + 1) (by omega)]; exact j6 k hk
          refine M5.add (δ := AD (dst (gD σ) (gn σ)) (gg σ) P U (nI m) l x) (g1 := 185 + gn σ) q5 e3 hc6 (by show gX σ 17 + 1 = _; rw [e1, nI_1]) (nI_1 c) hN ?_ X (fun q hq => isd_ne (D := gD σ) hq) (isG_new _ _)
          · intro j hj
            refine ⟨?_, ?_, ?_⟩ <;> exact upd_ne _ _ (by omega)
      · have hc6 : c = 12 := by omega
        refine bq_f (by rw [hc6]; decide) (FM rfl rfl (fun b' C hB hC hC2 => ⟨fun _ w => absurd w (by omega), fun _ => ⟨rfl, RF hB⟩⟩))
    · exact K_isPartF hP (bq_tn rfl (FM rfl rfl (fun b' C hB hC hC2 => ⟨fun w => absurd w hP, fun _ => ⟨rfl, RF hB⟩⟩)))
