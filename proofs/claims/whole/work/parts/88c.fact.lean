/-! THE OPERATION fact. -/
theorem NN_c {v : Int64} {g g' : Nat → Int32} {s : Int32} (h : NN v g s) (e : ∀ k, k < 10 → g k = g' k) : NN v g' s := by
  obtain ⟨b1, b2, -⟩ := h.b
  obtain ⟨h1, h2, h3⟩ := h
  refine ⟨?_, h2, fun k hk => ?_⟩
  · rw [h1]
    exact nmN_eq _ (fun i hi => e i (by omega))
  · rw [← e k (by omega)]
    exact h3 k hk
def EX (δ δ' : St) : Prop := ∀ q, isd δ q → isd δ' q ∧ gD δ' q = gD δ q
section
variable {δ δ' : St} {q : Nat}
theorem EX.eI (h : EX δ δ') (hq : isd δ q) (k : Nat) : fI δ' q k = fI δ q k := by unfold fI; rw [(h q hq).2]
theorem EX.eL (h : EX δ δ') (hq : isd δ q) (k : Nat) : fL δ' q k = fL δ q k := by unfold fL; rw [(h q hq).2]
theorem EX.eA (h : EX δ δ') (hq : isd δ q) : fA δ' q = fA δ q := by unfold fA; rw [(h q hq).2]
theorem EX.isFa (h : EX δ δ') (a : isFa δ q) : isFa δ' q := by
  refine ⟨(h q a.1).1, ?_⟩
  rw [(h q a.1).2, h.eL a.1, h.eL a.1, h.eI a.1, h.eI a.1, h.eI a.1, h.eI a.1, h.eI a.1]
  exact a.2
theorem EX.isAg (h : EX δ δ') (a : isAg δ q) : isAg δ' q := by
  refine ⟨(h q a.1).1, ?_⟩
  rw [(h q a.1).2, h.eI a.1, h.eI a.1, h.eI a.1]
  exact a.2
theorem EX.isA5 (h : EX δ δ') (a : isA5 δ q) : isA5 δ' q := by
  refine ⟨(h q a.1).1, ?_⟩
  rw [(h q a.1).2, h.eA a.1]
  exact a.2
end
theorem EX_new (D : Nat → va_E) (g : Nat) (c : va_E) : EX (dst D g) (dst (va_up D (185 + g) c) (g + 1)) := by
  intro q hq
  have hq : q = 138 ∨ q = 141 ∨ q = 142 ∨ q = 143 ∨ (185 ≤ q ∧ q < 185 + g) := hq
  refine ⟨?_, va_upn _ _ (by omega)⟩
  show q = 138 ∨ q = 141 ∨ q = 142 ∨ q = 143 ∨ (185 ≤ q ∧ q < 185 + (g + 1))
  omega
theorem isd_ne {D : Nat → va_E} {g q : Nat} (h : isd (dst D g) q) : q ≠ 185 + g := by
  have h : q = 138 ∨ q = 141 ∨ q = 142 ∨ q = 143 ∨ (185 ≤ q ∧ q < 185 + g) := h
  omega
theorem M5.ex {x17 y13 : Int32} {C23 C24 C25 C26 : Nat → Int32} {G : Nat → Option Nat} {g0 : Nat} {δ δ' : St} (h : M5 x17 y13 C23 C24 C25 C26 G g0 δ) (x : EX δ δ') : M5 x17 y13 C23 C24 C25 C26 G g0 δ' := by
  obtain ⟨h1, ⟨h2, h3, h4⟩, h5⟩ := h
  refine ⟨h1, ⟨x.isAg h2, x.isA5 h3, x.isA5 h4⟩, fun i hi => ?_⟩
  obtain ⟨q', a1, a2, ⟨a3, a4, a5⟩, b1, b2, b3, b4, b5, b6, b7, b8⟩ := h5 i hi
  refine ⟨q', a1, a2, ⟨x.isAg a3, x.isA5 a4, x.isA5 a5⟩, ?_, b2, ?_, b4, ?_, fun k hk => ?_, fun k hk => ?_, b8⟩
  · rw [x.eI a3.1]; exact b1
  · rw [x.eI a3.1]; exact b3
  · rw [x.eI a3.1]; exact b5
  · rw [x.eA a4.1]; exact b6 k hk
  · rw [x.eA a5.1]; exact b7 k hk
section
variable {x15 x16 y11 y12 : Int32} {A11 A12 C14 C15 C16 C17 C18 C19 C20 C22 C14' C15' C16' C17' : Nat → Int32} {F : Nat → Option Nat} {f0 : Nat} {δ : St}
theorem M4.draft (h : M4 x15 x16 y11 y12 A11 A12 C14 C15 C16 C17 C18 C19 C20 C22 F f0 δ) {c : Nat} (hc : x15.toNatClampNeg = c) (hB : (∀ j, j < 20 * c → C14' j = C14 j) ∧ (∀ j, j < 2 * c → C15' j = C15 j) ∧ (∀ j, j < c → C16' j = C16 j) ∧ (∀ j, j < c → C17' j = C17 j)) {d0 d2 : Int64} {d1 d3 d4 d5 d6 : Int32} (h6 : d6 = -1) : M4 x15 x16 y11 y12 A11 A12 C14' C15' C16' C17' C18 C19 C20 C22 F f0 (sD δ f0 (mkF d0 d1 d2 d3 d4 d5 d6)) := by
  subst h6
  obtain ⟨h1, h2, h3, ⟨h4, h4b⟩, h5, h6⟩ := h
  refine ⟨h1, h2, h3, ⟨mk_isFa h4.1, mk_fI6⟩, fun i hi => ?_, h6⟩
  obtain ⟨q, e1, e2, e3, e4⟩ := h5 i hi
  rw [hc] at hi
  refine ⟨q, e1, e2, isFa_ne e2 e3, ?_⟩
  unfold NF at e4 ⊢
  rw [fL_ne e2, fI_ne e2, fL_ne e2, fI_ne e2, fI_ne e2, fI_ne e2, fI_ne e2, hB.2.1 (2 * i) (by omega), hB.2.1 (2 * i + 1) (by omega), hB.2.2.1 i hi, hB.2.2.2 i hi]
  obtain ⟨g1, g2, g3, g4, g5, g6⟩ := e4
  exact ⟨NN_c g1 (fun k hk => (hB.1 _ (by omega)).symm), g2, g3, fun e => NN_c (g4 e) (fun k hk => (hB.1 _ (by omega)).symm), g5, g6⟩
theorem M4.add {X Y : Int32} {C18' C19' C20' : Nat → Int32} {δ' : St} {f1 c : Nat} (h : M4 x15 x16 y11 y12 A11 A12 C14 C15 C16 C17 C18 C19 C20 C22 F f0 δ) (hc : x15.toNatClampNeg = c) (hc2 : c < 60) (hX : X = nI (c + 1)) (hY : Y = nI (c + 1)) (hN : NF δ f0 c C14 C15 C16 C17 C18' C19' C20') (hB : ∀ j, j < c → C18' j = C18 j ∧ C19' j = C19 j ∧ C20' j = C20 j) (x : EX δ δ') (hf : ∀ q, isd δ q → q ≠ f1) (h1 : isFa δ' f1 ∧ fI δ' f1 6 = -1) : M4 X x16 Y y12 A11 A12 C14 C15 C16 C17 C18' C19' C20' C22 (va_up F c (some f0)) f1 δ' := by
  obtain ⟨-, h2, h3, ⟨h4, h4b⟩, h5, h6⟩ := h
  have e1 : X.toNatClampNeg = c + 1 := by rw [hX, nI_clamp (by omega)]
  have T : ∀ q i, isd δ q → NF δ q i C14 C15 C16 C17 C18' C19' C20' → NF δ' q i C14 C15 C16 C17 C18' C19' C20' := by
    intro q i hq hh
    unfold NF at hh ⊢
    rw [x.eL hq, x.eL hq, x.eI hq, x.eI hq, x.eI hq, x.eI hq, x.eI hq]
    exact hh
  refine ⟨⟨by rw [hX, hY], by rw [hX]; exact nI_pos' (by omega), by rw [hX]; exact nI_le (b := 60) (by omega) (by decide)⟩, h2, h3, h1, fun i hi => ?_, fun i j q hi hj hq1 hq2 => ?_⟩
  · rw [e1] at hi
    by_cases ei : i = c
    · subst ei
      exact ⟨f0, va_upg _ _ _, hf _ h4.1, x.isFa h4, T _ _ h4.1 hN⟩
    · obtain ⟨q, a1, a2, a3, a4⟩ := h5 i (by omega)
      obtain ⟨b1, b2, b3⟩ := hB i (by omega)
      refine ⟨q, by rw [va_upn _ _ ei]; exact a1, hf _ a3.1, x.isFa a3, T _ _ a3.1 ?_⟩
      unfold NF at a4 ⊢
      rw [b1, b2, b3]
      exact a4
  · rw [e1] at hi hj
    by_cases ei : i = c
    · by_cases ej : j = c
      · rw [ei, ej]
      · rw [ei, va_upg] at hq1
        rw [va_upn _ _ ej] at hq2
        obtain ⟨q', a1, a2, -⟩ := h5 j (by omega)
        exact absurd (Option.some.inj (a1.symm.trans (hq2.trans hq1.symm))) a2
    · rw [va_upn _ _ ei] at hq1
      by_cases ej : j = c
      · rw [ej, va_upg] at hq2
        obtain ⟨q', a1, a2, -⟩ := h5 i (by omega)
        exact absurd (Option.some.inj (a1.symm.trans (hq1.trans hq2.symm))) a2
      · rw [va_upn _ _ ej] at hq2
        exact h6 i j q (by omega) (by omega) hq1 hq2
end
section
variable {σ τ : St} {q : Nat} {a0 a2 : Int64} {a1 a3 a4 a5 a6 b k p w : Int32}
theorem Dn_4 (v : Int32) : stI (sX (uC (sD σ q (mkF a0 a1 a2 a3 a4 a5 a6)) b k p) 0 w) q 4 v = sX (uC (sD σ q (mkF a0 a1 a2 a3 v a5 a6)) b k p) 0 w := by
  unfold stI
  rw [show gD (sX (uC (sD σ q (mkF a0 a1 a2 a3 a4 a5 a6)) b k p) 0 w) q = mkF a0 a1 a2 a3 a4 a5 a6 from sD_at σ q _]
  show sX (sD (uC (sD σ q (mkF a0 a1 a2 a3 a4 a5 a6)) b k p) q (mkF a0 a1 a2 a3 v a5 a6)) 0 w = sX (uC (sD σ q (mkF a0 a1 a2 a3 v a5 a6)) b k p) 0 w
  rw [sD_uC, sD_2]
theorem Dn_5 (v : Int32) : stI (sX (uC (sD σ q (mkF a0 a1 a2 a3 a4 a5 a6)) b k p) 0 w) q 5 v = sX (uC (sD σ q (mkF a0 a1 a2 a3 a4 v a6)) b k p) 0 w := by
  unfold stI
  rw [show gD (sX (uC (sD σ q (mkF a0 a1 a2 a3 a4 a5 a6)) b k p) 0 w) q = mkF a0 a1 a2 a3 a4 a5 a6 from sD_at σ q _]
  show sX (sD (uC (sD σ q (mkF a0 a1 a2 a3 a4 a5 a6)) b k p) q (mkF a0 a1 a2 a3 a4 v a6)) 0 w = sX (uC (sD σ q (mkF a0 a1 a2 a3 a4 v a6)) b k p) 0 w
  rw [sD_uC, sD_2]
theorem Dn_F (h : isd σ q) : isFa (sX (uC (sD σ q (mkF a0 a1 a2 a3 a4 a5 a6)) b k p) 0 w) q := mk_isFa h
theorem sM_at (c : va_E) : gD (sM τ c) (185 + gn τ) = c := va_upg _ _ _
theorem sM_F : isFa (sM τ (mkF a0 a1 a2 a3 a4 a5 a6)) (185 + gn τ) := by
  refine ⟨Or.inr (Or.inr (Or.inr (Or.inr ⟨Nat.le_add_right _ _, ?_⟩))), ?_⟩
  · show 185 + gn τ < 185 + (gn τ + 1)
    omega
  · unfold fL fI
    rw [sM_at]
    rfl
theorem sD_sM (c c' : va_E) : sD (sM τ c) (185 + gn τ) c' = sM τ c' := by
  show ((τ.1.1, τ.1.2.1, τ.1.2.2.1, τ.1.2.2.2.1, τ.1.2.2.2.2.1, τ.1.2.2.2.2.2.1, τ.1.2.2.2.2.2.2.1, τ.1.2.2.2.2.2.2.2.1, τ.1.2.2.2.2.2.2.2.2.1, va_up (va_up τ.1.2.2.2.2.2.2.2.2.2.1 (185 + gn τ) c) (185 + gn τ) c', gn τ + 1), τ.2) = sM τ c'
  rw [va_up2]
  rfl
theorem sM_6 (v : Int32) : stI (sM τ (mkF a0 a1 a2 a3 a4 a5 a6)) (185 + gn τ) 6 v = sM τ (mkF a0 a1 a2 a3 a4 a5 v) := by
  unfold stI
  rw [sM_at]
  show sD (sM τ (mkF a0 a1 a2 a3 a4 a5 a6)) (185 + gn τ) (mkF a0 a1 a2 a3 a4 a5 v) = sM τ (mkF a0 a1 a2 a3 a4 a5 v)
  rw [sD_sM]
end
theorem mk_fI6' (τ : St) (v : Int32) {a0 a2 : Int64} {a1 a3 a4 a5 : Int32} : fI (sM τ (mkF a0 a1 a2 a3 a4 a5 v)) (185 + gn τ) 6 = v := by
  unfold fI
  rw [sM_at]
  rfl
theorem HE_b {σ : St} (h3 : R3 σ) {p e : Int32} (h : HE (gA σ 9) p e) : (0 ≤ p ∧ p < 24) ∧ (0 ≤ e ∧ e ≤ 3) ∧ True := by
  have b := h3.2.1 p.toNatClampNeg (vp_lt (vp_24 h.1.1 h.1.2))
  exact ⟨h.1, ⟨h.2.1, Int32.le_trans h.2.2 b.2⟩, trivial⟩
theorem z200 : (0 : Int32) ≤ 0 ∧ (0 : Int32) ≤ 200 := by decide
set_option maxHeartbeats 2000000 in
theorem op_fact {S : XS} {n : Nat} {σ : St} (h : RR n σ) (x : Int32) (y : Int32) : OPI S n σ m_TH_fact m_Md_fact [.int x, .int y] := by
  obtain ⟨r0, r1, r2, r3, r4, r5, r6, r7, r8⟩ := h
  unfold OPI
  obtain ⟨c, hc, e1, e2, e3⟩ := r4.cnt
  obtain ⟨t1, t2, t3, -, -, t6⟩ := id r0
  obtain ⟨z, hz, ez, -⟩ := nI_ex (x := gX σ 0) (n := 201) (ti_nonneg t3.1) (by have := Int32.le_iff_toInt_le.mp t3.2; have z2 : (200 : Int32).toInt = 200 := rfl; omega)
  have hF : isFa σ (gf σ) := r4.2.2.2.1.1
  have h6 : fI σ (gf σ) 6 = -1 := r4.2.2.2.1.2
  have hT : TCo σ (gA σ 0) z := ⟨rfl, ez, by omega⟩
  have a9 := r3.1
  have hq5 : isFa (dst (gD σ) (gn σ)) (gf σ) := hF
  refine C_TH_fact _ _ _ (B_TH_fact_0 _ _ _ (C_Fs_readDraft _ (B_Fs_readDraft_0 _ ⟨hF, ?_⟩)))
  rcases fp_cases (gA σ 0) z with ⟨k, p, hk, u⟩ | ⟨K, p1, n1, p2, n2, d, hK, m1, m2, u⟩
  · refine K_factC hF hT (u _ _ (fun b d0 d1 d2 d3 => ?_))
    refine K_fd1 hk (bq_fn (by decide) (C_Tp_discard _ (B_Tp_discard_0 _ (bq_tn rfl ?_))))
    refine K_factM (τ := sX (uC (Dm σ (gf σ) d0 d1 d2 d3) b k p) 0 0) (f := gA σ 0) (z := z) (c := c) ⟨t1.symm, t2.symm.trans ez, by omega⟩ t6 e2 hc (u _ _ (fun b' c14 c15 c16 c17 hB => ?_))
    refine ⟨rfl, ⟨t1, rfl, z200, rfl, rfl, t6⟩, r1, r2, r3, ?_, ?_, r6.succ, r7, by have := r8.1; exact Nat.le_trans this (by omega), R8.fa (n := n) r8.2⟩
    · exact M4.draft (δ := dst (gD σ) (gn σ)) r4 e3 hB h6
    · exact M5.fa (δ := dst (gD σ) (gn σ)) r5 hq5 _
  · refine K_factC hF hT (u _ _ (fun b => ?_))
    refine K_fd0 (bq_tn rfl (C_Tp_discard _ (B_Tp_discard_0 _ (bq_fn (by decide) ?_))))
    have FM : ∀ {τ : St} {Q : Int32 → St → Prop}, gC τ = gC σ → gY τ = gY σ → (∀ b c14 c15 c16 c17, BL σ c c14 c15 c16 c17 → GP c (gA σ 0) K p1 n1 p2 n2 d c14 c15 c16 c17 → fE Q c x y (sC4 (bgM τ) c14 c15 c16 c17) b) → CM S m_Md_fact [.ref 153, .int x, .int y] (enc τ) (qI Q) := by
      intro τ Q g1 g2 H
      refine K_factM (f := gA σ 0) (z := z) (c := c) ⟨by show gC τ 0 = _; rw [g1]; exact t1.symm, by show gY τ 0 = _; rw [g2]; exact t2.symm.trans ez, by omega⟩ t6 (by rw [g2]; exact e2) hc (u _ _ (fun b c14 c15 c16 c17 hB hG => H b c14 c15 c16 c17 ?_ hG))
      unfold BL at hB ⊢
      rw [g1] at hB
      exact hB
    have RF : ∀ {b b' : Int32} {c14 c15 c16 c17 : Nat → Int32}, BL σ c c14 c15 c16 c17 → RR (n + 1) (uM (sC4 (bgM (sX (uC (Dm σ (gf σ) (nm (fun i => gA σ 0 (p1 + i)) n1) K (nm (fun i => gA σ 0 (p2 + i)) n2) d) b 0 (-1)) 0 0)) c14 c15 c16 c17) b' 0 (-1)) := by
      intro b b' c14 c15 c16 c17 hB
      refine ⟨⟨t1, rfl, z200, rfl, rfl, t6⟩, r1, r2, r3, ?_, ?_, r6.succ, r7, by have := r8.1; exact Nat.le_trans this (by omega), R8.fa (n := n) r8.2⟩
      · exact M4.draft (δ := dst (gD σ) (gn σ)) r4 e3 hB h6
      · exact M5.fa (δ := dst (gD σ) (gn σ)) r5 hq5 _
    by_cases hE : HE (gA σ 9) x y
    · have hE2 : HE (gC σ 21) x y := by rw [← a9]; exact hE
      refine K_haveT (σ := sX (uC (Dm σ (gf σ) (nm (fun i => gA σ 0 (p1 + i)) n1) K (nm (fun i => gA σ 0 (p2 + i)) n2) d) b 0 (-1)) 0 0) hE (bq_fn (by decide) (C_Fs_addDraft _ _ _ (B_Fs_addDraft_0 _ _ _ ?_)))
      generalize hd0 : nm (fun i => gA σ 0 (p1 + i)) n1 = D0 at RF ⊢
      generalize hd2 : nm (fun i => gA σ 0 (p2 + i)) n2 = D2 at RF ⊢
      unfold Dm at RF ⊢
      have ef : ∀ c, gf (sX (uC (sD σ (gf σ) c) b 0 (-1)) 0 0) = gf σ := fun _ => rfl
      have ex : ∀ v, gX (sX (uC (sD σ (gf σ) v) b 0 (-1)) 0 0) 15 = nI c := fun _ => e1
      have eF : ∀ v, gF (sX (uC (sD σ (gf σ) v) b 0 (-1)) 0 0) = gF σ := fun _ => rfl
      have en : ∀ v, gn (sX (uC (sD σ (gf σ) v) b 0 (-1)) 0 0) = gn σ := fun _ => rfl
      rw [ef, ex, eF, en, Dn_4, Dn_5, nI_clamp (by omega)]
      by_cases hc6 : c < 60
      · refine bq_t (nI_lt (b := 60) hc6 (by decide)) ⟨Dn_F hF.1, Dn_F hF.1, Dn_F hF.1, vp_in_nI hc6 (by decide), ?_⟩
        have eM := sM_F (τ := sF (sX (uC (sD σ (gf σ) (mkF D0 K D2 d x y (fI σ (gf σ) 6))) b 0 (-1)) 0 0) (va_up (gF σ) c (some (gf σ)))) (a0 := 0) (a1 := 0) (a2 := 0) (a3 := 0) (a4 := 0) (a5 := 0) (a6 := 0)
        have eN := sM_6 (τ := sF (sX (uC (sD σ (gf σ) (mkF D0 K D2 d x y (fI σ (gf σ) 6))) b 0 (-1)) 0 0) (va_up (gF σ) c (some (gf σ)))) (a0 := 0) (a1 := 0) (a2 := 0) (a3 := 0) (a4 := 0) (a5 := 0) (a6 := 0) (-1)
        refine C_Fa_init _ _ (B_Fa_init_0 _ _ ⟨eM, ?_⟩)
        have eN' : stI (sM (sF (sX (uC (sD σ (gf σ) (mkF D0 K D2 d x y (fI σ (gf σ) 6))) b 0 (-1)) 0 0) (va_up (gF σ) c (some (gf σ)))) (mkF 0 0 0 0 0 0 0)) (185 + gn σ) 6 (-1) = _ := eN
        rw [eN']
        refine FM rfl rfl (fun b' c14 c15 c16 c17 hB hG => ⟨fun _ _ => ⟨congrArg (fun t => t + 1 - 1) e1, ?_⟩, fun w => absurd ⟨hE2, hc6⟩ w⟩)
        obtain ⟨G1, G2, G3, G4, G5⟩ := hG
        have hE3 := hE
        obtain ⟨E1, E2, E3⟩ : (0 ≤ x ∧ x < 24) ∧ (0 ≤ y ∧ y ≤ 3) ∧ True := HE_b r3 hE
        have s1 : (1 : Int32) ≤ nI n1 ∧ nI n1 ≤ 10 := ⟨nI_le (a := 1) m1.1 (by have := m1.2.1; omega), nI_le (b := 10) m1.2.1 (by decide)⟩
        have c1 : (nI n1).toNatClampNeg = n1 := nI_clamp (by have := m1.2.1; omega)
        refine ⟨⟨t1, rfl, z200, rfl, rfl, t6⟩, r1, r2, r3, ?_, ?_, r6.succ, r7, by have := r8.1; exact (by show gn σ + 1 ≤ 3 * (n + 1); omega), R8.fa (n := n) (R8.fa (n := n) r8.2)⟩
        · have q4 := M4.draft (δ := dst (gD σ) (gn σ)) (d0 := D0) (d1 := K) (d2 := D2) (d3 := d) (d4 := x) (d5 := y) r4 e3 hB h6
          have hN : NF (sD (dst (gD σ) (gn σ)) (gf σ) (mkF D0 K D2 d x y (fI σ (gf σ) 6))) (gf σ) c c14 c15 c16 c17 (upd (gC σ 18) c x) (upd (gC σ 19) c y) (upd (gC σ 20) c (-1)) := by
            unfold NF
            rw [mk_fL0, mk_fI1, mk_fL2, mk_fI3, mk_fI4, mk_fI5, mk_fI6, G1, upd_at, upd_at, upd_at]
            refine ⟨⟨?_, s1, fun k hk => ?_⟩, G3.symm, ?_, fun w => ?_, G5.symm, rfl, E1, rfl, E2, h6⟩
            · rw [c1, ← hd0]
              exact nmN_eq _ (fun i hi => (G2 i hi).symm)
            · rw [c1] at hk
              show 97 ≤ c14 (20 * c + k) ∧ c14 (20 * c + k) ≤ 122
              rw [G2 k hk]
              exact m1.2.2 k hk
            · rw [G3]
              rcases hK with rfl | rfl | rfl <;> decide
            · rw [G3] at w
              obtain ⟨H1, H2⟩ := G4 w
              have m2 := m2 w
              have c2 : (nI n2).toNatClampNeg = n2 := nI_clamp (by have := m2.2.1; omega)
              rw [H1]
              refine ⟨?_, ⟨nI_le (a := 1) m2.1 (by have := m2.2.1; omega), nI_le (b := 10) m2.2.1 (by decide)⟩, fun k hk => ?_⟩
              · rw [c2, ← hd2]
                exact nmN_eq _ (fun i hi => (H2 i hi).symm)
              · rw [c2] at hk
                show 97 ≤ c14 (20 * c + 10 + k) ∧ c14 (20 * c + 10 + k) ≤ 122
                rw [H2 k hk]
                exact m2.2.2 k hk
          refine M4.add (δ := sD (dst (gD σ) (gn σ)) (gf σ) (mkF D0 K D2 d x y (fI σ (gf σ) 6))) (f1 := 185 + gn σ) q4 e3 hc6 (by show gX σ 15 + 1 = _; rw [e1, nI_1]) (nI_1 c) hN ?_ (EX_new _ _ _) (fun q hq => isd_ne (D := gD σ) hq) ⟨sM_F (τ := dst (va_up (gD σ) (gf σ) (mkF D0 K D2 d x y (fI σ (gf σ) 6))) (gn σ)), ?_⟩
          · intro j hj
            refine ⟨?_, ?_, ?_⟩ <;> exact upd_ne _ _ (by omega)
          · exact mk_fI6' _ _
        · exact M5.ex (M5.fa (δ := dst (gD σ) (gn σ)) r5 hq5 _) (EX_new _ _ _)
      · have hc6 : c = 60 := by omega
        refine bq_f (by rw [hc6]; decide) (FM rfl rfl (fun b' c14 c15 c16 c17 hB hG => ⟨fun _ w => absurd w (by omega), fun _ => ⟨rfl, RF hB⟩⟩))
    · have hE2 : ¬ HE (gC σ 21) x y := by rw [← a9]; exact hE
      refine K_haveF (σ := sX (uC (Dm σ (gf σ) (nm (fun i => gA σ 0 (p1 + i)) n1) K (nm (fun i => gA σ 0 (p2 + i)) n2) d) b 0 (-1)) 0 0) hE (bq_tn rfl (FM rfl rfl (fun b' c14 c15 c16 c17 hB hG => ⟨fun w => absurd w hE2, fun _ => ⟨rfl, RF hB⟩⟩)))
