/-! THE OPERATION fill. -/
theorem layA_out {A : Nat → Int32} {b : Nat} {g : Nat → Int32} {i : Nat} : ∀ n, ¬ (b ≤ i ∧ i < b + n) → layA A b g n i = A i := by
  intro n
  induction n with
  | zero => intro _; rfl
  | succ n ih =>
    intro h
    show upd (layA A b g n) (b + n) (g n) i = A i
    rw [upd_ne _ _ (by omega), ih (by omega)]
theorem layA_in {A : Nat → Int32} {b : Nat} {g : Nat → Int32} {i : Nat} : ∀ n, b ≤ i → i < b + n → layA A b g n i = g (i - b) := by
  intro n
  induction n with
  | zero => intro h1 h2; omega
  | succ n ih =>
    intro h1 h2
    show upd (layA A b g n) (b + n) (g n) i = g (i - b)
    by_cases c : i = b + n
    · rw [c, upd_at, show b + n - b = n by omega]
    · rw [upd_ne _ _ c, ih h1 (by omega)]
theorem arr_or {ψ : FPar} (h : OKP ψ) (hlt : TT ψ (pC ψ) 0 0 < 1000000000) (i : Nat) : ∀ p, p ≤ pC ψ → (∀ gg A, arrP ψ gg A p i = A i) ∨ (i < pN ψ ∧ (∃ q, q < 20 ∧ ∀ A, arrP ψ g6 A p i = nI q) ∧ ∀ gg A A', arrP ψ gg A p i = arrP ψ gg A' p i) := by
  intro p
  induction p with
  | zero => intro _; exact Or.inl (fun _ _ => rfl)
  | succ p ih =>
    intro hp
    have hC := h.2.2.2.2.2.2.2
    have ok := pos_ok h hlt p (by omega)
    cases hc : chP ψ p (posP ψ p) with
    | none =>
      rcases ih (by omega) with u | ⟨u1, u2, u3⟩
      · exact Or.inl (fun gg A => by rw [arrP_n hc]; exact u gg A)
      · obtain ⟨q, q1, q2⟩ := u2
        exact Or.inr ⟨u1, ⟨q, q1, fun A => by rw [arrP_n hc]; exact q2 A⟩, fun gg A A' => by rw [arrP_n hc, arrP_n hc]; exact u3 gg A A'⟩
    | some l =>
      obtain ⟨c1, c2, c3, c4, c5, c6, c7, c8, c9⟩ := ch_s h ok hc
      by_cases y : (posP ψ p).1 + l ≤ i ∧ i < (posP ψ p).1 + l + nP ψ p (posP ψ p) l
      · refine Or.inr ⟨by omega, ⟨p, by omega, fun A => ?_⟩, fun gg A A' => ?_⟩
        · rw [arrP_s hc, layA_in _ y.1 y.2]
          rfl
        · rw [arrP_s hc, arrP_s hc, layA_in _ y.1 y.2, layA_in _ y.1 y.2]
      · rcases ih (by omega) with u | ⟨u1, u2, u3⟩
        · exact Or.inl (fun gg A => by rw [arrP_s hc, layA_out _ y]; exact u gg A)
        · obtain ⟨q, q1, q2⟩ := u2
          exact Or.inr ⟨u1, ⟨q, q1, fun A => by rw [arrP_s hc, layA_out _ y]; exact q2 A⟩, fun gg A A' => by rw [arrP_s hc, arrP_s hc, layA_out _ y, layA_out _ y]; exact u3 gg A A'⟩
theorem rcd_01 (ψ : FPar) (q : Nat) : (rcd ψ q).1 = 0 ∨ (rcd ψ q).1 = 1 := by
  cases hc : chP ψ q (posP ψ q) with
  | none => rw [rcd_n hc]; exact Or.inr rfl
  | some l => rw [rcd_s hc]; exact Or.inl rfl
theorem nI_N {x : Int32} (h : 0 ≤ x.toInt) : nI x.toNatClampNeg = x := by
  have := Int32.toInt_lt x
  obtain ⟨k, -, e1, e2⟩ := nI_ex (x := x) (n := 2147483648) h (by omega)
  rw [e2, ← e1]
def psi (σ : St) (N : Nat) : FPar := (fun p k => if p < 20 ∧ k ≤ 30 then (cst (gB σ 0 p) (gA σ 2 p).toNatClampNeg (gX σ 5) k).toNatClampNeg else 1000000000, fun p => if p < 20 ∧ ¬ gA σ 1 p = -1 then (gA σ 1 p).toNatClampNeg else 1000000000, fun p => if p < 20 then (gA σ 2 p).toNatClampNeg else 0, (gX σ 6).toNatClampNeg, (gX σ 7).toNatClampNeg, (gX σ 8).toNatClampNeg, N, (gX σ 4).toNatClampNeg)
theorem psi_ok {σ : St} {N : Nat} (r1 : R1 σ) (hN : 1 ≤ N ∧ N ≤ 120) : OKP (psi σ N) ∧ FC (psi σ N) σ ∧ OwnP (psi σ N) σ ∧ (∀ τ, τ.2 = σ.2 → FMd (psi σ N) τ) ∧ (∀ p, p < pC (psi σ N) → okL (gB σ 0 p) (pM (psi σ N) p) ∧ (∀ τ, gC τ 2 = gC σ 2 → gC τ 3 = gC σ 3 → gY τ 2 = gY σ 2 → MB τ p (pM (psi σ N) p) (gB σ 0 p) (gX σ 5)) ∧ ∀ k, k ≤ pM (psi σ N) p → lc (gB σ 0 p) (pM (psi σ N) p) (gX σ 5) k 0 = nI (pO (psi σ N) p k)) := by
  obtain ⟨h1, h2, h3, h4, h5, ⟨h6, h6b⟩, ⟨h7, h7b⟩, h8, h9, h10⟩ := id r1
  have z20 : (20 : Int32).toInt = 20 := rfl
  have z5 : (5 : Int32).toInt = 5 := rfl
  have z40 : (40 : Int32).toInt = 40 := rfl
  have zl : (100000 : Int32).toInt = 100000 := rfl
  have zm : (-1 : Int32).toInt = -1 := rfl
  have t4 := ti_nonneg h1.2.1
  have t4b := Int32.le_iff_toInt_le.mp h1.2.2
  have t6 := Int32.le_iff_toInt_le.mp h3.2.1
  have t6b := Int32.le_iff_toInt_le.mp h3.2.2
  have t7 := ti_nonneg h4.2.1
  have t7b := Int32.le_iff_toInt_le.mp h4.2.2
  have t8 := ti_nonneg h5.2.1
  have t8b := Int32.le_iff_toInt_le.mp h5.2.2
  have c4 : (gX σ 4).toNatClampNeg ≤ 20 := by rw [ti_N]; omega
  -- the costs
  have CS : ∀ p k, p < 20 → k ≤ 30 → 0 ≤ (cst (gB σ 0 p) (gA σ 2 p).toNatClampNeg (gX σ 5) k).toInt ∧ BN 108000 (cst (gB σ 0 p) (gA σ 2 p).toNatClampNeg (gX σ 5) k).toNatClampNeg := by
    intro p k hp hk
    obtain ⟨m, m1, m2, hL, hW, -⟩ := r1.par hp
    rw [m2]
    unfold cst
    by_cases c : k ≤ m
    · rw [if_pos c]
      have b0 := lc_pos hL hW k 0 (Nat.zero_le _)
      refine ⟨b0, ?_⟩
      rcases lc_b hL hW k 0 (Nat.zero_le _) with b | b
      · exact Or.inl (by rw [ti_N]; omega)
      · exact Or.inr (by rw [b]; rfl)
    · rw [if_neg c]
      exact ⟨by decide, Or.inr rfl⟩
  have pOv : ∀ p k, p < 20 → k ≤ 30 → nI (pO (psi σ N) p k) = cst (gB σ 0 p) (gA σ 2 p).toNatClampNeg (gX σ 5) k := by
    intro p k hp hk
    show nI (if p < 20 ∧ k ≤ 30 then (cst (gB σ 0 p) (gA σ 2 p).toNatClampNeg (gX σ 5) k).toNatClampNeg else 1000000000) = _
    rw [if_pos ⟨hp, hk⟩]
    exact nI_N (CS p k hp hk).1
  have pMv : ∀ p, p < 20 → pM (psi σ N) p = (gA σ 2 p).toNatClampNeg := fun p hp => if_pos hp
  have KV : ∀ p, p < 20 → (gA σ 1 p = -1 ∧ pK (psi σ N) p = 1000000000) ∨ (¬ gA σ 1 p = -1 ∧ gA σ 1 p = nI (pK (psi σ N) p) ∧ pK (psi σ N) p ≤ 100000) := by
    intro p hp
    have b := h6b p hp
    have b1 := Int32.le_iff_toInt_le.mp b.1
    have b2 := Int32.le_iff_toInt_le.mp b.2
    by_cases c : gA σ 1 p = -1
    · exact Or.inl ⟨c, if_neg (fun w => w.2 c)⟩
    · have e : pK (psi σ N) p = (gA σ 1 p).toNatClampNeg := if_pos ⟨hp, c⟩
      have nn : 0 ≤ (gA σ 1 p).toInt := by
        by_cases c2 : (gA σ 1 p).toInt = -1
        · exact absurd (Int32.toInt_inj.mp (c2.trans zm.symm)) c
        · omega
      refine Or.inr ⟨c, ?_, ?_⟩
      · rw [e, nI_N nn]
      · rw [e, ti_N]; omega
  refine ⟨⟨fun p k => ?_, fun p => ?_, fun p => ?_, ?_, ?_, ?_, hN, c4⟩, ⟨(nI_N t4).symm, (nI_N (by omega)).symm, (nI_N t7).symm, (nI_N t8).symm, fun p hp => ?_⟩, fun p k hp hk => pOv p k ?_ hk, fun τ ht => ?_, fun p hp => ?_⟩
  · show BN 108000 (if p < 20 ∧ k ≤ 30 then (cst (gB σ 0 p) (gA σ 2 p).toNatClampNeg (gX σ 5) k).toNatClampNeg else 1000000000)
    by_cases c : p < 20 ∧ k ≤ 30
    · rw [if_pos c]; exact (CS p k c.1 c.2).2
    · rw [if_neg c]; exact Or.inr rfl
  · by_cases hp : p < 20
    · rcases KV p hp with ⟨-, e⟩ | ⟨-, -, e⟩
      · exact Or.inr e
      · exact Or.inl e
    · exact Or.inr (if_neg (fun w => hp w.1))
  · show (if p < 20 then (gA σ 2 p).toNatClampNeg else 0) ≤ 30
    by_cases hp : p < 20
    · obtain ⟨m, m1, m2, hL, -, -⟩ := r1.par hp
      rw [if_pos hp, m2]
      exact hL.1
    · rw [if_neg hp]; omega
  · show 5 ≤ (gX σ 6).toNatClampNeg ∧ (gX σ 6).toNatClampNeg ≤ 40
    rw [ti_N]; omega
  · show (gX σ 7).toNatClampNeg ≤ 100000
    rw [ti_N]; omega
  · show (gX σ 8).toNatClampNeg ≤ 100000
    rw [ti_N]; omega
  · have hp20 : p < 20 := by have : p < (gX σ 4).toNatClampNeg := hp; omega
    obtain ⟨m, m1, m2, -, -, -⟩ := r1.par hp20
    refine ⟨by rw [pMv p hp20, m2]; exact m1, ?_⟩
    rcases KV p hp20 with ⟨e1, e2⟩ | ⟨e1, e2, -⟩
    · exact Or.inl ⟨e1, e2⟩
    · exact Or.inr ⟨e1, e2⟩
  · have : p < (gX σ 4).toNatClampNeg := hp
    omega
  · have gy : ∀ j, gY τ j = gY σ j := fun j => by show τ.2.1 j = σ.2.1 j; rw [ht]
    have gc : ∀ j, gC τ j = gC σ j := fun j => by show τ.2.2.1 j = σ.2.2.1 j; rw [ht]
    refine ⟨?_, ?_, ?_, ?_, fun p hp => ?_⟩
    · rw [gy, ← h1.1]; exact (nI_N t4).symm
    · rw [gy, ← h3.1]; exact (nI_N (by omega)).symm
    · rw [gy, ← h4.1]; exact (nI_N t7).symm
    · rw [gy, ← h5.1]; exact (nI_N t8).symm
    · have hp20 : p < 20 := by have : p < (gX σ 4).toNatClampNeg := hp; omega
      obtain ⟨m, m1, m2, -, -, -⟩ := r1.par hp20
      rw [gc, gc, ← h7, ← h6]
      refine ⟨by rw [pMv p hp20, m2]; exact m1, ?_⟩
      rcases KV p hp20 with ⟨e1, e2⟩ | ⟨e1, e2, e3⟩
      · exact Or.inl ⟨e1, e2⟩
      · exact Or.inr ⟨e1, e2, by omega⟩
  · have hp20 : p < 20 := by have : p < (gX σ 4).toNatClampNeg := hp; omega
    obtain ⟨m, m1, m2, hL, -, hMB⟩ := r1.par hp20
    have hm := hL.1
    rw [pMv p hp20, m2]
    refine ⟨hL, hMB, fun k hk => ?_⟩
    rw [pOv p k hp20 (by omega), m2]
    unfold cst
    rw [if_pos hk]
set_option maxHeartbeats 4000000 in
theorem op_fill {S : XS} {n : Nat} {σ : St} (h : RR n σ) (x : Int32) : OPI S n σ m_TH_fill m_Md_fill [.int x] := by
  obtain ⟨r0, r1, r2, r3, r4, r5, r6, r7, r8⟩ := id h
  unfold OPI
  have BAD : ¬ (1 ≤ x ∧ x ≤ 120) → CM S m_Md_fill [.ref 153, .int x] (enc σ) (qI fun w ρ => (-1 : Int32) = w ∧ RR (n + 1) ρ) := fun c =>
    C_Md_fill _ _ (B_Md_fill_0 _ _ (K_isF c (bq_tn rfl ⟨rfl, ⟨r0, r1, r2, r3, r4, r5, r6.succ, r7, r8.succ⟩⟩)))
  refine C_TH_fill _ _ (B_TH_fill_0 _ _ (bq_s (fun c => BAD (fun w => Int32.not_le.mpr c w.1)) (fun c1 => bq_s (fun c2 => ?_) (fun c => BAD (fun w => c w.2)))))
  have u1 := Int32.le_iff_toInt_le.mp (Int32.not_lt.mp c1)
  have u2 := Int32.le_iff_toInt_le.mp c2
  have z1 : (1 : Int32).toInt = 1 := rfl
  have z120 : (120 : Int32).toInt = 120 := rfl
  obtain ⟨N, hN, rfl, -⟩ := nI_ex (x := x) (n := 121) (by omega) (by omega)
  rw [nI_toInt (by omega)] at u1 u2
  obtain ⟨hK, hF, hO, hM, hP⟩ := psi_ok (N := N) r1 ⟨by omega, by omega⟩
  have eN : pN (psi σ N) = N := rfl
  generalize psi σ N = ψ at hK hF hO hM hP eN
  subst eN
  have hC := hK.2.2.2.2.2.2.2
  have hNN := hK.2.2.2.2.2.2.1
  refine K_lc h hF hK hO (fun τ hI => ?_)
  obtain ⟨hR, hFt, ⟨s1, s2, s3, s4⟩, hT, hB⟩ := hI
  obtain ⟨q0, q1, q2, q3, q4, q5, q6, q7, q8⟩ := id hR
  have tb := BN_le (TT_b hK (pC ψ) 0 0) (by omega)
  -- the reference
  have REF : ∀ {ω : St} {Q : Int32 → St → Prop}, ω.2 = σ.2 → (∀ a b C, LSt ψ (sC (sC2 ω a b) 6 C) → (∀ q, q ≤ pC ψ → LTr ψ C q (2 * (pN ψ + 1))) → (TT ψ (pC ψ) 0 0 < 1000000000 → CM S m_Md_tells [.ref 153, .int (nI (pN ψ))] (enc (sC (sC2 ω a b) 6 C)) (qV (fun τ9 => Q (gC τ9 6 0) τ9))) ∧ (¬ TT ψ (pC ψ) 0 0 < 1000000000 → Q (-2) (sC (sC2 ω a b) 6 C))) → CM S m_Md_fill [.ref 153, .int (nI (pN ψ))] (enc ω) (qI Q) := by
    intro ω Q hω H
    have gy : ∀ j, gY ω j = gY σ j := fun j => by show ω.2.1 j = σ.2.1 j; rw [hω]
    have gc : ∀ j, gC ω j = gC σ j := fun j => by show ω.2.2.1 j = σ.2.2.1 j; rw [hω]
    refine K_fillM (hM ω hω) hK (fun p hp => ?_) H
    obtain ⟨p1, p2, p3⟩ := hP p hp
    exact ⟨_, _, p1, fun ρ e1 e2 e3 => p2 ρ (by rw [e1, gc]) (by rw [e2, gc]) (by rw [e3, gy]), p3⟩
  have LC : ∀ p, p < pC ψ → ∀ k, k ≤ pM ψ p → pO ψ p k < 1000000000 → ¬ lc (gB σ 0 p) (pM ψ p) (gX σ 5) k 0 = FAR := by
    intro p hp k hk hlt e
    rw [(hP p hp).2.2 k hk, show FAR = nI 1000000000 from e9] at e
    have : pO ψ p k = 1000000000 := (nI_eq (by omega) (by omega)).mp e
    omega
  rw [e9]
  by_cases hlt : TT ψ (pC ψ) 0 0 < 1000000000
  · refine bq_t (nI_lt hlt (by omega)) (K_pa hFt hK ⟨fun q hq => hT q (Nat.zero_le _) hq, fun q hq => hB q (Nat.zero_le _) hq, fun q hq => ?_⟩ hlt (fun g x9 x10 b2 b4 hb => ?_))
    · rw [s2, s1]
      exact ⟨(hP q hq).1, LC q hq⟩
    refine REF (ω := KP (sX (sX τ 11 (nI (pC ψ))) 12 (nI (pN ψ))) g x9 x10 (arrP ψ g6 (fun j => if j < 120 then -1 else gA τ 6 j) (pC ψ)) (arrP ψ (g7 τ ψ) (fun j => if j < 120 then -1 else gA τ 7 j) (pC ψ)) (arrP ψ (g8n τ ψ) (fun j => if j < 120 then -1 else gA τ 8 j) (pC ψ)) b2 b4) s4 (fun a b C hS hTT => ⟨fun _ => ?_, fun c => absurd hlt c⟩)
    have e7 : g7 τ ψ = g7 σ ψ := by unfold g7; rw [s1, s2]
    have e8 : g8n τ ψ = g8n σ ψ := by unfold g8n; rw [s1, s2]
    rw [e7, e8] at hS ⊢
    have gyt : ∀ j, gY τ j = gY σ j := fun j => by show τ.2.1 j = σ.2.1 j; rw [s4]
    have gct : ∀ j, gC τ j = gC σ j := fun j => by show τ.2.2.1 j = σ.2.2.1 j; rw [s4]
    have hFM : FMd ψ (sC (sC2 (KP (sX (sX τ 11 (nI (pC ψ))) 12 (nI (pN ψ))) g x9 x10 (arrP ψ g6 (fun j => if j < 120 then -1 else gA τ 6 j) (pC ψ)) (arrP ψ (g7 σ ψ) (fun j => if j < 120 then -1 else gA τ 7 j) (pC ψ)) (arrP ψ (g8n σ ψ) (fun j => if j < 120 then -1 else gA τ 8 j) (pC ψ)) b2 b4) a b) 6 C) := hM τ s4
    refine K_tells (σ := σ) hFM hK hS hTT hlt (fun p hp => ?_) (fun c4 c7 c8 c9 c10 hc => ?_)
    · obtain ⟨p1, p2, p3⟩ := hP p hp
      exact ⟨p1, fun ρ f1 f2 f3 => p2 ρ (f1.trans (gct 2)) (f2.trans (gct 3)) (f3.trans (gyt 2)), LC p hp⟩
    have e6 := LTr.at (x := 0) (s := 0) (hTT 0 (Nat.zero_le _)) (by omega) (by omega)
    refine ⟨e6.symm, q0, q1, ?_, q3, q4, q5, q6.succ, q7, q8.succ⟩
    have c11 : (nI (pC ψ)).toNatClampNeg = pC ψ := nI_clamp (by omega)
    have c12 : (nI (pN ψ)).toNatClampNeg = pN ψ := nI_clamp (by omega)
    have pos : 0 < pC ψ := by
      by_cases c : pC ψ = 0
      · rw [c] at hlt
        have : TT ψ 0 0 0 = 1000000000 := if_neg (by omega)
        omega
      · omega
    have M : M2 (nI (pC ψ)) (nI (pN ψ)) (nI (pC ψ)) (arrP ψ g6 (fun j => if j < 120 then -1 else gA τ 6 j) (pC ψ)) (arrP ψ (g7 σ ψ) (fun j => if j < 120 then -1 else gA τ 7 j) (pC ψ)) (arrP ψ (g8n σ ψ) (fun j => if j < 120 then -1 else gA τ 8 j) (pC ψ)) c7 c8 c9 c10 (arrP ψ g6 (fun j => if j < 120 then -1 else gC τ 11 j) (pC ψ)) (arrP ψ (g7 σ ψ) (gC τ 12) (pC ψ)) (arrP ψ (g8n σ ψ) (gC τ 13) (pC ψ)) b4 := by
      unfold M2
      rw [c11, c12]
      refine ⟨⟨rfl, nI_pos' (by omega), nI_le (b := 20) hC (by decide)⟩, ⟨nI_pos' (by omega), nI_le (b := 120) hNN.2 (by decide)⟩, fun p hp => ?_, Or.inr ⟨nI_ne0 pos (by omega), fun i hi => ?_⟩⟩
      · obtain ⟨b0, b1, b2', b3⟩ := hb p hp
        obtain ⟨d0, d1, d2, d3⟩ := hc p hp
        exact ⟨b0.trans d0.symm, by rw [d0]; exact rcd_01 ψ p, b1.trans d1.symm, b2'.trans d2.symm, b3.trans d3.symm⟩
      · rcases arr_or hK hlt i (pC ψ) (Nat.le_refl _) with u | ⟨v1, ⟨q, q20, v2⟩, v3⟩
        · rw [u, u, u, u, u, u, if_pos hi, if_pos hi, if_pos hi, if_pos hi]
          exact ⟨fun _ => rfl, fun _ => ⟨rfl, fun _ => ⟨rfl, rfl⟩, fun c => absurd rfl c⟩⟩
        · refine ⟨fun c => by omega, fun _ => ⟨v3 _ _ _, fun c => ?_, fun _ => ⟨v3 _ _ _, v3 _ _ _⟩⟩⟩
          rw [v2] at c
          have := nI_pos (n := q) (by omega)
          rw [c] at this
          exact absurd (by decide) this
    exact M
  · refine bq_f (nI_nlt (by omega) (by omega)) (REF s4 (fun a b C hS hTT => ⟨fun c => absurd c hlt, fun _ => ⟨rfl, q0, q1, q2, q3, q4, q5, q6.succ, q7, q8.succ⟩⟩))
