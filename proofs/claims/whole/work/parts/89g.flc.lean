/-! FILLING: the class's least cost. -/
def IV (n : Nat) (ψ : FPar) (σ τ : St) (j : Nat) : Prop :=
  RR n τ ∧ FC ψ τ ∧ (gX τ 5 = gX σ 5 ∧ gB τ 0 = gB σ 0 ∧ gA τ 2 = gA σ 2 ∧ τ.2 = σ.2) ∧
  (∀ q, j ≤ q → q ≤ pC ψ → (∀ x, x ≤ pN ψ → gB τ 3 q x = nI (TT ψ (pC ψ - q) x 1)) ∧ gA τ 4 q = nI (TT ψ (pC ψ - q) 0 0)) ∧
  (∀ q, j ≤ q → q < pC ψ → ∀ n, n ≤ 30 → gB τ 1 q n = nI (pO ψ q n))
def OwnP (ψ : FPar) (σ : St) : Prop := ∀ p n, p < pC ψ → n ≤ 30 → nI (pO ψ p n) = cst (gB σ 0 p) (gA σ 2 p).toNatClampNeg (gX σ 5) n
section
variable {S : XS} {σ : St} {ψ : FPar} {Q : Int32 → St → Prop} {n : Nat}
set_option maxHeartbeats 2000000 in
theorem K_lc (hR : RR n σ) (hF : FC ψ σ) (h : OKP ψ) (hO : OwnP ψ σ) (H : ∀ τ, IV n ψ σ τ 0 → Q (nI (TT ψ (pC ψ) 0 0)) τ) : CM S m_Se_leastCost [.ref 82, .ref 3, .int (nI (pN ψ))] (enc σ) (qI Q) := by
  have hC := h.2.2.2.2.2.2.2
  have hN := h.2.2.2.2.2.2.1
  have L52 : ∀ j τ, j ≤ pC ψ → IV n ψ σ τ j → BW S m_Se_leastCost 52 [some (.ref 82), some (.ref 3), some (.int (nI (pN ψ))), none, some (.int (nI j - 1))] [] (enc τ) (qI Q) := by
    intro j
    induction j with
    | zero =>
      intro τ hj hI
      refine B_Se_leastCost_52 _ _ _ (bq_t (by decide) ⟨vp_in_nI (n := 0) (by omega) (by decide), ?_⟩)
      have e := (hI.2.2.2.1 0 (Nat.le_refl _) (Nat.zero_le _)).2
      rw [show (0 : Int32).toNatClampNeg = 0 from rfl, e]
      exact H τ hI
    | succ j ih =>
      intro τ hj hI
      obtain ⟨hR1, hF1, ⟨s1, s2, s3, s4⟩, hT, hB⟩ := id hI
      obtain ⟨r0, r1, r2, r3, r4, r5, r6, r7, r8⟩ := id hR1
      obtain ⟨m, m1, m2, hL, hW, -⟩ := r1.par (show j < 20 by omega)
      rw [nI_pred]
      have cs : ∀ k, k ≤ 30 → cst (gB τ 0 j) m (gX τ 5) k = nI (pO ψ j k) := by
        intro k hk
        rw [hO j k (by omega) hk, ← s1, ← s2, ← s3, m2]
      have MID : ∀ τ', RR n τ' → FC ψ τ' → (gX τ' 5 = gX σ 5 ∧ gB τ' 0 = gB σ 0 ∧ gA τ' 2 = gA σ 2 ∧ τ'.2 = σ.2) → (∀ q, j + 1 ≤ q → q ≤ pC ψ → (∀ x, x ≤ pN ψ → gB τ' 3 q x = nI (TT ψ (pC ψ - q) x 1)) ∧ gA τ' 4 q = nI (TT ψ (pC ψ - q) 0 0)) → (∀ q, j ≤ q → q < pC ψ → ∀ n, n ≤ 30 → gB τ' 1 q n = nI (pO ψ q n)) → CM S m_Se_weighFrom [.ref 82, .ref 3, .int (nI j), .int (nI (pN ψ))] (enc τ') (qV (fun τ12 => BW S m_Se_leastCost 52 [some (.ref 82), some (.ref 3), some (.int (nI (pN ψ))), none, some (.int (nI j + -1))] [] (enc τ12) (qI Q))) := by
        intro τ' q1 q2 q3 q4 q5
        obtain ⟨t0, t1, t2, t3, t4, t5, t6, t7, t8⟩ := id q1
        have g := q4 (j + 1) (Nat.le_refl _) (by omega)
        have ed : pC ψ - j = (pC ψ - (j + 1)) + 1 := by omega
        refine K_wf (d := pC ψ - (j + 1)) q2 h (by omega) (q5 j (Nat.le_refl _) (by omega)) g.1 g.2 (fun u r hr => ?_)
        rw [show nI j + -1 = nI j - 1 from (Int32.sub_eq_add_neg _ _).symm]
        refine ih _ (by omega) ⟨⟨t0, t1, t2, t3, t4, t5, t6, t7, t8⟩, q2, q3, fun q h1 h2 => ?_, q5⟩
        by_cases e : q = j
        · subst e
          refine ⟨fun x hx => ?_, ?_⟩
          · rw [ed, ← hr x hx]
            exact congrFun (gB_sB (sA τ' 5 u) 3 q r) x
          · rw [ed]
            exact upd_at _ _ _
        · obtain ⟨k1, k2⟩ := q4 q (by omega) h2
          refine ⟨fun x hx => ?_, ?_⟩
          · rw [← k1 x hx]
            exact congrFun (gB_sB_n (sA τ' 5 u) 3 r e) x
          · rw [← k2]
            exact upd_ne _ _ e
      refine B_Se_leastCost_52 _ _ _ (bq_f (nI_pos (by omega)) (K_wb (m := m) (by omega) (by rw [hF1.1]; exact nI_ge (by omega) (by omega)) rfl m1 hL (fun y => ?_) (fun y G f hf => ?_)))
      · refine MID τ hR1 hF1 ⟨s1, s2, s3, s4⟩ hT (fun q h1 h2 => ?_)
        by_cases e : q = j
        · subst e
          intro k hk
          have := r1.2.2.2.2.2.2.2.2.2 q (by omega) y k hk
          rw [this, m2, ← cs k hk]
          rfl
        · exact hB q (by omega) h2
      · refine MID _ ⟨r0, ?_, r2, r3, r4, r5, r6, r7, r8⟩ hF1 ⟨s1, s2, s3, s4⟩ hT (fun q h1 h2 => ?_)
        · exact M1.wb r1 (by rw [m2]; exact hf)
        · by_cases e : q = j
          · subst e
            intro k hk
            rw [← cs k hk, ← hf k hk]
            exact congrFun (gB_sB (brs τ q (nI m) (gX τ 5) G) 1 q f) k
          · intro k hk
            rw [← hB q (by omega) h2 k hk]
            exact congrFun (gB_sB_n (brs τ j (nI m) (gX τ 5) G) 1 f e) k
  refine C_Se_leastCost _ _ (B_Se_leastCost_0 _ _ (bq_f (nI_nlt (b := 1) (a := pN ψ) (by omega) (by omega)) (bq_t (nI_le (b := 120) (by omega) (by decide)) ?_)))
  rw [hF.1, nI_clamp (n := pC ψ) (by omega), nI_clamp (n := pN ψ) (by omega)]
  refine ⟨vp_in_nI (by omega) (by decide), K_fillA σ _ 1000000000 (er3 σ (by omega)) (by decide) (et3 σ (by omega) _) ⟨vp_in_nI (by omega) (by decide), vp_in_nI (by omega) (by decide), ?_⟩⟩
  rw [gB_sB, sB_sB]
  obtain ⟨r0, r1, r2, r3, r4, r5, r6, r7, r8⟩ := id hR
  refine L52 (pC ψ) _ (Nat.le_refl _) ⟨⟨r0, r1, r2, r3, r4, r5, r6, r7, r8⟩, hF, ⟨rfl, rfl, rfl, rfl⟩, fun q h1 h2 => ?_, fun q h1 h2 => absurd h2 (by omega)⟩
  obtain rfl : q = pC ψ := by omega
  rw [Nat.sub_self]
  refine ⟨fun x hx => ?_, ?_⟩
  · refine (congrFun (gB_sB σ 3 (pC ψ) _) x).trans ?_
    show upd _ (pN ψ) 0 x = nI (if x = pN ψ then 0 else 1000000000)
    by_cases e : x = pN ψ
    · rw [e, upd_at, if_pos rfl]
      rfl
    · rw [upd_ne _ _ e, if_neg e, if_pos (by omega)]
      exact e9
  · refine (upd_at _ _ _).trans ?_
    show _ = nI (if 0 = pN ψ then 0 else 1000000000)
    rw [if_neg (by omega)]
    exact e9
end
