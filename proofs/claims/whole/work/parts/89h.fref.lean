/-! FILLING: the reference's tables. -/
def FMd (ψ : FPar) (τ : St) : Prop := gY τ 1 = nI (pC ψ) ∧ gY τ 3 = nI (pG ψ) ∧ gY τ 4 = nI (pL ψ) ∧ gY τ 5 = nI (pW ψ) ∧ (∀ p, p < pC ψ → gC τ 2 p = nI (pM ψ p) ∧ ((gC τ 1 p = -1 ∧ pK ψ p = 1000000000) ∨ (¬ gC τ 1 p = -1 ∧ gC τ 1 p = nI (pK ψ p) ∧ pK ψ p < 1000000000)))
def LSt (ψ : FPar) (τ : St) : Prop := ∀ p n, p < pC ψ → n ≤ pM ψ p → gC τ 5 (31 * p + n) = nI (pO ψ p n)
/-- row q of the table left, its first k numbers -/
def LTr (ψ : FPar) (C : Nat → Int32) (q k : Nat) : Prop := ∀ i, i < k → C (242 * q + i) = nI (TT ψ (pC ψ - q) (i / 2) (i % 2))
theorem LTr.at {ψ : FPar} {C : Nat → Int32} {q k x s : Nat} (h : LTr ψ C q k) (hs : s ≤ 1) (hk : 2 * x + s < k) : C (242 * q + 2 * x + s) = nI (TT ψ (pC ψ - q) x s) := by
  have := h (2 * x + s) hk
  rw [show (2 * x + s) / 2 = x by omega, show (2 * x + s) % 2 = s by omega, ← Nat.add_assoc] at this
  exact this
section
variable {S : XS} {τ : St} {ψ : FPar} {Q : Int32 → St → Prop} {p b n l line s : Nat} {mo : Nat → Nat} {M : Nat}
theorem K_at (H : Q (nI (242 * p + 2 * line + s)) τ) : CM S m_Md_at [.int (nI p), .int (nI line), .int (nI s)] (enc τ) (qI Q) := by
  refine C_Md_at _ _ _ _ (B_Md_at_0 _ _ _ _ ?_)
  rw [show (242 : Int32) = nI 242 from rfl, show (2 : Int32) = nI 2 from rfl, nI_mul, nI_mul, nI_add, nI_add]
  exact H
theorem K_price (hF : FMd ψ τ) (h : OKP ψ) (hS : LSt ψ τ) (hp : p < pC ψ) (hn : n ≤ pM ψ p) (hb : b ≤ 300) (hl : l ≤ 2) (H : Q (nI (if pO ψ p n < 1000000000 then pO ψ p n + l * pL ψ + wdw ψ b n else 1000000000)) τ) : CM S m_Md_price [.ref 153, .int (nI p), .int (nI b), .int (nI n), .int (nI l)] (enc τ) (qI Q) := by
  have hG := h.2.2.2.1
  have hC := h.2.2.2.2.2.2.2
  have hm := h.2.2.1 p
  have w3 := h.1 p n
  unfold BN at w3
  refine C_Md_price _ _ _ _ _ (B_Md_price_0 _ _ _ _ _ ?_)
  rw [show (31 : Int32) = nI 31 from rfl, nI_mul, nI_add, nI_clamp (n := 31 * p + n) (by omega), hS p n hp hn, hF.2.1, hF.2.2.1, hF.2.2.2.1, e9, nI_mul, nI_add]
  refine ⟨vp_in_nI (by omega) (by decide), ?_⟩
  by_cases c : pO ψ p n < 1000000000
  · rw [if_pos c] at H
    refine bq_t (nI_lt c (by omega)) ?_
    unfold wdw at H
    by_cases c0 : n < 2
    · rw [if_pos c0, Nat.add_zero, ← nI_add] at H
      exact bq_f (nI_ge (b := 2) c0 (by decide)) H
    · rw [if_neg c0] at H
      refine bq_t (nI_le (a := 2) (by omega) (by omega)) ⟨nI_ne0 (by omega) (by omega), ?_⟩
      rw [nI_add, nI_sub1 (p := b + n) (by omega), nI_sub1 (p := pG ψ) (by omega), nI_mod (a := b) (by omega) (by omega), nI_mod (a := b + n - 1) (by omega) (by omega)]
      have lt1 := Nat.mod_lt b (show pG ψ > 0 by omega)
      have lt2 := Nat.mod_lt (b + n - 1) (show pG ψ > 0 by omega)
      by_cases c1 : b % pG ψ = pG ψ - 1
      · rw [if_pos c1] at H
        refine bq_tn (by rw [c1]) ?_
        by_cases c2 : (b + n - 1) % pG ψ = 0
        · rw [if_pos c2, ← Nat.add_assoc] at H
          refine bq_tn (by rw [c2]; rfl) ?_
          rw [nI_add, nI_add]
          exact H
        · rw [if_neg c2, Nat.add_zero] at H
          refine bq_fn (nI_ne0 (by omega) (by omega)) ?_
          rw [nI_add, Int32.add_zero]
          exact H
      · rw [if_neg c1] at H
        refine bq_fn (fun e => c1 ((nI_eq (by omega) (by omega)).mp e)) ?_
        by_cases c2 : (b + n - 1) % pG ψ = 0
        · rw [if_pos c2, Nat.zero_add] at H
          refine bq_tn (by rw [c2]; rfl) ?_
          rw [Int32.add_zero, nI_add]
          exact H
        · rw [if_neg c2] at H
          refine bq_fn (nI_ne0 (by omega) (by omega)) ?_
          rw [Int32.add_zero, Int32.add_zero]
          exact H
  · rw [if_neg c] at H
    exact bq_f (nI_nlt (by omega) (by omega)) H
theorem K_std (hF : FMd ψ τ) (h : OKP ψ) (hS : LSt ψ τ) (hp : p < pC ψ) (hn : n ≤ pM ψ p) (hline : line ≤ pN ψ) (hl : l ≤ 2) (hs : s ≤ 1) (hm : ∀ x, BN M (mo x)) (hM : M ≤ 20000000) (hr : ∀ x, x ≤ pN ψ → gC τ 6 (242 * (p + 1) + 2 * x + 1) = nI (mo x)) (H : Q (nI (stR ψ mo p line s l n)) τ) : CM S m_Md_stands6 [.ref 153, .int (nI p), .int (nI line), .int (nI s), .int (nI l), .int (nI n), .int (nI (pN ψ))] (enc τ) (qI Q) := by
  have hC := h.2.2.2.2.2.2.2
  have hN := h.2.2.2.2.2.2.1
  have hm30 := h.2.2.1 p
  have w1 := wdw_b h (line + l) n
  have w2 := lp_b h hl
  have w3 := h.1 p n
  have w4 := hm (line + l + n)
  unfold BN at w3 w4
  refine C_Md_stands6 _ _ _ _ _ _ _ (B_Md_stands6_0 _ _ _ _ _ _ _ ?_)
  rw [nI_add, nI_add]
  have core : (¬ (0 < l ∧ s = 0)) → ((nI (line + l + n) ≤ nI (pN ψ) → CM S m_Md_price [.ref 153, .int (nI p), .int (nI (line + l)), .int (nI n), .int (nI l)] (enc τ) (qI (fun v1 τ2 => CM S m_Md_at [.int (nI p + 1), .int (nI (line + l + n)), .int 1] (enc τ2) (qI (fun v3 τ4 => (vp_in v3 5082) ∧ (((1000000000 : Int32) ≤ v1 → Q (1000000000 : Int32) τ4) ∧ (¬ (1000000000 : Int32) ≤ v1 → (((gC τ4 6 v3.toNatClampNeg) < (1000000000 : Int32) → Q (v1 + (gC τ4 6 v3.toNatClampNeg)) τ4) ∧ (¬ (gC τ4 6 v3.toNatClampNeg) < (1000000000 : Int32) → Q (1000000000 : Int32) τ4)))))))) ) ∧ (¬ nI (line + l + n) ≤ nI (pN ψ) → Q (1000000000 : Int32) τ)) := by
    intro c0
    unfold stR at H
    rw [if_neg c0] at H
    unfold stP at H
    by_cases c : line + l + n ≤ pN ψ
    · refine bq_t (nI_le c (by omega)) (K_price hF h hS hp hn (by omega) hl ?_)
      rw [nI_1]
      refine K_at (s := 1) ⟨vp_in_nI (by omega) (by decide), ?_⟩
      rw [nI_clamp (by omega), hr _ c, e9]
      by_cases c1 : pO ψ p n < 1000000000
      · rw [if_pos c1]
        refine bq_f (nI_ge (by omega) (by omega)) ?_
        by_cases c2 : mo (line + l + n) < 1000000000
        · rw [if_pos ⟨c, c1, c2⟩] at H
          refine bq_t (nI_lt c2 (by omega)) ?_
          rw [nI_add]
          exact H
        · rw [if_neg (fun w => c2 w.2.2)] at H
          exact bq_f (nI_nlt (by omega) (by omega)) H
      · rw [if_neg (fun w => c1 w.2.1)] at H
        rw [if_neg c1]
        exact bq_t (nI_le (by omega) (by omega)) H
    · rw [if_neg (fun w => c w.1)] at H
      exact bq_f (nI_ge (by omega) (by omega)) H
  by_cases c1 : l = 0
  · refine bq_t (by rw [c1]; decide) (core (by omega))
  · refine bq_f (nI_nle (by omega) (by omega)) ?_
    by_cases c2 : s = 0
    · unfold stR at H
      rw [if_pos ⟨by omega, c2⟩] at H
      exact bq_t (by rw [c2]; rfl) H
    · exact bq_f (nI_ne0 (by omega) (by omega)) (core (by omega))
theorem K_gone {t : Nat} (hF : FMd ψ τ) (h : OKP ψ) (hp : p < pC ψ) (hline : line ≤ pN ψ) (hs : s ≤ 1) (ht : t ≤ 1000000000) (hr : gC τ 6 (242 * (p + 1) + 2 * line + s) = nI t) (H : Q (nI (plN (pK ψ p) t)) τ) : CM S m_Md_gone [.ref 153, .int (nI p), .int (nI line), .int (nI s)] (enc τ) (qI Q) := by
  have hC := h.2.2.2.2.2.2.2
  have hN := h.2.2.2.2.2.2.1
  have kb := h.2.1 p
  unfold BN at kb
  refine C_Md_gone _ _ _ _ (B_Md_gone_0 _ _ _ _ ?_)
  rw [nI_1]
  refine K_at ⟨vp_in_nI (by omega) (by decide), vp_in_nI (by omega) (by decide), ?_⟩
  rw [nI_clamp (n := p) (by omega), nI_clamp (n := 242 * (p + 1) + 2 * line + s) (by omega), hr, e9]
  unfold plN at H
  rcases (hF.2.2.2.2 p hp).2 with ⟨q1, q2⟩ | ⟨q1, q2, q3⟩
  · rw [if_neg (by omega)] at H
    exact bq_t q1 H
  · refine bq_f q1 ?_
    rw [q2]
    by_cases c : t < 1000000000
    · rw [if_pos ⟨q3, c⟩] at H
      refine bq_t (nI_lt c (by omega)) ?_
      rw [nI_add]
      exact H
    · rw [if_neg (fun w => c w.2)] at H
      exact bq_f (nI_nlt (by omega) (by omega)) H
end

theorem CM_mono {S : XS} {M : XM} {as : List Value} {h : XH} {Q Q' : St → Prop} (hq : ∀ τ, Q τ → Q' τ) (H : CM S M as h (qV Q)) : CM S M as h (qV Q') := by
  obtain ⟨r, h', ⟨τ, e1, e2, q⟩, m⟩ := H
  exact ⟨r, h', ⟨τ, e1, e2, hq τ q⟩, m⟩
def sC2 (τ : St) (a b : Nat → Int32) : St := sC (sC τ 4 a) 5 b
theorem sC2_4 (τ : St) (a b x : Nat → Int32) : sC (sC2 τ a b) 4 x = sC2 τ x b := by
  show (τ.1, τ.2.1, va_up (va_up (va_up τ.2.2.1 4 a) 5 b) 4 x, τ.2.2.2) = (τ.1, τ.2.1, va_up (va_up τ.2.2.1 4 x) 5 b, τ.2.2.2)
  rw [va_upc _ (by decide : (5 : Nat) ≠ 4), va_up2]
theorem sC2_5 (τ : St) (a b x : Nat → Int32) : sC (sC2 τ a b) 5 x = sC2 τ a x := sC_sC _ _ _ _
theorem sC2_id (τ : St) : sC2 τ (gC τ 4) (gC τ 5) = τ := by
  unfold sC2
  rw [sC_id, sC_id]
def rvc (ψ : FPar) (mo : Nat → Nat) (p line s : Nat) : Nat → Nat → Nat → Nat
  | 0, _, v => v
  | e + 1, l, v => rvc ψ mo p line s e (l + 1) (rvv ψ mo p line s l v)
section
variable {S : XS} {σ τ : St} {ψ : FPar} {Q : Int32 → St → Prop} {n : Nat}
/-- the costs of the paragraphs, then the table left -/
theorem K_fillM (hF : FMd ψ τ) (h : OKP ψ) (hMB : ∀ p, p < pC ψ → ∃ L W, okL L (pM ψ p) ∧ (∀ ρ, gC ρ 2 = gC τ 2 → gC ρ 3 = gC τ 3 → gY ρ 2 = gY τ 2 → MB ρ p (pM ψ p) L W) ∧ ∀ k, k ≤ pM ψ p → lc L (pM ψ p) W k 0 = nI (pO ψ p k)) (H : ∀ a b C, LSt ψ (sC (sC2 τ a b) 6 C) → (∀ q, q ≤ pC ψ → LTr ψ C q (2 * (pN ψ + 1))) → (TT ψ (pC ψ) 0 0 < 1000000000 → CM S m_Md_tells [.ref 153, .int (nI (pN ψ))] (enc (sC (sC2 τ a b) 6 C)) (qV (fun τ9 => Q (gC τ9 6 0) τ9))) ∧ (¬ TT ψ (pC ψ) 0 0 < 1000000000 → Q (-2) (sC (sC2 τ a b) 6 C))) : CM S m_Md_fill [.ref 153, .int (nI (pN ψ))] (enc τ) (qI Q) := by
  have hC := h.2.2.2.2.2.2.2
  have hN := h.2.2.2.2.2.2.1
  -- the table
  have L73 : ∀ a b, LSt ψ (sC2 τ a b) → ∀ j C, j ≤ pC ψ + 1 → (∀ q, j ≤ q → q ≤ pC ψ → LTr ψ C q (2 * (pN ψ + 1))) → BW S m_Md_fill 73 [some (.ref 153), some (.int (nI (pN ψ))), some (.int (nI j - 1)), none, none, none, none, none, none] [] (enc (sC (sC2 τ a b) 6 C)) (qI Q) := by
    intro a b hS j
    induction j with
    | zero =>
      intro C hj hT
      refine B_Md_fill_73 _ _ _ (bq_t (by decide) ⟨vp_in_nI (n := 0) (by omega) (by decide), ?_⟩)
      have e0 : gC (sC (sC2 τ a b) 6 C) 6 = C := rfl
      have e1 := LTr.at (x := 0) (s := 0) (hT 0 (Nat.zero_le _) (Nat.zero_le _)) (by omega) (by omega)
      have t0 := BN_le (TT_b h (pC ψ) 0 0) (by omega)
      rw [show (0 : Int32).toNatClampNeg = 0 from rfl, e0, show C 0 = nI (TT ψ (pC ψ) 0 0) from e1, e9]
      obtain ⟨H1, H2⟩ := H a b C hS (fun q hq => hT q (Nat.zero_le _) hq)
      by_cases c : TT ψ (pC ψ) 0 0 < 1000000000
      · refine bq_t (nI_lt c (by omega)) ?_
        refine CM_mono (fun τ9 q => ⟨vp_in_nI (n := 0) (by omega) (by decide), q⟩) (H1 c)
      · exact bq_f (nI_nlt (by omega) (by omega)) (H2 c)
    | succ p ih =>
      intro C hj hT
      have hp : p ≤ pC ψ := by omega
      rw [nI_pred]
      refine B_Md_fill_73 _ _ _ (bq_f (nI_pos (by omega)) ?_)
      -- one number of the table
      have CELL : ∀ x s C, x ≤ pN ψ → s ≤ 1 → (∀ q, p + 1 ≤ q → q ≤ pC ψ → LTr ψ C q (2 * (pN ψ + 1))) → LTr ψ C p (2 * x + s) → (∀ C, (∀ q, p + 1 ≤ q → q ≤ pC ψ → LTr ψ C q (2 * (pN ψ + 1))) → LTr ψ C p (2 * x + s + 1) → BW S m_Md_fill 87 [some (.ref 153), some (.int (nI (pN ψ))), some (.int (nI p)), some (.int (nI x)), some (.int (nI s + 1)), none, none, none, none] [] (enc (sC (sC2 τ a b) 6 C)) (qI Q)) → BW S m_Md_fill 87 [some (.ref 153), some (.int (nI (pN ψ))), some (.int (nI p)), some (.int (nI x)), some (.int (nI s)), none, none, none, none] [] (enc (sC (sC2 τ a b) 6 C)) (qI Q) := by
        intro x s C hx hs hT hr K
        have g1 : gY (sC (sC2 τ a b) 6 C) 1 = nI (pC ψ) := hF.1
        -- the number is stored
        have ST : ∀ v, v = nI (TT ψ (pC ψ - p) x s) → CM S m_Md_at [.int (nI p), .int (nI x), .int (nI s)] (enc (sC (sC2 τ a b) 6 C)) (qI (fun v18 τ19 => (vp_in v18 5082) ∧ BW S m_Md_fill 87 [some (.ref 153), some (.int (nI (pN ψ))), some (.int (nI p)), some (.int (nI x)), some (.int (nI s + 1)), none, none, none, none] [] (enc (sC τ19 6 (upd (gC τ19 6) v18.toNatClampNeg v))) (qI Q))) := by
          intro v hv
          refine K_at ⟨vp_in_nI (by omega) (by decide), ?_⟩
          have e0 : gC (sC (sC2 τ a b) 6 C) 6 = C := rfl
          rw [e0, sC_sC, nI_clamp (by omega)]
          refine K _ (fun q h1 h2 i hi => ?_) (fun i hi => ?_)
          · rw [upd_ne _ _ (by omega)]
            exact hT q h1 h2 i hi
          · by_cases e : i = 2 * x + s
            · rw [e, ← Nat.add_assoc, upd_at, hv, show (2 * x + s) / 2 = x by omega, show (2 * x + s) % 2 = s by omega]
            · rw [upd_ne _ _ (by omega)]
              exact hr i (by omega)
        refine B_Md_fill_87 _ _ _ _ _ (bq_f (nI_ge (b := 2) (by omega) (by decide)) ?_)
        rw [g1]
        by_cases c : p = pC ψ
        · refine bq_tn (by rw [c]) ?_
          by_cases c2 : x = pN ψ
          · refine bq_tn (by rw [c2]) (bq_t (nI_le (by omega) (by omega)) (ST _ ?_))
            rw [c, Nat.sub_self]
            show (0 : Int32) = nI (if x = pN ψ then 0 else 1000000000)
            rw [if_pos c2]
            rfl
          · refine bq_fn (fun e => c2 ((nI_eq (by omega) (by omega)).mp e)) (bq_t (nI_le (by omega) (by omega)) (ST _ ?_))
            rw [c, Nat.sub_self]
            show (1000000000 : Int32) = nI (if x = pN ψ then 0 else 1000000000)
            rw [if_neg c2]
            exact e9
        · have hp2 : p < pC ψ := by omega
          obtain ⟨d, hd⟩ : ∃ d, pC ψ - p = d + 1 := ⟨pC ψ - p - 1, by omega⟩
          have ep : pC ψ - (d + 1) = p := by omega
          have eq1 : pC ψ - (p + 1) = d := by omega
          have hm : ∀ x, BN (d * 510000) (TT ψ d x 1) := fun x => TT_b h d x 1
          have hM : d * 510000 ≤ 20000000 := by omega
          have hm30 := h.2.2.1 p
          refine bq_fn (fun e => c ((nI_eq (by omega) (by omega)).mp e)) (bq_f (nI_ge hp2 (by omega)) (K_gone (t := TT ψ d x s) hF h hp2 hx hs (BN_le (TT_b h d x s) (by omega)) ?_ ?_))
          · have := LTr.at (x := x) (s := s) (hT (p + 1) (Nat.le_refl _) (by omega)) hs (by omega)
            rw [eq1] at this
            exact this
          have hr2 : ∀ x, x ≤ pN ψ → gC (sC (sC2 τ a b) 6 C) 6 (242 * (p + 1) + 2 * x + 1) = nI (TT ψ d x 1) := by
            intro x hx
            have := LTr.at (x := x) (s := 1) (hT (p + 1) (Nat.le_refl _) (by omega)) (by omega) (by omega)
            rw [eq1] at this
            exact this
          have L135 : ∀ e l v, l + e = 3 → v ≤ 1000000000 → rvc ψ (fun x => TT ψ d x 1) p x s e l v = TT ψ (d + 1) x s → BW S m_Md_fill 135 [some (.ref 153), some (.int (nI (pN ψ))), some (.int (nI p)), some (.int (nI x)), some (.int (nI s)), some (.int (nI v)), some (.int (nI l)), none, none] [] (enc (sC (sC2 τ a b) 6 C)) (qI Q) := by
            intro e
            induction e with
            | zero =>
              intro l v hl hv hc
              obtain rfl : l = 3 := by omega
              refine B_Md_fill_135 _ _ _ _ _ _ _ (bq_t (by decide) (ST _ ?_))
              rw [hd, ← hc]
              rfl
            | succ e ih2 =>
              intro l v hl hv hc
              refine B_Md_fill_135 _ _ _ _ _ _ _ (bq_f (nI_ge (b := 3) (by omega) (by decide)) ?_)
              have L144 : ∀ e2 k, pM ψ p + 1 - k = e2 → k ≤ pM ψ p + 1 → BW S m_Md_fill 144 [some (.ref 153), some (.int (nI (pN ψ))), some (.int (nI p)), some (.int (nI x)), some (.int (nI s)), some (.int (nI (mnv v (stR ψ (fun x => TT ψ d x 1) p x s l) k))), some (.int (nI l)), some (.int (nI k)), none] [] (enc (sC (sC2 τ a b) 6 C)) (qI Q) := by
                intro e2
                induction e2 with
                | zero =>
                  intro k hk1 hk2
                  obtain rfl : k = pM ψ p + 1 := by omega
                  have g2 : gC (sC (sC2 τ a b) 6 C) 2 p = nI (pM ψ p) := (hF.2.2.2.2 p hp2).1
                  refine B_Md_fill_144 _ _ _ _ _ _ _ _ ⟨vp_in_nI (by omega) (by decide), ?_⟩
                  rw [nI_clamp (n := p) (by omega), g2]
                  refine bq_t (nI_lt (by omega) (by omega)) ?_
                  rw [nI_1]
                  have mv := mnv_v v (stR ψ (fun x => TT ψ d x 1) p x s l) (pM ψ p + 1)
                  exact ih2 (l + 1) _ (by omega) (by omega) hc
                | succ e2 ih3 =>
                  intro k hk1 hk2
                  have g2 : gC (sC (sC2 τ a b) 6 C) 2 p = nI (pM ψ p) := (hF.2.2.2.2 p hp2).1
                  refine B_Md_fill_144 _ _ _ _ _ _ _ _ ⟨vp_in_nI (by omega) (by decide), ?_⟩
                  rw [nI_clamp (n := p) (by omega), g2]
                  refine bq_f (nI_nlt (by omega) (by omega)) (K_std (τ := sC (sC2 τ a b) 6 C) hF h hS hp2 (by omega) hx (by omega) hs hm hM hr2 ?_)
                  have mv := mnv_v v (stR ψ (fun x => TT ψ d x 1) p x s l) k
                  have sb : stR ψ (fun x => TT ψ d x 1) p x s l k ≤ 1000000000 := by
                    unfold stR
                    split
                    · exact Nat.le_refl _
                    · exact BN_le (stP_b h hm (by omega)) (by omega)
                  have ih3 := ih3 (k + 1) (by omega) (by omega)
                  rw [nI_1]
                  by_cases c3 : stR ψ (fun x => TT ψ d x 1) p x s l k < mnv v (stR ψ (fun x => TT ψ d x 1) p x s l) k
                  · have e3 : mnv v (stR ψ (fun x => TT ψ d x 1) p x s l) (k + 1) = stR ψ (fun x => TT ψ d x 1) p x s l k := if_pos c3
                    rw [e3] at ih3
                    exact bq_f (nI_ge c3 (by omega)) ih3
                  · have e3 : mnv v (stR ψ (fun x => TT ψ d x 1) p x s l) (k + 1) = mnv v (stR ψ (fun x => TT ψ d x 1) p x s l) k := if_neg c3
                    rw [e3] at ih3
                    exact bq_t (nI_le (by omega) (by omega)) ih3
              exact L144 _ 0 rfl (by omega)
          refine L135 3 0 _ rfl (BN_le (plN_b (h.2.1 p) (TT_b h d x s)) (by omega)) ?_
          rw [TT_ref h (by omega), ep]
          rfl
      have L79 : ∀ e x C, pN ψ + 1 - x = e → x ≤ pN ψ + 1 → (∀ q, p + 1 ≤ q → q ≤ pC ψ → LTr ψ C q (2 * (pN ψ + 1))) → LTr ψ C p (2 * x) → BW S m_Md_fill 79 [some (.ref 153), some (.int (nI (pN ψ))), some (.int (nI p)), some (.int (nI x)), none, none, none, none, none] [] (enc (sC (sC2 τ a b) 6 C)) (qI Q) := by
        intro e
        induction e with
        | zero =>
          intro x C he hx hT hr
          obtain rfl : x = pN ψ + 1 := by omega
          refine B_Md_fill_79 _ _ _ _ (bq_t (nI_lt (by omega) (by omega)) ?_)
          rw [show nI p + -1 = nI p - 1 from (Int32.sub_eq_add_neg _ _).symm]
          refine ih C (by omega) (fun q h1 h2 => ?_)
          by_cases c : q = p
          · rw [c]; exact hr
          · exact hT q (by omega) h2
        | succ e ih2 =>
          intro x C he hx hT hr
          refine B_Md_fill_79 _ _ _ _ (bq_f (nI_nlt (by omega) (by omega)) ?_)
          refine CELL x 0 C (by omega) (by omega) hT hr (fun C hT hr => ?_)
          rw [nI_1]
          refine CELL x 1 C (by omega) (by omega) hT hr (fun C hT hr => ?_)
          rw [nI_1]
          refine B_Md_fill_87 _ _ _ _ _ (bq_t (by decide) ?_)
          rw [nI_1]
          exact ih2 (x + 1) C (by omega) (by omega) hT (by rw [show 2 * (x + 1) = 2 * x + 1 + 1 by omega]; exact hr)
      exact L79 _ 0 C rfl (by omega) hT (fun i hi => absurd hi (by omega))
  have L14 : ∀ e p a b, pC ψ - p = e → p ≤ pC ψ → (∀ q k, q < p → k ≤ pM ψ q → b (31 * q + k) = nI (pO ψ q k)) → BW S m_Md_fill 14 [some (.ref 153), some (.int (nI (pN ψ))), some (.int (nI p)), none, none, none, none, none, none] [] (enc (sC2 τ a b)) (qI Q) := by
    intro e
    induction e with
    | zero =>
      intro p a b he hp hb
      obtain rfl : p = pC ψ := by omega
      have g1 : gY (sC2 τ a b) 1 = nI (pC ψ) := hF.1
      refine B_Md_fill_14 _ _ _ ?_
      rw [g1]
      refine bq_t (nI_le (by omega) (by omega)) ?_
      have q := L73 a b (fun q k h1 h2 => hb q k h1 h2) (pC ψ + 1) (gC (sC2 τ a b) 6) (by omega) (fun q h1 h2 => absurd h1 (by omega))
      rw [sC_id, nI_pred] at q
      exact q
    | succ e ih =>
      intro p a b he hp hb
      have g1 : gY (sC2 τ a b) 1 = nI (pC ψ) := hF.1
      have hm30 := h.2.2.1 p
      obtain ⟨L, W, hL, hMB1, hlc⟩ := hMB p (by omega)
      refine B_Md_fill_14 _ _ _ ?_
      rw [g1]
      refine bq_f (nI_ge (by omega) (by omega)) (K_mbreaks (hMB1 _ rfl rfl rfl) (fun C hC4 => ?_))
      rw [sC2_4]
      have L29 : ∀ e2 k b, pM ψ p + 1 - k = e2 → k ≤ pM ψ p + 1 → (∀ q k, q < p → k ≤ pM ψ q → b (31 * q + k) = nI (pO ψ q k)) → (∀ j, j < k → b (31 * p + j) = nI (pO ψ p j)) → BW S m_Md_fill 29 [some (.ref 153), some (.int (nI (pN ψ))), some (.int (nI p)), some (.int (nI k)), none, none, none, none, none] [] (enc (sC2 τ C b)) (qI Q) := by
        intro e2
        induction e2 with
        | zero =>
          intro k b h1 h2 hb hk
          obtain rfl : k = pM ψ p + 1 := by omega
          have g2 : gC (sC2 τ C b) 2 p = nI (pM ψ p) := (hF.2.2.2.2 p (by omega)).1
          refine B_Md_fill_29 _ _ _ _ ⟨vp_in_nI (by omega) (by decide), ?_⟩
          rw [nI_clamp (n := p) (by omega), g2]
          refine bq_t (nI_lt (by omega) (by omega)) ?_
          rw [nI_1]
          refine ih (p + 1) C b (by omega) (by omega) (fun q k h1 h2 => ?_)
          by_cases c : q = p
          · rw [c] at h2 ⊢
            exact hk k (by omega)
          · exact hb q k (by omega) h2
        | succ e2 ih2 =>
          intro k b h1 h2 hb hk
          have g2 : gC (sC2 τ C b) 2 p = nI (pM ψ p) := (hF.2.2.2.2 p (by omega)).1
          have g4 : gC (sC2 τ C b) 4 = C := rfl
          have g5 : gC (sC2 τ C b) 5 = b := rfl
          have hc := hC4 0 k (by omega) (by omega)
          rw [show 31 * 0 + k = k by omega, hlc k (by omega)] at hc
          refine B_Md_fill_29 _ _ _ _ ⟨vp_in_nI (by omega) (by decide), ?_⟩
          rw [nI_clamp (n := p) (by omega), g2]
          refine bq_f (nI_nlt (by omega) (by omega)) ?_
          rw [show (31 : Int32) = nI 31 from rfl, nI_mul, nI_add, nI_clamp (n := 31 * p + k) (by omega), nI_clamp (n := k) (by omega), g4, g5, hc, sC2_5, nI_1]
          refine ⟨vp_in_nI (by omega) (by decide), vp_in_nI (by omega) (by decide), ih2 (k + 1) _ (by omega) (by omega) (fun q j h1 h2 => ?_) (fun j hj => ?_)⟩
          · have := h.2.2.1 q
            rw [upd_ne _ _ (by omega)]
            exact hb q j h1 h2
          · by_cases ej : j = k
            · rw [ej, upd_at]
            · rw [upd_ne _ _ (by omega)]
              exact hk j (by omega)
      exact L29 _ 0 b rfl (by omega) hb (fun j hj => absurd hj (by omega))
  refine C_Md_fill _ _ (B_Md_fill_0 _ _ (K_isT ⟨nI_le (a := 1) hN.1 (by omega), nI_le (b := 120) hN.2 (by decide)⟩ (bq_fn (by decide) ?_)))
  have q := L14 _ 0 (gC τ 4) (gC τ 5) rfl (by omega) (fun q k h1 _ => absurd h1 (by omega))
  rw [sC2_id] at q
  exact q
end
