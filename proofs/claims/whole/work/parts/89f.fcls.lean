/-! FILLING: the class's tables. -/
theorem nI_div {a g : Nat} (ha : a < 2 ^ 31) (hg : g < 2 ^ 31) : nI a / nI g = nI (a / g) := by
  have hq : a / g < 2 ^ 31 := Nat.lt_of_le_of_lt (Nat.div_le_self a g) ha
  refine Int32.toInt_inj.mp ?_
  rw [Int32.toInt_div, nI_toInt ha, nI_toInt hg, nI_toInt hq, Int.tdiv_eq_ediv_of_nonneg (by omega)]
  have e : ((a / g : Nat) : Int) = (a : Int) / (g : Int) := Int.natCast_ediv a g
  rw [← e]
  clear e
  generalize a / g = c at hq ⊢
  exact Int.bmod_eq_of_le (by omega) (by omega)
theorem nI_mod {a g : Nat} (ha : a < 2 ^ 31) (hg : g < 2 ^ 31) : nI a - nI a / nI g * nI g = nI (a % g) := by
  rw [nI_div ha hg, nI_mul, nI_sub (Nat.div_mul_le_self a g)]
  have e := Nat.div_add_mod a g
  rw [Nat.mul_comm] at e
  rw [show a - a / g * g = a % g by omega]
theorem nI_ite {a b : Nat} (ha : a < 2 ^ 31) (hb : b < 2 ^ 31) : (if nI a < nI b then nI a else nI b) = nI (if a < b then a else b) := by
  by_cases c : a < b
  · rw [if_pos c, if_pos (nI_lt c hb)]
  · rw [if_neg c, if_neg (nI_nlt (by omega) ha)]
theorem mod_wd {b g : Nat} (hg : 5 ≤ g) : (b + 1) % g = 0 ↔ b % g = g - 1 := by
  have l := Nat.mod_lt b (show g > 0 by omega)
  have e : (b + 1) % g = (b % g + 1) % g := by rw [Nat.add_mod, Nat.mod_eq_of_lt (show 1 < g by omega)]
  rw [e]
  by_cases c : b % g + 1 = g
  · rw [c, Nat.mod_self]
    omega
  · rw [Nat.mod_eq_of_lt (by omega)]
    omega
def FC (ψ : FPar) (τ : St) : Prop := gX τ 4 = nI (pC ψ) ∧ gX τ 6 = nI (pG ψ) ∧ gX τ 7 = nI (pL ψ) ∧ gX τ 8 = nI (pW ψ) ∧ (∀ p, p < pC ψ → gA τ 2 p = nI (pM ψ p) ∧ ((gA τ 1 p = -1 ∧ pK ψ p = 1000000000) ∨ (¬ gA τ 1 p = -1 ∧ gA τ 1 p = nI (pK ψ p))))
theorem e9 : (1000000000 : Int32) = nI 1000000000 := by decide
theorem plN_le {a b : Nat} : plN a b ≤ 1000000000 ∨ plN a b = a + b := by
  unfold plN
  split
  · exact Or.inr rfl
  · exact Or.inl (Nat.le_refl _)
theorem plN_0 {c x : Nat} (hx : x ≤ 1000000000) : plN (0 * c) x = x := by
  unfold plN
  by_cases y : x < 1000000000
  · rw [if_pos (by omega)]; omega
  · rw [if_neg (by omega)]; omega
theorem sA_id (σ : St) (k : Nat) : sA σ k (gA σ k) = σ := by
  show ((σ.1.1, va_up σ.1.2.1 k (σ.1.2.1 k), σ.1.2.2), σ.2) = σ
  rw [va_ups]
theorem gB_sB_n (σ : St) (k : Nat) {i j : Nat} (f : Nat → Int32) (h : j ≠ i) : gB (sB σ k i f) k j = gB σ k j := by
  rw [gs_B_B, if_pos rfl, va_upn _ _ h]
section
variable {S : XS} {τ : St} {ψ : FPar} {Q : Int32 → St → Prop} {p b n : Nat}
theorem K_plN {x y : Nat} (hx : x ≤ 1000000000) (hy : y ≤ 1000000000) (H : Q (nI (plN x y)) τ) : CM S m_TH_plus [.int (nI x), .int (nI y)] (enc τ) (qI Q) := by
  refine C_TH_plus _ _ _ (B_TH_plus_0 _ _ _ ?_)
  rw [e9]
  unfold plN at H
  by_cases c1 : x < 1000000000
  · refine bq_f (nI_ge c1 (by omega)) ?_
    by_cases c2 : y < 1000000000
    · rw [if_pos ⟨c1, c2⟩] at H
      refine bq_t (nI_lt c2 (by omega)) ?_
      rw [nI_add]
      exact H
    · rw [if_neg (fun w => c2 w.2)] at H
      exact bq_f (nI_nlt (by omega) (by omega)) H
  · rw [if_neg (fun w => c1 w.1)] at H
    exact bq_t (nI_le (by omega) (by omega)) H
theorem K_cut (hF : FC ψ τ) (h : OKP ψ) (hp : p < pC ψ) (H : Q (nI (pK ψ p)) τ) : CM S m_Mn_cutCost [.ref 3, .int (nI p)] (enc τ) (qI Q) := by
  have hC := h.2.2.2.2.2.2.2
  refine C_Mn_cutCost _ _ (B_Mn_cutCost_0 _ _ (bq_f (nI_pos (by omega)) ?_))
  rw [hF.1]
  refine bq_f (nI_ge hp (by omega)) ⟨vp_in_nI (by omega) (by decide), ?_⟩
  rw [nI_clamp (by omega)]
  rcases (hF.2.2.2.2 p hp).2 with ⟨e1, e2⟩ | ⟨e1, e2⟩
  · rw [e2] at H
    exact bq_tn e1 H
  · rw [← e2] at H
    exact bq_fn e1 H
theorem K_words (hF : FC ψ τ) (h : OKP ψ) (hp : p < pC ψ) (H : Q (nI (pM ψ p)) τ) : CM S m_Mn_wordsOf [.ref 3, .int (nI p)] (enc τ) (qI Q) := by
  have hC := h.2.2.2.2.2.2.2
  refine C_Mn_wordsOf _ _ (B_Mn_wordsOf_0 _ _ (bq_f (nI_pos (by omega)) ?_))
  rw [hF.1]
  refine bq_t (nI_lt hp (by omega)) ⟨vp_in_nI (by omega) (by decide), ?_⟩
  rw [nI_clamp (by omega), (hF.2.2.2.2 p hp).1]
  exact H
theorem K_bc (hF : FC ψ τ) (h : OKP ψ) (hp : p < pC ψ) (hn : n ≤ 30) (hB : gB τ 1 p n = nI (pO ψ p n)) (H : Q (nI (pO ψ p n)) τ) : CM S m_Mn_breakCost [.ref 3, .int (nI p), .int (nI n)] (enc τ) (qI Q) := by
  have hC := h.2.2.2.2.2.2.2
  refine C_Mn_breakCost _ _ _ (B_Mn_breakCost_0 _ _ _ (bq_f (nI_pos (by omega)) ?_))
  rw [hF.1]
  refine bq_f (nI_ge hp (by omega)) (bq_f (nI_pos (by omega)) (bq_t (nI_le (b := 30) hn (by decide)) ⟨vp_in_nI (by omega) (by decide), vp_in_nI (by omega) (by decide), ?_⟩))
  rw [nI_clamp (n := p) (by omega), nI_clamp (n := n) (by omega), hB]
  exact H
theorem K_wd (hF : FC ψ τ) (h : OKP ψ) (hb : b ≤ 120) (hn : n ≤ 30) (H : Q (nI (wdw ψ b n)) τ) : CM S m_Mn_widowCost [.ref 3, .int (nI b), .int (nI n)] (enc τ) (qI Q) := by
  have hG := h.2.2.2.1
  refine C_Mn_widowCost _ _ _ (B_Mn_widowCost_0 _ _ _ ?_)
  unfold wdw at H
  by_cases c : n < 2
  · rw [if_pos c] at H
    exact bq_t (nI_lt (b := 2) c (by decide)) H
  · rw [if_neg c] at H
    refine bq_f (nI_nlt (b := 2) (a := n) (by omega) (by omega)) ?_
    rw [hF.2.1, hF.2.2.2.1]
    refine bq_t (nI_le (a := 1) (by omega) (by omega)) ⟨nI_ne0 (by omega) (by omega), ?_⟩
    rw [nI_1, nI_add, nI_sub1 (by omega), nI_mod (a := b + 1) (by omega) (by omega), nI_mod (a := b + n - 1) (by omega) (by omega)]
    have lt1 := Nat.mod_lt (b + 1) (show pG ψ > 0 by omega)
    have lt2 := Nat.mod_lt (b + n - 1) (show pG ψ > 0 by omega)
    by_cases c1 : b % pG ψ = pG ψ - 1
    · rw [if_pos c1] at H
      refine bq_tn (by rw [(mod_wd hG.1).mpr c1]; rfl) ?_
      by_cases c2 : (b + n - 1) % pG ψ = 0
      · rw [if_pos c2] at H
        refine bq_tn (by rw [c2]; rfl) ?_
        rw [Int32.zero_add, nI_add]
        exact H
      · rw [if_neg c2] at H
        refine bq_fn (nI_ne0 (by omega) (by omega)) ?_
        rw [Int32.zero_add]
        exact H
    · rw [if_neg c1] at H
      have c3 : ¬ (b + 1) % pG ψ = 0 := fun e => c1 ((mod_wd hG.1).mp e)
      refine bq_fn (nI_ne0 (by omega) (by omega)) ?_
      by_cases c2 : (b + n - 1) % pG ψ = 0
      · rw [if_pos c2, Nat.zero_add] at H
        refine bq_tn (by rw [c2]; rfl) ?_
        rw [Int32.zero_add]
        exact H
      · rw [if_neg c2] at H
        exact bq_fn (nI_ne0 (by omega) (by omega)) H
variable {mo : Nat → Nat} {M : Nat}
theorem K_cil (hF : FC ψ τ) (h : OKP ψ) (hp : p < pC ψ) (hm : ∀ x, BN M (mo x)) (hM : M ≤ 20000000) (hr : ∀ x, x ≤ pN ψ → gB τ 3 (p + 1) x = nI (mo x)) (hB : gB τ 1 p n = nI (pO ψ p n)) (hn : n ≤ 30) (hb : b + n ≤ pN ψ) (H : Q (nI (stP ψ mo p 0 b n)) τ) : CM S m_Se_costInLines [.ref 82, .ref 3, .int (nI p), .int (nI b), .int (nI n)] (enc τ) (qI Q) := by
  have hC := h.2.2.2.2.2.2.2
  have hN := h.2.2.2.2.2.2.1
  have w1 := wdw_b h b n
  have w3 := h.1 p n
  have w4 := hm (b + n)
  unfold BN at w3 w4
  refine C_Se_costInLines _ _ _ _ (B_Se_costInLines_0 _ _ _ _ (K_bc hF h hp hn hB ?_))
  rw [e9]
  unfold stP at H
  by_cases c : pO ψ p n < 1000000000
  · refine bq_t (nI_lt c (by omega)) (K_wd hF h (by omega) hn ?_)
    rw [nI_1, nI_add, nI_add, nI_clamp (n := p + 1) (by omega), nI_clamp (n := b + n) (by omega), hr _ hb]
    refine ⟨vp_in_nI (by omega) (by decide), vp_in_nI (by omega) (by decide), K_plN (by omega) (by omega) ?_⟩
    unfold plN
    by_cases c2 : mo (b + n) < 1000000000
    · rw [if_pos ⟨hb, c, c2⟩, Nat.zero_mul, Nat.add_zero] at H
      rw [if_pos ⟨by omega, c2⟩]
      exact H
    · rw [if_neg (fun w => c2 w.2.2)] at H
      rw [if_neg (fun w => c2 w.2)]
      exact H
  · rw [if_neg (fun w => c w.2.1)] at H
    exact bq_f (nI_nlt (by omega) (by omega)) H
theorem K_uc (hF : FC ψ τ) (h : OKP ψ) (hp : p < pC ψ) (hm : ∀ x, BN M (mo x)) (hM : M ≤ 20000000) (hr : ∀ x, x ≤ pN ψ → gB τ 3 (p + 1) x = nI (mo x)) (hB : ∀ n, n ≤ 30 → gB τ 1 p n = nI (pO ψ p n)) (hb : b ≤ pN ψ) (H : Q (nI (UCn ψ mo p b)) τ) : CM S m_Se_leastUncut [.ref 82, .ref 3, .int (nI p), .int (nI b), .int (nI (pN ψ))] (enc τ) (qI Q) := by
  have hN := h.2.2.2.2.2.2.1
  have hm30 := h.2.2.1 p
  refine C_Se_leastUncut _ _ _ _ (B_Se_leastUncut_0 _ _ _ _ (K_words hF h hp ?_))
  have e1 : (if nI (pN ψ) - nI b < nI (pM ψ p) then nI (pN ψ) - nI b else nI (pM ψ p)) = nI (min (pM ψ p) (pN ψ - b)) := by
    rw [nI_sub hb, nI_ite (by omega) (by omega)]
    congr 1
    by_cases c : pN ψ - b < pM ψ p
    · rw [if_pos c]; omega
    · rw [if_neg c]; omega
  rw [e1, e9]
  unfold UCn at H
  have hK : min (pM ψ p) (pN ψ - b) ≤ 30 ∧ b + min (pM ψ p) (pN ψ - b) ≤ pN ψ := by omega
  generalize min (pM ψ p) (pN ψ - b) = K at H hK ⊢
  have L : ∀ d k, K + 1 - k = d → k ≤ K + 1 → BW S m_Se_leastUncut 21 [some (.ref 82), some (.ref 3), some (.int (nI p)), some (.int (nI b)), none, some (.int (nI K)), some (.int (nI (mnv 1000000000 (stP ψ mo p 0 b) k))), some (.int (nI k))] [] (enc τ) (qI Q) := by
    intro d
    induction d with
    | zero =>
      intro k hd hk
      obtain rfl : k = K + 1 := by omega
      exact B_Se_leastUncut_21 _ _ _ _ _ _ (bq_t (nI_lt (by omega) (by omega)) H)
    | succ d ih =>
      intro k hd hk
      refine B_Se_leastUncut_21 _ _ _ _ _ _ (bq_f (nI_nlt (by omega) (by omega)) (K_cil hF h hp hm hM hr (hB k (by omega)) (by omega) (by omega) ?_))
      have b1 := BN_le (stP_0 h (p := p) (b := b) (n := k) hm) (by omega)
      have b2 := mnv_v 1000000000 (stP ψ mo p 0 b) k
      rw [nI_ite (by omega) (by omega), nI_1]
      exact ih (k + 1) (by omega) (by omega)
  exact L _ 0 rfl (by omega)
end
def ldc (ψ : FPar) (mo : Nat → Nat) (p line : Nat) : Nat → Nat → Nat → Nat
  | 0, _, v => v
  | e + 1, l, v => ldc ψ mo p line e (l + 1) (ldv ψ mo p line l v)
theorem ldc_stop {ψ : FPar} {mo : Nat → Nat} {p line : Nat} : ∀ e l v, pN ψ < line + l → ldc ψ mo p line e l v = v := by
  intro e
  induction e with
  | zero => intro l v _; rfl
  | succ e ih =>
    intro l v hl
    show ldc ψ mo p line e (l + 1) (ldv ψ mo p line l v) = v
    rw [ih (l + 1) _ (by omega)]
    unfold ldv
    rw [if_neg (by omega)]
section
variable {S : XS} {τ : St} {ψ : FPar} {Q : St → Prop} {p d : Nat}
theorem K_wf (hF : FC ψ τ) (h : OKP ψ) (hd : p + (d + 1) = pC ψ) (hB : ∀ n, n ≤ 30 → gB τ 1 p n = nI (pO ψ p n)) (hr : ∀ x, x ≤ pN ψ → gB τ 3 (p + 1) x = nI (TT ψ d x 1)) (ho : gA τ 4 (p + 1) = nI (TT ψ d 0 0)) (H : ∀ u r, (∀ x, x ≤ pN ψ → r x = nI (TT ψ (d + 1) x 1)) → Q (sA (sB (sA τ 5 u) 3 p r) 4 (upd (gA τ 4) p (nI (TT ψ (d + 1) 0 0))))) : CM S m_Se_weighFrom [.ref 82, .ref 3, .int (nI p), .int (nI (pN ψ))] (enc τ) (qV Q) := by
  have hC := h.2.2.2.2.2.2.2
  have hN := h.2.2.2.2.2.2.1
  have ep : pC ψ - (d + 1) = p := by omega
  have hp : p < pC ψ := by omega
  have hM : d * 510000 ≤ 20000000 := by omega
  have hm : ∀ x, BN (d * 510000) (TT ψ d x 1) := fun x => TT_b h d x 1
  have t1 : ∀ x, TT ψ d x 1 ≤ 1000000000 := fun x => BN_le (hm x) (by omega)
  have t0 := BN_le (TT_b h d 0 0) (by omega)
  have kb := BN_le (h.2.1 p) (by omega)
  have ub : ∀ x, UCn ψ (fun x => TT ψ d x 1) p x ≤ 1000000000 := fun x => BN_le (UC_b h hm) (by omega)
  refine C_Se_weighFrom _ _ _ (B_Se_weighFrom_0 _ _ _ (K_cut hF h hp ?_))
  -- the last loop
  have L41 : ∀ u, (∀ x, x ≤ pN ψ → u x = nI (UCn ψ (fun x => TT ψ d x 1) p x)) → ∀ e x r, pN ψ + 1 - x = e → x ≤ pN ψ + 1 → (∀ j, j < x → r j = nI (TT ψ (d + 1) j 1)) → BW S m_Se_weighFrom 41 [some (.ref 82), some (.ref 3), some (.int (nI p)), some (.int (nI (pN ψ))), some (.int (nI (pK ψ p))), some (.int (nI x)), none, none] [] (enc (sB (sA τ 5 u) 3 p r)) (qV Q) := by
    intro u hu e
    induction e with
    | zero =>
      intro x r he hx hrr
      obtain rfl : x = pN ψ + 1 := by omega
      refine B_Se_weighFrom_41 _ _ _ _ _ (bq_t (nI_lt (by omega) (by omega)) ?_)
      have g4 : gA (sB (sA τ 5 u) 3 p r) 4 = gA τ 4 := rfl
      have g5 : gA (sB (sA τ 5 u) 3 p r) 5 = u := rfl
      rw [nI_1, nI_clamp (n := p + 1) (by omega), g4, ho]
      refine ⟨vp_in_nI (by omega) (by decide), K_plN kb t0 ⟨vp_in_nI (n := 0) (by omega) (by decide), vp_in_nI (by omega) (by decide), ?_⟩⟩
      have pb := BN_le (plN_b (h.2.1 p) (TT_b h d 0 0)) (by omega)
      have u0 := ub 0
      rw [g4, g5, show (0 : Int32).toNatClampNeg = 0 from rfl, hu 0 (by omega), nI_clamp (n := p) (by omega), nI_ite (by omega) (by omega)]
      have q := H u r (fun x hx => hrr x (by omega))
      rw [TT_s, if_pos rfl, ep] at q
      unfold ldv at q
      rw [if_pos (by omega), plN_0 (by rw [Nat.add_zero]; exact u0), Nat.add_zero] at q
      exact q
    | succ e ih =>
      intro x r he hx hrr
      refine B_Se_weighFrom_41 _ _ _ _ _ (bq_f (nI_nlt (by omega) (by omega)) ?_)
      have g3 : gB (sB (sA τ 5 u) 3 p r) 3 (p + 1) = gB τ 3 (p + 1) := gB_sB_n (sA τ 5 u) 3 r (by omega)
      rw [nI_1, nI_clamp (n := p + 1) (by omega), nI_clamp (n := x) (by omega), g3, hr x (by omega)]
      refine ⟨vp_in_nI (by omega) (by decide), vp_in_nI (by omega) (by decide), K_plN kb (t1 x) ?_⟩
      have FIN : ∀ v, v = TT ψ (d + 1) x 1 → (vp_in (nI p) 21) ∧ (vp_in (nI x) 121) ∧ BW S m_Se_weighFrom 41 [some (.ref 82), some (.ref 3), some (.int (nI p)), some (.int (nI (pN ψ))), some (.int (nI (pK ψ p))), some (.int (nI x + 1)), none, none] [] (enc (sB (sB (sA τ 5 u) 3 p r) 3 (nI p).toNatClampNeg (upd (gB (sB (sA τ 5 u) 3 p r) 3 (nI p).toNatClampNeg) (nI x).toNatClampNeg (nI v)))) (qV Q) := by
        intro v hv
        refine ⟨vp_in_nI (by omega) (by decide), vp_in_nI (by omega) (by decide), ?_⟩
        rw [nI_clamp (n := p) (by omega), nI_clamp (n := x) (by omega), gB_sB, sB_sB, nI_1]
        refine ih (x + 1) _ (by omega) (by omega) (fun j hj => ?_)
        by_cases ej : j = x
        · rw [ej, upd_at, hv]
        · rw [upd_ne _ _ ej]
          exact hrr j (by omega)
      have L68 : ∀ e l v, l + e = 3 → v ≤ 1000000000 → ldc ψ (fun x => TT ψ d x 1) p x e l v = TT ψ (d + 1) x 1 → BW S m_Se_weighFrom 68 [some (.ref 82), some (.ref 3), some (.int (nI p)), some (.int (nI (pN ψ))), some (.int (nI (pK ψ p))), some (.int (nI x)), some (.int (nI v)), some (.int (nI l))] [] (enc (sB (sA τ 5 u) 3 p r)) (qV Q) := by
        intro e
        induction e with
        | zero =>
          intro l v hl hv hc
          obtain rfl : l = 3 := by omega
          exact B_Se_weighFrom_68 _ _ _ _ _ _ _ (bq_t (by decide) (FIN v hc))
        | succ e ih2 =>
          intro l v hl hv hc
          refine B_Se_weighFrom_68 _ _ _ _ _ _ _ (bq_f (nI_nlt (a := 2) (by omega) (by decide)) ?_)
          rw [nI_add]
          by_cases c : x + l ≤ pN ψ
          · refine bq_f (nI_nlt c (by omega)) ?_
            have g7 : gX (sB (sA τ 5 u) 3 p r) 7 = nI (pL ψ) := hF.2.2.1
            have g5 : gA (sB (sA τ 5 u) 3 p r) 5 = u := rfl
            have lb := lp_b h (l := l) (by omega)
            rw [g7, g5, nI_mul, nI_clamp (n := x + l) (by omega), hu _ c]
            refine ⟨vp_in_nI (by omega) (by decide), K_plN (by omega) (ub _) ?_⟩
            have pb := BN_le (plN_b (A := 200000) (Or.inl lb) (UC_b h (p := p) (b := x + l) hm)) (by omega)
            rw [nI_ite (by omega) (by omega), nI_1]
            refine ih2 (l + 1) _ (by omega) (by split <;> omega) ?_
            rw [← hc]
            show _ = ldc ψ (fun x => TT ψ d x 1) p x e (l + 1) (ldv ψ (fun x => TT ψ d x 1) p x l v)
            unfold ldv
            rw [if_pos c]
          · refine bq_t (nI_lt (by omega) (by omega)) (FIN v ?_)
            rw [← hc, ldc_stop _ _ _ (by omega)]
      refine L68 3 0 _ rfl (BN_le (plN_b (h.2.1 p) (hm x)) (by omega)) ?_
      rw [TT_s, if_neg (by decide), ep]
      rfl
  have L10 : ∀ e x u, pN ψ + 1 - x = e → x ≤ pN ψ + 1 → (∀ j, j < x → u j = nI (UCn ψ (fun x => TT ψ d x 1) p j)) → BW S m_Se_weighFrom 10 [some (.ref 82), some (.ref 3), some (.int (nI p)), some (.int (nI (pN ψ))), some (.int (nI (pK ψ p))), some (.int (nI x)), none, none] [] (enc (sA τ 5 u)) (qV Q) := by
    intro e
    induction e with
    | zero =>
      intro x u he hx hu
      obtain rfl : x = pN ψ + 1 := by omega
      refine B_Se_weighFrom_10 _ _ _ _ _ (bq_t (nI_lt (by omega) (by omega)) ?_)
      have q := L41 u (fun x hx => hu x (by omega)) (pN ψ + 1) 0 (gB (sA τ 5 u) 3 p) (by omega) (by omega) (fun j hj => absurd hj (by omega))
      rw [sB_self] at q
      exact q
    | succ e ih =>
      intro x u he hx hu
      refine B_Se_weighFrom_10 _ _ _ _ _ (bq_f (nI_nlt (by omega) (by omega)) (K_uc (τ := sA τ 5 u) (mo := fun x => TT ψ d x 1) hF h hp hm hM hr hB (by omega) ⟨vp_in_nI (by omega) (by decide), ?_⟩))
      rw [nI_clamp (by omega), sA_sA, nI_1]
      refine ih (x + 1) _ (by omega) (by omega) (fun j hj => ?_)
      by_cases ej : j = x
      · rw [ej, upd_at]
      · rw [upd_ne _ _ ej]
        exact hu j (by omega)
  have q := L10 (pN ψ + 1) 0 (gA τ 5) (by omega) (by omega) (fun j hj => absurd hj (by omega))
  rw [sA_id] at q
  exact q
end
