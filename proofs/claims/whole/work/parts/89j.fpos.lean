/-! FILLING: where the paragraphs stand. -/
def moF (ψ : FPar) (p : Nat) : Nat → Nat := fun x => TT ψ (pC ψ - (p + 1)) x 1
def chP (ψ : FPar) (p : Nat) (ls : Nat × Nat) : Option Nat := chl ψ (moF ψ p) p ls.1 ls.2 (TT ψ (pC ψ - p) ls.1 ls.2) 3 0
def nP (ψ : FPar) (p : Nat) (ls : Nat × Nat) (l : Nat) : Nat := fnd (stR ψ (moF ψ p) p ls.1 ls.2 l) (TT ψ (pC ψ - p) ls.1 ls.2) (pM ψ p + 1) 0
def posP (ψ : FPar) : Nat → Nat × Nat
  | 0 => (0, 0)
  | p + 1 => match chP ψ p (posP ψ p) with
    | none => posP ψ p
    | some l => ((posP ψ p).1 + l + nP ψ p (posP ψ p) l, 1)
def layA (A : Nat → Int32) (b : Nat) (g : Nat → Int32) : Nat → Nat → Int32
  | 0 => A
  | k + 1 => upd (layA A b g k) (b + k) (g k)
def arrP (ψ : FPar) (gg : Nat → Nat → Nat → Int32) (A : Nat → Int32) : Nat → Nat → Int32
  | 0 => A
  | p + 1 => match chP ψ p (posP ψ p) with
    | none => arrP ψ gg A p
    | some l => layA (arrP ψ gg A p) ((posP ψ p).1 + l) (gg p (nP ψ p (posP ψ p) l)) (nP ψ p (posP ψ p) l)
def rcd (ψ : FPar) (p : Nat) : Int32 × Int32 × Int32 × Int32 := match chP ψ p (posP ψ p) with
  | none => (1, 0, -1, 0)
  | some l => (0, nI l, if nP ψ p (posP ψ p) l = 0 then -1 else nI ((posP ψ p).1 + l), nI (nP ψ p (posP ψ p) l))
section
variable {ψ : FPar} {p l : Nat} {gg : Nat → Nat → Nat → Int32} {A : Nat → Int32}
theorem posP_n (h : chP ψ p (posP ψ p) = none) : posP ψ (p + 1) = posP ψ p := by
  show (match chP ψ p (posP ψ p) with | none => posP ψ p | some l => ((posP ψ p).1 + l + nP ψ p (posP ψ p) l, 1)) = _
  rw [h]
theorem posP_s (h : chP ψ p (posP ψ p) = some l) : posP ψ (p + 1) = ((posP ψ p).1 + l + nP ψ p (posP ψ p) l, 1) := by
  show (match chP ψ p (posP ψ p) with | none => posP ψ p | some l => ((posP ψ p).1 + l + nP ψ p (posP ψ p) l, 1)) = _
  rw [h]
theorem arrP_n (h : chP ψ p (posP ψ p) = none) : arrP ψ gg A (p + 1) = arrP ψ gg A p := by
  show (match chP ψ p (posP ψ p) with | none => arrP ψ gg A p | some l => layA (arrP ψ gg A p) ((posP ψ p).1 + l) (gg p (nP ψ p (posP ψ p) l)) (nP ψ p (posP ψ p) l)) = _
  rw [h]
theorem arrP_s (h : chP ψ p (posP ψ p) = some l) : arrP ψ gg A (p + 1) = layA (arrP ψ gg A p) ((posP ψ p).1 + l) (gg p (nP ψ p (posP ψ p) l)) (nP ψ p (posP ψ p) l) := by
  show (match chP ψ p (posP ψ p) with | none => arrP ψ gg A p | some l => layA (arrP ψ gg A p) ((posP ψ p).1 + l) (gg p (nP ψ p (posP ψ p) l)) (nP ψ p (posP ψ p) l)) = _
  rw [h]
theorem rcd_n (h : chP ψ p (posP ψ p) = none) : rcd ψ p = (1, 0, -1, 0) := by
  unfold rcd
  rw [h]
theorem rcd_s (h : chP ψ p (posP ψ p) = some l) : rcd ψ p = (0, nI l, if nP ψ p (posP ψ p) l = 0 then -1 else nI ((posP ψ p).1 + l), nI (nP ψ p (posP ψ p) l)) := by
  unfold rcd
  rw [h]
end
theorem chl_s {ψ : FPar} {mo : Nat → Nat} {p line s due l : Nat} : ∀ e l0, chl ψ mo p line s due e l0 = some l → l0 ≤ l ∧ l < l0 + e ∧ fnd (stR ψ mo p line s l) due (pM ψ p + 1) 0 ≤ pM ψ p := by
  intro e
  induction e with
  | zero => intro l0 h; exact absurd h (by simp [chl])
  | succ e ih =>
    intro l0 h
    have h : (if fnd (stR ψ mo p line s l0) due (pM ψ p + 1) 0 ≤ pM ψ p then some l0 else chl ψ mo p line s due e (l0 + 1)) = some l := h
    by_cases c : fnd (stR ψ mo p line s l0) due (pM ψ p + 1) 0 ≤ pM ψ p
    · rw [if_pos c] at h
      obtain rfl : l0 = l := Option.some.inj h
      exact ⟨Nat.le_refl _, by omega, c⟩
    · rw [if_neg c] at h
      obtain ⟨h1, h2, h3⟩ := ih (l0 + 1) h
      exact ⟨by omega, by omega, h3⟩
theorem chl_n {ψ : FPar} {mo : Nat → Nat} {p line s due l : Nat} : ∀ e l0, chl ψ mo p line s due e l0 = none → l0 ≤ l → l < l0 + e → ¬ fnd (stR ψ mo p line s l) due (pM ψ p + 1) 0 ≤ pM ψ p := by
  intro e
  induction e with
  | zero => intro l0 _ h1 h2; omega
  | succ e ih =>
    intro l0 h h1 h2
    have h : (if fnd (stR ψ mo p line s l0) due (pM ψ p + 1) 0 ≤ pM ψ p then some l0 else chl ψ mo p line s due e (l0 + 1)) = none := h
    by_cases c : fnd (stR ψ mo p line s l0) due (pM ψ p + 1) 0 ≤ pM ψ p
    · rw [if_pos c] at h
      exact absurd h (by simp)
    · rw [if_neg c] at h
      by_cases e : l = l0
      · rw [e]; exact c
      · exact ih (l0 + 1) h (by omega) (by omega)
def PosOK (ψ : FPar) (p : Nat) (ls : Nat × Nat) : Prop := ls.1 ≤ pN ψ ∧ ls.2 ≤ 1 ∧ (ls.2 = 0 → ls.1 = 0) ∧ TT ψ (pC ψ - p) ls.1 ls.2 < 1000000000
theorem stR_eq {ψ : FPar} {mo : Nat → Nat} {p line s l : Nat} (h : l = 0 ∨ s = 1) : stR ψ mo p line s l = stP ψ mo p l (line + l) := by
  funext n
  exact if_neg (by omega)
section
variable {ψ : FPar} {p l : Nat} {ls : Nat × Nat}
theorem moF_b (h : OKP ψ) : ∀ x, BN ((pC ψ - (p + 1)) * 510000) (moF ψ p x) := fun x => TT_b h _ x 1
theorem moF_M (h : OKP ψ) : (pC ψ - (p + 1)) * 510000 ≤ 20000000 := by
  have := h.2.2.2.2.2.2.2
  omega
theorem ch_s (h : OKP ψ) (ok : PosOK ψ p ls) (hc : chP ψ p ls = some l) : l ≤ 2 ∧ (l = 0 ∨ ls.2 = 1) ∧ ls.1 + l ≤ pN ψ ∧ nP ψ p ls l ≤ pM ψ p ∧ ls.1 + l + nP ψ p ls l ≤ pN ψ ∧ TT ψ (pC ψ - (p + 1)) (ls.1 + l + nP ψ p ls l) 1 < 1000000000 ∧ pO ψ p (nP ψ p ls l) < 1000000000 ∧ l * pL ψ ≤ TT ψ (pC ψ - p) ls.1 ls.2 ∧ fnd (stP ψ (moF ψ p) p 0 (ls.1 + l)) (TT ψ (pC ψ - p) ls.1 ls.2 - l * pL ψ) (min (pM ψ p) (pN ψ - (ls.1 + l)) + 1) 0 = nP ψ p ls l := by
  obtain ⟨o1, o2, o3, o4⟩ := ok
  obtain ⟨c1, c2, c3⟩ := chl_s 3 0 hc
  have al : l = 0 ∨ ls.2 = 1 := by
    by_cases c : 0 < l ∧ ls.2 = 0
    · obtain ⟨a1, a2, a3, a4⟩ := fnd_p (g := stR ψ (moF ψ p) p ls.1 ls.2 l) (v := TT ψ (pC ψ - p) ls.1 ls.2) (pM ψ p + 1) 0
      have := a3 (by omega)
      unfold stR at this
      rw [if_pos c] at this
      omega
    · omega
  have e := stR_eq (ψ := ψ) (mo := moF ψ p) (p := p) (line := ls.1) al
  have hn : nP ψ p ls l = fnd (stP ψ (moF ψ p) p l (ls.1 + l)) (TT ψ (pC ψ - p) ls.1 ls.2) (pM ψ p + 1) 0 := by
    unfold nP
    rw [e]
  rw [e, ← hn] at c3
  have q := lead_n h (l := l) (p := p) (b := ls.1 + l) (due := TT ψ (pC ψ - p) ls.1 ls.2) (moF_b h) (moF_M h) (by omega) o4 (by rw [← hn]; exact c3)
  rw [← hn] at q
  obtain ⟨q1, q2, q3, q4, q5⟩ := q
  exact ⟨by omega, al, by omega, c3, q2, q3, q4, q5, q1⟩
theorem ch_n (h : OKP ψ) (hp : p < pC ψ) (ok : PosOK ψ p ls) (hc : chP ψ p ls = none) : TT ψ (pC ψ - (p + 1)) ls.1 ls.2 < 1000000000 := by
  obtain ⟨o1, o2, o3, o4⟩ := ok
  have ed : pC ψ - p = (pC ψ - (p + 1)) + 1 := by omega
  have ep : pC ψ - (pC ψ - (p + 1) + 1) = p := by omega
  have hC := h.2.2.2.2.2.2.2
  rcases TT_or (ψ := ψ) (pC ψ - (p + 1)) ls.1 ls.2 (by omega) with e | ⟨l, e1, e2, e3⟩
  · rw [← ed] at e
    rw [e] at o4
    unfold plN at o4
    by_cases c : pK ψ (pC ψ - (pC ψ - p)) < 1000000000 ∧ TT ψ (pC ψ - (p + 1)) ls.1 ls.2 < 1000000000
    · exact c.2
    · rw [if_neg c] at o4
      omega
  · exfalso
    have al : l = 0 ∨ ls.2 = 1 := by omega
    rw [← ed, show pC ψ - (pC ψ - p) = p by omega] at e3
    have q := (lead_ch h (l := l) (p := p) (line := ls.1) (due := TT ψ (pC ψ - p) ls.1 ls.2) (moF_b h) (moF_M h) (by omega) e2 o4 (by rw [e3]; exact Nat.le_refl _)).mp e3.symm
    have q2 := chl_n (l := l) 3 0 hc (by omega) (by omega)
    rw [stR_eq al] at q2
    exact q2 q
theorem pos_ok (h : OKP ψ) (hT : TT ψ (pC ψ) 0 0 < 1000000000) : ∀ p, p ≤ pC ψ → PosOK ψ p (posP ψ p) := by
  intro p
  induction p with
  | zero =>
    intro _
    exact ⟨Nat.zero_le _, Nat.zero_le _, fun _ => rfl, hT⟩
  | succ p ih =>
    intro hp
    have ok := ih (by omega)
    cases hc : chP ψ p (posP ψ p) with
    | none =>
      rw [posP_n hc]
      exact ⟨ok.1, ok.2.1, ok.2.2.1, ch_n h (by omega) ok hc⟩
    | some l =>
      obtain ⟨c1, c2, c3, c4, c5, c6, c7, c8, c9⟩ := ch_s h ok hc
      rw [posP_s hc]
      exact ⟨c5, Nat.le_refl _, fun e => absurd (show (1 : Nat) = 0 from e) (by decide), c6⟩
end
section
variable {S : XS} {τ : St} {ψ : FPar} {Q : Int32 → St → Prop} {p l : Nat} {ls : Nat × Nat}
theorem K_fl {most : Nat} (hF : FC ψ τ) (h : OKP ψ) (hp : p < pC ψ) (hr : ∀ x, x ≤ pN ψ → gB τ 3 (p + 1) x = nI (moF ψ p x)) (hB : ∀ n, n ≤ 30 → gB τ 1 p n = nI (pO ψ p n)) (h12 : gX τ 12 = nI (pN ψ)) (ok : PosOK ψ p ls) (hm : (ls.2 = 0 ∧ most = 0) ∨ (ls.2 = 1 ∧ most = 2)) (H1 : ∀ l, chP ψ p ls = some l → Q (nI l) τ) (H0 : chP ψ p ls = none → Q (-1) τ) : CM S m_Se_fewestLeads [.ref 82, .ref 3, .int (nI p), .int (nI ls.1), .int (nI most), .int (nI (TT ψ (pC ψ - p) ls.1 ls.2))] (enc τ) (qI Q) := by
  obtain ⟨o1, o2, o3, o4⟩ := id ok
  have hN := h.2.2.2.2.2.2.1
  have hC := h.2.2.2.2.2.2.2
  have ed : pC ψ - p = (pC ψ - (p + 1)) + 1 := by omega
  unfold chP at H1 H0
  have NO : ∀ e l0, (∀ l, l0 ≤ l → l < l0 + e → ¬ fnd (stR ψ (moF ψ p) p ls.1 ls.2 l) (TT ψ (pC ψ - p) ls.1 ls.2) (pM ψ p + 1) 0 ≤ pM ψ p) → chl ψ (moF ψ p) p ls.1 ls.2 (TT ψ (pC ψ - p) ls.1 ls.2) e l0 = none := by
    intro e
    induction e with
    | zero => intro l0 _; rfl
    | succ e ih =>
      intro l0 hh
      show (if fnd (stR ψ (moF ψ p) p ls.1 ls.2 l0) (TT ψ (pC ψ - p) ls.1 ls.2) (pM ψ p + 1) 0 ≤ pM ψ p then some l0 else chl ψ (moF ψ p) p ls.1 ls.2 (TT ψ (pC ψ - p) ls.1 ls.2) e (l0 + 1)) = none
      rw [if_neg (hh l0 (by omega) (by omega))]
      exact ih (l0 + 1) (fun l h1 h2 => hh l (by omega) (by omega))
  have L : ∀ e l, l + e = 3 → chl ψ (moF ψ p) p ls.1 ls.2 (TT ψ (pC ψ - p) ls.1 ls.2) 3 0 = chl ψ (moF ψ p) p ls.1 ls.2 (TT ψ (pC ψ - p) ls.1 ls.2) e l → BW S m_Se_fewestLeads 3 [some (.ref 82), some (.ref 3), some (.int (nI p)), some (.int (nI ls.1)), some (.int (nI most)), some (.int (nI (TT ψ (pC ψ - p) ls.1 ls.2))), some (.int (nI l)), none] [] (enc τ) (qI Q) := by
    intro e
    induction e with
    | zero =>
      intro l hl hc
      exact B_Se_fewestLeads_3 _ _ _ _ _ _ (bq_t (nI_lt (by omega) (by omega)) (H0 hc))
    | succ e ih =>
      intro l hl hc
      refine B_Se_fewestLeads_3 _ _ _ _ _ _ ?_
      by_cases c1 : most < l
      · refine bq_t (nI_lt c1 (by omega)) (H0 (hc.trans (NO _ _ (fun l' h1 h2 => fnd_no (fun j _ => ?_)))))
        unfold stR
        rw [if_pos (by omega)]
        omega
      · refine bq_f (nI_nlt (by omega) (by omega)) ?_
        have al : l = 0 ∨ ls.2 = 1 := by omega
        rw [h12, nI_add]
        by_cases c2 : ls.1 + l ≤ pN ψ
        · refine bq_f (nI_nlt c2 (by omega)) (K_uc hF h hp (moF_b h) (moF_M h) hr hB c2 ?_)
          have lb := lp_b h (l := l) (by omega)
          have ub := UC_b h (p := p) (b := ls.1 + l) (moF_b (p := p) h)
          have pb := BN_le (plN_b (A := 200000) (Or.inl lb) ub) (by omega)
          have ub2 := BN_le ub (by omega)
          rw [hF.2.2.1, nI_mul]
          refine K_plN (by omega) ub2 ?_
          have le := TT_le (ψ := ψ) (d := pC ψ - (p + 1)) (line := ls.1) (s := ls.2) (l := l) (by omega) c2
          rw [← ed, show pC ψ - (pC ψ - p) = p by omega] at le
          have ch := lead_ch h (l := l) (p := p) (line := ls.1) (due := TT ψ (pC ψ - p) ls.1 ls.2) (moF_b h) (moF_M h) (by omega) c2 o4 le
          rw [← stR_eq (ψ := ψ) (mo := moF ψ p) (p := p) (line := ls.1) al] at ch
          have un : chl ψ (moF ψ p) p ls.1 ls.2 (TT ψ (pC ψ - p) ls.1 ls.2) (e + 1) l = if fnd (stR ψ (moF ψ p) p ls.1 ls.2 l) (TT ψ (pC ψ - p) ls.1 ls.2) (pM ψ p + 1) 0 ≤ pM ψ p then some l else chl ψ (moF ψ p) p ls.1 ls.2 (TT ψ (pC ψ - p) ls.1 ls.2) e (l + 1) := rfl
          rw [un] at hc
          by_cases c3 : plN (l * pL ψ) (UCn ψ (moF ψ p) p (ls.1 + l)) = TT ψ (pC ψ - p) ls.1 ls.2
          · rw [if_pos (ch.mp c3)] at hc
            exact bq_tn (by rw [c3]) (H1 l hc)
          · rw [if_neg (fun w => c3 (ch.mpr w))] at hc
            refine bq_fn (fun w => c3 ((nI_eq (by omega) (by omega)).mp w)) ?_
            rw [nI_1]
            exact ih (l + 1) (by omega) hc
        · refine bq_t (nI_lt (by omega) (by omega)) (H0 (hc.trans (NO _ _ (fun l' h1 h2 => fnd_no (fun j _ => ?_)))))
          unfold stR
          split
          · omega
          · rw [lead_far (by omega)]
            omega
  exact C_Se_fewestLeads _ _ _ _ _ (B_Se_fewestLeads_0 _ _ _ _ _ (L 3 0 rfl rfl))
theorem K_fnl (hF : FC ψ τ) (h : OKP ψ) (hp : p < pC ψ) (hr : ∀ x, x ≤ pN ψ → gB τ 3 (p + 1) x = nI (moF ψ p x)) (hB : ∀ n, n ≤ 30 → gB τ 1 p n = nI (pO ψ p n)) (h12 : gX τ 12 = nI (pN ψ)) (ok : PosOK ψ p ls) (hc : chP ψ p ls = some l) (H : Q (nI (nP ψ p ls l)) τ) : CM S m_Se_fewestLines [.ref 82, .ref 3, .int (nI p), .int (nI (ls.1 + l)), .int (nI (TT ψ (pC ψ - p) ls.1 ls.2 - l * pL ψ))] (enc τ) (qI Q) := by
  have hN := h.2.2.2.2.2.2.1
  have hm30 := h.2.2.1 p
  have o4 := ok.2.2.2
  obtain ⟨c1, c2, c3, c4, c5, c6, c7, c8, c9⟩ := ch_s h ok hc
  refine C_Se_fewestLines _ _ _ _ (B_Se_fewestLines_0 _ _ _ _ (K_words hF h hp ?_))
  rw [h12]
  generalize nP ψ p ls l = n at *
  generalize TT ψ (pC ψ - p) ls.1 ls.2 - l * pL ψ = v at *
  generalize ls.1 + l = b at *
  have e1 : (if nI (pN ψ) - nI b < nI (pM ψ p) then nI (pN ψ) - nI b else nI (pM ψ p)) = nI (min (pM ψ p) (pN ψ - b)) := by
    rw [nI_sub c3, nI_ite (by omega) (by omega)]
    congr 1
    by_cases c : pN ψ - b < pM ψ p
    · rw [if_pos c]; omega
    · rw [if_neg c]; omega
  rw [e1]
  have hK : min (pM ψ p) (pN ψ - b) ≤ 30 ∧ b + min (pM ψ p) (pN ψ - b) ≤ pN ψ ∧ n ≤ min (pM ψ p) (pN ψ - b) := by omega
  generalize min (pM ψ p) (pN ψ - b) = K at c9 hK ⊢
  have vb : v ≤ 1000000000 := by
    obtain ⟨a1, a2, a3, a4⟩ := fnd_p (g := stP ψ (moF ψ p) p 0 b) (v := v) (K + 1) 0
    rw [c9] at a3
    have := BN_le (stP_0 h (p := p) (b := b) (n := n) (moF_b (p := p) h)) (by have := h.2.2.2.2.2.2.2; omega)
    have := a3 (by omega)
    omega
  have L : ∀ e k, k + e = K + 1 → fnd (stP ψ (moF ψ p) p 0 b) v e k = n → BW S m_Se_fewestLines 19 [some (.ref 82), some (.ref 3), some (.int (nI p)), some (.int (nI b)), some (.int (nI v)), some (.int (nI K)), some (.int (nI k))] [] (enc τ) (qI Q) := by
    intro e
    induction e with
    | zero =>
      intro k hk hf
      have : k = n := hf
      omega
    | succ e ih =>
      intro k hk hf
      have hf : (if stP ψ (moF ψ p) p 0 b k = v then k else fnd (stP ψ (moF ψ p) p 0 b) v e (k + 1)) = n := hf
      refine B_Se_fewestLines_19 _ _ _ _ _ _ (bq_f (nI_nlt (by omega) (by omega)) (K_cil hF h hp (moF_b h) (moF_M h) hr (hB k (by omega)) (by omega) (by omega) ?_))
      have b1 := BN_le (stP_0 h (p := p) (b := b) (n := k) (moF_b (p := p) h)) (by have := h.2.2.2.2.2.2.2; omega)
      by_cases c : stP ψ (moF ψ p) p 0 b k = v
      · rw [if_pos c] at hf
        refine bq_tn (by rw [c]) ?_
        rw [hf]
        exact H
      · rw [if_neg c] at hf
        refine bq_fn (fun w => c ((nI_eq (by omega) (by omega)).mp w)) ?_
        rw [nI_1]
        exact ih (k + 1) (by omega) hf
  exact L (K + 1) 0 (by omega) c9
end
