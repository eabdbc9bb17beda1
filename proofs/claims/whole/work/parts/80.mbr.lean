/-! THE REFERENCE'S BREAKS. -/
def rsm (d : Int32) (L : Nat → Int32) (f : Nat) : Nat → Int32
  | 0 => d
  | k + 1 => rsm d L f k + L (f + k)
theorem rsm_ln (d : Int32) (L : Nat → Int32) (f : Nat) : ∀ k, rsm d L f k + nI k = ln L f k + d + 1 := by
  intro k
  induction k with
  | zero =>
    show d + nI 0 = -1 + d + 1
    rw [nI_0]
    grind
  | succ k ih =>
    have e1 : rsm d L f (k + 1) = rsm d L f k + L (f + k) := rfl
    have e2 : ln L f (k + 1) = ln L f k + (1 + L (f + k)) := rfl
    rw [e1, e2, nI_succ]
    grind
theorem rsm_eq (L : Nat → Int32) (f k : Nat) : rsm (nI k - 1) L f k = ln L f k := by
  have h := rsm_ln (nI k - 1) L f k
  grind
def cf (L : Nat → Int32) (m : Nat) (W : Int32) (f t : Nat) : Int32 := if W < ln L f (t - f) then FAR else if t = m then 0 else (W - ln L f (t - f)) * (W - ln L f (t - f))
/-- what the reference's breaks read -/
def MB (σ : St) (p m : Nat) (L : Nat → Int32) (W : Int32) : Prop := p < 20 ∧ gC σ 2 p = nI m ∧ (∀ k, k < 30 → gC σ 3 (30 * p + k) = L k) ∧ okL L m ∧ gY σ 2 = W ∧ (10 ≤ W.toInt ∧ W.toInt ≤ 60)
section
variable {S : XS} {σ : St} {p m : Nat} {L : Nat → Int32} {W : Int32}
theorem K_mcost {Q : Int32 → St → Prop} (h : MB σ p m L W) {f t : Nat} (hft : f ≤ t) (htm : t ≤ m) (H : Q (cf L m W f t) σ) : CM S m_Md_cost [.ref 153, .int (nI p), .int (nI f), .int (nI t)] (enc σ) (qI Q) := by
  obtain ⟨hp, h2, h3, hL, hW, hWb⟩ := h
  have hm := hL.1
  have G : ∀ d k, t - (f + k) = d → f + k ≤ t → BW S m_Md_cost 10 [some (.ref 153), some (.int (nI p)), none, some (.int (nI t)), some (.int (rsm (nI (t - f) - 1) L f k)), some (.int (nI (f + k)))] [] (enc σ) (qI Q) := by
    intro d
    induction d with
    | zero =>
      intro k hd hk
      have e : k = t - f := by omega
      subst e
      refine B_Md_cost_10 _ _ _ _ _ ?_
      rw [rsm_eq, hW, nI_clamp (n := p) (by omega), h2]
      refine bq_t (nI_le (by omega) (by omega)) ?_
      unfold cf at H
      by_cases y : W < ln L f (t - f)
      · rw [if_pos y] at H
        exact bq_f (Int32.not_le.mpr y) H
      · rw [if_neg y] at H
        refine bq_t (Int32.not_lt.mp y) ⟨vp_in_nI hp (by decide), ?_⟩
        by_cases y2 : t = m
        · rw [if_pos y2] at H
          exact bq_tn (by rw [y2]) H
        · rw [if_neg y2] at H
          exact bq_fn (fun z => y2 ((nI_eq (by omega) (by omega)).mp z)) H
    | succ d ih =>
      intro k hd hk
      have w : 30 * nI p + nI (f + k) = nI (30 * p + (f + k)) := by
        show nI 30 * nI p + _ = _
        rw [nI_mul, nI_add]
      refine B_Md_cost_10 _ _ _ _ _ ?_
      rw [w, nI_clamp (n := 30 * p + (f + k)) (by omega), h3 (f + k) (by omega), nI_1]
      exact bq_f (nI_ge (by omega) (by omega)) ⟨vp_in_nI (by omega) (by decide), ih (k + 1) (by omega) (by omega)⟩
  refine C_Md_cost _ _ _ _ (B_Md_cost_0 _ _ _ _ ?_)
  rw [nI_sub hft]
  exact G (t - f) 0 (by omega) (by omega)
def CI (L : Nat → Int32) (m : Nat) (W : Int32) (C : Nat → Int32) (f n : Nat) : Prop := ∀ a b, a ≤ m → b ≤ m → (f < a → C (31 * a + b) = lc L m W b a) ∧ (a = f → b < n → C (31 * a + b) = lc L m W b a)
theorem mbrL1 {Q : St → Prop} (h : MB σ p m L W) {f n : Nat} (hf : f ≤ m) (hn : n ≤ m) {C : Nat → Int32} (hC : CI L m W C f n) (K : ∀ C2, CI L m W C2 f (n + 1) → BW S m_Md_breaks 16 [some (.ref 153), some (.int (nI p)), some (.int (nI m)), some (.int (nI f)), some (.int (nI (n + 1))), none, none, none, none] [] (enc (sC σ 4 C2)) (qV Q)) : ∀ d k v, m - (f + k) = d → f + k ≤ m → (n = 0 → v = lc L m W 0 f) → (∀ n', n = n' + 1 → v = lm (cand L m W (lc L m W n') f) f k) → BW S m_Md_breaks 45 [some (.ref 153), some (.int (nI p)), some (.int (nI m)), some (.int (nI f)), some (.int (nI n)), some (.int v), some (.int (nI (f + k + 1))), none, none] [] (enc (sC σ 4 C)) (qV Q) := by
  have hm := h.2.2.2.1.1
  have w : 31 * nI f + nI n = nI (31 * f + n) := by
    show nI 31 * nI f + _ = _
    rw [nI_mul, nI_add]
  -- the end of the loop
  have FIN : ∀ v, v = lc L m W n f → vp_in (nI (31 * f + n)) 961 ∧ BW S m_Md_breaks 16 [some (.ref 153), some (.int (nI p)), some (.int (nI m)), some (.int (nI f)), some (.int (nI (n + 1))), none, none, none, none] [] (enc (sC (sC σ 4 C) 4 (upd C (31 * f + n) v))) (qV Q) := by
    intro v hv
    refine ⟨vp_in_nI (by omega) (by decide), ?_⟩
    rw [sC_sC]
    refine K _ (fun a b ha hb => ?_)
    obtain ⟨h1, h2⟩ := hC a b ha hb
    unfold upd
    refine ⟨fun y => ?_, fun y z => ?_⟩
    · rw [if_neg (by omega)]
      exact h1 y
    · by_cases e : b = n
      · rw [if_pos (by omega), hv, e, y]
      · rw [if_neg (by omega)]
        exact h2 y (by omega)
  have eC : gC (sC σ 4 C) 4 = C := by rw [gs_C_C, if_pos rfl]
  intro d
  induction d with
  | zero =>
    intro k v hd hk h0 h1
    refine B_Md_breaks_45 _ _ _ _ _ _ _ ?_
    rw [w, nI_clamp (n := 31 * f + n) (by omega), nI_1, eC]
    refine bq_t (nI_lt (by omega) (by omega)) (FIN v ?_)
    rcases n with _ | n'
    · exact h0 rfl
    · rw [h1 n' rfl]
      have e : m - f = k := by omega
      show _ = lm (cand L m W (lc L m W n') f) f (m - f)
      rw [e]
  | succ d ih =>
    intro k v hd hk h0 h1
    refine B_Md_breaks_45 _ _ _ _ _ _ _ ?_
    rw [w, nI_clamp (n := 31 * f + n) (by omega), nI_1, nI_1, eC]
    refine bq_f (nI_nlt (by omega) (by omega)) ?_
    rcases n with _ | n'
    · exact bq_t (by decide) (FIN v (h0 rfl))
    · refine bq_f (nI_nle (by omega) (by omega)) ?_
      have hM : MB (sC σ 4 C) p m L W := h
      refine K_mcost hM (by omega) (by omega) ?_
      have w2 : 31 * nI (f + k + 1) + nI (n' + 1) - 1 = nI (31 * (f + k + 1) + n') := by
        show nI 31 * nI (f + k + 1) + _ - 1 = _
        rw [nI_mul, nI_add]
        exact nI_pred (31 * (f + k + 1) + n')
      rw [w2, nI_clamp (n := 31 * (f + k + 1) + n') (by omega), eC, (hC (f + k + 1) n' (by omega) (by omega)).1 (by omega)]
      refine ⟨vp_in_nI (by omega) (by decide), ?_⟩
      have far : (1000000000 : Int32) = FAR := rfl
      rw [far]
      have e6 : f + k + 1 + 1 = f + (k + 1) + 1 := by omega
      rw [e6]
      have ev := h1 n' rfl
      -- to go on with u
      have GO : ∀ u, u = lm (cand L m W (lc L m W n') f) f (k + 1) → BW S m_Md_breaks 45 [some (.ref 153), some (.int (nI p)), some (.int (nI m)), some (.int (nI f)), some (.int (nI (n' + 1))), some (.int u), some (.int (nI (f + (k + 1) + 1))), none, none] [] (enc (sC σ 4 C)) (qV Q) := fun u hu => ih (k + 1) u (by omega) (by omega) (fun z => absurd z (by omega)) (fun n2 z => by
        obtain rfl : n' = n2 := by omega
        exact hu)
      have els : lm (cand L m W (lc L m W n') f) f (k + 1) = if cand L m W (lc L m W n') f (f + k + 1) < lm (cand L m W (lc L m W n') f) f k then cand L m W (lc L m W n') f (f + k + 1) else lm (cand L m W (lc L m W n') f) f k := rfl
      have keep : cand L m W (lc L m W n') f (f + k + 1) = FAR → v = lm (cand L m W (lc L m W n') f) f (k + 1) := by
        intro z
        rw [els, z, if_neg, ev]
        intro y
        have := Int32.lt_iff_toInt_lt.mp y
        have := lm_le (cand L m W (lc L m W n') f) f k
        rw [FAR_i] at *
        omega
      have et : f + k + 1 - f = k + 1 := by omega
      by_cases y1 : W < ln L f (f + k + 1 - f)
      · have ec : cf L m W f (f + k + 1) = FAR := by unfold cf; rw [if_pos y1]
        rw [ec]
        exact bq_t (Int32.le_refl _) (GO v (keep (by unfold cand; rw [if_pos y1])))
      · have b := ln_b h.2.2.2.1 (f := f) (k + 1) (by omega)
        have y1' := Int32.le_iff_toInt_le.mp (Int32.not_lt.mp y1)
        rw [et] at y1'
        have s := sq_b h.2.2.2.2.2 (x := ln L f (k + 1)) (by omega) y1'
        have ec : cf L m W f (f + k + 1) = (if f + k + 1 = m then 0 else (W - ln L f (f + k + 1 - f)) * (W - ln L f (f + k + 1 - f))) := by unfold cf; rw [if_neg y1]
        have nf : ¬ FAR ≤ cf L m W f (f + k + 1) := by
          rw [ec]
          intro z
          have z2 := Int32.le_iff_toInt_le.mp z
          rw [FAR_i] at z2
          have z0 : (0 : Int32).toInt = 0 := rfl
          by_cases y5 : f + k + 1 = m
          · rw [if_pos y5, z0] at z2
            omega
          · rw [if_neg y5, et] at z2
            omega
        refine bq_f nf ?_
        by_cases y2 : FAR ≤ lc L m W n' (f + k + 1)
        · exact bq_t y2 (GO v (keep (by unfold cand; rw [if_neg y1, if_pos y2])))
        · refine bq_f y2 ?_
          have ecd : cand L m W (lc L m W n') f (f + k + 1) = cf L m W f (f + k + 1) + lc L m W n' (f + k + 1) := by
            rw [ec]
            unfold cand
            rw [if_neg y1, if_neg y2]
          rw [ecd, ← ev] at els
          by_cases y3 : v ≤ cf L m W f (f + k + 1) + lc L m W n' (f + k + 1)
          · refine bq_t y3 (GO v ?_)
            rw [els, if_neg (Int32.not_lt.mpr y3)]
          · refine bq_f y3 (GO _ ?_)
            rw [els, if_pos (Int32.not_le.mp y3)]
theorem mbrL2 {Q : St → Prop} (h : MB σ p m L W) {f : Nat} (hf : f ≤ m) (K : ∀ C2, CI L m W C2 f (m + 1) → BW S m_Md_breaks 9 [some (.ref 153), some (.int (nI p)), some (.int (nI m)), some (.int (nI f - 1)), none, none, none, none, none] [] (enc (sC σ 4 C2)) (qV Q)) : ∀ d n C, m + 1 - n = d → n ≤ m + 1 → CI L m W C f n → BW S m_Md_breaks 16 [some (.ref 153), some (.int (nI p)), some (.int (nI m)), some (.int (nI f)), some (.int (nI n)), none, none, none, none] [] (enc (sC σ 4 C)) (qV Q) := by
  have hm := h.2.2.2.1.1
  have e0 : nI f + -1 = nI f - 1 := (Int32.sub_eq_add_neg _ _).symm
  intro d
  induction d with
  | zero =>
    intro n C hd hn hC
    have : n = m + 1 := by omega
    subst this
    refine B_Md_breaks_16 _ _ _ _ _ ?_
    rw [e0]
    exact bq_t (nI_lt (by omega) (by omega)) (K C hC)
  | succ d ih =>
    intro n C hd hn hC
    refine B_Md_breaks_16 _ _ _ _ _ (bq_f (nI_nlt (by omega) (by omega)) ?_)
    rw [nI_1]
    have GO := fun v h0 h1 => mbrL1 (S := S) (Q := Q) h hf (n := n) (by omega) hC (fun C2 hC2 => ih (n + 1) C2 (by omega) (by omega) hC2) (m - f) 0 v (by omega) (by omega) h0 h1
    have l0 : lc L m W 0 f = if f = m then (0 : Int32) else FAR := rfl
    by_cases y : f = m
    · refine bq_tn (by rw [y]) ?_
      rcases n with _ | n'
      · exact bq_tn rfl (GO 0 (fun _ => by rw [l0, if_pos y]) (fun n2 z => absurd z (by omega)))
      · exact bq_fn (nI_ne0 (by omega) (by omega)) (GO 1000000000 (fun z => absurd z (by omega)) (fun n2 z => rfl))
    · exact bq_fn (fun z => y ((nI_eq (by omega) (by omega)).mp z)) (GO 1000000000 (fun _ => by rw [l0, if_neg y]; rfl) (fun n2 z => rfl))
theorem K_mbreaks {Q : St → Prop} (h : MB σ p m L W) (H : ∀ C, (∀ a b, a ≤ m → b ≤ m → C (31 * a + b) = lc L m W b a) → Q (sC σ 4 C)) : CM S m_Md_breaks [.ref 153, .int (nI p)] (enc σ) (qV Q) := by
  have hm := h.2.2.2.1.1
  have O : ∀ g, g ≤ m + 1 → ∀ C, (∀ a b, a ≤ m → b ≤ m → g ≤ a → C (31 * a + b) = lc L m W b a) → BW S m_Md_breaks 9 [some (.ref 153), some (.int (nI p)), some (.int (nI m)), some (.int (nI g - 1)), none, none, none, none, none] [] (enc (sC σ 4 C)) (qV Q) := by
    intro g
    induction g with
    | zero =>
      intro _ C hC
      exact B_Md_breaks_9 _ _ _ _ (bq_t (by decide) (H C (fun a b ha hb => hC a b ha hb (by omega))))
    | succ f ih =>
      intro hg C hC
      rw [nI_pred]
      refine B_Md_breaks_9 _ _ _ _ (bq_f (nI_pos (by omega)) ?_)
      refine mbrL2 h (by omega) (fun C2 hC2 => ih (by omega) C2 (fun a b ha hb hfa => ?_)) (m + 1) 0 C (by omega) (by omega) (fun a b ha hb => ⟨fun y => hC a b ha hb (by omega), fun _ z => absurd z (by omega)⟩)
      by_cases e : a = f
      · exact (hC2 a b ha hb).2 e (by omega)
      · exact (hC2 a b ha hb).1 (by omega)
  refine C_Md_breaks _ _ (B_Md_breaks_0 _ _ ⟨vp_in_nI h.1 (by decide), ?_⟩)
  have hp := h.1
  rw [nI_clamp (n := p) (by omega), h.2.1]
  have q := O (m + 1) (Nat.le_refl _) (gC σ 4) (fun a b ha hb z => absurd z (by omega))
  have e : sC σ 4 (gC σ 4) = σ := by
    show (σ.1, σ.2.1, va_up σ.2.2.1 4 (σ.2.2.1 4), σ.2.2.2) = σ
    rw [va_ups]
  rw [e, nI_pred] at q
  exact q
end
/-! weighBreaks -/
theorem sB_sB (σ : St) (k i : Nat) (f g : Nat → Int32) : sB (sB σ k i f) k i g = sB σ k i g := by
  show ((σ.1.1, σ.1.2.1, va_up (va_up σ.1.2.2.1 k (va_up (σ.1.2.2.1 k) i f)) k (va_up (va_up σ.1.2.2.1 k (va_up (σ.1.2.2.1 k) i f) k) i g), σ.1.2.2.2), σ.2) = ((σ.1.1, σ.1.2.1, va_up σ.1.2.2.1 k (va_up (σ.1.2.2.1 k) i g), σ.1.2.2.2), σ.2)
  rw [va_up2, va_upg, va_up2]
theorem gB_sB (σ : St) (k i : Nat) (f : Nat → Int32) : gB (sB σ k i f) k i = f := by
  show va_up σ.1.2.2.1 k (va_up (σ.1.2.2.1 k) i f) k i = f
  rw [va_upg, va_upg]
theorem sB_self (σ : St) (k i : Nat) : sB σ k i (gB σ k i) = σ := by
  show ((σ.1.1, σ.1.2.1, va_up σ.1.2.2.1 k (va_up (σ.1.2.2.1 k) i (σ.1.2.2.1 k i)), σ.1.2.2.2), σ.2) = σ
  rw [va_ups, va_ups]
section
variable {S : XS} {σ : St} {p m : Nat} {W : Int32}
def cst (L : Nat → Int32) (m : Nat) (W : Int32) (k : Nat) : Int32 := if k ≤ m then lc L m W k 0 else FAR
theorem K_brcost {Q : Int32 → St → Prop} {τ : St} {k : Nat} {G : Nat → Nat → Int32} (h9 : gX τ 9 = nI m) (h2 : gB τ 2 = G) (hm : m ≤ 30) (hk : k ≤ 30) (H : Q (if k ≤ m then G k 0 else FAR) τ) : CM S m_Br_cost [.ref 49, .int (nI k)] (enc τ) (qI Q) := by
  refine C_Br_cost _ _ (B_Br_cost_0 _ _ (bq_f (nI_pos (by omega)) ?_))
  rw [h9, h2]
  by_cases y : k ≤ m
  · rw [if_pos y] at H
    refine bq_t (nI_le y (by omega)) ⟨vp_in_nI (by omega) (by decide), vp_in_iff.mpr ⟨by decide, by decide⟩, ?_⟩
    rw [nI_clamp (n := k) (by omega)]
    exact H
  · rw [if_neg y] at H
    exact bq_f (nI_ge (by omega) (by omega)) H
theorem K_wb {Q : St → Prop} (hp : p < 20) (hc : ¬ gX σ 4 ≤ nI p) (hW : gX σ 5 = W) (hm2 : gA σ 2 p = nI m) (hL : okL (gB σ 0 p) m) (H0 : ¬ gA σ 3 p = 0 → Q σ) (H1 : gA σ 3 p = 0 → ∀ G f, (∀ k, k ≤ 30 → f k = cst (gB σ 0 p) m W k) → Q (sA (sB (brs σ p (nI m) W G) 1 p f) 3 (upd (gA σ 3) p 1))) : CM S m_Mn_weighBreaks [.ref 3, .int (nI p)] (enc σ) (qV Q) := by
  have hm := hL.1
  have v20 := vp_in_nI (n := p) (N := 20) hp (by decide)
  refine C_Mn_weighBreaks _ _ (B_Mn_weighBreaks_0 _ _ (bq_f (nI_pos (by omega)) (bq_f hc ⟨v20, ?_⟩)))
  rw [nI_clamp (n := p) (by omega)]
  by_cases y : gA σ 3 p = 0
  · refine bq_t y (C_Mn_breaksOf _ _ (B_Mn_breaksOf_0 _ _ (bq_f (nI_pos (by omega)) (bq_f hc ⟨v20, ?_⟩))))
    rw [nI_clamp (n := p) (by omega), hm2, hW]
    refine K_weigh hp hL (fun G hG => ⟨rfl, ?_⟩)
    have L : ∀ d k f, 31 - k = d → k ≤ 31 → (∀ j, j < k → f j = cst (gB σ 0 p) m W j) → BW S m_Mn_weighBreaks 30 [some (.ref 3), some (.int (nI p)), some (.ref 49), some (.int (nI k))] [] (enc (sB (brs σ p (nI m) W G) 1 p f)) (qV Q) := by
      intro d
      induction d with
      | zero =>
        intro k f hd hk hf
        have : k = 31 := by omega
        subst this
        refine B_Mn_weighBreaks_30 _ _ _ (bq_t (by decide) ⟨v20, ?_⟩)
        rw [nI_clamp (n := p) (by omega)]
        exact H1 y G f (fun j hj => hf j (by omega))
      | succ d ih =>
        intro k f hd hk hf
        refine B_Mn_weighBreaks_30 _ _ _ (bq_f (nI_nlt (a := 30) (by omega) (by decide)) ⟨v20, K_brcost (G := G) (brs_9 σ p (nI m) W G) (brs_2 σ p (nI m) W G) hm (by omega) ⟨vp_in_nI (by omega) (by decide), ?_⟩⟩)
        rw [nI_clamp (n := p) (by omega), nI_clamp (n := k) (by omega), nI_1, gB_sB, sB_sB]
        refine ih (k + 1) _ (by omega) (by omega) (fun j hj => ?_)
        unfold upd
        by_cases e : j = k
        · rw [if_pos e, e]
          unfold cst
          by_cases e2 : k ≤ m
          · rw [if_pos e2, if_pos e2, hG k 0 e2 (by omega)]
          · rw [if_neg e2, if_neg e2]
        · rw [if_neg e]
          exact hf j (by omega)
    have q := L 31 0 (gB (brs σ p (nI m) W G) 1 p) (by omega) (by omega) (fun j hj => absurd hj (by omega))
    rw [sB_self] at q
    exact q
  · exact bq_f y (H0 y)
end
section
variable {x4 x5 x6 x7 x8 y1 y2 y3 y4 y5 : Int32} {A1 A2 A3 C1 C2 C3 : Nat → Int32} {B0 B1 : Nat → Nat → Int32}
theorem M1.wb (h : M1 x4 x5 x6 x7 x8 y1 y2 y3 y4 y5 A1 A2 A3 C1 C2 C3 B0 B1) {p : Nat} {f : Nat → Int32} (hf : ∀ k, k ≤ 30 → f k = cst (B0 p) (A2 p).toNatClampNeg x5 k) : M1 x4 x5 x6 x7 x8 y1 y2 y3 y4 y5 A1 A2 (upd A3 p 1) C1 C2 C3 B0 (va_up B1 p f) := by
  obtain ⟨h1, h2, h3, h4, h5, h6, h7, h8, h9, h10⟩ := h
  refine ⟨h1, h2, h3, h4, h5, h6, h7, h8, h9, fun q hq hne n hn => ?_⟩
  by_cases e : q = p
  · subst e
    rw [va_upg]
    exact hf n hn
  · rw [va_upn _ _ e]
    unfold upd at hne
    rw [if_neg e] at hne
    exact h10 q hq hne n hn
end
/-- what stands of a paragraph -/
theorem R1.par {σ : St} (h : R1 σ) {p : Nat} (hp : p < 20) : ∃ m, gA σ 2 p = nI m ∧ (gA σ 2 p).toNatClampNeg = m ∧ okL (gB σ 0 p) m ∧ (10 ≤ (gX σ 5).toInt ∧ (gX σ 5).toInt ≤ 60) ∧ ∀ τ, gC τ 2 = gC σ 2 → gC τ 3 = gC σ 3 → gY τ 2 = gY σ 2 → MB τ p m (gB σ 0 p) (gX σ 5) := by
  obtain ⟨h1, h2, h3, h4, h5, h6, h7, h8, h9, h10⟩ := h
  have b := h7.2 p hp
  have t1 := ti_nonneg b.1
  have t2 := Int32.le_iff_toInt_le.mp b.2
  have z30 : (30 : Int32).toInt = 30 := rfl
  have z10 : (10 : Int32).toInt = 10 := rfl
  have z60 : (60 : Int32).toInt = 60 := rfl
  have w1 := Int32.le_iff_toInt_le.mp h2.2.1
  have w2 := Int32.le_iff_toInt_le.mp h2.2.2
  obtain ⟨m, hm, e1, e2⟩ := nI_ex (x := gA σ 2 p) (n := 31) t1 (by omega)
  have hL : okL (gB σ 0 p) m := ⟨by omega, fun k hk => by
    have q := h9 p k hp (by rw [e2]; exact hk)
    have q1 := Int32.le_iff_toInt_le.mp q.1
    have q2 := Int32.le_iff_toInt_le.mp q.2
    have z1 : (1 : Int32).toInt = 1 := rfl
    have z20 : (20 : Int32).toInt = 20 := rfl
    omega⟩
  refine ⟨m, e1, e2, hL, by omega, fun τ a b c => ⟨hp, by rw [a, ← h7.1, e1], fun k hk => by rw [b]; exact h8 p k hp hk, hL, by rw [c, ← h2.1], by omega⟩⟩
