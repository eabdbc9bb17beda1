/-! THE CLASS'S BREAKS. -/
section
variable {S : XS} {σ : St} {p m : Nat} {W : Int32}
/-- rows below l are done, row l up to f, the rest is far -/
def GI (L : Nat → Int32) (m : Nat) (W : Int32) (G : Nat → Nat → Int32) (l f : Nat) : Prop :=
  ∀ a b, a ≤ m → b ≤ m → (a < l → G a b = lc L m W a b) ∧ (a = l → b < f → G a b = lc L m W a b) ∧ (a = l → f ≤ b → G a b = FAR) ∧ (l < a → G a b = FAR)
theorem GI.next {L : Nat → Int32} {G : Nat → Nat → Int32} {l : Nat} (hl : 1 ≤ l) (h : GI L m W G l (m - l + 1)) (hlm : l ≤ m) : GI L m W G (l + 1) 0 := by
  intro a b ha hb
  obtain ⟨h1, h2, h3, h4⟩ := h a b ha hb
  refine ⟨fun y => ?_, fun _ z => absurd z (by omega), fun y _ => h4 (by omega), fun y => h4 (by omega)⟩
  by_cases c : a < l
  · exact h1 c
  · have e : a = l := by omega
    by_cases c2 : b < m - l + 1
    · exact h2 e c2
    · rw [h3 e (by omega), e, lc_far l b hb (by omega)]
theorem K_costWith {Q : Int32 → St → Prop} {G : Nat → Nat → Int32} {l t f : Nat} {c : Int32} (hL : okL (gB σ 0 p) m) (hl : 1 ≤ l) (hlm : l ≤ m) (ht : t ≤ m) (hft : f < t) (hG : G (l - 1) t = lc (gB σ 0 p) m W (l - 1) t) (hle : ¬ W < ln (gB σ 0 p) f (t - f)) (H : ∀ v, (∀ g : Int32, g.toInt ≤ 1000000000 → (if v < g then v else g) = (if cand (gB σ 0 p) m W (lc (gB σ 0 p) m W (l - 1)) f t < g then cand (gB σ 0 p) m W (lc (gB σ 0 p) m W (l - 1)) f t else g)) → (v.toInt < 1000000000 ↔ (cand (gB σ 0 p) m W (lc (gB σ 0 p) m W (l - 1)) f t).toInt < 1000000000) → (v.toInt < 1000000000 → v = cand (gB σ 0 p) m W (lc (gB σ 0 p) m W (l - 1)) f t) → Q v (brs σ p c W G)) : CM S m_Br_costWith [.ref 49, .int (nI l), .int (nI t), .int (ln (gB σ 0 p) f (t - f))] (enc (brs σ p c W G)) (qI Q) := by
  have hm := hL.1
  refine C_Br_costWith _ _ _ _ (B_Br_costWith_0 _ _ _ _ ?_)
  have e1 : nI l - 1 = nI (l - 1) := nI_sub1 (by omega)
  rw [e1, nI_clamp (n := l - 1) (by omega), nI_clamp (n := t) (by omega), brs_2, brs_10, hG]
  refine ⟨vp_in_nI (by omega) (by decide), vp_in_nI (by omega) (by decide), ?_⟩
  have far : (1000000000 : Int32) = FAR := rfl
  rw [far]
  have hr := lc_le (L := gB σ 0 p) (m := m) (W := W) (l - 1) t
  by_cases y : FAR ≤ lc (gB σ 0 p) m W (l - 1) t
  · have e2 : lc (gB σ 0 p) m W (l - 1) t = FAR := Int32.toInt_inj.mp (by have := Int32.le_iff_toInt_le.mp y; rw [FAR_i] at this ⊢; omega)
    have ec : cand (gB σ 0 p) m W (lc (gB σ 0 p) m W (l - 1)) f t = FAR := by
      unfold cand
      rw [if_neg hle, if_pos y]
    refine bq_t y (H _ ?_ ?_ ?_)
    · intro g _
      rw [e2, ec]
    · rw [e2, ec]
    · intro _
      rw [e2, ec]
  · refine bq_f y ?_
    by_cases y2 : l = 1
    · subst y2
      have ht2 : t = m := by
        rcases Decidable.em (t = m) with z | z
        · exact z
        · exfalso
          apply y
          show FAR ≤ (if t = m then (0 : Int32) else FAR)
          rw [if_neg z]
          exact Int32.le_refl _
      have ec : cand (gB σ 0 p) m W (lc (gB σ 0 p) m W (1 - 1)) f t = lc (gB σ 0 p) m W (1 - 1) t := by
        unfold cand
        rw [if_neg hle, if_neg y, if_pos ht2, Int32.zero_add]
      exact bq_tn rfl (H _ (fun g _ => by rw [ec]) (by rw [ec]) (fun _ => by rw [ec]))
    · have ne : ¬ nI l = 1 := fun z => y2 ((nI_eq (by omega) (by decide)).mp (show nI l = nI 1 from z))
      have htm : ¬ t = m := by
        intro z
        apply y
        rw [z, lc_far (l - 1) m (Nat.le_refl _) (by omega)]
        exact Int32.le_refl _
      have ec : cand (gB σ 0 p) m W (lc (gB σ 0 p) m W (l - 1)) f t = lc (gB σ 0 p) m W (l - 1) t + (W - ln (gB σ 0 p) f (t - f)) * (W - ln (gB σ 0 p) f (t - f)) := by
        unfold cand
        rw [if_neg hle, if_neg y, if_neg htm, Int32.add_comm]
      exact bq_fn ne (H _ (fun g _ => by rw [ec]) (by rw [ec]) (fun _ => by rw [ec]))
theorem restL {Q : St → Prop} {c : Int32} {l f : Nat} (hp : p < 20) (hc : c = nI m) (hL : okL (gB σ 0 p) m) (hl : 1 ≤ l) (hlm : l ≤ m) (hf : f + l ≤ m) (H : ∀ G, GI (gB σ 0 p) m W G l (f + 1) → Q (brs σ p c W G)) : ∀ d k G, m - (f + k) = d → f + k ≤ m → (∀ a b, a ≤ m → b ≤ m → (a < l → G a b = lc (gB σ 0 p) m W a b) ∧ (a = l → b < f → G a b = lc (gB σ 0 p) m W a b) ∧ (a = l → f < b → G a b = FAR) ∧ (l < a → G a b = FAR)) → G l f = lm (cand (gB σ 0 p) m W (lc (gB σ 0 p) m W (l - 1)) f) f k → BW S m_Br_weighRest 15 [some (.ref 49), some (.int (nI l)), some (.int (nI f)), some (.int (ln (gB σ 0 p) f k)), some (.int (nI (f + k + 1)))] [] (enc (brs σ p c W G)) (qV Q) := by
  have hm := hL.1
  obtain ⟨l', hl'⟩ : ∃ l', l = l' + 1 := ⟨l - 1, by omega⟩
  have el : l - 1 = l' := by omega
  -- the end: G l f is least
  have FIN : ∀ G : Nat → Nat → Int32, (∀ a b, a ≤ m → b ≤ m → (a < l → G a b = lc (gB σ 0 p) m W a b) ∧ (a = l → b < f → G a b = lc (gB σ 0 p) m W a b) ∧ (a = l → f < b → G a b = FAR) ∧ (l < a → G a b = FAR)) → G l f = lc (gB σ 0 p) m W l f → Q (brs σ p c W G) := by
    intro G g1 g2
    refine H G (fun a b ha hb => ?_)
    obtain ⟨h1, h2, h3, h4⟩ := g1 a b ha hb
    refine ⟨h1, fun y z => ?_, fun y z => h3 y (by omega), h4⟩
    by_cases e : b = f
    · rw [y, e]
      exact g2
    · exact h2 y (by omega)
  intro d
  induction d with
  | zero =>
    intro k G hd hk g1 g2
    refine B_Br_weighRest_15 _ _ _ _ _ ?_
    rw [brs_9, hc]
    refine bq_t (nI_lt (by omega) (by omega)) (hc ▸ FIN G g1 ?_)
    rw [g2, el, hl']
    have e : m - f = k := by omega
    show _ = lm (cand (gB σ 0 p) m W (lc (gB σ 0 p) m W l') f) f (m - f)
    rw [e]
  | succ d ih =>
    intro k G hd hk g1 g2
    have e5 : nI (f + k + 1) - 1 = nI (f + k) := nI_pred (f + k)
    have ln1 : ln (gB σ 0 p) f k + (1 + gB σ 0 p (f + k)) = ln (gB σ 0 p) f (k + 1) := rfl
    have et : f + k + 1 - f = k + 1 := by omega
    refine B_Br_weighRest_15 _ _ _ _ _ ?_
    rw [brs_9, brs_10, brs_N, brs_0, brs_2, e5, nI_clamp (n := f + k) (by omega), nI_clamp (n := l) (by omega), nI_clamp (n := f) (by omega), nI_1]
    refine bq_f (by rw [hc]; exact nI_nlt (by omega) (by omega)) ⟨fun z => absurd z (by simp), fun p4 z => ?_⟩
    obtain rfl : p = p4 := Option.some.inj z
    refine ⟨hp, bq_f (nI_nlt (a := 30) (by omega) (by decide)) ⟨vp_in_nI (by omega) (by decide), ?_⟩⟩
    rw [ln1]
    have vl := vp_in_nI (n := l) (N := 31) (by omega) (by decide)
    have vf := vp_in_nI (n := f) (N := 31) (by omega) (by decide)
    by_cases y : ln (gB σ 0 p) f (k + 1) ≤ W
    · refine bq_t y ⟨vl, vf, ?_⟩
      have hle : ¬ W < ln (gB σ 0 p) f (f + k + 1 - f) := by rw [et]; exact Int32.not_lt.mpr y
      have kc := K_costWith (S := S) (σ := σ) (p := p) (m := m) (W := W) (G := G) (l := l) (t := f + k + 1) (f := f) (c := c) (Q := fun v10 τ11 => vp_in (nI f) 31 ∧ BW S m_Br_weighRest 15 [some (.ref 49), some (.int (nI l)), some (.int (nI f)), some (.int (ln (gB σ 0 p) f (k + 1))), some (.int (nI (f + k + 1 + 1)))] [] (enc (sB τ11 2 l (upd (gB τ11 2 l) f (if v10 < G l f then v10 else G l f)))) (qV Q)) hL hl hlm (by omega) (by omega) ((g1 (l - 1) (f + k + 1) (by omega) (by omega)).1 (by omega)) hle (fun v hv _ _ => ⟨vf, ?_⟩)
      · rw [et] at kc
        exact kc
      · rw [brs_2, brs_s, hv (G l f) (by rw [g2]; exact lm_le _ _ _)]
        have e6 : f + k + 1 + 1 = f + (k + 1) + 1 := by omega
        rw [e6]
        refine ih (k + 1) _ (by omega) (by omega) (fun a b ha hb => ?_) ?_
        · obtain ⟨h1, h2, h3, h4⟩ := g1 a b ha hb
          refine ⟨fun y => ?_, fun y z => ?_, fun y z => ?_, fun y => ?_⟩
          · rw [va_upn _ _ (by omega)]; exact h1 y
          · rw [y, va_upg]
            unfold upd
            rw [if_neg (by omega)]
            rw [← y]
            exact h2 y z
          · rw [y, va_upg]
            unfold upd
            rw [if_neg (by omega)]
            rw [← y]
            exact h3 y z
          · rw [va_upn _ _ (by omega)]; exact h4 y
        · rw [va_upg]
          unfold upd
          rw [if_pos rfl, g2]
          rfl
    · refine bq_f y (FIN G g1 ?_)
      rw [g2, el, hl']
      show _ = lm (cand (gB σ 0 p) m W (lc (gB σ 0 p) m W l') f) f (m - f)
      have e : m - f = k + (m - f - k) := by omega
      rw [e, lm_stop (m - f - k) k (fun j h1 h2 => ?_)]
      unfold cand
      have e7 : f + j + 1 - f = j + 1 := by omega
      rw [e7, if_pos]
      have q1 := Int32.lt_iff_toInt_lt.mp (Int32.not_le.mp y)
      have q2 := ln_mono hL (f := f) (j - k) (k + 1) (by omega)
      have e8 : k + 1 + (j - k) = j + 1 := by omega
      rw [e8] at q2
      exact Int32.lt_iff_toInt_lt.mpr (by omega)
theorem K_rest {Q : St → Prop} {c : Int32} {l f : Nat} {G : Nat → Nat → Int32} (hp : p < 20) (hc : c = nI m) (hL : okL (gB σ 0 p) m) (hl : 1 ≤ l) (hlm : l ≤ m) (hf : f + l ≤ m) (hG : GI (gB σ 0 p) m W G l f) (H : ∀ G, GI (gB σ 0 p) m W G l (f + 1) → Q (brs σ p c W G)) : CM S m_Br_weighRest [.ref 49, .int (nI l), .int (nI f)] (enc (brs σ p c W G)) (qV Q) := by
  refine C_Br_weighRest _ _ _ (B_Br_weighRest_0 _ _ _ ?_)
  rw [brs_N]
  refine ⟨fun z => absurd z (by simp), fun p1 z => ?_⟩
  obtain rfl : p = p1 := Option.some.inj z
  refine ⟨hp, ?_⟩
  rw [nI_1]
  refine restL hp hc hL hl hlm hf H (m - f) 0 G (by omega) (by omega) (fun a b ha hb => ?_) ?_
  · obtain ⟨h1, h2, h3, h4⟩ := hG a b ha hb
    exact ⟨h1, h2, fun y z => h3 y (by omega), h4⟩
  · exact (hG l f (by omega) (by omega)).2.2.1 rfl (Nat.le_refl _)
/-- the two loops over lines and first words -/
theorem weighL {Q : St → Prop} {c : Int32} (hp : p < 20) (hc : c = nI m) (hL : okL (gB σ 0 p) m) (H : ∀ G, (∀ a b, a ≤ m → b ≤ m → G a b = lc (gB σ 0 p) m W a b) → Q (brs σ p c W G)) : ∀ d l, m + 1 - l = d → 1 ≤ l → l ≤ m + 1 → ∀ G, GI (gB σ 0 p) m W G l 0 → BW S m_Br_weigh 74 [some (.ref 49), none, none, none, some (.int (nI l)), none] [] (enc (brs σ p c W G)) (qV Q) := by
  have hm := hL.1
  intro d
  induction d with
  | zero =>
    intro l hd h1 h2 G hG
    refine B_Br_weigh_74 _ _ ?_
    rw [brs_9, hc]
    exact bq_t (nI_lt (by omega) (by omega)) (hc ▸ H G (fun a b ha hb => (hG a b ha hb).1 (by omega)))
  | succ d ih =>
    intro l hd h1 h2 G hG
    have hlm : l ≤ m := by omega
    refine B_Br_weigh_74 _ _ ?_
    rw [brs_9]
    refine bq_f (by rw [hc]; exact nI_nlt (by omega) (by omega)) ?_
    have I2 : ∀ d2 f, m - l + 1 - f = d2 → f ≤ m - l + 1 → ∀ G, GI (gB σ 0 p) m W G l f → BW S m_Br_weigh 86 [some (.ref 49), none, none, none, some (.int (nI l)), some (.int (nI f))] [] (enc (brs σ p c W G)) (qV Q) := by
      intro d2
      induction d2 with
      | zero =>
        intro f hd2 hf G hG
        have : f = m - l + 1 := by omega
        subst this
        refine B_Br_weigh_86 _ _ _ ?_
        rw [brs_9, nI_1]
        have e : c - nI l = nI (m - l) := by rw [hc]; exact nI_sub hlm
        rw [e]
        exact bq_t (nI_lt (by omega) (by omega)) (ih (l + 1) (by omega) (by omega) (by omega) G (hG.next h1 hlm))
      | succ d2 ih2 =>
        intro f hd2 hf G hG
        refine B_Br_weigh_86 _ _ _ ?_
        rw [brs_9]
        have e : c - nI l = nI (m - l) := by rw [hc]; exact nI_sub hlm
        rw [e]
        refine bq_f (nI_nlt (by omega) (by omega)) (K_rest hp hc hL h1 hlm (by omega) hG (fun G2 hG2 => ?_))
        rw [nI_1]
        exact ih2 (f + 1) (by omega) (by omega) G2 hG2
    exact I2 (m - l + 1) 0 (by omega) (by omega) G hG
theorem K_fillrow {Q : St → Prop} {τ : St} {i : Nat} (hi : i < 31) (H : Q (sB τ 2 i (fun j => if j < 31 then 1000000000 else gB τ 2 i j))) : CM S m_Ja_fill [.ref (51 + i), .int 1000000000] (enc τ) (qV Q) :=
  K_fillA τ _ 1000000000 (er2 τ hi) (by decide) (et2 τ hi _) H
theorem K_weigh {Q : St → Prop} (hp : p < 20) (hL : okL (gB σ 0 p) m) (H : ∀ G, (∀ a b, a ≤ m → b ≤ m → G a b = lc (gB σ 0 p) m W a b) → Q (brs σ p (nI m) W G)) : CM S m_Br_weigh [.ref 49, .ref (7 + p), .int (nI m), .int W] (enc σ) (qV Q) := by
  have hm := hL.1
  refine C_Br_weigh _ _ hp _ _ (B_Br_weigh_0 _ _ hp _ _ (bq_f (nI_pos (by omega)) (bq_t (nI_le (b := 30) (by omega) (by decide)) ?_)))
  have F : ∀ d l, m + 1 - l = d → l ≤ m + 1 → ∀ G, (∀ a b, a < l → b ≤ m → G a b = FAR) → BW S m_Br_weigh 32 [some (.ref 49), none, none, none, some (.int (nI l)), none] [] (enc (brs σ p (nI m) W G)) (qV Q) := by
    intro d
    induction d with
    | zero =>
      intro l hd hl G hG
      have : l = m + 1 := by omega
      subst this
      refine B_Br_weigh_32 _ _ ?_
      rw [brs_9, brs_2, nI_clamp (n := m) (by omega), brs_s]
      refine bq_t (nI_lt (by omega) (by omega)) ⟨vp_in_iff.mpr ⟨by decide, by decide⟩, vp_in_nI (by omega) (by decide), ?_⟩
      refine weighL (c := nI m) hp rfl hL H m 1 (by omega) (by omega) (by omega) _ (fun a b ha hb => ⟨fun y => ?_, fun y z => absurd z (by omega), fun y z => ?_, fun y => ?_⟩)
      · have e : a = 0 := by omega
        subst e
        have e0 : (0 : Int32).toNatClampNeg = 0 := rfl
        rw [e0, va_upg]
        unfold upd
        show _ = if b = m then (0 : Int32) else FAR
        by_cases c : b = m
        · rw [if_pos c, if_pos c]
        · rw [if_neg c, if_neg c]
          exact hG 0 b (by omega) hb
      · have e0 : (0 : Int32).toNatClampNeg = 0 := rfl
        rw [e0, va_upn _ _ (by omega)]
        exact hG a b (by omega) hb
      · have e0 : (0 : Int32).toNatClampNeg = 0 := rfl
        rw [e0, va_upn _ _ (by omega)]
        exact hG a b (by omega) hb
    | succ d ih =>
      intro l hd hl G hG
      refine B_Br_weigh_32 _ _ ?_
      rw [brs_9, nI_clamp (n := l) (by omega), nI_1]
      refine bq_f (nI_nlt (by omega) (by omega)) ⟨vp_in_nI (by omega) (by decide), K_fillrow (by omega) ?_⟩
      rw [brs_s]
      refine ih (l + 1) (by omega) (by omega) _ (fun a b ha hb => ?_)
      by_cases c : a = l
      · subst c
        rw [va_upg, if_pos (by omega)]
        rfl
      · rw [va_upn _ _ c]
        exact hG a b (by omega) hb
  have q := F (m + 1) 0 (by omega) (by omega) (gB σ 2) (fun a b h _ => absurd h (by omega))
  have e : brs σ p (nI m) W (gB σ 2) = sX (sX (sN σ (some p)) 9 (nI m)) 10 W := sBB_self (sX (sX (sN σ (some p)) 9 (nI m)) 10 W) 2
  rw [e] at q
  exact q
end
