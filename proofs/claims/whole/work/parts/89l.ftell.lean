/-! FILLING: the reference tells. -/
def KM (τ : St) (y : Int32) (c4 c7 c8 c9 c10 c11 c12 c13 : Nat → Int32) : St :=
  (τ.1, va_up τ.2.1 6 y, va_up (va_up (va_up (va_up (va_up (va_up (va_up (va_up τ.2.2.1 4 c4) 7 c7) 8 c8) 9 c9) 10 c10) 11 c11) 12 c12) 13 c13, τ.2.2.2)
section
variable (τ : St) (y : Int32) (c4 c7 c8 c9 c10 c11 c12 c13 : Nat → Int32)
theorem KM_of : sY τ 6 y = KM τ y (gC τ 4) (gC τ 7) (gC τ 8) (gC τ 9) (gC τ 10) (gC τ 11) (gC τ 12) (gC τ 13) := by
  show (τ.1, va_up τ.2.1 6 y, τ.2.2.1, τ.2.2.2) = (τ.1, va_up τ.2.1 6 y, va_up (va_up (va_up (va_up (va_up (va_up (va_up (va_up τ.2.2.1 4 (τ.2.2.1 4)) 7 (τ.2.2.1 7)) 8 (τ.2.2.1 8)) 9 (τ.2.2.1 9)) 10 (τ.2.2.1 10)) 11 (τ.2.2.1 11)) 12 (τ.2.2.1 12)) 13 (τ.2.2.1 13), τ.2.2.2)
  rw [va_ups, va_ups, va_ups, va_ups, va_ups, va_ups, va_ups, va_ups]
theorem KM_4 (x : Nat → Int32) : sC (KM τ y c4 c7 c8 c9 c10 c11 c12 c13) 4 x = KM τ y x c7 c8 c9 c10 c11 c12 c13 := by
  show (τ.1, va_up τ.2.1 6 y, va_up (va_up (va_up (va_up (va_up (va_up (va_up (va_up (va_up τ.2.2.1 4 c4) 7 c7) 8 c8) 9 c9) 10 c10) 11 c11) 12 c12) 13 c13) 4 x, τ.2.2.2) = (τ.1, va_up τ.2.1 6 y, va_up (va_up (va_up (va_up (va_up (va_up (va_up (va_up τ.2.2.1 4 x) 7 c7) 8 c8) 9 c9) 10 c10) 11 c11) 12 c12) 13 c13, τ.2.2.2)
  rw [va_upc _ (by decide : (13 : Nat) ≠ 4), va_upc _ (by decide : (12 : Nat) ≠ 4), va_upc _ (by decide : (11 : Nat) ≠ 4), va_upc _ (by decide : (10 : Nat) ≠ 4), va_upc _ (by decide : (9 : Nat) ≠ 4), va_upc _ (by decide : (8 : Nat) ≠ 4), va_upc _ (by decide : (7 : Nat) ≠ 4), va_up2]
theorem KM_g4 : gC (KM τ y c4 c7 c8 c9 c10 c11 c12 c13) 4 = c4 := rfl
theorem KM_7 (x : Nat → Int32) : sC (KM τ y c4 c7 c8 c9 c10 c11 c12 c13) 7 x = KM τ y c4 x c8 c9 c10 c11 c12 c13 := by
  show (τ.1, va_up τ.2.1 6 y, va_up (va_up (va_up (va_up (va_up (va_up (va_up (va_up (va_up τ.2.2.1 4 c4) 7 c7) 8 c8) 9 c9) 10 c10) 11 c11) 12 c12) 13 c13) 7 x, τ.2.2.2) = (τ.1, va_up τ.2.1 6 y, va_up (va_up (va_up (va_up (va_up (va_up (va_up (va_up τ.2.2.1 4 c4) 7 x) 8 c8) 9 c9) 10 c10) 11 c11) 12 c12) 13 c13, τ.2.2.2)
  rw [va_upc _ (by decide : (13 : Nat) ≠ 7), va_upc _ (by decide : (12 : Nat) ≠ 7), va_upc _ (by decide : (11 : Nat) ≠ 7), va_upc _ (by decide : (10 : Nat) ≠ 7), va_upc _ (by decide : (9 : Nat) ≠ 7), va_upc _ (by decide : (8 : Nat) ≠ 7), va_up2]
theorem KM_g7 : gC (KM τ y c4 c7 c8 c9 c10 c11 c12 c13) 7 = c7 := rfl
theorem KM_8 (x : Nat → Int32) : sC (KM τ y c4 c7 c8 c9 c10 c11 c12 c13) 8 x = KM τ y c4 c7 x c9 c10 c11 c12 c13 := by
  show (τ.1, va_up τ.2.1 6 y, va_up (va_up (va_up (va_up (va_up (va_up (va_up (va_up (va_up τ.2.2.1 4 c4) 7 c7) 8 c8) 9 c9) 10 c10) 11 c11) 12 c12) 13 c13) 8 x, τ.2.2.2) = (τ.1, va_up τ.2.1 6 y, va_up (va_up (va_up (va_up (va_up (va_up (va_up (va_up τ.2.2.1 4 c4) 7 c7) 8 x) 9 c9) 10 c10) 11 c11) 12 c12) 13 c13, τ.2.2.2)
  rw [va_upc _ (by decide : (13 : Nat) ≠ 8), va_upc _ (by decide : (12 : Nat) ≠ 8), va_upc _ (by decide : (11 : Nat) ≠ 8), va_upc _ (by decide : (10 : Nat) ≠ 8), va_upc _ (by decide : (9 : Nat) ≠ 8), va_up2]
theorem KM_g8 : gC (KM τ y c4 c7 c8 c9 c10 c11 c12 c13) 8 = c8 := rfl
theorem KM_9 (x : Nat → Int32) : sC (KM τ y c4 c7 c8 c9 c10 c11 c12 c13) 9 x = KM τ y c4 c7 c8 x c10 c11 c12 c13 := by
  show (τ.1, va_up τ.2.1 6 y, va_up (va_up (va_up (va_up (va_up (va_up (va_up (va_up (va_up τ.2.2.1 4 c4) 7 c7) 8 c8) 9 c9) 10 c10) 11 c11) 12 c12) 13 c13) 9 x, τ.2.2.2) = (τ.1, va_up τ.2.1 6 y, va_up (va_up (va_up (va_up (va_up (va_up (va_up (va_up τ.2.2.1 4 c4) 7 c7) 8 c8) 9 x) 10 c10) 11 c11) 12 c12) 13 c13, τ.2.2.2)
  rw [va_upc _ (by decide : (13 : Nat) ≠ 9), va_upc _ (by decide : (12 : Nat) ≠ 9), va_upc _ (by decide : (11 : Nat) ≠ 9), va_upc _ (by decide : (10 : Nat) ≠ 9), va_up2]
theorem KM_g9 : gC (KM τ y c4 c7 c8 c9 c10 c11 c12 c13) 9 = c9 := rfl
theorem KM_10 (x : Nat → Int32) : sC (KM τ y c4 c7 c8 c9 c10 c11 c12 c13) 10 x = KM τ y c4 c7 c8 c9 x c11 c12 c13 := by
  show (τ.1, va_up τ.2.1 6 y, va_up (va_up (va_up (va_up (va_up (va_up (va_up (va_up (va_up τ.2.2.1 4 c4) 7 c7) 8 c8) 9 c9) 10 c10) 11 c11) 12 c12) 13 c13) 10 x, τ.2.2.2) = (τ.1, va_up τ.2.1 6 y, va_up (va_up (va_up (va_up (va_up (va_up (va_up (va_up τ.2.2.1 4 c4) 7 c7) 8 c8) 9 c9) 10 x) 11 c11) 12 c12) 13 c13, τ.2.2.2)
  rw [va_upc _ (by decide : (13 : Nat) ≠ 10), va_upc _ (by decide : (12 : Nat) ≠ 10), va_upc _ (by decide : (11 : Nat) ≠ 10), va_up2]
theorem KM_g10 : gC (KM τ y c4 c7 c8 c9 c10 c11 c12 c13) 10 = c10 := rfl
theorem KM_11 (x : Nat → Int32) : sC (KM τ y c4 c7 c8 c9 c10 c11 c12 c13) 11 x = KM τ y c4 c7 c8 c9 c10 x c12 c13 := by
  show (τ.1, va_up τ.2.1 6 y, va_up (va_up (va_up (va_up (va_up (va_up (va_up (va_up (va_up τ.2.2.1 4 c4) 7 c7) 8 c8) 9 c9) 10 c10) 11 c11) 12 c12) 13 c13) 11 x, τ.2.2.2) = (τ.1, va_up τ.2.1 6 y, va_up (va_up (va_up (va_up (va_up (va_up (va_up (va_up τ.2.2.1 4 c4) 7 c7) 8 c8) 9 c9) 10 c10) 11 x) 12 c12) 13 c13, τ.2.2.2)
  rw [va_upc _ (by decide : (13 : Nat) ≠ 11), va_upc _ (by decide : (12 : Nat) ≠ 11), va_up2]
theorem KM_g11 : gC (KM τ y c4 c7 c8 c9 c10 c11 c12 c13) 11 = c11 := rfl
theorem KM_12 (x : Nat → Int32) : sC (KM τ y c4 c7 c8 c9 c10 c11 c12 c13) 12 x = KM τ y c4 c7 c8 c9 c10 c11 x c13 := by
  show (τ.1, va_up τ.2.1 6 y, va_up (va_up (va_up (va_up (va_up (va_up (va_up (va_up (va_up τ.2.2.1 4 c4) 7 c7) 8 c8) 9 c9) 10 c10) 11 c11) 12 c12) 13 c13) 12 x, τ.2.2.2) = (τ.1, va_up τ.2.1 6 y, va_up (va_up (va_up (va_up (va_up (va_up (va_up (va_up τ.2.2.1 4 c4) 7 c7) 8 c8) 9 c9) 10 c10) 11 c11) 12 x) 13 c13, τ.2.2.2)
  rw [va_upc _ (by decide : (13 : Nat) ≠ 12), va_up2]
theorem KM_g12 : gC (KM τ y c4 c7 c8 c9 c10 c11 c12 c13) 12 = c12 := rfl
theorem KM_13 (x : Nat → Int32) : sC (KM τ y c4 c7 c8 c9 c10 c11 c12 c13) 13 x = KM τ y c4 c7 c8 c9 c10 c11 c12 x := by
  show (τ.1, va_up τ.2.1 6 y, va_up (va_up (va_up (va_up (va_up (va_up (va_up (va_up (va_up τ.2.2.1 4 c4) 7 c7) 8 c8) 9 c9) 10 c10) 11 c11) 12 c12) 13 c13) 13 x, τ.2.2.2) = (τ.1, va_up τ.2.1 6 y, va_up (va_up (va_up (va_up (va_up (va_up (va_up (va_up τ.2.2.1 4 c4) 7 c7) 8 c8) 9 c9) 10 c10) 11 c11) 12 c12) 13 x, τ.2.2.2)
  rw [va_up2]
theorem KM_g13 : gC (KM τ y c4 c7 c8 c9 c10 c11 c12 c13) 13 = c13 := rfl
end
theorem nI_m1 (x : Nat) : nI (x + 1) + -1 = nI x := by
  rw [show nI (x + 1) + -1 = nI (x + 1) - 1 from (Int32.sub_eq_add_neg _ _).symm, nI_pred]
section
variable {S : XS} {τ : St} {y : Int32} {c4 c7 c8 c9 c10 c11 c12 c13 : Nat → Int32} {Q : St → Prop} {p m b n : Nat} {L : Nat → Int32} {W : Int32}
theorem K_lays (hM : ∀ ρ, gC ρ 2 = gC τ 2 → gC ρ 3 = gC τ 3 → gY ρ 2 = gY τ 2 → MB ρ p m L W) (hL : okL L m) (h10 : c10 p = nI n) (hn : n ≤ m) (hv : ¬ lc L m W n 0 = FAR) (hbn : b + n ≤ 120) (H : ∀ c4, Q (KM τ y c4 c7 c8 c9 c10 (layA c11 b (fun _ => nI p) n) (layA c12 b (fun k => nI (wfr L m W n k)) n) (layA c13 b (fun k => nI (tkn L m W (n - k) (wfr L m W n k))) n))) : CM S m_Md_lays [.ref 153, .int (nI p), .int (nI b)] (enc (KM τ y c4 c7 c8 c9 c10 c11 c12 c13)) (qV Q) := by
  have hm30 := hL.1
  have hMk : ∀ c4 c11 c12 c13, MB (KM τ y c4 c7 c8 c9 c10 c11 c12 c13) p m L W := fun _ _ _ _ => hM _ rfl rfl rfl
  have hp := (hMk c4 c11 c12 c13).1
  have hW := (hMk c4 c11 c12 c13).2.2.2.2.2
  refine C_Md_lays _ _ _ (B_Md_lays_0 _ _ _ (K_mbreaks (hMk _ _ _ _) (fun C hC => ?_)))
  rw [KM_4]
  have L10 : ∀ e k, n - k = e → k ≤ n → BW S m_Md_lays 10 [some (.ref 153), some (.int (nI p)), some (.int (nI b)), some (.int (nI (wfr L m W n k))), some (.int (nI k)), none, none] [] (enc (KM τ y C c7 c8 c9 c10 (layA c11 b (fun _ => nI p) k) (layA c12 b (fun k => nI (wfr L m W n k)) k) (layA c13 b (fun k => nI (tkn L m W (n - k) (wfr L m W n k))) k))) (qV Q) := by
    intro e
    induction e with
    | zero =>
      intro k he hk
      obtain rfl : k = n := by omega
      refine B_Md_lays_10 _ _ _ _ _ ⟨vp_in_nI hp (by decide), ?_⟩
      rw [KM_g10, nI_clamp (n := p) (by omega), h10]
      exact bq_t (nI_le (Nat.le_refl _) (by omega)) (H _)
    | succ e ih =>
      intro k he hk
      obtain ⟨w1, w2⟩ := wfr_p hv k (by omega)
      obtain ⟨t1, t2, t3, t4⟩ := tkn_p (r := n - k) (by omega) w2
      have ih := ih (k + 1) (by omega) (by omega)
      refine B_Md_lays_10 _ _ _ _ _ ⟨vp_in_nI hp (by decide), ?_⟩
      rw [KM_g10, nI_clamp (n := p) (by omega), h10]
      refine bq_f (nI_ge (by omega) (by omega)) ?_
      rw [nI_sub (by omega)]
      have g2 : ∀ a11 a12 a13, gC (KM τ y C c7 c8 c9 c10 a11 a12 a13) 2 p = nI m := fun a11 a12 a13 => (hMk C a11 a12 a13).2.1
      rw [g2]
      have wk : wfr L m W n (k + 1) = wfr L m W n k + tkn L m W (n - k) (wfr L m W n k) := rfl
      have l6 : layA c11 b (fun _ => nI p) (k + 1) = upd (layA c11 b (fun _ => nI p) k) (b + k) (nI p) := rfl
      have l7 : layA c12 b (fun k => nI (wfr L m W n k)) (k + 1) = upd (layA c12 b (fun k => nI (wfr L m W n k)) k) (b + k) (nI (wfr L m W n k)) := rfl
      have l8 : layA c13 b (fun k => nI (tkn L m W (n - k) (wfr L m W n k))) (k + 1) = upd (layA c13 b (fun k => nI (tkn L m W (n - k) (wfr L m W n k))) k) (b + k) (nI (tkn L m W (n - k) (wfr L m W n k))) := rfl
      rw [wk, l6, l7, l8] at ih
      generalize layA c11 b (fun _ => nI p) k = A6 at ih ⊢
      generalize layA c12 b (fun k => nI (wfr L m W n k)) k = A7 at ih ⊢
      generalize layA c13 b (fun k => nI (tkn L m W (n - k) (wfr L m W n k))) k = A8 at ih ⊢
      generalize wfr L m W n k = f at *
      have hr1 : 1 ≤ n - k := by omega
      have hrm : n - k ≤ m := by omega
      have M := hMk C A6 A7 A8
      have L40 : ∀ j, tk (cand L m W (lc L m W (n - k - 1)) f) (lc L m W (n - k) f) f j = tkn L m W (n - k) f → f + j ≤ m → BW S m_Md_lays 40 [some (.ref 153), some (.int (nI p)), some (.int (nI b)), some (.int (nI f)), some (.int (nI k)), some (.int (nI (n - k))), some (.int (nI (f + j)))] [] (enc (KM τ y C c7 c8 c9 c10 A6 A7 A8)) (qV Q) := by
        intro j
        induction j with
        | zero =>
          intro hj _
          have : 0 = tkn L m W (n - k) f := hj
          omega
        | succ j ihj =>
          intro hj hfm
          have ihj := fun e => ihj e (by omega)
          rw [show f + (j + 1) = f + j + 1 by omega]
          refine B_Md_lays_40 _ _ _ _ _ _ _ (K_mcost M (f := f) (t := f + j + 1) (by omega) (by omega) ?_)
          have c4v : ∀ i, gC (KM τ y C c7 c8 c9 c10 A6 A7 A8) 4 i = C i := fun _ => rfl
          have i1 : (31 * nI (f + j + 1) + nI (n - k)) - 1 = nI (31 * (f + j + 1) + (n - k - 1)) := by
            rw [show (31 : Int32) = nI 31 from rfl, nI_mul, nI_add, nI_sub1 (by omega)]
            congr 1
            omega
          have i2 : 31 * nI f + nI (n - k) = nI (31 * f + (n - k)) := by rw [show (31 : Int32) = nI 31 from rfl, nI_mul, nI_add]
          rw [i1, i2, nI_m1, nI_add, nI_1]
          have r1 := hC (f + j + 1) (n - k - 1) (by omega) (by omega)
          have r2 := hC f (n - k) (by omega) (by omega)
          have et : f + j + 1 - f = j + 1 := by omega
          have far : (1000000000 : Int32) = FAR := rfl
          rw [far]
          by_cases c1 : W < ln L f (j + 1)
          · have ec : cand L m W (lc L m W (n - k - 1)) f (f + j + 1) = FAR := by
              unfold cand
              rw [et, if_pos c1]
            have cc : cf L m W f (f + j + 1) = FAR := by
              unfold cf
              rw [et, if_pos c1]
            rw [tk_f (by rw [ec]; exact fun e => w2 e.symm)] at hj
            rw [cc]
            exact bq_t (by decide) (ihj hj)
          · have cb : (cf L m W f (f + j + 1)).toInt ≤ 3600 ∧ 0 ≤ (cf L m W f (f + j + 1)).toInt := by
              unfold cf
              rw [et, if_neg c1]
              have bb := ln_b hL (f := f) (j + 1) (by omega)
              have s := sq_b hW (x := ln L f (j + 1)) (by omega) (Int32.le_iff_toInt_le.mp (Int32.not_lt.mp c1))
              split
              · exact ⟨by decide, by decide⟩
              · exact ⟨s.2.2, s.2.1⟩
            have nf : ¬ FAR ≤ cf L m W f (f + j + 1) := fun e => by
              have := Int32.le_iff_toInt_le.mp e
              rw [FAR_i] at this
              omega
            refine bq_f nf ⟨vp_in_nI (by omega) (by decide), ?_⟩
            rw [nI_clamp (n := 31 * (f + j + 1) + (n - k - 1)) (by omega), nI_clamp (n := 31 * f + (n - k)) (by omega), nI_clamp (n := b + k) (by omega), c4v, r1]
            by_cases c2 : FAR ≤ lc L m W (n - k - 1) (f + j + 1)
            · have ec : cand L m W (lc L m W (n - k - 1)) f (f + j + 1) = FAR := by
                unfold cand
                rw [et, if_neg c1, if_pos c2]
              rw [tk_f (by rw [ec]; exact fun e => w2 e.symm)] at hj
              exact bq_t c2 (ihj hj)
            · refine bq_f c2 (K_mcost M (f := f) (t := f + j + 1) (by omega) (by omega) ⟨vp_in_nI (by omega) (by decide), vp_in_nI (by omega) (by decide), ?_⟩)
              have ec : cand L m W (lc L m W (n - k - 1)) f (f + j + 1) = cf L m W f (f + j + 1) + lc L m W (n - k - 1) (f + j + 1) := by
                unfold cand cf
                rw [et, if_neg c1, if_neg c2, if_neg c1]
              rw [c4v, c4v, r1, r2, ← ec]
              by_cases c3 : cand L m W (lc L m W (n - k - 1)) f (f + j + 1) = lc L m W (n - k) f
              · rw [tk_t c3] at hj
                rw [← hj] at ih
                refine bq_t c3 ⟨vp_in_nI (by omega) (by decide), ?_⟩
                rw [KM_g11, KM_g12, KM_g13, KM_11, KM_12, KM_13, nI_sub (by omega), et]
                exact ih
              · rw [tk_f c3] at hj
                exact bq_f c3 (ihj hj)
      have q := L40 (m - f) rfl (by omega)
      rw [show f + (m - f) = m by omega] at q
      exact q
  exact L10 n 0 rfl (Nat.zero_le _)
end
section
variable {S : XS} {σ τ : St} {ψ : FPar} {Q : St → Prop}
set_option maxHeartbeats 4000000 in
theorem K_tells (hF : FMd ψ τ) (h : OKP ψ) (hS : LSt ψ τ) (hT : ∀ q, q ≤ pC ψ → LTr ψ (gC τ 6) q (2 * (pN ψ + 1))) (hlt : TT ψ (pC ψ) 0 0 < 1000000000) (hMB : ∀ p, p < pC ψ → okL (gB σ 0 p) (pM ψ p) ∧ (∀ ρ, gC ρ 2 = gC τ 2 → gC ρ 3 = gC τ 3 → gY ρ 2 = gY τ 2 → MB ρ p (pM ψ p) (gB σ 0 p) (gX σ 5)) ∧ ∀ n, n ≤ pM ψ p → pO ψ p n < 1000000000 → ¬ lc (gB σ 0 p) (pM ψ p) (gX σ 5) n 0 = FAR) (H : ∀ c4 c7 c8 c9 c10, (∀ q, q < pC ψ → c7 q = (rcd ψ q).1 ∧ c8 q = (rcd ψ q).2.1 ∧ c9 q = (rcd ψ q).2.2.1 ∧ c10 q = (rcd ψ q).2.2.2) → Q (KM τ (nI (pC ψ)) c4 c7 c8 c9 c10 (arrP ψ g6 (fun j => if j < 120 then -1 else gC τ 11 j) (pC ψ)) (arrP ψ (g7 σ ψ) (gC τ 12) (pC ψ)) (arrP ψ (g8n σ ψ) (gC τ 13) (pC ψ)))) : CM S m_Md_tells [.ref 153, .int (nI (pN ψ))] (enc τ) (qV Q) := by
  have hC := h.2.2.2.2.2.2.2
  have hN := h.2.2.2.2.2.2.1
  refine C_Md_tells _ _ (B_Md_tells_0 _ _ ?_)
  rw [hF.1, KM_of]
  have L36 : ∀ e p, pC ψ - p = e → p ≤ pC ψ → ∀ c4 c7 c8 c9 c10, (∀ q, q < p → c7 q = (rcd ψ q).1 ∧ c8 q = (rcd ψ q).2.1 ∧ c9 q = (rcd ψ q).2.2.1 ∧ c10 q = (rcd ψ q).2.2.2) → BW S m_Md_tells 36 [some (.ref 153), some (.int (nI (pN ψ))), some (.int (nI (posP ψ p).1)), some (.int (nI (posP ψ p).2)), some (.int (nI p)), none, none, none] [] (enc (KM τ (nI (pC ψ)) c4 c7 c8 c9 c10 (arrP ψ g6 (fun j => if j < 120 then -1 else gC τ 11 j) p) (arrP ψ (g7 σ ψ) (gC τ 12) p) (arrP ψ (g8n σ ψ) (gC τ 13) p))) (qV Q) := by
    intro e
    induction e with
    | zero =>
      intro p he hp c4 c7 c8 c9 c10 hc
      obtain rfl : p = pC ψ := by omega
      have f1 : ∀ a b c, gY (KM τ (nI (pC ψ)) c4 c7 c8 c9 c10 a b c) 1 = nI (pC ψ) := fun _ _ _ => hF.1
      refine B_Md_tells_36 _ _ _ _ _ ?_
      rw [f1]
      exact bq_t (nI_le (Nat.le_refl _) (by omega)) (H _ _ _ _ _ hc)
    | succ e ih =>
      intro p he hp c4 c7 c8 c9 c10 hc
      have ok := pos_ok h hlt p hp
      obtain ⟨o1, o2, o3, o4⟩ := id ok
      have hm30 := h.2.2.1 p
      have ih := ih (p + 1) (by omega) (by omega)
      obtain ⟨hL, hMB1, hlc⟩ := hMB p (by omega)
      have f1 : ∀ c4 c7 c8 c9 c10 a b c, gY (KM τ (nI (pC ψ)) c4 c7 c8 c9 c10 a b c) 1 = nI (pC ψ) := fun _ _ _ _ _ _ _ _ => hF.1
      have f6 : ∀ c4 c7 c8 c9 c10 a b c, gC (KM τ (nI (pC ψ)) c4 c7 c8 c9 c10 a b c) 6 = gC τ 6 := fun _ _ _ _ _ _ _ _ => rfl
      have f2 : ∀ c4 c7 c8 c9 c10 a b c, gC (KM τ (nI (pC ψ)) c4 c7 c8 c9 c10 a b c) 2 p = nI (pM ψ p) := fun _ _ _ _ _ _ _ _ => (hF.2.2.2.2 p (by omega)).1
      have v20 := vp_in_nI (n := p) (N := 20) (by omega) (by decide)
      refine B_Md_tells_36 _ _ _ _ _ ?_
      rw [f1]
      refine bq_f (nI_ge (by omega) (by omega)) (K_at ⟨vp_in_nI (by omega) (by decide), v20, ?_⟩)
      have due := LTr.at (x := (posP ψ p).1) (s := (posP ψ p).2) (hT p (by omega)) o2 (by omega)
      rw [f6, nI_clamp (n := p) (by omega), nI_clamp (n := 242 * p + 2 * (posP ψ p).1 + (posP ψ p).2) (by omega), due, KM_g7, KM_g8, KM_g10, KM_g9, KM_7, KM_8, KM_10, KM_9]
      -- when it stands
      have EXIT : ∀ l d7 d8 d9 d10, chP ψ p (posP ψ p) = some l → (∀ q, q < p → d7 q = (rcd ψ q).1 ∧ d8 q = (rcd ψ q).2.1 ∧ d9 q = (rcd ψ q).2.2.1 ∧ d10 q = (rcd ψ q).2.2.2) → d7 p = 0 → d8 p = nI l → d10 p = nI (nP ψ p (posP ψ p) l) → ((¬ d10 p = 0 → CM S m_Md_lays [.ref 153, .int (nI p), .int (nI (posP ψ p).1 + d8 p)] (enc (KM τ (nI (pC ψ)) c4 d7 d8 (upd d9 p (nI (posP ψ p).1 + d8 p)) d10 (arrP ψ g6 (fun j => if j < 120 then -1 else gC τ 11 j) p) (arrP ψ (g7 σ ψ) (gC τ 12) p) (arrP ψ (g8n σ ψ) (gC τ 13) p))) (qV (fun τ10 => (vp_in (nI p) 20) ∧ BW S m_Md_tells 36 [some (.ref 153), some (.int (nI (pN ψ))), some (.int ((nI (posP ψ p).1 + d8 p) + gC τ10 10 p)), some (.int 1), some (.int (nI p + 1)), none, none, none] [] (enc τ10) (qV Q)))) ∧ (d10 p = 0 → CM S m_Md_lays [.ref 153, .int (nI p), .int (nI (posP ψ p).1 + d8 p)] (enc (KM τ (nI (pC ψ)) c4 d7 d8 (upd d9 p (-1)) d10 (arrP ψ g6 (fun j => if j < 120 then -1 else gC τ 11 j) p) (arrP ψ (g7 σ ψ) (gC τ 12) p) (arrP ψ (g8n σ ψ) (gC τ 13) p))) (qV (fun τ13 => (vp_in (nI p) 20) ∧ BW S m_Md_tells 36 [some (.ref 153), some (.int (nI (pN ψ))), some (.int ((nI (posP ψ p).1 + d8 p) + gC τ13 10 p)), some (.int 1), some (.int (nI p + 1)), none, none, none] [] (enc τ13) (qV Q))))) := by
        intro l d7 d8 d9 d10 hch hd e7 e8 e10
        obtain ⟨u1, u2, u3, u4, u5, u6, u7, u8, u9⟩ := ch_s h ok hch
        rw [arrP_s hch, arrP_s hch, arrP_s hch, posP_s hch] at ih
        have hr := rcd_s hch
        generalize nP ψ p (posP ψ p) l = n at *
        have PL : ∀ d9', (∀ q, q < p → d9' q = d9 q) → d9' p = (if n = 0 then -1 else nI ((posP ψ p).1 + l)) → CM S m_Md_lays [.ref 153, .int (nI p), .int (nI (posP ψ p).1 + d8 p)] (enc (KM τ (nI (pC ψ)) c4 d7 d8 d9' d10 (arrP ψ g6 (fun j => if j < 120 then -1 else gC τ 11 j) p) (arrP ψ (g7 σ ψ) (gC τ 12) p) (arrP ψ (g8n σ ψ) (gC τ 13) p))) (qV (fun τ13 => (vp_in (nI p) 20) ∧ BW S m_Md_tells 36 [some (.ref 153), some (.int (nI (pN ψ))), some (.int ((nI (posP ψ p).1 + d8 p) + gC τ13 10 p)), some (.int 1), some (.int (nI p + 1)), none, none, none] [] (enc τ13) (qV Q))) := by
          intro d9' h1 h2
          rw [e8, nI_add]
          refine K_lays (m := pM ψ p) (W := gX σ 5) (L := gB σ 0 p) hMB1 hL e10 u4 (hlc n u4 u7) (by omega) (fun c4 => ⟨v20, ?_⟩)
          rw [KM_g10, e10, nI_add, nI_1]
          refine ih c4 d7 d8 d9' d10 (fun q hq => ?_)
          by_cases eq : q = p
          · rw [eq, hr]
            exact ⟨e7, e8, h2, e10⟩
          · have := hd q (by omega)
            rw [h1 q (by omega)]
            exact this
        by_cases cn : n = 0
        · refine bq_tn (by rw [e10, cn]; rfl) (PL _ (fun q hq => upd_ne _ _ (by omega)) ?_)
          rw [upd_at, if_pos cn]
        · refine bq_fn (by rw [e10]; exact nI_ne0 (by omega) (by omega)) (PL _ (fun q hq => upd_ne _ _ (by omega)) ?_)
          rw [upd_at, if_neg cn, e8, nI_add]
      -- the state while nothing is chosen
      have hd : ∀ q, q < p → upd c7 p 1 q = (rcd ψ q).1 ∧ upd c8 p 0 q = (rcd ψ q).2.1 ∧ upd c9 p (-1) q = (rcd ψ q).2.2.1 ∧ upd c10 p 0 q = (rcd ψ q).2.2.2 := by
        intro q hq
        rw [upd_ne _ _ (by omega), upd_ne _ _ (by omega), upd_ne _ _ (by omega), upd_ne _ _ (by omega)]
        exact hc q hq
      have d7 : upd c7 p 1 p = 1 := upd_at _ _ _
      have d8 : upd c8 p 0 p = 0 := upd_at _ _ _
      have d9 : upd c9 p (-1) p = -1 := upd_at _ _ _
      have d10 : upd c10 p 0 p = 0 := upd_at _ _ _
      generalize upd c7 p 1 = D7 at *
      generalize upd c8 p 0 = D8 at *
      generalize upd c9 p (-1) = D9 at *
      generalize upd c10 p 0 = D10 at *
      have fr : ∀ c4 c7 c8 c9 c10 a b c, ∀ x, x ≤ pN ψ → gC (KM τ (nI (pC ψ)) c4 c7 c8 c9 c10 a b c) 6 (242 * (p + 1) + 2 * x + 1) = nI (moF ψ p x) := fun _ _ _ _ _ _ _ _ x hx => LTr.at (hT (p + 1) (by omega)) (Nat.le_refl 1) (by omega)
      have tb := BN_le (TT_b h (pC ψ - p) (posP ψ p).1 (posP ψ p).2) (by omega)
      have L94 : ∀ e2 l, l + e2 = 3 → chP ψ p (posP ψ p) = chl ψ (moF ψ p) p (posP ψ p).1 (posP ψ p).2 (TT ψ (pC ψ - p) (posP ψ p).1 (posP ψ p).2) e2 l → BW S m_Md_tells 94 [some (.ref 153), some (.int (nI (pN ψ))), some (.int (nI (posP ψ p).1)), some (.int (nI (posP ψ p).2)), some (.int (nI p)), some (.int (nI (TT ψ (pC ψ - p) (posP ψ p).1 (posP ψ p).2))), some (.int (nI l)), none] [] (enc (KM τ (nI (pC ψ)) c4 D7 D8 D9 D10 (arrP ψ g6 (fun j => if j < 120 then -1 else gC τ 11 j) p) (arrP ψ (g7 σ ψ) (gC τ 12) p) (arrP ψ (g8n σ ψ) (gC τ 13) p))) (qV Q) := by
        intro e2
        induction e2 with
        | zero =>
          intro l hl hch
          have hch : chP ψ p (posP ψ p) = none := hch
          obtain rfl : l = 3 := by omega
          refine B_Md_tells_94 _ _ _ _ _ _ _ (bq_t (by decide) ⟨v20, ?_⟩)
          rw [KM_g7, nI_clamp (n := p) (by omega), d7]
          refine bq_f (by decide) ?_
          rw [arrP_n hch, arrP_n hch, arrP_n hch, posP_n hch] at ih
          rw [nI_1]
          refine ih _ _ _ _ _ (fun q hq => ?_)
          by_cases eq : q = p
          · rw [eq, rcd_n hch]
            exact ⟨d7, d8, d9, d10⟩
          · exact hd q (by omega)
        | succ e2 ih2 =>
          intro l hl hch
          have hch : chP ψ p (posP ψ p) = if fnd (stR ψ (moF ψ p) p (posP ψ p).1 (posP ψ p).2 l) (TT ψ (pC ψ - p) (posP ψ p).1 (posP ψ p).2) (pM ψ p + 1) 0 ≤ pM ψ p then some l else chl ψ (moF ψ p) p (posP ψ p).1 (posP ψ p).2 (TT ψ (pC ψ - p) (posP ψ p).1 (posP ψ p).2) e2 (l + 1) := hch
          refine B_Md_tells_94 _ _ _ _ _ _ _ (bq_f (nI_ge (b := 3) (by omega) (by decide)) ⟨v20, ?_⟩)
          rw [KM_g7, nI_clamp (n := p) (by omega), d7]
          refine bq_f (by decide) ?_
          have L113 : ∀ e3 k, k + e3 = pM ψ p + 1 → fnd (stR ψ (moF ψ p) p (posP ψ p).1 (posP ψ p).2 l) (TT ψ (pC ψ - p) (posP ψ p).1 (posP ψ p).2) e3 k = nP ψ p (posP ψ p) l → BW S m_Md_tells 113 [some (.ref 153), some (.int (nI (pN ψ))), some (.int (nI (posP ψ p).1)), some (.int (nI (posP ψ p).2)), some (.int (nI p)), some (.int (nI (TT ψ (pC ψ - p) (posP ψ p).1 (posP ψ p).2))), some (.int (nI l)), some (.int (nI k))] [] (enc (KM τ (nI (pC ψ)) c4 D7 D8 D9 D10 (arrP ψ g6 (fun j => if j < 120 then -1 else gC τ 11 j) p) (arrP ψ (g7 σ ψ) (gC τ 12) p) (arrP ψ (g8n σ ψ) (gC τ 13) p))) (qV Q) := by
            intro e3
            induction e3 with
            | zero =>
              intro k hk hf
              have hf : k = nP ψ p (posP ψ p) l := hf
              refine B_Md_tells_113 _ _ _ _ _ _ _ _ ⟨v20, ?_⟩
              rw [nI_clamp (n := p) (by omega), f2]
              refine bq_t (nI_lt (by omega) (by omega)) ?_
              rw [nI_1]
              refine ih2 (l + 1) (by omega) ?_
              rw [hch, if_neg]
              show ¬ nP ψ p (posP ψ p) l ≤ pM ψ p
              omega
            | succ e3 ih3 =>
              intro k hk hf
              have hf : (if stR ψ (moF ψ p) p (posP ψ p).1 (posP ψ p).2 l k = TT ψ (pC ψ - p) (posP ψ p).1 (posP ψ p).2 then k else fnd (stR ψ (moF ψ p) p (posP ψ p).1 (posP ψ p).2 l) (TT ψ (pC ψ - p) (posP ψ p).1 (posP ψ p).2) e3 (k + 1)) = nP ψ p (posP ψ p) l := hf
              refine B_Md_tells_113 _ _ _ _ _ _ _ _ ⟨v20, ?_⟩
              rw [nI_clamp (n := p) (by omega), f2, KM_g7, d7]
              refine bq_f (nI_nlt (by omega) (by omega)) (bq_f (by decide) (K_std hF h hS (by omega) (by omega) o1 (by omega) o2 (moF_b h) (moF_M h) (fr _ _ _ _ _ _ _ _) ?_))
              have sb : stR ψ (moF ψ p) p (posP ψ p).1 (posP ψ p).2 l k ≤ 1000000000 := by
                unfold stR
                split
                · exact Nat.le_refl _
                · exact BN_le (stP_b h (moF_b (p := p) h) (by omega)) (by omega)
              by_cases c : stR ψ (moF ψ p) p (posP ψ p).1 (posP ψ p).2 l k = TT ψ (pC ψ - p) (posP ψ p).1 (posP ψ p).2
              · rw [if_pos c] at hf
                have hs : chP ψ p (posP ψ p) = some l := by
                  rw [hch, if_pos]
                  show nP ψ p (posP ψ p) l ≤ pM ψ p
                  omega
                refine bq_t (by rw [c]) ⟨v20, ?_⟩
                rw [KM_g7, KM_g8, KM_g10, KM_7, KM_8, KM_10]
                have x7 : upd D7 p 0 p = 0 := upd_at _ _ _
                have EX1 := EXIT l (upd D7 p 0) (upd D8 p (nI l)) D9 (upd D10 p (nI k)) hs (fun q hq => by
                  rw [upd_ne _ _ (by omega), upd_ne _ _ (by omega), upd_ne _ _ (by omega)]
                  exact hd q hq) x7 (upd_at _ _ _) (by rw [upd_at, hf])
                have G94 : BW S m_Md_tells 94 [some (.ref 153), some (.int (nI (pN ψ))), some (.int (nI (posP ψ p).1)), some (.int (nI (posP ψ p).2)), some (.int (nI p)), some (.int (nI (TT ψ (pC ψ - p) (posP ψ p).1 (posP ψ p).2))), some (.int (nI l + 1)), none] [] (enc (KM τ (nI (pC ψ)) c4 (upd D7 p 0) (upd D8 p (nI l)) D9 (upd D10 p (nI k)) (arrP ψ g6 (fun j => if j < 120 then -1 else gC τ 11 j) p) (arrP ψ (g7 σ ψ) (gC τ 12) p) (arrP ψ (g8n σ ψ) (gC τ 13) p))) (qV Q) := by
                  refine B_Md_tells_94 _ _ _ _ _ _ _ ?_
                  rw [KM_g7, KM_g8, KM_g9, KM_g10, nI_clamp (n := p) (by omega), x7, KM_9, KM_9]
                  exact bq_s (fun _ => ⟨v20, bq_t rfl EX1⟩) (fun _ => ⟨v20, bq_t rfl (bq_t rfl EX1)⟩)
                refine B_Md_tells_113 _ _ _ _ _ _ _ _ ⟨v20, ?_⟩
                rw [KM_g7, nI_clamp (n := p) (by omega), x7]
                exact bq_s (fun _ => G94) (fun _ => bq_t rfl G94)
              · rw [if_neg c] at hf
                refine bq_f (fun w => c ((nI_eq (by omega) (by omega)).mp w)) ?_
                rw [nI_1]
                exact ih3 (k + 1) (by omega) hf
          exact L113 _ 0 (by omega) rfl
      exact L94 3 0 rfl rfl
  have L10 : ∀ e k, 120 - k = e → k ≤ 120 → BW S m_Md_tells 10 [some (.ref 153), some (.int (nI (pN ψ))), some (.int (nI k)), none, none, none, none, none] [] (enc (KM τ (nI (pC ψ)) (gC τ 4) (gC τ 7) (gC τ 8) (gC τ 9) (gC τ 10) (fun j => if j < k then -1 else gC τ 11 j) (gC τ 12) (gC τ 13))) (qV Q) := by
    intro e
    induction e with
    | zero =>
      intro k he hk
      obtain rfl : k = 120 := by omega
      refine B_Md_tells_10 _ _ _ (bq_t (by decide) ?_)
      exact L36 _ 0 rfl (Nat.zero_le _) _ _ _ _ _ (fun q hq => absurd hq (by omega))
    | succ e ih =>
      intro k he hk
      refine B_Md_tells_10 _ _ _ (bq_f (nI_ge (b := 120) (by omega) (by decide)) ⟨vp_in_nI (by omega) (by decide), ?_⟩)
      rw [KM_g11, KM_11, nI_clamp (n := k) (by omega), nI_1]
      have ef : upd (fun j => if j < k then -1 else gC τ 11 j) k (-1) = fun j => if j < k + 1 then -1 else gC τ 11 j := by
        funext j
        by_cases c : j = k
        · rw [c, upd_at, if_pos (by omega)]
        · rw [upd_ne _ _ c]
          by_cases c2 : j < k
          · rw [if_pos c2, if_pos (by omega)]
          · rw [if_neg c2, if_neg (by omega)]
      rw [ef]
      exact ih (k + 1) (by omega) (by omega)
  have q := L10 120 0 rfl (by omega)
  have e0 : (fun j => if j < 0 then (-1 : Int32) else gC τ 11 j) = gC τ 11 := by
    funext j
    exact if_neg (Nat.not_lt_zero _)
  rw [e0] at q
  exact q
end
