/-! STAGES OF READING, the reference. -/
def uM (ρ : St) (a k p : Int32) : St := sY (sY (sY ρ 9 a) 7 k) 8 p
theorem uM_9 (ρ : St) (a k p b : Int32) : sY (uM ρ a k p) 9 b = uM ρ b k p := by
  show (ρ.1, va_up (va_up (va_up (va_up ρ.2.1 9 a) 7 k) 8 p) 9 b, ρ.2.2) = (ρ.1, va_up (va_up (va_up ρ.2.1 9 b) 7 k) 8 p, ρ.2.2)
  rw [va_upc _ (by decide : (8 : Nat) ≠ 9), va_upc _ (by decide : (7 : Nat) ≠ 9), va_up2]
theorem uM_78 (ρ : St) (a k p k' p' : Int32) : sY (sY (uM ρ a k p) 7 k') 8 p' = uM ρ a k' p' := by
  show (ρ.1, va_up (va_up (va_up (va_up (va_up ρ.2.1 9 a) 7 k) 8 p) 7 k') 8 p', ρ.2.2) = (ρ.1, va_up (va_up (va_up ρ.2.1 9 a) 7 k') 8 p', ρ.2.2)
  rw [va_upc _ (by decide : (8 : Nat) ≠ 7), va_up2, va_up2]
theorem uM_g9 (ρ : St) (a k p : Int32) : gY (uM ρ a k p) 9 = a := rfl
theorem uM_g7 (ρ : St) (a k p : Int32) : gY (uM ρ a k p) 7 = k := rfl
theorem uM_g10 (ρ : St) (a k p : Int32) : gY (uM ρ a k p) 10 = gY ρ 10 := rfl
theorem uM_g11 (ρ : St) (a k p : Int32) : gY (uM ρ a k p) 11 = gY ρ 11 := rfl
theorem uM_sC (ρ : St) (a k p : Int32) (j : Nat) (x : Nat → Int32) : sC (uM ρ a k p) j x = uM (sC ρ j x) a k p := rfl
theorem uM_gC (ρ : St) (a k p : Int32) (j : Nat) : gC (uM ρ a k p) j = gC ρ j := rfl
theorem sC_id (σ : St) (k : Nat) : sC σ k (gC σ k) = σ := by
  show (σ.1, σ.2.1, va_up σ.2.2.1 k (σ.2.2.1 k), σ.2.2.2) = σ
  rw [va_ups]
def TMo (ρ : St) (f : Nat → Int32) (z : Nat) : Prop := gC ρ 0 = f ∧ gY ρ 10 = nI z ∧ z ≤ 200
theorem TMo.t {ρ : St} {f : Nat → Int32} {z a : Nat} {k p : Int32} (h : TMo ρ f z) (ha : a ≤ z) : TM (uM ρ (nI a) k p) f z a := ⟨h.1, h.2.1, uM_g9 _ _ _ _, h.2.2, by have := h.2.2; omega⟩
def dgR (f : Nat → Int32) (z r : Nat) : PR :=
  if rnf 48 57 f z r = r then .inl (1, nI r)
  else if 5 < rnf 48 57 f z r - r then .inl (1, nI (r + 5)) else .inr (rnf 48 57 f z r)
def dgS (f : Nat → Int32) (z a : Nat) : PR := dgR f z (skf f z a)
/-- n bytes from r on, copied to b -/
def cpf (C : Nat → Int32) (b : Nat) (f : Nat → Int32) (r : Nat) : Nat → Nat → Int32
  | 0 => C
  | n + 1 => upd (cpf C b f r n) (b + n) (f (r + n))
theorem hv_n {lo hi : Int32} {f : Nat → Int32} {z r : Nat} (h : ¬ (lo ≤ hvf f z r ∧ hvf f z r ≤ hi)) : rnf lo hi f z r = r := rnf_f (fun w => h (by unfold hvf; rw [if_pos w.1]; exact w.2))
theorem hv_y {lo hi : Int32} {f : Nat → Int32} {z r : Nat} (hlo : ¬ lo ≤ -1) (h : lo ≤ hvf f z r ∧ hvf f z r ≤ hi) : r < z ∧ r < rnf lo hi f z r := by
  unfold hvf at h
  by_cases y : r < z
  · rw [if_pos y] at h
    refine ⟨y, ?_⟩
    rw [rnf_t y h]
    exact (rnf_p _ (r + 1) rfl).1
  · rw [if_neg y] at h
    exact absurd h.1 hlo
theorem dv_r (x y : Int32) : 10 * x + y - 48 = x * 10 + (y - 48) := by
  rw [Int32.sub_eq_add_neg, Int32.sub_eq_add_neg, Int32.add_assoc, Int32.mul_comm]
section
variable {S : XS} {ρ : St} {f : Nat → Int32} {z a : Nat}
theorem K_hereU {Q : Int32 → St → Prop} {k p : Int32} (h : TMo ρ f z) (ha : a ≤ z) (H : Q (hvf f z (skf f z a)) (uM ρ (nI (skf f z a)) k p)) : CM S m_Md_here [.ref 153] (enc (uM ρ (nI a) k p)) (qI Q) :=
  K_here (h.t ha) (by rw [uM_9]; exact H)
theorem K_bl0 {Q : St → Prop} {b p x y : Int32} (H : Q (uM ρ b x y)) : CM S m_Md_blame [.ref 153, .int x, .int y] (enc (uM ρ b 0 p)) (qV Q) := by
  refine C_Md_blame _ _ _ (B_Md_blame_0 _ _ _ (bq_t (by rw [uM_g7]; decide) ?_))
  rw [uM_78]
  exact H
theorem K_bl1 {Q : St → Prop} {b k p x y : Int32} (hk : ¬ k ≤ 0) (H : Q (uM ρ b k p)) : CM S m_Md_blame [.ref 153, .int x, .int y] (enc (uM ρ b k p)) (qV Q) :=
  C_Md_blame _ _ _ (B_Md_blame_0 _ _ _ (bq_f hk H))
theorem K_sp {Q : Int32 → St → Prop} {σ : St} {t e : Nat} {x1 : Int64} {x3 : Int32} (h : TM σ f z a) (ht : t < 7) (e1 : x1 = spW t) (e3 : x3 = nI (xlen.getD t 0)) (hae : a ≤ e) (hez : e ≤ z) (H1 : wrd f a (e - a) t → Q 1 σ) (H0 : ¬ wrd f a (e - a) t → Q 0 σ) : CM S m_Md_spells [.ref 153, .int (nI e), .long x1, .int x3] (enc σ) (qI Q) := by
  subst e1 e3
  exact K_spells h ht hae hez H1 H0
theorem K_ps0 {Q : Int32 → St → Prop} {t : Nat} {p : Int32} {x1 : Int64} {x3 : Int32} (h : TMo ρ f z) (ha : a ≤ z) (ht : t < 7) (e1 : x1 = spW t) (e3 : x3 = nI (xlen.getD t 0)) (H1 : wrB f (skf f z a) (rnf 97 122 f z (skf f z a) - skf f z a) t = true → rnf 97 122 f z (skf f z a) ≤ z → Q 1 (uM ρ (nI (rnf 97 122 f z (skf f z a))) 0 p)) (H0 : wrB f (skf f z a) (rnf 97 122 f z (skf f z a) - skf f z a) t = false → skf f z a ≤ z → Q 0 (uM ρ (nI (skf f z a)) 0 p)) : CM S m_Md_passes [.ref 153, .long x1, .int x3] (enc (uM ρ (nI a) 0 p)) (qI Q) := by
  obtain ⟨b1, b2⟩ := skf_b (f := f) ha
  refine C_Md_passes _ _ _ (B_Md_passes_0 _ _ _ (K_hereU h ha ?_))
  generalize skf f z a = r at H0 H1 b1 b2 ⊢
  refine K_isLet (fun y => bq_f (by decide) ?_) (fun y => bq_t rfl (H0 ?_ b2))
  · obtain ⟨c1, c2⟩ := rnf_b (lo := 97) (hi := 122) (f := f) b2
    refine K_wordEnd (h.t b2) (K_sp (h.t b2) ht e1 e3 c1 c2 (fun w => bq_fn (by decide) (K_wordEnd (h.t b2) ?_)) (fun w => bq_tn rfl (H0 (wrB_f w) b2)))
    rw [uM_9]
    exact H1 (wrB_t w) c2
  · rw [hv_n y, Nat.sub_self]
    exact wrB_0 ht
theorem K_nm0 {Q : St → Prop} {c w : Nat} {x : Int32} (h : TMo ρ f z) (ha : a ≤ z) (hc : gY ρ 11 = nI c) (hc2 : c ≤ 60) (hw : w ≤ 1) (hx : x = nI w) (H : pc z (nmS f z a) (fun k p => Q (uM ρ (nI (skf f z a)) k p)) (fun e => Q (uM (sC (sC ρ 15 (upd (gC ρ 15) (2 * c + w) (nI (e - skf f z a)))) 14 (cpf (gC ρ 14) (20 * c + 10 * w) f (skf f z a) (e - skf f z a))) (nI e) 0 (-1)))) : CM S m_Md_name [.ref 153, .int x] (enc (uM ρ (nI a) 0 (-1))) (qV Q) := by
  subst hx
  obtain ⟨b1, b2⟩ := skf_b (f := f) ha
  have hz := h.2.2
  refine C_Md_name _ _ (B_Md_name_0 _ _ (K_hereU h ha ?_))
  unfold nmS at H
  generalize skf f z a = r at H b1 b2 ⊢
  refine K_isLet (fun y => bq_fn (by decide) ?_) (fun y => bq_tn rfl ?_)
  · obtain ⟨d1, d2⟩ := hv_y (by decide) y
    obtain ⟨c1, c2⟩ := rnf_b (lo := 97) (hi := 122) (f := f) b2
    refine K_wordEnd (h.t b2) ?_
    unfold nmR at H
    generalize rnf 97 122 f z r = e at H c1 c2 d2 ⊢
    have F : ∀ w0, fwB f r (e - r) = w0 → w0 = true → Q (uM ρ (nI r) 1 (nI r)) := by
      intro w0 h1 h2
      rw [if_pos (Or.inr (h1.trans h2))] at H
      exact H k1p
    refine K_sp (h.t b2) (t := 0) (by decide) rfl (by decide) c1 c2 (fun w0 => bq_fn (by decide) ?_) (fun w0 => bq_tn rfl ?_)
    · rw [uM_g9]
      have F := F _ rfl (by unfold fwB; rw [wrB_t w0]; rfl)
      exact K_bl0 (bq_s (fun _ => bq_f k1p F) (fun _ => K_bl1 k1p (bq_f k1p F)))
    refine K_sp (h.t b2) (t := 1) (by decide) rfl (by decide) c1 c2 (fun w1 => bq_fn (by decide) ?_) (fun w1 => bq_tn rfl ?_)
    · rw [uM_g9]
      have F := F _ rfl (by unfold fwB; rw [wrB_f w0, wrB_t w1]; rfl)
      exact K_bl0 (bq_s (fun _ => bq_f k1p F) (fun _ => K_bl1 k1p (bq_f k1p F)))
    refine K_sp (h.t b2) (t := 2) (by decide) rfl (by decide) c1 c2 (fun w2 => bq_fn (by decide) ?_) (fun w2 => bq_tn rfl ?_)
    · rw [uM_g9]
      have F := F _ rfl (by unfold fwB; rw [wrB_f w0, wrB_f w1, wrB_t w2]; rfl)
      exact K_bl0 (bq_s (fun _ => bq_f k1p F) (fun _ => K_bl1 k1p (bq_f k1p F)))
    refine K_sp (h.t b2) (t := 3) (by decide) rfl (by decide) c1 c2 (fun w3 => bq_f (by decide) ?_) (fun w3 => bq_t rfl ?_)
    · rw [uM_g9]
      have F := F _ rfl (by unfold fwB; rw [wrB_f w0, wrB_f w1, wrB_f w2, wrB_t w3]; rfl)
      exact K_bl0 (bq_s (fun _ => bq_f k1p F) (fun _ => K_bl1 k1p (bq_f k1p F)))
    have ew : fwB f r (e - r) = false := by unfold fwB; rw [wrB_f w0, wrB_f w1, wrB_f w2, wrB_f w3]; rfl
    rw [if_neg (fun k => k.elim (fun k1 => by omega) (fun k2 => by rw [ew] at k2; exact Bool.noConfusion k2))] at H
    rw [uM_g9, nI_sub c1]
    by_cases y2 : 10 < e - r
    · rw [if_pos y2] at H
      refine bq_f (nI_ge (b := e - r) (a := 10) y2 (by omega)) ?_
      rw [show (10 : Int32) = nI 10 from rfl, nI_add]
      exact K_bl0 (bq_f k1p (H k1p))
    · rw [if_neg y2] at H
      have H := H c2
      try dsimp only at H
      refine bq_t (nI_le (b := 10) (by omega) (by decide)) (bq_t (by rw [uM_g7]; decide) ?_)
      rw [uM_g11, hc, show (2 : Int32) = nI 2 from rfl, nI_mul, nI_add, nI_clamp (by omega), uM_gC, uM_sC]
      refine ⟨vp_in_nI (by omega) (by decide), ?_⟩
      generalize hρ1 : sC ρ 15 (upd (gC ρ 15) (2 * c + w) (nI (e - r))) = ρ1 at H ⊢
      have h1 : TMo ρ1 f z := by rw [← hρ1]; exact h
      have hc1 : gY ρ1 11 = nI c := by rw [← hρ1]; exact hc
      have h14 : gC ρ1 14 = gC ρ 14 := by rw [← hρ1]; rfl
      have L : ∀ d i, (e - r) - i = d → i ≤ e - r → BW S m_Md_name 134 [some (.ref 153), some (.int (nI w)), some (.int (nI e)), some (.int (nI i))] [] (enc (uM (sC ρ1 14 (cpf (gC ρ 14) (20 * c + 10 * w) f r i)) (nI (r + i)) 0 (-1))) (qV Q) := by
        intro d
        induction d with
        | zero =>
          intro i hd hi
          obtain rfl : i = e - r := by omega
          refine B_Md_name_134 _ _ _ _ ?_
          rw [uM_g9]
          rw [show r + (e - r) = e by omega]
          exact bq_t (nI_le (Nat.le_refl _) (by omega)) H
        | succ d ih =>
          intro i hd hi
          refine B_Md_name_134 _ _ _ _ ?_
          have e1 : gY (uM (sC ρ1 14 (cpf (gC ρ 14) (20 * c + 10 * w) f r i)) (nI (r + i)) 0 (-1)) 11 = nI c := hc1
          have e2 : gC (uM (sC ρ1 14 (cpf (gC ρ 14) (20 * c + 10 * w) f r i)) (nI (r + i)) 0 (-1)) 0 = f := h1.1
          have e3 : gC (uM (sC ρ1 14 (cpf (gC ρ 14) (20 * c + 10 * w) f r i)) (nI (r + i)) 0 (-1)) 14 = cpf (gC ρ 14) (20 * c + 10 * w) f r i := rfl
          rw [uM_g9, e1, e2, e3, show (20 : Int32) = nI 20 from rfl, show (10 : Int32) = nI 10 from rfl, nI_mul, nI_mul, nI_add, nI_add, nI_clamp (n := r + i) (by omega), nI_clamp (n := 20 * c + 10 * w + i) (by omega), nI_1, nI_1, uM_sC, sC_sC, uM_9]
          exact bq_f (nI_ge (by omega) (by omega)) ⟨vp_in_nI (by omega) (by decide), vp_in_nI (by omega) (by decide), ih (i + 1) (by omega) (by omega)⟩
      have q := L _ 0 rfl (by omega)
      rw [show cpf (gC ρ 14) (20 * c + 10 * w) f r 0 = gC ρ1 14 from h14.symm, sC_id] at q
      exact q
  · unfold nmR at H
    rw [if_pos (Or.inl (hv_n y))] at H
    rw [uM_g9]
    exact K_bl0 (H k1p)
theorem K_dg0 {Q : Int32 → St → Prop} (h : TMo ρ f z) (ha : a ≤ z) (H : pc z (dgS f z a) (fun k p => ∀ v b, b ≤ 1000 → Q v (uM ρ (nI b) k p)) (fun e => Q (dv f (skf f z a) (e - skf f z a)) (uM ρ (nI e) 0 (-1)))) : CM S m_Md_digits [.ref 153] (enc (uM ρ (nI a) 0 (-1))) (qI Q) := by
  obtain ⟨b1, b2⟩ := skf_b (f := f) ha
  have hz := h.2.2
  refine C_Md_digits _ (B_Md_digits_0 _ (K_hereU h ha ?_))
  unfold dgS at H
  generalize skf f z a = r at H b1 b2 ⊢
  unfold dgR at H
  refine K_isDig (fun y => bq_fn (by decide) ?_) (fun y => bq_tn rfl ?_)
  · obtain ⟨d1, d2⟩ := hv_y (by decide) y
    obtain ⟨c1, c2⟩ := rnf_b (lo := 48) (hi := 57) (f := f) b2
    rw [if_neg (by omega)] at H
    have L : ∀ d i, z - (r + i) = d → i ≤ 5 → r + i ≤ z → rnf 48 57 f z (r + i) = rnf 48 57 f z r → BW S m_Md_digits 25 [some (.ref 153), some (.int (dv f r i)), some (.int (nI i))] [] (enc (uM ρ (nI (r + i)) 0 (-1))) (qI Q) := by
      intro d
      induction d with
      | zero =>
        intro i hd hi hr he
        refine B_Md_digits_25 _ _ _ ?_
        rw [uM_g9, uM_g10, h.2.1]
        have e1 : rnf 48 57 f z (r + i) = r + i := rnf_f (fun w => by omega)
        rw [if_neg (by omega), ← he, e1] at H
        have H := H hr
        try dsimp only at H
        rw [show r + i - r = i by omega] at H
        exact bq_t (nI_le (by omega) (by omega)) H
      | succ d ih =>
        intro i hd hi hr he
        refine B_Md_digits_25 _ _ _ ?_
        rw [uM_g9, uM_g10, h.2.1, uM_gC, h.1, nI_clamp (by omega)]
        refine bq_f (nI_ge (by omega) (by omega)) ⟨vp_in_nI (by omega) (by decide), K_isDig (fun y2 => bq_f (by decide) ?_) (fun y2 => bq_t rfl ?_)⟩
        · rw [uM_g7]
          refine bq_tn rfl ?_
          have e5 := rnf_t (lo := 48) (hi := 57) (f := f) (z := z) (a := r + i) (by omega) y2
          have e6 := (rnf_b (lo := 48) (hi := 57) (f := f) (z := z) (a := r + i + 1) (by omega)).1
          by_cases y5 : i = 5
          · subst y5
            refine bq_tn rfl (K_bl0 ?_)
            rw [if_pos (by omega)] at H
            have H := H k1p
            try dsimp only at H
            rw [uM_g9, uM_gC, h.1, nI_clamp (by omega), nI_1, nI_1, uM_9]
            refine ⟨vp_in_nI (by omega) (by decide), B_Md_digits_25 _ _ _ ?_⟩
            rw [uM_g9, uM_g10, h.2.1]
            refine bq_s (fun _ => H _ _ (by omega)) (fun k5 => ?_)
            have k6 : r + 5 + 1 < z := by
              by_cases k7 : r + 5 + 1 < z
              · exact k7
              · exact absurd (nI_le (by omega) (by omega)) k5
            refine ⟨vp_in_nI (by omega) (by decide), K_isDig (fun _ => bq_f (by decide) (bq_fn ?_ (H _ _ (by omega)))) (fun _ => bq_t rfl (H _ _ (by omega)))⟩
            rw [uM_g7]
            decide
          · refine bq_fn (fun w => y5 ((nI_eq (b := 5) (by omega) (by decide)).mp w)) ⟨vp_in_nI (by omega) (by decide), ?_⟩
            rw [uM_g9, uM_gC, h.1, nI_clamp (by omega), nI_1, nI_1, uM_9, dv_r]
            exact ih (i + 1) (by omega) (by omega) (by omega) (by rw [← he, e5]; rfl)
        · have e1 : rnf 48 57 f z (r + i) = r + i := rnf_f (fun w => y2 w.2)
          rw [if_neg (by omega), ← he, e1] at H
          have H := H hr
          try dsimp only at H
          rw [show r + i - r = i by omega] at H
          exact H
    exact L _ 0 rfl (by omega) b2 rfl
  · rw [if_pos (hv_n y)] at H
    rw [uM_g9]
    exact K_bl0 (H k1p _ _ (by omega))
theorem K_nu0M {Q : Int32 → St → Prop} {lo hi : Int32} (h : TMo ρ f z) (ha : a ≤ z) (H : pc z (nuS lo hi f z a) (fun k p => ∀ v b, b ≤ 1000 → Q v (uM ρ (nI b) k p)) (fun e => Q (dv f (skf f z a) (e - skf f z a)) (uM ρ (nI e) 0 (-1)))) : CM S m_Md_number [.ref 153, .int lo, .int hi] (enc (uM ρ (nI a) 0 (-1))) (qI Q) := by
  obtain ⟨b1, b2⟩ := skf_b (f := f) ha
  have hz := h.2.2
  refine C_Md_number _ _ _ (B_Md_number_0 _ _ _ (K_hereU h ha (K_dg0 h b2 ?_)))
  have e0 : skf f z (skf f z a) = skf f z a := skf_id
  unfold nuS at H
  unfold dgS
  rw [e0]
  generalize skf f z a = r at H b1 b2 ⊢
  obtain ⟨c1, c2⟩ := rnf_b (lo := 48) (hi := 57) (f := f) b2
  unfold nuR at H
  unfold dgR
  generalize rnf 48 57 f z r = e at H c1 c2 ⊢
  by_cases y : e = r
  · rw [if_pos y] at H ⊢
    intro hk v b hb
    exact bq_fn (k0n hk) (H k1p _ _ hb)
  · rw [if_neg y] at H ⊢
    by_cases y2 : 5 < e - r
    · rw [if_pos y2] at H ⊢
      intro hk v b hb
      exact bq_fn (k0n hk) (H k1p _ _ hb)
    · rw [if_neg y2] at H ⊢
      intro _
      refine bq_tn (by rw [uM_g7]) ?_
      by_cases y3 : dv f r (e - r) < lo ∨ hi < dv f r (e - r)
      · rw [if_pos y3] at H
        refine K_isF (fun w => y3.elim (fun k => Int32.not_le.mpr k w.1) (fun k => Int32.not_le.mpr k w.2)) (bq_tn rfl ?_)
        rw [uM_g9]
        exact K_bl0 (H k2p _ _ (by omega))
      · rw [if_neg y3] at H
        exact K_isT ⟨Int32.not_lt.mp (fun k => y3 (Or.inl k)), Int32.not_lt.mp (fun k => y3 (Or.inr k))⟩ (bq_fn (by decide) (H c2))
theorem K_mu0 {Q : St → Prop} {c : Int32} (h : TMo ρ f z) (ha : a ≤ z) (hc : ¬ c = -1) (H : pc z (sgS c f z a) (fun k p => Q (uM ρ (nI (skf f z a + 1)) k p)) (fun e => Q (uM ρ (nI e) 0 (-1)))) : CM S m_Md_must [.ref 153, .int c] (enc (uM ρ (nI a) 0 (-1))) (qV Q) := by
  refine C_Md_must _ _ (B_Md_must_0 _ _ (K_hereU h ha ?_))
  unfold sgS at H
  by_cases y : hvf f z (skf f z a) = c
  · rw [if_pos y] at H
    refine bq_t y ?_
    rw [uM_g9, nI_1, uM_9]
    refine H ?_
    unfold hvf at y
    by_cases y2 : skf f z a < z
    · exact y2
    · rw [if_neg y2] at y
      exact absurd y.symm hc
  · rw [if_neg y] at H
    refine bq_f y ?_
    rw [uM_g9]
    refine K_bl0 ?_
    rw [uM_g9, nI_1, uM_9]
    exact H k1p
theorem K_ed1 {Q : St → Prop} {b k p : Int32} (hk : ¬ k ≤ 0) (H : Q (uM ρ b k p)) : CM S m_Md_ends [.ref 153] (enc (uM ρ b k p)) (qV Q) := by
  have hk2 : ¬ gY (uM ρ b k p) 7 = 0 := fun e => hk (by rw [← uM_g7 ρ b k p, e]; decide)
  exact C_Md_ends _ (B_Md_ends_0 _ (bq_fn hk2 (bq_fn hk2 H)))
theorem K_ed0 {Q : St → Prop} (h : TMo ρ f z) (ha : a ≤ z) (hf : ∀ i, ¬ f i = -1) (H : pc z (sgS 59 f z a) (fun k p => ∀ b, Q (uM ρ b k p)) (fun e => pc z (enS f z e) (fun k p => ∀ b, Q (uM ρ b k p)) (fun e' => Q (uM ρ (nI e') 0 (-1))))) : CM S m_Md_ends [.ref 153] (enc (uM ρ (nI a) 0 (-1))) (qV Q) := by
  refine C_Md_ends _ (B_Md_ends_0 _ (bq_tn (by rw [uM_g7]) (K_mu0 h ha (by decide) ?_)))
  cases hx : sgS 59 f z a with
  | inl e =>
    rw [hx] at H
    intro hk
    have hk2 : ¬ gY (uM ρ (nI (skf f z a + 1)) e.1 e.2) 7 = 0 := fun e' => hk (by rw [← uM_g7 ρ (nI (skf f z a + 1)) e.1 e.2, e']; decide)
    exact bq_fn hk2 (H hk _)
  | inr b =>
    rw [hx] at H
    intro hb
    have H := H hb
    try dsimp only at H
    refine bq_tn (by rw [uM_g7]) (K_hereU h hb ?_)
    unfold enS at H
    by_cases y : skf f z b < z
    · rw [if_pos y] at H
      unfold hvf
      rw [if_pos y]
      refine bq_f (hf _) ?_
      rw [uM_g9]
      exact K_bl0 (H k1p _)
    · rw [if_neg y] at H
      unfold hvf
      rw [if_neg y]
      exact bq_t rfl (H (skf_b hb).2)
end
