/-! READING A FACT. -/
theorem dv_b {f : Nat → Int32} {r : Nat} : ∀ n, n ≤ 5 → (∀ i, i < n → 48 ≤ f (r + i) ∧ f (r + i) ≤ 57) → 0 ≤ (dv f r n).toInt ∧ (dv f r n).toInt < 10 ^ n := by
  intro n
  induction n with
  | zero =>
    intro _ _
    show 0 ≤ (0 : Int32).toInt ∧ (0 : Int32).toInt < 10 ^ 0
    decide
  | succ n ih =>
    intro hn hd
    obtain ⟨i1, i2⟩ := ih (by omega) (fun i hi => hd i (by omega))
    obtain ⟨d1, d2⟩ := hd n (by omega)
    have t1 := Int32.le_iff_toInt_le.mp d1
    have t2 := Int32.le_iff_toInt_le.mp d2
    have z1 : (48 : Int32).toInt = 48 := rfl
    have z2 : (57 : Int32).toInt = 57 := rfl
    have z3 : (10 : Int32).toInt = 10 := rfl
    rw [z1] at t1
    rw [z2] at t2
    have p : (10 : Int) ^ n ≤ 10000 := by
      rcases (show n = 0 ∨ n = 1 ∨ n = 2 ∨ n = 3 ∨ n = 4 by omega) with rfl | rfl | rfl | rfl | rfl <;> decide
    have e1 : (f (r + n) - 48).toInt = (f (r + n)).toInt - 48 := by rw [ti_sub (by rw [z1]; omega) (by rw [z1]; omega), z1]
    have e2 : (dv f r n * 10).toInt = (dv f r n).toInt * 10 := by rw [ti_mul (by rw [z3]; omega) (by rw [z3]; omega), z3]
    have e3 : (dv f r (n + 1)).toInt = (dv f r n).toInt * 10 + ((f (r + n)).toInt - 48) := by
      show (dv f r n * 10 + (f (r + n) - 48)).toInt = _
      rw [ti_add (by rw [e1, e2]; omega) (by rw [e1, e2]; omega), e1, e2]
    rw [e3, Int.pow_succ]
    omega
theorem rnf_d {lo hi : Int32} {f : Nat → Int32} {z r i : Nat} (h : i < rnf lo hi f z r - r) : lo ≤ f (r + i) ∧ f (r + i) ≤ hi := ((rnf_p (lo := lo) (hi := hi) (f := f) (z := z) _ r rfl).2.2.1 (r + i) (by omega) (by omega)).2
theorem nuS_dg (f : Nat → Int32) (z a : Nat) : nuS 0 99999 f z a = dgS f z a := by
  unfold nuS dgS nuR dgR
  generalize skf f z a = r
  by_cases y : rnf 48 57 f z r = r
  · rw [if_pos y, if_pos y]
  · rw [if_neg y, if_neg y]
    by_cases y2 : 5 < rnf 48 57 f z r - r
    · rw [if_pos y2, if_pos y2]
    · rw [if_neg y2, if_neg y2]
      have b := dv_b (f := f) (r := r) (rnf 48 57 f z r - r) (by omega) (fun i hi => rnf_d hi)
      have p : (10 : Int) ^ (rnf 48 57 f z r - r) ≤ 100000 := by
        rcases (show rnf 48 57 f z r - r = 0 ∨ rnf 48 57 f z r - r = 1 ∨ rnf 48 57 f z r - r = 2 ∨ rnf 48 57 f z r - r = 3 ∨ rnf 48 57 f z r - r = 4 ∨ rnf 48 57 f z r - r = 5 by omega) with e | e | e | e | e | e <;> rw [e] <;> decide
      have z1 : (99999 : Int32).toInt = 99999 := rfl
      have z0 : (0 : Int32).toInt = 0 := rfl
      rw [if_neg (fun k => k.elim (fun k => by have := Int32.lt_iff_toInt_lt.mp k; omega) (fun k => by have := Int32.lt_iff_toInt_lt.mp k; omega))]
theorem nmS_i {f : Nat → Int32} {z a e : Nat} (h : nmS f z a = .inr e) : 1 ≤ e - skf f z a ∧ e - skf f z a ≤ 10 ∧ ∀ i, i < e - skf f z a → 97 ≤ f (skf f z a + i) ∧ f (skf f z a + i) ≤ 122 := by
  unfold nmS nmR at h
  have p := (rnf_p (lo := 97) (hi := 122) (f := f) (z := z) _ (skf f z a) rfl).1
  by_cases y : rnf 97 122 f z (skf f z a) = skf f z a ∨ fwB f (skf f z a) (rnf 97 122 f z (skf f z a) - skf f z a) = true
  · rw [if_pos y] at h
    exact absurd h (by simp)
  · rw [if_neg y] at h
    by_cases y2 : 10 < rnf 97 122 f z (skf f z a) - skf f z a
    · rw [if_pos y2] at h
      exact absurd h (by simp)
    · rw [if_neg y2] at h
      have e1 : rnf 97 122 f z (skf f z a) = e := Sum.inr.inj h
      have y3 : ¬ rnf 97 122 f z (skf f z a) = skf f z a := fun k => y (Or.inl k)
      refine ⟨by omega, by omega, fun i hi => rnf_d (z := z) ?_⟩
      rw [e1]
      exact hi
theorem wdS_sk (t : Nat) (f : Nat → Int32) (z a : Nat) : wdS t f z (skf f z a) = wdS t f z a := by unfold wdS; rw [skf_id]
theorem pc_cases (z : Nat) (x : PR) : (∃ k p : Int32, ¬ k ≤ 0 ∧ ∀ (F : Int32 → Int32 → Prop) (G : Nat → Prop), F k p → pc z x F G) ∨ (∃ a, x = .inr a ∧ a ≤ z ∧ ∀ (F : Int32 → Int32 → Prop) (G : Nat → Prop), G a → pc z x F G) := by
  cases x with
  | inl e =>
    by_cases h : e.1 ≤ 0
    · exact Or.inl ⟨1, 0, k1p, fun F G _ hk => absurd h hk⟩
    · exact Or.inl ⟨e.1, e.2, h, fun F G hF _ => hF⟩
  | inr a =>
    by_cases h : a ≤ z
    · exact Or.inr ⟨a, rfl, h, fun F G hG _ => hG⟩
    · exact Or.inl ⟨1, 0, k1p, fun F G _ ha => absurd ha h⟩
def tlP (f : Nat → Int32) (z a : Nat) (F : Int32 → Int32 → Prop) (G : Int32 → Prop) : Prop :=
  pc z (dgS f z a) F (fun e => pc z (sgS 59 f z e) F (fun e2 => pc z (enS f z e2) F (fun _ => G (dv f (skf f z a) (e - skf f z a)))))
def fp (f : Nat → Int32) (z : Nat) (F : Int32 → Int32 → Prop) (G : Int32 → Nat → Nat → Nat → Nat → Int32 → Prop) : Prop :=
  pc z (nmS f z 0) F (fun e1 =>
    if wrB f (skf f z e1) (rnf 97 122 f z (skf f z e1) - skf f z e1) 0 = true then tlP f z (rnf 97 122 f z (skf f z e1)) F (fun d => G 0 (skf f z 0) (e1 - skf f z 0) 0 0 d)
    else if wrB f (skf f z e1) (rnf 97 122 f z (skf f z e1) - skf f z e1) 1 = true then tlP f z (rnf 97 122 f z (skf f z e1)) F (fun d => G 1 (skf f z 0) (e1 - skf f z 0) 0 0 d)
    else pc z (wdS 2 f z e1) F (fun e2 => pc z (nmS f z e2) F (fun e3 => pc z (wdS 3 f z e3) F (fun e4 => tlP f z e4 F (fun d => G 2 (skf f z 0) (e1 - skf f z 0) (skf f z e2) (e3 - skf f z e2) d)))))
theorem pc_mono {z : Nat} {x : PR} {F F' : Int32 → Int32 → Prop} {G G' : Nat → Prop} (hF : ∀ k p, F k p → F' k p) (hG : ∀ a, G a → G' a) (h : pc z x F G) : pc z x F' G' := by
  cases x with
  | inl e => exact fun hk => hF _ _ (h hk)
  | inr a => exact fun ha => hG _ (h ha)
theorem tlP_mono {f : Nat → Int32} {z a : Nat} {F F' : Int32 → Int32 → Prop} {G G' : Int32 → Prop} (hF : ∀ k p, F k p → F' k p) (hG : ∀ a, G a → G' a) (h : tlP f z a F G) : tlP f z a F' G' :=
  pc_mono hF (fun _ => pc_mono hF (fun _ => pc_mono hF (fun _ => hG _))) h
theorem tl_cases (f : Nat → Int32) (z a : Nat) : (∃ k p : Int32, ¬ k ≤ 0 ∧ ∀ (F : Int32 → Int32 → Prop) (G : Int32 → Prop), F k p → tlP f z a F G) ∨ (∃ d, ∀ (F : Int32 → Int32 → Prop) (G : Int32 → Prop), G d → tlP f z a F G) := by
  unfold tlP
  rcases pc_cases z (dgS f z a) with ⟨k, p, hk, u⟩ | ⟨e, -, -, u⟩
  · exact Or.inl ⟨k, p, hk, fun F G h => u _ _ h⟩
  rcases pc_cases z (sgS 59 f z e) with ⟨k, p, hk, v⟩ | ⟨e2, -, -, v⟩
  · exact Or.inl ⟨k, p, hk, fun F G h => u _ _ (v _ _ h)⟩
  rcases pc_cases z (enS f z e2) with ⟨k, p, hk, w⟩ | ⟨e3, -, -, w⟩
  · exact Or.inl ⟨k, p, hk, fun F G h => u _ _ (v _ _ (w _ _ h))⟩
  exact Or.inr ⟨_, fun F G h => u _ _ (v _ _ (w _ _ h))⟩
/-- a name of n letters at r -/
def nmA (f : Nat → Int32) (r n : Nat) : Prop := 1 ≤ n ∧ n ≤ 10 ∧ ∀ i, i < n → 97 ≤ f (r + i) ∧ f (r + i) ≤ 122
theorem fp_cases (f : Nat → Int32) (z : Nat) : (∃ k p : Int32, ¬ k ≤ 0 ∧ ∀ (F : Int32 → Int32 → Prop) (G : Int32 → Nat → Nat → Nat → Nat → Int32 → Prop), F k p → fp f z F G) ∨ (∃ K r1 n1 r2 n2 d, (K = 0 ∨ K = 1 ∨ K = 2) ∧ nmA f r1 n1 ∧ (K = 2 → nmA f r2 n2) ∧ ∀ (F : Int32 → Int32 → Prop) (G : Int32 → Nat → Nat → Nat → Nat → Int32 → Prop), G K r1 n1 r2 n2 d → fp f z F G) := by
  unfold fp
  rcases pc_cases z (nmS f z 0) with ⟨k, p, hk, u⟩ | ⟨e1, x1, -, u⟩
  · exact Or.inl ⟨k, p, hk, fun F G h => u _ _ h⟩
  have m1 := nmS_i x1
  by_cases y0 : wrB f (skf f z e1) (rnf 97 122 f z (skf f z e1) - skf f z e1) 0 = true
  · rcases tl_cases f z (rnf 97 122 f z (skf f z e1)) with ⟨k, p, hk, v⟩ | ⟨d, v⟩
    · exact Or.inl ⟨k, p, hk, fun F G h => u _ _ (by rw [if_pos y0]; exact v _ _ h)⟩
    · exact Or.inr ⟨0, _, _, _, _, d, Or.inl rfl, m1, fun h => absurd h (by decide), fun F G h => u _ _ (by rw [if_pos y0]; exact v _ _ h)⟩
  by_cases y1 : wrB f (skf f z e1) (rnf 97 122 f z (skf f z e1) - skf f z e1) 1 = true
  · rcases tl_cases f z (rnf 97 122 f z (skf f z e1)) with ⟨k, p, hk, v⟩ | ⟨d, v⟩
    · exact Or.inl ⟨k, p, hk, fun F G h => u _ _ (by rw [if_neg y0, if_pos y1]; exact v _ _ h)⟩
    · exact Or.inr ⟨1, _, _, _, _, d, Or.inr (Or.inl rfl), m1, fun h => absurd h (by decide), fun F G h => u _ _ (by rw [if_neg y0, if_pos y1]; exact v _ _ h)⟩
  rcases pc_cases z (wdS 2 f z e1) with ⟨k, p, hk, v⟩ | ⟨e2, -, -, v⟩
  · exact Or.inl ⟨k, p, hk, fun F G h => u _ _ (by rw [if_neg y0, if_neg y1]; exact v _ _ h)⟩
  rcases pc_cases z (nmS f z e2) with ⟨k, p, hk, w⟩ | ⟨e3, x3, -, w⟩
  · exact Or.inl ⟨k, p, hk, fun F G h => u _ _ (by rw [if_neg y0, if_neg y1]; exact v _ _ (w _ _ h))⟩
  have m2 := nmS_i x3
  rcases pc_cases z (wdS 3 f z e3) with ⟨k, p, hk, x⟩ | ⟨e4, -, -, x⟩
  · exact Or.inl ⟨k, p, hk, fun F G h => u _ _ (by rw [if_neg y0, if_neg y1]; exact v _ _ (w _ _ (x _ _ h)))⟩
  rcases tl_cases f z e4 with ⟨k, p, hk, y⟩ | ⟨d, y⟩
  · exact Or.inl ⟨k, p, hk, fun F G h => u _ _ (by rw [if_neg y0, if_neg y1]; exact v _ _ (w _ _ (x _ _ (y _ _ h))))⟩
  · exact Or.inr ⟨2, _, _, _, _, d, Or.inr (Or.inr rfl), m1, fun _ => m2, fun F G h => u _ _ (by rw [if_neg y0, if_neg y1]; exact v _ _ (w _ _ (x _ _ (y _ _ h))))⟩
/-! the class -/
theorem sD_2 (σ : St) (q : Nat) (c c' : va_E) : sD (sD σ q c) q c' = sD σ q c' := by
  show ((σ.1.1, σ.1.2.1, σ.1.2.2.1, σ.1.2.2.2.1, σ.1.2.2.2.2.1, σ.1.2.2.2.2.2.1, σ.1.2.2.2.2.2.2.1, σ.1.2.2.2.2.2.2.2.1, σ.1.2.2.2.2.2.2.2.2.1, va_up (va_up σ.1.2.2.2.2.2.2.2.2.2.1 q c) q c', σ.1.2.2.2.2.2.2.2.2.2.2), σ.2) = sD σ q c'
  rw [va_up2]
  rfl
theorem sD_id (σ : St) (q : Nat) : sD σ q (gD σ q) = σ := by
  show ((σ.1.1, σ.1.2.1, σ.1.2.2.1, σ.1.2.2.2.1, σ.1.2.2.2.2.1, σ.1.2.2.2.2.2.1, σ.1.2.2.2.2.2.2.1, σ.1.2.2.2.2.2.2.2.1, σ.1.2.2.2.2.2.2.2.2.1, va_up σ.1.2.2.2.2.2.2.2.2.2.1 q (σ.1.2.2.2.2.2.2.2.2.2.1 q), σ.1.2.2.2.2.2.2.2.2.2.2), σ.2) = σ
  rw [va_ups]
def Dm (σ : St) (q : Nat) (d0 : Int64) (d1 : Int32) (d2 : Int64) (d3 : Int32) : St := sD σ q (mkF d0 d1 d2 d3 (fI σ q 4) (fI σ q 5) (fI σ q 6))
section
variable {S : XS} {σ : St} {f : Nat → Int32} {z a q : Nat} {d0 d2 : Int64} {d1 d3 a1 k p : Int32}
theorem Dm_id (h : isFa σ q) : Dm σ q (fL σ q 0) (fI σ q 1) (fL σ q 2) (fI σ q 3) = σ := by
  unfold Dm mkF
  rw [← h.2, sD_id]
theorem Dm_at : gD (uC (Dm σ q d0 d1 d2 d3) a1 k p) q = mkF d0 d1 d2 d3 (fI σ q 4) (fI σ q 5) (fI σ q 6) := sD_at σ q _
theorem sD_uC (δ : St) (a k p : Int32) (q : Nat) (c : va_E) : sD (uC δ a k p) q c = uC (sD δ q c) a k p := rfl
theorem Dm_2 (c : va_E) : sD (Dm σ q d0 d1 d2 d3) q c = sD σ q c := by
  unfold Dm
  exact sD_2 _ _ _ _
theorem Dm_F (h : isFa σ q) : isFa (uC (Dm σ q d0 d1 d2 d3) a1 k p) q := mk_isFa h.1
theorem Dm_L0 (v : Int64) : stL (uC (Dm σ q d0 d1 d2 d3) a1 k p) q 0 v = uC (Dm σ q v d1 d2 d3) a1 k p := by
  unfold stL
  rw [Dm_at]
  show sD (uC (Dm σ q d0 d1 d2 d3) a1 k p) q (mkF v d1 d2 d3 (fI σ q 4) (fI σ q 5) (fI σ q 6)) = uC (Dm σ q v d1 d2 d3) a1 k p
  rw [sD_uC, Dm_2]
  rfl
theorem Dm_L2 (v : Int64) : stL (uC (Dm σ q d0 d1 d2 d3) a1 k p) q 2 v = uC (Dm σ q d0 d1 v d3) a1 k p := by
  unfold stL
  rw [Dm_at]
  show sD (uC (Dm σ q d0 d1 d2 d3) a1 k p) q (mkF d0 d1 v d3 (fI σ q 4) (fI σ q 5) (fI σ q 6)) = uC (Dm σ q d0 d1 v d3) a1 k p
  rw [sD_uC, Dm_2]
  rfl
theorem Dm_I1 (v : Int32) : stI (uC (Dm σ q d0 d1 d2 d3) a1 k p) q 1 v = uC (Dm σ q d0 v d2 d3) a1 k p := by
  unfold stI
  rw [Dm_at]
  show sD (uC (Dm σ q d0 d1 d2 d3) a1 k p) q (mkF d0 v d2 d3 (fI σ q 4) (fI σ q 5) (fI σ q 6)) = uC (Dm σ q d0 v d2 d3) a1 k p
  rw [sD_uC, Dm_2]
  rfl
theorem Dm_I3 (v : Int32) : stI (uC (Dm σ q d0 d1 d2 d3) a1 k p) q 3 v = uC (Dm σ q d0 d1 d2 v) a1 k p := by
  unfold stI
  rw [Dm_at]
  show sD (uC (Dm σ q d0 d1 d2 d3) a1 k p) q (mkF d0 d1 d2 v (fI σ q 4) (fI σ q 5) (fI σ q 6)) = uC (Dm σ q d0 d1 d2 v) a1 k p
  rw [sD_uC, Dm_2]
  rfl
theorem Dm_T (h : TCo σ f z) : TCo (Dm σ q d0 d1 d2 d3) f z := h
theorem f_num {Q : St → Prop} (hk : ¬ k ≤ 0) (hF : isFa σ q) (h : TCo σ f z) (ha : a ≤ z) (H : ∀ b d3, Q (uC (Dm σ q d0 d1 d2 d3) b k p)) : CM S m_Tp_readNumber [.ref 1, .int 0, .int 99999] (enc (uC (Dm σ q d0 d1 d2 d3) (nI a) k p)) (qI fun v τ => isFa τ q ∧ CM S m_Tp_needSign [.ref 1, .int 59] (enc (stI τ q 3 v)) (qV fun τ1 => CM S m_Tp_needEnd [.ref 1] (enc τ1) (qV fun τ2 => Q τ2))) := by
  refine K_nu1 hk ⟨Dm_F hF, ?_⟩
  rw [Dm_I3]
  exact K_sg1 hk (Dm_T h) ha (by decide) (fun b hb => K_en1 hk (Dm_T h) hb (fun b' _ => H _ _))
theorem t_num {Q : St → Prop} (hF : isFa σ q) (h : TCo σ f z) (ha : a ≤ z) (H : tlP f z a (fun k p => ∀ b d3, Q (uC (Dm σ q d0 d1 d2 d3) b k p)) (fun d => ∀ b, Q (uC (Dm σ q d0 d1 d2 d) b 0 (-1)))) : CM S m_Tp_readNumber [.ref 1, .int 0, .int 99999] (enc (uC (Dm σ q d0 d1 d2 d3) (nI a) 0 (-1))) (qI fun v τ => isFa τ q ∧ CM S m_Tp_needSign [.ref 1, .int 59] (enc (stI τ q 3 v)) (qV fun τ1 => CM S m_Tp_needEnd [.ref 1] (enc τ1) (qV fun τ2 => Q τ2))) := by
  refine K_nu0 (Dm_T h) ha ?_
  unfold tlP at H
  rw [nuS_dg]
  cases hx : dgS f z a with
  | inl e =>
    rw [hx] at H
    intro hk
    refine ⟨Dm_F hF, ?_⟩
    rw [Dm_I3]
    exact K_sg1 hk (Dm_T h) (skf_b ha).2 (by decide) (fun b hb => K_en1 hk (Dm_T h) hb (fun b' _ => H hk _ _))
  | inr e =>
    rw [hx] at H
    intro he
    have H := H he
    try dsimp only at H
    refine ⟨Dm_F hF, ?_⟩
    rw [Dm_I3]
    refine K_sg0 (Dm_T h) he (by decide) ?_
    cases hy : sgS 59 f z e with
    | inl e2 =>
      rw [hy] at H
      intro hk
      exact K_en1 hk (Dm_T h) (skf_b he).2 (fun b _ => H hk _ _)
    | inr e2 =>
      rw [hy] at H
      intro h2
      have H := H h2
      try dsimp only at H
      refine K_en0 (Dm_T h) h2 ?_
      cases hw : enS f z e2 with
      | inl e3 =>
        rw [hw] at H
        intro hk
        exact H hk _ _
      | inr e3 =>
        rw [hw] at H
        intro h3
        exact H h3 _
theorem K_factC {Q : St → Prop} (hF : isFa σ q) (h : TCo σ f z) (H : fp f z (fun k p => ∀ b d0 d1 d2 d3, Q (uC (Dm σ q d0 d1 d2 d3) b k p)) (fun K r1 n1 r2 n2 d => ∀ b, Q (uC (Dm σ q (nm (fun i => f (r1 + i)) n1) K (nm (fun i => f (r2 + i)) n2) d) b 0 (-1)))) : CM S m_Fa_readFrom [.ref q, .ref 1] (enc σ) (qV Q) := by
  refine C_Fa_readFrom _ _ (B_Fa_readFrom_0 _ _ (C_Tp_open _ (B_Tp_open_0 _ ?_)))
  have e0 : sX (sX (sX σ 1 0) 2 0) 3 (-1) = uC (Dm σ q (fL σ q 0) (fI σ q 1) (fL σ q 2) (fI σ q 3)) (nI 0) 0 (-1) := by rw [Dm_id hF, nI_0]; rfl
  rw [e0]
  unfold fp at H
  refine K_rn0 (Dm_T h) (Nat.zero_le _) ?_
  cases hx : nmS f z 0 with
  | inl e =>
    rw [hx] at H
    intro hk
    have H := H hk
    try dsimp only at H
    have b0 := (skf_b (f := f) (Nat.zero_le z)).2
    refine ⟨Dm_F hF, ?_⟩
    rw [Dm_L0, Dm_L2]
    refine ⟨Dm_F hF, K_pw1 hk (bq_t rfl (K_pw1 hk (bq_t rfl ⟨Dm_F hF, ?_⟩)))⟩
    rw [Dm_I1]
    refine K_nw1 hk (Dm_T h) b0 (fun b hb => K_rn1 hk ⟨Dm_F hF, ?_⟩)
    rw [Dm_L2]
    exact K_nw1 hk (Dm_T h) hb (fun b' hb' => f_num hk hF h hb' (fun _ _ => H _ _ _ _ _))
  | inr e1 =>
    rw [hx] at H
    intro h1
    have H := H h1
    try dsimp only at H
    refine ⟨Dm_F hF, ?_⟩
    rw [Dm_L0, Dm_L2]
    refine ⟨Dm_F hF, K_pw0 (Dm_T h) h1 (by decide) (fun w hw => bq_f (by decide) ⟨Dm_F hF, ?_⟩) (fun w b1 => bq_t rfl ?_)⟩
    · rw [Dm_I1]
      rw [if_pos w] at H
      refine t_num hF h hw ?_
      exact tlP_mono (fun k p hh b d => hh _ _ _ _ _) (fun d hh b => hh b) H
    · rw [if_neg (by rw [w]; decide)] at H
      have es : skf f z (skf f z e1) = skf f z e1 := skf_id
      refine K_pw0 (Dm_T h) b1 (by decide) (fun w2 hw2 => bq_f (by decide) ⟨Dm_F hF, ?_⟩) (fun w2 b2 => bq_t rfl ⟨Dm_F hF, ?_⟩)
      · rw [es] at w2 hw2 ⊢
        rw [if_pos w2] at H
        rw [Dm_I1]
        refine t_num hF h hw2 ?_
        exact tlP_mono (fun k p hh b d => hh _ _ _ _ _) (fun d hh b => hh b) H
      · rw [es] at w2 ⊢
        rw [if_neg (by rw [w2]; decide)] at H
        rw [Dm_I1]
        refine K_nw0 (Dm_T h) b1 (by decide) ?_
        rw [wdS_sk, es]
        cases hy : wdS 2 f z e1 with
        | inl e =>
          rw [hy] at H
          intro hk
          have H := H hk
          try dsimp only at H
          refine K_rn1 hk ⟨Dm_F hF, ?_⟩
          rw [Dm_L2]
          exact K_nw1 hk (Dm_T h) b1 (fun b' hb' => f_num hk hF h hb' (fun _ _ => H _ _ _ _ _))
        | inr e2 =>
          rw [hy] at H
          intro h2
          have H := H h2
          try dsimp only at H
          refine K_rn0 (Dm_T h) h2 ?_
          cases hn : nmS f z e2 with
          | inl e =>
            rw [hn] at H
            intro hk
            have H := H hk
            try dsimp only at H
            refine ⟨Dm_F hF, ?_⟩
            rw [Dm_L2]
            exact K_nw1 hk (Dm_T h) (skf_b h2).2 (fun b' hb' => f_num hk hF h hb' (fun _ _ => H _ _ _ _ _))
          | inr e3 =>
            rw [hn] at H
            intro h3
            have H := H h3
            try dsimp only at H
            refine ⟨Dm_F hF, ?_⟩
            rw [Dm_L2]
            refine K_nw0 (Dm_T h) h3 (by decide) ?_
            cases hm : wdS 3 f z e3 with
            | inl e =>
              rw [hm] at H
              intro hk
              have H := H hk
              try dsimp only at H
              exact f_num hk hF h (skf_b h3).2 (fun _ _ => H _ _ _ _ _)
            | inr e4 =>
              rw [hm] at H
              intro h4
              have H := H h4
              try dsimp only at H
              refine t_num hF h h4 ?_
              exact tlP_mono (fun k p hh b d => hh _ _ _ _ _) (fun d hh b => hh b) H
end
