/-! READING AN AGREEMENT. -/
def agP (f : Nat → Int32) (z : Nat) (F : Int32 → Int32 → Prop) (G : (Nat → Int32) → (Nat → Int32) → Nat → Int32 → Prop) : Nat → Nat → Nat → Int32 → (Nat → Int32) → (Nat → Int32) → Prop
  | 0, _, a, _, _, _ => F 1 (nI (skf f z a))
  | m + 1, i, a, bf, P, U => pc z (nuS 0 100 f z a) F (fun e => pc z (wdS 4 f z e) F (fun e2 =>
      if wrB f (skf f z e2) (rnf 97 122 f z (skf f z e2) - skf f z e2) 5 = true then
        pc z (nuS 0 9999 f z (rnf 97 122 f z (skf f z e2))) F (fun e3 => pc z (sgS 59 f z e3) F (fun e4 => pc z (enS f z e4) F (fun _ => G (upd P i (dv f (skf f z a) (e - skf f z a))) U (i + 1) (dv f (skf f z (rnf 97 122 f z (skf f z e2))) (e3 - skf f z (rnf 97 122 f z (skf f z e2)))))))
      else pc z (wdS 6 f z e2) F (fun e3 => pc z (nuS (bf + 1) 99999 f z e3) F (fun e4 => pc z (sgS 44 f z e4) F (fun e5 =>
        agP f z F G m (i + 1) e5 (dv f (skf f z e3) (e4 - skf f z e3)) (upd P i (dv f (skf f z a) (e - skf f z a))) (upd U i (dv f (skf f z e3) (e4 - skf f z e3))))))))
theorem nuS_i {lo hi : Int32} {f : Nat → Int32} {z a e : Nat} (h : nuS lo hi f z a = .inr e) : lo ≤ dv f (skf f z a) (e - skf f z a) ∧ dv f (skf f z a) (e - skf f z a) ≤ hi := by
  unfold nuS nuR at h
  by_cases y : rnf 48 57 f z (skf f z a) = skf f z a
  · rw [if_pos y] at h
    exact absurd h (by simp)
  · rw [if_neg y] at h
    by_cases y2 : 5 < rnf 48 57 f z (skf f z a) - skf f z a
    · rw [if_pos y2] at h
      exact absurd h (by simp)
    · rw [if_neg y2] at h
      by_cases y3 : dv f (skf f z a) (rnf 48 57 f z (skf f z a) - skf f z a) < lo ∨ hi < dv f (skf f z a) (rnf 48 57 f z (skf f z a) - skf f z a)
      · rw [if_pos y3] at h
        exact absurd h (by simp)
      · rw [if_neg y3] at h
        rw [← Sum.inr.inj h]
        exact ⟨Int32.not_lt.mp (fun k => y3 (Or.inl k)), Int32.not_lt.mp (fun k => y3 (Or.inr k))⟩
/-- steps below i -/
def agI (i : Nat) (bf : Int32) (P U : Nat → Int32) : Prop := (∀ j, j < i → (0 ≤ P j ∧ P j ≤ 100) ∧ 1 ≤ U j ∧ U j ≤ 99999) ∧ (∀ j, j + 1 < i → U j < U (j + 1)) ∧ (0 ≤ bf ∧ bf ≤ 99999) ∧ (∀ j, j + 1 = i → U j = bf)
def agJ (n : Nat) (l : Int32) (P U : Nat → Int32) : Prop := (1 ≤ n ∧ n ≤ 5) ∧ (0 ≤ l ∧ l ≤ 9999) ∧ (∀ j, j < n → 0 ≤ P j ∧ P j ≤ 100) ∧ (∀ j, j + 1 < n → 1 ≤ U j ∧ U j ≤ 99999) ∧ (∀ j, j + 2 < n → U j < U (j + 1))
theorem bf_up {b v : Int32} (hb : 0 ≤ b ∧ b ≤ 99999) (h : b + 1 ≤ v) : b < v ∧ 1 ≤ v := by
  have t1 := ti_nonneg hb.1
  have t2 := Int32.le_iff_toInt_le.mp hb.2
  have z2 : (99999 : Int32).toInt = 99999 := rfl
  have z1 : (1 : Int32).toInt = 1 := rfl
  have e : (b + 1).toInt = b.toInt + 1 := by rw [ti_add (by rw [z1]; omega) (by rw [z1]; omega), z1]
  have t3 := Int32.le_iff_toInt_le.mp h
  rw [e] at t3
  exact ⟨Int32.lt_iff_toInt_lt.mpr (by omega), Int32.le_iff_toInt_le.mpr (by omega)⟩
theorem agP_cases (f : Nat → Int32) (z : Nat) : ∀ m i a bf P U, i + m = 5 → agI i bf P U → (∃ k p : Int32, ¬ k ≤ 0 ∧ ∀ (F : Int32 → Int32 → Prop) (G : (Nat → Int32) → (Nat → Int32) → Nat → Int32 → Prop), F k p → agP f z F G m i a bf P U) ∨ (∃ P' U' n l, agJ n l P' U' ∧ ∀ (F : Int32 → Int32 → Prop) (G : (Nat → Int32) → (Nat → Int32) → Nat → Int32 → Prop), G P' U' n l → agP f z F G m i a bf P U) := by
  intro m
  induction m with
  | zero =>
    intro i a bf P U hi hI
    exact Or.inl ⟨1, _, k1p, fun F G h => h⟩
  | succ m ih =>
    intro i a bf P U hi hI
    rcases pc_cases z (nuS 0 100 f z a) with ⟨k, p, hk, u⟩ | ⟨e, x1, -, u⟩
    · exact Or.inl ⟨k, p, hk, fun F G h => u _ _ h⟩
    have b1 := nuS_i x1
    rcases pc_cases z (wdS 4 f z e) with ⟨k, p, hk, v⟩ | ⟨e2, -, -, v⟩
    · exact Or.inl ⟨k, p, hk, fun F G h => u _ _ (v _ _ h)⟩
    have hP : ∀ j, j < i + 1 → 0 ≤ upd P i (dv f (skf f z a) (e - skf f z a)) j ∧ upd P i (dv f (skf f z a) (e - skf f z a)) j ≤ 100 := by
      intro j hj
      by_cases ej : j = i
      · rw [ej, upd_at]; exact b1
      · rw [upd_ne _ _ ej]; exact (hI.1 j (by omega)).1
    by_cases y : wrB f (skf f z e2) (rnf 97 122 f z (skf f z e2) - skf f z e2) 5 = true
    · rcases pc_cases z (nuS 0 9999 f z (rnf 97 122 f z (skf f z e2))) with ⟨k, p, hk, w⟩ | ⟨e3, x3, -, w⟩
      · exact Or.inl ⟨k, p, hk, fun F G h => u _ _ (v _ _ (by rw [if_pos y]; exact w _ _ h))⟩
      have b3 := nuS_i x3
      rcases pc_cases z (sgS 59 f z e3) with ⟨k, p, hk, x⟩ | ⟨e4, -, -, x⟩
      · exact Or.inl ⟨k, p, hk, fun F G h => u _ _ (v _ _ (by rw [if_pos y]; exact w _ _ (x _ _ h)))⟩
      rcases pc_cases z (enS f z e4) with ⟨k, p, hk, t⟩ | ⟨e5, -, -, t⟩
      · exact Or.inl ⟨k, p, hk, fun F G h => u _ _ (v _ _ (by rw [if_pos y]; exact w _ _ (x _ _ (t _ _ h))))⟩
      refine Or.inr ⟨upd P i (dv f (skf f z a) (e - skf f z a)), U, i + 1, _, ⟨⟨by omega, by omega⟩, b3, hP, fun j hj => (hI.1 j (by omega)).2, fun j hj => hI.2.1 j (by omega)⟩, fun F G h => u _ _ (v _ _ (by rw [if_pos y]; exact w _ _ (x _ _ (t _ _ h))))⟩
    · rcases pc_cases z (wdS 6 f z e2) with ⟨k, p, hk, w⟩ | ⟨e3, -, -, w⟩
      · exact Or.inl ⟨k, p, hk, fun F G h => u _ _ (v _ _ (by rw [if_neg y]; exact w _ _ h))⟩
      rcases pc_cases z (nuS (bf + 1) 99999 f z e3) with ⟨k, p, hk, x⟩ | ⟨e4, x4, -, x⟩
      · exact Or.inl ⟨k, p, hk, fun F G h => u _ _ (v _ _ (by rw [if_neg y]; exact w _ _ (x _ _ h)))⟩
      have b4 := nuS_i x4
      rcases pc_cases z (sgS 44 f z e4) with ⟨k, p, hk, t⟩ | ⟨e5, -, -, t⟩
      · exact Or.inl ⟨k, p, hk, fun F G h => u _ _ (v _ _ (by rw [if_neg y]; exact w _ _ (x _ _ (t _ _ h))))⟩
      obtain ⟨c1, c2⟩ := bf_up hI.2.2.1 b4.1
      have hI2 : agI (i + 1) (dv f (skf f z e3) (e4 - skf f z e3)) (upd P i (dv f (skf f z a) (e - skf f z a))) (upd U i (dv f (skf f z e3) (e4 - skf f z e3))) := by
        refine ⟨fun j hj => ⟨hP j hj, ?_⟩, fun j hj => ?_, ⟨Int32.le_trans (by decide) c2, b4.2⟩, fun j hj => ?_⟩
        · by_cases ej : j = i
          · rw [ej, upd_at]; exact ⟨c2, b4.2⟩
          · rw [upd_ne _ _ ej]; exact (hI.1 j (by omega)).2
        · rw [upd_ne _ _ (by omega : j ≠ i)]
          by_cases ej : j + 1 = i
          · rw [ej, upd_at, hI.2.2.2 j ej]; exact c1
          · rw [upd_ne _ _ ej]; exact hI.2.1 j (by omega)
        · rw [show j = i by omega, upd_at]
      rcases ih (i + 1) e5 _ _ _ (by omega) hI2 with ⟨k, p, hk, r⟩ | ⟨P', U', n, l, hJ, r⟩
      · exact Or.inl ⟨k, p, hk, fun F G h => u _ _ (v _ _ (by rw [if_neg y]; exact w _ _ (x _ _ (t _ _ (r _ _ h)))))⟩
      · exact Or.inr ⟨P', U', n, l, hJ, fun F G h => u _ _ (v _ _ (by rw [if_neg y]; exact w _ _ (x _ _ (t _ _ (r _ _ h)))))⟩
/-! the class -/
abbrev mkA (q : Nat) (s l w : Int32) : va_E := .inr (0, [.ref (q + 1), .ref (q + 2), .int s, .int l, .int w])
abbrev mk5 (P : Nat → Int32) : va_E := .inl (0, 5, .inl P)
def AD (σ : St) (q : Nat) (P U : Nat → Int32) (s l w : Int32) : St := sD (sD (sD σ q (mkA q s l w)) (q + 1) (mk5 P)) (q + 2) (mk5 U)
theorem sD_c (σ : St) {q q' : Nat} (h : q ≠ q') (c c' : va_E) : sD (sD σ q c) q' c' = sD (sD σ q' c') q c := by
  show ((σ.1.1, σ.1.2.1, σ.1.2.2.1, σ.1.2.2.2.1, σ.1.2.2.2.2.1, σ.1.2.2.2.2.2.1, σ.1.2.2.2.2.2.2.1, σ.1.2.2.2.2.2.2.2.1, σ.1.2.2.2.2.2.2.2.2.1, va_up (va_up σ.1.2.2.2.2.2.2.2.2.2.1 q c) q' c', σ.1.2.2.2.2.2.2.2.2.2.2), σ.2) = _
  rw [va_upc _ h]
  rfl
section
variable {S : XS} {σ : St} {f P U : Nat → Int32} {z a q : Nat} {s l w a1 k p : Int32}
theorem AD_0 : gD (AD σ q P U s l w) q = mkA q s l w := by
  unfold AD
  rw [sD_ne (by omega), sD_ne (by omega), sD_at]
theorem AD_1 : gD (AD σ q P U s l w) (q + 1) = mk5 P := by
  unfold AD
  rw [sD_ne (by omega), sD_at]
theorem AD_2 : gD (AD σ q P U s l w) (q + 2) = mk5 U := by
  unfold AD
  rw [sD_at]
theorem AD_id (h0 : isAg σ q) (h1 : isA5 σ (q + 1)) (h2 : isA5 σ (q + 2)) : AD σ q (fA σ (q + 1)) (fA σ (q + 2)) (fI σ q 2) (fI σ q 3) (fI σ q 4) = σ := by
  unfold AD mkA mk5
  rw [← h0.2, sD_id, ← h1.2, sD_id, ← h2.2, sD_id]
theorem AD_s0 (s' l' w' : Int32) : sD (AD σ q P U s l w) q (mkA q s' l' w') = AD σ q P U s' l' w' := by
  unfold AD
  rw [sD_c _ (by omega), sD_c _ (by omega : q + 1 ≠ q), sD_2]
theorem AD_s1 (P' : Nat → Int32) : sD (AD σ q P U s l w) (q + 1) (mk5 P') = AD σ q P' U s l w := by
  unfold AD
  rw [sD_c _ (by omega : q + 2 ≠ q + 1), sD_2]
theorem AD_s2 (U' : Nat → Int32) : sD (AD σ q P U s l w) (q + 2) (mk5 U') = AD σ q P U' s l w := by
  unfold AD
  rw [sD_2]
theorem gD_uC (δ : St) (a k p : Int32) : gD (uC δ a k p) = gD δ := rfl
theorem AD_i2 (v : Int32) : stI (uC (AD σ q P U s l w) a1 k p) q 2 v = uC (AD σ q P U v l w) a1 k p := by
  unfold stI
  rw [gD_uC, AD_0]
  show sD (uC (AD σ q P U s l w) a1 k p) q (mkA q v l w) = uC (AD σ q P U v l w) a1 k p
  rw [sD_uC, AD_s0]
theorem AD_i3 (v : Int32) : stI (uC (AD σ q P U s l w) a1 k p) q 3 v = uC (AD σ q P U s v w) a1 k p := by
  unfold stI
  rw [gD_uC, AD_0]
  show sD (uC (AD σ q P U s l w) a1 k p) q (mkA q s v w) = uC (AD σ q P U s v w) a1 k p
  rw [sD_uC, AD_s0]
theorem AD_a1 (P' : Nat → Int32) : stA (uC (AD σ q P U s l w) a1 k p) (q + 1) P' = uC (AD σ q P' U s l w) a1 k p := by
  unfold stA
  rw [sD_uC, AD_s1]
theorem AD_a2 (U' : Nat → Int32) : stA (uC (AD σ q P U s l w) a1 k p) (q + 2) U' = uC (AD σ q P U' s l w) a1 k p := by
  unfold stA
  rw [sD_uC, AD_s2]
theorem AD_f1 : fA (uC (AD σ q P U s l w) a1 k p) (q + 1) = P := by
  unfold fA
  rw [gD_uC, AD_1]
theorem AD_f2 : fA (uC (AD σ q P U s l w) a1 k p) (q + 2) = U := by
  unfold fA
  rw [gD_uC, AD_2]
/-- the three cells of an agreement -/
def isG (σ : St) (q : Nat) : Prop := isAg σ q ∧ isA5 σ (q + 1) ∧ isA5 σ (q + 2)
theorem AD_G (h : isG σ q) : isAg (uC (AD σ q P U s l w) a1 k p) q := by
  refine ⟨h.1.1, ?_⟩
  unfold fI
  rw [gD_uC, AD_0]
  rfl
theorem AD_5 (h : isG σ q) : isA5 (uC (AD σ q P U s l w) a1 k p) (q + 1) := by
  refine ⟨h.2.1.1, ?_⟩
  rw [AD_f1, gD_uC]
  exact AD_1
theorem AD_6 (h : isG σ q) : isA5 (uC (AD σ q P U s l w) a1 k p) (q + 2) := by
  refine ⟨h.2.2.1, ?_⟩
  rw [AD_f2, gD_uC]
  exact AD_2
theorem AD_T (h : TCo σ f z) : TCo (AD σ q P U s l w) f z := h
def agTo (S : XS) (q0 : Nat) (x2 : Int32) (i : Nat) (Q : St → Prop) (τ18 : St) : Prop := CM S m_Tp_needWord [.ref 1, .retAddr 6] (enc τ18) (qV (fun τ20 => (isAg τ20 q0) ∧ CM S m_Tp_readNumber [.ref 1, .int (x2 + (1 : Int32)), .int (99999 : Int32)] (enc τ20) (qI (fun v22 τ23 => (isA5 τ23 (q0 + 2)) ∧ (vp_in (nI i) 5) ∧ (isAg (stA τ23 (q0 + 2) (upd (fA τ23 (q0 + 2)) i v22)) q0) ∧ (isA5 (stA τ23 (q0 + 2) (upd (fA τ23 (q0 + 2)) i v22)) (q0 + 2)) ∧ CM S m_Tp_needSign [.ref 1, .int (44 : Int32)] (enc (stA τ23 (q0 + 2) (upd (fA τ23 (q0 + 2)) i v22))) (qV (fun τ29 => BW S m_Ag_readFrom 8 [some (.ref q0), some (.ref 1), some (.int (fA (stA τ23 (q0 + 2) (upd (fA τ23 (q0 + 2)) i v22)) (q0 + 2) i)), some (.int (nI (i + 1)))] [] (enc τ29) (qV Q)))))))
theorem g8 {Q : St → Prop} {x2 x3 : Int32} (hk : ¬ k ≤ 0) (h : TCo σ f z) (ha : a ≤ z) (H : ∀ b, Q (uC σ b k p)) : BW S m_Ag_readFrom 8 [some (.ref q), some (.ref 1), some (.int x2), some (.int x3)] [] (enc (uC σ (nI a) k p)) (qV Q) :=
  B_Ag_readFrom_8 _ _ _ _ (bq_s (fun _ => K_fn1 hk h ha (H _)) (fun _ => K_fd1 hk (bq_fn (by decide) (K_fn1 hk h ha (H _)))))
theorem g_num {Q : St → Prop} {x2 : Int32} {i : Nat} (hk : ¬ k ≤ 0) (hi : i < 5) (hG : isG σ q) (h : TCo σ f z) (ha : a ≤ z) (H : ∀ b U, Q (uC (AD σ q P U s l w) b k p)) : (isAg (uC (AD σ q P U s l w) (nI a) k p) q) ∧ CM S m_Tp_readNumber [.ref 1, .int (x2 + (1 : Int32)), .int (99999 : Int32)] (enc (uC (AD σ q P U s l w) (nI a) k p)) (qI (fun v22 τ23 => (isA5 τ23 (q + 2)) ∧ (vp_in (nI i) 5) ∧ (isAg (stA τ23 (q + 2) (upd (fA τ23 (q + 2)) i v22)) q) ∧ (isA5 (stA τ23 (q + 2) (upd (fA τ23 (q + 2)) i v22)) (q + 2)) ∧ CM S m_Tp_needSign [.ref 1, .int (44 : Int32)] (enc (stA τ23 (q + 2) (upd (fA τ23 (q + 2)) i v22))) (qV (fun τ29 => BW S m_Ag_readFrom 8 [some (.ref q), some (.ref 1), some (.int (fA (stA τ23 (q + 2) (upd (fA τ23 (q + 2)) i v22)) (q + 2) i)), some (.int (nI (i + 1)))] [] (enc τ29) (qV Q))))) := by
  refine ⟨AD_G hG, K_nu1 hk ⟨AD_6 hG, vp_in_nI hi (by decide), ?_⟩⟩
  rw [AD_a2]
  exact ⟨AD_G hG, AD_6 hG, K_sg1 hk (AD_T h) ha (by decide) (fun b hb => g8 hk (AD_T h) hb (fun _ => H _ _))⟩
theorem g_to {Q : St → Prop} {x2 : Int32} {i : Nat} (hk : ¬ k ≤ 0) (hi : i < 5) (hG : isG σ q) (h : TCo σ f z) (ha : a ≤ z) (H : ∀ b U, Q (uC (AD σ q P U s l w) b k p)) : agTo S q x2 i Q (uC (AD σ q P U s l w) (nI a) k p) :=
  K_nw1 hk (AD_T h) ha (fun b hb => g_num hk hi hG h hb H)
theorem K_agC {Q : St → Prop} (hG : isG σ q) (h : TCo σ f z) (H : agP f z (fun k p => ∀ b P U s l, Q (uC (AD σ q P U s l (fI σ q 4)) b k p)) (fun P U n l => ∀ b, Q (uC (AD σ q P U (nI n) l (fI σ q 4)) b 0 (-1))) 5 0 0 0 (fA σ (q + 1)) (fA σ (q + 2))) : CM S m_Ag_readFrom [.ref q, .ref 1] (enc σ) (qV Q) := by
  refine C_Ag_readFrom _ _ (B_Ag_readFrom_0 _ _ (C_Tp_open _ (B_Tp_open_0 _ ?_)))
  have e0 : sX (sX (sX σ 1 0) 2 0) 3 (-1) = uC (AD σ q (fA σ (q + 1)) (fA σ (q + 2)) (fI σ q 2) (fI σ q 3) (fI σ q 4)) (nI 0) 0 (-1) := by rw [AD_id hG.1 hG.2.1 hG.2.2, nI_0]; rfl
  rw [e0]
  generalize fI σ q 4 = w at H ⊢
  have L : ∀ m i a bf P U s l, i + m = 5 → a ≤ z → agP f z (fun k p => ∀ b P U s l, Q (uC (AD σ q P U s l w) b k p)) (fun P U n l => ∀ b, Q (uC (AD σ q P U (nI n) l w) b 0 (-1))) m i a bf P U → BW S m_Ag_readFrom 8 [some (.ref q), some (.ref 1), some (.int bf), some (.int (nI i))] [] (enc (uC (AD σ q P U s l w) (nI a) 0 (-1))) (qV Q) := by
    intro m
    induction m with
    | zero =>
      intro i a bf P U s l hi ha H
      obtain rfl : i = 5 := by omega
      exact B_Ag_readFrom_8 _ _ _ _ (bq_t (by decide) (K_fn0 (AD_T h) ha (H _ _ _ _ _)))
    | succ m ih =>
      intro i a bf P U s l hi ha H
      have h5 : i < 5 := by omega
      have hcl : (nI i).toNatClampNeg = i := nI_clamp (by omega)
      refine B_Ag_readFrom_8 _ _ _ _ (bq_f (nI_ge (b := 5) h5 (by decide)) (K_fd0 (bq_tn rfl ⟨AD_G hG, ?_⟩)))
      rw [AD_i2]
      refine ⟨AD_G hG, K_nu0 (AD_T h) ha ?_⟩
      unfold agP at H
      cases hx : nuS 0 100 f z a with
      | inl e =>
        rw [hx] at H
        intro hk
        have H := H hk
        try dsimp only at H
        refine ⟨AD_5 hG, vp_in_nI h5 (by decide), ?_⟩
        rw [AD_a1, hcl, nI_1]
        exact K_nw1 hk (AD_T h) (skf_b ha).2 (fun b hb => K_pw1 hk (bq_t rfl (g_to hk h5 hG h hb (fun _ _ => H _ _ _ _ _))))
      | inr e =>
        rw [hx] at H
        intro he
        have H := H he
        try dsimp only at H
        refine ⟨AD_5 hG, vp_in_nI h5 (by decide), ?_⟩
        rw [AD_a1, AD_f1, hcl, nI_1]
        refine K_nw0 (AD_T h) he (by decide) ?_
        cases hy : wdS 4 f z e with
        | inl e2 =>
          rw [hy] at H
          intro hk
          have H := H hk
          try dsimp only at H
          exact K_pw1 hk (bq_t rfl (g_to hk h5 hG h (skf_b he).2 (fun _ _ => H _ _ _ _ _)))
        | inr e2 =>
          rw [hy] at H
          intro h2
          have H := H h2
          try dsimp only at H
          refine K_pw0 (AD_T h) h2 (by decide) (fun y hw => bq_f (by decide) ?_) (fun y b2 => bq_t rfl ?_)
          · rw [if_pos y] at H
            refine K_nu0 (AD_T h) hw ?_
            cases hn : nuS 0 9999 f z (rnf 97 122 f z (skf f z e2)) with
            | inl e3 =>
              rw [hn] at H
              intro hk
              have H := H hk
              try dsimp only at H
              refine ⟨AD_G hG, ?_⟩
              rw [AD_i3]
              exact K_sg1 hk (AD_T h) (skf_b hw).2 (by decide) (fun b hb => K_en1 hk (AD_T h) hb (fun b' _ => H _ _ _ _ _))
            | inr e3 =>
              rw [hn] at H
              intro h3
              have H := H h3
              try dsimp only at H
              refine ⟨AD_G hG, ?_⟩
              rw [AD_i3]
              refine K_sg0 (AD_T h) h3 (by decide) ?_
              cases hs : sgS 59 f z e3 with
              | inl e4 =>
                rw [hs] at H
                intro hk
                exact K_en1 hk (AD_T h) (skf_b h3).2 (fun b' _ => H hk _ _ _ _ _)
              | inr e4 =>
                rw [hs] at H
                intro h4
                have H := H h4
                try dsimp only at H
                refine K_en0 (AD_T h) h4 ?_
                cases ht : enS f z e4 with
                | inl e5 =>
                  rw [ht] at H
                  intro hk
                  exact H hk _ _ _ _ _
                | inr e5 =>
                  rw [ht] at H
                  intro h5
                  exact H h5 _
          · rw [if_neg (by rw [y]; decide)] at H
            refine K_nw0 (AD_T h) b2 (by decide) ?_
            rw [wdS_sk, skf_id]
            cases hn : wdS 6 f z e2 with
            | inl e3 =>
              rw [hn] at H
              intro hk
              have H := H hk
              try dsimp only at H
              exact g_num hk h5 hG h b2 (fun _ _ => H _ _ _ _ _)
            | inr e3 =>
              rw [hn] at H
              intro h3
              have H := H h3
              try dsimp only at H
              refine ⟨AD_G hG, K_nu0 (AD_T h) h3 ?_⟩
              cases hs : nuS (bf + 1) 99999 f z e3 with
              | inl e4 =>
                rw [hs] at H
                intro hk
                have H := H hk
                try dsimp only at H
                refine ⟨AD_6 hG, vp_in_nI h5 (by decide), ?_⟩
                rw [AD_a2]
                exact ⟨AD_G hG, AD_6 hG, K_sg1 hk (AD_T h) (skf_b h3).2 (by decide) (fun b hb => g8 hk (AD_T h) hb (fun _ => H _ _ _ _ _))⟩
              | inr e4 =>
                rw [hs] at H
                intro h4
                have H := H h4
                try dsimp only at H
                refine ⟨AD_6 hG, vp_in_nI h5 (by decide), ?_⟩
                rw [AD_a2, AD_f2, AD_f2, upd_at]
                refine ⟨AD_G hG, AD_6 hG, K_sg0 (AD_T h) h4 (by decide) ?_⟩
                cases ht : sgS 44 f z e4 with
                | inl e5 =>
                  rw [ht] at H
                  intro hk
                  exact g8 hk (AD_T h) (skf_b h4).2 (fun _ => H hk _ _ _ _ _)
                | inr e5 =>
                  rw [ht] at H
                  intro h5'
                  exact ih (i + 1) e5 _ _ _ _ _ (by omega) h5' (H h5')
  exact L 5 0 0 0 _ _ _ _ rfl (Nat.zero_le _) H
end
