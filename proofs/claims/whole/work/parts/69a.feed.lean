/-! an operation -/
def bt (x sh : Int32) : Int32 := (x >>> (sh &&& 31)) &&& 255
theorem md256 (y : Int32) : ((y.toBitVec.toNat % 256 : Nat) : Int) = y.toInt % 256 := by
  have h := BitVec.toInt_eq_toNat_cond y.toBitVec
  have e : y.toInt = y.toBitVec.toInt := rfl
  have l := y.toBitVec.isLt
  rw [e, h]
  split <;> omega
theorem bt_eq (x sh : Int32) (k : Nat) (hk : k = 24 ∨ k = 16 ∨ k = 8 ∨ k = 0) (h1 : ((sh.toUInt32 &&& Int32.toUInt32 31).toBitVec % 32).toNat = k) (h2 : ((sh &&& 31).toBitVec.smod 32).toNat = k) : ((x.toUInt32 >>> (sh.toUInt32 &&& Int32.toUInt32 31)).toInt32) &&& 255 = bt x sh := by
  unfold bt
  rw [pk_and _ (m := 255) 8 (by decide), pk_and (x >>> (sh &&& 31)) (m := 255) 8 (by decide)]
  have e1 := pk_ushr x sh k h1
  have e2 := pk_shr x (sh &&& 31) k h2
  have e3 := md256 (x >>> (sh &&& 31))
  have e4 := BitVec.toInt_eq_toNat_cond x.toBitVec
  have e5 : x.toInt = x.toBitVec.toInt := rfl
  have l := x.toBitVec.isLt
  rw [e2, Int.shiftRight_eq_div_pow, e5, e4] at e3
  rw [e1]
  congr 1
  rcases hk with rfl | rfl | rfl | rfl
  all_goals
    split at e3 <;> omega
theorem sX_sA_sX (σ : St) (f1 f2 : Nat → Int32) (v1 v2 : Int32) : sX (sA (sX (sA σ 0 f1) 0 v1) 0 f2) 0 v2 = sX (sA σ 0 f2) 0 v2 := by
  obtain ⟨⟨a1, a2, a3⟩, b⟩ := σ
  have e1 : va_up (va_up a2 0 f1) 0 f2 = va_up a2 0 f2 := by
    funext j
    unfold va_up
    by_cases h : j = 0
    · rw [if_pos h, if_pos h]
    · rw [if_neg h, if_neg h, if_neg h]
  have e2 : va_up (va_up a1 0 v1) 0 v2 = va_up a1 0 v2 := by
    funext j
    unfold va_up
    by_cases h : j = 0
    · rw [if_pos h, if_pos h]
    · rw [if_neg h, if_neg h, if_neg h]
  show ((va_up (va_up a1 0 v1) 0 v2, va_up (va_up a2 0 f1) 0 f2, a3), b) = ((va_up a1 0 v2, va_up a2 0 f2, a3), b)
  rw [e1, e2]
theorem sY_sC_sY (σ : St) (f1 f2 : Nat → Int32) (v1 v2 : Int32) : sY (sC (sY (sC σ 0 f1) 0 v1) 0 f2) 0 v2 = sY (sC σ 0 f2) 0 v2 := by
  obtain ⟨a, b1, b2, b3⟩ := σ
  have e1 : va_up (va_up b2 0 f1) 0 f2 = va_up b2 0 f2 := by
    funext j
    unfold va_up
    by_cases h : j = 0
    · rw [if_pos h, if_pos h]
    · rw [if_neg h, if_neg h, if_neg h]
  have e2 : va_up (va_up b1 0 v1) 0 v2 = va_up b1 0 v2 := by
    funext j
    unfold va_up
    by_cases h : j = 0
    · rw [if_pos h, if_pos h]
    · rw [if_neg h, if_neg h, if_neg h]
  show (a, va_up (va_up b1 0 v1) 0 v2, va_up (va_up b2 0 f1) 0 f2, b3) = (a, va_up b1 0 v2, va_up b2 0 f2, b3)
  rw [e1, e2]
def ap (f : Nat → Int32) (s : Nat) (x : Int32) : Nat → Int32 := upd (upd (upd (upd f s (bt x 24)) (s + 1) (bt x 16)) (s + 2) (bt x 8)) (s + 3) (bt x 0)
theorem bt_ne (x sh : Int32) : ¬ bt x sh = -1 := by
  unfold bt
  rw [pk_and _ (m := 255) 8 (by decide)]
  intro h
  have h2 := congrArg Int32.toInt h
  rw [nI_toInt (by omega)] at h2
  have z : (-1 : Int32).toInt = -1 := rfl
  omega
theorem ap_ne {f : Nat → Int32} {s : Nat} {x : Int32} (h : ∀ i, ¬ f i = -1) : ∀ i, ¬ ap f s x i = -1 := by
  intro i
  unfold ap upd
  split
  · exact bt_ne x 0
  · split
    · exact bt_ne x 8
    · split
      · exact bt_ne x 16
      · split
        · exact bt_ne x 24
        · exact h i
section
variable {S : XS} {Q : St → Prop} {σ : St}
theorem aps {x sh sh2 : Int32} {f : Nat → Int32} {s k : Nat} (hk : k = 24 ∨ k = 16 ∨ k = 8 ∨ k = 0) (h1 : ((sh.toUInt32 &&& Int32.toUInt32 31).toBitVec % 32).toNat = k) (h2 : ((sh &&& 31).toBitVec.smod 32).toNat = k) (h : s < 200) (hsh : ¬ sh < 0) (hs2 : sh + -8 = sh2) (K : BW S m_Tp_append 3 [some (.ref 1), some (.int x), some (.int sh2)] [] (enc (sX (sA σ 0 (upd f s (bt x sh))) 0 (nI (s + 1)))) (qV Q)) : BW S m_Tp_append 3 [some (.ref 1), some (.int x), some (.int sh)] [] (enc (sX (sA σ 0 f) 0 (nI s))) (qV Q) := by
  have e0 : gX (sX (sA σ 0 f) 0 (nI s)) 0 = nI s := by rw [gs_X_X, if_pos rfl]
  have e1 : gA (sX (sA σ 0 f) 0 (nI s)) 0 = f := by rw [gs_A_X, gs_A_A, if_pos rfl]
  refine B_Tp_append_3 _ _ _ (bq_f hsh ?_)
  rw [e0, e1, nI_clamp (by omega), nI_1, bt_eq x sh k hk h1 h2, sX_sA_sX, hs2]
  exact bq_f (nI_ge (b := 200) h (by decide)) ⟨vp_in_nI h (by decide), K⟩
theorem K_append {x : Int32} {f : Nat → Int32} {s : Nat} (h : s + 4 ≤ 200) (H : Q (sX (sA σ 0 (ap f s x)) 0 (nI (s + 4)))) : CM S m_Tp_append [.ref 1, .int x] (enc (sX (sA σ 0 f) 0 (nI s))) (qV Q) := by
  refine C_Tp_append _ _ (B_Tp_append_0 _ _ ?_)
  refine aps (k := 24) (sh2 := 16) (by decide) (by decide) (by decide) (by omega) (by decide) (by decide) ?_
  refine aps (k := 16) (sh2 := 8) (by decide) (by decide) (by decide) (by omega) (by decide) (by decide) ?_
  refine aps (k := 8) (sh2 := 0) (by decide) (by decide) (by decide) (by omega) (by decide) (by decide) ?_
  refine aps (k := 0) (sh2 := -8) (by decide) (by decide) (by decide) (by omega) (by decide) (by decide) ?_
  exact B_Tp_append_3 _ _ _ (bq_t (by decide) H)
theorem mps {x sh sh2 : Int32} {f : Nat → Int32} {s : Nat} (h : s < 200) (hsh : ¬ sh < 0) (hs2 : sh + -8 = sh2) (K : BW S m_Md_put 3 [some (.ref 153), some (.int x), some (.int sh2)] [] (enc (sY (sC σ 0 (upd f s (bt x sh))) 0 (nI (s + 1)))) (qV Q)) : BW S m_Md_put 3 [some (.ref 153), some (.int x), some (.int sh)] [] (enc (sY (sC σ 0 f) 0 (nI s))) (qV Q) := by
  have e0 : gY (sY (sC σ 0 f) 0 (nI s)) 0 = nI s := by rw [gs_Y_Y, if_pos rfl]
  have e1 : gC (sY (sC σ 0 f) 0 (nI s)) 0 = f := by rw [gs_C_Y, gs_C_C, if_pos rfl]
  refine B_Md_put_3 _ _ _ (bq_f hsh ?_)
  rw [e0, e1, nI_clamp (by omega), nI_1, sY_sC_sY, hs2]
  exact ⟨vp_in_nI h (by decide), K⟩
theorem K_put {x : Int32} {f : Nat → Int32} {s : Nat} (h : s + 4 ≤ 200) (H : Q (sY (sC σ 0 (ap f s x)) 0 (nI (s + 4)))) : CM S m_Md_put [.ref 153, .int x] (enc (sY (sC σ 0 f) 0 (nI s))) (qV Q) := by
  refine C_Md_put _ _ (B_Md_put_0 _ _ ?_)
  refine mps (sh2 := 16) (by omega) (by decide) (by decide) ?_
  refine mps (sh2 := 8) (by omega) (by decide) (by decide) ?_
  refine mps (sh2 := 0) (by omega) (by decide) (by decide) ?_
  refine mps (sh2 := -8) (by omega) (by decide) (by decide) ?_
  exact B_Md_put_3 _ _ _ (bq_t (by decide) H)
end
theorem sX_self (σ : St) : sX (sA σ 0 (gA σ 0)) 0 (gX σ 0) = σ := by
  obtain ⟨⟨a1, a2, a3⟩, b⟩ := σ
  have e1 : va_up a2 0 (a2 0) = a2 := by
    funext j
    unfold va_up
    by_cases h : j = 0
    · rw [if_pos h, h]
    · rw [if_neg h]
  have e2 : va_up a1 0 (a1 0) = a1 := by
    funext j
    unfold va_up
    by_cases h : j = 0
    · rw [if_pos h, h]
    · rw [if_neg h]
  show ((va_up a1 0 (a1 0), va_up a2 0 (a2 0), a3), b) = ((a1, a2, a3), b)
  rw [e1, e2]
theorem sY_self (σ : St) : sY (sC σ 0 (gC σ 0)) 0 (gY σ 0) = σ := by
  obtain ⟨a, b1, b2, b3⟩ := σ
  have e1 : va_up b2 0 (b2 0) = b2 := by
    funext j
    unfold va_up
    by_cases h : j = 0
    · rw [if_pos h, h]
    · rw [if_neg h]
  have e2 : va_up b1 0 (b1 0) = b1 := by
    funext j
    unfold va_up
    by_cases h : j = 0
    · rw [if_pos h, h]
    · rw [if_neg h]
  show (a, va_up b1 0 (b1 0), va_up b2 0 (b2 0), b3) = (a, b1, b2, b3)
  rw [e1, e2]
set_option maxHeartbeats 2000000 in
theorem op_feed {S : XS} {n : Nat} {σ : St} (h : RR n σ) (a : Int32) (b : Int32) (c : Int32) (d : Int32) (e : Int32) : OPI S n σ m_TH_feed m_Md_feed [.int a, .int b, .int c, .int d, .int e] := by
  obtain ⟨r0, r1, r2, r3, r4, r5, r6, r7, r8⟩ := h
  unfold OPI
  obtain ⟨a1, a2, a3, a4, a5⟩ := id r0
  have t1 := ti_nonneg a3.1
  have t2 := Int32.le_iff_toInt_le.mp a3.2
  have z : (200 : Int32).toInt = 200 := rfl
  obtain ⟨s, hs, e0, -⟩ := nI_ex (x := gX σ 0) (n := 201) t1 (by omega)
  have e1 : gX σ 0 + 20 = nI (s + 20) := by
    rw [e0]
    exact nI_add s 20
  have e2 : gY σ 0 + 20 = nI (s + 20) := by rw [← a2]; exact e1
  have y0 : gY σ 0 = nI s := by rw [← a2]; exact e0
  refine C_TH_feed _ _ _ _ _ _ (B_TH_feed_0 _ _ _ _ _ _ (C_Tp_hasRoom _ (B_Tp_hasRoom_0 _ ?_)))
  rw [e1]
  by_cases k : 200 < s + 20
  · refine bq_t (nI_lt (a := 200) k (by omega)) (bq_tn rfl (C_Md_feed _ _ _ _ _ _ (B_Md_feed_0 _ _ _ _ _ _ ?_)))
    rw [e2]
    exact bq_f (nI_ge (a := 200) k (by omega)) ⟨rfl, ⟨r0, r1, r2, r3, r4, r5, r6.succ, r7, r8.succ⟩⟩
  · refine bq_f (nI_nlt (a := 200) (by omega) (by decide)) (bq_fn (by decide) ?_)
    have es : σ = sX (sA σ 0 (gA σ 0)) 0 (nI s) := by rw [← e0]; exact (sX_self σ).symm
    have P : CM S m_Tp_append [.ref 1, .int a] (enc (sX (sA σ 0 (gA σ 0)) 0 (nI s))) (qV fun τ4 => CM S m_Tp_append [.ref 1, .int b] (enc τ4) (qV fun τ6 => CM S m_Tp_append [.ref 1, .int c] (enc τ6) (qV fun τ8 => CM S m_Tp_append [.ref 1, .int d] (enc τ8) (qV fun τ10 => CM S m_Tp_append [.ref 1, .int e] (enc τ10) (qV fun τ12 => CM S m_Md_feed [.ref 153, .int a, .int b, .int c, .int d, .int e] (enc τ12) (qI fun w ρ => gX τ12 0 = w ∧ RR (n + 1) ρ)))))) := by
      refine K_append (by omega) (K_append (by omega) (K_append (by omega) (K_append (by omega) (K_append (by omega) ?_))))
      generalize hτ : sX (sA σ 0 (ap (ap (ap (ap (ap (gA σ 0) s a) (s + 4) b) (s + 4 + 4) c) (s + 4 + 4 + 4) d) (s + 4 + 4 + 4 + 4) e)) 0 (nI (s + 4 + 4 + 4 + 4 + 4)) = τ
      have g0 : gY τ 0 = nI s := by rw [← hτ]; exact y0
      have g1 : gC τ 0 = gA σ 0 := by rw [← hτ]; exact a1.symm
      have g2 : gX τ 0 = nI (s + 4 + 4 + 4 + 4 + 4) := by rw [← hτ, gs_X_X, if_pos rfl]
      have g3 : gA τ 0 = ap (ap (ap (ap (ap (gA σ 0) s a) (s + 4) b) (s + 4 + 4) c) (s + 4 + 4 + 4) d) (s + 4 + 4 + 4 + 4) e := by rw [← hτ, gs_A_X, gs_A_A, if_pos rfl]
      have et : τ = sY (sC τ 0 (gA σ 0)) 0 (nI s) := by rw [← g0, ← g1]; exact (sY_self τ).symm
      have P2 : CM S m_Md_put [.ref 153, .int a] (enc (sY (sC τ 0 (gA σ 0)) 0 (nI s))) (qV fun τ2 => CM S m_Md_put [.ref 153, .int b] (enc τ2) (qV fun τ4 => CM S m_Md_put [.ref 153, .int c] (enc τ4) (qV fun τ6 => CM S m_Md_put [.ref 153, .int d] (enc τ6) (qV fun τ8 => CM S m_Md_put [.ref 153, .int e] (enc τ8) (qV fun τ10 => gX τ 0 = gY τ10 0 ∧ RR (n + 1) τ10))))) := by
        refine K_put (by omega) (K_put (by omega) (K_put (by omega) (K_put (by omega) (K_put (by omega) ⟨?_, ?_⟩))))
        · rw [g2, gs_Y_Y, if_pos rfl]
        · have q0 : R0 (sY (sC τ 0 (ap (ap (ap (ap (ap (gA σ 0) s a) (s + 4) b) (s + 4 + 4) c) (s + 4 + 4 + 4) d) (s + 4 + 4 + 4 + 4) e)) 0 (nI (s + 4 + 4 + 4 + 4 + 4))) := by
            refine ⟨by rw [gs_A_Y, gs_A_C, gs_C_Y, gs_C_C, if_pos rfl, g3], by rw [gs_X_Y, gs_X_C, gs_Y_Y, if_pos rfl, g2], ?_, ?_, ?_⟩
            · rw [gs_X_Y, gs_X_C, g2]
              exact ⟨nI_pos' (by omega), nI_le (b := 200) (by omega) (by decide)⟩
            · rw [gs_X_Y, gs_X_C, gs_Y_Y, if_neg (by decide), gs_Y_C, ← hτ]
              exact a4
            · refine ⟨?_, fun i => ?_⟩
              · rw [gs_X_Y, gs_X_C, gs_Y_Y, if_neg (by decide), gs_Y_C, ← hτ]
                exact a5.1
              · rw [gs_A_Y, gs_A_C, g3]
                exact ap_ne (ap_ne (ap_ne (ap_ne (ap_ne a5.2)))) i
          subst hτ
          exact ⟨q0, r1, r2, r3, r4, r5, r6.succ, r7, r8.succ⟩
      rw [← et] at P2
      refine C_Md_feed _ _ _ _ _ _ (B_Md_feed_0 _ _ _ _ _ _ (bq_t ?_ P2))
      rw [g0]
      show nI s + nI 20 ≤ nI 200
      rw [nI_add]
      exact nI_le (by omega) (by decide)
    rw [← es] at P
    exact P
