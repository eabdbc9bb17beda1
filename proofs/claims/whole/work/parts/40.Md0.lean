/-! block rules, by program -/
theorem d_Md_is_0 : decode m_Md_is.2.1 0 = .ok (.iload_n 0, 1) := by decide +kernel
theorem d_Md_is_1 : decode m_Md_is.2.1 1 = .ok (.iload_n 1, 1) := by decide +kernel
theorem d_Md_is_2 : decode m_Md_is.2.1 2 = .ok (.if_icmp .lt 12, 3) := by decide +kernel
theorem d_Md_is_5 : decode m_Md_is.2.1 5 = .ok (.iload_n 0, 1) := by decide +kernel
theorem d_Md_is_6 : decode m_Md_is.2.1 6 = .ok (.iload_n 2, 1) := by decide +kernel
theorem d_Md_is_7 : decode m_Md_is.2.1 7 = .ok (.if_icmp .gt 7, 3) := by decide +kernel
theorem d_Md_is_10 : decode m_Md_is.2.1 10 = .ok (.iconst 1, 1) := by decide +kernel
theorem d_Md_is_11 : decode m_Md_is.2.1 11 = .ok (.goto 4, 3) := by decide +kernel
theorem d_Md_is_14 : decode m_Md_is.2.1 14 = .ok (.iconst 0, 1) := by decide +kernel
theorem d_Md_is_15 : decode m_Md_is.2.1 15 = .ok (.ireturn, 1) := by decide +kernel
set_option maxHeartbeats 4000000 in
set_option maxRecDepth 100000 in
theorem B_Md_is_0 {S : XS} {Q : Int32 → St → Prop} (σ : St) (x0 : Int32) (x1 : Int32) (x2 : Int32) (H : ((x0 < x1 → Q (0 : Int32) σ) ∧ (¬ x0 < x1 → ((x2 < x0 → Q (0 : Int32) σ) ∧ (¬ x2 < x0 → Q (1 : Int32) σ))))) : BW S m_Md_is 0 [some (.int x0), some (.int x1), some (.int x2)] [] (enc σ) (qI Q) := by
  refine b_iload_n d_Md_is_0 rfl rfl ?_
  refine b_iload_n d_Md_is_1 rfl rfl ?_
  refine b_icmp_lt (tgt := 14) d_Md_is_2 (by decide) (fun c2 => ?_) (fun c2 => ?_)
  · have H := H.1 c2
    refine b_iconst (v := (0 : Int32)) d_Md_is_14 (by decide) ?_
    exact b_iret (ty := .boolean) d_Md_is_15 rfl rfl ⟨_, _, rfl, rfl, H⟩
  · have H := H.2 c2
    refine b_iload_n d_Md_is_5 rfl rfl ?_
    refine b_iload_n d_Md_is_6 rfl rfl ?_
    refine b_icmp_gt (tgt := 14) d_Md_is_7 (by decide) (fun c1 => ?_) (fun c1 => ?_)
    · have H := H.1 c1
      refine b_iconst (v := (0 : Int32)) d_Md_is_14 (by decide) ?_
      exact b_iret (ty := .boolean) d_Md_is_15 rfl rfl ⟨_, _, rfl, rfl, H⟩
    · have H := H.2 c1
      refine b_iconst (v := (1 : Int32)) d_Md_is_10 (by decide) ?_
      refine b_goto (tgt := 15) d_Md_is_11 (by decide) ?_
      exact b_iret (ty := .boolean) d_Md_is_15 rfl rfl ⟨_, _, rfl, rfl, H⟩
theorem C_Md_is {S : XS} {Q : Int32 → St → Prop} (σ : St) (x0 : Int32) (x1 : Int32) (x2 : Int32) (H : BW S m_Md_is 0 [some (.int x0), some (.int x1), some (.int x2)] [] (enc σ) (qI Q)) : CM S m_Md_is [.int x0, .int x1, .int x2] (enc σ) (qI Q) := b_meth (by decide) (Nat.le_of_ble_eq_true rfl) rfl H
theorem d_Md_put_0 : decode m_Md_put.2.1 0 = .ok (.bipush 24, 2) := by decide +kernel
theorem d_Md_put_2 : decode m_Md_put.2.1 2 = .ok (.istore_n 2, 1) := by decide +kernel
theorem d_Md_put_3 : decode m_Md_put.2.1 3 = .ok (.iload_n 2, 1) := by decide +kernel
theorem d_Md_put_4 : decode m_Md_put.2.1 4 = .ok (.ifCond .lt 35, 3) := by decide +kernel
theorem d_Md_put_7 : decode m_Md_put.2.1 7 = .ok (.aload_n 0, 1) := by decide +kernel
theorem d_Md_put_8 : decode m_Md_put.2.1 8 = .ok (.getfield 1, 3) := by decide +kernel
theorem d_Md_put_11 : decode m_Md_put.2.1 11 = .ok (.aload_n 0, 1) := by decide +kernel
theorem d_Md_put_12 : decode m_Md_put.2.1 12 = .ok (.getfield 7, 3) := by decide +kernel
theorem d_Md_put_15 : decode m_Md_put.2.1 15 = .ok (.iload_n 1, 1) := by decide +kernel
theorem d_Md_put_16 : decode m_Md_put.2.1 16 = .ok (.iload_n 2, 1) := by decide +kernel
theorem d_Md_put_17 : decode m_Md_put.2.1 17 = .ok (.ishr, 1) := by decide +kernel
theorem d_Md_put_18 : decode m_Md_put.2.1 18 = .ok (.sipush 255, 3) := by decide +kernel
theorem d_Md_put_21 : decode m_Md_put.2.1 21 = .ok (.iand, 1) := by decide +kernel
theorem d_Md_put_22 : decode m_Md_put.2.1 22 = .ok (.iastore, 1) := by decide +kernel
theorem d_Md_put_23 : decode m_Md_put.2.1 23 = .ok (.aload_n 0, 1) := by decide +kernel
theorem d_Md_put_24 : decode m_Md_put.2.1 24 = .ok (.dup, 1) := by decide +kernel
theorem d_Md_put_25 : decode m_Md_put.2.1 25 = .ok (.getfield 7, 3) := by decide +kernel
theorem d_Md_put_28 : decode m_Md_put.2.1 28 = .ok (.iconst 1, 1) := by decide +kernel
theorem d_Md_put_29 : decode m_Md_put.2.1 29 = .ok (.iadd, 1) := by decide +kernel
theorem d_Md_put_30 : decode m_Md_put.2.1 30 = .ok (.putfield 7, 3) := by decide +kernel
theorem d_Md_put_33 : decode m_Md_put.2.1 33 = .ok (.iinc 2 (-8), 3) := by decide +kernel
theorem d_Md_put_36 : decode m_Md_put.2.1 36 = .ok (.goto (-33), 3) := by decide +kernel
theorem d_Md_put_39 : decode m_Md_put.2.1 39 = .ok (.return_, 1) := by decide +kernel
set_option maxHeartbeats 4000000 in
set_option maxRecDepth 100000 in
theorem B_Md_put_0 {S : XS} {Q : St → Prop} (σ : St) (x1 : Int32) (H : BW S m_Md_put 3 [some (.ref 153), some (.int x1), some (.int (24 : Int32))] [] (enc σ) (qV Q)) : BW S m_Md_put 0 [some (.ref 153), some (.int x1), none] [] (enc σ) (qV Q) := by
  refine b_bipush (v := (24 : Int32)) d_Md_put_0 (by decide) ?_
  refine b_istore_n (ls' := [some (.ref 153), some (.int x1), some (.int (24 : Int32))]) d_Md_put_2 rfl (Nat.le_of_ble_eq_true rfl) rfl ?_
  exact b_mask [true, true, true] rfl H
set_option maxHeartbeats 4000000 in
set_option maxRecDepth 100000 in
theorem B_Md_put_3 {S : XS} {Q : St → Prop} (σ : St) (x1 : Int32) (x2 : Int32) (H : ((x2 < 0 → Q σ) ∧ (¬ x2 < 0 → (vp_in (gY σ 0) 200) ∧ BW S m_Md_put 3 [some (.ref 153), some (.int x1), some (.int (x2 + (-8 : Int32)))] [] (enc (sY (sC σ 0 (upd (gC σ 0) (gY σ 0).toNatClampNeg ((x1 >>> (x2 &&& 31)) &&& (255 : Int32)))) 0 ((gY σ 0) + (1 : Int32)))) (qV Q)))) : BW S m_Md_put 3 [some (.ref 153), some (.int x1), some (.int x2)] [] (enc σ) (qV Q) := by
  refine b_iload_n d_Md_put_3 rfl rfl ?_
  refine b_if_lt (tgt := 39) d_Md_put_4 (by decide) (fun c2 => ?_) (fun c2 => ?_)
  · have H := H.1 c2
    exact b_vret d_Md_put_39 rfl ⟨_, rfl, rfl, H⟩
  · have H := H.2 c2
    refine b_aload_n d_Md_put_7 rfl rfl ?_
    refine b_getf (v := .ref 154) d_Md_put_8 fl_Md_1 (eg_153 σ) rfl ?_
    refine b_aload_n d_Md_put_11 rfl rfl ?_
    refine b_getf (v := .int (gY σ 0)) d_Md_put_12 fl_Md_7 (eg_153 σ) rfl ?_
    refine b_iload_n d_Md_put_15 rfl rfl ?_
    refine b_iload_n d_Md_put_16 rfl rfl ?_
    refine b_ishr d_Md_put_17  ?_
    refine b_sipush (v := (255 : Int32)) d_Md_put_18 (by decide) ?_
    refine b_iand d_Md_put_21  ?_
    obtain ⟨h1, H⟩ := H
    refine b_iast (h1 := enc (sC σ 0 (upd (gC σ 0) (gY σ 0).toNatClampNeg ((x1 >>> (x2 &&& 31)) &&& (255 : Int32))))) d_Md_put_22 (eg_154 σ) h1 (es_154 σ (upd (gC σ 0) (gY σ 0).toNatClampNeg ((x1 >>> (x2 &&& 31)) &&& (255 : Int32)))) ?_
    refine b_aload_n d_Md_put_23 rfl rfl ?_
    refine b_dup d_Md_put_24 rfl ?_
    refine b_getf (v := .int (gY σ 0)) d_Md_put_25 fl_Md_7 (eg_153 (sC σ 0 (upd (gC σ 0) (gY σ 0).toNatClampNeg ((x1 >>> (x2 &&& 31)) &&& (255 : Int32))))) rfl ?_
    refine b_iconst (v := (1 : Int32)) d_Md_put_28 (by decide) ?_
    refine b_iadd d_Md_put_29  ?_
    refine b_putf (ty := .int) (h1 := enc (sY (sC σ 0 (upd (gC σ 0) (gY σ 0).toNatClampNeg ((x1 >>> (x2 &&& 31)) &&& (255 : Int32)))) 0 ((gY σ 0) + (1 : Int32)))) d_Md_put_30 fl_Md_7 ft_12_1 (fun _ => ⟨rfl, rfl⟩) (eg_153 (sC σ 0 (upd (gC σ 0) (gY σ 0).toNatClampNeg ((x1 >>> (x2 &&& 31)) &&& (255 : Int32))))) (Nat.le_of_ble_eq_true rfl) (es_153_1 (sC σ 0 (upd (gC σ 0) (gY σ 0).toNatClampNeg ((x1 >>> (x2 &&& 31)) &&& (255 : Int32)))) ((gY σ 0) + (1 : Int32))) ?_
    refine b_iinc (v := (x2 + (-8 : Int32))) (ls' := [some (.ref 153), some (.int x1), some (.int (x2 + (-8 : Int32)))]) d_Md_put_33 rfl rfl (Nat.le_of_ble_eq_true rfl) rfl ?_
    refine b_goto (tgt := 3) d_Md_put_36 (by decide) ?_
    exact b_mask [true, true, true] rfl H
theorem C_Md_put {S : XS} {Q : St → Prop} (σ : St) (x1 : Int32) (H : BW S m_Md_put 0 [some (.ref 153), some (.int x1), none] [] (enc σ) (qV Q)) : CM S m_Md_put [.ref 153, .int x1] (enc σ) (qV Q) := b_meth (by decide) (Nat.le_of_ble_eq_true rfl) rfl H
theorem d_Md_feed_0 : decode m_Md_feed.2.1 0 = .ok (.aload_n 0, 1) := by decide +kernel
theorem d_Md_feed_1 : decode m_Md_feed.2.1 1 = .ok (.getfield 7, 3) := by decide +kernel
theorem d_Md_feed_4 : decode m_Md_feed.2.1 4 = .ok (.bipush 20, 2) := by decide +kernel
theorem d_Md_feed_6 : decode m_Md_feed.2.1 6 = .ok (.iadd, 1) := by decide +kernel
theorem d_Md_feed_7 : decode m_Md_feed.2.1 7 = .ok (.sipush 200, 3) := by decide +kernel
theorem d_Md_feed_10 : decode m_Md_feed.2.1 10 = .ok (.if_icmp .le 5, 3) := by decide +kernel
theorem d_Md_feed_13 : decode m_Md_feed.2.1 13 = .ok (.iconst (-1), 1) := by decide +kernel
theorem d_Md_feed_14 : decode m_Md_feed.2.1 14 = .ok (.ireturn, 1) := by decide +kernel
theorem d_Md_feed_15 : decode m_Md_feed.2.1 15 = .ok (.aload_n 0, 1) := by decide +kernel
theorem d_Md_feed_16 : decode m_Md_feed.2.1 16 = .ok (.iload_n 1, 1) := by decide +kernel
theorem d_Md_feed_17 : decode m_Md_feed.2.1 17 = .ok (.invokevirtual 169, 3) := by decide +kernel
theorem d_Md_feed_20 : decode m_Md_feed.2.1 20 = .ok (.aload_n 0, 1) := by decide +kernel
theorem d_Md_feed_21 : decode m_Md_feed.2.1 21 = .ok (.iload_n 2, 1) := by decide +kernel
theorem d_Md_feed_22 : decode m_Md_feed.2.1 22 = .ok (.invokevirtual 169, 3) := by decide +kernel
theorem d_Md_feed_25 : decode m_Md_feed.2.1 25 = .ok (.aload_n 0, 1) := by decide +kernel
theorem d_Md_feed_26 : decode m_Md_feed.2.1 26 = .ok (.iload_n 3, 1) := by decide +kernel
theorem d_Md_feed_27 : decode m_Md_feed.2.1 27 = .ok (.invokevirtual 169, 3) := by decide +kernel
theorem d_Md_feed_30 : decode m_Md_feed.2.1 30 = .ok (.aload_n 0, 1) := by decide +kernel
theorem d_Md_feed_31 : decode m_Md_feed.2.1 31 = .ok (.iload 4, 2) := by decide +kernel
theorem d_Md_feed_33 : decode m_Md_feed.2.1 33 = .ok (.invokevirtual 169, 3) := by decide +kernel
theorem d_Md_feed_36 : decode m_Md_feed.2.1 36 = .ok (.aload_n 0, 1) := by decide +kernel
theorem d_Md_feed_37 : decode m_Md_feed.2.1 37 = .ok (.iload 5, 2) := by decide +kernel
theorem d_Md_feed_39 : decode m_Md_feed.2.1 39 = .ok (.invokevirtual 169, 3) := by decide +kernel
theorem d_Md_feed_42 : decode m_Md_feed.2.1 42 = .ok (.aload_n 0, 1) := by decide +kernel
theorem d_Md_feed_43 : decode m_Md_feed.2.1 43 = .ok (.getfield 7, 3) := by decide +kernel
theorem d_Md_feed_46 : decode m_Md_feed.2.1 46 = .ok (.ireturn, 1) := by decide +kernel
set_option maxHeartbeats 4000000 in
set_option maxRecDepth 100000 in
theorem B_Md_feed_0 {S : XS} {Q : Int32 → St → Prop} (σ : St) (x1 : Int32) (x2 : Int32) (x3 : Int32) (x4 : Int32) (x5 : Int32) (H : ((((gY σ 0) + (20 : Int32)) ≤ (200 : Int32) → CM S m_Md_put [.ref 153, .int x1] (enc σ) (qV (fun τ2 => CM S m_Md_put [.ref 153, .int x2] (enc τ2) (qV (fun τ4 => CM S m_Md_put [.ref 153, .int x3] (enc τ4) (qV (fun τ6 => CM S m_Md_put [.ref 153, .int x4] (enc τ6) (qV (fun τ8 => CM S m_Md_put [.ref 153, .int x5] (enc τ8) (qV (fun τ10 => Q (gY τ10 0) τ10))))))))))) ∧ (¬ ((gY σ 0) + (20 : Int32)) ≤ (200 : Int32) → Q (-1 : Int32) σ))) : BW S m_Md_feed 0 [some (.ref 153), some (.int x1), some (.int x2), some (.int x3), some (.int x4), some (.int x5)] [] (enc σ) (qI Q) := by
  refine b_aload_n d_Md_feed_0 rfl rfl ?_
  refine b_getf (v := .int (gY σ 0)) d_Md_feed_1 fl_Md_7 (eg_153 σ) rfl ?_
  refine b_bipush (v := (20 : Int32)) d_Md_feed_4 (by decide) ?_
  refine b_iadd d_Md_feed_6  ?_
  refine b_sipush (v := (200 : Int32)) d_Md_feed_7 (by decide) ?_
  refine b_icmp_le (tgt := 15) d_Md_feed_10 (by decide) (fun c11 => ?_) (fun c11 => ?_)
  · have H := H.1 c11
    refine b_aload_n d_Md_feed_15 rfl rfl ?_
    refine b_iload_n d_Md_feed_16 rfl rfl ?_
    refine b_callVv (Mc := m_Md_put) (As := [.int x1]) (st := []) d_Md_feed_17 ⟨⟨kA_Md_put.1, kA_Md_put.2.1, kA_Md_put.2.2, by decide⟩, ml_Md_169, kV_Md_put⟩ (eg_153 σ) rfl rfl (Nat.le_of_ble_eq_true rfl) H (fun τ2 H => ?_)
    refine b_aload_n d_Md_feed_20 rfl rfl ?_
    refine b_iload_n d_Md_feed_21 rfl rfl ?_
    refine b_callVv (Mc := m_Md_put) (As := [.int x2]) (st := []) d_Md_feed_22 ⟨⟨kA_Md_put.1, kA_Md_put.2.1, kA_Md_put.2.2, by decide⟩, ml_Md_169, kV_Md_put⟩ (eg_153 τ2) rfl rfl (Nat.le_of_ble_eq_true rfl) H (fun τ4 H => ?_)
    refine b_aload_n d_Md_feed_25 rfl rfl ?_
    refine b_iload_n d_Md_feed_26 rfl rfl ?_
    refine b_callVv (Mc := m_Md_put) (As := [.int x3]) (st := []) d_Md_feed_27 ⟨⟨kA_Md_put.1, kA_Md_put.2.1, kA_Md_put.2.2, by decide⟩, ml_Md_169, kV_Md_put⟩ (eg_153 τ4) rfl rfl (Nat.le_of_ble_eq_true rfl) H (fun τ6 H => ?_)
    refine b_aload_n d_Md_feed_30 rfl rfl ?_
    refine b_iload d_Md_feed_31 rfl ?_
    refine b_callVv (Mc := m_Md_put) (As := [.int x4]) (st := []) d_Md_feed_33 ⟨⟨kA_Md_put.1, kA_Md_put.2.1, kA_Md_put.2.2, by decide⟩, ml_Md_169, kV_Md_put⟩ (eg_153 τ6) rfl rfl (Nat.le_of_ble_eq_true rfl) H (fun τ8 H => ?_)
    refine b_aload_n d_Md_feed_36 rfl rfl ?_
    refine b_iload d_Md_feed_37 rfl ?_
    refine b_callVv (Mc := m_Md_put) (As := [.int x5]) (st := []) d_Md_feed_39 ⟨⟨kA_Md_put.1, kA_Md_put.2.1, kA_Md_put.2.2, by decide⟩, ml_Md_169, kV_Md_put⟩ (eg_153 τ8) rfl rfl (Nat.le_of_ble_eq_true rfl) H (fun τ10 H => ?_)
    refine b_aload_n d_Md_feed_42 rfl rfl ?_
    refine b_getf (v := .int (gY τ10 0)) d_Md_feed_43 fl_Md_7 (eg_153 τ10) rfl ?_
    exact b_iret (ty := .int) d_Md_feed_46 rfl rfl ⟨_, _, rfl, rfl, H⟩
  · have H := H.2 c11
    refine b_iconst (v := (-1 : Int32)) d_Md_feed_13 (by decide) ?_
    exact b_iret (ty := .int) d_Md_feed_14 rfl rfl ⟨_, _, rfl, rfl, H⟩
theorem C_Md_feed {S : XS} {Q : Int32 → St → Prop} (σ : St) (x1 : Int32) (x2 : Int32) (x3 : Int32) (x4 : Int32) (x5 : Int32) (H : BW S m_Md_feed 0 [some (.ref 153), some (.int x1), some (.int x2), some (.int x3), some (.int x4), some (.int x5)] [] (enc σ) (qI Q)) : CM S m_Md_feed [.ref 153, .int x1, .int x2, .int x3, .int x4, .int x5] (enc σ) (qI Q) := b_meth (by decide) (Nat.le_of_ble_eq_true rfl) rfl H
theorem d_Md_end_0 : decode m_Md_end.2.1 0 = .ok (.iload_n 1, 1) := by decide +kernel
theorem d_Md_end_1 : decode m_Md_end.2.1 1 = .ok (.ifCond .lt 11, 3) := by decide +kernel
theorem d_Md_end_4 : decode m_Md_end.2.1 4 = .ok (.iload_n 1, 1) := by decide +kernel
theorem d_Md_end_5 : decode m_Md_end.2.1 5 = .ok (.aload_n 0, 1) := by decide +kernel
theorem d_Md_end_6 : decode m_Md_end.2.1 6 = .ok (.getfield 7, 3) := by decide +kernel
theorem d_Md_end_9 : decode m_Md_end.2.1 9 = .ok (.if_icmp .le 5, 3) := by decide +kernel
theorem d_Md_end_12 : decode m_Md_end.2.1 12 = .ok (.iconst 0, 1) := by decide +kernel
theorem d_Md_end_13 : decode m_Md_end.2.1 13 = .ok (.ireturn, 1) := by decide +kernel
theorem d_Md_end_14 : decode m_Md_end.2.1 14 = .ok (.aload_n 0, 1) := by decide +kernel
theorem d_Md_end_15 : decode m_Md_end.2.1 15 = .ok (.iload_n 1, 1) := by decide +kernel
theorem d_Md_end_16 : decode m_Md_end.2.1 16 = .ok (.putfield 7, 3) := by decide +kernel
theorem d_Md_end_19 : decode m_Md_end.2.1 19 = .ok (.iconst 1, 1) := by decide +kernel
theorem d_Md_end_20 : decode m_Md_end.2.1 20 = .ok (.ireturn, 1) := by decide +kernel
set_option maxHeartbeats 4000000 in
set_option maxRecDepth 100000 in
theorem B_Md_end_0 {S : XS} {Q : Int32 → St → Prop} (σ : St) (x1 : Int32) (H : ((x1 < 0 → Q (0 : Int32) σ) ∧ (¬ x1 < 0 → ((x1 ≤ (gY σ 0) → Q (1 : Int32) (sY σ 0 x1)) ∧ (¬ x1 ≤ (gY σ 0) → Q (0 : Int32) σ))))) : BW S m_Md_end 0 [some (.ref 153), some (.int x1)] [] (enc σ) (qI Q) := by
  refine b_iload_n d_Md_end_0 rfl rfl ?_
  refine b_if_lt (tgt := 12) d_Md_end_1 (by decide) (fun c2 => ?_) (fun c2 => ?_)
  · have H := H.1 c2
    refine b_iconst (v := (0 : Int32)) d_Md_end_12 (by decide) ?_
    exact b_iret (ty := .boolean) d_Md_end_13 rfl rfl ⟨_, _, rfl, rfl, H⟩
  · have H := H.2 c2
    refine b_iload_n d_Md_end_4 rfl rfl ?_
    refine b_aload_n d_Md_end_5 rfl rfl ?_
    refine b_getf (v := .int (gY σ 0)) d_Md_end_6 fl_Md_7 (eg_153 σ) rfl ?_
    refine b_icmp_le (tgt := 14) d_Md_end_9 (by decide) (fun c1 => ?_) (fun c1 => ?_)
    · have H := H.1 c1
      refine b_aload_n d_Md_end_14 rfl rfl ?_
      refine b_iload_n d_Md_end_15 rfl rfl ?_
      refine b_putf (ty := .int) (h1 := enc (sY σ 0 x1)) d_Md_end_16 fl_Md_7 ft_12_1 (fun _ => ⟨rfl, rfl⟩) (eg_153 σ) (Nat.le_of_ble_eq_true rfl) (es_153_1 σ x1) ?_
      refine b_iconst (v := (1 : Int32)) d_Md_end_19 (by decide) ?_
      exact b_iret (ty := .boolean) d_Md_end_20 rfl rfl ⟨_, _, rfl, rfl, H⟩
    · have H := H.2 c1
      refine b_iconst (v := (0 : Int32)) d_Md_end_12 (by decide) ?_
      exact b_iret (ty := .boolean) d_Md_end_13 rfl rfl ⟨_, _, rfl, rfl, H⟩
theorem C_Md_end {S : XS} {Q : Int32 → St → Prop} (σ : St) (x1 : Int32) (H : BW S m_Md_end 0 [some (.ref 153), some (.int x1)] [] (enc σ) (qI Q)) : CM S m_Md_end [.ref 153, .int x1] (enc σ) (qI Q) := b_meth (by decide) (Nat.le_of_ble_eq_true rfl) rfl H
theorem d_Md_paragraph_0 : decode m_Md_paragraph.2.1 0 = .ok (.iload_n 1, 1) := by decide +kernel
theorem d_Md_paragraph_1 : decode m_Md_paragraph.2.1 1 = .ok (.iconst (-1), 1) := by decide +kernel
theorem d_Md_paragraph_2 : decode m_Md_paragraph.2.1 2 = .ok (.ldc 173, 2) := by decide +kernel
theorem d_Md_paragraph_4 : decode m_Md_paragraph.2.1 4 = .ok (.invokestatic 174, 3) := by decide +kernel
theorem d_Md_paragraph_7 : decode m_Md_paragraph.2.1 7 = .ok (.ifCond .eq 12, 3) := by decide +kernel
theorem d_Md_paragraph_10 : decode m_Md_paragraph.2.1 10 = .ok (.aload_n 0, 1) := by decide +kernel
theorem d_Md_paragraph_11 : decode m_Md_paragraph.2.1 11 = .ok (.getfield 17, 3) := by decide +kernel
theorem d_Md_paragraph_14 : decode m_Md_paragraph.2.1 14 = .ok (.bipush 20, 2) := by decide +kernel
theorem d_Md_paragraph_16 : decode m_Md_paragraph.2.1 16 = .ok (.if_icmp .ne 5, 3) := by decide +kernel
theorem d_Md_paragraph_19 : decode m_Md_paragraph.2.1 19 = .ok (.iconst (-1), 1) := by decide +kernel
theorem d_Md_paragraph_20 : decode m_Md_paragraph.2.1 20 = .ok (.ireturn, 1) := by decide +kernel
theorem d_Md_paragraph_21 : decode m_Md_paragraph.2.1 21 = .ok (.aload_n 0, 1) := by decide +kernel
theorem d_Md_paragraph_22 : decode m_Md_paragraph.2.1 22 = .ok (.getfield 20, 3) := by decide +kernel
theorem d_Md_paragraph_25 : decode m_Md_paragraph.2.1 25 = .ok (.aload_n 0, 1) := by decide +kernel
theorem d_Md_paragraph_26 : decode m_Md_paragraph.2.1 26 = .ok (.getfield 17, 3) := by decide +kernel
theorem d_Md_paragraph_29 : decode m_Md_paragraph.2.1 29 = .ok (.iload_n 1, 1) := by decide +kernel
theorem d_Md_paragraph_30 : decode m_Md_paragraph.2.1 30 = .ok (.iastore, 1) := by decide +kernel
theorem d_Md_paragraph_31 : decode m_Md_paragraph.2.1 31 = .ok (.aload_n 0, 1) := by decide +kernel
theorem d_Md_paragraph_32 : decode m_Md_paragraph.2.1 32 = .ok (.getfield 23, 3) := by decide +kernel
theorem d_Md_paragraph_35 : decode m_Md_paragraph.2.1 35 = .ok (.aload_n 0, 1) := by decide +kernel
theorem d_Md_paragraph_36 : decode m_Md_paragraph.2.1 36 = .ok (.getfield 17, 3) := by decide +kernel
theorem d_Md_paragraph_39 : decode m_Md_paragraph.2.1 39 = .ok (.iconst 0, 1) := by decide +kernel
theorem d_Md_paragraph_40 : decode m_Md_paragraph.2.1 40 = .ok (.iastore, 1) := by decide +kernel
theorem d_Md_paragraph_41 : decode m_Md_paragraph.2.1 41 = .ok (.aload_n 0, 1) := by decide +kernel
theorem d_Md_paragraph_42 : decode m_Md_paragraph.2.1 42 = .ok (.dup, 1) := by decide +kernel
theorem d_Md_paragraph_43 : decode m_Md_paragraph.2.1 43 = .ok (.getfield 17, 3) := by decide +kernel
theorem d_Md_paragraph_46 : decode m_Md_paragraph.2.1 46 = .ok (.iconst 1, 1) := by decide +kernel
theorem d_Md_paragraph_47 : decode m_Md_paragraph.2.1 47 = .ok (.iadd, 1) := by decide +kernel
theorem d_Md_paragraph_48 : decode m_Md_paragraph.2.1 48 = .ok (.putfield 17, 3) := by decide +kernel
theorem d_Md_paragraph_51 : decode m_Md_paragraph.2.1 51 = .ok (.aload_n 0, 1) := by decide +kernel
theorem d_Md_paragraph_52 : decode m_Md_paragraph.2.1 52 = .ok (.getfield 17, 3) := by decide +kernel
theorem d_Md_paragraph_55 : decode m_Md_paragraph.2.1 55 = .ok (.iconst 1, 1) := by decide +kernel
theorem d_Md_paragraph_56 : decode m_Md_paragraph.2.1 56 = .ok (.isub, 1) := by decide +kernel
theorem d_Md_paragraph_57 : decode m_Md_paragraph.2.1 57 = .ok (.ireturn, 1) := by decide +kernel
set_option maxHeartbeats 4000000 in
set_option maxRecDepth 100000 in
theorem B_Md_paragraph_0 {S : XS} {Q : Int32 → St → Prop} (σ : St) (x1 : Int32) (H : CM S m_Md_is [.int x1, .int (-1 : Int32), .int (100000 : Int32)] (enc σ) (qI (fun v1 τ2 => ((v1 = 0 → Q (-1 : Int32) τ2) ∧ (¬ v1 = 0 → ((¬ (gY τ2 1) = (20 : Int32) → (vp_in (gY τ2 1) 20) ∧ Q (((gY τ2 1) + (1 : Int32)) - (1 : Int32)) (sY (sC (sC τ2 1 (upd (gC τ2 1) (gY τ2 1).toNatClampNeg x1)) 2 (upd (gC τ2 2) (gY τ2 1).toNatClampNeg (0 : Int32))) 1 ((gY τ2 1) + (1 : Int32)))) ∧ ((gY τ2 1) = (20 : Int32) → Q (-1 : Int32) τ2))))))) : BW S m_Md_paragraph 0 [some (.ref 153), some (.int x1)] [] (enc σ) (qI Q) := by
  refine b_iload_n d_Md_paragraph_0 rfl rfl ?_
  refine b_iconst (v := (-1 : Int32)) d_Md_paragraph_1 (by decide) ?_
  refine b_ldc (v := (100000 : Int32)) d_Md_paragraph_2 cn_Md_173 ?_
  refine b_callSi (Mc := m_Md_is) (As := [.int x1, .int (-1 : Int32), .int (100000 : Int32)]) (st := []) d_Md_paragraph_4 ⟨⟨kA_Md_is.1, kA_Md_is.2.1, kA_Md_is.2.2, by decide⟩, ml_Md_174, kS_Md_is⟩ rfl rfl (Nat.le_of_ble_eq_true rfl) H (fun v1 τ2 H => ?_)
  refine b_if_eq (tgt := 19) d_Md_paragraph_7 (by decide) (fun c5 => ?_) (fun c5 => ?_)
  · have H := H.1 c5
    refine b_iconst (v := (-1 : Int32)) d_Md_paragraph_19 (by decide) ?_
    exact b_iret (ty := .int) d_Md_paragraph_20 rfl rfl ⟨_, _, rfl, rfl, H⟩
  · have H := H.2 c5
    refine b_aload_n d_Md_paragraph_10 rfl rfl ?_
    refine b_getf (v := .int (gY τ2 1)) d_Md_paragraph_11 fl_Md_17 (eg_153 τ2) rfl ?_
    refine b_bipush (v := (20 : Int32)) d_Md_paragraph_14 (by decide) ?_
    refine b_icmp_ne (tgt := 21) d_Md_paragraph_16 (by decide) (fun c4 => ?_) (fun c4 => ?_)
    · have H := H.1 c4
      refine b_aload_n d_Md_paragraph_21 rfl rfl ?_
      refine b_getf (v := .ref 155) d_Md_paragraph_22 fl_Md_20 (eg_153 τ2) rfl ?_
      refine b_aload_n d_Md_paragraph_25 rfl rfl ?_
      refine b_getf (v := .int (gY τ2 1)) d_Md_paragraph_26 fl_Md_17 (eg_153 τ2) rfl ?_
      refine b_iload_n d_Md_paragraph_29 rfl rfl ?_
      obtain ⟨h3, H⟩ := H
      refine b_iast (h1 := enc (sC τ2 1 (upd (gC τ2 1) (gY τ2 1).toNatClampNeg x1))) d_Md_paragraph_30 (eg_155 τ2) h3 (es_155 τ2 (upd (gC τ2 1) (gY τ2 1).toNatClampNeg x1)) ?_
      refine b_aload_n d_Md_paragraph_31 rfl rfl ?_
      refine b_getf (v := .ref 156) d_Md_paragraph_32 fl_Md_23 (eg_153 (sC τ2 1 (upd (gC τ2 1) (gY τ2 1).toNatClampNeg x1))) rfl ?_
      refine b_aload_n d_Md_paragraph_35 rfl rfl ?_
      refine b_getf (v := .int (gY τ2 1)) d_Md_paragraph_36 fl_Md_17 (eg_153 (sC τ2 1 (upd (gC τ2 1) (gY τ2 1).toNatClampNeg x1))) rfl ?_
      refine b_iconst (v := (0 : Int32)) d_Md_paragraph_39 (by decide) ?_
      refine b_iast (h1 := enc (sC (sC τ2 1 (upd (gC τ2 1) (gY τ2 1).toNatClampNeg x1)) 2 (upd (gC τ2 2) (gY τ2 1).toNatClampNeg (0 : Int32)))) d_Md_paragraph_40 (eg_156 (sC τ2 1 (upd (gC τ2 1) (gY τ2 1).toNatClampNeg x1))) h3 (es_156 (sC τ2 1 (upd (gC τ2 1) (gY τ2 1).toNatClampNeg x1)) (upd (gC τ2 2) (gY τ2 1).toNatClampNeg (0 : Int32))) ?_
      refine b_aload_n d_Md_paragraph_41 rfl rfl ?_
      refine b_dup d_Md_paragraph_42 rfl ?_
      refine b_getf (v := .int (gY τ2 1)) d_Md_paragraph_43 fl_Md_17 (eg_153 (sC (sC τ2 1 (upd (gC τ2 1) (gY τ2 1).toNatClampNeg x1)) 2 (upd (gC τ2 2) (gY τ2 1).toNatClampNeg (0 : Int32)))) rfl ?_
      refine b_iconst (v := (1 : Int32)) d_Md_paragraph_46 (by decide) ?_
      refine b_iadd d_Md_paragraph_47  ?_
      refine b_putf (ty := .int) (h1 := enc (sY (sC (sC τ2 1 (upd (gC τ2 1) (gY τ2 1).toNatClampNeg x1)) 2 (upd (gC τ2 2) (gY τ2 1).toNatClampNeg (0 : Int32))) 1 ((gY τ2 1) + (1 : Int32)))) d_Md_paragraph_48 fl_Md_17 ft_12_2 (fun _ => ⟨rfl, rfl⟩) (eg_153 (sC (sC τ2 1 (upd (gC τ2 1) (gY τ2 1).toNatClampNeg x1)) 2 (upd (gC τ2 2) (gY τ2 1).toNatClampNeg (0 : Int32)))) (Nat.le_of_ble_eq_true rfl) (es_153_2 (sC (sC τ2 1 (upd (gC τ2 1) (gY τ2 1).toNatClampNeg x1)) 2 (upd (gC τ2 2) (gY τ2 1).toNatClampNeg (0 : Int32))) ((gY τ2 1) + (1 : Int32))) ?_
      refine b_aload_n d_Md_paragraph_51 rfl rfl ?_
      refine b_getf (v := .int ((gY τ2 1) + (1 : Int32))) d_Md_paragraph_52 fl_Md_17 (eg_153 (sY (sC (sC τ2 1 (upd (gC τ2 1) (gY τ2 1).toNatClampNeg x1)) 2 (upd (gC τ2 2) (gY τ2 1).toNatClampNeg (0 : Int32))) 1 ((gY τ2 1) + (1 : Int32)))) rfl ?_
      refine b_iconst (v := (1 : Int32)) d_Md_paragraph_55 (by decide) ?_
      refine b_isub d_Md_paragraph_56  ?_
      exact b_iret (ty := .int) d_Md_paragraph_57 rfl rfl ⟨_, _, rfl, rfl, H⟩
    · have H := H.2 c4
      refine b_iconst (v := (-1 : Int32)) d_Md_paragraph_19 (by decide) ?_
      exact b_iret (ty := .int) d_Md_paragraph_20 rfl rfl ⟨_, _, rfl, rfl, H⟩
theorem C_Md_paragraph {S : XS} {Q : Int32 → St → Prop} (σ : St) (x1 : Int32) (H : BW S m_Md_paragraph 0 [some (.ref 153), some (.int x1)] [] (enc σ) (qI Q)) : CM S m_Md_paragraph [.ref 153, .int x1] (enc σ) (qI Q) := b_meth (by decide) (Nat.le_of_ble_eq_true rfl) rfl H
theorem d_Md_word_0 : decode m_Md_word.2.1 0 = .ok (.aload_n 0, 1) := by decide +kernel
theorem d_Md_word_1 : decode m_Md_word.2.1 1 = .ok (.getfield 17, 3) := by decide +kernel
theorem d_Md_word_4 : decode m_Md_word.2.1 4 = .ok (.iconst 1, 1) := by decide +kernel
theorem d_Md_word_5 : decode m_Md_word.2.1 5 = .ok (.isub, 1) := by decide +kernel
theorem d_Md_word_6 : decode m_Md_word.2.1 6 = .ok (.istore_n 2, 1) := by decide +kernel
theorem d_Md_word_7 : decode m_Md_word.2.1 7 = .ok (.iload_n 2, 1) := by decide +kernel
theorem d_Md_word_8 : decode m_Md_word.2.1 8 = .ok (.ifCond .lt 24, 3) := by decide +kernel
theorem d_Md_word_11 : decode m_Md_word.2.1 11 = .ok (.iload_n 1, 1) := by decide +kernel
theorem d_Md_word_12 : decode m_Md_word.2.1 12 = .ok (.iconst 1, 1) := by decide +kernel
theorem d_Md_word_13 : decode m_Md_word.2.1 13 = .ok (.bipush 20, 2) := by decide +kernel
theorem d_Md_word_15 : decode m_Md_word.2.1 15 = .ok (.invokestatic 174, 3) := by decide +kernel
theorem d_Md_word_18 : decode m_Md_word.2.1 18 = .ok (.ifCond .eq 14, 3) := by decide +kernel
theorem d_Md_word_21 : decode m_Md_word.2.1 21 = .ok (.aload_n 0, 1) := by decide +kernel
theorem d_Md_word_22 : decode m_Md_word.2.1 22 = .ok (.getfield 23, 3) := by decide +kernel
theorem d_Md_word_25 : decode m_Md_word.2.1 25 = .ok (.iload_n 2, 1) := by decide +kernel
theorem d_Md_word_26 : decode m_Md_word.2.1 26 = .ok (.iaload, 1) := by decide +kernel
theorem d_Md_word_27 : decode m_Md_word.2.1 27 = .ok (.bipush 30, 2) := by decide +kernel
theorem d_Md_word_29 : decode m_Md_word.2.1 29 = .ok (.if_icmp .ne 5, 3) := by decide +kernel
theorem d_Md_word_32 : decode m_Md_word.2.1 32 = .ok (.iconst (-1), 1) := by decide +kernel
theorem d_Md_word_33 : decode m_Md_word.2.1 33 = .ok (.ireturn, 1) := by decide +kernel
theorem d_Md_word_34 : decode m_Md_word.2.1 34 = .ok (.aload_n 0, 1) := by decide +kernel
theorem d_Md_word_35 : decode m_Md_word.2.1 35 = .ok (.getfield 26, 3) := by decide +kernel
theorem d_Md_word_38 : decode m_Md_word.2.1 38 = .ok (.bipush 30, 2) := by decide +kernel
theorem d_Md_word_40 : decode m_Md_word.2.1 40 = .ok (.iload_n 2, 1) := by decide +kernel
theorem d_Md_word_41 : decode m_Md_word.2.1 41 = .ok (.imul, 1) := by decide +kernel
theorem d_Md_word_42 : decode m_Md_word.2.1 42 = .ok (.aload_n 0, 1) := by decide +kernel
theorem d_Md_word_43 : decode m_Md_word.2.1 43 = .ok (.getfield 23, 3) := by decide +kernel
theorem d_Md_word_46 : decode m_Md_word.2.1 46 = .ok (.iload_n 2, 1) := by decide +kernel
theorem d_Md_word_47 : decode m_Md_word.2.1 47 = .ok (.iaload, 1) := by decide +kernel
theorem d_Md_word_48 : decode m_Md_word.2.1 48 = .ok (.iadd, 1) := by decide +kernel
theorem d_Md_word_49 : decode m_Md_word.2.1 49 = .ok (.iload_n 1, 1) := by decide +kernel
theorem d_Md_word_50 : decode m_Md_word.2.1 50 = .ok (.iastore, 1) := by decide +kernel
theorem d_Md_word_51 : decode m_Md_word.2.1 51 = .ok (.aload_n 0, 1) := by decide +kernel
theorem d_Md_word_52 : decode m_Md_word.2.1 52 = .ok (.getfield 23, 3) := by decide +kernel
theorem d_Md_word_55 : decode m_Md_word.2.1 55 = .ok (.iload_n 2, 1) := by decide +kernel
theorem d_Md_word_56 : decode m_Md_word.2.1 56 = .ok (.dup2, 1) := by decide +kernel
theorem d_Md_word_57 : decode m_Md_word.2.1 57 = .ok (.iaload, 1) := by decide +kernel
theorem d_Md_word_58 : decode m_Md_word.2.1 58 = .ok (.iconst 1, 1) := by decide +kernel
theorem d_Md_word_59 : decode m_Md_word.2.1 59 = .ok (.iadd, 1) := by decide +kernel
theorem d_Md_word_60 : decode m_Md_word.2.1 60 = .ok (.iastore, 1) := by decide +kernel
theorem d_Md_word_61 : decode m_Md_word.2.1 61 = .ok (.aload_n 0, 1) := by decide +kernel
theorem d_Md_word_62 : decode m_Md_word.2.1 62 = .ok (.getfield 23, 3) := by decide +kernel
theorem d_Md_word_65 : decode m_Md_word.2.1 65 = .ok (.iload_n 2, 1) := by decide +kernel
theorem d_Md_word_66 : decode m_Md_word.2.1 66 = .ok (.iaload, 1) := by decide +kernel
theorem d_Md_word_67 : decode m_Md_word.2.1 67 = .ok (.ireturn, 1) := by decide +kernel
set_option maxHeartbeats 4000000 in
set_option maxRecDepth 100000 in
theorem B_Md_word_0 {S : XS} {Q : Int32 → St → Prop} (σ : St) (x1 : Int32) (H : ((((gY σ 1) - (1 : Int32)) < 0 → Q (-1 : Int32) σ) ∧ (¬ ((gY σ 1) - (1 : Int32)) < 0 → CM S m_Md_is [.int x1, .int (1 : Int32), .int (20 : Int32)] (enc σ) (qI (fun v1 τ2 => ((v1 = 0 → Q (-1 : Int32) τ2) ∧ (¬ v1 = 0 → (vp_in ((gY σ 1) - (1 : Int32)) 20) ∧ ((¬ ((gC τ2 2) ((gY σ 1) - (1 : Int32)).toNatClampNeg) = (30 : Int32) → (vp_in (((30 : Int32) * ((gY σ 1) - (1 : Int32))) + ((gC τ2 2) ((gY σ 1) - (1 : Int32)).toNatClampNeg)) 600) ∧ Q ((upd (gC τ2 2) ((gY σ 1) - (1 : Int32)).toNatClampNeg (((gC τ2 2) ((gY σ 1) - (1 : Int32)).toNatClampNeg) + (1 : Int32))) ((gY σ 1) - (1 : Int32)).toNatClampNeg) (sC (sC τ2 3 (upd (gC τ2 3) (((30 : Int32) * ((gY σ 1) - (1 : Int32))) + ((gC τ2 2) ((gY σ 1) - (1 : Int32)).toNatClampNeg)).toNatClampNeg x1)) 2 (upd (gC τ2 2) ((gY σ 1) - (1 : Int32)).toNatClampNeg (((gC τ2 2) ((gY σ 1) - (1 : Int32)).toNatClampNeg) + (1 : Int32))))) ∧ (((gC τ2 2) ((gY σ 1) - (1 : Int32)).toNatClampNeg) = (30 : Int32) → Q (-1 : Int32) τ2))))))))) : BW S m_Md_word 0 [some (.ref 153), some (.int x1), none] [] (enc σ) (qI Q) := by
  refine b_aload_n d_Md_word_0 rfl rfl ?_
  refine b_getf (v := .int (gY σ 1)) d_Md_word_1 fl_Md_17 (eg_153 σ) rfl ?_
  refine b_iconst (v := (1 : Int32)) d_Md_word_4 (by decide) ?_
  refine b_isub d_Md_word_5  ?_
  refine b_istore_n (ls' := [some (.ref 153), some (.int x1), some (.int ((gY σ 1) - (1 : Int32)))]) d_Md_word_6 rfl (Nat.le_of_ble_eq_true rfl) rfl ?_
  refine b_iload_n d_Md_word_7 rfl rfl ?_
  refine b_if_lt (tgt := 32) d_Md_word_8 (by decide) (fun c7 => ?_) (fun c7 => ?_)
  · have H := H.1 c7
    refine b_iconst (v := (-1 : Int32)) d_Md_word_32 (by decide) ?_
    exact b_iret (ty := .int) d_Md_word_33 rfl rfl ⟨_, _, rfl, rfl, H⟩
  · have H := H.2 c7
    refine b_iload_n d_Md_word_11 rfl rfl ?_
    refine b_iconst (v := (1 : Int32)) d_Md_word_12 (by decide) ?_
    refine b_bipush (v := (20 : Int32)) d_Md_word_13 (by decide) ?_
    refine b_callSi (Mc := m_Md_is) (As := [.int x1, .int (1 : Int32), .int (20 : Int32)]) (st := []) d_Md_word_15 ⟨⟨kA_Md_is.1, kA_Md_is.2.1, kA_Md_is.2.2, by decide⟩, ml_Md_174, kS_Md_is⟩ rfl rfl (Nat.le_of_ble_eq_true rfl) H (fun v1 τ2 H => ?_)
    refine b_if_eq (tgt := 32) d_Md_word_18 (by decide) (fun c6 => ?_) (fun c6 => ?_)
    · have H := H.1 c6
      refine b_iconst (v := (-1 : Int32)) d_Md_word_32 (by decide) ?_
      exact b_iret (ty := .int) d_Md_word_33 rfl rfl ⟨_, _, rfl, rfl, H⟩
    · have H := H.2 c6
      refine b_aload_n d_Md_word_21 rfl rfl ?_
      refine b_getf (v := .ref 156) d_Md_word_22 fl_Md_23 (eg_153 τ2) rfl ?_
      refine b_iload_n d_Md_word_25 rfl rfl ?_
      obtain ⟨h3, H⟩ := H
      refine b_iald d_Md_word_26 (eg_156 τ2) h3 ?_
      refine b_st2 (st' := [.int ((gC τ2 2) ((gY σ 1) - (1 : Int32)).toNatClampNeg)]) rfl ?_
      refine b_bipush (v := (30 : Int32)) d_Md_word_27 (by decide) ?_
      refine b_icmp_ne (tgt := 34) d_Md_word_29 (by decide) (fun c5 => ?_) (fun c5 => ?_)
      · have H := H.1 c5
        refine b_aload_n d_Md_word_34 rfl rfl ?_
        refine b_getf (v := .ref 157) d_Md_word_35 fl_Md_26 (eg_153 τ2) rfl ?_
        refine b_bipush (v := (30 : Int32)) d_Md_word_38 (by decide) ?_
        refine b_iload_n d_Md_word_40 rfl rfl ?_
        refine b_imul d_Md_word_41  ?_
        refine b_aload_n d_Md_word_42 rfl rfl ?_
        refine b_getf (v := .ref 156) d_Md_word_43 fl_Md_23 (eg_153 τ2) rfl ?_
        refine b_iload_n d_Md_word_46 rfl rfl ?_
        refine b_iald d_Md_word_47 (eg_156 τ2) h3 ?_
        refine b_st2 (st' := [.int ((gC τ2 2) ((gY σ 1) - (1 : Int32)).toNatClampNeg), .int ((30 : Int32) * ((gY σ 1) - (1 : Int32))), .ref 157]) rfl ?_
        refine b_iadd d_Md_word_48  ?_
        refine b_iload_n d_Md_word_49 rfl rfl ?_
        obtain ⟨h4, H⟩ := H
        refine b_iast (h1 := enc (sC τ2 3 (upd (gC τ2 3) (((30 : Int32) * ((gY σ 1) - (1 : Int32))) + ((gC τ2 2) ((gY σ 1) - (1 : Int32)).toNatClampNeg)).toNatClampNeg x1))) d_Md_word_50 (eg_157 τ2) h4 (es_157 τ2 (upd (gC τ2 3) (((30 : Int32) * ((gY σ 1) - (1 : Int32))) + ((gC τ2 2) ((gY σ 1) - (1 : Int32)).toNatClampNeg)).toNatClampNeg x1)) ?_
        refine b_aload_n d_Md_word_51 rfl rfl ?_
        refine b_getf (v := .ref 156) d_Md_word_52 fl_Md_23 (eg_153 (sC τ2 3 (upd (gC τ2 3) (((30 : Int32) * ((gY σ 1) - (1 : Int32))) + ((gC τ2 2) ((gY σ 1) - (1 : Int32)).toNatClampNeg)).toNatClampNeg x1))) rfl ?_
        refine b_iload_n d_Md_word_55 rfl rfl ?_
        refine b_dup2 d_Md_word_56 rfl rfl ?_
        refine b_iald d_Md_word_57 (eg_156 (sC τ2 3 (upd (gC τ2 3) (((30 : Int32) * ((gY σ 1) - (1 : Int32))) + ((gC τ2 2) ((gY σ 1) - (1 : Int32)).toNatClampNeg)).toNatClampNeg x1))) h3 ?_
        refine b_st2 (st' := [.int ((gC τ2 2) ((gY σ 1) - (1 : Int32)).toNatClampNeg), .int ((gY σ 1) - (1 : Int32)), .ref 156]) rfl ?_
        refine b_iconst (v := (1 : Int32)) d_Md_word_58 (by decide) ?_
        refine b_iadd d_Md_word_59  ?_
        refine b_iast (h1 := enc (sC (sC τ2 3 (upd (gC τ2 3) (((30 : Int32) * ((gY σ 1) - (1 : Int32))) + ((gC τ2 2) ((gY σ 1) - (1 : Int32)).toNatClampNeg)).toNatClampNeg x1)) 2 (upd (gC τ2 2) ((gY σ 1) - (1 : Int32)).toNatClampNeg (((gC τ2 2) ((gY σ 1) - (1 : Int32)).toNatClampNeg) + (1 : Int32))))) d_Md_word_60 (eg_156 (sC τ2 3 (upd (gC τ2 3) (((30 : Int32) * ((gY σ 1) - (1 : Int32))) + ((gC τ2 2) ((gY σ 1) - (1 : Int32)).toNatClampNeg)).toNatClampNeg x1))) h3 (es_156 (sC τ2 3 (upd (gC τ2 3) (((30 : Int32) * ((gY σ 1) - (1 : Int32))) + ((gC τ2 2) ((gY σ 1) - (1 : Int32)).toNatClampNeg)).toNatClampNeg x1)) (upd (gC τ2 2) ((gY σ 1) - (1 : Int32)).toNatClampNeg (((gC τ2 2) ((gY σ 1) - (1 : Int32)).toNatClampNeg) + (1 : Int32)))) ?_
        refine b_aload_n d_Md_word_61 rfl rfl ?_
        refine b_getf (v := .ref 156) d_Md_word_62 fl_Md_23 (eg_153 (sC (sC τ2 3 (upd (gC τ2 3) (((30 : Int32) * ((gY σ 1) - (1 : Int32))) + ((gC τ2 2) ((gY σ 1) - (1 : Int32)).toNatClampNeg)).toNatClampNeg x1)) 2 (upd (gC τ2 2) ((gY σ 1) - (1 : Int32)).toNatClampNeg (((gC τ2 2) ((gY σ 1) - (1 : Int32)).toNatClampNeg) + (1 : Int32))))) rfl ?_
        refine b_iload_n d_Md_word_65 rfl rfl ?_
        refine b_iald d_Md_word_66 (eg_156 (sC (sC τ2 3 (upd (gC τ2 3) (((30 : Int32) * ((gY σ 1) - (1 : Int32))) + ((gC τ2 2) ((gY σ 1) - (1 : Int32)).toNatClampNeg)).toNatClampNeg x1)) 2 (upd (gC τ2 2) ((gY σ 1) - (1 : Int32)).toNatClampNeg (((gC τ2 2) ((gY σ 1) - (1 : Int32)).toNatClampNeg) + (1 : Int32))))) h3 ?_
        refine b_st2 (st' := [.int ((upd (gC τ2 2) ((gY σ 1) - (1 : Int32)).toNatClampNeg (((gC τ2 2) ((gY σ 1) - (1 : Int32)).toNatClampNeg) + (1 : Int32))) ((gY σ 1) - (1 : Int32)).toNatClampNeg)]) rfl ?_
        exact b_iret (ty := .int) d_Md_word_67 rfl rfl ⟨_, _, rfl, rfl, H⟩
      · have H := H.2 c5
        refine b_iconst (v := (-1 : Int32)) d_Md_word_32 (by decide) ?_
        exact b_iret (ty := .int) d_Md_word_33 rfl rfl ⟨_, _, rfl, rfl, H⟩
theorem C_Md_word {S : XS} {Q : Int32 → St → Prop} (σ : St) (x1 : Int32) (H : BW S m_Md_word 0 [some (.ref 153), some (.int x1), none] [] (enc σ) (qI Q)) : CM S m_Md_word [.ref 153, .int x1] (enc σ) (qI Q) := b_meth (by decide) (Nat.le_of_ble_eq_true rfl) rfl H
theorem d_Md_clear_0 : decode m_Md_clear.2.1 0 = .ok (.aload_n 0, 1) := by decide +kernel
theorem d_Md_clear_1 : decode m_Md_clear.2.1 1 = .ok (.getfield 17, 3) := by decide +kernel
theorem d_Md_clear_4 : decode m_Md_clear.2.1 4 = .ok (.istore_n 1, 1) := by decide +kernel
theorem d_Md_clear_5 : decode m_Md_clear.2.1 5 = .ok (.aload_n 0, 1) := by decide +kernel
theorem d_Md_clear_6 : decode m_Md_clear.2.1 6 = .ok (.iconst 0, 1) := by decide +kernel
theorem d_Md_clear_7 : decode m_Md_clear.2.1 7 = .ok (.putfield 17, 3) := by decide +kernel
theorem d_Md_clear_10 : decode m_Md_clear.2.1 10 = .ok (.iload_n 1, 1) := by decide +kernel
theorem d_Md_clear_11 : decode m_Md_clear.2.1 11 = .ok (.ireturn, 1) := by decide +kernel
set_option maxHeartbeats 4000000 in
set_option maxRecDepth 100000 in
theorem B_Md_clear_0 {S : XS} {Q : Int32 → St → Prop} (σ : St)  (H : Q (gY σ 1) (sY σ 1 (0 : Int32))) : BW S m_Md_clear 0 [some (.ref 153), none] [] (enc σ) (qI Q) := by
  refine b_aload_n d_Md_clear_0 rfl rfl ?_
  refine b_getf (v := .int (gY σ 1)) d_Md_clear_1 fl_Md_17 (eg_153 σ) rfl ?_
  refine b_istore_n (ls' := [some (.ref 153), some (.int (gY σ 1))]) d_Md_clear_4 rfl (Nat.le_of_ble_eq_true rfl) rfl ?_
  refine b_aload_n d_Md_clear_5 rfl rfl ?_
  refine b_iconst (v := (0 : Int32)) d_Md_clear_6 (by decide) ?_
  refine b_putf (ty := .int) (h1 := enc (sY σ 1 (0 : Int32))) d_Md_clear_7 fl_Md_17 ft_12_2 (fun _ => ⟨rfl, rfl⟩) (eg_153 σ) (Nat.le_of_ble_eq_true rfl) (es_153_2 σ (0 : Int32)) ?_
  refine b_iload_n d_Md_clear_10 rfl rfl ?_
  exact b_iret (ty := .int) d_Md_clear_11 rfl rfl ⟨_, _, rfl, rfl, H⟩
theorem C_Md_clear {S : XS} {Q : Int32 → St → Prop} (σ : St)  (H : BW S m_Md_clear 0 [some (.ref 153), none] [] (enc σ) (qI Q)) : CM S m_Md_clear [.ref 153] (enc σ) (qI Q) := b_meth (by decide) (Nat.le_of_ble_eq_true rfl) rfl H
theorem d_Md_page_0 : decode m_Md_page.2.1 0 = .ok (.iload_n 1, 1) := by decide +kernel
theorem d_Md_page_1 : decode m_Md_page.2.1 1 = .ok (.bipush 10, 2) := by decide +kernel
theorem d_Md_page_3 : decode m_Md_page.2.1 3 = .ok (.bipush 60, 2) := by decide +kernel
theorem d_Md_page_5 : decode m_Md_page.2.1 5 = .ok (.invokestatic 174, 3) := by decide +kernel
theorem d_Md_page_8 : decode m_Md_page.2.1 8 = .ok (.ifCond .eq 34, 3) := by decide +kernel
theorem d_Md_page_11 : decode m_Md_page.2.1 11 = .ok (.iload_n 2, 1) := by decide +kernel
theorem d_Md_page_12 : decode m_Md_page.2.1 12 = .ok (.iconst 5, 1) := by decide +kernel
theorem d_Md_page_13 : decode m_Md_page.2.1 13 = .ok (.bipush 40, 2) := by decide +kernel
theorem d_Md_page_15 : decode m_Md_page.2.1 15 = .ok (.invokestatic 174, 3) := by decide +kernel
theorem d_Md_page_18 : decode m_Md_page.2.1 18 = .ok (.ifCond .eq 24, 3) := by decide +kernel
theorem d_Md_page_21 : decode m_Md_page.2.1 21 = .ok (.iload_n 3, 1) := by decide +kernel
theorem d_Md_page_22 : decode m_Md_page.2.1 22 = .ok (.iconst 0, 1) := by decide +kernel
theorem d_Md_page_23 : decode m_Md_page.2.1 23 = .ok (.ldc 173, 2) := by decide +kernel
theorem d_Md_page_25 : decode m_Md_page.2.1 25 = .ok (.invokestatic 174, 3) := by decide +kernel
theorem d_Md_page_28 : decode m_Md_page.2.1 28 = .ok (.ifCond .eq 14, 3) := by decide +kernel
theorem d_Md_page_31 : decode m_Md_page.2.1 31 = .ok (.iload 4, 2) := by decide +kernel
theorem d_Md_page_33 : decode m_Md_page.2.1 33 = .ok (.iconst 0, 1) := by decide +kernel
theorem d_Md_page_34 : decode m_Md_page.2.1 34 = .ok (.ldc 173, 2) := by decide +kernel
theorem d_Md_page_36 : decode m_Md_page.2.1 36 = .ok (.invokestatic 174, 3) := by decide +kernel
theorem d_Md_page_39 : decode m_Md_page.2.1 39 = .ok (.ifCond .ne 5, 3) := by decide +kernel
theorem d_Md_page_42 : decode m_Md_page.2.1 42 = .ok (.iconst 0, 1) := by decide +kernel
theorem d_Md_page_43 : decode m_Md_page.2.1 43 = .ok (.ireturn, 1) := by decide +kernel
theorem d_Md_page_44 : decode m_Md_page.2.1 44 = .ok (.aload_n 0, 1) := by decide +kernel
theorem d_Md_page_45 : decode m_Md_page.2.1 45 = .ok (.iload_n 1, 1) := by decide +kernel
theorem d_Md_page_46 : decode m_Md_page.2.1 46 = .ok (.putfield 29, 3) := by decide +kernel
theorem d_Md_page_49 : decode m_Md_page.2.1 49 = .ok (.aload_n 0, 1) := by decide +kernel
theorem d_Md_page_50 : decode m_Md_page.2.1 50 = .ok (.iload_n 2, 1) := by decide +kernel
theorem d_Md_page_51 : decode m_Md_page.2.1 51 = .ok (.putfield 32, 3) := by decide +kernel
theorem d_Md_page_54 : decode m_Md_page.2.1 54 = .ok (.aload_n 0, 1) := by decide +kernel
theorem d_Md_page_55 : decode m_Md_page.2.1 55 = .ok (.iload_n 3, 1) := by decide +kernel
theorem d_Md_page_56 : decode m_Md_page.2.1 56 = .ok (.putfield 35, 3) := by decide +kernel
theorem d_Md_page_59 : decode m_Md_page.2.1 59 = .ok (.aload_n 0, 1) := by decide +kernel
theorem d_Md_page_60 : decode m_Md_page.2.1 60 = .ok (.iload 4, 2) := by decide +kernel
theorem d_Md_page_62 : decode m_Md_page.2.1 62 = .ok (.putfield 38, 3) := by decide +kernel
theorem d_Md_page_65 : decode m_Md_page.2.1 65 = .ok (.iconst 1, 1) := by decide +kernel
theorem d_Md_page_66 : decode m_Md_page.2.1 66 = .ok (.ireturn, 1) := by decide +kernel
set_option maxHeartbeats 4000000 in
set_option maxRecDepth 100000 in
theorem B_Md_page_0 {S : XS} {Q : Int32 → St → Prop} (σ : St) (x1 : Int32) (x2 : Int32) (x3 : Int32) (x4 : Int32) (H : CM S m_Md_is [.int x1, .int (10 : Int32), .int (60 : Int32)] (enc σ) (qI (fun v1 τ2 => ((v1 = 0 → Q (0 : Int32) τ2) ∧ (¬ v1 = 0 → CM S m_Md_is [.int x2, .int (5 : Int32), .int (40 : Int32)] (enc τ2) (qI (fun v3 τ4 => ((v3 = 0 → Q (0 : Int32) τ4) ∧ (¬ v3 = 0 → CM S m_Md_is [.int x3, .int (0 : Int32), .int (100000 : Int32)] (enc τ4) (qI (fun v5 τ6 => ((v5 = 0 → Q (0 : Int32) τ6) ∧ (¬ v5 = 0 → CM S m_Md_is [.int x4, .int (0 : Int32), .int (100000 : Int32)] (enc τ6) (qI (fun v7 τ8 => ((¬ v7 = 0 → Q (1 : Int32) (sY (sY (sY (sY τ8 2 x1) 3 x2) 4 x3) 5 x4)) ∧ (v7 = 0 → Q (0 : Int32) τ8))))))))))))))))) : BW S m_Md_page 0 [some (.ref 153), some (.int x1), some (.int x2), some (.int x3), some (.int x4)] [] (enc σ) (qI Q) := by
  refine b_iload_n d_Md_page_0 rfl rfl ?_
  refine b_bipush (v := (10 : Int32)) d_Md_page_1 (by decide) ?_
  refine b_bipush (v := (60 : Int32)) d_Md_page_3 (by decide) ?_
  refine b_callSi (Mc := m_Md_is) (As := [.int x1, .int (10 : Int32), .int (60 : Int32)]) (st := []) d_Md_page_5 ⟨⟨kA_Md_is.1, kA_Md_is.2.1, kA_Md_is.2.2, by decide⟩, ml_Md_174, kS_Md_is⟩ rfl rfl (Nat.le_of_ble_eq_true rfl) H (fun v1 τ2 H => ?_)
  refine b_if_eq (tgt := 42) d_Md_page_8 (by decide) (fun c12 => ?_) (fun c12 => ?_)
  · have H := H.1 c12
    refine b_iconst (v := (0 : Int32)) d_Md_page_42 (by decide) ?_
    exact b_iret (ty := .boolean) d_Md_page_43 rfl rfl ⟨_, _, rfl, rfl, H⟩
  · have H := H.2 c12
    refine b_iload_n d_Md_page_11 rfl rfl ?_
    refine b_iconst (v := (5 : Int32)) d_Md_page_12 (by decide) ?_
    refine b_bipush (v := (40 : Int32)) d_Md_page_13 (by decide) ?_
    refine b_callSi (Mc := m_Md_is) (As := [.int x2, .int (5 : Int32), .int (40 : Int32)]) (st := []) d_Md_page_15 ⟨⟨kA_Md_is.1, kA_Md_is.2.1, kA_Md_is.2.2, by decide⟩, ml_Md_174, kS_Md_is⟩ rfl rfl (Nat.le_of_ble_eq_true rfl) H (fun v3 τ4 H => ?_)
    refine b_if_eq (tgt := 42) d_Md_page_18 (by decide) (fun c11 => ?_) (fun c11 => ?_)
    · have H := H.1 c11
      refine b_iconst (v := (0 : Int32)) d_Md_page_42 (by decide) ?_
      exact b_iret (ty := .boolean) d_Md_page_43 rfl rfl ⟨_, _, rfl, rfl, H⟩
    · have H := H.2 c11
      refine b_iload_n d_Md_page_21 rfl rfl ?_
      refine b_iconst (v := (0 : Int32)) d_Md_page_22 (by decide) ?_
      refine b_ldc (v := (100000 : Int32)) d_Md_page_23 cn_Md_173 ?_
      refine b_callSi (Mc := m_Md_is) (As := [.int x3, .int (0 : Int32), .int (100000 : Int32)]) (st := []) d_Md_page_25 ⟨⟨kA_Md_is.1, kA_Md_is.2.1, kA_Md_is.2.2, by decide⟩, ml_Md_174, kS_Md_is⟩ rfl rfl (Nat.le_of_ble_eq_true rfl) H (fun v5 τ6 H => ?_)
      refine b_if_eq (tgt := 42) d_Md_page_28 (by decide) (fun c10 => ?_) (fun c10 => ?_)
      · have H := H.1 c10
        refine b_iconst (v := (0 : Int32)) d_Md_page_42 (by decide) ?_
        exact b_iret (ty := .boolean) d_Md_page_43 rfl rfl ⟨_, _, rfl, rfl, H⟩
      · have H := H.2 c10
        refine b_iload d_Md_page_31 rfl ?_
        refine b_iconst (v := (0 : Int32)) d_Md_page_33 (by decide) ?_
        refine b_ldc (v := (100000 : Int32)) d_Md_page_34 cn_Md_173 ?_
        refine b_callSi (Mc := m_Md_is) (As := [.int x4, .int (0 : Int32), .int (100000 : Int32)]) (st := []) d_Md_page_36 ⟨⟨kA_Md_is.1, kA_Md_is.2.1, kA_Md_is.2.2, by decide⟩, ml_Md_174, kS_Md_is⟩ rfl rfl (Nat.le_of_ble_eq_true rfl) H (fun v7 τ8 H => ?_)
        refine b_if_ne (tgt := 44) d_Md_page_39 (by decide) (fun c9 => ?_) (fun c9 => ?_)
        · have H := H.1 c9
          refine b_aload_n d_Md_page_44 rfl rfl ?_
          refine b_iload_n d_Md_page_45 rfl rfl ?_
          refine b_putf (ty := .int) (h1 := enc (sY τ8 2 x1)) d_Md_page_46 fl_Md_29 ft_12_6 (fun _ => ⟨rfl, rfl⟩) (eg_153 τ8) (Nat.le_of_ble_eq_true rfl) (es_153_6 τ8 x1) ?_
          refine b_aload_n d_Md_page_49 rfl rfl ?_
          refine b_iload_n d_Md_page_50 rfl rfl ?_
          refine b_putf (ty := .int) (h1 := enc (sY (sY τ8 2 x1) 3 x2)) d_Md_page_51 fl_Md_32 ft_12_7 (fun _ => ⟨rfl, rfl⟩) (eg_153 (sY τ8 2 x1)) (Nat.le_of_ble_eq_true rfl) (es_153_7 (sY τ8 2 x1) x2) ?_
          refine b_aload_n d_Md_page_54 rfl rfl ?_
          refine b_iload_n d_Md_page_55 rfl rfl ?_
          refine b_putf (ty := .int) (h1 := enc (sY (sY (sY τ8 2 x1) 3 x2) 4 x3)) d_Md_page_56 fl_Md_35 ft_12_8 (fun _ => ⟨rfl, rfl⟩) (eg_153 (sY (sY τ8 2 x1) 3 x2)) (Nat.le_of_ble_eq_true rfl) (es_153_8 (sY (sY τ8 2 x1) 3 x2) x3) ?_
          refine b_aload_n d_Md_page_59 rfl rfl ?_
          refine b_iload d_Md_page_60 rfl ?_
          refine b_putf (ty := .int) (h1 := enc (sY (sY (sY (sY τ8 2 x1) 3 x2) 4 x3) 5 x4)) d_Md_page_62 fl_Md_38 ft_12_9 (fun _ => ⟨rfl, rfl⟩) (eg_153 (sY (sY (sY τ8 2 x1) 3 x2) 4 x3)) (Nat.le_of_ble_eq_true rfl) (es_153_9 (sY (sY (sY τ8 2 x1) 3 x2) 4 x3) x4) ?_
          refine b_iconst (v := (1 : Int32)) d_Md_page_65 (by decide) ?_
          exact b_iret (ty := .boolean) d_Md_page_66 rfl rfl ⟨_, _, rfl, rfl, H⟩
        · have H := H.2 c9
          refine b_iconst (v := (0 : Int32)) d_Md_page_42 (by decide) ?_
          exact b_iret (ty := .boolean) d_Md_page_43 rfl rfl ⟨_, _, rfl, rfl, H⟩
theorem C_Md_page {S : XS} {Q : Int32 → St → Prop} (σ : St) (x1 : Int32) (x2 : Int32) (x3 : Int32) (x4 : Int32) (H : BW S m_Md_page 0 [some (.ref 153), some (.int x1), some (.int x2), some (.int x3), some (.int x4)] [] (enc σ) (qI Q)) : CM S m_Md_page [.ref 153, .int x1, .int x2, .int x3, .int x4] (enc σ) (qI Q) := b_meth (by decide) (Nat.le_of_ble_eq_true rfl) rfl H
theorem d_Md_cost_0 : decode m_Md_cost.2.1 0 = .ok (.iload_n 3, 1) := by decide +kernel
theorem d_Md_cost_1 : decode m_Md_cost.2.1 1 = .ok (.iload_n 2, 1) := by decide +kernel
theorem d_Md_cost_2 : decode m_Md_cost.2.1 2 = .ok (.isub, 1) := by decide +kernel
theorem d_Md_cost_3 : decode m_Md_cost.2.1 3 = .ok (.iconst 1, 1) := by decide +kernel
theorem d_Md_cost_4 : decode m_Md_cost.2.1 4 = .ok (.isub, 1) := by decide +kernel
theorem d_Md_cost_5 : decode m_Md_cost.2.1 5 = .ok (.istore 4, 2) := by decide +kernel
theorem d_Md_cost_7 : decode m_Md_cost.2.1 7 = .ok (.iload_n 2, 1) := by decide +kernel
theorem d_Md_cost_8 : decode m_Md_cost.2.1 8 = .ok (.istore 5, 2) := by decide +kernel
theorem d_Md_cost_10 : decode m_Md_cost.2.1 10 = .ok (.iload 5, 2) := by decide +kernel
theorem d_Md_cost_12 : decode m_Md_cost.2.1 12 = .ok (.iload_n 3, 1) := by decide +kernel
theorem d_Md_cost_13 : decode m_Md_cost.2.1 13 = .ok (.if_icmp .ge 26, 3) := by decide +kernel
theorem d_Md_cost_16 : decode m_Md_cost.2.1 16 = .ok (.iload 4, 2) := by decide +kernel
theorem d_Md_cost_18 : decode m_Md_cost.2.1 18 = .ok (.aload_n 0, 1) := by decide +kernel
theorem d_Md_cost_19 : decode m_Md_cost.2.1 19 = .ok (.getfield 26, 3) := by decide +kernel
theorem d_Md_cost_22 : decode m_Md_cost.2.1 22 = .ok (.bipush 30, 2) := by decide +kernel
theorem d_Md_cost_24 : decode m_Md_cost.2.1 24 = .ok (.iload_n 1, 1) := by decide +kernel
theorem d_Md_cost_25 : decode m_Md_cost.2.1 25 = .ok (.imul, 1) := by decide +kernel
theorem d_Md_cost_26 : decode m_Md_cost.2.1 26 = .ok (.iload 5, 2) := by decide +kernel
theorem d_Md_cost_28 : decode m_Md_cost.2.1 28 = .ok (.iadd, 1) := by decide +kernel
theorem d_Md_cost_29 : decode m_Md_cost.2.1 29 = .ok (.iaload, 1) := by decide +kernel
theorem d_Md_cost_30 : decode m_Md_cost.2.1 30 = .ok (.iadd, 1) := by decide +kernel
theorem d_Md_cost_31 : decode m_Md_cost.2.1 31 = .ok (.istore 4, 2) := by decide +kernel
theorem d_Md_cost_33 : decode m_Md_cost.2.1 33 = .ok (.iinc 5 1, 3) := by decide +kernel
theorem d_Md_cost_36 : decode m_Md_cost.2.1 36 = .ok (.goto (-26), 3) := by decide +kernel
theorem d_Md_cost_39 : decode m_Md_cost.2.1 39 = .ok (.iload 4, 2) := by decide +kernel
theorem d_Md_cost_41 : decode m_Md_cost.2.1 41 = .ok (.aload_n 0, 1) := by decide +kernel
theorem d_Md_cost_42 : decode m_Md_cost.2.1 42 = .ok (.getfield 29, 3) := by decide +kernel
theorem d_Md_cost_45 : decode m_Md_cost.2.1 45 = .ok (.if_icmp .le 6, 3) := by decide +kernel
theorem d_Md_cost_48 : decode m_Md_cost.2.1 48 = .ok (.ldc 178, 2) := by decide +kernel
theorem d_Md_cost_50 : decode m_Md_cost.2.1 50 = .ok (.ireturn, 1) := by decide +kernel
theorem d_Md_cost_51 : decode m_Md_cost.2.1 51 = .ok (.iload_n 3, 1) := by decide +kernel
theorem d_Md_cost_52 : decode m_Md_cost.2.1 52 = .ok (.aload_n 0, 1) := by decide +kernel
theorem d_Md_cost_53 : decode m_Md_cost.2.1 53 = .ok (.getfield 23, 3) := by decide +kernel
theorem d_Md_cost_56 : decode m_Md_cost.2.1 56 = .ok (.iload_n 1, 1) := by decide +kernel
theorem d_Md_cost_57 : decode m_Md_cost.2.1 57 = .ok (.iaload, 1) := by decide +kernel
theorem d_Md_cost_58 : decode m_Md_cost.2.1 58 = .ok (.if_icmp .ne 7, 3) := by decide +kernel
theorem d_Md_cost_61 : decode m_Md_cost.2.1 61 = .ok (.iconst 0, 1) := by decide +kernel
theorem d_Md_cost_62 : decode m_Md_cost.2.1 62 = .ok (.goto 18, 3) := by decide +kernel
theorem d_Md_cost_65 : decode m_Md_cost.2.1 65 = .ok (.aload_n 0, 1) := by decide +kernel
theorem d_Md_cost_66 : decode m_Md_cost.2.1 66 = .ok (.getfield 29, 3) := by decide +kernel
theorem d_Md_cost_69 : decode m_Md_cost.2.1 69 = .ok (.iload 4, 2) := by decide +kernel
theorem d_Md_cost_71 : decode m_Md_cost.2.1 71 = .ok (.isub, 1) := by decide +kernel
theorem d_Md_cost_72 : decode m_Md_cost.2.1 72 = .ok (.aload_n 0, 1) := by decide +kernel
theorem d_Md_cost_73 : decode m_Md_cost.2.1 73 = .ok (.getfield 29, 3) := by decide +kernel
theorem d_Md_cost_76 : decode m_Md_cost.2.1 76 = .ok (.iload 4, 2) := by decide +kernel
theorem d_Md_cost_78 : decode m_Md_cost.2.1 78 = .ok (.isub, 1) := by decide +kernel
theorem d_Md_cost_79 : decode m_Md_cost.2.1 79 = .ok (.imul, 1) := by decide +kernel
theorem d_Md_cost_80 : decode m_Md_cost.2.1 80 = .ok (.ireturn, 1) := by decide +kernel
set_option maxHeartbeats 4000000 in
set_option maxRecDepth 100000 in
theorem B_Md_cost_0 {S : XS} {Q : Int32 → St → Prop} (σ : St) (x1 : Int32) (x2 : Int32) (x3 : Int32) (H : BW S m_Md_cost 10 [some (.ref 153), some (.int x1), none, some (.int x3), some (.int ((x3 - x2) - (1 : Int32))), some (.int x2)] [] (enc σ) (qI Q)) : BW S m_Md_cost 0 [some (.ref 153), some (.int x1), some (.int x2), some (.int x3), none, none] [] (enc σ) (qI Q) := by
  refine b_iload_n d_Md_cost_0 rfl rfl ?_
  refine b_iload_n d_Md_cost_1 rfl rfl ?_
  refine b_isub d_Md_cost_2  ?_
  refine b_iconst (v := (1 : Int32)) d_Md_cost_3 (by decide) ?_
  refine b_isub d_Md_cost_4  ?_
  refine b_istore (ls' := [some (.ref 153), some (.int x1), some (.int x2), some (.int x3), some (.int ((x3 - x2) - (1 : Int32))), none]) d_Md_cost_5 (Nat.le_of_ble_eq_true rfl) rfl ?_
  refine b_iload_n d_Md_cost_7 rfl rfl ?_
  refine b_istore (ls' := [some (.ref 153), some (.int x1), some (.int x2), some (.int x3), some (.int ((x3 - x2) - (1 : Int32))), some (.int x2)]) d_Md_cost_8 (Nat.le_of_ble_eq_true rfl) rfl ?_
  exact b_mask [true, true, false, true, true, true] rfl H
set_option maxHeartbeats 4000000 in
set_option maxRecDepth 100000 in
theorem B_Md_cost_10 {S : XS} {Q : Int32 → St → Prop} (σ : St) (x1 : Int32) (x3 : Int32) (x4 : Int32) (x5 : Int32) (H : ((x3 ≤ x5 → ((x4 ≤ (gY σ 2) → (vp_in x1 20) ∧ ((¬ x3 = ((gC σ 2) x1.toNatClampNeg) → Q (((gY σ 2) - x4) * ((gY σ 2) - x4)) σ) ∧ (x3 = ((gC σ 2) x1.toNatClampNeg) → Q (0 : Int32) σ))) ∧ (¬ x4 ≤ (gY σ 2) → Q (1000000000 : Int32) σ))) ∧ (¬ x3 ≤ x5 → (vp_in (((30 : Int32) * x1) + x5) 600) ∧ BW S m_Md_cost 10 [some (.ref 153), some (.int x1), none, some (.int x3), some (.int (x4 + ((gC σ 3) (((30 : Int32) * x1) + x5).toNatClampNeg))), some (.int (x5 + (1 : Int32)))] [] (enc σ) (qI Q)))) : BW S m_Md_cost 10 [some (.ref 153), some (.int x1), none, some (.int x3), some (.int x4), some (.int x5)] [] (enc σ) (qI Q) := by
  refine b_iload d_Md_cost_10 rfl ?_
  refine b_iload_n d_Md_cost_12 rfl rfl ?_
  refine b_icmp_ge (tgt := 39) d_Md_cost_13 (by decide) (fun c5 => ?_) (fun c5 => ?_)
  · have H := H.1 c5
    refine b_iload d_Md_cost_39 rfl ?_
    refine b_aload_n d_Md_cost_41 rfl rfl ?_
    refine b_getf (v := .int (gY σ 2)) d_Md_cost_42 fl_Md_29 (eg_153 σ) rfl ?_
    refine b_icmp_le (tgt := 51) d_Md_cost_45 (by decide) (fun c3 => ?_) (fun c3 => ?_)
    · have H := H.1 c3
      refine b_iload_n d_Md_cost_51 rfl rfl ?_
      refine b_aload_n d_Md_cost_52 rfl rfl ?_
      refine b_getf (v := .ref 156) d_Md_cost_53 fl_Md_23 (eg_153 σ) rfl ?_
      refine b_iload_n d_Md_cost_56 rfl rfl ?_
      obtain ⟨h1, H⟩ := H
      refine b_iald d_Md_cost_57 (eg_156 σ) h1 ?_
      refine b_st2 (st' := [.int ((gC σ 2) x1.toNatClampNeg), .int x3]) rfl ?_
      refine b_icmp_ne (tgt := 65) d_Md_cost_58 (by decide) (fun c2 => ?_) (fun c2 => ?_)
      · have H := H.1 c2
        refine b_aload_n d_Md_cost_65 rfl rfl ?_
        refine b_getf (v := .int (gY σ 2)) d_Md_cost_66 fl_Md_29 (eg_153 σ) rfl ?_
        refine b_iload d_Md_cost_69 rfl ?_
        refine b_isub d_Md_cost_71  ?_
        refine b_aload_n d_Md_cost_72 rfl rfl ?_
        refine b_getf (v := .int (gY σ 2)) d_Md_cost_73 fl_Md_29 (eg_153 σ) rfl ?_
        refine b_iload d_Md_cost_76 rfl ?_
        refine b_isub d_Md_cost_78  ?_
        refine b_imul d_Md_cost_79  ?_
        exact b_iret (ty := .int) d_Md_cost_80 rfl rfl ⟨_, _, rfl, rfl, H⟩
      · have H := H.2 c2
        refine b_iconst (v := (0 : Int32)) d_Md_cost_61 (by decide) ?_
        refine b_goto (tgt := 80) d_Md_cost_62 (by decide) ?_
        exact b_iret (ty := .int) d_Md_cost_80 rfl rfl ⟨_, _, rfl, rfl, H⟩
    · have H := H.2 c3
      refine b_ldc (v := (1000000000 : Int32)) d_Md_cost_48 cn_Md_178 ?_
      exact b_iret (ty := .int) d_Md_cost_50 rfl rfl ⟨_, _, rfl, rfl, H⟩
  · have H := H.2 c5
    refine b_iload d_Md_cost_16 rfl ?_
    refine b_aload_n d_Md_cost_18 rfl rfl ?_
    refine b_getf (v := .ref 157) d_Md_cost_19 fl_Md_26 (eg_153 σ) rfl ?_
    refine b_bipush (v := (30 : Int32)) d_Md_cost_22 (by decide) ?_
    refine b_iload_n d_Md_cost_24 rfl rfl ?_
    refine b_imul d_Md_cost_25  ?_
    refine b_iload d_Md_cost_26 rfl ?_
    refine b_iadd d_Md_cost_28  ?_
    obtain ⟨h4, H⟩ := H
    refine b_iald d_Md_cost_29 (eg_157 σ) h4 ?_
    refine b_st2 (st' := [.int ((gC σ 3) (((30 : Int32) * x1) + x5).toNatClampNeg), .int x4]) rfl ?_
    refine b_iadd d_Md_cost_30  ?_
    refine b_istore (ls' := [some (.ref 153), some (.int x1), none, some (.int x3), some (.int (x4 + ((gC σ 3) (((30 : Int32) * x1) + x5).toNatClampNeg))), some (.int x5)]) d_Md_cost_31 (Nat.le_of_ble_eq_true rfl) rfl ?_
    refine b_iinc (v := (x5 + (1 : Int32))) (ls' := [some (.ref 153), some (.int x1), none, some (.int x3), some (.int (x4 + ((gC σ 3) (((30 : Int32) * x1) + x5).toNatClampNeg))), some (.int (x5 + (1 : Int32)))]) d_Md_cost_33 rfl rfl (Nat.le_of_ble_eq_true rfl) rfl ?_
    refine b_goto (tgt := 10) d_Md_cost_36 (by decide) ?_
    exact b_mask [true, true, true, true, true, true] rfl H
theorem C_Md_cost {S : XS} {Q : Int32 → St → Prop} (σ : St) (x1 : Int32) (x2 : Int32) (x3 : Int32) (H : BW S m_Md_cost 0 [some (.ref 153), some (.int x1), some (.int x2), some (.int x3), none, none] [] (enc σ) (qI Q)) : CM S m_Md_cost [.ref 153, .int x1, .int x2, .int x3] (enc σ) (qI Q) := b_meth (by decide) (Nat.le_of_ble_eq_true rfl) rfl H
theorem d_Md_breaks_0 : decode m_Md_breaks.2.1 0 = .ok (.aload_n 0, 1) := by decide +kernel
theorem d_Md_breaks_1 : decode m_Md_breaks.2.1 1 = .ok (.getfield 23, 3) := by decide +kernel
theorem d_Md_breaks_4 : decode m_Md_breaks.2.1 4 = .ok (.iload_n 1, 1) := by decide +kernel
theorem d_Md_breaks_5 : decode m_Md_breaks.2.1 5 = .ok (.iaload, 1) := by decide +kernel
theorem d_Md_breaks_6 : decode m_Md_breaks.2.1 6 = .ok (.istore_n 2, 1) := by decide +kernel
theorem d_Md_breaks_7 : decode m_Md_breaks.2.1 7 = .ok (.iload_n 2, 1) := by decide +kernel
theorem d_Md_breaks_8 : decode m_Md_breaks.2.1 8 = .ok (.istore_n 3, 1) := by decide +kernel
theorem d_Md_breaks_9 : decode m_Md_breaks.2.1 9 = .ok (.iload_n 3, 1) := by decide +kernel
theorem d_Md_breaks_10 : decode m_Md_breaks.2.1 10 = .ok (.ifCond .lt 136, 3) := by decide +kernel
theorem d_Md_breaks_13 : decode m_Md_breaks.2.1 13 = .ok (.iconst 0, 1) := by decide +kernel
theorem d_Md_breaks_14 : decode m_Md_breaks.2.1 14 = .ok (.istore 4, 2) := by decide +kernel
theorem d_Md_breaks_16 : decode m_Md_breaks.2.1 16 = .ok (.iload 4, 2) := by decide +kernel
theorem d_Md_breaks_18 : decode m_Md_breaks.2.1 18 = .ok (.iload_n 2, 1) := by decide +kernel
theorem d_Md_breaks_19 : decode m_Md_breaks.2.1 19 = .ok (.if_icmp .gt 121, 3) := by decide +kernel
theorem d_Md_breaks_22 : decode m_Md_breaks.2.1 22 = .ok (.iload_n 3, 1) := by decide +kernel
theorem d_Md_breaks_23 : decode m_Md_breaks.2.1 23 = .ok (.iload_n 2, 1) := by decide +kernel
theorem d_Md_breaks_24 : decode m_Md_breaks.2.1 24 = .ok (.if_icmp .ne 12, 3) := by decide +kernel
theorem d_Md_breaks_27 : decode m_Md_breaks.2.1 27 = .ok (.iload 4, 2) := by decide +kernel
theorem d_Md_breaks_29 : decode m_Md_breaks.2.1 29 = .ok (.ifCond .ne 7, 3) := by decide +kernel
theorem d_Md_breaks_32 : decode m_Md_breaks.2.1 32 = .ok (.iconst 0, 1) := by decide +kernel
theorem d_Md_breaks_33 : decode m_Md_breaks.2.1 33 = .ok (.goto 5, 3) := by decide +kernel
theorem d_Md_breaks_36 : decode m_Md_breaks.2.1 36 = .ok (.ldc 178, 2) := by decide +kernel
theorem d_Md_breaks_38 : decode m_Md_breaks.2.1 38 = .ok (.istore 5, 2) := by decide +kernel
theorem d_Md_breaks_40 : decode m_Md_breaks.2.1 40 = .ok (.iload_n 3, 1) := by decide +kernel
theorem d_Md_breaks_41 : decode m_Md_breaks.2.1 41 = .ok (.iconst 1, 1) := by decide +kernel
theorem d_Md_breaks_42 : decode m_Md_breaks.2.1 42 = .ok (.iadd, 1) := by decide +kernel
theorem d_Md_breaks_43 : decode m_Md_breaks.2.1 43 = .ok (.istore 6, 2) := by decide +kernel
theorem d_Md_breaks_45 : decode m_Md_breaks.2.1 45 = .ok (.iload 6, 2) := by decide +kernel
theorem d_Md_breaks_47 : decode m_Md_breaks.2.1 47 = .ok (.iload_n 2, 1) := by decide +kernel
theorem d_Md_breaks_48 : decode m_Md_breaks.2.1 48 = .ok (.if_icmp .gt 72, 3) := by decide +kernel
theorem d_Md_breaks_51 : decode m_Md_breaks.2.1 51 = .ok (.iload 4, 2) := by decide +kernel
theorem d_Md_breaks_53 : decode m_Md_breaks.2.1 53 = .ok (.ifCond .le 67, 3) := by decide +kernel
theorem d_Md_breaks_56 : decode m_Md_breaks.2.1 56 = .ok (.aload_n 0, 1) := by decide +kernel
theorem d_Md_breaks_57 : decode m_Md_breaks.2.1 57 = .ok (.iload_n 1, 1) := by decide +kernel
theorem d_Md_breaks_58 : decode m_Md_breaks.2.1 58 = .ok (.iload_n 3, 1) := by decide +kernel
theorem d_Md_breaks_59 : decode m_Md_breaks.2.1 59 = .ok (.iload 6, 2) := by decide +kernel
theorem d_Md_breaks_61 : decode m_Md_breaks.2.1 61 = .ok (.invokevirtual 179, 3) := by decide +kernel
theorem d_Md_breaks_64 : decode m_Md_breaks.2.1 64 = .ok (.istore 7, 2) := by decide +kernel
theorem d_Md_breaks_66 : decode m_Md_breaks.2.1 66 = .ok (.aload_n 0, 1) := by decide +kernel
theorem d_Md_breaks_67 : decode m_Md_breaks.2.1 67 = .ok (.getfield 41, 3) := by decide +kernel
theorem d_Md_breaks_70 : decode m_Md_breaks.2.1 70 = .ok (.bipush 31, 2) := by decide +kernel
theorem d_Md_breaks_72 : decode m_Md_breaks.2.1 72 = .ok (.iload 6, 2) := by decide +kernel
theorem d_Md_breaks_74 : decode m_Md_breaks.2.1 74 = .ok (.imul, 1) := by decide +kernel
theorem d_Md_breaks_75 : decode m_Md_breaks.2.1 75 = .ok (.iload 4, 2) := by decide +kernel
theorem d_Md_breaks_77 : decode m_Md_breaks.2.1 77 = .ok (.iadd, 1) := by decide +kernel
theorem d_Md_breaks_78 : decode m_Md_breaks.2.1 78 = .ok (.iconst 1, 1) := by decide +kernel
theorem d_Md_breaks_79 : decode m_Md_breaks.2.1 79 = .ok (.isub, 1) := by decide +kernel
theorem d_Md_breaks_80 : decode m_Md_breaks.2.1 80 = .ok (.iaload, 1) := by decide +kernel
theorem d_Md_breaks_81 : decode m_Md_breaks.2.1 81 = .ok (.istore 8, 2) := by decide +kernel
theorem d_Md_breaks_83 : decode m_Md_breaks.2.1 83 = .ok (.iload 7, 2) := by decide +kernel
theorem d_Md_breaks_85 : decode m_Md_breaks.2.1 85 = .ok (.ldc 178, 2) := by decide +kernel
theorem d_Md_breaks_87 : decode m_Md_breaks.2.1 87 = .ok (.if_icmp .ge 27, 3) := by decide +kernel
theorem d_Md_breaks_90 : decode m_Md_breaks.2.1 90 = .ok (.iload 8, 2) := by decide +kernel
theorem d_Md_breaks_92 : decode m_Md_breaks.2.1 92 = .ok (.ldc 178, 2) := by decide +kernel
theorem d_Md_breaks_94 : decode m_Md_breaks.2.1 94 = .ok (.if_icmp .ge 20, 3) := by decide +kernel
theorem d_Md_breaks_97 : decode m_Md_breaks.2.1 97 = .ok (.iload 7, 2) := by decide +kernel
theorem d_Md_breaks_99 : decode m_Md_breaks.2.1 99 = .ok (.iload 8, 2) := by decide +kernel
theorem d_Md_breaks_101 : decode m_Md_breaks.2.1 101 = .ok (.iadd, 1) := by decide +kernel
theorem d_Md_breaks_102 : decode m_Md_breaks.2.1 102 = .ok (.iload 5, 2) := by decide +kernel
theorem d_Md_breaks_104 : decode m_Md_breaks.2.1 104 = .ok (.if_icmp .ge 10, 3) := by decide +kernel
theorem d_Md_breaks_107 : decode m_Md_breaks.2.1 107 = .ok (.iload 7, 2) := by decide +kernel
theorem d_Md_breaks_109 : decode m_Md_breaks.2.1 109 = .ok (.iload 8, 2) := by decide +kernel
theorem d_Md_breaks_111 : decode m_Md_breaks.2.1 111 = .ok (.iadd, 1) := by decide +kernel
theorem d_Md_breaks_112 : decode m_Md_breaks.2.1 112 = .ok (.istore 5, 2) := by decide +kernel
theorem d_Md_breaks_114 : decode m_Md_breaks.2.1 114 = .ok (.iinc 6 1, 3) := by decide +kernel
theorem d_Md_breaks_117 : decode m_Md_breaks.2.1 117 = .ok (.goto (-72), 3) := by decide +kernel
theorem d_Md_breaks_120 : decode m_Md_breaks.2.1 120 = .ok (.aload_n 0, 1) := by decide +kernel
theorem d_Md_breaks_121 : decode m_Md_breaks.2.1 121 = .ok (.getfield 41, 3) := by decide +kernel
theorem d_Md_breaks_124 : decode m_Md_breaks.2.1 124 = .ok (.bipush 31, 2) := by decide +kernel
theorem d_Md_breaks_126 : decode m_Md_breaks.2.1 126 = .ok (.iload_n 3, 1) := by decide +kernel
theorem d_Md_breaks_127 : decode m_Md_breaks.2.1 127 = .ok (.imul, 1) := by decide +kernel
theorem d_Md_breaks_128 : decode m_Md_breaks.2.1 128 = .ok (.iload 4, 2) := by decide +kernel
theorem d_Md_breaks_130 : decode m_Md_breaks.2.1 130 = .ok (.iadd, 1) := by decide +kernel
theorem d_Md_breaks_131 : decode m_Md_breaks.2.1 131 = .ok (.iload 5, 2) := by decide +kernel
theorem d_Md_breaks_133 : decode m_Md_breaks.2.1 133 = .ok (.iastore, 1) := by decide +kernel
theorem d_Md_breaks_134 : decode m_Md_breaks.2.1 134 = .ok (.iinc 4 1, 3) := by decide +kernel
theorem d_Md_breaks_137 : decode m_Md_breaks.2.1 137 = .ok (.goto (-121), 3) := by decide +kernel
theorem d_Md_breaks_140 : decode m_Md_breaks.2.1 140 = .ok (.iinc 3 (-1), 3) := by decide +kernel
theorem d_Md_breaks_143 : decode m_Md_breaks.2.1 143 = .ok (.goto (-134), 3) := by decide +kernel
theorem d_Md_breaks_146 : decode m_Md_breaks.2.1 146 = .ok (.return_, 1) := by decide +kernel
set_option maxHeartbeats 4000000 in
set_option maxRecDepth 100000 in
theorem B_Md_breaks_0 {S : XS} {Q : St → Prop} (σ : St) (x1 : Int32) (H : (vp_in x1 20) ∧ BW S m_Md_breaks 9 [some (.ref 153), some (.int x1), some (.int ((gC σ 2) x1.toNatClampNeg)), some (.int ((gC σ 2) x1.toNatClampNeg)), none, none, none, none, none] [] (enc σ) (qV Q)) : BW S m_Md_breaks 0 [some (.ref 153), some (.int x1), none, none, none, none, none, none, none] [] (enc σ) (qV Q) := by
  refine b_aload_n d_Md_breaks_0 rfl rfl ?_
  refine b_getf (v := .ref 156) d_Md_breaks_1 fl_Md_23 (eg_153 σ) rfl ?_
  refine b_iload_n d_Md_breaks_4 rfl rfl ?_
  obtain ⟨h1, H⟩ := H
  refine b_iald d_Md_breaks_5 (eg_156 σ) h1 ?_
  refine b_st2 (st' := [.int ((gC σ 2) x1.toNatClampNeg)]) rfl ?_
  refine b_istore_n (ls' := [some (.ref 153), some (.int x1), some (.int ((gC σ 2) x1.toNatClampNeg)), none, none, none, none, none, none]) d_Md_breaks_6 rfl (Nat.le_of_ble_eq_true rfl) rfl ?_
  refine b_iload_n d_Md_breaks_7 rfl rfl ?_
  refine b_istore_n (ls' := [some (.ref 153), some (.int x1), some (.int ((gC σ 2) x1.toNatClampNeg)), some (.int ((gC σ 2) x1.toNatClampNeg)), none, none, none, none, none]) d_Md_breaks_8 rfl (Nat.le_of_ble_eq_true rfl) rfl ?_
  exact b_mask [true, true, true, true, true, true, true, true, true] rfl H
set_option maxHeartbeats 4000000 in
set_option maxRecDepth 100000 in
theorem B_Md_breaks_9 {S : XS} {Q : St → Prop} (σ : St) (x1 : Int32) (x2 : Int32) (x3 : Int32) (H : ((x3 < 0 → Q σ) ∧ (¬ x3 < 0 → BW S m_Md_breaks 16 [some (.ref 153), some (.int x1), some (.int x2), some (.int x3), some (.int (0 : Int32)), none, none, none, none] [] (enc σ) (qV Q)))) : BW S m_Md_breaks 9 [some (.ref 153), some (.int x1), some (.int x2), some (.int x3), none, none, none, none, none] [] (enc σ) (qV Q) := by
  refine b_iload_n d_Md_breaks_9 rfl rfl ?_
  refine b_if_lt (tgt := 146) d_Md_breaks_10 (by decide) (fun c2 => ?_) (fun c2 => ?_)
  · have H := H.1 c2
    exact b_vret d_Md_breaks_146 rfl ⟨_, rfl, rfl, H⟩
  · have H := H.2 c2
    refine b_iconst (v := (0 : Int32)) d_Md_breaks_13 (by decide) ?_
    refine b_istore (ls' := [some (.ref 153), some (.int x1), some (.int x2), some (.int x3), some (.int (0 : Int32)), none, none, none, none]) d_Md_breaks_14 (Nat.le_of_ble_eq_true rfl) rfl ?_
    exact b_mask [true, true, true, true, true, true, true, true, true] rfl H
set_option maxHeartbeats 4000000 in
set_option maxRecDepth 100000 in
theorem B_Md_breaks_16 {S : XS} {Q : St → Prop} (σ : St) (x1 : Int32) (x2 : Int32) (x3 : Int32) (x4 : Int32) (H : ((x2 < x4 → BW S m_Md_breaks 9 [some (.ref 153), some (.int x1), some (.int x2), some (.int (x3 + (-1 : Int32))), none, none, none, none, none] [] (enc σ) (qV Q)) ∧ (¬ x2 < x4 → ((¬ x3 = x2 → BW S m_Md_breaks 45 [some (.ref 153), some (.int x1), some (.int x2), some (.int x3), some (.int x4), some (.int (1000000000 : Int32)), some (.int (x3 + (1 : Int32))), none, none] [] (enc σ) (qV Q)) ∧ (x3 = x2 → ((¬ x4 = 0 → BW S m_Md_breaks 45 [some (.ref 153), some (.int x1), some (.int x2), some (.int x3), some (.int x4), some (.int (1000000000 : Int32)), some (.int (x3 + (1 : Int32))), none, none] [] (enc σ) (qV Q)) ∧ (x4 = 0 → BW S m_Md_breaks 45 [some (.ref 153), some (.int x1), some (.int x2), some (.int x3), some (.int x4), some (.int (0 : Int32)), some (.int (x3 + (1 : Int32))), none, none] [] (enc σ) (qV Q)))))))) : BW S m_Md_breaks 16 [some (.ref 153), some (.int x1), some (.int x2), some (.int x3), some (.int x4), none, none, none, none] [] (enc σ) (qV Q) := by
  refine b_iload d_Md_breaks_16 rfl ?_
  refine b_iload_n d_Md_breaks_18 rfl rfl ?_
  refine b_icmp_gt (tgt := 140) d_Md_breaks_19 (by decide) (fun c5 => ?_) (fun c5 => ?_)
  · have H := H.1 c5
    refine b_iinc (v := (x3 + (-1 : Int32))) (ls' := [some (.ref 153), some (.int x1), some (.int x2), some (.int (x3 + (-1 : Int32))), some (.int x4), none, none, none, none]) d_Md_breaks_140 rfl rfl (Nat.le_of_ble_eq_true rfl) rfl ?_
    refine b_goto (tgt := 9) d_Md_breaks_143 (by decide) ?_
    exact b_mask [true, true, true, true, false, true, true, true, true] rfl H
  · have H := H.2 c5
    refine b_iload_n d_Md_breaks_22 rfl rfl ?_
    refine b_iload_n d_Md_breaks_23 rfl rfl ?_
    refine b_icmp_ne (tgt := 36) d_Md_breaks_24 (by decide) (fun c4 => ?_) (fun c4 => ?_)
    · have H := H.1 c4
      refine b_ldc (v := (1000000000 : Int32)) d_Md_breaks_36 cn_Md_178 ?_
      refine b_istore (ls' := [some (.ref 153), some (.int x1), some (.int x2), some (.int x3), some (.int x4), some (.int (1000000000 : Int32)), none, none, none]) d_Md_breaks_38 (Nat.le_of_ble_eq_true rfl) rfl ?_
      refine b_iload_n d_Md_breaks_40 rfl rfl ?_
      refine b_iconst (v := (1 : Int32)) d_Md_breaks_41 (by decide) ?_
      refine b_iadd d_Md_breaks_42  ?_
      refine b_istore (ls' := [some (.ref 153), some (.int x1), some (.int x2), some (.int x3), some (.int x4), some (.int (1000000000 : Int32)), some (.int (x3 + (1 : Int32))), none, none]) d_Md_breaks_43 (Nat.le_of_ble_eq_true rfl) rfl ?_
      exact b_mask [true, true, true, true, true, true, true, true, true] rfl H
    · have H := H.2 c4
      refine b_iload d_Md_breaks_27 rfl ?_
      refine b_if_ne (tgt := 36) d_Md_breaks_29 (by decide) (fun c3 => ?_) (fun c3 => ?_)
      · have H := H.1 c3
        refine b_ldc (v := (1000000000 : Int32)) d_Md_breaks_36 cn_Md_178 ?_
        refine b_istore (ls' := [some (.ref 153), some (.int x1), some (.int x2), some (.int x3), some (.int x4), some (.int (1000000000 : Int32)), none, none, none]) d_Md_breaks_38 (Nat.le_of_ble_eq_true rfl) rfl ?_
        refine b_iload_n d_Md_breaks_40 rfl rfl ?_
        refine b_iconst (v := (1 : Int32)) d_Md_breaks_41 (by decide) ?_
        refine b_iadd d_Md_breaks_42  ?_
        refine b_istore (ls' := [some (.ref 153), some (.int x1), some (.int x2), some (.int x3), some (.int x4), some (.int (1000000000 : Int32)), some (.int (x3 + (1 : Int32))), none, none]) d_Md_breaks_43 (Nat.le_of_ble_eq_true rfl) rfl ?_
        exact b_mask [true, true, true, true, true, true, true, true, true] rfl H
      · have H := H.2 c3
        refine b_iconst (v := (0 : Int32)) d_Md_breaks_32 (by decide) ?_
        refine b_goto (tgt := 38) d_Md_breaks_33 (by decide) ?_
        refine b_istore (ls' := [some (.ref 153), some (.int x1), some (.int x2), some (.int x3), some (.int x4), some (.int (0 : Int32)), none, none, none]) d_Md_breaks_38 (Nat.le_of_ble_eq_true rfl) rfl ?_
        refine b_iload_n d_Md_breaks_40 rfl rfl ?_
        refine b_iconst (v := (1 : Int32)) d_Md_breaks_41 (by decide) ?_
        refine b_iadd d_Md_breaks_42  ?_
        refine b_istore (ls' := [some (.ref 153), some (.int x1), some (.int x2), some (.int x3), some (.int x4), some (.int (0 : Int32)), some (.int (x3 + (1 : Int32))), none, none]) d_Md_breaks_43 (Nat.le_of_ble_eq_true rfl) rfl ?_
        exact b_mask [true, true, true, true, true, true, true, true, true] rfl H
set_option maxHeartbeats 4000000 in
set_option maxRecDepth 100000 in
theorem B_Md_breaks_45 {S : XS} {Q : St → Prop} (σ : St) (x1 : Int32) (x2 : Int32) (x3 : Int32) (x4 : Int32) (x5 : Int32) (x6 : Int32) (H : ((x2 < x6 → (vp_in (((31 : Int32) * x3) + x4) 961) ∧ BW S m_Md_breaks 16 [some (.ref 153), some (.int x1), some (.int x2), some (.int x3), some (.int (x4 + (1 : Int32))), none, none, none, none] [] (enc (sC σ 4 (upd (gC σ 4) (((31 : Int32) * x3) + x4).toNatClampNeg x5))) (qV Q)) ∧ (¬ x2 < x6 → ((x4 ≤ 0 → (vp_in (((31 : Int32) * x3) + x4) 961) ∧ BW S m_Md_breaks 16 [some (.ref 153), some (.int x1), some (.int x2), some (.int x3), some (.int (x4 + (1 : Int32))), none, none, none, none] [] (enc (sC σ 4 (upd (gC σ 4) (((31 : Int32) * x3) + x4).toNatClampNeg x5))) (qV Q)) ∧ (¬ x4 ≤ 0 → CM S m_Md_cost [.ref 153, .int x1, .int x3, .int x6] (enc σ) (qI (fun v8 τ9 => (vp_in ((((31 : Int32) * x6) + x4) - (1 : Int32)) 961) ∧ (((1000000000 : Int32) ≤ v8 → BW S m_Md_breaks 45 [some (.ref 153), some (.int x1), some (.int x2), some (.int x3), some (.int x4), some (.int x5), some (.int (x6 + (1 : Int32))), none, none] [] (enc τ9) (qV Q)) ∧ (¬ (1000000000 : Int32) ≤ v8 → (((1000000000 : Int32) ≤ ((gC τ9 4) ((((31 : Int32) * x6) + x4) - (1 : Int32)).toNatClampNeg) → BW S m_Md_breaks 45 [some (.ref 153), some (.int x1), some (.int x2), some (.int x3), some (.int x4), some (.int x5), some (.int (x6 + (1 : Int32))), none, none] [] (enc τ9) (qV Q)) ∧ (¬ (1000000000 : Int32) ≤ ((gC τ9 4) ((((31 : Int32) * x6) + x4) - (1 : Int32)).toNatClampNeg) → ((x5 ≤ (v8 + ((gC τ9 4) ((((31 : Int32) * x6) + x4) - (1 : Int32)).toNatClampNeg)) → BW S m_Md_breaks 45 [some (.ref 153), some (.int x1), some (.int x2), some (.int x3), some (.int x4), some (.int x5), some (.int (x6 + (1 : Int32))), none, none] [] (enc τ9) (qV Q)) ∧ (¬ x5 ≤ (v8 + ((gC τ9 4) ((((31 : Int32) * x6) + x4) - (1 : Int32)).toNatClampNeg)) → BW S m_Md_breaks 45 [some (.ref 153), some (.int x1), some (.int x2), some (.int x3), some (.int x4), some (.int (v8 + ((gC τ9 4) ((((31 : Int32) * x6) + x4) - (1 : Int32)).toNatClampNeg))), some (.int (x6 + (1 : Int32))), none, none] [] (enc τ9) (qV Q)))))))))))))) : BW S m_Md_breaks 45 [some (.ref 153), some (.int x1), some (.int x2), some (.int x3), some (.int x4), some (.int x5), some (.int x6), none, none] [] (enc σ) (qV Q) := by
  refine b_iload d_Md_breaks_45 rfl ?_
  refine b_iload_n d_Md_breaks_47 rfl rfl ?_
  refine b_icmp_gt (tgt := 120) d_Md_breaks_48 (by decide) (fun c15 => ?_) (fun c15 => ?_)
  · have H := H.1 c15
    refine b_aload_n d_Md_breaks_120 rfl rfl ?_
    refine b_getf (v := .ref 158) d_Md_breaks_121 fl_Md_41 (eg_153 σ) rfl ?_
    refine b_bipush (v := (31 : Int32)) d_Md_breaks_124 (by decide) ?_
    refine b_iload_n d_Md_breaks_126 rfl rfl ?_
    refine b_imul d_Md_breaks_127  ?_
    refine b_iload d_Md_breaks_128 rfl ?_
    refine b_iadd d_Md_breaks_130  ?_
    refine b_iload d_Md_breaks_131 rfl ?_
    obtain ⟨h6, H⟩ := H
    refine b_iast (h1 := enc (sC σ 4 (upd (gC σ 4) (((31 : Int32) * x3) + x4).toNatClampNeg x5))) d_Md_breaks_133 (eg_158 σ) h6 (es_158 σ (upd (gC σ 4) (((31 : Int32) * x3) + x4).toNatClampNeg x5)) ?_
    refine b_iinc (v := (x4 + (1 : Int32))) (ls' := [some (.ref 153), some (.int x1), some (.int x2), some (.int x3), some (.int (x4 + (1 : Int32))), some (.int x5), some (.int x6), none, none]) d_Md_breaks_134 rfl rfl (Nat.le_of_ble_eq_true rfl) rfl ?_
    refine b_goto (tgt := 16) d_Md_breaks_137 (by decide) ?_
    exact b_mask [true, true, true, true, true, false, false, true, true] rfl H
  · have H := H.2 c15
    refine b_iload d_Md_breaks_51 rfl ?_
    refine b_if_le (tgt := 120) d_Md_breaks_53 (by decide) (fun c14 => ?_) (fun c14 => ?_)
    · have H := H.1 c14
      refine b_aload_n d_Md_breaks_120 rfl rfl ?_
      refine b_getf (v := .ref 158) d_Md_breaks_121 fl_Md_41 (eg_153 σ) rfl ?_
      refine b_bipush (v := (31 : Int32)) d_Md_breaks_124 (by decide) ?_
      refine b_iload_n d_Md_breaks_126 rfl rfl ?_
      refine b_imul d_Md_breaks_127  ?_
      refine b_iload d_Md_breaks_128 rfl ?_
      refine b_iadd d_Md_breaks_130  ?_
      refine b_iload d_Md_breaks_131 rfl ?_
      obtain ⟨h7, H⟩ := H
      refine b_iast (h1 := enc (sC σ 4 (upd (gC σ 4) (((31 : Int32) * x3) + x4).toNatClampNeg x5))) d_Md_breaks_133 (eg_158 σ) h7 (es_158 σ (upd (gC σ 4) (((31 : Int32) * x3) + x4).toNatClampNeg x5)) ?_
      refine b_iinc (v := (x4 + (1 : Int32))) (ls' := [some (.ref 153), some (.int x1), some (.int x2), some (.int x3), some (.int (x4 + (1 : Int32))), some (.int x5), some (.int x6), none, none]) d_Md_breaks_134 rfl rfl (Nat.le_of_ble_eq_true rfl) rfl ?_
      refine b_goto (tgt := 16) d_Md_breaks_137 (by decide) ?_
      exact b_mask [true, true, true, true, true, false, false, true, true] rfl H
    · have H := H.2 c14
      refine b_aload_n d_Md_breaks_56 rfl rfl ?_
      refine b_iload_n d_Md_breaks_57 rfl rfl ?_
      refine b_iload_n d_Md_breaks_58 rfl rfl ?_
      refine b_iload d_Md_breaks_59 rfl ?_
      refine b_callVi (Mc := m_Md_cost) (As := [.int x1, .int x3, .int x6]) (st := []) d_Md_breaks_61 ⟨⟨kA_Md_cost.1, kA_Md_cost.2.1, kA_Md_cost.2.2, by decide⟩, ml_Md_179, kV_Md_cost⟩ (eg_153 σ) rfl rfl (Nat.le_of_ble_eq_true rfl) H (fun v8 τ9 H => ?_)
      refine b_istore (ls' := [some (.ref 153), some (.int x1), some (.int x2), some (.int x3), some (.int x4), some (.int x5), some (.int x6), some (.int v8), none]) d_Md_breaks_64 (Nat.le_of_ble_eq_true rfl) rfl ?_
      refine b_aload_n d_Md_breaks_66 rfl rfl ?_
      refine b_getf (v := .ref 158) d_Md_breaks_67 fl_Md_41 (eg_153 τ9) rfl ?_
      refine b_bipush (v := (31 : Int32)) d_Md_breaks_70 (by decide) ?_
      refine b_iload d_Md_breaks_72 rfl ?_
      refine b_imul d_Md_breaks_74  ?_
      refine b_iload d_Md_breaks_75 rfl ?_
      refine b_iadd d_Md_breaks_77  ?_
      refine b_iconst (v := (1 : Int32)) d_Md_breaks_78 (by decide) ?_
      refine b_isub d_Md_breaks_79  ?_
      obtain ⟨h10, H⟩ := H
      refine b_iald d_Md_breaks_80 (eg_158 τ9) h10 ?_
      refine b_st2 (st' := [.int ((gC τ9 4) ((((31 : Int32) * x6) + x4) - (1 : Int32)).toNatClampNeg)]) rfl ?_
      refine b_istore (ls' := [some (.ref 153), some (.int x1), some (.int x2), some (.int x3), some (.int x4), some (.int x5), some (.int x6), some (.int v8), some (.int ((gC τ9 4) ((((31 : Int32) * x6) + x4) - (1 : Int32)).toNatClampNeg))]) d_Md_breaks_81 (Nat.le_of_ble_eq_true rfl) rfl ?_
      refine b_iload d_Md_breaks_83 rfl ?_
      refine b_ldc (v := (1000000000 : Int32)) d_Md_breaks_85 cn_Md_178 ?_
      refine b_icmp_ge (tgt := 114) d_Md_breaks_87 (by decide) (fun c13 => ?_) (fun c13 => ?_)
      · have H := H.1 c13
        refine b_iinc (v := (x6 + (1 : Int32))) (ls' := [some (.ref 153), some (.int x1), some (.int x2), some (.int x3), some (.int x4), some (.int x5), some (.int (x6 + (1 : Int32))), some (.int v8), some (.int ((gC τ9 4) ((((31 : Int32) * x6) + x4) - (1 : Int32)).toNatClampNeg))]) d_Md_breaks_114 rfl rfl (Nat.le_of_ble_eq_true rfl) rfl ?_
        refine b_goto (tgt := 45) d_Md_breaks_117 (by decide) ?_
        exact b_mask [true, true, true, true, true, true, true, false, false] rfl H
      · have H := H.2 c13
        refine b_iload d_Md_breaks_90 rfl ?_
        refine b_ldc (v := (1000000000 : Int32)) d_Md_breaks_92 cn_Md_178 ?_
        refine b_icmp_ge (tgt := 114) d_Md_breaks_94 (by decide) (fun c12 => ?_) (fun c12 => ?_)
        · have H := H.1 c12
          refine b_iinc (v := (x6 + (1 : Int32))) (ls' := [some (.ref 153), some (.int x1), some (.int x2), some (.int x3), some (.int x4), some (.int x5), some (.int (x6 + (1 : Int32))), some (.int v8), some (.int ((gC τ9 4) ((((31 : Int32) * x6) + x4) - (1 : Int32)).toNatClampNeg))]) d_Md_breaks_114 rfl rfl (Nat.le_of_ble_eq_true rfl) rfl ?_
          refine b_goto (tgt := 45) d_Md_breaks_117 (by decide) ?_
          exact b_mask [true, true, true, true, true, true, true, false, false] rfl H
        · have H := H.2 c12
          refine b_iload d_Md_breaks_97 rfl ?_
          refine b_iload d_Md_breaks_99 rfl ?_
          refine b_iadd d_Md_breaks_101  ?_
          refine b_iload d_Md_breaks_102 rfl ?_
          refine b_icmp_ge (tgt := 114) d_Md_breaks_104 (by decide) (fun c11 => ?_) (fun c11 => ?_)
          · have H := H.1 c11
            refine b_iinc (v := (x6 + (1 : Int32))) (ls' := [some (.ref 153), some (.int x1), some (.int x2), some (.int x3), some (.int x4), some (.int x5), some (.int (x6 + (1 : Int32))), some (.int v8), some (.int ((gC τ9 4) ((((31 : Int32) * x6) + x4) - (1 : Int32)).toNatClampNeg))]) d_Md_breaks_114 rfl rfl (Nat.le_of_ble_eq_true rfl) rfl ?_
            refine b_goto (tgt := 45) d_Md_breaks_117 (by decide) ?_
            exact b_mask [true, true, true, true, true, true, true, false, false] rfl H
          · have H := H.2 c11
            refine b_iload d_Md_breaks_107 rfl ?_
            refine b_iload d_Md_breaks_109 rfl ?_
            refine b_iadd d_Md_breaks_111  ?_
            refine b_istore (ls' := [some (.ref 153), some (.int x1), some (.int x2), some (.int x3), some (.int x4), some (.int (v8 + ((gC τ9 4) ((((31 : Int32) * x6) + x4) - (1 : Int32)).toNatClampNeg))), some (.int x6), some (.int v8), some (.int ((gC τ9 4) ((((31 : Int32) * x6) + x4) - (1 : Int32)).toNatClampNeg))]) d_Md_breaks_112 (Nat.le_of_ble_eq_true rfl) rfl ?_
            refine b_iinc (v := (x6 + (1 : Int32))) (ls' := [some (.ref 153), some (.int x1), some (.int x2), some (.int x3), some (.int x4), some (.int (v8 + ((gC τ9 4) ((((31 : Int32) * x6) + x4) - (1 : Int32)).toNatClampNeg))), some (.int (x6 + (1 : Int32))), some (.int v8), some (.int ((gC τ9 4) ((((31 : Int32) * x6) + x4) - (1 : Int32)).toNatClampNeg))]) d_Md_breaks_114 rfl rfl (Nat.le_of_ble_eq_true rfl) rfl ?_
            refine b_goto (tgt := 45) d_Md_breaks_117 (by decide) ?_
            exact b_mask [true, true, true, true, true, true, true, false, false] rfl H
theorem C_Md_breaks {S : XS} {Q : St → Prop} (σ : St) (x1 : Int32) (H : BW S m_Md_breaks 0 [some (.ref 153), some (.int x1), none, none, none, none, none, none, none] [] (enc σ) (qV Q)) : CM S m_Md_breaks [.ref 153, .int x1] (enc σ) (qV Q) := b_meth (by decide) (Nat.le_of_ble_eq_true rfl) rfl H
theorem d_Md_lines_0 : decode m_Md_lines.2.1 0 = .ok (.iload_n 1, 1) := by decide +kernel
theorem d_Md_lines_1 : decode m_Md_lines.2.1 1 = .ok (.ifCond .lt 15, 3) := by decide +kernel
theorem d_Md_lines_4 : decode m_Md_lines.2.1 4 = .ok (.iload_n 1, 1) := by decide +kernel
theorem d_Md_lines_5 : decode m_Md_lines.2.1 5 = .ok (.aload_n 0, 1) := by decide +kernel
theorem d_Md_lines_6 : decode m_Md_lines.2.1 6 = .ok (.getfield 17, 3) := by decide +kernel
theorem d_Md_lines_9 : decode m_Md_lines.2.1 9 = .ok (.if_icmp .ge 7, 3) := by decide +kernel
theorem d_Md_lines_12 : decode m_Md_lines.2.1 12 = .ok (.iload_n 2, 1) := by decide +kernel
theorem d_Md_lines_13 : decode m_Md_lines.2.1 13 = .ok (.ifCond .ge 5, 3) := by decide +kernel
theorem d_Md_lines_16 : decode m_Md_lines.2.1 16 = .ok (.iconst (-1), 1) := by decide +kernel
theorem d_Md_lines_17 : decode m_Md_lines.2.1 17 = .ok (.ireturn, 1) := by decide +kernel
theorem d_Md_lines_18 : decode m_Md_lines.2.1 18 = .ok (.aload_n 0, 1) := by decide +kernel
theorem d_Md_lines_19 : decode m_Md_lines.2.1 19 = .ok (.iload_n 1, 1) := by decide +kernel
theorem d_Md_lines_20 : decode m_Md_lines.2.1 20 = .ok (.invokevirtual 183, 3) := by decide +kernel
theorem d_Md_lines_23 : decode m_Md_lines.2.1 23 = .ok (.iload_n 2, 1) := by decide +kernel
theorem d_Md_lines_24 : decode m_Md_lines.2.1 24 = .ok (.aload_n 0, 1) := by decide +kernel
theorem d_Md_lines_25 : decode m_Md_lines.2.1 25 = .ok (.getfield 23, 3) := by decide +kernel
theorem d_Md_lines_28 : decode m_Md_lines.2.1 28 = .ok (.iload_n 1, 1) := by decide +kernel
theorem d_Md_lines_29 : decode m_Md_lines.2.1 29 = .ok (.iaload, 1) := by decide +kernel
theorem d_Md_lines_30 : decode m_Md_lines.2.1 30 = .ok (.if_icmp .gt 14, 3) := by decide +kernel
theorem d_Md_lines_33 : decode m_Md_lines.2.1 33 = .ok (.aload_n 0, 1) := by decide +kernel
theorem d_Md_lines_34 : decode m_Md_lines.2.1 34 = .ok (.getfield 41, 3) := by decide +kernel
theorem d_Md_lines_37 : decode m_Md_lines.2.1 37 = .ok (.iload_n 2, 1) := by decide +kernel
theorem d_Md_lines_38 : decode m_Md_lines.2.1 38 = .ok (.iaload, 1) := by decide +kernel
theorem d_Md_lines_39 : decode m_Md_lines.2.1 39 = .ok (.ldc 178, 2) := by decide +kernel
theorem d_Md_lines_41 : decode m_Md_lines.2.1 41 = .ok (.if_icmp .lt 8, 3) := by decide +kernel
theorem d_Md_lines_44 : decode m_Md_lines.2.1 44 = .ok (.bipush (-2), 2) := by decide +kernel
theorem d_Md_lines_46 : decode m_Md_lines.2.1 46 = .ok (.goto 9, 3) := by decide +kernel
theorem d_Md_lines_49 : decode m_Md_lines.2.1 49 = .ok (.aload_n 0, 1) := by decide +kernel
theorem d_Md_lines_50 : decode m_Md_lines.2.1 50 = .ok (.getfield 41, 3) := by decide +kernel
theorem d_Md_lines_53 : decode m_Md_lines.2.1 53 = .ok (.iload_n 2, 1) := by decide +kernel
theorem d_Md_lines_54 : decode m_Md_lines.2.1 54 = .ok (.iaload, 1) := by decide +kernel
theorem d_Md_lines_55 : decode m_Md_lines.2.1 55 = .ok (.ireturn, 1) := by decide +kernel
set_option maxHeartbeats 4000000 in
set_option maxRecDepth 100000 in
theorem B_Md_lines_0 {S : XS} {Q : Int32 → St → Prop} (σ : St) (x1 : Int32) (x2 : Int32) (H : ((x1 < 0 → Q (-1 : Int32) σ) ∧ (¬ x1 < 0 → (((gY σ 1) ≤ x1 → Q (-1 : Int32) σ) ∧ (¬ (gY σ 1) ≤ x1 → ((0 ≤ x2 → CM S m_Md_breaks [.ref 153, .int x1] (enc σ) (qV (fun τ2 => (vp_in x1 20) ∧ ((((gC τ2 2) x1.toNatClampNeg) < x2 → Q (-2 : Int32) τ2) ∧ (¬ ((gC τ2 2) x1.toNatClampNeg) < x2 → (vp_in x2 961) ∧ ((((gC τ2 4) x2.toNatClampNeg) < (1000000000 : Int32) → Q ((gC τ2 4) x2.toNatClampNeg) τ2) ∧ (¬ ((gC τ2 4) x2.toNatClampNeg) < (1000000000 : Int32) → Q (-2 : Int32) τ2))))))) ∧ (¬ 0 ≤ x2 → Q (-1 : Int32) σ))))))) : BW S m_Md_lines 0 [some (.ref 153), some (.int x1), some (.int x2)] [] (enc σ) (qI Q) := by
  refine b_iload_n d_Md_lines_0 rfl rfl ?_
  refine b_if_lt (tgt := 16) d_Md_lines_1 (by decide) (fun c9 => ?_) (fun c9 => ?_)
  · have H := H.1 c9
    refine b_iconst (v := (-1 : Int32)) d_Md_lines_16 (by decide) ?_
    exact b_iret (ty := .int) d_Md_lines_17 rfl rfl ⟨_, _, rfl, rfl, H⟩
  · have H := H.2 c9
    refine b_iload_n d_Md_lines_4 rfl rfl ?_
    refine b_aload_n d_Md_lines_5 rfl rfl ?_
    refine b_getf (v := .int (gY σ 1)) d_Md_lines_6 fl_Md_17 (eg_153 σ) rfl ?_
    refine b_icmp_ge (tgt := 16) d_Md_lines_9 (by decide) (fun c8 => ?_) (fun c8 => ?_)
    · have H := H.1 c8
      refine b_iconst (v := (-1 : Int32)) d_Md_lines_16 (by decide) ?_
      exact b_iret (ty := .int) d_Md_lines_17 rfl rfl ⟨_, _, rfl, rfl, H⟩
    · have H := H.2 c8
      refine b_iload_n d_Md_lines_12 rfl rfl ?_
      refine b_if_ge (tgt := 18) d_Md_lines_13 (by decide) (fun c7 => ?_) (fun c7 => ?_)
      · have H := H.1 c7
        refine b_aload_n d_Md_lines_18 rfl rfl ?_
        refine b_iload_n d_Md_lines_19 rfl rfl ?_
        refine b_callVv (Mc := m_Md_breaks) (As := [.int x1]) (st := []) d_Md_lines_20 ⟨⟨kA_Md_breaks.1, kA_Md_breaks.2.1, kA_Md_breaks.2.2, by decide⟩, ml_Md_183, kV_Md_breaks⟩ (eg_153 σ) rfl rfl (Nat.le_of_ble_eq_true rfl) H (fun τ2 H => ?_)
        refine b_iload_n d_Md_lines_23 rfl rfl ?_
        refine b_aload_n d_Md_lines_24 rfl rfl ?_
        refine b_getf (v := .ref 156) d_Md_lines_25 fl_Md_23 (eg_153 τ2) rfl ?_
        refine b_iload_n d_Md_lines_28 rfl rfl ?_
        obtain ⟨h3, H⟩ := H
        refine b_iald d_Md_lines_29 (eg_156 τ2) h3 ?_
        refine b_st2 (st' := [.int ((gC τ2 2) x1.toNatClampNeg), .int x2]) rfl ?_
        refine b_icmp_gt (tgt := 44) d_Md_lines_30 (by decide) (fun c6 => ?_) (fun c6 => ?_)
        · have H := H.1 c6
          refine b_bipush (v := (-2 : Int32)) d_Md_lines_44 (by decide) ?_
          refine b_goto (tgt := 55) d_Md_lines_46 (by decide) ?_
          exact b_iret (ty := .int) d_Md_lines_55 rfl rfl ⟨_, _, rfl, rfl, H⟩
        · have H := H.2 c6
          refine b_aload_n d_Md_lines_33 rfl rfl ?_
          refine b_getf (v := .ref 158) d_Md_lines_34 fl_Md_41 (eg_153 τ2) rfl ?_
          refine b_iload_n d_Md_lines_37 rfl rfl ?_
          obtain ⟨h4, H⟩ := H
          refine b_iald d_Md_lines_38 (eg_158 τ2) h4 ?_
          refine b_st2 (st' := [.int ((gC τ2 4) x2.toNatClampNeg)]) rfl ?_
          refine b_ldc (v := (1000000000 : Int32)) d_Md_lines_39 cn_Md_178 ?_
          refine b_icmp_lt (tgt := 49) d_Md_lines_41 (by decide) (fun c5 => ?_) (fun c5 => ?_)
          · have H := H.1 c5
            refine b_aload_n d_Md_lines_49 rfl rfl ?_
            refine b_getf (v := .ref 158) d_Md_lines_50 fl_Md_41 (eg_153 τ2) rfl ?_
            refine b_iload_n d_Md_lines_53 rfl rfl ?_
            refine b_iald d_Md_lines_54 (eg_158 τ2) h4 ?_
            refine b_st2 (st' := [.int ((gC τ2 4) x2.toNatClampNeg)]) rfl ?_
            exact b_iret (ty := .int) d_Md_lines_55 rfl rfl ⟨_, _, rfl, rfl, H⟩
          · have H := H.2 c5
            refine b_bipush (v := (-2 : Int32)) d_Md_lines_44 (by decide) ?_
            refine b_goto (tgt := 55) d_Md_lines_46 (by decide) ?_
            exact b_iret (ty := .int) d_Md_lines_55 rfl rfl ⟨_, _, rfl, rfl, H⟩
      · have H := H.2 c7
        refine b_iconst (v := (-1 : Int32)) d_Md_lines_16 (by decide) ?_
        exact b_iret (ty := .int) d_Md_lines_17 rfl rfl ⟨_, _, rfl, rfl, H⟩
theorem C_Md_lines {S : XS} {Q : Int32 → St → Prop} (σ : St) (x1 : Int32) (x2 : Int32) (H : BW S m_Md_lines 0 [some (.ref 153), some (.int x1), some (.int x2)] [] (enc σ) (qI Q)) : CM S m_Md_lines [.ref 153, .int x1, .int x2] (enc σ) (qI Q) := b_meth (by decide) (Nat.le_of_ble_eq_true rfl) rfl H
theorem d_Md_at_0 : decode m_Md_at.2.1 0 = .ok (.sipush 242, 3) := by decide +kernel
theorem d_Md_at_3 : decode m_Md_at.2.1 3 = .ok (.iload_n 0, 1) := by decide +kernel
theorem d_Md_at_4 : decode m_Md_at.2.1 4 = .ok (.imul, 1) := by decide +kernel
theorem d_Md_at_5 : decode m_Md_at.2.1 5 = .ok (.iconst 2, 1) := by decide +kernel
theorem d_Md_at_6 : decode m_Md_at.2.1 6 = .ok (.iload_n 1, 1) := by decide +kernel
theorem d_Md_at_7 : decode m_Md_at.2.1 7 = .ok (.imul, 1) := by decide +kernel
theorem d_Md_at_8 : decode m_Md_at.2.1 8 = .ok (.iadd, 1) := by decide +kernel
theorem d_Md_at_9 : decode m_Md_at.2.1 9 = .ok (.iload_n 2, 1) := by decide +kernel
theorem d_Md_at_10 : decode m_Md_at.2.1 10 = .ok (.iadd, 1) := by decide +kernel
theorem d_Md_at_11 : decode m_Md_at.2.1 11 = .ok (.ireturn, 1) := by decide +kernel
set_option maxHeartbeats 4000000 in
set_option maxRecDepth 100000 in
theorem B_Md_at_0 {S : XS} {Q : Int32 → St → Prop} (σ : St) (x0 : Int32) (x1 : Int32) (x2 : Int32) (H : Q ((((242 : Int32) * x0) + ((2 : Int32) * x1)) + x2) σ) : BW S m_Md_at 0 [some (.int x0), some (.int x1), some (.int x2)] [] (enc σ) (qI Q) := by
  refine b_sipush (v := (242 : Int32)) d_Md_at_0 (by decide) ?_
  refine b_iload_n d_Md_at_3 rfl rfl ?_
  refine b_imul d_Md_at_4  ?_
  refine b_iconst (v := (2 : Int32)) d_Md_at_5 (by decide) ?_
  refine b_iload_n d_Md_at_6 rfl rfl ?_
  refine b_imul d_Md_at_7  ?_
  refine b_iadd d_Md_at_8  ?_
  refine b_iload_n d_Md_at_9 rfl rfl ?_
  refine b_iadd d_Md_at_10  ?_
  exact b_iret (ty := .int) d_Md_at_11 rfl rfl ⟨_, _, rfl, rfl, H⟩
theorem C_Md_at {S : XS} {Q : Int32 → St → Prop} (σ : St) (x0 : Int32) (x1 : Int32) (x2 : Int32) (H : BW S m_Md_at 0 [some (.int x0), some (.int x1), some (.int x2)] [] (enc σ) (qI Q)) : CM S m_Md_at [.int x0, .int x1, .int x2] (enc σ) (qI Q) := b_meth (by decide) (Nat.le_of_ble_eq_true rfl) rfl H
theorem d_Md_price_0 : decode m_Md_price.2.1 0 = .ok (.aload_n 0, 1) := by decide +kernel
theorem d_Md_price_1 : decode m_Md_price.2.1 1 = .ok (.getfield 44, 3) := by decide +kernel
theorem d_Md_price_4 : decode m_Md_price.2.1 4 = .ok (.bipush 31, 2) := by decide +kernel
theorem d_Md_price_6 : decode m_Md_price.2.1 6 = .ok (.iload_n 1, 1) := by decide +kernel
theorem d_Md_price_7 : decode m_Md_price.2.1 7 = .ok (.imul, 1) := by decide +kernel
theorem d_Md_price_8 : decode m_Md_price.2.1 8 = .ok (.iload_n 3, 1) := by decide +kernel
theorem d_Md_price_9 : decode m_Md_price.2.1 9 = .ok (.iadd, 1) := by decide +kernel
theorem d_Md_price_10 : decode m_Md_price.2.1 10 = .ok (.iaload, 1) := by decide +kernel
theorem d_Md_price_11 : decode m_Md_price.2.1 11 = .ok (.istore 5, 2) := by decide +kernel
theorem d_Md_price_13 : decode m_Md_price.2.1 13 = .ok (.iload 5, 2) := by decide +kernel
theorem d_Md_price_15 : decode m_Md_price.2.1 15 = .ok (.ldc 178, 2) := by decide +kernel
theorem d_Md_price_17 : decode m_Md_price.2.1 17 = .ok (.if_icmp .lt 6, 3) := by decide +kernel
theorem d_Md_price_20 : decode m_Md_price.2.1 20 = .ok (.ldc 178, 2) := by decide +kernel
theorem d_Md_price_22 : decode m_Md_price.2.1 22 = .ok (.ireturn, 1) := by decide +kernel
theorem d_Md_price_23 : decode m_Md_price.2.1 23 = .ok (.iload 5, 2) := by decide +kernel
theorem d_Md_price_25 : decode m_Md_price.2.1 25 = .ok (.iload 4, 2) := by decide +kernel
theorem d_Md_price_27 : decode m_Md_price.2.1 27 = .ok (.aload_n 0, 1) := by decide +kernel
theorem d_Md_price_28 : decode m_Md_price.2.1 28 = .ok (.getfield 35, 3) := by decide +kernel
theorem d_Md_price_31 : decode m_Md_price.2.1 31 = .ok (.imul, 1) := by decide +kernel
theorem d_Md_price_32 : decode m_Md_price.2.1 32 = .ok (.iadd, 1) := by decide +kernel
theorem d_Md_price_33 : decode m_Md_price.2.1 33 = .ok (.istore 5, 2) := by decide +kernel
theorem d_Md_price_35 : decode m_Md_price.2.1 35 = .ok (.iload_n 3, 1) := by decide +kernel
theorem d_Md_price_36 : decode m_Md_price.2.1 36 = .ok (.iconst 2, 1) := by decide +kernel
theorem d_Md_price_37 : decode m_Md_price.2.1 37 = .ok (.if_icmp .ge 6, 3) := by decide +kernel
theorem d_Md_price_40 : decode m_Md_price.2.1 40 = .ok (.iload 5, 2) := by decide +kernel
theorem d_Md_price_42 : decode m_Md_price.2.1 42 = .ok (.ireturn, 1) := by decide +kernel
theorem d_Md_price_43 : decode m_Md_price.2.1 43 = .ok (.iload 5, 2) := by decide +kernel
theorem d_Md_price_45 : decode m_Md_price.2.1 45 = .ok (.iload_n 2, 1) := by decide +kernel
theorem d_Md_price_46 : decode m_Md_price.2.1 46 = .ok (.aload_n 0, 1) := by decide +kernel
theorem d_Md_price_47 : decode m_Md_price.2.1 47 = .ok (.getfield 32, 3) := by decide +kernel
theorem d_Md_price_50 : decode m_Md_price.2.1 50 = .ok (.irem, 1) := by decide +kernel
theorem d_Md_price_51 : decode m_Md_price.2.1 51 = .ok (.aload_n 0, 1) := by decide +kernel
theorem d_Md_price_52 : decode m_Md_price.2.1 52 = .ok (.getfield 32, 3) := by decide +kernel
theorem d_Md_price_55 : decode m_Md_price.2.1 55 = .ok (.iconst 1, 1) := by decide +kernel
theorem d_Md_price_56 : decode m_Md_price.2.1 56 = .ok (.isub, 1) := by decide +kernel
theorem d_Md_price_57 : decode m_Md_price.2.1 57 = .ok (.if_icmp .ne 10, 3) := by decide +kernel
theorem d_Md_price_60 : decode m_Md_price.2.1 60 = .ok (.aload_n 0, 1) := by decide +kernel
theorem d_Md_price_61 : decode m_Md_price.2.1 61 = .ok (.getfield 38, 3) := by decide +kernel
theorem d_Md_price_64 : decode m_Md_price.2.1 64 = .ok (.goto 4, 3) := by decide +kernel
theorem d_Md_price_67 : decode m_Md_price.2.1 67 = .ok (.iconst 0, 1) := by decide +kernel
theorem d_Md_price_68 : decode m_Md_price.2.1 68 = .ok (.iadd, 1) := by decide +kernel
theorem d_Md_price_69 : decode m_Md_price.2.1 69 = .ok (.istore 5, 2) := by decide +kernel
theorem d_Md_price_71 : decode m_Md_price.2.1 71 = .ok (.iload 5, 2) := by decide +kernel
theorem d_Md_price_73 : decode m_Md_price.2.1 73 = .ok (.iload_n 2, 1) := by decide +kernel
theorem d_Md_price_74 : decode m_Md_price.2.1 74 = .ok (.iload_n 3, 1) := by decide +kernel
theorem d_Md_price_75 : decode m_Md_price.2.1 75 = .ok (.iadd, 1) := by decide +kernel
theorem d_Md_price_76 : decode m_Md_price.2.1 76 = .ok (.iconst 1, 1) := by decide +kernel
theorem d_Md_price_77 : decode m_Md_price.2.1 77 = .ok (.isub, 1) := by decide +kernel
theorem d_Md_price_78 : decode m_Md_price.2.1 78 = .ok (.aload_n 0, 1) := by decide +kernel
theorem d_Md_price_79 : decode m_Md_price.2.1 79 = .ok (.getfield 32, 3) := by decide +kernel
theorem d_Md_price_82 : decode m_Md_price.2.1 82 = .ok (.irem, 1) := by decide +kernel
theorem d_Md_price_83 : decode m_Md_price.2.1 83 = .ok (.ifCond .ne 10, 3) := by decide +kernel
theorem d_Md_price_86 : decode m_Md_price.2.1 86 = .ok (.aload_n 0, 1) := by decide +kernel
theorem d_Md_price_87 : decode m_Md_price.2.1 87 = .ok (.getfield 38, 3) := by decide +kernel
theorem d_Md_price_90 : decode m_Md_price.2.1 90 = .ok (.goto 4, 3) := by decide +kernel
theorem d_Md_price_93 : decode m_Md_price.2.1 93 = .ok (.iconst 0, 1) := by decide +kernel
theorem d_Md_price_94 : decode m_Md_price.2.1 94 = .ok (.iadd, 1) := by decide +kernel
theorem d_Md_price_95 : decode m_Md_price.2.1 95 = .ok (.ireturn, 1) := by decide +kernel
set_option maxHeartbeats 4000000 in
set_option maxRecDepth 100000 in
theorem B_Md_price_0 {S : XS} {Q : Int32 → St → Prop} (σ : St) (x1 : Int32) (x2 : Int32) (x3 : Int32) (x4 : Int32) (H : (vp_in (((31 : Int32) * x1) + x3) 620) ∧ ((((gC σ 5) (((31 : Int32) * x1) + x3).toNatClampNeg) < (1000000000 : Int32) → (((2 : Int32) ≤ x3 → (¬ (gY σ 3) = 0) ∧ ((¬ (x2 - x2 / (gY σ 3) * (gY σ 3)) = ((gY σ 3) - (1 : Int32)) → ((¬ (((x2 + x3) - (1 : Int32)) - ((x2 + x3) - (1 : Int32)) / (gY σ 3) * (gY σ 3)) = 0 → Q (((((gC σ 5) (((31 : Int32) * x1) + x3).toNatClampNeg) + (x4 * (gY σ 4))) + (0 : Int32)) + (0 : Int32)) σ) ∧ ((((x2 + x3) - (1 : Int32)) - ((x2 + x3) - (1 : Int32)) / (gY σ 3) * (gY σ 3)) = 0 → Q (((((gC σ 5) (((31 : Int32) * x1) + x3).toNatClampNeg) + (x4 * (gY σ 4))) + (0 : Int32)) + (gY σ 5)) σ))) ∧ ((x2 - x2 / (gY σ 3) * (gY σ 3)) = ((gY σ 3) - (1 : Int32)) → ((¬ (((x2 + x3) - (1 : Int32)) - ((x2 + x3) - (1 : Int32)) / (gY σ 3) * (gY σ 3)) = 0 → Q (((((gC σ 5) (((31 : Int32) * x1) + x3).toNatClampNeg) + (x4 * (gY σ 4))) + (gY σ 5)) + (0 : Int32)) σ) ∧ ((((x2 + x3) - (1 : Int32)) - ((x2 + x3) - (1 : Int32)) / (gY σ 3) * (gY σ 3)) = 0 → Q (((((gC σ 5) (((31 : Int32) * x1) + x3).toNatClampNeg) + (x4 * (gY σ 4))) + (gY σ 5)) + (gY σ 5)) σ))))) ∧ (¬ (2 : Int32) ≤ x3 → Q (((gC σ 5) (((31 : Int32) * x1) + x3).toNatClampNeg) + (x4 * (gY σ 4))) σ))) ∧ (¬ ((gC σ 5) (((31 : Int32) * x1) + x3).toNatClampNeg) < (1000000000 : Int32) → Q (1000000000 : Int32) σ))) : BW S m_Md_price 0 [some (.ref 153), some (.int x1), some (.int x2), some (.int x3), some (.int x4), none] [] (enc σ) (qI Q) := by
  refine b_aload_n d_Md_price_0 rfl rfl ?_
  refine b_getf (v := .ref 159) d_Md_price_1 fl_Md_44 (eg_153 σ) rfl ?_
  refine b_bipush (v := (31 : Int32)) d_Md_price_4 (by decide) ?_
  refine b_iload_n d_Md_price_6 rfl rfl ?_
  refine b_imul d_Md_price_7  ?_
  refine b_iload_n d_Md_price_8 rfl rfl ?_
  refine b_iadd d_Md_price_9  ?_
  obtain ⟨h1, H⟩ := H
  refine b_iald d_Md_price_10 (eg_159 σ) h1 ?_
  refine b_st2 (st' := [.int ((gC σ 5) (((31 : Int32) * x1) + x3).toNatClampNeg)]) rfl ?_
  refine b_istore (ls' := [some (.ref 153), some (.int x1), some (.int x2), some (.int x3), some (.int x4), some (.int ((gC σ 5) (((31 : Int32) * x1) + x3).toNatClampNeg))]) d_Md_price_11 (Nat.le_of_ble_eq_true rfl) rfl ?_
  refine b_iload d_Md_price_13 rfl ?_
  refine b_ldc (v := (1000000000 : Int32)) d_Md_price_15 cn_Md_178 ?_
  refine b_icmp_lt (tgt := 23) d_Md_price_17 (by decide) (fun c7 => ?_) (fun c7 => ?_)
  · have H := H.1 c7
    refine b_iload d_Md_price_23 rfl ?_
    refine b_iload d_Md_price_25 rfl ?_
    refine b_aload_n d_Md_price_27 rfl rfl ?_
    refine b_getf (v := .int (gY σ 4)) d_Md_price_28 fl_Md_35 (eg_153 σ) rfl ?_
    refine b_imul d_Md_price_31  ?_
    refine b_iadd d_Md_price_32  ?_
    refine b_istore (ls' := [some (.ref 153), some (.int x1), some (.int x2), some (.int x3), some (.int x4), some (.int (((gC σ 5) (((31 : Int32) * x1) + x3).toNatClampNeg) + (x4 * (gY σ 4))))]) d_Md_price_33 (Nat.le_of_ble_eq_true rfl) rfl ?_
    refine b_iload_n d_Md_price_35 rfl rfl ?_
    refine b_iconst (v := (2 : Int32)) d_Md_price_36 (by decide) ?_
    refine b_icmp_ge (tgt := 43) d_Md_price_37 (by decide) (fun c6 => ?_) (fun c6 => ?_)
    · have H := H.1 c6
      refine b_iload d_Md_price_43 rfl ?_
      refine b_iload_n d_Md_price_45 rfl rfl ?_
      refine b_aload_n d_Md_price_46 rfl rfl ?_
      refine b_getf (v := .int (gY σ 3)) d_Md_price_47 fl_Md_32 (eg_153 σ) rfl ?_
      obtain ⟨h2, H⟩ := H
      refine b_irem d_Md_price_50 h2 ?_
      refine b_aload_n d_Md_price_51 rfl rfl ?_
      refine b_getf (v := .int (gY σ 3)) d_Md_price_52 fl_Md_32 (eg_153 σ) rfl ?_
      refine b_iconst (v := (1 : Int32)) d_Md_price_55 (by decide) ?_
      refine b_isub d_Md_price_56  ?_
      refine b_icmp_ne (tgt := 67) d_Md_price_57 (by decide) (fun c5 => ?_) (fun c5 => ?_)
      · have H := H.1 c5
        refine b_iconst (v := (0 : Int32)) d_Md_price_67 (by decide) ?_
        refine b_iadd d_Md_price_68  ?_
        refine b_istore (ls' := [some (.ref 153), some (.int x1), some (.int x2), some (.int x3), some (.int x4), some (.int ((((gC σ 5) (((31 : Int32) * x1) + x3).toNatClampNeg) + (x4 * (gY σ 4))) + (0 : Int32)))]) d_Md_price_69 (Nat.le_of_ble_eq_true rfl) rfl ?_
        refine b_iload d_Md_price_71 rfl ?_
        refine b_iload_n d_Md_price_73 rfl rfl ?_
        refine b_iload_n d_Md_price_74 rfl rfl ?_
        refine b_iadd d_Md_price_75  ?_
        refine b_iconst (v := (1 : Int32)) d_Md_price_76 (by decide) ?_
        refine b_isub d_Md_price_77  ?_
        refine b_aload_n d_Md_price_78 rfl rfl ?_
        refine b_getf (v := .int (gY σ 3)) d_Md_price_79 fl_Md_32 (eg_153 σ) rfl ?_
        refine b_irem d_Md_price_82 h2 ?_
        refine b_if_ne (tgt := 93) d_Md_price_83 (by decide) (fun c3 => ?_) (fun c3 => ?_)
        · have H := H.1 c3
          refine b_iconst (v := (0 : Int32)) d_Md_price_93 (by decide) ?_
          refine b_iadd d_Md_price_94  ?_
          exact b_iret (ty := .int) d_Md_price_95 rfl rfl ⟨_, _, rfl, rfl, H⟩
        · have H := H.2 c3
          refine b_aload_n d_Md_price_86 rfl rfl ?_
          refine b_getf (v := .int (gY σ 5)) d_Md_price_87 fl_Md_38 (eg_153 σ) rfl ?_
          refine b_goto (tgt := 94) d_Md_price_90 (by decide) ?_
          refine b_iadd d_Md_price_94  ?_
          exact b_iret (ty := .int) d_Md_price_95 rfl rfl ⟨_, _, rfl, rfl, H⟩
      · have H := H.2 c5
        refine b_aload_n d_Md_price_60 rfl rfl ?_
        refine b_getf (v := .int (gY σ 5)) d_Md_price_61 fl_Md_38 (eg_153 σ) rfl ?_
        refine b_goto (tgt := 68) d_Md_price_64 (by decide) ?_
        refine b_iadd d_Md_price_68  ?_
        refine b_istore (ls' := [some (.ref 153), some (.int x1), some (.int x2), some (.int x3), some (.int x4), some (.int ((((gC σ 5) (((31 : Int32) * x1) + x3).toNatClampNeg) + (x4 * (gY σ 4))) + (gY σ 5)))]) d_Md_price_69 (Nat.le_of_ble_eq_true rfl) rfl ?_
        refine b_iload d_Md_price_71 rfl ?_
        refine b_iload_n d_Md_price_73 rfl rfl ?_
        refine b_iload_n d_Md_price_74 rfl rfl ?_
        refine b_iadd d_Md_price_75  ?_
        refine b_iconst (v := (1 : Int32)) d_Md_price_76 (by decide) ?_
        refine b_isub d_Md_price_77  ?_
        refine b_aload_n d_Md_price_78 rfl rfl ?_
        refine b_getf (v := .int (gY σ 3)) d_Md_price_79 fl_Md_32 (eg_153 σ) rfl ?_
        refine b_irem d_Md_price_82 h2 ?_
        refine b_if_ne (tgt := 93) d_Md_price_83 (by decide) (fun c4 => ?_) (fun c4 => ?_)
        · have H := H.1 c4
          refine b_iconst (v := (0 : Int32)) d_Md_price_93 (by decide) ?_
          refine b_iadd d_Md_price_94  ?_
          exact b_iret (ty := .int) d_Md_price_95 rfl rfl ⟨_, _, rfl, rfl, H⟩
        · have H := H.2 c4
          refine b_aload_n d_Md_price_86 rfl rfl ?_
          refine b_getf (v := .int (gY σ 5)) d_Md_price_87 fl_Md_38 (eg_153 σ) rfl ?_
          refine b_goto (tgt := 94) d_Md_price_90 (by decide) ?_
          refine b_iadd d_Md_price_94  ?_
          exact b_iret (ty := .int) d_Md_price_95 rfl rfl ⟨_, _, rfl, rfl, H⟩
    · have H := H.2 c6
      refine b_iload d_Md_price_40 rfl ?_
      exact b_iret (ty := .int) d_Md_price_42 rfl rfl ⟨_, _, rfl, rfl, H⟩
  · have H := H.2 c7
    refine b_ldc (v := (1000000000 : Int32)) d_Md_price_20 cn_Md_178 ?_
    exact b_iret (ty := .int) d_Md_price_22 rfl rfl ⟨_, _, rfl, rfl, H⟩
theorem C_Md_price {S : XS} {Q : Int32 → St → Prop} (σ : St) (x1 : Int32) (x2 : Int32) (x3 : Int32) (x4 : Int32) (H : BW S m_Md_price 0 [some (.ref 153), some (.int x1), some (.int x2), some (.int x3), some (.int x4), none] [] (enc σ) (qI Q)) : CM S m_Md_price [.ref 153, .int x1, .int x2, .int x3, .int x4] (enc σ) (qI Q) := b_meth (by decide) (Nat.le_of_ble_eq_true rfl) rfl H
theorem d_Md_stands6_0 : decode m_Md_stands6.2.1 0 = .ok (.iload_n 2, 1) := by decide +kernel
theorem d_Md_stands6_1 : decode m_Md_stands6.2.1 1 = .ok (.iload 4, 2) := by decide +kernel
theorem d_Md_stands6_3 : decode m_Md_stands6.2.1 3 = .ok (.iadd, 1) := by decide +kernel
theorem d_Md_stands6_4 : decode m_Md_stands6.2.1 4 = .ok (.istore 7, 2) := by decide +kernel
theorem d_Md_stands6_6 : decode m_Md_stands6.2.1 6 = .ok (.iload 4, 2) := by decide +kernel
theorem d_Md_stands6_8 : decode m_Md_stands6.2.1 8 = .ok (.ifCond .le 7, 3) := by decide +kernel
theorem d_Md_stands6_11 : decode m_Md_stands6.2.1 11 = .ok (.iload_n 3, 1) := by decide +kernel
theorem d_Md_stands6_12 : decode m_Md_stands6.2.1 12 = .ok (.ifCond .eq 13, 3) := by decide +kernel
theorem d_Md_stands6_15 : decode m_Md_stands6.2.1 15 = .ok (.iload 7, 2) := by decide +kernel
theorem d_Md_stands6_17 : decode m_Md_stands6.2.1 17 = .ok (.iload 5, 2) := by decide +kernel
theorem d_Md_stands6_19 : decode m_Md_stands6.2.1 19 = .ok (.iadd, 1) := by decide +kernel
theorem d_Md_stands6_20 : decode m_Md_stands6.2.1 20 = .ok (.iload 6, 2) := by decide +kernel
theorem d_Md_stands6_22 : decode m_Md_stands6.2.1 22 = .ok (.if_icmp .le 6, 3) := by decide +kernel
theorem d_Md_stands6_25 : decode m_Md_stands6.2.1 25 = .ok (.ldc 178, 2) := by decide +kernel
theorem d_Md_stands6_27 : decode m_Md_stands6.2.1 27 = .ok (.ireturn, 1) := by decide +kernel
theorem d_Md_stands6_28 : decode m_Md_stands6.2.1 28 = .ok (.aload_n 0, 1) := by decide +kernel
theorem d_Md_stands6_29 : decode m_Md_stands6.2.1 29 = .ok (.iload_n 1, 1) := by decide +kernel
theorem d_Md_stands6_30 : decode m_Md_stands6.2.1 30 = .ok (.iload 7, 2) := by decide +kernel
theorem d_Md_stands6_32 : decode m_Md_stands6.2.1 32 = .ok (.iload 5, 2) := by decide +kernel
theorem d_Md_stands6_34 : decode m_Md_stands6.2.1 34 = .ok (.iload 4, 2) := by decide +kernel
theorem d_Md_stands6_36 : decode m_Md_stands6.2.1 36 = .ok (.invokevirtual 186, 3) := by decide +kernel
theorem d_Md_stands6_39 : decode m_Md_stands6.2.1 39 = .ok (.istore 8, 2) := by decide +kernel
theorem d_Md_stands6_41 : decode m_Md_stands6.2.1 41 = .ok (.aload_n 0, 1) := by decide +kernel
theorem d_Md_stands6_42 : decode m_Md_stands6.2.1 42 = .ok (.getfield 47, 3) := by decide +kernel
theorem d_Md_stands6_45 : decode m_Md_stands6.2.1 45 = .ok (.iload_n 1, 1) := by decide +kernel
theorem d_Md_stands6_46 : decode m_Md_stands6.2.1 46 = .ok (.iconst 1, 1) := by decide +kernel
theorem d_Md_stands6_47 : decode m_Md_stands6.2.1 47 = .ok (.iadd, 1) := by decide +kernel
theorem d_Md_stands6_48 : decode m_Md_stands6.2.1 48 = .ok (.iload 7, 2) := by decide +kernel
theorem d_Md_stands6_50 : decode m_Md_stands6.2.1 50 = .ok (.iload 5, 2) := by decide +kernel
theorem d_Md_stands6_52 : decode m_Md_stands6.2.1 52 = .ok (.iadd, 1) := by decide +kernel
theorem d_Md_stands6_53 : decode m_Md_stands6.2.1 53 = .ok (.iconst 1, 1) := by decide +kernel
theorem d_Md_stands6_54 : decode m_Md_stands6.2.1 54 = .ok (.invokestatic 189, 3) := by decide +kernel
theorem d_Md_stands6_57 : decode m_Md_stands6.2.1 57 = .ok (.iaload, 1) := by decide +kernel
theorem d_Md_stands6_58 : decode m_Md_stands6.2.1 58 = .ok (.istore 9, 2) := by decide +kernel
theorem d_Md_stands6_60 : decode m_Md_stands6.2.1 60 = .ok (.iload 8, 2) := by decide +kernel
theorem d_Md_stands6_62 : decode m_Md_stands6.2.1 62 = .ok (.ldc 178, 2) := by decide +kernel
theorem d_Md_stands6_64 : decode m_Md_stands6.2.1 64 = .ok (.if_icmp .ge 10, 3) := by decide +kernel
theorem d_Md_stands6_67 : decode m_Md_stands6.2.1 67 = .ok (.iload 9, 2) := by decide +kernel
theorem d_Md_stands6_69 : decode m_Md_stands6.2.1 69 = .ok (.ldc 178, 2) := by decide +kernel
theorem d_Md_stands6_71 : decode m_Md_stands6.2.1 71 = .ok (.if_icmp .lt 8, 3) := by decide +kernel
theorem d_Md_stands6_74 : decode m_Md_stands6.2.1 74 = .ok (.ldc 178, 2) := by decide +kernel
theorem d_Md_stands6_76 : decode m_Md_stands6.2.1 76 = .ok (.goto 8, 3) := by decide +kernel
theorem d_Md_stands6_79 : decode m_Md_stands6.2.1 79 = .ok (.iload 8, 2) := by decide +kernel
theorem d_Md_stands6_81 : decode m_Md_stands6.2.1 81 = .ok (.iload 9, 2) := by decide +kernel
theorem d_Md_stands6_83 : decode m_Md_stands6.2.1 83 = .ok (.iadd, 1) := by decide +kernel
theorem d_Md_stands6_84 : decode m_Md_stands6.2.1 84 = .ok (.ireturn, 1) := by decide +kernel
set_option maxHeartbeats 4000000 in
set_option maxRecDepth 100000 in
theorem B_Md_stands6_0 {S : XS} {Q : Int32 → St → Prop} (σ : St) (x1 : Int32) (x2 : Int32) (x3 : Int32) (x4 : Int32) (x5 : Int32) (x6 : Int32) (H : ((x4 ≤ 0 → ((((x2 + x4) + x5) ≤ x6 → CM S m_Md_price [.ref 153, .int x1, .int (x2 + x4), .int x5, .int x4] (enc σ) (qI (fun v1 τ2 => CM S m_Md_at [.int (x1 + (1 : Int32)), .int ((x2 + x4) + x5), .int (1 : Int32)] (enc τ2) (qI (fun v3 τ4 => (vp_in v3 5082) ∧ (((1000000000 : Int32) ≤ v1 → Q (1000000000 : Int32) τ4) ∧ (¬ (1000000000 : Int32) ≤ v1 → ((((gC τ4 6) v3.toNatClampNeg) < (1000000000 : Int32) → Q (v1 + ((gC τ4 6) v3.toNatClampNeg)) τ4) ∧ (¬ ((gC τ4 6) v3.toNatClampNeg) < (1000000000 : Int32) → Q (1000000000 : Int32) τ4))))))))) ∧ (¬ ((x2 + x4) + x5) ≤ x6 → Q (1000000000 : Int32) σ))) ∧ (¬ x4 ≤ 0 → ((x3 = 0 → Q (1000000000 : Int32) σ) ∧ (¬ x3 = 0 → ((((x2 + x4) + x5) ≤ x6 → CM S m_Md_price [.ref 153, .int x1, .int (x2 + x4), .int x5, .int x4] (enc σ) (qI (fun v9 τ10 => CM S m_Md_at [.int (x1 + (1 : Int32)), .int ((x2 + x4) + x5), .int (1 : Int32)] (enc τ10) (qI (fun v11 τ12 => (vp_in v11 5082) ∧ (((1000000000 : Int32) ≤ v9 → Q (1000000000 : Int32) τ12) ∧ (¬ (1000000000 : Int32) ≤ v9 → ((((gC τ12 6) v11.toNatClampNeg) < (1000000000 : Int32) → Q (v9 + ((gC τ12 6) v11.toNatClampNeg)) τ12) ∧ (¬ ((gC τ12 6) v11.toNatClampNeg) < (1000000000 : Int32) → Q (1000000000 : Int32) τ12))))))))) ∧ (¬ ((x2 + x4) + x5) ≤ x6 → Q (1000000000 : Int32) σ))))))) : BW S m_Md_stands6 0 [some (.ref 153), some (.int x1), some (.int x2), some (.int x3), some (.int x4), some (.int x5), some (.int x6), none, none, none] [] (enc σ) (qI Q) := by
  refine b_iload_n d_Md_stands6_0 rfl rfl ?_
  refine b_iload d_Md_stands6_1 rfl ?_
  refine b_iadd d_Md_stands6_3  ?_
  refine b_istore (ls' := [some (.ref 153), some (.int x1), some (.int x2), some (.int x3), some (.int x4), some (.int x5), some (.int x6), some (.int (x2 + x4)), none, none]) d_Md_stands6_4 (Nat.le_of_ble_eq_true rfl) rfl ?_
  refine b_iload d_Md_stands6_6 rfl ?_
  refine b_if_le (tgt := 15) d_Md_stands6_8 (by decide) (fun c18 => ?_) (fun c18 => ?_)
  · have H := H.1 c18
    refine b_iload d_Md_stands6_15 rfl ?_
    refine b_iload d_Md_stands6_17 rfl ?_
    refine b_iadd d_Md_stands6_19  ?_
    refine b_iload d_Md_stands6_20 rfl ?_
    refine b_icmp_le (tgt := 28) d_Md_stands6_22 (by decide) (fun c8 => ?_) (fun c8 => ?_)
    · have H := H.1 c8
      refine b_aload_n d_Md_stands6_28 rfl rfl ?_
      refine b_iload_n d_Md_stands6_29 rfl rfl ?_
      refine b_iload d_Md_stands6_30 rfl ?_
      refine b_iload d_Md_stands6_32 rfl ?_
      refine b_iload d_Md_stands6_34 rfl ?_
      refine b_callVi (Mc := m_Md_price) (As := [.int x1, .int (x2 + x4), .int x5, .int x4]) (st := []) d_Md_stands6_36 ⟨⟨kA_Md_price.1, kA_Md_price.2.1, kA_Md_price.2.2, by decide⟩, ml_Md_186, kV_Md_price⟩ (eg_153 σ) rfl rfl (Nat.le_of_ble_eq_true rfl) H (fun v1 τ2 H => ?_)
      refine b_istore (ls' := [some (.ref 153), some (.int x1), some (.int x2), some (.int x3), some (.int x4), some (.int x5), some (.int x6), some (.int (x2 + x4)), some (.int v1), none]) d_Md_stands6_39 (Nat.le_of_ble_eq_true rfl) rfl ?_
      refine b_aload_n d_Md_stands6_41 rfl rfl ?_
      refine b_getf (v := .ref 160) d_Md_stands6_42 fl_Md_47 (eg_153 τ2) rfl ?_
      refine b_iload_n d_Md_stands6_45 rfl rfl ?_
      refine b_iconst (v := (1 : Int32)) d_Md_stands6_46 (by decide) ?_
      refine b_iadd d_Md_stands6_47  ?_
      refine b_iload d_Md_stands6_48 rfl ?_
      refine b_iload d_Md_stands6_50 rfl ?_
      refine b_iadd d_Md_stands6_52  ?_
      refine b_iconst (v := (1 : Int32)) d_Md_stands6_53 (by decide) ?_
      refine b_callSi (Mc := m_Md_at) (As := [.int (x1 + (1 : Int32)), .int ((x2 + x4) + x5), .int (1 : Int32)]) (st := [.ref 160]) d_Md_stands6_54 ⟨⟨kA_Md_at.1, kA_Md_at.2.1, kA_Md_at.2.2, by decide⟩, ml_Md_189, kS_Md_at⟩ rfl rfl (Nat.le_of_ble_eq_true rfl) H (fun v3 τ4 H => ?_)
      obtain ⟨h5, H⟩ := H
      refine b_iald d_Md_stands6_57 (eg_160 τ4) h5 ?_
      refine b_st2 (st' := [.int ((gC τ4 6) v3.toNatClampNeg)]) rfl ?_
      refine b_istore (ls' := [some (.ref 153), some (.int x1), some (.int x2), some (.int x3), some (.int x4), some (.int x5), some (.int x6), some (.int (x2 + x4)), some (.int v1), some (.int ((gC τ4 6) v3.toNatClampNeg))]) d_Md_stands6_58 (Nat.le_of_ble_eq_true rfl) rfl ?_
      refine b_iload d_Md_stands6_60 rfl ?_
      refine b_ldc (v := (1000000000 : Int32)) d_Md_stands6_62 cn_Md_178 ?_
      refine b_icmp_ge (tgt := 74) d_Md_stands6_64 (by decide) (fun c7 => ?_) (fun c7 => ?_)
      · have H := H.1 c7
        refine b_ldc (v := (1000000000 : Int32)) d_Md_stands6_74 cn_Md_178 ?_
        refine b_goto (tgt := 84) d_Md_stands6_76 (by decide) ?_
        exact b_iret (ty := .int) d_Md_stands6_84 rfl rfl ⟨_, _, rfl, rfl, H⟩
      · have H := H.2 c7
        refine b_iload d_Md_stands6_67 rfl ?_
        refine b_ldc (v := (1000000000 : Int32)) d_Md_stands6_69 cn_Md_178 ?_
        refine b_icmp_lt (tgt := 79) d_Md_stands6_71 (by decide) (fun c6 => ?_) (fun c6 => ?_)
        · have H := H.1 c6
          refine b_iload d_Md_stands6_79 rfl ?_
          refine b_iload d_Md_stands6_81 rfl ?_
          refine b_iadd d_Md_stands6_83  ?_
          exact b_iret (ty := .int) d_Md_stands6_84 rfl rfl ⟨_, _, rfl, rfl, H⟩
        · have H := H.2 c6
          refine b_ldc (v := (1000000000 : Int32)) d_Md_stands6_74 cn_Md_178 ?_
          refine b_goto (tgt := 84) d_Md_stands6_76 (by decide) ?_
          exact b_iret (ty := .int) d_Md_stands6_84 rfl rfl ⟨_, _, rfl, rfl, H⟩
    · have H := H.2 c8
      refine b_ldc (v := (1000000000 : Int32)) d_Md_stands6_25 cn_Md_178 ?_
      exact b_iret (ty := .int) d_Md_stands6_27 rfl rfl ⟨_, _, rfl, rfl, H⟩
  · have H := H.2 c18
    refine b_iload_n d_Md_stands6_11 rfl rfl ?_
    refine b_if_eq (tgt := 25) d_Md_stands6_12 (by decide) (fun c17 => ?_) (fun c17 => ?_)
    · have H := H.1 c17
      refine b_ldc (v := (1000000000 : Int32)) d_Md_stands6_25 cn_Md_178 ?_
      exact b_iret (ty := .int) d_Md_stands6_27 rfl rfl ⟨_, _, rfl, rfl, H⟩
    · have H := H.2 c17
      refine b_iload d_Md_stands6_15 rfl ?_
      refine b_iload d_Md_stands6_17 rfl ?_
      refine b_iadd d_Md_stands6_19  ?_
      refine b_iload d_Md_stands6_20 rfl ?_
      refine b_icmp_le (tgt := 28) d_Md_stands6_22 (by decide) (fun c16 => ?_) (fun c16 => ?_)
      · have H := H.1 c16
        refine b_aload_n d_Md_stands6_28 rfl rfl ?_
        refine b_iload_n d_Md_stands6_29 rfl rfl ?_
        refine b_iload d_Md_stands6_30 rfl ?_
        refine b_iload d_Md_stands6_32 rfl ?_
        refine b_iload d_Md_stands6_34 rfl ?_
        refine b_callVi (Mc := m_Md_price) (As := [.int x1, .int (x2 + x4), .int x5, .int x4]) (st := []) d_Md_stands6_36 ⟨⟨kA_Md_price.1, kA_Md_price.2.1, kA_Md_price.2.2, by decide⟩, ml_Md_186, kV_Md_price⟩ (eg_153 σ) rfl rfl (Nat.le_of_ble_eq_true rfl) H (fun v9 τ10 H => ?_)
        refine b_istore (ls' := [some (.ref 153), some (.int x1), some (.int x2), some (.int x3), some (.int x4), some (.int x5), some (.int x6), some (.int (x2 + x4)), some (.int v9), none]) d_Md_stands6_39 (Nat.le_of_ble_eq_true rfl) rfl ?_
        refine b_aload_n d_Md_stands6_41 rfl rfl ?_
        refine b_getf (v := .ref 160) d_Md_stands6_42 fl_Md_47 (eg_153 τ10) rfl ?_
        refine b_iload_n d_Md_stands6_45 rfl rfl ?_
        refine b_iconst (v := (1 : Int32)) d_Md_stands6_46 (by decide) ?_
        refine b_iadd d_Md_stands6_47  ?_
        refine b_iload d_Md_stands6_48 rfl ?_
        refine b_iload d_Md_stands6_50 rfl ?_
        refine b_iadd d_Md_stands6_52  ?_
        refine b_iconst (v := (1 : Int32)) d_Md_stands6_53 (by decide) ?_
        refine b_callSi (Mc := m_Md_at) (As := [.int (x1 + (1 : Int32)), .int ((x2 + x4) + x5), .int (1 : Int32)]) (st := [.ref 160]) d_Md_stands6_54 ⟨⟨kA_Md_at.1, kA_Md_at.2.1, kA_Md_at.2.2, by decide⟩, ml_Md_189, kS_Md_at⟩ rfl rfl (Nat.le_of_ble_eq_true rfl) H (fun v11 τ12 H => ?_)
        obtain ⟨h13, H⟩ := H
        refine b_iald d_Md_stands6_57 (eg_160 τ12) h13 ?_
        refine b_st2 (st' := [.int ((gC τ12 6) v11.toNatClampNeg)]) rfl ?_
        refine b_istore (ls' := [some (.ref 153), some (.int x1), some (.int x2), some (.int x3), some (.int x4), some (.int x5), some (.int x6), some (.int (x2 + x4)), some (.int v9), some (.int ((gC τ12 6) v11.toNatClampNeg))]) d_Md_stands6_58 (Nat.le_of_ble_eq_true rfl) rfl ?_
        refine b_iload d_Md_stands6_60 rfl ?_
        refine b_ldc (v := (1000000000 : Int32)) d_Md_stands6_62 cn_Md_178 ?_
        refine b_icmp_ge (tgt := 74) d_Md_stands6_64 (by decide) (fun c15 => ?_) (fun c15 => ?_)
        · have H := H.1 c15
          refine b_ldc (v := (1000000000 : Int32)) d_Md_stands6_74 cn_Md_178 ?_
          refine b_goto (tgt := 84) d_Md_stands6_76 (by decide) ?_
          exact b_iret (ty := .int) d_Md_stands6_84 rfl rfl ⟨_, _, rfl, rfl, H⟩
        · have H := H.2 c15
          refine b_iload d_Md_stands6_67 rfl ?_
          refine b_ldc (v := (1000000000 : Int32)) d_Md_stands6_69 cn_Md_178 ?_
          refine b_icmp_lt (tgt := 79) d_Md_stands6_71 (by decide) (fun c14 => ?_) (fun c14 => ?_)
          · have H := H.1 c14
            refine b_iload d_Md_stands6_79 rfl ?_
            refine b_iload d_Md_stands6_81 rfl ?_
            refine b_iadd d_Md_stands6_83  ?_
            exact b_iret (ty := .int) d_Md_stands6_84 rfl rfl ⟨_, _, rfl, rfl, H⟩
          · have H := H.2 c14
            refine b_ldc (v := (1000000000 : Int32)) d_Md_stands6_74 cn_Md_178 ?_
            refine b_goto (tgt := 84) d_Md_stands6_76 (by decide) ?_
            exact b_iret (ty := .int) d_Md_stands6_84 rfl rfl ⟨_, _, rfl, rfl, H⟩
      · have H := H.2 c16
        refine b_ldc (v := (1000000000 : Int32)) d_Md_stands6_25 cn_Md_178 ?_
        exact b_iret (ty := .int) d_Md_stands6_27 rfl rfl ⟨_, _, rfl, rfl, H⟩
theorem C_Md_stands6 {S : XS} {Q : Int32 → St → Prop} (σ : St) (x1 : Int32) (x2 : Int32) (x3 : Int32) (x4 : Int32) (x5 : Int32) (x6 : Int32) (H : BW S m_Md_stands6 0 [some (.ref 153), some (.int x1), some (.int x2), some (.int x3), some (.int x4), some (.int x5), some (.int x6), none, none, none] [] (enc σ) (qI Q)) : CM S m_Md_stands6 [.ref 153, .int x1, .int x2, .int x3, .int x4, .int x5, .int x6] (enc σ) (qI Q) := b_meth (by decide) (Nat.le_of_ble_eq_true rfl) rfl H
theorem d_Md_gone_0 : decode m_Md_gone.2.1 0 = .ok (.aload_n 0, 1) := by decide +kernel
theorem d_Md_gone_1 : decode m_Md_gone.2.1 1 = .ok (.getfield 47, 3) := by decide +kernel
theorem d_Md_gone_4 : decode m_Md_gone.2.1 4 = .ok (.iload_n 1, 1) := by decide +kernel
theorem d_Md_gone_5 : decode m_Md_gone.2.1 5 = .ok (.iconst 1, 1) := by decide +kernel
theorem d_Md_gone_6 : decode m_Md_gone.2.1 6 = .ok (.iadd, 1) := by decide +kernel
theorem d_Md_gone_7 : decode m_Md_gone.2.1 7 = .ok (.iload_n 2, 1) := by decide +kernel
theorem d_Md_gone_8 : decode m_Md_gone.2.1 8 = .ok (.iload_n 3, 1) := by decide +kernel
theorem d_Md_gone_9 : decode m_Md_gone.2.1 9 = .ok (.invokestatic 189, 3) := by decide +kernel
theorem d_Md_gone_12 : decode m_Md_gone.2.1 12 = .ok (.iaload, 1) := by decide +kernel
theorem d_Md_gone_13 : decode m_Md_gone.2.1 13 = .ok (.istore 4, 2) := by decide +kernel
theorem d_Md_gone_15 : decode m_Md_gone.2.1 15 = .ok (.aload_n 0, 1) := by decide +kernel
theorem d_Md_gone_16 : decode m_Md_gone.2.1 16 = .ok (.getfield 20, 3) := by decide +kernel
theorem d_Md_gone_19 : decode m_Md_gone.2.1 19 = .ok (.iload_n 1, 1) := by decide +kernel
theorem d_Md_gone_20 : decode m_Md_gone.2.1 20 = .ok (.iaload, 1) := by decide +kernel
theorem d_Md_gone_21 : decode m_Md_gone.2.1 21 = .ok (.iconst (-1), 1) := by decide +kernel
theorem d_Md_gone_22 : decode m_Md_gone.2.1 22 = .ok (.if_icmp .eq 10, 3) := by decide +kernel
theorem d_Md_gone_25 : decode m_Md_gone.2.1 25 = .ok (.iload 4, 2) := by decide +kernel
theorem d_Md_gone_27 : decode m_Md_gone.2.1 27 = .ok (.ldc 178, 2) := by decide +kernel
theorem d_Md_gone_29 : decode m_Md_gone.2.1 29 = .ok (.if_icmp .lt 8, 3) := by decide +kernel
theorem d_Md_gone_32 : decode m_Md_gone.2.1 32 = .ok (.ldc 178, 2) := by decide +kernel
theorem d_Md_gone_34 : decode m_Md_gone.2.1 34 = .ok (.goto 12, 3) := by decide +kernel
theorem d_Md_gone_37 : decode m_Md_gone.2.1 37 = .ok (.aload_n 0, 1) := by decide +kernel
theorem d_Md_gone_38 : decode m_Md_gone.2.1 38 = .ok (.getfield 20, 3) := by decide +kernel
theorem d_Md_gone_41 : decode m_Md_gone.2.1 41 = .ok (.iload_n 1, 1) := by decide +kernel
theorem d_Md_gone_42 : decode m_Md_gone.2.1 42 = .ok (.iaload, 1) := by decide +kernel
theorem d_Md_gone_43 : decode m_Md_gone.2.1 43 = .ok (.iload 4, 2) := by decide +kernel
theorem d_Md_gone_45 : decode m_Md_gone.2.1 45 = .ok (.iadd, 1) := by decide +kernel
theorem d_Md_gone_46 : decode m_Md_gone.2.1 46 = .ok (.ireturn, 1) := by decide +kernel
set_option maxHeartbeats 4000000 in
set_option maxRecDepth 100000 in
theorem B_Md_gone_0 {S : XS} {Q : Int32 → St → Prop} (σ : St) (x1 : Int32) (x2 : Int32) (x3 : Int32) (H : CM S m_Md_at [.int (x1 + (1 : Int32)), .int x2, .int x3] (enc σ) (qI (fun v1 τ2 => (vp_in v1 5082) ∧ (vp_in x1 20) ∧ ((((gC τ2 1) x1.toNatClampNeg) = (-1 : Int32) → Q (1000000000 : Int32) τ2) ∧ (¬ ((gC τ2 1) x1.toNatClampNeg) = (-1 : Int32) → ((((gC τ2 6) v1.toNatClampNeg) < (1000000000 : Int32) → Q (((gC τ2 1) x1.toNatClampNeg) + ((gC τ2 6) v1.toNatClampNeg)) τ2) ∧ (¬ ((gC τ2 6) v1.toNatClampNeg) < (1000000000 : Int32) → Q (1000000000 : Int32) τ2))))))) : BW S m_Md_gone 0 [some (.ref 153), some (.int x1), some (.int x2), some (.int x3), none] [] (enc σ) (qI Q) := by
  refine b_aload_n d_Md_gone_0 rfl rfl ?_
  refine b_getf (v := .ref 160) d_Md_gone_1 fl_Md_47 (eg_153 σ) rfl ?_
  refine b_iload_n d_Md_gone_4 rfl rfl ?_
  refine b_iconst (v := (1 : Int32)) d_Md_gone_5 (by decide) ?_
  refine b_iadd d_Md_gone_6  ?_
  refine b_iload_n d_Md_gone_7 rfl rfl ?_
  refine b_iload_n d_Md_gone_8 rfl rfl ?_
  refine b_callSi (Mc := m_Md_at) (As := [.int (x1 + (1 : Int32)), .int x2, .int x3]) (st := [.ref 160]) d_Md_gone_9 ⟨⟨kA_Md_at.1, kA_Md_at.2.1, kA_Md_at.2.2, by decide⟩, ml_Md_189, kS_Md_at⟩ rfl rfl (Nat.le_of_ble_eq_true rfl) H (fun v1 τ2 H => ?_)
  obtain ⟨h3, H⟩ := H
  refine b_iald d_Md_gone_12 (eg_160 τ2) h3 ?_
  refine b_st2 (st' := [.int ((gC τ2 6) v1.toNatClampNeg)]) rfl ?_
  refine b_istore (ls' := [some (.ref 153), some (.int x1), some (.int x2), some (.int x3), some (.int ((gC τ2 6) v1.toNatClampNeg))]) d_Md_gone_13 (Nat.le_of_ble_eq_true rfl) rfl ?_
  refine b_aload_n d_Md_gone_15 rfl rfl ?_
  refine b_getf (v := .ref 155) d_Md_gone_16 fl_Md_20 (eg_153 τ2) rfl ?_
  refine b_iload_n d_Md_gone_19 rfl rfl ?_
  obtain ⟨h4, H⟩ := H
  refine b_iald d_Md_gone_20 (eg_155 τ2) h4 ?_
  refine b_st2 (st' := [.int ((gC τ2 1) x1.toNatClampNeg)]) rfl ?_
  refine b_iconst (v := (-1 : Int32)) d_Md_gone_21 (by decide) ?_
  refine b_icmp_eq (tgt := 32) d_Md_gone_22 (by decide) (fun c6 => ?_) (fun c6 => ?_)
  · have H := H.1 c6
    refine b_ldc (v := (1000000000 : Int32)) d_Md_gone_32 cn_Md_178 ?_
    refine b_goto (tgt := 46) d_Md_gone_34 (by decide) ?_
    exact b_iret (ty := .int) d_Md_gone_46 rfl rfl ⟨_, _, rfl, rfl, H⟩
  · have H := H.2 c6
    refine b_iload d_Md_gone_25 rfl ?_
    refine b_ldc (v := (1000000000 : Int32)) d_Md_gone_27 cn_Md_178 ?_
    refine b_icmp_lt (tgt := 37) d_Md_gone_29 (by decide) (fun c5 => ?_) (fun c5 => ?_)
    · have H := H.1 c5
      refine b_aload_n d_Md_gone_37 rfl rfl ?_
      refine b_getf (v := .ref 155) d_Md_gone_38 fl_Md_20 (eg_153 τ2) rfl ?_
      refine b_iload_n d_Md_gone_41 rfl rfl ?_
      refine b_iald d_Md_gone_42 (eg_155 τ2) h4 ?_
      refine b_st2 (st' := [.int ((gC τ2 1) x1.toNatClampNeg)]) rfl ?_
      refine b_iload d_Md_gone_43 rfl ?_
      refine b_iadd d_Md_gone_45  ?_
      exact b_iret (ty := .int) d_Md_gone_46 rfl rfl ⟨_, _, rfl, rfl, H⟩
    · have H := H.2 c5
      refine b_ldc (v := (1000000000 : Int32)) d_Md_gone_32 cn_Md_178 ?_
      refine b_goto (tgt := 46) d_Md_gone_34 (by decide) ?_
      exact b_iret (ty := .int) d_Md_gone_46 rfl rfl ⟨_, _, rfl, rfl, H⟩
theorem C_Md_gone {S : XS} {Q : Int32 → St → Prop} (σ : St) (x1 : Int32) (x2 : Int32) (x3 : Int32) (H : BW S m_Md_gone 0 [some (.ref 153), some (.int x1), some (.int x2), some (.int x3), none] [] (enc σ) (qI Q)) : CM S m_Md_gone [.ref 153, .int x1, .int x2, .int x3] (enc σ) (qI Q) := b_meth (by decide) (Nat.le_of_ble_eq_true rfl) rfl H
theorem d_Md_fill_0 : decode m_Md_fill.2.1 0 = .ok (.iload_n 1, 1) := by decide +kernel
theorem d_Md_fill_1 : decode m_Md_fill.2.1 1 = .ok (.iconst 1, 1) := by decide +kernel
theorem d_Md_fill_2 : decode m_Md_fill.2.1 2 = .ok (.bipush 120, 2) := by decide +kernel
theorem d_Md_fill_4 : decode m_Md_fill.2.1 4 = .ok (.invokestatic 174, 3) := by decide +kernel
theorem d_Md_fill_7 : decode m_Md_fill.2.1 7 = .ok (.ifCond .ne 5, 3) := by decide +kernel
theorem d_Md_fill_10 : decode m_Md_fill.2.1 10 = .ok (.iconst (-1), 1) := by decide +kernel
theorem d_Md_fill_11 : decode m_Md_fill.2.1 11 = .ok (.ireturn, 1) := by decide +kernel
theorem d_Md_fill_12 : decode m_Md_fill.2.1 12 = .ok (.iconst 0, 1) := by decide +kernel
theorem d_Md_fill_13 : decode m_Md_fill.2.1 13 = .ok (.istore_n 2, 1) := by decide +kernel
theorem d_Md_fill_14 : decode m_Md_fill.2.1 14 = .ok (.iload_n 2, 1) := by decide +kernel
theorem d_Md_fill_15 : decode m_Md_fill.2.1 15 = .ok (.aload_n 0, 1) := by decide +kernel
theorem d_Md_fill_16 : decode m_Md_fill.2.1 16 = .ok (.getfield 17, 3) := by decide +kernel
theorem d_Md_fill_19 : decode m_Md_fill.2.1 19 = .ok (.if_icmp .ge 49, 3) := by decide +kernel
theorem d_Md_fill_22 : decode m_Md_fill.2.1 22 = .ok (.aload_n 0, 1) := by decide +kernel
theorem d_Md_fill_23 : decode m_Md_fill.2.1 23 = .ok (.iload_n 2, 1) := by decide +kernel
theorem d_Md_fill_24 : decode m_Md_fill.2.1 24 = .ok (.invokevirtual 183, 3) := by decide +kernel
theorem d_Md_fill_27 : decode m_Md_fill.2.1 27 = .ok (.iconst 0, 1) := by decide +kernel
theorem d_Md_fill_28 : decode m_Md_fill.2.1 28 = .ok (.istore_n 3, 1) := by decide +kernel
theorem d_Md_fill_29 : decode m_Md_fill.2.1 29 = .ok (.iload_n 3, 1) := by decide +kernel
theorem d_Md_fill_30 : decode m_Md_fill.2.1 30 = .ok (.aload_n 0, 1) := by decide +kernel
theorem d_Md_fill_31 : decode m_Md_fill.2.1 31 = .ok (.getfield 23, 3) := by decide +kernel
theorem d_Md_fill_34 : decode m_Md_fill.2.1 34 = .ok (.iload_n 2, 1) := by decide +kernel
theorem d_Md_fill_35 : decode m_Md_fill.2.1 35 = .ok (.iaload, 1) := by decide +kernel
theorem d_Md_fill_36 : decode m_Md_fill.2.1 36 = .ok (.if_icmp .gt 26, 3) := by decide +kernel
theorem d_Md_fill_39 : decode m_Md_fill.2.1 39 = .ok (.aload_n 0, 1) := by decide +kernel
theorem d_Md_fill_40 : decode m_Md_fill.2.1 40 = .ok (.getfield 44, 3) := by decide +kernel
theorem d_Md_fill_43 : decode m_Md_fill.2.1 43 = .ok (.bipush 31, 2) := by decide +kernel
theorem d_Md_fill_45 : decode m_Md_fill.2.1 45 = .ok (.iload_n 2, 1) := by decide +kernel
theorem d_Md_fill_46 : decode m_Md_fill.2.1 46 = .ok (.imul, 1) := by decide +kernel
theorem d_Md_fill_47 : decode m_Md_fill.2.1 47 = .ok (.iload_n 3, 1) := by decide +kernel
theorem d_Md_fill_48 : decode m_Md_fill.2.1 48 = .ok (.iadd, 1) := by decide +kernel
theorem d_Md_fill_49 : decode m_Md_fill.2.1 49 = .ok (.aload_n 0, 1) := by decide +kernel
theorem d_Md_fill_50 : decode m_Md_fill.2.1 50 = .ok (.getfield 41, 3) := by decide +kernel
theorem d_Md_fill_53 : decode m_Md_fill.2.1 53 = .ok (.iload_n 3, 1) := by decide +kernel
theorem d_Md_fill_54 : decode m_Md_fill.2.1 54 = .ok (.iaload, 1) := by decide +kernel
theorem d_Md_fill_55 : decode m_Md_fill.2.1 55 = .ok (.iastore, 1) := by decide +kernel
theorem d_Md_fill_56 : decode m_Md_fill.2.1 56 = .ok (.iinc 3 1, 3) := by decide +kernel
theorem d_Md_fill_59 : decode m_Md_fill.2.1 59 = .ok (.goto (-30), 3) := by decide +kernel
theorem d_Md_fill_62 : decode m_Md_fill.2.1 62 = .ok (.iinc 2 1, 3) := by decide +kernel
theorem d_Md_fill_65 : decode m_Md_fill.2.1 65 = .ok (.goto (-51), 3) := by decide +kernel
theorem d_Md_fill_68 : decode m_Md_fill.2.1 68 = .ok (.aload_n 0, 1) := by decide +kernel
theorem d_Md_fill_69 : decode m_Md_fill.2.1 69 = .ok (.getfield 17, 3) := by decide +kernel
theorem d_Md_fill_72 : decode m_Md_fill.2.1 72 = .ok (.istore_n 2, 1) := by decide +kernel
theorem d_Md_fill_73 : decode m_Md_fill.2.1 73 = .ok (.iload_n 2, 1) := by decide +kernel
theorem d_Md_fill_74 : decode m_Md_fill.2.1 74 = .ok (.ifCond .lt 156, 3) := by decide +kernel
theorem d_Md_fill_77 : decode m_Md_fill.2.1 77 = .ok (.iconst 0, 1) := by decide +kernel
theorem d_Md_fill_78 : decode m_Md_fill.2.1 78 = .ok (.istore_n 3, 1) := by decide +kernel
theorem d_Md_fill_79 : decode m_Md_fill.2.1 79 = .ok (.iload_n 3, 1) := by decide +kernel
theorem d_Md_fill_80 : decode m_Md_fill.2.1 80 = .ok (.iload_n 1, 1) := by decide +kernel
theorem d_Md_fill_81 : decode m_Md_fill.2.1 81 = .ok (.if_icmp .gt 143, 3) := by decide +kernel
theorem d_Md_fill_84 : decode m_Md_fill.2.1 84 = .ok (.iconst 0, 1) := by decide +kernel
theorem d_Md_fill_85 : decode m_Md_fill.2.1 85 = .ok (.istore 4, 2) := by decide +kernel
theorem d_Md_fill_87 : decode m_Md_fill.2.1 87 = .ok (.iload 4, 2) := by decide +kernel
theorem d_Md_fill_89 : decode m_Md_fill.2.1 89 = .ok (.iconst 2, 1) := by decide +kernel
theorem d_Md_fill_90 : decode m_Md_fill.2.1 90 = .ok (.if_icmp .ge 128, 3) := by decide +kernel
theorem d_Md_fill_93 : decode m_Md_fill.2.1 93 = .ok (.iload_n 2, 1) := by decide +kernel
theorem d_Md_fill_94 : decode m_Md_fill.2.1 94 = .ok (.aload_n 0, 1) := by decide +kernel
theorem d_Md_fill_95 : decode m_Md_fill.2.1 95 = .ok (.getfield 17, 3) := by decide +kernel
theorem d_Md_fill_98 : decode m_Md_fill.2.1 98 = .ok (.if_icmp .ne 12, 3) := by decide +kernel
theorem d_Md_fill_101 : decode m_Md_fill.2.1 101 = .ok (.iload_n 3, 1) := by decide +kernel
theorem d_Md_fill_102 : decode m_Md_fill.2.1 102 = .ok (.iload_n 1, 1) := by decide +kernel
theorem d_Md_fill_103 : decode m_Md_fill.2.1 103 = .ok (.if_icmp .ne 7, 3) := by decide +kernel
theorem d_Md_fill_106 : decode m_Md_fill.2.1 106 = .ok (.iconst 0, 1) := by decide +kernel
theorem d_Md_fill_107 : decode m_Md_fill.2.1 107 = .ok (.goto 5, 3) := by decide +kernel
theorem d_Md_fill_110 : decode m_Md_fill.2.1 110 = .ok (.ldc 178, 2) := by decide +kernel
theorem d_Md_fill_112 : decode m_Md_fill.2.1 112 = .ok (.istore 5, 2) := by decide +kernel
theorem d_Md_fill_114 : decode m_Md_fill.2.1 114 = .ok (.iload_n 2, 1) := by decide +kernel
theorem d_Md_fill_115 : decode m_Md_fill.2.1 115 = .ok (.aload_n 0, 1) := by decide +kernel
theorem d_Md_fill_116 : decode m_Md_fill.2.1 116 = .ok (.getfield 17, 3) := by decide +kernel
theorem d_Md_fill_119 : decode m_Md_fill.2.1 119 = .ok (.if_icmp .ge 79, 3) := by decide +kernel
theorem d_Md_fill_122 : decode m_Md_fill.2.1 122 = .ok (.aload_n 0, 1) := by decide +kernel
theorem d_Md_fill_123 : decode m_Md_fill.2.1 123 = .ok (.iload_n 2, 1) := by decide +kernel
theorem d_Md_fill_124 : decode m_Md_fill.2.1 124 = .ok (.iload_n 3, 1) := by decide +kernel
theorem d_Md_fill_125 : decode m_Md_fill.2.1 125 = .ok (.iload 4, 2) := by decide +kernel
theorem d_Md_fill_127 : decode m_Md_fill.2.1 127 = .ok (.invokevirtual 191, 3) := by decide +kernel
theorem d_Md_fill_130 : decode m_Md_fill.2.1 130 = .ok (.istore 5, 2) := by decide +kernel
theorem d_Md_fill_132 : decode m_Md_fill.2.1 132 = .ok (.iconst 0, 1) := by decide +kernel
theorem d_Md_fill_133 : decode m_Md_fill.2.1 133 = .ok (.istore 6, 2) := by decide +kernel
theorem d_Md_fill_135 : decode m_Md_fill.2.1 135 = .ok (.iload 6, 2) := by decide +kernel
theorem d_Md_fill_137 : decode m_Md_fill.2.1 137 = .ok (.iconst 3, 1) := by decide +kernel
theorem d_Md_fill_138 : decode m_Md_fill.2.1 138 = .ok (.if_icmp .ge 60, 3) := by decide +kernel
theorem d_Md_fill_141 : decode m_Md_fill.2.1 141 = .ok (.iconst 0, 1) := by decide +kernel
theorem d_Md_fill_142 : decode m_Md_fill.2.1 142 = .ok (.istore 7, 2) := by decide +kernel
theorem d_Md_fill_144 : decode m_Md_fill.2.1 144 = .ok (.iload 7, 2) := by decide +kernel
theorem d_Md_fill_146 : decode m_Md_fill.2.1 146 = .ok (.aload_n 0, 1) := by decide +kernel
theorem d_Md_fill_147 : decode m_Md_fill.2.1 147 = .ok (.getfield 23, 3) := by decide +kernel
theorem d_Md_fill_150 : decode m_Md_fill.2.1 150 = .ok (.iload_n 2, 1) := by decide +kernel
theorem d_Md_fill_151 : decode m_Md_fill.2.1 151 = .ok (.iaload, 1) := by decide +kernel
theorem d_Md_fill_152 : decode m_Md_fill.2.1 152 = .ok (.if_icmp .gt 40, 3) := by decide +kernel
theorem d_Md_fill_155 : decode m_Md_fill.2.1 155 = .ok (.aload_n 0, 1) := by decide +kernel
theorem d_Md_fill_156 : decode m_Md_fill.2.1 156 = .ok (.iload_n 2, 1) := by decide +kernel
theorem d_Md_fill_157 : decode m_Md_fill.2.1 157 = .ok (.iload_n 3, 1) := by decide +kernel
theorem d_Md_fill_158 : decode m_Md_fill.2.1 158 = .ok (.iload 4, 2) := by decide +kernel
theorem d_Md_fill_160 : decode m_Md_fill.2.1 160 = .ok (.iload 6, 2) := by decide +kernel
theorem d_Md_fill_162 : decode m_Md_fill.2.1 162 = .ok (.iload 7, 2) := by decide +kernel
theorem d_Md_fill_164 : decode m_Md_fill.2.1 164 = .ok (.iload_n 1, 1) := by decide +kernel
theorem d_Md_fill_165 : decode m_Md_fill.2.1 165 = .ok (.invokevirtual 194, 3) := by decide +kernel
theorem d_Md_fill_168 : decode m_Md_fill.2.1 168 = .ok (.istore 8, 2) := by decide +kernel
theorem d_Md_fill_170 : decode m_Md_fill.2.1 170 = .ok (.iload 8, 2) := by decide +kernel
theorem d_Md_fill_172 : decode m_Md_fill.2.1 172 = .ok (.iload 5, 2) := by decide +kernel
theorem d_Md_fill_174 : decode m_Md_fill.2.1 174 = .ok (.if_icmp .ge 8, 3) := by decide +kernel
theorem d_Md_fill_177 : decode m_Md_fill.2.1 177 = .ok (.iload 8, 2) := by decide +kernel
theorem d_Md_fill_179 : decode m_Md_fill.2.1 179 = .ok (.goto 5, 3) := by decide +kernel
theorem d_Md_fill_182 : decode m_Md_fill.2.1 182 = .ok (.iload 5, 2) := by decide +kernel
theorem d_Md_fill_184 : decode m_Md_fill.2.1 184 = .ok (.istore 5, 2) := by decide +kernel
theorem d_Md_fill_186 : decode m_Md_fill.2.1 186 = .ok (.iinc 7 1, 3) := by decide +kernel
theorem d_Md_fill_189 : decode m_Md_fill.2.1 189 = .ok (.goto (-45), 3) := by decide +kernel
theorem d_Md_fill_192 : decode m_Md_fill.2.1 192 = .ok (.iinc 6 1, 3) := by decide +kernel
theorem d_Md_fill_195 : decode m_Md_fill.2.1 195 = .ok (.goto (-60), 3) := by decide +kernel
theorem d_Md_fill_198 : decode m_Md_fill.2.1 198 = .ok (.aload_n 0, 1) := by decide +kernel
theorem d_Md_fill_199 : decode m_Md_fill.2.1 199 = .ok (.getfield 47, 3) := by decide +kernel
theorem d_Md_fill_202 : decode m_Md_fill.2.1 202 = .ok (.iload_n 2, 1) := by decide +kernel
theorem d_Md_fill_203 : decode m_Md_fill.2.1 203 = .ok (.iload_n 3, 1) := by decide +kernel
theorem d_Md_fill_204 : decode m_Md_fill.2.1 204 = .ok (.iload 4, 2) := by decide +kernel
theorem d_Md_fill_206 : decode m_Md_fill.2.1 206 = .ok (.invokestatic 189, 3) := by decide +kernel
theorem d_Md_fill_209 : decode m_Md_fill.2.1 209 = .ok (.iload 5, 2) := by decide +kernel
theorem d_Md_fill_211 : decode m_Md_fill.2.1 211 = .ok (.iastore, 1) := by decide +kernel
theorem d_Md_fill_212 : decode m_Md_fill.2.1 212 = .ok (.iinc 4 1, 3) := by decide +kernel
theorem d_Md_fill_215 : decode m_Md_fill.2.1 215 = .ok (.goto (-128), 3) := by decide +kernel
theorem d_Md_fill_218 : decode m_Md_fill.2.1 218 = .ok (.iinc 3 1, 3) := by decide +kernel
theorem d_Md_fill_221 : decode m_Md_fill.2.1 221 = .ok (.goto (-142), 3) := by decide +kernel
theorem d_Md_fill_224 : decode m_Md_fill.2.1 224 = .ok (.iinc 2 (-1), 3) := by decide +kernel
theorem d_Md_fill_227 : decode m_Md_fill.2.1 227 = .ok (.goto (-154), 3) := by decide +kernel
theorem d_Md_fill_230 : decode m_Md_fill.2.1 230 = .ok (.aload_n 0, 1) := by decide +kernel
theorem d_Md_fill_231 : decode m_Md_fill.2.1 231 = .ok (.getfield 47, 3) := by decide +kernel
theorem d_Md_fill_234 : decode m_Md_fill.2.1 234 = .ok (.iconst 0, 1) := by decide +kernel
theorem d_Md_fill_235 : decode m_Md_fill.2.1 235 = .ok (.iaload, 1) := by decide +kernel
theorem d_Md_fill_236 : decode m_Md_fill.2.1 236 = .ok (.ldc 178, 2) := by decide +kernel
theorem d_Md_fill_238 : decode m_Md_fill.2.1 238 = .ok (.if_icmp .lt 6, 3) := by decide +kernel
theorem d_Md_fill_241 : decode m_Md_fill.2.1 241 = .ok (.bipush (-2), 2) := by decide +kernel
theorem d_Md_fill_243 : decode m_Md_fill.2.1 243 = .ok (.ireturn, 1) := by decide +kernel
theorem d_Md_fill_244 : decode m_Md_fill.2.1 244 = .ok (.aload_n 0, 1) := by decide +kernel
theorem d_Md_fill_245 : decode m_Md_fill.2.1 245 = .ok (.iload_n 1, 1) := by decide +kernel
theorem d_Md_fill_246 : decode m_Md_fill.2.1 246 = .ok (.invokevirtual 198, 3) := by decide +kernel
theorem d_Md_fill_249 : decode m_Md_fill.2.1 249 = .ok (.aload_n 0, 1) := by decide +kernel
theorem d_Md_fill_250 : decode m_Md_fill.2.1 250 = .ok (.getfield 47, 3) := by decide +kernel
theorem d_Md_fill_253 : decode m_Md_fill.2.1 253 = .ok (.iconst 0, 1) := by decide +kernel
theorem d_Md_fill_254 : decode m_Md_fill.2.1 254 = .ok (.iaload, 1) := by decide +kernel
theorem d_Md_fill_255 : decode m_Md_fill.2.1 255 = .ok (.ireturn, 1) := by decide +kernel
set_option maxHeartbeats 4000000 in
set_option maxRecDepth 100000 in
theorem B_Md_fill_0 {S : XS} {Q : Int32 → St → Prop} (σ : St) (x1 : Int32) (H : CM S m_Md_is [.int x1, .int (1 : Int32), .int (120 : Int32)] (enc σ) (qI (fun v1 τ2 => ((¬ v1 = 0 → BW S m_Md_fill 14 [some (.ref 153), some (.int x1), some (.int (0 : Int32)), none, none, none, none, none, none] [] (enc τ2) (qI Q)) ∧ (v1 = 0 → Q (-1 : Int32) τ2))))) : BW S m_Md_fill 0 [some (.ref 153), some (.int x1), none, none, none, none, none, none, none] [] (enc σ) (qI Q) := by
  refine b_iload_n d_Md_fill_0 rfl rfl ?_
  refine b_iconst (v := (1 : Int32)) d_Md_fill_1 (by decide) ?_
  refine b_bipush (v := (120 : Int32)) d_Md_fill_2 (by decide) ?_
  refine b_callSi (Mc := m_Md_is) (As := [.int x1, .int (1 : Int32), .int (120 : Int32)]) (st := []) d_Md_fill_4 ⟨⟨kA_Md_is.1, kA_Md_is.2.1, kA_Md_is.2.2, by decide⟩, ml_Md_174, kS_Md_is⟩ rfl rfl (Nat.le_of_ble_eq_true rfl) H (fun v1 τ2 H => ?_)
  refine b_if_ne (tgt := 12) d_Md_fill_7 (by decide) (fun c3 => ?_) (fun c3 => ?_)
  · have H := H.1 c3
    refine b_iconst (v := (0 : Int32)) d_Md_fill_12 (by decide) ?_
    refine b_istore_n (ls' := [some (.ref 153), some (.int x1), some (.int (0 : Int32)), none, none, none, none, none, none]) d_Md_fill_13 rfl (Nat.le_of_ble_eq_true rfl) rfl ?_
    exact b_mask [true, true, true, true, true, true, true, true, true] rfl H
  · have H := H.2 c3
    refine b_iconst (v := (-1 : Int32)) d_Md_fill_10 (by decide) ?_
    exact b_iret (ty := .int) d_Md_fill_11 rfl rfl ⟨_, _, rfl, rfl, H⟩
set_option maxHeartbeats 4000000 in
set_option maxRecDepth 100000 in
theorem B_Md_fill_14 {S : XS} {Q : Int32 → St → Prop} (σ : St) (x1 : Int32) (x2 : Int32) (H : (((gY σ 1) ≤ x2 → BW S m_Md_fill 73 [some (.ref 153), some (.int x1), some (.int (gY σ 1)), none, none, none, none, none, none] [] (enc σ) (qI Q)) ∧ (¬ (gY σ 1) ≤ x2 → CM S m_Md_breaks [.ref 153, .int x2] (enc σ) (qV (fun τ5 => BW S m_Md_fill 29 [some (.ref 153), some (.int x1), some (.int x2), some (.int (0 : Int32)), none, none, none, none, none] [] (enc τ5) (qI Q)))))) : BW S m_Md_fill 14 [some (.ref 153), some (.int x1), some (.int x2), none, none, none, none, none, none] [] (enc σ) (qI Q) := by
  refine b_iload_n d_Md_fill_14 rfl rfl ?_
  refine b_aload_n d_Md_fill_15 rfl rfl ?_
  refine b_getf (v := .int (gY σ 1)) d_Md_fill_16 fl_Md_17 (eg_153 σ) rfl ?_
  refine b_icmp_ge (tgt := 68) d_Md_fill_19 (by decide) (fun c6 => ?_) (fun c6 => ?_)
  · have H := H.1 c6
    refine b_aload_n d_Md_fill_68 rfl rfl ?_
    refine b_getf (v := .int (gY σ 1)) d_Md_fill_69 fl_Md_17 (eg_153 σ) rfl ?_
    refine b_istore_n (ls' := [some (.ref 153), some (.int x1), some (.int (gY σ 1)), none, none, none, none, none, none]) d_Md_fill_72 rfl (Nat.le_of_ble_eq_true rfl) rfl ?_
    exact b_mask [true, true, true, true, true, true, true, true, true] rfl H
  · have H := H.2 c6
    refine b_aload_n d_Md_fill_22 rfl rfl ?_
    refine b_iload_n d_Md_fill_23 rfl rfl ?_
    refine b_callVv (Mc := m_Md_breaks) (As := [.int x2]) (st := []) d_Md_fill_24 ⟨⟨kA_Md_breaks.1, kA_Md_breaks.2.1, kA_Md_breaks.2.2, by decide⟩, ml_Md_183, kV_Md_breaks⟩ (eg_153 σ) rfl rfl (Nat.le_of_ble_eq_true rfl) H (fun τ5 H => ?_)
    refine b_iconst (v := (0 : Int32)) d_Md_fill_27 (by decide) ?_
    refine b_istore_n (ls' := [some (.ref 153), some (.int x1), some (.int x2), some (.int (0 : Int32)), none, none, none, none, none]) d_Md_fill_28 rfl (Nat.le_of_ble_eq_true rfl) rfl ?_
    exact b_mask [true, true, true, true, true, true, true, true, true] rfl H
set_option maxHeartbeats 4000000 in
set_option maxRecDepth 100000 in
theorem B_Md_fill_73 {S : XS} {Q : Int32 → St → Prop} (σ : St) (x1 : Int32) (x2 : Int32) (H : ((x2 < 0 → (vp_in (0 : Int32) 5082) ∧ ((((gC σ 6) (0 : Int32).toNatClampNeg) < (1000000000 : Int32) → CM S m_Md_tells [.ref 153, .int x1] (enc σ) (qV (fun τ9 => (vp_in (0 : Int32) 5082) ∧ Q ((gC τ9 6) (0 : Int32).toNatClampNeg) τ9))) ∧ (¬ ((gC σ 6) (0 : Int32).toNatClampNeg) < (1000000000 : Int32) → Q (-2 : Int32) σ))) ∧ (¬ x2 < 0 → BW S m_Md_fill 79 [some (.ref 153), some (.int x1), some (.int x2), some (.int (0 : Int32)), none, none, none, none, none] [] (enc σ) (qI Q)))) : BW S m_Md_fill 73 [some (.ref 153), some (.int x1), some (.int x2), none, none, none, none, none, none] [] (enc σ) (qI Q) := by
  refine b_iload_n d_Md_fill_73 rfl rfl ?_
  refine b_if_lt (tgt := 230) d_Md_fill_74 (by decide) (fun c12 => ?_) (fun c12 => ?_)
  · have H := H.1 c12
    refine b_aload_n d_Md_fill_230 rfl rfl ?_
    refine b_getf (v := .ref 160) d_Md_fill_231 fl_Md_47 (eg_153 σ) rfl ?_
    refine b_iconst (v := (0 : Int32)) d_Md_fill_234 (by decide) ?_
    obtain ⟨h7, H⟩ := H
    refine b_iald d_Md_fill_235 (eg_160 σ) h7 ?_
    refine b_st2 (st' := [.int ((gC σ 6) (0 : Int32).toNatClampNeg)]) rfl ?_
    refine b_ldc (v := (1000000000 : Int32)) d_Md_fill_236 cn_Md_178 ?_
    refine b_icmp_lt (tgt := 244) d_Md_fill_238 (by decide) (fun c11 => ?_) (fun c11 => ?_)
    · have H := H.1 c11
      refine b_aload_n d_Md_fill_244 rfl rfl ?_
      refine b_iload_n d_Md_fill_245 rfl rfl ?_
      refine b_callVv (Mc := m_Md_tells) (As := [.int x1]) (st := []) d_Md_fill_246 ⟨⟨kA_Md_tells.1, kA_Md_tells.2.1, kA_Md_tells.2.2, by decide⟩, ml_Md_198, kV_Md_tells⟩ (eg_153 σ) rfl rfl (Nat.le_of_ble_eq_true rfl) H (fun τ9 H => ?_)
      refine b_aload_n d_Md_fill_249 rfl rfl ?_
      refine b_getf (v := .ref 160) d_Md_fill_250 fl_Md_47 (eg_153 τ9) rfl ?_
      refine b_iconst (v := (0 : Int32)) d_Md_fill_253 (by decide) ?_
      obtain ⟨h10, H⟩ := H
      refine b_iald d_Md_fill_254 (eg_160 τ9) h10 ?_
      refine b_st2 (st' := [.int ((gC τ9 6) (0 : Int32).toNatClampNeg)]) rfl ?_
      exact b_iret (ty := .int) d_Md_fill_255 rfl rfl ⟨_, _, rfl, rfl, H⟩
    · have H := H.2 c11
      refine b_bipush (v := (-2 : Int32)) d_Md_fill_241 (by decide) ?_
      exact b_iret (ty := .int) d_Md_fill_243 rfl rfl ⟨_, _, rfl, rfl, H⟩
  · have H := H.2 c12
    refine b_iconst (v := (0 : Int32)) d_Md_fill_77 (by decide) ?_
    refine b_istore_n (ls' := [some (.ref 153), some (.int x1), some (.int x2), some (.int (0 : Int32)), none, none, none, none, none]) d_Md_fill_78 rfl (Nat.le_of_ble_eq_true rfl) rfl ?_
    exact b_mask [true, true, true, true, true, true, true, true, true] rfl H
set_option maxHeartbeats 4000000 in
set_option maxRecDepth 100000 in
theorem B_Md_fill_29 {S : XS} {Q : Int32 → St → Prop} (σ : St) (x1 : Int32) (x2 : Int32) (x3 : Int32) (H : (vp_in x2 20) ∧ ((((gC σ 2) x2.toNatClampNeg) < x3 → BW S m_Md_fill 14 [some (.ref 153), some (.int x1), some (.int (x2 + (1 : Int32))), none, none, none, none, none, none] [] (enc σ) (qI Q)) ∧ (¬ ((gC σ 2) x2.toNatClampNeg) < x3 → (vp_in x3 961) ∧ (vp_in (((31 : Int32) * x2) + x3) 620) ∧ BW S m_Md_fill 29 [some (.ref 153), some (.int x1), some (.int x2), some (.int (x3 + (1 : Int32))), none, none, none, none, none] [] (enc (sC σ 5 (upd (gC σ 5) (((31 : Int32) * x2) + x3).toNatClampNeg ((gC σ 4) x3.toNatClampNeg)))) (qI Q)))) : BW S m_Md_fill 29 [some (.ref 153), some (.int x1), some (.int x2), some (.int x3), none, none, none, none, none] [] (enc σ) (qI Q) := by
  refine b_iload_n d_Md_fill_29 rfl rfl ?_
  refine b_aload_n d_Md_fill_30 rfl rfl ?_
  refine b_getf (v := .ref 156) d_Md_fill_31 fl_Md_23 (eg_153 σ) rfl ?_
  refine b_iload_n d_Md_fill_34 rfl rfl ?_
  obtain ⟨h13, H⟩ := H
  refine b_iald d_Md_fill_35 (eg_156 σ) h13 ?_
  refine b_st2 (st' := [.int ((gC σ 2) x2.toNatClampNeg), .int x3]) rfl ?_
  refine b_icmp_gt (tgt := 62) d_Md_fill_36 (by decide) (fun c16 => ?_) (fun c16 => ?_)
  · have H := H.1 c16
    refine b_iinc (v := (x2 + (1 : Int32))) (ls' := [some (.ref 153), some (.int x1), some (.int (x2 + (1 : Int32))), some (.int x3), none, none, none, none, none]) d_Md_fill_62 rfl rfl (Nat.le_of_ble_eq_true rfl) rfl ?_
    refine b_goto (tgt := 14) d_Md_fill_65 (by decide) ?_
    exact b_mask [true, true, true, false, true, true, true, true, true] rfl H
  · have H := H.2 c16
    refine b_aload_n d_Md_fill_39 rfl rfl ?_
    refine b_getf (v := .ref 159) d_Md_fill_40 fl_Md_44 (eg_153 σ) rfl ?_
    refine b_bipush (v := (31 : Int32)) d_Md_fill_43 (by decide) ?_
    refine b_iload_n d_Md_fill_45 rfl rfl ?_
    refine b_imul d_Md_fill_46  ?_
    refine b_iload_n d_Md_fill_47 rfl rfl ?_
    refine b_iadd d_Md_fill_48  ?_
    refine b_aload_n d_Md_fill_49 rfl rfl ?_
    refine b_getf (v := .ref 158) d_Md_fill_50 fl_Md_41 (eg_153 σ) rfl ?_
    refine b_iload_n d_Md_fill_53 rfl rfl ?_
    obtain ⟨h14, H⟩ := H
    refine b_iald d_Md_fill_54 (eg_158 σ) h14 ?_
    refine b_st2 (st' := [.int ((gC σ 4) x3.toNatClampNeg), .int (((31 : Int32) * x2) + x3), .ref 159]) rfl ?_
    obtain ⟨h15, H⟩ := H
    refine b_iast (h1 := enc (sC σ 5 (upd (gC σ 5) (((31 : Int32) * x2) + x3).toNatClampNeg ((gC σ 4) x3.toNatClampNeg)))) d_Md_fill_55 (eg_159 σ) h15 (es_159 σ (upd (gC σ 5) (((31 : Int32) * x2) + x3).toNatClampNeg ((gC σ 4) x3.toNatClampNeg))) ?_
    refine b_iinc (v := (x3 + (1 : Int32))) (ls' := [some (.ref 153), some (.int x1), some (.int x2), some (.int (x3 + (1 : Int32))), none, none, none, none, none]) d_Md_fill_56 rfl rfl (Nat.le_of_ble_eq_true rfl) rfl ?_
    refine b_goto (tgt := 29) d_Md_fill_59 (by decide) ?_
    exact b_mask [true, true, true, true, true, true, true, true, true] rfl H
set_option maxHeartbeats 4000000 in
set_option maxRecDepth 100000 in
theorem B_Md_fill_79 {S : XS} {Q : Int32 → St → Prop} (σ : St) (x1 : Int32) (x2 : Int32) (x3 : Int32) (H : ((x1 < x3 → BW S m_Md_fill 73 [some (.ref 153), some (.int x1), some (.int (x2 + (-1 : Int32))), none, none, none, none, none, none] [] (enc σ) (qI Q)) ∧ (¬ x1 < x3 → BW S m_Md_fill 87 [some (.ref 153), some (.int x1), some (.int x2), some (.int x3), some (.int (0 : Int32)), none, none, none, none] [] (enc σ) (qI Q)))) : BW S m_Md_fill 79 [some (.ref 153), some (.int x1), some (.int x2), some (.int x3), none, none, none, none, none] [] (enc σ) (qI Q) := by
  refine b_iload_n d_Md_fill_79 rfl rfl ?_
  refine b_iload_n d_Md_fill_80 rfl rfl ?_
  refine b_icmp_gt (tgt := 224) d_Md_fill_81 (by decide) (fun c17 => ?_) (fun c17 => ?_)
  · have H := H.1 c17
    refine b_iinc (v := (x2 + (-1 : Int32))) (ls' := [some (.ref 153), some (.int x1), some (.int (x2 + (-1 : Int32))), some (.int x3), none, none, none, none, none]) d_Md_fill_224 rfl rfl (Nat.le_of_ble_eq_true rfl) rfl ?_
    refine b_goto (tgt := 73) d_Md_fill_227 (by decide) ?_
    exact b_mask [true, true, true, false, true, true, true, true, true] rfl H
  · have H := H.2 c17
    refine b_iconst (v := (0 : Int32)) d_Md_fill_84 (by decide) ?_
    refine b_istore (ls' := [some (.ref 153), some (.int x1), some (.int x2), some (.int x3), some (.int (0 : Int32)), none, none, none, none]) d_Md_fill_85 (Nat.le_of_ble_eq_true rfl) rfl ?_
    exact b_mask [true, true, true, true, true, true, true, true, true] rfl H
set_option maxHeartbeats 4000000 in
set_option maxRecDepth 100000 in
theorem B_Md_fill_87 {S : XS} {Q : Int32 → St → Prop} (σ : St) (x1 : Int32) (x2 : Int32) (x3 : Int32) (x4 : Int32) (H : (((2 : Int32) ≤ x4 → BW S m_Md_fill 79 [some (.ref 153), some (.int x1), some (.int x2), some (.int (x3 + (1 : Int32))), none, none, none, none, none] [] (enc σ) (qI Q)) ∧ (¬ (2 : Int32) ≤ x4 → ((¬ x2 = (gY σ 1) → (((gY σ 1) ≤ x2 → CM S m_Md_at [.int x2, .int x3, .int x4] (enc σ) (qI (fun v18 τ19 => (vp_in v18 5082) ∧ BW S m_Md_fill 87 [some (.ref 153), some (.int x1), some (.int x2), some (.int x3), some (.int (x4 + (1 : Int32))), none, none, none, none] [] (enc (sC τ19 6 (upd (gC τ19 6) v18.toNatClampNeg (1000000000 : Int32)))) (qI Q)))) ∧ (¬ (gY σ 1) ≤ x2 → CM S m_Md_gone [.ref 153, .int x2, .int x3, .int x4] (enc σ) (qI (fun v21 τ22 => BW S m_Md_fill 135 [some (.ref 153), some (.int x1), some (.int x2), some (.int x3), some (.int x4), some (.int v21), some (.int (0 : Int32)), none, none] [] (enc τ22) (qI Q)))))) ∧ (x2 = (gY σ 1) → ((¬ x3 = x1 → (((gY σ 1) ≤ x2 → CM S m_Md_at [.int x2, .int x3, .int x4] (enc σ) (qI (fun v24 τ25 => (vp_in v24 5082) ∧ BW S m_Md_fill 87 [some (.ref 153), some (.int x1), some (.int x2), some (.int x3), some (.int (x4 + (1 : Int32))), none, none, none, none] [] (enc (sC τ25 6 (upd (gC τ25 6) v24.toNatClampNeg (1000000000 : Int32)))) (qI Q)))) ∧ (¬ (gY σ 1) ≤ x2 → CM S m_Md_gone [.ref 153, .int x2, .int x3, .int x4] (enc σ) (qI (fun v27 τ28 => BW S m_Md_fill 135 [some (.ref 153), some (.int x1), some (.int x2), some (.int x3), some (.int x4), some (.int v27), some (.int (0 : Int32)), none, none] [] (enc τ28) (qI Q)))))) ∧ (x3 = x1 → (((gY σ 1) ≤ x2 → CM S m_Md_at [.int x2, .int x3, .int x4] (enc σ) (qI (fun v30 τ31 => (vp_in v30 5082) ∧ BW S m_Md_fill 87 [some (.ref 153), some (.int x1), some (.int x2), some (.int x3), some (.int (x4 + (1 : Int32))), none, none, none, none] [] (enc (sC τ31 6 (upd (gC τ31 6) v30.toNatClampNeg (0 : Int32)))) (qI Q)))) ∧ (¬ (gY σ 1) ≤ x2 → CM S m_Md_gone [.ref 153, .int x2, .int x3, .int x4] (enc σ) (qI (fun v33 τ34 => BW S m_Md_fill 135 [some (.ref 153), some (.int x1), some (.int x2), some (.int x3), some (.int x4), some (.int v33), some (.int (0 : Int32)), none, none] [] (enc τ34) (qI Q)))))))))))) : BW S m_Md_fill 87 [some (.ref 153), some (.int x1), some (.int x2), some (.int x3), some (.int x4), none, none, none, none] [] (enc σ) (qI Q) := by
  refine b_iload d_Md_fill_87 rfl ?_
  refine b_iconst (v := (2 : Int32)) d_Md_fill_89 (by decide) ?_
  refine b_icmp_ge (tgt := 218) d_Md_fill_90 (by decide) (fun c38 => ?_) (fun c38 => ?_)
  · have H := H.1 c38
    refine b_iinc (v := (x3 + (1 : Int32))) (ls' := [some (.ref 153), some (.int x1), some (.int x2), some (.int (x3 + (1 : Int32))), some (.int x4), none, none, none, none]) d_Md_fill_218 rfl rfl (Nat.le_of_ble_eq_true rfl) rfl ?_
    refine b_goto (tgt := 79) d_Md_fill_221 (by decide) ?_
    exact b_mask [true, true, true, true, false, true, true, true, true] rfl H
  · have H := H.2 c38
    refine b_iload_n d_Md_fill_93 rfl rfl ?_
    refine b_aload_n d_Md_fill_94 rfl rfl ?_
    refine b_getf (v := .int (gY σ 1)) d_Md_fill_95 fl_Md_17 (eg_153 σ) rfl ?_
    refine b_icmp_ne (tgt := 110) d_Md_fill_98 (by decide) (fun c37 => ?_) (fun c37 => ?_)
    · have H := H.1 c37
      refine b_ldc (v := (1000000000 : Int32)) d_Md_fill_110 cn_Md_178 ?_
      refine b_istore (ls' := [some (.ref 153), some (.int x1), some (.int x2), some (.int x3), some (.int x4), some (.int (1000000000 : Int32)), none, none, none]) d_Md_fill_112 (Nat.le_of_ble_eq_true rfl) rfl ?_
      refine b_iload_n d_Md_fill_114 rfl rfl ?_
      refine b_aload_n d_Md_fill_115 rfl rfl ?_
      refine b_getf (v := .int (gY σ 1)) d_Md_fill_116 fl_Md_17 (eg_153 σ) rfl ?_
      refine b_icmp_ge (tgt := 198) d_Md_fill_119 (by decide) (fun c23 => ?_) (fun c23 => ?_)
      · have H := H.1 c23
        refine b_aload_n d_Md_fill_198 rfl rfl ?_
        refine b_getf (v := .ref 160) d_Md_fill_199 fl_Md_47 (eg_153 σ) rfl ?_
        refine b_iload_n d_Md_fill_202 rfl rfl ?_
        refine b_iload_n d_Md_fill_203 rfl rfl ?_
        refine b_iload d_Md_fill_204 rfl ?_
        refine b_callSi (Mc := m_Md_at) (As := [.int x2, .int x3, .int x4]) (st := [.ref 160]) d_Md_fill_206 ⟨⟨kA_Md_at.1, kA_Md_at.2.1, kA_Md_at.2.2, by decide⟩, ml_Md_189, kS_Md_at⟩ rfl rfl (Nat.le_of_ble_eq_true rfl) H (fun v18 τ19 H => ?_)
        refine b_iload d_Md_fill_209 rfl ?_
        obtain ⟨h20, H⟩ := H
        refine b_iast (h1 := enc (sC τ19 6 (upd (gC τ19 6) v18.toNatClampNeg (1000000000 : Int32)))) d_Md_fill_211 (eg_160 τ19) h20 (es_160 τ19 (upd (gC τ19 6) v18.toNatClampNeg (1000000000 : Int32))) ?_
        refine b_iinc (v := (x4 + (1 : Int32))) (ls' := [some (.ref 153), some (.int x1), some (.int x2), some (.int x3), some (.int (x4 + (1 : Int32))), some (.int (1000000000 : Int32)), none, none, none]) d_Md_fill_212 rfl rfl (Nat.le_of_ble_eq_true rfl) rfl ?_
        refine b_goto (tgt := 87) d_Md_fill_215 (by decide) ?_
        exact b_mask [true, true, true, true, true, false, true, true, true] rfl H
      · have H := H.2 c23
        refine b_aload_n d_Md_fill_122 rfl rfl ?_
        refine b_iload_n d_Md_fill_123 rfl rfl ?_
        refine b_iload_n d_Md_fill_124 rfl rfl ?_
        refine b_iload d_Md_fill_125 rfl ?_
        refine b_callVi (Mc := m_Md_gone) (As := [.int x2, .int x3, .int x4]) (st := []) d_Md_fill_127 ⟨⟨kA_Md_gone.1, kA_Md_gone.2.1, kA_Md_gone.2.2, by decide⟩, ml_Md_191, kV_Md_gone⟩ (eg_153 σ) rfl rfl (Nat.le_of_ble_eq_true rfl) H (fun v21 τ22 H => ?_)
        refine b_istore (ls' := [some (.ref 153), some (.int x1), some (.int x2), some (.int x3), some (.int x4), some (.int v21), none, none, none]) d_Md_fill_130 (Nat.le_of_ble_eq_true rfl) rfl ?_
        refine b_iconst (v := (0 : Int32)) d_Md_fill_132 (by decide) ?_
        refine b_istore (ls' := [some (.ref 153), some (.int x1), some (.int x2), some (.int x3), some (.int x4), some (.int v21), some (.int (0 : Int32)), none, none]) d_Md_fill_133 (Nat.le_of_ble_eq_true rfl) rfl ?_
        exact b_mask [true, true, true, true, true, true, true, true, true] rfl H
    · have H := H.2 c37
      refine b_iload_n d_Md_fill_101 rfl rfl ?_
      refine b_iload_n d_Md_fill_102 rfl rfl ?_
      refine b_icmp_ne (tgt := 110) d_Md_fill_103 (by decide) (fun c36 => ?_) (fun c36 => ?_)
      · have H := H.1 c36
        refine b_ldc (v := (1000000000 : Int32)) d_Md_fill_110 cn_Md_178 ?_
        refine b_istore (ls' := [some (.ref 153), some (.int x1), some (.int x2), some (.int x3), some (.int x4), some (.int (1000000000 : Int32)), none, none, none]) d_Md_fill_112 (Nat.le_of_ble_eq_true rfl) rfl ?_
        refine b_iload_n d_Md_fill_114 rfl rfl ?_
        refine b_aload_n d_Md_fill_115 rfl rfl ?_
        refine b_getf (v := .int (gY σ 1)) d_Md_fill_116 fl_Md_17 (eg_153 σ) rfl ?_
        refine b_icmp_ge (tgt := 198) d_Md_fill_119 (by decide) (fun c29 => ?_) (fun c29 => ?_)
        · have H := H.1 c29
          refine b_aload_n d_Md_fill_198 rfl rfl ?_
          refine b_getf (v := .ref 160) d_Md_fill_199 fl_Md_47 (eg_153 σ) rfl ?_
          refine b_iload_n d_Md_fill_202 rfl rfl ?_
          refine b_iload_n d_Md_fill_203 rfl rfl ?_
          refine b_iload d_Md_fill_204 rfl ?_
          refine b_callSi (Mc := m_Md_at) (As := [.int x2, .int x3, .int x4]) (st := [.ref 160]) d_Md_fill_206 ⟨⟨kA_Md_at.1, kA_Md_at.2.1, kA_Md_at.2.2, by decide⟩, ml_Md_189, kS_Md_at⟩ rfl rfl (Nat.le_of_ble_eq_true rfl) H (fun v24 τ25 H => ?_)
          refine b_iload d_Md_fill_209 rfl ?_
          obtain ⟨h26, H⟩ := H
          refine b_iast (h1 := enc (sC τ25 6 (upd (gC τ25 6) v24.toNatClampNeg (1000000000 : Int32)))) d_Md_fill_211 (eg_160 τ25) h26 (es_160 τ25 (upd (gC τ25 6) v24.toNatClampNeg (1000000000 : Int32))) ?_
          refine b_iinc (v := (x4 + (1 : Int32))) (ls' := [some (.ref 153), some (.int x1), some (.int x2), some (.int x3), some (.int (x4 + (1 : Int32))), some (.int (1000000000 : Int32)), none, none, none]) d_Md_fill_212 rfl rfl (Nat.le_of_ble_eq_true rfl) rfl ?_
          refine b_goto (tgt := 87) d_Md_fill_215 (by decide) ?_
          exact b_mask [true, true, true, true, true, false, true, true, true] rfl H
        · have H := H.2 c29
          refine b_aload_n d_Md_fill_122 rfl rfl ?_
          refine b_iload_n d_Md_fill_123 rfl rfl ?_
          refine b_iload_n d_Md_fill_124 rfl rfl ?_
          refine b_iload d_Md_fill_125 rfl ?_
          refine b_callVi (Mc := m_Md_gone) (As := [.int x2, .int x3, .int x4]) (st := []) d_Md_fill_127 ⟨⟨kA_Md_gone.1, kA_Md_gone.2.1, kA_Md_gone.2.2, by decide⟩, ml_Md_191, kV_Md_gone⟩ (eg_153 σ) rfl rfl (Nat.le_of_ble_eq_true rfl) H (fun v27 τ28 H => ?_)
          refine b_istore (ls' := [some (.ref 153), some (.int x1), some (.int x2), some (.int x3), some (.int x4), some (.int v27), none, none, none]) d_Md_fill_130 (Nat.le_of_ble_eq_true rfl) rfl ?_
          refine b_iconst (v := (0 : Int32)) d_Md_fill_132 (by decide) ?_
          refine b_istore (ls' := [some (.ref 153), some (.int x1), some (.int x2), some (.int x3), some (.int x4), some (.int v27), some (.int (0 : Int32)), none, none]) d_Md_fill_133 (Nat.le_of_ble_eq_true rfl) rfl ?_
          exact b_mask [true, true, true, true, true, true, true, true, true] rfl H
      · have H := H.2 c36
        refine b_iconst (v := (0 : Int32)) d_Md_fill_106 (by decide) ?_
        refine b_goto (tgt := 112) d_Md_fill_107 (by decide) ?_
        refine b_istore (ls' := [some (.ref 153), some (.int x1), some (.int x2), some (.int x3), some (.int x4), some (.int (0 : Int32)), none, none, none]) d_Md_fill_112 (Nat.le_of_ble_eq_true rfl) rfl ?_
        refine b_iload_n d_Md_fill_114 rfl rfl ?_
        refine b_aload_n d_Md_fill_115 rfl rfl ?_
        refine b_getf (v := .int (gY σ 1)) d_Md_fill_116 fl_Md_17 (eg_153 σ) rfl ?_
        refine b_icmp_ge (tgt := 198) d_Md_fill_119 (by decide) (fun c35 => ?_) (fun c35 => ?_)
        · have H := H.1 c35
          refine b_aload_n d_Md_fill_198 rfl rfl ?_
          refine b_getf (v := .ref 160) d_Md_fill_199 fl_Md_47 (eg_153 σ) rfl ?_
          refine b_iload_n d_Md_fill_202 rfl rfl ?_
          refine b_iload_n d_Md_fill_203 rfl rfl ?_
          refine b_iload d_Md_fill_204 rfl ?_
          refine b_callSi (Mc := m_Md_at) (As := [.int x2, .int x3, .int x4]) (st := [.ref 160]) d_Md_fill_206 ⟨⟨kA_Md_at.1, kA_Md_at.2.1, kA_Md_at.2.2, by decide⟩, ml_Md_189, kS_Md_at⟩ rfl rfl (Nat.le_of_ble_eq_true rfl) H (fun v30 τ31 H => ?_)
          refine b_iload d_Md_fill_209 rfl ?_
          obtain ⟨h32, H⟩ := H
          refine b_iast (h1 := enc (sC τ31 6 (upd (gC τ31 6) v30.toNatClampNeg (0 : Int32)))) d_Md_fill_211 (eg_160 τ31) h32 (es_160 τ31 (upd (gC τ31 6) v30.toNatClampNeg (0 : Int32))) ?_
          refine b_iinc (v := (x4 + (1 : Int32))) (ls' := [some (.ref 153), some (.int x1), some (.int x2), some (.int x3), some (.int (x4 + (1 : Int32))), some (.int (0 : Int32)), none, none, none]) d_Md_fill_212 rfl rfl (Nat.le_of_ble_eq_true rfl) rfl ?_
          refine b_goto (tgt := 87) d_Md_fill_215 (by decide) ?_
          exact b_mask [true, true, true, true, true, false, true, true, true] rfl H
        · have H := H.2 c35
          refine b_aload_n d_Md_fill_122 rfl rfl ?_
          refine b_iload_n d_Md_fill_123 rfl rfl ?_
          refine b_iload_n d_Md_fill_124 rfl rfl ?_
          refine b_iload d_Md_fill_125 rfl ?_
          refine b_callVi (Mc := m_Md_gone) (As := [.int x2, .int x3, .int x4]) (st := []) d_Md_fill_127 ⟨⟨kA_Md_gone.1, kA_Md_gone.2.1, kA_Md_gone.2.2, by decide⟩, ml_Md_191, kV_Md_gone⟩ (eg_153 σ) rfl rfl (Nat.le_of_ble_eq_true rfl) H (fun v33 τ34 H => ?_)
          refine b_istore (ls' := [some (.ref 153), some (.int x1), some (.int x2), some (.int x3), some (.int x4), some (.int v33), none, none, none]) d_Md_fill_130 (Nat.le_of_ble_eq_true rfl) rfl ?_
          refine b_iconst (v := (0 : Int32)) d_Md_fill_132 (by decide) ?_
          refine b_istore (ls' := [some (.ref 153), some (.int x1), some (.int x2), some (.int x3), some (.int x4), some (.int v33), some (.int (0 : Int32)), none, none]) d_Md_fill_133 (Nat.le_of_ble_eq_true rfl) rfl ?_
          exact b_mask [true, true, true, true, true, true, true, true, true] rfl H
set_option maxHeartbeats 4000000 in
set_option maxRecDepth 100000 in
theorem B_Md_fill_135 {S : XS} {Q : Int32 → St → Prop} (σ : St) (x1 : Int32) (x2 : Int32) (x3 : Int32) (x4 : Int32) (x5 : Int32) (x6 : Int32) (H : (((3 : Int32) ≤ x6 → CM S m_Md_at [.int x2, .int x3, .int x4] (enc σ) (qI (fun v39 τ40 => (vp_in v39 5082) ∧ BW S m_Md_fill 87 [some (.ref 153), some (.int x1), some (.int x2), some (.int x3), some (.int (x4 + (1 : Int32))), none, none, none, none] [] (enc (sC τ40 6 (upd (gC τ40 6) v39.toNatClampNeg x5))) (qI Q)))) ∧ (¬ (3 : Int32) ≤ x6 → BW S m_Md_fill 144 [some (.ref 153), some (.int x1), some (.int x2), some (.int x3), some (.int x4), some (.int x5), some (.int x6), some (.int (0 : Int32)), none] [] (enc σ) (qI Q)))) : BW S m_Md_fill 135 [some (.ref 153), some (.int x1), some (.int x2), some (.int x3), some (.int x4), some (.int x5), some (.int x6), none, none] [] (enc σ) (qI Q) := by
  refine b_iload d_Md_fill_135 rfl ?_
  refine b_iconst (v := (3 : Int32)) d_Md_fill_137 (by decide) ?_
  refine b_icmp_ge (tgt := 198) d_Md_fill_138 (by decide) (fun c42 => ?_) (fun c42 => ?_)
  · have H := H.1 c42
    refine b_aload_n d_Md_fill_198 rfl rfl ?_
    refine b_getf (v := .ref 160) d_Md_fill_199 fl_Md_47 (eg_153 σ) rfl ?_
    refine b_iload_n d_Md_fill_202 rfl rfl ?_
    refine b_iload_n d_Md_fill_203 rfl rfl ?_
    refine b_iload d_Md_fill_204 rfl ?_
    refine b_callSi (Mc := m_Md_at) (As := [.int x2, .int x3, .int x4]) (st := [.ref 160]) d_Md_fill_206 ⟨⟨kA_Md_at.1, kA_Md_at.2.1, kA_Md_at.2.2, by decide⟩, ml_Md_189, kS_Md_at⟩ rfl rfl (Nat.le_of_ble_eq_true rfl) H (fun v39 τ40 H => ?_)
    refine b_iload d_Md_fill_209 rfl ?_
    obtain ⟨h41, H⟩ := H
    refine b_iast (h1 := enc (sC τ40 6 (upd (gC τ40 6) v39.toNatClampNeg x5))) d_Md_fill_211 (eg_160 τ40) h41 (es_160 τ40 (upd (gC τ40 6) v39.toNatClampNeg x5)) ?_
    refine b_iinc (v := (x4 + (1 : Int32))) (ls' := [some (.ref 153), some (.int x1), some (.int x2), some (.int x3), some (.int (x4 + (1 : Int32))), some (.int x5), some (.int x6), none, none]) d_Md_fill_212 rfl rfl (Nat.le_of_ble_eq_true rfl) rfl ?_
    refine b_goto (tgt := 87) d_Md_fill_215 (by decide) ?_
    exact b_mask [true, true, true, true, true, false, false, true, true] rfl H
  · have H := H.2 c42
    refine b_iconst (v := (0 : Int32)) d_Md_fill_141 (by decide) ?_
    refine b_istore (ls' := [some (.ref 153), some (.int x1), some (.int x2), some (.int x3), some (.int x4), some (.int x5), some (.int x6), some (.int (0 : Int32)), none]) d_Md_fill_142 (Nat.le_of_ble_eq_true rfl) rfl ?_
    exact b_mask [true, true, true, true, true, true, true, true, true] rfl H
set_option maxHeartbeats 4000000 in
set_option maxRecDepth 100000 in
theorem B_Md_fill_144 {S : XS} {Q : Int32 → St → Prop} (σ : St) (x1 : Int32) (x2 : Int32) (x3 : Int32) (x4 : Int32) (x5 : Int32) (x6 : Int32) (x7 : Int32) (H : (vp_in x2 20) ∧ ((((gC σ 2) x2.toNatClampNeg) < x7 → BW S m_Md_fill 135 [some (.ref 153), some (.int x1), some (.int x2), some (.int x3), some (.int x4), some (.int x5), some (.int (x6 + (1 : Int32))), none, none] [] (enc σ) (qI Q)) ∧ (¬ ((gC σ 2) x2.toNatClampNeg) < x7 → CM S m_Md_stands6 [.ref 153, .int x2, .int x3, .int x4, .int x6, .int x7, .int x1] (enc σ) (qI (fun v44 τ45 => ((x5 ≤ v44 → BW S m_Md_fill 144 [some (.ref 153), some (.int x1), some (.int x2), some (.int x3), some (.int x4), some (.int x5), some (.int x6), some (.int (x7 + (1 : Int32))), none] [] (enc τ45) (qI Q)) ∧ (¬ x5 ≤ v44 → BW S m_Md_fill 144 [some (.ref 153), some (.int x1), some (.int x2), some (.int x3), some (.int x4), some (.int v44), some (.int x6), some (.int (x7 + (1 : Int32))), none] [] (enc τ45) (qI Q)))))))) : BW S m_Md_fill 144 [some (.ref 153), some (.int x1), some (.int x2), some (.int x3), some (.int x4), some (.int x5), some (.int x6), some (.int x7), none] [] (enc σ) (qI Q) := by
  refine b_iload d_Md_fill_144 rfl ?_
  refine b_aload_n d_Md_fill_146 rfl rfl ?_
  refine b_getf (v := .ref 156) d_Md_fill_147 fl_Md_23 (eg_153 σ) rfl ?_
  refine b_iload_n d_Md_fill_150 rfl rfl ?_
  obtain ⟨h43, H⟩ := H
  refine b_iald d_Md_fill_151 (eg_156 σ) h43 ?_
  refine b_st2 (st' := [.int ((gC σ 2) x2.toNatClampNeg), .int x7]) rfl ?_
  refine b_icmp_gt (tgt := 192) d_Md_fill_152 (by decide) (fun c47 => ?_) (fun c47 => ?_)
  · have H := H.1 c47
    refine b_iinc (v := (x6 + (1 : Int32))) (ls' := [some (.ref 153), some (.int x1), some (.int x2), some (.int x3), some (.int x4), some (.int x5), some (.int (x6 + (1 : Int32))), some (.int x7), none]) d_Md_fill_192 rfl rfl (Nat.le_of_ble_eq_true rfl) rfl ?_
    refine b_goto (tgt := 135) d_Md_fill_195 (by decide) ?_
    exact b_mask [true, true, true, true, true, true, true, false, true] rfl H
  · have H := H.2 c47
    refine b_aload_n d_Md_fill_155 rfl rfl ?_
    refine b_iload_n d_Md_fill_156 rfl rfl ?_
    refine b_iload_n d_Md_fill_157 rfl rfl ?_
    refine b_iload d_Md_fill_158 rfl ?_
    refine b_iload d_Md_fill_160 rfl ?_
    refine b_iload d_Md_fill_162 rfl ?_
    refine b_iload_n d_Md_fill_164 rfl rfl ?_
    refine b_callVi (Mc := m_Md_stands6) (As := [.int x2, .int x3, .int x4, .int x6, .int x7, .int x1]) (st := []) d_Md_fill_165 ⟨⟨kA_Md_stands6.1, kA_Md_stands6.2.1, kA_Md_stands6.2.2, by decide⟩, ml_Md_194, kV_Md_stands6⟩ (eg_153 σ) rfl rfl (Nat.le_of_ble_eq_true rfl) H (fun v44 τ45 H => ?_)
    refine b_istore (ls' := [some (.ref 153), some (.int x1), some (.int x2), some (.int x3), some (.int x4), some (.int x5), some (.int x6), some (.int x7), some (.int v44)]) d_Md_fill_168 (Nat.le_of_ble_eq_true rfl) rfl ?_
    refine b_iload d_Md_fill_170 rfl ?_
    refine b_iload d_Md_fill_172 rfl ?_
    refine b_icmp_ge (tgt := 182) d_Md_fill_174 (by decide) (fun c46 => ?_) (fun c46 => ?_)
    · have H := H.1 c46
      refine b_iload d_Md_fill_182 rfl ?_
      refine b_istore (ls' := [some (.ref 153), some (.int x1), some (.int x2), some (.int x3), some (.int x4), some (.int x5), some (.int x6), some (.int x7), some (.int v44)]) d_Md_fill_184 (Nat.le_of_ble_eq_true rfl) rfl ?_
      refine b_iinc (v := (x7 + (1 : Int32))) (ls' := [some (.ref 153), some (.int x1), some (.int x2), some (.int x3), some (.int x4), some (.int x5), some (.int x6), some (.int (x7 + (1 : Int32))), some (.int v44)]) d_Md_fill_186 rfl rfl (Nat.le_of_ble_eq_true rfl) rfl ?_
      refine b_goto (tgt := 144) d_Md_fill_189 (by decide) ?_
      exact b_mask [true, true, true, true, true, true, true, true, false] rfl H
    · have H := H.2 c46
      refine b_iload d_Md_fill_177 rfl ?_
      refine b_goto (tgt := 184) d_Md_fill_179 (by decide) ?_
      refine b_istore (ls' := [some (.ref 153), some (.int x1), some (.int x2), some (.int x3), some (.int x4), some (.int v44), some (.int x6), some (.int x7), some (.int v44)]) d_Md_fill_184 (Nat.le_of_ble_eq_true rfl) rfl ?_
      refine b_iinc (v := (x7 + (1 : Int32))) (ls' := [some (.ref 153), some (.int x1), some (.int x2), some (.int x3), some (.int x4), some (.int v44), some (.int x6), some (.int (x7 + (1 : Int32))), some (.int v44)]) d_Md_fill_186 rfl rfl (Nat.le_of_ble_eq_true rfl) rfl ?_
      refine b_goto (tgt := 144) d_Md_fill_189 (by decide) ?_
      exact b_mask [true, true, true, true, true, true, true, true, false] rfl H
theorem C_Md_fill {S : XS} {Q : Int32 → St → Prop} (σ : St) (x1 : Int32) (H : BW S m_Md_fill 0 [some (.ref 153), some (.int x1), none, none, none, none, none, none, none] [] (enc σ) (qI Q)) : CM S m_Md_fill [.ref 153, .int x1] (enc σ) (qI Q) := b_meth (by decide) (Nat.le_of_ble_eq_true rfl) rfl H
theorem d_Md_tells_0 : decode m_Md_tells.2.1 0 = .ok (.aload_n 0, 1) := by decide +kernel
theorem d_Md_tells_1 : decode m_Md_tells.2.1 1 = .ok (.aload_n 0, 1) := by decide +kernel
theorem d_Md_tells_2 : decode m_Md_tells.2.1 2 = .ok (.getfield 17, 3) := by decide +kernel
theorem d_Md_tells_5 : decode m_Md_tells.2.1 5 = .ok (.putfield 50, 3) := by decide +kernel
theorem d_Md_tells_8 : decode m_Md_tells.2.1 8 = .ok (.iconst 0, 1) := by decide +kernel
theorem d_Md_tells_9 : decode m_Md_tells.2.1 9 = .ok (.istore_n 2, 1) := by decide +kernel
theorem d_Md_tells_10 : decode m_Md_tells.2.1 10 = .ok (.iload_n 2, 1) := by decide +kernel
theorem d_Md_tells_11 : decode m_Md_tells.2.1 11 = .ok (.bipush 120, 2) := by decide +kernel
theorem d_Md_tells_13 : decode m_Md_tells.2.1 13 = .ok (.if_icmp .ge 16, 3) := by decide +kernel
theorem d_Md_tells_16 : decode m_Md_tells.2.1 16 = .ok (.aload_n 0, 1) := by decide +kernel
theorem d_Md_tells_17 : decode m_Md_tells.2.1 17 = .ok (.getfield 66, 3) := by decide +kernel
theorem d_Md_tells_20 : decode m_Md_tells.2.1 20 = .ok (.iload_n 2, 1) := by decide +kernel
theorem d_Md_tells_21 : decode m_Md_tells.2.1 21 = .ok (.iconst (-1), 1) := by decide +kernel
theorem d_Md_tells_22 : decode m_Md_tells.2.1 22 = .ok (.iastore, 1) := by decide +kernel
theorem d_Md_tells_23 : decode m_Md_tells.2.1 23 = .ok (.iinc 2 1, 3) := by decide +kernel
theorem d_Md_tells_26 : decode m_Md_tells.2.1 26 = .ok (.goto (-16), 3) := by decide +kernel
theorem d_Md_tells_29 : decode m_Md_tells.2.1 29 = .ok (.iconst 0, 1) := by decide +kernel
theorem d_Md_tells_30 : decode m_Md_tells.2.1 30 = .ok (.istore_n 2, 1) := by decide +kernel
theorem d_Md_tells_31 : decode m_Md_tells.2.1 31 = .ok (.iconst 0, 1) := by decide +kernel
theorem d_Md_tells_32 : decode m_Md_tells.2.1 32 = .ok (.istore_n 3, 1) := by decide +kernel
theorem d_Md_tells_33 : decode m_Md_tells.2.1 33 = .ok (.iconst 0, 1) := by decide +kernel
theorem d_Md_tells_34 : decode m_Md_tells.2.1 34 = .ok (.istore 4, 2) := by decide +kernel
theorem d_Md_tells_36 : decode m_Md_tells.2.1 36 = .ok (.iload 4, 2) := by decide +kernel
theorem d_Md_tells_38 : decode m_Md_tells.2.1 38 = .ok (.aload_n 0, 1) := by decide +kernel
theorem d_Md_tells_39 : decode m_Md_tells.2.1 39 = .ok (.getfield 17, 3) := by decide +kernel
theorem d_Md_tells_42 : decode m_Md_tells.2.1 42 = .ok (.if_icmp .ge 222, 3) := by decide +kernel
theorem d_Md_tells_45 : decode m_Md_tells.2.1 45 = .ok (.aload_n 0, 1) := by decide +kernel
theorem d_Md_tells_46 : decode m_Md_tells.2.1 46 = .ok (.getfield 47, 3) := by decide +kernel
theorem d_Md_tells_49 : decode m_Md_tells.2.1 49 = .ok (.iload 4, 2) := by decide +kernel
theorem d_Md_tells_51 : decode m_Md_tells.2.1 51 = .ok (.iload_n 2, 1) := by decide +kernel
theorem d_Md_tells_52 : decode m_Md_tells.2.1 52 = .ok (.iload_n 3, 1) := by decide +kernel
theorem d_Md_tells_53 : decode m_Md_tells.2.1 53 = .ok (.invokestatic 189, 3) := by decide +kernel
theorem d_Md_tells_56 : decode m_Md_tells.2.1 56 = .ok (.iaload, 1) := by decide +kernel
theorem d_Md_tells_57 : decode m_Md_tells.2.1 57 = .ok (.istore 5, 2) := by decide +kernel
theorem d_Md_tells_59 : decode m_Md_tells.2.1 59 = .ok (.aload_n 0, 1) := by decide +kernel
theorem d_Md_tells_60 : decode m_Md_tells.2.1 60 = .ok (.getfield 53, 3) := by decide +kernel
theorem d_Md_tells_63 : decode m_Md_tells.2.1 63 = .ok (.iload 4, 2) := by decide +kernel
theorem d_Md_tells_65 : decode m_Md_tells.2.1 65 = .ok (.iconst 1, 1) := by decide +kernel
theorem d_Md_tells_66 : decode m_Md_tells.2.1 66 = .ok (.bastore, 1) := by decide +kernel
theorem d_Md_tells_67 : decode m_Md_tells.2.1 67 = .ok (.aload_n 0, 1) := by decide +kernel
theorem d_Md_tells_68 : decode m_Md_tells.2.1 68 = .ok (.getfield 57, 3) := by decide +kernel
theorem d_Md_tells_71 : decode m_Md_tells.2.1 71 = .ok (.iload 4, 2) := by decide +kernel
theorem d_Md_tells_73 : decode m_Md_tells.2.1 73 = .ok (.iconst 0, 1) := by decide +kernel
theorem d_Md_tells_74 : decode m_Md_tells.2.1 74 = .ok (.iastore, 1) := by decide +kernel
theorem d_Md_tells_75 : decode m_Md_tells.2.1 75 = .ok (.aload_n 0, 1) := by decide +kernel
theorem d_Md_tells_76 : decode m_Md_tells.2.1 76 = .ok (.getfield 63, 3) := by decide +kernel
theorem d_Md_tells_79 : decode m_Md_tells.2.1 79 = .ok (.iload 4, 2) := by decide +kernel
theorem d_Md_tells_81 : decode m_Md_tells.2.1 81 = .ok (.iconst 0, 1) := by decide +kernel
theorem d_Md_tells_82 : decode m_Md_tells.2.1 82 = .ok (.iastore, 1) := by decide +kernel
theorem d_Md_tells_83 : decode m_Md_tells.2.1 83 = .ok (.aload_n 0, 1) := by decide +kernel
theorem d_Md_tells_84 : decode m_Md_tells.2.1 84 = .ok (.getfield 60, 3) := by decide +kernel
theorem d_Md_tells_87 : decode m_Md_tells.2.1 87 = .ok (.iload 4, 2) := by decide +kernel
theorem d_Md_tells_89 : decode m_Md_tells.2.1 89 = .ok (.iconst (-1), 1) := by decide +kernel
theorem d_Md_tells_90 : decode m_Md_tells.2.1 90 = .ok (.iastore, 1) := by decide +kernel
theorem d_Md_tells_91 : decode m_Md_tells.2.1 91 = .ok (.iconst 0, 1) := by decide +kernel
theorem d_Md_tells_92 : decode m_Md_tells.2.1 92 = .ok (.istore 6, 2) := by decide +kernel
theorem d_Md_tells_94 : decode m_Md_tells.2.1 94 = .ok (.iload 6, 2) := by decide +kernel
theorem d_Md_tells_96 : decode m_Md_tells.2.1 96 = .ok (.iconst 3, 1) := by decide +kernel
theorem d_Md_tells_97 : decode m_Md_tells.2.1 97 = .ok (.if_icmp .ge 97, 3) := by decide +kernel
theorem d_Md_tells_100 : decode m_Md_tells.2.1 100 = .ok (.aload_n 0, 1) := by decide +kernel
theorem d_Md_tells_101 : decode m_Md_tells.2.1 101 = .ok (.getfield 53, 3) := by decide +kernel
theorem d_Md_tells_104 : decode m_Md_tells.2.1 104 = .ok (.iload 4, 2) := by decide +kernel
theorem d_Md_tells_106 : decode m_Md_tells.2.1 106 = .ok (.baload, 1) := by decide +kernel
theorem d_Md_tells_107 : decode m_Md_tells.2.1 107 = .ok (.ifCond .eq 87, 3) := by decide +kernel
theorem d_Md_tells_110 : decode m_Md_tells.2.1 110 = .ok (.iconst 0, 1) := by decide +kernel
theorem d_Md_tells_111 : decode m_Md_tells.2.1 111 = .ok (.istore 7, 2) := by decide +kernel
theorem d_Md_tells_113 : decode m_Md_tells.2.1 113 = .ok (.iload 7, 2) := by decide +kernel
theorem d_Md_tells_115 : decode m_Md_tells.2.1 115 = .ok (.aload_n 0, 1) := by decide +kernel
theorem d_Md_tells_116 : decode m_Md_tells.2.1 116 = .ok (.getfield 23, 3) := by decide +kernel
theorem d_Md_tells_119 : decode m_Md_tells.2.1 119 = .ok (.iload 4, 2) := by decide +kernel
theorem d_Md_tells_121 : decode m_Md_tells.2.1 121 = .ok (.iaload, 1) := by decide +kernel
theorem d_Md_tells_122 : decode m_Md_tells.2.1 122 = .ok (.if_icmp .gt 66, 3) := by decide +kernel
theorem d_Md_tells_125 : decode m_Md_tells.2.1 125 = .ok (.aload_n 0, 1) := by decide +kernel
theorem d_Md_tells_126 : decode m_Md_tells.2.1 126 = .ok (.getfield 53, 3) := by decide +kernel
theorem d_Md_tells_129 : decode m_Md_tells.2.1 129 = .ok (.iload 4, 2) := by decide +kernel
theorem d_Md_tells_131 : decode m_Md_tells.2.1 131 = .ok (.baload, 1) := by decide +kernel
theorem d_Md_tells_132 : decode m_Md_tells.2.1 132 = .ok (.ifCond .eq 56, 3) := by decide +kernel
theorem d_Md_tells_135 : decode m_Md_tells.2.1 135 = .ok (.aload_n 0, 1) := by decide +kernel
theorem d_Md_tells_136 : decode m_Md_tells.2.1 136 = .ok (.iload 4, 2) := by decide +kernel
theorem d_Md_tells_138 : decode m_Md_tells.2.1 138 = .ok (.iload_n 2, 1) := by decide +kernel
theorem d_Md_tells_139 : decode m_Md_tells.2.1 139 = .ok (.iload_n 3, 1) := by decide +kernel
theorem d_Md_tells_140 : decode m_Md_tells.2.1 140 = .ok (.iload 6, 2) := by decide +kernel
theorem d_Md_tells_142 : decode m_Md_tells.2.1 142 = .ok (.iload 7, 2) := by decide +kernel
theorem d_Md_tells_144 : decode m_Md_tells.2.1 144 = .ok (.iload_n 1, 1) := by decide +kernel
theorem d_Md_tells_145 : decode m_Md_tells.2.1 145 = .ok (.invokevirtual 194, 3) := by decide +kernel
theorem d_Md_tells_148 : decode m_Md_tells.2.1 148 = .ok (.iload 5, 2) := by decide +kernel
theorem d_Md_tells_150 : decode m_Md_tells.2.1 150 = .ok (.if_icmp .eq 6, 3) := by decide +kernel
theorem d_Md_tells_153 : decode m_Md_tells.2.1 153 = .ok (.goto 29, 3) := by decide +kernel
theorem d_Md_tells_156 : decode m_Md_tells.2.1 156 = .ok (.aload_n 0, 1) := by decide +kernel
theorem d_Md_tells_157 : decode m_Md_tells.2.1 157 = .ok (.getfield 53, 3) := by decide +kernel
theorem d_Md_tells_160 : decode m_Md_tells.2.1 160 = .ok (.iload 4, 2) := by decide +kernel
theorem d_Md_tells_162 : decode m_Md_tells.2.1 162 = .ok (.iconst 0, 1) := by decide +kernel
theorem d_Md_tells_163 : decode m_Md_tells.2.1 163 = .ok (.bastore, 1) := by decide +kernel
theorem d_Md_tells_164 : decode m_Md_tells.2.1 164 = .ok (.aload_n 0, 1) := by decide +kernel
theorem d_Md_tells_165 : decode m_Md_tells.2.1 165 = .ok (.getfield 57, 3) := by decide +kernel
theorem d_Md_tells_168 : decode m_Md_tells.2.1 168 = .ok (.iload 4, 2) := by decide +kernel
theorem d_Md_tells_170 : decode m_Md_tells.2.1 170 = .ok (.iload 6, 2) := by decide +kernel
theorem d_Md_tells_172 : decode m_Md_tells.2.1 172 = .ok (.iastore, 1) := by decide +kernel
theorem d_Md_tells_173 : decode m_Md_tells.2.1 173 = .ok (.aload_n 0, 1) := by decide +kernel
theorem d_Md_tells_174 : decode m_Md_tells.2.1 174 = .ok (.getfield 63, 3) := by decide +kernel
theorem d_Md_tells_177 : decode m_Md_tells.2.1 177 = .ok (.iload 4, 2) := by decide +kernel
theorem d_Md_tells_179 : decode m_Md_tells.2.1 179 = .ok (.iload 7, 2) := by decide +kernel
theorem d_Md_tells_181 : decode m_Md_tells.2.1 181 = .ok (.iastore, 1) := by decide +kernel
theorem d_Md_tells_182 : decode m_Md_tells.2.1 182 = .ok (.iinc 7 1, 3) := by decide +kernel
theorem d_Md_tells_185 : decode m_Md_tells.2.1 185 = .ok (.goto (-72), 3) := by decide +kernel
theorem d_Md_tells_188 : decode m_Md_tells.2.1 188 = .ok (.iinc 6 1, 3) := by decide +kernel
theorem d_Md_tells_191 : decode m_Md_tells.2.1 191 = .ok (.goto (-97), 3) := by decide +kernel
theorem d_Md_tells_194 : decode m_Md_tells.2.1 194 = .ok (.aload_n 0, 1) := by decide +kernel
theorem d_Md_tells_195 : decode m_Md_tells.2.1 195 = .ok (.getfield 53, 3) := by decide +kernel
theorem d_Md_tells_198 : decode m_Md_tells.2.1 198 = .ok (.iload 4, 2) := by decide +kernel
theorem d_Md_tells_200 : decode m_Md_tells.2.1 200 = .ok (.baload, 1) := by decide +kernel
theorem d_Md_tells_201 : decode m_Md_tells.2.1 201 = .ok (.ifCond .eq 6, 3) := by decide +kernel
theorem d_Md_tells_204 : decode m_Md_tells.2.1 204 = .ok (.goto 54, 3) := by decide +kernel
theorem d_Md_tells_207 : decode m_Md_tells.2.1 207 = .ok (.iconst 1, 1) := by decide +kernel
theorem d_Md_tells_208 : decode m_Md_tells.2.1 208 = .ok (.istore_n 3, 1) := by decide +kernel
theorem d_Md_tells_209 : decode m_Md_tells.2.1 209 = .ok (.iload_n 2, 1) := by decide +kernel
theorem d_Md_tells_210 : decode m_Md_tells.2.1 210 = .ok (.aload_n 0, 1) := by decide +kernel
theorem d_Md_tells_211 : decode m_Md_tells.2.1 211 = .ok (.getfield 57, 3) := by decide +kernel
theorem d_Md_tells_214 : decode m_Md_tells.2.1 214 = .ok (.iload 4, 2) := by decide +kernel
theorem d_Md_tells_216 : decode m_Md_tells.2.1 216 = .ok (.iaload, 1) := by decide +kernel
theorem d_Md_tells_217 : decode m_Md_tells.2.1 217 = .ok (.iadd, 1) := by decide +kernel
theorem d_Md_tells_218 : decode m_Md_tells.2.1 218 = .ok (.istore_n 2, 1) := by decide +kernel
theorem d_Md_tells_219 : decode m_Md_tells.2.1 219 = .ok (.aload_n 0, 1) := by decide +kernel
theorem d_Md_tells_220 : decode m_Md_tells.2.1 220 = .ok (.getfield 60, 3) := by decide +kernel
theorem d_Md_tells_223 : decode m_Md_tells.2.1 223 = .ok (.iload 4, 2) := by decide +kernel
theorem d_Md_tells_225 : decode m_Md_tells.2.1 225 = .ok (.aload_n 0, 1) := by decide +kernel
theorem d_Md_tells_226 : decode m_Md_tells.2.1 226 = .ok (.getfield 63, 3) := by decide +kernel
theorem d_Md_tells_229 : decode m_Md_tells.2.1 229 = .ok (.iload 4, 2) := by decide +kernel
theorem d_Md_tells_231 : decode m_Md_tells.2.1 231 = .ok (.iaload, 1) := by decide +kernel
theorem d_Md_tells_232 : decode m_Md_tells.2.1 232 = .ok (.ifCond .ne 7, 3) := by decide +kernel
theorem d_Md_tells_235 : decode m_Md_tells.2.1 235 = .ok (.iconst (-1), 1) := by decide +kernel
theorem d_Md_tells_236 : decode m_Md_tells.2.1 236 = .ok (.goto 4, 3) := by decide +kernel
theorem d_Md_tells_239 : decode m_Md_tells.2.1 239 = .ok (.iload_n 2, 1) := by decide +kernel
theorem d_Md_tells_240 : decode m_Md_tells.2.1 240 = .ok (.iastore, 1) := by decide +kernel
theorem d_Md_tells_241 : decode m_Md_tells.2.1 241 = .ok (.aload_n 0, 1) := by decide +kernel
theorem d_Md_tells_242 : decode m_Md_tells.2.1 242 = .ok (.iload 4, 2) := by decide +kernel
theorem d_Md_tells_244 : decode m_Md_tells.2.1 244 = .ok (.iload_n 2, 1) := by decide +kernel
theorem d_Md_tells_245 : decode m_Md_tells.2.1 245 = .ok (.invokevirtual 201, 3) := by decide +kernel
theorem d_Md_tells_248 : decode m_Md_tells.2.1 248 = .ok (.iload_n 2, 1) := by decide +kernel
theorem d_Md_tells_249 : decode m_Md_tells.2.1 249 = .ok (.aload_n 0, 1) := by decide +kernel
theorem d_Md_tells_250 : decode m_Md_tells.2.1 250 = .ok (.getfield 63, 3) := by decide +kernel
theorem d_Md_tells_253 : decode m_Md_tells.2.1 253 = .ok (.iload 4, 2) := by decide +kernel
theorem d_Md_tells_255 : decode m_Md_tells.2.1 255 = .ok (.iaload, 1) := by decide +kernel
theorem d_Md_tells_256 : decode m_Md_tells.2.1 256 = .ok (.iadd, 1) := by decide +kernel
theorem d_Md_tells_257 : decode m_Md_tells.2.1 257 = .ok (.istore_n 2, 1) := by decide +kernel
theorem d_Md_tells_258 : decode m_Md_tells.2.1 258 = .ok (.iinc 4 1, 3) := by decide +kernel
theorem d_Md_tells_261 : decode m_Md_tells.2.1 261 = .ok (.goto (-225), 3) := by decide +kernel
theorem d_Md_tells_264 : decode m_Md_tells.2.1 264 = .ok (.return_, 1) := by decide +kernel
set_option maxHeartbeats 4000000 in
set_option maxRecDepth 100000 in
theorem B_Md_tells_0 {S : XS} {Q : St → Prop} (σ : St) (x1 : Int32) (H : BW S m_Md_tells 10 [some (.ref 153), some (.int x1), some (.int (0 : Int32)), none, none, none, none, none] [] (enc (sY σ 6 (gY σ 1))) (qV Q)) : BW S m_Md_tells 0 [some (.ref 153), some (.int x1), none, none, none, none, none, none] [] (enc σ) (qV Q) := by
  refine b_aload_n d_Md_tells_0 rfl rfl ?_
  refine b_aload_n d_Md_tells_1 rfl rfl ?_
  refine b_getf (v := .int (gY σ 1)) d_Md_tells_2 fl_Md_17 (eg_153 σ) rfl ?_
  refine b_putf (ty := .int) (h1 := enc (sY σ 6 (gY σ 1))) d_Md_tells_5 fl_Md_50 ft_12_13 (fun _ => ⟨rfl, rfl⟩) (eg_153 σ) (Nat.le_of_ble_eq_true rfl) (es_153_13 σ (gY σ 1)) ?_
  refine b_iconst (v := (0 : Int32)) d_Md_tells_8 (by decide) ?_
  refine b_istore_n (ls' := [some (.ref 153), some (.int x1), some (.int (0 : Int32)), none, none, none, none, none]) d_Md_tells_9 rfl (Nat.le_of_ble_eq_true rfl) rfl ?_
  exact b_mask [true, true, true, true, true, true, true, true] rfl H
set_option maxHeartbeats 4000000 in
set_option maxRecDepth 100000 in
theorem B_Md_tells_10 {S : XS} {Q : St → Prop} (σ : St) (x1 : Int32) (x2 : Int32) (H : (((120 : Int32) ≤ x2 → BW S m_Md_tells 36 [some (.ref 153), some (.int x1), some (.int (0 : Int32)), some (.int (0 : Int32)), some (.int (0 : Int32)), none, none, none] [] (enc σ) (qV Q)) ∧ (¬ (120 : Int32) ≤ x2 → (vp_in x2 120) ∧ BW S m_Md_tells 10 [some (.ref 153), some (.int x1), some (.int (x2 + (1 : Int32))), none, none, none, none, none] [] (enc (sC σ 11 (upd (gC σ 11) x2.toNatClampNeg (-1 : Int32)))) (qV Q)))) : BW S m_Md_tells 10 [some (.ref 153), some (.int x1), some (.int x2), none, none, none, none, none] [] (enc σ) (qV Q) := by
  refine b_iload_n d_Md_tells_10 rfl rfl ?_
  refine b_bipush (v := (120 : Int32)) d_Md_tells_11 (by decide) ?_
  refine b_icmp_ge (tgt := 29) d_Md_tells_13 (by decide) (fun c2 => ?_) (fun c2 => ?_)
  · have H := H.1 c2
    refine b_iconst (v := (0 : Int32)) d_Md_tells_29 (by decide) ?_
    refine b_istore_n (ls' := [some (.ref 153), some (.int x1), some (.int (0 : Int32)), none, none, none, none, none]) d_Md_tells_30 rfl (Nat.le_of_ble_eq_true rfl) rfl ?_
    refine b_iconst (v := (0 : Int32)) d_Md_tells_31 (by decide) ?_
    refine b_istore_n (ls' := [some (.ref 153), some (.int x1), some (.int (0 : Int32)), some (.int (0 : Int32)), none, none, none, none]) d_Md_tells_32 rfl (Nat.le_of_ble_eq_true rfl) rfl ?_
    refine b_iconst (v := (0 : Int32)) d_Md_tells_33 (by decide) ?_
    refine b_istore (ls' := [some (.ref 153), some (.int x1), some (.int (0 : Int32)), some (.int (0 : Int32)), some (.int (0 : Int32)), none, none, none]) d_Md_tells_34 (Nat.le_of_ble_eq_true rfl) rfl ?_
    exact b_mask [true, true, true, true, true, true, true, true] rfl H
  · have H := H.2 c2
    refine b_aload_n d_Md_tells_16 rfl rfl ?_
    refine b_getf (v := .ref 165) d_Md_tells_17 fl_Md_66 (eg_153 σ) rfl ?_
    refine b_iload_n d_Md_tells_20 rfl rfl ?_
    refine b_iconst (v := (-1 : Int32)) d_Md_tells_21 (by decide) ?_
    obtain ⟨h1, H⟩ := H
    refine b_iast (h1 := enc (sC σ 11 (upd (gC σ 11) x2.toNatClampNeg (-1 : Int32)))) d_Md_tells_22 (eg_165 σ) h1 (es_165 σ (upd (gC σ 11) x2.toNatClampNeg (-1 : Int32))) ?_
    refine b_iinc (v := (x2 + (1 : Int32))) (ls' := [some (.ref 153), some (.int x1), some (.int (x2 + (1 : Int32))), none, none, none, none, none]) d_Md_tells_23 rfl rfl (Nat.le_of_ble_eq_true rfl) rfl ?_
    refine b_goto (tgt := 10) d_Md_tells_26 (by decide) ?_
    exact b_mask [true, true, true, true, true, true, true, true] rfl H
set_option maxHeartbeats 4000000 in
set_option maxRecDepth 100000 in
theorem B_Md_tells_36 {S : XS} {Q : St → Prop} (σ : St) (x1 : Int32) (x2 : Int32) (x3 : Int32) (x4 : Int32) (H : (((gY σ 1) ≤ x4 → Q σ) ∧ (¬ (gY σ 1) ≤ x4 → CM S m_Md_at [.int x4, .int x2, .int x3] (enc σ) (qI (fun v3 τ4 => (vp_in v3 5082) ∧ (vp_in x4 20) ∧ BW S m_Md_tells 94 [some (.ref 153), some (.int x1), some (.int x2), some (.int x3), some (.int x4), some (.int ((gC τ4 6) v3.toNatClampNeg)), some (.int (0 : Int32)), none] [] (enc (sC (sC (sC (sC τ4 7 (upd (gC τ4 7) x4.toNatClampNeg (1 : Int32))) 8 (upd (gC τ4 8) x4.toNatClampNeg (0 : Int32))) 10 (upd (gC τ4 10) x4.toNatClampNeg (0 : Int32))) 9 (upd (gC τ4 9) x4.toNatClampNeg (-1 : Int32)))) (qV Q)))))) : BW S m_Md_tells 36 [some (.ref 153), some (.int x1), some (.int x2), some (.int x3), some (.int x4), none, none, none] [] (enc σ) (qV Q) := by
  refine b_iload d_Md_tells_36 rfl ?_
  refine b_aload_n d_Md_tells_38 rfl rfl ?_
  refine b_getf (v := .int (gY σ 1)) d_Md_tells_39 fl_Md_17 (eg_153 σ) rfl ?_
  refine b_icmp_ge (tgt := 264) d_Md_tells_42 (by decide) (fun c7 => ?_) (fun c7 => ?_)
  · have H := H.1 c7
    exact b_vret d_Md_tells_264 rfl ⟨_, rfl, rfl, H⟩
  · have H := H.2 c7
    refine b_aload_n d_Md_tells_45 rfl rfl ?_
    refine b_getf (v := .ref 160) d_Md_tells_46 fl_Md_47 (eg_153 σ) rfl ?_
    refine b_iload d_Md_tells_49 rfl ?_
    refine b_iload_n d_Md_tells_51 rfl rfl ?_
    refine b_iload_n d_Md_tells_52 rfl rfl ?_
    refine b_callSi (Mc := m_Md_at) (As := [.int x4, .int x2, .int x3]) (st := [.ref 160]) d_Md_tells_53 ⟨⟨kA_Md_at.1, kA_Md_at.2.1, kA_Md_at.2.2, by decide⟩, ml_Md_189, kS_Md_at⟩ rfl rfl (Nat.le_of_ble_eq_true rfl) H (fun v3 τ4 H => ?_)
    obtain ⟨h5, H⟩ := H
    refine b_iald d_Md_tells_56 (eg_160 τ4) h5 ?_
    refine b_st2 (st' := [.int ((gC τ4 6) v3.toNatClampNeg)]) rfl ?_
    refine b_istore (ls' := [some (.ref 153), some (.int x1), some (.int x2), some (.int x3), some (.int x4), some (.int ((gC τ4 6) v3.toNatClampNeg)), none, none]) d_Md_tells_57 (Nat.le_of_ble_eq_true rfl) rfl ?_
    refine b_aload_n d_Md_tells_59 rfl rfl ?_
    refine b_getf (v := .ref 161) d_Md_tells_60 fl_Md_53 (eg_153 τ4) rfl ?_
    refine b_iload d_Md_tells_63 rfl ?_
    refine b_iconst (v := (1 : Int32)) d_Md_tells_65 (by decide) ?_
    obtain ⟨h6, H⟩ := H
    refine b_zast (y := (1 : Int32)) (h1 := enc (sC τ4 7 (upd (gC τ4 7) x4.toNatClampNeg (1 : Int32)))) d_Md_tells_66 (eg_161 τ4) h6 (by decide) (es_161 τ4 (upd (gC τ4 7) x4.toNatClampNeg (1 : Int32))) ?_
    refine b_aload_n d_Md_tells_67 rfl rfl ?_
    refine b_getf (v := .ref 162) d_Md_tells_68 fl_Md_57 (eg_153 (sC τ4 7 (upd (gC τ4 7) x4.toNatClampNeg (1 : Int32)))) rfl ?_
    refine b_iload d_Md_tells_71 rfl ?_
    refine b_iconst (v := (0 : Int32)) d_Md_tells_73 (by decide) ?_
    refine b_iast (h1 := enc (sC (sC τ4 7 (upd (gC τ4 7) x4.toNatClampNeg (1 : Int32))) 8 (upd (gC τ4 8) x4.toNatClampNeg (0 : Int32)))) d_Md_tells_74 (eg_162 (sC τ4 7 (upd (gC τ4 7) x4.toNatClampNeg (1 : Int32)))) h6 (es_162 (sC τ4 7 (upd (gC τ4 7) x4.toNatClampNeg (1 : Int32))) (upd (gC τ4 8) x4.toNatClampNeg (0 : Int32))) ?_
    refine b_aload_n d_Md_tells_75 rfl rfl ?_
    refine b_getf (v := .ref 164) d_Md_tells_76 fl_Md_63 (eg_153 (sC (sC τ4 7 (upd (gC τ4 7) x4.toNatClampNeg (1 : Int32))) 8 (upd (gC τ4 8) x4.toNatClampNeg (0 : Int32)))) rfl ?_
    refine b_iload d_Md_tells_79 rfl ?_
    refine b_iconst (v := (0 : Int32)) d_Md_tells_81 (by decide) ?_
    refine b_iast (h1 := enc (sC (sC (sC τ4 7 (upd (gC τ4 7) x4.toNatClampNeg (1 : Int32))) 8 (upd (gC τ4 8) x4.toNatClampNeg (0 : Int32))) 10 (upd (gC τ4 10) x4.toNatClampNeg (0 : Int32)))) d_Md_tells_82 (eg_164 (sC (sC τ4 7 (upd (gC τ4 7) x4.toNatClampNeg (1 : Int32))) 8 (upd (gC τ4 8) x4.toNatClampNeg (0 : Int32)))) h6 (es_164 (sC (sC τ4 7 (upd (gC τ4 7) x4.toNatClampNeg (1 : Int32))) 8 (upd (gC τ4 8) x4.toNatClampNeg (0 : Int32))) (upd (gC τ4 10) x4.toNatClampNeg (0 : Int32))) ?_
    refine b_aload_n d_Md_tells_83 rfl rfl ?_
    refine b_getf (v := .ref 163) d_Md_tells_84 fl_Md_60 (eg_153 (sC (sC (sC τ4 7 (upd (gC τ4 7) x4.toNatClampNeg (1 : Int32))) 8 (upd (gC τ4 8) x4.toNatClampNeg (0 : Int32))) 10 (upd (gC τ4 10) x4.toNatClampNeg (0 : Int32)))) rfl ?_
    refine b_iload d_Md_tells_87 rfl ?_
    refine b_iconst (v := (-1 : Int32)) d_Md_tells_89 (by decide) ?_
    refine b_iast (h1 := enc (sC (sC (sC (sC τ4 7 (upd (gC τ4 7) x4.toNatClampNeg (1 : Int32))) 8 (upd (gC τ4 8) x4.toNatClampNeg (0 : Int32))) 10 (upd (gC τ4 10) x4.toNatClampNeg (0 : Int32))) 9 (upd (gC τ4 9) x4.toNatClampNeg (-1 : Int32)))) d_Md_tells_90 (eg_163 (sC (sC (sC τ4 7 (upd (gC τ4 7) x4.toNatClampNeg (1 : Int32))) 8 (upd (gC τ4 8) x4.toNatClampNeg (0 : Int32))) 10 (upd (gC τ4 10) x4.toNatClampNeg (0 : Int32)))) h6 (es_163 (sC (sC (sC τ4 7 (upd (gC τ4 7) x4.toNatClampNeg (1 : Int32))) 8 (upd (gC τ4 8) x4.toNatClampNeg (0 : Int32))) 10 (upd (gC τ4 10) x4.toNatClampNeg (0 : Int32))) (upd (gC τ4 9) x4.toNatClampNeg (-1 : Int32))) ?_
    refine b_iconst (v := (0 : Int32)) d_Md_tells_91 (by decide) ?_
    refine b_istore (ls' := [some (.ref 153), some (.int x1), some (.int x2), some (.int x3), some (.int x4), some (.int ((gC τ4 6) v3.toNatClampNeg)), some (.int (0 : Int32)), none]) d_Md_tells_92 (Nat.le_of_ble_eq_true rfl) rfl ?_
    exact b_mask [true, true, true, true, true, true, true, true] rfl H
set_option maxHeartbeats 4000000 in
set_option maxRecDepth 100000 in
theorem B_Md_tells_94 {S : XS} {Q : St → Prop} (σ : St) (x1 : Int32) (x2 : Int32) (x3 : Int32) (x4 : Int32) (x5 : Int32) (x6 : Int32) (H : (((3 : Int32) ≤ x6 → (vp_in x4 20) ∧ ((((gC σ 7) x4.toNatClampNeg) = 0 → ((¬ ((gC σ 10) x4.toNatClampNeg) = 0 → CM S m_Md_lays [.ref 153, .int x4, .int (x2 + ((gC σ 8) x4.toNatClampNeg))] (enc (sC σ 9 (upd (gC σ 9) x4.toNatClampNeg (x2 + ((gC σ 8) x4.toNatClampNeg))))) (qV (fun τ10 => (vp_in x4 20) ∧ BW S m_Md_tells 36 [some (.ref 153), some (.int x1), some (.int ((x2 + ((gC σ 8) x4.toNatClampNeg)) + ((gC τ10 10) x4.toNatClampNeg))), some (.int (1 : Int32)), some (.int (x4 + (1 : Int32))), none, none, none] [] (enc τ10) (qV Q)))) ∧ (((gC σ 10) x4.toNatClampNeg) = 0 → CM S m_Md_lays [.ref 153, .int x4, .int (x2 + ((gC σ 8) x4.toNatClampNeg))] (enc (sC σ 9 (upd (gC σ 9) x4.toNatClampNeg (-1 : Int32)))) (qV (fun τ13 => (vp_in x4 20) ∧ BW S m_Md_tells 36 [some (.ref 153), some (.int x1), some (.int ((x2 + ((gC σ 8) x4.toNatClampNeg)) + ((gC τ13 10) x4.toNatClampNeg))), some (.int (1 : Int32)), some (.int (x4 + (1 : Int32))), none, none, none] [] (enc τ13) (qV Q)))))) ∧ (¬ ((gC σ 7) x4.toNatClampNeg) = 0 → BW S m_Md_tells 36 [some (.ref 153), some (.int x1), some (.int x2), some (.int x3), some (.int (x4 + (1 : Int32))), none, none, none] [] (enc σ) (qV Q)))) ∧ (¬ (3 : Int32) ≤ x6 → (vp_in x4 20) ∧ ((((gC σ 7) x4.toNatClampNeg) = 0 → ((((gC σ 7) x4.toNatClampNeg) = 0 → ((¬ ((gC σ 10) x4.toNatClampNeg) = 0 → CM S m_Md_lays [.ref 153, .int x4, .int (x2 + ((gC σ 8) x4.toNatClampNeg))] (enc (sC σ 9 (upd (gC σ 9) x4.toNatClampNeg (x2 + ((gC σ 8) x4.toNatClampNeg))))) (qV (fun τ19 => (vp_in x4 20) ∧ BW S m_Md_tells 36 [some (.ref 153), some (.int x1), some (.int ((x2 + ((gC σ 8) x4.toNatClampNeg)) + ((gC τ19 10) x4.toNatClampNeg))), some (.int (1 : Int32)), some (.int (x4 + (1 : Int32))), none, none, none] [] (enc τ19) (qV Q)))) ∧ (((gC σ 10) x4.toNatClampNeg) = 0 → CM S m_Md_lays [.ref 153, .int x4, .int (x2 + ((gC σ 8) x4.toNatClampNeg))] (enc (sC σ 9 (upd (gC σ 9) x4.toNatClampNeg (-1 : Int32)))) (qV (fun τ22 => (vp_in x4 20) ∧ BW S m_Md_tells 36 [some (.ref 153), some (.int x1), some (.int ((x2 + ((gC σ 8) x4.toNatClampNeg)) + ((gC τ22 10) x4.toNatClampNeg))), some (.int (1 : Int32)), some (.int (x4 + (1 : Int32))), none, none, none] [] (enc τ22) (qV Q)))))) ∧ (¬ ((gC σ 7) x4.toNatClampNeg) = 0 → BW S m_Md_tells 36 [some (.ref 153), some (.int x1), some (.int x2), some (.int x3), some (.int (x4 + (1 : Int32))), none, none, none] [] (enc σ) (qV Q)))) ∧ (¬ ((gC σ 7) x4.toNatClampNeg) = 0 → BW S m_Md_tells 113 [some (.ref 153), some (.int x1), some (.int x2), some (.int x3), some (.int x4), some (.int x5), some (.int x6), some (.int (0 : Int32))] [] (enc σ) (qV Q)))))) : BW S m_Md_tells 94 [some (.ref 153), some (.int x1), some (.int x2), some (.int x3), some (.int x4), some (.int x5), some (.int x6), none] [] (enc σ) (qV Q) := by
  refine b_iload d_Md_tells_94 rfl ?_
  refine b_iconst (v := (3 : Int32)) d_Md_tells_96 (by decide) ?_
  refine b_icmp_ge (tgt := 194) d_Md_tells_97 (by decide) (fun c27 => ?_) (fun c27 => ?_)
  · have H := H.1 c27
    refine b_aload_n d_Md_tells_194 rfl rfl ?_
    refine b_getf (v := .ref 161) d_Md_tells_195 fl_Md_53 (eg_153 σ) rfl ?_
    refine b_iload d_Md_tells_198 rfl ?_
    obtain ⟨h8, H⟩ := H
    refine b_zald d_Md_tells_200 (eg_161 σ) h8 ?_
    refine b_st2 (st' := [.int ((gC σ 7) x4.toNatClampNeg)]) rfl ?_
    refine b_if_eq (tgt := 207) d_Md_tells_201 (by decide) (fun c16 => ?_) (fun c16 => ?_)
    · have H := H.1 c16
      refine b_iconst (v := (1 : Int32)) d_Md_tells_207 (by decide) ?_
      refine b_istore_n (ls' := [some (.ref 153), some (.int x1), some (.int x2), some (.int (1 : Int32)), some (.int x4), some (.int x5), some (.int x6), none]) d_Md_tells_208 rfl (Nat.le_of_ble_eq_true rfl) rfl ?_
      refine b_iload_n d_Md_tells_209 rfl rfl ?_
      refine b_aload_n d_Md_tells_210 rfl rfl ?_
      refine b_getf (v := .ref 162) d_Md_tells_211 fl_Md_57 (eg_153 σ) rfl ?_
      refine b_iload d_Md_tells_214 rfl ?_
      refine b_iald d_Md_tells_216 (eg_162 σ) h8 ?_
      refine b_st2 (st' := [.int ((gC σ 8) x4.toNatClampNeg), .int x2]) rfl ?_
      refine b_iadd d_Md_tells_217  ?_
      refine b_istore_n (ls' := [some (.ref 153), some (.int x1), some (.int (x2 + ((gC σ 8) x4.toNatClampNeg))), some (.int (1 : Int32)), some (.int x4), some (.int x5), some (.int x6), none]) d_Md_tells_218 rfl (Nat.le_of_ble_eq_true rfl) rfl ?_
      refine b_aload_n d_Md_tells_219 rfl rfl ?_
      refine b_getf (v := .ref 163) d_Md_tells_220 fl_Md_60 (eg_153 σ) rfl ?_
      refine b_iload d_Md_tells_223 rfl ?_
      refine b_aload_n d_Md_tells_225 rfl rfl ?_
      refine b_getf (v := .ref 164) d_Md_tells_226 fl_Md_63 (eg_153 σ) rfl ?_
      refine b_iload d_Md_tells_229 rfl ?_
      refine b_iald d_Md_tells_231 (eg_164 σ) h8 ?_
      refine b_st2 (st' := [.int ((gC σ 10) x4.toNatClampNeg), .int x4, .ref 163]) rfl ?_
      refine b_if_ne (tgt := 239) d_Md_tells_232 (by decide) (fun c15 => ?_) (fun c15 => ?_)
      · have H := H.1 c15
        refine b_iload_n d_Md_tells_239 rfl rfl ?_
        refine b_iast (h1 := enc (sC σ 9 (upd (gC σ 9) x4.toNatClampNeg (x2 + ((gC σ 8) x4.toNatClampNeg))))) d_Md_tells_240 (eg_163 σ) h8 (es_163 σ (upd (gC σ 9) x4.toNatClampNeg (x2 + ((gC σ 8) x4.toNatClampNeg)))) ?_
        refine b_aload_n d_Md_tells_241 rfl rfl ?_
        refine b_iload d_Md_tells_242 rfl ?_
        refine b_iload_n d_Md_tells_244 rfl rfl ?_
        refine b_callVv (Mc := m_Md_lays) (As := [.int x4, .int (x2 + ((gC σ 8) x4.toNatClampNeg))]) (st := []) d_Md_tells_245 ⟨⟨kA_Md_lays.1, kA_Md_lays.2.1, kA_Md_lays.2.2, by decide⟩, ml_Md_201, kV_Md_lays⟩ (eg_153 (sC σ 9 (upd (gC σ 9) x4.toNatClampNeg (x2 + ((gC σ 8) x4.toNatClampNeg))))) rfl rfl (Nat.le_of_ble_eq_true rfl) H (fun τ10 H => ?_)
        refine b_iload_n d_Md_tells_248 rfl rfl ?_
        refine b_aload_n d_Md_tells_249 rfl rfl ?_
        refine b_getf (v := .ref 164) d_Md_tells_250 fl_Md_63 (eg_153 τ10) rfl ?_
        refine b_iload d_Md_tells_253 rfl ?_
        obtain ⟨h11, H⟩ := H
        refine b_iald d_Md_tells_255 (eg_164 τ10) h11 ?_
        refine b_st2 (st' := [.int ((gC τ10 10) x4.toNatClampNeg), .int (x2 + ((gC σ 8) x4.toNatClampNeg))]) rfl ?_
        refine b_iadd d_Md_tells_256  ?_
        refine b_istore_n (ls' := [some (.ref 153), some (.int x1), some (.int ((x2 + ((gC σ 8) x4.toNatClampNeg)) + ((gC τ10 10) x4.toNatClampNeg))), some (.int (1 : Int32)), some (.int x4), some (.int x5), some (.int x6), none]) d_Md_tells_257 rfl (Nat.le_of_ble_eq_true rfl) rfl ?_
        refine b_iinc (v := (x4 + (1 : Int32))) (ls' := [some (.ref 153), some (.int x1), some (.int ((x2 + ((gC σ 8) x4.toNatClampNeg)) + ((gC τ10 10) x4.toNatClampNeg))), some (.int (1 : Int32)), some (.int (x4 + (1 : Int32))), some (.int x5), some (.int x6), none]) d_Md_tells_258 rfl rfl (Nat.le_of_ble_eq_true rfl) rfl ?_
        refine b_goto (tgt := 36) d_Md_tells_261 (by decide) ?_
        exact b_mask [true, true, true, true, true, false, false, true] rfl H
      · have H := H.2 c15
        refine b_iconst (v := (-1 : Int32)) d_Md_tells_235 (by decide) ?_
        refine b_goto (tgt := 240) d_Md_tells_236 (by decide) ?_
        refine b_iast (h1 := enc (sC σ 9 (upd (gC σ 9) x4.toNatClampNeg (-1 : Int32)))) d_Md_tells_240 (eg_163 σ) h8 (es_163 σ (upd (gC σ 9) x4.toNatClampNeg (-1 : Int32))) ?_
        refine b_aload_n d_Md_tells_241 rfl rfl ?_
        refine b_iload d_Md_tells_242 rfl ?_
        refine b_iload_n d_Md_tells_244 rfl rfl ?_
        refine b_callVv (Mc := m_Md_lays) (As := [.int x4, .int (x2 + ((gC σ 8) x4.toNatClampNeg))]) (st := []) d_Md_tells_245 ⟨⟨kA_Md_lays.1, kA_Md_lays.2.1, kA_Md_lays.2.2, by decide⟩, ml_Md_201, kV_Md_lays⟩ (eg_153 (sC σ 9 (upd (gC σ 9) x4.toNatClampNeg (-1 : Int32)))) rfl rfl (Nat.le_of_ble_eq_true rfl) H (fun τ13 H => ?_)
        refine b_iload_n d_Md_tells_248 rfl rfl ?_
        refine b_aload_n d_Md_tells_249 rfl rfl ?_
        refine b_getf (v := .ref 164) d_Md_tells_250 fl_Md_63 (eg_153 τ13) rfl ?_
        refine b_iload d_Md_tells_253 rfl ?_
        obtain ⟨h14, H⟩ := H
        refine b_iald d_Md_tells_255 (eg_164 τ13) h14 ?_
        refine b_st2 (st' := [.int ((gC τ13 10) x4.toNatClampNeg), .int (x2 + ((gC σ 8) x4.toNatClampNeg))]) rfl ?_
        refine b_iadd d_Md_tells_256  ?_
        refine b_istore_n (ls' := [some (.ref 153), some (.int x1), some (.int ((x2 + ((gC σ 8) x4.toNatClampNeg)) + ((gC τ13 10) x4.toNatClampNeg))), some (.int (1 : Int32)), some (.int x4), some (.int x5), some (.int x6), none]) d_Md_tells_257 rfl (Nat.le_of_ble_eq_true rfl) rfl ?_
        refine b_iinc (v := (x4 + (1 : Int32))) (ls' := [some (.ref 153), some (.int x1), some (.int ((x2 + ((gC σ 8) x4.toNatClampNeg)) + ((gC τ13 10) x4.toNatClampNeg))), some (.int (1 : Int32)), some (.int (x4 + (1 : Int32))), some (.int x5), some (.int x6), none]) d_Md_tells_258 rfl rfl (Nat.le_of_ble_eq_true rfl) rfl ?_
        refine b_goto (tgt := 36) d_Md_tells_261 (by decide) ?_
        exact b_mask [true, true, true, true, true, false, false, true] rfl H
    · have H := H.2 c16
      refine b_goto (tgt := 258) d_Md_tells_204 (by decide) ?_
      refine b_iinc (v := (x4 + (1 : Int32))) (ls' := [some (.ref 153), some (.int x1), some (.int x2), some (.int x3), some (.int (x4 + (1 : Int32))), some (.int x5), some (.int x6), none]) d_Md_tells_258 rfl rfl (Nat.le_of_ble_eq_true rfl) rfl ?_
      refine b_goto (tgt := 36) d_Md_tells_261 (by decide) ?_
      exact b_mask [true, true, true, true, true, false, false, true] rfl H
  · have H := H.2 c27
    refine b_aload_n d_Md_tells_100 rfl rfl ?_
    refine b_getf (v := .ref 161) d_Md_tells_101 fl_Md_53 (eg_153 σ) rfl ?_
    refine b_iload d_Md_tells_104 rfl ?_
    obtain ⟨h17, H⟩ := H
    refine b_zald d_Md_tells_106 (eg_161 σ) h17 ?_
    refine b_st2 (st' := [.int ((gC σ 7) x4.toNatClampNeg)]) rfl ?_
    refine b_if_eq (tgt := 194) d_Md_tells_107 (by decide) (fun c26 => ?_) (fun c26 => ?_)
    · have H := H.1 c26
      refine b_aload_n d_Md_tells_194 rfl rfl ?_
      refine b_getf (v := .ref 161) d_Md_tells_195 fl_Md_53 (eg_153 σ) rfl ?_
      refine b_iload d_Md_tells_198 rfl ?_
      refine b_zald d_Md_tells_200 (eg_161 σ) h17 ?_
      refine b_st2 (st' := [.int ((gC σ 7) x4.toNatClampNeg)]) rfl ?_
      refine b_if_eq (tgt := 207) d_Md_tells_201 (by decide) (fun c25 => ?_) (fun c25 => ?_)
      · have H := H.1 c25
        refine b_iconst (v := (1 : Int32)) d_Md_tells_207 (by decide) ?_
        refine b_istore_n (ls' := [some (.ref 153), some (.int x1), some (.int x2), some (.int (1 : Int32)), some (.int x4), some (.int x5), some (.int x6), none]) d_Md_tells_208 rfl (Nat.le_of_ble_eq_true rfl) rfl ?_
        refine b_iload_n d_Md_tells_209 rfl rfl ?_
        refine b_aload_n d_Md_tells_210 rfl rfl ?_
        refine b_getf (v := .ref 162) d_Md_tells_211 fl_Md_57 (eg_153 σ) rfl ?_
        refine b_iload d_Md_tells_214 rfl ?_
        refine b_iald d_Md_tells_216 (eg_162 σ) h17 ?_
        refine b_st2 (st' := [.int ((gC σ 8) x4.toNatClampNeg), .int x2]) rfl ?_
        refine b_iadd d_Md_tells_217  ?_
        refine b_istore_n (ls' := [some (.ref 153), some (.int x1), some (.int (x2 + ((gC σ 8) x4.toNatClampNeg))), some (.int (1 : Int32)), some (.int x4), some (.int x5), some (.int x6), none]) d_Md_tells_218 rfl (Nat.le_of_ble_eq_true rfl) rfl ?_
        refine b_aload_n d_Md_tells_219 rfl rfl ?_
        refine b_getf (v := .ref 163) d_Md_tells_220 fl_Md_60 (eg_153 σ) rfl ?_
        refine b_iload d_Md_tells_223 rfl ?_
        refine b_aload_n d_Md_tells_225 rfl rfl ?_
        refine b_getf (v := .ref 164) d_Md_tells_226 fl_Md_63 (eg_153 σ) rfl ?_
        refine b_iload d_Md_tells_229 rfl ?_
        refine b_iald d_Md_tells_231 (eg_164 σ) h17 ?_
        refine b_st2 (st' := [.int ((gC σ 10) x4.toNatClampNeg), .int x4, .ref 163]) rfl ?_
        refine b_if_ne (tgt := 239) d_Md_tells_232 (by decide) (fun c24 => ?_) (fun c24 => ?_)
        · have H := H.1 c24
          refine b_iload_n d_Md_tells_239 rfl rfl ?_
          refine b_iast (h1 := enc (sC σ 9 (upd (gC σ 9) x4.toNatClampNeg (x2 + ((gC σ 8) x4.toNatClampNeg))))) d_Md_tells_240 (eg_163 σ) h17 (es_163 σ (upd (gC σ 9) x4.toNatClampNeg (x2 + ((gC σ 8) x4.toNatClampNeg)))) ?_
          refine b_aload_n d_Md_tells_241 rfl rfl ?_
          refine b_iload d_Md_tells_242 rfl ?_
          refine b_iload_n d_Md_tells_244 rfl rfl ?_
          refine b_callVv (Mc := m_Md_lays) (As := [.int x4, .int (x2 + ((gC σ 8) x4.toNatClampNeg))]) (st := []) d_Md_tells_245 ⟨⟨kA_Md_lays.1, kA_Md_lays.2.1, kA_Md_lays.2.2, by decide⟩, ml_Md_201, kV_Md_lays⟩ (eg_153 (sC σ 9 (upd (gC σ 9) x4.toNatClampNeg (x2 + ((gC σ 8) x4.toNatClampNeg))))) rfl rfl (Nat.le_of_ble_eq_true rfl) H (fun τ19 H => ?_)
          refine b_iload_n d_Md_tells_248 rfl rfl ?_
          refine b_aload_n d_Md_tells_249 rfl rfl ?_
          refine b_getf (v := .ref 164) d_Md_tells_250 fl_Md_63 (eg_153 τ19) rfl ?_
          refine b_iload d_Md_tells_253 rfl ?_
          obtain ⟨h20, H⟩ := H
          refine b_iald d_Md_tells_255 (eg_164 τ19) h20 ?_
          refine b_st2 (st' := [.int ((gC τ19 10) x4.toNatClampNeg), .int (x2 + ((gC σ 8) x4.toNatClampNeg))]) rfl ?_
          refine b_iadd d_Md_tells_256  ?_
          refine b_istore_n (ls' := [some (.ref 153), some (.int x1), some (.int ((x2 + ((gC σ 8) x4.toNatClampNeg)) + ((gC τ19 10) x4.toNatClampNeg))), some (.int (1 : Int32)), some (.int x4), some (.int x5), some (.int x6), none]) d_Md_tells_257 rfl (Nat.le_of_ble_eq_true rfl) rfl ?_
          refine b_iinc (v := (x4 + (1 : Int32))) (ls' := [some (.ref 153), some (.int x1), some (.int ((x2 + ((gC σ 8) x4.toNatClampNeg)) + ((gC τ19 10) x4.toNatClampNeg))), some (.int (1 : Int32)), some (.int (x4 + (1 : Int32))), some (.int x5), some (.int x6), none]) d_Md_tells_258 rfl rfl (Nat.le_of_ble_eq_true rfl) rfl ?_
          refine b_goto (tgt := 36) d_Md_tells_261 (by decide) ?_
          exact b_mask [true, true, true, true, true, false, false, true] rfl H
        · have H := H.2 c24
          refine b_iconst (v := (-1 : Int32)) d_Md_tells_235 (by decide) ?_
          refine b_goto (tgt := 240) d_Md_tells_236 (by decide) ?_
          refine b_iast (h1 := enc (sC σ 9 (upd (gC σ 9) x4.toNatClampNeg (-1 : Int32)))) d_Md_tells_240 (eg_163 σ) h17 (es_163 σ (upd (gC σ 9) x4.toNatClampNeg (-1 : Int32))) ?_
          refine b_aload_n d_Md_tells_241 rfl rfl ?_
          refine b_iload d_Md_tells_242 rfl ?_
          refine b_iload_n d_Md_tells_244 rfl rfl ?_
          refine b_callVv (Mc := m_Md_lays) (As := [.int x4, .int (x2 + ((gC σ 8) x4.toNatClampNeg))]) (st := []) d_Md_tells_245 ⟨⟨kA_Md_lays.1, kA_Md_lays.2.1, kA_Md_lays.2.2, by decide⟩, ml_Md_201, kV_Md_lays⟩ (eg_153 (sC σ 9 (upd (gC σ 9) x4.toNatClampNeg (-1 : Int32)))) rfl rfl (Nat.le_of_ble_eq_true rfl) H (fun τ22 H => ?_)
          refine b_iload_n d_Md_tells_248 rfl rfl ?_
          refine b_aload_n d_Md_tells_249 rfl rfl ?_
          refine b_getf (v := .ref 164) d_Md_tells_250 fl_Md_63 (eg_153 τ22) rfl ?_
          refine b_iload d_Md_tells_253 rfl ?_
          obtain ⟨h23, H⟩ := H
          refine b_iald d_Md_tells_255 (eg_164 τ22) h23 ?_
          refine b_st2 (st' := [.int ((gC τ22 10) x4.toNatClampNeg), .int (x2 + ((gC σ 8) x4.toNatClampNeg))]) rfl ?_
          refine b_iadd d_Md_tells_256  ?_
          refine b_istore_n (ls' := [some (.ref 153), some (.int x1), some (.int ((x2 + ((gC σ 8) x4.toNatClampNeg)) + ((gC τ22 10) x4.toNatClampNeg))), some (.int (1 : Int32)), some (.int x4), some (.int x5), some (.int x6), none]) d_Md_tells_257 rfl (Nat.le_of_ble_eq_true rfl) rfl ?_
          refine b_iinc (v := (x4 + (1 : Int32))) (ls' := [some (.ref 153), some (.int x1), some (.int ((x2 + ((gC σ 8) x4.toNatClampNeg)) + ((gC τ22 10) x4.toNatClampNeg))), some (.int (1 : Int32)), some (.int (x4 + (1 : Int32))), some (.int x5), some (.int x6), none]) d_Md_tells_258 rfl rfl (Nat.le_of_ble_eq_true rfl) rfl ?_
          refine b_goto (tgt := 36) d_Md_tells_261 (by decide) ?_
          exact b_mask [true, true, true, true, true, false, false, true] rfl H
      · have H := H.2 c25
        refine b_goto (tgt := 258) d_Md_tells_204 (by decide) ?_
        refine b_iinc (v := (x4 + (1 : Int32))) (ls' := [some (.ref 153), some (.int x1), some (.int x2), some (.int x3), some (.int (x4 + (1 : Int32))), some (.int x5), some (.int x6), none]) d_Md_tells_258 rfl rfl (Nat.le_of_ble_eq_true rfl) rfl ?_
        refine b_goto (tgt := 36) d_Md_tells_261 (by decide) ?_
        exact b_mask [true, true, true, true, true, false, false, true] rfl H
    · have H := H.2 c26
      refine b_iconst (v := (0 : Int32)) d_Md_tells_110 (by decide) ?_
      refine b_istore (ls' := [some (.ref 153), some (.int x1), some (.int x2), some (.int x3), some (.int x4), some (.int x5), some (.int x6), some (.int (0 : Int32))]) d_Md_tells_111 (Nat.le_of_ble_eq_true rfl) rfl ?_
      exact b_mask [true, true, true, true, true, true, true, true] rfl H
set_option maxHeartbeats 4000000 in
set_option maxRecDepth 100000 in
theorem B_Md_tells_113 {S : XS} {Q : St → Prop} (σ : St) (x1 : Int32) (x2 : Int32) (x3 : Int32) (x4 : Int32) (x5 : Int32) (x6 : Int32) (x7 : Int32) (H : (vp_in x4 20) ∧ ((((gC σ 2) x4.toNatClampNeg) < x7 → BW S m_Md_tells 94 [some (.ref 153), some (.int x1), some (.int x2), some (.int x3), some (.int x4), some (.int x5), some (.int (x6 + (1 : Int32))), none] [] (enc σ) (qV Q)) ∧ (¬ ((gC σ 2) x4.toNatClampNeg) < x7 → ((((gC σ 7) x4.toNatClampNeg) = 0 → BW S m_Md_tells 94 [some (.ref 153), some (.int x1), some (.int x2), some (.int x3), some (.int x4), some (.int x5), some (.int (x6 + (1 : Int32))), none] [] (enc σ) (qV Q)) ∧ (¬ ((gC σ 7) x4.toNatClampNeg) = 0 → CM S m_Md_stands6 [.ref 153, .int x4, .int x2, .int x3, .int x6, .int x7, .int x1] (enc σ) (qI (fun v29 τ30 => ((v29 = x5 → (vp_in x4 20) ∧ BW S m_Md_tells 113 [some (.ref 153), some (.int x1), some (.int x2), some (.int x3), some (.int x4), some (.int x5), some (.int x6), some (.int (x7 + (1 : Int32)))] [] (enc (sC (sC (sC τ30 7 (upd (gC τ30 7) x4.toNatClampNeg (0 : Int32))) 8 (upd (gC τ30 8) x4.toNatClampNeg x6)) 10 (upd (gC τ30 10) x4.toNatClampNeg x7))) (qV Q)) ∧ (¬ v29 = x5 → BW S m_Md_tells 113 [some (.ref 153), some (.int x1), some (.int x2), some (.int x3), some (.int x4), some (.int x5), some (.int x6), some (.int (x7 + (1 : Int32)))] [] (enc τ30) (qV Q)))))))))) : BW S m_Md_tells 113 [some (.ref 153), some (.int x1), some (.int x2), some (.int x3), some (.int x4), some (.int x5), some (.int x6), some (.int x7)] [] (enc σ) (qV Q) := by
  refine b_iload d_Md_tells_113 rfl ?_
  refine b_aload_n d_Md_tells_115 rfl rfl ?_
  refine b_getf (v := .ref 156) d_Md_tells_116 fl_Md_23 (eg_153 σ) rfl ?_
  refine b_iload d_Md_tells_119 rfl ?_
  obtain ⟨h28, H⟩ := H
  refine b_iald d_Md_tells_121 (eg_156 σ) h28 ?_
  refine b_st2 (st' := [.int ((gC σ 2) x4.toNatClampNeg), .int x7]) rfl ?_
  refine b_icmp_gt (tgt := 188) d_Md_tells_122 (by decide) (fun c34 => ?_) (fun c34 => ?_)
  · have H := H.1 c34
    refine b_iinc (v := (x6 + (1 : Int32))) (ls' := [some (.ref 153), some (.int x1), some (.int x2), some (.int x3), some (.int x4), some (.int x5), some (.int (x6 + (1 : Int32))), some (.int x7)]) d_Md_tells_188 rfl rfl (Nat.le_of_ble_eq_true rfl) rfl ?_
    refine b_goto (tgt := 94) d_Md_tells_191 (by decide) ?_
    exact b_mask [true, true, true, true, true, true, true, false] rfl H
  · have H := H.2 c34
    refine b_aload_n d_Md_tells_125 rfl rfl ?_
    refine b_getf (v := .ref 161) d_Md_tells_126 fl_Md_53 (eg_153 σ) rfl ?_
    refine b_iload d_Md_tells_129 rfl ?_
    refine b_zald d_Md_tells_131 (eg_161 σ) h28 ?_
    refine b_st2 (st' := [.int ((gC σ 7) x4.toNatClampNeg)]) rfl ?_
    refine b_if_eq (tgt := 188) d_Md_tells_132 (by decide) (fun c33 => ?_) (fun c33 => ?_)
    · have H := H.1 c33
      refine b_iinc (v := (x6 + (1 : Int32))) (ls' := [some (.ref 153), some (.int x1), some (.int x2), some (.int x3), some (.int x4), some (.int x5), some (.int (x6 + (1 : Int32))), some (.int x7)]) d_Md_tells_188 rfl rfl (Nat.le_of_ble_eq_true rfl) rfl ?_
      refine b_goto (tgt := 94) d_Md_tells_191 (by decide) ?_
      exact b_mask [true, true, true, true, true, true, true, false] rfl H
    · have H := H.2 c33
      refine b_aload_n d_Md_tells_135 rfl rfl ?_
      refine b_iload d_Md_tells_136 rfl ?_
      refine b_iload_n d_Md_tells_138 rfl rfl ?_
      refine b_iload_n d_Md_tells_139 rfl rfl ?_
      refine b_iload d_Md_tells_140 rfl ?_
      refine b_iload d_Md_tells_142 rfl ?_
      refine b_iload_n d_Md_tells_144 rfl rfl ?_
      refine b_callVi (Mc := m_Md_stands6) (As := [.int x4, .int x2, .int x3, .int x6, .int x7, .int x1]) (st := []) d_Md_tells_145 ⟨⟨kA_Md_stands6.1, kA_Md_stands6.2.1, kA_Md_stands6.2.2, by decide⟩, ml_Md_194, kV_Md_stands6⟩ (eg_153 σ) rfl rfl (Nat.le_of_ble_eq_true rfl) H (fun v29 τ30 H => ?_)
      refine b_iload d_Md_tells_148 rfl ?_
      refine b_icmp_eq (tgt := 156) d_Md_tells_150 (by decide) (fun c32 => ?_) (fun c32 => ?_)
      · have H := H.1 c32
        refine b_aload_n d_Md_tells_156 rfl rfl ?_
        refine b_getf (v := .ref 161) d_Md_tells_157 fl_Md_53 (eg_153 τ30) rfl ?_
        refine b_iload d_Md_tells_160 rfl ?_
        refine b_iconst (v := (0 : Int32)) d_Md_tells_162 (by decide) ?_
        obtain ⟨h31, H⟩ := H
        refine b_zast (y := (0 : Int32)) (h1 := enc (sC τ30 7 (upd (gC τ30 7) x4.toNatClampNeg (0 : Int32)))) d_Md_tells_163 (eg_161 τ30) h31 (by decide) (es_161 τ30 (upd (gC τ30 7) x4.toNatClampNeg (0 : Int32))) ?_
        refine b_aload_n d_Md_tells_164 rfl rfl ?_
        refine b_getf (v := .ref 162) d_Md_tells_165 fl_Md_57 (eg_153 (sC τ30 7 (upd (gC τ30 7) x4.toNatClampNeg (0 : Int32)))) rfl ?_
        refine b_iload d_Md_tells_168 rfl ?_
        refine b_iload d_Md_tells_170 rfl ?_
        refine b_iast (h1 := enc (sC (sC τ30 7 (upd (gC τ30 7) x4.toNatClampNeg (0 : Int32))) 8 (upd (gC τ30 8) x4.toNatClampNeg x6))) d_Md_tells_172 (eg_162 (sC τ30 7 (upd (gC τ30 7) x4.toNatClampNeg (0 : Int32)))) h31 (es_162 (sC τ30 7 (upd (gC τ30 7) x4.toNatClampNeg (0 : Int32))) (upd (gC τ30 8) x4.toNatClampNeg x6)) ?_
        refine b_aload_n d_Md_tells_173 rfl rfl ?_
        refine b_getf (v := .ref 164) d_Md_tells_174 fl_Md_63 (eg_153 (sC (sC τ30 7 (upd (gC τ30 7) x4.toNatClampNeg (0 : Int32))) 8 (upd (gC τ30 8) x4.toNatClampNeg x6))) rfl ?_
        refine b_iload d_Md_tells_177 rfl ?_
        refine b_iload d_Md_tells_179 rfl ?_
        refine b_iast (h1 := enc (sC (sC (sC τ30 7 (upd (gC τ30 7) x4.toNatClampNeg (0 : Int32))) 8 (upd (gC τ30 8) x4.toNatClampNeg x6)) 10 (upd (gC τ30 10) x4.toNatClampNeg x7))) d_Md_tells_181 (eg_164 (sC (sC τ30 7 (upd (gC τ30 7) x4.toNatClampNeg (0 : Int32))) 8 (upd (gC τ30 8) x4.toNatClampNeg x6))) h31 (es_164 (sC (sC τ30 7 (upd (gC τ30 7) x4.toNatClampNeg (0 : Int32))) 8 (upd (gC τ30 8) x4.toNatClampNeg x6)) (upd (gC τ30 10) x4.toNatClampNeg x7)) ?_
        refine b_iinc (v := (x7 + (1 : Int32))) (ls' := [some (.ref 153), some (.int x1), some (.int x2), some (.int x3), some (.int x4), some (.int x5), some (.int x6), some (.int (x7 + (1 : Int32)))]) d_Md_tells_182 rfl rfl (Nat.le_of_ble_eq_true rfl) rfl ?_
        refine b_goto (tgt := 113) d_Md_tells_185 (by decide) ?_
        exact b_mask [true, true, true, true, true, true, true, true] rfl H
      · have H := H.2 c32
        refine b_goto (tgt := 182) d_Md_tells_153 (by decide) ?_
        refine b_iinc (v := (x7 + (1 : Int32))) (ls' := [some (.ref 153), some (.int x1), some (.int x2), some (.int x3), some (.int x4), some (.int x5), some (.int x6), some (.int (x7 + (1 : Int32)))]) d_Md_tells_182 rfl rfl (Nat.le_of_ble_eq_true rfl) rfl ?_
        refine b_goto (tgt := 113) d_Md_tells_185 (by decide) ?_
        exact b_mask [true, true, true, true, true, true, true, true] rfl H
theorem C_Md_tells {S : XS} {Q : St → Prop} (σ : St) (x1 : Int32) (H : BW S m_Md_tells 0 [some (.ref 153), some (.int x1), none, none, none, none, none, none] [] (enc σ) (qV Q)) : CM S m_Md_tells [.ref 153, .int x1] (enc σ) (qV Q) := b_meth (by decide) (Nat.le_of_ble_eq_true rfl) rfl H
theorem d_Md_lays_0 : decode m_Md_lays.2.1 0 = .ok (.aload_n 0, 1) := by decide +kernel
theorem d_Md_lays_1 : decode m_Md_lays.2.1 1 = .ok (.iload_n 1, 1) := by decide +kernel
theorem d_Md_lays_2 : decode m_Md_lays.2.1 2 = .ok (.invokevirtual 183, 3) := by decide +kernel
theorem d_Md_lays_5 : decode m_Md_lays.2.1 5 = .ok (.iconst 0, 1) := by decide +kernel
theorem d_Md_lays_6 : decode m_Md_lays.2.1 6 = .ok (.istore_n 3, 1) := by decide +kernel
theorem d_Md_lays_7 : decode m_Md_lays.2.1 7 = .ok (.iconst 0, 1) := by decide +kernel
theorem d_Md_lays_8 : decode m_Md_lays.2.1 8 = .ok (.istore 4, 2) := by decide +kernel
theorem d_Md_lays_10 : decode m_Md_lays.2.1 10 = .ok (.iload 4, 2) := by decide +kernel
theorem d_Md_lays_12 : decode m_Md_lays.2.1 12 = .ok (.aload_n 0, 1) := by decide +kernel
theorem d_Md_lays_13 : decode m_Md_lays.2.1 13 = .ok (.getfield 63, 3) := by decide +kernel
theorem d_Md_lays_16 : decode m_Md_lays.2.1 16 = .ok (.iload_n 1, 1) := by decide +kernel
theorem d_Md_lays_17 : decode m_Md_lays.2.1 17 = .ok (.iaload, 1) := by decide +kernel
theorem d_Md_lays_18 : decode m_Md_lays.2.1 18 = .ok (.if_icmp .ge 142, 3) := by decide +kernel
theorem d_Md_lays_21 : decode m_Md_lays.2.1 21 = .ok (.aload_n 0, 1) := by decide +kernel
theorem d_Md_lays_22 : decode m_Md_lays.2.1 22 = .ok (.getfield 63, 3) := by decide +kernel
theorem d_Md_lays_25 : decode m_Md_lays.2.1 25 = .ok (.iload_n 1, 1) := by decide +kernel
theorem d_Md_lays_26 : decode m_Md_lays.2.1 26 = .ok (.iaload, 1) := by decide +kernel
theorem d_Md_lays_27 : decode m_Md_lays.2.1 27 = .ok (.iload 4, 2) := by decide +kernel
theorem d_Md_lays_29 : decode m_Md_lays.2.1 29 = .ok (.isub, 1) := by decide +kernel
theorem d_Md_lays_30 : decode m_Md_lays.2.1 30 = .ok (.istore 5, 2) := by decide +kernel
theorem d_Md_lays_32 : decode m_Md_lays.2.1 32 = .ok (.aload_n 0, 1) := by decide +kernel
theorem d_Md_lays_33 : decode m_Md_lays.2.1 33 = .ok (.getfield 23, 3) := by decide +kernel
theorem d_Md_lays_36 : decode m_Md_lays.2.1 36 = .ok (.iload_n 1, 1) := by decide +kernel
theorem d_Md_lays_37 : decode m_Md_lays.2.1 37 = .ok (.iaload, 1) := by decide +kernel
theorem d_Md_lays_38 : decode m_Md_lays.2.1 38 = .ok (.istore 6, 2) := by decide +kernel
theorem d_Md_lays_40 : decode m_Md_lays.2.1 40 = .ok (.aload_n 0, 1) := by decide +kernel
theorem d_Md_lays_41 : decode m_Md_lays.2.1 41 = .ok (.iload_n 1, 1) := by decide +kernel
theorem d_Md_lays_42 : decode m_Md_lays.2.1 42 = .ok (.iload_n 3, 1) := by decide +kernel
theorem d_Md_lays_43 : decode m_Md_lays.2.1 43 = .ok (.iload 6, 2) := by decide +kernel
theorem d_Md_lays_45 : decode m_Md_lays.2.1 45 = .ok (.invokevirtual 179, 3) := by decide +kernel
theorem d_Md_lays_48 : decode m_Md_lays.2.1 48 = .ok (.ldc 178, 2) := by decide +kernel
theorem d_Md_lays_50 : decode m_Md_lays.2.1 50 = .ok (.if_icmp .ge 62, 3) := by decide +kernel
theorem d_Md_lays_53 : decode m_Md_lays.2.1 53 = .ok (.aload_n 0, 1) := by decide +kernel
theorem d_Md_lays_54 : decode m_Md_lays.2.1 54 = .ok (.getfield 41, 3) := by decide +kernel
theorem d_Md_lays_57 : decode m_Md_lays.2.1 57 = .ok (.bipush 31, 2) := by decide +kernel
theorem d_Md_lays_59 : decode m_Md_lays.2.1 59 = .ok (.iload 6, 2) := by decide +kernel
theorem d_Md_lays_61 : decode m_Md_lays.2.1 61 = .ok (.imul, 1) := by decide +kernel
theorem d_Md_lays_62 : decode m_Md_lays.2.1 62 = .ok (.iload 5, 2) := by decide +kernel
theorem d_Md_lays_64 : decode m_Md_lays.2.1 64 = .ok (.iadd, 1) := by decide +kernel
theorem d_Md_lays_65 : decode m_Md_lays.2.1 65 = .ok (.iconst 1, 1) := by decide +kernel
theorem d_Md_lays_66 : decode m_Md_lays.2.1 66 = .ok (.isub, 1) := by decide +kernel
theorem d_Md_lays_67 : decode m_Md_lays.2.1 67 = .ok (.iaload, 1) := by decide +kernel
theorem d_Md_lays_68 : decode m_Md_lays.2.1 68 = .ok (.ldc 178, 2) := by decide +kernel
theorem d_Md_lays_70 : decode m_Md_lays.2.1 70 = .ok (.if_icmp .ge 42, 3) := by decide +kernel
theorem d_Md_lays_73 : decode m_Md_lays.2.1 73 = .ok (.aload_n 0, 1) := by decide +kernel
theorem d_Md_lays_74 : decode m_Md_lays.2.1 74 = .ok (.iload_n 1, 1) := by decide +kernel
theorem d_Md_lays_75 : decode m_Md_lays.2.1 75 = .ok (.iload_n 3, 1) := by decide +kernel
theorem d_Md_lays_76 : decode m_Md_lays.2.1 76 = .ok (.iload 6, 2) := by decide +kernel
theorem d_Md_lays_78 : decode m_Md_lays.2.1 78 = .ok (.invokevirtual 179, 3) := by decide +kernel
theorem d_Md_lays_81 : decode m_Md_lays.2.1 81 = .ok (.aload_n 0, 1) := by decide +kernel
theorem d_Md_lays_82 : decode m_Md_lays.2.1 82 = .ok (.getfield 41, 3) := by decide +kernel
theorem d_Md_lays_85 : decode m_Md_lays.2.1 85 = .ok (.bipush 31, 2) := by decide +kernel
theorem d_Md_lays_87 : decode m_Md_lays.2.1 87 = .ok (.iload 6, 2) := by decide +kernel
theorem d_Md_lays_89 : decode m_Md_lays.2.1 89 = .ok (.imul, 1) := by decide +kernel
theorem d_Md_lays_90 : decode m_Md_lays.2.1 90 = .ok (.iload 5, 2) := by decide +kernel
theorem d_Md_lays_92 : decode m_Md_lays.2.1 92 = .ok (.iadd, 1) := by decide +kernel
theorem d_Md_lays_93 : decode m_Md_lays.2.1 93 = .ok (.iconst 1, 1) := by decide +kernel
theorem d_Md_lays_94 : decode m_Md_lays.2.1 94 = .ok (.isub, 1) := by decide +kernel
theorem d_Md_lays_95 : decode m_Md_lays.2.1 95 = .ok (.iaload, 1) := by decide +kernel
theorem d_Md_lays_96 : decode m_Md_lays.2.1 96 = .ok (.iadd, 1) := by decide +kernel
theorem d_Md_lays_97 : decode m_Md_lays.2.1 97 = .ok (.aload_n 0, 1) := by decide +kernel
theorem d_Md_lays_98 : decode m_Md_lays.2.1 98 = .ok (.getfield 41, 3) := by decide +kernel
theorem d_Md_lays_101 : decode m_Md_lays.2.1 101 = .ok (.bipush 31, 2) := by decide +kernel
theorem d_Md_lays_103 : decode m_Md_lays.2.1 103 = .ok (.iload_n 3, 1) := by decide +kernel
theorem d_Md_lays_104 : decode m_Md_lays.2.1 104 = .ok (.imul, 1) := by decide +kernel
theorem d_Md_lays_105 : decode m_Md_lays.2.1 105 = .ok (.iload 5, 2) := by decide +kernel
theorem d_Md_lays_107 : decode m_Md_lays.2.1 107 = .ok (.iadd, 1) := by decide +kernel
theorem d_Md_lays_108 : decode m_Md_lays.2.1 108 = .ok (.iaload, 1) := by decide +kernel
theorem d_Md_lays_109 : decode m_Md_lays.2.1 109 = .ok (.if_icmp .eq 9, 3) := by decide +kernel
theorem d_Md_lays_112 : decode m_Md_lays.2.1 112 = .ok (.iinc 6 (-1), 3) := by decide +kernel
theorem d_Md_lays_115 : decode m_Md_lays.2.1 115 = .ok (.goto (-75), 3) := by decide +kernel
theorem d_Md_lays_118 : decode m_Md_lays.2.1 118 = .ok (.aload_n 0, 1) := by decide +kernel
theorem d_Md_lays_119 : decode m_Md_lays.2.1 119 = .ok (.getfield 66, 3) := by decide +kernel
theorem d_Md_lays_122 : decode m_Md_lays.2.1 122 = .ok (.iload_n 2, 1) := by decide +kernel
theorem d_Md_lays_123 : decode m_Md_lays.2.1 123 = .ok (.iload 4, 2) := by decide +kernel
theorem d_Md_lays_125 : decode m_Md_lays.2.1 125 = .ok (.iadd, 1) := by decide +kernel
theorem d_Md_lays_126 : decode m_Md_lays.2.1 126 = .ok (.iload_n 1, 1) := by decide +kernel
theorem d_Md_lays_127 : decode m_Md_lays.2.1 127 = .ok (.iastore, 1) := by decide +kernel
theorem d_Md_lays_128 : decode m_Md_lays.2.1 128 = .ok (.aload_n 0, 1) := by decide +kernel
theorem d_Md_lays_129 : decode m_Md_lays.2.1 129 = .ok (.getfield 69, 3) := by decide +kernel
theorem d_Md_lays_132 : decode m_Md_lays.2.1 132 = .ok (.iload_n 2, 1) := by decide +kernel
theorem d_Md_lays_133 : decode m_Md_lays.2.1 133 = .ok (.iload 4, 2) := by decide +kernel
theorem d_Md_lays_135 : decode m_Md_lays.2.1 135 = .ok (.iadd, 1) := by decide +kernel
theorem d_Md_lays_136 : decode m_Md_lays.2.1 136 = .ok (.iload_n 3, 1) := by decide +kernel
theorem d_Md_lays_137 : decode m_Md_lays.2.1 137 = .ok (.iastore, 1) := by decide +kernel
theorem d_Md_lays_138 : decode m_Md_lays.2.1 138 = .ok (.aload_n 0, 1) := by decide +kernel
theorem d_Md_lays_139 : decode m_Md_lays.2.1 139 = .ok (.getfield 72, 3) := by decide +kernel
theorem d_Md_lays_142 : decode m_Md_lays.2.1 142 = .ok (.iload_n 2, 1) := by decide +kernel
theorem d_Md_lays_143 : decode m_Md_lays.2.1 143 = .ok (.iload 4, 2) := by decide +kernel
theorem d_Md_lays_145 : decode m_Md_lays.2.1 145 = .ok (.iadd, 1) := by decide +kernel
theorem d_Md_lays_146 : decode m_Md_lays.2.1 146 = .ok (.iload 6, 2) := by decide +kernel
theorem d_Md_lays_148 : decode m_Md_lays.2.1 148 = .ok (.iload_n 3, 1) := by decide +kernel
theorem d_Md_lays_149 : decode m_Md_lays.2.1 149 = .ok (.isub, 1) := by decide +kernel
theorem d_Md_lays_150 : decode m_Md_lays.2.1 150 = .ok (.iastore, 1) := by decide +kernel
theorem d_Md_lays_151 : decode m_Md_lays.2.1 151 = .ok (.iload 6, 2) := by decide +kernel
theorem d_Md_lays_153 : decode m_Md_lays.2.1 153 = .ok (.istore_n 3, 1) := by decide +kernel
theorem d_Md_lays_154 : decode m_Md_lays.2.1 154 = .ok (.iinc 4 1, 3) := by decide +kernel
theorem d_Md_lays_157 : decode m_Md_lays.2.1 157 = .ok (.goto (-147), 3) := by decide +kernel
theorem d_Md_lays_160 : decode m_Md_lays.2.1 160 = .ok (.return_, 1) := by decide +kernel
set_option maxHeartbeats 4000000 in
set_option maxRecDepth 100000 in
theorem B_Md_lays_0 {S : XS} {Q : St → Prop} (σ : St) (x1 : Int32) (x2 : Int32) (H : CM S m_Md_breaks [.ref 153, .int x1] (enc σ) (qV (fun τ2 => BW S m_Md_lays 10 [some (.ref 153), some (.int x1), some (.int x2), some (.int (0 : Int32)), some (.int (0 : Int32)), none, none] [] (enc τ2) (qV Q)))) : BW S m_Md_lays 0 [some (.ref 153), some (.int x1), some (.int x2), none, none, none, none] [] (enc σ) (qV Q) := by
  refine b_aload_n d_Md_lays_0 rfl rfl ?_
  refine b_iload_n d_Md_lays_1 rfl rfl ?_
  refine b_callVv (Mc := m_Md_breaks) (As := [.int x1]) (st := []) d_Md_lays_2 ⟨⟨kA_Md_breaks.1, kA_Md_breaks.2.1, kA_Md_breaks.2.2, by decide⟩, ml_Md_183, kV_Md_breaks⟩ (eg_153 σ) rfl rfl (Nat.le_of_ble_eq_true rfl) H (fun τ2 H => ?_)
  refine b_iconst (v := (0 : Int32)) d_Md_lays_5 (by decide) ?_
  refine b_istore_n (ls' := [some (.ref 153), some (.int x1), some (.int x2), some (.int (0 : Int32)), none, none, none]) d_Md_lays_6 rfl (Nat.le_of_ble_eq_true rfl) rfl ?_
  refine b_iconst (v := (0 : Int32)) d_Md_lays_7 (by decide) ?_
  refine b_istore (ls' := [some (.ref 153), some (.int x1), some (.int x2), some (.int (0 : Int32)), some (.int (0 : Int32)), none, none]) d_Md_lays_8 (Nat.le_of_ble_eq_true rfl) rfl ?_
  exact b_mask [true, true, true, true, true, true, true] rfl H
set_option maxHeartbeats 4000000 in
set_option maxRecDepth 100000 in
theorem B_Md_lays_10 {S : XS} {Q : St → Prop} (σ : St) (x1 : Int32) (x2 : Int32) (x3 : Int32) (x4 : Int32) (H : (vp_in x1 20) ∧ ((((gC σ 10) x1.toNatClampNeg) ≤ x4 → Q σ) ∧ (¬ ((gC σ 10) x1.toNatClampNeg) ≤ x4 → BW S m_Md_lays 40 [some (.ref 153), some (.int x1), some (.int x2), some (.int x3), some (.int x4), some (.int (((gC σ 10) x1.toNatClampNeg) - x4)), some (.int ((gC σ 2) x1.toNatClampNeg))] [] (enc σ) (qV Q)))) : BW S m_Md_lays 10 [some (.ref 153), some (.int x1), some (.int x2), some (.int x3), some (.int x4), none, none] [] (enc σ) (qV Q) := by
  refine b_iload d_Md_lays_10 rfl ?_
  refine b_aload_n d_Md_lays_12 rfl rfl ?_
  refine b_getf (v := .ref 164) d_Md_lays_13 fl_Md_63 (eg_153 σ) rfl ?_
  refine b_iload_n d_Md_lays_16 rfl rfl ?_
  obtain ⟨h3, H⟩ := H
  refine b_iald d_Md_lays_17 (eg_164 σ) h3 ?_
  refine b_st2 (st' := [.int ((gC σ 10) x1.toNatClampNeg), .int x4]) rfl ?_
  refine b_icmp_ge (tgt := 160) d_Md_lays_18 (by decide) (fun c4 => ?_) (fun c4 => ?_)
  · have H := H.1 c4
    exact b_vret d_Md_lays_160 rfl ⟨_, rfl, rfl, H⟩
  · have H := H.2 c4
    refine b_aload_n d_Md_lays_21 rfl rfl ?_
    refine b_getf (v := .ref 164) d_Md_lays_22 fl_Md_63 (eg_153 σ) rfl ?_
    refine b_iload_n d_Md_lays_25 rfl rfl ?_
    refine b_iald d_Md_lays_26 (eg_164 σ) h3 ?_
    refine b_st2 (st' := [.int ((gC σ 10) x1.toNatClampNeg)]) rfl ?_
    refine b_iload d_Md_lays_27 rfl ?_
    refine b_isub d_Md_lays_29  ?_
    refine b_istore (ls' := [some (.ref 153), some (.int x1), some (.int x2), some (.int x3), some (.int x4), some (.int (((gC σ 10) x1.toNatClampNeg) - x4)), none]) d_Md_lays_30 (Nat.le_of_ble_eq_true rfl) rfl ?_
    refine b_aload_n d_Md_lays_32 rfl rfl ?_
    refine b_getf (v := .ref 156) d_Md_lays_33 fl_Md_23 (eg_153 σ) rfl ?_
    refine b_iload_n d_Md_lays_36 rfl rfl ?_
    refine b_iald d_Md_lays_37 (eg_156 σ) h3 ?_
    refine b_st2 (st' := [.int ((gC σ 2) x1.toNatClampNeg)]) rfl ?_
    refine b_istore (ls' := [some (.ref 153), some (.int x1), some (.int x2), some (.int x3), some (.int x4), some (.int (((gC σ 10) x1.toNatClampNeg) - x4)), some (.int ((gC σ 2) x1.toNatClampNeg))]) d_Md_lays_38 (Nat.le_of_ble_eq_true rfl) rfl ?_
    exact b_mask [true, true, true, true, true, true, true] rfl H
set_option maxHeartbeats 4000000 in
set_option maxRecDepth 100000 in
theorem B_Md_lays_40 {S : XS} {Q : St → Prop} (σ : St) (x1 : Int32) (x2 : Int32) (x3 : Int32) (x4 : Int32) (x5 : Int32) (x6 : Int32) (H : CM S m_Md_cost [.ref 153, .int x1, .int x3, .int x6] (enc σ) (qI (fun v5 τ6 => (((1000000000 : Int32) ≤ v5 → BW S m_Md_lays 40 [some (.ref 153), some (.int x1), some (.int x2), some (.int x3), some (.int x4), some (.int x5), some (.int (x6 + (-1 : Int32)))] [] (enc τ6) (qV Q)) ∧ (¬ (1000000000 : Int32) ≤ v5 → (vp_in ((((31 : Int32) * x6) + x5) - (1 : Int32)) 961) ∧ (((1000000000 : Int32) ≤ ((gC τ6 4) ((((31 : Int32) * x6) + x5) - (1 : Int32)).toNatClampNeg) → BW S m_Md_lays 40 [some (.ref 153), some (.int x1), some (.int x2), some (.int x3), some (.int x4), some (.int x5), some (.int (x6 + (-1 : Int32)))] [] (enc τ6) (qV Q)) ∧ (¬ (1000000000 : Int32) ≤ ((gC τ6 4) ((((31 : Int32) * x6) + x5) - (1 : Int32)).toNatClampNeg) → CM S m_Md_cost [.ref 153, .int x1, .int x3, .int x6] (enc τ6) (qI (fun v8 τ9 => (vp_in ((((31 : Int32) * x6) + x5) - (1 : Int32)) 961) ∧ (vp_in (((31 : Int32) * x3) + x5) 961) ∧ (((v8 + ((gC τ9 4) ((((31 : Int32) * x6) + x5) - (1 : Int32)).toNatClampNeg)) = ((gC τ9 4) (((31 : Int32) * x3) + x5).toNatClampNeg) → (vp_in (x2 + x4) 120) ∧ BW S m_Md_lays 10 [some (.ref 153), some (.int x1), some (.int x2), some (.int x6), some (.int (x4 + (1 : Int32))), none, none] [] (enc (sC (sC (sC τ9 11 (upd (gC τ9 11) (x2 + x4).toNatClampNeg x1)) 12 (upd (gC τ9 12) (x2 + x4).toNatClampNeg x3)) 13 (upd (gC τ9 13) (x2 + x4).toNatClampNeg (x6 - x3)))) (qV Q)) ∧ (¬ (v8 + ((gC τ9 4) ((((31 : Int32) * x6) + x5) - (1 : Int32)).toNatClampNeg)) = ((gC τ9 4) (((31 : Int32) * x3) + x5).toNatClampNeg) → BW S m_Md_lays 40 [some (.ref 153), some (.int x1), some (.int x2), some (.int x3), some (.int x4), some (.int x5), some (.int (x6 + (-1 : Int32)))] [] (enc τ9) (qV Q)))))))))))) : BW S m_Md_lays 40 [some (.ref 153), some (.int x1), some (.int x2), some (.int x3), some (.int x4), some (.int x5), some (.int x6)] [] (enc σ) (qV Q) := by
  refine b_aload_n d_Md_lays_40 rfl rfl ?_
  refine b_iload_n d_Md_lays_41 rfl rfl ?_
  refine b_iload_n d_Md_lays_42 rfl rfl ?_
  refine b_iload d_Md_lays_43 rfl ?_
  refine b_callVi (Mc := m_Md_cost) (As := [.int x1, .int x3, .int x6]) (st := []) d_Md_lays_45 ⟨⟨kA_Md_cost.1, kA_Md_cost.2.1, kA_Md_cost.2.2, by decide⟩, ml_Md_179, kV_Md_cost⟩ (eg_153 σ) rfl rfl (Nat.le_of_ble_eq_true rfl) H (fun v5 τ6 H => ?_)
  refine b_ldc (v := (1000000000 : Int32)) d_Md_lays_48 cn_Md_178 ?_
  refine b_icmp_ge (tgt := 112) d_Md_lays_50 (by decide) (fun c15 => ?_) (fun c15 => ?_)
  · have H := H.1 c15
    refine b_iinc (v := (x6 + (-1 : Int32))) (ls' := [some (.ref 153), some (.int x1), some (.int x2), some (.int x3), some (.int x4), some (.int x5), some (.int (x6 + (-1 : Int32)))]) d_Md_lays_112 rfl rfl (Nat.le_of_ble_eq_true rfl) rfl ?_
    refine b_goto (tgt := 40) d_Md_lays_115 (by decide) ?_
    exact b_mask [true, true, true, true, true, true, true] rfl H
  · have H := H.2 c15
    refine b_aload_n d_Md_lays_53 rfl rfl ?_
    refine b_getf (v := .ref 158) d_Md_lays_54 fl_Md_41 (eg_153 τ6) rfl ?_
    refine b_bipush (v := (31 : Int32)) d_Md_lays_57 (by decide) ?_
    refine b_iload d_Md_lays_59 rfl ?_
    refine b_imul d_Md_lays_61  ?_
    refine b_iload d_Md_lays_62 rfl ?_
    refine b_iadd d_Md_lays_64  ?_
    refine b_iconst (v := (1 : Int32)) d_Md_lays_65 (by decide) ?_
    refine b_isub d_Md_lays_66  ?_
    obtain ⟨h7, H⟩ := H
    refine b_iald d_Md_lays_67 (eg_158 τ6) h7 ?_
    refine b_st2 (st' := [.int ((gC τ6 4) ((((31 : Int32) * x6) + x5) - (1 : Int32)).toNatClampNeg)]) rfl ?_
    refine b_ldc (v := (1000000000 : Int32)) d_Md_lays_68 cn_Md_178 ?_
    refine b_icmp_ge (tgt := 112) d_Md_lays_70 (by decide) (fun c14 => ?_) (fun c14 => ?_)
    · have H := H.1 c14
      refine b_iinc (v := (x6 + (-1 : Int32))) (ls' := [some (.ref 153), some (.int x1), some (.int x2), some (.int x3), some (.int x4), some (.int x5), some (.int (x6 + (-1 : Int32)))]) d_Md_lays_112 rfl rfl (Nat.le_of_ble_eq_true rfl) rfl ?_
      refine b_goto (tgt := 40) d_Md_lays_115 (by decide) ?_
      exact b_mask [true, true, true, true, true, true, true] rfl H
    · have H := H.2 c14
      refine b_aload_n d_Md_lays_73 rfl rfl ?_
      refine b_iload_n d_Md_lays_74 rfl rfl ?_
      refine b_iload_n d_Md_lays_75 rfl rfl ?_
      refine b_iload d_Md_lays_76 rfl ?_
      refine b_callVi (Mc := m_Md_cost) (As := [.int x1, .int x3, .int x6]) (st := []) d_Md_lays_78 ⟨⟨kA_Md_cost.1, kA_Md_cost.2.1, kA_Md_cost.2.2, by decide⟩, ml_Md_179, kV_Md_cost⟩ (eg_153 τ6) rfl rfl (Nat.le_of_ble_eq_true rfl) H (fun v8 τ9 H => ?_)
      refine b_aload_n d_Md_lays_81 rfl rfl ?_
      refine b_getf (v := .ref 158) d_Md_lays_82 fl_Md_41 (eg_153 τ9) rfl ?_
      refine b_bipush (v := (31 : Int32)) d_Md_lays_85 (by decide) ?_
      refine b_iload d_Md_lays_87 rfl ?_
      refine b_imul d_Md_lays_89  ?_
      refine b_iload d_Md_lays_90 rfl ?_
      refine b_iadd d_Md_lays_92  ?_
      refine b_iconst (v := (1 : Int32)) d_Md_lays_93 (by decide) ?_
      refine b_isub d_Md_lays_94  ?_
      obtain ⟨h10, H⟩ := H
      refine b_iald d_Md_lays_95 (eg_158 τ9) h10 ?_
      refine b_st2 (st' := [.int ((gC τ9 4) ((((31 : Int32) * x6) + x5) - (1 : Int32)).toNatClampNeg), .int v8]) rfl ?_
      refine b_iadd d_Md_lays_96  ?_
      refine b_aload_n d_Md_lays_97 rfl rfl ?_
      refine b_getf (v := .ref 158) d_Md_lays_98 fl_Md_41 (eg_153 τ9) rfl ?_
      refine b_bipush (v := (31 : Int32)) d_Md_lays_101 (by decide) ?_
      refine b_iload_n d_Md_lays_103 rfl rfl ?_
      refine b_imul d_Md_lays_104  ?_
      refine b_iload d_Md_lays_105 rfl ?_
      refine b_iadd d_Md_lays_107  ?_
      obtain ⟨h11, H⟩ := H
      refine b_iald d_Md_lays_108 (eg_158 τ9) h11 ?_
      refine b_st2 (st' := [.int ((gC τ9 4) (((31 : Int32) * x3) + x5).toNatClampNeg), .int (v8 + ((gC τ9 4) ((((31 : Int32) * x6) + x5) - (1 : Int32)).toNatClampNeg))]) rfl ?_
      refine b_icmp_eq (tgt := 118) d_Md_lays_109 (by decide) (fun c13 => ?_) (fun c13 => ?_)
      · have H := H.1 c13
        refine b_aload_n d_Md_lays_118 rfl rfl ?_
        refine b_getf (v := .ref 165) d_Md_lays_119 fl_Md_66 (eg_153 τ9) rfl ?_
        refine b_iload_n d_Md_lays_122 rfl rfl ?_
        refine b_iload d_Md_lays_123 rfl ?_
        refine b_iadd d_Md_lays_125  ?_
        refine b_iload_n d_Md_lays_126 rfl rfl ?_
        obtain ⟨h12, H⟩ := H
        refine b_iast (h1 := enc (sC τ9 11 (upd (gC τ9 11) (x2 + x4).toNatClampNeg x1))) d_Md_lays_127 (eg_165 τ9) h12 (es_165 τ9 (upd (gC τ9 11) (x2 + x4).toNatClampNeg x1)) ?_
        refine b_aload_n d_Md_lays_128 rfl rfl ?_
        refine b_getf (v := .ref 166) d_Md_lays_129 fl_Md_69 (eg_153 (sC τ9 11 (upd (gC τ9 11) (x2 + x4).toNatClampNeg x1))) rfl ?_
        refine b_iload_n d_Md_lays_132 rfl rfl ?_
        refine b_iload d_Md_lays_133 rfl ?_
        refine b_iadd d_Md_lays_135  ?_
        refine b_iload_n d_Md_lays_136 rfl rfl ?_
        refine b_iast (h1 := enc (sC (sC τ9 11 (upd (gC τ9 11) (x2 + x4).toNatClampNeg x1)) 12 (upd (gC τ9 12) (x2 + x4).toNatClampNeg x3))) d_Md_lays_137 (eg_166 (sC τ9 11 (upd (gC τ9 11) (x2 + x4).toNatClampNeg x1))) h12 (es_166 (sC τ9 11 (upd (gC τ9 11) (x2 + x4).toNatClampNeg x1)) (upd (gC τ9 12) (x2 + x4).toNatClampNeg x3)) ?_
        refine b_aload_n d_Md_lays_138 rfl rfl ?_
        refine b_getf (v := .ref 167) d_Md_lays_139 fl_Md_72 (eg_153 (sC (sC τ9 11 (upd (gC τ9 11) (x2 + x4).toNatClampNeg x1)) 12 (upd (gC τ9 12) (x2 + x4).toNatClampNeg x3))) rfl ?_
        refine b_iload_n d_Md_lays_142 rfl rfl ?_
        refine b_iload d_Md_lays_143 rfl ?_
        refine b_iadd d_Md_lays_145  ?_
        refine b_iload d_Md_lays_146 rfl ?_
        refine b_iload_n d_Md_lays_148 rfl rfl ?_
        refine b_isub d_Md_lays_149  ?_
        refine b_iast (h1 := enc (sC (sC (sC τ9 11 (upd (gC τ9 11) (x2 + x4).toNatClampNeg x1)) 12 (upd (gC τ9 12) (x2 + x4).toNatClampNeg x3)) 13 (upd (gC τ9 13) (x2 + x4).toNatClampNeg (x6 - x3)))) d_Md_lays_150 (eg_167 (sC (sC τ9 11 (upd (gC τ9 11) (x2 + x4).toNatClampNeg x1)) 12 (upd (gC τ9 12) (x2 + x4).toNatClampNeg x3))) h12 (es_167 (sC (sC τ9 11 (upd (gC τ9 11) (x2 + x4).toNatClampNeg x1)) 12 (upd (gC τ9 12) (x2 + x4).toNatClampNeg x3)) (upd (gC τ9 13) (x2 + x4).toNatClampNeg (x6 - x3))) ?_
        refine b_iload d_Md_lays_151 rfl ?_
        refine b_istore_n (ls' := [some (.ref 153), some (.int x1), some (.int x2), some (.int x6), some (.int x4), some (.int x5), some (.int x6)]) d_Md_lays_153 rfl (Nat.le_of_ble_eq_true rfl) rfl ?_
        refine b_iinc (v := (x4 + (1 : Int32))) (ls' := [some (.ref 153), some (.int x1), some (.int x2), some (.int x6), some (.int (x4 + (1 : Int32))), some (.int x5), some (.int x6)]) d_Md_lays_154 rfl rfl (Nat.le_of_ble_eq_true rfl) rfl ?_
        refine b_goto (tgt := 10) d_Md_lays_157 (by decide) ?_
        exact b_mask [true, true, true, true, true, false, false] rfl H
      · have H := H.2 c13
        refine b_iinc (v := (x6 + (-1 : Int32))) (ls' := [some (.ref 153), some (.int x1), some (.int x2), some (.int x3), some (.int x4), some (.int x5), some (.int (x6 + (-1 : Int32)))]) d_Md_lays_112 rfl rfl (Nat.le_of_ble_eq_true rfl) rfl ?_
        refine b_goto (tgt := 40) d_Md_lays_115 (by decide) ?_
        exact b_mask [true, true, true, true, true, true, true] rfl H
theorem C_Md_lays {S : XS} {Q : St → Prop} (σ : St) (x1 : Int32) (x2 : Int32) (H : BW S m_Md_lays 0 [some (.ref 153), some (.int x1), some (.int x2), none, none, none, none] [] (enc σ) (qV Q)) : CM S m_Md_lays [.ref 153, .int x1, .int x2] (enc σ) (qV Q) := b_meth (by decide) (Nat.le_of_ble_eq_true rfl) rfl H
theorem d_Md_set_0 : decode m_Md_set.2.1 0 = .ok (.iload_n 1, 1) := by decide +kernel
theorem d_Md_set_1 : decode m_Md_set.2.1 1 = .ok (.ifCond .lt 11, 3) := by decide +kernel
theorem d_Md_set_4 : decode m_Md_set.2.1 4 = .ok (.iload_n 1, 1) := by decide +kernel
theorem d_Md_set_5 : decode m_Md_set.2.1 5 = .ok (.aload_n 0, 1) := by decide +kernel
theorem d_Md_set_6 : decode m_Md_set.2.1 6 = .ok (.getfield 50, 3) := by decide +kernel
theorem d_Md_set_9 : decode m_Md_set.2.1 9 = .ok (.if_icmp .lt 5, 3) := by decide +kernel
theorem d_Md_set_12 : decode m_Md_set.2.1 12 = .ok (.iconst (-1), 1) := by decide +kernel
theorem d_Md_set_13 : decode m_Md_set.2.1 13 = .ok (.ireturn, 1) := by decide +kernel
theorem d_Md_set_14 : decode m_Md_set.2.1 14 = .ok (.iload_n 2, 1) := by decide +kernel
theorem d_Md_set_15 : decode m_Md_set.2.1 15 = .ok (.tableswitch 65 0 3 #[29, 44, 51, 58], 29) := by decide +kernel
theorem d_Md_set_44 : decode m_Md_set.2.1 44 = .ok (.aload_n 0, 1) := by decide +kernel
theorem d_Md_set_45 : decode m_Md_set.2.1 45 = .ok (.getfield 53, 3) := by decide +kernel
theorem d_Md_set_48 : decode m_Md_set.2.1 48 = .ok (.iload_n 1, 1) := by decide +kernel
theorem d_Md_set_49 : decode m_Md_set.2.1 49 = .ok (.baload, 1) := by decide +kernel
theorem d_Md_set_50 : decode m_Md_set.2.1 50 = .ok (.ifCond .eq 7, 3) := by decide +kernel
theorem d_Md_set_53 : decode m_Md_set.2.1 53 = .ok (.iconst 1, 1) := by decide +kernel
theorem d_Md_set_54 : decode m_Md_set.2.1 54 = .ok (.goto 4, 3) := by decide +kernel
theorem d_Md_set_57 : decode m_Md_set.2.1 57 = .ok (.iconst 0, 1) := by decide +kernel
theorem d_Md_set_58 : decode m_Md_set.2.1 58 = .ok (.ireturn, 1) := by decide +kernel
theorem d_Md_set_59 : decode m_Md_set.2.1 59 = .ok (.aload_n 0, 1) := by decide +kernel
theorem d_Md_set_60 : decode m_Md_set.2.1 60 = .ok (.getfield 57, 3) := by decide +kernel
theorem d_Md_set_63 : decode m_Md_set.2.1 63 = .ok (.iload_n 1, 1) := by decide +kernel
theorem d_Md_set_64 : decode m_Md_set.2.1 64 = .ok (.iaload, 1) := by decide +kernel
theorem d_Md_set_65 : decode m_Md_set.2.1 65 = .ok (.ireturn, 1) := by decide +kernel
theorem d_Md_set_66 : decode m_Md_set.2.1 66 = .ok (.aload_n 0, 1) := by decide +kernel
theorem d_Md_set_67 : decode m_Md_set.2.1 67 = .ok (.getfield 60, 3) := by decide +kernel
theorem d_Md_set_70 : decode m_Md_set.2.1 70 = .ok (.iload_n 1, 1) := by decide +kernel
theorem d_Md_set_71 : decode m_Md_set.2.1 71 = .ok (.iaload, 1) := by decide +kernel
theorem d_Md_set_72 : decode m_Md_set.2.1 72 = .ok (.ireturn, 1) := by decide +kernel
theorem d_Md_set_73 : decode m_Md_set.2.1 73 = .ok (.aload_n 0, 1) := by decide +kernel
theorem d_Md_set_74 : decode m_Md_set.2.1 74 = .ok (.getfield 63, 3) := by decide +kernel
theorem d_Md_set_77 : decode m_Md_set.2.1 77 = .ok (.iload_n 1, 1) := by decide +kernel
theorem d_Md_set_78 : decode m_Md_set.2.1 78 = .ok (.iaload, 1) := by decide +kernel
theorem d_Md_set_79 : decode m_Md_set.2.1 79 = .ok (.ireturn, 1) := by decide +kernel
theorem d_Md_set_80 : decode m_Md_set.2.1 80 = .ok (.iconst (-1), 1) := by decide +kernel
theorem d_Md_set_81 : decode m_Md_set.2.1 81 = .ok (.ireturn, 1) := by decide +kernel
set_option maxHeartbeats 4000000 in
set_option maxRecDepth 100000 in
theorem B_Md_set_0 {S : XS} {Q : Int32 → St → Prop} (σ : St) (x1 : Int32) (x2 : Int32) (H : ((x1 < 0 → Q (-1 : Int32) σ) ∧ (¬ x1 < 0 → ((x1 < (gY σ 6) → ((x2 = (0 : Int32) → (vp_in x1 20) ∧ ((((gC σ 7) x1.toNatClampNeg) = 0 → Q (0 : Int32) σ) ∧ (¬ ((gC σ 7) x1.toNatClampNeg) = 0 → Q (1 : Int32) σ))) ∧ (x2 = (1 : Int32) → (vp_in x1 20) ∧ Q ((gC σ 8) x1.toNatClampNeg) σ) ∧ (x2 = (2 : Int32) → (vp_in x1 20) ∧ Q ((gC σ 9) x1.toNatClampNeg) σ) ∧ (x2 = (3 : Int32) → (vp_in x1 20) ∧ Q ((gC σ 10) x1.toNatClampNeg) σ) ∧ (¬ x2 = (0 : Int32) → ¬ x2 = (1 : Int32) → ¬ x2 = (2 : Int32) → ¬ x2 = (3 : Int32) → Q (-1 : Int32) σ))) ∧ (¬ x1 < (gY σ 6) → Q (-1 : Int32) σ))))) : BW S m_Md_set 0 [some (.ref 153), some (.int x1), some (.int x2)] [] (enc σ) (qI Q) := by
  refine b_iload_n d_Md_set_0 rfl rfl ?_
  refine b_if_lt (tgt := 12) d_Md_set_1 (by decide) (fun c11 => ?_) (fun c11 => ?_)
  · have H := H.1 c11
    refine b_iconst (v := (-1 : Int32)) d_Md_set_12 (by decide) ?_
    exact b_iret (ty := .int) d_Md_set_13 rfl rfl ⟨_, _, rfl, rfl, H⟩
  · have H := H.2 c11
    refine b_iload_n d_Md_set_4 rfl rfl ?_
    refine b_aload_n d_Md_set_5 rfl rfl ?_
    refine b_getf (v := .int (gY σ 6)) d_Md_set_6 fl_Md_50 (eg_153 σ) rfl ?_
    refine b_icmp_lt (tgt := 14) d_Md_set_9 (by decide) (fun c10 => ?_) (fun c10 => ?_)
    · have H := H.1 c10
      refine b_iload_n d_Md_set_14 rfl rfl ?_
      by_cases c1 : x2 = (0 : Int32)
      · have H := H.1 c1
        refine b_tableIn (off := 29) (tgt := 44) d_Md_set_15 (by rw [c1]; decide) (by rw [c1]; decide) (by rw [c1]; rfl) (by decide) ?_
        refine b_aload_n d_Md_set_44 rfl rfl ?_
        refine b_getf (v := .ref 161) d_Md_set_45 fl_Md_53 (eg_153 σ) rfl ?_
        refine b_iload_n d_Md_set_48 rfl rfl ?_
        obtain ⟨h5, H⟩ := H
        refine b_zald d_Md_set_49 (eg_161 σ) h5 ?_
        refine b_st2 (st' := [.int ((gC σ 7) x1.toNatClampNeg)]) rfl ?_
        refine b_if_eq (tgt := 57) d_Md_set_50 (by decide) (fun c6 => ?_) (fun c6 => ?_)
        · have H := H.1 c6
          refine b_iconst (v := (0 : Int32)) d_Md_set_57 (by decide) ?_
          exact b_iret (ty := .int) d_Md_set_58 rfl rfl ⟨_, _, rfl, rfl, H⟩
        · have H := H.2 c6
          refine b_iconst (v := (1 : Int32)) d_Md_set_53 (by decide) ?_
          refine b_goto (tgt := 58) d_Md_set_54 (by decide) ?_
          exact b_iret (ty := .int) d_Md_set_58 rfl rfl ⟨_, _, rfl, rfl, H⟩
      by_cases c2 : x2 = (1 : Int32)
      · have H := H.2.1 c2
        refine b_tableIn (off := 44) (tgt := 59) d_Md_set_15 (by rw [c2]; decide) (by rw [c2]; decide) (by rw [c2]; rfl) (by decide) ?_
        refine b_aload_n d_Md_set_59 rfl rfl ?_
        refine b_getf (v := .ref 162) d_Md_set_60 fl_Md_57 (eg_153 σ) rfl ?_
        refine b_iload_n d_Md_set_63 rfl rfl ?_
        obtain ⟨h7, H⟩ := H
        refine b_iald d_Md_set_64 (eg_162 σ) h7 ?_
        refine b_st2 (st' := [.int ((gC σ 8) x1.toNatClampNeg)]) rfl ?_
        exact b_iret (ty := .int) d_Md_set_65 rfl rfl ⟨_, _, rfl, rfl, H⟩
      by_cases c3 : x2 = (2 : Int32)
      · have H := H.2.2.1 c3
        refine b_tableIn (off := 51) (tgt := 66) d_Md_set_15 (by rw [c3]; decide) (by rw [c3]; decide) (by rw [c3]; rfl) (by decide) ?_
        refine b_aload_n d_Md_set_66 rfl rfl ?_
        refine b_getf (v := .ref 163) d_Md_set_67 fl_Md_60 (eg_153 σ) rfl ?_
        refine b_iload_n d_Md_set_70 rfl rfl ?_
        obtain ⟨h8, H⟩ := H
        refine b_iald d_Md_set_71 (eg_163 σ) h8 ?_
        refine b_st2 (st' := [.int ((gC σ 9) x1.toNatClampNeg)]) rfl ?_
        exact b_iret (ty := .int) d_Md_set_72 rfl rfl ⟨_, _, rfl, rfl, H⟩
      by_cases c4 : x2 = (3 : Int32)
      · have H := H.2.2.2.1 c4
        refine b_tableIn (off := 58) (tgt := 73) d_Md_set_15 (by rw [c4]; decide) (by rw [c4]; decide) (by rw [c4]; rfl) (by decide) ?_
        refine b_aload_n d_Md_set_73 rfl rfl ?_
        refine b_getf (v := .ref 164) d_Md_set_74 fl_Md_63 (eg_153 σ) rfl ?_
        refine b_iload_n d_Md_set_77 rfl rfl ?_
        obtain ⟨h9, H⟩ := H
        refine b_iald d_Md_set_78 (eg_164 σ) h9 ?_
        refine b_st2 (st' := [.int ((gC σ 10) x1.toNatClampNeg)]) rfl ?_
        exact b_iret (ty := .int) d_Md_set_79 rfl rfl ⟨_, _, rfl, rfl, H⟩
      have H := H.2.2.2.2 c1 c2 c3 c4
      refine b_tableOut (tgt := 80) d_Md_set_15 (tabOut 4 (fun k hk e => ?_)) (by decide) ?_
      · match k, hk, e with
        | 0, _, e => exact c1 (Int32.toInt_inj.mp (e.trans (by decide)))
        | 1, _, e => exact c2 (Int32.toInt_inj.mp (e.trans (by decide)))
        | 2, _, e => exact c3 (Int32.toInt_inj.mp (e.trans (by decide)))
        | 3, _, e => exact c4 (Int32.toInt_inj.mp (e.trans (by decide)))
        | (k + 4), hk, _ => omega
      refine b_iconst (v := (-1 : Int32)) d_Md_set_80 (by decide) ?_
      exact b_iret (ty := .int) d_Md_set_81 rfl rfl ⟨_, _, rfl, rfl, H⟩
    · have H := H.2 c10
      refine b_iconst (v := (-1 : Int32)) d_Md_set_12 (by decide) ?_
      exact b_iret (ty := .int) d_Md_set_13 rfl rfl ⟨_, _, rfl, rfl, H⟩
theorem C_Md_set {S : XS} {Q : Int32 → St → Prop} (σ : St) (x1 : Int32) (x2 : Int32) (H : BW S m_Md_set 0 [some (.ref 153), some (.int x1), some (.int x2)] [] (enc σ) (qI Q)) : CM S m_Md_set [.ref 153, .int x1, .int x2] (enc σ) (qI Q) := b_meth (by decide) (Nat.le_of_ble_eq_true rfl) rfl H
