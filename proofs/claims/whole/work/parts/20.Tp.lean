/-! block rules, by program -/
theorem d_Tp_hasRoom_0 : decode m_Tp_hasRoom.2.1 0 = .ok (.aload_n 0, 1) := by decide +kernel
theorem d_Tp_hasRoom_1 : decode m_Tp_hasRoom.2.1 1 = .ok (.getfield 19, 3) := by decide +kernel
theorem d_Tp_hasRoom_4 : decode m_Tp_hasRoom.2.1 4 = .ok (.bipush 20, 2) := by decide +kernel
theorem d_Tp_hasRoom_6 : decode m_Tp_hasRoom.2.1 6 = .ok (.iadd, 1) := by decide +kernel
theorem d_Tp_hasRoom_7 : decode m_Tp_hasRoom.2.1 7 = .ok (.sipush 200, 3) := by decide +kernel
theorem d_Tp_hasRoom_10 : decode m_Tp_hasRoom.2.1 10 = .ok (.if_icmp .gt 7, 3) := by decide +kernel
theorem d_Tp_hasRoom_13 : decode m_Tp_hasRoom.2.1 13 = .ok (.iconst 1, 1) := by decide +kernel
theorem d_Tp_hasRoom_14 : decode m_Tp_hasRoom.2.1 14 = .ok (.goto 4, 3) := by decide +kernel
theorem d_Tp_hasRoom_17 : decode m_Tp_hasRoom.2.1 17 = .ok (.iconst 0, 1) := by decide +kernel
theorem d_Tp_hasRoom_18 : decode m_Tp_hasRoom.2.1 18 = .ok (.ireturn, 1) := by decide +kernel
set_option maxHeartbeats 4000000 in
set_option maxRecDepth 100000 in
theorem B_Tp_hasRoom_0 {S : XS} {Q : Int32 → St → Prop} (σ : St)  (H : (((200 : Int32) < ((gX σ 0) + (20 : Int32)) → Q (0 : Int32) σ) ∧ (¬ (200 : Int32) < ((gX σ 0) + (20 : Int32)) → Q (1 : Int32) σ))) : BW S m_Tp_hasRoom 0 [some (.ref 1)] [] (enc σ) (qI Q) := by
  refine b_aload_n d_Tp_hasRoom_0 rfl rfl ?_
  refine b_getf (v := .int (gX σ 0)) d_Tp_hasRoom_1 fl_Tp_19 (eg_1 σ) rfl ?_
  refine b_bipush (v := (20 : Int32)) d_Tp_hasRoom_4 (by decide) ?_
  refine b_iadd d_Tp_hasRoom_6  ?_
  refine b_sipush (v := (200 : Int32)) d_Tp_hasRoom_7 (by decide) ?_
  refine b_icmp_gt (tgt := 17) d_Tp_hasRoom_10 (by decide) (fun c1 => ?_) (fun c1 => ?_)
  · have H := H.1 c1
    refine b_iconst (v := (0 : Int32)) d_Tp_hasRoom_17 (by decide) ?_
    exact b_iret (ty := .boolean) d_Tp_hasRoom_18 rfl rfl ⟨_, _, rfl, rfl, H⟩
  · have H := H.2 c1
    refine b_iconst (v := (1 : Int32)) d_Tp_hasRoom_13 (by decide) ?_
    refine b_goto (tgt := 18) d_Tp_hasRoom_14 (by decide) ?_
    exact b_iret (ty := .boolean) d_Tp_hasRoom_18 rfl rfl ⟨_, _, rfl, rfl, H⟩
theorem C_Tp_hasRoom {S : XS} {Q : Int32 → St → Prop} (σ : St)  (H : BW S m_Tp_hasRoom 0 [some (.ref 1)] [] (enc σ) (qI Q)) : CM S m_Tp_hasRoom [.ref 1] (enc σ) (qI Q) := b_meth (by decide) (Nat.le_of_ble_eq_true rfl) rfl H
theorem d_Tp_append_0 : decode m_Tp_append.2.1 0 = .ok (.bipush 24, 2) := by decide +kernel
theorem d_Tp_append_2 : decode m_Tp_append.2.1 2 = .ok (.istore_n 2, 1) := by decide +kernel
theorem d_Tp_append_3 : decode m_Tp_append.2.1 3 = .ok (.iload_n 2, 1) := by decide +kernel
theorem d_Tp_append_4 : decode m_Tp_append.2.1 4 = .ok (.ifCond .lt 45, 3) := by decide +kernel
theorem d_Tp_append_7 : decode m_Tp_append.2.1 7 = .ok (.aload_n 0, 1) := by decide +kernel
theorem d_Tp_append_8 : decode m_Tp_append.2.1 8 = .ok (.getfield 19, 3) := by decide +kernel
theorem d_Tp_append_11 : decode m_Tp_append.2.1 11 = .ok (.sipush 200, 3) := by decide +kernel
theorem d_Tp_append_14 : decode m_Tp_append.2.1 14 = .ok (.if_icmp .ge 35, 3) := by decide +kernel
theorem d_Tp_append_17 : decode m_Tp_append.2.1 17 = .ok (.aload_n 0, 1) := by decide +kernel
theorem d_Tp_append_18 : decode m_Tp_append.2.1 18 = .ok (.getfield 11, 3) := by decide +kernel
theorem d_Tp_append_21 : decode m_Tp_append.2.1 21 = .ok (.aload_n 0, 1) := by decide +kernel
theorem d_Tp_append_22 : decode m_Tp_append.2.1 22 = .ok (.getfield 19, 3) := by decide +kernel
theorem d_Tp_append_25 : decode m_Tp_append.2.1 25 = .ok (.iload_n 1, 1) := by decide +kernel
theorem d_Tp_append_26 : decode m_Tp_append.2.1 26 = .ok (.iload_n 2, 1) := by decide +kernel
theorem d_Tp_append_27 : decode m_Tp_append.2.1 27 = .ok (.iushr, 1) := by decide +kernel
theorem d_Tp_append_28 : decode m_Tp_append.2.1 28 = .ok (.sipush 255, 3) := by decide +kernel
theorem d_Tp_append_31 : decode m_Tp_append.2.1 31 = .ok (.iand, 1) := by decide +kernel
theorem d_Tp_append_32 : decode m_Tp_append.2.1 32 = .ok (.iastore, 1) := by decide +kernel
theorem d_Tp_append_33 : decode m_Tp_append.2.1 33 = .ok (.aload_n 0, 1) := by decide +kernel
theorem d_Tp_append_34 : decode m_Tp_append.2.1 34 = .ok (.dup, 1) := by decide +kernel
theorem d_Tp_append_35 : decode m_Tp_append.2.1 35 = .ok (.getfield 19, 3) := by decide +kernel
theorem d_Tp_append_38 : decode m_Tp_append.2.1 38 = .ok (.iconst 1, 1) := by decide +kernel
theorem d_Tp_append_39 : decode m_Tp_append.2.1 39 = .ok (.iadd, 1) := by decide +kernel
theorem d_Tp_append_40 : decode m_Tp_append.2.1 40 = .ok (.putfield 19, 3) := by decide +kernel
theorem d_Tp_append_43 : decode m_Tp_append.2.1 43 = .ok (.iinc 2 (-8), 3) := by decide +kernel
theorem d_Tp_append_46 : decode m_Tp_append.2.1 46 = .ok (.goto (-43), 3) := by decide +kernel
theorem d_Tp_append_49 : decode m_Tp_append.2.1 49 = .ok (.return_, 1) := by decide +kernel
set_option maxHeartbeats 4000000 in
set_option maxRecDepth 100000 in
theorem B_Tp_append_0 {S : XS} {Q : St → Prop} (σ : St) (x1 : Int32) (H : BW S m_Tp_append 3 [some (.ref 1), some (.int x1), some (.int (24 : Int32))] [] (enc σ) (qV Q)) : BW S m_Tp_append 0 [some (.ref 1), some (.int x1), none] [] (enc σ) (qV Q) := by
  refine b_bipush (v := (24 : Int32)) d_Tp_append_0 (by decide) ?_
  refine b_istore_n (ls' := [some (.ref 1), some (.int x1), some (.int (24 : Int32))]) d_Tp_append_2 rfl (Nat.le_of_ble_eq_true rfl) rfl ?_
  exact b_mask [true, true, true] rfl H
set_option maxHeartbeats 4000000 in
set_option maxRecDepth 100000 in
theorem B_Tp_append_3 {S : XS} {Q : St → Prop} (σ : St) (x1 : Int32) (x2 : Int32) (H : ((x2 < 0 → Q σ) ∧ (¬ x2 < 0 → (((200 : Int32) ≤ (gX σ 0) → Q σ) ∧ (¬ (200 : Int32) ≤ (gX σ 0) → (vp_in (gX σ 0) 200) ∧ BW S m_Tp_append 3 [some (.ref 1), some (.int x1), some (.int (x2 + (-8 : Int32)))] [] (enc (sX (sA σ 0 (upd (gA σ 0) (gX σ 0).toNatClampNeg ((((x1).toUInt32 >>> ((x2).toUInt32 &&& Int32.toUInt32 31)).toInt32) &&& (255 : Int32)))) 0 ((gX σ 0) + (1 : Int32)))) (qV Q)))))) : BW S m_Tp_append 3 [some (.ref 1), some (.int x1), some (.int x2)] [] (enc σ) (qV Q) := by
  refine b_iload_n d_Tp_append_3 rfl rfl ?_
  refine b_if_lt (tgt := 49) d_Tp_append_4 (by decide) (fun c3 => ?_) (fun c3 => ?_)
  · have H := H.1 c3
    exact b_vret d_Tp_append_49 rfl ⟨_, rfl, rfl, H⟩
  · have H := H.2 c3
    refine b_aload_n d_Tp_append_7 rfl rfl ?_
    refine b_getf (v := .int (gX σ 0)) d_Tp_append_8 fl_Tp_19 (eg_1 σ) rfl ?_
    refine b_sipush (v := (200 : Int32)) d_Tp_append_11 (by decide) ?_
    refine b_icmp_ge (tgt := 49) d_Tp_append_14 (by decide) (fun c2 => ?_) (fun c2 => ?_)
    · have H := H.1 c2
      exact b_vret d_Tp_append_49 rfl ⟨_, rfl, rfl, H⟩
    · have H := H.2 c2
      refine b_aload_n d_Tp_append_17 rfl rfl ?_
      refine b_getf (v := .ref 2) d_Tp_append_18 fl_Tp_11 (eg_1 σ) rfl ?_
      refine b_aload_n d_Tp_append_21 rfl rfl ?_
      refine b_getf (v := .int (gX σ 0)) d_Tp_append_22 fl_Tp_19 (eg_1 σ) rfl ?_
      refine b_iload_n d_Tp_append_25 rfl rfl ?_
      refine b_iload_n d_Tp_append_26 rfl rfl ?_
      refine b_iushr d_Tp_append_27  ?_
      refine b_sipush (v := (255 : Int32)) d_Tp_append_28 (by decide) ?_
      refine b_iand d_Tp_append_31  ?_
      obtain ⟨h1, H⟩ := H
      refine b_iast (h1 := enc (sA σ 0 (upd (gA σ 0) (gX σ 0).toNatClampNeg ((((x1).toUInt32 >>> ((x2).toUInt32 &&& Int32.toUInt32 31)).toInt32) &&& (255 : Int32))))) d_Tp_append_32 (eg_2 σ) h1 (es_2 σ (upd (gA σ 0) (gX σ 0).toNatClampNeg ((((x1).toUInt32 >>> ((x2).toUInt32 &&& Int32.toUInt32 31)).toInt32) &&& (255 : Int32)))) ?_
      refine b_aload_n d_Tp_append_33 rfl rfl ?_
      refine b_dup d_Tp_append_34 rfl ?_
      refine b_getf (v := .int (gX σ 0)) d_Tp_append_35 fl_Tp_19 (eg_1 (sA σ 0 (upd (gA σ 0) (gX σ 0).toNatClampNeg ((((x1).toUInt32 >>> ((x2).toUInt32 &&& Int32.toUInt32 31)).toInt32) &&& (255 : Int32))))) rfl ?_
      refine b_iconst (v := (1 : Int32)) d_Tp_append_38 (by decide) ?_
      refine b_iadd d_Tp_append_39  ?_
      refine b_putf (ty := .int) (h1 := enc (sX (sA σ 0 (upd (gA σ 0) (gX σ 0).toNatClampNeg ((((x1).toUInt32 >>> ((x2).toUInt32 &&& Int32.toUInt32 31)).toInt32) &&& (255 : Int32)))) 0 ((gX σ 0) + (1 : Int32)))) d_Tp_append_40 fl_Tp_19 ft_10_1 (fun _ => ⟨rfl, rfl⟩) (eg_1 (sA σ 0 (upd (gA σ 0) (gX σ 0).toNatClampNeg ((((x1).toUInt32 >>> ((x2).toUInt32 &&& Int32.toUInt32 31)).toInt32) &&& (255 : Int32))))) (Nat.le_of_ble_eq_true rfl) (es_1_1 (sA σ 0 (upd (gA σ 0) (gX σ 0).toNatClampNeg ((((x1).toUInt32 >>> ((x2).toUInt32 &&& Int32.toUInt32 31)).toInt32) &&& (255 : Int32)))) ((gX σ 0) + (1 : Int32))) ?_
      refine b_iinc (v := (x2 + (-8 : Int32))) (ls' := [some (.ref 1), some (.int x1), some (.int (x2 + (-8 : Int32)))]) d_Tp_append_43 rfl rfl (Nat.le_of_ble_eq_true rfl) rfl ?_
      refine b_goto (tgt := 3) d_Tp_append_46 (by decide) ?_
      exact b_mask [true, true, true] rfl H
theorem C_Tp_append {S : XS} {Q : St → Prop} (σ : St) (x1 : Int32) (H : BW S m_Tp_append 0 [some (.ref 1), some (.int x1), none] [] (enc σ) (qV Q)) : CM S m_Tp_append [.ref 1, .int x1] (enc σ) (qV Q) := b_meth (by decide) (Nat.le_of_ble_eq_true rfl) rfl H
theorem d_Tp_shorten_0 : decode m_Tp_shorten.2.1 0 = .ok (.iload_n 1, 1) := by decide +kernel
theorem d_Tp_shorten_1 : decode m_Tp_shorten.2.1 1 = .ok (.ifCond .lt 11, 3) := by decide +kernel
theorem d_Tp_shorten_4 : decode m_Tp_shorten.2.1 4 = .ok (.iload_n 1, 1) := by decide +kernel
theorem d_Tp_shorten_5 : decode m_Tp_shorten.2.1 5 = .ok (.aload_n 0, 1) := by decide +kernel
theorem d_Tp_shorten_6 : decode m_Tp_shorten.2.1 6 = .ok (.getfield 19, 3) := by decide +kernel
theorem d_Tp_shorten_9 : decode m_Tp_shorten.2.1 9 = .ok (.if_icmp .le 5, 3) := by decide +kernel
theorem d_Tp_shorten_12 : decode m_Tp_shorten.2.1 12 = .ok (.iconst 0, 1) := by decide +kernel
theorem d_Tp_shorten_13 : decode m_Tp_shorten.2.1 13 = .ok (.ireturn, 1) := by decide +kernel
theorem d_Tp_shorten_14 : decode m_Tp_shorten.2.1 14 = .ok (.aload_n 0, 1) := by decide +kernel
theorem d_Tp_shorten_15 : decode m_Tp_shorten.2.1 15 = .ok (.iload_n 1, 1) := by decide +kernel
theorem d_Tp_shorten_16 : decode m_Tp_shorten.2.1 16 = .ok (.putfield 19, 3) := by decide +kernel
theorem d_Tp_shorten_19 : decode m_Tp_shorten.2.1 19 = .ok (.iconst 1, 1) := by decide +kernel
theorem d_Tp_shorten_20 : decode m_Tp_shorten.2.1 20 = .ok (.ireturn, 1) := by decide +kernel
set_option maxHeartbeats 4000000 in
set_option maxRecDepth 100000 in
theorem B_Tp_shorten_0 {S : XS} {Q : Int32 → St → Prop} (σ : St) (x1 : Int32) (H : ((x1 < 0 → Q (0 : Int32) σ) ∧ (¬ x1 < 0 → ((x1 ≤ (gX σ 0) → Q (1 : Int32) (sX σ 0 x1)) ∧ (¬ x1 ≤ (gX σ 0) → Q (0 : Int32) σ))))) : BW S m_Tp_shorten 0 [some (.ref 1), some (.int x1)] [] (enc σ) (qI Q) := by
  refine b_iload_n d_Tp_shorten_0 rfl rfl ?_
  refine b_if_lt (tgt := 12) d_Tp_shorten_1 (by decide) (fun c2 => ?_) (fun c2 => ?_)
  · have H := H.1 c2
    refine b_iconst (v := (0 : Int32)) d_Tp_shorten_12 (by decide) ?_
    exact b_iret (ty := .boolean) d_Tp_shorten_13 rfl rfl ⟨_, _, rfl, rfl, H⟩
  · have H := H.2 c2
    refine b_iload_n d_Tp_shorten_4 rfl rfl ?_
    refine b_aload_n d_Tp_shorten_5 rfl rfl ?_
    refine b_getf (v := .int (gX σ 0)) d_Tp_shorten_6 fl_Tp_19 (eg_1 σ) rfl ?_
    refine b_icmp_le (tgt := 14) d_Tp_shorten_9 (by decide) (fun c1 => ?_) (fun c1 => ?_)
    · have H := H.1 c1
      refine b_aload_n d_Tp_shorten_14 rfl rfl ?_
      refine b_iload_n d_Tp_shorten_15 rfl rfl ?_
      refine b_putf (ty := .int) (h1 := enc (sX σ 0 x1)) d_Tp_shorten_16 fl_Tp_19 ft_10_1 (fun _ => ⟨rfl, rfl⟩) (eg_1 σ) (Nat.le_of_ble_eq_true rfl) (es_1_1 σ x1) ?_
      refine b_iconst (v := (1 : Int32)) d_Tp_shorten_19 (by decide) ?_
      exact b_iret (ty := .boolean) d_Tp_shorten_20 rfl rfl ⟨_, _, rfl, rfl, H⟩
    · have H := H.2 c1
      refine b_iconst (v := (0 : Int32)) d_Tp_shorten_12 (by decide) ?_
      exact b_iret (ty := .boolean) d_Tp_shorten_13 rfl rfl ⟨_, _, rfl, rfl, H⟩
theorem C_Tp_shorten {S : XS} {Q : Int32 → St → Prop} (σ : St) (x1 : Int32) (H : BW S m_Tp_shorten 0 [some (.ref 1), some (.int x1)] [] (enc σ) (qI Q)) : CM S m_Tp_shorten [.ref 1, .int x1] (enc σ) (qI Q) := b_meth (by decide) (Nat.le_of_ble_eq_true rfl) rfl H
theorem d_Tp_discard_0 : decode m_Tp_discard.2.1 0 = .ok (.aload_n 0, 1) := by decide +kernel
theorem d_Tp_discard_1 : decode m_Tp_discard.2.1 1 = .ok (.iconst 0, 1) := by decide +kernel
theorem d_Tp_discard_2 : decode m_Tp_discard.2.1 2 = .ok (.putfield 19, 3) := by decide +kernel
theorem d_Tp_discard_5 : decode m_Tp_discard.2.1 5 = .ok (.return_, 1) := by decide +kernel
set_option maxHeartbeats 4000000 in
set_option maxRecDepth 100000 in
theorem B_Tp_discard_0 {S : XS} {Q : St → Prop} (σ : St)  (H : Q (sX σ 0 (0 : Int32))) : BW S m_Tp_discard 0 [some (.ref 1)] [] (enc σ) (qV Q) := by
  refine b_aload_n d_Tp_discard_0 rfl rfl ?_
  refine b_iconst (v := (0 : Int32)) d_Tp_discard_1 (by decide) ?_
  refine b_putf (ty := .int) (h1 := enc (sX σ 0 (0 : Int32))) d_Tp_discard_2 fl_Tp_19 ft_10_1 (fun _ => ⟨rfl, rfl⟩) (eg_1 σ) (Nat.le_of_ble_eq_true rfl) (es_1_1 σ (0 : Int32)) ?_
  exact b_vret d_Tp_discard_5 rfl ⟨_, rfl, rfl, H⟩
theorem C_Tp_discard {S : XS} {Q : St → Prop} (σ : St)  (H : BW S m_Tp_discard 0 [some (.ref 1)] [] (enc σ) (qV Q)) : CM S m_Tp_discard [.ref 1] (enc σ) (qV Q) := b_meth (by decide) (Nat.le_of_ble_eq_true rfl) rfl H
theorem d_Tp_open_0 : decode m_Tp_open.2.1 0 = .ok (.aload_n 0, 1) := by decide +kernel
theorem d_Tp_open_1 : decode m_Tp_open.2.1 1 = .ok (.iconst 0, 1) := by decide +kernel
theorem d_Tp_open_2 : decode m_Tp_open.2.1 2 = .ok (.putfield 22, 3) := by decide +kernel
theorem d_Tp_open_5 : decode m_Tp_open.2.1 5 = .ok (.aload_n 0, 1) := by decide +kernel
theorem d_Tp_open_6 : decode m_Tp_open.2.1 6 = .ok (.iconst 0, 1) := by decide +kernel
theorem d_Tp_open_7 : decode m_Tp_open.2.1 7 = .ok (.putfield 25, 3) := by decide +kernel
theorem d_Tp_open_10 : decode m_Tp_open.2.1 10 = .ok (.aload_n 0, 1) := by decide +kernel
theorem d_Tp_open_11 : decode m_Tp_open.2.1 11 = .ok (.iconst (-1), 1) := by decide +kernel
theorem d_Tp_open_12 : decode m_Tp_open.2.1 12 = .ok (.putfield 15, 3) := by decide +kernel
theorem d_Tp_open_15 : decode m_Tp_open.2.1 15 = .ok (.return_, 1) := by decide +kernel
set_option maxHeartbeats 4000000 in
set_option maxRecDepth 100000 in
theorem B_Tp_open_0 {S : XS} {Q : St → Prop} (σ : St)  (H : Q (sX (sX (sX σ 1 (0 : Int32)) 2 (0 : Int32)) 3 (-1 : Int32))) : BW S m_Tp_open 0 [some (.ref 1)] [] (enc σ) (qV Q) := by
  refine b_aload_n d_Tp_open_0 rfl rfl ?_
  refine b_iconst (v := (0 : Int32)) d_Tp_open_1 (by decide) ?_
  refine b_putf (ty := .int) (h1 := enc (sX σ 1 (0 : Int32))) d_Tp_open_2 fl_Tp_22 ft_10_2 (fun _ => ⟨rfl, rfl⟩) (eg_1 σ) (Nat.le_of_ble_eq_true rfl) (es_1_2 σ (0 : Int32)) ?_
  refine b_aload_n d_Tp_open_5 rfl rfl ?_
  refine b_iconst (v := (0 : Int32)) d_Tp_open_6 (by decide) ?_
  refine b_putf (ty := .int) (h1 := enc (sX (sX σ 1 (0 : Int32)) 2 (0 : Int32))) d_Tp_open_7 fl_Tp_25 ft_10_3 (fun _ => ⟨rfl, rfl⟩) (eg_1 (sX σ 1 (0 : Int32))) (Nat.le_of_ble_eq_true rfl) (es_1_3 (sX σ 1 (0 : Int32)) (0 : Int32)) ?_
  refine b_aload_n d_Tp_open_10 rfl rfl ?_
  refine b_iconst (v := (-1 : Int32)) d_Tp_open_11 (by decide) ?_
  refine b_putf (ty := .int) (h1 := enc (sX (sX (sX σ 1 (0 : Int32)) 2 (0 : Int32)) 3 (-1 : Int32))) d_Tp_open_12 fl_Tp_15 ft_10_4 (fun _ => ⟨rfl, rfl⟩) (eg_1 (sX (sX σ 1 (0 : Int32)) 2 (0 : Int32))) (Nat.le_of_ble_eq_true rfl) (es_1_4 (sX (sX σ 1 (0 : Int32)) 2 (0 : Int32)) (-1 : Int32)) ?_
  exact b_vret d_Tp_open_15 rfl ⟨_, rfl, rfl, H⟩
theorem C_Tp_open {S : XS} {Q : St → Prop} (σ : St)  (H : BW S m_Tp_open 0 [some (.ref 1)] [] (enc σ) (qV Q)) : CM S m_Tp_open [.ref 1] (enc σ) (qV Q) := b_meth (by decide) (Nat.le_of_ble_eq_true rfl) rfl H
theorem d_Tp_failed_0 : decode m_Tp_failed.2.1 0 = .ok (.aload_n 0, 1) := by decide +kernel
theorem d_Tp_failed_1 : decode m_Tp_failed.2.1 1 = .ok (.getfield 25, 3) := by decide +kernel
theorem d_Tp_failed_4 : decode m_Tp_failed.2.1 4 = .ok (.ifCond .eq 7, 3) := by decide +kernel
theorem d_Tp_failed_7 : decode m_Tp_failed.2.1 7 = .ok (.iconst 1, 1) := by decide +kernel
theorem d_Tp_failed_8 : decode m_Tp_failed.2.1 8 = .ok (.goto 4, 3) := by decide +kernel
theorem d_Tp_failed_11 : decode m_Tp_failed.2.1 11 = .ok (.iconst 0, 1) := by decide +kernel
theorem d_Tp_failed_12 : decode m_Tp_failed.2.1 12 = .ok (.ireturn, 1) := by decide +kernel
set_option maxHeartbeats 4000000 in
set_option maxRecDepth 100000 in
theorem B_Tp_failed_0 {S : XS} {Q : Int32 → St → Prop} (σ : St)  (H : (((gX σ 2) = 0 → Q (0 : Int32) σ) ∧ (¬ (gX σ 2) = 0 → Q (1 : Int32) σ))) : BW S m_Tp_failed 0 [some (.ref 1)] [] (enc σ) (qI Q) := by
  refine b_aload_n d_Tp_failed_0 rfl rfl ?_
  refine b_getf (v := .int (gX σ 2)) d_Tp_failed_1 fl_Tp_25 (eg_1 σ) rfl ?_
  refine b_if_eq (tgt := 11) d_Tp_failed_4 (by decide) (fun c1 => ?_) (fun c1 => ?_)
  · have H := H.1 c1
    refine b_iconst (v := (0 : Int32)) d_Tp_failed_11 (by decide) ?_
    exact b_iret (ty := .boolean) d_Tp_failed_12 rfl rfl ⟨_, _, rfl, rfl, H⟩
  · have H := H.2 c1
    refine b_iconst (v := (1 : Int32)) d_Tp_failed_7 (by decide) ?_
    refine b_goto (tgt := 12) d_Tp_failed_8 (by decide) ?_
    exact b_iret (ty := .boolean) d_Tp_failed_12 rfl rfl ⟨_, _, rfl, rfl, H⟩
theorem C_Tp_failed {S : XS} {Q : Int32 → St → Prop} (σ : St)  (H : BW S m_Tp_failed 0 [some (.ref 1)] [] (enc σ) (qI Q)) : CM S m_Tp_failed [.ref 1] (enc σ) (qI Q) := b_meth (by decide) (Nat.le_of_ble_eq_true rfl) rfl H
theorem d_Tp_readName_0 : decode m_Tp_readName.2.1 0 = .ok (.aload_n 0, 1) := by decide +kernel
theorem d_Tp_readName_1 : decode m_Tp_readName.2.1 1 = .ok (.invokevirtual 28, 3) := by decide +kernel
theorem d_Tp_readName_4 : decode m_Tp_readName.2.1 4 = .ok (.ifCond .eq 5, 3) := by decide +kernel
theorem d_Tp_readName_7 : decode m_Tp_readName.2.1 7 = .ok (.lconst 0, 1) := by decide +kernel
theorem d_Tp_readName_8 : decode m_Tp_readName.2.1 8 = .ok (.lreturn, 1) := by decide +kernel
theorem d_Tp_readName_9 : decode m_Tp_readName.2.1 9 = .ok (.aload_n 0, 1) := by decide +kernel
theorem d_Tp_readName_10 : decode m_Tp_readName.2.1 10 = .ok (.invokevirtual 32, 3) := by decide +kernel
theorem d_Tp_readName_13 : decode m_Tp_readName.2.1 13 = .ok (.istore_n 1, 1) := by decide +kernel
theorem d_Tp_readName_14 : decode m_Tp_readName.2.1 14 = .ok (.iload_n 1, 1) := by decide +kernel
theorem d_Tp_readName_15 : decode m_Tp_readName.2.1 15 = .ok (.ifCond .eq 11, 3) := by decide +kernel
theorem d_Tp_readName_18 : decode m_Tp_readName.2.1 18 = .ok (.aload_n 0, 1) := by decide +kernel
theorem d_Tp_readName_19 : decode m_Tp_readName.2.1 19 = .ok (.iload_n 1, 1) := by decide +kernel
theorem d_Tp_readName_20 : decode m_Tp_readName.2.1 20 = .ok (.invokevirtual 36, 3) := by decide +kernel
theorem d_Tp_readName_23 : decode m_Tp_readName.2.1 23 = .ok (.ifCond .eq 14, 3) := by decide +kernel
theorem d_Tp_readName_26 : decode m_Tp_readName.2.1 26 = .ok (.aload_n 0, 1) := by decide +kernel
theorem d_Tp_readName_27 : decode m_Tp_readName.2.1 27 = .ok (.iconst 1, 1) := by decide +kernel
theorem d_Tp_readName_28 : decode m_Tp_readName.2.1 28 = .ok (.aload_n 0, 1) := by decide +kernel
theorem d_Tp_readName_29 : decode m_Tp_readName.2.1 29 = .ok (.getfield 22, 3) := by decide +kernel
theorem d_Tp_readName_32 : decode m_Tp_readName.2.1 32 = .ok (.invokevirtual 40, 3) := by decide +kernel
theorem d_Tp_readName_35 : decode m_Tp_readName.2.1 35 = .ok (.lconst 0, 1) := by decide +kernel
theorem d_Tp_readName_36 : decode m_Tp_readName.2.1 36 = .ok (.lreturn, 1) := by decide +kernel
theorem d_Tp_readName_37 : decode m_Tp_readName.2.1 37 = .ok (.iload_n 1, 1) := by decide +kernel
theorem d_Tp_readName_38 : decode m_Tp_readName.2.1 38 = .ok (.bipush 10, 2) := by decide +kernel
theorem d_Tp_readName_40 : decode m_Tp_readName.2.1 40 = .ok (.if_icmp .le 17, 3) := by decide +kernel
theorem d_Tp_readName_43 : decode m_Tp_readName.2.1 43 = .ok (.aload_n 0, 1) := by decide +kernel
theorem d_Tp_readName_44 : decode m_Tp_readName.2.1 44 = .ok (.iconst 1, 1) := by decide +kernel
theorem d_Tp_readName_45 : decode m_Tp_readName.2.1 45 = .ok (.aload_n 0, 1) := by decide +kernel
theorem d_Tp_readName_46 : decode m_Tp_readName.2.1 46 = .ok (.getfield 22, 3) := by decide +kernel
theorem d_Tp_readName_49 : decode m_Tp_readName.2.1 49 = .ok (.bipush 10, 2) := by decide +kernel
theorem d_Tp_readName_51 : decode m_Tp_readName.2.1 51 = .ok (.iadd, 1) := by decide +kernel
theorem d_Tp_readName_52 : decode m_Tp_readName.2.1 52 = .ok (.invokevirtual 40, 3) := by decide +kernel
theorem d_Tp_readName_55 : decode m_Tp_readName.2.1 55 = .ok (.lconst 0, 1) := by decide +kernel
theorem d_Tp_readName_56 : decode m_Tp_readName.2.1 56 = .ok (.lreturn, 1) := by decide +kernel
theorem d_Tp_readName_57 : decode m_Tp_readName.2.1 57 = .ok (.lconst 0, 1) := by decide +kernel
theorem d_Tp_readName_58 : decode m_Tp_readName.2.1 58 = .ok (.lstore_n 2, 1) := by decide +kernel
theorem d_Tp_readName_59 : decode m_Tp_readName.2.1 59 = .ok (.iconst 0, 1) := by decide +kernel
theorem d_Tp_readName_60 : decode m_Tp_readName.2.1 60 = .ok (.istore 4, 2) := by decide +kernel
theorem d_Tp_readName_62 : decode m_Tp_readName.2.1 62 = .ok (.iload 4, 2) := by decide +kernel
theorem d_Tp_readName_64 : decode m_Tp_readName.2.1 64 = .ok (.iload_n 1, 1) := by decide +kernel
theorem d_Tp_readName_65 : decode m_Tp_readName.2.1 65 = .ok (.if_icmp .ge 33, 3) := by decide +kernel
theorem d_Tp_readName_68 : decode m_Tp_readName.2.1 68 = .ok (.lload_n 2, 1) := by decide +kernel
theorem d_Tp_readName_69 : decode m_Tp_readName.2.1 69 = .ok (.ldc2_w 44, 3) := by decide +kernel
theorem d_Tp_readName_72 : decode m_Tp_readName.2.1 72 = .ok (.lmul, 1) := by decide +kernel
theorem d_Tp_readName_73 : decode m_Tp_readName.2.1 73 = .ok (.aload_n 0, 1) := by decide +kernel
theorem d_Tp_readName_74 : decode m_Tp_readName.2.1 74 = .ok (.aload_n 0, 1) := by decide +kernel
theorem d_Tp_readName_75 : decode m_Tp_readName.2.1 75 = .ok (.getfield 22, 3) := by decide +kernel
theorem d_Tp_readName_78 : decode m_Tp_readName.2.1 78 = .ok (.iload 4, 2) := by decide +kernel
theorem d_Tp_readName_80 : decode m_Tp_readName.2.1 80 = .ok (.iadd, 1) := by decide +kernel
theorem d_Tp_readName_81 : decode m_Tp_readName.2.1 81 = .ok (.invokevirtual 46, 3) := by decide +kernel
theorem d_Tp_readName_84 : decode m_Tp_readName.2.1 84 = .ok (.bipush 97, 2) := by decide +kernel
theorem d_Tp_readName_86 : decode m_Tp_readName.2.1 86 = .ok (.isub, 1) := by decide +kernel
theorem d_Tp_readName_87 : decode m_Tp_readName.2.1 87 = .ok (.iconst 1, 1) := by decide +kernel
theorem d_Tp_readName_88 : decode m_Tp_readName.2.1 88 = .ok (.iadd, 1) := by decide +kernel
theorem d_Tp_readName_89 : decode m_Tp_readName.2.1 89 = .ok (.i2l, 1) := by decide +kernel
theorem d_Tp_readName_90 : decode m_Tp_readName.2.1 90 = .ok (.ladd, 1) := by decide +kernel
theorem d_Tp_readName_91 : decode m_Tp_readName.2.1 91 = .ok (.lstore_n 2, 1) := by decide +kernel
theorem d_Tp_readName_92 : decode m_Tp_readName.2.1 92 = .ok (.iinc 4 1, 3) := by decide +kernel
theorem d_Tp_readName_95 : decode m_Tp_readName.2.1 95 = .ok (.goto (-33), 3) := by decide +kernel
theorem d_Tp_readName_98 : decode m_Tp_readName.2.1 98 = .ok (.aload_n 0, 1) := by decide +kernel
theorem d_Tp_readName_99 : decode m_Tp_readName.2.1 99 = .ok (.dup, 1) := by decide +kernel
theorem d_Tp_readName_100 : decode m_Tp_readName.2.1 100 = .ok (.getfield 22, 3) := by decide +kernel
theorem d_Tp_readName_103 : decode m_Tp_readName.2.1 103 = .ok (.iload_n 1, 1) := by decide +kernel
theorem d_Tp_readName_104 : decode m_Tp_readName.2.1 104 = .ok (.iadd, 1) := by decide +kernel
theorem d_Tp_readName_105 : decode m_Tp_readName.2.1 105 = .ok (.putfield 22, 3) := by decide +kernel
theorem d_Tp_readName_108 : decode m_Tp_readName.2.1 108 = .ok (.lload_n 2, 1) := by decide +kernel
theorem d_Tp_readName_109 : decode m_Tp_readName.2.1 109 = .ok (.lreturn, 1) := by decide +kernel
set_option maxHeartbeats 4000000 in
set_option maxRecDepth 100000 in
theorem B_Tp_readName_0 {S : XS} {Q : Int64 → St → Prop} (σ : St)  (H : CM S m_Tp_failed [.ref 1] (enc σ) (qI (fun v1 τ2 => ((v1 = 0 → CM S m_Tp_lettersAhead [.ref 1] (enc τ2) (qI (fun v3 τ4 => ((v3 = 0 → CM S m_Tp_fail [.ref 1, .int (1 : Int32), .int (gX τ4 1)] (enc τ4) (qV (fun τ6 => Q (0 : Int64) τ6))) ∧ (¬ v3 = 0 → CM S m_Tp_isFactWord [.ref 1, .int v3] (enc τ4) (qI (fun v7 τ8 => ((v7 = 0 → ((v3 ≤ (10 : Int32) → BW S m_Tp_readName 62 [some (.ref 1), some (.int v3), some (.long (0 : Int64)), none, some (.int (0 : Int32))] [] (enc τ8) (qL Q)) ∧ (¬ v3 ≤ (10 : Int32) → CM S m_Tp_fail [.ref 1, .int (1 : Int32), .int ((gX τ8 1) + (10 : Int32))] (enc τ8) (qV (fun τ10 => Q (0 : Int64) τ10))))) ∧ (¬ v7 = 0 → CM S m_Tp_fail [.ref 1, .int (1 : Int32), .int (gX τ8 1)] (enc τ8) (qV (fun τ13 => Q (0 : Int64) τ13))))))))))) ∧ (¬ v1 = 0 → Q (0 : Int64) τ2))))) : BW S m_Tp_readName 0 [some (.ref 1), none, none, none, none] [] (enc σ) (qL Q) := by
  refine b_aload_n d_Tp_readName_0 rfl rfl ?_
  refine b_callVi (Mc := m_Tp_failed) (As := []) (st := []) d_Tp_readName_1 ⟨⟨kA_Tp_failed.1, kA_Tp_failed.2.1, kA_Tp_failed.2.2, by decide⟩, ml_Tp_28, kV_Tp_failed⟩ (eg_1 σ) rfl rfl (Nat.le_of_ble_eq_true rfl) H (fun v1 τ2 H => ?_)
  refine b_if_eq (tgt := 9) d_Tp_readName_4 (by decide) (fun c16 => ?_) (fun c16 => ?_)
  · have H := H.1 c16
    refine b_aload_n d_Tp_readName_9 rfl rfl ?_
    refine b_callVi (Mc := m_Tp_lettersAhead) (As := []) (st := []) d_Tp_readName_10 ⟨⟨kA_Tp_lettersAhead.1, kA_Tp_lettersAhead.2.1, kA_Tp_lettersAhead.2.2, by decide⟩, ml_Tp_32, kV_Tp_lettersAhead⟩ (eg_1 τ2) rfl rfl (Nat.le_of_ble_eq_true rfl) H (fun v3 τ4 H => ?_)
    refine b_istore_n (ls' := [some (.ref 1), some (.int v3), none, none, none]) d_Tp_readName_13 rfl (Nat.le_of_ble_eq_true rfl) rfl ?_
    refine b_iload_n d_Tp_readName_14 rfl rfl ?_
    refine b_if_eq (tgt := 26) d_Tp_readName_15 (by decide) (fun c15 => ?_) (fun c15 => ?_)
    · have H := H.1 c15
      refine b_aload_n d_Tp_readName_26 rfl rfl ?_
      refine b_iconst (v := (1 : Int32)) d_Tp_readName_27 (by decide) ?_
      refine b_aload_n d_Tp_readName_28 rfl rfl ?_
      refine b_getf (v := .int (gX τ4 1)) d_Tp_readName_29 fl_Tp_22 (eg_1 τ4) rfl ?_
      refine b_callVv (Mc := m_Tp_fail) (As := [.int (1 : Int32), .int (gX τ4 1)]) (st := []) d_Tp_readName_32 ⟨⟨kA_Tp_fail.1, kA_Tp_fail.2.1, kA_Tp_fail.2.2, by decide⟩, ml_Tp_40, kV_Tp_fail⟩ (eg_1 τ4) rfl rfl (Nat.le_of_ble_eq_true rfl) H (fun τ6 H => ?_)
      refine b_lconst (v := (0 : Int64)) d_Tp_readName_35 (by decide) ?_
      exact b_lret d_Tp_readName_36 rfl ⟨_, _, rfl, rfl, H⟩
    · have H := H.2 c15
      refine b_aload_n d_Tp_readName_18 rfl rfl ?_
      refine b_iload_n d_Tp_readName_19 rfl rfl ?_
      refine b_callVi (Mc := m_Tp_isFactWord) (As := [.int v3]) (st := []) d_Tp_readName_20 ⟨⟨kA_Tp_isFactWord.1, kA_Tp_isFactWord.2.1, kA_Tp_isFactWord.2.2, by decide⟩, ml_Tp_36, kV_Tp_isFactWord⟩ (eg_1 τ4) rfl rfl (Nat.le_of_ble_eq_true rfl) H (fun v7 τ8 H => ?_)
      refine b_if_eq (tgt := 37) d_Tp_readName_23 (by decide) (fun c14 => ?_) (fun c14 => ?_)
      · have H := H.1 c14
        refine b_iload_n d_Tp_readName_37 rfl rfl ?_
        refine b_bipush (v := (10 : Int32)) d_Tp_readName_38 (by decide) ?_
        refine b_icmp_le (tgt := 57) d_Tp_readName_40 (by decide) (fun c11 => ?_) (fun c11 => ?_)
        · have H := H.1 c11
          refine b_lconst (v := (0 : Int64)) d_Tp_readName_57 (by decide) ?_
          refine b_lstore_n (ls' := [some (.ref 1), some (.int v3), some (.long (0 : Int64)), none, none]) d_Tp_readName_58 rfl (Nat.le_of_ble_eq_true rfl) rfl ?_
          refine b_iconst (v := (0 : Int32)) d_Tp_readName_59 (by decide) ?_
          refine b_istore (ls' := [some (.ref 1), some (.int v3), some (.long (0 : Int64)), none, some (.int (0 : Int32))]) d_Tp_readName_60 (Nat.le_of_ble_eq_true rfl) rfl ?_
          exact b_mask [true, true, true, true, true] rfl H
        · have H := H.2 c11
          refine b_aload_n d_Tp_readName_43 rfl rfl ?_
          refine b_iconst (v := (1 : Int32)) d_Tp_readName_44 (by decide) ?_
          refine b_aload_n d_Tp_readName_45 rfl rfl ?_
          refine b_getf (v := .int (gX τ8 1)) d_Tp_readName_46 fl_Tp_22 (eg_1 τ8) rfl ?_
          refine b_bipush (v := (10 : Int32)) d_Tp_readName_49 (by decide) ?_
          refine b_iadd d_Tp_readName_51  ?_
          refine b_callVv (Mc := m_Tp_fail) (As := [.int (1 : Int32), .int ((gX τ8 1) + (10 : Int32))]) (st := []) d_Tp_readName_52 ⟨⟨kA_Tp_fail.1, kA_Tp_fail.2.1, kA_Tp_fail.2.2, by decide⟩, ml_Tp_40, kV_Tp_fail⟩ (eg_1 τ8) rfl rfl (Nat.le_of_ble_eq_true rfl) H (fun τ10 H => ?_)
          refine b_lconst (v := (0 : Int64)) d_Tp_readName_55 (by decide) ?_
          exact b_lret d_Tp_readName_56 rfl ⟨_, _, rfl, rfl, H⟩
      · have H := H.2 c14
        refine b_aload_n d_Tp_readName_26 rfl rfl ?_
        refine b_iconst (v := (1 : Int32)) d_Tp_readName_27 (by decide) ?_
        refine b_aload_n d_Tp_readName_28 rfl rfl ?_
        refine b_getf (v := .int (gX τ8 1)) d_Tp_readName_29 fl_Tp_22 (eg_1 τ8) rfl ?_
        refine b_callVv (Mc := m_Tp_fail) (As := [.int (1 : Int32), .int (gX τ8 1)]) (st := []) d_Tp_readName_32 ⟨⟨kA_Tp_fail.1, kA_Tp_fail.2.1, kA_Tp_fail.2.2, by decide⟩, ml_Tp_40, kV_Tp_fail⟩ (eg_1 τ8) rfl rfl (Nat.le_of_ble_eq_true rfl) H (fun τ13 H => ?_)
        refine b_lconst (v := (0 : Int64)) d_Tp_readName_35 (by decide) ?_
        exact b_lret d_Tp_readName_36 rfl ⟨_, _, rfl, rfl, H⟩
  · have H := H.2 c16
    refine b_lconst (v := (0 : Int64)) d_Tp_readName_7 (by decide) ?_
    exact b_lret d_Tp_readName_8 rfl ⟨_, _, rfl, rfl, H⟩
set_option maxHeartbeats 4000000 in
set_option maxRecDepth 100000 in
theorem B_Tp_readName_62 {S : XS} {Q : Int64 → St → Prop} (σ : St) (x1 : Int32) (x2 : Int64) (x4 : Int32) (H : ((x1 ≤ x4 → Q x2 (sX σ 1 ((gX σ 1) + x1))) ∧ (¬ x1 ≤ x4 → CM S m_Tp_byteAt [.ref 1, .int ((gX σ 1) + x4)] (enc σ) (qI (fun v17 τ18 => BW S m_Tp_readName 62 [some (.ref 1), some (.int x1), some (.long ((x2 * (27 : Int64)) + (((v17 - (97 : Int32)) + (1 : Int32))).toInt64)), none, some (.int (x4 + (1 : Int32)))] [] (enc τ18) (qL Q)))))) : BW S m_Tp_readName 62 [some (.ref 1), some (.int x1), some (.long x2), none, some (.int x4)] [] (enc σ) (qL Q) := by
  refine b_iload d_Tp_readName_62 rfl ?_
  refine b_iload_n d_Tp_readName_64 rfl rfl ?_
  refine b_icmp_ge (tgt := 98) d_Tp_readName_65 (by decide) (fun c19 => ?_) (fun c19 => ?_)
  · have H := H.1 c19
    refine b_aload_n d_Tp_readName_98 rfl rfl ?_
    refine b_dup d_Tp_readName_99 rfl ?_
    refine b_getf (v := .int (gX σ 1)) d_Tp_readName_100 fl_Tp_22 (eg_1 σ) rfl ?_
    refine b_iload_n d_Tp_readName_103 rfl rfl ?_
    refine b_iadd d_Tp_readName_104  ?_
    refine b_putf (ty := .int) (h1 := enc (sX σ 1 ((gX σ 1) + x1))) d_Tp_readName_105 fl_Tp_22 ft_10_2 (fun _ => ⟨rfl, rfl⟩) (eg_1 σ) (Nat.le_of_ble_eq_true rfl) (es_1_2 σ ((gX σ 1) + x1)) ?_
    refine b_lload_n d_Tp_readName_108 rfl rfl ?_
    exact b_lret d_Tp_readName_109 rfl ⟨_, _, rfl, rfl, H⟩
  · have H := H.2 c19
    refine b_lload_n d_Tp_readName_68 rfl rfl ?_
    refine b_ldc2 (v := (27 : Int64)) d_Tp_readName_69 cn_Tp_44 ?_
    refine b_lmul d_Tp_readName_72  ?_
    refine b_aload_n d_Tp_readName_73 rfl rfl ?_
    refine b_aload_n d_Tp_readName_74 rfl rfl ?_
    refine b_getf (v := .int (gX σ 1)) d_Tp_readName_75 fl_Tp_22 (eg_1 σ) rfl ?_
    refine b_iload d_Tp_readName_78 rfl ?_
    refine b_iadd d_Tp_readName_80  ?_
    refine b_callVi (Mc := m_Tp_byteAt) (As := [.int ((gX σ 1) + x4)]) (st := [.long (x2 * (27 : Int64))]) d_Tp_readName_81 ⟨⟨kA_Tp_byteAt.1, kA_Tp_byteAt.2.1, kA_Tp_byteAt.2.2, by decide⟩, ml_Tp_46, kV_Tp_byteAt⟩ (eg_1 σ) rfl rfl (Nat.le_of_ble_eq_true rfl) H (fun v17 τ18 H => ?_)
    refine b_bipush (v := (97 : Int32)) d_Tp_readName_84 (by decide) ?_
    refine b_isub d_Tp_readName_86  ?_
    refine b_iconst (v := (1 : Int32)) d_Tp_readName_87 (by decide) ?_
    refine b_iadd d_Tp_readName_88  ?_
    refine b_i2l d_Tp_readName_89 ?_
    refine b_ladd d_Tp_readName_90  ?_
    refine b_lstore_n (ls' := [some (.ref 1), some (.int x1), some (.long ((x2 * (27 : Int64)) + (((v17 - (97 : Int32)) + (1 : Int32))).toInt64)), none, some (.int x4)]) d_Tp_readName_91 rfl (Nat.le_of_ble_eq_true rfl) rfl ?_
    refine b_iinc (v := (x4 + (1 : Int32))) (ls' := [some (.ref 1), some (.int x1), some (.long ((x2 * (27 : Int64)) + (((v17 - (97 : Int32)) + (1 : Int32))).toInt64)), none, some (.int (x4 + (1 : Int32)))]) d_Tp_readName_92 rfl rfl (Nat.le_of_ble_eq_true rfl) rfl ?_
    refine b_goto (tgt := 62) d_Tp_readName_95 (by decide) ?_
    exact b_mask [true, true, true, true, true] rfl H
theorem C_Tp_readName {S : XS} {Q : Int64 → St → Prop} (σ : St)  (H : BW S m_Tp_readName 0 [some (.ref 1), none, none, none, none] [] (enc σ) (qL Q)) : CM S m_Tp_readName [.ref 1] (enc σ) (qL Q) := b_meth (by decide) (Nat.le_of_ble_eq_true rfl) rfl H
theorem d_Tp_readNumber_0 : decode m_Tp_readNumber.2.1 0 = .ok (.aload_n 0, 1) := by decide +kernel
theorem d_Tp_readNumber_1 : decode m_Tp_readNumber.2.1 1 = .ok (.invokevirtual 28, 3) := by decide +kernel
theorem d_Tp_readNumber_4 : decode m_Tp_readNumber.2.1 4 = .ok (.ifCond .eq 5, 3) := by decide +kernel
theorem d_Tp_readNumber_7 : decode m_Tp_readNumber.2.1 7 = .ok (.iconst 0, 1) := by decide +kernel
theorem d_Tp_readNumber_8 : decode m_Tp_readNumber.2.1 8 = .ok (.ireturn, 1) := by decide +kernel
theorem d_Tp_readNumber_9 : decode m_Tp_readNumber.2.1 9 = .ok (.aload_n 0, 1) := by decide +kernel
theorem d_Tp_readNumber_10 : decode m_Tp_readNumber.2.1 10 = .ok (.invokevirtual 50, 3) := by decide +kernel
theorem d_Tp_readNumber_13 : decode m_Tp_readNumber.2.1 13 = .ok (.istore_n 3, 1) := by decide +kernel
theorem d_Tp_readNumber_14 : decode m_Tp_readNumber.2.1 14 = .ok (.iload_n 3, 1) := by decide +kernel
theorem d_Tp_readNumber_15 : decode m_Tp_readNumber.2.1 15 = .ok (.ifCond .ne 14, 3) := by decide +kernel
theorem d_Tp_readNumber_18 : decode m_Tp_readNumber.2.1 18 = .ok (.aload_n 0, 1) := by decide +kernel
theorem d_Tp_readNumber_19 : decode m_Tp_readNumber.2.1 19 = .ok (.iconst 1, 1) := by decide +kernel
theorem d_Tp_readNumber_20 : decode m_Tp_readNumber.2.1 20 = .ok (.aload_n 0, 1) := by decide +kernel
theorem d_Tp_readNumber_21 : decode m_Tp_readNumber.2.1 21 = .ok (.getfield 22, 3) := by decide +kernel
theorem d_Tp_readNumber_24 : decode m_Tp_readNumber.2.1 24 = .ok (.invokevirtual 40, 3) := by decide +kernel
theorem d_Tp_readNumber_27 : decode m_Tp_readNumber.2.1 27 = .ok (.iconst 0, 1) := by decide +kernel
theorem d_Tp_readNumber_28 : decode m_Tp_readNumber.2.1 28 = .ok (.ireturn, 1) := by decide +kernel
theorem d_Tp_readNumber_29 : decode m_Tp_readNumber.2.1 29 = .ok (.iload_n 3, 1) := by decide +kernel
theorem d_Tp_readNumber_30 : decode m_Tp_readNumber.2.1 30 = .ok (.iconst 5, 1) := by decide +kernel
theorem d_Tp_readNumber_31 : decode m_Tp_readNumber.2.1 31 = .ok (.if_icmp .le 16, 3) := by decide +kernel
theorem d_Tp_readNumber_34 : decode m_Tp_readNumber.2.1 34 = .ok (.aload_n 0, 1) := by decide +kernel
theorem d_Tp_readNumber_35 : decode m_Tp_readNumber.2.1 35 = .ok (.iconst 1, 1) := by decide +kernel
theorem d_Tp_readNumber_36 : decode m_Tp_readNumber.2.1 36 = .ok (.aload_n 0, 1) := by decide +kernel
theorem d_Tp_readNumber_37 : decode m_Tp_readNumber.2.1 37 = .ok (.getfield 22, 3) := by decide +kernel
theorem d_Tp_readNumber_40 : decode m_Tp_readNumber.2.1 40 = .ok (.iconst 5, 1) := by decide +kernel
theorem d_Tp_readNumber_41 : decode m_Tp_readNumber.2.1 41 = .ok (.iadd, 1) := by decide +kernel
theorem d_Tp_readNumber_42 : decode m_Tp_readNumber.2.1 42 = .ok (.invokevirtual 40, 3) := by decide +kernel
theorem d_Tp_readNumber_45 : decode m_Tp_readNumber.2.1 45 = .ok (.iconst 0, 1) := by decide +kernel
theorem d_Tp_readNumber_46 : decode m_Tp_readNumber.2.1 46 = .ok (.ireturn, 1) := by decide +kernel
theorem d_Tp_readNumber_47 : decode m_Tp_readNumber.2.1 47 = .ok (.iconst 0, 1) := by decide +kernel
theorem d_Tp_readNumber_48 : decode m_Tp_readNumber.2.1 48 = .ok (.istore 4, 2) := by decide +kernel
theorem d_Tp_readNumber_50 : decode m_Tp_readNumber.2.1 50 = .ok (.iconst 0, 1) := by decide +kernel
theorem d_Tp_readNumber_51 : decode m_Tp_readNumber.2.1 51 = .ok (.istore 5, 2) := by decide +kernel
theorem d_Tp_readNumber_53 : decode m_Tp_readNumber.2.1 53 = .ok (.iload 5, 2) := by decide +kernel
theorem d_Tp_readNumber_55 : decode m_Tp_readNumber.2.1 55 = .ok (.iload_n 3, 1) := by decide +kernel
theorem d_Tp_readNumber_56 : decode m_Tp_readNumber.2.1 56 = .ok (.if_icmp .ge 31, 3) := by decide +kernel
theorem d_Tp_readNumber_59 : decode m_Tp_readNumber.2.1 59 = .ok (.iload 4, 2) := by decide +kernel
theorem d_Tp_readNumber_61 : decode m_Tp_readNumber.2.1 61 = .ok (.bipush 10, 2) := by decide +kernel
theorem d_Tp_readNumber_63 : decode m_Tp_readNumber.2.1 63 = .ok (.imul, 1) := by decide +kernel
theorem d_Tp_readNumber_64 : decode m_Tp_readNumber.2.1 64 = .ok (.aload_n 0, 1) := by decide +kernel
theorem d_Tp_readNumber_65 : decode m_Tp_readNumber.2.1 65 = .ok (.aload_n 0, 1) := by decide +kernel
theorem d_Tp_readNumber_66 : decode m_Tp_readNumber.2.1 66 = .ok (.getfield 22, 3) := by decide +kernel
theorem d_Tp_readNumber_69 : decode m_Tp_readNumber.2.1 69 = .ok (.iload 5, 2) := by decide +kernel
theorem d_Tp_readNumber_71 : decode m_Tp_readNumber.2.1 71 = .ok (.iadd, 1) := by decide +kernel
theorem d_Tp_readNumber_72 : decode m_Tp_readNumber.2.1 72 = .ok (.invokevirtual 46, 3) := by decide +kernel
theorem d_Tp_readNumber_75 : decode m_Tp_readNumber.2.1 75 = .ok (.bipush 48, 2) := by decide +kernel
theorem d_Tp_readNumber_77 : decode m_Tp_readNumber.2.1 77 = .ok (.isub, 1) := by decide +kernel
theorem d_Tp_readNumber_78 : decode m_Tp_readNumber.2.1 78 = .ok (.iadd, 1) := by decide +kernel
theorem d_Tp_readNumber_79 : decode m_Tp_readNumber.2.1 79 = .ok (.istore 4, 2) := by decide +kernel
theorem d_Tp_readNumber_81 : decode m_Tp_readNumber.2.1 81 = .ok (.iinc 5 1, 3) := by decide +kernel
theorem d_Tp_readNumber_84 : decode m_Tp_readNumber.2.1 84 = .ok (.goto (-31), 3) := by decide +kernel
theorem d_Tp_readNumber_87 : decode m_Tp_readNumber.2.1 87 = .ok (.iload 4, 2) := by decide +kernel
theorem d_Tp_readNumber_89 : decode m_Tp_readNumber.2.1 89 = .ok (.iload_n 1, 1) := by decide +kernel
theorem d_Tp_readNumber_90 : decode m_Tp_readNumber.2.1 90 = .ok (.if_icmp .lt 9, 3) := by decide +kernel
theorem d_Tp_readNumber_93 : decode m_Tp_readNumber.2.1 93 = .ok (.iload 4, 2) := by decide +kernel
theorem d_Tp_readNumber_95 : decode m_Tp_readNumber.2.1 95 = .ok (.iload_n 2, 1) := by decide +kernel
theorem d_Tp_readNumber_96 : decode m_Tp_readNumber.2.1 96 = .ok (.if_icmp .le 14, 3) := by decide +kernel
theorem d_Tp_readNumber_99 : decode m_Tp_readNumber.2.1 99 = .ok (.aload_n 0, 1) := by decide +kernel
theorem d_Tp_readNumber_100 : decode m_Tp_readNumber.2.1 100 = .ok (.iconst 2, 1) := by decide +kernel
theorem d_Tp_readNumber_101 : decode m_Tp_readNumber.2.1 101 = .ok (.aload_n 0, 1) := by decide +kernel
theorem d_Tp_readNumber_102 : decode m_Tp_readNumber.2.1 102 = .ok (.getfield 22, 3) := by decide +kernel
theorem d_Tp_readNumber_105 : decode m_Tp_readNumber.2.1 105 = .ok (.invokevirtual 40, 3) := by decide +kernel
theorem d_Tp_readNumber_108 : decode m_Tp_readNumber.2.1 108 = .ok (.iconst 0, 1) := by decide +kernel
theorem d_Tp_readNumber_109 : decode m_Tp_readNumber.2.1 109 = .ok (.ireturn, 1) := by decide +kernel
theorem d_Tp_readNumber_110 : decode m_Tp_readNumber.2.1 110 = .ok (.aload_n 0, 1) := by decide +kernel
theorem d_Tp_readNumber_111 : decode m_Tp_readNumber.2.1 111 = .ok (.dup, 1) := by decide +kernel
theorem d_Tp_readNumber_112 : decode m_Tp_readNumber.2.1 112 = .ok (.getfield 22, 3) := by decide +kernel
theorem d_Tp_readNumber_115 : decode m_Tp_readNumber.2.1 115 = .ok (.iload_n 3, 1) := by decide +kernel
theorem d_Tp_readNumber_116 : decode m_Tp_readNumber.2.1 116 = .ok (.iadd, 1) := by decide +kernel
theorem d_Tp_readNumber_117 : decode m_Tp_readNumber.2.1 117 = .ok (.putfield 22, 3) := by decide +kernel
theorem d_Tp_readNumber_120 : decode m_Tp_readNumber.2.1 120 = .ok (.iload 4, 2) := by decide +kernel
theorem d_Tp_readNumber_122 : decode m_Tp_readNumber.2.1 122 = .ok (.ireturn, 1) := by decide +kernel
set_option maxHeartbeats 4000000 in
set_option maxRecDepth 100000 in
theorem B_Tp_readNumber_0 {S : XS} {Q : Int32 → St → Prop} (σ : St) (x1 : Int32) (x2 : Int32) (H : CM S m_Tp_failed [.ref 1] (enc σ) (qI (fun v1 τ2 => ((v1 = 0 → CM S m_Tp_digitsAhead [.ref 1] (enc τ2) (qI (fun v3 τ4 => ((¬ v3 = 0 → ((v3 ≤ (5 : Int32) → BW S m_Tp_readNumber 53 [some (.ref 1), some (.int x1), some (.int x2), some (.int v3), some (.int (0 : Int32)), some (.int (0 : Int32))] [] (enc τ4) (qI Q)) ∧ (¬ v3 ≤ (5 : Int32) → CM S m_Tp_fail [.ref 1, .int (1 : Int32), .int ((gX τ4 1) + (5 : Int32))] (enc τ4) (qV (fun τ6 => Q (0 : Int32) τ6))))) ∧ (v3 = 0 → CM S m_Tp_fail [.ref 1, .int (1 : Int32), .int (gX τ4 1)] (enc τ4) (qV (fun τ9 => Q (0 : Int32) τ9))))))) ∧ (¬ v1 = 0 → Q (0 : Int32) τ2))))) : BW S m_Tp_readNumber 0 [some (.ref 1), some (.int x1), some (.int x2), none, none, none] [] (enc σ) (qI Q) := by
  refine b_aload_n d_Tp_readNumber_0 rfl rfl ?_
  refine b_callVi (Mc := m_Tp_failed) (As := []) (st := []) d_Tp_readNumber_1 ⟨⟨kA_Tp_failed.1, kA_Tp_failed.2.1, kA_Tp_failed.2.2, by decide⟩, ml_Tp_28, kV_Tp_failed⟩ (eg_1 σ) rfl rfl (Nat.le_of_ble_eq_true rfl) H (fun v1 τ2 H => ?_)
  refine b_if_eq (tgt := 9) d_Tp_readNumber_4 (by decide) (fun c11 => ?_) (fun c11 => ?_)
  · have H := H.1 c11
    refine b_aload_n d_Tp_readNumber_9 rfl rfl ?_
    refine b_callVi (Mc := m_Tp_digitsAhead) (As := []) (st := []) d_Tp_readNumber_10 ⟨⟨kA_Tp_digitsAhead.1, kA_Tp_digitsAhead.2.1, kA_Tp_digitsAhead.2.2, by decide⟩, ml_Tp_50, kV_Tp_digitsAhead⟩ (eg_1 τ2) rfl rfl (Nat.le_of_ble_eq_true rfl) H (fun v3 τ4 H => ?_)
    refine b_istore_n (ls' := [some (.ref 1), some (.int x1), some (.int x2), some (.int v3), none, none]) d_Tp_readNumber_13 rfl (Nat.le_of_ble_eq_true rfl) rfl ?_
    refine b_iload_n d_Tp_readNumber_14 rfl rfl ?_
    refine b_if_ne (tgt := 29) d_Tp_readNumber_15 (by decide) (fun c10 => ?_) (fun c10 => ?_)
    · have H := H.1 c10
      refine b_iload_n d_Tp_readNumber_29 rfl rfl ?_
      refine b_iconst (v := (5 : Int32)) d_Tp_readNumber_30 (by decide) ?_
      refine b_icmp_le (tgt := 47) d_Tp_readNumber_31 (by decide) (fun c7 => ?_) (fun c7 => ?_)
      · have H := H.1 c7
        refine b_iconst (v := (0 : Int32)) d_Tp_readNumber_47 (by decide) ?_
        refine b_istore (ls' := [some (.ref 1), some (.int x1), some (.int x2), some (.int v3), some (.int (0 : Int32)), none]) d_Tp_readNumber_48 (Nat.le_of_ble_eq_true rfl) rfl ?_
        refine b_iconst (v := (0 : Int32)) d_Tp_readNumber_50 (by decide) ?_
        refine b_istore (ls' := [some (.ref 1), some (.int x1), some (.int x2), some (.int v3), some (.int (0 : Int32)), some (.int (0 : Int32))]) d_Tp_readNumber_51 (Nat.le_of_ble_eq_true rfl) rfl ?_
        exact b_mask [true, true, true, true, true, true] rfl H
      · have H := H.2 c7
        refine b_aload_n d_Tp_readNumber_34 rfl rfl ?_
        refine b_iconst (v := (1 : Int32)) d_Tp_readNumber_35 (by decide) ?_
        refine b_aload_n d_Tp_readNumber_36 rfl rfl ?_
        refine b_getf (v := .int (gX τ4 1)) d_Tp_readNumber_37 fl_Tp_22 (eg_1 τ4) rfl ?_
        refine b_iconst (v := (5 : Int32)) d_Tp_readNumber_40 (by decide) ?_
        refine b_iadd d_Tp_readNumber_41  ?_
        refine b_callVv (Mc := m_Tp_fail) (As := [.int (1 : Int32), .int ((gX τ4 1) + (5 : Int32))]) (st := []) d_Tp_readNumber_42 ⟨⟨kA_Tp_fail.1, kA_Tp_fail.2.1, kA_Tp_fail.2.2, by decide⟩, ml_Tp_40, kV_Tp_fail⟩ (eg_1 τ4) rfl rfl (Nat.le_of_ble_eq_true rfl) H (fun τ6 H => ?_)
        refine b_iconst (v := (0 : Int32)) d_Tp_readNumber_45 (by decide) ?_
        exact b_iret (ty := .int) d_Tp_readNumber_46 rfl rfl ⟨_, _, rfl, rfl, H⟩
    · have H := H.2 c10
      refine b_aload_n d_Tp_readNumber_18 rfl rfl ?_
      refine b_iconst (v := (1 : Int32)) d_Tp_readNumber_19 (by decide) ?_
      refine b_aload_n d_Tp_readNumber_20 rfl rfl ?_
      refine b_getf (v := .int (gX τ4 1)) d_Tp_readNumber_21 fl_Tp_22 (eg_1 τ4) rfl ?_
      refine b_callVv (Mc := m_Tp_fail) (As := [.int (1 : Int32), .int (gX τ4 1)]) (st := []) d_Tp_readNumber_24 ⟨⟨kA_Tp_fail.1, kA_Tp_fail.2.1, kA_Tp_fail.2.2, by decide⟩, ml_Tp_40, kV_Tp_fail⟩ (eg_1 τ4) rfl rfl (Nat.le_of_ble_eq_true rfl) H (fun τ9 H => ?_)
      refine b_iconst (v := (0 : Int32)) d_Tp_readNumber_27 (by decide) ?_
      exact b_iret (ty := .int) d_Tp_readNumber_28 rfl rfl ⟨_, _, rfl, rfl, H⟩
  · have H := H.2 c11
    refine b_iconst (v := (0 : Int32)) d_Tp_readNumber_7 (by decide) ?_
    exact b_iret (ty := .int) d_Tp_readNumber_8 rfl rfl ⟨_, _, rfl, rfl, H⟩
set_option maxHeartbeats 4000000 in
set_option maxRecDepth 100000 in
theorem B_Tp_readNumber_53 {S : XS} {Q : Int32 → St → Prop} (σ : St) (x1 : Int32) (x2 : Int32) (x3 : Int32) (x4 : Int32) (x5 : Int32) (H : ((x3 ≤ x5 → ((x4 < x1 → CM S m_Tp_fail [.ref 1, .int (2 : Int32), .int (gX σ 1)] (enc σ) (qV (fun τ13 => Q (0 : Int32) τ13))) ∧ (¬ x4 < x1 → ((x4 ≤ x2 → Q x4 (sX σ 1 ((gX σ 1) + x3))) ∧ (¬ x4 ≤ x2 → CM S m_Tp_fail [.ref 1, .int (2 : Int32), .int (gX σ 1)] (enc σ) (qV (fun τ15 => Q (0 : Int32) τ15))))))) ∧ (¬ x3 ≤ x5 → CM S m_Tp_byteAt [.ref 1, .int ((gX σ 1) + x5)] (enc σ) (qI (fun v18 τ19 => BW S m_Tp_readNumber 53 [some (.ref 1), some (.int x1), some (.int x2), some (.int x3), some (.int ((x4 * (10 : Int32)) + (v18 - (48 : Int32)))), some (.int (x5 + (1 : Int32)))] [] (enc τ19) (qI Q)))))) : BW S m_Tp_readNumber 53 [some (.ref 1), some (.int x1), some (.int x2), some (.int x3), some (.int x4), some (.int x5)] [] (enc σ) (qI Q) := by
  refine b_iload d_Tp_readNumber_53 rfl ?_
  refine b_iload_n d_Tp_readNumber_55 rfl rfl ?_
  refine b_icmp_ge (tgt := 87) d_Tp_readNumber_56 (by decide) (fun c20 => ?_) (fun c20 => ?_)
  · have H := H.1 c20
    refine b_iload d_Tp_readNumber_87 rfl ?_
    refine b_iload_n d_Tp_readNumber_89 rfl rfl ?_
    refine b_icmp_lt (tgt := 99) d_Tp_readNumber_90 (by decide) (fun c17 => ?_) (fun c17 => ?_)
    · have H := H.1 c17
      refine b_aload_n d_Tp_readNumber_99 rfl rfl ?_
      refine b_iconst (v := (2 : Int32)) d_Tp_readNumber_100 (by decide) ?_
      refine b_aload_n d_Tp_readNumber_101 rfl rfl ?_
      refine b_getf (v := .int (gX σ 1)) d_Tp_readNumber_102 fl_Tp_22 (eg_1 σ) rfl ?_
      refine b_callVv (Mc := m_Tp_fail) (As := [.int (2 : Int32), .int (gX σ 1)]) (st := []) d_Tp_readNumber_105 ⟨⟨kA_Tp_fail.1, kA_Tp_fail.2.1, kA_Tp_fail.2.2, by decide⟩, ml_Tp_40, kV_Tp_fail⟩ (eg_1 σ) rfl rfl (Nat.le_of_ble_eq_true rfl) H (fun τ13 H => ?_)
      refine b_iconst (v := (0 : Int32)) d_Tp_readNumber_108 (by decide) ?_
      exact b_iret (ty := .int) d_Tp_readNumber_109 rfl rfl ⟨_, _, rfl, rfl, H⟩
    · have H := H.2 c17
      refine b_iload d_Tp_readNumber_93 rfl ?_
      refine b_iload_n d_Tp_readNumber_95 rfl rfl ?_
      refine b_icmp_le (tgt := 110) d_Tp_readNumber_96 (by decide) (fun c16 => ?_) (fun c16 => ?_)
      · have H := H.1 c16
        refine b_aload_n d_Tp_readNumber_110 rfl rfl ?_
        refine b_dup d_Tp_readNumber_111 rfl ?_
        refine b_getf (v := .int (gX σ 1)) d_Tp_readNumber_112 fl_Tp_22 (eg_1 σ) rfl ?_
        refine b_iload_n d_Tp_readNumber_115 rfl rfl ?_
        refine b_iadd d_Tp_readNumber_116  ?_
        refine b_putf (ty := .int) (h1 := enc (sX σ 1 ((gX σ 1) + x3))) d_Tp_readNumber_117 fl_Tp_22 ft_10_2 (fun _ => ⟨rfl, rfl⟩) (eg_1 σ) (Nat.le_of_ble_eq_true rfl) (es_1_2 σ ((gX σ 1) + x3)) ?_
        refine b_iload d_Tp_readNumber_120 rfl ?_
        exact b_iret (ty := .int) d_Tp_readNumber_122 rfl rfl ⟨_, _, rfl, rfl, H⟩
      · have H := H.2 c16
        refine b_aload_n d_Tp_readNumber_99 rfl rfl ?_
        refine b_iconst (v := (2 : Int32)) d_Tp_readNumber_100 (by decide) ?_
        refine b_aload_n d_Tp_readNumber_101 rfl rfl ?_
        refine b_getf (v := .int (gX σ 1)) d_Tp_readNumber_102 fl_Tp_22 (eg_1 σ) rfl ?_
        refine b_callVv (Mc := m_Tp_fail) (As := [.int (2 : Int32), .int (gX σ 1)]) (st := []) d_Tp_readNumber_105 ⟨⟨kA_Tp_fail.1, kA_Tp_fail.2.1, kA_Tp_fail.2.2, by decide⟩, ml_Tp_40, kV_Tp_fail⟩ (eg_1 σ) rfl rfl (Nat.le_of_ble_eq_true rfl) H (fun τ15 H => ?_)
        refine b_iconst (v := (0 : Int32)) d_Tp_readNumber_108 (by decide) ?_
        exact b_iret (ty := .int) d_Tp_readNumber_109 rfl rfl ⟨_, _, rfl, rfl, H⟩
  · have H := H.2 c20
    refine b_iload d_Tp_readNumber_59 rfl ?_
    refine b_bipush (v := (10 : Int32)) d_Tp_readNumber_61 (by decide) ?_
    refine b_imul d_Tp_readNumber_63  ?_
    refine b_aload_n d_Tp_readNumber_64 rfl rfl ?_
    refine b_aload_n d_Tp_readNumber_65 rfl rfl ?_
    refine b_getf (v := .int (gX σ 1)) d_Tp_readNumber_66 fl_Tp_22 (eg_1 σ) rfl ?_
    refine b_iload d_Tp_readNumber_69 rfl ?_
    refine b_iadd d_Tp_readNumber_71  ?_
    refine b_callVi (Mc := m_Tp_byteAt) (As := [.int ((gX σ 1) + x5)]) (st := [.int (x4 * (10 : Int32))]) d_Tp_readNumber_72 ⟨⟨kA_Tp_byteAt.1, kA_Tp_byteAt.2.1, kA_Tp_byteAt.2.2, by decide⟩, ml_Tp_46, kV_Tp_byteAt⟩ (eg_1 σ) rfl rfl (Nat.le_of_ble_eq_true rfl) H (fun v18 τ19 H => ?_)
    refine b_bipush (v := (48 : Int32)) d_Tp_readNumber_75 (by decide) ?_
    refine b_isub d_Tp_readNumber_77  ?_
    refine b_iadd d_Tp_readNumber_78  ?_
    refine b_istore (ls' := [some (.ref 1), some (.int x1), some (.int x2), some (.int x3), some (.int ((x4 * (10 : Int32)) + (v18 - (48 : Int32)))), some (.int x5)]) d_Tp_readNumber_79 (Nat.le_of_ble_eq_true rfl) rfl ?_
    refine b_iinc (v := (x5 + (1 : Int32))) (ls' := [some (.ref 1), some (.int x1), some (.int x2), some (.int x3), some (.int ((x4 * (10 : Int32)) + (v18 - (48 : Int32)))), some (.int (x5 + (1 : Int32)))]) d_Tp_readNumber_81 rfl rfl (Nat.le_of_ble_eq_true rfl) rfl ?_
    refine b_goto (tgt := 53) d_Tp_readNumber_84 (by decide) ?_
    exact b_mask [true, true, true, true, true, true] rfl H
theorem C_Tp_readNumber {S : XS} {Q : Int32 → St → Prop} (σ : St) (x1 : Int32) (x2 : Int32) (H : BW S m_Tp_readNumber 0 [some (.ref 1), some (.int x1), some (.int x2), none, none, none] [] (enc σ) (qI Q)) : CM S m_Tp_readNumber [.ref 1, .int x1, .int x2] (enc σ) (qI Q) := b_meth (by decide) (Nat.le_of_ble_eq_true rfl) rfl H
theorem d_Tp_passWord_0 : decode m_Tp_passWord.2.1 0 = .ok (.aload_n 0, 1) := by decide +kernel
theorem d_Tp_passWord_1 : decode m_Tp_passWord.2.1 1 = .ok (.invokevirtual 28, 3) := by decide +kernel
theorem d_Tp_passWord_4 : decode m_Tp_passWord.2.1 4 = .ok (.ifCond .eq 5, 3) := by decide +kernel
theorem d_Tp_passWord_7 : decode m_Tp_passWord.2.1 7 = .ok (.iconst 0, 1) := by decide +kernel
theorem d_Tp_passWord_8 : decode m_Tp_passWord.2.1 8 = .ok (.ireturn, 1) := by decide +kernel
theorem d_Tp_passWord_9 : decode m_Tp_passWord.2.1 9 = .ok (.aload_n 0, 1) := by decide +kernel
theorem d_Tp_passWord_10 : decode m_Tp_passWord.2.1 10 = .ok (.invokevirtual 32, 3) := by decide +kernel
theorem d_Tp_passWord_13 : decode m_Tp_passWord.2.1 13 = .ok (.istore_n 2, 1) := by decide +kernel
theorem d_Tp_passWord_14 : decode m_Tp_passWord.2.1 14 = .ok (.aload_n 0, 1) := by decide +kernel
theorem d_Tp_passWord_15 : decode m_Tp_passWord.2.1 15 = .ok (.aload_n 1, 1) := by decide +kernel
theorem d_Tp_passWord_16 : decode m_Tp_passWord.2.1 16 = .ok (.iload_n 2, 1) := by decide +kernel
theorem d_Tp_passWord_17 : decode m_Tp_passWord.2.1 17 = .ok (.invokevirtual 53, 3) := by decide +kernel
theorem d_Tp_passWord_20 : decode m_Tp_passWord.2.1 20 = .ok (.ifCond .ne 5, 3) := by decide +kernel
theorem d_Tp_passWord_23 : decode m_Tp_passWord.2.1 23 = .ok (.iconst 0, 1) := by decide +kernel
theorem d_Tp_passWord_24 : decode m_Tp_passWord.2.1 24 = .ok (.ireturn, 1) := by decide +kernel
theorem d_Tp_passWord_25 : decode m_Tp_passWord.2.1 25 = .ok (.aload_n 0, 1) := by decide +kernel
theorem d_Tp_passWord_26 : decode m_Tp_passWord.2.1 26 = .ok (.dup, 1) := by decide +kernel
theorem d_Tp_passWord_27 : decode m_Tp_passWord.2.1 27 = .ok (.getfield 22, 3) := by decide +kernel
theorem d_Tp_passWord_30 : decode m_Tp_passWord.2.1 30 = .ok (.iload_n 2, 1) := by decide +kernel
theorem d_Tp_passWord_31 : decode m_Tp_passWord.2.1 31 = .ok (.iadd, 1) := by decide +kernel
theorem d_Tp_passWord_32 : decode m_Tp_passWord.2.1 32 = .ok (.putfield 22, 3) := by decide +kernel
theorem d_Tp_passWord_35 : decode m_Tp_passWord.2.1 35 = .ok (.iconst 1, 1) := by decide +kernel
theorem d_Tp_passWord_36 : decode m_Tp_passWord.2.1 36 = .ok (.ireturn, 1) := by decide +kernel
set_option maxHeartbeats 4000000 in
set_option maxRecDepth 100000 in
theorem B_Tp_passWord_0 {S : XS} {Q : Int32 → St → Prop} (σ : St) (t1 : Nat) (H : CM S m_Tp_failed [.ref 1] (enc σ) (qI (fun v1 τ2 => ((v1 = 0 → CM S m_Tp_lettersAhead [.ref 1] (enc τ2) (qI (fun v3 τ4 => CM S m_Tp_isWord [.ref 1, .retAddr t1, .int v3] (enc τ4) (qI (fun v5 τ6 => ((¬ v5 = 0 → Q (1 : Int32) (sX τ6 1 ((gX τ6 1) + v3))) ∧ (v5 = 0 → Q (0 : Int32) τ6))))))) ∧ (¬ v1 = 0 → Q (0 : Int32) τ2))))) : BW S m_Tp_passWord 0 [some (.ref 1), some (.retAddr t1), none] [] (enc σ) (qI Q) := by
  refine b_aload_n d_Tp_passWord_0 rfl rfl ?_
  refine b_callVi (Mc := m_Tp_failed) (As := []) (st := []) d_Tp_passWord_1 ⟨⟨kA_Tp_failed.1, kA_Tp_failed.2.1, kA_Tp_failed.2.2, by decide⟩, ml_Tp_28, kV_Tp_failed⟩ (eg_1 σ) rfl rfl (Nat.le_of_ble_eq_true rfl) H (fun v1 τ2 H => ?_)
  refine b_if_eq (tgt := 9) d_Tp_passWord_4 (by decide) (fun c8 => ?_) (fun c8 => ?_)
  · have H := H.1 c8
    refine b_aload_n d_Tp_passWord_9 rfl rfl ?_
    refine b_callVi (Mc := m_Tp_lettersAhead) (As := []) (st := []) d_Tp_passWord_10 ⟨⟨kA_Tp_lettersAhead.1, kA_Tp_lettersAhead.2.1, kA_Tp_lettersAhead.2.2, by decide⟩, ml_Tp_32, kV_Tp_lettersAhead⟩ (eg_1 τ2) rfl rfl (Nat.le_of_ble_eq_true rfl) H (fun v3 τ4 H => ?_)
    refine b_istore_n (ls' := [some (.ref 1), some (.retAddr t1), some (.int v3)]) d_Tp_passWord_13 rfl (Nat.le_of_ble_eq_true rfl) rfl ?_
    refine b_aload_n d_Tp_passWord_14 rfl rfl ?_
    refine b_aload_nS d_Tp_passWord_15 rfl rfl ?_
    refine b_iload_n d_Tp_passWord_16 rfl rfl ?_
    refine b_callVi (Mc := m_Tp_isWord) (As := [.retAddr t1, .int v3]) (st := []) d_Tp_passWord_17 ⟨⟨kA_Tp_isWord.1, kA_Tp_isWord.2.1, kA_Tp_isWord.2.2, by decide⟩, ml_Tp_53, kV_Tp_isWord⟩ (eg_1 τ4) rfl rfl (Nat.le_of_ble_eq_true rfl) H (fun v5 τ6 H => ?_)
    refine b_if_ne (tgt := 25) d_Tp_passWord_20 (by decide) (fun c7 => ?_) (fun c7 => ?_)
    · have H := H.1 c7
      refine b_aload_n d_Tp_passWord_25 rfl rfl ?_
      refine b_dup d_Tp_passWord_26 rfl ?_
      refine b_getf (v := .int (gX τ6 1)) d_Tp_passWord_27 fl_Tp_22 (eg_1 τ6) rfl ?_
      refine b_iload_n d_Tp_passWord_30 rfl rfl ?_
      refine b_iadd d_Tp_passWord_31  ?_
      refine b_putf (ty := .int) (h1 := enc (sX τ6 1 ((gX τ6 1) + v3))) d_Tp_passWord_32 fl_Tp_22 ft_10_2 (fun _ => ⟨rfl, rfl⟩) (eg_1 τ6) (Nat.le_of_ble_eq_true rfl) (es_1_2 τ6 ((gX τ6 1) + v3)) ?_
      refine b_iconst (v := (1 : Int32)) d_Tp_passWord_35 (by decide) ?_
      exact b_iret (ty := .boolean) d_Tp_passWord_36 rfl rfl ⟨_, _, rfl, rfl, H⟩
    · have H := H.2 c7
      refine b_iconst (v := (0 : Int32)) d_Tp_passWord_23 (by decide) ?_
      exact b_iret (ty := .boolean) d_Tp_passWord_24 rfl rfl ⟨_, _, rfl, rfl, H⟩
  · have H := H.2 c8
    refine b_iconst (v := (0 : Int32)) d_Tp_passWord_7 (by decide) ?_
    exact b_iret (ty := .boolean) d_Tp_passWord_8 rfl rfl ⟨_, _, rfl, rfl, H⟩
theorem C_Tp_passWord {S : XS} {Q : Int32 → St → Prop} (σ : St) (t1 : Nat) (H : BW S m_Tp_passWord 0 [some (.ref 1), some (.retAddr t1), none] [] (enc σ) (qI Q)) : CM S m_Tp_passWord [.ref 1, .retAddr t1] (enc σ) (qI Q) := b_meth (by decide) (Nat.le_of_ble_eq_true rfl) rfl H
theorem d_Tp_needWord_0 : decode m_Tp_needWord.2.1 0 = .ok (.aload_n 0, 1) := by decide +kernel
theorem d_Tp_needWord_1 : decode m_Tp_needWord.2.1 1 = .ok (.aload_n 1, 1) := by decide +kernel
theorem d_Tp_needWord_2 : decode m_Tp_needWord.2.1 2 = .ok (.invokevirtual 57, 3) := by decide +kernel
theorem d_Tp_needWord_5 : decode m_Tp_needWord.2.1 5 = .ok (.ifCond .ne 7, 3) := by decide +kernel
theorem d_Tp_needWord_8 : decode m_Tp_needWord.2.1 8 = .ok (.aload_n 0, 1) := by decide +kernel
theorem d_Tp_needWord_9 : decode m_Tp_needWord.2.1 9 = .ok (.invokevirtual 61, 3) := by decide +kernel
theorem d_Tp_needWord_12 : decode m_Tp_needWord.2.1 12 = .ok (.return_, 1) := by decide +kernel
set_option maxHeartbeats 4000000 in
set_option maxRecDepth 100000 in
theorem B_Tp_needWord_0 {S : XS} {Q : St → Prop} (σ : St) (t1 : Nat) (H : CM S m_Tp_passWord [.ref 1, .retAddr t1] (enc σ) (qI (fun v1 τ2 => ((¬ v1 = 0 → Q τ2) ∧ (v1 = 0 → CM S m_Tp_failNext [.ref 1] (enc τ2) (qV (fun τ4 => Q τ4))))))) : BW S m_Tp_needWord 0 [some (.ref 1), some (.retAddr t1)] [] (enc σ) (qV Q) := by
  refine b_aload_n d_Tp_needWord_0 rfl rfl ?_
  refine b_aload_nS d_Tp_needWord_1 rfl rfl ?_
  refine b_callVi (Mc := m_Tp_passWord) (As := [.retAddr t1]) (st := []) d_Tp_needWord_2 ⟨⟨kA_Tp_passWord.1, kA_Tp_passWord.2.1, kA_Tp_passWord.2.2, by decide⟩, ml_Tp_57, kV_Tp_passWord⟩ (eg_1 σ) rfl rfl (Nat.le_of_ble_eq_true rfl) H (fun v1 τ2 H => ?_)
  refine b_if_ne (tgt := 12) d_Tp_needWord_5 (by decide) (fun c5 => ?_) (fun c5 => ?_)
  · have H := H.1 c5
    exact b_vret d_Tp_needWord_12 rfl ⟨_, rfl, rfl, H⟩
  · have H := H.2 c5
    refine b_aload_n d_Tp_needWord_8 rfl rfl ?_
    refine b_callVv (Mc := m_Tp_failNext) (As := []) (st := []) d_Tp_needWord_9 ⟨⟨kA_Tp_failNext.1, kA_Tp_failNext.2.1, kA_Tp_failNext.2.2, by decide⟩, ml_Tp_61, kV_Tp_failNext⟩ (eg_1 τ2) rfl rfl (Nat.le_of_ble_eq_true rfl) H (fun τ4 H => ?_)
    exact b_vret d_Tp_needWord_12 rfl ⟨_, rfl, rfl, H⟩
theorem C_Tp_needWord {S : XS} {Q : St → Prop} (σ : St) (t1 : Nat) (H : BW S m_Tp_needWord 0 [some (.ref 1), some (.retAddr t1)] [] (enc σ) (qV Q)) : CM S m_Tp_needWord [.ref 1, .retAddr t1] (enc σ) (qV Q) := b_meth (by decide) (Nat.le_of_ble_eq_true rfl) rfl H
theorem d_Tp_needSign_0 : decode m_Tp_needSign.2.1 0 = .ok (.aload_n 0, 1) := by decide +kernel
theorem d_Tp_needSign_1 : decode m_Tp_needSign.2.1 1 = .ok (.invokevirtual 64, 3) := by decide +kernel
theorem d_Tp_needSign_4 : decode m_Tp_needSign.2.1 4 = .ok (.aload_n 0, 1) := by decide +kernel
theorem d_Tp_needSign_5 : decode m_Tp_needSign.2.1 5 = .ok (.aload_n 0, 1) := by decide +kernel
theorem d_Tp_needSign_6 : decode m_Tp_needSign.2.1 6 = .ok (.getfield 22, 3) := by decide +kernel
theorem d_Tp_needSign_9 : decode m_Tp_needSign.2.1 9 = .ok (.invokevirtual 46, 3) := by decide +kernel
theorem d_Tp_needSign_12 : decode m_Tp_needSign.2.1 12 = .ok (.iload_n 1, 1) := by decide +kernel
theorem d_Tp_needSign_13 : decode m_Tp_needSign.2.1 13 = .ok (.if_icmp .ne 16, 3) := by decide +kernel
theorem d_Tp_needSign_16 : decode m_Tp_needSign.2.1 16 = .ok (.aload_n 0, 1) := by decide +kernel
theorem d_Tp_needSign_17 : decode m_Tp_needSign.2.1 17 = .ok (.dup, 1) := by decide +kernel
theorem d_Tp_needSign_18 : decode m_Tp_needSign.2.1 18 = .ok (.getfield 22, 3) := by decide +kernel
theorem d_Tp_needSign_21 : decode m_Tp_needSign.2.1 21 = .ok (.iconst 1, 1) := by decide +kernel
theorem d_Tp_needSign_22 : decode m_Tp_needSign.2.1 22 = .ok (.iadd, 1) := by decide +kernel
theorem d_Tp_needSign_23 : decode m_Tp_needSign.2.1 23 = .ok (.putfield 22, 3) := by decide +kernel
theorem d_Tp_needSign_26 : decode m_Tp_needSign.2.1 26 = .ok (.goto 7, 3) := by decide +kernel
theorem d_Tp_needSign_29 : decode m_Tp_needSign.2.1 29 = .ok (.aload_n 0, 1) := by decide +kernel
theorem d_Tp_needSign_30 : decode m_Tp_needSign.2.1 30 = .ok (.invokevirtual 61, 3) := by decide +kernel
theorem d_Tp_needSign_33 : decode m_Tp_needSign.2.1 33 = .ok (.return_, 1) := by decide +kernel
set_option maxHeartbeats 4000000 in
set_option maxRecDepth 100000 in
theorem B_Tp_needSign_0 {S : XS} {Q : St → Prop} (σ : St) (x1 : Int32) (H : CM S m_Tp_skipBlanks [.ref 1] (enc σ) (qV (fun τ2 => CM S m_Tp_byteAt [.ref 1, .int (gX τ2 1)] (enc τ2) (qI (fun v3 τ4 => ((¬ v3 = x1 → CM S m_Tp_failNext [.ref 1] (enc τ4) (qV (fun τ6 => Q τ6))) ∧ (v3 = x1 → Q (sX τ4 1 ((gX τ4 1) + (1 : Int32)))))))))) : BW S m_Tp_needSign 0 [some (.ref 1), some (.int x1)] [] (enc σ) (qV Q) := by
  refine b_aload_n d_Tp_needSign_0 rfl rfl ?_
  refine b_callVv (Mc := m_Tp_skipBlanks) (As := []) (st := []) d_Tp_needSign_1 ⟨⟨kA_Tp_skipBlanks.1, kA_Tp_skipBlanks.2.1, kA_Tp_skipBlanks.2.2, by decide⟩, ml_Tp_64, kV_Tp_skipBlanks⟩ (eg_1 σ) rfl rfl (Nat.le_of_ble_eq_true rfl) H (fun τ2 H => ?_)
  refine b_aload_n d_Tp_needSign_4 rfl rfl ?_
  refine b_aload_n d_Tp_needSign_5 rfl rfl ?_
  refine b_getf (v := .int (gX τ2 1)) d_Tp_needSign_6 fl_Tp_22 (eg_1 τ2) rfl ?_
  refine b_callVi (Mc := m_Tp_byteAt) (As := [.int (gX τ2 1)]) (st := []) d_Tp_needSign_9 ⟨⟨kA_Tp_byteAt.1, kA_Tp_byteAt.2.1, kA_Tp_byteAt.2.2, by decide⟩, ml_Tp_46, kV_Tp_byteAt⟩ (eg_1 τ2) rfl rfl (Nat.le_of_ble_eq_true rfl) H (fun v3 τ4 H => ?_)
  refine b_iload_n d_Tp_needSign_12 rfl rfl ?_
  refine b_icmp_ne (tgt := 29) d_Tp_needSign_13 (by decide) (fun c7 => ?_) (fun c7 => ?_)
  · have H := H.1 c7
    refine b_aload_n d_Tp_needSign_29 rfl rfl ?_
    refine b_callVv (Mc := m_Tp_failNext) (As := []) (st := []) d_Tp_needSign_30 ⟨⟨kA_Tp_failNext.1, kA_Tp_failNext.2.1, kA_Tp_failNext.2.2, by decide⟩, ml_Tp_61, kV_Tp_failNext⟩ (eg_1 τ4) rfl rfl (Nat.le_of_ble_eq_true rfl) H (fun τ6 H => ?_)
    exact b_vret d_Tp_needSign_33 rfl ⟨_, rfl, rfl, H⟩
  · have H := H.2 c7
    refine b_aload_n d_Tp_needSign_16 rfl rfl ?_
    refine b_dup d_Tp_needSign_17 rfl ?_
    refine b_getf (v := .int (gX τ4 1)) d_Tp_needSign_18 fl_Tp_22 (eg_1 τ4) rfl ?_
    refine b_iconst (v := (1 : Int32)) d_Tp_needSign_21 (by decide) ?_
    refine b_iadd d_Tp_needSign_22  ?_
    refine b_putf (ty := .int) (h1 := enc (sX τ4 1 ((gX τ4 1) + (1 : Int32)))) d_Tp_needSign_23 fl_Tp_22 ft_10_2 (fun _ => ⟨rfl, rfl⟩) (eg_1 τ4) (Nat.le_of_ble_eq_true rfl) (es_1_2 τ4 ((gX τ4 1) + (1 : Int32))) ?_
    refine b_goto (tgt := 33) d_Tp_needSign_26 (by decide) ?_
    exact b_vret d_Tp_needSign_33 rfl ⟨_, rfl, rfl, H⟩
theorem C_Tp_needSign {S : XS} {Q : St → Prop} (σ : St) (x1 : Int32) (H : BW S m_Tp_needSign 0 [some (.ref 1), some (.int x1)] [] (enc σ) (qV Q)) : CM S m_Tp_needSign [.ref 1, .int x1] (enc σ) (qV Q) := b_meth (by decide) (Nat.le_of_ble_eq_true rfl) rfl H
theorem d_Tp_needEnd_0 : decode m_Tp_needEnd.2.1 0 = .ok (.aload_n 0, 1) := by decide +kernel
theorem d_Tp_needEnd_1 : decode m_Tp_needEnd.2.1 1 = .ok (.invokevirtual 64, 3) := by decide +kernel
theorem d_Tp_needEnd_4 : decode m_Tp_needEnd.2.1 4 = .ok (.aload_n 0, 1) := by decide +kernel
theorem d_Tp_needEnd_5 : decode m_Tp_needEnd.2.1 5 = .ok (.getfield 22, 3) := by decide +kernel
theorem d_Tp_needEnd_8 : decode m_Tp_needEnd.2.1 8 = .ok (.aload_n 0, 1) := by decide +kernel
theorem d_Tp_needEnd_9 : decode m_Tp_needEnd.2.1 9 = .ok (.getfield 19, 3) := by decide +kernel
theorem d_Tp_needEnd_12 : decode m_Tp_needEnd.2.1 12 = .ok (.if_icmp .ge 7, 3) := by decide +kernel
theorem d_Tp_needEnd_15 : decode m_Tp_needEnd.2.1 15 = .ok (.aload_n 0, 1) := by decide +kernel
theorem d_Tp_needEnd_16 : decode m_Tp_needEnd.2.1 16 = .ok (.invokevirtual 61, 3) := by decide +kernel
theorem d_Tp_needEnd_19 : decode m_Tp_needEnd.2.1 19 = .ok (.return_, 1) := by decide +kernel
set_option maxHeartbeats 4000000 in
set_option maxRecDepth 100000 in
theorem B_Tp_needEnd_0 {S : XS} {Q : St → Prop} (σ : St)  (H : CM S m_Tp_skipBlanks [.ref 1] (enc σ) (qV (fun τ2 => (((gX τ2 0) ≤ (gX τ2 1) → Q τ2) ∧ (¬ (gX τ2 0) ≤ (gX τ2 1) → CM S m_Tp_failNext [.ref 1] (enc τ2) (qV (fun τ4 => Q τ4))))))) : BW S m_Tp_needEnd 0 [some (.ref 1)] [] (enc σ) (qV Q) := by
  refine b_aload_n d_Tp_needEnd_0 rfl rfl ?_
  refine b_callVv (Mc := m_Tp_skipBlanks) (As := []) (st := []) d_Tp_needEnd_1 ⟨⟨kA_Tp_skipBlanks.1, kA_Tp_skipBlanks.2.1, kA_Tp_skipBlanks.2.2, by decide⟩, ml_Tp_64, kV_Tp_skipBlanks⟩ (eg_1 σ) rfl rfl (Nat.le_of_ble_eq_true rfl) H (fun τ2 H => ?_)
  refine b_aload_n d_Tp_needEnd_4 rfl rfl ?_
  refine b_getf (v := .int (gX τ2 1)) d_Tp_needEnd_5 fl_Tp_22 (eg_1 τ2) rfl ?_
  refine b_aload_n d_Tp_needEnd_8 rfl rfl ?_
  refine b_getf (v := .int (gX τ2 0)) d_Tp_needEnd_9 fl_Tp_19 (eg_1 τ2) rfl ?_
  refine b_icmp_ge (tgt := 19) d_Tp_needEnd_12 (by decide) (fun c5 => ?_) (fun c5 => ?_)
  · have H := H.1 c5
    exact b_vret d_Tp_needEnd_19 rfl ⟨_, rfl, rfl, H⟩
  · have H := H.2 c5
    refine b_aload_n d_Tp_needEnd_15 rfl rfl ?_
    refine b_callVv (Mc := m_Tp_failNext) (As := []) (st := []) d_Tp_needEnd_16 ⟨⟨kA_Tp_failNext.1, kA_Tp_failNext.2.1, kA_Tp_failNext.2.2, by decide⟩, ml_Tp_61, kV_Tp_failNext⟩ (eg_1 τ2) rfl rfl (Nat.le_of_ble_eq_true rfl) H (fun τ4 H => ?_)
    exact b_vret d_Tp_needEnd_19 rfl ⟨_, rfl, rfl, H⟩
theorem C_Tp_needEnd {S : XS} {Q : St → Prop} (σ : St)  (H : BW S m_Tp_needEnd 0 [some (.ref 1)] [] (enc σ) (qV Q)) : CM S m_Tp_needEnd [.ref 1] (enc σ) (qV Q) := b_meth (by decide) (Nat.le_of_ble_eq_true rfl) rfl H
theorem d_Tp_failNext_0 : decode m_Tp_failNext.2.1 0 = .ok (.aload_n 0, 1) := by decide +kernel
theorem d_Tp_failNext_1 : decode m_Tp_failNext.2.1 1 = .ok (.invokevirtual 64, 3) := by decide +kernel
theorem d_Tp_failNext_4 : decode m_Tp_failNext.2.1 4 = .ok (.aload_n 0, 1) := by decide +kernel
theorem d_Tp_failNext_5 : decode m_Tp_failNext.2.1 5 = .ok (.iconst 1, 1) := by decide +kernel
theorem d_Tp_failNext_6 : decode m_Tp_failNext.2.1 6 = .ok (.aload_n 0, 1) := by decide +kernel
theorem d_Tp_failNext_7 : decode m_Tp_failNext.2.1 7 = .ok (.getfield 22, 3) := by decide +kernel
theorem d_Tp_failNext_10 : decode m_Tp_failNext.2.1 10 = .ok (.invokevirtual 40, 3) := by decide +kernel
theorem d_Tp_failNext_13 : decode m_Tp_failNext.2.1 13 = .ok (.return_, 1) := by decide +kernel
set_option maxHeartbeats 4000000 in
set_option maxRecDepth 100000 in
theorem B_Tp_failNext_0 {S : XS} {Q : St → Prop} (σ : St)  (H : CM S m_Tp_skipBlanks [.ref 1] (enc σ) (qV (fun τ2 => CM S m_Tp_fail [.ref 1, .int (1 : Int32), .int (gX τ2 1)] (enc τ2) (qV (fun τ4 => Q τ4))))) : BW S m_Tp_failNext 0 [some (.ref 1)] [] (enc σ) (qV Q) := by
  refine b_aload_n d_Tp_failNext_0 rfl rfl ?_
  refine b_callVv (Mc := m_Tp_skipBlanks) (As := []) (st := []) d_Tp_failNext_1 ⟨⟨kA_Tp_skipBlanks.1, kA_Tp_skipBlanks.2.1, kA_Tp_skipBlanks.2.2, by decide⟩, ml_Tp_64, kV_Tp_skipBlanks⟩ (eg_1 σ) rfl rfl (Nat.le_of_ble_eq_true rfl) H (fun τ2 H => ?_)
  refine b_aload_n d_Tp_failNext_4 rfl rfl ?_
  refine b_iconst (v := (1 : Int32)) d_Tp_failNext_5 (by decide) ?_
  refine b_aload_n d_Tp_failNext_6 rfl rfl ?_
  refine b_getf (v := .int (gX τ2 1)) d_Tp_failNext_7 fl_Tp_22 (eg_1 τ2) rfl ?_
  refine b_callVv (Mc := m_Tp_fail) (As := [.int (1 : Int32), .int (gX τ2 1)]) (st := []) d_Tp_failNext_10 ⟨⟨kA_Tp_fail.1, kA_Tp_fail.2.1, kA_Tp_fail.2.2, by decide⟩, ml_Tp_40, kV_Tp_fail⟩ (eg_1 τ2) rfl rfl (Nat.le_of_ble_eq_true rfl) H (fun τ4 H => ?_)
  exact b_vret d_Tp_failNext_13 rfl ⟨_, rfl, rfl, H⟩
theorem C_Tp_failNext {S : XS} {Q : St → Prop} (σ : St)  (H : BW S m_Tp_failNext 0 [some (.ref 1)] [] (enc σ) (qV Q)) : CM S m_Tp_failNext [.ref 1] (enc σ) (qV Q) := b_meth (by decide) (Nat.le_of_ble_eq_true rfl) rfl H
theorem d_Tp_fail_0 : decode m_Tp_fail.2.1 0 = .ok (.aload_n 0, 1) := by decide +kernel
theorem d_Tp_fail_1 : decode m_Tp_fail.2.1 1 = .ok (.invokevirtual 28, 3) := by decide +kernel
theorem d_Tp_fail_4 : decode m_Tp_fail.2.1 4 = .ok (.ifCond .ne 13, 3) := by decide +kernel
theorem d_Tp_fail_7 : decode m_Tp_fail.2.1 7 = .ok (.aload_n 0, 1) := by decide +kernel
theorem d_Tp_fail_8 : decode m_Tp_fail.2.1 8 = .ok (.iload_n 1, 1) := by decide +kernel
theorem d_Tp_fail_9 : decode m_Tp_fail.2.1 9 = .ok (.putfield 25, 3) := by decide +kernel
theorem d_Tp_fail_12 : decode m_Tp_fail.2.1 12 = .ok (.aload_n 0, 1) := by decide +kernel
theorem d_Tp_fail_13 : decode m_Tp_fail.2.1 13 = .ok (.iload_n 2, 1) := by decide +kernel
theorem d_Tp_fail_14 : decode m_Tp_fail.2.1 14 = .ok (.putfield 15, 3) := by decide +kernel
theorem d_Tp_fail_17 : decode m_Tp_fail.2.1 17 = .ok (.return_, 1) := by decide +kernel
set_option maxHeartbeats 4000000 in
set_option maxRecDepth 100000 in
theorem B_Tp_fail_0 {S : XS} {Q : St → Prop} (σ : St) (x1 : Int32) (x2 : Int32) (H : CM S m_Tp_failed [.ref 1] (enc σ) (qI (fun v1 τ2 => ((¬ v1 = 0 → Q τ2) ∧ (v1 = 0 → Q (sX (sX τ2 2 x1) 3 x2)))))) : BW S m_Tp_fail 0 [some (.ref 1), some (.int x1), some (.int x2)] [] (enc σ) (qV Q) := by
  refine b_aload_n d_Tp_fail_0 rfl rfl ?_
  refine b_callVi (Mc := m_Tp_failed) (As := []) (st := []) d_Tp_fail_1 ⟨⟨kA_Tp_failed.1, kA_Tp_failed.2.1, kA_Tp_failed.2.2, by decide⟩, ml_Tp_28, kV_Tp_failed⟩ (eg_1 σ) rfl rfl (Nat.le_of_ble_eq_true rfl) H (fun v1 τ2 H => ?_)
  refine b_if_ne (tgt := 17) d_Tp_fail_4 (by decide) (fun c3 => ?_) (fun c3 => ?_)
  · have H := H.1 c3
    exact b_vret d_Tp_fail_17 rfl ⟨_, rfl, rfl, H⟩
  · have H := H.2 c3
    refine b_aload_n d_Tp_fail_7 rfl rfl ?_
    refine b_iload_n d_Tp_fail_8 rfl rfl ?_
    refine b_putf (ty := .int) (h1 := enc (sX τ2 2 x1)) d_Tp_fail_9 fl_Tp_25 ft_10_3 (fun _ => ⟨rfl, rfl⟩) (eg_1 τ2) (Nat.le_of_ble_eq_true rfl) (es_1_3 τ2 x1) ?_
    refine b_aload_n d_Tp_fail_12 rfl rfl ?_
    refine b_iload_n d_Tp_fail_13 rfl rfl ?_
    refine b_putf (ty := .int) (h1 := enc (sX (sX τ2 2 x1) 3 x2)) d_Tp_fail_14 fl_Tp_15 ft_10_4 (fun _ => ⟨rfl, rfl⟩) (eg_1 (sX τ2 2 x1)) (Nat.le_of_ble_eq_true rfl) (es_1_4 (sX τ2 2 x1) x2) ?_
    exact b_vret d_Tp_fail_17 rfl ⟨_, rfl, rfl, H⟩
theorem C_Tp_fail {S : XS} {Q : St → Prop} (σ : St) (x1 : Int32) (x2 : Int32) (H : BW S m_Tp_fail 0 [some (.ref 1), some (.int x1), some (.int x2)] [] (enc σ) (qV Q)) : CM S m_Tp_fail [.ref 1, .int x1, .int x2] (enc σ) (qV Q) := b_meth (by decide) (Nat.le_of_ble_eq_true rfl) rfl H
theorem d_Tp_lettersAhead_0 : decode m_Tp_lettersAhead.2.1 0 = .ok (.aload_n 0, 1) := by decide +kernel
theorem d_Tp_lettersAhead_1 : decode m_Tp_lettersAhead.2.1 1 = .ok (.invokevirtual 64, 3) := by decide +kernel
theorem d_Tp_lettersAhead_4 : decode m_Tp_lettersAhead.2.1 4 = .ok (.aload_n 0, 1) := by decide +kernel
theorem d_Tp_lettersAhead_5 : decode m_Tp_lettersAhead.2.1 5 = .ok (.getfield 22, 3) := by decide +kernel
theorem d_Tp_lettersAhead_8 : decode m_Tp_lettersAhead.2.1 8 = .ok (.istore_n 1, 1) := by decide +kernel
theorem d_Tp_lettersAhead_9 : decode m_Tp_lettersAhead.2.1 9 = .ok (.iload_n 1, 1) := by decide +kernel
theorem d_Tp_lettersAhead_10 : decode m_Tp_lettersAhead.2.1 10 = .ok (.aload_n 0, 1) := by decide +kernel
theorem d_Tp_lettersAhead_11 : decode m_Tp_lettersAhead.2.1 11 = .ok (.getfield 19, 3) := by decide +kernel
theorem d_Tp_lettersAhead_14 : decode m_Tp_lettersAhead.2.1 14 = .ok (.if_icmp .ge 29, 3) := by decide +kernel
theorem d_Tp_lettersAhead_17 : decode m_Tp_lettersAhead.2.1 17 = .ok (.aload_n 0, 1) := by decide +kernel
theorem d_Tp_lettersAhead_18 : decode m_Tp_lettersAhead.2.1 18 = .ok (.iload_n 1, 1) := by decide +kernel
theorem d_Tp_lettersAhead_19 : decode m_Tp_lettersAhead.2.1 19 = .ok (.invokevirtual 46, 3) := by decide +kernel
theorem d_Tp_lettersAhead_22 : decode m_Tp_lettersAhead.2.1 22 = .ok (.bipush 97, 2) := by decide +kernel
theorem d_Tp_lettersAhead_24 : decode m_Tp_lettersAhead.2.1 24 = .ok (.if_icmp .lt 19, 3) := by decide +kernel
theorem d_Tp_lettersAhead_27 : decode m_Tp_lettersAhead.2.1 27 = .ok (.aload_n 0, 1) := by decide +kernel
theorem d_Tp_lettersAhead_28 : decode m_Tp_lettersAhead.2.1 28 = .ok (.iload_n 1, 1) := by decide +kernel
theorem d_Tp_lettersAhead_29 : decode m_Tp_lettersAhead.2.1 29 = .ok (.invokevirtual 46, 3) := by decide +kernel
theorem d_Tp_lettersAhead_32 : decode m_Tp_lettersAhead.2.1 32 = .ok (.bipush 122, 2) := by decide +kernel
theorem d_Tp_lettersAhead_34 : decode m_Tp_lettersAhead.2.1 34 = .ok (.if_icmp .gt 9, 3) := by decide +kernel
theorem d_Tp_lettersAhead_37 : decode m_Tp_lettersAhead.2.1 37 = .ok (.iinc 1 1, 3) := by decide +kernel
theorem d_Tp_lettersAhead_40 : decode m_Tp_lettersAhead.2.1 40 = .ok (.goto (-31), 3) := by decide +kernel
theorem d_Tp_lettersAhead_43 : decode m_Tp_lettersAhead.2.1 43 = .ok (.iload_n 1, 1) := by decide +kernel
theorem d_Tp_lettersAhead_44 : decode m_Tp_lettersAhead.2.1 44 = .ok (.aload_n 0, 1) := by decide +kernel
theorem d_Tp_lettersAhead_45 : decode m_Tp_lettersAhead.2.1 45 = .ok (.getfield 22, 3) := by decide +kernel
theorem d_Tp_lettersAhead_48 : decode m_Tp_lettersAhead.2.1 48 = .ok (.isub, 1) := by decide +kernel
theorem d_Tp_lettersAhead_49 : decode m_Tp_lettersAhead.2.1 49 = .ok (.ireturn, 1) := by decide +kernel
set_option maxHeartbeats 4000000 in
set_option maxRecDepth 100000 in
theorem B_Tp_lettersAhead_0 {S : XS} {Q : Int32 → St → Prop} (σ : St)  (H : CM S m_Tp_skipBlanks [.ref 1] (enc σ) (qV (fun τ2 => BW S m_Tp_lettersAhead 9 [some (.ref 1), some (.int (gX τ2 1))] [] (enc τ2) (qI Q)))) : BW S m_Tp_lettersAhead 0 [some (.ref 1), none] [] (enc σ) (qI Q) := by
  refine b_aload_n d_Tp_lettersAhead_0 rfl rfl ?_
  refine b_callVv (Mc := m_Tp_skipBlanks) (As := []) (st := []) d_Tp_lettersAhead_1 ⟨⟨kA_Tp_skipBlanks.1, kA_Tp_skipBlanks.2.1, kA_Tp_skipBlanks.2.2, by decide⟩, ml_Tp_64, kV_Tp_skipBlanks⟩ (eg_1 σ) rfl rfl (Nat.le_of_ble_eq_true rfl) H (fun τ2 H => ?_)
  refine b_aload_n d_Tp_lettersAhead_4 rfl rfl ?_
  refine b_getf (v := .int (gX τ2 1)) d_Tp_lettersAhead_5 fl_Tp_22 (eg_1 τ2) rfl ?_
  refine b_istore_n (ls' := [some (.ref 1), some (.int (gX τ2 1))]) d_Tp_lettersAhead_8 rfl (Nat.le_of_ble_eq_true rfl) rfl ?_
  exact b_mask [true, true] rfl H
set_option maxHeartbeats 4000000 in
set_option maxRecDepth 100000 in
theorem B_Tp_lettersAhead_9 {S : XS} {Q : Int32 → St → Prop} (σ : St) (x1 : Int32) (H : (((gX σ 0) ≤ x1 → Q (x1 - (gX σ 1)) σ) ∧ (¬ (gX σ 0) ≤ x1 → CM S m_Tp_byteAt [.ref 1, .int x1] (enc σ) (qI (fun v3 τ4 => ((v3 < (97 : Int32) → Q (x1 - (gX τ4 1)) τ4) ∧ (¬ v3 < (97 : Int32) → CM S m_Tp_byteAt [.ref 1, .int x1] (enc τ4) (qI (fun v5 τ6 => (((122 : Int32) < v5 → Q (x1 - (gX τ6 1)) τ6) ∧ (¬ (122 : Int32) < v5 → BW S m_Tp_lettersAhead 9 [some (.ref 1), some (.int (x1 + (1 : Int32)))] [] (enc τ6) (qI Q)))))))))))) : BW S m_Tp_lettersAhead 9 [some (.ref 1), some (.int x1)] [] (enc σ) (qI Q) := by
  refine b_iload_n d_Tp_lettersAhead_9 rfl rfl ?_
  refine b_aload_n d_Tp_lettersAhead_10 rfl rfl ?_
  refine b_getf (v := .int (gX σ 0)) d_Tp_lettersAhead_11 fl_Tp_19 (eg_1 σ) rfl ?_
  refine b_icmp_ge (tgt := 43) d_Tp_lettersAhead_14 (by decide) (fun c9 => ?_) (fun c9 => ?_)
  · have H := H.1 c9
    refine b_iload_n d_Tp_lettersAhead_43 rfl rfl ?_
    refine b_aload_n d_Tp_lettersAhead_44 rfl rfl ?_
    refine b_getf (v := .int (gX σ 1)) d_Tp_lettersAhead_45 fl_Tp_22 (eg_1 σ) rfl ?_
    refine b_isub d_Tp_lettersAhead_48  ?_
    exact b_iret (ty := .int) d_Tp_lettersAhead_49 rfl rfl ⟨_, _, rfl, rfl, H⟩
  · have H := H.2 c9
    refine b_aload_n d_Tp_lettersAhead_17 rfl rfl ?_
    refine b_iload_n d_Tp_lettersAhead_18 rfl rfl ?_
    refine b_callVi (Mc := m_Tp_byteAt) (As := [.int x1]) (st := []) d_Tp_lettersAhead_19 ⟨⟨kA_Tp_byteAt.1, kA_Tp_byteAt.2.1, kA_Tp_byteAt.2.2, by decide⟩, ml_Tp_46, kV_Tp_byteAt⟩ (eg_1 σ) rfl rfl (Nat.le_of_ble_eq_true rfl) H (fun v3 τ4 H => ?_)
    refine b_bipush (v := (97 : Int32)) d_Tp_lettersAhead_22 (by decide) ?_
    refine b_icmp_lt (tgt := 43) d_Tp_lettersAhead_24 (by decide) (fun c8 => ?_) (fun c8 => ?_)
    · have H := H.1 c8
      refine b_iload_n d_Tp_lettersAhead_43 rfl rfl ?_
      refine b_aload_n d_Tp_lettersAhead_44 rfl rfl ?_
      refine b_getf (v := .int (gX τ4 1)) d_Tp_lettersAhead_45 fl_Tp_22 (eg_1 τ4) rfl ?_
      refine b_isub d_Tp_lettersAhead_48  ?_
      exact b_iret (ty := .int) d_Tp_lettersAhead_49 rfl rfl ⟨_, _, rfl, rfl, H⟩
    · have H := H.2 c8
      refine b_aload_n d_Tp_lettersAhead_27 rfl rfl ?_
      refine b_iload_n d_Tp_lettersAhead_28 rfl rfl ?_
      refine b_callVi (Mc := m_Tp_byteAt) (As := [.int x1]) (st := []) d_Tp_lettersAhead_29 ⟨⟨kA_Tp_byteAt.1, kA_Tp_byteAt.2.1, kA_Tp_byteAt.2.2, by decide⟩, ml_Tp_46, kV_Tp_byteAt⟩ (eg_1 τ4) rfl rfl (Nat.le_of_ble_eq_true rfl) H (fun v5 τ6 H => ?_)
      refine b_bipush (v := (122 : Int32)) d_Tp_lettersAhead_32 (by decide) ?_
      refine b_icmp_gt (tgt := 43) d_Tp_lettersAhead_34 (by decide) (fun c7 => ?_) (fun c7 => ?_)
      · have H := H.1 c7
        refine b_iload_n d_Tp_lettersAhead_43 rfl rfl ?_
        refine b_aload_n d_Tp_lettersAhead_44 rfl rfl ?_
        refine b_getf (v := .int (gX τ6 1)) d_Tp_lettersAhead_45 fl_Tp_22 (eg_1 τ6) rfl ?_
        refine b_isub d_Tp_lettersAhead_48  ?_
        exact b_iret (ty := .int) d_Tp_lettersAhead_49 rfl rfl ⟨_, _, rfl, rfl, H⟩
      · have H := H.2 c7
        refine b_iinc (v := (x1 + (1 : Int32))) (ls' := [some (.ref 1), some (.int (x1 + (1 : Int32)))]) d_Tp_lettersAhead_37 rfl rfl (Nat.le_of_ble_eq_true rfl) rfl ?_
        refine b_goto (tgt := 9) d_Tp_lettersAhead_40 (by decide) ?_
        exact b_mask [true, true] rfl H
theorem C_Tp_lettersAhead {S : XS} {Q : Int32 → St → Prop} (σ : St)  (H : BW S m_Tp_lettersAhead 0 [some (.ref 1), none] [] (enc σ) (qI Q)) : CM S m_Tp_lettersAhead [.ref 1] (enc σ) (qI Q) := b_meth (by decide) (Nat.le_of_ble_eq_true rfl) rfl H
theorem d_Tp_digitsAhead_0 : decode m_Tp_digitsAhead.2.1 0 = .ok (.aload_n 0, 1) := by decide +kernel
theorem d_Tp_digitsAhead_1 : decode m_Tp_digitsAhead.2.1 1 = .ok (.invokevirtual 64, 3) := by decide +kernel
theorem d_Tp_digitsAhead_4 : decode m_Tp_digitsAhead.2.1 4 = .ok (.aload_n 0, 1) := by decide +kernel
theorem d_Tp_digitsAhead_5 : decode m_Tp_digitsAhead.2.1 5 = .ok (.getfield 22, 3) := by decide +kernel
theorem d_Tp_digitsAhead_8 : decode m_Tp_digitsAhead.2.1 8 = .ok (.istore_n 1, 1) := by decide +kernel
theorem d_Tp_digitsAhead_9 : decode m_Tp_digitsAhead.2.1 9 = .ok (.iload_n 1, 1) := by decide +kernel
theorem d_Tp_digitsAhead_10 : decode m_Tp_digitsAhead.2.1 10 = .ok (.aload_n 0, 1) := by decide +kernel
theorem d_Tp_digitsAhead_11 : decode m_Tp_digitsAhead.2.1 11 = .ok (.getfield 19, 3) := by decide +kernel
theorem d_Tp_digitsAhead_14 : decode m_Tp_digitsAhead.2.1 14 = .ok (.if_icmp .ge 29, 3) := by decide +kernel
theorem d_Tp_digitsAhead_17 : decode m_Tp_digitsAhead.2.1 17 = .ok (.aload_n 0, 1) := by decide +kernel
theorem d_Tp_digitsAhead_18 : decode m_Tp_digitsAhead.2.1 18 = .ok (.iload_n 1, 1) := by decide +kernel
theorem d_Tp_digitsAhead_19 : decode m_Tp_digitsAhead.2.1 19 = .ok (.invokevirtual 46, 3) := by decide +kernel
theorem d_Tp_digitsAhead_22 : decode m_Tp_digitsAhead.2.1 22 = .ok (.bipush 48, 2) := by decide +kernel
theorem d_Tp_digitsAhead_24 : decode m_Tp_digitsAhead.2.1 24 = .ok (.if_icmp .lt 19, 3) := by decide +kernel
theorem d_Tp_digitsAhead_27 : decode m_Tp_digitsAhead.2.1 27 = .ok (.aload_n 0, 1) := by decide +kernel
theorem d_Tp_digitsAhead_28 : decode m_Tp_digitsAhead.2.1 28 = .ok (.iload_n 1, 1) := by decide +kernel
theorem d_Tp_digitsAhead_29 : decode m_Tp_digitsAhead.2.1 29 = .ok (.invokevirtual 46, 3) := by decide +kernel
theorem d_Tp_digitsAhead_32 : decode m_Tp_digitsAhead.2.1 32 = .ok (.bipush 57, 2) := by decide +kernel
theorem d_Tp_digitsAhead_34 : decode m_Tp_digitsAhead.2.1 34 = .ok (.if_icmp .gt 9, 3) := by decide +kernel
theorem d_Tp_digitsAhead_37 : decode m_Tp_digitsAhead.2.1 37 = .ok (.iinc 1 1, 3) := by decide +kernel
theorem d_Tp_digitsAhead_40 : decode m_Tp_digitsAhead.2.1 40 = .ok (.goto (-31), 3) := by decide +kernel
theorem d_Tp_digitsAhead_43 : decode m_Tp_digitsAhead.2.1 43 = .ok (.iload_n 1, 1) := by decide +kernel
theorem d_Tp_digitsAhead_44 : decode m_Tp_digitsAhead.2.1 44 = .ok (.aload_n 0, 1) := by decide +kernel
theorem d_Tp_digitsAhead_45 : decode m_Tp_digitsAhead.2.1 45 = .ok (.getfield 22, 3) := by decide +kernel
theorem d_Tp_digitsAhead_48 : decode m_Tp_digitsAhead.2.1 48 = .ok (.isub, 1) := by decide +kernel
theorem d_Tp_digitsAhead_49 : decode m_Tp_digitsAhead.2.1 49 = .ok (.ireturn, 1) := by decide +kernel
set_option maxHeartbeats 4000000 in
set_option maxRecDepth 100000 in
theorem B_Tp_digitsAhead_0 {S : XS} {Q : Int32 → St → Prop} (σ : St)  (H : CM S m_Tp_skipBlanks [.ref 1] (enc σ) (qV (fun τ2 => BW S m_Tp_digitsAhead 9 [some (.ref 1), some (.int (gX τ2 1))] [] (enc τ2) (qI Q)))) : BW S m_Tp_digitsAhead 0 [some (.ref 1), none] [] (enc σ) (qI Q) := by
  refine b_aload_n d_Tp_digitsAhead_0 rfl rfl ?_
  refine b_callVv (Mc := m_Tp_skipBlanks) (As := []) (st := []) d_Tp_digitsAhead_1 ⟨⟨kA_Tp_skipBlanks.1, kA_Tp_skipBlanks.2.1, kA_Tp_skipBlanks.2.2, by decide⟩, ml_Tp_64, kV_Tp_skipBlanks⟩ (eg_1 σ) rfl rfl (Nat.le_of_ble_eq_true rfl) H (fun τ2 H => ?_)
  refine b_aload_n d_Tp_digitsAhead_4 rfl rfl ?_
  refine b_getf (v := .int (gX τ2 1)) d_Tp_digitsAhead_5 fl_Tp_22 (eg_1 τ2) rfl ?_
  refine b_istore_n (ls' := [some (.ref 1), some (.int (gX τ2 1))]) d_Tp_digitsAhead_8 rfl (Nat.le_of_ble_eq_true rfl) rfl ?_
  exact b_mask [true, true] rfl H
set_option maxHeartbeats 4000000 in
set_option maxRecDepth 100000 in
theorem B_Tp_digitsAhead_9 {S : XS} {Q : Int32 → St → Prop} (σ : St) (x1 : Int32) (H : (((gX σ 0) ≤ x1 → Q (x1 - (gX σ 1)) σ) ∧ (¬ (gX σ 0) ≤ x1 → CM S m_Tp_byteAt [.ref 1, .int x1] (enc σ) (qI (fun v3 τ4 => ((v3 < (48 : Int32) → Q (x1 - (gX τ4 1)) τ4) ∧ (¬ v3 < (48 : Int32) → CM S m_Tp_byteAt [.ref 1, .int x1] (enc τ4) (qI (fun v5 τ6 => (((57 : Int32) < v5 → Q (x1 - (gX τ6 1)) τ6) ∧ (¬ (57 : Int32) < v5 → BW S m_Tp_digitsAhead 9 [some (.ref 1), some (.int (x1 + (1 : Int32)))] [] (enc τ6) (qI Q)))))))))))) : BW S m_Tp_digitsAhead 9 [some (.ref 1), some (.int x1)] [] (enc σ) (qI Q) := by
  refine b_iload_n d_Tp_digitsAhead_9 rfl rfl ?_
  refine b_aload_n d_Tp_digitsAhead_10 rfl rfl ?_
  refine b_getf (v := .int (gX σ 0)) d_Tp_digitsAhead_11 fl_Tp_19 (eg_1 σ) rfl ?_
  refine b_icmp_ge (tgt := 43) d_Tp_digitsAhead_14 (by decide) (fun c9 => ?_) (fun c9 => ?_)
  · have H := H.1 c9
    refine b_iload_n d_Tp_digitsAhead_43 rfl rfl ?_
    refine b_aload_n d_Tp_digitsAhead_44 rfl rfl ?_
    refine b_getf (v := .int (gX σ 1)) d_Tp_digitsAhead_45 fl_Tp_22 (eg_1 σ) rfl ?_
    refine b_isub d_Tp_digitsAhead_48  ?_
    exact b_iret (ty := .int) d_Tp_digitsAhead_49 rfl rfl ⟨_, _, rfl, rfl, H⟩
  · have H := H.2 c9
    refine b_aload_n d_Tp_digitsAhead_17 rfl rfl ?_
    refine b_iload_n d_Tp_digitsAhead_18 rfl rfl ?_
    refine b_callVi (Mc := m_Tp_byteAt) (As := [.int x1]) (st := []) d_Tp_digitsAhead_19 ⟨⟨kA_Tp_byteAt.1, kA_Tp_byteAt.2.1, kA_Tp_byteAt.2.2, by decide⟩, ml_Tp_46, kV_Tp_byteAt⟩ (eg_1 σ) rfl rfl (Nat.le_of_ble_eq_true rfl) H (fun v3 τ4 H => ?_)
    refine b_bipush (v := (48 : Int32)) d_Tp_digitsAhead_22 (by decide) ?_
    refine b_icmp_lt (tgt := 43) d_Tp_digitsAhead_24 (by decide) (fun c8 => ?_) (fun c8 => ?_)
    · have H := H.1 c8
      refine b_iload_n d_Tp_digitsAhead_43 rfl rfl ?_
      refine b_aload_n d_Tp_digitsAhead_44 rfl rfl ?_
      refine b_getf (v := .int (gX τ4 1)) d_Tp_digitsAhead_45 fl_Tp_22 (eg_1 τ4) rfl ?_
      refine b_isub d_Tp_digitsAhead_48  ?_
      exact b_iret (ty := .int) d_Tp_digitsAhead_49 rfl rfl ⟨_, _, rfl, rfl, H⟩
    · have H := H.2 c8
      refine b_aload_n d_Tp_digitsAhead_27 rfl rfl ?_
      refine b_iload_n d_Tp_digitsAhead_28 rfl rfl ?_
      refine b_callVi (Mc := m_Tp_byteAt) (As := [.int x1]) (st := []) d_Tp_digitsAhead_29 ⟨⟨kA_Tp_byteAt.1, kA_Tp_byteAt.2.1, kA_Tp_byteAt.2.2, by decide⟩, ml_Tp_46, kV_Tp_byteAt⟩ (eg_1 τ4) rfl rfl (Nat.le_of_ble_eq_true rfl) H (fun v5 τ6 H => ?_)
      refine b_bipush (v := (57 : Int32)) d_Tp_digitsAhead_32 (by decide) ?_
      refine b_icmp_gt (tgt := 43) d_Tp_digitsAhead_34 (by decide) (fun c7 => ?_) (fun c7 => ?_)
      · have H := H.1 c7
        refine b_iload_n d_Tp_digitsAhead_43 rfl rfl ?_
        refine b_aload_n d_Tp_digitsAhead_44 rfl rfl ?_
        refine b_getf (v := .int (gX τ6 1)) d_Tp_digitsAhead_45 fl_Tp_22 (eg_1 τ6) rfl ?_
        refine b_isub d_Tp_digitsAhead_48  ?_
        exact b_iret (ty := .int) d_Tp_digitsAhead_49 rfl rfl ⟨_, _, rfl, rfl, H⟩
      · have H := H.2 c7
        refine b_iinc (v := (x1 + (1 : Int32))) (ls' := [some (.ref 1), some (.int (x1 + (1 : Int32)))]) d_Tp_digitsAhead_37 rfl rfl (Nat.le_of_ble_eq_true rfl) rfl ?_
        refine b_goto (tgt := 9) d_Tp_digitsAhead_40 (by decide) ?_
        exact b_mask [true, true] rfl H
theorem C_Tp_digitsAhead {S : XS} {Q : Int32 → St → Prop} (σ : St)  (H : BW S m_Tp_digitsAhead 0 [some (.ref 1), none] [] (enc σ) (qI Q)) : CM S m_Tp_digitsAhead [.ref 1] (enc σ) (qI Q) := b_meth (by decide) (Nat.le_of_ble_eq_true rfl) rfl H
theorem d_Tp_skipBlanks_0 : decode m_Tp_skipBlanks.2.1 0 = .ok (.aload_n 0, 1) := by decide +kernel
theorem d_Tp_skipBlanks_1 : decode m_Tp_skipBlanks.2.1 1 = .ok (.getfield 22, 3) := by decide +kernel
theorem d_Tp_skipBlanks_4 : decode m_Tp_skipBlanks.2.1 4 = .ok (.aload_n 0, 1) := by decide +kernel
theorem d_Tp_skipBlanks_5 : decode m_Tp_skipBlanks.2.1 5 = .ok (.getfield 19, 3) := by decide +kernel
theorem d_Tp_skipBlanks_8 : decode m_Tp_skipBlanks.2.1 8 = .ok (.if_icmp .ge 44, 3) := by decide +kernel
theorem d_Tp_skipBlanks_11 : decode m_Tp_skipBlanks.2.1 11 = .ok (.aload_n 0, 1) := by decide +kernel
theorem d_Tp_skipBlanks_12 : decode m_Tp_skipBlanks.2.1 12 = .ok (.getfield 11, 3) := by decide +kernel
theorem d_Tp_skipBlanks_15 : decode m_Tp_skipBlanks.2.1 15 = .ok (.aload_n 0, 1) := by decide +kernel
theorem d_Tp_skipBlanks_16 : decode m_Tp_skipBlanks.2.1 16 = .ok (.getfield 22, 3) := by decide +kernel
theorem d_Tp_skipBlanks_19 : decode m_Tp_skipBlanks.2.1 19 = .ok (.iaload, 1) := by decide +kernel
theorem d_Tp_skipBlanks_20 : decode m_Tp_skipBlanks.2.1 20 = .ok (.bipush 10, 2) := by decide +kernel
theorem d_Tp_skipBlanks_22 : decode m_Tp_skipBlanks.2.1 22 = .ok (.if_icmp .eq 17, 3) := by decide +kernel
theorem d_Tp_skipBlanks_25 : decode m_Tp_skipBlanks.2.1 25 = .ok (.aload_n 0, 1) := by decide +kernel
theorem d_Tp_skipBlanks_26 : decode m_Tp_skipBlanks.2.1 26 = .ok (.getfield 11, 3) := by decide +kernel
theorem d_Tp_skipBlanks_29 : decode m_Tp_skipBlanks.2.1 29 = .ok (.aload_n 0, 1) := by decide +kernel
theorem d_Tp_skipBlanks_30 : decode m_Tp_skipBlanks.2.1 30 = .ok (.getfield 22, 3) := by decide +kernel
theorem d_Tp_skipBlanks_33 : decode m_Tp_skipBlanks.2.1 33 = .ok (.iaload, 1) := by decide +kernel
theorem d_Tp_skipBlanks_34 : decode m_Tp_skipBlanks.2.1 34 = .ok (.bipush 32, 2) := by decide +kernel
theorem d_Tp_skipBlanks_36 : decode m_Tp_skipBlanks.2.1 36 = .ok (.if_icmp .ne 16, 3) := by decide +kernel
theorem d_Tp_skipBlanks_39 : decode m_Tp_skipBlanks.2.1 39 = .ok (.aload_n 0, 1) := by decide +kernel
theorem d_Tp_skipBlanks_40 : decode m_Tp_skipBlanks.2.1 40 = .ok (.dup, 1) := by decide +kernel
theorem d_Tp_skipBlanks_41 : decode m_Tp_skipBlanks.2.1 41 = .ok (.getfield 22, 3) := by decide +kernel
theorem d_Tp_skipBlanks_44 : decode m_Tp_skipBlanks.2.1 44 = .ok (.iconst 1, 1) := by decide +kernel
theorem d_Tp_skipBlanks_45 : decode m_Tp_skipBlanks.2.1 45 = .ok (.iadd, 1) := by decide +kernel
theorem d_Tp_skipBlanks_46 : decode m_Tp_skipBlanks.2.1 46 = .ok (.putfield 22, 3) := by decide +kernel
theorem d_Tp_skipBlanks_49 : decode m_Tp_skipBlanks.2.1 49 = .ok (.goto (-49), 3) := by decide +kernel
theorem d_Tp_skipBlanks_52 : decode m_Tp_skipBlanks.2.1 52 = .ok (.return_, 1) := by decide +kernel
set_option maxHeartbeats 4000000 in
set_option maxRecDepth 100000 in
theorem B_Tp_skipBlanks_0 {S : XS} {Q : St → Prop} (σ : St)  (H : (((gX σ 0) ≤ (gX σ 1) → Q σ) ∧ (¬ (gX σ 0) ≤ (gX σ 1) → (vp_in (gX σ 1) 200) ∧ ((((gA σ 0) (gX σ 1).toNatClampNeg) = (10 : Int32) → BW S m_Tp_skipBlanks 0 [some (.ref 1)] [] (enc (sX σ 1 ((gX σ 1) + (1 : Int32)))) (qV Q)) ∧ (¬ ((gA σ 0) (gX σ 1).toNatClampNeg) = (10 : Int32) → ((¬ ((gA σ 0) (gX σ 1).toNatClampNeg) = (32 : Int32) → Q σ) ∧ (((gA σ 0) (gX σ 1).toNatClampNeg) = (32 : Int32) → BW S m_Tp_skipBlanks 0 [some (.ref 1)] [] (enc (sX σ 1 ((gX σ 1) + (1 : Int32)))) (qV Q)))))))) : BW S m_Tp_skipBlanks 0 [some (.ref 1)] [] (enc σ) (qV Q) := by
  refine b_aload_n d_Tp_skipBlanks_0 rfl rfl ?_
  refine b_getf (v := .int (gX σ 1)) d_Tp_skipBlanks_1 fl_Tp_22 (eg_1 σ) rfl ?_
  refine b_aload_n d_Tp_skipBlanks_4 rfl rfl ?_
  refine b_getf (v := .int (gX σ 0)) d_Tp_skipBlanks_5 fl_Tp_19 (eg_1 σ) rfl ?_
  refine b_icmp_ge (tgt := 52) d_Tp_skipBlanks_8 (by decide) (fun c4 => ?_) (fun c4 => ?_)
  · have H := H.1 c4
    exact b_vret d_Tp_skipBlanks_52 rfl ⟨_, rfl, rfl, H⟩
  · have H := H.2 c4
    refine b_aload_n d_Tp_skipBlanks_11 rfl rfl ?_
    refine b_getf (v := .ref 2) d_Tp_skipBlanks_12 fl_Tp_11 (eg_1 σ) rfl ?_
    refine b_aload_n d_Tp_skipBlanks_15 rfl rfl ?_
    refine b_getf (v := .int (gX σ 1)) d_Tp_skipBlanks_16 fl_Tp_22 (eg_1 σ) rfl ?_
    obtain ⟨h1, H⟩ := H
    refine b_iald d_Tp_skipBlanks_19 (eg_2 σ) h1 ?_
    refine b_st2 (st' := [.int ((gA σ 0) (gX σ 1).toNatClampNeg)]) rfl ?_
    refine b_bipush (v := (10 : Int32)) d_Tp_skipBlanks_20 (by decide) ?_
    refine b_icmp_eq (tgt := 39) d_Tp_skipBlanks_22 (by decide) (fun c3 => ?_) (fun c3 => ?_)
    · have H := H.1 c3
      refine b_aload_n d_Tp_skipBlanks_39 rfl rfl ?_
      refine b_dup d_Tp_skipBlanks_40 rfl ?_
      refine b_getf (v := .int (gX σ 1)) d_Tp_skipBlanks_41 fl_Tp_22 (eg_1 σ) rfl ?_
      refine b_iconst (v := (1 : Int32)) d_Tp_skipBlanks_44 (by decide) ?_
      refine b_iadd d_Tp_skipBlanks_45  ?_
      refine b_putf (ty := .int) (h1 := enc (sX σ 1 ((gX σ 1) + (1 : Int32)))) d_Tp_skipBlanks_46 fl_Tp_22 ft_10_2 (fun _ => ⟨rfl, rfl⟩) (eg_1 σ) (Nat.le_of_ble_eq_true rfl) (es_1_2 σ ((gX σ 1) + (1 : Int32))) ?_
      refine b_goto (tgt := 0) d_Tp_skipBlanks_49 (by decide) ?_
      exact b_mask [true] rfl H
    · have H := H.2 c3
      refine b_aload_n d_Tp_skipBlanks_25 rfl rfl ?_
      refine b_getf (v := .ref 2) d_Tp_skipBlanks_26 fl_Tp_11 (eg_1 σ) rfl ?_
      refine b_aload_n d_Tp_skipBlanks_29 rfl rfl ?_
      refine b_getf (v := .int (gX σ 1)) d_Tp_skipBlanks_30 fl_Tp_22 (eg_1 σ) rfl ?_
      refine b_iald d_Tp_skipBlanks_33 (eg_2 σ) h1 ?_
      refine b_st2 (st' := [.int ((gA σ 0) (gX σ 1).toNatClampNeg)]) rfl ?_
      refine b_bipush (v := (32 : Int32)) d_Tp_skipBlanks_34 (by decide) ?_
      refine b_icmp_ne (tgt := 52) d_Tp_skipBlanks_36 (by decide) (fun c2 => ?_) (fun c2 => ?_)
      · have H := H.1 c2
        exact b_vret d_Tp_skipBlanks_52 rfl ⟨_, rfl, rfl, H⟩
      · have H := H.2 c2
        refine b_aload_n d_Tp_skipBlanks_39 rfl rfl ?_
        refine b_dup d_Tp_skipBlanks_40 rfl ?_
        refine b_getf (v := .int (gX σ 1)) d_Tp_skipBlanks_41 fl_Tp_22 (eg_1 σ) rfl ?_
        refine b_iconst (v := (1 : Int32)) d_Tp_skipBlanks_44 (by decide) ?_
        refine b_iadd d_Tp_skipBlanks_45  ?_
        refine b_putf (ty := .int) (h1 := enc (sX σ 1 ((gX σ 1) + (1 : Int32)))) d_Tp_skipBlanks_46 fl_Tp_22 ft_10_2 (fun _ => ⟨rfl, rfl⟩) (eg_1 σ) (Nat.le_of_ble_eq_true rfl) (es_1_2 σ ((gX σ 1) + (1 : Int32))) ?_
        refine b_goto (tgt := 0) d_Tp_skipBlanks_49 (by decide) ?_
        exact b_mask [true] rfl H
theorem C_Tp_skipBlanks {S : XS} {Q : St → Prop} (σ : St)  (H : BW S m_Tp_skipBlanks 0 [some (.ref 1)] [] (enc σ) (qV Q)) : CM S m_Tp_skipBlanks [.ref 1] (enc σ) (qV Q) := b_meth (by decide) (Nat.le_of_ble_eq_true rfl) rfl H
theorem d_Tp_byteAt_0 : decode m_Tp_byteAt.2.1 0 = .ok (.iload_n 1, 1) := by decide +kernel
theorem d_Tp_byteAt_1 : decode m_Tp_byteAt.2.1 1 = .ok (.ifCond .lt 27, 3) := by decide +kernel
theorem d_Tp_byteAt_4 : decode m_Tp_byteAt.2.1 4 = .ok (.iload_n 1, 1) := by decide +kernel
theorem d_Tp_byteAt_5 : decode m_Tp_byteAt.2.1 5 = .ok (.aload_n 0, 1) := by decide +kernel
theorem d_Tp_byteAt_6 : decode m_Tp_byteAt.2.1 6 = .ok (.getfield 19, 3) := by decide +kernel
theorem d_Tp_byteAt_9 : decode m_Tp_byteAt.2.1 9 = .ok (.if_icmp .ge 19, 3) := by decide +kernel
theorem d_Tp_byteAt_12 : decode m_Tp_byteAt.2.1 12 = .ok (.iload_n 1, 1) := by decide +kernel
theorem d_Tp_byteAt_13 : decode m_Tp_byteAt.2.1 13 = .ok (.sipush 200, 3) := by decide +kernel
theorem d_Tp_byteAt_16 : decode m_Tp_byteAt.2.1 16 = .ok (.if_icmp .ge 12, 3) := by decide +kernel
theorem d_Tp_byteAt_19 : decode m_Tp_byteAt.2.1 19 = .ok (.aload_n 0, 1) := by decide +kernel
theorem d_Tp_byteAt_20 : decode m_Tp_byteAt.2.1 20 = .ok (.getfield 11, 3) := by decide +kernel
theorem d_Tp_byteAt_23 : decode m_Tp_byteAt.2.1 23 = .ok (.iload_n 1, 1) := by decide +kernel
theorem d_Tp_byteAt_24 : decode m_Tp_byteAt.2.1 24 = .ok (.iaload, 1) := by decide +kernel
theorem d_Tp_byteAt_25 : decode m_Tp_byteAt.2.1 25 = .ok (.goto 4, 3) := by decide +kernel
theorem d_Tp_byteAt_28 : decode m_Tp_byteAt.2.1 28 = .ok (.iconst (-1), 1) := by decide +kernel
theorem d_Tp_byteAt_29 : decode m_Tp_byteAt.2.1 29 = .ok (.ireturn, 1) := by decide +kernel
set_option maxHeartbeats 4000000 in
set_option maxRecDepth 100000 in
theorem B_Tp_byteAt_0 {S : XS} {Q : Int32 → St → Prop} (σ : St) (x1 : Int32) (H : ((x1 < 0 → Q (-1 : Int32) σ) ∧ (¬ x1 < 0 → (((gX σ 0) ≤ x1 → Q (-1 : Int32) σ) ∧ (¬ (gX σ 0) ≤ x1 → (((200 : Int32) ≤ x1 → Q (-1 : Int32) σ) ∧ (¬ (200 : Int32) ≤ x1 → (vp_in x1 200) ∧ Q ((gA σ 0) x1.toNatClampNeg) σ))))))) : BW S m_Tp_byteAt 0 [some (.ref 1), some (.int x1)] [] (enc σ) (qI Q) := by
  refine b_iload_n d_Tp_byteAt_0 rfl rfl ?_
  refine b_if_lt (tgt := 28) d_Tp_byteAt_1 (by decide) (fun c4 => ?_) (fun c4 => ?_)
  · have H := H.1 c4
    refine b_iconst (v := (-1 : Int32)) d_Tp_byteAt_28 (by decide) ?_
    exact b_iret (ty := .int) d_Tp_byteAt_29 rfl rfl ⟨_, _, rfl, rfl, H⟩
  · have H := H.2 c4
    refine b_iload_n d_Tp_byteAt_4 rfl rfl ?_
    refine b_aload_n d_Tp_byteAt_5 rfl rfl ?_
    refine b_getf (v := .int (gX σ 0)) d_Tp_byteAt_6 fl_Tp_19 (eg_1 σ) rfl ?_
    refine b_icmp_ge (tgt := 28) d_Tp_byteAt_9 (by decide) (fun c3 => ?_) (fun c3 => ?_)
    · have H := H.1 c3
      refine b_iconst (v := (-1 : Int32)) d_Tp_byteAt_28 (by decide) ?_
      exact b_iret (ty := .int) d_Tp_byteAt_29 rfl rfl ⟨_, _, rfl, rfl, H⟩
    · have H := H.2 c3
      refine b_iload_n d_Tp_byteAt_12 rfl rfl ?_
      refine b_sipush (v := (200 : Int32)) d_Tp_byteAt_13 (by decide) ?_
      refine b_icmp_ge (tgt := 28) d_Tp_byteAt_16 (by decide) (fun c2 => ?_) (fun c2 => ?_)
      · have H := H.1 c2
        refine b_iconst (v := (-1 : Int32)) d_Tp_byteAt_28 (by decide) ?_
        exact b_iret (ty := .int) d_Tp_byteAt_29 rfl rfl ⟨_, _, rfl, rfl, H⟩
      · have H := H.2 c2
        refine b_aload_n d_Tp_byteAt_19 rfl rfl ?_
        refine b_getf (v := .ref 2) d_Tp_byteAt_20 fl_Tp_11 (eg_1 σ) rfl ?_
        refine b_iload_n d_Tp_byteAt_23 rfl rfl ?_
        obtain ⟨h1, H⟩ := H
        refine b_iald d_Tp_byteAt_24 (eg_2 σ) h1 ?_
        refine b_st2 (st' := [.int ((gA σ 0) x1.toNatClampNeg)]) rfl ?_
        refine b_goto (tgt := 29) d_Tp_byteAt_25 (by decide) ?_
        exact b_iret (ty := .int) d_Tp_byteAt_29 rfl rfl ⟨_, _, rfl, rfl, H⟩
theorem C_Tp_byteAt {S : XS} {Q : Int32 → St → Prop} (σ : St) (x1 : Int32) (H : BW S m_Tp_byteAt 0 [some (.ref 1), some (.int x1)] [] (enc σ) (qI Q)) : CM S m_Tp_byteAt [.ref 1, .int x1] (enc σ) (qI Q) := b_meth (by decide) (Nat.le_of_ble_eq_true rfl) rfl H
theorem d_Tp_isFactWord_0 : decode m_Tp_isFactWord.2.1 0 = .ok (.aload_n 0, 1) := by decide +kernel
theorem d_Tp_isFactWord_1 : decode m_Tp_isFactWord.2.1 1 = .ok (.ldc 67, 2) := by decide +kernel
theorem d_Tp_isFactWord_3 : decode m_Tp_isFactWord.2.1 3 = .ok (.iload_n 1, 1) := by decide +kernel
theorem d_Tp_isFactWord_4 : decode m_Tp_isFactWord.2.1 4 = .ok (.invokevirtual 53, 3) := by decide +kernel
theorem d_Tp_isFactWord_7 : decode m_Tp_isFactWord.2.1 7 = .ok (.ifCond .ne 33, 3) := by decide +kernel
theorem d_Tp_isFactWord_10 : decode m_Tp_isFactWord.2.1 10 = .ok (.aload_n 0, 1) := by decide +kernel
theorem d_Tp_isFactWord_11 : decode m_Tp_isFactWord.2.1 11 = .ok (.ldc 69, 2) := by decide +kernel
theorem d_Tp_isFactWord_13 : decode m_Tp_isFactWord.2.1 13 = .ok (.iload_n 1, 1) := by decide +kernel
theorem d_Tp_isFactWord_14 : decode m_Tp_isFactWord.2.1 14 = .ok (.invokevirtual 53, 3) := by decide +kernel
theorem d_Tp_isFactWord_17 : decode m_Tp_isFactWord.2.1 17 = .ok (.ifCond .ne 23, 3) := by decide +kernel
theorem d_Tp_isFactWord_20 : decode m_Tp_isFactWord.2.1 20 = .ok (.aload_n 0, 1) := by decide +kernel
theorem d_Tp_isFactWord_21 : decode m_Tp_isFactWord.2.1 21 = .ok (.ldc 71, 2) := by decide +kernel
theorem d_Tp_isFactWord_23 : decode m_Tp_isFactWord.2.1 23 = .ok (.iload_n 1, 1) := by decide +kernel
theorem d_Tp_isFactWord_24 : decode m_Tp_isFactWord.2.1 24 = .ok (.invokevirtual 53, 3) := by decide +kernel
theorem d_Tp_isFactWord_27 : decode m_Tp_isFactWord.2.1 27 = .ok (.ifCond .ne 13, 3) := by decide +kernel
theorem d_Tp_isFactWord_30 : decode m_Tp_isFactWord.2.1 30 = .ok (.aload_n 0, 1) := by decide +kernel
theorem d_Tp_isFactWord_31 : decode m_Tp_isFactWord.2.1 31 = .ok (.ldc 73, 2) := by decide +kernel
theorem d_Tp_isFactWord_33 : decode m_Tp_isFactWord.2.1 33 = .ok (.iload_n 1, 1) := by decide +kernel
theorem d_Tp_isFactWord_34 : decode m_Tp_isFactWord.2.1 34 = .ok (.invokevirtual 53, 3) := by decide +kernel
theorem d_Tp_isFactWord_37 : decode m_Tp_isFactWord.2.1 37 = .ok (.ifCond .eq 7, 3) := by decide +kernel
theorem d_Tp_isFactWord_40 : decode m_Tp_isFactWord.2.1 40 = .ok (.iconst 1, 1) := by decide +kernel
theorem d_Tp_isFactWord_41 : decode m_Tp_isFactWord.2.1 41 = .ok (.goto 4, 3) := by decide +kernel
theorem d_Tp_isFactWord_44 : decode m_Tp_isFactWord.2.1 44 = .ok (.iconst 0, 1) := by decide +kernel
theorem d_Tp_isFactWord_45 : decode m_Tp_isFactWord.2.1 45 = .ok (.ireturn, 1) := by decide +kernel
set_option maxHeartbeats 4000000 in
set_option maxRecDepth 100000 in
theorem B_Tp_isFactWord_0 {S : XS} {Q : Int32 → St → Prop} (σ : St) (x1 : Int32) (H : CM S m_Tp_isWord [.ref 1, .retAddr 0, .int x1] (enc σ) (qI (fun v1 τ2 => ((¬ v1 = 0 → Q (1 : Int32) τ2) ∧ (v1 = 0 → CM S m_Tp_isWord [.ref 1, .retAddr 1, .int x1] (enc τ2) (qI (fun v3 τ4 => ((¬ v3 = 0 → Q (1 : Int32) τ4) ∧ (v3 = 0 → CM S m_Tp_isWord [.ref 1, .retAddr 2, .int x1] (enc τ4) (qI (fun v5 τ6 => ((¬ v5 = 0 → Q (1 : Int32) τ6) ∧ (v5 = 0 → CM S m_Tp_isWord [.ref 1, .retAddr 3, .int x1] (enc τ6) (qI (fun v7 τ8 => ((v7 = 0 → Q (0 : Int32) τ8) ∧ (¬ v7 = 0 → Q (1 : Int32) τ8))))))))))))))))) : BW S m_Tp_isFactWord 0 [some (.ref 1), some (.int x1)] [] (enc σ) (qI Q) := by
  refine b_aload_n d_Tp_isFactWord_0 rfl rfl ?_
  refine b_ldcS (n := 0) (tx := "born") d_Tp_isFactWord_1 (by decide +kernel) ?_
  refine b_iload_n d_Tp_isFactWord_3 rfl rfl ?_
  refine b_callVi (Mc := m_Tp_isWord) (As := [.retAddr 0, .int x1]) (st := []) d_Tp_isFactWord_4 ⟨⟨kA_Tp_isWord.1, kA_Tp_isWord.2.1, kA_Tp_isWord.2.2, by decide⟩, ml_Tp_53, kV_Tp_isWord⟩ (eg_1 σ) rfl rfl (Nat.le_of_ble_eq_true rfl) H (fun v1 τ2 H => ?_)
  refine b_if_ne (tgt := 40) d_Tp_isFactWord_7 (by decide) (fun c12 => ?_) (fun c12 => ?_)
  · have H := H.1 c12
    refine b_iconst (v := (1 : Int32)) d_Tp_isFactWord_40 (by decide) ?_
    refine b_goto (tgt := 45) d_Tp_isFactWord_41 (by decide) ?_
    exact b_iret (ty := .boolean) d_Tp_isFactWord_45 rfl rfl ⟨_, _, rfl, rfl, H⟩
  · have H := H.2 c12
    refine b_aload_n d_Tp_isFactWord_10 rfl rfl ?_
    refine b_ldcS (n := 1) (tx := "dead") d_Tp_isFactWord_11 (by decide +kernel) ?_
    refine b_iload_n d_Tp_isFactWord_13 rfl rfl ?_
    refine b_callVi (Mc := m_Tp_isWord) (As := [.retAddr 1, .int x1]) (st := []) d_Tp_isFactWord_14 ⟨⟨kA_Tp_isWord.1, kA_Tp_isWord.2.1, kA_Tp_isWord.2.2, by decide⟩, ml_Tp_53, kV_Tp_isWord⟩ (eg_1 τ2) rfl rfl (Nat.le_of_ble_eq_true rfl) H (fun v3 τ4 H => ?_)
    refine b_if_ne (tgt := 40) d_Tp_isFactWord_17 (by decide) (fun c11 => ?_) (fun c11 => ?_)
    · have H := H.1 c11
      refine b_iconst (v := (1 : Int32)) d_Tp_isFactWord_40 (by decide) ?_
      refine b_goto (tgt := 45) d_Tp_isFactWord_41 (by decide) ?_
      exact b_iret (ty := .boolean) d_Tp_isFactWord_45 rfl rfl ⟨_, _, rfl, rfl, H⟩
    · have H := H.2 c11
      refine b_aload_n d_Tp_isFactWord_20 rfl rfl ?_
      refine b_ldcS (n := 2) (tx := "in") d_Tp_isFactWord_21 (by decide +kernel) ?_
      refine b_iload_n d_Tp_isFactWord_23 rfl rfl ?_
      refine b_callVi (Mc := m_Tp_isWord) (As := [.retAddr 2, .int x1]) (st := []) d_Tp_isFactWord_24 ⟨⟨kA_Tp_isWord.1, kA_Tp_isWord.2.1, kA_Tp_isWord.2.2, by decide⟩, ml_Tp_53, kV_Tp_isWord⟩ (eg_1 τ4) rfl rfl (Nat.le_of_ble_eq_true rfl) H (fun v5 τ6 H => ?_)
      refine b_if_ne (tgt := 40) d_Tp_isFactWord_27 (by decide) (fun c10 => ?_) (fun c10 => ?_)
      · have H := H.1 c10
        refine b_iconst (v := (1 : Int32)) d_Tp_isFactWord_40 (by decide) ?_
        refine b_goto (tgt := 45) d_Tp_isFactWord_41 (by decide) ?_
        exact b_iret (ty := .boolean) d_Tp_isFactWord_45 rfl rfl ⟨_, _, rfl, rfl, H⟩
      · have H := H.2 c10
        refine b_aload_n d_Tp_isFactWord_30 rfl rfl ?_
        refine b_ldcS (n := 3) (tx := "on") d_Tp_isFactWord_31 (by decide +kernel) ?_
        refine b_iload_n d_Tp_isFactWord_33 rfl rfl ?_
        refine b_callVi (Mc := m_Tp_isWord) (As := [.retAddr 3, .int x1]) (st := []) d_Tp_isFactWord_34 ⟨⟨kA_Tp_isWord.1, kA_Tp_isWord.2.1, kA_Tp_isWord.2.2, by decide⟩, ml_Tp_53, kV_Tp_isWord⟩ (eg_1 τ6) rfl rfl (Nat.le_of_ble_eq_true rfl) H (fun v7 τ8 H => ?_)
        refine b_if_eq (tgt := 44) d_Tp_isFactWord_37 (by decide) (fun c9 => ?_) (fun c9 => ?_)
        · have H := H.1 c9
          refine b_iconst (v := (0 : Int32)) d_Tp_isFactWord_44 (by decide) ?_
          exact b_iret (ty := .boolean) d_Tp_isFactWord_45 rfl rfl ⟨_, _, rfl, rfl, H⟩
        · have H := H.2 c9
          refine b_iconst (v := (1 : Int32)) d_Tp_isFactWord_40 (by decide) ?_
          refine b_goto (tgt := 45) d_Tp_isFactWord_41 (by decide) ?_
          exact b_iret (ty := .boolean) d_Tp_isFactWord_45 rfl rfl ⟨_, _, rfl, rfl, H⟩
theorem C_Tp_isFactWord {S : XS} {Q : Int32 → St → Prop} (σ : St) (x1 : Int32) (H : BW S m_Tp_isFactWord 0 [some (.ref 1), some (.int x1)] [] (enc σ) (qI Q)) : CM S m_Tp_isFactWord [.ref 1, .int x1] (enc σ) (qI Q) := b_meth (by decide) (Nat.le_of_ble_eq_true rfl) rfl H
theorem d_Tp_isWord_0 : decode m_Tp_isWord.2.1 0 = .ok (.iload_n 2, 1) := by decide +kernel
theorem d_Tp_isWord_1 : decode m_Tp_isWord.2.1 1 = .ok (.aload_n 1, 1) := by decide +kernel
theorem d_Tp_isWord_2 : decode m_Tp_isWord.2.1 2 = .ok (.invokevirtual 75, 3) := by decide +kernel
theorem d_Tp_isWord_5 : decode m_Tp_isWord.2.1 5 = .ok (.if_icmp .eq 5, 3) := by decide +kernel
theorem d_Tp_isWord_8 : decode m_Tp_isWord.2.1 8 = .ok (.iconst 0, 1) := by decide +kernel
theorem d_Tp_isWord_9 : decode m_Tp_isWord.2.1 9 = .ok (.ireturn, 1) := by decide +kernel
theorem d_Tp_isWord_10 : decode m_Tp_isWord.2.1 10 = .ok (.iconst 0, 1) := by decide +kernel
theorem d_Tp_isWord_11 : decode m_Tp_isWord.2.1 11 = .ok (.istore_n 3, 1) := by decide +kernel
theorem d_Tp_isWord_12 : decode m_Tp_isWord.2.1 12 = .ok (.iload_n 3, 1) := by decide +kernel
theorem d_Tp_isWord_13 : decode m_Tp_isWord.2.1 13 = .ok (.iload_n 2, 1) := by decide +kernel
theorem d_Tp_isWord_14 : decode m_Tp_isWord.2.1 14 = .ok (.if_icmp .ge 29, 3) := by decide +kernel
theorem d_Tp_isWord_17 : decode m_Tp_isWord.2.1 17 = .ok (.aload_n 0, 1) := by decide +kernel
theorem d_Tp_isWord_18 : decode m_Tp_isWord.2.1 18 = .ok (.aload_n 0, 1) := by decide +kernel
theorem d_Tp_isWord_19 : decode m_Tp_isWord.2.1 19 = .ok (.getfield 22, 3) := by decide +kernel
theorem d_Tp_isWord_22 : decode m_Tp_isWord.2.1 22 = .ok (.iload_n 3, 1) := by decide +kernel
theorem d_Tp_isWord_23 : decode m_Tp_isWord.2.1 23 = .ok (.iadd, 1) := by decide +kernel
theorem d_Tp_isWord_24 : decode m_Tp_isWord.2.1 24 = .ok (.invokevirtual 46, 3) := by decide +kernel
theorem d_Tp_isWord_27 : decode m_Tp_isWord.2.1 27 = .ok (.aload_n 1, 1) := by decide +kernel
theorem d_Tp_isWord_28 : decode m_Tp_isWord.2.1 28 = .ok (.iload_n 3, 1) := by decide +kernel
theorem d_Tp_isWord_29 : decode m_Tp_isWord.2.1 29 = .ok (.invokevirtual 80, 3) := by decide +kernel
theorem d_Tp_isWord_32 : decode m_Tp_isWord.2.1 32 = .ok (.if_icmp .eq 5, 3) := by decide +kernel
theorem d_Tp_isWord_35 : decode m_Tp_isWord.2.1 35 = .ok (.iconst 0, 1) := by decide +kernel
theorem d_Tp_isWord_36 : decode m_Tp_isWord.2.1 36 = .ok (.ireturn, 1) := by decide +kernel
theorem d_Tp_isWord_37 : decode m_Tp_isWord.2.1 37 = .ok (.iinc 3 1, 3) := by decide +kernel
theorem d_Tp_isWord_40 : decode m_Tp_isWord.2.1 40 = .ok (.goto (-28), 3) := by decide +kernel
theorem d_Tp_isWord_43 : decode m_Tp_isWord.2.1 43 = .ok (.iconst 1, 1) := by decide +kernel
theorem d_Tp_isWord_44 : decode m_Tp_isWord.2.1 44 = .ok (.ireturn, 1) := by decide +kernel
set_option maxHeartbeats 4000000 in
set_option maxRecDepth 100000 in
theorem B_Tp_isWord_0 {S : XS} {Q : Int32 → St → Prop} (σ : St) (t1 : Nat) (x2 : Int32) (H : (t1 < 7) ∧ CM S m_Js_length [.retAddr t1] (enc σ) (qI (fun v1 τ2 => ((x2 = v1 → BW S m_Tp_isWord 12 [some (.ref 1), some (.retAddr t1), some (.int x2), some (.int (0 : Int32))] [] (enc τ2) (qI Q)) ∧ (¬ x2 = v1 → Q (0 : Int32) τ2))))) : BW S m_Tp_isWord 0 [some (.ref 1), some (.retAddr t1), some (.int x2), none] [] (enc σ) (qI Q) := by
  refine b_iload_n d_Tp_isWord_0 rfl rfl ?_
  refine b_aload_nS d_Tp_isWord_1 rfl rfl ?_
  obtain ⟨h3, H⟩ := H
  refine b_callTi (Mc := m_Js_length) (As := []) (st := [.int x2]) d_Tp_isWord_2 ⟨⟨kA_Js_length.1, kA_Js_length.2.1, kA_Js_length.2.2, by decide⟩, ml_Tp_75, kT_Js_length⟩ h3 rfl rfl (Nat.le_of_ble_eq_true rfl) H (fun v1 τ2 H => ?_)
  refine b_icmp_eq (tgt := 10) d_Tp_isWord_5 (by decide) (fun c4 => ?_) (fun c4 => ?_)
  · have H := H.1 c4
    refine b_iconst (v := (0 : Int32)) d_Tp_isWord_10 (by decide) ?_
    refine b_istore_n (ls' := [some (.ref 1), some (.retAddr t1), some (.int x2), some (.int (0 : Int32))]) d_Tp_isWord_11 rfl (Nat.le_of_ble_eq_true rfl) rfl ?_
    exact b_mask [true, true, true, true] rfl H
  · have H := H.2 c4
    refine b_iconst (v := (0 : Int32)) d_Tp_isWord_8 (by decide) ?_
    exact b_iret (ty := .boolean) d_Tp_isWord_9 rfl rfl ⟨_, _, rfl, rfl, H⟩
set_option maxHeartbeats 4000000 in
set_option maxRecDepth 100000 in
theorem B_Tp_isWord_12 {S : XS} {Q : Int32 → St → Prop} (σ : St) (t1 : Nat) (x2 : Int32) (x3 : Int32) (H : ((x2 ≤ x3 → Q (1 : Int32) σ) ∧ (¬ x2 ≤ x3 → CM S m_Tp_byteAt [.ref 1, .int ((gX σ 1) + x3)] (enc σ) (qI (fun v5 τ6 => (t1 < 7) ∧ CM S m_Js_charAt [.retAddr t1, .int x3] (enc τ6) (qI (fun v7 τ8 => ((v5 = v7 → BW S m_Tp_isWord 12 [some (.ref 1), some (.retAddr t1), some (.int x2), some (.int (x3 + (1 : Int32)))] [] (enc τ8) (qI Q)) ∧ (¬ v5 = v7 → Q (0 : Int32) τ8))))))))) : BW S m_Tp_isWord 12 [some (.ref 1), some (.retAddr t1), some (.int x2), some (.int x3)] [] (enc σ) (qI Q) := by
  refine b_iload_n d_Tp_isWord_12 rfl rfl ?_
  refine b_iload_n d_Tp_isWord_13 rfl rfl ?_
  refine b_icmp_ge (tgt := 43) d_Tp_isWord_14 (by decide) (fun c11 => ?_) (fun c11 => ?_)
  · have H := H.1 c11
    refine b_iconst (v := (1 : Int32)) d_Tp_isWord_43 (by decide) ?_
    exact b_iret (ty := .boolean) d_Tp_isWord_44 rfl rfl ⟨_, _, rfl, rfl, H⟩
  · have H := H.2 c11
    refine b_aload_n d_Tp_isWord_17 rfl rfl ?_
    refine b_aload_n d_Tp_isWord_18 rfl rfl ?_
    refine b_getf (v := .int (gX σ 1)) d_Tp_isWord_19 fl_Tp_22 (eg_1 σ) rfl ?_
    refine b_iload_n d_Tp_isWord_22 rfl rfl ?_
    refine b_iadd d_Tp_isWord_23  ?_
    refine b_callVi (Mc := m_Tp_byteAt) (As := [.int ((gX σ 1) + x3)]) (st := []) d_Tp_isWord_24 ⟨⟨kA_Tp_byteAt.1, kA_Tp_byteAt.2.1, kA_Tp_byteAt.2.2, by decide⟩, ml_Tp_46, kV_Tp_byteAt⟩ (eg_1 σ) rfl rfl (Nat.le_of_ble_eq_true rfl) H (fun v5 τ6 H => ?_)
    refine b_aload_nS d_Tp_isWord_27 rfl rfl ?_
    refine b_iload_n d_Tp_isWord_28 rfl rfl ?_
    obtain ⟨h9, H⟩ := H
    refine b_callTi (Mc := m_Js_charAt) (As := [.int x3]) (st := [.int v5]) d_Tp_isWord_29 ⟨⟨kA_Js_charAt.1, kA_Js_charAt.2.1, kA_Js_charAt.2.2, by decide⟩, ml_Tp_80, kT_Js_charAt⟩ h9 rfl rfl (Nat.le_of_ble_eq_true rfl) H (fun v7 τ8 H => ?_)
    refine b_icmp_eq (tgt := 37) d_Tp_isWord_32 (by decide) (fun c10 => ?_) (fun c10 => ?_)
    · have H := H.1 c10
      refine b_iinc (v := (x3 + (1 : Int32))) (ls' := [some (.ref 1), some (.retAddr t1), some (.int x2), some (.int (x3 + (1 : Int32)))]) d_Tp_isWord_37 rfl rfl (Nat.le_of_ble_eq_true rfl) rfl ?_
      refine b_goto (tgt := 12) d_Tp_isWord_40 (by decide) ?_
      exact b_mask [true, true, true, true] rfl H
    · have H := H.2 c10
      refine b_iconst (v := (0 : Int32)) d_Tp_isWord_35 (by decide) ?_
      exact b_iret (ty := .boolean) d_Tp_isWord_36 rfl rfl ⟨_, _, rfl, rfl, H⟩
theorem C_Tp_isWord {S : XS} {Q : Int32 → St → Prop} (σ : St) (t1 : Nat) (x2 : Int32) (H : BW S m_Tp_isWord 0 [some (.ref 1), some (.retAddr t1), some (.int x2), none] [] (enc σ) (qI Q)) : CM S m_Tp_isWord [.ref 1, .retAddr t1, .int x2] (enc σ) (qI Q) := b_meth (by decide) (Nat.le_of_ble_eq_true rfl) rfl H
