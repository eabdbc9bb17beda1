/-! block rules, by program -/
theorem d_Md_due_0 : decode m_Md_due.2.1 0 = .ok (.iload_n 1, 1) := by decide +kernel
theorem d_Md_due_1 : decode m_Md_due.2.1 1 = .ok (.invokestatic 234, 3) := by decide +kernel
theorem d_Md_due_4 : decode m_Md_due.2.1 4 = .ok (.ifCond .ne 5, 3) := by decide +kernel
theorem d_Md_due_7 : decode m_Md_due.2.1 7 = .ok (.iconst (-1), 1) := by decide +kernel
theorem d_Md_due_8 : decode m_Md_due.2.1 8 = .ok (.ireturn, 1) := by decide +kernel
theorem d_Md_due_9 : decode m_Md_due.2.1 9 = .ok (.aload_n 0, 1) := by decide +kernel
theorem d_Md_due_10 : decode m_Md_due.2.1 10 = .ok (.getfield 135, 3) := by decide +kernel
theorem d_Md_due_13 : decode m_Md_due.2.1 13 = .ok (.istore_n 2, 1) := by decide +kernel
theorem d_Md_due_14 : decode m_Md_due.2.1 14 = .ok (.iconst 0, 1) := by decide +kernel
theorem d_Md_due_15 : decode m_Md_due.2.1 15 = .ok (.istore_n 3, 1) := by decide +kernel
theorem d_Md_due_16 : decode m_Md_due.2.1 16 = .ok (.iload_n 3, 1) := by decide +kernel
theorem d_Md_due_17 : decode m_Md_due.2.1 17 = .ok (.iload_n 1, 1) := by decide +kernel
theorem d_Md_due_18 : decode m_Md_due.2.1 18 = .ok (.if_icmp .ge 60, 3) := by decide +kernel
theorem d_Md_due_21 : decode m_Md_due.2.1 21 = .ok (.aload_n 0, 1) := by decide +kernel
theorem d_Md_due_22 : decode m_Md_due.2.1 22 = .ok (.getfield 138, 3) := by decide +kernel
theorem d_Md_due_25 : decode m_Md_due.2.1 25 = .ok (.iload_n 3, 1) := by decide +kernel
theorem d_Md_due_26 : decode m_Md_due.2.1 26 = .ok (.iaload, 1) := by decide +kernel
theorem d_Md_due_27 : decode m_Md_due.2.1 27 = .ok (.iconst (-1), 1) := by decide +kernel
theorem d_Md_due_28 : decode m_Md_due.2.1 28 = .ok (.if_icmp .eq 13, 3) := by decide +kernel
theorem d_Md_due_31 : decode m_Md_due.2.1 31 = .ok (.aload_n 0, 1) := by decide +kernel
theorem d_Md_due_32 : decode m_Md_due.2.1 32 = .ok (.getfield 138, 3) := by decide +kernel
theorem d_Md_due_35 : decode m_Md_due.2.1 35 = .ok (.iload_n 3, 1) := by decide +kernel
theorem d_Md_due_36 : decode m_Md_due.2.1 36 = .ok (.iaload, 1) := by decide +kernel
theorem d_Md_due_37 : decode m_Md_due.2.1 37 = .ok (.iload_n 2, 1) := by decide +kernel
theorem d_Md_due_38 : decode m_Md_due.2.1 38 = .ok (.if_icmp .gt 7, 3) := by decide +kernel
theorem d_Md_due_41 : decode m_Md_due.2.1 41 = .ok (.iconst 0, 1) := by decide +kernel
theorem d_Md_due_42 : decode m_Md_due.2.1 42 = .ok (.goto 11, 3) := by decide +kernel
theorem d_Md_due_45 : decode m_Md_due.2.1 45 = .ok (.aload_n 0, 1) := by decide +kernel
theorem d_Md_due_46 : decode m_Md_due.2.1 46 = .ok (.getfield 138, 3) := by decide +kernel
theorem d_Md_due_49 : decode m_Md_due.2.1 49 = .ok (.iload_n 3, 1) := by decide +kernel
theorem d_Md_due_50 : decode m_Md_due.2.1 50 = .ok (.iaload, 1) := by decide +kernel
theorem d_Md_due_51 : decode m_Md_due.2.1 51 = .ok (.iload_n 2, 1) := by decide +kernel
theorem d_Md_due_52 : decode m_Md_due.2.1 52 = .ok (.isub, 1) := by decide +kernel
theorem d_Md_due_53 : decode m_Md_due.2.1 53 = .ok (.istore 4, 2) := by decide +kernel
theorem d_Md_due_55 : decode m_Md_due.2.1 55 = .ok (.iload_n 2, 1) := by decide +kernel
theorem d_Md_due_56 : decode m_Md_due.2.1 56 = .ok (.bipush 30, 2) := by decide +kernel
theorem d_Md_due_58 : decode m_Md_due.2.1 58 = .ok (.bipush 30, 2) := by decide +kernel
theorem d_Md_due_60 : decode m_Md_due.2.1 60 = .ok (.iload 4, 2) := by decide +kernel
theorem d_Md_due_62 : decode m_Md_due.2.1 62 = .ok (.bipush 29, 2) := by decide +kernel
theorem d_Md_due_64 : decode m_Md_due.2.1 64 = .ok (.iadd, 1) := by decide +kernel
theorem d_Md_due_65 : decode m_Md_due.2.1 65 = .ok (.bipush 30, 2) := by decide +kernel
theorem d_Md_due_67 : decode m_Md_due.2.1 67 = .ok (.idiv, 1) := by decide +kernel
theorem d_Md_due_68 : decode m_Md_due.2.1 68 = .ok (.imul, 1) := by decide +kernel
theorem d_Md_due_69 : decode m_Md_due.2.1 69 = .ok (.iadd, 1) := by decide +kernel
theorem d_Md_due_70 : decode m_Md_due.2.1 70 = .ok (.iadd, 1) := by decide +kernel
theorem d_Md_due_71 : decode m_Md_due.2.1 71 = .ok (.istore_n 2, 1) := by decide +kernel
theorem d_Md_due_72 : decode m_Md_due.2.1 72 = .ok (.iinc 3 1, 3) := by decide +kernel
theorem d_Md_due_75 : decode m_Md_due.2.1 75 = .ok (.goto (-59), 3) := by decide +kernel
theorem d_Md_due_78 : decode m_Md_due.2.1 78 = .ok (.iload_n 2, 1) := by decide +kernel
theorem d_Md_due_79 : decode m_Md_due.2.1 79 = .ok (.ireturn, 1) := by decide +kernel
set_option maxHeartbeats 4000000 in
set_option maxRecDepth 100000 in
theorem B_Md_due_0 {S : XS} {Q : Int32 → St → Prop} (σ : St) (x1 : Int32) (H : CM S m_Md_isPart [.int x1] (enc σ) (qI (fun v1 τ2 => ((¬ v1 = 0 → BW S m_Md_due 16 [some (.ref 153), some (.int x1), some (.int (gY τ2 14)), some (.int (0 : Int32)), none] [] (enc τ2) (qI Q)) ∧ (v1 = 0 → Q (-1 : Int32) τ2))))) : BW S m_Md_due 0 [some (.ref 153), some (.int x1), none, none, none] [] (enc σ) (qI Q) := by
  refine b_iload_n d_Md_due_0 rfl rfl ?_
  refine b_callSi (Mc := m_Md_isPart) (As := [.int x1]) (st := []) d_Md_due_1 ⟨⟨kA_Md_isPart.1, kA_Md_isPart.2.1, kA_Md_isPart.2.2, by decide⟩, ml_Md_234, kS_Md_isPart⟩ rfl rfl (Nat.le_of_ble_eq_true rfl) H (fun v1 τ2 H => ?_)
  refine b_if_ne (tgt := 9) d_Md_due_4 (by decide) (fun c3 => ?_) (fun c3 => ?_)
  · have H := H.1 c3
    refine b_aload_n d_Md_due_9 rfl rfl ?_
    refine b_getf (v := .int (gY τ2 14)) d_Md_due_10 fl_Md_135 (eg_153 τ2) rfl ?_
    refine b_istore_n (ls' := [some (.ref 153), some (.int x1), some (.int (gY τ2 14)), none, none]) d_Md_due_13 rfl (Nat.le_of_ble_eq_true rfl) rfl ?_
    refine b_iconst (v := (0 : Int32)) d_Md_due_14 (by decide) ?_
    refine b_istore_n (ls' := [some (.ref 153), some (.int x1), some (.int (gY τ2 14)), some (.int (0 : Int32)), none]) d_Md_due_15 rfl (Nat.le_of_ble_eq_true rfl) rfl ?_
    exact b_mask [true, true, true, true, true] rfl H
  · have H := H.2 c3
    refine b_iconst (v := (-1 : Int32)) d_Md_due_7 (by decide) ?_
    exact b_iret (ty := .int) d_Md_due_8 rfl rfl ⟨_, _, rfl, rfl, H⟩
set_option maxHeartbeats 4000000 in
set_option maxRecDepth 100000 in
theorem B_Md_due_16 {S : XS} {Q : Int32 → St → Prop} (σ : St) (x1 : Int32) (x2 : Int32) (x3 : Int32) (H : ((x1 ≤ x3 → Q x2 σ) ∧ (¬ x1 ≤ x3 → (vp_in x3 24) ∧ ((((gC σ 27) x3.toNatClampNeg) = (-1 : Int32) → BW S m_Md_due 16 [some (.ref 153), some (.int x1), some (.int (x2 + ((30 : Int32) + ((30 : Int32) * (((0 : Int32) + (29 : Int32)) / (30 : Int32)))))), some (.int (x3 + (1 : Int32))), none] [] (enc σ) (qI Q)) ∧ (¬ ((gC σ 27) x3.toNatClampNeg) = (-1 : Int32) → ((x2 < ((gC σ 27) x3.toNatClampNeg) → BW S m_Md_due 16 [some (.ref 153), some (.int x1), some (.int (x2 + ((30 : Int32) + ((30 : Int32) * (((((gC σ 27) x3.toNatClampNeg) - x2) + (29 : Int32)) / (30 : Int32)))))), some (.int (x3 + (1 : Int32))), none] [] (enc σ) (qI Q)) ∧ (¬ x2 < ((gC σ 27) x3.toNatClampNeg) → BW S m_Md_due 16 [some (.ref 153), some (.int x1), some (.int (x2 + ((30 : Int32) + ((30 : Int32) * (((0 : Int32) + (29 : Int32)) / (30 : Int32)))))), some (.int (x3 + (1 : Int32))), none] [] (enc σ) (qI Q)))))))) : BW S m_Md_due 16 [some (.ref 153), some (.int x1), some (.int x2), some (.int x3), none] [] (enc σ) (qI Q) := by
  refine b_iload_n d_Md_due_16 rfl rfl ?_
  refine b_iload_n d_Md_due_17 rfl rfl ?_
  refine b_icmp_ge (tgt := 78) d_Md_due_18 (by decide) (fun c7 => ?_) (fun c7 => ?_)
  · have H := H.1 c7
    refine b_iload_n d_Md_due_78 rfl rfl ?_
    exact b_iret (ty := .int) d_Md_due_79 rfl rfl ⟨_, _, rfl, rfl, H⟩
  · have H := H.2 c7
    refine b_aload_n d_Md_due_21 rfl rfl ?_
    refine b_getf (v := .ref 181) d_Md_due_22 fl_Md_138 (eg_153 σ) rfl ?_
    refine b_iload_n d_Md_due_25 rfl rfl ?_
    obtain ⟨h4, H⟩ := H
    refine b_iald d_Md_due_26 (eg_181 σ) h4 ?_
    refine b_st2 (st' := [.int ((gC σ 27) x3.toNatClampNeg)]) rfl ?_
    refine b_iconst (v := (-1 : Int32)) d_Md_due_27 (by decide) ?_
    refine b_icmp_eq (tgt := 41) d_Md_due_28 (by decide) (fun c6 => ?_) (fun c6 => ?_)
    · have H := H.1 c6
      refine b_iconst (v := (0 : Int32)) d_Md_due_41 (by decide) ?_
      refine b_goto (tgt := 53) d_Md_due_42 (by decide) ?_
      refine b_istore (ls' := [some (.ref 153), some (.int x1), some (.int x2), some (.int x3), some (.int (0 : Int32))]) d_Md_due_53 (Nat.le_of_ble_eq_true rfl) rfl ?_
      refine b_iload_n d_Md_due_55 rfl rfl ?_
      refine b_bipush (v := (30 : Int32)) d_Md_due_56 (by decide) ?_
      refine b_bipush (v := (30 : Int32)) d_Md_due_58 (by decide) ?_
      refine b_iload d_Md_due_60 rfl ?_
      refine b_bipush (v := (29 : Int32)) d_Md_due_62 (by decide) ?_
      refine b_iadd d_Md_due_64  ?_
      refine b_bipush (v := (30 : Int32)) d_Md_due_65 (by decide) ?_
      refine b_idiv d_Md_due_67 (by decide) ?_
      refine b_imul d_Md_due_68  ?_
      refine b_iadd d_Md_due_69  ?_
      refine b_iadd d_Md_due_70  ?_
      refine b_istore_n (ls' := [some (.ref 153), some (.int x1), some (.int (x2 + ((30 : Int32) + ((30 : Int32) * (((0 : Int32) + (29 : Int32)) / (30 : Int32)))))), some (.int x3), some (.int (0 : Int32))]) d_Md_due_71 rfl (Nat.le_of_ble_eq_true rfl) rfl ?_
      refine b_iinc (v := (x3 + (1 : Int32))) (ls' := [some (.ref 153), some (.int x1), some (.int (x2 + ((30 : Int32) + ((30 : Int32) * (((0 : Int32) + (29 : Int32)) / (30 : Int32)))))), some (.int (x3 + (1 : Int32))), some (.int (0 : Int32))]) d_Md_due_72 rfl rfl (Nat.le_of_ble_eq_true rfl) rfl ?_
      refine b_goto (tgt := 16) d_Md_due_75 (by decide) ?_
      exact b_mask [true, true, true, true, false] rfl H
    · have H := H.2 c6
      refine b_aload_n d_Md_due_31 rfl rfl ?_
      refine b_getf (v := .ref 181) d_Md_due_32 fl_Md_138 (eg_153 σ) rfl ?_
      refine b_iload_n d_Md_due_35 rfl rfl ?_
      refine b_iald d_Md_due_36 (eg_181 σ) h4 ?_
      refine b_st2 (st' := [.int ((gC σ 27) x3.toNatClampNeg)]) rfl ?_
      refine b_iload_n d_Md_due_37 rfl rfl ?_
      refine b_icmp_gt (tgt := 45) d_Md_due_38 (by decide) (fun c5 => ?_) (fun c5 => ?_)
      · have H := H.1 c5
        refine b_aload_n d_Md_due_45 rfl rfl ?_
        refine b_getf (v := .ref 181) d_Md_due_46 fl_Md_138 (eg_153 σ) rfl ?_
        refine b_iload_n d_Md_due_49 rfl rfl ?_
        refine b_iald d_Md_due_50 (eg_181 σ) h4 ?_
        refine b_st2 (st' := [.int ((gC σ 27) x3.toNatClampNeg)]) rfl ?_
        refine b_iload_n d_Md_due_51 rfl rfl ?_
        refine b_isub d_Md_due_52  ?_
        refine b_istore (ls' := [some (.ref 153), some (.int x1), some (.int x2), some (.int x3), some (.int (((gC σ 27) x3.toNatClampNeg) - x2))]) d_Md_due_53 (Nat.le_of_ble_eq_true rfl) rfl ?_
        refine b_iload_n d_Md_due_55 rfl rfl ?_
        refine b_bipush (v := (30 : Int32)) d_Md_due_56 (by decide) ?_
        refine b_bipush (v := (30 : Int32)) d_Md_due_58 (by decide) ?_
        refine b_iload d_Md_due_60 rfl ?_
        refine b_bipush (v := (29 : Int32)) d_Md_due_62 (by decide) ?_
        refine b_iadd d_Md_due_64  ?_
        refine b_bipush (v := (30 : Int32)) d_Md_due_65 (by decide) ?_
        refine b_idiv d_Md_due_67 (by decide) ?_
        refine b_imul d_Md_due_68  ?_
        refine b_iadd d_Md_due_69  ?_
        refine b_iadd d_Md_due_70  ?_
        refine b_istore_n (ls' := [some (.ref 153), some (.int x1), some (.int (x2 + ((30 : Int32) + ((30 : Int32) * (((((gC σ 27) x3.toNatClampNeg) - x2) + (29 : Int32)) / (30 : Int32)))))), some (.int x3), some (.int (((gC σ 27) x3.toNatClampNeg) - x2))]) d_Md_due_71 rfl (Nat.le_of_ble_eq_true rfl) rfl ?_
        refine b_iinc (v := (x3 + (1 : Int32))) (ls' := [some (.ref 153), some (.int x1), some (.int (x2 + ((30 : Int32) + ((30 : Int32) * (((((gC σ 27) x3.toNatClampNeg) - x2) + (29 : Int32)) / (30 : Int32)))))), some (.int (x3 + (1 : Int32))), some (.int (((gC σ 27) x3.toNatClampNeg) - x2))]) d_Md_due_72 rfl rfl (Nat.le_of_ble_eq_true rfl) rfl ?_
        refine b_goto (tgt := 16) d_Md_due_75 (by decide) ?_
        exact b_mask [true, true, true, true, false] rfl H
      · have H := H.2 c5
        refine b_iconst (v := (0 : Int32)) d_Md_due_41 (by decide) ?_
        refine b_goto (tgt := 53) d_Md_due_42 (by decide) ?_
        refine b_istore (ls' := [some (.ref 153), some (.int x1), some (.int x2), some (.int x3), some (.int (0 : Int32))]) d_Md_due_53 (Nat.le_of_ble_eq_true rfl) rfl ?_
        refine b_iload_n d_Md_due_55 rfl rfl ?_
        refine b_bipush (v := (30 : Int32)) d_Md_due_56 (by decide) ?_
        refine b_bipush (v := (30 : Int32)) d_Md_due_58 (by decide) ?_
        refine b_iload d_Md_due_60 rfl ?_
        refine b_bipush (v := (29 : Int32)) d_Md_due_62 (by decide) ?_
        refine b_iadd d_Md_due_64  ?_
        refine b_bipush (v := (30 : Int32)) d_Md_due_65 (by decide) ?_
        refine b_idiv d_Md_due_67 (by decide) ?_
        refine b_imul d_Md_due_68  ?_
        refine b_iadd d_Md_due_69  ?_
        refine b_iadd d_Md_due_70  ?_
        refine b_istore_n (ls' := [some (.ref 153), some (.int x1), some (.int (x2 + ((30 : Int32) + ((30 : Int32) * (((0 : Int32) + (29 : Int32)) / (30 : Int32)))))), some (.int x3), some (.int (0 : Int32))]) d_Md_due_71 rfl (Nat.le_of_ble_eq_true rfl) rfl ?_
        refine b_iinc (v := (x3 + (1 : Int32))) (ls' := [some (.ref 153), some (.int x1), some (.int (x2 + ((30 : Int32) + ((30 : Int32) * (((0 : Int32) + (29 : Int32)) / (30 : Int32)))))), some (.int (x3 + (1 : Int32))), some (.int (0 : Int32))]) d_Md_due_72 rfl rfl (Nat.le_of_ble_eq_true rfl) rfl ?_
        refine b_goto (tgt := 16) d_Md_due_75 (by decide) ?_
        exact b_mask [true, true, true, true, false] rfl H
theorem C_Md_due {S : XS} {Q : Int32 → St → Prop} (σ : St) (x1 : Int32) (H : BW S m_Md_due 0 [some (.ref 153), some (.int x1), none, none, none] [] (enc σ) (qI Q)) : CM S m_Md_due [.ref 153, .int x1] (enc σ) (qI Q) := b_meth (by decide) (Nat.le_of_ble_eq_true rfl) rfl H
theorem d_Md_start_0 : decode m_Md_start.2.1 0 = .ok (.iconst 1, 1) := by decide +kernel
theorem d_Md_start_1 : decode m_Md_start.2.1 1 = .ok (.istore_n 2, 1) := by decide +kernel
theorem d_Md_start_2 : decode m_Md_start.2.1 2 = .ok (.iconst 0, 1) := by decide +kernel
theorem d_Md_start_3 : decode m_Md_start.2.1 3 = .ok (.istore_n 3, 1) := by decide +kernel
theorem d_Md_start_4 : decode m_Md_start.2.1 4 = .ok (.iload_n 3, 1) := by decide +kernel
theorem d_Md_start_5 : decode m_Md_start.2.1 5 = .ok (.bipush 24, 2) := by decide +kernel
theorem d_Md_start_7 : decode m_Md_start.2.1 7 = .ok (.if_icmp .ge 29, 3) := by decide +kernel
theorem d_Md_start_10 : decode m_Md_start.2.1 10 = .ok (.iload_n 2, 1) := by decide +kernel
theorem d_Md_start_11 : decode m_Md_start.2.1 11 = .ok (.ifCond .eq 17, 3) := by decide +kernel
theorem d_Md_start_14 : decode m_Md_start.2.1 14 = .ok (.aload_n 0, 1) := by decide +kernel
theorem d_Md_start_15 : decode m_Md_start.2.1 15 = .ok (.getfield 138, 3) := by decide +kernel
theorem d_Md_start_18 : decode m_Md_start.2.1 18 = .ok (.iload_n 3, 1) := by decide +kernel
theorem d_Md_start_19 : decode m_Md_start.2.1 19 = .ok (.iaload, 1) := by decide +kernel
theorem d_Md_start_20 : decode m_Md_start.2.1 20 = .ok (.iconst (-1), 1) := by decide +kernel
theorem d_Md_start_21 : decode m_Md_start.2.1 21 = .ok (.if_icmp .ne 7, 3) := by decide +kernel
theorem d_Md_start_24 : decode m_Md_start.2.1 24 = .ok (.iconst 1, 1) := by decide +kernel
theorem d_Md_start_25 : decode m_Md_start.2.1 25 = .ok (.goto 4, 3) := by decide +kernel
theorem d_Md_start_28 : decode m_Md_start.2.1 28 = .ok (.iconst 0, 1) := by decide +kernel
theorem d_Md_start_29 : decode m_Md_start.2.1 29 = .ok (.istore_n 2, 1) := by decide +kernel
theorem d_Md_start_30 : decode m_Md_start.2.1 30 = .ok (.iinc 3 1, 3) := by decide +kernel
theorem d_Md_start_33 : decode m_Md_start.2.1 33 = .ok (.goto (-29), 3) := by decide +kernel
theorem d_Md_start_36 : decode m_Md_start.2.1 36 = .ok (.iload_n 2, 1) := by decide +kernel
theorem d_Md_start_37 : decode m_Md_start.2.1 37 = .ok (.ifCond .eq 14, 3) := by decide +kernel
theorem d_Md_start_40 : decode m_Md_start.2.1 40 = .ok (.iload_n 1, 1) := by decide +kernel
theorem d_Md_start_41 : decode m_Md_start.2.1 41 = .ok (.iconst 0, 1) := by decide +kernel
theorem d_Md_start_42 : decode m_Md_start.2.1 42 = .ok (.sipush 20000, 3) := by decide +kernel
theorem d_Md_start_45 : decode m_Md_start.2.1 45 = .ok (.invokestatic 174, 3) := by decide +kernel
theorem d_Md_start_48 : decode m_Md_start.2.1 48 = .ok (.ifCond .ne 5, 3) := by decide +kernel
theorem d_Md_start_51 : decode m_Md_start.2.1 51 = .ok (.iconst 0, 1) := by decide +kernel
theorem d_Md_start_52 : decode m_Md_start.2.1 52 = .ok (.ireturn, 1) := by decide +kernel
theorem d_Md_start_53 : decode m_Md_start.2.1 53 = .ok (.aload_n 0, 1) := by decide +kernel
theorem d_Md_start_54 : decode m_Md_start.2.1 54 = .ok (.iload_n 1, 1) := by decide +kernel
theorem d_Md_start_55 : decode m_Md_start.2.1 55 = .ok (.putfield 135, 3) := by decide +kernel
theorem d_Md_start_58 : decode m_Md_start.2.1 58 = .ok (.iconst 1, 1) := by decide +kernel
theorem d_Md_start_59 : decode m_Md_start.2.1 59 = .ok (.ireturn, 1) := by decide +kernel
set_option maxHeartbeats 4000000 in
set_option maxRecDepth 100000 in
theorem B_Md_start_0 {S : XS} {Q : Int32 → St → Prop} (σ : St) (x1 : Int32) (H : BW S m_Md_start 4 [some (.ref 153), some (.int x1), some (.int (1 : Int32)), some (.int (0 : Int32))] [] (enc σ) (qI Q)) : BW S m_Md_start 0 [some (.ref 153), some (.int x1), none, none] [] (enc σ) (qI Q) := by
  refine b_iconst (v := (1 : Int32)) d_Md_start_0 (by decide) ?_
  refine b_istore_n (ls' := [some (.ref 153), some (.int x1), some (.int (1 : Int32)), none]) d_Md_start_1 rfl (Nat.le_of_ble_eq_true rfl) rfl ?_
  refine b_iconst (v := (0 : Int32)) d_Md_start_2 (by decide) ?_
  refine b_istore_n (ls' := [some (.ref 153), some (.int x1), some (.int (1 : Int32)), some (.int (0 : Int32))]) d_Md_start_3 rfl (Nat.le_of_ble_eq_true rfl) rfl ?_
  exact b_mask [true, true, true, true] rfl H
set_option maxHeartbeats 4000000 in
set_option maxRecDepth 100000 in
theorem B_Md_start_4 {S : XS} {Q : Int32 → St → Prop} (σ : St) (x1 : Int32) (x2 : Int32) (x3 : Int32) (H : (((24 : Int32) ≤ x3 → ((x2 = 0 → Q (0 : Int32) σ) ∧ (¬ x2 = 0 → CM S m_Md_is [.int x1, .int (0 : Int32), .int (20000 : Int32)] (enc σ) (qI (fun v1 τ2 => ((¬ v1 = 0 → Q (1 : Int32) (sY τ2 14 x1)) ∧ (v1 = 0 → Q (0 : Int32) τ2))))))) ∧ (¬ (24 : Int32) ≤ x3 → ((x2 = 0 → BW S m_Md_start 4 [some (.ref 153), some (.int x1), some (.int (0 : Int32)), some (.int (x3 + (1 : Int32)))] [] (enc σ) (qI Q)) ∧ (¬ x2 = 0 → (vp_in x3 24) ∧ ((¬ ((gC σ 27) x3.toNatClampNeg) = (-1 : Int32) → BW S m_Md_start 4 [some (.ref 153), some (.int x1), some (.int (0 : Int32)), some (.int (x3 + (1 : Int32)))] [] (enc σ) (qI Q)) ∧ (((gC σ 27) x3.toNatClampNeg) = (-1 : Int32) → BW S m_Md_start 4 [some (.ref 153), some (.int x1), some (.int (1 : Int32)), some (.int (x3 + (1 : Int32)))] [] (enc σ) (qI Q)))))))) : BW S m_Md_start 4 [some (.ref 153), some (.int x1), some (.int x2), some (.int x3)] [] (enc σ) (qI Q) := by
  refine b_iload_n d_Md_start_4 rfl rfl ?_
  refine b_bipush (v := (24 : Int32)) d_Md_start_5 (by decide) ?_
  refine b_icmp_ge (tgt := 36) d_Md_start_7 (by decide) (fun c8 => ?_) (fun c8 => ?_)
  · have H := H.1 c8
    refine b_iload_n d_Md_start_36 rfl rfl ?_
    refine b_if_eq (tgt := 51) d_Md_start_37 (by decide) (fun c4 => ?_) (fun c4 => ?_)
    · have H := H.1 c4
      refine b_iconst (v := (0 : Int32)) d_Md_start_51 (by decide) ?_
      exact b_iret (ty := .boolean) d_Md_start_52 rfl rfl ⟨_, _, rfl, rfl, H⟩
    · have H := H.2 c4
      refine b_iload_n d_Md_start_40 rfl rfl ?_
      refine b_iconst (v := (0 : Int32)) d_Md_start_41 (by decide) ?_
      refine b_sipush (v := (20000 : Int32)) d_Md_start_42 (by decide) ?_
      refine b_callSi (Mc := m_Md_is) (As := [.int x1, .int (0 : Int32), .int (20000 : Int32)]) (st := []) d_Md_start_45 ⟨⟨kA_Md_is.1, kA_Md_is.2.1, kA_Md_is.2.2, by decide⟩, ml_Md_174, kS_Md_is⟩ rfl rfl (Nat.le_of_ble_eq_true rfl) H (fun v1 τ2 H => ?_)
      refine b_if_ne (tgt := 53) d_Md_start_48 (by decide) (fun c3 => ?_) (fun c3 => ?_)
      · have H := H.1 c3
        refine b_aload_n d_Md_start_53 rfl rfl ?_
        refine b_iload_n d_Md_start_54 rfl rfl ?_
        refine b_putf (ty := .int) (h1 := enc (sY τ2 14 x1)) d_Md_start_55 fl_Md_135 ft_12_41 (fun _ => ⟨rfl, rfl⟩) (eg_153 τ2) (Nat.le_of_ble_eq_true rfl) (es_153_41 τ2 x1) ?_
        refine b_iconst (v := (1 : Int32)) d_Md_start_58 (by decide) ?_
        exact b_iret (ty := .boolean) d_Md_start_59 rfl rfl ⟨_, _, rfl, rfl, H⟩
      · have H := H.2 c3
        refine b_iconst (v := (0 : Int32)) d_Md_start_51 (by decide) ?_
        exact b_iret (ty := .boolean) d_Md_start_52 rfl rfl ⟨_, _, rfl, rfl, H⟩
  · have H := H.2 c8
    refine b_iload_n d_Md_start_10 rfl rfl ?_
    refine b_if_eq (tgt := 28) d_Md_start_11 (by decide) (fun c7 => ?_) (fun c7 => ?_)
    · have H := H.1 c7
      refine b_iconst (v := (0 : Int32)) d_Md_start_28 (by decide) ?_
      refine b_istore_n (ls' := [some (.ref 153), some (.int x1), some (.int (0 : Int32)), some (.int x3)]) d_Md_start_29 rfl (Nat.le_of_ble_eq_true rfl) rfl ?_
      refine b_iinc (v := (x3 + (1 : Int32))) (ls' := [some (.ref 153), some (.int x1), some (.int (0 : Int32)), some (.int (x3 + (1 : Int32)))]) d_Md_start_30 rfl rfl (Nat.le_of_ble_eq_true rfl) rfl ?_
      refine b_goto (tgt := 4) d_Md_start_33 (by decide) ?_
      exact b_mask [true, true, true, true] rfl H
    · have H := H.2 c7
      refine b_aload_n d_Md_start_14 rfl rfl ?_
      refine b_getf (v := .ref 181) d_Md_start_15 fl_Md_138 (eg_153 σ) rfl ?_
      refine b_iload_n d_Md_start_18 rfl rfl ?_
      obtain ⟨h5, H⟩ := H
      refine b_iald d_Md_start_19 (eg_181 σ) h5 ?_
      refine b_st2 (st' := [.int ((gC σ 27) x3.toNatClampNeg)]) rfl ?_
      refine b_iconst (v := (-1 : Int32)) d_Md_start_20 (by decide) ?_
      refine b_icmp_ne (tgt := 28) d_Md_start_21 (by decide) (fun c6 => ?_) (fun c6 => ?_)
      · have H := H.1 c6
        refine b_iconst (v := (0 : Int32)) d_Md_start_28 (by decide) ?_
        refine b_istore_n (ls' := [some (.ref 153), some (.int x1), some (.int (0 : Int32)), some (.int x3)]) d_Md_start_29 rfl (Nat.le_of_ble_eq_true rfl) rfl ?_
        refine b_iinc (v := (x3 + (1 : Int32))) (ls' := [some (.ref 153), some (.int x1), some (.int (0 : Int32)), some (.int (x3 + (1 : Int32)))]) d_Md_start_30 rfl rfl (Nat.le_of_ble_eq_true rfl) rfl ?_
        refine b_goto (tgt := 4) d_Md_start_33 (by decide) ?_
        exact b_mask [true, true, true, true] rfl H
      · have H := H.2 c6
        refine b_iconst (v := (1 : Int32)) d_Md_start_24 (by decide) ?_
        refine b_goto (tgt := 29) d_Md_start_25 (by decide) ?_
        refine b_istore_n (ls' := [some (.ref 153), some (.int x1), some (.int (1 : Int32)), some (.int x3)]) d_Md_start_29 rfl (Nat.le_of_ble_eq_true rfl) rfl ?_
        refine b_iinc (v := (x3 + (1 : Int32))) (ls' := [some (.ref 153), some (.int x1), some (.int (1 : Int32)), some (.int (x3 + (1 : Int32)))]) d_Md_start_30 rfl rfl (Nat.le_of_ble_eq_true rfl) rfl ?_
        refine b_goto (tgt := 4) d_Md_start_33 (by decide) ?_
        exact b_mask [true, true, true, true] rfl H
theorem C_Md_start {S : XS} {Q : Int32 → St → Prop} (σ : St) (x1 : Int32) (H : BW S m_Md_start 0 [some (.ref 153), some (.int x1), none, none] [] (enc σ) (qI Q)) : CM S m_Md_start [.ref 153, .int x1] (enc σ) (qI Q) := b_meth (by decide) (Nat.le_of_ble_eq_true rfl) rfl H
theorem d_Md_came_0 : decode m_Md_came.2.1 0 = .ok (.iload_n 1, 1) := by decide +kernel
theorem d_Md_came_1 : decode m_Md_came.2.1 1 = .ok (.invokestatic 234, 3) := by decide +kernel
theorem d_Md_came_4 : decode m_Md_came.2.1 4 = .ok (.ifCond .eq 52, 3) := by decide +kernel
theorem d_Md_came_7 : decode m_Md_came.2.1 7 = .ok (.iload_n 2, 1) := by decide +kernel
theorem d_Md_came_8 : decode m_Md_came.2.1 8 = .ok (.iconst 0, 1) := by decide +kernel
theorem d_Md_came_9 : decode m_Md_came.2.1 9 = .ok (.sipush 30000, 3) := by decide +kernel
theorem d_Md_came_12 : decode m_Md_came.2.1 12 = .ok (.invokestatic 174, 3) := by decide +kernel
theorem d_Md_came_15 : decode m_Md_came.2.1 15 = .ok (.ifCond .eq 41, 3) := by decide +kernel
theorem d_Md_came_18 : decode m_Md_came.2.1 18 = .ok (.aload_n 0, 1) := by decide +kernel
theorem d_Md_came_19 : decode m_Md_came.2.1 19 = .ok (.getfield 138, 3) := by decide +kernel
theorem d_Md_came_22 : decode m_Md_came.2.1 22 = .ok (.iload_n 1, 1) := by decide +kernel
theorem d_Md_came_23 : decode m_Md_came.2.1 23 = .ok (.iaload, 1) := by decide +kernel
theorem d_Md_came_24 : decode m_Md_came.2.1 24 = .ok (.iconst (-1), 1) := by decide +kernel
theorem d_Md_came_25 : decode m_Md_came.2.1 25 = .ok (.if_icmp .ne 31, 3) := by decide +kernel
theorem d_Md_came_28 : decode m_Md_came.2.1 28 = .ok (.iload_n 1, 1) := by decide +kernel
theorem d_Md_came_29 : decode m_Md_came.2.1 29 = .ok (.ifCond .le 29, 3) := by decide +kernel
theorem d_Md_came_32 : decode m_Md_came.2.1 32 = .ok (.aload_n 0, 1) := by decide +kernel
theorem d_Md_came_33 : decode m_Md_came.2.1 33 = .ok (.getfield 138, 3) := by decide +kernel
theorem d_Md_came_36 : decode m_Md_came.2.1 36 = .ok (.iload_n 1, 1) := by decide +kernel
theorem d_Md_came_37 : decode m_Md_came.2.1 37 = .ok (.iconst 1, 1) := by decide +kernel
theorem d_Md_came_38 : decode m_Md_came.2.1 38 = .ok (.isub, 1) := by decide +kernel
theorem d_Md_came_39 : decode m_Md_came.2.1 39 = .ok (.iaload, 1) := by decide +kernel
theorem d_Md_came_40 : decode m_Md_came.2.1 40 = .ok (.iconst (-1), 1) := by decide +kernel
theorem d_Md_came_41 : decode m_Md_came.2.1 41 = .ok (.if_icmp .eq 15, 3) := by decide +kernel
theorem d_Md_came_44 : decode m_Md_came.2.1 44 = .ok (.aload_n 0, 1) := by decide +kernel
theorem d_Md_came_45 : decode m_Md_came.2.1 45 = .ok (.getfield 138, 3) := by decide +kernel
theorem d_Md_came_48 : decode m_Md_came.2.1 48 = .ok (.iload_n 1, 1) := by decide +kernel
theorem d_Md_came_49 : decode m_Md_came.2.1 49 = .ok (.iconst 1, 1) := by decide +kernel
theorem d_Md_came_50 : decode m_Md_came.2.1 50 = .ok (.isub, 1) := by decide +kernel
theorem d_Md_came_51 : decode m_Md_came.2.1 51 = .ok (.iaload, 1) := by decide +kernel
theorem d_Md_came_52 : decode m_Md_came.2.1 52 = .ok (.iload_n 2, 1) := by decide +kernel
theorem d_Md_came_53 : decode m_Md_came.2.1 53 = .ok (.if_icmp .le 5, 3) := by decide +kernel
theorem d_Md_came_56 : decode m_Md_came.2.1 56 = .ok (.iconst (-1), 1) := by decide +kernel
theorem d_Md_came_57 : decode m_Md_came.2.1 57 = .ok (.ireturn, 1) := by decide +kernel
theorem d_Md_came_58 : decode m_Md_came.2.1 58 = .ok (.aload_n 0, 1) := by decide +kernel
theorem d_Md_came_59 : decode m_Md_came.2.1 59 = .ok (.getfield 138, 3) := by decide +kernel
theorem d_Md_came_62 : decode m_Md_came.2.1 62 = .ok (.iload_n 1, 1) := by decide +kernel
theorem d_Md_came_63 : decode m_Md_came.2.1 63 = .ok (.iload_n 2, 1) := by decide +kernel
theorem d_Md_came_64 : decode m_Md_came.2.1 64 = .ok (.iastore, 1) := by decide +kernel
theorem d_Md_came_65 : decode m_Md_came.2.1 65 = .ok (.aload_n 0, 1) := by decide +kernel
theorem d_Md_came_66 : decode m_Md_came.2.1 66 = .ok (.iload_n 1, 1) := by decide +kernel
theorem d_Md_came_67 : decode m_Md_came.2.1 67 = .ok (.invokevirtual 289, 3) := by decide +kernel
theorem d_Md_came_70 : decode m_Md_came.2.1 70 = .ok (.ireturn, 1) := by decide +kernel
set_option maxHeartbeats 4000000 in
set_option maxRecDepth 100000 in
theorem B_Md_came_0 {S : XS} {Q : Int32 → St → Prop} (σ : St) (x1 : Int32) (x2 : Int32) (H : CM S m_Md_isPart [.int x1] (enc σ) (qI (fun v1 τ2 => ((v1 = 0 → Q (-1 : Int32) τ2) ∧ (¬ v1 = 0 → CM S m_Md_is [.int x2, .int (0 : Int32), .int (30000 : Int32)] (enc τ2) (qI (fun v3 τ4 => ((v3 = 0 → Q (-1 : Int32) τ4) ∧ (¬ v3 = 0 → (vp_in x1 24) ∧ ((¬ ((gC τ4 27) x1.toNatClampNeg) = (-1 : Int32) → Q (-1 : Int32) τ4) ∧ (((gC τ4 27) x1.toNatClampNeg) = (-1 : Int32) → ((x1 ≤ 0 → CM S m_Md_lateDays [.ref 153, .int x1] (enc (sC τ4 27 (upd (gC τ4 27) x1.toNatClampNeg x2))) (qI (fun v6 τ7 => Q v6 τ7))) ∧ (¬ x1 ≤ 0 → (vp_in (x1 - (1 : Int32)) 24) ∧ ((((gC τ4 27) (x1 - (1 : Int32)).toNatClampNeg) = (-1 : Int32) → Q (-1 : Int32) τ4) ∧ (¬ ((gC τ4 27) (x1 - (1 : Int32)).toNatClampNeg) = (-1 : Int32) → ((((gC τ4 27) (x1 - (1 : Int32)).toNatClampNeg) ≤ x2 → CM S m_Md_lateDays [.ref 153, .int x1] (enc (sC τ4 27 (upd (gC τ4 27) x1.toNatClampNeg x2))) (qI (fun v9 τ10 => Q v9 τ10))) ∧ (¬ ((gC τ4 27) (x1 - (1 : Int32)).toNatClampNeg) ≤ x2 → Q (-1 : Int32) τ4))))))))))))))))) : BW S m_Md_came 0 [some (.ref 153), some (.int x1), some (.int x2)] [] (enc σ) (qI Q) := by
  refine b_iload_n d_Md_came_0 rfl rfl ?_
  refine b_callSi (Mc := m_Md_isPart) (As := [.int x1]) (st := []) d_Md_came_1 ⟨⟨kA_Md_isPart.1, kA_Md_isPart.2.1, kA_Md_isPart.2.2, by decide⟩, ml_Md_234, kS_Md_isPart⟩ rfl rfl (Nat.le_of_ble_eq_true rfl) H (fun v1 τ2 H => ?_)
  refine b_if_eq (tgt := 56) d_Md_came_4 (by decide) (fun c16 => ?_) (fun c16 => ?_)
  · have H := H.1 c16
    refine b_iconst (v := (-1 : Int32)) d_Md_came_56 (by decide) ?_
    exact b_iret (ty := .int) d_Md_came_57 rfl rfl ⟨_, _, rfl, rfl, H⟩
  · have H := H.2 c16
    refine b_iload_n d_Md_came_7 rfl rfl ?_
    refine b_iconst (v := (0 : Int32)) d_Md_came_8 (by decide) ?_
    refine b_sipush (v := (30000 : Int32)) d_Md_came_9 (by decide) ?_
    refine b_callSi (Mc := m_Md_is) (As := [.int x2, .int (0 : Int32), .int (30000 : Int32)]) (st := []) d_Md_came_12 ⟨⟨kA_Md_is.1, kA_Md_is.2.1, kA_Md_is.2.2, by decide⟩, ml_Md_174, kS_Md_is⟩ rfl rfl (Nat.le_of_ble_eq_true rfl) H (fun v3 τ4 H => ?_)
    refine b_if_eq (tgt := 56) d_Md_came_15 (by decide) (fun c15 => ?_) (fun c15 => ?_)
    · have H := H.1 c15
      refine b_iconst (v := (-1 : Int32)) d_Md_came_56 (by decide) ?_
      exact b_iret (ty := .int) d_Md_came_57 rfl rfl ⟨_, _, rfl, rfl, H⟩
    · have H := H.2 c15
      refine b_aload_n d_Md_came_18 rfl rfl ?_
      refine b_getf (v := .ref 181) d_Md_came_19 fl_Md_138 (eg_153 τ4) rfl ?_
      refine b_iload_n d_Md_came_22 rfl rfl ?_
      obtain ⟨h5, H⟩ := H
      refine b_iald d_Md_came_23 (eg_181 τ4) h5 ?_
      refine b_st2 (st' := [.int ((gC τ4 27) x1.toNatClampNeg)]) rfl ?_
      refine b_iconst (v := (-1 : Int32)) d_Md_came_24 (by decide) ?_
      refine b_icmp_ne (tgt := 56) d_Md_came_25 (by decide) (fun c14 => ?_) (fun c14 => ?_)
      · have H := H.1 c14
        refine b_iconst (v := (-1 : Int32)) d_Md_came_56 (by decide) ?_
        exact b_iret (ty := .int) d_Md_came_57 rfl rfl ⟨_, _, rfl, rfl, H⟩
      · have H := H.2 c14
        refine b_iload_n d_Md_came_28 rfl rfl ?_
        refine b_if_le (tgt := 58) d_Md_came_29 (by decide) (fun c13 => ?_) (fun c13 => ?_)
        · have H := H.1 c13
          refine b_aload_n d_Md_came_58 rfl rfl ?_
          refine b_getf (v := .ref 181) d_Md_came_59 fl_Md_138 (eg_153 τ4) rfl ?_
          refine b_iload_n d_Md_came_62 rfl rfl ?_
          refine b_iload_n d_Md_came_63 rfl rfl ?_
          refine b_iast (h1 := enc (sC τ4 27 (upd (gC τ4 27) x1.toNatClampNeg x2))) d_Md_came_64 (eg_181 τ4) h5 (es_181 τ4 (upd (gC τ4 27) x1.toNatClampNeg x2)) ?_
          refine b_aload_n d_Md_came_65 rfl rfl ?_
          refine b_iload_n d_Md_came_66 rfl rfl ?_
          refine b_callVi (Mc := m_Md_lateDays) (As := [.int x1]) (st := []) d_Md_came_67 ⟨⟨kA_Md_lateDays.1, kA_Md_lateDays.2.1, kA_Md_lateDays.2.2, by decide⟩, ml_Md_289, kV_Md_lateDays⟩ (eg_153 (sC τ4 27 (upd (gC τ4 27) x1.toNatClampNeg x2))) rfl rfl (Nat.le_of_ble_eq_true rfl) H (fun v6 τ7 H => ?_)
          exact b_iret (ty := .int) d_Md_came_70 rfl rfl ⟨_, _, rfl, rfl, H⟩
        · have H := H.2 c13
          refine b_aload_n d_Md_came_32 rfl rfl ?_
          refine b_getf (v := .ref 181) d_Md_came_33 fl_Md_138 (eg_153 τ4) rfl ?_
          refine b_iload_n d_Md_came_36 rfl rfl ?_
          refine b_iconst (v := (1 : Int32)) d_Md_came_37 (by decide) ?_
          refine b_isub d_Md_came_38  ?_
          obtain ⟨h8, H⟩ := H
          refine b_iald d_Md_came_39 (eg_181 τ4) h8 ?_
          refine b_st2 (st' := [.int ((gC τ4 27) (x1 - (1 : Int32)).toNatClampNeg)]) rfl ?_
          refine b_iconst (v := (-1 : Int32)) d_Md_came_40 (by decide) ?_
          refine b_icmp_eq (tgt := 56) d_Md_came_41 (by decide) (fun c12 => ?_) (fun c12 => ?_)
          · have H := H.1 c12
            refine b_iconst (v := (-1 : Int32)) d_Md_came_56 (by decide) ?_
            exact b_iret (ty := .int) d_Md_came_57 rfl rfl ⟨_, _, rfl, rfl, H⟩
          · have H := H.2 c12
            refine b_aload_n d_Md_came_44 rfl rfl ?_
            refine b_getf (v := .ref 181) d_Md_came_45 fl_Md_138 (eg_153 τ4) rfl ?_
            refine b_iload_n d_Md_came_48 rfl rfl ?_
            refine b_iconst (v := (1 : Int32)) d_Md_came_49 (by decide) ?_
            refine b_isub d_Md_came_50  ?_
            refine b_iald d_Md_came_51 (eg_181 τ4) h8 ?_
            refine b_st2 (st' := [.int ((gC τ4 27) (x1 - (1 : Int32)).toNatClampNeg)]) rfl ?_
            refine b_iload_n d_Md_came_52 rfl rfl ?_
            refine b_icmp_le (tgt := 58) d_Md_came_53 (by decide) (fun c11 => ?_) (fun c11 => ?_)
            · have H := H.1 c11
              refine b_aload_n d_Md_came_58 rfl rfl ?_
              refine b_getf (v := .ref 181) d_Md_came_59 fl_Md_138 (eg_153 τ4) rfl ?_
              refine b_iload_n d_Md_came_62 rfl rfl ?_
              refine b_iload_n d_Md_came_63 rfl rfl ?_
              refine b_iast (h1 := enc (sC τ4 27 (upd (gC τ4 27) x1.toNatClampNeg x2))) d_Md_came_64 (eg_181 τ4) h5 (es_181 τ4 (upd (gC τ4 27) x1.toNatClampNeg x2)) ?_
              refine b_aload_n d_Md_came_65 rfl rfl ?_
              refine b_iload_n d_Md_came_66 rfl rfl ?_
              refine b_callVi (Mc := m_Md_lateDays) (As := [.int x1]) (st := []) d_Md_came_67 ⟨⟨kA_Md_lateDays.1, kA_Md_lateDays.2.1, kA_Md_lateDays.2.2, by decide⟩, ml_Md_289, kV_Md_lateDays⟩ (eg_153 (sC τ4 27 (upd (gC τ4 27) x1.toNatClampNeg x2))) rfl rfl (Nat.le_of_ble_eq_true rfl) H (fun v9 τ10 H => ?_)
              exact b_iret (ty := .int) d_Md_came_70 rfl rfl ⟨_, _, rfl, rfl, H⟩
            · have H := H.2 c11
              refine b_iconst (v := (-1 : Int32)) d_Md_came_56 (by decide) ?_
              exact b_iret (ty := .int) d_Md_came_57 rfl rfl ⟨_, _, rfl, rfl, H⟩
theorem C_Md_came {S : XS} {Q : Int32 → St → Prop} (σ : St) (x1 : Int32) (x2 : Int32) (H : BW S m_Md_came 0 [some (.ref 153), some (.int x1), some (.int x2)] [] (enc σ) (qI Q)) : CM S m_Md_came [.ref 153, .int x1, .int x2] (enc σ) (qI Q) := b_meth (by decide) (Nat.le_of_ble_eq_true rfl) rfl H
theorem d_Md_prices_0 : decode m_Md_prices.2.1 0 = .ok (.iload_n 1, 1) := by decide +kernel
theorem d_Md_prices_1 : decode m_Md_prices.2.1 1 = .ok (.iconst 0, 1) := by decide +kernel
theorem d_Md_prices_2 : decode m_Md_prices.2.1 2 = .ok (.sipush 10000, 3) := by decide +kernel
theorem d_Md_prices_5 : decode m_Md_prices.2.1 5 = .ok (.invokestatic 174, 3) := by decide +kernel
theorem d_Md_prices_8 : decode m_Md_prices.2.1 8 = .ok (.ifCond .eq 35, 3) := by decide +kernel
theorem d_Md_prices_11 : decode m_Md_prices.2.1 11 = .ok (.iload_n 2, 1) := by decide +kernel
theorem d_Md_prices_12 : decode m_Md_prices.2.1 12 = .ok (.iconst 0, 1) := by decide +kernel
theorem d_Md_prices_13 : decode m_Md_prices.2.1 13 = .ok (.sipush 10000, 3) := by decide +kernel
theorem d_Md_prices_16 : decode m_Md_prices.2.1 16 = .ok (.invokestatic 174, 3) := by decide +kernel
theorem d_Md_prices_19 : decode m_Md_prices.2.1 19 = .ok (.ifCond .eq 24, 3) := by decide +kernel
theorem d_Md_prices_22 : decode m_Md_prices.2.1 22 = .ok (.iload_n 3, 1) := by decide +kernel
theorem d_Md_prices_23 : decode m_Md_prices.2.1 23 = .ok (.iconst 0, 1) := by decide +kernel
theorem d_Md_prices_24 : decode m_Md_prices.2.1 24 = .ok (.sipush 10000, 3) := by decide +kernel
theorem d_Md_prices_27 : decode m_Md_prices.2.1 27 = .ok (.invokestatic 174, 3) := by decide +kernel
theorem d_Md_prices_30 : decode m_Md_prices.2.1 30 = .ok (.ifCond .eq 13, 3) := by decide +kernel
theorem d_Md_prices_33 : decode m_Md_prices.2.1 33 = .ok (.iload 4, 2) := by decide +kernel
theorem d_Md_prices_35 : decode m_Md_prices.2.1 35 = .ok (.iconst 0, 1) := by decide +kernel
theorem d_Md_prices_36 : decode m_Md_prices.2.1 36 = .ok (.iload_n 2, 1) := by decide +kernel
theorem d_Md_prices_37 : decode m_Md_prices.2.1 37 = .ok (.invokestatic 174, 3) := by decide +kernel
theorem d_Md_prices_40 : decode m_Md_prices.2.1 40 = .ok (.ifCond .ne 5, 3) := by decide +kernel
theorem d_Md_prices_43 : decode m_Md_prices.2.1 43 = .ok (.iconst 0, 1) := by decide +kernel
theorem d_Md_prices_44 : decode m_Md_prices.2.1 44 = .ok (.ireturn, 1) := by decide +kernel
theorem d_Md_prices_45 : decode m_Md_prices.2.1 45 = .ok (.aload_n 0, 1) := by decide +kernel
theorem d_Md_prices_46 : decode m_Md_prices.2.1 46 = .ok (.iload_n 1, 1) := by decide +kernel
theorem d_Md_prices_47 : decode m_Md_prices.2.1 47 = .ok (.putfield 144, 3) := by decide +kernel
theorem d_Md_prices_50 : decode m_Md_prices.2.1 50 = .ok (.aload_n 0, 1) := by decide +kernel
theorem d_Md_prices_51 : decode m_Md_prices.2.1 51 = .ok (.iload_n 2, 1) := by decide +kernel
theorem d_Md_prices_52 : decode m_Md_prices.2.1 52 = .ok (.putfield 147, 3) := by decide +kernel
theorem d_Md_prices_55 : decode m_Md_prices.2.1 55 = .ok (.aload_n 0, 1) := by decide +kernel
theorem d_Md_prices_56 : decode m_Md_prices.2.1 56 = .ok (.iload_n 3, 1) := by decide +kernel
theorem d_Md_prices_57 : decode m_Md_prices.2.1 57 = .ok (.putfield 150, 3) := by decide +kernel
theorem d_Md_prices_60 : decode m_Md_prices.2.1 60 = .ok (.aload_n 0, 1) := by decide +kernel
theorem d_Md_prices_61 : decode m_Md_prices.2.1 61 = .ok (.iload 4, 2) := by decide +kernel
theorem d_Md_prices_63 : decode m_Md_prices.2.1 63 = .ok (.putfield 153, 3) := by decide +kernel
theorem d_Md_prices_66 : decode m_Md_prices.2.1 66 = .ok (.iconst 1, 1) := by decide +kernel
theorem d_Md_prices_67 : decode m_Md_prices.2.1 67 = .ok (.ireturn, 1) := by decide +kernel
set_option maxHeartbeats 4000000 in
set_option maxRecDepth 100000 in
theorem B_Md_prices_0 {S : XS} {Q : Int32 → St → Prop} (σ : St) (x1 : Int32) (x2 : Int32) (x3 : Int32) (x4 : Int32) (H : CM S m_Md_is [.int x1, .int (0 : Int32), .int (10000 : Int32)] (enc σ) (qI (fun v1 τ2 => ((v1 = 0 → Q (0 : Int32) τ2) ∧ (¬ v1 = 0 → CM S m_Md_is [.int x2, .int (0 : Int32), .int (10000 : Int32)] (enc τ2) (qI (fun v3 τ4 => ((v3 = 0 → Q (0 : Int32) τ4) ∧ (¬ v3 = 0 → CM S m_Md_is [.int x3, .int (0 : Int32), .int (10000 : Int32)] (enc τ4) (qI (fun v5 τ6 => ((v5 = 0 → Q (0 : Int32) τ6) ∧ (¬ v5 = 0 → CM S m_Md_is [.int x4, .int (0 : Int32), .int x2] (enc τ6) (qI (fun v7 τ8 => ((¬ v7 = 0 → Q (1 : Int32) (sY (sY (sY (sY τ8 15 x1) 16 x2) 17 x3) 18 x4)) ∧ (v7 = 0 → Q (0 : Int32) τ8))))))))))))))))) : BW S m_Md_prices 0 [some (.ref 153), some (.int x1), some (.int x2), some (.int x3), some (.int x4)] [] (enc σ) (qI Q) := by
  refine b_iload_n d_Md_prices_0 rfl rfl ?_
  refine b_iconst (v := (0 : Int32)) d_Md_prices_1 (by decide) ?_
  refine b_sipush (v := (10000 : Int32)) d_Md_prices_2 (by decide) ?_
  refine b_callSi (Mc := m_Md_is) (As := [.int x1, .int (0 : Int32), .int (10000 : Int32)]) (st := []) d_Md_prices_5 ⟨⟨kA_Md_is.1, kA_Md_is.2.1, kA_Md_is.2.2, by decide⟩, ml_Md_174, kS_Md_is⟩ rfl rfl (Nat.le_of_ble_eq_true rfl) H (fun v1 τ2 H => ?_)
  refine b_if_eq (tgt := 43) d_Md_prices_8 (by decide) (fun c12 => ?_) (fun c12 => ?_)
  · have H := H.1 c12
    refine b_iconst (v := (0 : Int32)) d_Md_prices_43 (by decide) ?_
    exact b_iret (ty := .boolean) d_Md_prices_44 rfl rfl ⟨_, _, rfl, rfl, H⟩
  · have H := H.2 c12
    refine b_iload_n d_Md_prices_11 rfl rfl ?_
    refine b_iconst (v := (0 : Int32)) d_Md_prices_12 (by decide) ?_
    refine b_sipush (v := (10000 : Int32)) d_Md_prices_13 (by decide) ?_
    refine b_callSi (Mc := m_Md_is) (As := [.int x2, .int (0 : Int32), .int (10000 : Int32)]) (st := []) d_Md_prices_16 ⟨⟨kA_Md_is.1, kA_Md_is.2.1, kA_Md_is.2.2, by decide⟩, ml_Md_174, kS_Md_is⟩ rfl rfl (Nat.le_of_ble_eq_true rfl) H (fun v3 τ4 H => ?_)
    refine b_if_eq (tgt := 43) d_Md_prices_19 (by decide) (fun c11 => ?_) (fun c11 => ?_)
    · have H := H.1 c11
      refine b_iconst (v := (0 : Int32)) d_Md_prices_43 (by decide) ?_
      exact b_iret (ty := .boolean) d_Md_prices_44 rfl rfl ⟨_, _, rfl, rfl, H⟩
    · have H := H.2 c11
      refine b_iload_n d_Md_prices_22 rfl rfl ?_
      refine b_iconst (v := (0 : Int32)) d_Md_prices_23 (by decide) ?_
      refine b_sipush (v := (10000 : Int32)) d_Md_prices_24 (by decide) ?_
      refine b_callSi (Mc := m_Md_is) (As := [.int x3, .int (0 : Int32), .int (10000 : Int32)]) (st := []) d_Md_prices_27 ⟨⟨kA_Md_is.1, kA_Md_is.2.1, kA_Md_is.2.2, by decide⟩, ml_Md_174, kS_Md_is⟩ rfl rfl (Nat.le_of_ble_eq_true rfl) H (fun v5 τ6 H => ?_)
      refine b_if_eq (tgt := 43) d_Md_prices_30 (by decide) (fun c10 => ?_) (fun c10 => ?_)
      · have H := H.1 c10
        refine b_iconst (v := (0 : Int32)) d_Md_prices_43 (by decide) ?_
        exact b_iret (ty := .boolean) d_Md_prices_44 rfl rfl ⟨_, _, rfl, rfl, H⟩
      · have H := H.2 c10
        refine b_iload d_Md_prices_33 rfl ?_
        refine b_iconst (v := (0 : Int32)) d_Md_prices_35 (by decide) ?_
        refine b_iload_n d_Md_prices_36 rfl rfl ?_
        refine b_callSi (Mc := m_Md_is) (As := [.int x4, .int (0 : Int32), .int x2]) (st := []) d_Md_prices_37 ⟨⟨kA_Md_is.1, kA_Md_is.2.1, kA_Md_is.2.2, by decide⟩, ml_Md_174, kS_Md_is⟩ rfl rfl (Nat.le_of_ble_eq_true rfl) H (fun v7 τ8 H => ?_)
        refine b_if_ne (tgt := 45) d_Md_prices_40 (by decide) (fun c9 => ?_) (fun c9 => ?_)
        · have H := H.1 c9
          refine b_aload_n d_Md_prices_45 rfl rfl ?_
          refine b_iload_n d_Md_prices_46 rfl rfl ?_
          refine b_putf (ty := .int) (h1 := enc (sY τ8 15 x1)) d_Md_prices_47 fl_Md_144 ft_12_44 (fun _ => ⟨rfl, rfl⟩) (eg_153 τ8) (Nat.le_of_ble_eq_true rfl) (es_153_44 τ8 x1) ?_
          refine b_aload_n d_Md_prices_50 rfl rfl ?_
          refine b_iload_n d_Md_prices_51 rfl rfl ?_
          refine b_putf (ty := .int) (h1 := enc (sY (sY τ8 15 x1) 16 x2)) d_Md_prices_52 fl_Md_147 ft_12_45 (fun _ => ⟨rfl, rfl⟩) (eg_153 (sY τ8 15 x1)) (Nat.le_of_ble_eq_true rfl) (es_153_45 (sY τ8 15 x1) x2) ?_
          refine b_aload_n d_Md_prices_55 rfl rfl ?_
          refine b_iload_n d_Md_prices_56 rfl rfl ?_
          refine b_putf (ty := .int) (h1 := enc (sY (sY (sY τ8 15 x1) 16 x2) 17 x3)) d_Md_prices_57 fl_Md_150 ft_12_46 (fun _ => ⟨rfl, rfl⟩) (eg_153 (sY (sY τ8 15 x1) 16 x2)) (Nat.le_of_ble_eq_true rfl) (es_153_46 (sY (sY τ8 15 x1) 16 x2) x3) ?_
          refine b_aload_n d_Md_prices_60 rfl rfl ?_
          refine b_iload d_Md_prices_61 rfl ?_
          refine b_putf (ty := .int) (h1 := enc (sY (sY (sY (sY τ8 15 x1) 16 x2) 17 x3) 18 x4)) d_Md_prices_63 fl_Md_153 ft_12_47 (fun _ => ⟨rfl, rfl⟩) (eg_153 (sY (sY (sY τ8 15 x1) 16 x2) 17 x3)) (Nat.le_of_ble_eq_true rfl) (es_153_47 (sY (sY (sY τ8 15 x1) 16 x2) 17 x3) x4) ?_
          refine b_iconst (v := (1 : Int32)) d_Md_prices_66 (by decide) ?_
          exact b_iret (ty := .boolean) d_Md_prices_67 rfl rfl ⟨_, _, rfl, rfl, H⟩
        · have H := H.2 c9
          refine b_iconst (v := (0 : Int32)) d_Md_prices_43 (by decide) ?_
          exact b_iret (ty := .boolean) d_Md_prices_44 rfl rfl ⟨_, _, rfl, rfl, H⟩
theorem C_Md_prices {S : XS} {Q : Int32 → St → Prop} (σ : St) (x1 : Int32) (x2 : Int32) (x3 : Int32) (x4 : Int32) (H : BW S m_Md_prices 0 [some (.ref 153), some (.int x1), some (.int x2), some (.int x3), some (.int x4)] [] (enc σ) (qI Q)) : CM S m_Md_prices [.ref 153, .int x1, .int x2, .int x3, .int x4] (enc σ) (qI Q) := b_meth (by decide) (Nat.le_of_ble_eq_true rfl) rfl H
theorem d_Md_row_0 : decode m_Md_row.2.1 0 = .ok (.bipush 20, 2) := by decide +kernel
theorem d_Md_row_2 : decode m_Md_row.2.1 2 = .ok (.iload_n 0, 1) := by decide +kernel
theorem d_Md_row_3 : decode m_Md_row.2.1 3 = .ok (.imul, 1) := by decide +kernel
theorem d_Md_row_4 : decode m_Md_row.2.1 4 = .ok (.iconst 5, 1) := by decide +kernel
theorem d_Md_row_5 : decode m_Md_row.2.1 5 = .ok (.iload_n 1, 1) := by decide +kernel
theorem d_Md_row_6 : decode m_Md_row.2.1 6 = .ok (.imul, 1) := by decide +kernel
theorem d_Md_row_7 : decode m_Md_row.2.1 7 = .ok (.iadd, 1) := by decide +kernel
theorem d_Md_row_8 : decode m_Md_row.2.1 8 = .ok (.ireturn, 1) := by decide +kernel
set_option maxHeartbeats 4000000 in
set_option maxRecDepth 100000 in
theorem B_Md_row_0 {S : XS} {Q : Int32 → St → Prop} (σ : St) (x0 : Int32) (x1 : Int32) (H : Q (((20 : Int32) * x0) + ((5 : Int32) * x1)) σ) : BW S m_Md_row 0 [some (.int x0), some (.int x1)] [] (enc σ) (qI Q) := by
  refine b_bipush (v := (20 : Int32)) d_Md_row_0 (by decide) ?_
  refine b_iload_n d_Md_row_2 rfl rfl ?_
  refine b_imul d_Md_row_3  ?_
  refine b_iconst (v := (5 : Int32)) d_Md_row_4 (by decide) ?_
  refine b_iload_n d_Md_row_5 rfl rfl ?_
  refine b_imul d_Md_row_6  ?_
  refine b_iadd d_Md_row_7  ?_
  exact b_iret (ty := .int) d_Md_row_8 rfl rfl ⟨_, _, rfl, rfl, H⟩
theorem C_Md_row {S : XS} {Q : Int32 → St → Prop} (σ : St) (x0 : Int32) (x1 : Int32) (H : BW S m_Md_row 0 [some (.int x0), some (.int x1)] [] (enc σ) (qI Q)) : CM S m_Md_row [.int x0, .int x1] (enc σ) (qI Q) := b_meth (by decide) (Nat.le_of_ble_eq_true rfl) rfl H
theorem d_Md_stays_0 : decode m_Md_stays.2.1 0 = .ok (.iload_n 1, 1) := by decide +kernel
theorem d_Md_stays_1 : decode m_Md_stays.2.1 1 = .ok (.iload_n 2, 1) := by decide +kernel
theorem d_Md_stays_2 : decode m_Md_stays.2.1 2 = .ok (.invokestatic 295, 3) := by decide +kernel
theorem d_Md_stays_5 : decode m_Md_stays.2.1 5 = .ok (.istore_n 3, 1) := by decide +kernel
theorem d_Md_stays_6 : decode m_Md_stays.2.1 6 = .ok (.aload_n 0, 1) := by decide +kernel
theorem d_Md_stays_7 : decode m_Md_stays.2.1 7 = .ok (.getfield 141, 3) := by decide +kernel
theorem d_Md_stays_10 : decode m_Md_stays.2.1 10 = .ok (.iload_n 3, 1) := by decide +kernel
theorem d_Md_stays_11 : decode m_Md_stays.2.1 11 = .ok (.iaload, 1) := by decide +kernel
theorem d_Md_stays_12 : decode m_Md_stays.2.1 12 = .ok (.aload_n 0, 1) := by decide +kernel
theorem d_Md_stays_13 : decode m_Md_stays.2.1 13 = .ok (.getfield 141, 3) := by decide +kernel
theorem d_Md_stays_16 : decode m_Md_stays.2.1 16 = .ok (.iload_n 3, 1) := by decide +kernel
theorem d_Md_stays_17 : decode m_Md_stays.2.1 17 = .ok (.iconst 1, 1) := by decide +kernel
theorem d_Md_stays_18 : decode m_Md_stays.2.1 18 = .ok (.iadd, 1) := by decide +kernel
theorem d_Md_stays_19 : decode m_Md_stays.2.1 19 = .ok (.iaload, 1) := by decide +kernel
theorem d_Md_stays_20 : decode m_Md_stays.2.1 20 = .ok (.isub, 1) := by decide +kernel
theorem d_Md_stays_21 : decode m_Md_stays.2.1 21 = .ok (.aload_n 0, 1) := by decide +kernel
theorem d_Md_stays_22 : decode m_Md_stays.2.1 22 = .ok (.getfield 141, 3) := by decide +kernel
theorem d_Md_stays_25 : decode m_Md_stays.2.1 25 = .ok (.iload_n 3, 1) := by decide +kernel
theorem d_Md_stays_26 : decode m_Md_stays.2.1 26 = .ok (.iconst 2, 1) := by decide +kernel
theorem d_Md_stays_27 : decode m_Md_stays.2.1 27 = .ok (.iadd, 1) := by decide +kernel
theorem d_Md_stays_28 : decode m_Md_stays.2.1 28 = .ok (.iaload, 1) := by decide +kernel
theorem d_Md_stays_29 : decode m_Md_stays.2.1 29 = .ok (.isub, 1) := by decide +kernel
theorem d_Md_stays_30 : decode m_Md_stays.2.1 30 = .ok (.aload_n 0, 1) := by decide +kernel
theorem d_Md_stays_31 : decode m_Md_stays.2.1 31 = .ok (.getfield 141, 3) := by decide +kernel
theorem d_Md_stays_34 : decode m_Md_stays.2.1 34 = .ok (.iload_n 3, 1) := by decide +kernel
theorem d_Md_stays_35 : decode m_Md_stays.2.1 35 = .ok (.iconst 3, 1) := by decide +kernel
theorem d_Md_stays_36 : decode m_Md_stays.2.1 36 = .ok (.iadd, 1) := by decide +kernel
theorem d_Md_stays_37 : decode m_Md_stays.2.1 37 = .ok (.iaload, 1) := by decide +kernel
theorem d_Md_stays_38 : decode m_Md_stays.2.1 38 = .ok (.isub, 1) := by decide +kernel
theorem d_Md_stays_39 : decode m_Md_stays.2.1 39 = .ok (.ireturn, 1) := by decide +kernel
set_option maxHeartbeats 4000000 in
set_option maxRecDepth 100000 in
theorem B_Md_stays_0 {S : XS} {Q : Int32 → St → Prop} (σ : St) (x1 : Int32) (x2 : Int32) (H : CM S m_Md_row [.int x1, .int x2] (enc σ) (qI (fun v1 τ2 => (vp_in v1 480) ∧ (vp_in (v1 + (1 : Int32)) 480) ∧ (vp_in (v1 + (2 : Int32)) 480) ∧ (vp_in (v1 + (3 : Int32)) 480) ∧ Q (((((gC τ2 28) v1.toNatClampNeg) - ((gC τ2 28) (v1 + (1 : Int32)).toNatClampNeg)) - ((gC τ2 28) (v1 + (2 : Int32)).toNatClampNeg)) - ((gC τ2 28) (v1 + (3 : Int32)).toNatClampNeg)) τ2))) : BW S m_Md_stays 0 [some (.ref 153), some (.int x1), some (.int x2), none] [] (enc σ) (qI Q) := by
  refine b_iload_n d_Md_stays_0 rfl rfl ?_
  refine b_iload_n d_Md_stays_1 rfl rfl ?_
  refine b_callSi (Mc := m_Md_row) (As := [.int x1, .int x2]) (st := []) d_Md_stays_2 ⟨⟨kA_Md_row.1, kA_Md_row.2.1, kA_Md_row.2.2, by decide⟩, ml_Md_295, kS_Md_row⟩ rfl rfl (Nat.le_of_ble_eq_true rfl) H (fun v1 τ2 H => ?_)
  refine b_istore_n (ls' := [some (.ref 153), some (.int x1), some (.int x2), some (.int v1)]) d_Md_stays_5 rfl (Nat.le_of_ble_eq_true rfl) rfl ?_
  refine b_aload_n d_Md_stays_6 rfl rfl ?_
  refine b_getf (v := .ref 182) d_Md_stays_7 fl_Md_141 (eg_153 τ2) rfl ?_
  refine b_iload_n d_Md_stays_10 rfl rfl ?_
  obtain ⟨h3, H⟩ := H
  refine b_iald d_Md_stays_11 (eg_182 τ2) h3 ?_
  refine b_st2 (st' := [.int ((gC τ2 28) v1.toNatClampNeg)]) rfl ?_
  refine b_aload_n d_Md_stays_12 rfl rfl ?_
  refine b_getf (v := .ref 182) d_Md_stays_13 fl_Md_141 (eg_153 τ2) rfl ?_
  refine b_iload_n d_Md_stays_16 rfl rfl ?_
  refine b_iconst (v := (1 : Int32)) d_Md_stays_17 (by decide) ?_
  refine b_iadd d_Md_stays_18  ?_
  obtain ⟨h4, H⟩ := H
  refine b_iald d_Md_stays_19 (eg_182 τ2) h4 ?_
  refine b_st2 (st' := [.int ((gC τ2 28) (v1 + (1 : Int32)).toNatClampNeg), .int ((gC τ2 28) v1.toNatClampNeg)]) rfl ?_
  refine b_isub d_Md_stays_20  ?_
  refine b_aload_n d_Md_stays_21 rfl rfl ?_
  refine b_getf (v := .ref 182) d_Md_stays_22 fl_Md_141 (eg_153 τ2) rfl ?_
  refine b_iload_n d_Md_stays_25 rfl rfl ?_
  refine b_iconst (v := (2 : Int32)) d_Md_stays_26 (by decide) ?_
  refine b_iadd d_Md_stays_27  ?_
  obtain ⟨h5, H⟩ := H
  refine b_iald d_Md_stays_28 (eg_182 τ2) h5 ?_
  refine b_st2 (st' := [.int ((gC τ2 28) (v1 + (2 : Int32)).toNatClampNeg), .int (((gC τ2 28) v1.toNatClampNeg) - ((gC τ2 28) (v1 + (1 : Int32)).toNatClampNeg))]) rfl ?_
  refine b_isub d_Md_stays_29  ?_
  refine b_aload_n d_Md_stays_30 rfl rfl ?_
  refine b_getf (v := .ref 182) d_Md_stays_31 fl_Md_141 (eg_153 τ2) rfl ?_
  refine b_iload_n d_Md_stays_34 rfl rfl ?_
  refine b_iconst (v := (3 : Int32)) d_Md_stays_35 (by decide) ?_
  refine b_iadd d_Md_stays_36  ?_
  obtain ⟨h6, H⟩ := H
  refine b_iald d_Md_stays_37 (eg_182 τ2) h6 ?_
  refine b_st2 (st' := [.int ((gC τ2 28) (v1 + (3 : Int32)).toNatClampNeg), .int ((((gC τ2 28) v1.toNatClampNeg) - ((gC τ2 28) (v1 + (1 : Int32)).toNatClampNeg)) - ((gC τ2 28) (v1 + (2 : Int32)).toNatClampNeg))]) rfl ?_
  refine b_isub d_Md_stays_38  ?_
  exact b_iret (ty := .int) d_Md_stays_39 rfl rfl ⟨_, _, rfl, rfl, H⟩
theorem C_Md_stays {S : XS} {Q : Int32 → St → Prop} (σ : St) (x1 : Int32) (x2 : Int32) (H : BW S m_Md_stays 0 [some (.ref 153), some (.int x1), some (.int x2), none] [] (enc σ) (qI Q)) : CM S m_Md_stays [.ref 153, .int x1, .int x2] (enc σ) (qI Q) := b_meth (by decide) (Nat.le_of_ble_eq_true rfl) rfl H
theorem d_Md_keep_0 : decode m_Md_keep.2.1 0 = .ok (.aload_n 0, 1) := by decide +kernel
theorem d_Md_keep_1 : decode m_Md_keep.2.1 1 = .ok (.iload_n 1, 1) := by decide +kernel
theorem d_Md_keep_2 : decode m_Md_keep.2.1 2 = .ok (.iload_n 2, 1) := by decide +kernel
theorem d_Md_keep_3 : decode m_Md_keep.2.1 3 = .ok (.invokevirtual 258, 3) := by decide +kernel
theorem d_Md_keep_6 : decode m_Md_keep.2.1 6 = .ok (.ifCond .eq 16, 3) := by decide +kernel
theorem d_Md_keep_9 : decode m_Md_keep.2.1 9 = .ok (.aload_n 0, 1) := by decide +kernel
theorem d_Md_keep_10 : decode m_Md_keep.2.1 10 = .ok (.getfield 141, 3) := by decide +kernel
theorem d_Md_keep_13 : decode m_Md_keep.2.1 13 = .ok (.iload_n 1, 1) := by decide +kernel
theorem d_Md_keep_14 : decode m_Md_keep.2.1 14 = .ok (.iload_n 2, 1) := by decide +kernel
theorem d_Md_keep_15 : decode m_Md_keep.2.1 15 = .ok (.invokestatic 295, 3) := by decide +kernel
theorem d_Md_keep_18 : decode m_Md_keep.2.1 18 = .ok (.iaload, 1) := by decide +kernel
theorem d_Md_keep_19 : decode m_Md_keep.2.1 19 = .ok (.ifCond .ne 5, 3) := by decide +kernel
theorem d_Md_keep_22 : decode m_Md_keep.2.1 22 = .ok (.iconst 0, 1) := by decide +kernel
theorem d_Md_keep_23 : decode m_Md_keep.2.1 23 = .ok (.ireturn, 1) := by decide +kernel
theorem d_Md_keep_24 : decode m_Md_keep.2.1 24 = .ok (.aload_n 0, 1) := by decide +kernel
theorem d_Md_keep_25 : decode m_Md_keep.2.1 25 = .ok (.getfield 141, 3) := by decide +kernel
theorem d_Md_keep_28 : decode m_Md_keep.2.1 28 = .ok (.iload_n 1, 1) := by decide +kernel
theorem d_Md_keep_29 : decode m_Md_keep.2.1 29 = .ok (.iload_n 2, 1) := by decide +kernel
theorem d_Md_keep_30 : decode m_Md_keep.2.1 30 = .ok (.invokestatic 295, 3) := by decide +kernel
theorem d_Md_keep_33 : decode m_Md_keep.2.1 33 = .ok (.iconst 4, 1) := by decide +kernel
theorem d_Md_keep_34 : decode m_Md_keep.2.1 34 = .ok (.iadd, 1) := by decide +kernel
theorem d_Md_keep_35 : decode m_Md_keep.2.1 35 = .ok (.iload_n 3, 1) := by decide +kernel
theorem d_Md_keep_36 : decode m_Md_keep.2.1 36 = .ok (.ifCond .eq 7, 3) := by decide +kernel
theorem d_Md_keep_39 : decode m_Md_keep.2.1 39 = .ok (.iconst 1, 1) := by decide +kernel
theorem d_Md_keep_40 : decode m_Md_keep.2.1 40 = .ok (.goto 4, 3) := by decide +kernel
theorem d_Md_keep_43 : decode m_Md_keep.2.1 43 = .ok (.iconst 0, 1) := by decide +kernel
theorem d_Md_keep_44 : decode m_Md_keep.2.1 44 = .ok (.iastore, 1) := by decide +kernel
theorem d_Md_keep_45 : decode m_Md_keep.2.1 45 = .ok (.iconst 1, 1) := by decide +kernel
theorem d_Md_keep_46 : decode m_Md_keep.2.1 46 = .ok (.ireturn, 1) := by decide +kernel
set_option maxHeartbeats 4000000 in
set_option maxRecDepth 100000 in
theorem B_Md_keep_0 {S : XS} {Q : Int32 → St → Prop} (σ : St) (x1 : Int32) (x2 : Int32) (x3 : Int32) (H : CM S m_Md_isEdition [.ref 153, .int x1, .int x2] (enc σ) (qI (fun v1 τ2 => ((v1 = 0 → Q (0 : Int32) τ2) ∧ (¬ v1 = 0 → CM S m_Md_row [.int x1, .int x2] (enc τ2) (qI (fun v3 τ4 => (vp_in v3 480) ∧ ((¬ ((gC τ4 28) v3.toNatClampNeg) = 0 → CM S m_Md_row [.int x1, .int x2] (enc τ4) (qI (fun v6 τ7 => ((x3 = 0 → (vp_in (v6 + (4 : Int32)) 480) ∧ Q (1 : Int32) (sC τ7 28 (upd (gC τ7 28) (v6 + (4 : Int32)).toNatClampNeg (0 : Int32)))) ∧ (¬ x3 = 0 → (vp_in (v6 + (4 : Int32)) 480) ∧ Q (1 : Int32) (sC τ7 28 (upd (gC τ7 28) (v6 + (4 : Int32)).toNatClampNeg (1 : Int32)))))))) ∧ (((gC τ4 28) v3.toNatClampNeg) = 0 → Q (0 : Int32) τ4))))))))) : BW S m_Md_keep 0 [some (.ref 153), some (.int x1), some (.int x2), some (.int x3)] [] (enc σ) (qI Q) := by
  refine b_aload_n d_Md_keep_0 rfl rfl ?_
  refine b_iload_n d_Md_keep_1 rfl rfl ?_
  refine b_iload_n d_Md_keep_2 rfl rfl ?_
  refine b_callVi (Mc := m_Md_isEdition) (As := [.int x1, .int x2]) (st := []) d_Md_keep_3 ⟨⟨kA_Md_isEdition.1, kA_Md_isEdition.2.1, kA_Md_isEdition.2.2, by decide⟩, ml_Md_258, kV_Md_isEdition⟩ (eg_153 σ) rfl rfl (Nat.le_of_ble_eq_true rfl) H (fun v1 τ2 H => ?_)
  refine b_if_eq (tgt := 22) d_Md_keep_6 (by decide) (fun c12 => ?_) (fun c12 => ?_)
  · have H := H.1 c12
    refine b_iconst (v := (0 : Int32)) d_Md_keep_22 (by decide) ?_
    exact b_iret (ty := .boolean) d_Md_keep_23 rfl rfl ⟨_, _, rfl, rfl, H⟩
  · have H := H.2 c12
    refine b_aload_n d_Md_keep_9 rfl rfl ?_
    refine b_getf (v := .ref 182) d_Md_keep_10 fl_Md_141 (eg_153 τ2) rfl ?_
    refine b_iload_n d_Md_keep_13 rfl rfl ?_
    refine b_iload_n d_Md_keep_14 rfl rfl ?_
    refine b_callSi (Mc := m_Md_row) (As := [.int x1, .int x2]) (st := [.ref 182]) d_Md_keep_15 ⟨⟨kA_Md_row.1, kA_Md_row.2.1, kA_Md_row.2.2, by decide⟩, ml_Md_295, kS_Md_row⟩ rfl rfl (Nat.le_of_ble_eq_true rfl) H (fun v3 τ4 H => ?_)
    obtain ⟨h5, H⟩ := H
    refine b_iald d_Md_keep_18 (eg_182 τ4) h5 ?_
    refine b_st2 (st' := [.int ((gC τ4 28) v3.toNatClampNeg)]) rfl ?_
    refine b_if_ne (tgt := 24) d_Md_keep_19 (by decide) (fun c11 => ?_) (fun c11 => ?_)
    · have H := H.1 c11
      refine b_aload_n d_Md_keep_24 rfl rfl ?_
      refine b_getf (v := .ref 182) d_Md_keep_25 fl_Md_141 (eg_153 τ4) rfl ?_
      refine b_iload_n d_Md_keep_28 rfl rfl ?_
      refine b_iload_n d_Md_keep_29 rfl rfl ?_
      refine b_callSi (Mc := m_Md_row) (As := [.int x1, .int x2]) (st := [.ref 182]) d_Md_keep_30 ⟨⟨kA_Md_row.1, kA_Md_row.2.1, kA_Md_row.2.2, by decide⟩, ml_Md_295, kS_Md_row⟩ rfl rfl (Nat.le_of_ble_eq_true rfl) H (fun v6 τ7 H => ?_)
      refine b_iconst (v := (4 : Int32)) d_Md_keep_33 (by decide) ?_
      refine b_iadd d_Md_keep_34  ?_
      refine b_iload_n d_Md_keep_35 rfl rfl ?_
      refine b_if_eq (tgt := 43) d_Md_keep_36 (by decide) (fun c10 => ?_) (fun c10 => ?_)
      · have H := H.1 c10
        refine b_iconst (v := (0 : Int32)) d_Md_keep_43 (by decide) ?_
        obtain ⟨h8, H⟩ := H
        refine b_iast (h1 := enc (sC τ7 28 (upd (gC τ7 28) (v6 + (4 : Int32)).toNatClampNeg (0 : Int32)))) d_Md_keep_44 (eg_182 τ7) h8 (es_182 τ7 (upd (gC τ7 28) (v6 + (4 : Int32)).toNatClampNeg (0 : Int32))) ?_
        refine b_iconst (v := (1 : Int32)) d_Md_keep_45 (by decide) ?_
        exact b_iret (ty := .boolean) d_Md_keep_46 rfl rfl ⟨_, _, rfl, rfl, H⟩
      · have H := H.2 c10
        refine b_iconst (v := (1 : Int32)) d_Md_keep_39 (by decide) ?_
        refine b_goto (tgt := 44) d_Md_keep_40 (by decide) ?_
        obtain ⟨h9, H⟩ := H
        refine b_iast (h1 := enc (sC τ7 28 (upd (gC τ7 28) (v6 + (4 : Int32)).toNatClampNeg (1 : Int32)))) d_Md_keep_44 (eg_182 τ7) h9 (es_182 τ7 (upd (gC τ7 28) (v6 + (4 : Int32)).toNatClampNeg (1 : Int32))) ?_
        refine b_iconst (v := (1 : Int32)) d_Md_keep_45 (by decide) ?_
        exact b_iret (ty := .boolean) d_Md_keep_46 rfl rfl ⟨_, _, rfl, rfl, H⟩
    · have H := H.2 c11
      refine b_iconst (v := (0 : Int32)) d_Md_keep_22 (by decide) ?_
      exact b_iret (ty := .boolean) d_Md_keep_23 rfl rfl ⟨_, _, rfl, rfl, H⟩
theorem C_Md_keep {S : XS} {Q : Int32 → St → Prop} (σ : St) (x1 : Int32) (x2 : Int32) (x3 : Int32) (H : BW S m_Md_keep 0 [some (.ref 153), some (.int x1), some (.int x2), some (.int x3)] [] (enc σ) (qI Q)) : CM S m_Md_keep [.ref 153, .int x1, .int x2, .int x3] (enc σ) (qI Q) := b_meth (by decide) (Nat.le_of_ble_eq_true rfl) rfl H
theorem d_Md_print_0 : decode m_Md_print.2.1 0 = .ok (.aload_n 0, 1) := by decide +kernel
theorem d_Md_print_1 : decode m_Md_print.2.1 1 = .ok (.iload_n 1, 1) := by decide +kernel
theorem d_Md_print_2 : decode m_Md_print.2.1 2 = .ok (.iload_n 2, 1) := by decide +kernel
theorem d_Md_print_3 : decode m_Md_print.2.1 3 = .ok (.invokevirtual 258, 3) := by decide +kernel
theorem d_Md_print_6 : decode m_Md_print.2.1 6 = .ok (.ifCond .eq 23, 3) := by decide +kernel
theorem d_Md_print_9 : decode m_Md_print.2.1 9 = .ok (.aload_n 0, 1) := by decide +kernel
theorem d_Md_print_10 : decode m_Md_print.2.1 10 = .ok (.getfield 138, 3) := by decide +kernel
theorem d_Md_print_13 : decode m_Md_print.2.1 13 = .ok (.iload_n 1, 1) := by decide +kernel
theorem d_Md_print_14 : decode m_Md_print.2.1 14 = .ok (.iaload, 1) := by decide +kernel
theorem d_Md_print_15 : decode m_Md_print.2.1 15 = .ok (.iconst (-1), 1) := by decide +kernel
theorem d_Md_print_16 : decode m_Md_print.2.1 16 = .ok (.if_icmp .eq 13, 3) := by decide +kernel
theorem d_Md_print_19 : decode m_Md_print.2.1 19 = .ok (.iload_n 3, 1) := by decide +kernel
theorem d_Md_print_20 : decode m_Md_print.2.1 20 = .ok (.iconst 1, 1) := by decide +kernel
theorem d_Md_print_21 : decode m_Md_print.2.1 21 = .ok (.ldc 173, 2) := by decide +kernel
theorem d_Md_print_23 : decode m_Md_print.2.1 23 = .ok (.invokestatic 174, 3) := by decide +kernel
theorem d_Md_print_26 : decode m_Md_print.2.1 26 = .ok (.ifCond .ne 5, 3) := by decide +kernel
theorem d_Md_print_29 : decode m_Md_print.2.1 29 = .ok (.iconst (-1), 1) := by decide +kernel
theorem d_Md_print_30 : decode m_Md_print.2.1 30 = .ok (.ireturn, 1) := by decide +kernel
theorem d_Md_print_31 : decode m_Md_print.2.1 31 = .ok (.iload_n 3, 1) := by decide +kernel
theorem d_Md_print_32 : decode m_Md_print.2.1 32 = .ok (.aload_n 0, 1) := by decide +kernel
theorem d_Md_print_33 : decode m_Md_print.2.1 33 = .ok (.getfield 147, 3) := by decide +kernel
theorem d_Md_print_36 : decode m_Md_print.2.1 36 = .ok (.imul, 1) := by decide +kernel
theorem d_Md_print_37 : decode m_Md_print.2.1 37 = .ok (.aload_n 0, 1) := by decide +kernel
theorem d_Md_print_38 : decode m_Md_print.2.1 38 = .ok (.getfield 141, 3) := by decide +kernel
theorem d_Md_print_41 : decode m_Md_print.2.1 41 = .ok (.iload_n 1, 1) := by decide +kernel
theorem d_Md_print_42 : decode m_Md_print.2.1 42 = .ok (.iload_n 2, 1) := by decide +kernel
theorem d_Md_print_43 : decode m_Md_print.2.1 43 = .ok (.invokestatic 295, 3) := by decide +kernel
theorem d_Md_print_46 : decode m_Md_print.2.1 46 = .ok (.iconst 4, 1) := by decide +kernel
theorem d_Md_print_47 : decode m_Md_print.2.1 47 = .ok (.iadd, 1) := by decide +kernel
theorem d_Md_print_48 : decode m_Md_print.2.1 48 = .ok (.iaload, 1) := by decide +kernel
theorem d_Md_print_49 : decode m_Md_print.2.1 49 = .ok (.iconst 1, 1) := by decide +kernel
theorem d_Md_print_50 : decode m_Md_print.2.1 50 = .ok (.if_icmp .ne 7, 3) := by decide +kernel
theorem d_Md_print_53 : decode m_Md_print.2.1 53 = .ok (.iconst 0, 1) := by decide +kernel
theorem d_Md_print_54 : decode m_Md_print.2.1 54 = .ok (.goto 7, 3) := by decide +kernel
theorem d_Md_print_57 : decode m_Md_print.2.1 57 = .ok (.aload_n 0, 1) := by decide +kernel
theorem d_Md_print_58 : decode m_Md_print.2.1 58 = .ok (.getfield 150, 3) := by decide +kernel
theorem d_Md_print_61 : decode m_Md_print.2.1 61 = .ok (.iadd, 1) := by decide +kernel
theorem d_Md_print_62 : decode m_Md_print.2.1 62 = .ok (.istore 4, 2) := by decide +kernel
theorem d_Md_print_64 : decode m_Md_print.2.1 64 = .ok (.aload_n 0, 1) := by decide +kernel
theorem d_Md_print_65 : decode m_Md_print.2.1 65 = .ok (.getfield 141, 3) := by decide +kernel
theorem d_Md_print_68 : decode m_Md_print.2.1 68 = .ok (.iload_n 1, 1) := by decide +kernel
theorem d_Md_print_69 : decode m_Md_print.2.1 69 = .ok (.iload_n 2, 1) := by decide +kernel
theorem d_Md_print_70 : decode m_Md_print.2.1 70 = .ok (.invokestatic 295, 3) := by decide +kernel
theorem d_Md_print_73 : decode m_Md_print.2.1 73 = .ok (.dup2, 1) := by decide +kernel
theorem d_Md_print_74 : decode m_Md_print.2.1 74 = .ok (.iaload, 1) := by decide +kernel
theorem d_Md_print_75 : decode m_Md_print.2.1 75 = .ok (.iload_n 3, 1) := by decide +kernel
theorem d_Md_print_76 : decode m_Md_print.2.1 76 = .ok (.iadd, 1) := by decide +kernel
theorem d_Md_print_77 : decode m_Md_print.2.1 77 = .ok (.iastore, 1) := by decide +kernel
theorem d_Md_print_78 : decode m_Md_print.2.1 78 = .ok (.aload_n 0, 1) := by decide +kernel
theorem d_Md_print_79 : decode m_Md_print.2.1 79 = .ok (.dup, 1) := by decide +kernel
theorem d_Md_print_80 : decode m_Md_print.2.1 80 = .ok (.getfield 156, 3) := by decide +kernel
theorem d_Md_print_83 : decode m_Md_print.2.1 83 = .ok (.iload 4, 2) := by decide +kernel
theorem d_Md_print_85 : decode m_Md_print.2.1 85 = .ok (.i2l, 1) := by decide +kernel
theorem d_Md_print_86 : decode m_Md_print.2.1 86 = .ok (.lsub, 1) := by decide +kernel
theorem d_Md_print_87 : decode m_Md_print.2.1 87 = .ok (.putfield 156, 3) := by decide +kernel
theorem d_Md_print_90 : decode m_Md_print.2.1 90 = .ok (.iload 4, 2) := by decide +kernel
theorem d_Md_print_92 : decode m_Md_print.2.1 92 = .ok (.ireturn, 1) := by decide +kernel
set_option maxHeartbeats 4000000 in
set_option maxRecDepth 100000 in
theorem B_Md_print_0 {S : XS} {Q : Int32 → St → Prop} (σ : St) (x1 : Int32) (x2 : Int32) (x3 : Int32) (H : CM S m_Md_isEdition [.ref 153, .int x1, .int x2] (enc σ) (qI (fun v1 τ2 => ((v1 = 0 → Q (-1 : Int32) τ2) ∧ (¬ v1 = 0 → (vp_in x1 24) ∧ ((((gC τ2 27) x1.toNatClampNeg) = (-1 : Int32) → Q (-1 : Int32) τ2) ∧ (¬ ((gC τ2 27) x1.toNatClampNeg) = (-1 : Int32) → CM S m_Md_is [.int x3, .int (1 : Int32), .int (100000 : Int32)] (enc τ2) (qI (fun v4 τ5 => ((¬ v4 = 0 → CM S m_Md_row [.int x1, .int x2] (enc τ5) (qI (fun v6 τ7 => (vp_in (v6 + (4 : Int32)) 480) ∧ ((¬ ((gC τ7 28) (v6 + (4 : Int32)).toNatClampNeg) = (1 : Int32) → CM S m_Md_row [.int x1, .int x2] (enc τ7) (qI (fun v9 τ10 => (vp_in v9 480) ∧ Q ((x3 * (gY τ5 16)) + (gY τ7 17)) (sQ (sC τ10 28 (upd (gC τ10 28) v9.toNatClampNeg (((gC τ10 28) v9.toNatClampNeg) + x3))) ((gQ τ10) - (((x3 * (gY τ5 16)) + (gY τ7 17))).toInt64))))) ∧ (((gC τ7 28) (v6 + (4 : Int32)).toNatClampNeg) = (1 : Int32) → CM S m_Md_row [.int x1, .int x2] (enc τ7) (qI (fun v12 τ13 => (vp_in v12 480) ∧ Q ((x3 * (gY τ5 16)) + (0 : Int32)) (sQ (sC τ13 28 (upd (gC τ13 28) v12.toNatClampNeg (((gC τ13 28) v12.toNatClampNeg) + x3))) ((gQ τ13) - (((x3 * (gY τ5 16)) + (0 : Int32))).toInt64))))))))) ∧ (v4 = 0 → Q (-1 : Int32) τ5))))))))))) : BW S m_Md_print 0 [some (.ref 153), some (.int x1), some (.int x2), some (.int x3), none] [] (enc σ) (qI Q) := by
  refine b_aload_n d_Md_print_0 rfl rfl ?_
  refine b_iload_n d_Md_print_1 rfl rfl ?_
  refine b_iload_n d_Md_print_2 rfl rfl ?_
  refine b_callVi (Mc := m_Md_isEdition) (As := [.int x1, .int x2]) (st := []) d_Md_print_3 ⟨⟨kA_Md_isEdition.1, kA_Md_isEdition.2.1, kA_Md_isEdition.2.2, by decide⟩, ml_Md_258, kV_Md_isEdition⟩ (eg_153 σ) rfl rfl (Nat.le_of_ble_eq_true rfl) H (fun v1 τ2 H => ?_)
  refine b_if_eq (tgt := 29) d_Md_print_6 (by decide) (fun c18 => ?_) (fun c18 => ?_)
  · have H := H.1 c18
    refine b_iconst (v := (-1 : Int32)) d_Md_print_29 (by decide) ?_
    exact b_iret (ty := .int) d_Md_print_30 rfl rfl ⟨_, _, rfl, rfl, H⟩
  · have H := H.2 c18
    refine b_aload_n d_Md_print_9 rfl rfl ?_
    refine b_getf (v := .ref 181) d_Md_print_10 fl_Md_138 (eg_153 τ2) rfl ?_
    refine b_iload_n d_Md_print_13 rfl rfl ?_
    obtain ⟨h3, H⟩ := H
    refine b_iald d_Md_print_14 (eg_181 τ2) h3 ?_
    refine b_st2 (st' := [.int ((gC τ2 27) x1.toNatClampNeg)]) rfl ?_
    refine b_iconst (v := (-1 : Int32)) d_Md_print_15 (by decide) ?_
    refine b_icmp_eq (tgt := 29) d_Md_print_16 (by decide) (fun c17 => ?_) (fun c17 => ?_)
    · have H := H.1 c17
      refine b_iconst (v := (-1 : Int32)) d_Md_print_29 (by decide) ?_
      exact b_iret (ty := .int) d_Md_print_30 rfl rfl ⟨_, _, rfl, rfl, H⟩
    · have H := H.2 c17
      refine b_iload_n d_Md_print_19 rfl rfl ?_
      refine b_iconst (v := (1 : Int32)) d_Md_print_20 (by decide) ?_
      refine b_ldc (v := (100000 : Int32)) d_Md_print_21 cn_Md_173 ?_
      refine b_callSi (Mc := m_Md_is) (As := [.int x3, .int (1 : Int32), .int (100000 : Int32)]) (st := []) d_Md_print_23 ⟨⟨kA_Md_is.1, kA_Md_is.2.1, kA_Md_is.2.2, by decide⟩, ml_Md_174, kS_Md_is⟩ rfl rfl (Nat.le_of_ble_eq_true rfl) H (fun v4 τ5 H => ?_)
      refine b_if_ne (tgt := 31) d_Md_print_26 (by decide) (fun c16 => ?_) (fun c16 => ?_)
      · have H := H.1 c16
        refine b_iload_n d_Md_print_31 rfl rfl ?_
        refine b_aload_n d_Md_print_32 rfl rfl ?_
        refine b_getf (v := .int (gY τ5 16)) d_Md_print_33 fl_Md_147 (eg_153 τ5) rfl ?_
        refine b_imul d_Md_print_36  ?_
        refine b_aload_n d_Md_print_37 rfl rfl ?_
        refine b_getf (v := .ref 182) d_Md_print_38 fl_Md_141 (eg_153 τ5) rfl ?_
        refine b_iload_n d_Md_print_41 rfl rfl ?_
        refine b_iload_n d_Md_print_42 rfl rfl ?_
        refine b_callSi (Mc := m_Md_row) (As := [.int x1, .int x2]) (st := [.ref 182, .int (x3 * (gY τ5 16))]) d_Md_print_43 ⟨⟨kA_Md_row.1, kA_Md_row.2.1, kA_Md_row.2.2, by decide⟩, ml_Md_295, kS_Md_row⟩ rfl rfl (Nat.le_of_ble_eq_true rfl) H (fun v6 τ7 H => ?_)
        refine b_iconst (v := (4 : Int32)) d_Md_print_46 (by decide) ?_
        refine b_iadd d_Md_print_47  ?_
        obtain ⟨h8, H⟩ := H
        refine b_iald d_Md_print_48 (eg_182 τ7) h8 ?_
        refine b_st2 (st' := [.int ((gC τ7 28) (v6 + (4 : Int32)).toNatClampNeg), .int (x3 * (gY τ5 16))]) rfl ?_
        refine b_iconst (v := (1 : Int32)) d_Md_print_49 (by decide) ?_
        refine b_icmp_ne (tgt := 57) d_Md_print_50 (by decide) (fun c15 => ?_) (fun c15 => ?_)
        · have H := H.1 c15
          refine b_aload_n d_Md_print_57 rfl rfl ?_
          refine b_getf (v := .int (gY τ7 17)) d_Md_print_58 fl_Md_150 (eg_153 τ7) rfl ?_
          refine b_iadd d_Md_print_61  ?_
          refine b_istore (ls' := [some (.ref 153), some (.int x1), some (.int x2), some (.int x3), some (.int ((x3 * (gY τ5 16)) + (gY τ7 17)))]) d_Md_print_62 (Nat.le_of_ble_eq_true rfl) rfl ?_
          refine b_aload_n d_Md_print_64 rfl rfl ?_
          refine b_getf (v := .ref 182) d_Md_print_65 fl_Md_141 (eg_153 τ7) rfl ?_
          refine b_iload_n d_Md_print_68 rfl rfl ?_
          refine b_iload_n d_Md_print_69 rfl rfl ?_
          refine b_callSi (Mc := m_Md_row) (As := [.int x1, .int x2]) (st := [.ref 182]) d_Md_print_70 ⟨⟨kA_Md_row.1, kA_Md_row.2.1, kA_Md_row.2.2, by decide⟩, ml_Md_295, kS_Md_row⟩ rfl rfl (Nat.le_of_ble_eq_true rfl) H (fun v9 τ10 H => ?_)
          refine b_dup2 d_Md_print_73 rfl rfl ?_
          obtain ⟨h11, H⟩ := H
          refine b_iald d_Md_print_74 (eg_182 τ10) h11 ?_
          refine b_st2 (st' := [.int ((gC τ10 28) v9.toNatClampNeg), .int v9, .ref 182]) rfl ?_
          refine b_iload_n d_Md_print_75 rfl rfl ?_
          refine b_iadd d_Md_print_76  ?_
          refine b_iast (h1 := enc (sC τ10 28 (upd (gC τ10 28) v9.toNatClampNeg (((gC τ10 28) v9.toNatClampNeg) + x3)))) d_Md_print_77 (eg_182 τ10) h11 (es_182 τ10 (upd (gC τ10 28) v9.toNatClampNeg (((gC τ10 28) v9.toNatClampNeg) + x3))) ?_
          refine b_aload_n d_Md_print_78 rfl rfl ?_
          refine b_dup d_Md_print_79 rfl ?_
          refine b_getf (v := .long (gQ τ10)) d_Md_print_80 fl_Md_156 (eg_153 (sC τ10 28 (upd (gC τ10 28) v9.toNatClampNeg (((gC τ10 28) v9.toNatClampNeg) + x3)))) rfl ?_
          refine b_iload d_Md_print_83 rfl ?_
          refine b_i2l d_Md_print_85 ?_
          refine b_lsub d_Md_print_86  ?_
          refine b_putf (ty := .long) (h1 := enc (sQ (sC τ10 28 (upd (gC τ10 28) v9.toNatClampNeg (((gC τ10 28) v9.toNatClampNeg) + x3))) ((gQ τ10) - (((x3 * (gY τ5 16)) + (gY τ7 17))).toInt64))) d_Md_print_87 fl_Md_156 ft_12_48 (fun _ => ⟨rfl, rfl⟩) (eg_153 (sC τ10 28 (upd (gC τ10 28) v9.toNatClampNeg (((gC τ10 28) v9.toNatClampNeg) + x3)))) (Nat.le_of_ble_eq_true rfl) (es_153_48 (sC τ10 28 (upd (gC τ10 28) v9.toNatClampNeg (((gC τ10 28) v9.toNatClampNeg) + x3))) ((gQ τ10) - (((x3 * (gY τ5 16)) + (gY τ7 17))).toInt64)) ?_
          refine b_iload d_Md_print_90 rfl ?_
          exact b_iret (ty := .int) d_Md_print_92 rfl rfl ⟨_, _, rfl, rfl, H⟩
        · have H := H.2 c15
          refine b_iconst (v := (0 : Int32)) d_Md_print_53 (by decide) ?_
          refine b_goto (tgt := 61) d_Md_print_54 (by decide) ?_
          refine b_iadd d_Md_print_61  ?_
          refine b_istore (ls' := [some (.ref 153), some (.int x1), some (.int x2), some (.int x3), some (.int ((x3 * (gY τ5 16)) + (0 : Int32)))]) d_Md_print_62 (Nat.le_of_ble_eq_true rfl) rfl ?_
          refine b_aload_n d_Md_print_64 rfl rfl ?_
          refine b_getf (v := .ref 182) d_Md_print_65 fl_Md_141 (eg_153 τ7) rfl ?_
          refine b_iload_n d_Md_print_68 rfl rfl ?_
          refine b_iload_n d_Md_print_69 rfl rfl ?_
          refine b_callSi (Mc := m_Md_row) (As := [.int x1, .int x2]) (st := [.ref 182]) d_Md_print_70 ⟨⟨kA_Md_row.1, kA_Md_row.2.1, kA_Md_row.2.2, by decide⟩, ml_Md_295, kS_Md_row⟩ rfl rfl (Nat.le_of_ble_eq_true rfl) H (fun v12 τ13 H => ?_)
          refine b_dup2 d_Md_print_73 rfl rfl ?_
          obtain ⟨h14, H⟩ := H
          refine b_iald d_Md_print_74 (eg_182 τ13) h14 ?_
          refine b_st2 (st' := [.int ((gC τ13 28) v12.toNatClampNeg), .int v12, .ref 182]) rfl ?_
          refine b_iload_n d_Md_print_75 rfl rfl ?_
          refine b_iadd d_Md_print_76  ?_
          refine b_iast (h1 := enc (sC τ13 28 (upd (gC τ13 28) v12.toNatClampNeg (((gC τ13 28) v12.toNatClampNeg) + x3)))) d_Md_print_77 (eg_182 τ13) h14 (es_182 τ13 (upd (gC τ13 28) v12.toNatClampNeg (((gC τ13 28) v12.toNatClampNeg) + x3))) ?_
          refine b_aload_n d_Md_print_78 rfl rfl ?_
          refine b_dup d_Md_print_79 rfl ?_
          refine b_getf (v := .long (gQ τ13)) d_Md_print_80 fl_Md_156 (eg_153 (sC τ13 28 (upd (gC τ13 28) v12.toNatClampNeg (((gC τ13 28) v12.toNatClampNeg) + x3)))) rfl ?_
          refine b_iload d_Md_print_83 rfl ?_
          refine b_i2l d_Md_print_85 ?_
          refine b_lsub d_Md_print_86  ?_
          refine b_putf (ty := .long) (h1 := enc (sQ (sC τ13 28 (upd (gC τ13 28) v12.toNatClampNeg (((gC τ13 28) v12.toNatClampNeg) + x3))) ((gQ τ13) - (((x3 * (gY τ5 16)) + (0 : Int32))).toInt64))) d_Md_print_87 fl_Md_156 ft_12_48 (fun _ => ⟨rfl, rfl⟩) (eg_153 (sC τ13 28 (upd (gC τ13 28) v12.toNatClampNeg (((gC τ13 28) v12.toNatClampNeg) + x3)))) (Nat.le_of_ble_eq_true rfl) (es_153_48 (sC τ13 28 (upd (gC τ13 28) v12.toNatClampNeg (((gC τ13 28) v12.toNatClampNeg) + x3))) ((gQ τ13) - (((x3 * (gY τ5 16)) + (0 : Int32))).toInt64)) ?_
          refine b_iload d_Md_print_90 rfl ?_
          exact b_iret (ty := .int) d_Md_print_92 rfl rfl ⟨_, _, rfl, rfl, H⟩
      · have H := H.2 c16
        refine b_iconst (v := (-1 : Int32)) d_Md_print_29 (by decide) ?_
        exact b_iret (ty := .int) d_Md_print_30 rfl rfl ⟨_, _, rfl, rfl, H⟩
theorem C_Md_print {S : XS} {Q : Int32 → St → Prop} (σ : St) (x1 : Int32) (x2 : Int32) (x3 : Int32) (H : BW S m_Md_print 0 [some (.ref 153), some (.int x1), some (.int x2), some (.int x3), none] [] (enc σ) (qI Q)) : CM S m_Md_print [.ref 153, .int x1, .int x2, .int x3] (enc σ) (qI Q) := b_meth (by decide) (Nat.le_of_ble_eq_true rfl) rfl H
theorem d_Md_sell_0 : decode m_Md_sell.2.1 0 = .ok (.aload_n 0, 1) := by decide +kernel
theorem d_Md_sell_1 : decode m_Md_sell.2.1 1 = .ok (.iload_n 1, 1) := by decide +kernel
theorem d_Md_sell_2 : decode m_Md_sell.2.1 2 = .ok (.iload_n 2, 1) := by decide +kernel
theorem d_Md_sell_3 : decode m_Md_sell.2.1 3 = .ok (.invokevirtual 258, 3) := by decide +kernel
theorem d_Md_sell_6 : decode m_Md_sell.2.1 6 = .ok (.ifCond .eq 18, 3) := by decide +kernel
theorem d_Md_sell_9 : decode m_Md_sell.2.1 9 = .ok (.iload_n 3, 1) := by decide +kernel
theorem d_Md_sell_10 : decode m_Md_sell.2.1 10 = .ok (.iconst 1, 1) := by decide +kernel
theorem d_Md_sell_11 : decode m_Md_sell.2.1 11 = .ok (.if_icmp .lt 13, 3) := by decide +kernel
theorem d_Md_sell_14 : decode m_Md_sell.2.1 14 = .ok (.iload_n 3, 1) := by decide +kernel
theorem d_Md_sell_15 : decode m_Md_sell.2.1 15 = .ok (.aload_n 0, 1) := by decide +kernel
theorem d_Md_sell_16 : decode m_Md_sell.2.1 16 = .ok (.iload_n 1, 1) := by decide +kernel
theorem d_Md_sell_17 : decode m_Md_sell.2.1 17 = .ok (.iload_n 2, 1) := by decide +kernel
theorem d_Md_sell_18 : decode m_Md_sell.2.1 18 = .ok (.invokevirtual 298, 3) := by decide +kernel
theorem d_Md_sell_21 : decode m_Md_sell.2.1 21 = .ok (.if_icmp .le 5, 3) := by decide +kernel
theorem d_Md_sell_24 : decode m_Md_sell.2.1 24 = .ok (.iconst (-1), 1) := by decide +kernel
theorem d_Md_sell_25 : decode m_Md_sell.2.1 25 = .ok (.ireturn, 1) := by decide +kernel
theorem d_Md_sell_26 : decode m_Md_sell.2.1 26 = .ok (.aload_n 0, 1) := by decide +kernel
theorem d_Md_sell_27 : decode m_Md_sell.2.1 27 = .ok (.getfield 141, 3) := by decide +kernel
theorem d_Md_sell_30 : decode m_Md_sell.2.1 30 = .ok (.iload_n 1, 1) := by decide +kernel
theorem d_Md_sell_31 : decode m_Md_sell.2.1 31 = .ok (.iload_n 2, 1) := by decide +kernel
theorem d_Md_sell_32 : decode m_Md_sell.2.1 32 = .ok (.invokestatic 295, 3) := by decide +kernel
theorem d_Md_sell_35 : decode m_Md_sell.2.1 35 = .ok (.iconst 1, 1) := by decide +kernel
theorem d_Md_sell_36 : decode m_Md_sell.2.1 36 = .ok (.iadd, 1) := by decide +kernel
theorem d_Md_sell_37 : decode m_Md_sell.2.1 37 = .ok (.dup2, 1) := by decide +kernel
theorem d_Md_sell_38 : decode m_Md_sell.2.1 38 = .ok (.iaload, 1) := by decide +kernel
theorem d_Md_sell_39 : decode m_Md_sell.2.1 39 = .ok (.iload_n 3, 1) := by decide +kernel
theorem d_Md_sell_40 : decode m_Md_sell.2.1 40 = .ok (.iadd, 1) := by decide +kernel
theorem d_Md_sell_41 : decode m_Md_sell.2.1 41 = .ok (.iastore, 1) := by decide +kernel
theorem d_Md_sell_42 : decode m_Md_sell.2.1 42 = .ok (.aload_n 0, 1) := by decide +kernel
theorem d_Md_sell_43 : decode m_Md_sell.2.1 43 = .ok (.dup, 1) := by decide +kernel
theorem d_Md_sell_44 : decode m_Md_sell.2.1 44 = .ok (.getfield 156, 3) := by decide +kernel
theorem d_Md_sell_47 : decode m_Md_sell.2.1 47 = .ok (.iload_n 3, 1) := by decide +kernel
theorem d_Md_sell_48 : decode m_Md_sell.2.1 48 = .ok (.i2l, 1) := by decide +kernel
theorem d_Md_sell_49 : decode m_Md_sell.2.1 49 = .ok (.aload_n 0, 1) := by decide +kernel
theorem d_Md_sell_50 : decode m_Md_sell.2.1 50 = .ok (.getfield 144, 3) := by decide +kernel
theorem d_Md_sell_53 : decode m_Md_sell.2.1 53 = .ok (.i2l, 1) := by decide +kernel
theorem d_Md_sell_54 : decode m_Md_sell.2.1 54 = .ok (.lmul, 1) := by decide +kernel
theorem d_Md_sell_55 : decode m_Md_sell.2.1 55 = .ok (.ladd, 1) := by decide +kernel
theorem d_Md_sell_56 : decode m_Md_sell.2.1 56 = .ok (.putfield 156, 3) := by decide +kernel
theorem d_Md_sell_59 : decode m_Md_sell.2.1 59 = .ok (.aload_n 0, 1) := by decide +kernel
theorem d_Md_sell_60 : decode m_Md_sell.2.1 60 = .ok (.iload_n 1, 1) := by decide +kernel
theorem d_Md_sell_61 : decode m_Md_sell.2.1 61 = .ok (.iload_n 2, 1) := by decide +kernel
theorem d_Md_sell_62 : decode m_Md_sell.2.1 62 = .ok (.invokevirtual 298, 3) := by decide +kernel
theorem d_Md_sell_65 : decode m_Md_sell.2.1 65 = .ok (.ireturn, 1) := by decide +kernel
set_option maxHeartbeats 4000000 in
set_option maxRecDepth 100000 in
theorem B_Md_sell_0 {S : XS} {Q : Int32 → St → Prop} (σ : St) (x1 : Int32) (x2 : Int32) (x3 : Int32) (H : CM S m_Md_isEdition [.ref 153, .int x1, .int x2] (enc σ) (qI (fun v1 τ2 => ((v1 = 0 → Q (-1 : Int32) τ2) ∧ (¬ v1 = 0 → ((x3 < (1 : Int32) → Q (-1 : Int32) τ2) ∧ (¬ x3 < (1 : Int32) → CM S m_Md_stays [.ref 153, .int x1, .int x2] (enc τ2) (qI (fun v3 τ4 => ((x3 ≤ v3 → CM S m_Md_row [.int x1, .int x2] (enc τ4) (qI (fun v5 τ6 => (vp_in (v5 + (1 : Int32)) 480) ∧ CM S m_Md_stays [.ref 153, .int x1, .int x2] (enc (sQ (sC τ6 28 (upd (gC τ6 28) (v5 + (1 : Int32)).toNatClampNeg (((gC τ6 28) (v5 + (1 : Int32)).toNatClampNeg) + x3))) ((gQ τ6) + ((x3).toInt64 * ((gY τ6 15)).toInt64)))) (qI (fun v8 τ9 => Q v8 τ9))))) ∧ (¬ x3 ≤ v3 → Q (-1 : Int32) τ4))))))))))) : BW S m_Md_sell 0 [some (.ref 153), some (.int x1), some (.int x2), some (.int x3)] [] (enc σ) (qI Q) := by
  refine b_aload_n d_Md_sell_0 rfl rfl ?_
  refine b_iload_n d_Md_sell_1 rfl rfl ?_
  refine b_iload_n d_Md_sell_2 rfl rfl ?_
  refine b_callVi (Mc := m_Md_isEdition) (As := [.int x1, .int x2]) (st := []) d_Md_sell_3 ⟨⟨kA_Md_isEdition.1, kA_Md_isEdition.2.1, kA_Md_isEdition.2.2, by decide⟩, ml_Md_258, kV_Md_isEdition⟩ (eg_153 σ) rfl rfl (Nat.le_of_ble_eq_true rfl) H (fun v1 τ2 H => ?_)
  refine b_if_eq (tgt := 24) d_Md_sell_6 (by decide) (fun c12 => ?_) (fun c12 => ?_)
  · have H := H.1 c12
    refine b_iconst (v := (-1 : Int32)) d_Md_sell_24 (by decide) ?_
    exact b_iret (ty := .int) d_Md_sell_25 rfl rfl ⟨_, _, rfl, rfl, H⟩
  · have H := H.2 c12
    refine b_iload_n d_Md_sell_9 rfl rfl ?_
    refine b_iconst (v := (1 : Int32)) d_Md_sell_10 (by decide) ?_
    refine b_icmp_lt (tgt := 24) d_Md_sell_11 (by decide) (fun c11 => ?_) (fun c11 => ?_)
    · have H := H.1 c11
      refine b_iconst (v := (-1 : Int32)) d_Md_sell_24 (by decide) ?_
      exact b_iret (ty := .int) d_Md_sell_25 rfl rfl ⟨_, _, rfl, rfl, H⟩
    · have H := H.2 c11
      refine b_iload_n d_Md_sell_14 rfl rfl ?_
      refine b_aload_n d_Md_sell_15 rfl rfl ?_
      refine b_iload_n d_Md_sell_16 rfl rfl ?_
      refine b_iload_n d_Md_sell_17 rfl rfl ?_
      refine b_callVi (Mc := m_Md_stays) (As := [.int x1, .int x2]) (st := [.int x3]) d_Md_sell_18 ⟨⟨kA_Md_stays.1, kA_Md_stays.2.1, kA_Md_stays.2.2, by decide⟩, ml_Md_298, kV_Md_stays⟩ (eg_153 τ2) rfl rfl (Nat.le_of_ble_eq_true rfl) H (fun v3 τ4 H => ?_)
      refine b_icmp_le (tgt := 26) d_Md_sell_21 (by decide) (fun c10 => ?_) (fun c10 => ?_)
      · have H := H.1 c10
        refine b_aload_n d_Md_sell_26 rfl rfl ?_
        refine b_getf (v := .ref 182) d_Md_sell_27 fl_Md_141 (eg_153 τ4) rfl ?_
        refine b_iload_n d_Md_sell_30 rfl rfl ?_
        refine b_iload_n d_Md_sell_31 rfl rfl ?_
        refine b_callSi (Mc := m_Md_row) (As := [.int x1, .int x2]) (st := [.ref 182]) d_Md_sell_32 ⟨⟨kA_Md_row.1, kA_Md_row.2.1, kA_Md_row.2.2, by decide⟩, ml_Md_295, kS_Md_row⟩ rfl rfl (Nat.le_of_ble_eq_true rfl) H (fun v5 τ6 H => ?_)
        refine b_iconst (v := (1 : Int32)) d_Md_sell_35 (by decide) ?_
        refine b_iadd d_Md_sell_36  ?_
        refine b_dup2 d_Md_sell_37 rfl rfl ?_
        obtain ⟨h7, H⟩ := H
        refine b_iald d_Md_sell_38 (eg_182 τ6) h7 ?_
        refine b_st2 (st' := [.int ((gC τ6 28) (v5 + (1 : Int32)).toNatClampNeg), .int (v5 + (1 : Int32)), .ref 182]) rfl ?_
        refine b_iload_n d_Md_sell_39 rfl rfl ?_
        refine b_iadd d_Md_sell_40  ?_
        refine b_iast (h1 := enc (sC τ6 28 (upd (gC τ6 28) (v5 + (1 : Int32)).toNatClampNeg (((gC τ6 28) (v5 + (1 : Int32)).toNatClampNeg) + x3)))) d_Md_sell_41 (eg_182 τ6) h7 (es_182 τ6 (upd (gC τ6 28) (v5 + (1 : Int32)).toNatClampNeg (((gC τ6 28) (v5 + (1 : Int32)).toNatClampNeg) + x3))) ?_
        refine b_aload_n d_Md_sell_42 rfl rfl ?_
        refine b_dup d_Md_sell_43 rfl ?_
        refine b_getf (v := .long (gQ τ6)) d_Md_sell_44 fl_Md_156 (eg_153 (sC τ6 28 (upd (gC τ6 28) (v5 + (1 : Int32)).toNatClampNeg (((gC τ6 28) (v5 + (1 : Int32)).toNatClampNeg) + x3)))) rfl ?_
        refine b_iload_n d_Md_sell_47 rfl rfl ?_
        refine b_i2l d_Md_sell_48 ?_
        refine b_aload_n d_Md_sell_49 rfl rfl ?_
        refine b_getf (v := .int (gY τ6 15)) d_Md_sell_50 fl_Md_144 (eg_153 (sC τ6 28 (upd (gC τ6 28) (v5 + (1 : Int32)).toNatClampNeg (((gC τ6 28) (v5 + (1 : Int32)).toNatClampNeg) + x3)))) rfl ?_
        refine b_i2l d_Md_sell_53 ?_
        refine b_lmul d_Md_sell_54  ?_
        refine b_ladd d_Md_sell_55  ?_
        refine b_putf (ty := .long) (h1 := enc (sQ (sC τ6 28 (upd (gC τ6 28) (v5 + (1 : Int32)).toNatClampNeg (((gC τ6 28) (v5 + (1 : Int32)).toNatClampNeg) + x3))) ((gQ τ6) + ((x3).toInt64 * ((gY τ6 15)).toInt64)))) d_Md_sell_56 fl_Md_156 ft_12_48 (fun _ => ⟨rfl, rfl⟩) (eg_153 (sC τ6 28 (upd (gC τ6 28) (v5 + (1 : Int32)).toNatClampNeg (((gC τ6 28) (v5 + (1 : Int32)).toNatClampNeg) + x3)))) (Nat.le_of_ble_eq_true rfl) (es_153_48 (sC τ6 28 (upd (gC τ6 28) (v5 + (1 : Int32)).toNatClampNeg (((gC τ6 28) (v5 + (1 : Int32)).toNatClampNeg) + x3))) ((gQ τ6) + ((x3).toInt64 * ((gY τ6 15)).toInt64))) ?_
        refine b_aload_n d_Md_sell_59 rfl rfl ?_
        refine b_iload_n d_Md_sell_60 rfl rfl ?_
        refine b_iload_n d_Md_sell_61 rfl rfl ?_
        refine b_callVi (Mc := m_Md_stays) (As := [.int x1, .int x2]) (st := []) d_Md_sell_62 ⟨⟨kA_Md_stays.1, kA_Md_stays.2.1, kA_Md_stays.2.2, by decide⟩, ml_Md_298, kV_Md_stays⟩ (eg_153 (sQ (sC τ6 28 (upd (gC τ6 28) (v5 + (1 : Int32)).toNatClampNeg (((gC τ6 28) (v5 + (1 : Int32)).toNatClampNeg) + x3))) ((gQ τ6) + ((x3).toInt64 * ((gY τ6 15)).toInt64)))) rfl rfl (Nat.le_of_ble_eq_true rfl) H (fun v8 τ9 H => ?_)
        exact b_iret (ty := .int) d_Md_sell_65 rfl rfl ⟨_, _, rfl, rfl, H⟩
      · have H := H.2 c10
        refine b_iconst (v := (-1 : Int32)) d_Md_sell_24 (by decide) ?_
        exact b_iret (ty := .int) d_Md_sell_25 rfl rfl ⟨_, _, rfl, rfl, H⟩
theorem C_Md_sell {S : XS} {Q : Int32 → St → Prop} (σ : St) (x1 : Int32) (x2 : Int32) (x3 : Int32) (H : BW S m_Md_sell 0 [some (.ref 153), some (.int x1), some (.int x2), some (.int x3)] [] (enc σ) (qI Q)) : CM S m_Md_sell [.ref 153, .int x1, .int x2, .int x3] (enc σ) (qI Q) := b_meth (by decide) (Nat.le_of_ble_eq_true rfl) rfl H
theorem d_Md_pulp_0 : decode m_Md_pulp.2.1 0 = .ok (.aload_n 0, 1) := by decide +kernel
theorem d_Md_pulp_1 : decode m_Md_pulp.2.1 1 = .ok (.iload_n 1, 1) := by decide +kernel
theorem d_Md_pulp_2 : decode m_Md_pulp.2.1 2 = .ok (.iload_n 2, 1) := by decide +kernel
theorem d_Md_pulp_3 : decode m_Md_pulp.2.1 3 = .ok (.invokevirtual 258, 3) := by decide +kernel
theorem d_Md_pulp_6 : decode m_Md_pulp.2.1 6 = .ok (.ifCond .ne 5, 3) := by decide +kernel
theorem d_Md_pulp_9 : decode m_Md_pulp.2.1 9 = .ok (.iconst (-1), 1) := by decide +kernel
theorem d_Md_pulp_10 : decode m_Md_pulp.2.1 10 = .ok (.ireturn, 1) := by decide +kernel
theorem d_Md_pulp_11 : decode m_Md_pulp.2.1 11 = .ok (.aload_n 0, 1) := by decide +kernel
theorem d_Md_pulp_12 : decode m_Md_pulp.2.1 12 = .ok (.iload_n 1, 1) := by decide +kernel
theorem d_Md_pulp_13 : decode m_Md_pulp.2.1 13 = .ok (.iload_n 2, 1) := by decide +kernel
theorem d_Md_pulp_14 : decode m_Md_pulp.2.1 14 = .ok (.invokevirtual 298, 3) := by decide +kernel
theorem d_Md_pulp_17 : decode m_Md_pulp.2.1 17 = .ok (.istore_n 3, 1) := by decide +kernel
theorem d_Md_pulp_18 : decode m_Md_pulp.2.1 18 = .ok (.aload_n 0, 1) := by decide +kernel
theorem d_Md_pulp_19 : decode m_Md_pulp.2.1 19 = .ok (.getfield 141, 3) := by decide +kernel
theorem d_Md_pulp_22 : decode m_Md_pulp.2.1 22 = .ok (.iload_n 1, 1) := by decide +kernel
theorem d_Md_pulp_23 : decode m_Md_pulp.2.1 23 = .ok (.iload_n 2, 1) := by decide +kernel
theorem d_Md_pulp_24 : decode m_Md_pulp.2.1 24 = .ok (.invokestatic 295, 3) := by decide +kernel
theorem d_Md_pulp_27 : decode m_Md_pulp.2.1 27 = .ok (.iconst 2, 1) := by decide +kernel
theorem d_Md_pulp_28 : decode m_Md_pulp.2.1 28 = .ok (.iadd, 1) := by decide +kernel
theorem d_Md_pulp_29 : decode m_Md_pulp.2.1 29 = .ok (.dup2, 1) := by decide +kernel
theorem d_Md_pulp_30 : decode m_Md_pulp.2.1 30 = .ok (.iaload, 1) := by decide +kernel
theorem d_Md_pulp_31 : decode m_Md_pulp.2.1 31 = .ok (.iload_n 3, 1) := by decide +kernel
theorem d_Md_pulp_32 : decode m_Md_pulp.2.1 32 = .ok (.iadd, 1) := by decide +kernel
theorem d_Md_pulp_33 : decode m_Md_pulp.2.1 33 = .ok (.iastore, 1) := by decide +kernel
theorem d_Md_pulp_34 : decode m_Md_pulp.2.1 34 = .ok (.aload_n 0, 1) := by decide +kernel
theorem d_Md_pulp_35 : decode m_Md_pulp.2.1 35 = .ok (.dup, 1) := by decide +kernel
theorem d_Md_pulp_36 : decode m_Md_pulp.2.1 36 = .ok (.getfield 156, 3) := by decide +kernel
theorem d_Md_pulp_39 : decode m_Md_pulp.2.1 39 = .ok (.iload_n 3, 1) := by decide +kernel
theorem d_Md_pulp_40 : decode m_Md_pulp.2.1 40 = .ok (.i2l, 1) := by decide +kernel
theorem d_Md_pulp_41 : decode m_Md_pulp.2.1 41 = .ok (.aload_n 0, 1) := by decide +kernel
theorem d_Md_pulp_42 : decode m_Md_pulp.2.1 42 = .ok (.getfield 153, 3) := by decide +kernel
theorem d_Md_pulp_45 : decode m_Md_pulp.2.1 45 = .ok (.i2l, 1) := by decide +kernel
theorem d_Md_pulp_46 : decode m_Md_pulp.2.1 46 = .ok (.lmul, 1) := by decide +kernel
theorem d_Md_pulp_47 : decode m_Md_pulp.2.1 47 = .ok (.ladd, 1) := by decide +kernel
theorem d_Md_pulp_48 : decode m_Md_pulp.2.1 48 = .ok (.putfield 156, 3) := by decide +kernel
theorem d_Md_pulp_51 : decode m_Md_pulp.2.1 51 = .ok (.iload_n 3, 1) := by decide +kernel
theorem d_Md_pulp_52 : decode m_Md_pulp.2.1 52 = .ok (.ireturn, 1) := by decide +kernel
set_option maxHeartbeats 4000000 in
set_option maxRecDepth 100000 in
theorem B_Md_pulp_0 {S : XS} {Q : Int32 → St → Prop} (σ : St) (x1 : Int32) (x2 : Int32) (H : CM S m_Md_isEdition [.ref 153, .int x1, .int x2] (enc σ) (qI (fun v1 τ2 => ((¬ v1 = 0 → CM S m_Md_stays [.ref 153, .int x1, .int x2] (enc τ2) (qI (fun v3 τ4 => CM S m_Md_row [.int x1, .int x2] (enc τ4) (qI (fun v5 τ6 => (vp_in (v5 + (2 : Int32)) 480) ∧ Q v3 (sQ (sC τ6 28 (upd (gC τ6 28) (v5 + (2 : Int32)).toNatClampNeg (((gC τ6 28) (v5 + (2 : Int32)).toNatClampNeg) + v3))) ((gQ τ6) + ((v3).toInt64 * ((gY τ6 18)).toInt64)))))))) ∧ (v1 = 0 → Q (-1 : Int32) τ2))))) : BW S m_Md_pulp 0 [some (.ref 153), some (.int x1), some (.int x2), none] [] (enc σ) (qI Q) := by
  refine b_aload_n d_Md_pulp_0 rfl rfl ?_
  refine b_iload_n d_Md_pulp_1 rfl rfl ?_
  refine b_iload_n d_Md_pulp_2 rfl rfl ?_
  refine b_callVi (Mc := m_Md_isEdition) (As := [.int x1, .int x2]) (st := []) d_Md_pulp_3 ⟨⟨kA_Md_isEdition.1, kA_Md_isEdition.2.1, kA_Md_isEdition.2.2, by decide⟩, ml_Md_258, kV_Md_isEdition⟩ (eg_153 σ) rfl rfl (Nat.le_of_ble_eq_true rfl) H (fun v1 τ2 H => ?_)
  refine b_if_ne (tgt := 11) d_Md_pulp_6 (by decide) (fun c8 => ?_) (fun c8 => ?_)
  · have H := H.1 c8
    refine b_aload_n d_Md_pulp_11 rfl rfl ?_
    refine b_iload_n d_Md_pulp_12 rfl rfl ?_
    refine b_iload_n d_Md_pulp_13 rfl rfl ?_
    refine b_callVi (Mc := m_Md_stays) (As := [.int x1, .int x2]) (st := []) d_Md_pulp_14 ⟨⟨kA_Md_stays.1, kA_Md_stays.2.1, kA_Md_stays.2.2, by decide⟩, ml_Md_298, kV_Md_stays⟩ (eg_153 τ2) rfl rfl (Nat.le_of_ble_eq_true rfl) H (fun v3 τ4 H => ?_)
    refine b_istore_n (ls' := [some (.ref 153), some (.int x1), some (.int x2), some (.int v3)]) d_Md_pulp_17 rfl (Nat.le_of_ble_eq_true rfl) rfl ?_
    refine b_aload_n d_Md_pulp_18 rfl rfl ?_
    refine b_getf (v := .ref 182) d_Md_pulp_19 fl_Md_141 (eg_153 τ4) rfl ?_
    refine b_iload_n d_Md_pulp_22 rfl rfl ?_
    refine b_iload_n d_Md_pulp_23 rfl rfl ?_
    refine b_callSi (Mc := m_Md_row) (As := [.int x1, .int x2]) (st := [.ref 182]) d_Md_pulp_24 ⟨⟨kA_Md_row.1, kA_Md_row.2.1, kA_Md_row.2.2, by decide⟩, ml_Md_295, kS_Md_row⟩ rfl rfl (Nat.le_of_ble_eq_true rfl) H (fun v5 τ6 H => ?_)
    refine b_iconst (v := (2 : Int32)) d_Md_pulp_27 (by decide) ?_
    refine b_iadd d_Md_pulp_28  ?_
    refine b_dup2 d_Md_pulp_29 rfl rfl ?_
    obtain ⟨h7, H⟩ := H
    refine b_iald d_Md_pulp_30 (eg_182 τ6) h7 ?_
    refine b_st2 (st' := [.int ((gC τ6 28) (v5 + (2 : Int32)).toNatClampNeg), .int (v5 + (2 : Int32)), .ref 182]) rfl ?_
    refine b_iload_n d_Md_pulp_31 rfl rfl ?_
    refine b_iadd d_Md_pulp_32  ?_
    refine b_iast (h1 := enc (sC τ6 28 (upd (gC τ6 28) (v5 + (2 : Int32)).toNatClampNeg (((gC τ6 28) (v5 + (2 : Int32)).toNatClampNeg) + v3)))) d_Md_pulp_33 (eg_182 τ6) h7 (es_182 τ6 (upd (gC τ6 28) (v5 + (2 : Int32)).toNatClampNeg (((gC τ6 28) (v5 + (2 : Int32)).toNatClampNeg) + v3))) ?_
    refine b_aload_n d_Md_pulp_34 rfl rfl ?_
    refine b_dup d_Md_pulp_35 rfl ?_
    refine b_getf (v := .long (gQ τ6)) d_Md_pulp_36 fl_Md_156 (eg_153 (sC τ6 28 (upd (gC τ6 28) (v5 + (2 : Int32)).toNatClampNeg (((gC τ6 28) (v5 + (2 : Int32)).toNatClampNeg) + v3)))) rfl ?_
    refine b_iload_n d_Md_pulp_39 rfl rfl ?_
    refine b_i2l d_Md_pulp_40 ?_
    refine b_aload_n d_Md_pulp_41 rfl rfl ?_
    refine b_getf (v := .int (gY τ6 18)) d_Md_pulp_42 fl_Md_153 (eg_153 (sC τ6 28 (upd (gC τ6 28) (v5 + (2 : Int32)).toNatClampNeg (((gC τ6 28) (v5 + (2 : Int32)).toNatClampNeg) + v3)))) rfl ?_
    refine b_i2l d_Md_pulp_45 ?_
    refine b_lmul d_Md_pulp_46  ?_
    refine b_ladd d_Md_pulp_47  ?_
    refine b_putf (ty := .long) (h1 := enc (sQ (sC τ6 28 (upd (gC τ6 28) (v5 + (2 : Int32)).toNatClampNeg (((gC τ6 28) (v5 + (2 : Int32)).toNatClampNeg) + v3))) ((gQ τ6) + ((v3).toInt64 * ((gY τ6 18)).toInt64)))) d_Md_pulp_48 fl_Md_156 ft_12_48 (fun _ => ⟨rfl, rfl⟩) (eg_153 (sC τ6 28 (upd (gC τ6 28) (v5 + (2 : Int32)).toNatClampNeg (((gC τ6 28) (v5 + (2 : Int32)).toNatClampNeg) + v3)))) (Nat.le_of_ble_eq_true rfl) (es_153_48 (sC τ6 28 (upd (gC τ6 28) (v5 + (2 : Int32)).toNatClampNeg (((gC τ6 28) (v5 + (2 : Int32)).toNatClampNeg) + v3))) ((gQ τ6) + ((v3).toInt64 * ((gY τ6 18)).toInt64))) ?_
    refine b_iload_n d_Md_pulp_51 rfl rfl ?_
    exact b_iret (ty := .int) d_Md_pulp_52 rfl rfl ⟨_, _, rfl, rfl, H⟩
  · have H := H.2 c8
    refine b_iconst (v := (-1 : Int32)) d_Md_pulp_9 (by decide) ?_
    exact b_iret (ty := .int) d_Md_pulp_10 rfl rfl ⟨_, _, rfl, rfl, H⟩
theorem C_Md_pulp {S : XS} {Q : Int32 → St → Prop} (σ : St) (x1 : Int32) (x2 : Int32) (H : BW S m_Md_pulp 0 [some (.ref 153), some (.int x1), some (.int x2), none] [] (enc σ) (qI Q)) : CM S m_Md_pulp [.ref 153, .int x1, .int x2] (enc σ) (qI Q) := b_meth (by decide) (Nat.le_of_ble_eq_true rfl) rfl H
theorem d_Md_stock_0 : decode m_Md_stock.2.1 0 = .ok (.aload_n 0, 1) := by decide +kernel
theorem d_Md_stock_1 : decode m_Md_stock.2.1 1 = .ok (.iload_n 1, 1) := by decide +kernel
theorem d_Md_stock_2 : decode m_Md_stock.2.1 2 = .ok (.iload_n 2, 1) := by decide +kernel
theorem d_Md_stock_3 : decode m_Md_stock.2.1 3 = .ok (.invokevirtual 258, 3) := by decide +kernel
theorem d_Md_stock_6 : decode m_Md_stock.2.1 6 = .ok (.ifCond .eq 12, 3) := by decide +kernel
theorem d_Md_stock_9 : decode m_Md_stock.2.1 9 = .ok (.iload_n 3, 1) := by decide +kernel
theorem d_Md_stock_10 : decode m_Md_stock.2.1 10 = .ok (.iconst 0, 1) := by decide +kernel
theorem d_Md_stock_11 : decode m_Md_stock.2.1 11 = .ok (.iconst 5, 1) := by decide +kernel
theorem d_Md_stock_12 : decode m_Md_stock.2.1 12 = .ok (.invokestatic 174, 3) := by decide +kernel
theorem d_Md_stock_15 : decode m_Md_stock.2.1 15 = .ok (.ifCond .ne 5, 3) := by decide +kernel
theorem d_Md_stock_18 : decode m_Md_stock.2.1 18 = .ok (.iconst (-1), 1) := by decide +kernel
theorem d_Md_stock_19 : decode m_Md_stock.2.1 19 = .ok (.ireturn, 1) := by decide +kernel
theorem d_Md_stock_20 : decode m_Md_stock.2.1 20 = .ok (.iload_n 3, 1) := by decide +kernel
theorem d_Md_stock_21 : decode m_Md_stock.2.1 21 = .ok (.iconst 4, 1) := by decide +kernel
theorem d_Md_stock_22 : decode m_Md_stock.2.1 22 = .ok (.if_icmp .ge 18, 3) := by decide +kernel
theorem d_Md_stock_25 : decode m_Md_stock.2.1 25 = .ok (.aload_n 0, 1) := by decide +kernel
theorem d_Md_stock_26 : decode m_Md_stock.2.1 26 = .ok (.getfield 141, 3) := by decide +kernel
theorem d_Md_stock_29 : decode m_Md_stock.2.1 29 = .ok (.iload_n 1, 1) := by decide +kernel
theorem d_Md_stock_30 : decode m_Md_stock.2.1 30 = .ok (.iload_n 2, 1) := by decide +kernel
theorem d_Md_stock_31 : decode m_Md_stock.2.1 31 = .ok (.invokestatic 295, 3) := by decide +kernel
theorem d_Md_stock_34 : decode m_Md_stock.2.1 34 = .ok (.iload_n 3, 1) := by decide +kernel
theorem d_Md_stock_35 : decode m_Md_stock.2.1 35 = .ok (.iadd, 1) := by decide +kernel
theorem d_Md_stock_36 : decode m_Md_stock.2.1 36 = .ok (.iaload, 1) := by decide +kernel
theorem d_Md_stock_37 : decode m_Md_stock.2.1 37 = .ok (.goto 29, 3) := by decide +kernel
theorem d_Md_stock_40 : decode m_Md_stock.2.1 40 = .ok (.iload_n 3, 1) := by decide +kernel
theorem d_Md_stock_41 : decode m_Md_stock.2.1 41 = .ok (.iconst 4, 1) := by decide +kernel
theorem d_Md_stock_42 : decode m_Md_stock.2.1 42 = .ok (.if_icmp .ne 12, 3) := by decide +kernel
theorem d_Md_stock_45 : decode m_Md_stock.2.1 45 = .ok (.aload_n 0, 1) := by decide +kernel
theorem d_Md_stock_46 : decode m_Md_stock.2.1 46 = .ok (.iload_n 1, 1) := by decide +kernel
theorem d_Md_stock_47 : decode m_Md_stock.2.1 47 = .ok (.iload_n 2, 1) := by decide +kernel
theorem d_Md_stock_48 : decode m_Md_stock.2.1 48 = .ok (.invokevirtual 298, 3) := by decide +kernel
theorem d_Md_stock_51 : decode m_Md_stock.2.1 51 = .ok (.goto 15, 3) := by decide +kernel
theorem d_Md_stock_54 : decode m_Md_stock.2.1 54 = .ok (.aload_n 0, 1) := by decide +kernel
theorem d_Md_stock_55 : decode m_Md_stock.2.1 55 = .ok (.getfield 141, 3) := by decide +kernel
theorem d_Md_stock_58 : decode m_Md_stock.2.1 58 = .ok (.iload_n 1, 1) := by decide +kernel
theorem d_Md_stock_59 : decode m_Md_stock.2.1 59 = .ok (.iload_n 2, 1) := by decide +kernel
theorem d_Md_stock_60 : decode m_Md_stock.2.1 60 = .ok (.invokestatic 295, 3) := by decide +kernel
theorem d_Md_stock_63 : decode m_Md_stock.2.1 63 = .ok (.iconst 4, 1) := by decide +kernel
theorem d_Md_stock_64 : decode m_Md_stock.2.1 64 = .ok (.iadd, 1) := by decide +kernel
theorem d_Md_stock_65 : decode m_Md_stock.2.1 65 = .ok (.iaload, 1) := by decide +kernel
theorem d_Md_stock_66 : decode m_Md_stock.2.1 66 = .ok (.ireturn, 1) := by decide +kernel
set_option maxHeartbeats 4000000 in
set_option maxRecDepth 100000 in
theorem B_Md_stock_0 {S : XS} {Q : Int32 → St → Prop} (σ : St) (x1 : Int32) (x2 : Int32) (x3 : Int32) (H : CM S m_Md_isEdition [.ref 153, .int x1, .int x2] (enc σ) (qI (fun v1 τ2 => ((v1 = 0 → Q (-1 : Int32) τ2) ∧ (¬ v1 = 0 → CM S m_Md_is [.int x3, .int (0 : Int32), .int (5 : Int32)] (enc τ2) (qI (fun v3 τ4 => ((¬ v3 = 0 → (((4 : Int32) ≤ x3 → ((¬ x3 = (4 : Int32) → CM S m_Md_row [.int x1, .int x2] (enc τ4) (qI (fun v5 τ6 => (vp_in (v5 + (4 : Int32)) 480) ∧ Q ((gC τ6 28) (v5 + (4 : Int32)).toNatClampNeg) τ6))) ∧ (x3 = (4 : Int32) → CM S m_Md_stays [.ref 153, .int x1, .int x2] (enc τ4) (qI (fun v8 τ9 => Q v8 τ9))))) ∧ (¬ (4 : Int32) ≤ x3 → CM S m_Md_row [.int x1, .int x2] (enc τ4) (qI (fun v11 τ12 => (vp_in (v11 + x3) 480) ∧ Q ((gC τ12 28) (v11 + x3).toNatClampNeg) τ12))))) ∧ (v3 = 0 → Q (-1 : Int32) τ4))))))))) : BW S m_Md_stock 0 [some (.ref 153), some (.int x1), some (.int x2), some (.int x3)] [] (enc σ) (qI Q) := by
  refine b_aload_n d_Md_stock_0 rfl rfl ?_
  refine b_iload_n d_Md_stock_1 rfl rfl ?_
  refine b_iload_n d_Md_stock_2 rfl rfl ?_
  refine b_callVi (Mc := m_Md_isEdition) (As := [.int x1, .int x2]) (st := []) d_Md_stock_3 ⟨⟨kA_Md_isEdition.1, kA_Md_isEdition.2.1, kA_Md_isEdition.2.2, by decide⟩, ml_Md_258, kV_Md_isEdition⟩ (eg_153 σ) rfl rfl (Nat.le_of_ble_eq_true rfl) H (fun v1 τ2 H => ?_)
  refine b_if_eq (tgt := 18) d_Md_stock_6 (by decide) (fun c16 => ?_) (fun c16 => ?_)
  · have H := H.1 c16
    refine b_iconst (v := (-1 : Int32)) d_Md_stock_18 (by decide) ?_
    exact b_iret (ty := .int) d_Md_stock_19 rfl rfl ⟨_, _, rfl, rfl, H⟩
  · have H := H.2 c16
    refine b_iload_n d_Md_stock_9 rfl rfl ?_
    refine b_iconst (v := (0 : Int32)) d_Md_stock_10 (by decide) ?_
    refine b_iconst (v := (5 : Int32)) d_Md_stock_11 (by decide) ?_
    refine b_callSi (Mc := m_Md_is) (As := [.int x3, .int (0 : Int32), .int (5 : Int32)]) (st := []) d_Md_stock_12 ⟨⟨kA_Md_is.1, kA_Md_is.2.1, kA_Md_is.2.2, by decide⟩, ml_Md_174, kS_Md_is⟩ rfl rfl (Nat.le_of_ble_eq_true rfl) H (fun v3 τ4 H => ?_)
    refine b_if_ne (tgt := 20) d_Md_stock_15 (by decide) (fun c15 => ?_) (fun c15 => ?_)
    · have H := H.1 c15
      refine b_iload_n d_Md_stock_20 rfl rfl ?_
      refine b_iconst (v := (4 : Int32)) d_Md_stock_21 (by decide) ?_
      refine b_icmp_ge (tgt := 40) d_Md_stock_22 (by decide) (fun c14 => ?_) (fun c14 => ?_)
      · have H := H.1 c14
        refine b_iload_n d_Md_stock_40 rfl rfl ?_
        refine b_iconst (v := (4 : Int32)) d_Md_stock_41 (by decide) ?_
        refine b_icmp_ne (tgt := 54) d_Md_stock_42 (by decide) (fun c10 => ?_) (fun c10 => ?_)
        · have H := H.1 c10
          refine b_aload_n d_Md_stock_54 rfl rfl ?_
          refine b_getf (v := .ref 182) d_Md_stock_55 fl_Md_141 (eg_153 τ4) rfl ?_
          refine b_iload_n d_Md_stock_58 rfl rfl ?_
          refine b_iload_n d_Md_stock_59 rfl rfl ?_
          refine b_callSi (Mc := m_Md_row) (As := [.int x1, .int x2]) (st := [.ref 182]) d_Md_stock_60 ⟨⟨kA_Md_row.1, kA_Md_row.2.1, kA_Md_row.2.2, by decide⟩, ml_Md_295, kS_Md_row⟩ rfl rfl (Nat.le_of_ble_eq_true rfl) H (fun v5 τ6 H => ?_)
          refine b_iconst (v := (4 : Int32)) d_Md_stock_63 (by decide) ?_
          refine b_iadd d_Md_stock_64  ?_
          obtain ⟨h7, H⟩ := H
          refine b_iald d_Md_stock_65 (eg_182 τ6) h7 ?_
          refine b_st2 (st' := [.int ((gC τ6 28) (v5 + (4 : Int32)).toNatClampNeg)]) rfl ?_
          exact b_iret (ty := .int) d_Md_stock_66 rfl rfl ⟨_, _, rfl, rfl, H⟩
        · have H := H.2 c10
          refine b_aload_n d_Md_stock_45 rfl rfl ?_
          refine b_iload_n d_Md_stock_46 rfl rfl ?_
          refine b_iload_n d_Md_stock_47 rfl rfl ?_
          refine b_callVi (Mc := m_Md_stays) (As := [.int x1, .int x2]) (st := []) d_Md_stock_48 ⟨⟨kA_Md_stays.1, kA_Md_stays.2.1, kA_Md_stays.2.2, by decide⟩, ml_Md_298, kV_Md_stays⟩ (eg_153 τ4) rfl rfl (Nat.le_of_ble_eq_true rfl) H (fun v8 τ9 H => ?_)
          refine b_goto (tgt := 66) d_Md_stock_51 (by decide) ?_
          exact b_iret (ty := .int) d_Md_stock_66 rfl rfl ⟨_, _, rfl, rfl, H⟩
      · have H := H.2 c14
        refine b_aload_n d_Md_stock_25 rfl rfl ?_
        refine b_getf (v := .ref 182) d_Md_stock_26 fl_Md_141 (eg_153 τ4) rfl ?_
        refine b_iload_n d_Md_stock_29 rfl rfl ?_
        refine b_iload_n d_Md_stock_30 rfl rfl ?_
        refine b_callSi (Mc := m_Md_row) (As := [.int x1, .int x2]) (st := [.ref 182]) d_Md_stock_31 ⟨⟨kA_Md_row.1, kA_Md_row.2.1, kA_Md_row.2.2, by decide⟩, ml_Md_295, kS_Md_row⟩ rfl rfl (Nat.le_of_ble_eq_true rfl) H (fun v11 τ12 H => ?_)
        refine b_iload_n d_Md_stock_34 rfl rfl ?_
        refine b_iadd d_Md_stock_35  ?_
        obtain ⟨h13, H⟩ := H
        refine b_iald d_Md_stock_36 (eg_182 τ12) h13 ?_
        refine b_st2 (st' := [.int ((gC τ12 28) (v11 + x3).toNatClampNeg)]) rfl ?_
        refine b_goto (tgt := 66) d_Md_stock_37 (by decide) ?_
        exact b_iret (ty := .int) d_Md_stock_66 rfl rfl ⟨_, _, rfl, rfl, H⟩
    · have H := H.2 c15
      refine b_iconst (v := (-1 : Int32)) d_Md_stock_18 (by decide) ?_
      exact b_iret (ty := .int) d_Md_stock_19 rfl rfl ⟨_, _, rfl, rfl, H⟩
theorem C_Md_stock {S : XS} {Q : Int32 → St → Prop} (σ : St) (x1 : Int32) (x2 : Int32) (x3 : Int32) (H : BW S m_Md_stock 0 [some (.ref 153), some (.int x1), some (.int x2), some (.int x3)] [] (enc σ) (qI Q)) : CM S m_Md_stock [.ref 153, .int x1, .int x2, .int x3] (enc σ) (qI Q) := b_meth (by decide) (Nat.le_of_ble_eq_true rfl) rfl H
theorem d_Md_volume_0 : decode m_Md_volume.2.1 0 = .ok (.iload_n 1, 1) := by decide +kernel
theorem d_Md_volume_1 : decode m_Md_volume.2.1 1 = .ok (.invokestatic 234, 3) := by decide +kernel
theorem d_Md_volume_4 : decode m_Md_volume.2.1 4 = .ok (.ifCond .eq 21, 3) := by decide +kernel
theorem d_Md_volume_7 : decode m_Md_volume.2.1 7 = .ok (.iload_n 2, 1) := by decide +kernel
theorem d_Md_volume_8 : decode m_Md_volume.2.1 8 = .ok (.invokestatic 234, 3) := by decide +kernel
theorem d_Md_volume_11 : decode m_Md_volume.2.1 11 = .ok (.ifCond .eq 14, 3) := by decide +kernel
theorem d_Md_volume_14 : decode m_Md_volume.2.1 14 = .ok (.iload_n 1, 1) := by decide +kernel
theorem d_Md_volume_15 : decode m_Md_volume.2.1 15 = .ok (.iload_n 2, 1) := by decide +kernel
theorem d_Md_volume_16 : decode m_Md_volume.2.1 16 = .ok (.if_icmp .gt 9, 3) := by decide +kernel
theorem d_Md_volume_19 : decode m_Md_volume.2.1 19 = .ok (.iload 4, 2) := by decide +kernel
theorem d_Md_volume_21 : decode m_Md_volume.2.1 21 = .ok (.iconst 1, 1) := by decide +kernel
theorem d_Md_volume_22 : decode m_Md_volume.2.1 22 = .ok (.if_icmp .ge 5, 3) := by decide +kernel
theorem d_Md_volume_25 : decode m_Md_volume.2.1 25 = .ok (.iconst (-1), 1) := by decide +kernel
theorem d_Md_volume_26 : decode m_Md_volume.2.1 26 = .ok (.ireturn, 1) := by decide +kernel
theorem d_Md_volume_27 : decode m_Md_volume.2.1 27 = .ok (.ldc 178, 2) := by decide +kernel
theorem d_Md_volume_29 : decode m_Md_volume.2.1 29 = .ok (.istore 5, 2) := by decide +kernel
theorem d_Md_volume_31 : decode m_Md_volume.2.1 31 = .ok (.iload_n 1, 1) := by decide +kernel
theorem d_Md_volume_32 : decode m_Md_volume.2.1 32 = .ok (.istore 6, 2) := by decide +kernel
theorem d_Md_volume_34 : decode m_Md_volume.2.1 34 = .ok (.iload 6, 2) := by decide +kernel
theorem d_Md_volume_36 : decode m_Md_volume.2.1 36 = .ok (.iload_n 2, 1) := by decide +kernel
theorem d_Md_volume_37 : decode m_Md_volume.2.1 37 = .ok (.if_icmp .gt 47, 3) := by decide +kernel
theorem d_Md_volume_40 : decode m_Md_volume.2.1 40 = .ok (.aload_n 0, 1) := by decide +kernel
theorem d_Md_volume_41 : decode m_Md_volume.2.1 41 = .ok (.iload 6, 2) := by decide +kernel
theorem d_Md_volume_43 : decode m_Md_volume.2.1 43 = .ok (.iload_n 3, 1) := by decide +kernel
theorem d_Md_volume_44 : decode m_Md_volume.2.1 44 = .ok (.invokevirtual 258, 3) := by decide +kernel
theorem d_Md_volume_47 : decode m_Md_volume.2.1 47 = .ok (.ifCond .ne 5, 3) := by decide +kernel
theorem d_Md_volume_50 : decode m_Md_volume.2.1 50 = .ok (.iconst (-1), 1) := by decide +kernel
theorem d_Md_volume_51 : decode m_Md_volume.2.1 51 = .ok (.ireturn, 1) := by decide +kernel
theorem d_Md_volume_52 : decode m_Md_volume.2.1 52 = .ok (.aload_n 0, 1) := by decide +kernel
theorem d_Md_volume_53 : decode m_Md_volume.2.1 53 = .ok (.iload 6, 2) := by decide +kernel
theorem d_Md_volume_55 : decode m_Md_volume.2.1 55 = .ok (.iload_n 3, 1) := by decide +kernel
theorem d_Md_volume_56 : decode m_Md_volume.2.1 56 = .ok (.invokevirtual 298, 3) := by decide +kernel
theorem d_Md_volume_59 : decode m_Md_volume.2.1 59 = .ok (.iload 5, 2) := by decide +kernel
theorem d_Md_volume_61 : decode m_Md_volume.2.1 61 = .ok (.if_icmp .ge 13, 3) := by decide +kernel
theorem d_Md_volume_64 : decode m_Md_volume.2.1 64 = .ok (.aload_n 0, 1) := by decide +kernel
theorem d_Md_volume_65 : decode m_Md_volume.2.1 65 = .ok (.iload 6, 2) := by decide +kernel
theorem d_Md_volume_67 : decode m_Md_volume.2.1 67 = .ok (.iload_n 3, 1) := by decide +kernel
theorem d_Md_volume_68 : decode m_Md_volume.2.1 68 = .ok (.invokevirtual 298, 3) := by decide +kernel
theorem d_Md_volume_71 : decode m_Md_volume.2.1 71 = .ok (.goto 5, 3) := by decide +kernel
theorem d_Md_volume_74 : decode m_Md_volume.2.1 74 = .ok (.iload 5, 2) := by decide +kernel
theorem d_Md_volume_76 : decode m_Md_volume.2.1 76 = .ok (.istore 5, 2) := by decide +kernel
theorem d_Md_volume_78 : decode m_Md_volume.2.1 78 = .ok (.iinc 6 1, 3) := by decide +kernel
theorem d_Md_volume_81 : decode m_Md_volume.2.1 81 = .ok (.goto (-47), 3) := by decide +kernel
theorem d_Md_volume_84 : decode m_Md_volume.2.1 84 = .ok (.iload 4, 2) := by decide +kernel
theorem d_Md_volume_86 : decode m_Md_volume.2.1 86 = .ok (.iload 5, 2) := by decide +kernel
theorem d_Md_volume_88 : decode m_Md_volume.2.1 88 = .ok (.if_icmp .le 6, 3) := by decide +kernel
theorem d_Md_volume_91 : decode m_Md_volume.2.1 91 = .ok (.bipush (-2), 2) := by decide +kernel
theorem d_Md_volume_93 : decode m_Md_volume.2.1 93 = .ok (.ireturn, 1) := by decide +kernel
theorem d_Md_volume_94 : decode m_Md_volume.2.1 94 = .ok (.iload_n 1, 1) := by decide +kernel
theorem d_Md_volume_95 : decode m_Md_volume.2.1 95 = .ok (.istore 6, 2) := by decide +kernel
theorem d_Md_volume_97 : decode m_Md_volume.2.1 97 = .ok (.iload 6, 2) := by decide +kernel
theorem d_Md_volume_99 : decode m_Md_volume.2.1 99 = .ok (.iload_n 2, 1) := by decide +kernel
theorem d_Md_volume_100 : decode m_Md_volume.2.1 100 = .ok (.if_icmp .gt 27, 3) := by decide +kernel
theorem d_Md_volume_103 : decode m_Md_volume.2.1 103 = .ok (.aload_n 0, 1) := by decide +kernel
theorem d_Md_volume_104 : decode m_Md_volume.2.1 104 = .ok (.getfield 141, 3) := by decide +kernel
theorem d_Md_volume_107 : decode m_Md_volume.2.1 107 = .ok (.iload 6, 2) := by decide +kernel
theorem d_Md_volume_109 : decode m_Md_volume.2.1 109 = .ok (.iload_n 3, 1) := by decide +kernel
theorem d_Md_volume_110 : decode m_Md_volume.2.1 110 = .ok (.invokestatic 295, 3) := by decide +kernel
theorem d_Md_volume_113 : decode m_Md_volume.2.1 113 = .ok (.iconst 3, 1) := by decide +kernel
theorem d_Md_volume_114 : decode m_Md_volume.2.1 114 = .ok (.iadd, 1) := by decide +kernel
theorem d_Md_volume_115 : decode m_Md_volume.2.1 115 = .ok (.dup2, 1) := by decide +kernel
theorem d_Md_volume_116 : decode m_Md_volume.2.1 116 = .ok (.iaload, 1) := by decide +kernel
theorem d_Md_volume_117 : decode m_Md_volume.2.1 117 = .ok (.iload 4, 2) := by decide +kernel
theorem d_Md_volume_119 : decode m_Md_volume.2.1 119 = .ok (.iadd, 1) := by decide +kernel
theorem d_Md_volume_120 : decode m_Md_volume.2.1 120 = .ok (.iastore, 1) := by decide +kernel
theorem d_Md_volume_121 : decode m_Md_volume.2.1 121 = .ok (.iinc 6 1, 3) := by decide +kernel
theorem d_Md_volume_124 : decode m_Md_volume.2.1 124 = .ok (.goto (-27), 3) := by decide +kernel
theorem d_Md_volume_127 : decode m_Md_volume.2.1 127 = .ok (.iload 5, 2) := by decide +kernel
theorem d_Md_volume_129 : decode m_Md_volume.2.1 129 = .ok (.iload 4, 2) := by decide +kernel
theorem d_Md_volume_131 : decode m_Md_volume.2.1 131 = .ok (.isub, 1) := by decide +kernel
theorem d_Md_volume_132 : decode m_Md_volume.2.1 132 = .ok (.ireturn, 1) := by decide +kernel
set_option maxHeartbeats 4000000 in
set_option maxRecDepth 100000 in
theorem B_Md_volume_0 {S : XS} {Q : Int32 → St → Prop} (σ : St) (x1 : Int32) (x2 : Int32) (x3 : Int32) (x4 : Int32) (H : CM S m_Md_isPart [.int x1] (enc σ) (qI (fun v1 τ2 => ((v1 = 0 → Q (-1 : Int32) τ2) ∧ (¬ v1 = 0 → CM S m_Md_isPart [.int x2] (enc τ2) (qI (fun v3 τ4 => ((v3 = 0 → Q (-1 : Int32) τ4) ∧ (¬ v3 = 0 → ((x2 < x1 → Q (-1 : Int32) τ4) ∧ (¬ x2 < x1 → (((1 : Int32) ≤ x4 → BW S m_Md_volume 34 [some (.ref 153), some (.int x1), some (.int x2), some (.int x3), some (.int x4), some (.int (1000000000 : Int32)), some (.int x1)] [] (enc τ4) (qI Q)) ∧ (¬ (1 : Int32) ≤ x4 → Q (-1 : Int32) τ4))))))))))))) : BW S m_Md_volume 0 [some (.ref 153), some (.int x1), some (.int x2), some (.int x3), some (.int x4), none, none] [] (enc σ) (qI Q) := by
  refine b_iload_n d_Md_volume_0 rfl rfl ?_
  refine b_callSi (Mc := m_Md_isPart) (As := [.int x1]) (st := []) d_Md_volume_1 ⟨⟨kA_Md_isPart.1, kA_Md_isPart.2.1, kA_Md_isPart.2.2, by decide⟩, ml_Md_234, kS_Md_isPart⟩ rfl rfl (Nat.le_of_ble_eq_true rfl) H (fun v1 τ2 H => ?_)
  refine b_if_eq (tgt := 25) d_Md_volume_4 (by decide) (fun c8 => ?_) (fun c8 => ?_)
  · have H := H.1 c8
    refine b_iconst (v := (-1 : Int32)) d_Md_volume_25 (by decide) ?_
    exact b_iret (ty := .int) d_Md_volume_26 rfl rfl ⟨_, _, rfl, rfl, H⟩
  · have H := H.2 c8
    refine b_iload_n d_Md_volume_7 rfl rfl ?_
    refine b_callSi (Mc := m_Md_isPart) (As := [.int x2]) (st := []) d_Md_volume_8 ⟨⟨kA_Md_isPart.1, kA_Md_isPart.2.1, kA_Md_isPart.2.2, by decide⟩, ml_Md_234, kS_Md_isPart⟩ rfl rfl (Nat.le_of_ble_eq_true rfl) H (fun v3 τ4 H => ?_)
    refine b_if_eq (tgt := 25) d_Md_volume_11 (by decide) (fun c7 => ?_) (fun c7 => ?_)
    · have H := H.1 c7
      refine b_iconst (v := (-1 : Int32)) d_Md_volume_25 (by decide) ?_
      exact b_iret (ty := .int) d_Md_volume_26 rfl rfl ⟨_, _, rfl, rfl, H⟩
    · have H := H.2 c7
      refine b_iload_n d_Md_volume_14 rfl rfl ?_
      refine b_iload_n d_Md_volume_15 rfl rfl ?_
      refine b_icmp_gt (tgt := 25) d_Md_volume_16 (by decide) (fun c6 => ?_) (fun c6 => ?_)
      · have H := H.1 c6
        refine b_iconst (v := (-1 : Int32)) d_Md_volume_25 (by decide) ?_
        exact b_iret (ty := .int) d_Md_volume_26 rfl rfl ⟨_, _, rfl, rfl, H⟩
      · have H := H.2 c6
        refine b_iload d_Md_volume_19 rfl ?_
        refine b_iconst (v := (1 : Int32)) d_Md_volume_21 (by decide) ?_
        refine b_icmp_ge (tgt := 27) d_Md_volume_22 (by decide) (fun c5 => ?_) (fun c5 => ?_)
        · have H := H.1 c5
          refine b_ldc (v := (1000000000 : Int32)) d_Md_volume_27 cn_Md_178 ?_
          refine b_istore (ls' := [some (.ref 153), some (.int x1), some (.int x2), some (.int x3), some (.int x4), some (.int (1000000000 : Int32)), none]) d_Md_volume_29 (Nat.le_of_ble_eq_true rfl) rfl ?_
          refine b_iload_n d_Md_volume_31 rfl rfl ?_
          refine b_istore (ls' := [some (.ref 153), some (.int x1), some (.int x2), some (.int x3), some (.int x4), some (.int (1000000000 : Int32)), some (.int x1)]) d_Md_volume_32 (Nat.le_of_ble_eq_true rfl) rfl ?_
          exact b_mask [true, true, true, true, true, true, true] rfl H
        · have H := H.2 c5
          refine b_iconst (v := (-1 : Int32)) d_Md_volume_25 (by decide) ?_
          exact b_iret (ty := .int) d_Md_volume_26 rfl rfl ⟨_, _, rfl, rfl, H⟩
set_option maxHeartbeats 4000000 in
set_option maxRecDepth 100000 in
theorem B_Md_volume_34 {S : XS} {Q : Int32 → St → Prop} (σ : St) (x1 : Int32) (x2 : Int32) (x3 : Int32) (x4 : Int32) (x5 : Int32) (x6 : Int32) (H : ((x2 < x6 → ((x4 ≤ x5 → BW S m_Md_volume 97 [some (.ref 153), none, some (.int x2), some (.int x3), some (.int x4), some (.int x5), some (.int x1)] [] (enc σ) (qI Q)) ∧ (¬ x4 ≤ x5 → Q (-2 : Int32) σ))) ∧ (¬ x2 < x6 → CM S m_Md_isEdition [.ref 153, .int x6, .int x3] (enc σ) (qI (fun v10 τ11 => ((¬ v10 = 0 → CM S m_Md_stays [.ref 153, .int x6, .int x3] (enc τ11) (qI (fun v12 τ13 => ((x5 ≤ v12 → BW S m_Md_volume 34 [some (.ref 153), some (.int x1), some (.int x2), some (.int x3), some (.int x4), some (.int x5), some (.int (x6 + (1 : Int32)))] [] (enc τ13) (qI Q)) ∧ (¬ x5 ≤ v12 → CM S m_Md_stays [.ref 153, .int x6, .int x3] (enc τ13) (qI (fun v14 τ15 => BW S m_Md_volume 34 [some (.ref 153), some (.int x1), some (.int x2), some (.int x3), some (.int x4), some (.int v14), some (.int (x6 + (1 : Int32)))] [] (enc τ15) (qI Q)))))))) ∧ (v10 = 0 → Q (-1 : Int32) τ11))))))) : BW S m_Md_volume 34 [some (.ref 153), some (.int x1), some (.int x2), some (.int x3), some (.int x4), some (.int x5), some (.int x6)] [] (enc σ) (qI Q) := by
  refine b_iload d_Md_volume_34 rfl ?_
  refine b_iload_n d_Md_volume_36 rfl rfl ?_
  refine b_icmp_gt (tgt := 84) d_Md_volume_37 (by decide) (fun c18 => ?_) (fun c18 => ?_)
  · have H := H.1 c18
    refine b_iload d_Md_volume_84 rfl ?_
    refine b_iload d_Md_volume_86 rfl ?_
    refine b_icmp_le (tgt := 94) d_Md_volume_88 (by decide) (fun c9 => ?_) (fun c9 => ?_)
    · have H := H.1 c9
      refine b_iload_n d_Md_volume_94 rfl rfl ?_
      refine b_istore (ls' := [some (.ref 153), some (.int x1), some (.int x2), some (.int x3), some (.int x4), some (.int x5), some (.int x1)]) d_Md_volume_95 (Nat.le_of_ble_eq_true rfl) rfl ?_
      exact b_mask [true, false, true, true, true, true, true] rfl H
    · have H := H.2 c9
      refine b_bipush (v := (-2 : Int32)) d_Md_volume_91 (by decide) ?_
      exact b_iret (ty := .int) d_Md_volume_93 rfl rfl ⟨_, _, rfl, rfl, H⟩
  · have H := H.2 c18
    refine b_aload_n d_Md_volume_40 rfl rfl ?_
    refine b_iload d_Md_volume_41 rfl ?_
    refine b_iload_n d_Md_volume_43 rfl rfl ?_
    refine b_callVi (Mc := m_Md_isEdition) (As := [.int x6, .int x3]) (st := []) d_Md_volume_44 ⟨⟨kA_Md_isEdition.1, kA_Md_isEdition.2.1, kA_Md_isEdition.2.2, by decide⟩, ml_Md_258, kV_Md_isEdition⟩ (eg_153 σ) rfl rfl (Nat.le_of_ble_eq_true rfl) H (fun v10 τ11 H => ?_)
    refine b_if_ne (tgt := 52) d_Md_volume_47 (by decide) (fun c17 => ?_) (fun c17 => ?_)
    · have H := H.1 c17
      refine b_aload_n d_Md_volume_52 rfl rfl ?_
      refine b_iload d_Md_volume_53 rfl ?_
      refine b_iload_n d_Md_volume_55 rfl rfl ?_
      refine b_callVi (Mc := m_Md_stays) (As := [.int x6, .int x3]) (st := []) d_Md_volume_56 ⟨⟨kA_Md_stays.1, kA_Md_stays.2.1, kA_Md_stays.2.2, by decide⟩, ml_Md_298, kV_Md_stays⟩ (eg_153 τ11) rfl rfl (Nat.le_of_ble_eq_true rfl) H (fun v12 τ13 H => ?_)
      refine b_iload d_Md_volume_59 rfl ?_
      refine b_icmp_ge (tgt := 74) d_Md_volume_61 (by decide) (fun c16 => ?_) (fun c16 => ?_)
      · have H := H.1 c16
        refine b_iload d_Md_volume_74 rfl ?_
        refine b_istore (ls' := [some (.ref 153), some (.int x1), some (.int x2), some (.int x3), some (.int x4), some (.int x5), some (.int x6)]) d_Md_volume_76 (Nat.le_of_ble_eq_true rfl) rfl ?_
        refine b_iinc (v := (x6 + (1 : Int32))) (ls' := [some (.ref 153), some (.int x1), some (.int x2), some (.int x3), some (.int x4), some (.int x5), some (.int (x6 + (1 : Int32)))]) d_Md_volume_78 rfl rfl (Nat.le_of_ble_eq_true rfl) rfl ?_
        refine b_goto (tgt := 34) d_Md_volume_81 (by decide) ?_
        exact b_mask [true, true, true, true, true, true, true] rfl H
      · have H := H.2 c16
        refine b_aload_n d_Md_volume_64 rfl rfl ?_
        refine b_iload d_Md_volume_65 rfl ?_
        refine b_iload_n d_Md_volume_67 rfl rfl ?_
        refine b_callVi (Mc := m_Md_stays) (As := [.int x6, .int x3]) (st := []) d_Md_volume_68 ⟨⟨kA_Md_stays.1, kA_Md_stays.2.1, kA_Md_stays.2.2, by decide⟩, ml_Md_298, kV_Md_stays⟩ (eg_153 τ13) rfl rfl (Nat.le_of_ble_eq_true rfl) H (fun v14 τ15 H => ?_)
        refine b_goto (tgt := 76) d_Md_volume_71 (by decide) ?_
        refine b_istore (ls' := [some (.ref 153), some (.int x1), some (.int x2), some (.int x3), some (.int x4), some (.int v14), some (.int x6)]) d_Md_volume_76 (Nat.le_of_ble_eq_true rfl) rfl ?_
        refine b_iinc (v := (x6 + (1 : Int32))) (ls' := [some (.ref 153), some (.int x1), some (.int x2), some (.int x3), some (.int x4), some (.int v14), some (.int (x6 + (1 : Int32)))]) d_Md_volume_78 rfl rfl (Nat.le_of_ble_eq_true rfl) rfl ?_
        refine b_goto (tgt := 34) d_Md_volume_81 (by decide) ?_
        exact b_mask [true, true, true, true, true, true, true] rfl H
    · have H := H.2 c17
      refine b_iconst (v := (-1 : Int32)) d_Md_volume_50 (by decide) ?_
      exact b_iret (ty := .int) d_Md_volume_51 rfl rfl ⟨_, _, rfl, rfl, H⟩
set_option maxHeartbeats 4000000 in
set_option maxRecDepth 100000 in
theorem B_Md_volume_97 {S : XS} {Q : Int32 → St → Prop} (σ : St) (x2 : Int32) (x3 : Int32) (x4 : Int32) (x5 : Int32) (x6 : Int32) (H : ((x2 < x6 → Q (x5 - x4) σ) ∧ (¬ x2 < x6 → CM S m_Md_row [.int x6, .int x3] (enc σ) (qI (fun v19 τ20 => (vp_in (v19 + (3 : Int32)) 480) ∧ BW S m_Md_volume 97 [some (.ref 153), none, some (.int x2), some (.int x3), some (.int x4), some (.int x5), some (.int (x6 + (1 : Int32)))] [] (enc (sC τ20 28 (upd (gC τ20 28) (v19 + (3 : Int32)).toNatClampNeg (((gC τ20 28) (v19 + (3 : Int32)).toNatClampNeg) + x4)))) (qI Q)))))) : BW S m_Md_volume 97 [some (.ref 153), none, some (.int x2), some (.int x3), some (.int x4), some (.int x5), some (.int x6)] [] (enc σ) (qI Q) := by
  refine b_iload d_Md_volume_97 rfl ?_
  refine b_iload_n d_Md_volume_99 rfl rfl ?_
  refine b_icmp_gt (tgt := 127) d_Md_volume_100 (by decide) (fun c22 => ?_) (fun c22 => ?_)
  · have H := H.1 c22
    refine b_iload d_Md_volume_127 rfl ?_
    refine b_iload d_Md_volume_129 rfl ?_
    refine b_isub d_Md_volume_131  ?_
    exact b_iret (ty := .int) d_Md_volume_132 rfl rfl ⟨_, _, rfl, rfl, H⟩
  · have H := H.2 c22
    refine b_aload_n d_Md_volume_103 rfl rfl ?_
    refine b_getf (v := .ref 182) d_Md_volume_104 fl_Md_141 (eg_153 σ) rfl ?_
    refine b_iload d_Md_volume_107 rfl ?_
    refine b_iload_n d_Md_volume_109 rfl rfl ?_
    refine b_callSi (Mc := m_Md_row) (As := [.int x6, .int x3]) (st := [.ref 182]) d_Md_volume_110 ⟨⟨kA_Md_row.1, kA_Md_row.2.1, kA_Md_row.2.2, by decide⟩, ml_Md_295, kS_Md_row⟩ rfl rfl (Nat.le_of_ble_eq_true rfl) H (fun v19 τ20 H => ?_)
    refine b_iconst (v := (3 : Int32)) d_Md_volume_113 (by decide) ?_
    refine b_iadd d_Md_volume_114  ?_
    refine b_dup2 d_Md_volume_115 rfl rfl ?_
    obtain ⟨h21, H⟩ := H
    refine b_iald d_Md_volume_116 (eg_182 τ20) h21 ?_
    refine b_st2 (st' := [.int ((gC τ20 28) (v19 + (3 : Int32)).toNatClampNeg), .int (v19 + (3 : Int32)), .ref 182]) rfl ?_
    refine b_iload d_Md_volume_117 rfl ?_
    refine b_iadd d_Md_volume_119  ?_
    refine b_iast (h1 := enc (sC τ20 28 (upd (gC τ20 28) (v19 + (3 : Int32)).toNatClampNeg (((gC τ20 28) (v19 + (3 : Int32)).toNatClampNeg) + x4)))) d_Md_volume_120 (eg_182 τ20) h21 (es_182 τ20 (upd (gC τ20 28) (v19 + (3 : Int32)).toNatClampNeg (((gC τ20 28) (v19 + (3 : Int32)).toNatClampNeg) + x4))) ?_
    refine b_iinc (v := (x6 + (1 : Int32))) (ls' := [some (.ref 153), none, some (.int x2), some (.int x3), some (.int x4), some (.int x5), some (.int (x6 + (1 : Int32)))]) d_Md_volume_121 rfl rfl (Nat.le_of_ble_eq_true rfl) rfl ?_
    refine b_goto (tgt := 97) d_Md_volume_124 (by decide) ?_
    exact b_mask [true, true, true, true, true, true, true] rfl H
theorem C_Md_volume {S : XS} {Q : Int32 → St → Prop} (σ : St) (x1 : Int32) (x2 : Int32) (x3 : Int32) (x4 : Int32) (H : BW S m_Md_volume 0 [some (.ref 153), some (.int x1), some (.int x2), some (.int x3), some (.int x4), none, none] [] (enc σ) (qI Q)) : CM S m_Md_volume [.ref 153, .int x1, .int x2, .int x3, .int x4] (enc σ) (qI Q) := b_meth (by decide) (Nat.le_of_ble_eq_true rfl) rfl H
theorem d_Md_foretell_0 : decode m_Md_foretell.2.1 0 = .ok (.iload_n 1, 1) := by decide +kernel
theorem d_Md_foretell_1 : decode m_Md_foretell.2.1 1 = .ok (.iconst (-1), 1) := by decide +kernel
theorem d_Md_foretell_2 : decode m_Md_foretell.2.1 2 = .ok (.if_icmp .ne 10, 3) := by decide +kernel
theorem d_Md_foretell_5 : decode m_Md_foretell.2.1 5 = .ok (.aload_n 0, 1) := by decide +kernel
theorem d_Md_foretell_6 : decode m_Md_foretell.2.1 6 = .ok (.iconst 0, 1) := by decide +kernel
theorem d_Md_foretell_7 : decode m_Md_foretell.2.1 7 = .ok (.putfield 160, 3) := by decide +kernel
theorem d_Md_foretell_10 : decode m_Md_foretell.2.1 10 = .ok (.iconst 0, 1) := by decide +kernel
theorem d_Md_foretell_11 : decode m_Md_foretell.2.1 11 = .ok (.ireturn, 1) := by decide +kernel
theorem d_Md_foretell_12 : decode m_Md_foretell.2.1 12 = .ok (.iload_n 1, 1) := by decide +kernel
theorem d_Md_foretell_13 : decode m_Md_foretell.2.1 13 = .ok (.iconst 0, 1) := by decide +kernel
theorem d_Md_foretell_14 : decode m_Md_foretell.2.1 14 = .ok (.ldc 173, 2) := by decide +kernel
theorem d_Md_foretell_16 : decode m_Md_foretell.2.1 16 = .ok (.invokestatic 174, 3) := by decide +kernel
theorem d_Md_foretell_19 : decode m_Md_foretell.2.1 19 = .ok (.ifCond .eq 22, 3) := by decide +kernel
theorem d_Md_foretell_22 : decode m_Md_foretell.2.1 22 = .ok (.iload_n 2, 1) := by decide +kernel
theorem d_Md_foretell_23 : decode m_Md_foretell.2.1 23 = .ok (.iconst 1, 1) := by decide +kernel
theorem d_Md_foretell_24 : decode m_Md_foretell.2.1 24 = .ok (.bipush 99, 2) := by decide +kernel
theorem d_Md_foretell_26 : decode m_Md_foretell.2.1 26 = .ok (.invokestatic 174, 3) := by decide +kernel
theorem d_Md_foretell_29 : decode m_Md_foretell.2.1 29 = .ok (.ifCond .eq 12, 3) := by decide +kernel
theorem d_Md_foretell_32 : decode m_Md_foretell.2.1 32 = .ok (.aload_n 0, 1) := by decide +kernel
theorem d_Md_foretell_33 : decode m_Md_foretell.2.1 33 = .ok (.getfield 160, 3) := by decide +kernel
theorem d_Md_foretell_36 : decode m_Md_foretell.2.1 36 = .ok (.bipush 8, 2) := by decide +kernel
theorem d_Md_foretell_38 : decode m_Md_foretell.2.1 38 = .ok (.if_icmp .ne 5, 3) := by decide +kernel
theorem d_Md_foretell_41 : decode m_Md_foretell.2.1 41 = .ok (.iconst (-1), 1) := by decide +kernel
theorem d_Md_foretell_42 : decode m_Md_foretell.2.1 42 = .ok (.ireturn, 1) := by decide +kernel
theorem d_Md_foretell_43 : decode m_Md_foretell.2.1 43 = .ok (.aload_n 0, 1) := by decide +kernel
theorem d_Md_foretell_44 : decode m_Md_foretell.2.1 44 = .ok (.getfield 163, 3) := by decide +kernel
theorem d_Md_foretell_47 : decode m_Md_foretell.2.1 47 = .ok (.aload_n 0, 1) := by decide +kernel
theorem d_Md_foretell_48 : decode m_Md_foretell.2.1 48 = .ok (.getfield 160, 3) := by decide +kernel
theorem d_Md_foretell_51 : decode m_Md_foretell.2.1 51 = .ok (.iload_n 1, 1) := by decide +kernel
theorem d_Md_foretell_52 : decode m_Md_foretell.2.1 52 = .ok (.iastore, 1) := by decide +kernel
theorem d_Md_foretell_53 : decode m_Md_foretell.2.1 53 = .ok (.aload_n 0, 1) := by decide +kernel
theorem d_Md_foretell_54 : decode m_Md_foretell.2.1 54 = .ok (.getfield 166, 3) := by decide +kernel
theorem d_Md_foretell_57 : decode m_Md_foretell.2.1 57 = .ok (.aload_n 0, 1) := by decide +kernel
theorem d_Md_foretell_58 : decode m_Md_foretell.2.1 58 = .ok (.getfield 160, 3) := by decide +kernel
theorem d_Md_foretell_61 : decode m_Md_foretell.2.1 61 = .ok (.iload_n 2, 1) := by decide +kernel
theorem d_Md_foretell_62 : decode m_Md_foretell.2.1 62 = .ok (.iastore, 1) := by decide +kernel
theorem d_Md_foretell_63 : decode m_Md_foretell.2.1 63 = .ok (.aload_n 0, 1) := by decide +kernel
theorem d_Md_foretell_64 : decode m_Md_foretell.2.1 64 = .ok (.dup, 1) := by decide +kernel
theorem d_Md_foretell_65 : decode m_Md_foretell.2.1 65 = .ok (.getfield 160, 3) := by decide +kernel
theorem d_Md_foretell_68 : decode m_Md_foretell.2.1 68 = .ok (.iconst 1, 1) := by decide +kernel
theorem d_Md_foretell_69 : decode m_Md_foretell.2.1 69 = .ok (.iadd, 1) := by decide +kernel
theorem d_Md_foretell_70 : decode m_Md_foretell.2.1 70 = .ok (.putfield 160, 3) := by decide +kernel
theorem d_Md_foretell_73 : decode m_Md_foretell.2.1 73 = .ok (.aload_n 0, 1) := by decide +kernel
theorem d_Md_foretell_74 : decode m_Md_foretell.2.1 74 = .ok (.getfield 160, 3) := by decide +kernel
theorem d_Md_foretell_77 : decode m_Md_foretell.2.1 77 = .ok (.ireturn, 1) := by decide +kernel
set_option maxHeartbeats 4000000 in
set_option maxRecDepth 100000 in
theorem B_Md_foretell_0 {S : XS} {Q : Int32 → St → Prop} (σ : St) (x1 : Int32) (x2 : Int32) (H : ((¬ x1 = (-1 : Int32) → CM S m_Md_is [.int x1, .int (0 : Int32), .int (100000 : Int32)] (enc σ) (qI (fun v1 τ2 => ((v1 = 0 → Q (-1 : Int32) τ2) ∧ (¬ v1 = 0 → CM S m_Md_is [.int x2, .int (1 : Int32), .int (99 : Int32)] (enc τ2) (qI (fun v3 τ4 => ((v3 = 0 → Q (-1 : Int32) τ4) ∧ (¬ v3 = 0 → ((¬ (gY τ4 19) = (8 : Int32) → (vp_in (gY τ4 19) 8) ∧ Q ((gY τ4 19) + (1 : Int32)) (sY (sC (sC τ4 29 (upd (gC τ4 29) (gY τ4 19).toNatClampNeg x1)) 30 (upd (gC τ4 30) (gY τ4 19).toNatClampNeg x2)) 19 ((gY τ4 19) + (1 : Int32)))) ∧ ((gY τ4 19) = (8 : Int32) → Q (-1 : Int32) τ4))))))))))) ∧ (x1 = (-1 : Int32) → Q (0 : Int32) (sY σ 19 (0 : Int32))))) : BW S m_Md_foretell 0 [some (.ref 153), some (.int x1), some (.int x2)] [] (enc σ) (qI Q) := by
  refine b_iload_n d_Md_foretell_0 rfl rfl ?_
  refine b_iconst (v := (-1 : Int32)) d_Md_foretell_1 (by decide) ?_
  refine b_icmp_ne (tgt := 12) d_Md_foretell_2 (by decide) (fun c9 => ?_) (fun c9 => ?_)
  · have H := H.1 c9
    refine b_iload_n d_Md_foretell_12 rfl rfl ?_
    refine b_iconst (v := (0 : Int32)) d_Md_foretell_13 (by decide) ?_
    refine b_ldc (v := (100000 : Int32)) d_Md_foretell_14 cn_Md_173 ?_
    refine b_callSi (Mc := m_Md_is) (As := [.int x1, .int (0 : Int32), .int (100000 : Int32)]) (st := []) d_Md_foretell_16 ⟨⟨kA_Md_is.1, kA_Md_is.2.1, kA_Md_is.2.2, by decide⟩, ml_Md_174, kS_Md_is⟩ rfl rfl (Nat.le_of_ble_eq_true rfl) H (fun v1 τ2 H => ?_)
    refine b_if_eq (tgt := 41) d_Md_foretell_19 (by decide) (fun c8 => ?_) (fun c8 => ?_)
    · have H := H.1 c8
      refine b_iconst (v := (-1 : Int32)) d_Md_foretell_41 (by decide) ?_
      exact b_iret (ty := .int) d_Md_foretell_42 rfl rfl ⟨_, _, rfl, rfl, H⟩
    · have H := H.2 c8
      refine b_iload_n d_Md_foretell_22 rfl rfl ?_
      refine b_iconst (v := (1 : Int32)) d_Md_foretell_23 (by decide) ?_
      refine b_bipush (v := (99 : Int32)) d_Md_foretell_24 (by decide) ?_
      refine b_callSi (Mc := m_Md_is) (As := [.int x2, .int (1 : Int32), .int (99 : Int32)]) (st := []) d_Md_foretell_26 ⟨⟨kA_Md_is.1, kA_Md_is.2.1, kA_Md_is.2.2, by decide⟩, ml_Md_174, kS_Md_is⟩ rfl rfl (Nat.le_of_ble_eq_true rfl) H (fun v3 τ4 H => ?_)
      refine b_if_eq (tgt := 41) d_Md_foretell_29 (by decide) (fun c7 => ?_) (fun c7 => ?_)
      · have H := H.1 c7
        refine b_iconst (v := (-1 : Int32)) d_Md_foretell_41 (by decide) ?_
        exact b_iret (ty := .int) d_Md_foretell_42 rfl rfl ⟨_, _, rfl, rfl, H⟩
      · have H := H.2 c7
        refine b_aload_n d_Md_foretell_32 rfl rfl ?_
        refine b_getf (v := .int (gY τ4 19)) d_Md_foretell_33 fl_Md_160 (eg_153 τ4) rfl ?_
        refine b_bipush (v := (8 : Int32)) d_Md_foretell_36 (by decide) ?_
        refine b_icmp_ne (tgt := 43) d_Md_foretell_38 (by decide) (fun c6 => ?_) (fun c6 => ?_)
        · have H := H.1 c6
          refine b_aload_n d_Md_foretell_43 rfl rfl ?_
          refine b_getf (v := .ref 183) d_Md_foretell_44 fl_Md_163 (eg_153 τ4) rfl ?_
          refine b_aload_n d_Md_foretell_47 rfl rfl ?_
          refine b_getf (v := .int (gY τ4 19)) d_Md_foretell_48 fl_Md_160 (eg_153 τ4) rfl ?_
          refine b_iload_n d_Md_foretell_51 rfl rfl ?_
          obtain ⟨h5, H⟩ := H
          refine b_iast (h1 := enc (sC τ4 29 (upd (gC τ4 29) (gY τ4 19).toNatClampNeg x1))) d_Md_foretell_52 (eg_183 τ4) h5 (es_183 τ4 (upd (gC τ4 29) (gY τ4 19).toNatClampNeg x1)) ?_
          refine b_aload_n d_Md_foretell_53 rfl rfl ?_
          refine b_getf (v := .ref 184) d_Md_foretell_54 fl_Md_166 (eg_153 (sC τ4 29 (upd (gC τ4 29) (gY τ4 19).toNatClampNeg x1))) rfl ?_
          refine b_aload_n d_Md_foretell_57 rfl rfl ?_
          refine b_getf (v := .int (gY τ4 19)) d_Md_foretell_58 fl_Md_160 (eg_153 (sC τ4 29 (upd (gC τ4 29) (gY τ4 19).toNatClampNeg x1))) rfl ?_
          refine b_iload_n d_Md_foretell_61 rfl rfl ?_
          refine b_iast (h1 := enc (sC (sC τ4 29 (upd (gC τ4 29) (gY τ4 19).toNatClampNeg x1)) 30 (upd (gC τ4 30) (gY τ4 19).toNatClampNeg x2))) d_Md_foretell_62 (eg_184 (sC τ4 29 (upd (gC τ4 29) (gY τ4 19).toNatClampNeg x1))) h5 (es_184 (sC τ4 29 (upd (gC τ4 29) (gY τ4 19).toNatClampNeg x1)) (upd (gC τ4 30) (gY τ4 19).toNatClampNeg x2)) ?_
          refine b_aload_n d_Md_foretell_63 rfl rfl ?_
          refine b_dup d_Md_foretell_64 rfl ?_
          refine b_getf (v := .int (gY τ4 19)) d_Md_foretell_65 fl_Md_160 (eg_153 (sC (sC τ4 29 (upd (gC τ4 29) (gY τ4 19).toNatClampNeg x1)) 30 (upd (gC τ4 30) (gY τ4 19).toNatClampNeg x2))) rfl ?_
          refine b_iconst (v := (1 : Int32)) d_Md_foretell_68 (by decide) ?_
          refine b_iadd d_Md_foretell_69  ?_
          refine b_putf (ty := .int) (h1 := enc (sY (sC (sC τ4 29 (upd (gC τ4 29) (gY τ4 19).toNatClampNeg x1)) 30 (upd (gC τ4 30) (gY τ4 19).toNatClampNeg x2)) 19 ((gY τ4 19) + (1 : Int32)))) d_Md_foretell_70 fl_Md_160 ft_12_49 (fun _ => ⟨rfl, rfl⟩) (eg_153 (sC (sC τ4 29 (upd (gC τ4 29) (gY τ4 19).toNatClampNeg x1)) 30 (upd (gC τ4 30) (gY τ4 19).toNatClampNeg x2))) (Nat.le_of_ble_eq_true rfl) (es_153_49 (sC (sC τ4 29 (upd (gC τ4 29) (gY τ4 19).toNatClampNeg x1)) 30 (upd (gC τ4 30) (gY τ4 19).toNatClampNeg x2)) ((gY τ4 19) + (1 : Int32))) ?_
          refine b_aload_n d_Md_foretell_73 rfl rfl ?_
          refine b_getf (v := .int ((gY τ4 19) + (1 : Int32))) d_Md_foretell_74 fl_Md_160 (eg_153 (sY (sC (sC τ4 29 (upd (gC τ4 29) (gY τ4 19).toNatClampNeg x1)) 30 (upd (gC τ4 30) (gY τ4 19).toNatClampNeg x2)) 19 ((gY τ4 19) + (1 : Int32)))) rfl ?_
          exact b_iret (ty := .int) d_Md_foretell_77 rfl rfl ⟨_, _, rfl, rfl, H⟩
        · have H := H.2 c6
          refine b_iconst (v := (-1 : Int32)) d_Md_foretell_41 (by decide) ?_
          exact b_iret (ty := .int) d_Md_foretell_42 rfl rfl ⟨_, _, rfl, rfl, H⟩
  · have H := H.2 c9
    refine b_aload_n d_Md_foretell_5 rfl rfl ?_
    refine b_iconst (v := (0 : Int32)) d_Md_foretell_6 (by decide) ?_
    refine b_putf (ty := .int) (h1 := enc (sY σ 19 (0 : Int32))) d_Md_foretell_7 fl_Md_160 ft_12_49 (fun _ => ⟨rfl, rfl⟩) (eg_153 σ) (Nat.le_of_ble_eq_true rfl) (es_153_49 σ (0 : Int32)) ?_
    refine b_iconst (v := (0 : Int32)) d_Md_foretell_10 (by decide) ?_
    exact b_iret (ty := .int) d_Md_foretell_11 rfl rfl ⟨_, _, rfl, rfl, H⟩
theorem C_Md_foretell {S : XS} {Q : Int32 → St → Prop} (σ : St) (x1 : Int32) (x2 : Int32) (H : BW S m_Md_foretell 0 [some (.ref 153), some (.int x1), some (.int x2)] [] (enc σ) (qI Q)) : CM S m_Md_foretell [.ref 153, .int x1, .int x2] (enc σ) (qI Q) := b_meth (by decide) (Nat.le_of_ble_eq_true rfl) rfl H
theorem d_Md_worth_0 : decode m_Md_worth.2.1 0 = .ok (.aload_n 0, 1) := by decide +kernel
theorem d_Md_worth_1 : decode m_Md_worth.2.1 1 = .ok (.iload_n 1, 1) := by decide +kernel
theorem d_Md_worth_2 : decode m_Md_worth.2.1 2 = .ok (.iload_n 2, 1) := by decide +kernel
theorem d_Md_worth_3 : decode m_Md_worth.2.1 3 = .ok (.invokevirtual 258, 3) := by decide +kernel
theorem d_Md_worth_6 : decode m_Md_worth.2.1 6 = .ok (.ifCond .eq 20, 3) := by decide +kernel
theorem d_Md_worth_9 : decode m_Md_worth.2.1 9 = .ok (.aload_n 0, 1) := by decide +kernel
theorem d_Md_worth_10 : decode m_Md_worth.2.1 10 = .ok (.getfield 160, 3) := by decide +kernel
theorem d_Md_worth_13 : decode m_Md_worth.2.1 13 = .ok (.ifCond .eq 13, 3) := by decide +kernel
theorem d_Md_worth_16 : decode m_Md_worth.2.1 16 = .ok (.iload_n 3, 1) := by decide +kernel
theorem d_Md_worth_17 : decode m_Md_worth.2.1 17 = .ok (.iconst 0, 1) := by decide +kernel
theorem d_Md_worth_18 : decode m_Md_worth.2.1 18 = .ok (.ldc 173, 2) := by decide +kernel
theorem d_Md_worth_20 : decode m_Md_worth.2.1 20 = .ok (.invokestatic 174, 3) := by decide +kernel
theorem d_Md_worth_23 : decode m_Md_worth.2.1 23 = .ok (.ifCond .ne 7, 3) := by decide +kernel
theorem d_Md_worth_26 : decode m_Md_worth.2.1 26 = .ok (.ldc2_w 301, 3) := by decide +kernel
theorem d_Md_worth_29 : decode m_Md_worth.2.1 29 = .ok (.lreturn, 1) := by decide +kernel
theorem d_Md_worth_30 : decode m_Md_worth.2.1 30 = .ok (.lconst 0, 1) := by decide +kernel
theorem d_Md_worth_31 : decode m_Md_worth.2.1 31 = .ok (.lstore 4, 2) := by decide +kernel
theorem d_Md_worth_33 : decode m_Md_worth.2.1 33 = .ok (.lconst 0, 1) := by decide +kernel
theorem d_Md_worth_34 : decode m_Md_worth.2.1 34 = .ok (.lstore 6, 2) := by decide +kernel
theorem d_Md_worth_36 : decode m_Md_worth.2.1 36 = .ok (.iconst 0, 1) := by decide +kernel
theorem d_Md_worth_37 : decode m_Md_worth.2.1 37 = .ok (.istore 8, 2) := by decide +kernel
theorem d_Md_worth_39 : decode m_Md_worth.2.1 39 = .ok (.iload 8, 2) := by decide +kernel
theorem d_Md_worth_41 : decode m_Md_worth.2.1 41 = .ok (.aload_n 0, 1) := by decide +kernel
theorem d_Md_worth_42 : decode m_Md_worth.2.1 42 = .ok (.getfield 160, 3) := by decide +kernel
theorem d_Md_worth_45 : decode m_Md_worth.2.1 45 = .ok (.if_icmp .ge 82, 3) := by decide +kernel
theorem d_Md_worth_48 : decode m_Md_worth.2.1 48 = .ok (.iload_n 3, 1) := by decide +kernel
theorem d_Md_worth_49 : decode m_Md_worth.2.1 49 = .ok (.aload_n 0, 1) := by decide +kernel
theorem d_Md_worth_50 : decode m_Md_worth.2.1 50 = .ok (.getfield 163, 3) := by decide +kernel
theorem d_Md_worth_53 : decode m_Md_worth.2.1 53 = .ok (.iload 8, 2) := by decide +kernel
theorem d_Md_worth_55 : decode m_Md_worth.2.1 55 = .ok (.iaload, 1) := by decide +kernel
theorem d_Md_worth_56 : decode m_Md_worth.2.1 56 = .ok (.if_icmp .ge 8, 3) := by decide +kernel
theorem d_Md_worth_59 : decode m_Md_worth.2.1 59 = .ok (.iload_n 3, 1) := by decide +kernel
theorem d_Md_worth_60 : decode m_Md_worth.2.1 60 = .ok (.i2l, 1) := by decide +kernel
theorem d_Md_worth_61 : decode m_Md_worth.2.1 61 = .ok (.goto 11, 3) := by decide +kernel
theorem d_Md_worth_64 : decode m_Md_worth.2.1 64 = .ok (.aload_n 0, 1) := by decide +kernel
theorem d_Md_worth_65 : decode m_Md_worth.2.1 65 = .ok (.getfield 163, 3) := by decide +kernel
theorem d_Md_worth_68 : decode m_Md_worth.2.1 68 = .ok (.iload 8, 2) := by decide +kernel
theorem d_Md_worth_70 : decode m_Md_worth.2.1 70 = .ok (.iaload, 1) := by decide +kernel
theorem d_Md_worth_71 : decode m_Md_worth.2.1 71 = .ok (.i2l, 1) := by decide +kernel
theorem d_Md_worth_72 : decode m_Md_worth.2.1 72 = .ok (.lstore 9, 2) := by decide +kernel
theorem d_Md_worth_74 : decode m_Md_worth.2.1 74 = .ok (.lload 4, 2) := by decide +kernel
theorem d_Md_worth_76 : decode m_Md_worth.2.1 76 = .ok (.aload_n 0, 1) := by decide +kernel
theorem d_Md_worth_77 : decode m_Md_worth.2.1 77 = .ok (.getfield 166, 3) := by decide +kernel
theorem d_Md_worth_80 : decode m_Md_worth.2.1 80 = .ok (.iload 8, 2) := by decide +kernel
theorem d_Md_worth_82 : decode m_Md_worth.2.1 82 = .ok (.iaload, 1) := by decide +kernel
theorem d_Md_worth_83 : decode m_Md_worth.2.1 83 = .ok (.i2l, 1) := by decide +kernel
theorem d_Md_worth_84 : decode m_Md_worth.2.1 84 = .ok (.aload_n 0, 1) := by decide +kernel
theorem d_Md_worth_85 : decode m_Md_worth.2.1 85 = .ok (.getfield 144, 3) := by decide +kernel
theorem d_Md_worth_88 : decode m_Md_worth.2.1 88 = .ok (.i2l, 1) := by decide +kernel
theorem d_Md_worth_89 : decode m_Md_worth.2.1 89 = .ok (.lload 9, 2) := by decide +kernel
theorem d_Md_worth_91 : decode m_Md_worth.2.1 91 = .ok (.lmul, 1) := by decide +kernel
theorem d_Md_worth_92 : decode m_Md_worth.2.1 92 = .ok (.aload_n 0, 1) := by decide +kernel
theorem d_Md_worth_93 : decode m_Md_worth.2.1 93 = .ok (.getfield 153, 3) := by decide +kernel
theorem d_Md_worth_96 : decode m_Md_worth.2.1 96 = .ok (.i2l, 1) := by decide +kernel
theorem d_Md_worth_97 : decode m_Md_worth.2.1 97 = .ok (.iload_n 3, 1) := by decide +kernel
theorem d_Md_worth_98 : decode m_Md_worth.2.1 98 = .ok (.i2l, 1) := by decide +kernel
theorem d_Md_worth_99 : decode m_Md_worth.2.1 99 = .ok (.lload 9, 2) := by decide +kernel
theorem d_Md_worth_101 : decode m_Md_worth.2.1 101 = .ok (.lsub, 1) := by decide +kernel
theorem d_Md_worth_102 : decode m_Md_worth.2.1 102 = .ok (.lmul, 1) := by decide +kernel
theorem d_Md_worth_103 : decode m_Md_worth.2.1 103 = .ok (.ladd, 1) := by decide +kernel
theorem d_Md_worth_104 : decode m_Md_worth.2.1 104 = .ok (.lmul, 1) := by decide +kernel
theorem d_Md_worth_105 : decode m_Md_worth.2.1 105 = .ok (.ladd, 1) := by decide +kernel
theorem d_Md_worth_106 : decode m_Md_worth.2.1 106 = .ok (.lstore 4, 2) := by decide +kernel
theorem d_Md_worth_108 : decode m_Md_worth.2.1 108 = .ok (.lload 6, 2) := by decide +kernel
theorem d_Md_worth_110 : decode m_Md_worth.2.1 110 = .ok (.aload_n 0, 1) := by decide +kernel
theorem d_Md_worth_111 : decode m_Md_worth.2.1 111 = .ok (.getfield 166, 3) := by decide +kernel
theorem d_Md_worth_114 : decode m_Md_worth.2.1 114 = .ok (.iload 8, 2) := by decide +kernel
theorem d_Md_worth_116 : decode m_Md_worth.2.1 116 = .ok (.iaload, 1) := by decide +kernel
theorem d_Md_worth_117 : decode m_Md_worth.2.1 117 = .ok (.i2l, 1) := by decide +kernel
theorem d_Md_worth_118 : decode m_Md_worth.2.1 118 = .ok (.ladd, 1) := by decide +kernel
theorem d_Md_worth_119 : decode m_Md_worth.2.1 119 = .ok (.lstore 6, 2) := by decide +kernel
theorem d_Md_worth_121 : decode m_Md_worth.2.1 121 = .ok (.iinc 8 1, 3) := by decide +kernel
theorem d_Md_worth_124 : decode m_Md_worth.2.1 124 = .ok (.goto (-85), 3) := by decide +kernel
theorem d_Md_worth_127 : decode m_Md_worth.2.1 127 = .ok (.iload_n 3, 1) := by decide +kernel
theorem d_Md_worth_128 : decode m_Md_worth.2.1 128 = .ok (.ifCond .ne 8, 3) := by decide +kernel
theorem d_Md_worth_131 : decode m_Md_worth.2.1 131 = .ok (.lload 4, 2) := by decide +kernel
theorem d_Md_worth_133 : decode m_Md_worth.2.1 133 = .ok (.goto 43, 3) := by decide +kernel
theorem d_Md_worth_136 : decode m_Md_worth.2.1 136 = .ok (.lload 4, 2) := by decide +kernel
theorem d_Md_worth_138 : decode m_Md_worth.2.1 138 = .ok (.lload 6, 2) := by decide +kernel
theorem d_Md_worth_140 : decode m_Md_worth.2.1 140 = .ok (.iload_n 3, 1) := by decide +kernel
theorem d_Md_worth_141 : decode m_Md_worth.2.1 141 = .ok (.i2l, 1) := by decide +kernel
theorem d_Md_worth_142 : decode m_Md_worth.2.1 142 = .ok (.aload_n 0, 1) := by decide +kernel
theorem d_Md_worth_143 : decode m_Md_worth.2.1 143 = .ok (.getfield 147, 3) := by decide +kernel
theorem d_Md_worth_146 : decode m_Md_worth.2.1 146 = .ok (.i2l, 1) := by decide +kernel
theorem d_Md_worth_147 : decode m_Md_worth.2.1 147 = .ok (.lmul, 1) := by decide +kernel
theorem d_Md_worth_148 : decode m_Md_worth.2.1 148 = .ok (.aload_n 0, 1) := by decide +kernel
theorem d_Md_worth_149 : decode m_Md_worth.2.1 149 = .ok (.getfield 141, 3) := by decide +kernel
theorem d_Md_worth_152 : decode m_Md_worth.2.1 152 = .ok (.iload_n 1, 1) := by decide +kernel
theorem d_Md_worth_153 : decode m_Md_worth.2.1 153 = .ok (.iload_n 2, 1) := by decide +kernel
theorem d_Md_worth_154 : decode m_Md_worth.2.1 154 = .ok (.invokestatic 295, 3) := by decide +kernel
theorem d_Md_worth_157 : decode m_Md_worth.2.1 157 = .ok (.iconst 4, 1) := by decide +kernel
theorem d_Md_worth_158 : decode m_Md_worth.2.1 158 = .ok (.iadd, 1) := by decide +kernel
theorem d_Md_worth_159 : decode m_Md_worth.2.1 159 = .ok (.iaload, 1) := by decide +kernel
theorem d_Md_worth_160 : decode m_Md_worth.2.1 160 = .ok (.iconst 1, 1) := by decide +kernel
theorem d_Md_worth_161 : decode m_Md_worth.2.1 161 = .ok (.if_icmp .ne 7, 3) := by decide +kernel
theorem d_Md_worth_164 : decode m_Md_worth.2.1 164 = .ok (.iconst 0, 1) := by decide +kernel
theorem d_Md_worth_165 : decode m_Md_worth.2.1 165 = .ok (.goto 7, 3) := by decide +kernel
theorem d_Md_worth_168 : decode m_Md_worth.2.1 168 = .ok (.aload_n 0, 1) := by decide +kernel
theorem d_Md_worth_169 : decode m_Md_worth.2.1 169 = .ok (.getfield 150, 3) := by decide +kernel
theorem d_Md_worth_172 : decode m_Md_worth.2.1 172 = .ok (.i2l, 1) := by decide +kernel
theorem d_Md_worth_173 : decode m_Md_worth.2.1 173 = .ok (.ladd, 1) := by decide +kernel
theorem d_Md_worth_174 : decode m_Md_worth.2.1 174 = .ok (.lmul, 1) := by decide +kernel
theorem d_Md_worth_175 : decode m_Md_worth.2.1 175 = .ok (.lsub, 1) := by decide +kernel
theorem d_Md_worth_176 : decode m_Md_worth.2.1 176 = .ok (.lreturn, 1) := by decide +kernel
set_option maxHeartbeats 4000000 in
set_option maxRecDepth 100000 in
theorem B_Md_worth_0 {S : XS} {Q : Int64 → St → Prop} (σ : St) (x1 : Int32) (x2 : Int32) (x3 : Int32) (H : CM S m_Md_isEdition [.ref 153, .int x1, .int x2] (enc σ) (qI (fun v1 τ2 => ((v1 = 0 → Q (-9000000000000000000 : Int64) τ2) ∧ (¬ v1 = 0 → (((gY τ2 19) = 0 → Q (-9000000000000000000 : Int64) τ2) ∧ (¬ (gY τ2 19) = 0 → CM S m_Md_is [.int x3, .int (0 : Int32), .int (100000 : Int32)] (enc τ2) (qI (fun v3 τ4 => ((¬ v3 = 0 → BW S m_Md_worth 39 [some (.ref 153), some (.int x1), some (.int x2), some (.int x3), some (.long (0 : Int64)), none, some (.long (0 : Int64)), none, some (.int (0 : Int32)), none, none] [] (enc τ4) (qL Q)) ∧ (v3 = 0 → Q (-9000000000000000000 : Int64) τ4))))))))))) : BW S m_Md_worth 0 [some (.ref 153), some (.int x1), some (.int x2), some (.int x3), none, none, none, none, none, none, none] [] (enc σ) (qL Q) := by
  refine b_aload_n d_Md_worth_0 rfl rfl ?_
  refine b_iload_n d_Md_worth_1 rfl rfl ?_
  refine b_iload_n d_Md_worth_2 rfl rfl ?_
  refine b_callVi (Mc := m_Md_isEdition) (As := [.int x1, .int x2]) (st := []) d_Md_worth_3 ⟨⟨kA_Md_isEdition.1, kA_Md_isEdition.2.1, kA_Md_isEdition.2.2, by decide⟩, ml_Md_258, kV_Md_isEdition⟩ (eg_153 σ) rfl rfl (Nat.le_of_ble_eq_true rfl) H (fun v1 τ2 H => ?_)
  refine b_if_eq (tgt := 26) d_Md_worth_6 (by decide) (fun c7 => ?_) (fun c7 => ?_)
  · have H := H.1 c7
    refine b_ldc2 (v := (-9000000000000000000 : Int64)) d_Md_worth_26 cn_Md_301 ?_
    exact b_lret d_Md_worth_29 rfl ⟨_, _, rfl, rfl, H⟩
  · have H := H.2 c7
    refine b_aload_n d_Md_worth_9 rfl rfl ?_
    refine b_getf (v := .int (gY τ2 19)) d_Md_worth_10 fl_Md_160 (eg_153 τ2) rfl ?_
    refine b_if_eq (tgt := 26) d_Md_worth_13 (by decide) (fun c6 => ?_) (fun c6 => ?_)
    · have H := H.1 c6
      refine b_ldc2 (v := (-9000000000000000000 : Int64)) d_Md_worth_26 cn_Md_301 ?_
      exact b_lret d_Md_worth_29 rfl ⟨_, _, rfl, rfl, H⟩
    · have H := H.2 c6
      refine b_iload_n d_Md_worth_16 rfl rfl ?_
      refine b_iconst (v := (0 : Int32)) d_Md_worth_17 (by decide) ?_
      refine b_ldc (v := (100000 : Int32)) d_Md_worth_18 cn_Md_173 ?_
      refine b_callSi (Mc := m_Md_is) (As := [.int x3, .int (0 : Int32), .int (100000 : Int32)]) (st := []) d_Md_worth_20 ⟨⟨kA_Md_is.1, kA_Md_is.2.1, kA_Md_is.2.2, by decide⟩, ml_Md_174, kS_Md_is⟩ rfl rfl (Nat.le_of_ble_eq_true rfl) H (fun v3 τ4 H => ?_)
      refine b_if_ne (tgt := 30) d_Md_worth_23 (by decide) (fun c5 => ?_) (fun c5 => ?_)
      · have H := H.1 c5
        refine b_lconst (v := (0 : Int64)) d_Md_worth_30 (by decide) ?_
        refine b_lstore (ls' := [some (.ref 153), some (.int x1), some (.int x2), some (.int x3), some (.long (0 : Int64)), none, none, none, none, none, none]) d_Md_worth_31 (Nat.le_of_ble_eq_true rfl) rfl ?_
        refine b_lconst (v := (0 : Int64)) d_Md_worth_33 (by decide) ?_
        refine b_lstore (ls' := [some (.ref 153), some (.int x1), some (.int x2), some (.int x3), some (.long (0 : Int64)), none, some (.long (0 : Int64)), none, none, none, none]) d_Md_worth_34 (Nat.le_of_ble_eq_true rfl) rfl ?_
        refine b_iconst (v := (0 : Int32)) d_Md_worth_36 (by decide) ?_
        refine b_istore (ls' := [some (.ref 153), some (.int x1), some (.int x2), some (.int x3), some (.long (0 : Int64)), none, some (.long (0 : Int64)), none, some (.int (0 : Int32)), none, none]) d_Md_worth_37 (Nat.le_of_ble_eq_true rfl) rfl ?_
        exact b_mask [true, true, true, true, true, true, true, true, true, true, true] rfl H
      · have H := H.2 c5
        refine b_ldc2 (v := (-9000000000000000000 : Int64)) d_Md_worth_26 cn_Md_301 ?_
        exact b_lret d_Md_worth_29 rfl ⟨_, _, rfl, rfl, H⟩
set_option maxHeartbeats 4000000 in
set_option maxRecDepth 100000 in
theorem B_Md_worth_39 {S : XS} {Q : Int64 → St → Prop} (σ : St) (x1 : Int32) (x2 : Int32) (x3 : Int32) (x4 : Int64) (x6 : Int64) (x8 : Int32) (H : (((gY σ 19) ≤ x8 → ((¬ x3 = 0 → CM S m_Md_row [.int x1, .int x2] (enc σ) (qI (fun v8 τ9 => (vp_in (v8 + (4 : Int32)) 480) ∧ ((¬ ((gC τ9 28) (v8 + (4 : Int32)).toNatClampNeg) = (1 : Int32) → Q (x4 - (x6 * (((x3).toInt64 * ((gY σ 16)).toInt64) + ((gY τ9 17)).toInt64))) τ9) ∧ (((gC τ9 28) (v8 + (4 : Int32)).toNatClampNeg) = (1 : Int32) → Q (x4 - (x6 * (((x3).toInt64 * ((gY σ 16)).toInt64) + ((0 : Int32)).toInt64))) τ9))))) ∧ (x3 = 0 → Q x4 σ))) ∧ (¬ (gY σ 19) ≤ x8 → (vp_in x8 8) ∧ ((((gC σ 29) x8.toNatClampNeg) ≤ x3 → BW S m_Md_worth 39 [some (.ref 153), some (.int x1), some (.int x2), some (.int x3), some (.long (x4 + ((((gC σ 30) x8.toNatClampNeg)).toInt64 * ((((gY σ 15)).toInt64 * (((gC σ 29) x8.toNatClampNeg)).toInt64) + (((gY σ 18)).toInt64 * ((x3).toInt64 - (((gC σ 29) x8.toNatClampNeg)).toInt64)))))), none, some (.long (x6 + (((gC σ 30) x8.toNatClampNeg)).toInt64)), none, some (.int (x8 + (1 : Int32))), none, none] [] (enc σ) (qL Q)) ∧ (¬ ((gC σ 29) x8.toNatClampNeg) ≤ x3 → BW S m_Md_worth 39 [some (.ref 153), some (.int x1), some (.int x2), some (.int x3), some (.long (x4 + ((((gC σ 30) x8.toNatClampNeg)).toInt64 * ((((gY σ 15)).toInt64 * (x3).toInt64) + (((gY σ 18)).toInt64 * ((x3).toInt64 - (x3).toInt64)))))), none, some (.long (x6 + (((gC σ 30) x8.toNatClampNeg)).toInt64)), none, some (.int (x8 + (1 : Int32))), none, none] [] (enc σ) (qL Q)))))) : BW S m_Md_worth 39 [some (.ref 153), some (.int x1), some (.int x2), some (.int x3), some (.long x4), none, some (.long x6), none, some (.int x8), none, none] [] (enc σ) (qL Q) := by
  refine b_iload d_Md_worth_39 rfl ?_
  refine b_aload_n d_Md_worth_41 rfl rfl ?_
  refine b_getf (v := .int (gY σ 19)) d_Md_worth_42 fl_Md_160 (eg_153 σ) rfl ?_
  refine b_icmp_ge (tgt := 127) d_Md_worth_45 (by decide) (fun c15 => ?_) (fun c15 => ?_)
  · have H := H.1 c15
    refine b_iload_n d_Md_worth_127 rfl rfl ?_
    refine b_if_ne (tgt := 136) d_Md_worth_128 (by decide) (fun c12 => ?_) (fun c12 => ?_)
    · have H := H.1 c12
      refine b_lload d_Md_worth_136 rfl ?_
      refine b_lload d_Md_worth_138 rfl ?_
      refine b_iload_n d_Md_worth_140 rfl rfl ?_
      refine b_i2l d_Md_worth_141 ?_
      refine b_aload_n d_Md_worth_142 rfl rfl ?_
      refine b_getf (v := .int (gY σ 16)) d_Md_worth_143 fl_Md_147 (eg_153 σ) rfl ?_
      refine b_i2l d_Md_worth_146 ?_
      refine b_lmul d_Md_worth_147  ?_
      refine b_aload_n d_Md_worth_148 rfl rfl ?_
      refine b_getf (v := .ref 182) d_Md_worth_149 fl_Md_141 (eg_153 σ) rfl ?_
      refine b_iload_n d_Md_worth_152 rfl rfl ?_
      refine b_iload_n d_Md_worth_153 rfl rfl ?_
      refine b_callSi (Mc := m_Md_row) (As := [.int x1, .int x2]) (st := [.ref 182, .long ((x3).toInt64 * ((gY σ 16)).toInt64), .long x6, .long x4]) d_Md_worth_154 ⟨⟨kA_Md_row.1, kA_Md_row.2.1, kA_Md_row.2.2, by decide⟩, ml_Md_295, kS_Md_row⟩ rfl rfl (Nat.le_of_ble_eq_true rfl) H (fun v8 τ9 H => ?_)
      refine b_iconst (v := (4 : Int32)) d_Md_worth_157 (by decide) ?_
      refine b_iadd d_Md_worth_158  ?_
      obtain ⟨h10, H⟩ := H
      refine b_iald d_Md_worth_159 (eg_182 τ9) h10 ?_
      refine b_st2 (st' := [.int ((gC τ9 28) (v8 + (4 : Int32)).toNatClampNeg), .long ((x3).toInt64 * ((gY σ 16)).toInt64), .long x6, .long x4]) rfl ?_
      refine b_iconst (v := (1 : Int32)) d_Md_worth_160 (by decide) ?_
      refine b_icmp_ne (tgt := 168) d_Md_worth_161 (by decide) (fun c11 => ?_) (fun c11 => ?_)
      · have H := H.1 c11
        refine b_aload_n d_Md_worth_168 rfl rfl ?_
        refine b_getf (v := .int (gY τ9 17)) d_Md_worth_169 fl_Md_150 (eg_153 τ9) rfl ?_
        refine b_i2l d_Md_worth_172 ?_
        refine b_ladd d_Md_worth_173  ?_
        refine b_lmul d_Md_worth_174  ?_
        refine b_lsub d_Md_worth_175  ?_
        exact b_lret d_Md_worth_176 rfl ⟨_, _, rfl, rfl, H⟩
      · have H := H.2 c11
        refine b_iconst (v := (0 : Int32)) d_Md_worth_164 (by decide) ?_
        refine b_goto (tgt := 172) d_Md_worth_165 (by decide) ?_
        refine b_i2l d_Md_worth_172 ?_
        refine b_ladd d_Md_worth_173  ?_
        refine b_lmul d_Md_worth_174  ?_
        refine b_lsub d_Md_worth_175  ?_
        exact b_lret d_Md_worth_176 rfl ⟨_, _, rfl, rfl, H⟩
    · have H := H.2 c12
      refine b_lload d_Md_worth_131 rfl ?_
      refine b_goto (tgt := 176) d_Md_worth_133 (by decide) ?_
      exact b_lret d_Md_worth_176 rfl ⟨_, _, rfl, rfl, H⟩
  · have H := H.2 c15
    refine b_iload_n d_Md_worth_48 rfl rfl ?_
    refine b_aload_n d_Md_worth_49 rfl rfl ?_
    refine b_getf (v := .ref 183) d_Md_worth_50 fl_Md_163 (eg_153 σ) rfl ?_
    refine b_iload d_Md_worth_53 rfl ?_
    obtain ⟨h13, H⟩ := H
    refine b_iald d_Md_worth_55 (eg_183 σ) h13 ?_
    refine b_st2 (st' := [.int ((gC σ 29) x8.toNatClampNeg), .int x3]) rfl ?_
    refine b_icmp_ge (tgt := 64) d_Md_worth_56 (by decide) (fun c14 => ?_) (fun c14 => ?_)
    · have H := H.1 c14
      refine b_aload_n d_Md_worth_64 rfl rfl ?_
      refine b_getf (v := .ref 183) d_Md_worth_65 fl_Md_163 (eg_153 σ) rfl ?_
      refine b_iload d_Md_worth_68 rfl ?_
      refine b_iald d_Md_worth_70 (eg_183 σ) h13 ?_
      refine b_st2 (st' := [.int ((gC σ 29) x8.toNatClampNeg)]) rfl ?_
      refine b_i2l d_Md_worth_71 ?_
      refine b_lstore (ls' := [some (.ref 153), some (.int x1), some (.int x2), some (.int x3), some (.long x4), none, some (.long x6), none, some (.int x8), some (.long ((((gC σ 29) x8.toNatClampNeg)).toInt64)), none]) d_Md_worth_72 (Nat.le_of_ble_eq_true rfl) rfl ?_
      refine b_lload d_Md_worth_74 rfl ?_
      refine b_aload_n d_Md_worth_76 rfl rfl ?_
      refine b_getf (v := .ref 184) d_Md_worth_77 fl_Md_166 (eg_153 σ) rfl ?_
      refine b_iload d_Md_worth_80 rfl ?_
      refine b_iald d_Md_worth_82 (eg_184 σ) h13 ?_
      refine b_st2 (st' := [.int ((gC σ 30) x8.toNatClampNeg), .long x4]) rfl ?_
      refine b_i2l d_Md_worth_83 ?_
      refine b_aload_n d_Md_worth_84 rfl rfl ?_
      refine b_getf (v := .int (gY σ 15)) d_Md_worth_85 fl_Md_144 (eg_153 σ) rfl ?_
      refine b_i2l d_Md_worth_88 ?_
      refine b_lload d_Md_worth_89 rfl ?_
      refine b_lmul d_Md_worth_91  ?_
      refine b_aload_n d_Md_worth_92 rfl rfl ?_
      refine b_getf (v := .int (gY σ 18)) d_Md_worth_93 fl_Md_153 (eg_153 σ) rfl ?_
      refine b_i2l d_Md_worth_96 ?_
      refine b_iload_n d_Md_worth_97 rfl rfl ?_
      refine b_i2l d_Md_worth_98 ?_
      refine b_lload d_Md_worth_99 rfl ?_
      refine b_lsub d_Md_worth_101  ?_
      refine b_lmul d_Md_worth_102  ?_
      refine b_ladd d_Md_worth_103  ?_
      refine b_lmul d_Md_worth_104  ?_
      refine b_ladd d_Md_worth_105  ?_
      refine b_lstore (ls' := [some (.ref 153), some (.int x1), some (.int x2), some (.int x3), some (.long (x4 + ((((gC σ 30) x8.toNatClampNeg)).toInt64 * ((((gY σ 15)).toInt64 * (((gC σ 29) x8.toNatClampNeg)).toInt64) + (((gY σ 18)).toInt64 * ((x3).toInt64 - (((gC σ 29) x8.toNatClampNeg)).toInt64)))))), none, some (.long x6), none, some (.int x8), some (.long ((((gC σ 29) x8.toNatClampNeg)).toInt64)), none]) d_Md_worth_106 (Nat.le_of_ble_eq_true rfl) rfl ?_
      refine b_lload d_Md_worth_108 rfl ?_
      refine b_aload_n d_Md_worth_110 rfl rfl ?_
      refine b_getf (v := .ref 184) d_Md_worth_111 fl_Md_166 (eg_153 σ) rfl ?_
      refine b_iload d_Md_worth_114 rfl ?_
      refine b_iald d_Md_worth_116 (eg_184 σ) h13 ?_
      refine b_st2 (st' := [.int ((gC σ 30) x8.toNatClampNeg), .long x6]) rfl ?_
      refine b_i2l d_Md_worth_117 ?_
      refine b_ladd d_Md_worth_118  ?_
      refine b_lstore (ls' := [some (.ref 153), some (.int x1), some (.int x2), some (.int x3), some (.long (x4 + ((((gC σ 30) x8.toNatClampNeg)).toInt64 * ((((gY σ 15)).toInt64 * (((gC σ 29) x8.toNatClampNeg)).toInt64) + (((gY σ 18)).toInt64 * ((x3).toInt64 - (((gC σ 29) x8.toNatClampNeg)).toInt64)))))), none, some (.long (x6 + (((gC σ 30) x8.toNatClampNeg)).toInt64)), none, some (.int x8), some (.long ((((gC σ 29) x8.toNatClampNeg)).toInt64)), none]) d_Md_worth_119 (Nat.le_of_ble_eq_true rfl) rfl ?_
      refine b_iinc (v := (x8 + (1 : Int32))) (ls' := [some (.ref 153), some (.int x1), some (.int x2), some (.int x3), some (.long (x4 + ((((gC σ 30) x8.toNatClampNeg)).toInt64 * ((((gY σ 15)).toInt64 * (((gC σ 29) x8.toNatClampNeg)).toInt64) + (((gY σ 18)).toInt64 * ((x3).toInt64 - (((gC σ 29) x8.toNatClampNeg)).toInt64)))))), none, some (.long (x6 + (((gC σ 30) x8.toNatClampNeg)).toInt64)), none, some (.int (x8 + (1 : Int32))), some (.long ((((gC σ 29) x8.toNatClampNeg)).toInt64)), none]) d_Md_worth_121 rfl rfl (Nat.le_of_ble_eq_true rfl) rfl ?_
      refine b_goto (tgt := 39) d_Md_worth_124 (by decide) ?_
      exact b_mask [true, true, true, true, true, true, true, true, true, false, true] rfl H
    · have H := H.2 c14
      refine b_iload_n d_Md_worth_59 rfl rfl ?_
      refine b_i2l d_Md_worth_60 ?_
      refine b_goto (tgt := 72) d_Md_worth_61 (by decide) ?_
      refine b_lstore (ls' := [some (.ref 153), some (.int x1), some (.int x2), some (.int x3), some (.long x4), none, some (.long x6), none, some (.int x8), some (.long ((x3).toInt64)), none]) d_Md_worth_72 (Nat.le_of_ble_eq_true rfl) rfl ?_
      refine b_lload d_Md_worth_74 rfl ?_
      refine b_aload_n d_Md_worth_76 rfl rfl ?_
      refine b_getf (v := .ref 184) d_Md_worth_77 fl_Md_166 (eg_153 σ) rfl ?_
      refine b_iload d_Md_worth_80 rfl ?_
      refine b_iald d_Md_worth_82 (eg_184 σ) h13 ?_
      refine b_st2 (st' := [.int ((gC σ 30) x8.toNatClampNeg), .long x4]) rfl ?_
      refine b_i2l d_Md_worth_83 ?_
      refine b_aload_n d_Md_worth_84 rfl rfl ?_
      refine b_getf (v := .int (gY σ 15)) d_Md_worth_85 fl_Md_144 (eg_153 σ) rfl ?_
      refine b_i2l d_Md_worth_88 ?_
      refine b_lload d_Md_worth_89 rfl ?_
      refine b_lmul d_Md_worth_91  ?_
      refine b_aload_n d_Md_worth_92 rfl rfl ?_
      refine b_getf (v := .int (gY σ 18)) d_Md_worth_93 fl_Md_153 (eg_153 σ) rfl ?_
      refine b_i2l d_Md_worth_96 ?_
      refine b_iload_n d_Md_worth_97 rfl rfl ?_
      refine b_i2l d_Md_worth_98 ?_
      refine b_lload d_Md_worth_99 rfl ?_
      refine b_lsub d_Md_worth_101  ?_
      refine b_lmul d_Md_worth_102  ?_
      refine b_ladd d_Md_worth_103  ?_
      refine b_lmul d_Md_worth_104  ?_
      refine b_ladd d_Md_worth_105  ?_
      refine b_lstore (ls' := [some (.ref 153), some (.int x1), some (.int x2), some (.int x3), some (.long (x4 + ((((gC σ 30) x8.toNatClampNeg)).toInt64 * ((((gY σ 15)).toInt64 * (x3).toInt64) + (((gY σ 18)).toInt64 * ((x3).toInt64 - (x3).toInt64)))))), none, some (.long x6), none, some (.int x8), some (.long ((x3).toInt64)), none]) d_Md_worth_106 (Nat.le_of_ble_eq_true rfl) rfl ?_
      refine b_lload d_Md_worth_108 rfl ?_
      refine b_aload_n d_Md_worth_110 rfl rfl ?_
      refine b_getf (v := .ref 184) d_Md_worth_111 fl_Md_166 (eg_153 σ) rfl ?_
      refine b_iload d_Md_worth_114 rfl ?_
      refine b_iald d_Md_worth_116 (eg_184 σ) h13 ?_
      refine b_st2 (st' := [.int ((gC σ 30) x8.toNatClampNeg), .long x6]) rfl ?_
      refine b_i2l d_Md_worth_117 ?_
      refine b_ladd d_Md_worth_118  ?_
      refine b_lstore (ls' := [some (.ref 153), some (.int x1), some (.int x2), some (.int x3), some (.long (x4 + ((((gC σ 30) x8.toNatClampNeg)).toInt64 * ((((gY σ 15)).toInt64 * (x3).toInt64) + (((gY σ 18)).toInt64 * ((x3).toInt64 - (x3).toInt64)))))), none, some (.long (x6 + (((gC σ 30) x8.toNatClampNeg)).toInt64)), none, some (.int x8), some (.long ((x3).toInt64)), none]) d_Md_worth_119 (Nat.le_of_ble_eq_true rfl) rfl ?_
      refine b_iinc (v := (x8 + (1 : Int32))) (ls' := [some (.ref 153), some (.int x1), some (.int x2), some (.int x3), some (.long (x4 + ((((gC σ 30) x8.toNatClampNeg)).toInt64 * ((((gY σ 15)).toInt64 * (x3).toInt64) + (((gY σ 18)).toInt64 * ((x3).toInt64 - (x3).toInt64)))))), none, some (.long (x6 + (((gC σ 30) x8.toNatClampNeg)).toInt64)), none, some (.int (x8 + (1 : Int32))), some (.long ((x3).toInt64)), none]) d_Md_worth_121 rfl rfl (Nat.le_of_ble_eq_true rfl) rfl ?_
      refine b_goto (tgt := 39) d_Md_worth_124 (by decide) ?_
      exact b_mask [true, true, true, true, true, true, true, true, true, false, true] rfl H
theorem C_Md_worth {S : XS} {Q : Int64 → St → Prop} (σ : St) (x1 : Int32) (x2 : Int32) (x3 : Int32) (H : BW S m_Md_worth 0 [some (.ref 153), some (.int x1), some (.int x2), some (.int x3), none, none, none, none, none, none, none] [] (enc σ) (qL Q)) : CM S m_Md_worth [.ref 153, .int x1, .int x2, .int x3] (enc σ) (qL Q) := b_meth (by decide) (Nat.le_of_ble_eq_true rfl) rfl H
theorem d_Md_best_0 : decode m_Md_best.2.1 0 = .ok (.aload_n 0, 1) := by decide +kernel
theorem d_Md_best_1 : decode m_Md_best.2.1 1 = .ok (.iload_n 1, 1) := by decide +kernel
theorem d_Md_best_2 : decode m_Md_best.2.1 2 = .ok (.iload_n 2, 1) := by decide +kernel
theorem d_Md_best_3 : decode m_Md_best.2.1 3 = .ok (.invokevirtual 258, 3) := by decide +kernel
theorem d_Md_best_6 : decode m_Md_best.2.1 6 = .ok (.ifCond .eq 10, 3) := by decide +kernel
theorem d_Md_best_9 : decode m_Md_best.2.1 9 = .ok (.aload_n 0, 1) := by decide +kernel
theorem d_Md_best_10 : decode m_Md_best.2.1 10 = .ok (.getfield 160, 3) := by decide +kernel
theorem d_Md_best_13 : decode m_Md_best.2.1 13 = .ok (.ifCond .ne 5, 3) := by decide +kernel
theorem d_Md_best_16 : decode m_Md_best.2.1 16 = .ok (.iconst (-1), 1) := by decide +kernel
theorem d_Md_best_17 : decode m_Md_best.2.1 17 = .ok (.ireturn, 1) := by decide +kernel
theorem d_Md_best_18 : decode m_Md_best.2.1 18 = .ok (.iconst 0, 1) := by decide +kernel
theorem d_Md_best_19 : decode m_Md_best.2.1 19 = .ok (.istore_n 3, 1) := by decide +kernel
theorem d_Md_best_20 : decode m_Md_best.2.1 20 = .ok (.iconst 0, 1) := by decide +kernel
theorem d_Md_best_21 : decode m_Md_best.2.1 21 = .ok (.istore 4, 2) := by decide +kernel
theorem d_Md_best_23 : decode m_Md_best.2.1 23 = .ok (.iload 4, 2) := by decide +kernel
theorem d_Md_best_25 : decode m_Md_best.2.1 25 = .ok (.aload_n 0, 1) := by decide +kernel
theorem d_Md_best_26 : decode m_Md_best.2.1 26 = .ok (.getfield 160, 3) := by decide +kernel
theorem d_Md_best_29 : decode m_Md_best.2.1 29 = .ok (.if_icmp .ge 69, 3) := by decide +kernel
theorem d_Md_best_32 : decode m_Md_best.2.1 32 = .ok (.aload_n 0, 1) := by decide +kernel
theorem d_Md_best_33 : decode m_Md_best.2.1 33 = .ok (.iload_n 1, 1) := by decide +kernel
theorem d_Md_best_34 : decode m_Md_best.2.1 34 = .ok (.iload_n 2, 1) := by decide +kernel
theorem d_Md_best_35 : decode m_Md_best.2.1 35 = .ok (.aload_n 0, 1) := by decide +kernel
theorem d_Md_best_36 : decode m_Md_best.2.1 36 = .ok (.getfield 163, 3) := by decide +kernel
theorem d_Md_best_39 : decode m_Md_best.2.1 39 = .ok (.iload 4, 2) := by decide +kernel
theorem d_Md_best_41 : decode m_Md_best.2.1 41 = .ok (.iaload, 1) := by decide +kernel
theorem d_Md_best_42 : decode m_Md_best.2.1 42 = .ok (.invokevirtual 303, 3) := by decide +kernel
theorem d_Md_best_45 : decode m_Md_best.2.1 45 = .ok (.aload_n 0, 1) := by decide +kernel
theorem d_Md_best_46 : decode m_Md_best.2.1 46 = .ok (.iload_n 1, 1) := by decide +kernel
theorem d_Md_best_47 : decode m_Md_best.2.1 47 = .ok (.iload_n 2, 1) := by decide +kernel
theorem d_Md_best_48 : decode m_Md_best.2.1 48 = .ok (.iload_n 3, 1) := by decide +kernel
theorem d_Md_best_49 : decode m_Md_best.2.1 49 = .ok (.invokevirtual 303, 3) := by decide +kernel
theorem d_Md_best_52 : decode m_Md_best.2.1 52 = .ok (.lsub, 1) := by decide +kernel
theorem d_Md_best_53 : decode m_Md_best.2.1 53 = .ok (.lstore 5, 2) := by decide +kernel
theorem d_Md_best_55 : decode m_Md_best.2.1 55 = .ok (.lload 5, 2) := by decide +kernel
theorem d_Md_best_57 : decode m_Md_best.2.1 57 = .ok (.lconst 0, 1) := by decide +kernel
theorem d_Md_best_58 : decode m_Md_best.2.1 58 = .ok (.lcmp, 1) := by decide +kernel
theorem d_Md_best_59 : decode m_Md_best.2.1 59 = .ok (.ifCond .gt 21, 3) := by decide +kernel
theorem d_Md_best_62 : decode m_Md_best.2.1 62 = .ok (.lload 5, 2) := by decide +kernel
theorem d_Md_best_64 : decode m_Md_best.2.1 64 = .ok (.lconst 0, 1) := by decide +kernel
theorem d_Md_best_65 : decode m_Md_best.2.1 65 = .ok (.lcmp, 1) := by decide +kernel
theorem d_Md_best_66 : decode m_Md_best.2.1 66 = .ok (.ifCond .ne 24, 3) := by decide +kernel
theorem d_Md_best_69 : decode m_Md_best.2.1 69 = .ok (.aload_n 0, 1) := by decide +kernel
theorem d_Md_best_70 : decode m_Md_best.2.1 70 = .ok (.getfield 163, 3) := by decide +kernel
theorem d_Md_best_73 : decode m_Md_best.2.1 73 = .ok (.iload 4, 2) := by decide +kernel
theorem d_Md_best_75 : decode m_Md_best.2.1 75 = .ok (.iaload, 1) := by decide +kernel
theorem d_Md_best_76 : decode m_Md_best.2.1 76 = .ok (.iload_n 3, 1) := by decide +kernel
theorem d_Md_best_77 : decode m_Md_best.2.1 77 = .ok (.if_icmp .ge 13, 3) := by decide +kernel
theorem d_Md_best_80 : decode m_Md_best.2.1 80 = .ok (.aload_n 0, 1) := by decide +kernel
theorem d_Md_best_81 : decode m_Md_best.2.1 81 = .ok (.getfield 163, 3) := by decide +kernel
theorem d_Md_best_84 : decode m_Md_best.2.1 84 = .ok (.iload 4, 2) := by decide +kernel
theorem d_Md_best_86 : decode m_Md_best.2.1 86 = .ok (.iaload, 1) := by decide +kernel
theorem d_Md_best_87 : decode m_Md_best.2.1 87 = .ok (.goto 4, 3) := by decide +kernel
theorem d_Md_best_90 : decode m_Md_best.2.1 90 = .ok (.iload_n 3, 1) := by decide +kernel
theorem d_Md_best_91 : decode m_Md_best.2.1 91 = .ok (.istore_n 3, 1) := by decide +kernel
theorem d_Md_best_92 : decode m_Md_best.2.1 92 = .ok (.iinc 4 1, 3) := by decide +kernel
theorem d_Md_best_95 : decode m_Md_best.2.1 95 = .ok (.goto (-72), 3) := by decide +kernel
theorem d_Md_best_98 : decode m_Md_best.2.1 98 = .ok (.iload_n 3, 1) := by decide +kernel
theorem d_Md_best_99 : decode m_Md_best.2.1 99 = .ok (.ireturn, 1) := by decide +kernel
set_option maxHeartbeats 4000000 in
set_option maxRecDepth 100000 in
theorem B_Md_best_0 {S : XS} {Q : Int32 → St → Prop} (σ : St) (x1 : Int32) (x2 : Int32) (H : CM S m_Md_isEdition [.ref 153, .int x1, .int x2] (enc σ) (qI (fun v1 τ2 => ((v1 = 0 → Q (-1 : Int32) τ2) ∧ (¬ v1 = 0 → ((¬ (gY τ2 19) = 0 → BW S m_Md_best 23 [some (.ref 153), some (.int x1), some (.int x2), some (.int (0 : Int32)), some (.int (0 : Int32)), none, none] [] (enc τ2) (qI Q)) ∧ ((gY τ2 19) = 0 → Q (-1 : Int32) τ2))))))) : BW S m_Md_best 0 [some (.ref 153), some (.int x1), some (.int x2), none, none, none, none] [] (enc σ) (qI Q) := by
  refine b_aload_n d_Md_best_0 rfl rfl ?_
  refine b_iload_n d_Md_best_1 rfl rfl ?_
  refine b_iload_n d_Md_best_2 rfl rfl ?_
  refine b_callVi (Mc := m_Md_isEdition) (As := [.int x1, .int x2]) (st := []) d_Md_best_3 ⟨⟨kA_Md_isEdition.1, kA_Md_isEdition.2.1, kA_Md_isEdition.2.2, by decide⟩, ml_Md_258, kV_Md_isEdition⟩ (eg_153 σ) rfl rfl (Nat.le_of_ble_eq_true rfl) H (fun v1 τ2 H => ?_)
  refine b_if_eq (tgt := 16) d_Md_best_6 (by decide) (fun c4 => ?_) (fun c4 => ?_)
  · have H := H.1 c4
    refine b_iconst (v := (-1 : Int32)) d_Md_best_16 (by decide) ?_
    exact b_iret (ty := .int) d_Md_best_17 rfl rfl ⟨_, _, rfl, rfl, H⟩
  · have H := H.2 c4
    refine b_aload_n d_Md_best_9 rfl rfl ?_
    refine b_getf (v := .int (gY τ2 19)) d_Md_best_10 fl_Md_160 (eg_153 τ2) rfl ?_
    refine b_if_ne (tgt := 18) d_Md_best_13 (by decide) (fun c3 => ?_) (fun c3 => ?_)
    · have H := H.1 c3
      refine b_iconst (v := (0 : Int32)) d_Md_best_18 (by decide) ?_
      refine b_istore_n (ls' := [some (.ref 153), some (.int x1), some (.int x2), some (.int (0 : Int32)), none, none, none]) d_Md_best_19 rfl (Nat.le_of_ble_eq_true rfl) rfl ?_
      refine b_iconst (v := (0 : Int32)) d_Md_best_20 (by decide) ?_
      refine b_istore (ls' := [some (.ref 153), some (.int x1), some (.int x2), some (.int (0 : Int32)), some (.int (0 : Int32)), none, none]) d_Md_best_21 (Nat.le_of_ble_eq_true rfl) rfl ?_
      exact b_mask [true, true, true, true, true, true, true] rfl H
    · have H := H.2 c3
      refine b_iconst (v := (-1 : Int32)) d_Md_best_16 (by decide) ?_
      exact b_iret (ty := .int) d_Md_best_17 rfl rfl ⟨_, _, rfl, rfl, H⟩
set_option maxHeartbeats 4000000 in
set_option maxRecDepth 100000 in
theorem B_Md_best_23 {S : XS} {Q : Int32 → St → Prop} (σ : St) (x1 : Int32) (x2 : Int32) (x3 : Int32) (x4 : Int32) (H : (((gY σ 19) ≤ x4 → Q x3 σ) ∧ (¬ (gY σ 19) ≤ x4 → (vp_in x4 8) ∧ CM S m_Md_worth [.ref 153, .int x1, .int x2, .int ((gC σ 29) x4.toNatClampNeg)] (enc σ) (qL (fun v6 τ7 => CM S m_Md_worth [.ref 153, .int x1, .int x2, .int x3] (enc τ7) (qL (fun v8 τ9 => ((0 < (lg_cmp (v6 - v8) (0 : Int64)) → (vp_in x4 8) ∧ BW S m_Md_best 23 [some (.ref 153), some (.int x1), some (.int x2), some (.int ((gC τ9 29) x4.toNatClampNeg)), some (.int (x4 + (1 : Int32))), none, none] [] (enc τ9) (qI Q)) ∧ (¬ 0 < (lg_cmp (v6 - v8) (0 : Int64)) → ((¬ (lg_cmp (v6 - v8) (0 : Int64)) = 0 → BW S m_Md_best 23 [some (.ref 153), some (.int x1), some (.int x2), some (.int x3), some (.int (x4 + (1 : Int32))), none, none] [] (enc τ9) (qI Q)) ∧ ((lg_cmp (v6 - v8) (0 : Int64)) = 0 → (vp_in x4 8) ∧ ((x3 ≤ ((gC τ9 29) x4.toNatClampNeg) → BW S m_Md_best 23 [some (.ref 153), some (.int x1), some (.int x2), some (.int x3), some (.int (x4 + (1 : Int32))), none, none] [] (enc τ9) (qI Q)) ∧ (¬ x3 ≤ ((gC τ9 29) x4.toNatClampNeg) → BW S m_Md_best 23 [some (.ref 153), some (.int x1), some (.int x2), some (.int ((gC τ9 29) x4.toNatClampNeg)), some (.int (x4 + (1 : Int32))), none, none] [] (enc τ9) (qI Q)))))))))))))) : BW S m_Md_best 23 [some (.ref 153), some (.int x1), some (.int x2), some (.int x3), some (.int x4), none, none] [] (enc σ) (qI Q) := by
  refine b_iload d_Md_best_23 rfl ?_
  refine b_aload_n d_Md_best_25 rfl rfl ?_
  refine b_getf (v := .int (gY σ 19)) d_Md_best_26 fl_Md_160 (eg_153 σ) rfl ?_
  refine b_icmp_ge (tgt := 98) d_Md_best_29 (by decide) (fun c15 => ?_) (fun c15 => ?_)
  · have H := H.1 c15
    refine b_iload_n d_Md_best_98 rfl rfl ?_
    exact b_iret (ty := .int) d_Md_best_99 rfl rfl ⟨_, _, rfl, rfl, H⟩
  · have H := H.2 c15
    refine b_aload_n d_Md_best_32 rfl rfl ?_
    refine b_iload_n d_Md_best_33 rfl rfl ?_
    refine b_iload_n d_Md_best_34 rfl rfl ?_
    refine b_aload_n d_Md_best_35 rfl rfl ?_
    refine b_getf (v := .ref 183) d_Md_best_36 fl_Md_163 (eg_153 σ) rfl ?_
    refine b_iload d_Md_best_39 rfl ?_
    obtain ⟨h5, H⟩ := H
    refine b_iald d_Md_best_41 (eg_183 σ) h5 ?_
    refine b_st2 (st' := [.int ((gC σ 29) x4.toNatClampNeg), .int x2, .int x1, .ref 153]) rfl ?_
    refine b_callVl (Mc := m_Md_worth) (As := [.int x1, .int x2, .int ((gC σ 29) x4.toNatClampNeg)]) (st := []) d_Md_best_42 ⟨⟨kA_Md_worth.1, kA_Md_worth.2.1, kA_Md_worth.2.2, by decide⟩, ml_Md_303, kV_Md_worth⟩ (eg_153 σ) rfl rfl (Nat.le_of_ble_eq_true rfl) H (fun v6 τ7 H => ?_)
    refine b_aload_n d_Md_best_45 rfl rfl ?_
    refine b_iload_n d_Md_best_46 rfl rfl ?_
    refine b_iload_n d_Md_best_47 rfl rfl ?_
    refine b_iload_n d_Md_best_48 rfl rfl ?_
    refine b_callVl (Mc := m_Md_worth) (As := [.int x1, .int x2, .int x3]) (st := [.long v6]) d_Md_best_49 ⟨⟨kA_Md_worth.1, kA_Md_worth.2.1, kA_Md_worth.2.2, by decide⟩, ml_Md_303, kV_Md_worth⟩ (eg_153 τ7) rfl rfl (Nat.le_of_ble_eq_true rfl) H (fun v8 τ9 H => ?_)
    refine b_lsub d_Md_best_52  ?_
    refine b_lstore (ls' := [some (.ref 153), some (.int x1), some (.int x2), some (.int x3), some (.int x4), some (.long (v6 - v8)), none]) d_Md_best_53 (Nat.le_of_ble_eq_true rfl) rfl ?_
    refine b_lload d_Md_best_55 rfl ?_
    refine b_lconst (v := (0 : Int64)) d_Md_best_57 (by decide) ?_
    refine b_lcmp d_Md_best_58 ?_
    refine b_if_gt (tgt := 80) d_Md_best_59 (by decide) (fun c14 => ?_) (fun c14 => ?_)
    · have H := H.1 c14
      refine b_aload_n d_Md_best_80 rfl rfl ?_
      refine b_getf (v := .ref 183) d_Md_best_81 fl_Md_163 (eg_153 τ9) rfl ?_
      refine b_iload d_Md_best_84 rfl ?_
      obtain ⟨h10, H⟩ := H
      refine b_iald d_Md_best_86 (eg_183 τ9) h10 ?_
      refine b_st2 (st' := [.int ((gC τ9 29) x4.toNatClampNeg)]) rfl ?_
      refine b_goto (tgt := 91) d_Md_best_87 (by decide) ?_
      refine b_istore_n (ls' := [some (.ref 153), some (.int x1), some (.int x2), some (.int ((gC τ9 29) x4.toNatClampNeg)), some (.int x4), some (.long (v6 - v8)), none]) d_Md_best_91 rfl (Nat.le_of_ble_eq_true rfl) rfl ?_
      refine b_iinc (v := (x4 + (1 : Int32))) (ls' := [some (.ref 153), some (.int x1), some (.int x2), some (.int ((gC τ9 29) x4.toNatClampNeg)), some (.int (x4 + (1 : Int32))), some (.long (v6 - v8)), none]) d_Md_best_92 rfl rfl (Nat.le_of_ble_eq_true rfl) rfl ?_
      refine b_goto (tgt := 23) d_Md_best_95 (by decide) ?_
      exact b_mask [true, true, true, true, true, false, true] rfl H
    · have H := H.2 c14
      refine b_lload d_Md_best_62 rfl ?_
      refine b_lconst (v := (0 : Int64)) d_Md_best_64 (by decide) ?_
      refine b_lcmp d_Md_best_65 ?_
      refine b_if_ne (tgt := 90) d_Md_best_66 (by decide) (fun c13 => ?_) (fun c13 => ?_)
      · have H := H.1 c13
        refine b_iload_n d_Md_best_90 rfl rfl ?_
        refine b_istore_n (ls' := [some (.ref 153), some (.int x1), some (.int x2), some (.int x3), some (.int x4), some (.long (v6 - v8)), none]) d_Md_best_91 rfl (Nat.le_of_ble_eq_true rfl) rfl ?_
        refine b_iinc (v := (x4 + (1 : Int32))) (ls' := [some (.ref 153), some (.int x1), some (.int x2), some (.int x3), some (.int (x4 + (1 : Int32))), some (.long (v6 - v8)), none]) d_Md_best_92 rfl rfl (Nat.le_of_ble_eq_true rfl) rfl ?_
        refine b_goto (tgt := 23) d_Md_best_95 (by decide) ?_
        exact b_mask [true, true, true, true, true, false, true] rfl H
      · have H := H.2 c13
        refine b_aload_n d_Md_best_69 rfl rfl ?_
        refine b_getf (v := .ref 183) d_Md_best_70 fl_Md_163 (eg_153 τ9) rfl ?_
        refine b_iload d_Md_best_73 rfl ?_
        obtain ⟨h11, H⟩ := H
        refine b_iald d_Md_best_75 (eg_183 τ9) h11 ?_
        refine b_st2 (st' := [.int ((gC τ9 29) x4.toNatClampNeg)]) rfl ?_
        refine b_iload_n d_Md_best_76 rfl rfl ?_
        refine b_icmp_ge (tgt := 90) d_Md_best_77 (by decide) (fun c12 => ?_) (fun c12 => ?_)
        · have H := H.1 c12
          refine b_iload_n d_Md_best_90 rfl rfl ?_
          refine b_istore_n (ls' := [some (.ref 153), some (.int x1), some (.int x2), some (.int x3), some (.int x4), some (.long (v6 - v8)), none]) d_Md_best_91 rfl (Nat.le_of_ble_eq_true rfl) rfl ?_
          refine b_iinc (v := (x4 + (1 : Int32))) (ls' := [some (.ref 153), some (.int x1), some (.int x2), some (.int x3), some (.int (x4 + (1 : Int32))), some (.long (v6 - v8)), none]) d_Md_best_92 rfl rfl (Nat.le_of_ble_eq_true rfl) rfl ?_
          refine b_goto (tgt := 23) d_Md_best_95 (by decide) ?_
          exact b_mask [true, true, true, true, true, false, true] rfl H
        · have H := H.2 c12
          refine b_aload_n d_Md_best_80 rfl rfl ?_
          refine b_getf (v := .ref 183) d_Md_best_81 fl_Md_163 (eg_153 τ9) rfl ?_
          refine b_iload d_Md_best_84 rfl ?_
          refine b_iald d_Md_best_86 (eg_183 τ9) h11 ?_
          refine b_st2 (st' := [.int ((gC τ9 29) x4.toNatClampNeg)]) rfl ?_
          refine b_goto (tgt := 91) d_Md_best_87 (by decide) ?_
          refine b_istore_n (ls' := [some (.ref 153), some (.int x1), some (.int x2), some (.int ((gC τ9 29) x4.toNatClampNeg)), some (.int x4), some (.long (v6 - v8)), none]) d_Md_best_91 rfl (Nat.le_of_ble_eq_true rfl) rfl ?_
          refine b_iinc (v := (x4 + (1 : Int32))) (ls' := [some (.ref 153), some (.int x1), some (.int x2), some (.int ((gC τ9 29) x4.toNatClampNeg)), some (.int (x4 + (1 : Int32))), some (.long (v6 - v8)), none]) d_Md_best_92 rfl rfl (Nat.le_of_ble_eq_true rfl) rfl ?_
          refine b_goto (tgt := 23) d_Md_best_95 (by decide) ?_
          exact b_mask [true, true, true, true, true, false, true] rfl H
theorem C_Md_best {S : XS} {Q : Int32 → St → Prop} (σ : St) (x1 : Int32) (x2 : Int32) (H : BW S m_Md_best 0 [some (.ref 153), some (.int x1), some (.int x2), none, none, none, none] [] (enc σ) (qI Q)) : CM S m_Md_best [.ref 153, .int x1, .int x2] (enc σ) (qI Q) := b_meth (by decide) (Nat.le_of_ble_eq_true rfl) rfl H
theorem d_Md_purse_0 : decode m_Md_purse.2.1 0 = .ok (.aload_n 0, 1) := by decide +kernel
theorem d_Md_purse_1 : decode m_Md_purse.2.1 1 = .ok (.getfield 156, 3) := by decide +kernel
theorem d_Md_purse_4 : decode m_Md_purse.2.1 4 = .ok (.lreturn, 1) := by decide +kernel
set_option maxHeartbeats 4000000 in
set_option maxRecDepth 100000 in
theorem B_Md_purse_0 {S : XS} {Q : Int64 → St → Prop} (σ : St)  (H : Q (gQ σ) σ) : BW S m_Md_purse 0 [some (.ref 153)] [] (enc σ) (qL Q) := by
  refine b_aload_n d_Md_purse_0 rfl rfl ?_
  refine b_getf (v := .long (gQ σ)) d_Md_purse_1 fl_Md_156 (eg_153 σ) rfl ?_
  exact b_lret d_Md_purse_4 rfl ⟨_, _, rfl, rfl, H⟩
theorem C_Md_purse {S : XS} {Q : Int64 → St → Prop} (σ : St)  (H : BW S m_Md_purse 0 [some (.ref 153)] [] (enc σ) (qL Q)) : CM S m_Md_purse [.ref 153] (enc σ) (qL Q) := b_meth (by decide) (Nat.le_of_ble_eq_true rfl) rfl H
