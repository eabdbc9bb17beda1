/-! block rules, by program -/
theorem d_Ag_readFrom_0 : decode m_Ag_readFrom.2.1 0 = .ok (.aload_n 1, 1) := by decide +kernel
theorem d_Ag_readFrom_1 : decode m_Ag_readFrom.2.1 1 = .ok (.invokevirtual 16, 3) := by decide +kernel
theorem d_Ag_readFrom_4 : decode m_Ag_readFrom.2.1 4 = .ok (.iconst 0, 1) := by decide +kernel
theorem d_Ag_readFrom_5 : decode m_Ag_readFrom.2.1 5 = .ok (.istore_n 2, 1) := by decide +kernel
theorem d_Ag_readFrom_6 : decode m_Ag_readFrom.2.1 6 = .ok (.iconst 0, 1) := by decide +kernel
theorem d_Ag_readFrom_7 : decode m_Ag_readFrom.2.1 7 = .ok (.istore_n 3, 1) := by decide +kernel
theorem d_Ag_readFrom_8 : decode m_Ag_readFrom.2.1 8 = .ok (.iload_n 3, 1) := by decide +kernel
theorem d_Ag_readFrom_9 : decode m_Ag_readFrom.2.1 9 = .ok (.iconst 5, 1) := by decide +kernel
theorem d_Ag_readFrom_10 : decode m_Ag_readFrom.2.1 10 = .ok (.if_icmp .ge 108, 3) := by decide +kernel
theorem d_Ag_readFrom_13 : decode m_Ag_readFrom.2.1 13 = .ok (.aload_n 1, 1) := by decide +kernel
theorem d_Ag_readFrom_14 : decode m_Ag_readFrom.2.1 14 = .ok (.invokevirtual 21, 3) := by decide +kernel
theorem d_Ag_readFrom_17 : decode m_Ag_readFrom.2.1 17 = .ok (.ifCond .ne 101, 3) := by decide +kernel
theorem d_Ag_readFrom_20 : decode m_Ag_readFrom.2.1 20 = .ok (.aload_n 0, 1) := by decide +kernel
theorem d_Ag_readFrom_21 : decode m_Ag_readFrom.2.1 21 = .ok (.iload_n 3, 1) := by decide +kernel
theorem d_Ag_readFrom_22 : decode m_Ag_readFrom.2.1 22 = .ok (.iconst 1, 1) := by decide +kernel
theorem d_Ag_readFrom_23 : decode m_Ag_readFrom.2.1 23 = .ok (.iadd, 1) := by decide +kernel
theorem d_Ag_readFrom_24 : decode m_Ag_readFrom.2.1 24 = .ok (.putfield 25, 3) := by decide +kernel
theorem d_Ag_readFrom_27 : decode m_Ag_readFrom.2.1 27 = .ok (.aload_n 0, 1) := by decide +kernel
theorem d_Ag_readFrom_28 : decode m_Ag_readFrom.2.1 28 = .ok (.getfield 9, 3) := by decide +kernel
theorem d_Ag_readFrom_31 : decode m_Ag_readFrom.2.1 31 = .ok (.iload_n 3, 1) := by decide +kernel
theorem d_Ag_readFrom_32 : decode m_Ag_readFrom.2.1 32 = .ok (.aload_n 1, 1) := by decide +kernel
theorem d_Ag_readFrom_33 : decode m_Ag_readFrom.2.1 33 = .ok (.iconst 0, 1) := by decide +kernel
theorem d_Ag_readFrom_34 : decode m_Ag_readFrom.2.1 34 = .ok (.bipush 100, 2) := by decide +kernel
theorem d_Ag_readFrom_36 : decode m_Ag_readFrom.2.1 36 = .ok (.invokevirtual 29, 3) := by decide +kernel
theorem d_Ag_readFrom_39 : decode m_Ag_readFrom.2.1 39 = .ok (.iastore, 1) := by decide +kernel
theorem d_Ag_readFrom_40 : decode m_Ag_readFrom.2.1 40 = .ok (.aload_n 1, 1) := by decide +kernel
theorem d_Ag_readFrom_41 : decode m_Ag_readFrom.2.1 41 = .ok (.ldc 33, 2) := by decide +kernel
theorem d_Ag_readFrom_43 : decode m_Ag_readFrom.2.1 43 = .ok (.invokevirtual 35, 3) := by decide +kernel
theorem d_Ag_readFrom_46 : decode m_Ag_readFrom.2.1 46 = .ok (.aload_n 1, 1) := by decide +kernel
theorem d_Ag_readFrom_47 : decode m_Ag_readFrom.2.1 47 = .ok (.ldc 39, 2) := by decide +kernel
theorem d_Ag_readFrom_49 : decode m_Ag_readFrom.2.1 49 = .ok (.invokevirtual 41, 3) := by decide +kernel
theorem d_Ag_readFrom_52 : decode m_Ag_readFrom.2.1 52 = .ok (.ifCond .eq 26, 3) := by decide +kernel
theorem d_Ag_readFrom_55 : decode m_Ag_readFrom.2.1 55 = .ok (.aload_n 0, 1) := by decide +kernel
theorem d_Ag_readFrom_56 : decode m_Ag_readFrom.2.1 56 = .ok (.aload_n 1, 1) := by decide +kernel
theorem d_Ag_readFrom_57 : decode m_Ag_readFrom.2.1 57 = .ok (.iconst 0, 1) := by decide +kernel
theorem d_Ag_readFrom_58 : decode m_Ag_readFrom.2.1 58 = .ok (.sipush 9999, 3) := by decide +kernel
theorem d_Ag_readFrom_61 : decode m_Ag_readFrom.2.1 61 = .ok (.invokevirtual 29, 3) := by decide +kernel
theorem d_Ag_readFrom_64 : decode m_Ag_readFrom.2.1 64 = .ok (.putfield 45, 3) := by decide +kernel
theorem d_Ag_readFrom_67 : decode m_Ag_readFrom.2.1 67 = .ok (.aload_n 1, 1) := by decide +kernel
theorem d_Ag_readFrom_68 : decode m_Ag_readFrom.2.1 68 = .ok (.bipush 59, 2) := by decide +kernel
theorem d_Ag_readFrom_70 : decode m_Ag_readFrom.2.1 70 = .ok (.invokevirtual 47, 3) := by decide +kernel
theorem d_Ag_readFrom_73 : decode m_Ag_readFrom.2.1 73 = .ok (.aload_n 1, 1) := by decide +kernel
theorem d_Ag_readFrom_74 : decode m_Ag_readFrom.2.1 74 = .ok (.invokevirtual 51, 3) := by decide +kernel
theorem d_Ag_readFrom_77 : decode m_Ag_readFrom.2.1 77 = .ok (.return_, 1) := by decide +kernel
theorem d_Ag_readFrom_78 : decode m_Ag_readFrom.2.1 78 = .ok (.aload_n 1, 1) := by decide +kernel
theorem d_Ag_readFrom_79 : decode m_Ag_readFrom.2.1 79 = .ok (.ldc 54, 2) := by decide +kernel
theorem d_Ag_readFrom_81 : decode m_Ag_readFrom.2.1 81 = .ok (.invokevirtual 35, 3) := by decide +kernel
theorem d_Ag_readFrom_84 : decode m_Ag_readFrom.2.1 84 = .ok (.aload_n 0, 1) := by decide +kernel
theorem d_Ag_readFrom_85 : decode m_Ag_readFrom.2.1 85 = .ok (.getfield 13, 3) := by decide +kernel
theorem d_Ag_readFrom_88 : decode m_Ag_readFrom.2.1 88 = .ok (.iload_n 3, 1) := by decide +kernel
theorem d_Ag_readFrom_89 : decode m_Ag_readFrom.2.1 89 = .ok (.aload_n 1, 1) := by decide +kernel
theorem d_Ag_readFrom_90 : decode m_Ag_readFrom.2.1 90 = .ok (.iload_n 2, 1) := by decide +kernel
theorem d_Ag_readFrom_91 : decode m_Ag_readFrom.2.1 91 = .ok (.iconst 1, 1) := by decide +kernel
theorem d_Ag_readFrom_92 : decode m_Ag_readFrom.2.1 92 = .ok (.iadd, 1) := by decide +kernel
theorem d_Ag_readFrom_93 : decode m_Ag_readFrom.2.1 93 = .ok (.ldc 56, 2) := by decide +kernel
theorem d_Ag_readFrom_95 : decode m_Ag_readFrom.2.1 95 = .ok (.invokevirtual 29, 3) := by decide +kernel
theorem d_Ag_readFrom_98 : decode m_Ag_readFrom.2.1 98 = .ok (.iastore, 1) := by decide +kernel
theorem d_Ag_readFrom_99 : decode m_Ag_readFrom.2.1 99 = .ok (.aload_n 0, 1) := by decide +kernel
theorem d_Ag_readFrom_100 : decode m_Ag_readFrom.2.1 100 = .ok (.getfield 13, 3) := by decide +kernel
theorem d_Ag_readFrom_103 : decode m_Ag_readFrom.2.1 103 = .ok (.iload_n 3, 1) := by decide +kernel
theorem d_Ag_readFrom_104 : decode m_Ag_readFrom.2.1 104 = .ok (.iaload, 1) := by decide +kernel
theorem d_Ag_readFrom_105 : decode m_Ag_readFrom.2.1 105 = .ok (.istore_n 2, 1) := by decide +kernel
theorem d_Ag_readFrom_106 : decode m_Ag_readFrom.2.1 106 = .ok (.aload_n 1, 1) := by decide +kernel
theorem d_Ag_readFrom_107 : decode m_Ag_readFrom.2.1 107 = .ok (.bipush 44, 2) := by decide +kernel
theorem d_Ag_readFrom_109 : decode m_Ag_readFrom.2.1 109 = .ok (.invokevirtual 47, 3) := by decide +kernel
theorem d_Ag_readFrom_112 : decode m_Ag_readFrom.2.1 112 = .ok (.iinc 3 1, 3) := by decide +kernel
theorem d_Ag_readFrom_115 : decode m_Ag_readFrom.2.1 115 = .ok (.goto (-107), 3) := by decide +kernel
theorem d_Ag_readFrom_118 : decode m_Ag_readFrom.2.1 118 = .ok (.aload_n 1, 1) := by decide +kernel
theorem d_Ag_readFrom_119 : decode m_Ag_readFrom.2.1 119 = .ok (.invokevirtual 57, 3) := by decide +kernel
theorem d_Ag_readFrom_122 : decode m_Ag_readFrom.2.1 122 = .ok (.return_, 1) := by decide +kernel
set_option maxHeartbeats 4000000 in
set_option maxRecDepth 100000 in
theorem B_Ag_readFrom_0 {S : XS} {Q : St → Prop} (σ : St) (q0 : Nat) (H : CM S m_Tp_open [.ref 1] (enc σ) (qV (fun τ2 => BW S m_Ag_readFrom 8 [some (.ref q0), some (.ref 1), some (.int (0 : Int32)), some (.int (0 : Int32))] [] (enc τ2) (qV Q)))) : BW S m_Ag_readFrom 0 [some (.ref q0), some (.ref 1), none, none] [] (enc σ) (qV Q) := by
  refine b_aload_n d_Ag_readFrom_0 rfl rfl ?_
  refine b_callVv (Mc := m_Tp_open) (As := []) (st := []) d_Ag_readFrom_1 ⟨⟨kA_Tp_open.1, kA_Tp_open.2.1, kA_Tp_open.2.2, by decide⟩, ml_Ag_16, kV_Tp_open⟩ (eg_1 σ) rfl rfl (Nat.le_of_ble_eq_true rfl) H (fun τ2 H => ?_)
  refine b_iconst (v := (0 : Int32)) d_Ag_readFrom_4 (by decide) ?_
  refine b_istore_n (ls' := [some (.ref q0), some (.ref 1), some (.int (0 : Int32)), none]) d_Ag_readFrom_5 rfl (Nat.le_of_ble_eq_true rfl) rfl ?_
  refine b_iconst (v := (0 : Int32)) d_Ag_readFrom_6 (by decide) ?_
  refine b_istore_n (ls' := [some (.ref q0), some (.ref 1), some (.int (0 : Int32)), some (.int (0 : Int32))]) d_Ag_readFrom_7 rfl (Nat.le_of_ble_eq_true rfl) rfl ?_
  exact b_mask [true, true, true, true] rfl H
set_option maxHeartbeats 4000000 in
set_option maxRecDepth 100000 in
theorem B_Ag_readFrom_8 {S : XS} {Q : St → Prop} (σ : St) (q0 : Nat) (x2 : Int32) (x3 : Int32) (H : (((5 : Int32) ≤ x3 → CM S m_Tp_failNext [.ref 1] (enc σ) (qV (fun τ4 => Q τ4))) ∧ (¬ (5 : Int32) ≤ x3 → CM S m_Tp_failed [.ref 1] (enc σ) (qI (fun v5 τ6 => ((¬ v5 = 0 → CM S m_Tp_failNext [.ref 1] (enc τ6) (qV (fun τ8 => Q τ8))) ∧ (v5 = 0 → (isAg τ6 q0) ∧ (isAg (stI τ6 q0 2 (x3 + (1 : Int32))) q0) ∧ CM S m_Tp_readNumber [.ref 1, .int (0 : Int32), .int (100 : Int32)] (enc (stI τ6 q0 2 (x3 + (1 : Int32)))) (qI (fun v11 τ12 => (isA5 τ12 (q0 + 1)) ∧ (vp_in x3 5) ∧ CM S m_Tp_needWord [.ref 1, .retAddr 4] (enc (stA τ12 (q0 + 1) (upd (fA τ12 (q0 + 1)) x3.toNatClampNeg v11))) (qV (fun τ16 => CM S m_Tp_passWord [.ref 1, .retAddr 5] (enc τ16) (qI (fun v17 τ18 => ((v17 = 0 → CM S m_Tp_needWord [.ref 1, .retAddr 6] (enc τ18) (qV (fun τ20 => (isAg τ20 q0) ∧ CM S m_Tp_readNumber [.ref 1, .int (x2 + (1 : Int32)), .int (99999 : Int32)] (enc τ20) (qI (fun v22 τ23 => (isA5 τ23 (q0 + 2)) ∧ (vp_in x3 5) ∧ (isAg (stA τ23 (q0 + 2) (upd (fA τ23 (q0 + 2)) x3.toNatClampNeg v22)) q0) ∧ (isA5 (stA τ23 (q0 + 2) (upd (fA τ23 (q0 + 2)) x3.toNatClampNeg v22)) (q0 + 2)) ∧ CM S m_Tp_needSign [.ref 1, .int (44 : Int32)] (enc (stA τ23 (q0 + 2) (upd (fA τ23 (q0 + 2)) x3.toNatClampNeg v22))) (qV (fun τ29 => BW S m_Ag_readFrom 8 [some (.ref q0), some (.ref 1), some (.int (fA (stA τ23 (q0 + 2) (upd (fA τ23 (q0 + 2)) x3.toNatClampNeg v22)) (q0 + 2) x3.toNatClampNeg)), some (.int (x3 + (1 : Int32)))] [] (enc τ29) (qV Q)))))))) ∧ (¬ v17 = 0 → CM S m_Tp_readNumber [.ref 1, .int (0 : Int32), .int (9999 : Int32)] (enc τ18) (qI (fun v30 τ31 => (isAg τ31 q0) ∧ CM S m_Tp_needSign [.ref 1, .int (59 : Int32)] (enc (stI τ31 q0 3 v30)) (qV (fun τ34 => CM S m_Tp_needEnd [.ref 1] (enc τ34) (qV (fun τ36 => Q τ36))))))))))))))))))))) : BW S m_Ag_readFrom 8 [some (.ref q0), some (.ref 1), some (.int x2), some (.int x3)] [] (enc σ) (qV Q) := by
  refine b_iload_n d_Ag_readFrom_8 rfl rfl ?_
  refine b_iconst (v := (5 : Int32)) d_Ag_readFrom_9 (by decide) ?_
  refine b_icmp_ge (tgt := 118) d_Ag_readFrom_10 (by decide) (fun c39 => ?_) (fun c39 => ?_)
  · have H := H.1 c39
    refine b_aload_n d_Ag_readFrom_118 rfl rfl ?_
    refine b_callVv (Mc := m_Tp_failNext) (As := []) (st := []) d_Ag_readFrom_119 ⟨⟨kA_Tp_failNext.1, kA_Tp_failNext.2.1, kA_Tp_failNext.2.2, by decide⟩, ml_Ag_57, kV_Tp_failNext⟩ (eg_1 σ) rfl rfl (Nat.le_of_ble_eq_true rfl) H (fun τ4 H => ?_)
    exact b_vret d_Ag_readFrom_122 rfl ⟨_, rfl, rfl, H⟩
  · have H := H.2 c39
    refine b_aload_n d_Ag_readFrom_13 rfl rfl ?_
    refine b_callVi (Mc := m_Tp_failed) (As := []) (st := []) d_Ag_readFrom_14 ⟨⟨kA_Tp_failed.1, kA_Tp_failed.2.1, kA_Tp_failed.2.2, by decide⟩, ml_Ag_21, kV_Tp_failed⟩ (eg_1 σ) rfl rfl (Nat.le_of_ble_eq_true rfl) H (fun v5 τ6 H => ?_)
    refine b_if_ne (tgt := 118) d_Ag_readFrom_17 (by decide) (fun c38 => ?_) (fun c38 => ?_)
    · have H := H.1 c38
      refine b_aload_n d_Ag_readFrom_118 rfl rfl ?_
      refine b_callVv (Mc := m_Tp_failNext) (As := []) (st := []) d_Ag_readFrom_119 ⟨⟨kA_Tp_failNext.1, kA_Tp_failNext.2.1, kA_Tp_failNext.2.2, by decide⟩, ml_Ag_57, kV_Tp_failNext⟩ (eg_1 τ6) rfl rfl (Nat.le_of_ble_eq_true rfl) H (fun τ8 H => ?_)
      exact b_vret d_Ag_readFrom_122 rfl ⟨_, rfl, rfl, H⟩
    · have H := H.2 c38
      refine b_aload_n d_Ag_readFrom_20 rfl rfl ?_
      refine b_iload_n d_Ag_readFrom_21 rfl rfl ?_
      refine b_iconst (v := (1 : Int32)) d_Ag_readFrom_22 (by decide) ?_
      refine b_iadd d_Ag_readFrom_23  ?_
      obtain ⟨h9, H⟩ := H
      refine b_putf (ty := .int) (h1 := enc (stI τ6 q0 2 (x3 + (1 : Int32)))) d_Ag_readFrom_24 fl_Ag_25 ft_0_2 (fun _ => ⟨rfl, rfl⟩) (eA τ6 h9) (Nat.le_of_ble_eq_true rfl) (eAI τ6 h9 2 (x3 + (1 : Int32))) ?_
      refine b_aload_n d_Ag_readFrom_27 rfl rfl ?_
      obtain ⟨h10, H⟩ := H
      refine b_getf (v := .ref (q0 + 1)) d_Ag_readFrom_28 fl_Ag_9 (eA (stI τ6 q0 2 (x3 + (1 : Int32))) h10) rfl ?_
      refine b_iload_n d_Ag_readFrom_31 rfl rfl ?_
      refine b_aload_n d_Ag_readFrom_32 rfl rfl ?_
      refine b_iconst (v := (0 : Int32)) d_Ag_readFrom_33 (by decide) ?_
      refine b_bipush (v := (100 : Int32)) d_Ag_readFrom_34 (by decide) ?_
      refine b_callVi (Mc := m_Tp_readNumber) (As := [.int (0 : Int32), .int (100 : Int32)]) (st := [.int x3, .ref (q0 + 1)]) d_Ag_readFrom_36 ⟨⟨kA_Tp_readNumber.1, kA_Tp_readNumber.2.1, kA_Tp_readNumber.2.2, by decide⟩, ml_Ag_29, kV_Tp_readNumber⟩ (eg_1 (stI τ6 q0 2 (x3 + (1 : Int32)))) rfl rfl (Nat.le_of_ble_eq_true rfl) H (fun v11 τ12 H => ?_)
      obtain ⟨h13, H⟩ := H
      obtain ⟨h14, H⟩ := H
      refine b_iast (h1 := enc (stA τ12 (q0 + 1) (upd (fA τ12 (q0 + 1)) x3.toNatClampNeg v11))) d_Ag_readFrom_39 (e5 τ12 h13) h14 (eA5 τ12 h13 (upd (fA τ12 (q0 + 1)) x3.toNatClampNeg v11)) ?_
      refine b_aload_n d_Ag_readFrom_40 rfl rfl ?_
      refine b_ldcS (n := 4) (tx := "percent") d_Ag_readFrom_41 (by decide +kernel) ?_
      refine b_callVv (Mc := m_Tp_needWord) (As := [.retAddr 4]) (st := []) d_Ag_readFrom_43 ⟨⟨kA_Tp_needWord.1, kA_Tp_needWord.2.1, kA_Tp_needWord.2.2, by decide⟩, ml_Ag_35, kV_Tp_needWord⟩ (eg_1 (stA τ12 (q0 + 1) (upd (fA τ12 (q0 + 1)) x3.toNatClampNeg v11))) rfl rfl (Nat.le_of_ble_eq_true rfl) H (fun τ16 H => ?_)
      refine b_aload_n d_Ag_readFrom_46 rfl rfl ?_
      refine b_ldcS (n := 5) (tx := "late") d_Ag_readFrom_47 (by decide +kernel) ?_
      refine b_callVi (Mc := m_Tp_passWord) (As := [.retAddr 5]) (st := []) d_Ag_readFrom_49 ⟨⟨kA_Tp_passWord.1, kA_Tp_passWord.2.1, kA_Tp_passWord.2.2, by decide⟩, ml_Ag_41, kV_Tp_passWord⟩ (eg_1 τ16) rfl rfl (Nat.le_of_ble_eq_true rfl) H (fun v17 τ18 H => ?_)
      refine b_if_eq (tgt := 78) d_Ag_readFrom_52 (by decide) (fun c37 => ?_) (fun c37 => ?_)
      · have H := H.1 c37
        refine b_aload_n d_Ag_readFrom_78 rfl rfl ?_
        refine b_ldcS (n := 6) (tx := "to") d_Ag_readFrom_79 (by decide +kernel) ?_
        refine b_callVv (Mc := m_Tp_needWord) (As := [.retAddr 6]) (st := []) d_Ag_readFrom_81 ⟨⟨kA_Tp_needWord.1, kA_Tp_needWord.2.1, kA_Tp_needWord.2.2, by decide⟩, ml_Ag_35, kV_Tp_needWord⟩ (eg_1 τ18) rfl rfl (Nat.le_of_ble_eq_true rfl) H (fun τ20 H => ?_)
        refine b_aload_n d_Ag_readFrom_84 rfl rfl ?_
        obtain ⟨h21, H⟩ := H
        refine b_getf (v := .ref (q0 + 2)) d_Ag_readFrom_85 fl_Ag_13 (eA τ20 h21) rfl ?_
        refine b_iload_n d_Ag_readFrom_88 rfl rfl ?_
        refine b_aload_n d_Ag_readFrom_89 rfl rfl ?_
        refine b_iload_n d_Ag_readFrom_90 rfl rfl ?_
        refine b_iconst (v := (1 : Int32)) d_Ag_readFrom_91 (by decide) ?_
        refine b_iadd d_Ag_readFrom_92  ?_
        refine b_ldc (v := (99999 : Int32)) d_Ag_readFrom_93 cn_Ag_56 ?_
        refine b_callVi (Mc := m_Tp_readNumber) (As := [.int (x2 + (1 : Int32)), .int (99999 : Int32)]) (st := [.int x3, .ref (q0 + 2)]) d_Ag_readFrom_95 ⟨⟨kA_Tp_readNumber.1, kA_Tp_readNumber.2.1, kA_Tp_readNumber.2.2, by decide⟩, ml_Ag_29, kV_Tp_readNumber⟩ (eg_1 τ20) rfl rfl (Nat.le_of_ble_eq_true rfl) H (fun v22 τ23 H => ?_)
        obtain ⟨h24, H⟩ := H
        obtain ⟨h25, H⟩ := H
        refine b_iast (h1 := enc (stA τ23 (q0 + 2) (upd (fA τ23 (q0 + 2)) x3.toNatClampNeg v22))) d_Ag_readFrom_98 (e5 τ23 h24) h25 (eA5 τ23 h24 (upd (fA τ23 (q0 + 2)) x3.toNatClampNeg v22)) ?_
        refine b_aload_n d_Ag_readFrom_99 rfl rfl ?_
        obtain ⟨h26, H⟩ := H
        refine b_getf (v := .ref (q0 + 2)) d_Ag_readFrom_100 fl_Ag_13 (eA (stA τ23 (q0 + 2) (upd (fA τ23 (q0 + 2)) x3.toNatClampNeg v22)) h26) rfl ?_
        refine b_iload_n d_Ag_readFrom_103 rfl rfl ?_
        obtain ⟨h27, H⟩ := H
        refine b_iald d_Ag_readFrom_104 (e5 (stA τ23 (q0 + 2) (upd (fA τ23 (q0 + 2)) x3.toNatClampNeg v22)) h27) h25 ?_
        refine b_st2 (st' := [.int (fA (stA τ23 (q0 + 2) (upd (fA τ23 (q0 + 2)) x3.toNatClampNeg v22)) (q0 + 2) x3.toNatClampNeg)]) rfl ?_
        refine b_istore_n (ls' := [some (.ref q0), some (.ref 1), some (.int (fA (stA τ23 (q0 + 2) (upd (fA τ23 (q0 + 2)) x3.toNatClampNeg v22)) (q0 + 2) x3.toNatClampNeg)), some (.int x3)]) d_Ag_readFrom_105 rfl (Nat.le_of_ble_eq_true rfl) rfl ?_
        refine b_aload_n d_Ag_readFrom_106 rfl rfl ?_
        refine b_bipush (v := (44 : Int32)) d_Ag_readFrom_107 (by decide) ?_
        refine b_callVv (Mc := m_Tp_needSign) (As := [.int (44 : Int32)]) (st := []) d_Ag_readFrom_109 ⟨⟨kA_Tp_needSign.1, kA_Tp_needSign.2.1, kA_Tp_needSign.2.2, by decide⟩, ml_Ag_47, kV_Tp_needSign⟩ (eg_1 (stA τ23 (q0 + 2) (upd (fA τ23 (q0 + 2)) x3.toNatClampNeg v22))) rfl rfl (Nat.le_of_ble_eq_true rfl) H (fun τ29 H => ?_)
        refine b_iinc (v := (x3 + (1 : Int32))) (ls' := [some (.ref q0), some (.ref 1), some (.int (fA (stA τ23 (q0 + 2) (upd (fA τ23 (q0 + 2)) x3.toNatClampNeg v22)) (q0 + 2) x3.toNatClampNeg)), some (.int (x3 + (1 : Int32)))]) d_Ag_readFrom_112 rfl rfl (Nat.le_of_ble_eq_true rfl) rfl ?_
        refine b_goto (tgt := 8) d_Ag_readFrom_115 (by decide) ?_
        exact b_mask [true, true, true, true] rfl H
      · have H := H.2 c37
        refine b_aload_n d_Ag_readFrom_55 rfl rfl ?_
        refine b_aload_n d_Ag_readFrom_56 rfl rfl ?_
        refine b_iconst (v := (0 : Int32)) d_Ag_readFrom_57 (by decide) ?_
        refine b_sipush (v := (9999 : Int32)) d_Ag_readFrom_58 (by decide) ?_
        refine b_callVi (Mc := m_Tp_readNumber) (As := [.int (0 : Int32), .int (9999 : Int32)]) (st := [.ref q0]) d_Ag_readFrom_61 ⟨⟨kA_Tp_readNumber.1, kA_Tp_readNumber.2.1, kA_Tp_readNumber.2.2, by decide⟩, ml_Ag_29, kV_Tp_readNumber⟩ (eg_1 τ18) rfl rfl (Nat.le_of_ble_eq_true rfl) H (fun v30 τ31 H => ?_)
        obtain ⟨h32, H⟩ := H
        refine b_putf (ty := .int) (h1 := enc (stI τ31 q0 3 v30)) d_Ag_readFrom_64 fl_Ag_45 ft_0_3 (fun _ => ⟨rfl, rfl⟩) (eA τ31 h32) (Nat.le_of_ble_eq_true rfl) (eAI τ31 h32 3 v30) ?_
        refine b_aload_n d_Ag_readFrom_67 rfl rfl ?_
        refine b_bipush (v := (59 : Int32)) d_Ag_readFrom_68 (by decide) ?_
        refine b_callVv (Mc := m_Tp_needSign) (As := [.int (59 : Int32)]) (st := []) d_Ag_readFrom_70 ⟨⟨kA_Tp_needSign.1, kA_Tp_needSign.2.1, kA_Tp_needSign.2.2, by decide⟩, ml_Ag_47, kV_Tp_needSign⟩ (eg_1 (stI τ31 q0 3 v30)) rfl rfl (Nat.le_of_ble_eq_true rfl) H (fun τ34 H => ?_)
        refine b_aload_n d_Ag_readFrom_73 rfl rfl ?_
        refine b_callVv (Mc := m_Tp_needEnd) (As := []) (st := []) d_Ag_readFrom_74 ⟨⟨kA_Tp_needEnd.1, kA_Tp_needEnd.2.1, kA_Tp_needEnd.2.2, by decide⟩, ml_Ag_51, kV_Tp_needEnd⟩ (eg_1 τ34) rfl rfl (Nat.le_of_ble_eq_true rfl) H (fun τ36 H => ?_)
        exact b_vret d_Ag_readFrom_77 rfl ⟨_, rfl, rfl, H⟩
theorem C_Ag_readFrom {S : XS} {Q : St → Prop} (σ : St) (q0 : Nat) (H : BW S m_Ag_readFrom 0 [some (.ref q0), some (.ref 1), none, none] [] (enc σ) (qV Q)) : CM S m_Ag_readFrom [.ref q0, .ref 1] (enc σ) (qV Q) := b_meth (by decide) (Nat.le_of_ble_eq_true rfl) rfl H
theorem d_Ag_percentsOf_0 : decode m_Ag_percentsOf.2.1 0 = .ok (.lconst 0, 1) := by decide +kernel
theorem d_Ag_percentsOf_1 : decode m_Ag_percentsOf.2.1 1 = .ok (.lstore_n 3, 1) := by decide +kernel
theorem d_Ag_percentsOf_2 : decode m_Ag_percentsOf.2.1 2 = .ok (.lconst 0, 1) := by decide +kernel
theorem d_Ag_percentsOf_3 : decode m_Ag_percentsOf.2.1 3 = .ok (.lstore 5, 2) := by decide +kernel
theorem d_Ag_percentsOf_5 : decode m_Ag_percentsOf.2.1 5 = .ok (.iconst 0, 1) := by decide +kernel
theorem d_Ag_percentsOf_6 : decode m_Ag_percentsOf.2.1 6 = .ok (.istore 7, 2) := by decide +kernel
theorem d_Ag_percentsOf_8 : decode m_Ag_percentsOf.2.1 8 = .ok (.iload 7, 2) := by decide +kernel
theorem d_Ag_percentsOf_10 : decode m_Ag_percentsOf.2.1 10 = .ok (.aload_n 0, 1) := by decide +kernel
theorem d_Ag_percentsOf_11 : decode m_Ag_percentsOf.2.1 11 = .ok (.getfield 25, 3) := by decide +kernel
theorem d_Ag_percentsOf_14 : decode m_Ag_percentsOf.2.1 14 = .ok (.if_icmp .ge 77, 3) := by decide +kernel
theorem d_Ag_percentsOf_17 : decode m_Ag_percentsOf.2.1 17 = .ok (.iload 7, 2) := by decide +kernel
theorem d_Ag_percentsOf_19 : decode m_Ag_percentsOf.2.1 19 = .ok (.iconst 5, 1) := by decide +kernel
theorem d_Ag_percentsOf_20 : decode m_Ag_percentsOf.2.1 20 = .ok (.if_icmp .ge 71, 3) := by decide +kernel
theorem d_Ag_percentsOf_23 : decode m_Ag_percentsOf.2.1 23 = .ok (.iload 7, 2) := by decide +kernel
theorem d_Ag_percentsOf_25 : decode m_Ag_percentsOf.2.1 25 = .ok (.aload_n 0, 1) := by decide +kernel
theorem d_Ag_percentsOf_26 : decode m_Ag_percentsOf.2.1 26 = .ok (.getfield 25, 3) := by decide +kernel
theorem d_Ag_percentsOf_29 : decode m_Ag_percentsOf.2.1 29 = .ok (.iconst 1, 1) := by decide +kernel
theorem d_Ag_percentsOf_30 : decode m_Ag_percentsOf.2.1 30 = .ok (.isub, 1) := by decide +kernel
theorem d_Ag_percentsOf_31 : decode m_Ag_percentsOf.2.1 31 = .ok (.if_icmp .ne 7, 3) := by decide +kernel
theorem d_Ag_percentsOf_34 : decode m_Ag_percentsOf.2.1 34 = .ok (.iconst 1, 1) := by decide +kernel
theorem d_Ag_percentsOf_35 : decode m_Ag_percentsOf.2.1 35 = .ok (.goto 4, 3) := by decide +kernel
theorem d_Ag_percentsOf_38 : decode m_Ag_percentsOf.2.1 38 = .ok (.iconst 0, 1) := by decide +kernel
theorem d_Ag_percentsOf_39 : decode m_Ag_percentsOf.2.1 39 = .ok (.istore 8, 2) := by decide +kernel
theorem d_Ag_percentsOf_41 : decode m_Ag_percentsOf.2.1 41 = .ok (.iload 8, 2) := by decide +kernel
theorem d_Ag_percentsOf_43 : decode m_Ag_percentsOf.2.1 43 = .ok (.ifCond .eq 7, 3) := by decide +kernel
theorem d_Ag_percentsOf_46 : decode m_Ag_percentsOf.2.1 46 = .ok (.lload_n 1, 1) := by decide +kernel
theorem d_Ag_percentsOf_47 : decode m_Ag_percentsOf.2.1 47 = .ok (.goto 15, 3) := by decide +kernel
theorem d_Ag_percentsOf_50 : decode m_Ag_percentsOf.2.1 50 = .ok (.lload_n 1, 1) := by decide +kernel
theorem d_Ag_percentsOf_51 : decode m_Ag_percentsOf.2.1 51 = .ok (.aload_n 0, 1) := by decide +kernel
theorem d_Ag_percentsOf_52 : decode m_Ag_percentsOf.2.1 52 = .ok (.getfield 13, 3) := by decide +kernel
theorem d_Ag_percentsOf_55 : decode m_Ag_percentsOf.2.1 55 = .ok (.iload 7, 2) := by decide +kernel
theorem d_Ag_percentsOf_57 : decode m_Ag_percentsOf.2.1 57 = .ok (.iaload, 1) := by decide +kernel
theorem d_Ag_percentsOf_58 : decode m_Ag_percentsOf.2.1 58 = .ok (.i2l, 1) := by decide +kernel
theorem d_Ag_percentsOf_59 : decode m_Ag_percentsOf.2.1 59 = .ok (.invokestatic 60, 3) := by decide +kernel
theorem d_Ag_percentsOf_62 : decode m_Ag_percentsOf.2.1 62 = .ok (.lstore 9, 2) := by decide +kernel
theorem d_Ag_percentsOf_64 : decode m_Ag_percentsOf.2.1 64 = .ok (.lload_n 3, 1) := by decide +kernel
theorem d_Ag_percentsOf_65 : decode m_Ag_percentsOf.2.1 65 = .ok (.lload 9, 2) := by decide +kernel
theorem d_Ag_percentsOf_67 : decode m_Ag_percentsOf.2.1 67 = .ok (.lload 5, 2) := by decide +kernel
theorem d_Ag_percentsOf_69 : decode m_Ag_percentsOf.2.1 69 = .ok (.lsub, 1) := by decide +kernel
theorem d_Ag_percentsOf_70 : decode m_Ag_percentsOf.2.1 70 = .ok (.aload_n 0, 1) := by decide +kernel
theorem d_Ag_percentsOf_71 : decode m_Ag_percentsOf.2.1 71 = .ok (.getfield 9, 3) := by decide +kernel
theorem d_Ag_percentsOf_74 : decode m_Ag_percentsOf.2.1 74 = .ok (.iload 7, 2) := by decide +kernel
theorem d_Ag_percentsOf_76 : decode m_Ag_percentsOf.2.1 76 = .ok (.iaload, 1) := by decide +kernel
theorem d_Ag_percentsOf_77 : decode m_Ag_percentsOf.2.1 77 = .ok (.i2l, 1) := by decide +kernel
theorem d_Ag_percentsOf_78 : decode m_Ag_percentsOf.2.1 78 = .ok (.lmul, 1) := by decide +kernel
theorem d_Ag_percentsOf_79 : decode m_Ag_percentsOf.2.1 79 = .ok (.ladd, 1) := by decide +kernel
theorem d_Ag_percentsOf_80 : decode m_Ag_percentsOf.2.1 80 = .ok (.lstore_n 3, 1) := by decide +kernel
theorem d_Ag_percentsOf_81 : decode m_Ag_percentsOf.2.1 81 = .ok (.lload 9, 2) := by decide +kernel
theorem d_Ag_percentsOf_83 : decode m_Ag_percentsOf.2.1 83 = .ok (.lstore 5, 2) := by decide +kernel
theorem d_Ag_percentsOf_85 : decode m_Ag_percentsOf.2.1 85 = .ok (.iinc 7 1, 3) := by decide +kernel
theorem d_Ag_percentsOf_88 : decode m_Ag_percentsOf.2.1 88 = .ok (.goto (-80), 3) := by decide +kernel
theorem d_Ag_percentsOf_91 : decode m_Ag_percentsOf.2.1 91 = .ok (.lload_n 3, 1) := by decide +kernel
theorem d_Ag_percentsOf_92 : decode m_Ag_percentsOf.2.1 92 = .ok (.lreturn, 1) := by decide +kernel
set_option maxHeartbeats 4000000 in
set_option maxRecDepth 100000 in
theorem B_Ag_percentsOf_0 {S : XS} {Q : Int64 → St → Prop} (σ : St) (q0 : Nat) (x1 : Int64) (H : BW S m_Ag_percentsOf 8 [some (.ref q0), some (.long x1), none, some (.long (0 : Int64)), none, some (.long (0 : Int64)), none, some (.int (0 : Int32)), none, none, none] [] (enc σ) (qL Q)) : BW S m_Ag_percentsOf 0 [some (.ref q0), some (.long x1), none, none, none, none, none, none, none, none, none] [] (enc σ) (qL Q) := by
  refine b_lconst (v := (0 : Int64)) d_Ag_percentsOf_0 (by decide) ?_
  refine b_lstore_n (ls' := [some (.ref q0), some (.long x1), none, some (.long (0 : Int64)), none, none, none, none, none, none, none]) d_Ag_percentsOf_1 rfl (Nat.le_of_ble_eq_true rfl) rfl ?_
  refine b_lconst (v := (0 : Int64)) d_Ag_percentsOf_2 (by decide) ?_
  refine b_lstore (ls' := [some (.ref q0), some (.long x1), none, some (.long (0 : Int64)), none, some (.long (0 : Int64)), none, none, none, none, none]) d_Ag_percentsOf_3 (Nat.le_of_ble_eq_true rfl) rfl ?_
  refine b_iconst (v := (0 : Int32)) d_Ag_percentsOf_5 (by decide) ?_
  refine b_istore (ls' := [some (.ref q0), some (.long x1), none, some (.long (0 : Int64)), none, some (.long (0 : Int64)), none, some (.int (0 : Int32)), none, none, none]) d_Ag_percentsOf_6 (Nat.le_of_ble_eq_true rfl) rfl ?_
  exact b_mask [true, true, true, true, true, true, true, true, true, true, true] rfl H
set_option maxHeartbeats 4000000 in
set_option maxRecDepth 100000 in
theorem B_Ag_percentsOf_8 {S : XS} {Q : Int64 → St → Prop} (σ : St) (q0 : Nat) (x1 : Int64) (x3 : Int64) (x5 : Int64) (x7 : Int32) (H : (isAg σ q0) ∧ (((fI σ q0 2) ≤ x7 → Q x3 σ) ∧ (¬ (fI σ q0 2) ≤ x7 → (((5 : Int32) ≤ x7 → Q x3 σ) ∧ (¬ (5 : Int32) ≤ x7 → ((¬ x7 = ((fI σ q0 2) - (1 : Int32)) → (((0 : Int32) = 0 → (isA5 σ (q0 + 2)) ∧ (vp_in x7 5) ∧ (isA5 σ (q0 + 1)) ∧ BW S m_Ag_percentsOf 8 [some (.ref q0), some (.long x1), none, some (.long (x3 + (((if ((fA σ (q0 + 2) x7.toNatClampNeg)).toInt64 < x1 then ((fA σ (q0 + 2) x7.toNatClampNeg)).toInt64 else x1) - x5) * ((fA σ (q0 + 1) x7.toNatClampNeg)).toInt64))), none, some (.long (if ((fA σ (q0 + 2) x7.toNatClampNeg)).toInt64 < x1 then ((fA σ (q0 + 2) x7.toNatClampNeg)).toInt64 else x1)), none, some (.int (x7 + (1 : Int32))), none, none, none] [] (enc σ) (qL Q)) ∧ (¬ (0 : Int32) = 0 → (isA5 σ (q0 + 1)) ∧ (vp_in x7 5) ∧ BW S m_Ag_percentsOf 8 [some (.ref q0), some (.long x1), none, some (.long (x3 + ((x1 - x5) * ((fA σ (q0 + 1) x7.toNatClampNeg)).toInt64))), none, some (.long x1), none, some (.int (x7 + (1 : Int32))), none, none, none] [] (enc σ) (qL Q)))) ∧ (x7 = ((fI σ q0 2) - (1 : Int32)) → (((1 : Int32) = 0 → (isA5 σ (q0 + 2)) ∧ (vp_in x7 5) ∧ (isA5 σ (q0 + 1)) ∧ BW S m_Ag_percentsOf 8 [some (.ref q0), some (.long x1), none, some (.long (x3 + (((if ((fA σ (q0 + 2) x7.toNatClampNeg)).toInt64 < x1 then ((fA σ (q0 + 2) x7.toNatClampNeg)).toInt64 else x1) - x5) * ((fA σ (q0 + 1) x7.toNatClampNeg)).toInt64))), none, some (.long (if ((fA σ (q0 + 2) x7.toNatClampNeg)).toInt64 < x1 then ((fA σ (q0 + 2) x7.toNatClampNeg)).toInt64 else x1)), none, some (.int (x7 + (1 : Int32))), none, none, none] [] (enc σ) (qL Q)) ∧ (¬ (1 : Int32) = 0 → (isA5 σ (q0 + 1)) ∧ (vp_in x7 5) ∧ BW S m_Ag_percentsOf 8 [some (.ref q0), some (.long x1), none, some (.long (x3 + ((x1 - x5) * ((fA σ (q0 + 1) x7.toNatClampNeg)).toInt64))), none, some (.long x1), none, some (.int (x7 + (1 : Int32))), none, none, none] [] (enc σ) (qL Q)))))))))) : BW S m_Ag_percentsOf 8 [some (.ref q0), some (.long x1), none, some (.long x3), none, some (.long x5), none, some (.int x7), none, none, none] [] (enc σ) (qL Q) := by
  refine b_iload d_Ag_percentsOf_8 rfl ?_
  refine b_aload_n d_Ag_percentsOf_10 rfl rfl ?_
  obtain ⟨h1, H⟩ := H
  refine b_getf (v := .int (fI σ q0 2)) d_Ag_percentsOf_11 fl_Ag_25 (eA σ h1) rfl ?_
  refine b_icmp_ge (tgt := 91) d_Ag_percentsOf_14 (by decide) (fun c16 => ?_) (fun c16 => ?_)
  · have H := H.1 c16
    refine b_lload_n d_Ag_percentsOf_91 rfl rfl ?_
    exact b_lret d_Ag_percentsOf_92 rfl ⟨_, _, rfl, rfl, H⟩
  · have H := H.2 c16
    refine b_iload d_Ag_percentsOf_17 rfl ?_
    refine b_iconst (v := (5 : Int32)) d_Ag_percentsOf_19 (by decide) ?_
    refine b_icmp_ge (tgt := 91) d_Ag_percentsOf_20 (by decide) (fun c15 => ?_) (fun c15 => ?_)
    · have H := H.1 c15
      refine b_lload_n d_Ag_percentsOf_91 rfl rfl ?_
      exact b_lret d_Ag_percentsOf_92 rfl ⟨_, _, rfl, rfl, H⟩
    · have H := H.2 c15
      refine b_iload d_Ag_percentsOf_23 rfl ?_
      refine b_aload_n d_Ag_percentsOf_25 rfl rfl ?_
      refine b_getf (v := .int (fI σ q0 2)) d_Ag_percentsOf_26 fl_Ag_25 (eA σ h1) rfl ?_
      refine b_iconst (v := (1 : Int32)) d_Ag_percentsOf_29 (by decide) ?_
      refine b_isub d_Ag_percentsOf_30  ?_
      refine b_icmp_ne (tgt := 38) d_Ag_percentsOf_31 (by decide) (fun c14 => ?_) (fun c14 => ?_)
      · have H := H.1 c14
        refine b_iconst (v := (0 : Int32)) d_Ag_percentsOf_38 (by decide) ?_
        refine b_istore (ls' := [some (.ref q0), some (.long x1), none, some (.long x3), none, some (.long x5), none, some (.int x7), some (.int (0 : Int32)), none, none]) d_Ag_percentsOf_39 (Nat.le_of_ble_eq_true rfl) rfl ?_
        refine b_iload d_Ag_percentsOf_41 rfl ?_
        refine b_if_eq (tgt := 50) d_Ag_percentsOf_43 (by decide) (fun c7 => ?_) (fun c7 => ?_)
        · have H := H.1 c7
          refine b_lload_n d_Ag_percentsOf_50 rfl rfl ?_
          refine b_aload_n d_Ag_percentsOf_51 rfl rfl ?_
          refine b_getf (v := .ref (q0 + 2)) d_Ag_percentsOf_52 fl_Ag_13 (eA σ h1) rfl ?_
          refine b_iload d_Ag_percentsOf_55 rfl ?_
          obtain ⟨h2, H⟩ := H
          obtain ⟨h3, H⟩ := H
          refine b_iald d_Ag_percentsOf_57 (e5 σ h2) h3 ?_
          refine b_st2 (st' := [.int (fA σ (q0 + 2) x7.toNatClampNeg), .long x1]) rfl ?_
          refine b_i2l d_Ag_percentsOf_58 ?_
          refine b_minJ d_Ag_percentsOf_59 ml_Ag_60 (Nat.le_of_ble_eq_true rfl) ⟨by decide, by decide⟩ ?_
          refine b_lstore (ls' := [some (.ref q0), some (.long x1), none, some (.long x3), none, some (.long x5), none, some (.int x7), some (.int (0 : Int32)), some (.long (if ((fA σ (q0 + 2) x7.toNatClampNeg)).toInt64 < x1 then ((fA σ (q0 + 2) x7.toNatClampNeg)).toInt64 else x1)), none]) d_Ag_percentsOf_62 (Nat.le_of_ble_eq_true rfl) rfl ?_
          refine b_lload_n d_Ag_percentsOf_64 rfl rfl ?_
          refine b_lload d_Ag_percentsOf_65 rfl ?_
          refine b_lload d_Ag_percentsOf_67 rfl ?_
          refine b_lsub d_Ag_percentsOf_69  ?_
          refine b_aload_n d_Ag_percentsOf_70 rfl rfl ?_
          refine b_getf (v := .ref (q0 + 1)) d_Ag_percentsOf_71 fl_Ag_9 (eA σ h1) rfl ?_
          refine b_iload d_Ag_percentsOf_74 rfl ?_
          obtain ⟨h4, H⟩ := H
          refine b_iald d_Ag_percentsOf_76 (e5 σ h4) h3 ?_
          refine b_st2 (st' := [.int (fA σ (q0 + 1) x7.toNatClampNeg), .long ((if ((fA σ (q0 + 2) x7.toNatClampNeg)).toInt64 < x1 then ((fA σ (q0 + 2) x7.toNatClampNeg)).toInt64 else x1) - x5), .long x3]) rfl ?_
          refine b_i2l d_Ag_percentsOf_77 ?_
          refine b_lmul d_Ag_percentsOf_78  ?_
          refine b_ladd d_Ag_percentsOf_79  ?_
          refine b_lstore_n (ls' := [some (.ref q0), some (.long x1), none, some (.long (x3 + (((if ((fA σ (q0 + 2) x7.toNatClampNeg)).toInt64 < x1 then ((fA σ (q0 + 2) x7.toNatClampNeg)).toInt64 else x1) - x5) * ((fA σ (q0 + 1) x7.toNatClampNeg)).toInt64))), none, some (.long x5), none, some (.int x7), some (.int (0 : Int32)), some (.long (if ((fA σ (q0 + 2) x7.toNatClampNeg)).toInt64 < x1 then ((fA σ (q0 + 2) x7.toNatClampNeg)).toInt64 else x1)), none]) d_Ag_percentsOf_80 rfl (Nat.le_of_ble_eq_true rfl) rfl ?_
          refine b_lload d_Ag_percentsOf_81 rfl ?_
          refine b_lstore (ls' := [some (.ref q0), some (.long x1), none, some (.long (x3 + (((if ((fA σ (q0 + 2) x7.toNatClampNeg)).toInt64 < x1 then ((fA σ (q0 + 2) x7.toNatClampNeg)).toInt64 else x1) - x5) * ((fA σ (q0 + 1) x7.toNatClampNeg)).toInt64))), none, some (.long (if ((fA σ (q0 + 2) x7.toNatClampNeg)).toInt64 < x1 then ((fA σ (q0 + 2) x7.toNatClampNeg)).toInt64 else x1)), none, some (.int x7), some (.int (0 : Int32)), some (.long (if ((fA σ (q0 + 2) x7.toNatClampNeg)).toInt64 < x1 then ((fA σ (q0 + 2) x7.toNatClampNeg)).toInt64 else x1)), none]) d_Ag_percentsOf_83 (Nat.le_of_ble_eq_true rfl) rfl ?_
          refine b_iinc (v := (x7 + (1 : Int32))) (ls' := [some (.ref q0), some (.long x1), none, some (.long (x3 + (((if ((fA σ (q0 + 2) x7.toNatClampNeg)).toInt64 < x1 then ((fA σ (q0 + 2) x7.toNatClampNeg)).toInt64 else x1) - x5) * ((fA σ (q0 + 1) x7.toNatClampNeg)).toInt64))), none, some (.long (if ((fA σ (q0 + 2) x7.toNatClampNeg)).toInt64 < x1 then ((fA σ (q0 + 2) x7.toNatClampNeg)).toInt64 else x1)), none, some (.int (x7 + (1 : Int32))), some (.int (0 : Int32)), some (.long (if ((fA σ (q0 + 2) x7.toNatClampNeg)).toInt64 < x1 then ((fA σ (q0 + 2) x7.toNatClampNeg)).toInt64 else x1)), none]) d_Ag_percentsOf_85 rfl rfl (Nat.le_of_ble_eq_true rfl) rfl ?_
          refine b_goto (tgt := 8) d_Ag_percentsOf_88 (by decide) ?_
          exact b_mask [true, true, true, true, true, true, true, true, false, false, true] rfl H
        · have H := H.2 c7
          refine b_lload_n d_Ag_percentsOf_46 rfl rfl ?_
          refine b_goto (tgt := 62) d_Ag_percentsOf_47 (by decide) ?_
          refine b_lstore (ls' := [some (.ref q0), some (.long x1), none, some (.long x3), none, some (.long x5), none, some (.int x7), some (.int (0 : Int32)), some (.long x1), none]) d_Ag_percentsOf_62 (Nat.le_of_ble_eq_true rfl) rfl ?_
          refine b_lload_n d_Ag_percentsOf_64 rfl rfl ?_
          refine b_lload d_Ag_percentsOf_65 rfl ?_
          refine b_lload d_Ag_percentsOf_67 rfl ?_
          refine b_lsub d_Ag_percentsOf_69  ?_
          refine b_aload_n d_Ag_percentsOf_70 rfl rfl ?_
          refine b_getf (v := .ref (q0 + 1)) d_Ag_percentsOf_71 fl_Ag_9 (eA σ h1) rfl ?_
          refine b_iload d_Ag_percentsOf_74 rfl ?_
          obtain ⟨h5, H⟩ := H
          obtain ⟨h6, H⟩ := H
          refine b_iald d_Ag_percentsOf_76 (e5 σ h5) h6 ?_
          refine b_st2 (st' := [.int (fA σ (q0 + 1) x7.toNatClampNeg), .long (x1 - x5), .long x3]) rfl ?_
          refine b_i2l d_Ag_percentsOf_77 ?_
          refine b_lmul d_Ag_percentsOf_78  ?_
          refine b_ladd d_Ag_percentsOf_79  ?_
          refine b_lstore_n (ls' := [some (.ref q0), some (.long x1), none, some (.long (x3 + ((x1 - x5) * ((fA σ (q0 + 1) x7.toNatClampNeg)).toInt64))), none, some (.long x5), none, some (.int x7), some (.int (0 : Int32)), some (.long x1), none]) d_Ag_percentsOf_80 rfl (Nat.le_of_ble_eq_true rfl) rfl ?_
          refine b_lload d_Ag_percentsOf_81 rfl ?_
          refine b_lstore (ls' := [some (.ref q0), some (.long x1), none, some (.long (x3 + ((x1 - x5) * ((fA σ (q0 + 1) x7.toNatClampNeg)).toInt64))), none, some (.long x1), none, some (.int x7), some (.int (0 : Int32)), some (.long x1), none]) d_Ag_percentsOf_83 (Nat.le_of_ble_eq_true rfl) rfl ?_
          refine b_iinc (v := (x7 + (1 : Int32))) (ls' := [some (.ref q0), some (.long x1), none, some (.long (x3 + ((x1 - x5) * ((fA σ (q0 + 1) x7.toNatClampNeg)).toInt64))), none, some (.long x1), none, some (.int (x7 + (1 : Int32))), some (.int (0 : Int32)), some (.long x1), none]) d_Ag_percentsOf_85 rfl rfl (Nat.le_of_ble_eq_true rfl) rfl ?_
          refine b_goto (tgt := 8) d_Ag_percentsOf_88 (by decide) ?_
          exact b_mask [true, true, true, true, true, true, true, true, false, false, true] rfl H
      · have H := H.2 c14
        refine b_iconst (v := (1 : Int32)) d_Ag_percentsOf_34 (by decide) ?_
        refine b_goto (tgt := 39) d_Ag_percentsOf_35 (by decide) ?_
        refine b_istore (ls' := [some (.ref q0), some (.long x1), none, some (.long x3), none, some (.long x5), none, some (.int x7), some (.int (1 : Int32)), none, none]) d_Ag_percentsOf_39 (Nat.le_of_ble_eq_true rfl) rfl ?_
        refine b_iload d_Ag_percentsOf_41 rfl ?_
        refine b_if_eq (tgt := 50) d_Ag_percentsOf_43 (by decide) (fun c13 => ?_) (fun c13 => ?_)
        · have H := H.1 c13
          refine b_lload_n d_Ag_percentsOf_50 rfl rfl ?_
          refine b_aload_n d_Ag_percentsOf_51 rfl rfl ?_
          refine b_getf (v := .ref (q0 + 2)) d_Ag_percentsOf_52 fl_Ag_13 (eA σ h1) rfl ?_
          refine b_iload d_Ag_percentsOf_55 rfl ?_
          obtain ⟨h8, H⟩ := H
          obtain ⟨h9, H⟩ := H
          refine b_iald d_Ag_percentsOf_57 (e5 σ h8) h9 ?_
          refine b_st2 (st' := [.int (fA σ (q0 + 2) x7.toNatClampNeg), .long x1]) rfl ?_
          refine b_i2l d_Ag_percentsOf_58 ?_
          refine b_minJ d_Ag_percentsOf_59 ml_Ag_60 (Nat.le_of_ble_eq_true rfl) ⟨by decide, by decide⟩ ?_
          refine b_lstore (ls' := [some (.ref q0), some (.long x1), none, some (.long x3), none, some (.long x5), none, some (.int x7), some (.int (1 : Int32)), some (.long (if ((fA σ (q0 + 2) x7.toNatClampNeg)).toInt64 < x1 then ((fA σ (q0 + 2) x7.toNatClampNeg)).toInt64 else x1)), none]) d_Ag_percentsOf_62 (Nat.le_of_ble_eq_true rfl) rfl ?_
          refine b_lload_n d_Ag_percentsOf_64 rfl rfl ?_
          refine b_lload d_Ag_percentsOf_65 rfl ?_
          refine b_lload d_Ag_percentsOf_67 rfl ?_
          refine b_lsub d_Ag_percentsOf_69  ?_
          refine b_aload_n d_Ag_percentsOf_70 rfl rfl ?_
          refine b_getf (v := .ref (q0 + 1)) d_Ag_percentsOf_71 fl_Ag_9 (eA σ h1) rfl ?_
          refine b_iload d_Ag_percentsOf_74 rfl ?_
          obtain ⟨h10, H⟩ := H
          refine b_iald d_Ag_percentsOf_76 (e5 σ h10) h9 ?_
          refine b_st2 (st' := [.int (fA σ (q0 + 1) x7.toNatClampNeg), .long ((if ((fA σ (q0 + 2) x7.toNatClampNeg)).toInt64 < x1 then ((fA σ (q0 + 2) x7.toNatClampNeg)).toInt64 else x1) - x5), .long x3]) rfl ?_
          refine b_i2l d_Ag_percentsOf_77 ?_
          refine b_lmul d_Ag_percentsOf_78  ?_
          refine b_ladd d_Ag_percentsOf_79  ?_
          refine b_lstore_n (ls' := [some (.ref q0), some (.long x1), none, some (.long (x3 + (((if ((fA σ (q0 + 2) x7.toNatClampNeg)).toInt64 < x1 then ((fA σ (q0 + 2) x7.toNatClampNeg)).toInt64 else x1) - x5) * ((fA σ (q0 + 1) x7.toNatClampNeg)).toInt64))), none, some (.long x5), none, some (.int x7), some (.int (1 : Int32)), some (.long (if ((fA σ (q0 + 2) x7.toNatClampNeg)).toInt64 < x1 then ((fA σ (q0 + 2) x7.toNatClampNeg)).toInt64 else x1)), none]) d_Ag_percentsOf_80 rfl (Nat.le_of_ble_eq_true rfl) rfl ?_
          refine b_lload d_Ag_percentsOf_81 rfl ?_
          refine b_lstore (ls' := [some (.ref q0), some (.long x1), none, some (.long (x3 + (((if ((fA σ (q0 + 2) x7.toNatClampNeg)).toInt64 < x1 then ((fA σ (q0 + 2) x7.toNatClampNeg)).toInt64 else x1) - x5) * ((fA σ (q0 + 1) x7.toNatClampNeg)).toInt64))), none, some (.long (if ((fA σ (q0 + 2) x7.toNatClampNeg)).toInt64 < x1 then ((fA σ (q0 + 2) x7.toNatClampNeg)).toInt64 else x1)), none, some (.int x7), some (.int (1 : Int32)), some (.long (if ((fA σ (q0 + 2) x7.toNatClampNeg)).toInt64 < x1 then ((fA σ (q0 + 2) x7.toNatClampNeg)).toInt64 else x1)), none]) d_Ag_percentsOf_83 (Nat.le_of_ble_eq_true rfl) rfl ?_
          refine b_iinc (v := (x7 + (1 : Int32))) (ls' := [some (.ref q0), some (.long x1), none, some (.long (x3 + (((if ((fA σ (q0 + 2) x7.toNatClampNeg)).toInt64 < x1 then ((fA σ (q0 + 2) x7.toNatClampNeg)).toInt64 else x1) - x5) * ((fA σ (q0 + 1) x7.toNatClampNeg)).toInt64))), none, some (.long (if ((fA σ (q0 + 2) x7.toNatClampNeg)).toInt64 < x1 then ((fA σ (q0 + 2) x7.toNatClampNeg)).toInt64 else x1)), none, some (.int (x7 + (1 : Int32))), some (.int (1 : Int32)), some (.long (if ((fA σ (q0 + 2) x7.toNatClampNeg)).toInt64 < x1 then ((fA σ (q0 + 2) x7.toNatClampNeg)).toInt64 else x1)), none]) d_Ag_percentsOf_85 rfl rfl (Nat.le_of_ble_eq_true rfl) rfl ?_
          refine b_goto (tgt := 8) d_Ag_percentsOf_88 (by decide) ?_
          exact b_mask [true, true, true, true, true, true, true, true, false, false, true] rfl H
        · have H := H.2 c13
          refine b_lload_n d_Ag_percentsOf_46 rfl rfl ?_
          refine b_goto (tgt := 62) d_Ag_percentsOf_47 (by decide) ?_
          refine b_lstore (ls' := [some (.ref q0), some (.long x1), none, some (.long x3), none, some (.long x5), none, some (.int x7), some (.int (1 : Int32)), some (.long x1), none]) d_Ag_percentsOf_62 (Nat.le_of_ble_eq_true rfl) rfl ?_
          refine b_lload_n d_Ag_percentsOf_64 rfl rfl ?_
          refine b_lload d_Ag_percentsOf_65 rfl ?_
          refine b_lload d_Ag_percentsOf_67 rfl ?_
          refine b_lsub d_Ag_percentsOf_69  ?_
          refine b_aload_n d_Ag_percentsOf_70 rfl rfl ?_
          refine b_getf (v := .ref (q0 + 1)) d_Ag_percentsOf_71 fl_Ag_9 (eA σ h1) rfl ?_
          refine b_iload d_Ag_percentsOf_74 rfl ?_
          obtain ⟨h11, H⟩ := H
          obtain ⟨h12, H⟩ := H
          refine b_iald d_Ag_percentsOf_76 (e5 σ h11) h12 ?_
          refine b_st2 (st' := [.int (fA σ (q0 + 1) x7.toNatClampNeg), .long (x1 - x5), .long x3]) rfl ?_
          refine b_i2l d_Ag_percentsOf_77 ?_
          refine b_lmul d_Ag_percentsOf_78  ?_
          refine b_ladd d_Ag_percentsOf_79  ?_
          refine b_lstore_n (ls' := [some (.ref q0), some (.long x1), none, some (.long (x3 + ((x1 - x5) * ((fA σ (q0 + 1) x7.toNatClampNeg)).toInt64))), none, some (.long x5), none, some (.int x7), some (.int (1 : Int32)), some (.long x1), none]) d_Ag_percentsOf_80 rfl (Nat.le_of_ble_eq_true rfl) rfl ?_
          refine b_lload d_Ag_percentsOf_81 rfl ?_
          refine b_lstore (ls' := [some (.ref q0), some (.long x1), none, some (.long (x3 + ((x1 - x5) * ((fA σ (q0 + 1) x7.toNatClampNeg)).toInt64))), none, some (.long x1), none, some (.int x7), some (.int (1 : Int32)), some (.long x1), none]) d_Ag_percentsOf_83 (Nat.le_of_ble_eq_true rfl) rfl ?_
          refine b_iinc (v := (x7 + (1 : Int32))) (ls' := [some (.ref q0), some (.long x1), none, some (.long (x3 + ((x1 - x5) * ((fA σ (q0 + 1) x7.toNatClampNeg)).toInt64))), none, some (.long x1), none, some (.int (x7 + (1 : Int32))), some (.int (1 : Int32)), some (.long x1), none]) d_Ag_percentsOf_85 rfl rfl (Nat.le_of_ble_eq_true rfl) rfl ?_
          refine b_goto (tgt := 8) d_Ag_percentsOf_88 (by decide) ?_
          exact b_mask [true, true, true, true, true, true, true, true, false, false, true] rfl H
theorem C_Ag_percentsOf {S : XS} {Q : Int64 → St → Prop} (σ : St) (q0 : Nat) (x1 : Int64) (H : BW S m_Ag_percentsOf 0 [some (.ref q0), some (.long x1), none, none, none, none, none, none, none, none, none] [] (enc σ) (qL Q)) : CM S m_Ag_percentsOf [.ref q0, .long x1] (enc σ) (qL Q) := b_meth (by decide) (Nat.le_of_ble_eq_true rfl) rfl H
