/-! block rules, by program -/
theorem d_Fa_init_0 : decode m_Fa_init.2.1 0 = .ok (.aload_n 0, 1) := by decide +kernel
theorem d_Fa_init_1 : decode m_Fa_init.2.1 1 = .ok (.invokespecial 3, 3) := by decide +kernel
theorem d_Fa_init_4 : decode m_Fa_init.2.1 4 = .ok (.aload_n 0, 1) := by decide +kernel
theorem d_Fa_init_5 : decode m_Fa_init.2.1 5 = .ok (.iconst (-1), 1) := by decide +kernel
theorem d_Fa_init_6 : decode m_Fa_init.2.1 6 = .ok (.putfield 9, 3) := by decide +kernel
theorem d_Fa_init_9 : decode m_Fa_init.2.1 9 = .ok (.return_, 1) := by decide +kernel
set_option maxHeartbeats 4000000 in
set_option maxRecDepth 100000 in
theorem B_Fa_init_0 {S : XS} {Q : St → Prop} (σ : St) (q0 : Nat) (H : (isFa σ q0) ∧ Q (stI σ q0 6 (-1 : Int32))) : BW S m_Fa_init 0 [some (.ref q0)] [] (enc σ) (qV Q) := by
  refine b_aload_n d_Fa_init_0 rfl rfl ?_
  refine b_oinit d_Fa_init_1 ⟨ml_Fa_3, kO⟩ (Nat.le_of_ble_eq_true rfl) ⟨by decide, by decide⟩ ?_
  refine b_aload_n d_Fa_init_4 rfl rfl ?_
  refine b_iconst (v := (-1 : Int32)) d_Fa_init_5 (by decide) ?_
  obtain ⟨h1, H⟩ := H
  refine b_putf (ty := .int) (h1 := enc (stI σ q0 6 (-1 : Int32))) d_Fa_init_6 fl_Fa_9 ft_3_6 (fun _ => ⟨rfl, rfl⟩) (eF σ h1) (Nat.le_of_ble_eq_true rfl) (eFI σ h1 6 (-1 : Int32)) ?_
  exact b_vret d_Fa_init_9 rfl ⟨_, rfl, rfl, H⟩
theorem C_Fa_init {S : XS} {Q : St → Prop} (σ : St) (q0 : Nat) (H : BW S m_Fa_init 0 [some (.ref q0)] [] (enc σ) (qV Q)) : CM S m_Fa_init [.ref q0] (enc σ) (qV Q) := b_meth (by decide) (Nat.le_of_ble_eq_true rfl) rfl H
theorem d_Fa_readFrom_0 : decode m_Fa_readFrom.2.1 0 = .ok (.aload_n 1, 1) := by decide +kernel
theorem d_Fa_readFrom_1 : decode m_Fa_readFrom.2.1 1 = .ok (.invokevirtual 15, 3) := by decide +kernel
theorem d_Fa_readFrom_4 : decode m_Fa_readFrom.2.1 4 = .ok (.aload_n 0, 1) := by decide +kernel
theorem d_Fa_readFrom_5 : decode m_Fa_readFrom.2.1 5 = .ok (.aload_n 1, 1) := by decide +kernel
theorem d_Fa_readFrom_6 : decode m_Fa_readFrom.2.1 6 = .ok (.invokevirtual 20, 3) := by decide +kernel
theorem d_Fa_readFrom_9 : decode m_Fa_readFrom.2.1 9 = .ok (.putfield 24, 3) := by decide +kernel
theorem d_Fa_readFrom_12 : decode m_Fa_readFrom.2.1 12 = .ok (.aload_n 0, 1) := by decide +kernel
theorem d_Fa_readFrom_13 : decode m_Fa_readFrom.2.1 13 = .ok (.lconst 0, 1) := by decide +kernel
theorem d_Fa_readFrom_14 : decode m_Fa_readFrom.2.1 14 = .ok (.putfield 28, 3) := by decide +kernel
theorem d_Fa_readFrom_17 : decode m_Fa_readFrom.2.1 17 = .ok (.aload_n 1, 1) := by decide +kernel
theorem d_Fa_readFrom_18 : decode m_Fa_readFrom.2.1 18 = .ok (.ldc 31, 2) := by decide +kernel
theorem d_Fa_readFrom_20 : decode m_Fa_readFrom.2.1 20 = .ok (.invokevirtual 33, 3) := by decide +kernel
theorem d_Fa_readFrom_23 : decode m_Fa_readFrom.2.1 23 = .ok (.ifCond .eq 11, 3) := by decide +kernel
theorem d_Fa_readFrom_26 : decode m_Fa_readFrom.2.1 26 = .ok (.aload_n 0, 1) := by decide +kernel
theorem d_Fa_readFrom_27 : decode m_Fa_readFrom.2.1 27 = .ok (.iconst 0, 1) := by decide +kernel
theorem d_Fa_readFrom_28 : decode m_Fa_readFrom.2.1 28 = .ok (.putfield 37, 3) := by decide +kernel
theorem d_Fa_readFrom_31 : decode m_Fa_readFrom.2.1 31 = .ok (.goto 45, 3) := by decide +kernel
theorem d_Fa_readFrom_34 : decode m_Fa_readFrom.2.1 34 = .ok (.aload_n 1, 1) := by decide +kernel
theorem d_Fa_readFrom_35 : decode m_Fa_readFrom.2.1 35 = .ok (.ldc 40, 2) := by decide +kernel
theorem d_Fa_readFrom_37 : decode m_Fa_readFrom.2.1 37 = .ok (.invokevirtual 33, 3) := by decide +kernel
theorem d_Fa_readFrom_40 : decode m_Fa_readFrom.2.1 40 = .ok (.ifCond .eq 11, 3) := by decide +kernel
theorem d_Fa_readFrom_43 : decode m_Fa_readFrom.2.1 43 = .ok (.aload_n 0, 1) := by decide +kernel
theorem d_Fa_readFrom_44 : decode m_Fa_readFrom.2.1 44 = .ok (.iconst 1, 1) := by decide +kernel
theorem d_Fa_readFrom_45 : decode m_Fa_readFrom.2.1 45 = .ok (.putfield 37, 3) := by decide +kernel
theorem d_Fa_readFrom_48 : decode m_Fa_readFrom.2.1 48 = .ok (.goto 28, 3) := by decide +kernel
theorem d_Fa_readFrom_51 : decode m_Fa_readFrom.2.1 51 = .ok (.aload_n 0, 1) := by decide +kernel
theorem d_Fa_readFrom_52 : decode m_Fa_readFrom.2.1 52 = .ok (.iconst 2, 1) := by decide +kernel
theorem d_Fa_readFrom_53 : decode m_Fa_readFrom.2.1 53 = .ok (.putfield 37, 3) := by decide +kernel
theorem d_Fa_readFrom_56 : decode m_Fa_readFrom.2.1 56 = .ok (.aload_n 1, 1) := by decide +kernel
theorem d_Fa_readFrom_57 : decode m_Fa_readFrom.2.1 57 = .ok (.ldc 42, 2) := by decide +kernel
theorem d_Fa_readFrom_59 : decode m_Fa_readFrom.2.1 59 = .ok (.invokevirtual 44, 3) := by decide +kernel
theorem d_Fa_readFrom_62 : decode m_Fa_readFrom.2.1 62 = .ok (.aload_n 0, 1) := by decide +kernel
theorem d_Fa_readFrom_63 : decode m_Fa_readFrom.2.1 63 = .ok (.aload_n 1, 1) := by decide +kernel
theorem d_Fa_readFrom_64 : decode m_Fa_readFrom.2.1 64 = .ok (.invokevirtual 20, 3) := by decide +kernel
theorem d_Fa_readFrom_67 : decode m_Fa_readFrom.2.1 67 = .ok (.putfield 28, 3) := by decide +kernel
theorem d_Fa_readFrom_70 : decode m_Fa_readFrom.2.1 70 = .ok (.aload_n 1, 1) := by decide +kernel
theorem d_Fa_readFrom_71 : decode m_Fa_readFrom.2.1 71 = .ok (.ldc 48, 2) := by decide +kernel
theorem d_Fa_readFrom_73 : decode m_Fa_readFrom.2.1 73 = .ok (.invokevirtual 44, 3) := by decide +kernel
theorem d_Fa_readFrom_76 : decode m_Fa_readFrom.2.1 76 = .ok (.aload_n 0, 1) := by decide +kernel
theorem d_Fa_readFrom_77 : decode m_Fa_readFrom.2.1 77 = .ok (.aload_n 1, 1) := by decide +kernel
theorem d_Fa_readFrom_78 : decode m_Fa_readFrom.2.1 78 = .ok (.iconst 0, 1) := by decide +kernel
theorem d_Fa_readFrom_79 : decode m_Fa_readFrom.2.1 79 = .ok (.ldc 50, 2) := by decide +kernel
theorem d_Fa_readFrom_81 : decode m_Fa_readFrom.2.1 81 = .ok (.invokevirtual 51, 3) := by decide +kernel
theorem d_Fa_readFrom_84 : decode m_Fa_readFrom.2.1 84 = .ok (.putfield 55, 3) := by decide +kernel
theorem d_Fa_readFrom_87 : decode m_Fa_readFrom.2.1 87 = .ok (.aload_n 1, 1) := by decide +kernel
theorem d_Fa_readFrom_88 : decode m_Fa_readFrom.2.1 88 = .ok (.bipush 59, 2) := by decide +kernel
theorem d_Fa_readFrom_90 : decode m_Fa_readFrom.2.1 90 = .ok (.invokevirtual 58, 3) := by decide +kernel
theorem d_Fa_readFrom_93 : decode m_Fa_readFrom.2.1 93 = .ok (.aload_n 1, 1) := by decide +kernel
theorem d_Fa_readFrom_94 : decode m_Fa_readFrom.2.1 94 = .ok (.invokevirtual 62, 3) := by decide +kernel
theorem d_Fa_readFrom_97 : decode m_Fa_readFrom.2.1 97 = .ok (.return_, 1) := by decide +kernel
set_option maxHeartbeats 4000000 in
set_option maxRecDepth 100000 in
theorem B_Fa_readFrom_0 {S : XS} {Q : St → Prop} (σ : St) (q0 : Nat) (H : CM S m_Tp_open [.ref 1] (enc σ) (qV (fun τ2 => CM S m_Tp_readName [.ref 1] (enc τ2) (qL (fun v3 τ4 => (isFa τ4 q0) ∧ (isFa (stL τ4 q0 0 v3) q0) ∧ CM S m_Tp_passWord [.ref 1, .retAddr 0] (enc (stL (stL τ4 q0 0 v3) q0 2 (0 : Int64))) (qI (fun v7 τ8 => ((v7 = 0 → CM S m_Tp_passWord [.ref 1, .retAddr 1] (enc τ8) (qI (fun v9 τ10 => ((v9 = 0 → (isFa τ10 q0) ∧ CM S m_Tp_needWord [.ref 1, .retAddr 2] (enc (stI τ10 q0 1 (2 : Int32))) (qV (fun τ13 => CM S m_Tp_readName [.ref 1] (enc τ13) (qL (fun v14 τ15 => (isFa τ15 q0) ∧ CM S m_Tp_needWord [.ref 1, .retAddr 3] (enc (stL τ15 q0 2 v14)) (qV (fun τ18 => CM S m_Tp_readNumber [.ref 1, .int (0 : Int32), .int (99999 : Int32)] (enc τ18) (qI (fun v19 τ20 => (isFa τ20 q0) ∧ CM S m_Tp_needSign [.ref 1, .int (59 : Int32)] (enc (stI τ20 q0 3 v19)) (qV (fun τ23 => CM S m_Tp_needEnd [.ref 1] (enc τ23) (qV (fun τ25 => Q τ25))))))))))))) ∧ (¬ v9 = 0 → (isFa τ10 q0) ∧ CM S m_Tp_readNumber [.ref 1, .int (0 : Int32), .int (99999 : Int32)] (enc (stI τ10 q0 1 (1 : Int32))) (qI (fun v27 τ28 => (isFa τ28 q0) ∧ CM S m_Tp_needSign [.ref 1, .int (59 : Int32)] (enc (stI τ28 q0 3 v27)) (qV (fun τ31 => CM S m_Tp_needEnd [.ref 1] (enc τ31) (qV (fun τ33 => Q τ33))))))))))) ∧ (¬ v7 = 0 → (isFa τ8 q0) ∧ CM S m_Tp_readNumber [.ref 1, .int (0 : Int32), .int (99999 : Int32)] (enc (stI τ8 q0 1 (0 : Int32))) (qI (fun v36 τ37 => (isFa τ37 q0) ∧ CM S m_Tp_needSign [.ref 1, .int (59 : Int32)] (enc (stI τ37 q0 3 v36)) (qV (fun τ40 => CM S m_Tp_needEnd [.ref 1] (enc τ40) (qV (fun τ42 => Q τ42))))))))))))))) : BW S m_Fa_readFrom 0 [some (.ref q0), some (.ref 1)] [] (enc σ) (qV Q) := by
  refine b_aload_n d_Fa_readFrom_0 rfl rfl ?_
  refine b_callVv (Mc := m_Tp_open) (As := []) (st := []) d_Fa_readFrom_1 ⟨⟨kA_Tp_open.1, kA_Tp_open.2.1, kA_Tp_open.2.2, by decide⟩, ml_Fa_15, kV_Tp_open⟩ (eg_1 σ) rfl rfl (Nat.le_of_ble_eq_true rfl) H (fun τ2 H => ?_)
  refine b_aload_n d_Fa_readFrom_4 rfl rfl ?_
  refine b_aload_n d_Fa_readFrom_5 rfl rfl ?_
  refine b_callVl (Mc := m_Tp_readName) (As := []) (st := [.ref q0]) d_Fa_readFrom_6 ⟨⟨kA_Tp_readName.1, kA_Tp_readName.2.1, kA_Tp_readName.2.2, by decide⟩, ml_Fa_20, kV_Tp_readName⟩ (eg_1 τ2) rfl rfl (Nat.le_of_ble_eq_true rfl) H (fun v3 τ4 H => ?_)
  obtain ⟨h5, H⟩ := H
  refine b_putf (ty := .long) (h1 := enc (stL τ4 q0 0 v3)) d_Fa_readFrom_9 fl_Fa_24 ft_3_0 (fun _ => ⟨rfl, rfl⟩) (eF τ4 h5) (Nat.le_of_ble_eq_true rfl) (eFL τ4 h5 0 v3) ?_
  refine b_aload_n d_Fa_readFrom_12 rfl rfl ?_
  refine b_lconst (v := (0 : Int64)) d_Fa_readFrom_13 (by decide) ?_
  obtain ⟨h6, H⟩ := H
  refine b_putf (ty := .long) (h1 := enc (stL (stL τ4 q0 0 v3) q0 2 (0 : Int64))) d_Fa_readFrom_14 fl_Fa_28 ft_3_2 (fun _ => ⟨rfl, rfl⟩) (eF (stL τ4 q0 0 v3) h6) (Nat.le_of_ble_eq_true rfl) (eFL (stL τ4 q0 0 v3) h6 2 (0 : Int64)) ?_
  refine b_aload_n d_Fa_readFrom_17 rfl rfl ?_
  refine b_ldcS (n := 0) (tx := "born") d_Fa_readFrom_18 (by decide +kernel) ?_
  refine b_callVi (Mc := m_Tp_passWord) (As := [.retAddr 0]) (st := []) d_Fa_readFrom_20 ⟨⟨kA_Tp_passWord.1, kA_Tp_passWord.2.1, kA_Tp_passWord.2.2, by decide⟩, ml_Fa_33, kV_Tp_passWord⟩ (eg_1 (stL (stL τ4 q0 0 v3) q0 2 (0 : Int64))) rfl rfl (Nat.le_of_ble_eq_true rfl) H (fun v7 τ8 H => ?_)
  refine b_if_eq (tgt := 34) d_Fa_readFrom_23 (by decide) (fun c43 => ?_) (fun c43 => ?_)
  · have H := H.1 c43
    refine b_aload_n d_Fa_readFrom_34 rfl rfl ?_
    refine b_ldcS (n := 1) (tx := "dead") d_Fa_readFrom_35 (by decide +kernel) ?_
    refine b_callVi (Mc := m_Tp_passWord) (As := [.retAddr 1]) (st := []) d_Fa_readFrom_37 ⟨⟨kA_Tp_passWord.1, kA_Tp_passWord.2.1, kA_Tp_passWord.2.2, by decide⟩, ml_Fa_33, kV_Tp_passWord⟩ (eg_1 τ8) rfl rfl (Nat.le_of_ble_eq_true rfl) H (fun v9 τ10 H => ?_)
    refine b_if_eq (tgt := 51) d_Fa_readFrom_40 (by decide) (fun c34 => ?_) (fun c34 => ?_)
    · have H := H.1 c34
      refine b_aload_n d_Fa_readFrom_51 rfl rfl ?_
      refine b_iconst (v := (2 : Int32)) d_Fa_readFrom_52 (by decide) ?_
      obtain ⟨h11, H⟩ := H
      refine b_putf (ty := .int) (h1 := enc (stI τ10 q0 1 (2 : Int32))) d_Fa_readFrom_53 fl_Fa_37 ft_3_1 (fun _ => ⟨rfl, rfl⟩) (eF τ10 h11) (Nat.le_of_ble_eq_true rfl) (eFI τ10 h11 1 (2 : Int32)) ?_
      refine b_aload_n d_Fa_readFrom_56 rfl rfl ?_
      refine b_ldcS (n := 2) (tx := "in") d_Fa_readFrom_57 (by decide +kernel) ?_
      refine b_callVv (Mc := m_Tp_needWord) (As := [.retAddr 2]) (st := []) d_Fa_readFrom_59 ⟨⟨kA_Tp_needWord.1, kA_Tp_needWord.2.1, kA_Tp_needWord.2.2, by decide⟩, ml_Fa_44, kV_Tp_needWord⟩ (eg_1 (stI τ10 q0 1 (2 : Int32))) rfl rfl (Nat.le_of_ble_eq_true rfl) H (fun τ13 H => ?_)
      refine b_aload_n d_Fa_readFrom_62 rfl rfl ?_
      refine b_aload_n d_Fa_readFrom_63 rfl rfl ?_
      refine b_callVl (Mc := m_Tp_readName) (As := []) (st := [.ref q0]) d_Fa_readFrom_64 ⟨⟨kA_Tp_readName.1, kA_Tp_readName.2.1, kA_Tp_readName.2.2, by decide⟩, ml_Fa_20, kV_Tp_readName⟩ (eg_1 τ13) rfl rfl (Nat.le_of_ble_eq_true rfl) H (fun v14 τ15 H => ?_)
      obtain ⟨h16, H⟩ := H
      refine b_putf (ty := .long) (h1 := enc (stL τ15 q0 2 v14)) d_Fa_readFrom_67 fl_Fa_28 ft_3_2 (fun _ => ⟨rfl, rfl⟩) (eF τ15 h16) (Nat.le_of_ble_eq_true rfl) (eFL τ15 h16 2 v14) ?_
      refine b_aload_n d_Fa_readFrom_70 rfl rfl ?_
      refine b_ldcS (n := 3) (tx := "on") d_Fa_readFrom_71 (by decide +kernel) ?_
      refine b_callVv (Mc := m_Tp_needWord) (As := [.retAddr 3]) (st := []) d_Fa_readFrom_73 ⟨⟨kA_Tp_needWord.1, kA_Tp_needWord.2.1, kA_Tp_needWord.2.2, by decide⟩, ml_Fa_44, kV_Tp_needWord⟩ (eg_1 (stL τ15 q0 2 v14)) rfl rfl (Nat.le_of_ble_eq_true rfl) H (fun τ18 H => ?_)
      refine b_aload_n d_Fa_readFrom_76 rfl rfl ?_
      refine b_aload_n d_Fa_readFrom_77 rfl rfl ?_
      refine b_iconst (v := (0 : Int32)) d_Fa_readFrom_78 (by decide) ?_
      refine b_ldc (v := (99999 : Int32)) d_Fa_readFrom_79 cn_Fa_50 ?_
      refine b_callVi (Mc := m_Tp_readNumber) (As := [.int (0 : Int32), .int (99999 : Int32)]) (st := [.ref q0]) d_Fa_readFrom_81 ⟨⟨kA_Tp_readNumber.1, kA_Tp_readNumber.2.1, kA_Tp_readNumber.2.2, by decide⟩, ml_Fa_51, kV_Tp_readNumber⟩ (eg_1 τ18) rfl rfl (Nat.le_of_ble_eq_true rfl) H (fun v19 τ20 H => ?_)
      obtain ⟨h21, H⟩ := H
      refine b_putf (ty := .int) (h1 := enc (stI τ20 q0 3 v19)) d_Fa_readFrom_84 fl_Fa_55 ft_3_3 (fun _ => ⟨rfl, rfl⟩) (eF τ20 h21) (Nat.le_of_ble_eq_true rfl) (eFI τ20 h21 3 v19) ?_
      refine b_aload_n d_Fa_readFrom_87 rfl rfl ?_
      refine b_bipush (v := (59 : Int32)) d_Fa_readFrom_88 (by decide) ?_
      refine b_callVv (Mc := m_Tp_needSign) (As := [.int (59 : Int32)]) (st := []) d_Fa_readFrom_90 ⟨⟨kA_Tp_needSign.1, kA_Tp_needSign.2.1, kA_Tp_needSign.2.2, by decide⟩, ml_Fa_58, kV_Tp_needSign⟩ (eg_1 (stI τ20 q0 3 v19)) rfl rfl (Nat.le_of_ble_eq_true rfl) H (fun τ23 H => ?_)
      refine b_aload_n d_Fa_readFrom_93 rfl rfl ?_
      refine b_callVv (Mc := m_Tp_needEnd) (As := []) (st := []) d_Fa_readFrom_94 ⟨⟨kA_Tp_needEnd.1, kA_Tp_needEnd.2.1, kA_Tp_needEnd.2.2, by decide⟩, ml_Fa_62, kV_Tp_needEnd⟩ (eg_1 τ23) rfl rfl (Nat.le_of_ble_eq_true rfl) H (fun τ25 H => ?_)
      exact b_vret d_Fa_readFrom_97 rfl ⟨_, rfl, rfl, H⟩
    · have H := H.2 c34
      refine b_aload_n d_Fa_readFrom_43 rfl rfl ?_
      refine b_iconst (v := (1 : Int32)) d_Fa_readFrom_44 (by decide) ?_
      obtain ⟨h26, H⟩ := H
      refine b_putf (ty := .int) (h1 := enc (stI τ10 q0 1 (1 : Int32))) d_Fa_readFrom_45 fl_Fa_37 ft_3_1 (fun _ => ⟨rfl, rfl⟩) (eF τ10 h26) (Nat.le_of_ble_eq_true rfl) (eFI τ10 h26 1 (1 : Int32)) ?_
      refine b_goto (tgt := 76) d_Fa_readFrom_48 (by decide) ?_
      refine b_aload_n d_Fa_readFrom_76 rfl rfl ?_
      refine b_aload_n d_Fa_readFrom_77 rfl rfl ?_
      refine b_iconst (v := (0 : Int32)) d_Fa_readFrom_78 (by decide) ?_
      refine b_ldc (v := (99999 : Int32)) d_Fa_readFrom_79 cn_Fa_50 ?_
      refine b_callVi (Mc := m_Tp_readNumber) (As := [.int (0 : Int32), .int (99999 : Int32)]) (st := [.ref q0]) d_Fa_readFrom_81 ⟨⟨kA_Tp_readNumber.1, kA_Tp_readNumber.2.1, kA_Tp_readNumber.2.2, by decide⟩, ml_Fa_51, kV_Tp_readNumber⟩ (eg_1 (stI τ10 q0 1 (1 : Int32))) rfl rfl (Nat.le_of_ble_eq_true rfl) H (fun v27 τ28 H => ?_)
      obtain ⟨h29, H⟩ := H
      refine b_putf (ty := .int) (h1 := enc (stI τ28 q0 3 v27)) d_Fa_readFrom_84 fl_Fa_55 ft_3_3 (fun _ => ⟨rfl, rfl⟩) (eF τ28 h29) (Nat.le_of_ble_eq_true rfl) (eFI τ28 h29 3 v27) ?_
      refine b_aload_n d_Fa_readFrom_87 rfl rfl ?_
      refine b_bipush (v := (59 : Int32)) d_Fa_readFrom_88 (by decide) ?_
      refine b_callVv (Mc := m_Tp_needSign) (As := [.int (59 : Int32)]) (st := []) d_Fa_readFrom_90 ⟨⟨kA_Tp_needSign.1, kA_Tp_needSign.2.1, kA_Tp_needSign.2.2, by decide⟩, ml_Fa_58, kV_Tp_needSign⟩ (eg_1 (stI τ28 q0 3 v27)) rfl rfl (Nat.le_of_ble_eq_true rfl) H (fun τ31 H => ?_)
      refine b_aload_n d_Fa_readFrom_93 rfl rfl ?_
      refine b_callVv (Mc := m_Tp_needEnd) (As := []) (st := []) d_Fa_readFrom_94 ⟨⟨kA_Tp_needEnd.1, kA_Tp_needEnd.2.1, kA_Tp_needEnd.2.2, by decide⟩, ml_Fa_62, kV_Tp_needEnd⟩ (eg_1 τ31) rfl rfl (Nat.le_of_ble_eq_true rfl) H (fun τ33 H => ?_)
      exact b_vret d_Fa_readFrom_97 rfl ⟨_, rfl, rfl, H⟩
  · have H := H.2 c43
    refine b_aload_n d_Fa_readFrom_26 rfl rfl ?_
    refine b_iconst (v := (0 : Int32)) d_Fa_readFrom_27 (by decide) ?_
    obtain ⟨h35, H⟩ := H
    refine b_putf (ty := .int) (h1 := enc (stI τ8 q0 1 (0 : Int32))) d_Fa_readFrom_28 fl_Fa_37 ft_3_1 (fun _ => ⟨rfl, rfl⟩) (eF τ8 h35) (Nat.le_of_ble_eq_true rfl) (eFI τ8 h35 1 (0 : Int32)) ?_
    refine b_goto (tgt := 76) d_Fa_readFrom_31 (by decide) ?_
    refine b_aload_n d_Fa_readFrom_76 rfl rfl ?_
    refine b_aload_n d_Fa_readFrom_77 rfl rfl ?_
    refine b_iconst (v := (0 : Int32)) d_Fa_readFrom_78 (by decide) ?_
    refine b_ldc (v := (99999 : Int32)) d_Fa_readFrom_79 cn_Fa_50 ?_
    refine b_callVi (Mc := m_Tp_readNumber) (As := [.int (0 : Int32), .int (99999 : Int32)]) (st := [.ref q0]) d_Fa_readFrom_81 ⟨⟨kA_Tp_readNumber.1, kA_Tp_readNumber.2.1, kA_Tp_readNumber.2.2, by decide⟩, ml_Fa_51, kV_Tp_readNumber⟩ (eg_1 (stI τ8 q0 1 (0 : Int32))) rfl rfl (Nat.le_of_ble_eq_true rfl) H (fun v36 τ37 H => ?_)
    obtain ⟨h38, H⟩ := H
    refine b_putf (ty := .int) (h1 := enc (stI τ37 q0 3 v36)) d_Fa_readFrom_84 fl_Fa_55 ft_3_3 (fun _ => ⟨rfl, rfl⟩) (eF τ37 h38) (Nat.le_of_ble_eq_true rfl) (eFI τ37 h38 3 v36) ?_
    refine b_aload_n d_Fa_readFrom_87 rfl rfl ?_
    refine b_bipush (v := (59 : Int32)) d_Fa_readFrom_88 (by decide) ?_
    refine b_callVv (Mc := m_Tp_needSign) (As := [.int (59 : Int32)]) (st := []) d_Fa_readFrom_90 ⟨⟨kA_Tp_needSign.1, kA_Tp_needSign.2.1, kA_Tp_needSign.2.2, by decide⟩, ml_Fa_58, kV_Tp_needSign⟩ (eg_1 (stI τ37 q0 3 v36)) rfl rfl (Nat.le_of_ble_eq_true rfl) H (fun τ40 H => ?_)
    refine b_aload_n d_Fa_readFrom_93 rfl rfl ?_
    refine b_callVv (Mc := m_Tp_needEnd) (As := []) (st := []) d_Fa_readFrom_94 ⟨⟨kA_Tp_needEnd.1, kA_Tp_needEnd.2.1, kA_Tp_needEnd.2.2, by decide⟩, ml_Fa_62, kV_Tp_needEnd⟩ (eg_1 τ40) rfl rfl (Nat.le_of_ble_eq_true rfl) H (fun τ42 H => ?_)
    exact b_vret d_Fa_readFrom_97 rfl ⟨_, rfl, rfl, H⟩
theorem C_Fa_readFrom {S : XS} {Q : St → Prop} (σ : St) (q0 : Nat) (H : BW S m_Fa_readFrom 0 [some (.ref q0), some (.ref 1)] [] (enc σ) (qV Q)) : CM S m_Fa_readFrom [.ref q0, .ref 1] (enc σ) (qV Q) := b_meth (by decide) (Nat.le_of_ble_eq_true rfl) rfl H
theorem d_Fa_standsIn_0 : decode m_Fa_standsIn.2.1 0 = .ok (.aload_n 0, 1) := by decide +kernel
theorem d_Fa_standsIn_1 : decode m_Fa_standsIn.2.1 1 = .ok (.getfield 65, 3) := by decide +kernel
theorem d_Fa_standsIn_4 : decode m_Fa_standsIn.2.1 4 = .ok (.iload_n 1, 1) := by decide +kernel
theorem d_Fa_standsIn_5 : decode m_Fa_standsIn.2.1 5 = .ok (.if_icmp .gt 23, 3) := by decide +kernel
theorem d_Fa_standsIn_8 : decode m_Fa_standsIn.2.1 8 = .ok (.aload_n 0, 1) := by decide +kernel
theorem d_Fa_standsIn_9 : decode m_Fa_standsIn.2.1 9 = .ok (.getfield 9, 3) := by decide +kernel
theorem d_Fa_standsIn_12 : decode m_Fa_standsIn.2.1 12 = .ok (.iconst (-1), 1) := by decide +kernel
theorem d_Fa_standsIn_13 : decode m_Fa_standsIn.2.1 13 = .ok (.if_icmp .eq 11, 3) := by decide +kernel
theorem d_Fa_standsIn_16 : decode m_Fa_standsIn.2.1 16 = .ok (.iload_n 1, 1) := by decide +kernel
theorem d_Fa_standsIn_17 : decode m_Fa_standsIn.2.1 17 = .ok (.aload_n 0, 1) := by decide +kernel
theorem d_Fa_standsIn_18 : decode m_Fa_standsIn.2.1 18 = .ok (.getfield 9, 3) := by decide +kernel
theorem d_Fa_standsIn_21 : decode m_Fa_standsIn.2.1 21 = .ok (.if_icmp .ge 7, 3) := by decide +kernel
theorem d_Fa_standsIn_24 : decode m_Fa_standsIn.2.1 24 = .ok (.iconst 1, 1) := by decide +kernel
theorem d_Fa_standsIn_25 : decode m_Fa_standsIn.2.1 25 = .ok (.goto 4, 3) := by decide +kernel
theorem d_Fa_standsIn_28 : decode m_Fa_standsIn.2.1 28 = .ok (.iconst 0, 1) := by decide +kernel
theorem d_Fa_standsIn_29 : decode m_Fa_standsIn.2.1 29 = .ok (.ireturn, 1) := by decide +kernel
set_option maxHeartbeats 4000000 in
set_option maxRecDepth 100000 in
theorem B_Fa_standsIn_0 {S : XS} {Q : Int32 → St → Prop} (σ : St) (q0 : Nat) (x1 : Int32) (H : (isFa σ q0) ∧ ((x1 < (fI σ q0 5) → Q (0 : Int32) σ) ∧ (¬ x1 < (fI σ q0 5) → (((fI σ q0 6) = (-1 : Int32) → Q (1 : Int32) σ) ∧ (¬ (fI σ q0 6) = (-1 : Int32) → (((fI σ q0 6) ≤ x1 → Q (0 : Int32) σ) ∧ (¬ (fI σ q0 6) ≤ x1 → Q (1 : Int32) σ))))))) : BW S m_Fa_standsIn 0 [some (.ref q0), some (.int x1)] [] (enc σ) (qI Q) := by
  refine b_aload_n d_Fa_standsIn_0 rfl rfl ?_
  obtain ⟨h1, H⟩ := H
  refine b_getf (v := .int (fI σ q0 5)) d_Fa_standsIn_1 fl_Fa_65 (eF σ h1) rfl ?_
  refine b_iload_n d_Fa_standsIn_4 rfl rfl ?_
  refine b_icmp_gt (tgt := 28) d_Fa_standsIn_5 (by decide) (fun c4 => ?_) (fun c4 => ?_)
  · have H := H.1 c4
    refine b_iconst (v := (0 : Int32)) d_Fa_standsIn_28 (by decide) ?_
    exact b_iret (ty := .boolean) d_Fa_standsIn_29 rfl rfl ⟨_, _, rfl, rfl, H⟩
  · have H := H.2 c4
    refine b_aload_n d_Fa_standsIn_8 rfl rfl ?_
    refine b_getf (v := .int (fI σ q0 6)) d_Fa_standsIn_9 fl_Fa_9 (eF σ h1) rfl ?_
    refine b_iconst (v := (-1 : Int32)) d_Fa_standsIn_12 (by decide) ?_
    refine b_icmp_eq (tgt := 24) d_Fa_standsIn_13 (by decide) (fun c3 => ?_) (fun c3 => ?_)
    · have H := H.1 c3
      refine b_iconst (v := (1 : Int32)) d_Fa_standsIn_24 (by decide) ?_
      refine b_goto (tgt := 29) d_Fa_standsIn_25 (by decide) ?_
      exact b_iret (ty := .boolean) d_Fa_standsIn_29 rfl rfl ⟨_, _, rfl, rfl, H⟩
    · have H := H.2 c3
      refine b_iload_n d_Fa_standsIn_16 rfl rfl ?_
      refine b_aload_n d_Fa_standsIn_17 rfl rfl ?_
      refine b_getf (v := .int (fI σ q0 6)) d_Fa_standsIn_18 fl_Fa_9 (eF σ h1) rfl ?_
      refine b_icmp_ge (tgt := 28) d_Fa_standsIn_21 (by decide) (fun c2 => ?_) (fun c2 => ?_)
      · have H := H.1 c2
        refine b_iconst (v := (0 : Int32)) d_Fa_standsIn_28 (by decide) ?_
        exact b_iret (ty := .boolean) d_Fa_standsIn_29 rfl rfl ⟨_, _, rfl, rfl, H⟩
      · have H := H.2 c2
        refine b_iconst (v := (1 : Int32)) d_Fa_standsIn_24 (by decide) ?_
        refine b_goto (tgt := 29) d_Fa_standsIn_25 (by decide) ?_
        exact b_iret (ty := .boolean) d_Fa_standsIn_29 rfl rfl ⟨_, _, rfl, rfl, H⟩
theorem C_Fa_standsIn {S : XS} {Q : Int32 → St → Prop} (σ : St) (q0 : Nat) (x1 : Int32) (H : BW S m_Fa_standsIn 0 [some (.ref q0), some (.int x1)] [] (enc σ) (qI Q)) : CM S m_Fa_standsIn [.ref q0, .int x1] (enc σ) (qI Q) := b_meth (by decide) (Nat.le_of_ble_eq_true rfl) rfl H
theorem d_Fa_quarrelWith_0 : decode m_Fa_quarrelWith.2.1 0 = .ok (.aload_n 1, 1) := by decide +kernel
theorem d_Fa_quarrelWith_1 : decode m_Fa_quarrelWith.2.1 1 = .ok (.ifnull 15, 3) := by decide +kernel
theorem d_Fa_quarrelWith_4 : decode m_Fa_quarrelWith.2.1 4 = .ok (.aload_n 0, 1) := by decide +kernel
theorem d_Fa_quarrelWith_5 : decode m_Fa_quarrelWith.2.1 5 = .ok (.getfield 24, 3) := by decide +kernel
theorem d_Fa_quarrelWith_8 : decode m_Fa_quarrelWith.2.1 8 = .ok (.aload_n 1, 1) := by decide +kernel
theorem d_Fa_quarrelWith_9 : decode m_Fa_quarrelWith.2.1 9 = .ok (.getfield 24, 3) := by decide +kernel
theorem d_Fa_quarrelWith_12 : decode m_Fa_quarrelWith.2.1 12 = .ok (.lcmp, 1) := by decide +kernel
theorem d_Fa_quarrelWith_13 : decode m_Fa_quarrelWith.2.1 13 = .ok (.ifCond .eq 5, 3) := by decide +kernel
theorem d_Fa_quarrelWith_16 : decode m_Fa_quarrelWith.2.1 16 = .ok (.iconst 0, 1) := by decide +kernel
theorem d_Fa_quarrelWith_17 : decode m_Fa_quarrelWith.2.1 17 = .ok (.ireturn, 1) := by decide +kernel
theorem d_Fa_quarrelWith_18 : decode m_Fa_quarrelWith.2.1 18 = .ok (.aload_n 0, 1) := by decide +kernel
theorem d_Fa_quarrelWith_19 : decode m_Fa_quarrelWith.2.1 19 = .ok (.getfield 37, 3) := by decide +kernel
theorem d_Fa_quarrelWith_22 : decode m_Fa_quarrelWith.2.1 22 = .ok (.aload_n 1, 1) := by decide +kernel
theorem d_Fa_quarrelWith_23 : decode m_Fa_quarrelWith.2.1 23 = .ok (.getfield 37, 3) := by decide +kernel
theorem d_Fa_quarrelWith_26 : decode m_Fa_quarrelWith.2.1 26 = .ok (.if_icmp .le 9, 3) := by decide +kernel
theorem d_Fa_quarrelWith_29 : decode m_Fa_quarrelWith.2.1 29 = .ok (.aload_n 1, 1) := by decide +kernel
theorem d_Fa_quarrelWith_30 : decode m_Fa_quarrelWith.2.1 30 = .ok (.aload_n 0, 1) := by decide +kernel
theorem d_Fa_quarrelWith_31 : decode m_Fa_quarrelWith.2.1 31 = .ok (.invokevirtual 68, 3) := by decide +kernel
theorem d_Fa_quarrelWith_34 : decode m_Fa_quarrelWith.2.1 34 = .ok (.ireturn, 1) := by decide +kernel
theorem d_Fa_quarrelWith_35 : decode m_Fa_quarrelWith.2.1 35 = .ok (.aload_n 0, 1) := by decide +kernel
theorem d_Fa_quarrelWith_36 : decode m_Fa_quarrelWith.2.1 36 = .ok (.aload_n 1, 1) := by decide +kernel
theorem d_Fa_quarrelWith_37 : decode m_Fa_quarrelWith.2.1 37 = .ok (.invokevirtual 68, 3) := by decide +kernel
theorem d_Fa_quarrelWith_40 : decode m_Fa_quarrelWith.2.1 40 = .ok (.ireturn, 1) := by decide +kernel
set_option maxHeartbeats 4000000 in
set_option maxRecDepth 100000 in
theorem B_Fa_quarrelWith_0 {S : XS} {Q : Int32 → St → Prop} (σ : St) (q0 : Nat) (q1 : Nat) (H : (isFa σ q0) ∧ (isFa σ q1) ∧ (((lg_cmp (fL σ q0 0) (fL σ q1 0)) = 0 → (((fI σ q0 1) ≤ (fI σ q1 1) → CM S m_Fa_quarrelWithLater [.ref q0, .ref q1] (enc σ) (qI (fun v3 τ4 => Q v3 τ4))) ∧ (¬ (fI σ q0 1) ≤ (fI σ q1 1) → CM S m_Fa_quarrelWithLater [.ref q1, .ref q0] (enc σ) (qI (fun v5 τ6 => Q v5 τ6))))) ∧ (¬ (lg_cmp (fL σ q0 0) (fL σ q1 0)) = 0 → Q (0 : Int32) σ))) : BW S m_Fa_quarrelWith 0 [some (.ref q0), some (.ref q1)] [] (enc σ) (qI Q) := by
  refine b_aload_n d_Fa_quarrelWith_0 rfl rfl ?_
  refine b_ifnull d_Fa_quarrelWith_1 ?_
  refine b_aload_n d_Fa_quarrelWith_4 rfl rfl ?_
  obtain ⟨h1, H⟩ := H
  refine b_getf (v := .long (fL σ q0 0)) d_Fa_quarrelWith_5 fl_Fa_24 (eF σ h1) rfl ?_
  refine b_aload_n d_Fa_quarrelWith_8 rfl rfl ?_
  obtain ⟨h2, H⟩ := H
  refine b_getf (v := .long (fL σ q1 0)) d_Fa_quarrelWith_9 fl_Fa_24 (eF σ h2) rfl ?_
  refine b_lcmp d_Fa_quarrelWith_12 ?_
  refine b_if_eq (tgt := 18) d_Fa_quarrelWith_13 (by decide) (fun c8 => ?_) (fun c8 => ?_)
  · have H := H.1 c8
    refine b_aload_n d_Fa_quarrelWith_18 rfl rfl ?_
    refine b_getf (v := .int (fI σ q0 1)) d_Fa_quarrelWith_19 fl_Fa_37 (eF σ h1) rfl ?_
    refine b_aload_n d_Fa_quarrelWith_22 rfl rfl ?_
    refine b_getf (v := .int (fI σ q1 1)) d_Fa_quarrelWith_23 fl_Fa_37 (eF σ h2) rfl ?_
    refine b_icmp_le (tgt := 35) d_Fa_quarrelWith_26 (by decide) (fun c7 => ?_) (fun c7 => ?_)
    · have H := H.1 c7
      refine b_aload_n d_Fa_quarrelWith_35 rfl rfl ?_
      refine b_aload_n d_Fa_quarrelWith_36 rfl rfl ?_
      refine b_callVi (Mc := m_Fa_quarrelWithLater) (As := [.ref q1]) (st := []) d_Fa_quarrelWith_37 ⟨⟨kA_Fa_quarrelWithLater.1, kA_Fa_quarrelWithLater.2.1, kA_Fa_quarrelWithLater.2.2, by decide⟩, ml_Fa_68, kV_Fa_quarrelWithLater⟩ (eF σ h1) rfl rfl (Nat.le_of_ble_eq_true rfl) H (fun v3 τ4 H => ?_)
      exact b_iret (ty := .int) d_Fa_quarrelWith_40 rfl rfl ⟨_, _, rfl, rfl, H⟩
    · have H := H.2 c7
      refine b_aload_n d_Fa_quarrelWith_29 rfl rfl ?_
      refine b_aload_n d_Fa_quarrelWith_30 rfl rfl ?_
      refine b_callVi (Mc := m_Fa_quarrelWithLater) (As := [.ref q0]) (st := []) d_Fa_quarrelWith_31 ⟨⟨kA_Fa_quarrelWithLater.1, kA_Fa_quarrelWithLater.2.1, kA_Fa_quarrelWithLater.2.2, by decide⟩, ml_Fa_68, kV_Fa_quarrelWithLater⟩ (eF σ h2) rfl rfl (Nat.le_of_ble_eq_true rfl) H (fun v5 τ6 H => ?_)
      exact b_iret (ty := .int) d_Fa_quarrelWith_34 rfl rfl ⟨_, _, rfl, rfl, H⟩
  · have H := H.2 c8
    refine b_iconst (v := (0 : Int32)) d_Fa_quarrelWith_16 (by decide) ?_
    exact b_iret (ty := .int) d_Fa_quarrelWith_17 rfl rfl ⟨_, _, rfl, rfl, H⟩
theorem C_Fa_quarrelWith {S : XS} {Q : Int32 → St → Prop} (σ : St) (q0 : Nat) (q1 : Nat) (H : BW S m_Fa_quarrelWith 0 [some (.ref q0), some (.ref q1)] [] (enc σ) (qI Q)) : CM S m_Fa_quarrelWith [.ref q0, .ref q1] (enc σ) (qI Q) := b_meth (by decide) (Nat.le_of_ble_eq_true rfl) rfl H
theorem d_Fa_quarrelWithLater_0 : decode m_Fa_quarrelWithLater.2.1 0 = .ok (.aload_n 0, 1) := by decide +kernel
theorem d_Fa_quarrelWithLater_1 : decode m_Fa_quarrelWithLater.2.1 1 = .ok (.getfield 37, 3) := by decide +kernel
theorem d_Fa_quarrelWithLater_4 : decode m_Fa_quarrelWithLater.2.1 4 = .ok (.iconst 2, 1) := by decide +kernel
theorem d_Fa_quarrelWithLater_5 : decode m_Fa_quarrelWithLater.2.1 5 = .ok (.if_icmp .ne 32, 3) := by decide +kernel
theorem d_Fa_quarrelWithLater_8 : decode m_Fa_quarrelWithLater.2.1 8 = .ok (.aload_n 0, 1) := by decide +kernel
theorem d_Fa_quarrelWithLater_9 : decode m_Fa_quarrelWithLater.2.1 9 = .ok (.getfield 55, 3) := by decide +kernel
theorem d_Fa_quarrelWithLater_12 : decode m_Fa_quarrelWithLater.2.1 12 = .ok (.aload_n 1, 1) := by decide +kernel
theorem d_Fa_quarrelWithLater_13 : decode m_Fa_quarrelWithLater.2.1 13 = .ok (.getfield 55, 3) := by decide +kernel
theorem d_Fa_quarrelWithLater_16 : decode m_Fa_quarrelWithLater.2.1 16 = .ok (.if_icmp .ne 19, 3) := by decide +kernel
theorem d_Fa_quarrelWithLater_19 : decode m_Fa_quarrelWithLater.2.1 19 = .ok (.aload_n 0, 1) := by decide +kernel
theorem d_Fa_quarrelWithLater_20 : decode m_Fa_quarrelWithLater.2.1 20 = .ok (.getfield 28, 3) := by decide +kernel
theorem d_Fa_quarrelWithLater_23 : decode m_Fa_quarrelWithLater.2.1 23 = .ok (.aload_n 1, 1) := by decide +kernel
theorem d_Fa_quarrelWithLater_24 : decode m_Fa_quarrelWithLater.2.1 24 = .ok (.getfield 28, 3) := by decide +kernel
theorem d_Fa_quarrelWithLater_27 : decode m_Fa_quarrelWithLater.2.1 27 = .ok (.lcmp, 1) := by decide +kernel
theorem d_Fa_quarrelWithLater_28 : decode m_Fa_quarrelWithLater.2.1 28 = .ok (.ifCond .eq 7, 3) := by decide +kernel
theorem d_Fa_quarrelWithLater_31 : decode m_Fa_quarrelWithLater.2.1 31 = .ok (.iconst 2, 1) := by decide +kernel
theorem d_Fa_quarrelWithLater_32 : decode m_Fa_quarrelWithLater.2.1 32 = .ok (.goto 4, 3) := by decide +kernel
theorem d_Fa_quarrelWithLater_35 : decode m_Fa_quarrelWithLater.2.1 35 = .ok (.iconst 0, 1) := by decide +kernel
theorem d_Fa_quarrelWithLater_36 : decode m_Fa_quarrelWithLater.2.1 36 = .ok (.ireturn, 1) := by decide +kernel
theorem d_Fa_quarrelWithLater_37 : decode m_Fa_quarrelWithLater.2.1 37 = .ok (.aload_n 0, 1) := by decide +kernel
theorem d_Fa_quarrelWithLater_38 : decode m_Fa_quarrelWithLater.2.1 38 = .ok (.getfield 37, 3) := by decide +kernel
theorem d_Fa_quarrelWithLater_41 : decode m_Fa_quarrelWithLater.2.1 41 = .ok (.aload_n 1, 1) := by decide +kernel
theorem d_Fa_quarrelWithLater_42 : decode m_Fa_quarrelWithLater.2.1 42 = .ok (.getfield 37, 3) := by decide +kernel
theorem d_Fa_quarrelWithLater_45 : decode m_Fa_quarrelWithLater.2.1 45 = .ok (.if_icmp .ne 20, 3) := by decide +kernel
theorem d_Fa_quarrelWithLater_48 : decode m_Fa_quarrelWithLater.2.1 48 = .ok (.aload_n 0, 1) := by decide +kernel
theorem d_Fa_quarrelWithLater_49 : decode m_Fa_quarrelWithLater.2.1 49 = .ok (.getfield 55, 3) := by decide +kernel
theorem d_Fa_quarrelWithLater_52 : decode m_Fa_quarrelWithLater.2.1 52 = .ok (.aload_n 1, 1) := by decide +kernel
theorem d_Fa_quarrelWithLater_53 : decode m_Fa_quarrelWithLater.2.1 53 = .ok (.getfield 55, 3) := by decide +kernel
theorem d_Fa_quarrelWithLater_56 : decode m_Fa_quarrelWithLater.2.1 56 = .ok (.if_icmp .eq 7, 3) := by decide +kernel
theorem d_Fa_quarrelWithLater_59 : decode m_Fa_quarrelWithLater.2.1 59 = .ok (.iconst 1, 1) := by decide +kernel
theorem d_Fa_quarrelWithLater_60 : decode m_Fa_quarrelWithLater.2.1 60 = .ok (.goto 4, 3) := by decide +kernel
theorem d_Fa_quarrelWithLater_63 : decode m_Fa_quarrelWithLater.2.1 63 = .ok (.iconst 0, 1) := by decide +kernel
theorem d_Fa_quarrelWithLater_64 : decode m_Fa_quarrelWithLater.2.1 64 = .ok (.ireturn, 1) := by decide +kernel
theorem d_Fa_quarrelWithLater_65 : decode m_Fa_quarrelWithLater.2.1 65 = .ok (.aload_n 1, 1) := by decide +kernel
theorem d_Fa_quarrelWithLater_66 : decode m_Fa_quarrelWithLater.2.1 66 = .ok (.getfield 37, 3) := by decide +kernel
theorem d_Fa_quarrelWithLater_69 : decode m_Fa_quarrelWithLater.2.1 69 = .ok (.iconst 1, 1) := by decide +kernel
theorem d_Fa_quarrelWithLater_70 : decode m_Fa_quarrelWithLater.2.1 70 = .ok (.if_icmp .ne 20, 3) := by decide +kernel
theorem d_Fa_quarrelWithLater_73 : decode m_Fa_quarrelWithLater.2.1 73 = .ok (.aload_n 1, 1) := by decide +kernel
theorem d_Fa_quarrelWithLater_74 : decode m_Fa_quarrelWithLater.2.1 74 = .ok (.getfield 55, 3) := by decide +kernel
theorem d_Fa_quarrelWithLater_77 : decode m_Fa_quarrelWithLater.2.1 77 = .ok (.aload_n 0, 1) := by decide +kernel
theorem d_Fa_quarrelWithLater_78 : decode m_Fa_quarrelWithLater.2.1 78 = .ok (.getfield 55, 3) := by decide +kernel
theorem d_Fa_quarrelWithLater_81 : decode m_Fa_quarrelWithLater.2.1 81 = .ok (.if_icmp .ge 7, 3) := by decide +kernel
theorem d_Fa_quarrelWithLater_84 : decode m_Fa_quarrelWithLater.2.1 84 = .ok (.iconst 4, 1) := by decide +kernel
theorem d_Fa_quarrelWithLater_85 : decode m_Fa_quarrelWithLater.2.1 85 = .ok (.goto 4, 3) := by decide +kernel
theorem d_Fa_quarrelWithLater_88 : decode m_Fa_quarrelWithLater.2.1 88 = .ok (.iconst 0, 1) := by decide +kernel
theorem d_Fa_quarrelWithLater_89 : decode m_Fa_quarrelWithLater.2.1 89 = .ok (.ireturn, 1) := by decide +kernel
theorem d_Fa_quarrelWithLater_90 : decode m_Fa_quarrelWithLater.2.1 90 = .ok (.aload_n 0, 1) := by decide +kernel
theorem d_Fa_quarrelWithLater_91 : decode m_Fa_quarrelWithLater.2.1 91 = .ok (.getfield 37, 3) := by decide +kernel
theorem d_Fa_quarrelWithLater_94 : decode m_Fa_quarrelWithLater.2.1 94 = .ok (.ifCond .ne 22, 3) := by decide +kernel
theorem d_Fa_quarrelWithLater_97 : decode m_Fa_quarrelWithLater.2.1 97 = .ok (.aload_n 1, 1) := by decide +kernel
theorem d_Fa_quarrelWithLater_98 : decode m_Fa_quarrelWithLater.2.1 98 = .ok (.getfield 55, 3) := by decide +kernel
theorem d_Fa_quarrelWithLater_101 : decode m_Fa_quarrelWithLater.2.1 101 = .ok (.aload_n 0, 1) := by decide +kernel
theorem d_Fa_quarrelWithLater_102 : decode m_Fa_quarrelWithLater.2.1 102 = .ok (.getfield 55, 3) := by decide +kernel
theorem d_Fa_quarrelWithLater_105 : decode m_Fa_quarrelWithLater.2.1 105 = .ok (.if_icmp .ge 7, 3) := by decide +kernel
theorem d_Fa_quarrelWithLater_108 : decode m_Fa_quarrelWithLater.2.1 108 = .ok (.iconst 1, 1) := by decide +kernel
theorem d_Fa_quarrelWithLater_109 : decode m_Fa_quarrelWithLater.2.1 109 = .ok (.goto 23, 3) := by decide +kernel
theorem d_Fa_quarrelWithLater_112 : decode m_Fa_quarrelWithLater.2.1 112 = .ok (.iconst 0, 1) := by decide +kernel
theorem d_Fa_quarrelWithLater_113 : decode m_Fa_quarrelWithLater.2.1 113 = .ok (.goto 19, 3) := by decide +kernel
theorem d_Fa_quarrelWithLater_116 : decode m_Fa_quarrelWithLater.2.1 116 = .ok (.aload_n 1, 1) := by decide +kernel
theorem d_Fa_quarrelWithLater_117 : decode m_Fa_quarrelWithLater.2.1 117 = .ok (.getfield 55, 3) := by decide +kernel
theorem d_Fa_quarrelWithLater_120 : decode m_Fa_quarrelWithLater.2.1 120 = .ok (.aload_n 0, 1) := by decide +kernel
theorem d_Fa_quarrelWithLater_121 : decode m_Fa_quarrelWithLater.2.1 121 = .ok (.getfield 55, 3) := by decide +kernel
theorem d_Fa_quarrelWithLater_124 : decode m_Fa_quarrelWithLater.2.1 124 = .ok (.if_icmp .le 7, 3) := by decide +kernel
theorem d_Fa_quarrelWithLater_127 : decode m_Fa_quarrelWithLater.2.1 127 = .ok (.iconst 1, 1) := by decide +kernel
theorem d_Fa_quarrelWithLater_128 : decode m_Fa_quarrelWithLater.2.1 128 = .ok (.goto 4, 3) := by decide +kernel
theorem d_Fa_quarrelWithLater_131 : decode m_Fa_quarrelWithLater.2.1 131 = .ok (.iconst 0, 1) := by decide +kernel
theorem d_Fa_quarrelWithLater_132 : decode m_Fa_quarrelWithLater.2.1 132 = .ok (.istore_n 2, 1) := by decide +kernel
theorem d_Fa_quarrelWithLater_133 : decode m_Fa_quarrelWithLater.2.1 133 = .ok (.iload_n 2, 1) := by decide +kernel
theorem d_Fa_quarrelWithLater_134 : decode m_Fa_quarrelWithLater.2.1 134 = .ok (.ifCond .eq 7, 3) := by decide +kernel
theorem d_Fa_quarrelWithLater_137 : decode m_Fa_quarrelWithLater.2.1 137 = .ok (.iconst 3, 1) := by decide +kernel
theorem d_Fa_quarrelWithLater_138 : decode m_Fa_quarrelWithLater.2.1 138 = .ok (.goto 4, 3) := by decide +kernel
theorem d_Fa_quarrelWithLater_141 : decode m_Fa_quarrelWithLater.2.1 141 = .ok (.iconst 0, 1) := by decide +kernel
theorem d_Fa_quarrelWithLater_142 : decode m_Fa_quarrelWithLater.2.1 142 = .ok (.ireturn, 1) := by decide +kernel
set_option maxHeartbeats 4000000 in
set_option maxRecDepth 100000 in
theorem B_Fa_quarrelWithLater_0 {S : XS} {Q : Int32 → St → Prop} (σ : St) (q0 : Nat) (q1 : Nat) (H : (isFa σ q0) ∧ ((¬ (fI σ q0 1) = (2 : Int32) → (isFa σ q1) ∧ ((¬ (fI σ q0 1) = (fI σ q1 1) → ((¬ (fI σ q1 1) = (1 : Int32) → ((¬ (fI σ q0 1) = 0 → (((fI σ q1 3) ≤ (fI σ q0 3) → (((0 : Int32) = 0 → Q (0 : Int32) σ) ∧ (¬ (0 : Int32) = 0 → Q (3 : Int32) σ))) ∧ (¬ (fI σ q1 3) ≤ (fI σ q0 3) → (((1 : Int32) = 0 → Q (0 : Int32) σ) ∧ (¬ (1 : Int32) = 0 → Q (3 : Int32) σ))))) ∧ ((fI σ q0 1) = 0 → (((fI σ q0 3) ≤ (fI σ q1 3) → (((0 : Int32) = 0 → Q (0 : Int32) σ) ∧ (¬ (0 : Int32) = 0 → Q (3 : Int32) σ))) ∧ (¬ (fI σ q0 3) ≤ (fI σ q1 3) → (((1 : Int32) = 0 → Q (0 : Int32) σ) ∧ (¬ (1 : Int32) = 0 → Q (3 : Int32) σ))))))) ∧ ((fI σ q1 1) = (1 : Int32) → (((fI σ q0 3) ≤ (fI σ q1 3) → Q (0 : Int32) σ) ∧ (¬ (fI σ q0 3) ≤ (fI σ q1 3) → Q (4 : Int32) σ))))) ∧ ((fI σ q0 1) = (fI σ q1 1) → (((fI σ q0 3) = (fI σ q1 3) → Q (0 : Int32) σ) ∧ (¬ (fI σ q0 3) = (fI σ q1 3) → Q (1 : Int32) σ))))) ∧ ((fI σ q0 1) = (2 : Int32) → (isFa σ q1) ∧ ((¬ (fI σ q0 3) = (fI σ q1 3) → Q (0 : Int32) σ) ∧ ((fI σ q0 3) = (fI σ q1 3) → (((lg_cmp (fL σ q0 2) (fL σ q1 2)) = 0 → Q (0 : Int32) σ) ∧ (¬ (lg_cmp (fL σ q0 2) (fL σ q1 2)) = 0 → Q (2 : Int32) σ))))))) : BW S m_Fa_quarrelWithLater 0 [some (.ref q0), some (.ref q1), none] [] (enc σ) (qI Q) := by
  refine b_aload_n d_Fa_quarrelWithLater_0 rfl rfl ?_
  obtain ⟨h1, H⟩ := H
  refine b_getf (v := .int (fI σ q0 1)) d_Fa_quarrelWithLater_1 fl_Fa_37 (eF σ h1) rfl ?_
  refine b_iconst (v := (2 : Int32)) d_Fa_quarrelWithLater_4 (by decide) ?_
  refine b_icmp_ne (tgt := 37) d_Fa_quarrelWithLater_5 (by decide) (fun c17 => ?_) (fun c17 => ?_)
  · have H := H.1 c17
    refine b_aload_n d_Fa_quarrelWithLater_37 rfl rfl ?_
    refine b_getf (v := .int (fI σ q0 1)) d_Fa_quarrelWithLater_38 fl_Fa_37 (eF σ h1) rfl ?_
    refine b_aload_n d_Fa_quarrelWithLater_41 rfl rfl ?_
    obtain ⟨h2, H⟩ := H
    refine b_getf (v := .int (fI σ q1 1)) d_Fa_quarrelWithLater_42 fl_Fa_37 (eF σ h2) rfl ?_
    refine b_icmp_ne (tgt := 65) d_Fa_quarrelWithLater_45 (by decide) (fun c13 => ?_) (fun c13 => ?_)
    · have H := H.1 c13
      refine b_aload_n d_Fa_quarrelWithLater_65 rfl rfl ?_
      refine b_getf (v := .int (fI σ q1 1)) d_Fa_quarrelWithLater_66 fl_Fa_37 (eF σ h2) rfl ?_
      refine b_iconst (v := (1 : Int32)) d_Fa_quarrelWithLater_69 (by decide) ?_
      refine b_icmp_ne (tgt := 90) d_Fa_quarrelWithLater_70 (by decide) (fun c11 => ?_) (fun c11 => ?_)
      · have H := H.1 c11
        refine b_aload_n d_Fa_quarrelWithLater_90 rfl rfl ?_
        refine b_getf (v := .int (fI σ q0 1)) d_Fa_quarrelWithLater_91 fl_Fa_37 (eF σ h1) rfl ?_
        refine b_if_ne (tgt := 116) d_Fa_quarrelWithLater_94 (by decide) (fun c9 => ?_) (fun c9 => ?_)
        · have H := H.1 c9
          refine b_aload_n d_Fa_quarrelWithLater_116 rfl rfl ?_
          refine b_getf (v := .int (fI σ q1 3)) d_Fa_quarrelWithLater_117 fl_Fa_55 (eF σ h2) rfl ?_
          refine b_aload_n d_Fa_quarrelWithLater_120 rfl rfl ?_
          refine b_getf (v := .int (fI σ q0 3)) d_Fa_quarrelWithLater_121 fl_Fa_55 (eF σ h1) rfl ?_
          refine b_icmp_le (tgt := 131) d_Fa_quarrelWithLater_124 (by decide) (fun c5 => ?_) (fun c5 => ?_)
          · have H := H.1 c5
            refine b_iconst (v := (0 : Int32)) d_Fa_quarrelWithLater_131 (by decide) ?_
            refine b_istore_n (ls' := [some (.ref q0), some (.ref q1), some (.int (0 : Int32))]) d_Fa_quarrelWithLater_132 rfl (Nat.le_of_ble_eq_true rfl) rfl ?_
            refine b_iload_n d_Fa_quarrelWithLater_133 rfl rfl ?_
            refine b_if_eq (tgt := 141) d_Fa_quarrelWithLater_134 (by decide) (fun c3 => ?_) (fun c3 => ?_)
            · have H := H.1 c3
              refine b_iconst (v := (0 : Int32)) d_Fa_quarrelWithLater_141 (by decide) ?_
              exact b_iret (ty := .int) d_Fa_quarrelWithLater_142 rfl rfl ⟨_, _, rfl, rfl, H⟩
            · have H := H.2 c3
              refine b_iconst (v := (3 : Int32)) d_Fa_quarrelWithLater_137 (by decide) ?_
              refine b_goto (tgt := 142) d_Fa_quarrelWithLater_138 (by decide) ?_
              exact b_iret (ty := .int) d_Fa_quarrelWithLater_142 rfl rfl ⟨_, _, rfl, rfl, H⟩
          · have H := H.2 c5
            refine b_iconst (v := (1 : Int32)) d_Fa_quarrelWithLater_127 (by decide) ?_
            refine b_goto (tgt := 132) d_Fa_quarrelWithLater_128 (by decide) ?_
            refine b_istore_n (ls' := [some (.ref q0), some (.ref q1), some (.int (1 : Int32))]) d_Fa_quarrelWithLater_132 rfl (Nat.le_of_ble_eq_true rfl) rfl ?_
            refine b_iload_n d_Fa_quarrelWithLater_133 rfl rfl ?_
            refine b_if_eq (tgt := 141) d_Fa_quarrelWithLater_134 (by decide) (fun c4 => ?_) (fun c4 => ?_)
            · have H := H.1 c4
              refine b_iconst (v := (0 : Int32)) d_Fa_quarrelWithLater_141 (by decide) ?_
              exact b_iret (ty := .int) d_Fa_quarrelWithLater_142 rfl rfl ⟨_, _, rfl, rfl, H⟩
            · have H := H.2 c4
              refine b_iconst (v := (3 : Int32)) d_Fa_quarrelWithLater_137 (by decide) ?_
              refine b_goto (tgt := 142) d_Fa_quarrelWithLater_138 (by decide) ?_
              exact b_iret (ty := .int) d_Fa_quarrelWithLater_142 rfl rfl ⟨_, _, rfl, rfl, H⟩
        · have H := H.2 c9
          refine b_aload_n d_Fa_quarrelWithLater_97 rfl rfl ?_
          refine b_getf (v := .int (fI σ q1 3)) d_Fa_quarrelWithLater_98 fl_Fa_55 (eF σ h2) rfl ?_
          refine b_aload_n d_Fa_quarrelWithLater_101 rfl rfl ?_
          refine b_getf (v := .int (fI σ q0 3)) d_Fa_quarrelWithLater_102 fl_Fa_55 (eF σ h1) rfl ?_
          refine b_icmp_ge (tgt := 112) d_Fa_quarrelWithLater_105 (by decide) (fun c8 => ?_) (fun c8 => ?_)
          · have H := H.1 c8
            refine b_iconst (v := (0 : Int32)) d_Fa_quarrelWithLater_112 (by decide) ?_
            refine b_goto (tgt := 132) d_Fa_quarrelWithLater_113 (by decide) ?_
            refine b_istore_n (ls' := [some (.ref q0), some (.ref q1), some (.int (0 : Int32))]) d_Fa_quarrelWithLater_132 rfl (Nat.le_of_ble_eq_true rfl) rfl ?_
            refine b_iload_n d_Fa_quarrelWithLater_133 rfl rfl ?_
            refine b_if_eq (tgt := 141) d_Fa_quarrelWithLater_134 (by decide) (fun c6 => ?_) (fun c6 => ?_)
            · have H := H.1 c6
              refine b_iconst (v := (0 : Int32)) d_Fa_quarrelWithLater_141 (by decide) ?_
              exact b_iret (ty := .int) d_Fa_quarrelWithLater_142 rfl rfl ⟨_, _, rfl, rfl, H⟩
            · have H := H.2 c6
              refine b_iconst (v := (3 : Int32)) d_Fa_quarrelWithLater_137 (by decide) ?_
              refine b_goto (tgt := 142) d_Fa_quarrelWithLater_138 (by decide) ?_
              exact b_iret (ty := .int) d_Fa_quarrelWithLater_142 rfl rfl ⟨_, _, rfl, rfl, H⟩
          · have H := H.2 c8
            refine b_iconst (v := (1 : Int32)) d_Fa_quarrelWithLater_108 (by decide) ?_
            refine b_goto (tgt := 132) d_Fa_quarrelWithLater_109 (by decide) ?_
            refine b_istore_n (ls' := [some (.ref q0), some (.ref q1), some (.int (1 : Int32))]) d_Fa_quarrelWithLater_132 rfl (Nat.le_of_ble_eq_true rfl) rfl ?_
            refine b_iload_n d_Fa_quarrelWithLater_133 rfl rfl ?_
            refine b_if_eq (tgt := 141) d_Fa_quarrelWithLater_134 (by decide) (fun c7 => ?_) (fun c7 => ?_)
            · have H := H.1 c7
              refine b_iconst (v := (0 : Int32)) d_Fa_quarrelWithLater_141 (by decide) ?_
              exact b_iret (ty := .int) d_Fa_quarrelWithLater_142 rfl rfl ⟨_, _, rfl, rfl, H⟩
            · have H := H.2 c7
              refine b_iconst (v := (3 : Int32)) d_Fa_quarrelWithLater_137 (by decide) ?_
              refine b_goto (tgt := 142) d_Fa_quarrelWithLater_138 (by decide) ?_
              exact b_iret (ty := .int) d_Fa_quarrelWithLater_142 rfl rfl ⟨_, _, rfl, rfl, H⟩
      · have H := H.2 c11
        refine b_aload_n d_Fa_quarrelWithLater_73 rfl rfl ?_
        refine b_getf (v := .int (fI σ q1 3)) d_Fa_quarrelWithLater_74 fl_Fa_55 (eF σ h2) rfl ?_
        refine b_aload_n d_Fa_quarrelWithLater_77 rfl rfl ?_
        refine b_getf (v := .int (fI σ q0 3)) d_Fa_quarrelWithLater_78 fl_Fa_55 (eF σ h1) rfl ?_
        refine b_icmp_ge (tgt := 88) d_Fa_quarrelWithLater_81 (by decide) (fun c10 => ?_) (fun c10 => ?_)
        · have H := H.1 c10
          refine b_iconst (v := (0 : Int32)) d_Fa_quarrelWithLater_88 (by decide) ?_
          exact b_iret (ty := .int) d_Fa_quarrelWithLater_89 rfl rfl ⟨_, _, rfl, rfl, H⟩
        · have H := H.2 c10
          refine b_iconst (v := (4 : Int32)) d_Fa_quarrelWithLater_84 (by decide) ?_
          refine b_goto (tgt := 89) d_Fa_quarrelWithLater_85 (by decide) ?_
          exact b_iret (ty := .int) d_Fa_quarrelWithLater_89 rfl rfl ⟨_, _, rfl, rfl, H⟩
    · have H := H.2 c13
      refine b_aload_n d_Fa_quarrelWithLater_48 rfl rfl ?_
      refine b_getf (v := .int (fI σ q0 3)) d_Fa_quarrelWithLater_49 fl_Fa_55 (eF σ h1) rfl ?_
      refine b_aload_n d_Fa_quarrelWithLater_52 rfl rfl ?_
      refine b_getf (v := .int (fI σ q1 3)) d_Fa_quarrelWithLater_53 fl_Fa_55 (eF σ h2) rfl ?_
      refine b_icmp_eq (tgt := 63) d_Fa_quarrelWithLater_56 (by decide) (fun c12 => ?_) (fun c12 => ?_)
      · have H := H.1 c12
        refine b_iconst (v := (0 : Int32)) d_Fa_quarrelWithLater_63 (by decide) ?_
        exact b_iret (ty := .int) d_Fa_quarrelWithLater_64 rfl rfl ⟨_, _, rfl, rfl, H⟩
      · have H := H.2 c12
        refine b_iconst (v := (1 : Int32)) d_Fa_quarrelWithLater_59 (by decide) ?_
        refine b_goto (tgt := 64) d_Fa_quarrelWithLater_60 (by decide) ?_
        exact b_iret (ty := .int) d_Fa_quarrelWithLater_64 rfl rfl ⟨_, _, rfl, rfl, H⟩
  · have H := H.2 c17
    refine b_aload_n d_Fa_quarrelWithLater_8 rfl rfl ?_
    refine b_getf (v := .int (fI σ q0 3)) d_Fa_quarrelWithLater_9 fl_Fa_55 (eF σ h1) rfl ?_
    refine b_aload_n d_Fa_quarrelWithLater_12 rfl rfl ?_
    obtain ⟨h14, H⟩ := H
    refine b_getf (v := .int (fI σ q1 3)) d_Fa_quarrelWithLater_13 fl_Fa_55 (eF σ h14) rfl ?_
    refine b_icmp_ne (tgt := 35) d_Fa_quarrelWithLater_16 (by decide) (fun c16 => ?_) (fun c16 => ?_)
    · have H := H.1 c16
      refine b_iconst (v := (0 : Int32)) d_Fa_quarrelWithLater_35 (by decide) ?_
      exact b_iret (ty := .int) d_Fa_quarrelWithLater_36 rfl rfl ⟨_, _, rfl, rfl, H⟩
    · have H := H.2 c16
      refine b_aload_n d_Fa_quarrelWithLater_19 rfl rfl ?_
      refine b_getf (v := .long (fL σ q0 2)) d_Fa_quarrelWithLater_20 fl_Fa_28 (eF σ h1) rfl ?_
      refine b_aload_n d_Fa_quarrelWithLater_23 rfl rfl ?_
      refine b_getf (v := .long (fL σ q1 2)) d_Fa_quarrelWithLater_24 fl_Fa_28 (eF σ h14) rfl ?_
      refine b_lcmp d_Fa_quarrelWithLater_27 ?_
      refine b_if_eq (tgt := 35) d_Fa_quarrelWithLater_28 (by decide) (fun c15 => ?_) (fun c15 => ?_)
      · have H := H.1 c15
        refine b_iconst (v := (0 : Int32)) d_Fa_quarrelWithLater_35 (by decide) ?_
        exact b_iret (ty := .int) d_Fa_quarrelWithLater_36 rfl rfl ⟨_, _, rfl, rfl, H⟩
      · have H := H.2 c15
        refine b_iconst (v := (2 : Int32)) d_Fa_quarrelWithLater_31 (by decide) ?_
        refine b_goto (tgt := 36) d_Fa_quarrelWithLater_32 (by decide) ?_
        exact b_iret (ty := .int) d_Fa_quarrelWithLater_36 rfl rfl ⟨_, _, rfl, rfl, H⟩
theorem C_Fa_quarrelWithLater {S : XS} {Q : Int32 → St → Prop} (σ : St) (q0 : Nat) (q1 : Nat) (H : BW S m_Fa_quarrelWithLater 0 [some (.ref q0), some (.ref q1), none] [] (enc σ) (qI Q)) : CM S m_Fa_quarrelWithLater [.ref q0, .ref q1] (enc σ) (qI Q) := b_meth (by decide) (Nat.le_of_ble_eq_true rfl) rfl H
