/-! addDraft -/
set_option maxRecDepth 100000 in
theorem nw_Fs_addDraft_42 : xNw m_Fs_addDraft 11 3 [.long 0, .int 0, .long 0, .int 0, .int 0, .int 0, .int 0] := ⟨xR_Fa, xT_Fa, xY_Fa, rfl, gt_in 180 (by decide +kernel) rfl, gt_in 182 (by decide +kernel) rfl, gt_in 8 (by decide +kernel) rfl, ok_Fa, fun K j hj => by
  have hj : j < 7 := hj
  rcases (show j = 0 ∨ j = 1 ∨ j = 2 ∨ j = 3 ∨ j = 4 ∨ j = 5 ∨ j = 6 by omega) with rfl | rfl | rfl | rfl | rfl | rfl | rfl <;> rfl⟩
theorem d_Fs_addDraft_0 : decode m_Fs_addDraft.2.1 0 = .ok (.aload_n 0, 1) := by decide +kernel
theorem d_Fs_addDraft_1 : decode m_Fs_addDraft.2.1 1 = .ok (.getfield 39, 3) := by decide +kernel
theorem d_Fs_addDraft_4 : decode m_Fs_addDraft.2.1 4 = .ok (.bipush 60, 2) := by decide +kernel
theorem d_Fs_addDraft_6 : decode m_Fs_addDraft.2.1 6 = .ok (.if_icmp .lt 6, 3) := by decide +kernel
theorem d_Fs_addDraft_9 : decode m_Fs_addDraft.2.1 9 = .ok (.bipush (-2), 2) := by decide +kernel
theorem d_Fs_addDraft_11 : decode m_Fs_addDraft.2.1 11 = .ok (.ireturn, 1) := by decide +kernel
theorem d_Fs_addDraft_12 : decode m_Fs_addDraft.2.1 12 = .ok (.aload_n 0, 1) := by decide +kernel
theorem d_Fs_addDraft_13 : decode m_Fs_addDraft.2.1 13 = .ok (.getfield 25, 3) := by decide +kernel
theorem d_Fs_addDraft_16 : decode m_Fs_addDraft.2.1 16 = .ok (.iload_n 1, 1) := by decide +kernel
theorem d_Fs_addDraft_17 : decode m_Fs_addDraft.2.1 17 = .ok (.putfield 43, 3) := by decide +kernel
theorem d_Fs_addDraft_20 : decode m_Fs_addDraft.2.1 20 = .ok (.aload_n 0, 1) := by decide +kernel
theorem d_Fs_addDraft_21 : decode m_Fs_addDraft.2.1 21 = .ok (.getfield 25, 3) := by decide +kernel
theorem d_Fs_addDraft_24 : decode m_Fs_addDraft.2.1 24 = .ok (.iload_n 2, 1) := by decide +kernel
theorem d_Fs_addDraft_25 : decode m_Fs_addDraft.2.1 25 = .ok (.putfield 46, 3) := by decide +kernel
theorem d_Fs_addDraft_28 : decode m_Fs_addDraft.2.1 28 = .ok (.aload_n 0, 1) := by decide +kernel
theorem d_Fs_addDraft_29 : decode m_Fs_addDraft.2.1 29 = .ok (.getfield 13, 3) := by decide +kernel
theorem d_Fs_addDraft_32 : decode m_Fs_addDraft.2.1 32 = .ok (.aload_n 0, 1) := by decide +kernel
theorem d_Fs_addDraft_33 : decode m_Fs_addDraft.2.1 33 = .ok (.getfield 39, 3) := by decide +kernel
theorem d_Fs_addDraft_36 : decode m_Fs_addDraft.2.1 36 = .ok (.aload_n 0, 1) := by decide +kernel
theorem d_Fs_addDraft_37 : decode m_Fs_addDraft.2.1 37 = .ok (.getfield 25, 3) := by decide +kernel
theorem d_Fs_addDraft_40 : decode m_Fs_addDraft.2.1 40 = .ok (.aastore, 1) := by decide +kernel
theorem d_Fs_addDraft_41 : decode m_Fs_addDraft.2.1 41 = .ok (.aload_n 0, 1) := by decide +kernel
theorem d_Fs_addDraft_42 : decode m_Fs_addDraft.2.1 42 = .ok (.new 11, 3) := by decide +kernel
theorem d_Fs_addDraft_45 : decode m_Fs_addDraft.2.1 45 = .ok (.dup, 1) := by decide +kernel
theorem d_Fs_addDraft_46 : decode m_Fs_addDraft.2.1 46 = .ok (.invokespecial 24, 3) := by decide +kernel
theorem d_Fs_addDraft_49 : decode m_Fs_addDraft.2.1 49 = .ok (.putfield 25, 3) := by decide +kernel
theorem d_Fs_addDraft_52 : decode m_Fs_addDraft.2.1 52 = .ok (.aload_n 0, 1) := by decide +kernel
theorem d_Fs_addDraft_53 : decode m_Fs_addDraft.2.1 53 = .ok (.dup, 1) := by decide +kernel
theorem d_Fs_addDraft_54 : decode m_Fs_addDraft.2.1 54 = .ok (.getfield 39, 3) := by decide +kernel
theorem d_Fs_addDraft_57 : decode m_Fs_addDraft.2.1 57 = .ok (.iconst 1, 1) := by decide +kernel
theorem d_Fs_addDraft_58 : decode m_Fs_addDraft.2.1 58 = .ok (.iadd, 1) := by decide +kernel
theorem d_Fs_addDraft_59 : decode m_Fs_addDraft.2.1 59 = .ok (.putfield 39, 3) := by decide +kernel
theorem d_Fs_addDraft_62 : decode m_Fs_addDraft.2.1 62 = .ok (.aload_n 0, 1) := by decide +kernel
theorem d_Fs_addDraft_63 : decode m_Fs_addDraft.2.1 63 = .ok (.getfield 39, 3) := by decide +kernel
theorem d_Fs_addDraft_66 : decode m_Fs_addDraft.2.1 66 = .ok (.iconst 1, 1) := by decide +kernel
theorem d_Fs_addDraft_67 : decode m_Fs_addDraft.2.1 67 = .ok (.isub, 1) := by decide +kernel
theorem d_Fs_addDraft_68 : decode m_Fs_addDraft.2.1 68 = .ok (.ireturn, 1) := by decide +kernel
set_option maxHeartbeats 4000000 in
set_option maxRecDepth 100000 in
theorem B_Fs_addDraft_0 {S : XS} {Q : Int32 → St → Prop} (σ : St) (x1 : Int32) (x2 : Int32) (H : (((gX σ 15) < (60 : Int32) → (isFa σ (gf σ)) ∧ (isFa (stI σ (gf σ) 4 x1) (gf σ)) ∧ (isFa (stI (stI σ (gf σ) 4 x1) (gf σ) 5 x2) (gf σ)) ∧ (vp_in (gX σ 15) 60) ∧ CM S m_Fa_init [.ref (185 + gn σ)] (enc (sM (sF (stI (stI σ (gf σ) 4 x1) (gf σ) 5 x2) (va_up (gF σ) (gX σ 15).toNatClampNeg (some (gf σ)))) (.inr (3, [.long 0, .int 0, .long 0, .int 0, .int 0, .int 0, .int 0])))) (qV (fun τ6 => Q (((gX τ6 15) + (1 : Int32)) - (1 : Int32)) (sX (sf τ6 (185 + gn σ)) 15 ((gX τ6 15) + (1 : Int32)))))) ∧ (¬ (gX σ 15) < (60 : Int32) → Q (-2 : Int32) σ))) : BW S m_Fs_addDraft 0 [some (.ref 134), some (.int x1), some (.int x2)] [] (enc σ) (qI Q) := by
  refine b_aload_n d_Fs_addDraft_0 rfl rfl ?_
  refine b_getf (v := .int (gX σ 15)) d_Fs_addDraft_1 fl_Fs_39 (eg_134 σ) rfl ?_
  refine b_bipush (v := (60 : Int32)) d_Fs_addDraft_4 (by decide) ?_
  refine b_icmp_lt (tgt := 12) d_Fs_addDraft_6 (by decide) (fun c7 => ?_) (fun c7 => ?_)
  · have H := H.1 c7
    refine b_aload_n d_Fs_addDraft_12 rfl rfl ?_
    refine b_getf (v := .ref (gf σ)) d_Fs_addDraft_13 fl_Fs_25 (eg_134 σ) rfl ?_
    refine b_iload_n d_Fs_addDraft_16 rfl rfl ?_
    obtain ⟨h1, H⟩ := H
    refine b_putfN (ty := .int) (h1 := enc (stI σ (gf σ) 4 x1)) d_Fs_addDraft_17 fn_Fs_43 ft_3_4 (fun _ => ⟨rfl, rfl⟩) (eF σ h1) (Nat.le_of_ble_eq_true rfl) (eFI σ h1 4 x1) ?_
    refine b_aload_n d_Fs_addDraft_20 rfl rfl ?_
    refine b_getf (v := .ref (gf σ)) d_Fs_addDraft_21 fl_Fs_25 (eg_134 (stI σ (gf σ) 4 x1)) rfl ?_
    refine b_iload_n d_Fs_addDraft_24 rfl rfl ?_
    obtain ⟨h2, H⟩ := H
    refine b_putfN (ty := .int) (h1 := enc (stI (stI σ (gf σ) 4 x1) (gf σ) 5 x2)) d_Fs_addDraft_25 fn_Fs_46 ft_3_5 (fun _ => ⟨rfl, rfl⟩) (eF (stI σ (gf σ) 4 x1) h2) (Nat.le_of_ble_eq_true rfl) (eFI (stI σ (gf σ) 4 x1) h2 5 x2) ?_
    refine b_aload_n d_Fs_addDraft_28 rfl rfl ?_
    refine b_getf (v := .ref 135) d_Fs_addDraft_29 fl_Fs_13 (eg_134 (stI (stI σ (gf σ) 4 x1) (gf σ) 5 x2)) rfl ?_
    refine b_aload_n d_Fs_addDraft_32 rfl rfl ?_
    refine b_getf (v := .int (gX σ 15)) d_Fs_addDraft_33 fl_Fs_39 (eg_134 (stI (stI σ (gf σ) 4 x1) (gf σ) 5 x2)) rfl ?_
    refine b_aload_n d_Fs_addDraft_36 rfl rfl ?_
    refine b_getf (v := .ref (gf σ)) d_Fs_addDraft_37 fl_Fs_25 (eg_134 (stI (stI σ (gf σ) 4 x1) (gf σ) 5 x2)) rfl ?_
    obtain ⟨h3, H⟩ := H
    obtain ⟨h4, H⟩ := H
    refine b_aast (h1 := enc (sF (stI (stI σ (gf σ) 4 x1) (gf σ) 5 x2) (va_up (gF σ) (gX σ 15).toNatClampNeg (some (gf σ))))) d_Fs_addDraft_40 (eg_135 (stI (stI σ (gf σ) 4 x1) (gf σ) 5 x2)) (eF (stI (stI σ (gf σ) 4 x1) (gf σ) 5 x2) h3) (by decide) h4 (es_135 (stI (stI σ (gf σ) 4 x1) (gf σ) 5 x2) (va_up (gF σ) (gX σ 15).toNatClampNeg (some (gf σ)))) ?_
    refine b_aload_n d_Fs_addDraft_41 rfl rfl ?_
    refine b_new (ci := 3) (q := (185 + gn σ)) (h1 := enc (sM (sF (stI (stI σ (gf σ) 4 x1) (gf σ) 5 x2) (va_up (gF σ) (gX σ 15).toNatClampNeg (some (gf σ)))) (.inr (3, [.long 0, .int 0, .long 0, .int 0, .int 0, .int 0, .int 0])))) d_Fs_addDraft_42 nw_Fs_addDraft_42 (enc_len (sF (stI (stI σ (gf σ) 4 x1) (gf σ) 5 x2) (va_up (gF σ) (gX σ 15).toNatClampNeg (some (gf σ))))) (esm (sF (stI (stI σ (gf σ) 4 x1) (gf σ) 5 x2) (va_up (gF σ) (gX σ 15).toNatClampNeg (some (gf σ)))) _) ?_
    refine b_dup d_Fs_addDraft_45 rfl ?_
    refine b_callINv (Mc := m_Fa_init) (As := []) (st := [.ref (185 + gn σ), .ref 134]) d_Fs_addDraft_46 ⟨⟨kA_Fa_init.1, kA_Fa_init.2.1, kA_Fa_init.2.2, by decide⟩, mn_Fs_24, kI_Fa_init⟩ rfl rfl (Nat.le_of_ble_eq_true rfl) H (fun τ6 H => ?_)
    refine b_putf (ty := (.object "TaleHouse$Fact")) (h1 := enc (sf τ6 (185 + gn σ))) d_Fs_addDraft_49 fl_Fs_25 ft_4_3 (fun _ => ⟨rfl, rfl⟩) (eg_134 τ6) (Nat.le_of_ble_eq_true rfl) (es_134_3 τ6 (185 + gn σ)) ?_
    refine b_aload_n d_Fs_addDraft_52 rfl rfl ?_
    refine b_dup d_Fs_addDraft_53 rfl ?_
    refine b_getf (v := .int (gX τ6 15)) d_Fs_addDraft_54 fl_Fs_39 (eg_134 (sf τ6 (185 + gn σ))) rfl ?_
    refine b_iconst (v := (1 : Int32)) d_Fs_addDraft_57 (by decide) ?_
    refine b_iadd d_Fs_addDraft_58  ?_
    refine b_putf (ty := .int) (h1 := enc (sX (sf τ6 (185 + gn σ)) 15 ((gX τ6 15) + (1 : Int32)))) d_Fs_addDraft_59 fl_Fs_39 ft_4_4 (fun _ => ⟨rfl, rfl⟩) (eg_134 (sf τ6 (185 + gn σ))) (Nat.le_of_ble_eq_true rfl) (es_134_4 (sf τ6 (185 + gn σ)) ((gX τ6 15) + (1 : Int32))) ?_
    refine b_aload_n d_Fs_addDraft_62 rfl rfl ?_
    refine b_getf (v := .int ((gX τ6 15) + (1 : Int32))) d_Fs_addDraft_63 fl_Fs_39 (eg_134 (sX (sf τ6 (185 + gn σ)) 15 ((gX τ6 15) + (1 : Int32)))) rfl ?_
    refine b_iconst (v := (1 : Int32)) d_Fs_addDraft_66 (by decide) ?_
    refine b_isub d_Fs_addDraft_67  ?_
    exact b_iret (ty := .int) d_Fs_addDraft_68 rfl rfl ⟨_, _, rfl, rfl, H⟩
  · have H := H.2 c7
    refine b_bipush (v := (-2 : Int32)) d_Fs_addDraft_9 (by decide) ?_
    exact b_iret (ty := .int) d_Fs_addDraft_11 rfl rfl ⟨_, _, rfl, rfl, H⟩
theorem C_Fs_addDraft {S : XS} {Q : Int32 → St → Prop} (σ : St) (x1 : Int32) (x2 : Int32) (H : BW S m_Fs_addDraft 0 [some (.ref 134), some (.int x1), some (.int x2)] [] (enc σ) (qI Q)) : CM S m_Fs_addDraft [.ref 134, .int x1, .int x2] (enc σ) (qI Q) := b_meth (by decide) (Nat.le_of_ble_eq_true rfl) rfl H
set_option maxRecDepth 100000 in
theorem nw_As_addDraft_34 : xNw m_As_addDraft 11 0 [.null, .null, .int 0, .int 0, .int 0] := ⟨xR_Ag, xT_Ag, xY_Ag, rfl, gt_in 236 (by decide +kernel) rfl, gt_in 238 (by decide +kernel) rfl, gt_in 10 (by decide +kernel) rfl, ok_Ag, fun K j hj => by
  have hj : j < 5 := hj
  rcases (show j = 0 ∨ j = 1 ∨ j = 2 ∨ j = 3 ∨ j = 4 by omega) with rfl | rfl | rfl | rfl | rfl <;> rfl⟩
theorem d_As_addDraft_0 : decode m_As_addDraft.2.1 0 = .ok (.aload_n 0, 1) := by decide +kernel
theorem d_As_addDraft_1 : decode m_As_addDraft.2.1 1 = .ok (.getfield 32, 3) := by decide +kernel
theorem d_As_addDraft_4 : decode m_As_addDraft.2.1 4 = .ok (.bipush 12, 2) := by decide +kernel
theorem d_As_addDraft_6 : decode m_As_addDraft.2.1 6 = .ok (.if_icmp .lt 6, 3) := by decide +kernel
theorem d_As_addDraft_9 : decode m_As_addDraft.2.1 9 = .ok (.bipush (-2), 2) := by decide +kernel
theorem d_As_addDraft_11 : decode m_As_addDraft.2.1 11 = .ok (.ireturn, 1) := by decide +kernel
theorem d_As_addDraft_12 : decode m_As_addDraft.2.1 12 = .ok (.aload_n 0, 1) := by decide +kernel
theorem d_As_addDraft_13 : decode m_As_addDraft.2.1 13 = .ok (.getfield 18, 3) := by decide +kernel
theorem d_As_addDraft_16 : decode m_As_addDraft.2.1 16 = .ok (.iload_n 1, 1) := by decide +kernel
theorem d_As_addDraft_17 : decode m_As_addDraft.2.1 17 = .ok (.putfield 36, 3) := by decide +kernel
theorem d_As_addDraft_20 : decode m_As_addDraft.2.1 20 = .ok (.aload_n 0, 1) := by decide +kernel
theorem d_As_addDraft_21 : decode m_As_addDraft.2.1 21 = .ok (.getfield 13, 3) := by decide +kernel
theorem d_As_addDraft_24 : decode m_As_addDraft.2.1 24 = .ok (.aload_n 0, 1) := by decide +kernel
theorem d_As_addDraft_25 : decode m_As_addDraft.2.1 25 = .ok (.getfield 32, 3) := by decide +kernel
theorem d_As_addDraft_28 : decode m_As_addDraft.2.1 28 = .ok (.aload_n 0, 1) := by decide +kernel
theorem d_As_addDraft_29 : decode m_As_addDraft.2.1 29 = .ok (.getfield 18, 3) := by decide +kernel
theorem d_As_addDraft_32 : decode m_As_addDraft.2.1 32 = .ok (.aastore, 1) := by decide +kernel
theorem d_As_addDraft_33 : decode m_As_addDraft.2.1 33 = .ok (.aload_n 0, 1) := by decide +kernel
theorem d_As_addDraft_34 : decode m_As_addDraft.2.1 34 = .ok (.new 11, 3) := by decide +kernel
theorem d_As_addDraft_37 : decode m_As_addDraft.2.1 37 = .ok (.dup, 1) := by decide +kernel
theorem d_As_addDraft_38 : decode m_As_addDraft.2.1 38 = .ok (.invokespecial 17, 3) := by decide +kernel
theorem d_As_addDraft_41 : decode m_As_addDraft.2.1 41 = .ok (.putfield 18, 3) := by decide +kernel
theorem d_As_addDraft_44 : decode m_As_addDraft.2.1 44 = .ok (.aload_n 0, 1) := by decide +kernel
theorem d_As_addDraft_45 : decode m_As_addDraft.2.1 45 = .ok (.dup, 1) := by decide +kernel
theorem d_As_addDraft_46 : decode m_As_addDraft.2.1 46 = .ok (.getfield 32, 3) := by decide +kernel
theorem d_As_addDraft_49 : decode m_As_addDraft.2.1 49 = .ok (.iconst 1, 1) := by decide +kernel
theorem d_As_addDraft_50 : decode m_As_addDraft.2.1 50 = .ok (.iadd, 1) := by decide +kernel
theorem d_As_addDraft_51 : decode m_As_addDraft.2.1 51 = .ok (.putfield 32, 3) := by decide +kernel
theorem d_As_addDraft_54 : decode m_As_addDraft.2.1 54 = .ok (.aload_n 0, 1) := by decide +kernel
theorem d_As_addDraft_55 : decode m_As_addDraft.2.1 55 = .ok (.getfield 32, 3) := by decide +kernel
theorem d_As_addDraft_58 : decode m_As_addDraft.2.1 58 = .ok (.iconst 1, 1) := by decide +kernel
theorem d_As_addDraft_59 : decode m_As_addDraft.2.1 59 = .ok (.isub, 1) := by decide +kernel
theorem d_As_addDraft_60 : decode m_As_addDraft.2.1 60 = .ok (.ireturn, 1) := by decide +kernel
set_option maxHeartbeats 4000000 in
set_option maxRecDepth 100000 in
theorem B_As_addDraft_0 {S : XS} {Q : Int32 → St → Prop} (σ : St) (x1 : Int32) (H : (((gX σ 17) < (12 : Int32) → (isAg σ (gg σ)) ∧ (isAg (stI σ (gg σ) 4 x1) (gg σ)) ∧ (vp_in (gX σ 17) 12) ∧ CM S m_Ag_init [.ref (185 + gn σ)] (enc (sM (sG (stI σ (gg σ) 4 x1) (va_up (gG σ) (gX σ 17).toNatClampNeg (some (gg σ)))) (.inr (0, [.null, .null, .int 0, .int 0, .int 0])))) (qV (fun τ5 => Q (((gX τ5 17) + (1 : Int32)) - (1 : Int32)) (sX (sg τ5 (185 + gn σ)) 17 ((gX τ5 17) + (1 : Int32)))))) ∧ (¬ (gX σ 17) < (12 : Int32) → Q (-2 : Int32) σ))) : BW S m_As_addDraft 0 [some (.ref 139), some (.int x1)] [] (enc σ) (qI Q) := by
  refine b_aload_n d_As_addDraft_0 rfl rfl ?_
  refine b_getf (v := .int (gX σ 17)) d_As_addDraft_1 fl_As_32 (eg_139 σ) rfl ?_
  refine b_bipush (v := (12 : Int32)) d_As_addDraft_4 (by decide) ?_
  refine b_icmp_lt (tgt := 12) d_As_addDraft_6 (by decide) (fun c6 => ?_) (fun c6 => ?_)
  · have H := H.1 c6
    refine b_aload_n d_As_addDraft_12 rfl rfl ?_
    refine b_getf (v := .ref (gg σ)) d_As_addDraft_13 fl_As_18 (eg_139 σ) rfl ?_
    refine b_iload_n d_As_addDraft_16 rfl rfl ?_
    obtain ⟨h1, H⟩ := H
    refine b_putfN (ty := .int) (h1 := enc (stI σ (gg σ) 4 x1)) d_As_addDraft_17 fn_As_36 ft_0_4 (fun _ => ⟨rfl, rfl⟩) (eA σ h1) (Nat.le_of_ble_eq_true rfl) (eAI σ h1 4 x1) ?_
    refine b_aload_n d_As_addDraft_20 rfl rfl ?_
    refine b_getf (v := .ref 140) d_As_addDraft_21 fl_As_13 (eg_139 (stI σ (gg σ) 4 x1)) rfl ?_
    refine b_aload_n d_As_addDraft_24 rfl rfl ?_
    refine b_getf (v := .int (gX σ 17)) d_As_addDraft_25 fl_As_32 (eg_139 (stI σ (gg σ) 4 x1)) rfl ?_
    refine b_aload_n d_As_addDraft_28 rfl rfl ?_
    refine b_getf (v := .ref (gg σ)) d_As_addDraft_29 fl_As_18 (eg_139 (stI σ (gg σ) 4 x1)) rfl ?_
    obtain ⟨h2, H⟩ := H
    obtain ⟨h3, H⟩ := H
    refine b_aast (h1 := enc (sG (stI σ (gg σ) 4 x1) (va_up (gG σ) (gX σ 17).toNatClampNeg (some (gg σ))))) d_As_addDraft_32 (eg_140 (stI σ (gg σ) 4 x1)) (eA (stI σ (gg σ) 4 x1) h2) (by decide) h3 (es_140 (stI σ (gg σ) 4 x1) (va_up (gG σ) (gX σ 17).toNatClampNeg (some (gg σ)))) ?_
    refine b_aload_n d_As_addDraft_33 rfl rfl ?_
    refine b_new (ci := 0) (q := (185 + gn σ)) (h1 := enc (sM (sG (stI σ (gg σ) 4 x1) (va_up (gG σ) (gX σ 17).toNatClampNeg (some (gg σ)))) (.inr (0, [.null, .null, .int 0, .int 0, .int 0])))) d_As_addDraft_34 nw_As_addDraft_34 (enc_len (sG (stI σ (gg σ) 4 x1) (va_up (gG σ) (gX σ 17).toNatClampNeg (some (gg σ))))) (esm (sG (stI σ (gg σ) 4 x1) (va_up (gG σ) (gX σ 17).toNatClampNeg (some (gg σ)))) _) ?_
    refine b_dup d_As_addDraft_37 rfl ?_
    refine b_callINv (Mc := m_Ag_init) (As := []) (st := [.ref (185 + gn σ), .ref 139]) d_As_addDraft_38 ⟨⟨kA_Ag_init.1, kA_Ag_init.2.1, kA_Ag_init.2.2, by decide⟩, mn_As_17, kI_Ag_init⟩ rfl rfl (Nat.le_of_ble_eq_true rfl) H (fun τ5 H => ?_)
    refine b_putf (ty := (.object "TaleHouse$Agreement")) (h1 := enc (sg τ5 (185 + gn σ))) d_As_addDraft_41 fl_As_18 ft_1_1 (fun _ => ⟨rfl, rfl⟩) (eg_139 τ5) (Nat.le_of_ble_eq_true rfl) (es_139_1 τ5 (185 + gn σ)) ?_
    refine b_aload_n d_As_addDraft_44 rfl rfl ?_
    refine b_dup d_As_addDraft_45 rfl ?_
    refine b_getf (v := .int (gX τ5 17)) d_As_addDraft_46 fl_As_32 (eg_139 (sg τ5 (185 + gn σ))) rfl ?_
    refine b_iconst (v := (1 : Int32)) d_As_addDraft_49 (by decide) ?_
    refine b_iadd d_As_addDraft_50  ?_
    refine b_putf (ty := .int) (h1 := enc (sX (sg τ5 (185 + gn σ)) 17 ((gX τ5 17) + (1 : Int32)))) d_As_addDraft_51 fl_As_32 ft_1_2 (fun _ => ⟨rfl, rfl⟩) (eg_139 (sg τ5 (185 + gn σ))) (Nat.le_of_ble_eq_true rfl) (es_139_2 (sg τ5 (185 + gn σ)) ((gX τ5 17) + (1 : Int32))) ?_
    refine b_aload_n d_As_addDraft_54 rfl rfl ?_
    refine b_getf (v := .int ((gX τ5 17) + (1 : Int32))) d_As_addDraft_55 fl_As_32 (eg_139 (sX (sg τ5 (185 + gn σ)) 17 ((gX τ5 17) + (1 : Int32)))) rfl ?_
    refine b_iconst (v := (1 : Int32)) d_As_addDraft_58 (by decide) ?_
    refine b_isub d_As_addDraft_59  ?_
    exact b_iret (ty := .int) d_As_addDraft_60 rfl rfl ⟨_, _, rfl, rfl, H⟩
  · have H := H.2 c6
    refine b_bipush (v := (-2 : Int32)) d_As_addDraft_9 (by decide) ?_
    exact b_iret (ty := .int) d_As_addDraft_11 rfl rfl ⟨_, _, rfl, rfl, H⟩
theorem C_As_addDraft {S : XS} {Q : Int32 → St → Prop} (σ : St) (x1 : Int32) (H : BW S m_As_addDraft 0 [some (.ref 139), some (.int x1)] [] (enc σ) (qI Q)) : CM S m_As_addDraft [.ref 139, .int x1] (enc σ) (qI Q) := b_meth (by decide) (Nat.le_of_ble_eq_true rfl) rfl H
