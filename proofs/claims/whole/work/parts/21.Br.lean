/-! block rules, by program -/
theorem d_Br_weigh_0 : decode m_Br_weigh.2.1 0 = .ok (.aload_n 0, 1) := by decide +kernel
theorem d_Br_weigh_1 : decode m_Br_weigh.2.1 1 = .ok (.aload_n 1, 1) := by decide +kernel
theorem d_Br_weigh_2 : decode m_Br_weigh.2.1 2 = .ok (.putfield 16, 3) := by decide +kernel
theorem d_Br_weigh_5 : decode m_Br_weigh.2.1 5 = .ok (.aload_n 0, 1) := by decide +kernel
theorem d_Br_weigh_6 : decode m_Br_weigh.2.1 6 = .ok (.iload_n 2, 1) := by decide +kernel
theorem d_Br_weigh_7 : decode m_Br_weigh.2.1 7 = .ok (.ifCond .lt 9, 3) := by decide +kernel
theorem d_Br_weigh_10 : decode m_Br_weigh.2.1 10 = .ok (.iload_n 2, 1) := by decide +kernel
theorem d_Br_weigh_11 : decode m_Br_weigh.2.1 11 = .ok (.bipush 30, 2) := by decide +kernel
theorem d_Br_weigh_13 : decode m_Br_weigh.2.1 13 = .ok (.if_icmp .le 7, 3) := by decide +kernel
theorem d_Br_weigh_16 : decode m_Br_weigh.2.1 16 = .ok (.iconst 0, 1) := by decide +kernel
theorem d_Br_weigh_17 : decode m_Br_weigh.2.1 17 = .ok (.goto 4, 3) := by decide +kernel
theorem d_Br_weigh_20 : decode m_Br_weigh.2.1 20 = .ok (.iload_n 2, 1) := by decide +kernel
theorem d_Br_weigh_21 : decode m_Br_weigh.2.1 21 = .ok (.putfield 20, 3) := by decide +kernel
theorem d_Br_weigh_24 : decode m_Br_weigh.2.1 24 = .ok (.aload_n 0, 1) := by decide +kernel
theorem d_Br_weigh_25 : decode m_Br_weigh.2.1 25 = .ok (.iload_n 3, 1) := by decide +kernel
theorem d_Br_weigh_26 : decode m_Br_weigh.2.1 26 = .ok (.putfield 24, 3) := by decide +kernel
theorem d_Br_weigh_29 : decode m_Br_weigh.2.1 29 = .ok (.iconst 0, 1) := by decide +kernel
theorem d_Br_weigh_30 : decode m_Br_weigh.2.1 30 = .ok (.istore 4, 2) := by decide +kernel
theorem d_Br_weigh_32 : decode m_Br_weigh.2.1 32 = .ok (.iload 4, 2) := by decide +kernel
theorem d_Br_weigh_34 : decode m_Br_weigh.2.1 34 = .ok (.aload_n 0, 1) := by decide +kernel
theorem d_Br_weigh_35 : decode m_Br_weigh.2.1 35 = .ok (.getfield 20, 3) := by decide +kernel
theorem d_Br_weigh_38 : decode m_Br_weigh.2.1 38 = .ok (.if_icmp .gt 21, 3) := by decide +kernel
theorem d_Br_weigh_41 : decode m_Br_weigh.2.1 41 = .ok (.aload_n 0, 1) := by decide +kernel
theorem d_Br_weigh_42 : decode m_Br_weigh.2.1 42 = .ok (.getfield 11, 3) := by decide +kernel
theorem d_Br_weigh_45 : decode m_Br_weigh.2.1 45 = .ok (.iload 4, 2) := by decide +kernel
theorem d_Br_weigh_47 : decode m_Br_weigh.2.1 47 = .ok (.aaload, 1) := by decide +kernel
theorem d_Br_weigh_48 : decode m_Br_weigh.2.1 48 = .ok (.ldc 27, 2) := by decide +kernel
theorem d_Br_weigh_50 : decode m_Br_weigh.2.1 50 = .ok (.invokestatic 28, 3) := by decide +kernel
theorem d_Br_weigh_53 : decode m_Br_weigh.2.1 53 = .ok (.iinc 4 1, 3) := by decide +kernel
theorem d_Br_weigh_56 : decode m_Br_weigh.2.1 56 = .ok (.goto (-24), 3) := by decide +kernel
theorem d_Br_weigh_59 : decode m_Br_weigh.2.1 59 = .ok (.aload_n 0, 1) := by decide +kernel
theorem d_Br_weigh_60 : decode m_Br_weigh.2.1 60 = .ok (.getfield 11, 3) := by decide +kernel
theorem d_Br_weigh_63 : decode m_Br_weigh.2.1 63 = .ok (.iconst 0, 1) := by decide +kernel
theorem d_Br_weigh_64 : decode m_Br_weigh.2.1 64 = .ok (.aaload, 1) := by decide +kernel
theorem d_Br_weigh_65 : decode m_Br_weigh.2.1 65 = .ok (.aload_n 0, 1) := by decide +kernel
theorem d_Br_weigh_66 : decode m_Br_weigh.2.1 66 = .ok (.getfield 20, 3) := by decide +kernel
theorem d_Br_weigh_69 : decode m_Br_weigh.2.1 69 = .ok (.iconst 0, 1) := by decide +kernel
theorem d_Br_weigh_70 : decode m_Br_weigh.2.1 70 = .ok (.iastore, 1) := by decide +kernel
theorem d_Br_weigh_71 : decode m_Br_weigh.2.1 71 = .ok (.iconst 1, 1) := by decide +kernel
theorem d_Br_weigh_72 : decode m_Br_weigh.2.1 72 = .ok (.istore 4, 2) := by decide +kernel
theorem d_Br_weigh_74 : decode m_Br_weigh.2.1 74 = .ok (.iload 4, 2) := by decide +kernel
theorem d_Br_weigh_76 : decode m_Br_weigh.2.1 76 = .ok (.aload_n 0, 1) := by decide +kernel
theorem d_Br_weigh_77 : decode m_Br_weigh.2.1 77 = .ok (.getfield 20, 3) := by decide +kernel
theorem d_Br_weigh_80 : decode m_Br_weigh.2.1 80 = .ok (.if_icmp .gt 38, 3) := by decide +kernel
theorem d_Br_weigh_83 : decode m_Br_weigh.2.1 83 = .ok (.iconst 0, 1) := by decide +kernel
theorem d_Br_weigh_84 : decode m_Br_weigh.2.1 84 = .ok (.istore 5, 2) := by decide +kernel
theorem d_Br_weigh_86 : decode m_Br_weigh.2.1 86 = .ok (.iload 5, 2) := by decide +kernel
theorem d_Br_weigh_88 : decode m_Br_weigh.2.1 88 = .ok (.aload_n 0, 1) := by decide +kernel
theorem d_Br_weigh_89 : decode m_Br_weigh.2.1 89 = .ok (.getfield 20, 3) := by decide +kernel
theorem d_Br_weigh_92 : decode m_Br_weigh.2.1 92 = .ok (.iload 4, 2) := by decide +kernel
theorem d_Br_weigh_94 : decode m_Br_weigh.2.1 94 = .ok (.isub, 1) := by decide +kernel
theorem d_Br_weigh_95 : decode m_Br_weigh.2.1 95 = .ok (.if_icmp .gt 17, 3) := by decide +kernel
theorem d_Br_weigh_98 : decode m_Br_weigh.2.1 98 = .ok (.aload_n 0, 1) := by decide +kernel
theorem d_Br_weigh_99 : decode m_Br_weigh.2.1 99 = .ok (.iload 4, 2) := by decide +kernel
theorem d_Br_weigh_101 : decode m_Br_weigh.2.1 101 = .ok (.iload 5, 2) := by decide +kernel
theorem d_Br_weigh_103 : decode m_Br_weigh.2.1 103 = .ok (.invokevirtual 34, 3) := by decide +kernel
theorem d_Br_weigh_106 : decode m_Br_weigh.2.1 106 = .ok (.iinc 5 1, 3) := by decide +kernel
theorem d_Br_weigh_109 : decode m_Br_weigh.2.1 109 = .ok (.goto (-23), 3) := by decide +kernel
theorem d_Br_weigh_112 : decode m_Br_weigh.2.1 112 = .ok (.iinc 4 1, 3) := by decide +kernel
theorem d_Br_weigh_115 : decode m_Br_weigh.2.1 115 = .ok (.goto (-41), 3) := by decide +kernel
theorem d_Br_weigh_118 : decode m_Br_weigh.2.1 118 = .ok (.return_, 1) := by decide +kernel
set_option maxHeartbeats 4000000 in
set_option maxRecDepth 100000 in
theorem B_Br_weigh_0 {S : XS} {Q : St → Prop} (σ : St) (p1 : Nat) (hp1 : p1 < 20) (x2 : Int32) (x3 : Int32) (H : ((x2 < 0 → BW S m_Br_weigh 32 [some (.ref 49), none, none, none, some (.int (0 : Int32)), none] [] (enc (sX (sX (sN σ (some p1)) 9 (0 : Int32)) 10 x3)) (qV Q)) ∧ (¬ x2 < 0 → ((x2 ≤ (30 : Int32) → BW S m_Br_weigh 32 [some (.ref 49), none, none, none, some (.int (0 : Int32)), none] [] (enc (sX (sX (sN σ (some p1)) 9 x2) 10 x3)) (qV Q)) ∧ (¬ x2 ≤ (30 : Int32) → BW S m_Br_weigh 32 [some (.ref 49), none, none, none, some (.int (0 : Int32)), none] [] (enc (sX (sX (sN σ (some p1)) 9 (0 : Int32)) 10 x3)) (qV Q)))))) : BW S m_Br_weigh 0 [some (.ref 49), some (.ref (7 + p1)), some (.int x2), some (.int x3), none, none] [] (enc σ) (qV Q) := by
  refine b_aload_n d_Br_weigh_0 rfl rfl ?_
  refine b_aload_n d_Br_weigh_1 rfl rfl ?_
  refine b_putf (ty := (.array .int)) (h1 := enc (sN σ (some p1))) d_Br_weigh_2 fl_Br_16 ft_2_1 (fun _ => ⟨rfl, rfl⟩) (eg_49 σ) (Nat.le_of_ble_eq_true rfl) (es_49_1 σ (some p1)) ?_
  refine b_aload_n d_Br_weigh_5 rfl rfl ?_
  refine b_iload_n d_Br_weigh_6 rfl rfl ?_
  refine b_if_lt (tgt := 16) d_Br_weigh_7 (by decide) (fun c2 => ?_) (fun c2 => ?_)
  · have H := H.1 c2
    refine b_iconst (v := (0 : Int32)) d_Br_weigh_16 (by decide) ?_
    refine b_goto (tgt := 21) d_Br_weigh_17 (by decide) ?_
    refine b_putf (ty := .int) (h1 := enc (sX (sN σ (some p1)) 9 (0 : Int32))) d_Br_weigh_21 fl_Br_20 ft_2_2 (fun _ => ⟨rfl, rfl⟩) (eg_49 (sN σ (some p1))) (Nat.le_of_ble_eq_true rfl) (es_49_2 (sN σ (some p1)) (0 : Int32)) ?_
    refine b_aload_n d_Br_weigh_24 rfl rfl ?_
    refine b_iload_n d_Br_weigh_25 rfl rfl ?_
    refine b_putf (ty := .int) (h1 := enc (sX (sX (sN σ (some p1)) 9 (0 : Int32)) 10 x3)) d_Br_weigh_26 fl_Br_24 ft_2_3 (fun _ => ⟨rfl, rfl⟩) (eg_49 (sX (sN σ (some p1)) 9 (0 : Int32))) (Nat.le_of_ble_eq_true rfl) (es_49_3 (sX (sN σ (some p1)) 9 (0 : Int32)) x3) ?_
    refine b_iconst (v := (0 : Int32)) d_Br_weigh_29 (by decide) ?_
    refine b_istore (ls' := [some (.ref 49), some (.ref (7 + p1)), some (.int x2), some (.int x3), some (.int (0 : Int32)), none]) d_Br_weigh_30 (Nat.le_of_ble_eq_true rfl) rfl ?_
    exact b_mask [true, false, false, false, true, true] rfl H
  · have H := H.2 c2
    refine b_iload_n d_Br_weigh_10 rfl rfl ?_
    refine b_bipush (v := (30 : Int32)) d_Br_weigh_11 (by decide) ?_
    refine b_icmp_le (tgt := 20) d_Br_weigh_13 (by decide) (fun c1 => ?_) (fun c1 => ?_)
    · have H := H.1 c1
      refine b_iload_n d_Br_weigh_20 rfl rfl ?_
      refine b_putf (ty := .int) (h1 := enc (sX (sN σ (some p1)) 9 x2)) d_Br_weigh_21 fl_Br_20 ft_2_2 (fun _ => ⟨rfl, rfl⟩) (eg_49 (sN σ (some p1))) (Nat.le_of_ble_eq_true rfl) (es_49_2 (sN σ (some p1)) x2) ?_
      refine b_aload_n d_Br_weigh_24 rfl rfl ?_
      refine b_iload_n d_Br_weigh_25 rfl rfl ?_
      refine b_putf (ty := .int) (h1 := enc (sX (sX (sN σ (some p1)) 9 x2) 10 x3)) d_Br_weigh_26 fl_Br_24 ft_2_3 (fun _ => ⟨rfl, rfl⟩) (eg_49 (sX (sN σ (some p1)) 9 x2)) (Nat.le_of_ble_eq_true rfl) (es_49_3 (sX (sN σ (some p1)) 9 x2) x3) ?_
      refine b_iconst (v := (0 : Int32)) d_Br_weigh_29 (by decide) ?_
      refine b_istore (ls' := [some (.ref 49), some (.ref (7 + p1)), some (.int x2), some (.int x3), some (.int (0 : Int32)), none]) d_Br_weigh_30 (Nat.le_of_ble_eq_true rfl) rfl ?_
      exact b_mask [true, false, false, false, true, true] rfl H
    · have H := H.2 c1
      refine b_iconst (v := (0 : Int32)) d_Br_weigh_16 (by decide) ?_
      refine b_goto (tgt := 21) d_Br_weigh_17 (by decide) ?_
      refine b_putf (ty := .int) (h1 := enc (sX (sN σ (some p1)) 9 (0 : Int32))) d_Br_weigh_21 fl_Br_20 ft_2_2 (fun _ => ⟨rfl, rfl⟩) (eg_49 (sN σ (some p1))) (Nat.le_of_ble_eq_true rfl) (es_49_2 (sN σ (some p1)) (0 : Int32)) ?_
      refine b_aload_n d_Br_weigh_24 rfl rfl ?_
      refine b_iload_n d_Br_weigh_25 rfl rfl ?_
      refine b_putf (ty := .int) (h1 := enc (sX (sX (sN σ (some p1)) 9 (0 : Int32)) 10 x3)) d_Br_weigh_26 fl_Br_24 ft_2_3 (fun _ => ⟨rfl, rfl⟩) (eg_49 (sX (sN σ (some p1)) 9 (0 : Int32))) (Nat.le_of_ble_eq_true rfl) (es_49_3 (sX (sN σ (some p1)) 9 (0 : Int32)) x3) ?_
      refine b_iconst (v := (0 : Int32)) d_Br_weigh_29 (by decide) ?_
      refine b_istore (ls' := [some (.ref 49), some (.ref (7 + p1)), some (.int x2), some (.int x3), some (.int (0 : Int32)), none]) d_Br_weigh_30 (Nat.le_of_ble_eq_true rfl) rfl ?_
      exact b_mask [true, false, false, false, true, true] rfl H
set_option maxHeartbeats 4000000 in
set_option maxRecDepth 100000 in
theorem B_Br_weigh_32 {S : XS} {Q : St → Prop} (σ : St) (x4 : Int32) (H : (((gX σ 9) < x4 → (vp_in (0 : Int32) 31) ∧ (vp_in (gX σ 9) 31) ∧ BW S m_Br_weigh 74 [some (.ref 49), none, none, none, some (.int (1 : Int32)), none] [] (enc (sB σ 2 ((0 : Int32).toNatClampNeg) (upd (gB σ 2 ((0 : Int32).toNatClampNeg)) (gX σ 9).toNatClampNeg (0 : Int32)))) (qV Q)) ∧ (¬ (gX σ 9) < x4 → (vp_in x4 31) ∧ CM S m_Ja_fill [.ref (51 + x4.toNatClampNeg), .int (1000000000 : Int32)] (enc σ) (qV (fun τ7 => BW S m_Br_weigh 32 [some (.ref 49), none, none, none, some (.int (x4 + (1 : Int32))), none] [] (enc τ7) (qV Q)))))) : BW S m_Br_weigh 32 [some (.ref 49), none, none, none, some (.int x4), none] [] (enc σ) (qV Q) := by
  refine b_iload d_Br_weigh_32 rfl ?_
  refine b_aload_n d_Br_weigh_34 rfl rfl ?_
  refine b_getf (v := .int (gX σ 9)) d_Br_weigh_35 fl_Br_20 (eg_49 σ) rfl ?_
  refine b_icmp_gt (tgt := 59) d_Br_weigh_38 (by decide) (fun c8 => ?_) (fun c8 => ?_)
  · have H := H.1 c8
    refine b_aload_n d_Br_weigh_59 rfl rfl ?_
    refine b_getf (v := .ref 50) d_Br_weigh_60 fl_Br_11 (eg_49 σ) rfl ?_
    refine b_iconst (v := (0 : Int32)) d_Br_weigh_63 (by decide) ?_
    obtain ⟨h3, H⟩ := H
    refine b_rowld d_Br_weigh_64 (eg_50 σ) h3 ?_
    refine b_aload_n d_Br_weigh_65 rfl rfl ?_
    refine b_getf (v := .int (gX σ 9)) d_Br_weigh_66 fl_Br_20 (eg_49 σ) rfl ?_
    refine b_iconst (v := (0 : Int32)) d_Br_weigh_69 (by decide) ?_
    obtain ⟨h4, H⟩ := H
    refine b_iast (h1 := enc (sB σ 2 ((0 : Int32).toNatClampNeg) (upd (gB σ 2 ((0 : Int32).toNatClampNeg)) (gX σ 9).toNatClampNeg (0 : Int32)))) (f := gB σ 2 ((0 : Int32).toNatClampNeg)) d_Br_weigh_70 (er2 σ (vp_lt h3)) h4 (et2 σ (vp_lt h3) (upd (gB σ 2 ((0 : Int32).toNatClampNeg)) (gX σ 9).toNatClampNeg (0 : Int32))) ?_
    refine b_iconst (v := (1 : Int32)) d_Br_weigh_71 (by decide) ?_
    refine b_istore (ls' := [some (.ref 49), none, none, none, some (.int (1 : Int32)), none]) d_Br_weigh_72 (Nat.le_of_ble_eq_true rfl) rfl ?_
    exact b_mask [true, true, true, true, true, true] rfl H
  · have H := H.2 c8
    refine b_aload_n d_Br_weigh_41 rfl rfl ?_
    refine b_getf (v := .ref 50) d_Br_weigh_42 fl_Br_11 (eg_49 σ) rfl ?_
    refine b_iload d_Br_weigh_45 rfl ?_
    obtain ⟨h5, H⟩ := H
    refine b_rowld d_Br_weigh_47 (eg_50 σ) h5 ?_
    refine b_ldc (v := (1000000000 : Int32)) d_Br_weigh_48 cn_Br_27 ?_
    refine b_callSv (Mc := m_Ja_fill) (As := [.ref (51 + x4.toNatClampNeg), .int (1000000000 : Int32)]) (st := []) d_Br_weigh_50 ⟨⟨kA_Ja_fill.1, kA_Ja_fill.2.1, kA_Ja_fill.2.2, by decide⟩, ml_Br_28, kS_Ja_fill⟩ rfl rfl (Nat.le_of_ble_eq_true rfl) H (fun τ7 H => ?_)
    refine b_iinc (v := (x4 + (1 : Int32))) (ls' := [some (.ref 49), none, none, none, some (.int (x4 + (1 : Int32))), none]) d_Br_weigh_53 rfl rfl (Nat.le_of_ble_eq_true rfl) rfl ?_
    refine b_goto (tgt := 32) d_Br_weigh_56 (by decide) ?_
    exact b_mask [true, true, true, true, true, true] rfl H
set_option maxHeartbeats 4000000 in
set_option maxRecDepth 100000 in
theorem B_Br_weigh_74 {S : XS} {Q : St → Prop} (σ : St) (x4 : Int32) (H : (((gX σ 9) < x4 → Q σ) ∧ (¬ (gX σ 9) < x4 → BW S m_Br_weigh 86 [some (.ref 49), none, none, none, some (.int x4), some (.int (0 : Int32))] [] (enc σ) (qV Q)))) : BW S m_Br_weigh 74 [some (.ref 49), none, none, none, some (.int x4), none] [] (enc σ) (qV Q) := by
  refine b_iload d_Br_weigh_74 rfl ?_
  refine b_aload_n d_Br_weigh_76 rfl rfl ?_
  refine b_getf (v := .int (gX σ 9)) d_Br_weigh_77 fl_Br_20 (eg_49 σ) rfl ?_
  refine b_icmp_gt (tgt := 118) d_Br_weigh_80 (by decide) (fun c9 => ?_) (fun c9 => ?_)
  · have H := H.1 c9
    exact b_vret d_Br_weigh_118 rfl ⟨_, rfl, rfl, H⟩
  · have H := H.2 c9
    refine b_iconst (v := (0 : Int32)) d_Br_weigh_83 (by decide) ?_
    refine b_istore (ls' := [some (.ref 49), none, none, none, some (.int x4), some (.int (0 : Int32))]) d_Br_weigh_84 (Nat.le_of_ble_eq_true rfl) rfl ?_
    exact b_mask [true, true, true, true, true, true] rfl H
set_option maxHeartbeats 4000000 in
set_option maxRecDepth 100000 in
theorem B_Br_weigh_86 {S : XS} {Q : St → Prop} (σ : St) (x4 : Int32) (x5 : Int32) (H : ((((gX σ 9) - x4) < x5 → BW S m_Br_weigh 74 [some (.ref 49), none, none, none, some (.int (x4 + (1 : Int32))), none] [] (enc σ) (qV Q)) ∧ (¬ ((gX σ 9) - x4) < x5 → CM S m_Br_weighRest [.ref 49, .int x4, .int x5] (enc σ) (qV (fun τ11 => BW S m_Br_weigh 86 [some (.ref 49), none, none, none, some (.int x4), some (.int (x5 + (1 : Int32)))] [] (enc τ11) (qV Q)))))) : BW S m_Br_weigh 86 [some (.ref 49), none, none, none, some (.int x4), some (.int x5)] [] (enc σ) (qV Q) := by
  refine b_iload d_Br_weigh_86 rfl ?_
  refine b_aload_n d_Br_weigh_88 rfl rfl ?_
  refine b_getf (v := .int (gX σ 9)) d_Br_weigh_89 fl_Br_20 (eg_49 σ) rfl ?_
  refine b_iload d_Br_weigh_92 rfl ?_
  refine b_isub d_Br_weigh_94  ?_
  refine b_icmp_gt (tgt := 112) d_Br_weigh_95 (by decide) (fun c12 => ?_) (fun c12 => ?_)
  · have H := H.1 c12
    refine b_iinc (v := (x4 + (1 : Int32))) (ls' := [some (.ref 49), none, none, none, some (.int (x4 + (1 : Int32))), some (.int x5)]) d_Br_weigh_112 rfl rfl (Nat.le_of_ble_eq_true rfl) rfl ?_
    refine b_goto (tgt := 74) d_Br_weigh_115 (by decide) ?_
    exact b_mask [true, true, true, true, true, false] rfl H
  · have H := H.2 c12
    refine b_aload_n d_Br_weigh_98 rfl rfl ?_
    refine b_iload d_Br_weigh_99 rfl ?_
    refine b_iload d_Br_weigh_101 rfl ?_
    refine b_callVv (Mc := m_Br_weighRest) (As := [.int x4, .int x5]) (st := []) d_Br_weigh_103 ⟨⟨kA_Br_weighRest.1, kA_Br_weighRest.2.1, kA_Br_weighRest.2.2, by decide⟩, ml_Br_34, kV_Br_weighRest⟩ (eg_49 σ) rfl rfl (Nat.le_of_ble_eq_true rfl) H (fun τ11 H => ?_)
    refine b_iinc (v := (x5 + (1 : Int32))) (ls' := [some (.ref 49), none, none, none, some (.int x4), some (.int (x5 + (1 : Int32)))]) d_Br_weigh_106 rfl rfl (Nat.le_of_ble_eq_true rfl) rfl ?_
    refine b_goto (tgt := 86) d_Br_weigh_109 (by decide) ?_
    exact b_mask [true, true, true, true, true, true] rfl H
theorem C_Br_weigh {S : XS} {Q : St → Prop} (σ : St) (p1 : Nat) (hp1 : p1 < 20) (x2 : Int32) (x3 : Int32) (H : BW S m_Br_weigh 0 [some (.ref 49), some (.ref (7 + p1)), some (.int x2), some (.int x3), none, none] [] (enc σ) (qV Q)) : CM S m_Br_weigh [.ref 49, .ref (7 + p1), .int x2, .int x3] (enc σ) (qV Q) := b_meth (by decide) (Nat.le_of_ble_eq_true rfl) rfl H
theorem d_Br_cost_0 : decode m_Br_cost.2.1 0 = .ok (.iload_n 1, 1) := by decide +kernel
theorem d_Br_cost_1 : decode m_Br_cost.2.1 1 = .ok (.ifCond .lt 11, 3) := by decide +kernel
theorem d_Br_cost_4 : decode m_Br_cost.2.1 4 = .ok (.iload_n 1, 1) := by decide +kernel
theorem d_Br_cost_5 : decode m_Br_cost.2.1 5 = .ok (.aload_n 0, 1) := by decide +kernel
theorem d_Br_cost_6 : decode m_Br_cost.2.1 6 = .ok (.getfield 20, 3) := by decide +kernel
theorem d_Br_cost_9 : decode m_Br_cost.2.1 9 = .ok (.if_icmp .le 8, 3) := by decide +kernel
theorem d_Br_cost_12 : decode m_Br_cost.2.1 12 = .ok (.ldc 27, 2) := by decide +kernel
theorem d_Br_cost_14 : decode m_Br_cost.2.1 14 = .ok (.goto 11, 3) := by decide +kernel
theorem d_Br_cost_17 : decode m_Br_cost.2.1 17 = .ok (.aload_n 0, 1) := by decide +kernel
theorem d_Br_cost_18 : decode m_Br_cost.2.1 18 = .ok (.getfield 11, 3) := by decide +kernel
theorem d_Br_cost_21 : decode m_Br_cost.2.1 21 = .ok (.iload_n 1, 1) := by decide +kernel
theorem d_Br_cost_22 : decode m_Br_cost.2.1 22 = .ok (.aaload, 1) := by decide +kernel
theorem d_Br_cost_23 : decode m_Br_cost.2.1 23 = .ok (.iconst 0, 1) := by decide +kernel
theorem d_Br_cost_24 : decode m_Br_cost.2.1 24 = .ok (.iaload, 1) := by decide +kernel
theorem d_Br_cost_25 : decode m_Br_cost.2.1 25 = .ok (.ireturn, 1) := by decide +kernel
set_option maxHeartbeats 4000000 in
set_option maxRecDepth 100000 in
theorem B_Br_cost_0 {S : XS} {Q : Int32 → St → Prop} (σ : St) (x1 : Int32) (H : ((x1 < 0 → Q (1000000000 : Int32) σ) ∧ (¬ x1 < 0 → ((x1 ≤ (gX σ 9) → (vp_in x1 31) ∧ (vp_in (0 : Int32) 31) ∧ Q (gB σ 2 x1.toNatClampNeg (0 : Int32).toNatClampNeg) σ) ∧ (¬ x1 ≤ (gX σ 9) → Q (1000000000 : Int32) σ))))) : BW S m_Br_cost 0 [some (.ref 49), some (.int x1)] [] (enc σ) (qI Q) := by
  refine b_iload_n d_Br_cost_0 rfl rfl ?_
  refine b_if_lt (tgt := 12) d_Br_cost_1 (by decide) (fun c4 => ?_) (fun c4 => ?_)
  · have H := H.1 c4
    refine b_ldc (v := (1000000000 : Int32)) d_Br_cost_12 cn_Br_27 ?_
    refine b_goto (tgt := 25) d_Br_cost_14 (by decide) ?_
    exact b_iret (ty := .int) d_Br_cost_25 rfl rfl ⟨_, _, rfl, rfl, H⟩
  · have H := H.2 c4
    refine b_iload_n d_Br_cost_4 rfl rfl ?_
    refine b_aload_n d_Br_cost_5 rfl rfl ?_
    refine b_getf (v := .int (gX σ 9)) d_Br_cost_6 fl_Br_20 (eg_49 σ) rfl ?_
    refine b_icmp_le (tgt := 17) d_Br_cost_9 (by decide) (fun c3 => ?_) (fun c3 => ?_)
    · have H := H.1 c3
      refine b_aload_n d_Br_cost_17 rfl rfl ?_
      refine b_getf (v := .ref 50) d_Br_cost_18 fl_Br_11 (eg_49 σ) rfl ?_
      refine b_iload_n d_Br_cost_21 rfl rfl ?_
      obtain ⟨h1, H⟩ := H
      refine b_rowld d_Br_cost_22 (eg_50 σ) h1 ?_
      refine b_iconst (v := (0 : Int32)) d_Br_cost_23 (by decide) ?_
      obtain ⟨h2, H⟩ := H
      refine b_iald (f := gB σ 2 x1.toNatClampNeg) d_Br_cost_24 (er2 σ (vp_lt h1)) h2 ?_
      refine b_st2 (st' := [.int (gB σ 2 x1.toNatClampNeg (0 : Int32).toNatClampNeg)]) rfl ?_
      exact b_iret (ty := .int) d_Br_cost_25 rfl rfl ⟨_, _, rfl, rfl, H⟩
    · have H := H.2 c3
      refine b_ldc (v := (1000000000 : Int32)) d_Br_cost_12 cn_Br_27 ?_
      refine b_goto (tgt := 25) d_Br_cost_14 (by decide) ?_
      exact b_iret (ty := .int) d_Br_cost_25 rfl rfl ⟨_, _, rfl, rfl, H⟩
theorem C_Br_cost {S : XS} {Q : Int32 → St → Prop} (σ : St) (x1 : Int32) (H : BW S m_Br_cost 0 [some (.ref 49), some (.int x1)] [] (enc σ) (qI Q)) : CM S m_Br_cost [.ref 49, .int x1] (enc σ) (qI Q) := b_meth (by decide) (Nat.le_of_ble_eq_true rfl) rfl H
theorem d_Br_wordsTaken_0 : decode m_Br_wordsTaken.2.1 0 = .ok (.iload_n 1, 1) := by decide +kernel
theorem d_Br_wordsTaken_1 : decode m_Br_wordsTaken.2.1 1 = .ok (.iconst 1, 1) := by decide +kernel
theorem d_Br_wordsTaken_2 : decode m_Br_wordsTaken.2.1 2 = .ok (.if_icmp .lt 22, 3) := by decide +kernel
theorem d_Br_wordsTaken_5 : decode m_Br_wordsTaken.2.1 5 = .ok (.iload_n 1, 1) := by decide +kernel
theorem d_Br_wordsTaken_6 : decode m_Br_wordsTaken.2.1 6 = .ok (.aload_n 0, 1) := by decide +kernel
theorem d_Br_wordsTaken_7 : decode m_Br_wordsTaken.2.1 7 = .ok (.getfield 20, 3) := by decide +kernel
theorem d_Br_wordsTaken_10 : decode m_Br_wordsTaken.2.1 10 = .ok (.if_icmp .gt 14, 3) := by decide +kernel
theorem d_Br_wordsTaken_13 : decode m_Br_wordsTaken.2.1 13 = .ok (.iload_n 2, 1) := by decide +kernel
theorem d_Br_wordsTaken_14 : decode m_Br_wordsTaken.2.1 14 = .ok (.ifCond .lt 10, 3) := by decide +kernel
theorem d_Br_wordsTaken_17 : decode m_Br_wordsTaken.2.1 17 = .ok (.aload_n 0, 1) := by decide +kernel
theorem d_Br_wordsTaken_18 : decode m_Br_wordsTaken.2.1 18 = .ok (.getfield 16, 3) := by decide +kernel
theorem d_Br_wordsTaken_21 : decode m_Br_wordsTaken.2.1 21 = .ok (.ifnonnull 5, 3) := by decide +kernel
theorem d_Br_wordsTaken_24 : decode m_Br_wordsTaken.2.1 24 = .ok (.iconst 0, 1) := by decide +kernel
theorem d_Br_wordsTaken_25 : decode m_Br_wordsTaken.2.1 25 = .ok (.ireturn, 1) := by decide +kernel
theorem d_Br_wordsTaken_26 : decode m_Br_wordsTaken.2.1 26 = .ok (.iconst 0, 1) := by decide +kernel
theorem d_Br_wordsTaken_27 : decode m_Br_wordsTaken.2.1 27 = .ok (.istore_n 3, 1) := by decide +kernel
theorem d_Br_wordsTaken_28 : decode m_Br_wordsTaken.2.1 28 = .ok (.iconst (-1), 1) := by decide +kernel
theorem d_Br_wordsTaken_29 : decode m_Br_wordsTaken.2.1 29 = .ok (.istore 4, 2) := by decide +kernel
theorem d_Br_wordsTaken_31 : decode m_Br_wordsTaken.2.1 31 = .ok (.iload_n 2, 1) := by decide +kernel
theorem d_Br_wordsTaken_32 : decode m_Br_wordsTaken.2.1 32 = .ok (.iconst 1, 1) := by decide +kernel
theorem d_Br_wordsTaken_33 : decode m_Br_wordsTaken.2.1 33 = .ok (.iadd, 1) := by decide +kernel
theorem d_Br_wordsTaken_34 : decode m_Br_wordsTaken.2.1 34 = .ok (.istore 5, 2) := by decide +kernel
theorem d_Br_wordsTaken_36 : decode m_Br_wordsTaken.2.1 36 = .ok (.iload 5, 2) := by decide +kernel
theorem d_Br_wordsTaken_38 : decode m_Br_wordsTaken.2.1 38 = .ok (.aload_n 0, 1) := by decide +kernel
theorem d_Br_wordsTaken_39 : decode m_Br_wordsTaken.2.1 39 = .ok (.getfield 20, 3) := by decide +kernel
theorem d_Br_wordsTaken_42 : decode m_Br_wordsTaken.2.1 42 = .ok (.if_icmp .gt 72, 3) := by decide +kernel
theorem d_Br_wordsTaken_45 : decode m_Br_wordsTaken.2.1 45 = .ok (.iload 5, 2) := by decide +kernel
theorem d_Br_wordsTaken_47 : decode m_Br_wordsTaken.2.1 47 = .ok (.aload_n 0, 1) := by decide +kernel
theorem d_Br_wordsTaken_48 : decode m_Br_wordsTaken.2.1 48 = .ok (.getfield 16, 3) := by decide +kernel
theorem d_Br_wordsTaken_51 : decode m_Br_wordsTaken.2.1 51 = .ok (.arraylength, 1) := by decide +kernel
theorem d_Br_wordsTaken_52 : decode m_Br_wordsTaken.2.1 52 = .ok (.if_icmp .gt 62, 3) := by decide +kernel
theorem d_Br_wordsTaken_55 : decode m_Br_wordsTaken.2.1 55 = .ok (.iload 4, 2) := by decide +kernel
theorem d_Br_wordsTaken_57 : decode m_Br_wordsTaken.2.1 57 = .ok (.iconst 1, 1) := by decide +kernel
theorem d_Br_wordsTaken_58 : decode m_Br_wordsTaken.2.1 58 = .ok (.aload_n 0, 1) := by decide +kernel
theorem d_Br_wordsTaken_59 : decode m_Br_wordsTaken.2.1 59 = .ok (.getfield 16, 3) := by decide +kernel
theorem d_Br_wordsTaken_62 : decode m_Br_wordsTaken.2.1 62 = .ok (.iload 5, 2) := by decide +kernel
theorem d_Br_wordsTaken_64 : decode m_Br_wordsTaken.2.1 64 = .ok (.iconst 1, 1) := by decide +kernel
theorem d_Br_wordsTaken_65 : decode m_Br_wordsTaken.2.1 65 = .ok (.isub, 1) := by decide +kernel
theorem d_Br_wordsTaken_66 : decode m_Br_wordsTaken.2.1 66 = .ok (.iaload, 1) := by decide +kernel
theorem d_Br_wordsTaken_67 : decode m_Br_wordsTaken.2.1 67 = .ok (.iadd, 1) := by decide +kernel
theorem d_Br_wordsTaken_68 : decode m_Br_wordsTaken.2.1 68 = .ok (.iadd, 1) := by decide +kernel
theorem d_Br_wordsTaken_69 : decode m_Br_wordsTaken.2.1 69 = .ok (.istore 4, 2) := by decide +kernel
theorem d_Br_wordsTaken_71 : decode m_Br_wordsTaken.2.1 71 = .ok (.iload 4, 2) := by decide +kernel
theorem d_Br_wordsTaken_73 : decode m_Br_wordsTaken.2.1 73 = .ok (.aload_n 0, 1) := by decide +kernel
theorem d_Br_wordsTaken_74 : decode m_Br_wordsTaken.2.1 74 = .ok (.getfield 24, 3) := by decide +kernel
theorem d_Br_wordsTaken_77 : decode m_Br_wordsTaken.2.1 77 = .ok (.if_icmp .le 6, 3) := by decide +kernel
theorem d_Br_wordsTaken_80 : decode m_Br_wordsTaken.2.1 80 = .ok (.goto 34, 3) := by decide +kernel
theorem d_Br_wordsTaken_83 : decode m_Br_wordsTaken.2.1 83 = .ok (.aload_n 0, 1) := by decide +kernel
theorem d_Br_wordsTaken_84 : decode m_Br_wordsTaken.2.1 84 = .ok (.iload_n 1, 1) := by decide +kernel
theorem d_Br_wordsTaken_85 : decode m_Br_wordsTaken.2.1 85 = .ok (.iload 5, 2) := by decide +kernel
theorem d_Br_wordsTaken_87 : decode m_Br_wordsTaken.2.1 87 = .ok (.iload 4, 2) := by decide +kernel
theorem d_Br_wordsTaken_89 : decode m_Br_wordsTaken.2.1 89 = .ok (.invokevirtual 38, 3) := by decide +kernel
theorem d_Br_wordsTaken_92 : decode m_Br_wordsTaken.2.1 92 = .ok (.aload_n 0, 1) := by decide +kernel
theorem d_Br_wordsTaken_93 : decode m_Br_wordsTaken.2.1 93 = .ok (.getfield 11, 3) := by decide +kernel
theorem d_Br_wordsTaken_96 : decode m_Br_wordsTaken.2.1 96 = .ok (.iload_n 1, 1) := by decide +kernel
theorem d_Br_wordsTaken_97 : decode m_Br_wordsTaken.2.1 97 = .ok (.aaload, 1) := by decide +kernel
theorem d_Br_wordsTaken_98 : decode m_Br_wordsTaken.2.1 98 = .ok (.iload_n 2, 1) := by decide +kernel
theorem d_Br_wordsTaken_99 : decode m_Br_wordsTaken.2.1 99 = .ok (.iaload, 1) := by decide +kernel
theorem d_Br_wordsTaken_100 : decode m_Br_wordsTaken.2.1 100 = .ok (.if_icmp .ne 8, 3) := by decide +kernel
theorem d_Br_wordsTaken_103 : decode m_Br_wordsTaken.2.1 103 = .ok (.iload 5, 2) := by decide +kernel
theorem d_Br_wordsTaken_105 : decode m_Br_wordsTaken.2.1 105 = .ok (.iload_n 2, 1) := by decide +kernel
theorem d_Br_wordsTaken_106 : decode m_Br_wordsTaken.2.1 106 = .ok (.isub, 1) := by decide +kernel
theorem d_Br_wordsTaken_107 : decode m_Br_wordsTaken.2.1 107 = .ok (.istore_n 3, 1) := by decide +kernel
theorem d_Br_wordsTaken_108 : decode m_Br_wordsTaken.2.1 108 = .ok (.iinc 5 1, 3) := by decide +kernel
theorem d_Br_wordsTaken_111 : decode m_Br_wordsTaken.2.1 111 = .ok (.goto (-75), 3) := by decide +kernel
theorem d_Br_wordsTaken_114 : decode m_Br_wordsTaken.2.1 114 = .ok (.iload_n 3, 1) := by decide +kernel
theorem d_Br_wordsTaken_115 : decode m_Br_wordsTaken.2.1 115 = .ok (.ireturn, 1) := by decide +kernel
set_option maxHeartbeats 4000000 in
set_option maxRecDepth 100000 in
theorem B_Br_wordsTaken_0 {S : XS} {Q : Int32 → St → Prop} (σ : St) (x1 : Int32) (x2 : Int32) (H : ((x1 < (1 : Int32) → Q (0 : Int32) σ) ∧ (¬ x1 < (1 : Int32) → (((gX σ 9) < x1 → Q (0 : Int32) σ) ∧ (¬ (gX σ 9) < x1 → ((x2 < 0 → Q (0 : Int32) σ) ∧ (¬ x2 < 0 → (((gN σ) = none → Q (0 : Int32) σ) ∧ (∀ p1, (gN σ) = some p1 → p1 < 20 ∧ BW S m_Br_wordsTaken 36 [some (.ref 49), some (.int x1), some (.int x2), some (.int (0 : Int32)), some (.int (-1 : Int32)), some (.int (x2 + (1 : Int32)))] [] (enc σ) (qI Q)))))))))) : BW S m_Br_wordsTaken 0 [some (.ref 49), some (.int x1), some (.int x2), none, none, none] [] (enc σ) (qI Q) := by
  refine b_iload_n d_Br_wordsTaken_0 rfl rfl ?_
  refine b_iconst (v := (1 : Int32)) d_Br_wordsTaken_1 (by decide) ?_
  refine b_icmp_lt (tgt := 24) d_Br_wordsTaken_2 (by decide) (fun c6 => ?_) (fun c6 => ?_)
  · have H := H.1 c6
    refine b_iconst (v := (0 : Int32)) d_Br_wordsTaken_24 (by decide) ?_
    exact b_iret (ty := .int) d_Br_wordsTaken_25 rfl rfl ⟨_, _, rfl, rfl, H⟩
  · have H := H.2 c6
    refine b_iload_n d_Br_wordsTaken_5 rfl rfl ?_
    refine b_aload_n d_Br_wordsTaken_6 rfl rfl ?_
    refine b_getf (v := .int (gX σ 9)) d_Br_wordsTaken_7 fl_Br_20 (eg_49 σ) rfl ?_
    refine b_icmp_gt (tgt := 24) d_Br_wordsTaken_10 (by decide) (fun c5 => ?_) (fun c5 => ?_)
    · have H := H.1 c5
      refine b_iconst (v := (0 : Int32)) d_Br_wordsTaken_24 (by decide) ?_
      exact b_iret (ty := .int) d_Br_wordsTaken_25 rfl rfl ⟨_, _, rfl, rfl, H⟩
    · have H := H.2 c5
      refine b_iload_n d_Br_wordsTaken_13 rfl rfl ?_
      refine b_if_lt (tgt := 24) d_Br_wordsTaken_14 (by decide) (fun c4 => ?_) (fun c4 => ?_)
      · have H := H.1 c4
        refine b_iconst (v := (0 : Int32)) d_Br_wordsTaken_24 (by decide) ?_
        exact b_iret (ty := .int) d_Br_wordsTaken_25 rfl rfl ⟨_, _, rfl, rfl, H⟩
      · have H := H.2 c4
        refine b_aload_n d_Br_wordsTaken_17 rfl rfl ?_
        refine b_getf (v := va_rf (xrw 7 (gN σ))) d_Br_wordsTaken_18 fl_Br_16 (eg_49 σ) rfl ?_
        rcases e2 : (gN σ) with _ | p1
        · have H := H.1 e2
          refine b_ifnonnullN d_Br_wordsTaken_21 ?_
          refine b_iconst (v := (0 : Int32)) d_Br_wordsTaken_24 (by decide) ?_
          exact b_iret (ty := .int) d_Br_wordsTaken_25 rfl rfl ⟨_, _, rfl, rfl, H⟩
        · have H := H.2 p1 e2
          obtain ⟨h3, H⟩ := H
          refine b_ifnonnull (tgt := 26) d_Br_wordsTaken_21 (by decide) ?_
          refine b_iconst (v := (0 : Int32)) d_Br_wordsTaken_26 (by decide) ?_
          refine b_istore_n (ls' := [some (.ref 49), some (.int x1), some (.int x2), some (.int (0 : Int32)), none, none]) d_Br_wordsTaken_27 rfl (Nat.le_of_ble_eq_true rfl) rfl ?_
          refine b_iconst (v := (-1 : Int32)) d_Br_wordsTaken_28 (by decide) ?_
          refine b_istore (ls' := [some (.ref 49), some (.int x1), some (.int x2), some (.int (0 : Int32)), some (.int (-1 : Int32)), none]) d_Br_wordsTaken_29 (Nat.le_of_ble_eq_true rfl) rfl ?_
          refine b_iload_n d_Br_wordsTaken_31 rfl rfl ?_
          refine b_iconst (v := (1 : Int32)) d_Br_wordsTaken_32 (by decide) ?_
          refine b_iadd d_Br_wordsTaken_33  ?_
          refine b_istore (ls' := [some (.ref 49), some (.int x1), some (.int x2), some (.int (0 : Int32)), some (.int (-1 : Int32)), some (.int (x2 + (1 : Int32)))]) d_Br_wordsTaken_34 (Nat.le_of_ble_eq_true rfl) rfl ?_
          exact b_mask [true, true, true, true, true, true] rfl H
set_option maxHeartbeats 4000000 in
set_option maxRecDepth 100000 in
theorem B_Br_wordsTaken_36 {S : XS} {Q : Int32 → St → Prop} (σ : St) (x1 : Int32) (x2 : Int32) (x3 : Int32) (x4 : Int32) (x5 : Int32) (H : (((gX σ 9) < x5 → Q x3 σ) ∧ (¬ (gX σ 9) < x5 → (((gN σ) = none → False) ∧ (∀ p7, (gN σ) = some p7 → p7 < 20 ∧ (((30 : Int32) < x5 → Q x3 σ) ∧ (¬ (30 : Int32) < x5 → (vp_in (x5 - (1 : Int32)) 30) ∧ (((x4 + ((1 : Int32) + (gB σ 0 p7 (x5 - (1 : Int32)).toNatClampNeg))) ≤ (gX σ 10) → CM S m_Br_costWith [.ref 49, .int x1, .int x5, .int (x4 + ((1 : Int32) + (gB σ 0 p7 (x5 - (1 : Int32)).toNatClampNeg)))] (enc σ) (qI (fun v11 τ12 => (vp_in x1 31) ∧ (vp_in x2 31) ∧ ((¬ v11 = (gB τ12 2 x1.toNatClampNeg x2.toNatClampNeg) → BW S m_Br_wordsTaken 36 [some (.ref 49), some (.int x1), some (.int x2), some (.int x3), some (.int (x4 + ((1 : Int32) + (gB σ 0 p7 (x5 - (1 : Int32)).toNatClampNeg)))), some (.int (x5 + (1 : Int32)))] [] (enc τ12) (qI Q)) ∧ (v11 = (gB τ12 2 x1.toNatClampNeg x2.toNatClampNeg) → BW S m_Br_wordsTaken 36 [some (.ref 49), some (.int x1), some (.int x2), some (.int (x5 - x2)), some (.int (x4 + ((1 : Int32) + (gB σ 0 p7 (x5 - (1 : Int32)).toNatClampNeg)))), some (.int (x5 + (1 : Int32)))] [] (enc τ12) (qI Q)))))) ∧ (¬ (x4 + ((1 : Int32) + (gB σ 0 p7 (x5 - (1 : Int32)).toNatClampNeg))) ≤ (gX σ 10) → Q x3 σ))))))))) : BW S m_Br_wordsTaken 36 [some (.ref 49), some (.int x1), some (.int x2), some (.int x3), some (.int x4), some (.int x5)] [] (enc σ) (qI Q) := by
  refine b_iload d_Br_wordsTaken_36 rfl ?_
  refine b_aload_n d_Br_wordsTaken_38 rfl rfl ?_
  refine b_getf (v := .int (gX σ 9)) d_Br_wordsTaken_39 fl_Br_20 (eg_49 σ) rfl ?_
  refine b_icmp_gt (tgt := 114) d_Br_wordsTaken_42 (by decide) (fun c18 => ?_) (fun c18 => ?_)
  · have H := H.1 c18
    refine b_iload_n d_Br_wordsTaken_114 rfl rfl ?_
    exact b_iret (ty := .int) d_Br_wordsTaken_115 rfl rfl ⟨_, _, rfl, rfl, H⟩
  · have H := H.2 c18
    refine b_iload d_Br_wordsTaken_45 rfl ?_
    refine b_aload_n d_Br_wordsTaken_47 rfl rfl ?_
    refine b_getf (v := va_rf (xrw 7 (gN σ))) d_Br_wordsTaken_48 fl_Br_16 (eg_49 σ) rfl ?_
    rcases e8 : (gN σ) with _ | p7
    · have H := H.1 e8
      exact H.elim
    · have H := H.2 p7 e8
      obtain ⟨h9, H⟩ := H
      refine b_alen (v := (30 : Int32)) d_Br_wordsTaken_51 (er0 σ h9) (by decide) (by decide) ?_
      refine b_icmp_gt (tgt := 114) d_Br_wordsTaken_52 (by decide) (fun c17 => ?_) (fun c17 => ?_)
      · have H := H.1 c17
        refine b_iload_n d_Br_wordsTaken_114 rfl rfl ?_
        exact b_iret (ty := .int) d_Br_wordsTaken_115 rfl rfl ⟨_, _, rfl, rfl, H⟩
      · have H := H.2 c17
        refine b_iload d_Br_wordsTaken_55 rfl ?_
        refine b_iconst (v := (1 : Int32)) d_Br_wordsTaken_57 (by decide) ?_
        refine b_aload_n d_Br_wordsTaken_58 rfl rfl ?_
        refine b_getf (v := .ref (7 + p7)) d_Br_wordsTaken_59 fl_Br_16 (eg_49 σ) (by show some (va_rf (xrw 7 (gN σ))) = _; rw [e8]; rfl) ?_
        refine b_iload d_Br_wordsTaken_62 rfl ?_
        refine b_iconst (v := (1 : Int32)) d_Br_wordsTaken_64 (by decide) ?_
        refine b_isub d_Br_wordsTaken_65  ?_
        obtain ⟨h10, H⟩ := H
        refine b_iald (f := gB σ 0 p7) d_Br_wordsTaken_66 (er0 σ h9) h10 ?_
        refine b_st2 (st' := [.int (gB σ 0 p7 (x5 - (1 : Int32)).toNatClampNeg), .int (1 : Int32), .int x4]) rfl ?_
        refine b_iadd d_Br_wordsTaken_67  ?_
        refine b_iadd d_Br_wordsTaken_68  ?_
        refine b_istore (ls' := [some (.ref 49), some (.int x1), some (.int x2), some (.int x3), some (.int (x4 + ((1 : Int32) + (gB σ 0 p7 (x5 - (1 : Int32)).toNatClampNeg)))), some (.int x5)]) d_Br_wordsTaken_69 (Nat.le_of_ble_eq_true rfl) rfl ?_
        refine b_iload d_Br_wordsTaken_71 rfl ?_
        refine b_aload_n d_Br_wordsTaken_73 rfl rfl ?_
        refine b_getf (v := .int (gX σ 10)) d_Br_wordsTaken_74 fl_Br_24 (eg_49 σ) rfl ?_
        refine b_icmp_le (tgt := 83) d_Br_wordsTaken_77 (by decide) (fun c16 => ?_) (fun c16 => ?_)
        · have H := H.1 c16
          refine b_aload_n d_Br_wordsTaken_83 rfl rfl ?_
          refine b_iload_n d_Br_wordsTaken_84 rfl rfl ?_
          refine b_iload d_Br_wordsTaken_85 rfl ?_
          refine b_iload d_Br_wordsTaken_87 rfl ?_
          refine b_callVi (Mc := m_Br_costWith) (As := [.int x1, .int x5, .int (x4 + ((1 : Int32) + (gB σ 0 p7 (x5 - (1 : Int32)).toNatClampNeg)))]) (st := []) d_Br_wordsTaken_89 ⟨⟨kA_Br_costWith.1, kA_Br_costWith.2.1, kA_Br_costWith.2.2, by decide⟩, ml_Br_38, kV_Br_costWith⟩ (eg_49 σ) rfl rfl (Nat.le_of_ble_eq_true rfl) H (fun v11 τ12 H => ?_)
          refine b_aload_n d_Br_wordsTaken_92 rfl rfl ?_
          refine b_getf (v := .ref 50) d_Br_wordsTaken_93 fl_Br_11 (eg_49 τ12) rfl ?_
          refine b_iload_n d_Br_wordsTaken_96 rfl rfl ?_
          obtain ⟨h13, H⟩ := H
          refine b_rowld d_Br_wordsTaken_97 (eg_50 τ12) h13 ?_
          refine b_iload_n d_Br_wordsTaken_98 rfl rfl ?_
          obtain ⟨h14, H⟩ := H
          refine b_iald (f := gB τ12 2 x1.toNatClampNeg) d_Br_wordsTaken_99 (er2 τ12 (vp_lt h13)) h14 ?_
          refine b_st2 (st' := [.int (gB τ12 2 x1.toNatClampNeg x2.toNatClampNeg), .int v11]) rfl ?_
          refine b_icmp_ne (tgt := 108) d_Br_wordsTaken_100 (by decide) (fun c15 => ?_) (fun c15 => ?_)
          · have H := H.1 c15
            refine b_iinc (v := (x5 + (1 : Int32))) (ls' := [some (.ref 49), some (.int x1), some (.int x2), some (.int x3), some (.int (x4 + ((1 : Int32) + (gB σ 0 p7 (x5 - (1 : Int32)).toNatClampNeg)))), some (.int (x5 + (1 : Int32)))]) d_Br_wordsTaken_108 rfl rfl (Nat.le_of_ble_eq_true rfl) rfl ?_
            refine b_goto (tgt := 36) d_Br_wordsTaken_111 (by decide) ?_
            exact b_mask [true, true, true, true, true, true] rfl H
          · have H := H.2 c15
            refine b_iload d_Br_wordsTaken_103 rfl ?_
            refine b_iload_n d_Br_wordsTaken_105 rfl rfl ?_
            refine b_isub d_Br_wordsTaken_106  ?_
            refine b_istore_n (ls' := [some (.ref 49), some (.int x1), some (.int x2), some (.int (x5 - x2)), some (.int (x4 + ((1 : Int32) + (gB σ 0 p7 (x5 - (1 : Int32)).toNatClampNeg)))), some (.int x5)]) d_Br_wordsTaken_107 rfl (Nat.le_of_ble_eq_true rfl) rfl ?_
            refine b_iinc (v := (x5 + (1 : Int32))) (ls' := [some (.ref 49), some (.int x1), some (.int x2), some (.int (x5 - x2)), some (.int (x4 + ((1 : Int32) + (gB σ 0 p7 (x5 - (1 : Int32)).toNatClampNeg)))), some (.int (x5 + (1 : Int32)))]) d_Br_wordsTaken_108 rfl rfl (Nat.le_of_ble_eq_true rfl) rfl ?_
            refine b_goto (tgt := 36) d_Br_wordsTaken_111 (by decide) ?_
            exact b_mask [true, true, true, true, true, true] rfl H
        · have H := H.2 c16
          refine b_goto (tgt := 114) d_Br_wordsTaken_80 (by decide) ?_
          refine b_iload_n d_Br_wordsTaken_114 rfl rfl ?_
          exact b_iret (ty := .int) d_Br_wordsTaken_115 rfl rfl ⟨_, _, rfl, rfl, H⟩
theorem C_Br_wordsTaken {S : XS} {Q : Int32 → St → Prop} (σ : St) (x1 : Int32) (x2 : Int32) (H : BW S m_Br_wordsTaken 0 [some (.ref 49), some (.int x1), some (.int x2), none, none, none] [] (enc σ) (qI Q)) : CM S m_Br_wordsTaken [.ref 49, .int x1, .int x2] (enc σ) (qI Q) := b_meth (by decide) (Nat.le_of_ble_eq_true rfl) rfl H
theorem d_Br_weighRest_0 : decode m_Br_weighRest.2.1 0 = .ok (.aload_n 0, 1) := by decide +kernel
theorem d_Br_weighRest_1 : decode m_Br_weighRest.2.1 1 = .ok (.getfield 16, 3) := by decide +kernel
theorem d_Br_weighRest_4 : decode m_Br_weighRest.2.1 4 = .ok (.ifnonnull 4, 3) := by decide +kernel
theorem d_Br_weighRest_7 : decode m_Br_weighRest.2.1 7 = .ok (.return_, 1) := by decide +kernel
theorem d_Br_weighRest_8 : decode m_Br_weighRest.2.1 8 = .ok (.iconst (-1), 1) := by decide +kernel
theorem d_Br_weighRest_9 : decode m_Br_weighRest.2.1 9 = .ok (.istore_n 3, 1) := by decide +kernel
theorem d_Br_weighRest_10 : decode m_Br_weighRest.2.1 10 = .ok (.iload_n 2, 1) := by decide +kernel
theorem d_Br_weighRest_11 : decode m_Br_weighRest.2.1 11 = .ok (.iconst 1, 1) := by decide +kernel
theorem d_Br_weighRest_12 : decode m_Br_weighRest.2.1 12 = .ok (.iadd, 1) := by decide +kernel
theorem d_Br_weighRest_13 : decode m_Br_weighRest.2.1 13 = .ok (.istore 4, 2) := by decide +kernel
theorem d_Br_weighRest_15 : decode m_Br_weighRest.2.1 15 = .ok (.iload 4, 2) := by decide +kernel
theorem d_Br_weighRest_17 : decode m_Br_weighRest.2.1 17 = .ok (.aload_n 0, 1) := by decide +kernel
theorem d_Br_weighRest_18 : decode m_Br_weighRest.2.1 18 = .ok (.getfield 20, 3) := by decide +kernel
theorem d_Br_weighRest_21 : decode m_Br_weighRest.2.1 21 = .ok (.if_icmp .gt 71, 3) := by decide +kernel
theorem d_Br_weighRest_24 : decode m_Br_weighRest.2.1 24 = .ok (.iload 4, 2) := by decide +kernel
theorem d_Br_weighRest_26 : decode m_Br_weighRest.2.1 26 = .ok (.aload_n 0, 1) := by decide +kernel
theorem d_Br_weighRest_27 : decode m_Br_weighRest.2.1 27 = .ok (.getfield 16, 3) := by decide +kernel
theorem d_Br_weighRest_30 : decode m_Br_weighRest.2.1 30 = .ok (.arraylength, 1) := by decide +kernel
theorem d_Br_weighRest_31 : decode m_Br_weighRest.2.1 31 = .ok (.if_icmp .gt 61, 3) := by decide +kernel
theorem d_Br_weighRest_34 : decode m_Br_weighRest.2.1 34 = .ok (.iload_n 3, 1) := by decide +kernel
theorem d_Br_weighRest_35 : decode m_Br_weighRest.2.1 35 = .ok (.iconst 1, 1) := by decide +kernel
theorem d_Br_weighRest_36 : decode m_Br_weighRest.2.1 36 = .ok (.aload_n 0, 1) := by decide +kernel
theorem d_Br_weighRest_37 : decode m_Br_weighRest.2.1 37 = .ok (.getfield 16, 3) := by decide +kernel
theorem d_Br_weighRest_40 : decode m_Br_weighRest.2.1 40 = .ok (.iload 4, 2) := by decide +kernel
theorem d_Br_weighRest_42 : decode m_Br_weighRest.2.1 42 = .ok (.iconst 1, 1) := by decide +kernel
theorem d_Br_weighRest_43 : decode m_Br_weighRest.2.1 43 = .ok (.isub, 1) := by decide +kernel
theorem d_Br_weighRest_44 : decode m_Br_weighRest.2.1 44 = .ok (.iaload, 1) := by decide +kernel
theorem d_Br_weighRest_45 : decode m_Br_weighRest.2.1 45 = .ok (.iadd, 1) := by decide +kernel
theorem d_Br_weighRest_46 : decode m_Br_weighRest.2.1 46 = .ok (.iadd, 1) := by decide +kernel
theorem d_Br_weighRest_47 : decode m_Br_weighRest.2.1 47 = .ok (.istore_n 3, 1) := by decide +kernel
theorem d_Br_weighRest_48 : decode m_Br_weighRest.2.1 48 = .ok (.iload_n 3, 1) := by decide +kernel
theorem d_Br_weighRest_49 : decode m_Br_weighRest.2.1 49 = .ok (.aload_n 0, 1) := by decide +kernel
theorem d_Br_weighRest_50 : decode m_Br_weighRest.2.1 50 = .ok (.getfield 24, 3) := by decide +kernel
theorem d_Br_weighRest_53 : decode m_Br_weighRest.2.1 53 = .ok (.if_icmp .le 6, 3) := by decide +kernel
theorem d_Br_weighRest_56 : decode m_Br_weighRest.2.1 56 = .ok (.goto 36, 3) := by decide +kernel
theorem d_Br_weighRest_59 : decode m_Br_weighRest.2.1 59 = .ok (.aload_n 0, 1) := by decide +kernel
theorem d_Br_weighRest_60 : decode m_Br_weighRest.2.1 60 = .ok (.getfield 11, 3) := by decide +kernel
theorem d_Br_weighRest_63 : decode m_Br_weighRest.2.1 63 = .ok (.iload_n 1, 1) := by decide +kernel
theorem d_Br_weighRest_64 : decode m_Br_weighRest.2.1 64 = .ok (.aaload, 1) := by decide +kernel
theorem d_Br_weighRest_65 : decode m_Br_weighRest.2.1 65 = .ok (.iload_n 2, 1) := by decide +kernel
theorem d_Br_weighRest_66 : decode m_Br_weighRest.2.1 66 = .ok (.aload_n 0, 1) := by decide +kernel
theorem d_Br_weighRest_67 : decode m_Br_weighRest.2.1 67 = .ok (.getfield 11, 3) := by decide +kernel
theorem d_Br_weighRest_70 : decode m_Br_weighRest.2.1 70 = .ok (.iload_n 1, 1) := by decide +kernel
theorem d_Br_weighRest_71 : decode m_Br_weighRest.2.1 71 = .ok (.aaload, 1) := by decide +kernel
theorem d_Br_weighRest_72 : decode m_Br_weighRest.2.1 72 = .ok (.iload_n 2, 1) := by decide +kernel
theorem d_Br_weighRest_73 : decode m_Br_weighRest.2.1 73 = .ok (.iaload, 1) := by decide +kernel
theorem d_Br_weighRest_74 : decode m_Br_weighRest.2.1 74 = .ok (.aload_n 0, 1) := by decide +kernel
theorem d_Br_weighRest_75 : decode m_Br_weighRest.2.1 75 = .ok (.iload_n 1, 1) := by decide +kernel
theorem d_Br_weighRest_76 : decode m_Br_weighRest.2.1 76 = .ok (.iload 4, 2) := by decide +kernel
theorem d_Br_weighRest_78 : decode m_Br_weighRest.2.1 78 = .ok (.iload_n 3, 1) := by decide +kernel
theorem d_Br_weighRest_79 : decode m_Br_weighRest.2.1 79 = .ok (.invokevirtual 38, 3) := by decide +kernel
theorem d_Br_weighRest_82 : decode m_Br_weighRest.2.1 82 = .ok (.invokestatic 42, 3) := by decide +kernel
theorem d_Br_weighRest_85 : decode m_Br_weighRest.2.1 85 = .ok (.iastore, 1) := by decide +kernel
theorem d_Br_weighRest_86 : decode m_Br_weighRest.2.1 86 = .ok (.iinc 4 1, 3) := by decide +kernel
theorem d_Br_weighRest_89 : decode m_Br_weighRest.2.1 89 = .ok (.goto (-74), 3) := by decide +kernel
theorem d_Br_weighRest_92 : decode m_Br_weighRest.2.1 92 = .ok (.return_, 1) := by decide +kernel
set_option maxHeartbeats 4000000 in
set_option maxRecDepth 100000 in
theorem B_Br_weighRest_0 {S : XS} {Q : St → Prop} (σ : St) (x1 : Int32) (x2 : Int32) (H : (((gN σ) = none → Q σ) ∧ (∀ p1, (gN σ) = some p1 → p1 < 20 ∧ BW S m_Br_weighRest 15 [some (.ref 49), some (.int x1), some (.int x2), some (.int (-1 : Int32)), some (.int (x2 + (1 : Int32)))] [] (enc σ) (qV Q)))) : BW S m_Br_weighRest 0 [some (.ref 49), some (.int x1), some (.int x2), none, none] [] (enc σ) (qV Q) := by
  refine b_aload_n d_Br_weighRest_0 rfl rfl ?_
  refine b_getf (v := va_rf (xrw 7 (gN σ))) d_Br_weighRest_1 fl_Br_16 (eg_49 σ) rfl ?_
  rcases e2 : (gN σ) with _ | p1
  · have H := H.1 e2
    refine b_ifnonnullN d_Br_weighRest_4 ?_
    exact b_vret d_Br_weighRest_7 rfl ⟨_, rfl, rfl, H⟩
  · have H := H.2 p1 e2
    obtain ⟨h3, H⟩ := H
    refine b_ifnonnull (tgt := 8) d_Br_weighRest_4 (by decide) ?_
    refine b_iconst (v := (-1 : Int32)) d_Br_weighRest_8 (by decide) ?_
    refine b_istore_n (ls' := [some (.ref 49), some (.int x1), some (.int x2), some (.int (-1 : Int32)), none]) d_Br_weighRest_9 rfl (Nat.le_of_ble_eq_true rfl) rfl ?_
    refine b_iload_n d_Br_weighRest_10 rfl rfl ?_
    refine b_iconst (v := (1 : Int32)) d_Br_weighRest_11 (by decide) ?_
    refine b_iadd d_Br_weighRest_12  ?_
    refine b_istore (ls' := [some (.ref 49), some (.int x1), some (.int x2), some (.int (-1 : Int32)), some (.int (x2 + (1 : Int32)))]) d_Br_weighRest_13 (Nat.le_of_ble_eq_true rfl) rfl ?_
    exact b_mask [true, true, true, true, true] rfl H
set_option maxHeartbeats 4000000 in
set_option maxRecDepth 100000 in
theorem B_Br_weighRest_15 {S : XS} {Q : St → Prop} (σ : St) (x1 : Int32) (x2 : Int32) (x3 : Int32) (x4 : Int32) (H : (((gX σ 9) < x4 → Q σ) ∧ (¬ (gX σ 9) < x4 → (((gN σ) = none → False) ∧ (∀ p4, (gN σ) = some p4 → p4 < 20 ∧ (((30 : Int32) < x4 → Q σ) ∧ (¬ (30 : Int32) < x4 → (vp_in (x4 - (1 : Int32)) 30) ∧ (((x3 + ((1 : Int32) + (gB σ 0 p4 (x4 - (1 : Int32)).toNatClampNeg))) ≤ (gX σ 10) → (vp_in x1 31) ∧ (vp_in x2 31) ∧ CM S m_Br_costWith [.ref 49, .int x1, .int x4, .int (x3 + ((1 : Int32) + (gB σ 0 p4 (x4 - (1 : Int32)).toNatClampNeg)))] (enc σ) (qI (fun v10 τ11 => (vp_in x2 31) ∧ BW S m_Br_weighRest 15 [some (.ref 49), some (.int x1), some (.int x2), some (.int (x3 + ((1 : Int32) + (gB σ 0 p4 (x4 - (1 : Int32)).toNatClampNeg)))), some (.int (x4 + (1 : Int32)))] [] (enc (sB τ11 2 x1.toNatClampNeg (upd (gB τ11 2 x1.toNatClampNeg) x2.toNatClampNeg (if v10 < (gB σ 2 x1.toNatClampNeg x2.toNatClampNeg) then v10 else (gB σ 2 x1.toNatClampNeg x2.toNatClampNeg))))) (qV Q)))) ∧ (¬ (x3 + ((1 : Int32) + (gB σ 0 p4 (x4 - (1 : Int32)).toNatClampNeg))) ≤ (gX σ 10) → Q σ))))))))) : BW S m_Br_weighRest 15 [some (.ref 49), some (.int x1), some (.int x2), some (.int x3), some (.int x4)] [] (enc σ) (qV Q) := by
  refine b_iload d_Br_weighRest_15 rfl ?_
  refine b_aload_n d_Br_weighRest_17 rfl rfl ?_
  refine b_getf (v := .int (gX σ 9)) d_Br_weighRest_18 fl_Br_20 (eg_49 σ) rfl ?_
  refine b_icmp_gt (tgt := 92) d_Br_weighRest_21 (by decide) (fun c15 => ?_) (fun c15 => ?_)
  · have H := H.1 c15
    exact b_vret d_Br_weighRest_92 rfl ⟨_, rfl, rfl, H⟩
  · have H := H.2 c15
    refine b_iload d_Br_weighRest_24 rfl ?_
    refine b_aload_n d_Br_weighRest_26 rfl rfl ?_
    refine b_getf (v := va_rf (xrw 7 (gN σ))) d_Br_weighRest_27 fl_Br_16 (eg_49 σ) rfl ?_
    rcases e5 : (gN σ) with _ | p4
    · have H := H.1 e5
      exact H.elim
    · have H := H.2 p4 e5
      obtain ⟨h6, H⟩ := H
      refine b_alen (v := (30 : Int32)) d_Br_weighRest_30 (er0 σ h6) (by decide) (by decide) ?_
      refine b_icmp_gt (tgt := 92) d_Br_weighRest_31 (by decide) (fun c14 => ?_) (fun c14 => ?_)
      · have H := H.1 c14
        exact b_vret d_Br_weighRest_92 rfl ⟨_, rfl, rfl, H⟩
      · have H := H.2 c14
        refine b_iload_n d_Br_weighRest_34 rfl rfl ?_
        refine b_iconst (v := (1 : Int32)) d_Br_weighRest_35 (by decide) ?_
        refine b_aload_n d_Br_weighRest_36 rfl rfl ?_
        refine b_getf (v := .ref (7 + p4)) d_Br_weighRest_37 fl_Br_16 (eg_49 σ) (by show some (va_rf (xrw 7 (gN σ))) = _; rw [e5]; rfl) ?_
        refine b_iload d_Br_weighRest_40 rfl ?_
        refine b_iconst (v := (1 : Int32)) d_Br_weighRest_42 (by decide) ?_
        refine b_isub d_Br_weighRest_43  ?_
        obtain ⟨h7, H⟩ := H
        refine b_iald (f := gB σ 0 p4) d_Br_weighRest_44 (er0 σ h6) h7 ?_
        refine b_st2 (st' := [.int (gB σ 0 p4 (x4 - (1 : Int32)).toNatClampNeg), .int (1 : Int32), .int x3]) rfl ?_
        refine b_iadd d_Br_weighRest_45  ?_
        refine b_iadd d_Br_weighRest_46  ?_
        refine b_istore_n (ls' := [some (.ref 49), some (.int x1), some (.int x2), some (.int (x3 + ((1 : Int32) + (gB σ 0 p4 (x4 - (1 : Int32)).toNatClampNeg)))), some (.int x4)]) d_Br_weighRest_47 rfl (Nat.le_of_ble_eq_true rfl) rfl ?_
        refine b_iload_n d_Br_weighRest_48 rfl rfl ?_
        refine b_aload_n d_Br_weighRest_49 rfl rfl ?_
        refine b_getf (v := .int (gX σ 10)) d_Br_weighRest_50 fl_Br_24 (eg_49 σ) rfl ?_
        refine b_icmp_le (tgt := 59) d_Br_weighRest_53 (by decide) (fun c13 => ?_) (fun c13 => ?_)
        · have H := H.1 c13
          refine b_aload_n d_Br_weighRest_59 rfl rfl ?_
          refine b_getf (v := .ref 50) d_Br_weighRest_60 fl_Br_11 (eg_49 σ) rfl ?_
          refine b_iload_n d_Br_weighRest_63 rfl rfl ?_
          obtain ⟨h8, H⟩ := H
          refine b_rowld d_Br_weighRest_64 (eg_50 σ) h8 ?_
          refine b_iload_n d_Br_weighRest_65 rfl rfl ?_
          refine b_aload_n d_Br_weighRest_66 rfl rfl ?_
          refine b_getf (v := .ref 50) d_Br_weighRest_67 fl_Br_11 (eg_49 σ) rfl ?_
          refine b_iload_n d_Br_weighRest_70 rfl rfl ?_
          refine b_rowld d_Br_weighRest_71 (eg_50 σ) h8 ?_
          refine b_iload_n d_Br_weighRest_72 rfl rfl ?_
          obtain ⟨h9, H⟩ := H
          refine b_iald (f := gB σ 2 x1.toNatClampNeg) d_Br_weighRest_73 (er2 σ (vp_lt h8)) h9 ?_
          refine b_st2 (st' := [.int (gB σ 2 x1.toNatClampNeg x2.toNatClampNeg), .int x2, .ref (51 + x1.toNatClampNeg)]) rfl ?_
          refine b_aload_n d_Br_weighRest_74 rfl rfl ?_
          refine b_iload_n d_Br_weighRest_75 rfl rfl ?_
          refine b_iload d_Br_weighRest_76 rfl ?_
          refine b_iload_n d_Br_weighRest_78 rfl rfl ?_
          refine b_callVi (Mc := m_Br_costWith) (As := [.int x1, .int x4, .int (x3 + ((1 : Int32) + (gB σ 0 p4 (x4 - (1 : Int32)).toNatClampNeg)))]) (st := [.int (gB σ 2 x1.toNatClampNeg x2.toNatClampNeg), .int x2, .ref (51 + x1.toNatClampNeg)]) d_Br_weighRest_79 ⟨⟨kA_Br_costWith.1, kA_Br_costWith.2.1, kA_Br_costWith.2.2, by decide⟩, ml_Br_38, kV_Br_costWith⟩ (eg_49 σ) rfl rfl (Nat.le_of_ble_eq_true rfl) H (fun v10 τ11 H => ?_)
          refine b_minI d_Br_weighRest_82 ml_Br_42 (Nat.le_of_ble_eq_true rfl) ⟨by decide, by decide⟩ ?_
          obtain ⟨h12, H⟩ := H
          refine b_iast (h1 := enc (sB τ11 2 x1.toNatClampNeg (upd (gB τ11 2 x1.toNatClampNeg) x2.toNatClampNeg (if v10 < (gB σ 2 x1.toNatClampNeg x2.toNatClampNeg) then v10 else (gB σ 2 x1.toNatClampNeg x2.toNatClampNeg))))) (f := gB τ11 2 x1.toNatClampNeg) d_Br_weighRest_85 (er2 τ11 (vp_lt h8)) h12 (et2 τ11 (vp_lt h8) (upd (gB τ11 2 x1.toNatClampNeg) x2.toNatClampNeg (if v10 < (gB σ 2 x1.toNatClampNeg x2.toNatClampNeg) then v10 else (gB σ 2 x1.toNatClampNeg x2.toNatClampNeg)))) ?_
          refine b_iinc (v := (x4 + (1 : Int32))) (ls' := [some (.ref 49), some (.int x1), some (.int x2), some (.int (x3 + ((1 : Int32) + (gB σ 0 p4 (x4 - (1 : Int32)).toNatClampNeg)))), some (.int (x4 + (1 : Int32)))]) d_Br_weighRest_86 rfl rfl (Nat.le_of_ble_eq_true rfl) rfl ?_
          refine b_goto (tgt := 15) d_Br_weighRest_89 (by decide) ?_
          exact b_mask [true, true, true, true, true] rfl H
        · have H := H.2 c13
          refine b_goto (tgt := 92) d_Br_weighRest_56 (by decide) ?_
          exact b_vret d_Br_weighRest_92 rfl ⟨_, rfl, rfl, H⟩
theorem C_Br_weighRest {S : XS} {Q : St → Prop} (σ : St) (x1 : Int32) (x2 : Int32) (H : BW S m_Br_weighRest 0 [some (.ref 49), some (.int x1), some (.int x2), none, none] [] (enc σ) (qV Q)) : CM S m_Br_weighRest [.ref 49, .int x1, .int x2] (enc σ) (qV Q) := b_meth (by decide) (Nat.le_of_ble_eq_true rfl) rfl H
theorem d_Br_costWith_0 : decode m_Br_costWith.2.1 0 = .ok (.aload_n 0, 1) := by decide +kernel
theorem d_Br_costWith_1 : decode m_Br_costWith.2.1 1 = .ok (.getfield 11, 3) := by decide +kernel
theorem d_Br_costWith_4 : decode m_Br_costWith.2.1 4 = .ok (.iload_n 1, 1) := by decide +kernel
theorem d_Br_costWith_5 : decode m_Br_costWith.2.1 5 = .ok (.iconst 1, 1) := by decide +kernel
theorem d_Br_costWith_6 : decode m_Br_costWith.2.1 6 = .ok (.isub, 1) := by decide +kernel
theorem d_Br_costWith_7 : decode m_Br_costWith.2.1 7 = .ok (.aaload, 1) := by decide +kernel
theorem d_Br_costWith_8 : decode m_Br_costWith.2.1 8 = .ok (.iload_n 2, 1) := by decide +kernel
theorem d_Br_costWith_9 : decode m_Br_costWith.2.1 9 = .ok (.iaload, 1) := by decide +kernel
theorem d_Br_costWith_10 : decode m_Br_costWith.2.1 10 = .ok (.istore 4, 2) := by decide +kernel
theorem d_Br_costWith_12 : decode m_Br_costWith.2.1 12 = .ok (.iload 4, 2) := by decide +kernel
theorem d_Br_costWith_14 : decode m_Br_costWith.2.1 14 = .ok (.ldc 27, 2) := by decide +kernel
theorem d_Br_costWith_16 : decode m_Br_costWith.2.1 16 = .ok (.if_icmp .ge 8, 3) := by decide +kernel
theorem d_Br_costWith_19 : decode m_Br_costWith.2.1 19 = .ok (.iload_n 1, 1) := by decide +kernel
theorem d_Br_costWith_20 : decode m_Br_costWith.2.1 20 = .ok (.iconst 1, 1) := by decide +kernel
theorem d_Br_costWith_21 : decode m_Br_costWith.2.1 21 = .ok (.if_icmp .ne 6, 3) := by decide +kernel
theorem d_Br_costWith_24 : decode m_Br_costWith.2.1 24 = .ok (.iload 4, 2) := by decide +kernel
theorem d_Br_costWith_26 : decode m_Br_costWith.2.1 26 = .ok (.ireturn, 1) := by decide +kernel
theorem d_Br_costWith_27 : decode m_Br_costWith.2.1 27 = .ok (.aload_n 0, 1) := by decide +kernel
theorem d_Br_costWith_28 : decode m_Br_costWith.2.1 28 = .ok (.getfield 24, 3) := by decide +kernel
theorem d_Br_costWith_31 : decode m_Br_costWith.2.1 31 = .ok (.iload_n 3, 1) := by decide +kernel
theorem d_Br_costWith_32 : decode m_Br_costWith.2.1 32 = .ok (.isub, 1) := by decide +kernel
theorem d_Br_costWith_33 : decode m_Br_costWith.2.1 33 = .ok (.istore 5, 2) := by decide +kernel
theorem d_Br_costWith_35 : decode m_Br_costWith.2.1 35 = .ok (.iload 4, 2) := by decide +kernel
theorem d_Br_costWith_37 : decode m_Br_costWith.2.1 37 = .ok (.iload 5, 2) := by decide +kernel
theorem d_Br_costWith_39 : decode m_Br_costWith.2.1 39 = .ok (.iload 5, 2) := by decide +kernel
theorem d_Br_costWith_41 : decode m_Br_costWith.2.1 41 = .ok (.imul, 1) := by decide +kernel
theorem d_Br_costWith_42 : decode m_Br_costWith.2.1 42 = .ok (.iadd, 1) := by decide +kernel
theorem d_Br_costWith_43 : decode m_Br_costWith.2.1 43 = .ok (.ireturn, 1) := by decide +kernel
set_option maxHeartbeats 4000000 in
set_option maxRecDepth 100000 in
theorem B_Br_costWith_0 {S : XS} {Q : Int32 → St → Prop} (σ : St) (x1 : Int32) (x2 : Int32) (x3 : Int32) (H : (vp_in (x1 - (1 : Int32)) 31) ∧ (vp_in x2 31) ∧ (((1000000000 : Int32) ≤ (gB σ 2 ((x1 - (1 : Int32)).toNatClampNeg) x2.toNatClampNeg) → Q (gB σ 2 ((x1 - (1 : Int32)).toNatClampNeg) x2.toNatClampNeg) σ) ∧ (¬ (1000000000 : Int32) ≤ (gB σ 2 ((x1 - (1 : Int32)).toNatClampNeg) x2.toNatClampNeg) → ((¬ x1 = (1 : Int32) → Q ((gB σ 2 ((x1 - (1 : Int32)).toNatClampNeg) x2.toNatClampNeg) + (((gX σ 10) - x3) * ((gX σ 10) - x3))) σ) ∧ (x1 = (1 : Int32) → Q (gB σ 2 ((x1 - (1 : Int32)).toNatClampNeg) x2.toNatClampNeg) σ))))) : BW S m_Br_costWith 0 [some (.ref 49), some (.int x1), some (.int x2), some (.int x3), none, none] [] (enc σ) (qI Q) := by
  refine b_aload_n d_Br_costWith_0 rfl rfl ?_
  refine b_getf (v := .ref 50) d_Br_costWith_1 fl_Br_11 (eg_49 σ) rfl ?_
  refine b_iload_n d_Br_costWith_4 rfl rfl ?_
  refine b_iconst (v := (1 : Int32)) d_Br_costWith_5 (by decide) ?_
  refine b_isub d_Br_costWith_6  ?_
  obtain ⟨h1, H⟩ := H
  refine b_rowld d_Br_costWith_7 (eg_50 σ) h1 ?_
  refine b_iload_n d_Br_costWith_8 rfl rfl ?_
  obtain ⟨h2, H⟩ := H
  refine b_iald (f := gB σ 2 ((x1 - (1 : Int32)).toNatClampNeg)) d_Br_costWith_9 (er2 σ (vp_lt h1)) h2 ?_
  refine b_st2 (st' := [.int (gB σ 2 ((x1 - (1 : Int32)).toNatClampNeg) x2.toNatClampNeg)]) rfl ?_
  refine b_istore (ls' := [some (.ref 49), some (.int x1), some (.int x2), some (.int x3), some (.int (gB σ 2 ((x1 - (1 : Int32)).toNatClampNeg) x2.toNatClampNeg)), none]) d_Br_costWith_10 (Nat.le_of_ble_eq_true rfl) rfl ?_
  refine b_iload d_Br_costWith_12 rfl ?_
  refine b_ldc (v := (1000000000 : Int32)) d_Br_costWith_14 cn_Br_27 ?_
  refine b_icmp_ge (tgt := 24) d_Br_costWith_16 (by decide) (fun c4 => ?_) (fun c4 => ?_)
  · have H := H.1 c4
    refine b_iload d_Br_costWith_24 rfl ?_
    exact b_iret (ty := .int) d_Br_costWith_26 rfl rfl ⟨_, _, rfl, rfl, H⟩
  · have H := H.2 c4
    refine b_iload_n d_Br_costWith_19 rfl rfl ?_
    refine b_iconst (v := (1 : Int32)) d_Br_costWith_20 (by decide) ?_
    refine b_icmp_ne (tgt := 27) d_Br_costWith_21 (by decide) (fun c3 => ?_) (fun c3 => ?_)
    · have H := H.1 c3
      refine b_aload_n d_Br_costWith_27 rfl rfl ?_
      refine b_getf (v := .int (gX σ 10)) d_Br_costWith_28 fl_Br_24 (eg_49 σ) rfl ?_
      refine b_iload_n d_Br_costWith_31 rfl rfl ?_
      refine b_isub d_Br_costWith_32  ?_
      refine b_istore (ls' := [some (.ref 49), some (.int x1), some (.int x2), some (.int x3), some (.int (gB σ 2 ((x1 - (1 : Int32)).toNatClampNeg) x2.toNatClampNeg)), some (.int ((gX σ 10) - x3))]) d_Br_costWith_33 (Nat.le_of_ble_eq_true rfl) rfl ?_
      refine b_iload d_Br_costWith_35 rfl ?_
      refine b_iload d_Br_costWith_37 rfl ?_
      refine b_iload d_Br_costWith_39 rfl ?_
      refine b_imul d_Br_costWith_41  ?_
      refine b_iadd d_Br_costWith_42  ?_
      exact b_iret (ty := .int) d_Br_costWith_43 rfl rfl ⟨_, _, rfl, rfl, H⟩
    · have H := H.2 c3
      refine b_iload d_Br_costWith_24 rfl ?_
      exact b_iret (ty := .int) d_Br_costWith_26 rfl rfl ⟨_, _, rfl, rfl, H⟩
theorem C_Br_costWith {S : XS} {Q : Int32 → St → Prop} (σ : St) (x1 : Int32) (x2 : Int32) (x3 : Int32) (H : BW S m_Br_costWith 0 [some (.ref 49), some (.int x1), some (.int x2), some (.int x3), none, none] [] (enc σ) (qI Q)) : CM S m_Br_costWith [.ref 49, .int x1, .int x2, .int x3] (enc σ) (qI Q) := b_meth (by decide) (Nat.le_of_ble_eq_true rfl) rfl H
