/-! block rules, by program -/
theorem d_Se_leastCost_0 : decode m_Se_leastCost.2.1 0 = .ok (.iload_n 2, 1) := by decide +kernel
theorem d_Se_leastCost_1 : decode m_Se_leastCost.2.1 1 = .ok (.iconst 1, 1) := by decide +kernel
theorem d_Se_leastCost_2 : decode m_Se_leastCost.2.1 2 = .ok (.if_icmp .lt 9, 3) := by decide +kernel
theorem d_Se_leastCost_5 : decode m_Se_leastCost.2.1 5 = .ok (.iload_n 2, 1) := by decide +kernel
theorem d_Se_leastCost_6 : decode m_Se_leastCost.2.1 6 = .ok (.bipush 120, 2) := by decide +kernel
theorem d_Se_leastCost_8 : decode m_Se_leastCost.2.1 8 = .ok (.if_icmp .le 6, 3) := by decide +kernel
theorem d_Se_leastCost_11 : decode m_Se_leastCost.2.1 11 = .ok (.ldc 35, 2) := by decide +kernel
theorem d_Se_leastCost_13 : decode m_Se_leastCost.2.1 13 = .ok (.ireturn, 1) := by decide +kernel
theorem d_Se_leastCost_14 : decode m_Se_leastCost.2.1 14 = .ok (.aload_n 1, 1) := by decide +kernel
theorem d_Se_leastCost_15 : decode m_Se_leastCost.2.1 15 = .ok (.getfield 36, 3) := by decide +kernel
theorem d_Se_leastCost_18 : decode m_Se_leastCost.2.1 18 = .ok (.istore_n 3, 1) := by decide +kernel
theorem d_Se_leastCost_19 : decode m_Se_leastCost.2.1 19 = .ok (.aload_n 0, 1) := by decide +kernel
theorem d_Se_leastCost_20 : decode m_Se_leastCost.2.1 20 = .ok (.getfield 11, 3) := by decide +kernel
theorem d_Se_leastCost_23 : decode m_Se_leastCost.2.1 23 = .ok (.iload_n 3, 1) := by decide +kernel
theorem d_Se_leastCost_24 : decode m_Se_leastCost.2.1 24 = .ok (.aaload, 1) := by decide +kernel
theorem d_Se_leastCost_25 : decode m_Se_leastCost.2.1 25 = .ok (.ldc 35, 2) := by decide +kernel
theorem d_Se_leastCost_27 : decode m_Se_leastCost.2.1 27 = .ok (.invokestatic 42, 3) := by decide +kernel
theorem d_Se_leastCost_30 : decode m_Se_leastCost.2.1 30 = .ok (.aload_n 0, 1) := by decide +kernel
theorem d_Se_leastCost_31 : decode m_Se_leastCost.2.1 31 = .ok (.getfield 11, 3) := by decide +kernel
theorem d_Se_leastCost_34 : decode m_Se_leastCost.2.1 34 = .ok (.iload_n 3, 1) := by decide +kernel
theorem d_Se_leastCost_35 : decode m_Se_leastCost.2.1 35 = .ok (.aaload, 1) := by decide +kernel
theorem d_Se_leastCost_36 : decode m_Se_leastCost.2.1 36 = .ok (.iload_n 2, 1) := by decide +kernel
theorem d_Se_leastCost_37 : decode m_Se_leastCost.2.1 37 = .ok (.iconst 0, 1) := by decide +kernel
theorem d_Se_leastCost_38 : decode m_Se_leastCost.2.1 38 = .ok (.iastore, 1) := by decide +kernel
theorem d_Se_leastCost_39 : decode m_Se_leastCost.2.1 39 = .ok (.aload_n 0, 1) := by decide +kernel
theorem d_Se_leastCost_40 : decode m_Se_leastCost.2.1 40 = .ok (.getfield 16, 3) := by decide +kernel
theorem d_Se_leastCost_43 : decode m_Se_leastCost.2.1 43 = .ok (.iload_n 3, 1) := by decide +kernel
theorem d_Se_leastCost_44 : decode m_Se_leastCost.2.1 44 = .ok (.ldc 35, 2) := by decide +kernel
theorem d_Se_leastCost_46 : decode m_Se_leastCost.2.1 46 = .ok (.iastore, 1) := by decide +kernel
theorem d_Se_leastCost_47 : decode m_Se_leastCost.2.1 47 = .ok (.iload_n 3, 1) := by decide +kernel
theorem d_Se_leastCost_48 : decode m_Se_leastCost.2.1 48 = .ok (.iconst 1, 1) := by decide +kernel
theorem d_Se_leastCost_49 : decode m_Se_leastCost.2.1 49 = .ok (.isub, 1) := by decide +kernel
theorem d_Se_leastCost_50 : decode m_Se_leastCost.2.1 50 = .ok (.istore 4, 2) := by decide +kernel
theorem d_Se_leastCost_52 : decode m_Se_leastCost.2.1 52 = .ok (.iload 4, 2) := by decide +kernel
theorem d_Se_leastCost_54 : decode m_Se_leastCost.2.1 54 = .ok (.ifCond .lt 23, 3) := by decide +kernel
theorem d_Se_leastCost_57 : decode m_Se_leastCost.2.1 57 = .ok (.aload_n 1, 1) := by decide +kernel
theorem d_Se_leastCost_58 : decode m_Se_leastCost.2.1 58 = .ok (.iload 4, 2) := by decide +kernel
theorem d_Se_leastCost_60 : decode m_Se_leastCost.2.1 60 = .ok (.invokevirtual 48, 3) := by decide +kernel
theorem d_Se_leastCost_63 : decode m_Se_leastCost.2.1 63 = .ok (.aload_n 0, 1) := by decide +kernel
theorem d_Se_leastCost_64 : decode m_Se_leastCost.2.1 64 = .ok (.aload_n 1, 1) := by decide +kernel
theorem d_Se_leastCost_65 : decode m_Se_leastCost.2.1 65 = .ok (.iload 4, 2) := by decide +kernel
theorem d_Se_leastCost_67 : decode m_Se_leastCost.2.1 67 = .ok (.iload_n 2, 1) := by decide +kernel
theorem d_Se_leastCost_68 : decode m_Se_leastCost.2.1 68 = .ok (.invokevirtual 52, 3) := by decide +kernel
theorem d_Se_leastCost_71 : decode m_Se_leastCost.2.1 71 = .ok (.iinc 4 (-1), 3) := by decide +kernel
theorem d_Se_leastCost_74 : decode m_Se_leastCost.2.1 74 = .ok (.goto (-22), 3) := by decide +kernel
theorem d_Se_leastCost_77 : decode m_Se_leastCost.2.1 77 = .ok (.aload_n 0, 1) := by decide +kernel
theorem d_Se_leastCost_78 : decode m_Se_leastCost.2.1 78 = .ok (.getfield 16, 3) := by decide +kernel
theorem d_Se_leastCost_81 : decode m_Se_leastCost.2.1 81 = .ok (.iconst 0, 1) := by decide +kernel
theorem d_Se_leastCost_82 : decode m_Se_leastCost.2.1 82 = .ok (.iaload, 1) := by decide +kernel
theorem d_Se_leastCost_83 : decode m_Se_leastCost.2.1 83 = .ok (.ireturn, 1) := by decide +kernel
set_option maxHeartbeats 4000000 in
set_option maxRecDepth 100000 in
theorem B_Se_leastCost_0 {S : XS} {Q : Int32 → St → Prop} (σ : St) (x2 : Int32) (H : ((x2 < (1 : Int32) → Q (1000000000 : Int32) σ) ∧ (¬ x2 < (1 : Int32) → ((x2 ≤ (120 : Int32) → (vp_in (gX σ 4) 21) ∧ CM S m_Ja_fill [.ref (84 + (gX σ 4).toNatClampNeg), .int (1000000000 : Int32)] (enc σ) (qV (fun τ3 => (vp_in (gX σ 4) 21) ∧ (vp_in x2 121) ∧ BW S m_Se_leastCost 52 [some (.ref 82), some (.ref 3), some (.int x2), none, some (.int ((gX σ 4) - (1 : Int32)))] [] (enc (sA (sB τ3 3 ((gX σ 4).toNatClampNeg) (upd (gB τ3 3 ((gX σ 4).toNatClampNeg)) x2.toNatClampNeg (0 : Int32))) 4 (upd (gA τ3 4) (gX σ 4).toNatClampNeg (1000000000 : Int32)))) (qI Q)))) ∧ (¬ x2 ≤ (120 : Int32) → Q (1000000000 : Int32) σ))))) : BW S m_Se_leastCost 0 [some (.ref 82), some (.ref 3), some (.int x2), none, none] [] (enc σ) (qI Q) := by
  refine b_iload_n d_Se_leastCost_0 rfl rfl ?_
  refine b_iconst (v := (1 : Int32)) d_Se_leastCost_1 (by decide) ?_
  refine b_icmp_lt (tgt := 11) d_Se_leastCost_2 (by decide) (fun c7 => ?_) (fun c7 => ?_)
  · have H := H.1 c7
    refine b_ldc (v := (1000000000 : Int32)) d_Se_leastCost_11 cn_Se_35 ?_
    exact b_iret (ty := .int) d_Se_leastCost_13 rfl rfl ⟨_, _, rfl, rfl, H⟩
  · have H := H.2 c7
    refine b_iload_n d_Se_leastCost_5 rfl rfl ?_
    refine b_bipush (v := (120 : Int32)) d_Se_leastCost_6 (by decide) ?_
    refine b_icmp_le (tgt := 14) d_Se_leastCost_8 (by decide) (fun c6 => ?_) (fun c6 => ?_)
    · have H := H.1 c6
      refine b_aload_n d_Se_leastCost_14 rfl rfl ?_
      refine b_getfN (v := .int (gX σ 4)) d_Se_leastCost_15 fn_Se_36 (eg_3 σ) rfl ?_
      refine b_istore_n (ls' := [some (.ref 82), some (.ref 3), some (.int x2), some (.int (gX σ 4)), none]) d_Se_leastCost_18 rfl (Nat.le_of_ble_eq_true rfl) rfl ?_
      refine b_aload_n d_Se_leastCost_19 rfl rfl ?_
      refine b_getf (v := .ref 83) d_Se_leastCost_20 fl_Se_11 (eg_82 σ) rfl ?_
      refine b_iload_n d_Se_leastCost_23 rfl rfl ?_
      obtain ⟨h1, H⟩ := H
      refine b_rowld d_Se_leastCost_24 (eg_83 σ) h1 ?_
      refine b_ldc (v := (1000000000 : Int32)) d_Se_leastCost_25 cn_Se_35 ?_
      refine b_callSv (Mc := m_Ja_fill) (As := [.ref (84 + (gX σ 4).toNatClampNeg), .int (1000000000 : Int32)]) (st := []) d_Se_leastCost_27 ⟨⟨kA_Ja_fill.1, kA_Ja_fill.2.1, kA_Ja_fill.2.2, by decide⟩, ml_Se_42, kS_Ja_fill⟩ rfl rfl (Nat.le_of_ble_eq_true rfl) H (fun τ3 H => ?_)
      refine b_aload_n d_Se_leastCost_30 rfl rfl ?_
      refine b_getf (v := .ref 83) d_Se_leastCost_31 fl_Se_11 (eg_82 τ3) rfl ?_
      refine b_iload_n d_Se_leastCost_34 rfl rfl ?_
      obtain ⟨h4, H⟩ := H
      refine b_rowld d_Se_leastCost_35 (eg_83 τ3) h4 ?_
      refine b_iload_n d_Se_leastCost_36 rfl rfl ?_
      refine b_iconst (v := (0 : Int32)) d_Se_leastCost_37 (by decide) ?_
      obtain ⟨h5, H⟩ := H
      refine b_iast (h1 := enc (sB τ3 3 ((gX σ 4).toNatClampNeg) (upd (gB τ3 3 ((gX σ 4).toNatClampNeg)) x2.toNatClampNeg (0 : Int32)))) (f := gB τ3 3 ((gX σ 4).toNatClampNeg)) d_Se_leastCost_38 (er3 τ3 (vp_lt h4)) h5 (et3 τ3 (vp_lt h4) (upd (gB τ3 3 ((gX σ 4).toNatClampNeg)) x2.toNatClampNeg (0 : Int32))) ?_
      refine b_aload_n d_Se_leastCost_39 rfl rfl ?_
      refine b_getf (v := .ref 105) d_Se_leastCost_40 fl_Se_16 (eg_82 (sB τ3 3 ((gX σ 4).toNatClampNeg) (upd (gB τ3 3 ((gX σ 4).toNatClampNeg)) x2.toNatClampNeg (0 : Int32)))) rfl ?_
      refine b_iload_n d_Se_leastCost_43 rfl rfl ?_
      refine b_ldc (v := (1000000000 : Int32)) d_Se_leastCost_44 cn_Se_35 ?_
      refine b_iast (h1 := enc (sA (sB τ3 3 ((gX σ 4).toNatClampNeg) (upd (gB τ3 3 ((gX σ 4).toNatClampNeg)) x2.toNatClampNeg (0 : Int32))) 4 (upd (gA τ3 4) (gX σ 4).toNatClampNeg (1000000000 : Int32)))) d_Se_leastCost_46 (eg_105 (sB τ3 3 ((gX σ 4).toNatClampNeg) (upd (gB τ3 3 ((gX σ 4).toNatClampNeg)) x2.toNatClampNeg (0 : Int32)))) h4 (es_105 (sB τ3 3 ((gX σ 4).toNatClampNeg) (upd (gB τ3 3 ((gX σ 4).toNatClampNeg)) x2.toNatClampNeg (0 : Int32))) (upd (gA τ3 4) (gX σ 4).toNatClampNeg (1000000000 : Int32))) ?_
      refine b_iload_n d_Se_leastCost_47 rfl rfl ?_
      refine b_iconst (v := (1 : Int32)) d_Se_leastCost_48 (by decide) ?_
      refine b_isub d_Se_leastCost_49  ?_
      refine b_istore (ls' := [some (.ref 82), some (.ref 3), some (.int x2), some (.int (gX σ 4)), some (.int ((gX σ 4) - (1 : Int32)))]) d_Se_leastCost_50 (Nat.le_of_ble_eq_true rfl) rfl ?_
      exact b_mask [true, true, true, false, true] rfl H
    · have H := H.2 c6
      refine b_ldc (v := (1000000000 : Int32)) d_Se_leastCost_11 cn_Se_35 ?_
      exact b_iret (ty := .int) d_Se_leastCost_13 rfl rfl ⟨_, _, rfl, rfl, H⟩
set_option maxHeartbeats 4000000 in
set_option maxRecDepth 100000 in
theorem B_Se_leastCost_52 {S : XS} {Q : Int32 → St → Prop} (σ : St) (x2 : Int32) (x4 : Int32) (H : ((x4 < 0 → (vp_in (0 : Int32) 21) ∧ Q ((gA σ 4) (0 : Int32).toNatClampNeg) σ) ∧ (¬ x4 < 0 → CM S m_Mn_weighBreaks [.ref 3, .int x4] (enc σ) (qV (fun τ10 => CM S m_Se_weighFrom [.ref 82, .ref 3, .int x4, .int x2] (enc τ10) (qV (fun τ12 => BW S m_Se_leastCost 52 [some (.ref 82), some (.ref 3), some (.int x2), none, some (.int (x4 + (-1 : Int32)))] [] (enc τ12) (qI Q)))))))) : BW S m_Se_leastCost 52 [some (.ref 82), some (.ref 3), some (.int x2), none, some (.int x4)] [] (enc σ) (qI Q) := by
  refine b_iload d_Se_leastCost_52 rfl ?_
  refine b_if_lt (tgt := 77) d_Se_leastCost_54 (by decide) (fun c13 => ?_) (fun c13 => ?_)
  · have H := H.1 c13
    refine b_aload_n d_Se_leastCost_77 rfl rfl ?_
    refine b_getf (v := .ref 105) d_Se_leastCost_78 fl_Se_16 (eg_82 σ) rfl ?_
    refine b_iconst (v := (0 : Int32)) d_Se_leastCost_81 (by decide) ?_
    obtain ⟨h8, H⟩ := H
    refine b_iald d_Se_leastCost_82 (eg_105 σ) h8 ?_
    refine b_st2 (st' := [.int ((gA σ 4) (0 : Int32).toNatClampNeg)]) rfl ?_
    exact b_iret (ty := .int) d_Se_leastCost_83 rfl rfl ⟨_, _, rfl, rfl, H⟩
  · have H := H.2 c13
    refine b_aload_n d_Se_leastCost_57 rfl rfl ?_
    refine b_iload d_Se_leastCost_58 rfl ?_
    refine b_callVv (Mc := m_Mn_weighBreaks) (As := [.int x4]) (st := []) d_Se_leastCost_60 ⟨⟨kA_Mn_weighBreaks.1, kA_Mn_weighBreaks.2.1, kA_Mn_weighBreaks.2.2, by decide⟩, ml_Se_48, kV_Mn_weighBreaks⟩ (eg_3 σ) rfl rfl (Nat.le_of_ble_eq_true rfl) H (fun τ10 H => ?_)
    refine b_aload_n d_Se_leastCost_63 rfl rfl ?_
    refine b_aload_n d_Se_leastCost_64 rfl rfl ?_
    refine b_iload d_Se_leastCost_65 rfl ?_
    refine b_iload_n d_Se_leastCost_67 rfl rfl ?_
    refine b_callVv (Mc := m_Se_weighFrom) (As := [.ref 3, .int x4, .int x2]) (st := []) d_Se_leastCost_68 ⟨⟨kA_Se_weighFrom.1, kA_Se_weighFrom.2.1, kA_Se_weighFrom.2.2, by decide⟩, ml_Se_52, kV_Se_weighFrom⟩ (eg_82 τ10) rfl rfl (Nat.le_of_ble_eq_true rfl) H (fun τ12 H => ?_)
    refine b_iinc (v := (x4 + (-1 : Int32))) (ls' := [some (.ref 82), some (.ref 3), some (.int x2), none, some (.int (x4 + (-1 : Int32)))]) d_Se_leastCost_71 rfl rfl (Nat.le_of_ble_eq_true rfl) rfl ?_
    refine b_goto (tgt := 52) d_Se_leastCost_74 (by decide) ?_
    exact b_mask [true, true, true, true, true] rfl H
theorem C_Se_leastCost {S : XS} {Q : Int32 → St → Prop} (σ : St) (x2 : Int32) (H : BW S m_Se_leastCost 0 [some (.ref 82), some (.ref 3), some (.int x2), none, none] [] (enc σ) (qI Q)) : CM S m_Se_leastCost [.ref 82, .ref 3, .int x2] (enc σ) (qI Q) := b_meth (by decide) (Nat.le_of_ble_eq_true rfl) rfl H
theorem d_Se_placeAll_0 : decode m_Se_placeAll.2.1 0 = .ok (.aload_n 0, 1) := by decide +kernel
theorem d_Se_placeAll_1 : decode m_Se_placeAll.2.1 1 = .ok (.aload_n 1, 1) := by decide +kernel
theorem d_Se_placeAll_2 : decode m_Se_placeAll.2.1 2 = .ok (.getfield 36, 3) := by decide +kernel
theorem d_Se_placeAll_5 : decode m_Se_placeAll.2.1 5 = .ok (.iload_n 2, 1) := by decide +kernel
theorem d_Se_placeAll_6 : decode m_Se_placeAll.2.1 6 = .ok (.invokevirtual 56, 3) := by decide +kernel
theorem d_Se_placeAll_9 : decode m_Se_placeAll.2.1 9 = .ok (.iconst 0, 1) := by decide +kernel
theorem d_Se_placeAll_10 : decode m_Se_placeAll.2.1 10 = .ok (.istore_n 3, 1) := by decide +kernel
theorem d_Se_placeAll_11 : decode m_Se_placeAll.2.1 11 = .ok (.iconst 0, 1) := by decide +kernel
theorem d_Se_placeAll_12 : decode m_Se_placeAll.2.1 12 = .ok (.istore 4, 2) := by decide +kernel
theorem d_Se_placeAll_14 : decode m_Se_placeAll.2.1 14 = .ok (.iconst 0, 1) := by decide +kernel
theorem d_Se_placeAll_15 : decode m_Se_placeAll.2.1 15 = .ok (.istore 5, 2) := by decide +kernel
theorem d_Se_placeAll_17 : decode m_Se_placeAll.2.1 17 = .ok (.iload 5, 2) := by decide +kernel
theorem d_Se_placeAll_19 : decode m_Se_placeAll.2.1 19 = .ok (.aload_n 0, 1) := by decide +kernel
theorem d_Se_placeAll_20 : decode m_Se_placeAll.2.1 20 = .ok (.getfield 60, 3) := by decide +kernel
theorem d_Se_placeAll_23 : decode m_Se_placeAll.2.1 23 = .ok (.if_icmp .ge 140, 3) := by decide +kernel
theorem d_Se_placeAll_26 : decode m_Se_placeAll.2.1 26 = .ok (.iload 4, 2) := by decide +kernel
theorem d_Se_placeAll_28 : decode m_Se_placeAll.2.1 28 = .ok (.ifCond .eq 15, 3) := by decide +kernel
theorem d_Se_placeAll_31 : decode m_Se_placeAll.2.1 31 = .ok (.aload_n 0, 1) := by decide +kernel
theorem d_Se_placeAll_32 : decode m_Se_placeAll.2.1 32 = .ok (.getfield 11, 3) := by decide +kernel
theorem d_Se_placeAll_35 : decode m_Se_placeAll.2.1 35 = .ok (.iload 5, 2) := by decide +kernel
theorem d_Se_placeAll_37 : decode m_Se_placeAll.2.1 37 = .ok (.aaload, 1) := by decide +kernel
theorem d_Se_placeAll_38 : decode m_Se_placeAll.2.1 38 = .ok (.iload_n 3, 1) := by decide +kernel
theorem d_Se_placeAll_39 : decode m_Se_placeAll.2.1 39 = .ok (.iaload, 1) := by decide +kernel
theorem d_Se_placeAll_40 : decode m_Se_placeAll.2.1 40 = .ok (.goto 10, 3) := by decide +kernel
theorem d_Se_placeAll_43 : decode m_Se_placeAll.2.1 43 = .ok (.aload_n 0, 1) := by decide +kernel
theorem d_Se_placeAll_44 : decode m_Se_placeAll.2.1 44 = .ok (.getfield 16, 3) := by decide +kernel
theorem d_Se_placeAll_47 : decode m_Se_placeAll.2.1 47 = .ok (.iload 5, 2) := by decide +kernel
theorem d_Se_placeAll_49 : decode m_Se_placeAll.2.1 49 = .ok (.iaload, 1) := by decide +kernel
theorem d_Se_placeAll_50 : decode m_Se_placeAll.2.1 50 = .ok (.istore 6, 2) := by decide +kernel
theorem d_Se_placeAll_52 : decode m_Se_placeAll.2.1 52 = .ok (.aload_n 0, 1) := by decide +kernel
theorem d_Se_placeAll_53 : decode m_Se_placeAll.2.1 53 = .ok (.aload_n 1, 1) := by decide +kernel
theorem d_Se_placeAll_54 : decode m_Se_placeAll.2.1 54 = .ok (.iload 5, 2) := by decide +kernel
theorem d_Se_placeAll_56 : decode m_Se_placeAll.2.1 56 = .ok (.iload_n 3, 1) := by decide +kernel
theorem d_Se_placeAll_57 : decode m_Se_placeAll.2.1 57 = .ok (.iload 4, 2) := by decide +kernel
theorem d_Se_placeAll_59 : decode m_Se_placeAll.2.1 59 = .ok (.ifCond .eq 7, 3) := by decide +kernel
theorem d_Se_placeAll_62 : decode m_Se_placeAll.2.1 62 = .ok (.iconst 2, 1) := by decide +kernel
theorem d_Se_placeAll_63 : decode m_Se_placeAll.2.1 63 = .ok (.goto 4, 3) := by decide +kernel
theorem d_Se_placeAll_66 : decode m_Se_placeAll.2.1 66 = .ok (.iconst 0, 1) := by decide +kernel
theorem d_Se_placeAll_67 : decode m_Se_placeAll.2.1 67 = .ok (.iload 6, 2) := by decide +kernel
theorem d_Se_placeAll_69 : decode m_Se_placeAll.2.1 69 = .ok (.invokevirtual 63, 3) := by decide +kernel
theorem d_Se_placeAll_72 : decode m_Se_placeAll.2.1 72 = .ok (.istore 7, 2) := by decide +kernel
theorem d_Se_placeAll_74 : decode m_Se_placeAll.2.1 74 = .ok (.iload 7, 2) := by decide +kernel
theorem d_Se_placeAll_76 : decode m_Se_placeAll.2.1 76 = .ok (.iconst (-1), 1) := by decide +kernel
theorem d_Se_placeAll_77 : decode m_Se_placeAll.2.1 77 = .ok (.if_icmp .ne 16, 3) := by decide +kernel
theorem d_Se_placeAll_80 : decode m_Se_placeAll.2.1 80 = .ok (.aload_n 0, 1) := by decide +kernel
theorem d_Se_placeAll_81 : decode m_Se_placeAll.2.1 81 = .ok (.iload 5, 2) := by decide +kernel
theorem d_Se_placeAll_83 : decode m_Se_placeAll.2.1 83 = .ok (.iconst 1, 1) := by decide +kernel
theorem d_Se_placeAll_84 : decode m_Se_placeAll.2.1 84 = .ok (.iconst 0, 1) := by decide +kernel
theorem d_Se_placeAll_85 : decode m_Se_placeAll.2.1 85 = .ok (.iconst (-1), 1) := by decide +kernel
theorem d_Se_placeAll_86 : decode m_Se_placeAll.2.1 86 = .ok (.iconst 0, 1) := by decide +kernel
theorem d_Se_placeAll_87 : decode m_Se_placeAll.2.1 87 = .ok (.invokevirtual 67, 3) := by decide +kernel
theorem d_Se_placeAll_90 : decode m_Se_placeAll.2.1 90 = .ok (.goto 67, 3) := by decide +kernel
theorem d_Se_placeAll_93 : decode m_Se_placeAll.2.1 93 = .ok (.iconst 1, 1) := by decide +kernel
theorem d_Se_placeAll_94 : decode m_Se_placeAll.2.1 94 = .ok (.istore 4, 2) := by decide +kernel
theorem d_Se_placeAll_96 : decode m_Se_placeAll.2.1 96 = .ok (.iload_n 3, 1) := by decide +kernel
theorem d_Se_placeAll_97 : decode m_Se_placeAll.2.1 97 = .ok (.iload 7, 2) := by decide +kernel
theorem d_Se_placeAll_99 : decode m_Se_placeAll.2.1 99 = .ok (.iadd, 1) := by decide +kernel
theorem d_Se_placeAll_100 : decode m_Se_placeAll.2.1 100 = .ok (.istore_n 3, 1) := by decide +kernel
theorem d_Se_placeAll_101 : decode m_Se_placeAll.2.1 101 = .ok (.aload_n 0, 1) := by decide +kernel
theorem d_Se_placeAll_102 : decode m_Se_placeAll.2.1 102 = .ok (.aload_n 1, 1) := by decide +kernel
theorem d_Se_placeAll_103 : decode m_Se_placeAll.2.1 103 = .ok (.iload 5, 2) := by decide +kernel
theorem d_Se_placeAll_105 : decode m_Se_placeAll.2.1 105 = .ok (.iload_n 3, 1) := by decide +kernel
theorem d_Se_placeAll_106 : decode m_Se_placeAll.2.1 106 = .ok (.iload 6, 2) := by decide +kernel
theorem d_Se_placeAll_108 : decode m_Se_placeAll.2.1 108 = .ok (.iload 7, 2) := by decide +kernel
theorem d_Se_placeAll_110 : decode m_Se_placeAll.2.1 110 = .ok (.aload_n 1, 1) := by decide +kernel
theorem d_Se_placeAll_111 : decode m_Se_placeAll.2.1 111 = .ok (.getfield 71, 3) := by decide +kernel
theorem d_Se_placeAll_114 : decode m_Se_placeAll.2.1 114 = .ok (.imul, 1) := by decide +kernel
theorem d_Se_placeAll_115 : decode m_Se_placeAll.2.1 115 = .ok (.isub, 1) := by decide +kernel
theorem d_Se_placeAll_116 : decode m_Se_placeAll.2.1 116 = .ok (.invokevirtual 74, 3) := by decide +kernel
theorem d_Se_placeAll_119 : decode m_Se_placeAll.2.1 119 = .ok (.istore 8, 2) := by decide +kernel
theorem d_Se_placeAll_121 : decode m_Se_placeAll.2.1 121 = .ok (.aload_n 0, 1) := by decide +kernel
theorem d_Se_placeAll_122 : decode m_Se_placeAll.2.1 122 = .ok (.iload 5, 2) := by decide +kernel
theorem d_Se_placeAll_124 : decode m_Se_placeAll.2.1 124 = .ok (.iconst 0, 1) := by decide +kernel
theorem d_Se_placeAll_125 : decode m_Se_placeAll.2.1 125 = .ok (.iload 7, 2) := by decide +kernel
theorem d_Se_placeAll_127 : decode m_Se_placeAll.2.1 127 = .ok (.iload 8, 2) := by decide +kernel
theorem d_Se_placeAll_129 : decode m_Se_placeAll.2.1 129 = .ok (.ifCond .ne 7, 3) := by decide +kernel
theorem d_Se_placeAll_132 : decode m_Se_placeAll.2.1 132 = .ok (.iconst (-1), 1) := by decide +kernel
theorem d_Se_placeAll_133 : decode m_Se_placeAll.2.1 133 = .ok (.goto 4, 3) := by decide +kernel
theorem d_Se_placeAll_136 : decode m_Se_placeAll.2.1 136 = .ok (.iload_n 3, 1) := by decide +kernel
theorem d_Se_placeAll_137 : decode m_Se_placeAll.2.1 137 = .ok (.iload 8, 2) := by decide +kernel
theorem d_Se_placeAll_139 : decode m_Se_placeAll.2.1 139 = .ok (.invokevirtual 67, 3) := by decide +kernel
theorem d_Se_placeAll_142 : decode m_Se_placeAll.2.1 142 = .ok (.aload_n 0, 1) := by decide +kernel
theorem d_Se_placeAll_143 : decode m_Se_placeAll.2.1 143 = .ok (.aload_n 1, 1) := by decide +kernel
theorem d_Se_placeAll_144 : decode m_Se_placeAll.2.1 144 = .ok (.iload 5, 2) := by decide +kernel
theorem d_Se_placeAll_146 : decode m_Se_placeAll.2.1 146 = .ok (.iload_n 3, 1) := by decide +kernel
theorem d_Se_placeAll_147 : decode m_Se_placeAll.2.1 147 = .ok (.iload 8, 2) := by decide +kernel
theorem d_Se_placeAll_149 : decode m_Se_placeAll.2.1 149 = .ok (.invokevirtual 78, 3) := by decide +kernel
theorem d_Se_placeAll_152 : decode m_Se_placeAll.2.1 152 = .ok (.iload_n 3, 1) := by decide +kernel
theorem d_Se_placeAll_153 : decode m_Se_placeAll.2.1 153 = .ok (.iload 8, 2) := by decide +kernel
theorem d_Se_placeAll_155 : decode m_Se_placeAll.2.1 155 = .ok (.iadd, 1) := by decide +kernel
theorem d_Se_placeAll_156 : decode m_Se_placeAll.2.1 156 = .ok (.istore_n 3, 1) := by decide +kernel
theorem d_Se_placeAll_157 : decode m_Se_placeAll.2.1 157 = .ok (.iinc 5 1, 3) := by decide +kernel
theorem d_Se_placeAll_160 : decode m_Se_placeAll.2.1 160 = .ok (.goto (-143), 3) := by decide +kernel
theorem d_Se_placeAll_163 : decode m_Se_placeAll.2.1 163 = .ok (.return_, 1) := by decide +kernel
set_option maxHeartbeats 4000000 in
set_option maxRecDepth 100000 in
theorem B_Se_placeAll_0 {S : XS} {Q : St → Prop} (σ : St) (x2 : Int32) (H : CM S m_Se_forgetPlaces [.ref 82, .int (gX σ 4), .int x2] (enc σ) (qV (fun τ2 => BW S m_Se_placeAll 17 [some (.ref 82), some (.ref 3), none, some (.int (0 : Int32)), some (.int (0 : Int32)), some (.int (0 : Int32)), none, none, none] [] (enc τ2) (qV Q)))) : BW S m_Se_placeAll 0 [some (.ref 82), some (.ref 3), some (.int x2), none, none, none, none, none, none] [] (enc σ) (qV Q) := by
  refine b_aload_n d_Se_placeAll_0 rfl rfl ?_
  refine b_aload_n d_Se_placeAll_1 rfl rfl ?_
  refine b_getfN (v := .int (gX σ 4)) d_Se_placeAll_2 fn_Se_36 (eg_3 σ) rfl ?_
  refine b_iload_n d_Se_placeAll_5 rfl rfl ?_
  refine b_callVv (Mc := m_Se_forgetPlaces) (As := [.int (gX σ 4), .int x2]) (st := []) d_Se_placeAll_6 ⟨⟨kA_Se_forgetPlaces.1, kA_Se_forgetPlaces.2.1, kA_Se_forgetPlaces.2.2, by decide⟩, ml_Se_56, kV_Se_forgetPlaces⟩ (eg_82 σ) rfl rfl (Nat.le_of_ble_eq_true rfl) H (fun τ2 H => ?_)
  refine b_iconst (v := (0 : Int32)) d_Se_placeAll_9 (by decide) ?_
  refine b_istore_n (ls' := [some (.ref 82), some (.ref 3), some (.int x2), some (.int (0 : Int32)), none, none, none, none, none]) d_Se_placeAll_10 rfl (Nat.le_of_ble_eq_true rfl) rfl ?_
  refine b_iconst (v := (0 : Int32)) d_Se_placeAll_11 (by decide) ?_
  refine b_istore (ls' := [some (.ref 82), some (.ref 3), some (.int x2), some (.int (0 : Int32)), some (.int (0 : Int32)), none, none, none, none]) d_Se_placeAll_12 (Nat.le_of_ble_eq_true rfl) rfl ?_
  refine b_iconst (v := (0 : Int32)) d_Se_placeAll_14 (by decide) ?_
  refine b_istore (ls' := [some (.ref 82), some (.ref 3), some (.int x2), some (.int (0 : Int32)), some (.int (0 : Int32)), some (.int (0 : Int32)), none, none, none]) d_Se_placeAll_15 (Nat.le_of_ble_eq_true rfl) rfl ?_
  exact b_mask [true, true, false, true, true, true, true, true, true] rfl H
set_option maxHeartbeats 4000000 in
set_option maxRecDepth 100000 in
theorem B_Se_placeAll_17 {S : XS} {Q : St → Prop} (σ : St) (x3 : Int32) (x4 : Int32) (x5 : Int32) (H : (((gX σ 11) ≤ x5 → Q σ) ∧ (¬ (gX σ 11) ≤ x5 → ((x4 = 0 → (vp_in x5 21) ∧ ((x4 = 0 → CM S m_Se_fewestLeads [.ref 82, .ref 3, .int x5, .int x3, .int (0 : Int32), .int ((gA σ 4) x5.toNatClampNeg)] (enc σ) (qI (fun v4 τ5 => ((¬ v4 = (-1 : Int32) → CM S m_Se_fewestLines [.ref 82, .ref 3, .int x5, .int (x3 + v4), .int (((gA σ 4) x5.toNatClampNeg) - (v4 * (gX τ5 7)))] (enc τ5) (qI (fun v6 τ7 => ((¬ v6 = 0 → CM S m_Se_note [.ref 82, .int x5, .int (0 : Int32), .int v4, .int (x3 + v4), .int v6] (enc τ7) (qV (fun τ9 => CM S m_Se_placeLines [.ref 82, .ref 3, .int x5, .int (x3 + v4), .int v6] (enc τ9) (qV (fun τ11 => BW S m_Se_placeAll 17 [some (.ref 82), some (.ref 3), none, some (.int ((x3 + v4) + v6)), some (.int (1 : Int32)), some (.int (x5 + (1 : Int32))), none, none, none] [] (enc τ11) (qV Q)))))) ∧ (v6 = 0 → CM S m_Se_note [.ref 82, .int x5, .int (0 : Int32), .int v4, .int (-1 : Int32), .int v6] (enc τ7) (qV (fun τ13 => CM S m_Se_placeLines [.ref 82, .ref 3, .int x5, .int (x3 + v4), .int v6] (enc τ13) (qV (fun τ15 => BW S m_Se_placeAll 17 [some (.ref 82), some (.ref 3), none, some (.int ((x3 + v4) + v6)), some (.int (1 : Int32)), some (.int (x5 + (1 : Int32))), none, none, none] [] (enc τ15) (qV Q)))))))))) ∧ (v4 = (-1 : Int32) → CM S m_Se_note [.ref 82, .int x5, .int (1 : Int32), .int (0 : Int32), .int (-1 : Int32), .int (0 : Int32)] (enc τ5) (qV (fun τ18 => BW S m_Se_placeAll 17 [some (.ref 82), some (.ref 3), none, some (.int x3), some (.int x4), some (.int (x5 + (1 : Int32))), none, none, none] [] (enc τ18) (qV Q)))))))) ∧ (¬ x4 = 0 → CM S m_Se_fewestLeads [.ref 82, .ref 3, .int x5, .int x3, .int (2 : Int32), .int ((gA σ 4) x5.toNatClampNeg)] (enc σ) (qI (fun v20 τ21 => ((¬ v20 = (-1 : Int32) → CM S m_Se_fewestLines [.ref 82, .ref 3, .int x5, .int (x3 + v20), .int (((gA σ 4) x5.toNatClampNeg) - (v20 * (gX τ21 7)))] (enc τ21) (qI (fun v22 τ23 => ((¬ v22 = 0 → CM S m_Se_note [.ref 82, .int x5, .int (0 : Int32), .int v20, .int (x3 + v20), .int v22] (enc τ23) (qV (fun τ25 => CM S m_Se_placeLines [.ref 82, .ref 3, .int x5, .int (x3 + v20), .int v22] (enc τ25) (qV (fun τ27 => BW S m_Se_placeAll 17 [some (.ref 82), some (.ref 3), none, some (.int ((x3 + v20) + v22)), some (.int (1 : Int32)), some (.int (x5 + (1 : Int32))), none, none, none] [] (enc τ27) (qV Q)))))) ∧ (v22 = 0 → CM S m_Se_note [.ref 82, .int x5, .int (0 : Int32), .int v20, .int (-1 : Int32), .int v22] (enc τ23) (qV (fun τ29 => CM S m_Se_placeLines [.ref 82, .ref 3, .int x5, .int (x3 + v20), .int v22] (enc τ29) (qV (fun τ31 => BW S m_Se_placeAll 17 [some (.ref 82), some (.ref 3), none, some (.int ((x3 + v20) + v22)), some (.int (1 : Int32)), some (.int (x5 + (1 : Int32))), none, none, none] [] (enc τ31) (qV Q)))))))))) ∧ (v20 = (-1 : Int32) → CM S m_Se_note [.ref 82, .int x5, .int (1 : Int32), .int (0 : Int32), .int (-1 : Int32), .int (0 : Int32)] (enc τ21) (qV (fun τ34 => BW S m_Se_placeAll 17 [some (.ref 82), some (.ref 3), none, some (.int x3), some (.int x4), some (.int (x5 + (1 : Int32))), none, none, none] [] (enc τ34) (qV Q)))))))))) ∧ (¬ x4 = 0 → (vp_in x5 21) ∧ (vp_in x3 121) ∧ ((x4 = 0 → CM S m_Se_fewestLeads [.ref 82, .ref 3, .int x5, .int x3, .int (0 : Int32), .int (gB σ 3 x5.toNatClampNeg x3.toNatClampNeg)] (enc σ) (qI (fun v39 τ40 => ((¬ v39 = (-1 : Int32) → CM S m_Se_fewestLines [.ref 82, .ref 3, .int x5, .int (x3 + v39), .int ((gB σ 3 x5.toNatClampNeg x3.toNatClampNeg) - (v39 * (gX τ40 7)))] (enc τ40) (qI (fun v41 τ42 => ((¬ v41 = 0 → CM S m_Se_note [.ref 82, .int x5, .int (0 : Int32), .int v39, .int (x3 + v39), .int v41] (enc τ42) (qV (fun τ44 => CM S m_Se_placeLines [.ref 82, .ref 3, .int x5, .int (x3 + v39), .int v41] (enc τ44) (qV (fun τ46 => BW S m_Se_placeAll 17 [some (.ref 82), some (.ref 3), none, some (.int ((x3 + v39) + v41)), some (.int (1 : Int32)), some (.int (x5 + (1 : Int32))), none, none, none] [] (enc τ46) (qV Q)))))) ∧ (v41 = 0 → CM S m_Se_note [.ref 82, .int x5, .int (0 : Int32), .int v39, .int (-1 : Int32), .int v41] (enc τ42) (qV (fun τ48 => CM S m_Se_placeLines [.ref 82, .ref 3, .int x5, .int (x3 + v39), .int v41] (enc τ48) (qV (fun τ50 => BW S m_Se_placeAll 17 [some (.ref 82), some (.ref 3), none, some (.int ((x3 + v39) + v41)), some (.int (1 : Int32)), some (.int (x5 + (1 : Int32))), none, none, none] [] (enc τ50) (qV Q)))))))))) ∧ (v39 = (-1 : Int32) → CM S m_Se_note [.ref 82, .int x5, .int (1 : Int32), .int (0 : Int32), .int (-1 : Int32), .int (0 : Int32)] (enc τ40) (qV (fun τ53 => BW S m_Se_placeAll 17 [some (.ref 82), some (.ref 3), none, some (.int x3), some (.int x4), some (.int (x5 + (1 : Int32))), none, none, none] [] (enc τ53) (qV Q)))))))) ∧ (¬ x4 = 0 → CM S m_Se_fewestLeads [.ref 82, .ref 3, .int x5, .int x3, .int (2 : Int32), .int (gB σ 3 x5.toNatClampNeg x3.toNatClampNeg)] (enc σ) (qI (fun v55 τ56 => ((¬ v55 = (-1 : Int32) → CM S m_Se_fewestLines [.ref 82, .ref 3, .int x5, .int (x3 + v55), .int ((gB σ 3 x5.toNatClampNeg x3.toNatClampNeg) - (v55 * (gX τ56 7)))] (enc τ56) (qI (fun v57 τ58 => ((¬ v57 = 0 → CM S m_Se_note [.ref 82, .int x5, .int (0 : Int32), .int v55, .int (x3 + v55), .int v57] (enc τ58) (qV (fun τ60 => CM S m_Se_placeLines [.ref 82, .ref 3, .int x5, .int (x3 + v55), .int v57] (enc τ60) (qV (fun τ62 => BW S m_Se_placeAll 17 [some (.ref 82), some (.ref 3), none, some (.int ((x3 + v55) + v57)), some (.int (1 : Int32)), some (.int (x5 + (1 : Int32))), none, none, none] [] (enc τ62) (qV Q)))))) ∧ (v57 = 0 → CM S m_Se_note [.ref 82, .int x5, .int (0 : Int32), .int v55, .int (-1 : Int32), .int v57] (enc τ58) (qV (fun τ64 => CM S m_Se_placeLines [.ref 82, .ref 3, .int x5, .int (x3 + v55), .int v57] (enc τ64) (qV (fun τ66 => BW S m_Se_placeAll 17 [some (.ref 82), some (.ref 3), none, some (.int ((x3 + v55) + v57)), some (.int (1 : Int32)), some (.int (x5 + (1 : Int32))), none, none, none] [] (enc τ66) (qV Q)))))))))) ∧ (v55 = (-1 : Int32) → CM S m_Se_note [.ref 82, .int x5, .int (1 : Int32), .int (0 : Int32), .int (-1 : Int32), .int (0 : Int32)] (enc τ56) (qV (fun τ69 => BW S m_Se_placeAll 17 [some (.ref 82), some (.ref 3), none, some (.int x3), some (.int x4), some (.int (x5 + (1 : Int32))), none, none, none] [] (enc τ69) (qV Q)))))))))))))) : BW S m_Se_placeAll 17 [some (.ref 82), some (.ref 3), none, some (.int x3), some (.int x4), some (.int x5), none, none, none] [] (enc σ) (qV Q) := by
  refine b_iload d_Se_placeAll_17 rfl ?_
  refine b_aload_n d_Se_placeAll_19 rfl rfl ?_
  refine b_getf (v := .int (gX σ 11)) d_Se_placeAll_20 fl_Se_60 (eg_82 σ) rfl ?_
  refine b_icmp_ge (tgt := 163) d_Se_placeAll_23 (by decide) (fun c73 => ?_) (fun c73 => ?_)
  · have H := H.1 c73
    exact b_vret d_Se_placeAll_163 rfl ⟨_, rfl, rfl, H⟩
  · have H := H.2 c73
    refine b_iload d_Se_placeAll_26 rfl ?_
    refine b_if_eq (tgt := 43) d_Se_placeAll_28 (by decide) (fun c72 => ?_) (fun c72 => ?_)
    · have H := H.1 c72
      refine b_aload_n d_Se_placeAll_43 rfl rfl ?_
      refine b_getf (v := .ref 105) d_Se_placeAll_44 fl_Se_16 (eg_82 σ) rfl ?_
      refine b_iload d_Se_placeAll_47 rfl ?_
      obtain ⟨h3, H⟩ := H
      refine b_iald d_Se_placeAll_49 (eg_105 σ) h3 ?_
      refine b_st2 (st' := [.int ((gA σ 4) x5.toNatClampNeg)]) rfl ?_
      refine b_istore (ls' := [some (.ref 82), some (.ref 3), none, some (.int x3), some (.int x4), some (.int x5), some (.int ((gA σ 4) x5.toNatClampNeg)), none, none]) d_Se_placeAll_50 (Nat.le_of_ble_eq_true rfl) rfl ?_
      refine b_aload_n d_Se_placeAll_52 rfl rfl ?_
      refine b_aload_n d_Se_placeAll_53 rfl rfl ?_
      refine b_iload d_Se_placeAll_54 rfl ?_
      refine b_iload_n d_Se_placeAll_56 rfl rfl ?_
      refine b_iload d_Se_placeAll_57 rfl ?_
      refine b_if_eq (tgt := 66) d_Se_placeAll_59 (by decide) (fun c36 => ?_) (fun c36 => ?_)
      · have H := H.1 c36
        refine b_iconst (v := (0 : Int32)) d_Se_placeAll_66 (by decide) ?_
        refine b_iload d_Se_placeAll_67 rfl ?_
        refine b_callVi (Mc := m_Se_fewestLeads) (As := [.ref 3, .int x5, .int x3, .int (0 : Int32), .int ((gA σ 4) x5.toNatClampNeg)]) (st := []) d_Se_placeAll_69 ⟨⟨kA_Se_fewestLeads.1, kA_Se_fewestLeads.2.1, kA_Se_fewestLeads.2.2, by decide⟩, ml_Se_63, kV_Se_fewestLeads⟩ (eg_82 σ) rfl rfl (Nat.le_of_ble_eq_true rfl) H (fun v4 τ5 H => ?_)
        refine b_istore (ls' := [some (.ref 82), some (.ref 3), none, some (.int x3), some (.int x4), some (.int x5), some (.int ((gA σ 4) x5.toNatClampNeg)), some (.int v4), none]) d_Se_placeAll_72 (Nat.le_of_ble_eq_true rfl) rfl ?_
        refine b_iload d_Se_placeAll_74 rfl ?_
        refine b_iconst (v := (-1 : Int32)) d_Se_placeAll_76 (by decide) ?_
        refine b_icmp_ne (tgt := 93) d_Se_placeAll_77 (by decide) (fun c19 => ?_) (fun c19 => ?_)
        · have H := H.1 c19
          refine b_iconst (v := (1 : Int32)) d_Se_placeAll_93 (by decide) ?_
          refine b_istore (ls' := [some (.ref 82), some (.ref 3), none, some (.int x3), some (.int (1 : Int32)), some (.int x5), some (.int ((gA σ 4) x5.toNatClampNeg)), some (.int v4), none]) d_Se_placeAll_94 (Nat.le_of_ble_eq_true rfl) rfl ?_
          refine b_iload_n d_Se_placeAll_96 rfl rfl ?_
          refine b_iload d_Se_placeAll_97 rfl ?_
          refine b_iadd d_Se_placeAll_99  ?_
          refine b_istore_n (ls' := [some (.ref 82), some (.ref 3), none, some (.int (x3 + v4)), some (.int (1 : Int32)), some (.int x5), some (.int ((gA σ 4) x5.toNatClampNeg)), some (.int v4), none]) d_Se_placeAll_100 rfl (Nat.le_of_ble_eq_true rfl) rfl ?_
          refine b_aload_n d_Se_placeAll_101 rfl rfl ?_
          refine b_aload_n d_Se_placeAll_102 rfl rfl ?_
          refine b_iload d_Se_placeAll_103 rfl ?_
          refine b_iload_n d_Se_placeAll_105 rfl rfl ?_
          refine b_iload d_Se_placeAll_106 rfl ?_
          refine b_iload d_Se_placeAll_108 rfl ?_
          refine b_aload_n d_Se_placeAll_110 rfl rfl ?_
          refine b_getfN (v := .int (gX τ5 7)) d_Se_placeAll_111 fn_Se_71 (eg_3 τ5) rfl ?_
          refine b_imul d_Se_placeAll_114  ?_
          refine b_isub d_Se_placeAll_115  ?_
          refine b_callVi (Mc := m_Se_fewestLines) (As := [.ref 3, .int x5, .int (x3 + v4), .int (((gA σ 4) x5.toNatClampNeg) - (v4 * (gX τ5 7)))]) (st := []) d_Se_placeAll_116 ⟨⟨kA_Se_fewestLines.1, kA_Se_fewestLines.2.1, kA_Se_fewestLines.2.2, by decide⟩, ml_Se_74, kV_Se_fewestLines⟩ (eg_82 τ5) rfl rfl (Nat.le_of_ble_eq_true rfl) H (fun v6 τ7 H => ?_)
          refine b_istore (ls' := [some (.ref 82), some (.ref 3), none, some (.int (x3 + v4)), some (.int (1 : Int32)), some (.int x5), some (.int ((gA σ 4) x5.toNatClampNeg)), some (.int v4), some (.int v6)]) d_Se_placeAll_119 (Nat.le_of_ble_eq_true rfl) rfl ?_
          refine b_aload_n d_Se_placeAll_121 rfl rfl ?_
          refine b_iload d_Se_placeAll_122 rfl ?_
          refine b_iconst (v := (0 : Int32)) d_Se_placeAll_124 (by decide) ?_
          refine b_iload d_Se_placeAll_125 rfl ?_
          refine b_iload d_Se_placeAll_127 rfl ?_
          refine b_if_ne (tgt := 136) d_Se_placeAll_129 (by decide) (fun c16 => ?_) (fun c16 => ?_)
          · have H := H.1 c16
            refine b_iload_n d_Se_placeAll_136 rfl rfl ?_
            refine b_iload d_Se_placeAll_137 rfl ?_
            refine b_callVv (Mc := m_Se_note) (As := [.int x5, .int (0 : Int32), .int v4, .int (x3 + v4), .int v6]) (st := []) d_Se_placeAll_139 ⟨⟨kA_Se_note.1, kA_Se_note.2.1, kA_Se_note.2.2, by decide⟩, ml_Se_67, kV_Se_note⟩ (eg_82 τ7) rfl rfl (Nat.le_of_ble_eq_true rfl) H (fun τ9 H => ?_)
            refine b_aload_n d_Se_placeAll_142 rfl rfl ?_
            refine b_aload_n d_Se_placeAll_143 rfl rfl ?_
            refine b_iload d_Se_placeAll_144 rfl ?_
            refine b_iload_n d_Se_placeAll_146 rfl rfl ?_
            refine b_iload d_Se_placeAll_147 rfl ?_
            refine b_callVv (Mc := m_Se_placeLines) (As := [.ref 3, .int x5, .int (x3 + v4), .int v6]) (st := []) d_Se_placeAll_149 ⟨⟨kA_Se_placeLines.1, kA_Se_placeLines.2.1, kA_Se_placeLines.2.2, by decide⟩, ml_Se_78, kV_Se_placeLines⟩ (eg_82 τ9) rfl rfl (Nat.le_of_ble_eq_true rfl) H (fun τ11 H => ?_)
            refine b_iload_n d_Se_placeAll_152 rfl rfl ?_
            refine b_iload d_Se_placeAll_153 rfl ?_
            refine b_iadd d_Se_placeAll_155  ?_
            refine b_istore_n (ls' := [some (.ref 82), some (.ref 3), none, some (.int ((x3 + v4) + v6)), some (.int (1 : Int32)), some (.int x5), some (.int ((gA σ 4) x5.toNatClampNeg)), some (.int v4), some (.int v6)]) d_Se_placeAll_156 rfl (Nat.le_of_ble_eq_true rfl) rfl ?_
            refine b_iinc (v := (x5 + (1 : Int32))) (ls' := [some (.ref 82), some (.ref 3), none, some (.int ((x3 + v4) + v6)), some (.int (1 : Int32)), some (.int (x5 + (1 : Int32))), some (.int ((gA σ 4) x5.toNatClampNeg)), some (.int v4), some (.int v6)]) d_Se_placeAll_157 rfl rfl (Nat.le_of_ble_eq_true rfl) rfl ?_
            refine b_goto (tgt := 17) d_Se_placeAll_160 (by decide) ?_
            exact b_mask [true, true, true, true, true, true, false, false, false] rfl H
          · have H := H.2 c16
            refine b_iconst (v := (-1 : Int32)) d_Se_placeAll_132 (by decide) ?_
            refine b_goto (tgt := 137) d_Se_placeAll_133 (by decide) ?_
            refine b_iload d_Se_placeAll_137 rfl ?_
            refine b_callVv (Mc := m_Se_note) (As := [.int x5, .int (0 : Int32), .int v4, .int (-1 : Int32), .int v6]) (st := []) d_Se_placeAll_139 ⟨⟨kA_Se_note.1, kA_Se_note.2.1, kA_Se_note.2.2, by decide⟩, ml_Se_67, kV_Se_note⟩ (eg_82 τ7) rfl rfl (Nat.le_of_ble_eq_true rfl) H (fun τ13 H => ?_)
            refine b_aload_n d_Se_placeAll_142 rfl rfl ?_
            refine b_aload_n d_Se_placeAll_143 rfl rfl ?_
            refine b_iload d_Se_placeAll_144 rfl ?_
            refine b_iload_n d_Se_placeAll_146 rfl rfl ?_
            refine b_iload d_Se_placeAll_147 rfl ?_
            refine b_callVv (Mc := m_Se_placeLines) (As := [.ref 3, .int x5, .int (x3 + v4), .int v6]) (st := []) d_Se_placeAll_149 ⟨⟨kA_Se_placeLines.1, kA_Se_placeLines.2.1, kA_Se_placeLines.2.2, by decide⟩, ml_Se_78, kV_Se_placeLines⟩ (eg_82 τ13) rfl rfl (Nat.le_of_ble_eq_true rfl) H (fun τ15 H => ?_)
            refine b_iload_n d_Se_placeAll_152 rfl rfl ?_
            refine b_iload d_Se_placeAll_153 rfl ?_
            refine b_iadd d_Se_placeAll_155  ?_
            refine b_istore_n (ls' := [some (.ref 82), some (.ref 3), none, some (.int ((x3 + v4) + v6)), some (.int (1 : Int32)), some (.int x5), some (.int ((gA σ 4) x5.toNatClampNeg)), some (.int v4), some (.int v6)]) d_Se_placeAll_156 rfl (Nat.le_of_ble_eq_true rfl) rfl ?_
            refine b_iinc (v := (x5 + (1 : Int32))) (ls' := [some (.ref 82), some (.ref 3), none, some (.int ((x3 + v4) + v6)), some (.int (1 : Int32)), some (.int (x5 + (1 : Int32))), some (.int ((gA σ 4) x5.toNatClampNeg)), some (.int v4), some (.int v6)]) d_Se_placeAll_157 rfl rfl (Nat.le_of_ble_eq_true rfl) rfl ?_
            refine b_goto (tgt := 17) d_Se_placeAll_160 (by decide) ?_
            exact b_mask [true, true, true, true, true, true, false, false, false] rfl H
        · have H := H.2 c19
          refine b_aload_n d_Se_placeAll_80 rfl rfl ?_
          refine b_iload d_Se_placeAll_81 rfl ?_
          refine b_iconst (v := (1 : Int32)) d_Se_placeAll_83 (by decide) ?_
          refine b_iconst (v := (0 : Int32)) d_Se_placeAll_84 (by decide) ?_
          refine b_iconst (v := (-1 : Int32)) d_Se_placeAll_85 (by decide) ?_
          refine b_iconst (v := (0 : Int32)) d_Se_placeAll_86 (by decide) ?_
          refine b_callVv (Mc := m_Se_note) (As := [.int x5, .int (1 : Int32), .int (0 : Int32), .int (-1 : Int32), .int (0 : Int32)]) (st := []) d_Se_placeAll_87 ⟨⟨kA_Se_note.1, kA_Se_note.2.1, kA_Se_note.2.2, by decide⟩, ml_Se_67, kV_Se_note⟩ (eg_82 τ5) rfl rfl (Nat.le_of_ble_eq_true rfl) H (fun τ18 H => ?_)
          refine b_goto (tgt := 157) d_Se_placeAll_90 (by decide) ?_
          refine b_iinc (v := (x5 + (1 : Int32))) (ls' := [some (.ref 82), some (.ref 3), none, some (.int x3), some (.int x4), some (.int (x5 + (1 : Int32))), some (.int ((gA σ 4) x5.toNatClampNeg)), some (.int v4), none]) d_Se_placeAll_157 rfl rfl (Nat.le_of_ble_eq_true rfl) rfl ?_
          refine b_goto (tgt := 17) d_Se_placeAll_160 (by decide) ?_
          exact b_mask [true, true, true, true, true, true, false, false, true] rfl H
      · have H := H.2 c36
        refine b_iconst (v := (2 : Int32)) d_Se_placeAll_62 (by decide) ?_
        refine b_goto (tgt := 67) d_Se_placeAll_63 (by decide) ?_
        refine b_iload d_Se_placeAll_67 rfl ?_
        refine b_callVi (Mc := m_Se_fewestLeads) (As := [.ref 3, .int x5, .int x3, .int (2 : Int32), .int ((gA σ 4) x5.toNatClampNeg)]) (st := []) d_Se_placeAll_69 ⟨⟨kA_Se_fewestLeads.1, kA_Se_fewestLeads.2.1, kA_Se_fewestLeads.2.2, by decide⟩, ml_Se_63, kV_Se_fewestLeads⟩ (eg_82 σ) rfl rfl (Nat.le_of_ble_eq_true rfl) H (fun v20 τ21 H => ?_)
        refine b_istore (ls' := [some (.ref 82), some (.ref 3), none, some (.int x3), some (.int x4), some (.int x5), some (.int ((gA σ 4) x5.toNatClampNeg)), some (.int v20), none]) d_Se_placeAll_72 (Nat.le_of_ble_eq_true rfl) rfl ?_
        refine b_iload d_Se_placeAll_74 rfl ?_
        refine b_iconst (v := (-1 : Int32)) d_Se_placeAll_76 (by decide) ?_
        refine b_icmp_ne (tgt := 93) d_Se_placeAll_77 (by decide) (fun c35 => ?_) (fun c35 => ?_)
        · have H := H.1 c35
          refine b_iconst (v := (1 : Int32)) d_Se_placeAll_93 (by decide) ?_
          refine b_istore (ls' := [some (.ref 82), some (.ref 3), none, some (.int x3), some (.int (1 : Int32)), some (.int x5), some (.int ((gA σ 4) x5.toNatClampNeg)), some (.int v20), none]) d_Se_placeAll_94 (Nat.le_of_ble_eq_true rfl) rfl ?_
          refine b_iload_n d_Se_placeAll_96 rfl rfl ?_
          refine b_iload d_Se_placeAll_97 rfl ?_
          refine b_iadd d_Se_placeAll_99  ?_
          refine b_istore_n (ls' := [some (.ref 82), some (.ref 3), none, some (.int (x3 + v20)), some (.int (1 : Int32)), some (.int x5), some (.int ((gA σ 4) x5.toNatClampNeg)), some (.int v20), none]) d_Se_placeAll_100 rfl (Nat.le_of_ble_eq_true rfl) rfl ?_
          refine b_aload_n d_Se_placeAll_101 rfl rfl ?_
          refine b_aload_n d_Se_placeAll_102 rfl rfl ?_
          refine b_iload d_Se_placeAll_103 rfl ?_
          refine b_iload_n d_Se_placeAll_105 rfl rfl ?_
          refine b_iload d_Se_placeAll_106 rfl ?_
          refine b_iload d_Se_placeAll_108 rfl ?_
          refine b_aload_n d_Se_placeAll_110 rfl rfl ?_
          refine b_getfN (v := .int (gX τ21 7)) d_Se_placeAll_111 fn_Se_71 (eg_3 τ21) rfl ?_
          refine b_imul d_Se_placeAll_114  ?_
          refine b_isub d_Se_placeAll_115  ?_
          refine b_callVi (Mc := m_Se_fewestLines) (As := [.ref 3, .int x5, .int (x3 + v20), .int (((gA σ 4) x5.toNatClampNeg) - (v20 * (gX τ21 7)))]) (st := []) d_Se_placeAll_116 ⟨⟨kA_Se_fewestLines.1, kA_Se_fewestLines.2.1, kA_Se_fewestLines.2.2, by decide⟩, ml_Se_74, kV_Se_fewestLines⟩ (eg_82 τ21) rfl rfl (Nat.le_of_ble_eq_true rfl) H (fun v22 τ23 H => ?_)
          refine b_istore (ls' := [some (.ref 82), some (.ref 3), none, some (.int (x3 + v20)), some (.int (1 : Int32)), some (.int x5), some (.int ((gA σ 4) x5.toNatClampNeg)), some (.int v20), some (.int v22)]) d_Se_placeAll_119 (Nat.le_of_ble_eq_true rfl) rfl ?_
          refine b_aload_n d_Se_placeAll_121 rfl rfl ?_
          refine b_iload d_Se_placeAll_122 rfl ?_
          refine b_iconst (v := (0 : Int32)) d_Se_placeAll_124 (by decide) ?_
          refine b_iload d_Se_placeAll_125 rfl ?_
          refine b_iload d_Se_placeAll_127 rfl ?_
          refine b_if_ne (tgt := 136) d_Se_placeAll_129 (by decide) (fun c32 => ?_) (fun c32 => ?_)
          · have H := H.1 c32
            refine b_iload_n d_Se_placeAll_136 rfl rfl ?_
            refine b_iload d_Se_placeAll_137 rfl ?_
            refine b_callVv (Mc := m_Se_note) (As := [.int x5, .int (0 : Int32), .int v20, .int (x3 + v20), .int v22]) (st := []) d_Se_placeAll_139 ⟨⟨kA_Se_note.1, kA_Se_note.2.1, kA_Se_note.2.2, by decide⟩, ml_Se_67, kV_Se_note⟩ (eg_82 τ23) rfl rfl (Nat.le_of_ble_eq_true rfl) H (fun τ25 H => ?_)
            refine b_aload_n d_Se_placeAll_142 rfl rfl ?_
            refine b_aload_n d_Se_placeAll_143 rfl rfl ?_
            refine b_iload d_Se_placeAll_144 rfl ?_
            refine b_iload_n d_Se_placeAll_146 rfl rfl ?_
            refine b_iload d_Se_placeAll_147 rfl ?_
            refine b_callVv (Mc := m_Se_placeLines) (As := [.ref 3, .int x5, .int (x3 + v20), .int v22]) (st := []) d_Se_placeAll_149 ⟨⟨kA_Se_placeLines.1, kA_Se_placeLines.2.1, kA_Se_placeLines.2.2, by decide⟩, ml_Se_78, kV_Se_placeLines⟩ (eg_82 τ25) rfl rfl (Nat.le_of_ble_eq_true rfl) H (fun τ27 H => ?_)
            refine b_iload_n d_Se_placeAll_152 rfl rfl ?_
            refine b_iload d_Se_placeAll_153 rfl ?_
            refine b_iadd d_Se_placeAll_155  ?_
            refine b_istore_n (ls' := [some (.ref 82), some (.ref 3), none, some (.int ((x3 + v20) + v22)), some (.int (1 : Int32)), some (.int x5), some (.int ((gA σ 4) x5.toNatClampNeg)), some (.int v20), some (.int v22)]) d_Se_placeAll_156 rfl (Nat.le_of_ble_eq_true rfl) rfl ?_
            refine b_iinc (v := (x5 + (1 : Int32))) (ls' := [some (.ref 82), some (.ref 3), none, some (.int ((x3 + v20) + v22)), some (.int (1 : Int32)), some (.int (x5 + (1 : Int32))), some (.int ((gA σ 4) x5.toNatClampNeg)), some (.int v20), some (.int v22)]) d_Se_placeAll_157 rfl rfl (Nat.le_of_ble_eq_true rfl) rfl ?_
            refine b_goto (tgt := 17) d_Se_placeAll_160 (by decide) ?_
            exact b_mask [true, true, true, true, true, true, false, false, false] rfl H
          · have H := H.2 c32
            refine b_iconst (v := (-1 : Int32)) d_Se_placeAll_132 (by decide) ?_
            refine b_goto (tgt := 137) d_Se_placeAll_133 (by decide) ?_
            refine b_iload d_Se_placeAll_137 rfl ?_
            refine b_callVv (Mc := m_Se_note) (As := [.int x5, .int (0 : Int32), .int v20, .int (-1 : Int32), .int v22]) (st := []) d_Se_placeAll_139 ⟨⟨kA_Se_note.1, kA_Se_note.2.1, kA_Se_note.2.2, by decide⟩, ml_Se_67, kV_Se_note⟩ (eg_82 τ23) rfl rfl (Nat.le_of_ble_eq_true rfl) H (fun τ29 H => ?_)
            refine b_aload_n d_Se_placeAll_142 rfl rfl ?_
            refine b_aload_n d_Se_placeAll_143 rfl rfl ?_
            refine b_iload d_Se_placeAll_144 rfl ?_
            refine b_iload_n d_Se_placeAll_146 rfl rfl ?_
            refine b_iload d_Se_placeAll_147 rfl ?_
            refine b_callVv (Mc := m_Se_placeLines) (As := [.ref 3, .int x5, .int (x3 + v20), .int v22]) (st := []) d_Se_placeAll_149 ⟨⟨kA_Se_placeLines.1, kA_Se_placeLines.2.1, kA_Se_placeLines.2.2, by decide⟩, ml_Se_78, kV_Se_placeLines⟩ (eg_82 τ29) rfl rfl (Nat.le_of_ble_eq_true rfl) H (fun τ31 H => ?_)
            refine b_iload_n d_Se_placeAll_152 rfl rfl ?_
            refine b_iload d_Se_placeAll_153 rfl ?_
            refine b_iadd d_Se_placeAll_155  ?_
            refine b_istore_n (ls' := [some (.ref 82), some (.ref 3), none, some (.int ((x3 + v20) + v22)), some (.int (1 : Int32)), some (.int x5), some (.int ((gA σ 4) x5.toNatClampNeg)), some (.int v20), some (.int v22)]) d_Se_placeAll_156 rfl (Nat.le_of_ble_eq_true rfl) rfl ?_
            refine b_iinc (v := (x5 + (1 : Int32))) (ls' := [some (.ref 82), some (.ref 3), none, some (.int ((x3 + v20) + v22)), some (.int (1 : Int32)), some (.int (x5 + (1 : Int32))), some (.int ((gA σ 4) x5.toNatClampNeg)), some (.int v20), some (.int v22)]) d_Se_placeAll_157 rfl rfl (Nat.le_of_ble_eq_true rfl) rfl ?_
            refine b_goto (tgt := 17) d_Se_placeAll_160 (by decide) ?_
            exact b_mask [true, true, true, true, true, true, false, false, false] rfl H
        · have H := H.2 c35
          refine b_aload_n d_Se_placeAll_80 rfl rfl ?_
          refine b_iload d_Se_placeAll_81 rfl ?_
          refine b_iconst (v := (1 : Int32)) d_Se_placeAll_83 (by decide) ?_
          refine b_iconst (v := (0 : Int32)) d_Se_placeAll_84 (by decide) ?_
          refine b_iconst (v := (-1 : Int32)) d_Se_placeAll_85 (by decide) ?_
          refine b_iconst (v := (0 : Int32)) d_Se_placeAll_86 (by decide) ?_
          refine b_callVv (Mc := m_Se_note) (As := [.int x5, .int (1 : Int32), .int (0 : Int32), .int (-1 : Int32), .int (0 : Int32)]) (st := []) d_Se_placeAll_87 ⟨⟨kA_Se_note.1, kA_Se_note.2.1, kA_Se_note.2.2, by decide⟩, ml_Se_67, kV_Se_note⟩ (eg_82 τ21) rfl rfl (Nat.le_of_ble_eq_true rfl) H (fun τ34 H => ?_)
          refine b_goto (tgt := 157) d_Se_placeAll_90 (by decide) ?_
          refine b_iinc (v := (x5 + (1 : Int32))) (ls' := [some (.ref 82), some (.ref 3), none, some (.int x3), some (.int x4), some (.int (x5 + (1 : Int32))), some (.int ((gA σ 4) x5.toNatClampNeg)), some (.int v20), none]) d_Se_placeAll_157 rfl rfl (Nat.le_of_ble_eq_true rfl) rfl ?_
          refine b_goto (tgt := 17) d_Se_placeAll_160 (by decide) ?_
          exact b_mask [true, true, true, true, true, true, false, false, true] rfl H
    · have H := H.2 c72
      refine b_aload_n d_Se_placeAll_31 rfl rfl ?_
      refine b_getf (v := .ref 83) d_Se_placeAll_32 fl_Se_11 (eg_82 σ) rfl ?_
      refine b_iload d_Se_placeAll_35 rfl ?_
      obtain ⟨h37, H⟩ := H
      refine b_rowld d_Se_placeAll_37 (eg_83 σ) h37 ?_
      refine b_iload_n d_Se_placeAll_38 rfl rfl ?_
      obtain ⟨h38, H⟩ := H
      refine b_iald (f := gB σ 3 x5.toNatClampNeg) d_Se_placeAll_39 (er3 σ (vp_lt h37)) h38 ?_
      refine b_st2 (st' := [.int (gB σ 3 x5.toNatClampNeg x3.toNatClampNeg)]) rfl ?_
      refine b_goto (tgt := 50) d_Se_placeAll_40 (by decide) ?_
      refine b_istore (ls' := [some (.ref 82), some (.ref 3), none, some (.int x3), some (.int x4), some (.int x5), some (.int (gB σ 3 x5.toNatClampNeg x3.toNatClampNeg)), none, none]) d_Se_placeAll_50 (Nat.le_of_ble_eq_true rfl) rfl ?_
      refine b_aload_n d_Se_placeAll_52 rfl rfl ?_
      refine b_aload_n d_Se_placeAll_53 rfl rfl ?_
      refine b_iload d_Se_placeAll_54 rfl ?_
      refine b_iload_n d_Se_placeAll_56 rfl rfl ?_
      refine b_iload d_Se_placeAll_57 rfl ?_
      refine b_if_eq (tgt := 66) d_Se_placeAll_59 (by decide) (fun c71 => ?_) (fun c71 => ?_)
      · have H := H.1 c71
        refine b_iconst (v := (0 : Int32)) d_Se_placeAll_66 (by decide) ?_
        refine b_iload d_Se_placeAll_67 rfl ?_
        refine b_callVi (Mc := m_Se_fewestLeads) (As := [.ref 3, .int x5, .int x3, .int (0 : Int32), .int (gB σ 3 x5.toNatClampNeg x3.toNatClampNeg)]) (st := []) d_Se_placeAll_69 ⟨⟨kA_Se_fewestLeads.1, kA_Se_fewestLeads.2.1, kA_Se_fewestLeads.2.2, by decide⟩, ml_Se_63, kV_Se_fewestLeads⟩ (eg_82 σ) rfl rfl (Nat.le_of_ble_eq_true rfl) H (fun v39 τ40 H => ?_)
        refine b_istore (ls' := [some (.ref 82), some (.ref 3), none, some (.int x3), some (.int x4), some (.int x5), some (.int (gB σ 3 x5.toNatClampNeg x3.toNatClampNeg)), some (.int v39), none]) d_Se_placeAll_72 (Nat.le_of_ble_eq_true rfl) rfl ?_
        refine b_iload d_Se_placeAll_74 rfl ?_
        refine b_iconst (v := (-1 : Int32)) d_Se_placeAll_76 (by decide) ?_
        refine b_icmp_ne (tgt := 93) d_Se_placeAll_77 (by decide) (fun c54 => ?_) (fun c54 => ?_)
        · have H := H.1 c54
          refine b_iconst (v := (1 : Int32)) d_Se_placeAll_93 (by decide) ?_
          refine b_istore (ls' := [some (.ref 82), some (.ref 3), none, some (.int x3), some (.int (1 : Int32)), some (.int x5), some (.int (gB σ 3 x5.toNatClampNeg x3.toNatClampNeg)), some (.int v39), none]) d_Se_placeAll_94 (Nat.le_of_ble_eq_true rfl) rfl ?_
          refine b_iload_n d_Se_placeAll_96 rfl rfl ?_
          refine b_iload d_Se_placeAll_97 rfl ?_
          refine b_iadd d_Se_placeAll_99  ?_
          refine b_istore_n (ls' := [some (.ref 82), some (.ref 3), none, some (.int (x3 + v39)), some (.int (1 : Int32)), some (.int x5), some (.int (gB σ 3 x5.toNatClampNeg x3.toNatClampNeg)), some (.int v39), none]) d_Se_placeAll_100 rfl (Nat.le_of_ble_eq_true rfl) rfl ?_
          refine b_aload_n d_Se_placeAll_101 rfl rfl ?_
          refine b_aload_n d_Se_placeAll_102 rfl rfl ?_
          refine b_iload d_Se_placeAll_103 rfl ?_
          refine b_iload_n d_Se_placeAll_105 rfl rfl ?_
          refine b_iload d_Se_placeAll_106 rfl ?_
          refine b_iload d_Se_placeAll_108 rfl ?_
          refine b_aload_n d_Se_placeAll_110 rfl rfl ?_
          refine b_getfN (v := .int (gX τ40 7)) d_Se_placeAll_111 fn_Se_71 (eg_3 τ40) rfl ?_
          refine b_imul d_Se_placeAll_114  ?_
          refine b_isub d_Se_placeAll_115  ?_
          refine b_callVi (Mc := m_Se_fewestLines) (As := [.ref 3, .int x5, .int (x3 + v39), .int ((gB σ 3 x5.toNatClampNeg x3.toNatClampNeg) - (v39 * (gX τ40 7)))]) (st := []) d_Se_placeAll_116 ⟨⟨kA_Se_fewestLines.1, kA_Se_fewestLines.2.1, kA_Se_fewestLines.2.2, by decide⟩, ml_Se_74, kV_Se_fewestLines⟩ (eg_82 τ40) rfl rfl (Nat.le_of_ble_eq_true rfl) H (fun v41 τ42 H => ?_)
          refine b_istore (ls' := [some (.ref 82), some (.ref 3), none, some (.int (x3 + v39)), some (.int (1 : Int32)), some (.int x5), some (.int (gB σ 3 x5.toNatClampNeg x3.toNatClampNeg)), some (.int v39), some (.int v41)]) d_Se_placeAll_119 (Nat.le_of_ble_eq_true rfl) rfl ?_
          refine b_aload_n d_Se_placeAll_121 rfl rfl ?_
          refine b_iload d_Se_placeAll_122 rfl ?_
          refine b_iconst (v := (0 : Int32)) d_Se_placeAll_124 (by decide) ?_
          refine b_iload d_Se_placeAll_125 rfl ?_
          refine b_iload d_Se_placeAll_127 rfl ?_
          refine b_if_ne (tgt := 136) d_Se_placeAll_129 (by decide) (fun c51 => ?_) (fun c51 => ?_)
          · have H := H.1 c51
            refine b_iload_n d_Se_placeAll_136 rfl rfl ?_
            refine b_iload d_Se_placeAll_137 rfl ?_
            refine b_callVv (Mc := m_Se_note) (As := [.int x5, .int (0 : Int32), .int v39, .int (x3 + v39), .int v41]) (st := []) d_Se_placeAll_139 ⟨⟨kA_Se_note.1, kA_Se_note.2.1, kA_Se_note.2.2, by decide⟩, ml_Se_67, kV_Se_note⟩ (eg_82 τ42) rfl rfl (Nat.le_of_ble_eq_true rfl) H (fun τ44 H => ?_)
            refine b_aload_n d_Se_placeAll_142 rfl rfl ?_
            refine b_aload_n d_Se_placeAll_143 rfl rfl ?_
            refine b_iload d_Se_placeAll_144 rfl ?_
            refine b_iload_n d_Se_placeAll_146 rfl rfl ?_
            refine b_iload d_Se_placeAll_147 rfl ?_
            refine b_callVv (Mc := m_Se_placeLines) (As := [.ref 3, .int x5, .int (x3 + v39), .int v41]) (st := []) d_Se_placeAll_149 ⟨⟨kA_Se_placeLines.1, kA_Se_placeLines.2.1, kA_Se_placeLines.2.2, by decide⟩, ml_Se_78, kV_Se_placeLines⟩ (eg_82 τ44) rfl rfl (Nat.le_of_ble_eq_true rfl) H (fun τ46 H => ?_)
            refine b_iload_n d_Se_placeAll_152 rfl rfl ?_
            refine b_iload d_Se_placeAll_153 rfl ?_
            refine b_iadd d_Se_placeAll_155  ?_
            refine b_istore_n (ls' := [some (.ref 82), some (.ref 3), none, some (.int ((x3 + v39) + v41)), some (.int (1 : Int32)), some (.int x5), some (.int (gB σ 3 x5.toNatClampNeg x3.toNatClampNeg)), some (.int v39), some (.int v41)]) d_Se_placeAll_156 rfl (Nat.le_of_ble_eq_true rfl) rfl ?_
            refine b_iinc (v := (x5 + (1 : Int32))) (ls' := [some (.ref 82), some (.ref 3), none, some (.int ((x3 + v39) + v41)), some (.int (1 : Int32)), some (.int (x5 + (1 : Int32))), some (.int (gB σ 3 x5.toNatClampNeg x3.toNatClampNeg)), some (.int v39), some (.int v41)]) d_Se_placeAll_157 rfl rfl (Nat.le_of_ble_eq_true rfl) rfl ?_
            refine b_goto (tgt := 17) d_Se_placeAll_160 (by decide) ?_
            exact b_mask [true, true, true, true, true, true, false, false, false] rfl H
          · have H := H.2 c51
            refine b_iconst (v := (-1 : Int32)) d_Se_placeAll_132 (by decide) ?_
            refine b_goto (tgt := 137) d_Se_placeAll_133 (by decide) ?_
            refine b_iload d_Se_placeAll_137 rfl ?_
            refine b_callVv (Mc := m_Se_note) (As := [.int x5, .int (0 : Int32), .int v39, .int (-1 : Int32), .int v41]) (st := []) d_Se_placeAll_139 ⟨⟨kA_Se_note.1, kA_Se_note.2.1, kA_Se_note.2.2, by decide⟩, ml_Se_67, kV_Se_note⟩ (eg_82 τ42) rfl rfl (Nat.le_of_ble_eq_true rfl) H (fun τ48 H => ?_)
            refine b_aload_n d_Se_placeAll_142 rfl rfl ?_
            refine b_aload_n d_Se_placeAll_143 rfl rfl ?_
            refine b_iload d_Se_placeAll_144 rfl ?_
            refine b_iload_n d_Se_placeAll_146 rfl rfl ?_
            refine b_iload d_Se_placeAll_147 rfl ?_
            refine b_callVv (Mc := m_Se_placeLines) (As := [.ref 3, .int x5, .int (x3 + v39), .int v41]) (st := []) d_Se_placeAll_149 ⟨⟨kA_Se_placeLines.1, kA_Se_placeLines.2.1, kA_Se_placeLines.2.2, by decide⟩, ml_Se_78, kV_Se_placeLines⟩ (eg_82 τ48) rfl rfl (Nat.le_of_ble_eq_true rfl) H (fun τ50 H => ?_)
            refine b_iload_n d_Se_placeAll_152 rfl rfl ?_
            refine b_iload d_Se_placeAll_153 rfl ?_
            refine b_iadd d_Se_placeAll_155  ?_
            refine b_istore_n (ls' := [some (.ref 82), some (.ref 3), none, some (.int ((x3 + v39) + v41)), some (.int (1 : Int32)), some (.int x5), some (.int (gB σ 3 x5.toNatClampNeg x3.toNatClampNeg)), some (.int v39), some (.int v41)]) d_Se_placeAll_156 rfl (Nat.le_of_ble_eq_true rfl) rfl ?_
            refine b_iinc (v := (x5 + (1 : Int32))) (ls' := [some (.ref 82), some (.ref 3), none, some (.int ((x3 + v39) + v41)), some (.int (1 : Int32)), some (.int (x5 + (1 : Int32))), some (.int (gB σ 3 x5.toNatClampNeg x3.toNatClampNeg)), some (.int v39), some (.int v41)]) d_Se_placeAll_157 rfl rfl (Nat.le_of_ble_eq_true rfl) rfl ?_
            refine b_goto (tgt := 17) d_Se_placeAll_160 (by decide) ?_
            exact b_mask [true, true, true, true, true, true, false, false, false] rfl H
        · have H := H.2 c54
          refine b_aload_n d_Se_placeAll_80 rfl rfl ?_
          refine b_iload d_Se_placeAll_81 rfl ?_
          refine b_iconst (v := (1 : Int32)) d_Se_placeAll_83 (by decide) ?_
          refine b_iconst (v := (0 : Int32)) d_Se_placeAll_84 (by decide) ?_
          refine b_iconst (v := (-1 : Int32)) d_Se_placeAll_85 (by decide) ?_
          refine b_iconst (v := (0 : Int32)) d_Se_placeAll_86 (by decide) ?_
          refine b_callVv (Mc := m_Se_note) (As := [.int x5, .int (1 : Int32), .int (0 : Int32), .int (-1 : Int32), .int (0 : Int32)]) (st := []) d_Se_placeAll_87 ⟨⟨kA_Se_note.1, kA_Se_note.2.1, kA_Se_note.2.2, by decide⟩, ml_Se_67, kV_Se_note⟩ (eg_82 τ40) rfl rfl (Nat.le_of_ble_eq_true rfl) H (fun τ53 H => ?_)
          refine b_goto (tgt := 157) d_Se_placeAll_90 (by decide) ?_
          refine b_iinc (v := (x5 + (1 : Int32))) (ls' := [some (.ref 82), some (.ref 3), none, some (.int x3), some (.int x4), some (.int (x5 + (1 : Int32))), some (.int (gB σ 3 x5.toNatClampNeg x3.toNatClampNeg)), some (.int v39), none]) d_Se_placeAll_157 rfl rfl (Nat.le_of_ble_eq_true rfl) rfl ?_
          refine b_goto (tgt := 17) d_Se_placeAll_160 (by decide) ?_
          exact b_mask [true, true, true, true, true, true, false, false, true] rfl H
      · have H := H.2 c71
        refine b_iconst (v := (2 : Int32)) d_Se_placeAll_62 (by decide) ?_
        refine b_goto (tgt := 67) d_Se_placeAll_63 (by decide) ?_
        refine b_iload d_Se_placeAll_67 rfl ?_
        refine b_callVi (Mc := m_Se_fewestLeads) (As := [.ref 3, .int x5, .int x3, .int (2 : Int32), .int (gB σ 3 x5.toNatClampNeg x3.toNatClampNeg)]) (st := []) d_Se_placeAll_69 ⟨⟨kA_Se_fewestLeads.1, kA_Se_fewestLeads.2.1, kA_Se_fewestLeads.2.2, by decide⟩, ml_Se_63, kV_Se_fewestLeads⟩ (eg_82 σ) rfl rfl (Nat.le_of_ble_eq_true rfl) H (fun v55 τ56 H => ?_)
        refine b_istore (ls' := [some (.ref 82), some (.ref 3), none, some (.int x3), some (.int x4), some (.int x5), some (.int (gB σ 3 x5.toNatClampNeg x3.toNatClampNeg)), some (.int v55), none]) d_Se_placeAll_72 (Nat.le_of_ble_eq_true rfl) rfl ?_
        refine b_iload d_Se_placeAll_74 rfl ?_
        refine b_iconst (v := (-1 : Int32)) d_Se_placeAll_76 (by decide) ?_
        refine b_icmp_ne (tgt := 93) d_Se_placeAll_77 (by decide) (fun c70 => ?_) (fun c70 => ?_)
        · have H := H.1 c70
          refine b_iconst (v := (1 : Int32)) d_Se_placeAll_93 (by decide) ?_
          refine b_istore (ls' := [some (.ref 82), some (.ref 3), none, some (.int x3), some (.int (1 : Int32)), some (.int x5), some (.int (gB σ 3 x5.toNatClampNeg x3.toNatClampNeg)), some (.int v55), none]) d_Se_placeAll_94 (Nat.le_of_ble_eq_true rfl) rfl ?_
          refine b_iload_n d_Se_placeAll_96 rfl rfl ?_
          refine b_iload d_Se_placeAll_97 rfl ?_
          refine b_iadd d_Se_placeAll_99  ?_
          refine b_istore_n (ls' := [some (.ref 82), some (.ref 3), none, some (.int (x3 + v55)), some (.int (1 : Int32)), some (.int x5), some (.int (gB σ 3 x5.toNatClampNeg x3.toNatClampNeg)), some (.int v55), none]) d_Se_placeAll_100 rfl (Nat.le_of_ble_eq_true rfl) rfl ?_
          refine b_aload_n d_Se_placeAll_101 rfl rfl ?_
          refine b_aload_n d_Se_placeAll_102 rfl rfl ?_
          refine b_iload d_Se_placeAll_103 rfl ?_
          refine b_iload_n d_Se_placeAll_105 rfl rfl ?_
          refine b_iload d_Se_placeAll_106 rfl ?_
          refine b_iload d_Se_placeAll_108 rfl ?_
          refine b_aload_n d_Se_placeAll_110 rfl rfl ?_
          refine b_getfN (v := .int (gX τ56 7)) d_Se_placeAll_111 fn_Se_71 (eg_3 τ56) rfl ?_
          refine b_imul d_Se_placeAll_114  ?_
          refine b_isub d_Se_placeAll_115  ?_
          refine b_callVi (Mc := m_Se_fewestLines) (As := [.ref 3, .int x5, .int (x3 + v55), .int ((gB σ 3 x5.toNatClampNeg x3.toNatClampNeg) - (v55 * (gX τ56 7)))]) (st := []) d_Se_placeAll_116 ⟨⟨kA_Se_fewestLines.1, kA_Se_fewestLines.2.1, kA_Se_fewestLines.2.2, by decide⟩, ml_Se_74, kV_Se_fewestLines⟩ (eg_82 τ56) rfl rfl (Nat.le_of_ble_eq_true rfl) H (fun v57 τ58 H => ?_)
          refine b_istore (ls' := [some (.ref 82), some (.ref 3), none, some (.int (x3 + v55)), some (.int (1 : Int32)), some (.int x5), some (.int (gB σ 3 x5.toNatClampNeg x3.toNatClampNeg)), some (.int v55), some (.int v57)]) d_Se_placeAll_119 (Nat.le_of_ble_eq_true rfl) rfl ?_
          refine b_aload_n d_Se_placeAll_121 rfl rfl ?_
          refine b_iload d_Se_placeAll_122 rfl ?_
          refine b_iconst (v := (0 : Int32)) d_Se_placeAll_124 (by decide) ?_
          refine b_iload d_Se_placeAll_125 rfl ?_
          refine b_iload d_Se_placeAll_127 rfl ?_
          refine b_if_ne (tgt := 136) d_Se_placeAll_129 (by decide) (fun c67 => ?_) (fun c67 => ?_)
          · have H := H.1 c67
            refine b_iload_n d_Se_placeAll_136 rfl rfl ?_
            refine b_iload d_Se_placeAll_137 rfl ?_
            refine b_callVv (Mc := m_Se_note) (As := [.int x5, .int (0 : Int32), .int v55, .int (x3 + v55), .int v57]) (st := []) d_Se_placeAll_139 ⟨⟨kA_Se_note.1, kA_Se_note.2.1, kA_Se_note.2.2, by decide⟩, ml_Se_67, kV_Se_note⟩ (eg_82 τ58) rfl rfl (Nat.le_of_ble_eq_true rfl) H (fun τ60 H => ?_)
            refine b_aload_n d_Se_placeAll_142 rfl rfl ?_
            refine b_aload_n d_Se_placeAll_143 rfl rfl ?_
            refine b_iload d_Se_placeAll_144 rfl ?_
            refine b_iload_n d_Se_placeAll_146 rfl rfl ?_
            refine b_iload d_Se_placeAll_147 rfl ?_
            refine b_callVv (Mc := m_Se_placeLines) (As := [.ref 3, .int x5, .int (x3 + v55), .int v57]) (st := []) d_Se_placeAll_149 ⟨⟨kA_Se_placeLines.1, kA_Se_placeLines.2.1, kA_Se_placeLines.2.2, by decide⟩, ml_Se_78, kV_Se_placeLines⟩ (eg_82 τ60) rfl rfl (Nat.le_of_ble_eq_true rfl) H (fun τ62 H => ?_)
            refine b_iload_n d_Se_placeAll_152 rfl rfl ?_
            refine b_iload d_Se_placeAll_153 rfl ?_
            refine b_iadd d_Se_placeAll_155  ?_
            refine b_istore_n (ls' := [some (.ref 82), some (.ref 3), none, some (.int ((x3 + v55) + v57)), some (.int (1 : Int32)), some (.int x5), some (.int (gB σ 3 x5.toNatClampNeg x3.toNatClampNeg)), some (.int v55), some (.int v57)]) d_Se_placeAll_156 rfl (Nat.le_of_ble_eq_true rfl) rfl ?_
            refine b_iinc (v := (x5 + (1 : Int32))) (ls' := [some (.ref 82), some (.ref 3), none, some (.int ((x3 + v55) + v57)), some (.int (1 : Int32)), some (.int (x5 + (1 : Int32))), some (.int (gB σ 3 x5.toNatClampNeg x3.toNatClampNeg)), some (.int v55), some (.int v57)]) d_Se_placeAll_157 rfl rfl (Nat.le_of_ble_eq_true rfl) rfl ?_
            refine b_goto (tgt := 17) d_Se_placeAll_160 (by decide) ?_
            exact b_mask [true, true, true, true, true, true, false, false, false] rfl H
          · have H := H.2 c67
            refine b_iconst (v := (-1 : Int32)) d_Se_placeAll_132 (by decide) ?_
            refine b_goto (tgt := 137) d_Se_placeAll_133 (by decide) ?_
            refine b_iload d_Se_placeAll_137 rfl ?_
            refine b_callVv (Mc := m_Se_note) (As := [.int x5, .int (0 : Int32), .int v55, .int (-1 : Int32), .int v57]) (st := []) d_Se_placeAll_139 ⟨⟨kA_Se_note.1, kA_Se_note.2.1, kA_Se_note.2.2, by decide⟩, ml_Se_67, kV_Se_note⟩ (eg_82 τ58) rfl rfl (Nat.le_of_ble_eq_true rfl) H (fun τ64 H => ?_)
            refine b_aload_n d_Se_placeAll_142 rfl rfl ?_
            refine b_aload_n d_Se_placeAll_143 rfl rfl ?_
            refine b_iload d_Se_placeAll_144 rfl ?_
            refine b_iload_n d_Se_placeAll_146 rfl rfl ?_
            refine b_iload d_Se_placeAll_147 rfl ?_
            refine b_callVv (Mc := m_Se_placeLines) (As := [.ref 3, .int x5, .int (x3 + v55), .int v57]) (st := []) d_Se_placeAll_149 ⟨⟨kA_Se_placeLines.1, kA_Se_placeLines.2.1, kA_Se_placeLines.2.2, by decide⟩, ml_Se_78, kV_Se_placeLines⟩ (eg_82 τ64) rfl rfl (Nat.le_of_ble_eq_true rfl) H (fun τ66 H => ?_)
            refine b_iload_n d_Se_placeAll_152 rfl rfl ?_
            refine b_iload d_Se_placeAll_153 rfl ?_
            refine b_iadd d_Se_placeAll_155  ?_
            refine b_istore_n (ls' := [some (.ref 82), some (.ref 3), none, some (.int ((x3 + v55) + v57)), some (.int (1 : Int32)), some (.int x5), some (.int (gB σ 3 x5.toNatClampNeg x3.toNatClampNeg)), some (.int v55), some (.int v57)]) d_Se_placeAll_156 rfl (Nat.le_of_ble_eq_true rfl) rfl ?_
            refine b_iinc (v := (x5 + (1 : Int32))) (ls' := [some (.ref 82), some (.ref 3), none, some (.int ((x3 + v55) + v57)), some (.int (1 : Int32)), some (.int (x5 + (1 : Int32))), some (.int (gB σ 3 x5.toNatClampNeg x3.toNatClampNeg)), some (.int v55), some (.int v57)]) d_Se_placeAll_157 rfl rfl (Nat.le_of_ble_eq_true rfl) rfl ?_
            refine b_goto (tgt := 17) d_Se_placeAll_160 (by decide) ?_
            exact b_mask [true, true, true, true, true, true, false, false, false] rfl H
        · have H := H.2 c70
          refine b_aload_n d_Se_placeAll_80 rfl rfl ?_
          refine b_iload d_Se_placeAll_81 rfl ?_
          refine b_iconst (v := (1 : Int32)) d_Se_placeAll_83 (by decide) ?_
          refine b_iconst (v := (0 : Int32)) d_Se_placeAll_84 (by decide) ?_
          refine b_iconst (v := (-1 : Int32)) d_Se_placeAll_85 (by decide) ?_
          refine b_iconst (v := (0 : Int32)) d_Se_placeAll_86 (by decide) ?_
          refine b_callVv (Mc := m_Se_note) (As := [.int x5, .int (1 : Int32), .int (0 : Int32), .int (-1 : Int32), .int (0 : Int32)]) (st := []) d_Se_placeAll_87 ⟨⟨kA_Se_note.1, kA_Se_note.2.1, kA_Se_note.2.2, by decide⟩, ml_Se_67, kV_Se_note⟩ (eg_82 τ56) rfl rfl (Nat.le_of_ble_eq_true rfl) H (fun τ69 H => ?_)
          refine b_goto (tgt := 157) d_Se_placeAll_90 (by decide) ?_
          refine b_iinc (v := (x5 + (1 : Int32))) (ls' := [some (.ref 82), some (.ref 3), none, some (.int x3), some (.int x4), some (.int (x5 + (1 : Int32))), some (.int (gB σ 3 x5.toNatClampNeg x3.toNatClampNeg)), some (.int v55), none]) d_Se_placeAll_157 rfl rfl (Nat.le_of_ble_eq_true rfl) rfl ?_
          refine b_goto (tgt := 17) d_Se_placeAll_160 (by decide) ?_
          exact b_mask [true, true, true, true, true, true, false, false, true] rfl H
theorem C_Se_placeAll {S : XS} {Q : St → Prop} (σ : St) (x2 : Int32) (H : BW S m_Se_placeAll 0 [some (.ref 82), some (.ref 3), some (.int x2), none, none, none, none, none, none] [] (enc σ) (qV Q)) : CM S m_Se_placeAll [.ref 82, .ref 3, .int x2] (enc σ) (qV Q) := b_meth (by decide) (Nat.le_of_ble_eq_true rfl) rfl H
theorem d_Se_ofParagraph_0 : decode m_Se_ofParagraph.2.1 0 = .ok (.iload_n 1, 1) := by decide +kernel
theorem d_Se_ofParagraph_1 : decode m_Se_ofParagraph.2.1 1 = .ok (.ifCond .lt 20, 3) := by decide +kernel
theorem d_Se_ofParagraph_4 : decode m_Se_ofParagraph.2.1 4 = .ok (.iload_n 1, 1) := by decide +kernel
theorem d_Se_ofParagraph_5 : decode m_Se_ofParagraph.2.1 5 = .ok (.aload_n 0, 1) := by decide +kernel
theorem d_Se_ofParagraph_6 : decode m_Se_ofParagraph.2.1 6 = .ok (.getfield 60, 3) := by decide +kernel
theorem d_Se_ofParagraph_9 : decode m_Se_ofParagraph.2.1 9 = .ok (.if_icmp .ge 12, 3) := by decide +kernel
theorem d_Se_ofParagraph_12 : decode m_Se_ofParagraph.2.1 12 = .ok (.iload_n 2, 1) := by decide +kernel
theorem d_Se_ofParagraph_13 : decode m_Se_ofParagraph.2.1 13 = .ok (.ifCond .lt 8, 3) := by decide +kernel
theorem d_Se_ofParagraph_16 : decode m_Se_ofParagraph.2.1 16 = .ok (.iload_n 2, 1) := by decide +kernel
theorem d_Se_ofParagraph_17 : decode m_Se_ofParagraph.2.1 17 = .ok (.iconst 4, 1) := by decide +kernel
theorem d_Se_ofParagraph_18 : decode m_Se_ofParagraph.2.1 18 = .ok (.if_icmp .lt 5, 3) := by decide +kernel
theorem d_Se_ofParagraph_21 : decode m_Se_ofParagraph.2.1 21 = .ok (.iconst (-1), 1) := by decide +kernel
theorem d_Se_ofParagraph_22 : decode m_Se_ofParagraph.2.1 22 = .ok (.ireturn, 1) := by decide +kernel
theorem d_Se_ofParagraph_23 : decode m_Se_ofParagraph.2.1 23 = .ok (.aload_n 0, 1) := by decide +kernel
theorem d_Se_ofParagraph_24 : decode m_Se_ofParagraph.2.1 24 = .ok (.getfield 23, 3) := by decide +kernel
theorem d_Se_ofParagraph_27 : decode m_Se_ofParagraph.2.1 27 = .ok (.iload_n 1, 1) := by decide +kernel
theorem d_Se_ofParagraph_28 : decode m_Se_ofParagraph.2.1 28 = .ok (.aaload, 1) := by decide +kernel
theorem d_Se_ofParagraph_29 : decode m_Se_ofParagraph.2.1 29 = .ok (.iload_n 2, 1) := by decide +kernel
theorem d_Se_ofParagraph_30 : decode m_Se_ofParagraph.2.1 30 = .ok (.iaload, 1) := by decide +kernel
theorem d_Se_ofParagraph_31 : decode m_Se_ofParagraph.2.1 31 = .ok (.ireturn, 1) := by decide +kernel
set_option maxHeartbeats 4000000 in
set_option maxRecDepth 100000 in
theorem B_Se_ofParagraph_0 {S : XS} {Q : Int32 → St → Prop} (σ : St) (x1 : Int32) (x2 : Int32) (H : ((x1 < 0 → Q (-1 : Int32) σ) ∧ (¬ x1 < 0 → (((gX σ 11) ≤ x1 → Q (-1 : Int32) σ) ∧ (¬ (gX σ 11) ≤ x1 → ((x2 < 0 → Q (-1 : Int32) σ) ∧ (¬ x2 < 0 → ((x2 < (4 : Int32) → (vp_in x1 20) ∧ (vp_in x2 4) ∧ Q (gB σ 4 x1.toNatClampNeg x2.toNatClampNeg) σ) ∧ (¬ x2 < (4 : Int32) → Q (-1 : Int32) σ))))))))) : BW S m_Se_ofParagraph 0 [some (.ref 82), some (.int x1), some (.int x2)] [] (enc σ) (qI Q) := by
  refine b_iload_n d_Se_ofParagraph_0 rfl rfl ?_
  refine b_if_lt (tgt := 21) d_Se_ofParagraph_1 (by decide) (fun c6 => ?_) (fun c6 => ?_)
  · have H := H.1 c6
    refine b_iconst (v := (-1 : Int32)) d_Se_ofParagraph_21 (by decide) ?_
    exact b_iret (ty := .int) d_Se_ofParagraph_22 rfl rfl ⟨_, _, rfl, rfl, H⟩
  · have H := H.2 c6
    refine b_iload_n d_Se_ofParagraph_4 rfl rfl ?_
    refine b_aload_n d_Se_ofParagraph_5 rfl rfl ?_
    refine b_getf (v := .int (gX σ 11)) d_Se_ofParagraph_6 fl_Se_60 (eg_82 σ) rfl ?_
    refine b_icmp_ge (tgt := 21) d_Se_ofParagraph_9 (by decide) (fun c5 => ?_) (fun c5 => ?_)
    · have H := H.1 c5
      refine b_iconst (v := (-1 : Int32)) d_Se_ofParagraph_21 (by decide) ?_
      exact b_iret (ty := .int) d_Se_ofParagraph_22 rfl rfl ⟨_, _, rfl, rfl, H⟩
    · have H := H.2 c5
      refine b_iload_n d_Se_ofParagraph_12 rfl rfl ?_
      refine b_if_lt (tgt := 21) d_Se_ofParagraph_13 (by decide) (fun c4 => ?_) (fun c4 => ?_)
      · have H := H.1 c4
        refine b_iconst (v := (-1 : Int32)) d_Se_ofParagraph_21 (by decide) ?_
        exact b_iret (ty := .int) d_Se_ofParagraph_22 rfl rfl ⟨_, _, rfl, rfl, H⟩
      · have H := H.2 c4
        refine b_iload_n d_Se_ofParagraph_16 rfl rfl ?_
        refine b_iconst (v := (4 : Int32)) d_Se_ofParagraph_17 (by decide) ?_
        refine b_icmp_lt (tgt := 23) d_Se_ofParagraph_18 (by decide) (fun c3 => ?_) (fun c3 => ?_)
        · have H := H.1 c3
          refine b_aload_n d_Se_ofParagraph_23 rfl rfl ?_
          refine b_getf (v := .ref 107) d_Se_ofParagraph_24 fl_Se_23 (eg_82 σ) rfl ?_
          refine b_iload_n d_Se_ofParagraph_27 rfl rfl ?_
          obtain ⟨h1, H⟩ := H
          refine b_rowld d_Se_ofParagraph_28 (eg_107 σ) h1 ?_
          refine b_iload_n d_Se_ofParagraph_29 rfl rfl ?_
          obtain ⟨h2, H⟩ := H
          refine b_iald (f := gB σ 4 x1.toNatClampNeg) d_Se_ofParagraph_30 (er4 σ (vp_lt h1)) h2 ?_
          refine b_st2 (st' := [.int (gB σ 4 x1.toNatClampNeg x2.toNatClampNeg)]) rfl ?_
          exact b_iret (ty := .int) d_Se_ofParagraph_31 rfl rfl ⟨_, _, rfl, rfl, H⟩
        · have H := H.2 c3
          refine b_iconst (v := (-1 : Int32)) d_Se_ofParagraph_21 (by decide) ?_
          exact b_iret (ty := .int) d_Se_ofParagraph_22 rfl rfl ⟨_, _, rfl, rfl, H⟩
theorem C_Se_ofParagraph {S : XS} {Q : Int32 → St → Prop} (σ : St) (x1 : Int32) (x2 : Int32) (H : BW S m_Se_ofParagraph 0 [some (.ref 82), some (.int x1), some (.int x2)] [] (enc σ) (qI Q)) : CM S m_Se_ofParagraph [.ref 82, .int x1, .int x2] (enc σ) (qI Q) := b_meth (by decide) (Nat.le_of_ble_eq_true rfl) rfl H
theorem d_Se_ofLine_0 : decode m_Se_ofLine.2.1 0 = .ok (.iload_n 1, 1) := by decide +kernel
theorem d_Se_ofLine_1 : decode m_Se_ofLine.2.1 1 = .ok (.ifCond .lt 11, 3) := by decide +kernel
theorem d_Se_ofLine_4 : decode m_Se_ofLine.2.1 4 = .ok (.iload_n 1, 1) := by decide +kernel
theorem d_Se_ofLine_5 : decode m_Se_ofLine.2.1 5 = .ok (.aload_n 0, 1) := by decide +kernel
theorem d_Se_ofLine_6 : decode m_Se_ofLine.2.1 6 = .ok (.getfield 82, 3) := by decide +kernel
theorem d_Se_ofLine_9 : decode m_Se_ofLine.2.1 9 = .ok (.if_icmp .lt 5, 3) := by decide +kernel
theorem d_Se_ofLine_12 : decode m_Se_ofLine.2.1 12 = .ok (.iconst (-1), 1) := by decide +kernel
theorem d_Se_ofLine_13 : decode m_Se_ofLine.2.1 13 = .ok (.ireturn, 1) := by decide +kernel
theorem d_Se_ofLine_14 : decode m_Se_ofLine.2.1 14 = .ok (.iload_n 2, 1) := by decide +kernel
theorem d_Se_ofLine_15 : decode m_Se_ofLine.2.1 15 = .ok (.tableswitch 46 0 2 #[25, 32, 39], 25) := by decide +kernel
theorem d_Se_ofLine_40 : decode m_Se_ofLine.2.1 40 = .ok (.aload_n 0, 1) := by decide +kernel
theorem d_Se_ofLine_41 : decode m_Se_ofLine.2.1 41 = .ok (.getfield 26, 3) := by decide +kernel
theorem d_Se_ofLine_44 : decode m_Se_ofLine.2.1 44 = .ok (.iload_n 1, 1) := by decide +kernel
theorem d_Se_ofLine_45 : decode m_Se_ofLine.2.1 45 = .ok (.iaload, 1) := by decide +kernel
theorem d_Se_ofLine_46 : decode m_Se_ofLine.2.1 46 = .ok (.ireturn, 1) := by decide +kernel
theorem d_Se_ofLine_47 : decode m_Se_ofLine.2.1 47 = .ok (.aload_n 0, 1) := by decide +kernel
theorem d_Se_ofLine_48 : decode m_Se_ofLine.2.1 48 = .ok (.getfield 29, 3) := by decide +kernel
theorem d_Se_ofLine_51 : decode m_Se_ofLine.2.1 51 = .ok (.iload_n 1, 1) := by decide +kernel
theorem d_Se_ofLine_52 : decode m_Se_ofLine.2.1 52 = .ok (.iaload, 1) := by decide +kernel
theorem d_Se_ofLine_53 : decode m_Se_ofLine.2.1 53 = .ok (.ireturn, 1) := by decide +kernel
theorem d_Se_ofLine_54 : decode m_Se_ofLine.2.1 54 = .ok (.aload_n 0, 1) := by decide +kernel
theorem d_Se_ofLine_55 : decode m_Se_ofLine.2.1 55 = .ok (.getfield 32, 3) := by decide +kernel
theorem d_Se_ofLine_58 : decode m_Se_ofLine.2.1 58 = .ok (.iload_n 1, 1) := by decide +kernel
theorem d_Se_ofLine_59 : decode m_Se_ofLine.2.1 59 = .ok (.iaload, 1) := by decide +kernel
theorem d_Se_ofLine_60 : decode m_Se_ofLine.2.1 60 = .ok (.ireturn, 1) := by decide +kernel
theorem d_Se_ofLine_61 : decode m_Se_ofLine.2.1 61 = .ok (.iconst (-1), 1) := by decide +kernel
theorem d_Se_ofLine_62 : decode m_Se_ofLine.2.1 62 = .ok (.ireturn, 1) := by decide +kernel
set_option maxHeartbeats 4000000 in
set_option maxRecDepth 100000 in
theorem B_Se_ofLine_0 {S : XS} {Q : Int32 → St → Prop} (σ : St) (x1 : Int32) (x2 : Int32) (H : ((x1 < 0 → Q (-1 : Int32) σ) ∧ (¬ x1 < 0 → ((x1 < (gX σ 12) → ((x2 = (0 : Int32) → (vp_in x1 120) ∧ Q ((gA σ 6) x1.toNatClampNeg) σ) ∧ (x2 = (1 : Int32) → (vp_in x1 120) ∧ Q ((gA σ 7) x1.toNatClampNeg) σ) ∧ (x2 = (2 : Int32) → (vp_in x1 120) ∧ Q ((gA σ 8) x1.toNatClampNeg) σ) ∧ (¬ x2 = (0 : Int32) → ¬ x2 = (1 : Int32) → ¬ x2 = (2 : Int32) → Q (-1 : Int32) σ))) ∧ (¬ x1 < (gX σ 12) → Q (-1 : Int32) σ))))) : BW S m_Se_ofLine 0 [some (.ref 82), some (.int x1), some (.int x2)] [] (enc σ) (qI Q) := by
  refine b_iload_n d_Se_ofLine_0 rfl rfl ?_
  refine b_if_lt (tgt := 12) d_Se_ofLine_1 (by decide) (fun c8 => ?_) (fun c8 => ?_)
  · have H := H.1 c8
    refine b_iconst (v := (-1 : Int32)) d_Se_ofLine_12 (by decide) ?_
    exact b_iret (ty := .int) d_Se_ofLine_13 rfl rfl ⟨_, _, rfl, rfl, H⟩
  · have H := H.2 c8
    refine b_iload_n d_Se_ofLine_4 rfl rfl ?_
    refine b_aload_n d_Se_ofLine_5 rfl rfl ?_
    refine b_getf (v := .int (gX σ 12)) d_Se_ofLine_6 fl_Se_82 (eg_82 σ) rfl ?_
    refine b_icmp_lt (tgt := 14) d_Se_ofLine_9 (by decide) (fun c7 => ?_) (fun c7 => ?_)
    · have H := H.1 c7
      refine b_iload_n d_Se_ofLine_14 rfl rfl ?_
      by_cases c1 : x2 = (0 : Int32)
      · have H := H.1 c1
        refine b_tableIn (off := 25) (tgt := 40) d_Se_ofLine_15 (by rw [c1]; decide) (by rw [c1]; decide) (by rw [c1]; rfl) (by decide) ?_
        refine b_aload_n d_Se_ofLine_40 rfl rfl ?_
        refine b_getf (v := .ref 128) d_Se_ofLine_41 fl_Se_26 (eg_82 σ) rfl ?_
        refine b_iload_n d_Se_ofLine_44 rfl rfl ?_
        obtain ⟨h4, H⟩ := H
        refine b_iald d_Se_ofLine_45 (eg_128 σ) h4 ?_
        refine b_st2 (st' := [.int ((gA σ 6) x1.toNatClampNeg)]) rfl ?_
        exact b_iret (ty := .int) d_Se_ofLine_46 rfl rfl ⟨_, _, rfl, rfl, H⟩
      by_cases c2 : x2 = (1 : Int32)
      · have H := H.2.1 c2
        refine b_tableIn (off := 32) (tgt := 47) d_Se_ofLine_15 (by rw [c2]; decide) (by rw [c2]; decide) (by rw [c2]; rfl) (by decide) ?_
        refine b_aload_n d_Se_ofLine_47 rfl rfl ?_
        refine b_getf (v := .ref 129) d_Se_ofLine_48 fl_Se_29 (eg_82 σ) rfl ?_
        refine b_iload_n d_Se_ofLine_51 rfl rfl ?_
        obtain ⟨h5, H⟩ := H
        refine b_iald d_Se_ofLine_52 (eg_129 σ) h5 ?_
        refine b_st2 (st' := [.int ((gA σ 7) x1.toNatClampNeg)]) rfl ?_
        exact b_iret (ty := .int) d_Se_ofLine_53 rfl rfl ⟨_, _, rfl, rfl, H⟩
      by_cases c3 : x2 = (2 : Int32)
      · have H := H.2.2.1 c3
        refine b_tableIn (off := 39) (tgt := 54) d_Se_ofLine_15 (by rw [c3]; decide) (by rw [c3]; decide) (by rw [c3]; rfl) (by decide) ?_
        refine b_aload_n d_Se_ofLine_54 rfl rfl ?_
        refine b_getf (v := .ref 130) d_Se_ofLine_55 fl_Se_32 (eg_82 σ) rfl ?_
        refine b_iload_n d_Se_ofLine_58 rfl rfl ?_
        obtain ⟨h6, H⟩ := H
        refine b_iald d_Se_ofLine_59 (eg_130 σ) h6 ?_
        refine b_st2 (st' := [.int ((gA σ 8) x1.toNatClampNeg)]) rfl ?_
        exact b_iret (ty := .int) d_Se_ofLine_60 rfl rfl ⟨_, _, rfl, rfl, H⟩
      have H := H.2.2.2 c1 c2 c3
      refine b_tableOut (tgt := 61) d_Se_ofLine_15 (tabOut 3 (fun k hk e => ?_)) (by decide) ?_
      · match k, hk, e with
        | 0, _, e => exact c1 (Int32.toInt_inj.mp (e.trans (by decide)))
        | 1, _, e => exact c2 (Int32.toInt_inj.mp (e.trans (by decide)))
        | 2, _, e => exact c3 (Int32.toInt_inj.mp (e.trans (by decide)))
        | (k + 3), hk, _ => omega
      refine b_iconst (v := (-1 : Int32)) d_Se_ofLine_61 (by decide) ?_
      exact b_iret (ty := .int) d_Se_ofLine_62 rfl rfl ⟨_, _, rfl, rfl, H⟩
    · have H := H.2 c7
      refine b_iconst (v := (-1 : Int32)) d_Se_ofLine_12 (by decide) ?_
      exact b_iret (ty := .int) d_Se_ofLine_13 rfl rfl ⟨_, _, rfl, rfl, H⟩
theorem C_Se_ofLine {S : XS} {Q : Int32 → St → Prop} (σ : St) (x1 : Int32) (x2 : Int32) (H : BW S m_Se_ofLine 0 [some (.ref 82), some (.int x1), some (.int x2)] [] (enc σ) (qI Q)) : CM S m_Se_ofLine [.ref 82, .int x1, .int x2] (enc σ) (qI Q) := b_meth (by decide) (Nat.le_of_ble_eq_true rfl) rfl H
theorem d_Se_weighFrom_0 : decode m_Se_weighFrom.2.1 0 = .ok (.aload_n 1, 1) := by decide +kernel
theorem d_Se_weighFrom_1 : decode m_Se_weighFrom.2.1 1 = .ok (.iload_n 2, 1) := by decide +kernel
theorem d_Se_weighFrom_2 : decode m_Se_weighFrom.2.1 2 = .ok (.invokevirtual 85, 3) := by decide +kernel
theorem d_Se_weighFrom_5 : decode m_Se_weighFrom.2.1 5 = .ok (.istore 4, 2) := by decide +kernel
theorem d_Se_weighFrom_7 : decode m_Se_weighFrom.2.1 7 = .ok (.iconst 0, 1) := by decide +kernel
theorem d_Se_weighFrom_8 : decode m_Se_weighFrom.2.1 8 = .ok (.istore 5, 2) := by decide +kernel
theorem d_Se_weighFrom_10 : decode m_Se_weighFrom.2.1 10 = .ok (.iload 5, 2) := by decide +kernel
theorem d_Se_weighFrom_12 : decode m_Se_weighFrom.2.1 12 = .ok (.iload_n 3, 1) := by decide +kernel
theorem d_Se_weighFrom_13 : decode m_Se_weighFrom.2.1 13 = .ok (.if_icmp .gt 25, 3) := by decide +kernel
theorem d_Se_weighFrom_16 : decode m_Se_weighFrom.2.1 16 = .ok (.aload_n 0, 1) := by decide +kernel
theorem d_Se_weighFrom_17 : decode m_Se_weighFrom.2.1 17 = .ok (.getfield 20, 3) := by decide +kernel
theorem d_Se_weighFrom_20 : decode m_Se_weighFrom.2.1 20 = .ok (.iload 5, 2) := by decide +kernel
theorem d_Se_weighFrom_22 : decode m_Se_weighFrom.2.1 22 = .ok (.aload_n 0, 1) := by decide +kernel
theorem d_Se_weighFrom_23 : decode m_Se_weighFrom.2.1 23 = .ok (.aload_n 1, 1) := by decide +kernel
theorem d_Se_weighFrom_24 : decode m_Se_weighFrom.2.1 24 = .ok (.iload_n 2, 1) := by decide +kernel
theorem d_Se_weighFrom_25 : decode m_Se_weighFrom.2.1 25 = .ok (.iload 5, 2) := by decide +kernel
theorem d_Se_weighFrom_27 : decode m_Se_weighFrom.2.1 27 = .ok (.iload_n 3, 1) := by decide +kernel
theorem d_Se_weighFrom_28 : decode m_Se_weighFrom.2.1 28 = .ok (.invokevirtual 89, 3) := by decide +kernel
theorem d_Se_weighFrom_31 : decode m_Se_weighFrom.2.1 31 = .ok (.iastore, 1) := by decide +kernel
theorem d_Se_weighFrom_32 : decode m_Se_weighFrom.2.1 32 = .ok (.iinc 5 1, 3) := by decide +kernel
theorem d_Se_weighFrom_35 : decode m_Se_weighFrom.2.1 35 = .ok (.goto (-25), 3) := by decide +kernel
theorem d_Se_weighFrom_38 : decode m_Se_weighFrom.2.1 38 = .ok (.iconst 0, 1) := by decide +kernel
theorem d_Se_weighFrom_39 : decode m_Se_weighFrom.2.1 39 = .ok (.istore 5, 2) := by decide +kernel
theorem d_Se_weighFrom_41 : decode m_Se_weighFrom.2.1 41 = .ok (.iload 5, 2) := by decide +kernel
theorem d_Se_weighFrom_43 : decode m_Se_weighFrom.2.1 43 = .ok (.iload_n 3, 1) := by decide +kernel
theorem d_Se_weighFrom_44 : decode m_Se_weighFrom.2.1 44 = .ok (.if_icmp .gt 89, 3) := by decide +kernel
theorem d_Se_weighFrom_47 : decode m_Se_weighFrom.2.1 47 = .ok (.iload 4, 2) := by decide +kernel
theorem d_Se_weighFrom_49 : decode m_Se_weighFrom.2.1 49 = .ok (.aload_n 0, 1) := by decide +kernel
theorem d_Se_weighFrom_50 : decode m_Se_weighFrom.2.1 50 = .ok (.getfield 11, 3) := by decide +kernel
theorem d_Se_weighFrom_53 : decode m_Se_weighFrom.2.1 53 = .ok (.iload_n 2, 1) := by decide +kernel
theorem d_Se_weighFrom_54 : decode m_Se_weighFrom.2.1 54 = .ok (.iconst 1, 1) := by decide +kernel
theorem d_Se_weighFrom_55 : decode m_Se_weighFrom.2.1 55 = .ok (.iadd, 1) := by decide +kernel
theorem d_Se_weighFrom_56 : decode m_Se_weighFrom.2.1 56 = .ok (.aaload, 1) := by decide +kernel
theorem d_Se_weighFrom_57 : decode m_Se_weighFrom.2.1 57 = .ok (.iload 5, 2) := by decide +kernel
theorem d_Se_weighFrom_59 : decode m_Se_weighFrom.2.1 59 = .ok (.iaload, 1) := by decide +kernel
theorem d_Se_weighFrom_60 : decode m_Se_weighFrom.2.1 60 = .ok (.invokestatic 92, 3) := by decide +kernel
theorem d_Se_weighFrom_63 : decode m_Se_weighFrom.2.1 63 = .ok (.istore 6, 2) := by decide +kernel
theorem d_Se_weighFrom_65 : decode m_Se_weighFrom.2.1 65 = .ok (.iconst 0, 1) := by decide +kernel
theorem d_Se_weighFrom_66 : decode m_Se_weighFrom.2.1 66 = .ok (.istore 7, 2) := by decide +kernel
theorem d_Se_weighFrom_68 : decode m_Se_weighFrom.2.1 68 = .ok (.iload 7, 2) := by decide +kernel
theorem d_Se_weighFrom_70 : decode m_Se_weighFrom.2.1 70 = .ok (.iconst 2, 1) := by decide +kernel
theorem d_Se_weighFrom_71 : decode m_Se_weighFrom.2.1 71 = .ok (.if_icmp .gt 45, 3) := by decide +kernel
theorem d_Se_weighFrom_74 : decode m_Se_weighFrom.2.1 74 = .ok (.iload 5, 2) := by decide +kernel
theorem d_Se_weighFrom_76 : decode m_Se_weighFrom.2.1 76 = .ok (.iload 7, 2) := by decide +kernel
theorem d_Se_weighFrom_78 : decode m_Se_weighFrom.2.1 78 = .ok (.iadd, 1) := by decide +kernel
theorem d_Se_weighFrom_79 : decode m_Se_weighFrom.2.1 79 = .ok (.iload_n 3, 1) := by decide +kernel
theorem d_Se_weighFrom_80 : decode m_Se_weighFrom.2.1 80 = .ok (.if_icmp .gt 36, 3) := by decide +kernel
theorem d_Se_weighFrom_83 : decode m_Se_weighFrom.2.1 83 = .ok (.iload 6, 2) := by decide +kernel
theorem d_Se_weighFrom_85 : decode m_Se_weighFrom.2.1 85 = .ok (.iload 7, 2) := by decide +kernel
theorem d_Se_weighFrom_87 : decode m_Se_weighFrom.2.1 87 = .ok (.aload_n 1, 1) := by decide +kernel
theorem d_Se_weighFrom_88 : decode m_Se_weighFrom.2.1 88 = .ok (.getfield 71, 3) := by decide +kernel
theorem d_Se_weighFrom_91 : decode m_Se_weighFrom.2.1 91 = .ok (.imul, 1) := by decide +kernel
theorem d_Se_weighFrom_92 : decode m_Se_weighFrom.2.1 92 = .ok (.aload_n 0, 1) := by decide +kernel
theorem d_Se_weighFrom_93 : decode m_Se_weighFrom.2.1 93 = .ok (.getfield 20, 3) := by decide +kernel
theorem d_Se_weighFrom_96 : decode m_Se_weighFrom.2.1 96 = .ok (.iload 5, 2) := by decide +kernel
theorem d_Se_weighFrom_98 : decode m_Se_weighFrom.2.1 98 = .ok (.iload 7, 2) := by decide +kernel
theorem d_Se_weighFrom_100 : decode m_Se_weighFrom.2.1 100 = .ok (.iadd, 1) := by decide +kernel
theorem d_Se_weighFrom_101 : decode m_Se_weighFrom.2.1 101 = .ok (.iaload, 1) := by decide +kernel
theorem d_Se_weighFrom_102 : decode m_Se_weighFrom.2.1 102 = .ok (.invokestatic 92, 3) := by decide +kernel
theorem d_Se_weighFrom_105 : decode m_Se_weighFrom.2.1 105 = .ok (.invokestatic 96, 3) := by decide +kernel
theorem d_Se_weighFrom_108 : decode m_Se_weighFrom.2.1 108 = .ok (.istore 6, 2) := by decide +kernel
theorem d_Se_weighFrom_110 : decode m_Se_weighFrom.2.1 110 = .ok (.iinc 7 1, 3) := by decide +kernel
theorem d_Se_weighFrom_113 : decode m_Se_weighFrom.2.1 113 = .ok (.goto (-45), 3) := by decide +kernel
theorem d_Se_weighFrom_116 : decode m_Se_weighFrom.2.1 116 = .ok (.aload_n 0, 1) := by decide +kernel
theorem d_Se_weighFrom_117 : decode m_Se_weighFrom.2.1 117 = .ok (.getfield 11, 3) := by decide +kernel
theorem d_Se_weighFrom_120 : decode m_Se_weighFrom.2.1 120 = .ok (.iload_n 2, 1) := by decide +kernel
theorem d_Se_weighFrom_121 : decode m_Se_weighFrom.2.1 121 = .ok (.aaload, 1) := by decide +kernel
theorem d_Se_weighFrom_122 : decode m_Se_weighFrom.2.1 122 = .ok (.iload 5, 2) := by decide +kernel
theorem d_Se_weighFrom_124 : decode m_Se_weighFrom.2.1 124 = .ok (.iload 6, 2) := by decide +kernel
theorem d_Se_weighFrom_126 : decode m_Se_weighFrom.2.1 126 = .ok (.iastore, 1) := by decide +kernel
theorem d_Se_weighFrom_127 : decode m_Se_weighFrom.2.1 127 = .ok (.iinc 5 1, 3) := by decide +kernel
theorem d_Se_weighFrom_130 : decode m_Se_weighFrom.2.1 130 = .ok (.goto (-89), 3) := by decide +kernel
theorem d_Se_weighFrom_133 : decode m_Se_weighFrom.2.1 133 = .ok (.aload_n 0, 1) := by decide +kernel
theorem d_Se_weighFrom_134 : decode m_Se_weighFrom.2.1 134 = .ok (.getfield 16, 3) := by decide +kernel
theorem d_Se_weighFrom_137 : decode m_Se_weighFrom.2.1 137 = .ok (.iload_n 2, 1) := by decide +kernel
theorem d_Se_weighFrom_138 : decode m_Se_weighFrom.2.1 138 = .ok (.iload 4, 2) := by decide +kernel
theorem d_Se_weighFrom_140 : decode m_Se_weighFrom.2.1 140 = .ok (.aload_n 0, 1) := by decide +kernel
theorem d_Se_weighFrom_141 : decode m_Se_weighFrom.2.1 141 = .ok (.getfield 16, 3) := by decide +kernel
theorem d_Se_weighFrom_144 : decode m_Se_weighFrom.2.1 144 = .ok (.iload_n 2, 1) := by decide +kernel
theorem d_Se_weighFrom_145 : decode m_Se_weighFrom.2.1 145 = .ok (.iconst 1, 1) := by decide +kernel
theorem d_Se_weighFrom_146 : decode m_Se_weighFrom.2.1 146 = .ok (.iadd, 1) := by decide +kernel
theorem d_Se_weighFrom_147 : decode m_Se_weighFrom.2.1 147 = .ok (.iaload, 1) := by decide +kernel
theorem d_Se_weighFrom_148 : decode m_Se_weighFrom.2.1 148 = .ok (.invokestatic 92, 3) := by decide +kernel
theorem d_Se_weighFrom_151 : decode m_Se_weighFrom.2.1 151 = .ok (.aload_n 0, 1) := by decide +kernel
theorem d_Se_weighFrom_152 : decode m_Se_weighFrom.2.1 152 = .ok (.getfield 20, 3) := by decide +kernel
theorem d_Se_weighFrom_155 : decode m_Se_weighFrom.2.1 155 = .ok (.iconst 0, 1) := by decide +kernel
theorem d_Se_weighFrom_156 : decode m_Se_weighFrom.2.1 156 = .ok (.iaload, 1) := by decide +kernel
theorem d_Se_weighFrom_157 : decode m_Se_weighFrom.2.1 157 = .ok (.invokestatic 96, 3) := by decide +kernel
theorem d_Se_weighFrom_160 : decode m_Se_weighFrom.2.1 160 = .ok (.iastore, 1) := by decide +kernel
theorem d_Se_weighFrom_161 : decode m_Se_weighFrom.2.1 161 = .ok (.return_, 1) := by decide +kernel
set_option maxHeartbeats 4000000 in
set_option maxRecDepth 100000 in
theorem B_Se_weighFrom_0 {S : XS} {Q : St → Prop} (σ : St) (x2 : Int32) (x3 : Int32) (H : CM S m_Mn_cutCost [.ref 3, .int x2] (enc σ) (qI (fun v1 τ2 => BW S m_Se_weighFrom 10 [some (.ref 82), some (.ref 3), some (.int x2), some (.int x3), some (.int v1), some (.int (0 : Int32)), none, none] [] (enc τ2) (qV Q)))) : BW S m_Se_weighFrom 0 [some (.ref 82), some (.ref 3), some (.int x2), some (.int x3), none, none, none, none] [] (enc σ) (qV Q) := by
  refine b_aload_n d_Se_weighFrom_0 rfl rfl ?_
  refine b_iload_n d_Se_weighFrom_1 rfl rfl ?_
  refine b_callVi (Mc := m_Mn_cutCost) (As := [.int x2]) (st := []) d_Se_weighFrom_2 ⟨⟨kA_Mn_cutCost.1, kA_Mn_cutCost.2.1, kA_Mn_cutCost.2.2, by decide⟩, ml_Se_85, kV_Mn_cutCost⟩ (eg_3 σ) rfl rfl (Nat.le_of_ble_eq_true rfl) H (fun v1 τ2 H => ?_)
  refine b_istore (ls' := [some (.ref 82), some (.ref 3), some (.int x2), some (.int x3), some (.int v1), none, none, none]) d_Se_weighFrom_5 (Nat.le_of_ble_eq_true rfl) rfl ?_
  refine b_iconst (v := (0 : Int32)) d_Se_weighFrom_7 (by decide) ?_
  refine b_istore (ls' := [some (.ref 82), some (.ref 3), some (.int x2), some (.int x3), some (.int v1), some (.int (0 : Int32)), none, none]) d_Se_weighFrom_8 (Nat.le_of_ble_eq_true rfl) rfl ?_
  exact b_mask [true, true, true, true, true, true, true, true] rfl H
set_option maxHeartbeats 4000000 in
set_option maxRecDepth 100000 in
theorem B_Se_weighFrom_10 {S : XS} {Q : St → Prop} (σ : St) (x2 : Int32) (x3 : Int32) (x4 : Int32) (x5 : Int32) (H : ((x3 < x5 → BW S m_Se_weighFrom 41 [some (.ref 82), some (.ref 3), some (.int x2), some (.int x3), some (.int x4), some (.int (0 : Int32)), none, none] [] (enc σ) (qV Q)) ∧ (¬ x3 < x5 → CM S m_Se_leastUncut [.ref 82, .ref 3, .int x2, .int x5, .int x3] (enc σ) (qI (fun v3 τ4 => (vp_in x5 121) ∧ BW S m_Se_weighFrom 10 [some (.ref 82), some (.ref 3), some (.int x2), some (.int x3), some (.int x4), some (.int (x5 + (1 : Int32))), none, none] [] (enc (sA τ4 5 (upd (gA τ4 5) x5.toNatClampNeg v3))) (qV Q)))))) : BW S m_Se_weighFrom 10 [some (.ref 82), some (.ref 3), some (.int x2), some (.int x3), some (.int x4), some (.int x5), none, none] [] (enc σ) (qV Q) := by
  refine b_iload d_Se_weighFrom_10 rfl ?_
  refine b_iload_n d_Se_weighFrom_12 rfl rfl ?_
  refine b_icmp_gt (tgt := 38) d_Se_weighFrom_13 (by decide) (fun c6 => ?_) (fun c6 => ?_)
  · have H := H.1 c6
    refine b_iconst (v := (0 : Int32)) d_Se_weighFrom_38 (by decide) ?_
    refine b_istore (ls' := [some (.ref 82), some (.ref 3), some (.int x2), some (.int x3), some (.int x4), some (.int (0 : Int32)), none, none]) d_Se_weighFrom_39 (Nat.le_of_ble_eq_true rfl) rfl ?_
    exact b_mask [true, true, true, true, true, true, true, true] rfl H
  · have H := H.2 c6
    refine b_aload_n d_Se_weighFrom_16 rfl rfl ?_
    refine b_getf (v := .ref 106) d_Se_weighFrom_17 fl_Se_20 (eg_82 σ) rfl ?_
    refine b_iload d_Se_weighFrom_20 rfl ?_
    refine b_aload_n d_Se_weighFrom_22 rfl rfl ?_
    refine b_aload_n d_Se_weighFrom_23 rfl rfl ?_
    refine b_iload_n d_Se_weighFrom_24 rfl rfl ?_
    refine b_iload d_Se_weighFrom_25 rfl ?_
    refine b_iload_n d_Se_weighFrom_27 rfl rfl ?_
    refine b_callVi (Mc := m_Se_leastUncut) (As := [.ref 3, .int x2, .int x5, .int x3]) (st := [.int x5, .ref 106]) d_Se_weighFrom_28 ⟨⟨kA_Se_leastUncut.1, kA_Se_leastUncut.2.1, kA_Se_leastUncut.2.2, by decide⟩, ml_Se_89, kV_Se_leastUncut⟩ (eg_82 σ) rfl rfl (Nat.le_of_ble_eq_true rfl) H (fun v3 τ4 H => ?_)
    obtain ⟨h5, H⟩ := H
    refine b_iast (h1 := enc (sA τ4 5 (upd (gA τ4 5) x5.toNatClampNeg v3))) d_Se_weighFrom_31 (eg_106 τ4) h5 (es_106 τ4 (upd (gA τ4 5) x5.toNatClampNeg v3)) ?_
    refine b_iinc (v := (x5 + (1 : Int32))) (ls' := [some (.ref 82), some (.ref 3), some (.int x2), some (.int x3), some (.int x4), some (.int (x5 + (1 : Int32))), none, none]) d_Se_weighFrom_32 rfl rfl (Nat.le_of_ble_eq_true rfl) rfl ?_
    refine b_goto (tgt := 10) d_Se_weighFrom_35 (by decide) ?_
    exact b_mask [true, true, true, true, true, true, true, true] rfl H
set_option maxHeartbeats 4000000 in
set_option maxRecDepth 100000 in
theorem B_Se_weighFrom_41 {S : XS} {Q : St → Prop} (σ : St) (x2 : Int32) (x3 : Int32) (x4 : Int32) (x5 : Int32) (H : ((x3 < x5 → (vp_in (x2 + (1 : Int32)) 21) ∧ CM S m_TH_plus [.int x4, .int ((gA σ 4) (x2 + (1 : Int32)).toNatClampNeg)] (enc σ) (qI (fun v8 τ9 => (vp_in (0 : Int32) 121) ∧ (vp_in x2 21) ∧ Q (sA τ9 4 (upd (gA τ9 4) x2.toNatClampNeg (if ((gA τ9 5) (0 : Int32).toNatClampNeg) < v8 then ((gA τ9 5) (0 : Int32).toNatClampNeg) else v8)))))) ∧ (¬ x3 < x5 → (vp_in (x2 + (1 : Int32)) 21) ∧ (vp_in x5 121) ∧ CM S m_TH_plus [.int x4, .int (gB σ 3 ((x2 + (1 : Int32)).toNatClampNeg) x5.toNatClampNeg)] (enc σ) (qI (fun v14 τ15 => BW S m_Se_weighFrom 68 [some (.ref 82), some (.ref 3), some (.int x2), some (.int x3), some (.int x4), some (.int x5), some (.int v14), some (.int (0 : Int32))] [] (enc τ15) (qV Q)))))) : BW S m_Se_weighFrom 41 [some (.ref 82), some (.ref 3), some (.int x2), some (.int x3), some (.int x4), some (.int x5), none, none] [] (enc σ) (qV Q) := by
  refine b_iload d_Se_weighFrom_41 rfl ?_
  refine b_iload_n d_Se_weighFrom_43 rfl rfl ?_
  refine b_icmp_gt (tgt := 133) d_Se_weighFrom_44 (by decide) (fun c16 => ?_) (fun c16 => ?_)
  · have H := H.1 c16
    refine b_aload_n d_Se_weighFrom_133 rfl rfl ?_
    refine b_getf (v := .ref 105) d_Se_weighFrom_134 fl_Se_16 (eg_82 σ) rfl ?_
    refine b_iload_n d_Se_weighFrom_137 rfl rfl ?_
    refine b_iload d_Se_weighFrom_138 rfl ?_
    refine b_aload_n d_Se_weighFrom_140 rfl rfl ?_
    refine b_getf (v := .ref 105) d_Se_weighFrom_141 fl_Se_16 (eg_82 σ) rfl ?_
    refine b_iload_n d_Se_weighFrom_144 rfl rfl ?_
    refine b_iconst (v := (1 : Int32)) d_Se_weighFrom_145 (by decide) ?_
    refine b_iadd d_Se_weighFrom_146  ?_
    obtain ⟨h7, H⟩ := H
    refine b_iald d_Se_weighFrom_147 (eg_105 σ) h7 ?_
    refine b_st2 (st' := [.int ((gA σ 4) (x2 + (1 : Int32)).toNatClampNeg), .int x4, .int x2, .ref 105]) rfl ?_
    refine b_callSNi (Mc := m_TH_plus) (As := [.int x4, .int ((gA σ 4) (x2 + (1 : Int32)).toNatClampNeg)]) (st := [.int x2, .ref 105]) d_Se_weighFrom_148 ⟨⟨kA_TH_plus.1, kA_TH_plus.2.1, kA_TH_plus.2.2, by decide⟩, mn_Se_92, kS_TH_plus⟩ rfl rfl (Nat.le_of_ble_eq_true rfl) H (fun v8 τ9 H => ?_)
    refine b_aload_n d_Se_weighFrom_151 rfl rfl ?_
    refine b_getf (v := .ref 106) d_Se_weighFrom_152 fl_Se_20 (eg_82 τ9) rfl ?_
    refine b_iconst (v := (0 : Int32)) d_Se_weighFrom_155 (by decide) ?_
    obtain ⟨h10, H⟩ := H
    refine b_iald d_Se_weighFrom_156 (eg_106 τ9) h10 ?_
    refine b_st2 (st' := [.int ((gA τ9 5) (0 : Int32).toNatClampNeg), .int v8, .int x2, .ref 105]) rfl ?_
    refine b_minI d_Se_weighFrom_157 ml_Se_96 (Nat.le_of_ble_eq_true rfl) ⟨by decide, by decide⟩ ?_
    obtain ⟨h11, H⟩ := H
    refine b_iast (h1 := enc (sA τ9 4 (upd (gA τ9 4) x2.toNatClampNeg (if ((gA τ9 5) (0 : Int32).toNatClampNeg) < v8 then ((gA τ9 5) (0 : Int32).toNatClampNeg) else v8)))) d_Se_weighFrom_160 (eg_105 τ9) h11 (es_105 τ9 (upd (gA τ9 4) x2.toNatClampNeg (if ((gA τ9 5) (0 : Int32).toNatClampNeg) < v8 then ((gA τ9 5) (0 : Int32).toNatClampNeg) else v8))) ?_
    exact b_vret d_Se_weighFrom_161 rfl ⟨_, rfl, rfl, H⟩
  · have H := H.2 c16
    refine b_iload d_Se_weighFrom_47 rfl ?_
    refine b_aload_n d_Se_weighFrom_49 rfl rfl ?_
    refine b_getf (v := .ref 83) d_Se_weighFrom_50 fl_Se_11 (eg_82 σ) rfl ?_
    refine b_iload_n d_Se_weighFrom_53 rfl rfl ?_
    refine b_iconst (v := (1 : Int32)) d_Se_weighFrom_54 (by decide) ?_
    refine b_iadd d_Se_weighFrom_55  ?_
    obtain ⟨h12, H⟩ := H
    refine b_rowld d_Se_weighFrom_56 (eg_83 σ) h12 ?_
    refine b_iload d_Se_weighFrom_57 rfl ?_
    obtain ⟨h13, H⟩ := H
    refine b_iald (f := gB σ 3 ((x2 + (1 : Int32)).toNatClampNeg)) d_Se_weighFrom_59 (er3 σ (vp_lt h12)) h13 ?_
    refine b_st2 (st' := [.int (gB σ 3 ((x2 + (1 : Int32)).toNatClampNeg) x5.toNatClampNeg), .int x4]) rfl ?_
    refine b_callSNi (Mc := m_TH_plus) (As := [.int x4, .int (gB σ 3 ((x2 + (1 : Int32)).toNatClampNeg) x5.toNatClampNeg)]) (st := []) d_Se_weighFrom_60 ⟨⟨kA_TH_plus.1, kA_TH_plus.2.1, kA_TH_plus.2.2, by decide⟩, mn_Se_92, kS_TH_plus⟩ rfl rfl (Nat.le_of_ble_eq_true rfl) H (fun v14 τ15 H => ?_)
    refine b_istore (ls' := [some (.ref 82), some (.ref 3), some (.int x2), some (.int x3), some (.int x4), some (.int x5), some (.int v14), none]) d_Se_weighFrom_63 (Nat.le_of_ble_eq_true rfl) rfl ?_
    refine b_iconst (v := (0 : Int32)) d_Se_weighFrom_65 (by decide) ?_
    refine b_istore (ls' := [some (.ref 82), some (.ref 3), some (.int x2), some (.int x3), some (.int x4), some (.int x5), some (.int v14), some (.int (0 : Int32))]) d_Se_weighFrom_66 (Nat.le_of_ble_eq_true rfl) rfl ?_
    exact b_mask [true, true, true, true, true, true, true, true] rfl H
set_option maxHeartbeats 4000000 in
set_option maxRecDepth 100000 in
theorem B_Se_weighFrom_68 {S : XS} {Q : St → Prop} (σ : St) (x2 : Int32) (x3 : Int32) (x4 : Int32) (x5 : Int32) (x6 : Int32) (x7 : Int32) (H : (((2 : Int32) < x7 → (vp_in x2 21) ∧ (vp_in x5 121) ∧ BW S m_Se_weighFrom 41 [some (.ref 82), some (.ref 3), some (.int x2), some (.int x3), some (.int x4), some (.int (x5 + (1 : Int32))), none, none] [] (enc (sB σ 3 x2.toNatClampNeg (upd (gB σ 3 x2.toNatClampNeg) x5.toNatClampNeg x6))) (qV Q)) ∧ (¬ (2 : Int32) < x7 → ((x3 < (x5 + x7) → (vp_in x2 21) ∧ (vp_in x5 121) ∧ BW S m_Se_weighFrom 41 [some (.ref 82), some (.ref 3), some (.int x2), some (.int x3), some (.int x4), some (.int (x5 + (1 : Int32))), none, none] [] (enc (sB σ 3 x2.toNatClampNeg (upd (gB σ 3 x2.toNatClampNeg) x5.toNatClampNeg x6))) (qV Q)) ∧ (¬ x3 < (x5 + x7) → (vp_in (x5 + x7) 121) ∧ CM S m_TH_plus [.int (x7 * (gX σ 7)), .int ((gA σ 5) (x5 + x7).toNatClampNeg)] (enc σ) (qI (fun v22 τ23 => BW S m_Se_weighFrom 68 [some (.ref 82), some (.ref 3), some (.int x2), some (.int x3), some (.int x4), some (.int x5), some (.int (if v22 < x6 then v22 else x6)), some (.int (x7 + (1 : Int32)))] [] (enc τ23) (qV Q)))))))) : BW S m_Se_weighFrom 68 [some (.ref 82), some (.ref 3), some (.int x2), some (.int x3), some (.int x4), some (.int x5), some (.int x6), some (.int x7)] [] (enc σ) (qV Q) := by
  refine b_iload d_Se_weighFrom_68 rfl ?_
  refine b_iconst (v := (2 : Int32)) d_Se_weighFrom_70 (by decide) ?_
  refine b_icmp_gt (tgt := 116) d_Se_weighFrom_71 (by decide) (fun c25 => ?_) (fun c25 => ?_)
  · have H := H.1 c25
    refine b_aload_n d_Se_weighFrom_116 rfl rfl ?_
    refine b_getf (v := .ref 83) d_Se_weighFrom_117 fl_Se_11 (eg_82 σ) rfl ?_
    refine b_iload_n d_Se_weighFrom_120 rfl rfl ?_
    obtain ⟨h17, H⟩ := H
    refine b_rowld d_Se_weighFrom_121 (eg_83 σ) h17 ?_
    refine b_iload d_Se_weighFrom_122 rfl ?_
    refine b_iload d_Se_weighFrom_124 rfl ?_
    obtain ⟨h18, H⟩ := H
    refine b_iast (h1 := enc (sB σ 3 x2.toNatClampNeg (upd (gB σ 3 x2.toNatClampNeg) x5.toNatClampNeg x6))) (f := gB σ 3 x2.toNatClampNeg) d_Se_weighFrom_126 (er3 σ (vp_lt h17)) h18 (et3 σ (vp_lt h17) (upd (gB σ 3 x2.toNatClampNeg) x5.toNatClampNeg x6)) ?_
    refine b_iinc (v := (x5 + (1 : Int32))) (ls' := [some (.ref 82), some (.ref 3), some (.int x2), some (.int x3), some (.int x4), some (.int (x5 + (1 : Int32))), some (.int x6), some (.int x7)]) d_Se_weighFrom_127 rfl rfl (Nat.le_of_ble_eq_true rfl) rfl ?_
    refine b_goto (tgt := 41) d_Se_weighFrom_130 (by decide) ?_
    exact b_mask [true, true, true, true, true, true, false, false] rfl H
  · have H := H.2 c25
    refine b_iload d_Se_weighFrom_74 rfl ?_
    refine b_iload d_Se_weighFrom_76 rfl ?_
    refine b_iadd d_Se_weighFrom_78  ?_
    refine b_iload_n d_Se_weighFrom_79 rfl rfl ?_
    refine b_icmp_gt (tgt := 116) d_Se_weighFrom_80 (by decide) (fun c24 => ?_) (fun c24 => ?_)
    · have H := H.1 c24
      refine b_aload_n d_Se_weighFrom_116 rfl rfl ?_
      refine b_getf (v := .ref 83) d_Se_weighFrom_117 fl_Se_11 (eg_82 σ) rfl ?_
      refine b_iload_n d_Se_weighFrom_120 rfl rfl ?_
      obtain ⟨h19, H⟩ := H
      refine b_rowld d_Se_weighFrom_121 (eg_83 σ) h19 ?_
      refine b_iload d_Se_weighFrom_122 rfl ?_
      refine b_iload d_Se_weighFrom_124 rfl ?_
      obtain ⟨h20, H⟩ := H
      refine b_iast (h1 := enc (sB σ 3 x2.toNatClampNeg (upd (gB σ 3 x2.toNatClampNeg) x5.toNatClampNeg x6))) (f := gB σ 3 x2.toNatClampNeg) d_Se_weighFrom_126 (er3 σ (vp_lt h19)) h20 (et3 σ (vp_lt h19) (upd (gB σ 3 x2.toNatClampNeg) x5.toNatClampNeg x6)) ?_
      refine b_iinc (v := (x5 + (1 : Int32))) (ls' := [some (.ref 82), some (.ref 3), some (.int x2), some (.int x3), some (.int x4), some (.int (x5 + (1 : Int32))), some (.int x6), some (.int x7)]) d_Se_weighFrom_127 rfl rfl (Nat.le_of_ble_eq_true rfl) rfl ?_
      refine b_goto (tgt := 41) d_Se_weighFrom_130 (by decide) ?_
      exact b_mask [true, true, true, true, true, true, false, false] rfl H
    · have H := H.2 c24
      refine b_iload d_Se_weighFrom_83 rfl ?_
      refine b_iload d_Se_weighFrom_85 rfl ?_
      refine b_aload_n d_Se_weighFrom_87 rfl rfl ?_
      refine b_getfN (v := .int (gX σ 7)) d_Se_weighFrom_88 fn_Se_71 (eg_3 σ) rfl ?_
      refine b_imul d_Se_weighFrom_91  ?_
      refine b_aload_n d_Se_weighFrom_92 rfl rfl ?_
      refine b_getf (v := .ref 106) d_Se_weighFrom_93 fl_Se_20 (eg_82 σ) rfl ?_
      refine b_iload d_Se_weighFrom_96 rfl ?_
      refine b_iload d_Se_weighFrom_98 rfl ?_
      refine b_iadd d_Se_weighFrom_100  ?_
      obtain ⟨h21, H⟩ := H
      refine b_iald d_Se_weighFrom_101 (eg_106 σ) h21 ?_
      refine b_st2 (st' := [.int ((gA σ 5) (x5 + x7).toNatClampNeg), .int (x7 * (gX σ 7)), .int x6]) rfl ?_
      refine b_callSNi (Mc := m_TH_plus) (As := [.int (x7 * (gX σ 7)), .int ((gA σ 5) (x5 + x7).toNatClampNeg)]) (st := [.int x6]) d_Se_weighFrom_102 ⟨⟨kA_TH_plus.1, kA_TH_plus.2.1, kA_TH_plus.2.2, by decide⟩, mn_Se_92, kS_TH_plus⟩ rfl rfl (Nat.le_of_ble_eq_true rfl) H (fun v22 τ23 H => ?_)
      refine b_minI d_Se_weighFrom_105 ml_Se_96 (Nat.le_of_ble_eq_true rfl) ⟨by decide, by decide⟩ ?_
      refine b_istore (ls' := [some (.ref 82), some (.ref 3), some (.int x2), some (.int x3), some (.int x4), some (.int x5), some (.int (if v22 < x6 then v22 else x6)), some (.int x7)]) d_Se_weighFrom_108 (Nat.le_of_ble_eq_true rfl) rfl ?_
      refine b_iinc (v := (x7 + (1 : Int32))) (ls' := [some (.ref 82), some (.ref 3), some (.int x2), some (.int x3), some (.int x4), some (.int x5), some (.int (if v22 < x6 then v22 else x6)), some (.int (x7 + (1 : Int32)))]) d_Se_weighFrom_110 rfl rfl (Nat.le_of_ble_eq_true rfl) rfl ?_
      refine b_goto (tgt := 68) d_Se_weighFrom_113 (by decide) ?_
      exact b_mask [true, true, true, true, true, true, true, true] rfl H
theorem C_Se_weighFrom {S : XS} {Q : St → Prop} (σ : St) (x2 : Int32) (x3 : Int32) (H : BW S m_Se_weighFrom 0 [some (.ref 82), some (.ref 3), some (.int x2), some (.int x3), none, none, none, none] [] (enc σ) (qV Q)) : CM S m_Se_weighFrom [.ref 82, .ref 3, .int x2, .int x3] (enc σ) (qV Q) := b_meth (by decide) (Nat.le_of_ble_eq_true rfl) rfl H
theorem d_Se_leastUncut_0 : decode m_Se_leastUncut.2.1 0 = .ok (.aload_n 1, 1) := by decide +kernel
theorem d_Se_leastUncut_1 : decode m_Se_leastUncut.2.1 1 = .ok (.iload_n 2, 1) := by decide +kernel
theorem d_Se_leastUncut_2 : decode m_Se_leastUncut.2.1 2 = .ok (.invokevirtual 101, 3) := by decide +kernel
theorem d_Se_leastUncut_5 : decode m_Se_leastUncut.2.1 5 = .ok (.iload 4, 2) := by decide +kernel
theorem d_Se_leastUncut_7 : decode m_Se_leastUncut.2.1 7 = .ok (.iload_n 3, 1) := by decide +kernel
theorem d_Se_leastUncut_8 : decode m_Se_leastUncut.2.1 8 = .ok (.isub, 1) := by decide +kernel
theorem d_Se_leastUncut_9 : decode m_Se_leastUncut.2.1 9 = .ok (.invokestatic 96, 3) := by decide +kernel
theorem d_Se_leastUncut_12 : decode m_Se_leastUncut.2.1 12 = .ok (.istore 5, 2) := by decide +kernel
theorem d_Se_leastUncut_14 : decode m_Se_leastUncut.2.1 14 = .ok (.ldc 35, 2) := by decide +kernel
theorem d_Se_leastUncut_16 : decode m_Se_leastUncut.2.1 16 = .ok (.istore 6, 2) := by decide +kernel
theorem d_Se_leastUncut_18 : decode m_Se_leastUncut.2.1 18 = .ok (.iconst 0, 1) := by decide +kernel
theorem d_Se_leastUncut_19 : decode m_Se_leastUncut.2.1 19 = .ok (.istore 7, 2) := by decide +kernel
theorem d_Se_leastUncut_21 : decode m_Se_leastUncut.2.1 21 = .ok (.iload 7, 2) := by decide +kernel
theorem d_Se_leastUncut_23 : decode m_Se_leastUncut.2.1 23 = .ok (.iload 5, 2) := by decide +kernel
theorem d_Se_leastUncut_25 : decode m_Se_leastUncut.2.1 25 = .ok (.if_icmp .gt 25, 3) := by decide +kernel
theorem d_Se_leastUncut_28 : decode m_Se_leastUncut.2.1 28 = .ok (.iload 6, 2) := by decide +kernel
theorem d_Se_leastUncut_30 : decode m_Se_leastUncut.2.1 30 = .ok (.aload_n 0, 1) := by decide +kernel
theorem d_Se_leastUncut_31 : decode m_Se_leastUncut.2.1 31 = .ok (.aload_n 1, 1) := by decide +kernel
theorem d_Se_leastUncut_32 : decode m_Se_leastUncut.2.1 32 = .ok (.iload_n 2, 1) := by decide +kernel
theorem d_Se_leastUncut_33 : decode m_Se_leastUncut.2.1 33 = .ok (.iload_n 3, 1) := by decide +kernel
theorem d_Se_leastUncut_34 : decode m_Se_leastUncut.2.1 34 = .ok (.iload 7, 2) := by decide +kernel
theorem d_Se_leastUncut_36 : decode m_Se_leastUncut.2.1 36 = .ok (.invokevirtual 104, 3) := by decide +kernel
theorem d_Se_leastUncut_39 : decode m_Se_leastUncut.2.1 39 = .ok (.invokestatic 96, 3) := by decide +kernel
theorem d_Se_leastUncut_42 : decode m_Se_leastUncut.2.1 42 = .ok (.istore 6, 2) := by decide +kernel
theorem d_Se_leastUncut_44 : decode m_Se_leastUncut.2.1 44 = .ok (.iinc 7 1, 3) := by decide +kernel
theorem d_Se_leastUncut_47 : decode m_Se_leastUncut.2.1 47 = .ok (.goto (-26), 3) := by decide +kernel
theorem d_Se_leastUncut_50 : decode m_Se_leastUncut.2.1 50 = .ok (.iload 6, 2) := by decide +kernel
theorem d_Se_leastUncut_52 : decode m_Se_leastUncut.2.1 52 = .ok (.ireturn, 1) := by decide +kernel
set_option maxHeartbeats 4000000 in
set_option maxRecDepth 100000 in
theorem B_Se_leastUncut_0 {S : XS} {Q : Int32 → St → Prop} (σ : St) (x2 : Int32) (x3 : Int32) (x4 : Int32) (H : CM S m_Mn_wordsOf [.ref 3, .int x2] (enc σ) (qI (fun v1 τ2 => BW S m_Se_leastUncut 21 [some (.ref 82), some (.ref 3), some (.int x2), some (.int x3), none, some (.int (if (x4 - x3) < v1 then (x4 - x3) else v1)), some (.int (1000000000 : Int32)), some (.int (0 : Int32))] [] (enc τ2) (qI Q)))) : BW S m_Se_leastUncut 0 [some (.ref 82), some (.ref 3), some (.int x2), some (.int x3), some (.int x4), none, none, none] [] (enc σ) (qI Q) := by
  refine b_aload_n d_Se_leastUncut_0 rfl rfl ?_
  refine b_iload_n d_Se_leastUncut_1 rfl rfl ?_
  refine b_callVi (Mc := m_Mn_wordsOf) (As := [.int x2]) (st := []) d_Se_leastUncut_2 ⟨⟨kA_Mn_wordsOf.1, kA_Mn_wordsOf.2.1, kA_Mn_wordsOf.2.2, by decide⟩, ml_Se_101, kV_Mn_wordsOf⟩ (eg_3 σ) rfl rfl (Nat.le_of_ble_eq_true rfl) H (fun v1 τ2 H => ?_)
  refine b_iload d_Se_leastUncut_5 rfl ?_
  refine b_iload_n d_Se_leastUncut_7 rfl rfl ?_
  refine b_isub d_Se_leastUncut_8  ?_
  refine b_minI d_Se_leastUncut_9 ml_Se_96 (Nat.le_of_ble_eq_true rfl) ⟨by decide, by decide⟩ ?_
  refine b_istore (ls' := [some (.ref 82), some (.ref 3), some (.int x2), some (.int x3), some (.int x4), some (.int (if (x4 - x3) < v1 then (x4 - x3) else v1)), none, none]) d_Se_leastUncut_12 (Nat.le_of_ble_eq_true rfl) rfl ?_
  refine b_ldc (v := (1000000000 : Int32)) d_Se_leastUncut_14 cn_Se_35 ?_
  refine b_istore (ls' := [some (.ref 82), some (.ref 3), some (.int x2), some (.int x3), some (.int x4), some (.int (if (x4 - x3) < v1 then (x4 - x3) else v1)), some (.int (1000000000 : Int32)), none]) d_Se_leastUncut_16 (Nat.le_of_ble_eq_true rfl) rfl ?_
  refine b_iconst (v := (0 : Int32)) d_Se_leastUncut_18 (by decide) ?_
  refine b_istore (ls' := [some (.ref 82), some (.ref 3), some (.int x2), some (.int x3), some (.int x4), some (.int (if (x4 - x3) < v1 then (x4 - x3) else v1)), some (.int (1000000000 : Int32)), some (.int (0 : Int32))]) d_Se_leastUncut_19 (Nat.le_of_ble_eq_true rfl) rfl ?_
  exact b_mask [true, true, true, true, false, true, true, true] rfl H
set_option maxHeartbeats 4000000 in
set_option maxRecDepth 100000 in
theorem B_Se_leastUncut_21 {S : XS} {Q : Int32 → St → Prop} (σ : St) (x2 : Int32) (x3 : Int32) (x5 : Int32) (x6 : Int32) (x7 : Int32) (H : ((x5 < x7 → Q x6 σ) ∧ (¬ x5 < x7 → CM S m_Se_costInLines [.ref 82, .ref 3, .int x2, .int x3, .int x7] (enc σ) (qI (fun v3 τ4 => BW S m_Se_leastUncut 21 [some (.ref 82), some (.ref 3), some (.int x2), some (.int x3), none, some (.int x5), some (.int (if v3 < x6 then v3 else x6)), some (.int (x7 + (1 : Int32)))] [] (enc τ4) (qI Q)))))) : BW S m_Se_leastUncut 21 [some (.ref 82), some (.ref 3), some (.int x2), some (.int x3), none, some (.int x5), some (.int x6), some (.int x7)] [] (enc σ) (qI Q) := by
  refine b_iload d_Se_leastUncut_21 rfl ?_
  refine b_iload d_Se_leastUncut_23 rfl ?_
  refine b_icmp_gt (tgt := 50) d_Se_leastUncut_25 (by decide) (fun c5 => ?_) (fun c5 => ?_)
  · have H := H.1 c5
    refine b_iload d_Se_leastUncut_50 rfl ?_
    exact b_iret (ty := .int) d_Se_leastUncut_52 rfl rfl ⟨_, _, rfl, rfl, H⟩
  · have H := H.2 c5
    refine b_iload d_Se_leastUncut_28 rfl ?_
    refine b_aload_n d_Se_leastUncut_30 rfl rfl ?_
    refine b_aload_n d_Se_leastUncut_31 rfl rfl ?_
    refine b_iload_n d_Se_leastUncut_32 rfl rfl ?_
    refine b_iload_n d_Se_leastUncut_33 rfl rfl ?_
    refine b_iload d_Se_leastUncut_34 rfl ?_
    refine b_callVi (Mc := m_Se_costInLines) (As := [.ref 3, .int x2, .int x3, .int x7]) (st := [.int x6]) d_Se_leastUncut_36 ⟨⟨kA_Se_costInLines.1, kA_Se_costInLines.2.1, kA_Se_costInLines.2.2, by decide⟩, ml_Se_104, kV_Se_costInLines⟩ (eg_82 σ) rfl rfl (Nat.le_of_ble_eq_true rfl) H (fun v3 τ4 H => ?_)
    refine b_minI d_Se_leastUncut_39 ml_Se_96 (Nat.le_of_ble_eq_true rfl) ⟨by decide, by decide⟩ ?_
    refine b_istore (ls' := [some (.ref 82), some (.ref 3), some (.int x2), some (.int x3), none, some (.int x5), some (.int (if v3 < x6 then v3 else x6)), some (.int x7)]) d_Se_leastUncut_42 (Nat.le_of_ble_eq_true rfl) rfl ?_
    refine b_iinc (v := (x7 + (1 : Int32))) (ls' := [some (.ref 82), some (.ref 3), some (.int x2), some (.int x3), none, some (.int x5), some (.int (if v3 < x6 then v3 else x6)), some (.int (x7 + (1 : Int32)))]) d_Se_leastUncut_44 rfl rfl (Nat.le_of_ble_eq_true rfl) rfl ?_
    refine b_goto (tgt := 21) d_Se_leastUncut_47 (by decide) ?_
    exact b_mask [true, true, true, true, true, true, true, true] rfl H
theorem C_Se_leastUncut {S : XS} {Q : Int32 → St → Prop} (σ : St) (x2 : Int32) (x3 : Int32) (x4 : Int32) (H : BW S m_Se_leastUncut 0 [some (.ref 82), some (.ref 3), some (.int x2), some (.int x3), some (.int x4), none, none, none] [] (enc σ) (qI Q)) : CM S m_Se_leastUncut [.ref 82, .ref 3, .int x2, .int x3, .int x4] (enc σ) (qI Q) := b_meth (by decide) (Nat.le_of_ble_eq_true rfl) rfl H
theorem d_Se_costInLines_0 : decode m_Se_costInLines.2.1 0 = .ok (.aload_n 1, 1) := by decide +kernel
theorem d_Se_costInLines_1 : decode m_Se_costInLines.2.1 1 = .ok (.iload_n 2, 1) := by decide +kernel
theorem d_Se_costInLines_2 : decode m_Se_costInLines.2.1 2 = .ok (.iload 4, 2) := by decide +kernel
theorem d_Se_costInLines_4 : decode m_Se_costInLines.2.1 4 = .ok (.invokevirtual 107, 3) := by decide +kernel
theorem d_Se_costInLines_7 : decode m_Se_costInLines.2.1 7 = .ok (.istore 5, 2) := by decide +kernel
theorem d_Se_costInLines_9 : decode m_Se_costInLines.2.1 9 = .ok (.iload 5, 2) := by decide +kernel
theorem d_Se_costInLines_11 : decode m_Se_costInLines.2.1 11 = .ok (.ldc 35, 2) := by decide +kernel
theorem d_Se_costInLines_13 : decode m_Se_costInLines.2.1 13 = .ok (.if_icmp .lt 6, 3) := by decide +kernel
theorem d_Se_costInLines_16 : decode m_Se_costInLines.2.1 16 = .ok (.ldc 35, 2) := by decide +kernel
theorem d_Se_costInLines_18 : decode m_Se_costInLines.2.1 18 = .ok (.ireturn, 1) := by decide +kernel
theorem d_Se_costInLines_19 : decode m_Se_costInLines.2.1 19 = .ok (.iload 5, 2) := by decide +kernel
theorem d_Se_costInLines_21 : decode m_Se_costInLines.2.1 21 = .ok (.aload_n 1, 1) := by decide +kernel
theorem d_Se_costInLines_22 : decode m_Se_costInLines.2.1 22 = .ok (.iload_n 3, 1) := by decide +kernel
theorem d_Se_costInLines_23 : decode m_Se_costInLines.2.1 23 = .ok (.iload 4, 2) := by decide +kernel
theorem d_Se_costInLines_25 : decode m_Se_costInLines.2.1 25 = .ok (.invokevirtual 110, 3) := by decide +kernel
theorem d_Se_costInLines_28 : decode m_Se_costInLines.2.1 28 = .ok (.iadd, 1) := by decide +kernel
theorem d_Se_costInLines_29 : decode m_Se_costInLines.2.1 29 = .ok (.aload_n 0, 1) := by decide +kernel
theorem d_Se_costInLines_30 : decode m_Se_costInLines.2.1 30 = .ok (.getfield 11, 3) := by decide +kernel
theorem d_Se_costInLines_33 : decode m_Se_costInLines.2.1 33 = .ok (.iload_n 2, 1) := by decide +kernel
theorem d_Se_costInLines_34 : decode m_Se_costInLines.2.1 34 = .ok (.iconst 1, 1) := by decide +kernel
theorem d_Se_costInLines_35 : decode m_Se_costInLines.2.1 35 = .ok (.iadd, 1) := by decide +kernel
theorem d_Se_costInLines_36 : decode m_Se_costInLines.2.1 36 = .ok (.aaload, 1) := by decide +kernel
theorem d_Se_costInLines_37 : decode m_Se_costInLines.2.1 37 = .ok (.iload_n 3, 1) := by decide +kernel
theorem d_Se_costInLines_38 : decode m_Se_costInLines.2.1 38 = .ok (.iload 4, 2) := by decide +kernel
theorem d_Se_costInLines_40 : decode m_Se_costInLines.2.1 40 = .ok (.iadd, 1) := by decide +kernel
theorem d_Se_costInLines_41 : decode m_Se_costInLines.2.1 41 = .ok (.iaload, 1) := by decide +kernel
theorem d_Se_costInLines_42 : decode m_Se_costInLines.2.1 42 = .ok (.invokestatic 92, 3) := by decide +kernel
theorem d_Se_costInLines_45 : decode m_Se_costInLines.2.1 45 = .ok (.ireturn, 1) := by decide +kernel
set_option maxHeartbeats 4000000 in
set_option maxRecDepth 100000 in
theorem B_Se_costInLines_0 {S : XS} {Q : Int32 → St → Prop} (σ : St) (x2 : Int32) (x3 : Int32) (x4 : Int32) (H : CM S m_Mn_breakCost [.ref 3, .int x2, .int x4] (enc σ) (qI (fun v1 τ2 => ((v1 < (1000000000 : Int32) → CM S m_Mn_widowCost [.ref 3, .int x3, .int x4] (enc τ2) (qI (fun v3 τ4 => (vp_in (x2 + (1 : Int32)) 21) ∧ (vp_in (x3 + x4) 121) ∧ CM S m_TH_plus [.int (v1 + v3), .int (gB τ4 3 ((x2 + (1 : Int32)).toNatClampNeg) (x3 + x4).toNatClampNeg)] (enc τ4) (qI (fun v7 τ8 => Q v7 τ8))))) ∧ (¬ v1 < (1000000000 : Int32) → Q (1000000000 : Int32) τ2))))) : BW S m_Se_costInLines 0 [some (.ref 82), some (.ref 3), some (.int x2), some (.int x3), some (.int x4), none] [] (enc σ) (qI Q) := by
  refine b_aload_n d_Se_costInLines_0 rfl rfl ?_
  refine b_iload_n d_Se_costInLines_1 rfl rfl ?_
  refine b_iload d_Se_costInLines_2 rfl ?_
  refine b_callVi (Mc := m_Mn_breakCost) (As := [.int x2, .int x4]) (st := []) d_Se_costInLines_4 ⟨⟨kA_Mn_breakCost.1, kA_Mn_breakCost.2.1, kA_Mn_breakCost.2.2, by decide⟩, ml_Se_107, kV_Mn_breakCost⟩ (eg_3 σ) rfl rfl (Nat.le_of_ble_eq_true rfl) H (fun v1 τ2 H => ?_)
  refine b_istore (ls' := [some (.ref 82), some (.ref 3), some (.int x2), some (.int x3), some (.int x4), some (.int v1)]) d_Se_costInLines_7 (Nat.le_of_ble_eq_true rfl) rfl ?_
  refine b_iload d_Se_costInLines_9 rfl ?_
  refine b_ldc (v := (1000000000 : Int32)) d_Se_costInLines_11 cn_Se_35 ?_
  refine b_icmp_lt (tgt := 19) d_Se_costInLines_13 (by decide) (fun c9 => ?_) (fun c9 => ?_)
  · have H := H.1 c9
    refine b_iload d_Se_costInLines_19 rfl ?_
    refine b_aload_n d_Se_costInLines_21 rfl rfl ?_
    refine b_iload_n d_Se_costInLines_22 rfl rfl ?_
    refine b_iload d_Se_costInLines_23 rfl ?_
    refine b_callVi (Mc := m_Mn_widowCost) (As := [.int x3, .int x4]) (st := [.int v1]) d_Se_costInLines_25 ⟨⟨kA_Mn_widowCost.1, kA_Mn_widowCost.2.1, kA_Mn_widowCost.2.2, by decide⟩, ml_Se_110, kV_Mn_widowCost⟩ (eg_3 τ2) rfl rfl (Nat.le_of_ble_eq_true rfl) H (fun v3 τ4 H => ?_)
    refine b_iadd d_Se_costInLines_28  ?_
    refine b_aload_n d_Se_costInLines_29 rfl rfl ?_
    refine b_getf (v := .ref 83) d_Se_costInLines_30 fl_Se_11 (eg_82 τ4) rfl ?_
    refine b_iload_n d_Se_costInLines_33 rfl rfl ?_
    refine b_iconst (v := (1 : Int32)) d_Se_costInLines_34 (by decide) ?_
    refine b_iadd d_Se_costInLines_35  ?_
    obtain ⟨h5, H⟩ := H
    refine b_rowld d_Se_costInLines_36 (eg_83 τ4) h5 ?_
    refine b_iload_n d_Se_costInLines_37 rfl rfl ?_
    refine b_iload d_Se_costInLines_38 rfl ?_
    refine b_iadd d_Se_costInLines_40  ?_
    obtain ⟨h6, H⟩ := H
    refine b_iald (f := gB τ4 3 ((x2 + (1 : Int32)).toNatClampNeg)) d_Se_costInLines_41 (er3 τ4 (vp_lt h5)) h6 ?_
    refine b_st2 (st' := [.int (gB τ4 3 ((x2 + (1 : Int32)).toNatClampNeg) (x3 + x4).toNatClampNeg), .int (v1 + v3)]) rfl ?_
    refine b_callSNi (Mc := m_TH_plus) (As := [.int (v1 + v3), .int (gB τ4 3 ((x2 + (1 : Int32)).toNatClampNeg) (x3 + x4).toNatClampNeg)]) (st := []) d_Se_costInLines_42 ⟨⟨kA_TH_plus.1, kA_TH_plus.2.1, kA_TH_plus.2.2, by decide⟩, mn_Se_92, kS_TH_plus⟩ rfl rfl (Nat.le_of_ble_eq_true rfl) H (fun v7 τ8 H => ?_)
    exact b_iret (ty := .int) d_Se_costInLines_45 rfl rfl ⟨_, _, rfl, rfl, H⟩
  · have H := H.2 c9
    refine b_ldc (v := (1000000000 : Int32)) d_Se_costInLines_16 cn_Se_35 ?_
    exact b_iret (ty := .int) d_Se_costInLines_18 rfl rfl ⟨_, _, rfl, rfl, H⟩
theorem C_Se_costInLines {S : XS} {Q : Int32 → St → Prop} (σ : St) (x2 : Int32) (x3 : Int32) (x4 : Int32) (H : BW S m_Se_costInLines 0 [some (.ref 82), some (.ref 3), some (.int x2), some (.int x3), some (.int x4), none] [] (enc σ) (qI Q)) : CM S m_Se_costInLines [.ref 82, .ref 3, .int x2, .int x3, .int x4] (enc σ) (qI Q) := b_meth (by decide) (Nat.le_of_ble_eq_true rfl) rfl H
theorem d_Se_forgetPlaces_0 : decode m_Se_forgetPlaces.2.1 0 = .ok (.aload_n 0, 1) := by decide +kernel
theorem d_Se_forgetPlaces_1 : decode m_Se_forgetPlaces.2.1 1 = .ok (.iload_n 1, 1) := by decide +kernel
theorem d_Se_forgetPlaces_2 : decode m_Se_forgetPlaces.2.1 2 = .ok (.putfield 60, 3) := by decide +kernel
theorem d_Se_forgetPlaces_5 : decode m_Se_forgetPlaces.2.1 5 = .ok (.aload_n 0, 1) := by decide +kernel
theorem d_Se_forgetPlaces_6 : decode m_Se_forgetPlaces.2.1 6 = .ok (.iload_n 2, 1) := by decide +kernel
theorem d_Se_forgetPlaces_7 : decode m_Se_forgetPlaces.2.1 7 = .ok (.putfield 82, 3) := by decide +kernel
theorem d_Se_forgetPlaces_10 : decode m_Se_forgetPlaces.2.1 10 = .ok (.aload_n 0, 1) := by decide +kernel
theorem d_Se_forgetPlaces_11 : decode m_Se_forgetPlaces.2.1 11 = .ok (.getfield 26, 3) := by decide +kernel
theorem d_Se_forgetPlaces_14 : decode m_Se_forgetPlaces.2.1 14 = .ok (.iconst (-1), 1) := by decide +kernel
theorem d_Se_forgetPlaces_15 : decode m_Se_forgetPlaces.2.1 15 = .ok (.invokestatic 42, 3) := by decide +kernel
theorem d_Se_forgetPlaces_18 : decode m_Se_forgetPlaces.2.1 18 = .ok (.aload_n 0, 1) := by decide +kernel
theorem d_Se_forgetPlaces_19 : decode m_Se_forgetPlaces.2.1 19 = .ok (.getfield 29, 3) := by decide +kernel
theorem d_Se_forgetPlaces_22 : decode m_Se_forgetPlaces.2.1 22 = .ok (.iconst (-1), 1) := by decide +kernel
theorem d_Se_forgetPlaces_23 : decode m_Se_forgetPlaces.2.1 23 = .ok (.invokestatic 42, 3) := by decide +kernel
theorem d_Se_forgetPlaces_26 : decode m_Se_forgetPlaces.2.1 26 = .ok (.aload_n 0, 1) := by decide +kernel
theorem d_Se_forgetPlaces_27 : decode m_Se_forgetPlaces.2.1 27 = .ok (.getfield 32, 3) := by decide +kernel
theorem d_Se_forgetPlaces_30 : decode m_Se_forgetPlaces.2.1 30 = .ok (.iconst (-1), 1) := by decide +kernel
theorem d_Se_forgetPlaces_31 : decode m_Se_forgetPlaces.2.1 31 = .ok (.invokestatic 42, 3) := by decide +kernel
theorem d_Se_forgetPlaces_34 : decode m_Se_forgetPlaces.2.1 34 = .ok (.return_, 1) := by decide +kernel
set_option maxHeartbeats 4000000 in
set_option maxRecDepth 100000 in
theorem B_Se_forgetPlaces_0 {S : XS} {Q : St → Prop} (σ : St) (x1 : Int32) (x2 : Int32) (H : CM S m_Ja_fill [.ref 128, .int (-1 : Int32)] (enc (sX (sX σ 11 x1) 12 x2)) (qV (fun τ2 => CM S m_Ja_fill [.ref 129, .int (-1 : Int32)] (enc τ2) (qV (fun τ4 => CM S m_Ja_fill [.ref 130, .int (-1 : Int32)] (enc τ4) (qV (fun τ6 => Q τ6))))))) : BW S m_Se_forgetPlaces 0 [some (.ref 82), some (.int x1), some (.int x2)] [] (enc σ) (qV Q) := by
  refine b_aload_n d_Se_forgetPlaces_0 rfl rfl ?_
  refine b_iload_n d_Se_forgetPlaces_1 rfl rfl ?_
  refine b_putf (ty := .int) (h1 := enc (sX σ 11 x1)) d_Se_forgetPlaces_2 fl_Se_60 ft_8_7 (fun _ => ⟨rfl, rfl⟩) (eg_82 σ) (Nat.le_of_ble_eq_true rfl) (es_82_7 σ x1) ?_
  refine b_aload_n d_Se_forgetPlaces_5 rfl rfl ?_
  refine b_iload_n d_Se_forgetPlaces_6 rfl rfl ?_
  refine b_putf (ty := .int) (h1 := enc (sX (sX σ 11 x1) 12 x2)) d_Se_forgetPlaces_7 fl_Se_82 ft_8_8 (fun _ => ⟨rfl, rfl⟩) (eg_82 (sX σ 11 x1)) (Nat.le_of_ble_eq_true rfl) (es_82_8 (sX σ 11 x1) x2) ?_
  refine b_aload_n d_Se_forgetPlaces_10 rfl rfl ?_
  refine b_getf (v := .ref 128) d_Se_forgetPlaces_11 fl_Se_26 (eg_82 (sX (sX σ 11 x1) 12 x2)) rfl ?_
  refine b_iconst (v := (-1 : Int32)) d_Se_forgetPlaces_14 (by decide) ?_
  refine b_callSv (Mc := m_Ja_fill) (As := [.ref 128, .int (-1 : Int32)]) (st := []) d_Se_forgetPlaces_15 ⟨⟨kA_Ja_fill.1, kA_Ja_fill.2.1, kA_Ja_fill.2.2, by decide⟩, ml_Se_42, kS_Ja_fill⟩ rfl rfl (Nat.le_of_ble_eq_true rfl) H (fun τ2 H => ?_)
  refine b_aload_n d_Se_forgetPlaces_18 rfl rfl ?_
  refine b_getf (v := .ref 129) d_Se_forgetPlaces_19 fl_Se_29 (eg_82 τ2) rfl ?_
  refine b_iconst (v := (-1 : Int32)) d_Se_forgetPlaces_22 (by decide) ?_
  refine b_callSv (Mc := m_Ja_fill) (As := [.ref 129, .int (-1 : Int32)]) (st := []) d_Se_forgetPlaces_23 ⟨⟨kA_Ja_fill.1, kA_Ja_fill.2.1, kA_Ja_fill.2.2, by decide⟩, ml_Se_42, kS_Ja_fill⟩ rfl rfl (Nat.le_of_ble_eq_true rfl) H (fun τ4 H => ?_)
  refine b_aload_n d_Se_forgetPlaces_26 rfl rfl ?_
  refine b_getf (v := .ref 130) d_Se_forgetPlaces_27 fl_Se_32 (eg_82 τ4) rfl ?_
  refine b_iconst (v := (-1 : Int32)) d_Se_forgetPlaces_30 (by decide) ?_
  refine b_callSv (Mc := m_Ja_fill) (As := [.ref 130, .int (-1 : Int32)]) (st := []) d_Se_forgetPlaces_31 ⟨⟨kA_Ja_fill.1, kA_Ja_fill.2.1, kA_Ja_fill.2.2, by decide⟩, ml_Se_42, kS_Ja_fill⟩ rfl rfl (Nat.le_of_ble_eq_true rfl) H (fun τ6 H => ?_)
  exact b_vret d_Se_forgetPlaces_34 rfl ⟨_, rfl, rfl, H⟩
theorem C_Se_forgetPlaces {S : XS} {Q : St → Prop} (σ : St) (x1 : Int32) (x2 : Int32) (H : BW S m_Se_forgetPlaces 0 [some (.ref 82), some (.int x1), some (.int x2)] [] (enc σ) (qV Q)) : CM S m_Se_forgetPlaces [.ref 82, .int x1, .int x2] (enc σ) (qV Q) := b_meth (by decide) (Nat.le_of_ble_eq_true rfl) rfl H
theorem d_Se_fewestLeads_0 : decode m_Se_fewestLeads.2.1 0 = .ok (.iconst 0, 1) := by decide +kernel
theorem d_Se_fewestLeads_1 : decode m_Se_fewestLeads.2.1 1 = .ok (.istore 6, 2) := by decide +kernel
theorem d_Se_fewestLeads_3 : decode m_Se_fewestLeads.2.1 3 = .ok (.iload 6, 2) := by decide +kernel
theorem d_Se_fewestLeads_5 : decode m_Se_fewestLeads.2.1 5 = .ok (.iload 4, 2) := by decide +kernel
theorem d_Se_fewestLeads_7 : decode m_Se_fewestLeads.2.1 7 = .ok (.if_icmp .gt 56, 3) := by decide +kernel
theorem d_Se_fewestLeads_10 : decode m_Se_fewestLeads.2.1 10 = .ok (.iload_n 3, 1) := by decide +kernel
theorem d_Se_fewestLeads_11 : decode m_Se_fewestLeads.2.1 11 = .ok (.iload 6, 2) := by decide +kernel
theorem d_Se_fewestLeads_13 : decode m_Se_fewestLeads.2.1 13 = .ok (.iadd, 1) := by decide +kernel
theorem d_Se_fewestLeads_14 : decode m_Se_fewestLeads.2.1 14 = .ok (.aload_n 0, 1) := by decide +kernel
theorem d_Se_fewestLeads_15 : decode m_Se_fewestLeads.2.1 15 = .ok (.getfield 82, 3) := by decide +kernel
theorem d_Se_fewestLeads_18 : decode m_Se_fewestLeads.2.1 18 = .ok (.if_icmp .gt 45, 3) := by decide +kernel
theorem d_Se_fewestLeads_21 : decode m_Se_fewestLeads.2.1 21 = .ok (.aload_n 0, 1) := by decide +kernel
theorem d_Se_fewestLeads_22 : decode m_Se_fewestLeads.2.1 22 = .ok (.aload_n 1, 1) := by decide +kernel
theorem d_Se_fewestLeads_23 : decode m_Se_fewestLeads.2.1 23 = .ok (.iload_n 2, 1) := by decide +kernel
theorem d_Se_fewestLeads_24 : decode m_Se_fewestLeads.2.1 24 = .ok (.iload_n 3, 1) := by decide +kernel
theorem d_Se_fewestLeads_25 : decode m_Se_fewestLeads.2.1 25 = .ok (.iload 6, 2) := by decide +kernel
theorem d_Se_fewestLeads_27 : decode m_Se_fewestLeads.2.1 27 = .ok (.iadd, 1) := by decide +kernel
theorem d_Se_fewestLeads_28 : decode m_Se_fewestLeads.2.1 28 = .ok (.aload_n 0, 1) := by decide +kernel
theorem d_Se_fewestLeads_29 : decode m_Se_fewestLeads.2.1 29 = .ok (.getfield 82, 3) := by decide +kernel
theorem d_Se_fewestLeads_32 : decode m_Se_fewestLeads.2.1 32 = .ok (.invokevirtual 89, 3) := by decide +kernel
theorem d_Se_fewestLeads_35 : decode m_Se_fewestLeads.2.1 35 = .ok (.istore 7, 2) := by decide +kernel
theorem d_Se_fewestLeads_37 : decode m_Se_fewestLeads.2.1 37 = .ok (.iload 6, 2) := by decide +kernel
theorem d_Se_fewestLeads_39 : decode m_Se_fewestLeads.2.1 39 = .ok (.aload_n 1, 1) := by decide +kernel
theorem d_Se_fewestLeads_40 : decode m_Se_fewestLeads.2.1 40 = .ok (.getfield 71, 3) := by decide +kernel
theorem d_Se_fewestLeads_43 : decode m_Se_fewestLeads.2.1 43 = .ok (.imul, 1) := by decide +kernel
theorem d_Se_fewestLeads_44 : decode m_Se_fewestLeads.2.1 44 = .ok (.iload 7, 2) := by decide +kernel
theorem d_Se_fewestLeads_46 : decode m_Se_fewestLeads.2.1 46 = .ok (.invokestatic 92, 3) := by decide +kernel
theorem d_Se_fewestLeads_49 : decode m_Se_fewestLeads.2.1 49 = .ok (.iload 5, 2) := by decide +kernel
theorem d_Se_fewestLeads_51 : decode m_Se_fewestLeads.2.1 51 = .ok (.if_icmp .ne 6, 3) := by decide +kernel
theorem d_Se_fewestLeads_54 : decode m_Se_fewestLeads.2.1 54 = .ok (.iload 6, 2) := by decide +kernel
theorem d_Se_fewestLeads_56 : decode m_Se_fewestLeads.2.1 56 = .ok (.ireturn, 1) := by decide +kernel
theorem d_Se_fewestLeads_57 : decode m_Se_fewestLeads.2.1 57 = .ok (.iinc 6 1, 3) := by decide +kernel
theorem d_Se_fewestLeads_60 : decode m_Se_fewestLeads.2.1 60 = .ok (.goto (-57), 3) := by decide +kernel
theorem d_Se_fewestLeads_63 : decode m_Se_fewestLeads.2.1 63 = .ok (.iconst (-1), 1) := by decide +kernel
theorem d_Se_fewestLeads_64 : decode m_Se_fewestLeads.2.1 64 = .ok (.ireturn, 1) := by decide +kernel
set_option maxHeartbeats 4000000 in
set_option maxRecDepth 100000 in
theorem B_Se_fewestLeads_0 {S : XS} {Q : Int32 → St → Prop} (σ : St) (x2 : Int32) (x3 : Int32) (x4 : Int32) (x5 : Int32) (H : BW S m_Se_fewestLeads 3 [some (.ref 82), some (.ref 3), some (.int x2), some (.int x3), some (.int x4), some (.int x5), some (.int (0 : Int32)), none] [] (enc σ) (qI Q)) : BW S m_Se_fewestLeads 0 [some (.ref 82), some (.ref 3), some (.int x2), some (.int x3), some (.int x4), some (.int x5), none, none] [] (enc σ) (qI Q) := by
  refine b_iconst (v := (0 : Int32)) d_Se_fewestLeads_0 (by decide) ?_
  refine b_istore (ls' := [some (.ref 82), some (.ref 3), some (.int x2), some (.int x3), some (.int x4), some (.int x5), some (.int (0 : Int32)), none]) d_Se_fewestLeads_1 (Nat.le_of_ble_eq_true rfl) rfl ?_
  exact b_mask [true, true, true, true, true, true, true, true] rfl H
set_option maxHeartbeats 4000000 in
set_option maxRecDepth 100000 in
theorem B_Se_fewestLeads_3 {S : XS} {Q : Int32 → St → Prop} (σ : St) (x2 : Int32) (x3 : Int32) (x4 : Int32) (x5 : Int32) (x6 : Int32) (H : ((x4 < x6 → Q (-1 : Int32) σ) ∧ (¬ x4 < x6 → (((gX σ 12) < (x3 + x6) → Q (-1 : Int32) σ) ∧ (¬ (gX σ 12) < (x3 + x6) → CM S m_Se_leastUncut [.ref 82, .ref 3, .int x2, .int (x3 + x6), .int (gX σ 12)] (enc σ) (qI (fun v1 τ2 => CM S m_TH_plus [.int (x6 * (gX τ2 7)), .int v1] (enc τ2) (qI (fun v3 τ4 => ((¬ v3 = x5 → BW S m_Se_fewestLeads 3 [some (.ref 82), some (.ref 3), some (.int x2), some (.int x3), some (.int x4), some (.int x5), some (.int (x6 + (1 : Int32))), none] [] (enc τ4) (qI Q)) ∧ (v3 = x5 → Q x6 τ4))))))))))) : BW S m_Se_fewestLeads 3 [some (.ref 82), some (.ref 3), some (.int x2), some (.int x3), some (.int x4), some (.int x5), some (.int x6), none] [] (enc σ) (qI Q) := by
  refine b_iload d_Se_fewestLeads_3 rfl ?_
  refine b_iload d_Se_fewestLeads_5 rfl ?_
  refine b_icmp_gt (tgt := 63) d_Se_fewestLeads_7 (by decide) (fun c7 => ?_) (fun c7 => ?_)
  · have H := H.1 c7
    refine b_iconst (v := (-1 : Int32)) d_Se_fewestLeads_63 (by decide) ?_
    exact b_iret (ty := .int) d_Se_fewestLeads_64 rfl rfl ⟨_, _, rfl, rfl, H⟩
  · have H := H.2 c7
    refine b_iload_n d_Se_fewestLeads_10 rfl rfl ?_
    refine b_iload d_Se_fewestLeads_11 rfl ?_
    refine b_iadd d_Se_fewestLeads_13  ?_
    refine b_aload_n d_Se_fewestLeads_14 rfl rfl ?_
    refine b_getf (v := .int (gX σ 12)) d_Se_fewestLeads_15 fl_Se_82 (eg_82 σ) rfl ?_
    refine b_icmp_gt (tgt := 63) d_Se_fewestLeads_18 (by decide) (fun c6 => ?_) (fun c6 => ?_)
    · have H := H.1 c6
      refine b_iconst (v := (-1 : Int32)) d_Se_fewestLeads_63 (by decide) ?_
      exact b_iret (ty := .int) d_Se_fewestLeads_64 rfl rfl ⟨_, _, rfl, rfl, H⟩
    · have H := H.2 c6
      refine b_aload_n d_Se_fewestLeads_21 rfl rfl ?_
      refine b_aload_n d_Se_fewestLeads_22 rfl rfl ?_
      refine b_iload_n d_Se_fewestLeads_23 rfl rfl ?_
      refine b_iload_n d_Se_fewestLeads_24 rfl rfl ?_
      refine b_iload d_Se_fewestLeads_25 rfl ?_
      refine b_iadd d_Se_fewestLeads_27  ?_
      refine b_aload_n d_Se_fewestLeads_28 rfl rfl ?_
      refine b_getf (v := .int (gX σ 12)) d_Se_fewestLeads_29 fl_Se_82 (eg_82 σ) rfl ?_
      refine b_callVi (Mc := m_Se_leastUncut) (As := [.ref 3, .int x2, .int (x3 + x6), .int (gX σ 12)]) (st := []) d_Se_fewestLeads_32 ⟨⟨kA_Se_leastUncut.1, kA_Se_leastUncut.2.1, kA_Se_leastUncut.2.2, by decide⟩, ml_Se_89, kV_Se_leastUncut⟩ (eg_82 σ) rfl rfl (Nat.le_of_ble_eq_true rfl) H (fun v1 τ2 H => ?_)
      refine b_istore (ls' := [some (.ref 82), some (.ref 3), some (.int x2), some (.int x3), some (.int x4), some (.int x5), some (.int x6), some (.int v1)]) d_Se_fewestLeads_35 (Nat.le_of_ble_eq_true rfl) rfl ?_
      refine b_iload d_Se_fewestLeads_37 rfl ?_
      refine b_aload_n d_Se_fewestLeads_39 rfl rfl ?_
      refine b_getfN (v := .int (gX τ2 7)) d_Se_fewestLeads_40 fn_Se_71 (eg_3 τ2) rfl ?_
      refine b_imul d_Se_fewestLeads_43  ?_
      refine b_iload d_Se_fewestLeads_44 rfl ?_
      refine b_callSNi (Mc := m_TH_plus) (As := [.int (x6 * (gX τ2 7)), .int v1]) (st := []) d_Se_fewestLeads_46 ⟨⟨kA_TH_plus.1, kA_TH_plus.2.1, kA_TH_plus.2.2, by decide⟩, mn_Se_92, kS_TH_plus⟩ rfl rfl (Nat.le_of_ble_eq_true rfl) H (fun v3 τ4 H => ?_)
      refine b_iload d_Se_fewestLeads_49 rfl ?_
      refine b_icmp_ne (tgt := 57) d_Se_fewestLeads_51 (by decide) (fun c5 => ?_) (fun c5 => ?_)
      · have H := H.1 c5
        refine b_iinc (v := (x6 + (1 : Int32))) (ls' := [some (.ref 82), some (.ref 3), some (.int x2), some (.int x3), some (.int x4), some (.int x5), some (.int (x6 + (1 : Int32))), some (.int v1)]) d_Se_fewestLeads_57 rfl rfl (Nat.le_of_ble_eq_true rfl) rfl ?_
        refine b_goto (tgt := 3) d_Se_fewestLeads_60 (by decide) ?_
        exact b_mask [true, true, true, true, true, true, true, false] rfl H
      · have H := H.2 c5
        refine b_iload d_Se_fewestLeads_54 rfl ?_
        exact b_iret (ty := .int) d_Se_fewestLeads_56 rfl rfl ⟨_, _, rfl, rfl, H⟩
theorem C_Se_fewestLeads {S : XS} {Q : Int32 → St → Prop} (σ : St) (x2 : Int32) (x3 : Int32) (x4 : Int32) (x5 : Int32) (H : BW S m_Se_fewestLeads 0 [some (.ref 82), some (.ref 3), some (.int x2), some (.int x3), some (.int x4), some (.int x5), none, none] [] (enc σ) (qI Q)) : CM S m_Se_fewestLeads [.ref 82, .ref 3, .int x2, .int x3, .int x4, .int x5] (enc σ) (qI Q) := b_meth (by decide) (Nat.le_of_ble_eq_true rfl) rfl H
theorem d_Se_fewestLines_0 : decode m_Se_fewestLines.2.1 0 = .ok (.aload_n 1, 1) := by decide +kernel
theorem d_Se_fewestLines_1 : decode m_Se_fewestLines.2.1 1 = .ok (.iload_n 2, 1) := by decide +kernel
theorem d_Se_fewestLines_2 : decode m_Se_fewestLines.2.1 2 = .ok (.invokevirtual 101, 3) := by decide +kernel
theorem d_Se_fewestLines_5 : decode m_Se_fewestLines.2.1 5 = .ok (.aload_n 0, 1) := by decide +kernel
theorem d_Se_fewestLines_6 : decode m_Se_fewestLines.2.1 6 = .ok (.getfield 82, 3) := by decide +kernel
theorem d_Se_fewestLines_9 : decode m_Se_fewestLines.2.1 9 = .ok (.iload_n 3, 1) := by decide +kernel
theorem d_Se_fewestLines_10 : decode m_Se_fewestLines.2.1 10 = .ok (.isub, 1) := by decide +kernel
theorem d_Se_fewestLines_11 : decode m_Se_fewestLines.2.1 11 = .ok (.invokestatic 96, 3) := by decide +kernel
theorem d_Se_fewestLines_14 : decode m_Se_fewestLines.2.1 14 = .ok (.istore 5, 2) := by decide +kernel
theorem d_Se_fewestLines_16 : decode m_Se_fewestLines.2.1 16 = .ok (.iconst 0, 1) := by decide +kernel
theorem d_Se_fewestLines_17 : decode m_Se_fewestLines.2.1 17 = .ok (.istore 6, 2) := by decide +kernel
theorem d_Se_fewestLines_19 : decode m_Se_fewestLines.2.1 19 = .ok (.iload 6, 2) := by decide +kernel
theorem d_Se_fewestLines_21 : decode m_Se_fewestLines.2.1 21 = .ok (.iload 5, 2) := by decide +kernel
theorem d_Se_fewestLines_23 : decode m_Se_fewestLines.2.1 23 = .ok (.if_icmp .gt 26, 3) := by decide +kernel
theorem d_Se_fewestLines_26 : decode m_Se_fewestLines.2.1 26 = .ok (.aload_n 0, 1) := by decide +kernel
theorem d_Se_fewestLines_27 : decode m_Se_fewestLines.2.1 27 = .ok (.aload_n 1, 1) := by decide +kernel
theorem d_Se_fewestLines_28 : decode m_Se_fewestLines.2.1 28 = .ok (.iload_n 2, 1) := by decide +kernel
theorem d_Se_fewestLines_29 : decode m_Se_fewestLines.2.1 29 = .ok (.iload_n 3, 1) := by decide +kernel
theorem d_Se_fewestLines_30 : decode m_Se_fewestLines.2.1 30 = .ok (.iload 6, 2) := by decide +kernel
theorem d_Se_fewestLines_32 : decode m_Se_fewestLines.2.1 32 = .ok (.invokevirtual 104, 3) := by decide +kernel
theorem d_Se_fewestLines_35 : decode m_Se_fewestLines.2.1 35 = .ok (.iload 4, 2) := by decide +kernel
theorem d_Se_fewestLines_37 : decode m_Se_fewestLines.2.1 37 = .ok (.if_icmp .ne 6, 3) := by decide +kernel
theorem d_Se_fewestLines_40 : decode m_Se_fewestLines.2.1 40 = .ok (.iload 6, 2) := by decide +kernel
theorem d_Se_fewestLines_42 : decode m_Se_fewestLines.2.1 42 = .ok (.ireturn, 1) := by decide +kernel
theorem d_Se_fewestLines_43 : decode m_Se_fewestLines.2.1 43 = .ok (.iinc 6 1, 3) := by decide +kernel
theorem d_Se_fewestLines_46 : decode m_Se_fewestLines.2.1 46 = .ok (.goto (-27), 3) := by decide +kernel
theorem d_Se_fewestLines_49 : decode m_Se_fewestLines.2.1 49 = .ok (.iconst 0, 1) := by decide +kernel
theorem d_Se_fewestLines_50 : decode m_Se_fewestLines.2.1 50 = .ok (.ireturn, 1) := by decide +kernel
set_option maxHeartbeats 4000000 in
set_option maxRecDepth 100000 in
theorem B_Se_fewestLines_0 {S : XS} {Q : Int32 → St → Prop} (σ : St) (x2 : Int32) (x3 : Int32) (x4 : Int32) (H : CM S m_Mn_wordsOf [.ref 3, .int x2] (enc σ) (qI (fun v1 τ2 => BW S m_Se_fewestLines 19 [some (.ref 82), some (.ref 3), some (.int x2), some (.int x3), some (.int x4), some (.int (if ((gX τ2 12) - x3) < v1 then ((gX τ2 12) - x3) else v1)), some (.int (0 : Int32))] [] (enc τ2) (qI Q)))) : BW S m_Se_fewestLines 0 [some (.ref 82), some (.ref 3), some (.int x2), some (.int x3), some (.int x4), none, none] [] (enc σ) (qI Q) := by
  refine b_aload_n d_Se_fewestLines_0 rfl rfl ?_
  refine b_iload_n d_Se_fewestLines_1 rfl rfl ?_
  refine b_callVi (Mc := m_Mn_wordsOf) (As := [.int x2]) (st := []) d_Se_fewestLines_2 ⟨⟨kA_Mn_wordsOf.1, kA_Mn_wordsOf.2.1, kA_Mn_wordsOf.2.2, by decide⟩, ml_Se_101, kV_Mn_wordsOf⟩ (eg_3 σ) rfl rfl (Nat.le_of_ble_eq_true rfl) H (fun v1 τ2 H => ?_)
  refine b_aload_n d_Se_fewestLines_5 rfl rfl ?_
  refine b_getf (v := .int (gX τ2 12)) d_Se_fewestLines_6 fl_Se_82 (eg_82 τ2) rfl ?_
  refine b_iload_n d_Se_fewestLines_9 rfl rfl ?_
  refine b_isub d_Se_fewestLines_10  ?_
  refine b_minI d_Se_fewestLines_11 ml_Se_96 (Nat.le_of_ble_eq_true rfl) ⟨by decide, by decide⟩ ?_
  refine b_istore (ls' := [some (.ref 82), some (.ref 3), some (.int x2), some (.int x3), some (.int x4), some (.int (if ((gX τ2 12) - x3) < v1 then ((gX τ2 12) - x3) else v1)), none]) d_Se_fewestLines_14 (Nat.le_of_ble_eq_true rfl) rfl ?_
  refine b_iconst (v := (0 : Int32)) d_Se_fewestLines_16 (by decide) ?_
  refine b_istore (ls' := [some (.ref 82), some (.ref 3), some (.int x2), some (.int x3), some (.int x4), some (.int (if ((gX τ2 12) - x3) < v1 then ((gX τ2 12) - x3) else v1)), some (.int (0 : Int32))]) d_Se_fewestLines_17 (Nat.le_of_ble_eq_true rfl) rfl ?_
  exact b_mask [true, true, true, true, true, true, true] rfl H
set_option maxHeartbeats 4000000 in
set_option maxRecDepth 100000 in
theorem B_Se_fewestLines_19 {S : XS} {Q : Int32 → St → Prop} (σ : St) (x2 : Int32) (x3 : Int32) (x4 : Int32) (x5 : Int32) (x6 : Int32) (H : ((x5 < x6 → Q (0 : Int32) σ) ∧ (¬ x5 < x6 → CM S m_Se_costInLines [.ref 82, .ref 3, .int x2, .int x3, .int x6] (enc σ) (qI (fun v3 τ4 => ((¬ v3 = x4 → BW S m_Se_fewestLines 19 [some (.ref 82), some (.ref 3), some (.int x2), some (.int x3), some (.int x4), some (.int x5), some (.int (x6 + (1 : Int32)))] [] (enc τ4) (qI Q)) ∧ (v3 = x4 → Q x6 τ4))))))) : BW S m_Se_fewestLines 19 [some (.ref 82), some (.ref 3), some (.int x2), some (.int x3), some (.int x4), some (.int x5), some (.int x6)] [] (enc σ) (qI Q) := by
  refine b_iload d_Se_fewestLines_19 rfl ?_
  refine b_iload d_Se_fewestLines_21 rfl ?_
  refine b_icmp_gt (tgt := 49) d_Se_fewestLines_23 (by decide) (fun c6 => ?_) (fun c6 => ?_)
  · have H := H.1 c6
    refine b_iconst (v := (0 : Int32)) d_Se_fewestLines_49 (by decide) ?_
    exact b_iret (ty := .int) d_Se_fewestLines_50 rfl rfl ⟨_, _, rfl, rfl, H⟩
  · have H := H.2 c6
    refine b_aload_n d_Se_fewestLines_26 rfl rfl ?_
    refine b_aload_n d_Se_fewestLines_27 rfl rfl ?_
    refine b_iload_n d_Se_fewestLines_28 rfl rfl ?_
    refine b_iload_n d_Se_fewestLines_29 rfl rfl ?_
    refine b_iload d_Se_fewestLines_30 rfl ?_
    refine b_callVi (Mc := m_Se_costInLines) (As := [.ref 3, .int x2, .int x3, .int x6]) (st := []) d_Se_fewestLines_32 ⟨⟨kA_Se_costInLines.1, kA_Se_costInLines.2.1, kA_Se_costInLines.2.2, by decide⟩, ml_Se_104, kV_Se_costInLines⟩ (eg_82 σ) rfl rfl (Nat.le_of_ble_eq_true rfl) H (fun v3 τ4 H => ?_)
    refine b_iload d_Se_fewestLines_35 rfl ?_
    refine b_icmp_ne (tgt := 43) d_Se_fewestLines_37 (by decide) (fun c5 => ?_) (fun c5 => ?_)
    · have H := H.1 c5
      refine b_iinc (v := (x6 + (1 : Int32))) (ls' := [some (.ref 82), some (.ref 3), some (.int x2), some (.int x3), some (.int x4), some (.int x5), some (.int (x6 + (1 : Int32)))]) d_Se_fewestLines_43 rfl rfl (Nat.le_of_ble_eq_true rfl) rfl ?_
      refine b_goto (tgt := 19) d_Se_fewestLines_46 (by decide) ?_
      exact b_mask [true, true, true, true, true, true, true] rfl H
    · have H := H.2 c5
      refine b_iload d_Se_fewestLines_40 rfl ?_
      exact b_iret (ty := .int) d_Se_fewestLines_42 rfl rfl ⟨_, _, rfl, rfl, H⟩
theorem C_Se_fewestLines {S : XS} {Q : Int32 → St → Prop} (σ : St) (x2 : Int32) (x3 : Int32) (x4 : Int32) (H : BW S m_Se_fewestLines 0 [some (.ref 82), some (.ref 3), some (.int x2), some (.int x3), some (.int x4), none, none] [] (enc σ) (qI Q)) : CM S m_Se_fewestLines [.ref 82, .ref 3, .int x2, .int x3, .int x4] (enc σ) (qI Q) := b_meth (by decide) (Nat.le_of_ble_eq_true rfl) rfl H
theorem d_Se_placeLines_0 : decode m_Se_placeLines.2.1 0 = .ok (.aload_n 1, 1) := by decide +kernel
theorem d_Se_placeLines_1 : decode m_Se_placeLines.2.1 1 = .ok (.iload_n 2, 1) := by decide +kernel
theorem d_Se_placeLines_2 : decode m_Se_placeLines.2.1 2 = .ok (.invokevirtual 113, 3) := by decide +kernel
theorem d_Se_placeLines_5 : decode m_Se_placeLines.2.1 5 = .ok (.astore 5, 2) := by decide +kernel
theorem d_Se_placeLines_7 : decode m_Se_placeLines.2.1 7 = .ok (.iconst 0, 1) := by decide +kernel
theorem d_Se_placeLines_8 : decode m_Se_placeLines.2.1 8 = .ok (.istore 6, 2) := by decide +kernel
theorem d_Se_placeLines_10 : decode m_Se_placeLines.2.1 10 = .ok (.iconst 0, 1) := by decide +kernel
theorem d_Se_placeLines_11 : decode m_Se_placeLines.2.1 11 = .ok (.istore 7, 2) := by decide +kernel
theorem d_Se_placeLines_13 : decode m_Se_placeLines.2.1 13 = .ok (.iload 7, 2) := by decide +kernel
theorem d_Se_placeLines_15 : decode m_Se_placeLines.2.1 15 = .ok (.iload 4, 2) := by decide +kernel
theorem d_Se_placeLines_17 : decode m_Se_placeLines.2.1 17 = .ok (.if_icmp .ge 71, 3) := by decide +kernel
theorem d_Se_placeLines_20 : decode m_Se_placeLines.2.1 20 = .ok (.iload_n 3, 1) := by decide +kernel
theorem d_Se_placeLines_21 : decode m_Se_placeLines.2.1 21 = .ok (.iload 7, 2) := by decide +kernel
theorem d_Se_placeLines_23 : decode m_Se_placeLines.2.1 23 = .ok (.iadd, 1) := by decide +kernel
theorem d_Se_placeLines_24 : decode m_Se_placeLines.2.1 24 = .ok (.bipush 120, 2) := by decide +kernel
theorem d_Se_placeLines_26 : decode m_Se_placeLines.2.1 26 = .ok (.if_icmp .ge 62, 3) := by decide +kernel
theorem d_Se_placeLines_29 : decode m_Se_placeLines.2.1 29 = .ok (.aload 5, 2) := by decide +kernel
theorem d_Se_placeLines_31 : decode m_Se_placeLines.2.1 31 = .ok (.iload 4, 2) := by decide +kernel
theorem d_Se_placeLines_33 : decode m_Se_placeLines.2.1 33 = .ok (.iload 7, 2) := by decide +kernel
theorem d_Se_placeLines_35 : decode m_Se_placeLines.2.1 35 = .ok (.isub, 1) := by decide +kernel
theorem d_Se_placeLines_36 : decode m_Se_placeLines.2.1 36 = .ok (.iload 6, 2) := by decide +kernel
theorem d_Se_placeLines_38 : decode m_Se_placeLines.2.1 38 = .ok (.invokevirtual 117, 3) := by decide +kernel
theorem d_Se_placeLines_41 : decode m_Se_placeLines.2.1 41 = .ok (.istore 8, 2) := by decide +kernel
theorem d_Se_placeLines_43 : decode m_Se_placeLines.2.1 43 = .ok (.aload_n 0, 1) := by decide +kernel
theorem d_Se_placeLines_44 : decode m_Se_placeLines.2.1 44 = .ok (.getfield 26, 3) := by decide +kernel
theorem d_Se_placeLines_47 : decode m_Se_placeLines.2.1 47 = .ok (.iload_n 3, 1) := by decide +kernel
theorem d_Se_placeLines_48 : decode m_Se_placeLines.2.1 48 = .ok (.iload 7, 2) := by decide +kernel
theorem d_Se_placeLines_50 : decode m_Se_placeLines.2.1 50 = .ok (.iadd, 1) := by decide +kernel
theorem d_Se_placeLines_51 : decode m_Se_placeLines.2.1 51 = .ok (.iload_n 2, 1) := by decide +kernel
theorem d_Se_placeLines_52 : decode m_Se_placeLines.2.1 52 = .ok (.iastore, 1) := by decide +kernel
theorem d_Se_placeLines_53 : decode m_Se_placeLines.2.1 53 = .ok (.aload_n 0, 1) := by decide +kernel
theorem d_Se_placeLines_54 : decode m_Se_placeLines.2.1 54 = .ok (.getfield 29, 3) := by decide +kernel
theorem d_Se_placeLines_57 : decode m_Se_placeLines.2.1 57 = .ok (.iload_n 3, 1) := by decide +kernel
theorem d_Se_placeLines_58 : decode m_Se_placeLines.2.1 58 = .ok (.iload 7, 2) := by decide +kernel
theorem d_Se_placeLines_60 : decode m_Se_placeLines.2.1 60 = .ok (.iadd, 1) := by decide +kernel
theorem d_Se_placeLines_61 : decode m_Se_placeLines.2.1 61 = .ok (.iload 6, 2) := by decide +kernel
theorem d_Se_placeLines_63 : decode m_Se_placeLines.2.1 63 = .ok (.iastore, 1) := by decide +kernel
theorem d_Se_placeLines_64 : decode m_Se_placeLines.2.1 64 = .ok (.aload_n 0, 1) := by decide +kernel
theorem d_Se_placeLines_65 : decode m_Se_placeLines.2.1 65 = .ok (.getfield 32, 3) := by decide +kernel
theorem d_Se_placeLines_68 : decode m_Se_placeLines.2.1 68 = .ok (.iload_n 3, 1) := by decide +kernel
theorem d_Se_placeLines_69 : decode m_Se_placeLines.2.1 69 = .ok (.iload 7, 2) := by decide +kernel
theorem d_Se_placeLines_71 : decode m_Se_placeLines.2.1 71 = .ok (.iadd, 1) := by decide +kernel
theorem d_Se_placeLines_72 : decode m_Se_placeLines.2.1 72 = .ok (.iload 8, 2) := by decide +kernel
theorem d_Se_placeLines_74 : decode m_Se_placeLines.2.1 74 = .ok (.iastore, 1) := by decide +kernel
theorem d_Se_placeLines_75 : decode m_Se_placeLines.2.1 75 = .ok (.iload 6, 2) := by decide +kernel
theorem d_Se_placeLines_77 : decode m_Se_placeLines.2.1 77 = .ok (.iload 8, 2) := by decide +kernel
theorem d_Se_placeLines_79 : decode m_Se_placeLines.2.1 79 = .ok (.iadd, 1) := by decide +kernel
theorem d_Se_placeLines_80 : decode m_Se_placeLines.2.1 80 = .ok (.istore 6, 2) := by decide +kernel
theorem d_Se_placeLines_82 : decode m_Se_placeLines.2.1 82 = .ok (.iinc 7 1, 3) := by decide +kernel
theorem d_Se_placeLines_85 : decode m_Se_placeLines.2.1 85 = .ok (.goto (-72), 3) := by decide +kernel
theorem d_Se_placeLines_88 : decode m_Se_placeLines.2.1 88 = .ok (.return_, 1) := by decide +kernel
set_option maxHeartbeats 4000000 in
set_option maxRecDepth 100000 in
theorem B_Se_placeLines_0 {S : XS} {Q : St → Prop} (σ : St) (x2 : Int32) (x3 : Int32) (x4 : Int32) (H : CM S m_Mn_breaksOf [.ref 3, .int x2] (enc σ) (qR (fun v1 τ2 => v1 = some 49 ∧ BW S m_Se_placeLines 13 [some (.ref 82), none, some (.int x2), some (.int x3), some (.int x4), some (.ref 49), some (.int (0 : Int32)), some (.int (0 : Int32)), none] [] (enc τ2) (qV Q)))) : BW S m_Se_placeLines 0 [some (.ref 82), some (.ref 3), some (.int x2), some (.int x3), some (.int x4), none, none, none, none] [] (enc σ) (qV Q) := by
  refine b_aload_n d_Se_placeLines_0 rfl rfl ?_
  refine b_iload_n d_Se_placeLines_1 rfl rfl ?_
  refine b_callVr (Mc := m_Mn_breaksOf) (As := [.int x2]) (st := []) d_Se_placeLines_2 ⟨⟨kA_Mn_breaksOf.1, kA_Mn_breaksOf.2.1, kA_Mn_breaksOf.2.2, by decide⟩, ml_Se_113, kV_Mn_breaksOf⟩ (eg_3 σ) rfl rfl (Nat.le_of_ble_eq_true rfl) H (fun v1 τ2 H => ?_)
  obtain ⟨e3, H⟩ := H
  subst e3
  refine b_astore (ls' := [some (.ref 82), some (.ref 3), some (.int x2), some (.int x3), some (.int x4), some (.ref 49), none, none, none]) d_Se_placeLines_5 (Nat.le_of_ble_eq_true rfl) rfl ?_
  refine b_iconst (v := (0 : Int32)) d_Se_placeLines_7 (by decide) ?_
  refine b_istore (ls' := [some (.ref 82), some (.ref 3), some (.int x2), some (.int x3), some (.int x4), some (.ref 49), some (.int (0 : Int32)), none, none]) d_Se_placeLines_8 (Nat.le_of_ble_eq_true rfl) rfl ?_
  refine b_iconst (v := (0 : Int32)) d_Se_placeLines_10 (by decide) ?_
  refine b_istore (ls' := [some (.ref 82), some (.ref 3), some (.int x2), some (.int x3), some (.int x4), some (.ref 49), some (.int (0 : Int32)), some (.int (0 : Int32)), none]) d_Se_placeLines_11 (Nat.le_of_ble_eq_true rfl) rfl ?_
  exact b_mask [true, false, true, true, true, true, true, true, true] rfl H
set_option maxHeartbeats 4000000 in
set_option maxRecDepth 100000 in
theorem B_Se_placeLines_13 {S : XS} {Q : St → Prop} (σ : St) (x2 : Int32) (x3 : Int32) (x4 : Int32) (x6 : Int32) (x7 : Int32) (H : ((x4 ≤ x7 → Q σ) ∧ (¬ x4 ≤ x7 → (((120 : Int32) ≤ (x3 + x7) → Q σ) ∧ (¬ (120 : Int32) ≤ (x3 + x7) → CM S m_Br_wordsTaken [.ref 49, .int (x4 - x7), .int x6] (enc σ) (qI (fun v4 τ5 => (vp_in (x3 + x7) 120) ∧ BW S m_Se_placeLines 13 [some (.ref 82), none, some (.int x2), some (.int x3), some (.int x4), some (.ref 49), some (.int (x6 + v4)), some (.int (x7 + (1 : Int32))), none] [] (enc (sA (sA (sA τ5 6 (upd (gA τ5 6) (x3 + x7).toNatClampNeg x2)) 7 (upd (gA τ5 7) (x3 + x7).toNatClampNeg x6)) 8 (upd (gA τ5 8) (x3 + x7).toNatClampNeg v4))) (qV Q)))))))) : BW S m_Se_placeLines 13 [some (.ref 82), none, some (.int x2), some (.int x3), some (.int x4), some (.ref 49), some (.int x6), some (.int x7), none] [] (enc σ) (qV Q) := by
  refine b_iload d_Se_placeLines_13 rfl ?_
  refine b_iload d_Se_placeLines_15 rfl ?_
  refine b_icmp_ge (tgt := 88) d_Se_placeLines_17 (by decide) (fun c8 => ?_) (fun c8 => ?_)
  · have H := H.1 c8
    exact b_vret d_Se_placeLines_88 rfl ⟨_, rfl, rfl, H⟩
  · have H := H.2 c8
    refine b_iload_n d_Se_placeLines_20 rfl rfl ?_
    refine b_iload d_Se_placeLines_21 rfl ?_
    refine b_iadd d_Se_placeLines_23  ?_
    refine b_bipush (v := (120 : Int32)) d_Se_placeLines_24 (by decide) ?_
    refine b_icmp_ge (tgt := 88) d_Se_placeLines_26 (by decide) (fun c7 => ?_) (fun c7 => ?_)
    · have H := H.1 c7
      exact b_vret d_Se_placeLines_88 rfl ⟨_, rfl, rfl, H⟩
    · have H := H.2 c7
      refine b_aload d_Se_placeLines_29 rfl ?_
      refine b_iload d_Se_placeLines_31 rfl ?_
      refine b_iload d_Se_placeLines_33 rfl ?_
      refine b_isub d_Se_placeLines_35  ?_
      refine b_iload d_Se_placeLines_36 rfl ?_
      refine b_callVi (Mc := m_Br_wordsTaken) (As := [.int (x4 - x7), .int x6]) (st := []) d_Se_placeLines_38 ⟨⟨kA_Br_wordsTaken.1, kA_Br_wordsTaken.2.1, kA_Br_wordsTaken.2.2, by decide⟩, ml_Se_117, kV_Br_wordsTaken⟩ (eg_49 σ) rfl rfl (Nat.le_of_ble_eq_true rfl) H (fun v4 τ5 H => ?_)
      refine b_istore (ls' := [some (.ref 82), none, some (.int x2), some (.int x3), some (.int x4), some (.ref 49), some (.int x6), some (.int x7), some (.int v4)]) d_Se_placeLines_41 (Nat.le_of_ble_eq_true rfl) rfl ?_
      refine b_aload_n d_Se_placeLines_43 rfl rfl ?_
      refine b_getf (v := .ref 128) d_Se_placeLines_44 fl_Se_26 (eg_82 τ5) rfl ?_
      refine b_iload_n d_Se_placeLines_47 rfl rfl ?_
      refine b_iload d_Se_placeLines_48 rfl ?_
      refine b_iadd d_Se_placeLines_50  ?_
      refine b_iload_n d_Se_placeLines_51 rfl rfl ?_
      obtain ⟨h6, H⟩ := H
      refine b_iast (h1 := enc (sA τ5 6 (upd (gA τ5 6) (x3 + x7).toNatClampNeg x2))) d_Se_placeLines_52 (eg_128 τ5) h6 (es_128 τ5 (upd (gA τ5 6) (x3 + x7).toNatClampNeg x2)) ?_
      refine b_aload_n d_Se_placeLines_53 rfl rfl ?_
      refine b_getf (v := .ref 129) d_Se_placeLines_54 fl_Se_29 (eg_82 (sA τ5 6 (upd (gA τ5 6) (x3 + x7).toNatClampNeg x2))) rfl ?_
      refine b_iload_n d_Se_placeLines_57 rfl rfl ?_
      refine b_iload d_Se_placeLines_58 rfl ?_
      refine b_iadd d_Se_placeLines_60  ?_
      refine b_iload d_Se_placeLines_61 rfl ?_
      refine b_iast (h1 := enc (sA (sA τ5 6 (upd (gA τ5 6) (x3 + x7).toNatClampNeg x2)) 7 (upd (gA τ5 7) (x3 + x7).toNatClampNeg x6))) d_Se_placeLines_63 (eg_129 (sA τ5 6 (upd (gA τ5 6) (x3 + x7).toNatClampNeg x2))) h6 (es_129 (sA τ5 6 (upd (gA τ5 6) (x3 + x7).toNatClampNeg x2)) (upd (gA τ5 7) (x3 + x7).toNatClampNeg x6)) ?_
      refine b_aload_n d_Se_placeLines_64 rfl rfl ?_
      refine b_getf (v := .ref 130) d_Se_placeLines_65 fl_Se_32 (eg_82 (sA (sA τ5 6 (upd (gA τ5 6) (x3 + x7).toNatClampNeg x2)) 7 (upd (gA τ5 7) (x3 + x7).toNatClampNeg x6))) rfl ?_
      refine b_iload_n d_Se_placeLines_68 rfl rfl ?_
      refine b_iload d_Se_placeLines_69 rfl ?_
      refine b_iadd d_Se_placeLines_71  ?_
      refine b_iload d_Se_placeLines_72 rfl ?_
      refine b_iast (h1 := enc (sA (sA (sA τ5 6 (upd (gA τ5 6) (x3 + x7).toNatClampNeg x2)) 7 (upd (gA τ5 7) (x3 + x7).toNatClampNeg x6)) 8 (upd (gA τ5 8) (x3 + x7).toNatClampNeg v4))) d_Se_placeLines_74 (eg_130 (sA (sA τ5 6 (upd (gA τ5 6) (x3 + x7).toNatClampNeg x2)) 7 (upd (gA τ5 7) (x3 + x7).toNatClampNeg x6))) h6 (es_130 (sA (sA τ5 6 (upd (gA τ5 6) (x3 + x7).toNatClampNeg x2)) 7 (upd (gA τ5 7) (x3 + x7).toNatClampNeg x6)) (upd (gA τ5 8) (x3 + x7).toNatClampNeg v4)) ?_
      refine b_iload d_Se_placeLines_75 rfl ?_
      refine b_iload d_Se_placeLines_77 rfl ?_
      refine b_iadd d_Se_placeLines_79  ?_
      refine b_istore (ls' := [some (.ref 82), none, some (.int x2), some (.int x3), some (.int x4), some (.ref 49), some (.int (x6 + v4)), some (.int x7), some (.int v4)]) d_Se_placeLines_80 (Nat.le_of_ble_eq_true rfl) rfl ?_
      refine b_iinc (v := (x7 + (1 : Int32))) (ls' := [some (.ref 82), none, some (.int x2), some (.int x3), some (.int x4), some (.ref 49), some (.int (x6 + v4)), some (.int (x7 + (1 : Int32))), some (.int v4)]) d_Se_placeLines_82 rfl rfl (Nat.le_of_ble_eq_true rfl) rfl ?_
      refine b_goto (tgt := 13) d_Se_placeLines_85 (by decide) ?_
      exact b_mask [true, true, true, true, true, true, true, true, false] rfl H
theorem C_Se_placeLines {S : XS} {Q : St → Prop} (σ : St) (x2 : Int32) (x3 : Int32) (x4 : Int32) (H : BW S m_Se_placeLines 0 [some (.ref 82), some (.ref 3), some (.int x2), some (.int x3), some (.int x4), none, none, none, none] [] (enc σ) (qV Q)) : CM S m_Se_placeLines [.ref 82, .ref 3, .int x2, .int x3, .int x4] (enc σ) (qV Q) := b_meth (by decide) (Nat.le_of_ble_eq_true rfl) rfl H
theorem d_Se_note_0 : decode m_Se_note.2.1 0 = .ok (.aload_n 0, 1) := by decide +kernel
theorem d_Se_note_1 : decode m_Se_note.2.1 1 = .ok (.getfield 23, 3) := by decide +kernel
theorem d_Se_note_4 : decode m_Se_note.2.1 4 = .ok (.iload_n 1, 1) := by decide +kernel
theorem d_Se_note_5 : decode m_Se_note.2.1 5 = .ok (.aaload, 1) := by decide +kernel
theorem d_Se_note_6 : decode m_Se_note.2.1 6 = .ok (.iconst 0, 1) := by decide +kernel
theorem d_Se_note_7 : decode m_Se_note.2.1 7 = .ok (.iload_n 2, 1) := by decide +kernel
theorem d_Se_note_8 : decode m_Se_note.2.1 8 = .ok (.iastore, 1) := by decide +kernel
theorem d_Se_note_9 : decode m_Se_note.2.1 9 = .ok (.aload_n 0, 1) := by decide +kernel
theorem d_Se_note_10 : decode m_Se_note.2.1 10 = .ok (.getfield 23, 3) := by decide +kernel
theorem d_Se_note_13 : decode m_Se_note.2.1 13 = .ok (.iload_n 1, 1) := by decide +kernel
theorem d_Se_note_14 : decode m_Se_note.2.1 14 = .ok (.aaload, 1) := by decide +kernel
theorem d_Se_note_15 : decode m_Se_note.2.1 15 = .ok (.iconst 1, 1) := by decide +kernel
theorem d_Se_note_16 : decode m_Se_note.2.1 16 = .ok (.iload_n 3, 1) := by decide +kernel
theorem d_Se_note_17 : decode m_Se_note.2.1 17 = .ok (.iastore, 1) := by decide +kernel
theorem d_Se_note_18 : decode m_Se_note.2.1 18 = .ok (.aload_n 0, 1) := by decide +kernel
theorem d_Se_note_19 : decode m_Se_note.2.1 19 = .ok (.getfield 23, 3) := by decide +kernel
theorem d_Se_note_22 : decode m_Se_note.2.1 22 = .ok (.iload_n 1, 1) := by decide +kernel
theorem d_Se_note_23 : decode m_Se_note.2.1 23 = .ok (.aaload, 1) := by decide +kernel
theorem d_Se_note_24 : decode m_Se_note.2.1 24 = .ok (.iconst 2, 1) := by decide +kernel
theorem d_Se_note_25 : decode m_Se_note.2.1 25 = .ok (.iload 4, 2) := by decide +kernel
theorem d_Se_note_27 : decode m_Se_note.2.1 27 = .ok (.iastore, 1) := by decide +kernel
theorem d_Se_note_28 : decode m_Se_note.2.1 28 = .ok (.aload_n 0, 1) := by decide +kernel
theorem d_Se_note_29 : decode m_Se_note.2.1 29 = .ok (.getfield 23, 3) := by decide +kernel
theorem d_Se_note_32 : decode m_Se_note.2.1 32 = .ok (.iload_n 1, 1) := by decide +kernel
theorem d_Se_note_33 : decode m_Se_note.2.1 33 = .ok (.aaload, 1) := by decide +kernel
theorem d_Se_note_34 : decode m_Se_note.2.1 34 = .ok (.iconst 3, 1) := by decide +kernel
theorem d_Se_note_35 : decode m_Se_note.2.1 35 = .ok (.iload 5, 2) := by decide +kernel
theorem d_Se_note_37 : decode m_Se_note.2.1 37 = .ok (.iastore, 1) := by decide +kernel
theorem d_Se_note_38 : decode m_Se_note.2.1 38 = .ok (.return_, 1) := by decide +kernel
set_option maxHeartbeats 4000000 in
set_option maxRecDepth 100000 in
theorem B_Se_note_0 {S : XS} {Q : St → Prop} (σ : St) (x1 : Int32) (x2 : Int32) (x3 : Int32) (x4 : Int32) (x5 : Int32) (H : (vp_in x1 20) ∧ (vp_in (0 : Int32) 4) ∧ (vp_in (1 : Int32) 4) ∧ (vp_in (2 : Int32) 4) ∧ (vp_in (3 : Int32) 4) ∧ Q (sB (sB (sB (sB σ 4 x1.toNatClampNeg (upd (gB σ 4 x1.toNatClampNeg) (0 : Int32).toNatClampNeg x2)) 4 x1.toNatClampNeg (upd (gB (sB σ 4 x1.toNatClampNeg (upd (gB σ 4 x1.toNatClampNeg) (0 : Int32).toNatClampNeg x2)) 4 x1.toNatClampNeg) (1 : Int32).toNatClampNeg x3)) 4 x1.toNatClampNeg (upd (gB (sB (sB σ 4 x1.toNatClampNeg (upd (gB σ 4 x1.toNatClampNeg) (0 : Int32).toNatClampNeg x2)) 4 x1.toNatClampNeg (upd (gB (sB σ 4 x1.toNatClampNeg (upd (gB σ 4 x1.toNatClampNeg) (0 : Int32).toNatClampNeg x2)) 4 x1.toNatClampNeg) (1 : Int32).toNatClampNeg x3)) 4 x1.toNatClampNeg) (2 : Int32).toNatClampNeg x4)) 4 x1.toNatClampNeg (upd (gB (sB (sB (sB σ 4 x1.toNatClampNeg (upd (gB σ 4 x1.toNatClampNeg) (0 : Int32).toNatClampNeg x2)) 4 x1.toNatClampNeg (upd (gB (sB σ 4 x1.toNatClampNeg (upd (gB σ 4 x1.toNatClampNeg) (0 : Int32).toNatClampNeg x2)) 4 x1.toNatClampNeg) (1 : Int32).toNatClampNeg x3)) 4 x1.toNatClampNeg (upd (gB (sB (sB σ 4 x1.toNatClampNeg (upd (gB σ 4 x1.toNatClampNeg) (0 : Int32).toNatClampNeg x2)) 4 x1.toNatClampNeg (upd (gB (sB σ 4 x1.toNatClampNeg (upd (gB σ 4 x1.toNatClampNeg) (0 : Int32).toNatClampNeg x2)) 4 x1.toNatClampNeg) (1 : Int32).toNatClampNeg x3)) 4 x1.toNatClampNeg) (2 : Int32).toNatClampNeg x4)) 4 x1.toNatClampNeg) (3 : Int32).toNatClampNeg x5))) : BW S m_Se_note 0 [some (.ref 82), some (.int x1), some (.int x2), some (.int x3), some (.int x4), some (.int x5)] [] (enc σ) (qV Q) := by
  refine b_aload_n d_Se_note_0 rfl rfl ?_
  refine b_getf (v := .ref 107) d_Se_note_1 fl_Se_23 (eg_82 σ) rfl ?_
  refine b_iload_n d_Se_note_4 rfl rfl ?_
  obtain ⟨h1, H⟩ := H
  refine b_rowld d_Se_note_5 (eg_107 σ) h1 ?_
  refine b_iconst (v := (0 : Int32)) d_Se_note_6 (by decide) ?_
  refine b_iload_n d_Se_note_7 rfl rfl ?_
  obtain ⟨h2, H⟩ := H
  refine b_iast (h1 := enc (sB σ 4 x1.toNatClampNeg (upd (gB σ 4 x1.toNatClampNeg) (0 : Int32).toNatClampNeg x2))) (f := gB σ 4 x1.toNatClampNeg) d_Se_note_8 (er4 σ (vp_lt h1)) h2 (et4 σ (vp_lt h1) (upd (gB σ 4 x1.toNatClampNeg) (0 : Int32).toNatClampNeg x2)) ?_
  refine b_aload_n d_Se_note_9 rfl rfl ?_
  refine b_getf (v := .ref 107) d_Se_note_10 fl_Se_23 (eg_82 (sB σ 4 x1.toNatClampNeg (upd (gB σ 4 x1.toNatClampNeg) (0 : Int32).toNatClampNeg x2))) rfl ?_
  refine b_iload_n d_Se_note_13 rfl rfl ?_
  refine b_rowld d_Se_note_14 (eg_107 (sB σ 4 x1.toNatClampNeg (upd (gB σ 4 x1.toNatClampNeg) (0 : Int32).toNatClampNeg x2))) h1 ?_
  refine b_iconst (v := (1 : Int32)) d_Se_note_15 (by decide) ?_
  refine b_iload_n d_Se_note_16 rfl rfl ?_
  obtain ⟨h3, H⟩ := H
  refine b_iast (h1 := enc (sB (sB σ 4 x1.toNatClampNeg (upd (gB σ 4 x1.toNatClampNeg) (0 : Int32).toNatClampNeg x2)) 4 x1.toNatClampNeg (upd (gB (sB σ 4 x1.toNatClampNeg (upd (gB σ 4 x1.toNatClampNeg) (0 : Int32).toNatClampNeg x2)) 4 x1.toNatClampNeg) (1 : Int32).toNatClampNeg x3))) (f := gB (sB σ 4 x1.toNatClampNeg (upd (gB σ 4 x1.toNatClampNeg) (0 : Int32).toNatClampNeg x2)) 4 x1.toNatClampNeg) d_Se_note_17 (er4 (sB σ 4 x1.toNatClampNeg (upd (gB σ 4 x1.toNatClampNeg) (0 : Int32).toNatClampNeg x2)) (vp_lt h1)) h3 (et4 (sB σ 4 x1.toNatClampNeg (upd (gB σ 4 x1.toNatClampNeg) (0 : Int32).toNatClampNeg x2)) (vp_lt h1) (upd (gB (sB σ 4 x1.toNatClampNeg (upd (gB σ 4 x1.toNatClampNeg) (0 : Int32).toNatClampNeg x2)) 4 x1.toNatClampNeg) (1 : Int32).toNatClampNeg x3)) ?_
  refine b_aload_n d_Se_note_18 rfl rfl ?_
  refine b_getf (v := .ref 107) d_Se_note_19 fl_Se_23 (eg_82 (sB (sB σ 4 x1.toNatClampNeg (upd (gB σ 4 x1.toNatClampNeg) (0 : Int32).toNatClampNeg x2)) 4 x1.toNatClampNeg (upd (gB (sB σ 4 x1.toNatClampNeg (upd (gB σ 4 x1.toNatClampNeg) (0 : Int32).toNatClampNeg x2)) 4 x1.toNatClampNeg) (1 : Int32).toNatClampNeg x3))) rfl ?_
  refine b_iload_n d_Se_note_22 rfl rfl ?_
  refine b_rowld d_Se_note_23 (eg_107 (sB (sB σ 4 x1.toNatClampNeg (upd (gB σ 4 x1.toNatClampNeg) (0 : Int32).toNatClampNeg x2)) 4 x1.toNatClampNeg (upd (gB (sB σ 4 x1.toNatClampNeg (upd (gB σ 4 x1.toNatClampNeg) (0 : Int32).toNatClampNeg x2)) 4 x1.toNatClampNeg) (1 : Int32).toNatClampNeg x3))) h1 ?_
  refine b_iconst (v := (2 : Int32)) d_Se_note_24 (by decide) ?_
  refine b_iload d_Se_note_25 rfl ?_
  obtain ⟨h4, H⟩ := H
  refine b_iast (h1 := enc (sB (sB (sB σ 4 x1.toNatClampNeg (upd (gB σ 4 x1.toNatClampNeg) (0 : Int32).toNatClampNeg x2)) 4 x1.toNatClampNeg (upd (gB (sB σ 4 x1.toNatClampNeg (upd (gB σ 4 x1.toNatClampNeg) (0 : Int32).toNatClampNeg x2)) 4 x1.toNatClampNeg) (1 : Int32).toNatClampNeg x3)) 4 x1.toNatClampNeg (upd (gB (sB (sB σ 4 x1.toNatClampNeg (upd (gB σ 4 x1.toNatClampNeg) (0 : Int32).toNatClampNeg x2)) 4 x1.toNatClampNeg (upd (gB (sB σ 4 x1.toNatClampNeg (upd (gB σ 4 x1.toNatClampNeg) (0 : Int32).toNatClampNeg x2)) 4 x1.toNatClampNeg) (1 : Int32).toNatClampNeg x3)) 4 x1.toNatClampNeg) (2 : Int32).toNatClampNeg x4))) (f := gB (sB (sB σ 4 x1.toNatClampNeg (upd (gB σ 4 x1.toNatClampNeg) (0 : Int32).toNatClampNeg x2)) 4 x1.toNatClampNeg (upd (gB (sB σ 4 x1.toNatClampNeg (upd (gB σ 4 x1.toNatClampNeg) (0 : Int32).toNatClampNeg x2)) 4 x1.toNatClampNeg) (1 : Int32).toNatClampNeg x3)) 4 x1.toNatClampNeg) d_Se_note_27 (er4 (sB (sB σ 4 x1.toNatClampNeg (upd (gB σ 4 x1.toNatClampNeg) (0 : Int32).toNatClampNeg x2)) 4 x1.toNatClampNeg (upd (gB (sB σ 4 x1.toNatClampNeg (upd (gB σ 4 x1.toNatClampNeg) (0 : Int32).toNatClampNeg x2)) 4 x1.toNatClampNeg) (1 : Int32).toNatClampNeg x3)) (vp_lt h1)) h4 (et4 (sB (sB σ 4 x1.toNatClampNeg (upd (gB σ 4 x1.toNatClampNeg) (0 : Int32).toNatClampNeg x2)) 4 x1.toNatClampNeg (upd (gB (sB σ 4 x1.toNatClampNeg (upd (gB σ 4 x1.toNatClampNeg) (0 : Int32).toNatClampNeg x2)) 4 x1.toNatClampNeg) (1 : Int32).toNatClampNeg x3)) (vp_lt h1) (upd (gB (sB (sB σ 4 x1.toNatClampNeg (upd (gB σ 4 x1.toNatClampNeg) (0 : Int32).toNatClampNeg x2)) 4 x1.toNatClampNeg (upd (gB (sB σ 4 x1.toNatClampNeg (upd (gB σ 4 x1.toNatClampNeg) (0 : Int32).toNatClampNeg x2)) 4 x1.toNatClampNeg) (1 : Int32).toNatClampNeg x3)) 4 x1.toNatClampNeg) (2 : Int32).toNatClampNeg x4)) ?_
  refine b_aload_n d_Se_note_28 rfl rfl ?_
  refine b_getf (v := .ref 107) d_Se_note_29 fl_Se_23 (eg_82 (sB (sB (sB σ 4 x1.toNatClampNeg (upd (gB σ 4 x1.toNatClampNeg) (0 : Int32).toNatClampNeg x2)) 4 x1.toNatClampNeg (upd (gB (sB σ 4 x1.toNatClampNeg (upd (gB σ 4 x1.toNatClampNeg) (0 : Int32).toNatClampNeg x2)) 4 x1.toNatClampNeg) (1 : Int32).toNatClampNeg x3)) 4 x1.toNatClampNeg (upd (gB (sB (sB σ 4 x1.toNatClampNeg (upd (gB σ 4 x1.toNatClampNeg) (0 : Int32).toNatClampNeg x2)) 4 x1.toNatClampNeg (upd (gB (sB σ 4 x1.toNatClampNeg (upd (gB σ 4 x1.toNatClampNeg) (0 : Int32).toNatClampNeg x2)) 4 x1.toNatClampNeg) (1 : Int32).toNatClampNeg x3)) 4 x1.toNatClampNeg) (2 : Int32).toNatClampNeg x4))) rfl ?_
  refine b_iload_n d_Se_note_32 rfl rfl ?_
  refine b_rowld d_Se_note_33 (eg_107 (sB (sB (sB σ 4 x1.toNatClampNeg (upd (gB σ 4 x1.toNatClampNeg) (0 : Int32).toNatClampNeg x2)) 4 x1.toNatClampNeg (upd (gB (sB σ 4 x1.toNatClampNeg (upd (gB σ 4 x1.toNatClampNeg) (0 : Int32).toNatClampNeg x2)) 4 x1.toNatClampNeg) (1 : Int32).toNatClampNeg x3)) 4 x1.toNatClampNeg (upd (gB (sB (sB σ 4 x1.toNatClampNeg (upd (gB σ 4 x1.toNatClampNeg) (0 : Int32).toNatClampNeg x2)) 4 x1.toNatClampNeg (upd (gB (sB σ 4 x1.toNatClampNeg (upd (gB σ 4 x1.toNatClampNeg) (0 : Int32).toNatClampNeg x2)) 4 x1.toNatClampNeg) (1 : Int32).toNatClampNeg x3)) 4 x1.toNatClampNeg) (2 : Int32).toNatClampNeg x4))) h1 ?_
  refine b_iconst (v := (3 : Int32)) d_Se_note_34 (by decide) ?_
  refine b_iload d_Se_note_35 rfl ?_
  obtain ⟨h5, H⟩ := H
  refine b_iast (h1 := enc (sB (sB (sB (sB σ 4 x1.toNatClampNeg (upd (gB σ 4 x1.toNatClampNeg) (0 : Int32).toNatClampNeg x2)) 4 x1.toNatClampNeg (upd (gB (sB σ 4 x1.toNatClampNeg (upd (gB σ 4 x1.toNatClampNeg) (0 : Int32).toNatClampNeg x2)) 4 x1.toNatClampNeg) (1 : Int32).toNatClampNeg x3)) 4 x1.toNatClampNeg (upd (gB (sB (sB σ 4 x1.toNatClampNeg (upd (gB σ 4 x1.toNatClampNeg) (0 : Int32).toNatClampNeg x2)) 4 x1.toNatClampNeg (upd (gB (sB σ 4 x1.toNatClampNeg (upd (gB σ 4 x1.toNatClampNeg) (0 : Int32).toNatClampNeg x2)) 4 x1.toNatClampNeg) (1 : Int32).toNatClampNeg x3)) 4 x1.toNatClampNeg) (2 : Int32).toNatClampNeg x4)) 4 x1.toNatClampNeg (upd (gB (sB (sB (sB σ 4 x1.toNatClampNeg (upd (gB σ 4 x1.toNatClampNeg) (0 : Int32).toNatClampNeg x2)) 4 x1.toNatClampNeg (upd (gB (sB σ 4 x1.toNatClampNeg (upd (gB σ 4 x1.toNatClampNeg) (0 : Int32).toNatClampNeg x2)) 4 x1.toNatClampNeg) (1 : Int32).toNatClampNeg x3)) 4 x1.toNatClampNeg (upd (gB (sB (sB σ 4 x1.toNatClampNeg (upd (gB σ 4 x1.toNatClampNeg) (0 : Int32).toNatClampNeg x2)) 4 x1.toNatClampNeg (upd (gB (sB σ 4 x1.toNatClampNeg (upd (gB σ 4 x1.toNatClampNeg) (0 : Int32).toNatClampNeg x2)) 4 x1.toNatClampNeg) (1 : Int32).toNatClampNeg x3)) 4 x1.toNatClampNeg) (2 : Int32).toNatClampNeg x4)) 4 x1.toNatClampNeg) (3 : Int32).toNatClampNeg x5))) (f := gB (sB (sB (sB σ 4 x1.toNatClampNeg (upd (gB σ 4 x1.toNatClampNeg) (0 : Int32).toNatClampNeg x2)) 4 x1.toNatClampNeg (upd (gB (sB σ 4 x1.toNatClampNeg (upd (gB σ 4 x1.toNatClampNeg) (0 : Int32).toNatClampNeg x2)) 4 x1.toNatClampNeg) (1 : Int32).toNatClampNeg x3)) 4 x1.toNatClampNeg (upd (gB (sB (sB σ 4 x1.toNatClampNeg (upd (gB σ 4 x1.toNatClampNeg) (0 : Int32).toNatClampNeg x2)) 4 x1.toNatClampNeg (upd (gB (sB σ 4 x1.toNatClampNeg (upd (gB σ 4 x1.toNatClampNeg) (0 : Int32).toNatClampNeg x2)) 4 x1.toNatClampNeg) (1 : Int32).toNatClampNeg x3)) 4 x1.toNatClampNeg) (2 : Int32).toNatClampNeg x4)) 4 x1.toNatClampNeg) d_Se_note_37 (er4 (sB (sB (sB σ 4 x1.toNatClampNeg (upd (gB σ 4 x1.toNatClampNeg) (0 : Int32).toNatClampNeg x2)) 4 x1.toNatClampNeg (upd (gB (sB σ 4 x1.toNatClampNeg (upd (gB σ 4 x1.toNatClampNeg) (0 : Int32).toNatClampNeg x2)) 4 x1.toNatClampNeg) (1 : Int32).toNatClampNeg x3)) 4 x1.toNatClampNeg (upd (gB (sB (sB σ 4 x1.toNatClampNeg (upd (gB σ 4 x1.toNatClampNeg) (0 : Int32).toNatClampNeg x2)) 4 x1.toNatClampNeg (upd (gB (sB σ 4 x1.toNatClampNeg (upd (gB σ 4 x1.toNatClampNeg) (0 : Int32).toNatClampNeg x2)) 4 x1.toNatClampNeg) (1 : Int32).toNatClampNeg x3)) 4 x1.toNatClampNeg) (2 : Int32).toNatClampNeg x4)) (vp_lt h1)) h5 (et4 (sB (sB (sB σ 4 x1.toNatClampNeg (upd (gB σ 4 x1.toNatClampNeg) (0 : Int32).toNatClampNeg x2)) 4 x1.toNatClampNeg (upd (gB (sB σ 4 x1.toNatClampNeg (upd (gB σ 4 x1.toNatClampNeg) (0 : Int32).toNatClampNeg x2)) 4 x1.toNatClampNeg) (1 : Int32).toNatClampNeg x3)) 4 x1.toNatClampNeg (upd (gB (sB (sB σ 4 x1.toNatClampNeg (upd (gB σ 4 x1.toNatClampNeg) (0 : Int32).toNatClampNeg x2)) 4 x1.toNatClampNeg (upd (gB (sB σ 4 x1.toNatClampNeg (upd (gB σ 4 x1.toNatClampNeg) (0 : Int32).toNatClampNeg x2)) 4 x1.toNatClampNeg) (1 : Int32).toNatClampNeg x3)) 4 x1.toNatClampNeg) (2 : Int32).toNatClampNeg x4)) (vp_lt h1) (upd (gB (sB (sB (sB σ 4 x1.toNatClampNeg (upd (gB σ 4 x1.toNatClampNeg) (0 : Int32).toNatClampNeg x2)) 4 x1.toNatClampNeg (upd (gB (sB σ 4 x1.toNatClampNeg (upd (gB σ 4 x1.toNatClampNeg) (0 : Int32).toNatClampNeg x2)) 4 x1.toNatClampNeg) (1 : Int32).toNatClampNeg x3)) 4 x1.toNatClampNeg (upd (gB (sB (sB σ 4 x1.toNatClampNeg (upd (gB σ 4 x1.toNatClampNeg) (0 : Int32).toNatClampNeg x2)) 4 x1.toNatClampNeg (upd (gB (sB σ 4 x1.toNatClampNeg (upd (gB σ 4 x1.toNatClampNeg) (0 : Int32).toNatClampNeg x2)) 4 x1.toNatClampNeg) (1 : Int32).toNatClampNeg x3)) 4 x1.toNatClampNeg) (2 : Int32).toNatClampNeg x4)) 4 x1.toNatClampNeg) (3 : Int32).toNatClampNeg x5)) ?_
  exact b_vret d_Se_note_38 rfl ⟨_, rfl, rfl, H⟩
theorem C_Se_note {S : XS} {Q : St → Prop} (σ : St) (x1 : Int32) (x2 : Int32) (x3 : Int32) (x4 : Int32) (x5 : Int32) (H : BW S m_Se_note 0 [some (.ref 82), some (.int x1), some (.int x2), some (.int x3), some (.int x4), some (.int x5)] [] (enc σ) (qV Q)) : CM S m_Se_note [.ref 82, .int x1, .int x2, .int x3, .int x4, .int x5] (enc σ) (qV Q) := b_meth (by decide) (Nat.le_of_ble_eq_true rfl) rfl H
