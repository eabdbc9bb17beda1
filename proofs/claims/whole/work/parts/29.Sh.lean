/-! block rules, by program -/
theorem d_Sh_changePrices_0 : decode m_Sh_changePrices.2.1 0 = .ok (.iload_n 1, 1) := by decide +kernel
theorem d_Sh_changePrices_1 : decode m_Sh_changePrices.2.1 1 = .ok (.ifCond .lt 21, 3) := by decide +kernel
theorem d_Sh_changePrices_4 : decode m_Sh_changePrices.2.1 4 = .ok (.iload_n 1, 1) := by decide +kernel
theorem d_Sh_changePrices_5 : decode m_Sh_changePrices.2.1 5 = .ok (.sipush 10000, 3) := by decide +kernel
theorem d_Sh_changePrices_8 : decode m_Sh_changePrices.2.1 8 = .ok (.if_icmp .gt 14, 3) := by decide +kernel
theorem d_Sh_changePrices_11 : decode m_Sh_changePrices.2.1 11 = .ok (.iload_n 2, 1) := by decide +kernel
theorem d_Sh_changePrices_12 : decode m_Sh_changePrices.2.1 12 = .ok (.ifCond .lt 10, 3) := by decide +kernel
theorem d_Sh_changePrices_15 : decode m_Sh_changePrices.2.1 15 = .ok (.iload_n 2, 1) := by decide +kernel
theorem d_Sh_changePrices_16 : decode m_Sh_changePrices.2.1 16 = .ok (.sipush 10000, 3) := by decide +kernel
theorem d_Sh_changePrices_19 : decode m_Sh_changePrices.2.1 19 = .ok (.if_icmp .le 5, 3) := by decide +kernel
theorem d_Sh_changePrices_22 : decode m_Sh_changePrices.2.1 22 = .ok (.iconst 0, 1) := by decide +kernel
theorem d_Sh_changePrices_23 : decode m_Sh_changePrices.2.1 23 = .ok (.ireturn, 1) := by decide +kernel
theorem d_Sh_changePrices_24 : decode m_Sh_changePrices.2.1 24 = .ok (.iload_n 3, 1) := by decide +kernel
theorem d_Sh_changePrices_25 : decode m_Sh_changePrices.2.1 25 = .ok (.ifCond .lt 21, 3) := by decide +kernel
theorem d_Sh_changePrices_28 : decode m_Sh_changePrices.2.1 28 = .ok (.iload_n 3, 1) := by decide +kernel
theorem d_Sh_changePrices_29 : decode m_Sh_changePrices.2.1 29 = .ok (.sipush 10000, 3) := by decide +kernel
theorem d_Sh_changePrices_32 : decode m_Sh_changePrices.2.1 32 = .ok (.if_icmp .gt 14, 3) := by decide +kernel
theorem d_Sh_changePrices_35 : decode m_Sh_changePrices.2.1 35 = .ok (.iload 4, 2) := by decide +kernel
theorem d_Sh_changePrices_37 : decode m_Sh_changePrices.2.1 37 = .ok (.ifCond .lt 9, 3) := by decide +kernel
theorem d_Sh_changePrices_40 : decode m_Sh_changePrices.2.1 40 = .ok (.iload 4, 2) := by decide +kernel
theorem d_Sh_changePrices_42 : decode m_Sh_changePrices.2.1 42 = .ok (.iload_n 2, 1) := by decide +kernel
theorem d_Sh_changePrices_43 : decode m_Sh_changePrices.2.1 43 = .ok (.if_icmp .le 5, 3) := by decide +kernel
theorem d_Sh_changePrices_46 : decode m_Sh_changePrices.2.1 46 = .ok (.iconst 0, 1) := by decide +kernel
theorem d_Sh_changePrices_47 : decode m_Sh_changePrices.2.1 47 = .ok (.ireturn, 1) := by decide +kernel
theorem d_Sh_changePrices_48 : decode m_Sh_changePrices.2.1 48 = .ok (.aload_n 0, 1) := by decide +kernel
theorem d_Sh_changePrices_49 : decode m_Sh_changePrices.2.1 49 = .ok (.iload_n 1, 1) := by decide +kernel
theorem d_Sh_changePrices_50 : decode m_Sh_changePrices.2.1 50 = .ok (.putfield 28, 3) := by decide +kernel
theorem d_Sh_changePrices_53 : decode m_Sh_changePrices.2.1 53 = .ok (.aload_n 0, 1) := by decide +kernel
theorem d_Sh_changePrices_54 : decode m_Sh_changePrices.2.1 54 = .ok (.iload_n 2, 1) := by decide +kernel
theorem d_Sh_changePrices_55 : decode m_Sh_changePrices.2.1 55 = .ok (.putfield 32, 3) := by decide +kernel
theorem d_Sh_changePrices_58 : decode m_Sh_changePrices.2.1 58 = .ok (.aload_n 0, 1) := by decide +kernel
theorem d_Sh_changePrices_59 : decode m_Sh_changePrices.2.1 59 = .ok (.iload_n 3, 1) := by decide +kernel
theorem d_Sh_changePrices_60 : decode m_Sh_changePrices.2.1 60 = .ok (.putfield 35, 3) := by decide +kernel
theorem d_Sh_changePrices_63 : decode m_Sh_changePrices.2.1 63 = .ok (.aload_n 0, 1) := by decide +kernel
theorem d_Sh_changePrices_64 : decode m_Sh_changePrices.2.1 64 = .ok (.iload 4, 2) := by decide +kernel
theorem d_Sh_changePrices_66 : decode m_Sh_changePrices.2.1 66 = .ok (.putfield 38, 3) := by decide +kernel
theorem d_Sh_changePrices_69 : decode m_Sh_changePrices.2.1 69 = .ok (.iconst 1, 1) := by decide +kernel
theorem d_Sh_changePrices_70 : decode m_Sh_changePrices.2.1 70 = .ok (.ireturn, 1) := by decide +kernel
set_option maxHeartbeats 4000000 in
set_option maxRecDepth 100000 in
theorem B_Sh_changePrices_0 {S : XS} {Q : Int32 → St → Prop} (σ : St) (x1 : Int32) (x2 : Int32) (x3 : Int32) (x4 : Int32) (H : ((x1 < 0 → Q (0 : Int32) σ) ∧ (¬ x1 < 0 → (((10000 : Int32) < x1 → Q (0 : Int32) σ) ∧ (¬ (10000 : Int32) < x1 → ((x2 < 0 → Q (0 : Int32) σ) ∧ (¬ x2 < 0 → ((x2 ≤ (10000 : Int32) → ((x3 < 0 → Q (0 : Int32) σ) ∧ (¬ x3 < 0 → (((10000 : Int32) < x3 → Q (0 : Int32) σ) ∧ (¬ (10000 : Int32) < x3 → ((x4 < 0 → Q (0 : Int32) σ) ∧ (¬ x4 < 0 → ((x4 ≤ x2 → Q (1 : Int32) (sX (sX (sX (sX σ 18 x1) 19 x2) 20 x3) 21 x4)) ∧ (¬ x4 ≤ x2 → Q (0 : Int32) σ))))))))) ∧ (¬ x2 ≤ (10000 : Int32) → Q (0 : Int32) σ))))))))) : BW S m_Sh_changePrices 0 [some (.ref 144), some (.int x1), some (.int x2), some (.int x3), some (.int x4)] [] (enc σ) (qI Q) := by
  refine b_iload_n d_Sh_changePrices_0 rfl rfl ?_
  refine b_if_lt (tgt := 22) d_Sh_changePrices_1 (by decide) (fun c8 => ?_) (fun c8 => ?_)
  · have H := H.1 c8
    refine b_iconst (v := (0 : Int32)) d_Sh_changePrices_22 (by decide) ?_
    exact b_iret (ty := .boolean) d_Sh_changePrices_23 rfl rfl ⟨_, _, rfl, rfl, H⟩
  · have H := H.2 c8
    refine b_iload_n d_Sh_changePrices_4 rfl rfl ?_
    refine b_sipush (v := (10000 : Int32)) d_Sh_changePrices_5 (by decide) ?_
    refine b_icmp_gt (tgt := 22) d_Sh_changePrices_8 (by decide) (fun c7 => ?_) (fun c7 => ?_)
    · have H := H.1 c7
      refine b_iconst (v := (0 : Int32)) d_Sh_changePrices_22 (by decide) ?_
      exact b_iret (ty := .boolean) d_Sh_changePrices_23 rfl rfl ⟨_, _, rfl, rfl, H⟩
    · have H := H.2 c7
      refine b_iload_n d_Sh_changePrices_11 rfl rfl ?_
      refine b_if_lt (tgt := 22) d_Sh_changePrices_12 (by decide) (fun c6 => ?_) (fun c6 => ?_)
      · have H := H.1 c6
        refine b_iconst (v := (0 : Int32)) d_Sh_changePrices_22 (by decide) ?_
        exact b_iret (ty := .boolean) d_Sh_changePrices_23 rfl rfl ⟨_, _, rfl, rfl, H⟩
      · have H := H.2 c6
        refine b_iload_n d_Sh_changePrices_15 rfl rfl ?_
        refine b_sipush (v := (10000 : Int32)) d_Sh_changePrices_16 (by decide) ?_
        refine b_icmp_le (tgt := 24) d_Sh_changePrices_19 (by decide) (fun c5 => ?_) (fun c5 => ?_)
        · have H := H.1 c5
          refine b_iload_n d_Sh_changePrices_24 rfl rfl ?_
          refine b_if_lt (tgt := 46) d_Sh_changePrices_25 (by decide) (fun c4 => ?_) (fun c4 => ?_)
          · have H := H.1 c4
            refine b_iconst (v := (0 : Int32)) d_Sh_changePrices_46 (by decide) ?_
            exact b_iret (ty := .boolean) d_Sh_changePrices_47 rfl rfl ⟨_, _, rfl, rfl, H⟩
          · have H := H.2 c4
            refine b_iload_n d_Sh_changePrices_28 rfl rfl ?_
            refine b_sipush (v := (10000 : Int32)) d_Sh_changePrices_29 (by decide) ?_
            refine b_icmp_gt (tgt := 46) d_Sh_changePrices_32 (by decide) (fun c3 => ?_) (fun c3 => ?_)
            · have H := H.1 c3
              refine b_iconst (v := (0 : Int32)) d_Sh_changePrices_46 (by decide) ?_
              exact b_iret (ty := .boolean) d_Sh_changePrices_47 rfl rfl ⟨_, _, rfl, rfl, H⟩
            · have H := H.2 c3
              refine b_iload d_Sh_changePrices_35 rfl ?_
              refine b_if_lt (tgt := 46) d_Sh_changePrices_37 (by decide) (fun c2 => ?_) (fun c2 => ?_)
              · have H := H.1 c2
                refine b_iconst (v := (0 : Int32)) d_Sh_changePrices_46 (by decide) ?_
                exact b_iret (ty := .boolean) d_Sh_changePrices_47 rfl rfl ⟨_, _, rfl, rfl, H⟩
              · have H := H.2 c2
                refine b_iload d_Sh_changePrices_40 rfl ?_
                refine b_iload_n d_Sh_changePrices_42 rfl rfl ?_
                refine b_icmp_le (tgt := 48) d_Sh_changePrices_43 (by decide) (fun c1 => ?_) (fun c1 => ?_)
                · have H := H.1 c1
                  refine b_aload_n d_Sh_changePrices_48 rfl rfl ?_
                  refine b_iload_n d_Sh_changePrices_49 rfl rfl ?_
                  refine b_putf (ty := .int) (h1 := enc (sX σ 18 x1)) d_Sh_changePrices_50 fl_Sh_28 ft_9_5 (fun _ => ⟨rfl, rfl⟩) (eg_144 σ) (Nat.le_of_ble_eq_true rfl) (es_144_5 σ x1) ?_
                  refine b_aload_n d_Sh_changePrices_53 rfl rfl ?_
                  refine b_iload_n d_Sh_changePrices_54 rfl rfl ?_
                  refine b_putf (ty := .int) (h1 := enc (sX (sX σ 18 x1) 19 x2)) d_Sh_changePrices_55 fl_Sh_32 ft_9_6 (fun _ => ⟨rfl, rfl⟩) (eg_144 (sX σ 18 x1)) (Nat.le_of_ble_eq_true rfl) (es_144_6 (sX σ 18 x1) x2) ?_
                  refine b_aload_n d_Sh_changePrices_58 rfl rfl ?_
                  refine b_iload_n d_Sh_changePrices_59 rfl rfl ?_
                  refine b_putf (ty := .int) (h1 := enc (sX (sX (sX σ 18 x1) 19 x2) 20 x3)) d_Sh_changePrices_60 fl_Sh_35 ft_9_7 (fun _ => ⟨rfl, rfl⟩) (eg_144 (sX (sX σ 18 x1) 19 x2)) (Nat.le_of_ble_eq_true rfl) (es_144_7 (sX (sX σ 18 x1) 19 x2) x3) ?_
                  refine b_aload_n d_Sh_changePrices_63 rfl rfl ?_
                  refine b_iload d_Sh_changePrices_64 rfl ?_
                  refine b_putf (ty := .int) (h1 := enc (sX (sX (sX (sX σ 18 x1) 19 x2) 20 x3) 21 x4)) d_Sh_changePrices_66 fl_Sh_38 ft_9_8 (fun _ => ⟨rfl, rfl⟩) (eg_144 (sX (sX (sX σ 18 x1) 19 x2) 20 x3)) (Nat.le_of_ble_eq_true rfl) (es_144_8 (sX (sX (sX σ 18 x1) 19 x2) 20 x3) x4) ?_
                  refine b_iconst (v := (1 : Int32)) d_Sh_changePrices_69 (by decide) ?_
                  exact b_iret (ty := .boolean) d_Sh_changePrices_70 rfl rfl ⟨_, _, rfl, rfl, H⟩
                · have H := H.2 c1
                  refine b_iconst (v := (0 : Int32)) d_Sh_changePrices_46 (by decide) ?_
                  exact b_iret (ty := .boolean) d_Sh_changePrices_47 rfl rfl ⟨_, _, rfl, rfl, H⟩
        · have H := H.2 c5
          refine b_iconst (v := (0 : Int32)) d_Sh_changePrices_22 (by decide) ?_
          exact b_iret (ty := .boolean) d_Sh_changePrices_23 rfl rfl ⟨_, _, rfl, rfl, H⟩
theorem C_Sh_changePrices {S : XS} {Q : Int32 → St → Prop} (σ : St) (x1 : Int32) (x2 : Int32) (x3 : Int32) (x4 : Int32) (H : BW S m_Sh_changePrices 0 [some (.ref 144), some (.int x1), some (.int x2), some (.int x3), some (.int x4)] [] (enc σ) (qI Q)) : CM S m_Sh_changePrices [.ref 144, .int x1, .int x2, .int x3, .int x4] (enc σ) (qI Q) := b_meth (by decide) (Nat.le_of_ble_eq_true rfl) rfl H
theorem d_Sh_keepPlates_0 : decode m_Sh_keepPlates.2.1 0 = .ok (.iload_n 1, 1) := by decide +kernel
theorem d_Sh_keepPlates_1 : decode m_Sh_keepPlates.2.1 1 = .ok (.invokestatic 41, 3) := by decide +kernel
theorem d_Sh_keepPlates_4 : decode m_Sh_keepPlates.2.1 4 = .ok (.ifCond .eq 12, 3) := by decide +kernel
theorem d_Sh_keepPlates_7 : decode m_Sh_keepPlates.2.1 7 = .ok (.aload_n 0, 1) := by decide +kernel
theorem d_Sh_keepPlates_8 : decode m_Sh_keepPlates.2.1 8 = .ok (.getfield 11, 3) := by decide +kernel
theorem d_Sh_keepPlates_11 : decode m_Sh_keepPlates.2.1 11 = .ok (.iload_n 1, 1) := by decide +kernel
theorem d_Sh_keepPlates_12 : decode m_Sh_keepPlates.2.1 12 = .ok (.iaload, 1) := by decide +kernel
theorem d_Sh_keepPlates_13 : decode m_Sh_keepPlates.2.1 13 = .ok (.ifCond .ne 5, 3) := by decide +kernel
theorem d_Sh_keepPlates_16 : decode m_Sh_keepPlates.2.1 16 = .ok (.iconst 0, 1) := by decide +kernel
theorem d_Sh_keepPlates_17 : decode m_Sh_keepPlates.2.1 17 = .ok (.ireturn, 1) := by decide +kernel
theorem d_Sh_keepPlates_18 : decode m_Sh_keepPlates.2.1 18 = .ok (.aload_n 0, 1) := by decide +kernel
theorem d_Sh_keepPlates_19 : decode m_Sh_keepPlates.2.1 19 = .ok (.getfield 24, 3) := by decide +kernel
theorem d_Sh_keepPlates_22 : decode m_Sh_keepPlates.2.1 22 = .ok (.iload_n 1, 1) := by decide +kernel
theorem d_Sh_keepPlates_23 : decode m_Sh_keepPlates.2.1 23 = .ok (.iload_n 2, 1) := by decide +kernel
theorem d_Sh_keepPlates_24 : decode m_Sh_keepPlates.2.1 24 = .ok (.bastore, 1) := by decide +kernel
theorem d_Sh_keepPlates_25 : decode m_Sh_keepPlates.2.1 25 = .ok (.iconst 1, 1) := by decide +kernel
theorem d_Sh_keepPlates_26 : decode m_Sh_keepPlates.2.1 26 = .ok (.ireturn, 1) := by decide +kernel
set_option maxHeartbeats 4000000 in
set_option maxRecDepth 100000 in
theorem B_Sh_keepPlates_0 {S : XS} {Q : Int32 → St → Prop} (σ : St) (x1 : Int32) (x2 : Int32) (H : CM S m_Sh_isSlot [.int x1] (enc σ) (qI (fun v1 τ2 => ((v1 = 0 → Q (0 : Int32) τ2) ∧ (¬ v1 = 0 → (vp_in x1 96) ∧ ((¬ ((gA τ2 13) x1.toNatClampNeg) = 0 → Q (1 : Int32) (sA τ2 17 (upd (gA τ2 17) x1.toNatClampNeg (vp_nar .boolean x2)))) ∧ (((gA τ2 13) x1.toNatClampNeg) = 0 → Q (0 : Int32) τ2))))))) : BW S m_Sh_keepPlates 0 [some (.ref 144), some (.int x1), some (.int x2)] [] (enc σ) (qI Q) := by
  refine b_iload_n d_Sh_keepPlates_0 rfl rfl ?_
  refine b_callSi (Mc := m_Sh_isSlot) (As := [.int x1]) (st := []) d_Sh_keepPlates_1 ⟨⟨kA_Sh_isSlot.1, kA_Sh_isSlot.2.1, kA_Sh_isSlot.2.2, by decide⟩, ml_Sh_41, kS_Sh_isSlot⟩ rfl rfl (Nat.le_of_ble_eq_true rfl) H (fun v1 τ2 H => ?_)
  refine b_if_eq (tgt := 16) d_Sh_keepPlates_4 (by decide) (fun c5 => ?_) (fun c5 => ?_)
  · have H := H.1 c5
    refine b_iconst (v := (0 : Int32)) d_Sh_keepPlates_16 (by decide) ?_
    exact b_iret (ty := .boolean) d_Sh_keepPlates_17 rfl rfl ⟨_, _, rfl, rfl, H⟩
  · have H := H.2 c5
    refine b_aload_n d_Sh_keepPlates_7 rfl rfl ?_
    refine b_getf (v := .ref 145) d_Sh_keepPlates_8 fl_Sh_11 (eg_144 τ2) rfl ?_
    refine b_iload_n d_Sh_keepPlates_11 rfl rfl ?_
    obtain ⟨h3, H⟩ := H
    refine b_iald d_Sh_keepPlates_12 (eg_145 τ2) h3 ?_
    refine b_st2 (st' := [.int ((gA τ2 13) x1.toNatClampNeg)]) rfl ?_
    refine b_if_ne (tgt := 18) d_Sh_keepPlates_13 (by decide) (fun c4 => ?_) (fun c4 => ?_)
    · have H := H.1 c4
      refine b_aload_n d_Sh_keepPlates_18 rfl rfl ?_
      refine b_getf (v := .ref 149) d_Sh_keepPlates_19 fl_Sh_24 (eg_144 τ2) rfl ?_
      refine b_iload_n d_Sh_keepPlates_22 rfl rfl ?_
      refine b_iload_n d_Sh_keepPlates_23 rfl rfl ?_
      refine b_zast (y := (vp_nar .boolean x2)) (h1 := enc (sA τ2 17 (upd (gA τ2 17) x1.toNatClampNeg (vp_nar .boolean x2)))) d_Sh_keepPlates_24 (eg_149 τ2) h3 rfl (es_149 τ2 (upd (gA τ2 17) x1.toNatClampNeg (vp_nar .boolean x2))) ?_
      refine b_iconst (v := (1 : Int32)) d_Sh_keepPlates_25 (by decide) ?_
      exact b_iret (ty := .boolean) d_Sh_keepPlates_26 rfl rfl ⟨_, _, rfl, rfl, H⟩
    · have H := H.2 c4
      refine b_iconst (v := (0 : Int32)) d_Sh_keepPlates_16 (by decide) ?_
      exact b_iret (ty := .boolean) d_Sh_keepPlates_17 rfl rfl ⟨_, _, rfl, rfl, H⟩
theorem C_Sh_keepPlates {S : XS} {Q : Int32 → St → Prop} (σ : St) (x1 : Int32) (x2 : Int32) (H : BW S m_Sh_keepPlates 0 [some (.ref 144), some (.int x1), some (.int x2)] [] (enc σ) (qI Q)) : CM S m_Sh_keepPlates [.ref 144, .int x1, .int x2] (enc σ) (qI Q) := b_meth (by decide) (Nat.le_of_ble_eq_true rfl) rfl H
theorem d_Sh_printingCost_0 : decode m_Sh_printingCost.2.1 0 = .ok (.iload_n 1, 1) := by decide +kernel
theorem d_Sh_printingCost_1 : decode m_Sh_printingCost.2.1 1 = .ok (.invokestatic 41, 3) := by decide +kernel
theorem d_Sh_printingCost_4 : decode m_Sh_printingCost.2.1 4 = .ok (.ifCond .eq 7, 3) := by decide +kernel
theorem d_Sh_printingCost_7 : decode m_Sh_printingCost.2.1 7 = .ok (.iload_n 2, 1) := by decide +kernel
theorem d_Sh_printingCost_8 : decode m_Sh_printingCost.2.1 8 = .ok (.ifCond .ne 5, 3) := by decide +kernel
theorem d_Sh_printingCost_11 : decode m_Sh_printingCost.2.1 11 = .ok (.iconst 0, 1) := by decide +kernel
theorem d_Sh_printingCost_12 : decode m_Sh_printingCost.2.1 12 = .ok (.ireturn, 1) := by decide +kernel
theorem d_Sh_printingCost_13 : decode m_Sh_printingCost.2.1 13 = .ok (.aload_n 0, 1) := by decide +kernel
theorem d_Sh_printingCost_14 : decode m_Sh_printingCost.2.1 14 = .ok (.getfield 32, 3) := by decide +kernel
theorem d_Sh_printingCost_17 : decode m_Sh_printingCost.2.1 17 = .ok (.iload_n 2, 1) := by decide +kernel
theorem d_Sh_printingCost_18 : decode m_Sh_printingCost.2.1 18 = .ok (.imul, 1) := by decide +kernel
theorem d_Sh_printingCost_19 : decode m_Sh_printingCost.2.1 19 = .ok (.aload_n 0, 1) := by decide +kernel
theorem d_Sh_printingCost_20 : decode m_Sh_printingCost.2.1 20 = .ok (.getfield 24, 3) := by decide +kernel
theorem d_Sh_printingCost_23 : decode m_Sh_printingCost.2.1 23 = .ok (.iload_n 1, 1) := by decide +kernel
theorem d_Sh_printingCost_24 : decode m_Sh_printingCost.2.1 24 = .ok (.baload, 1) := by decide +kernel
theorem d_Sh_printingCost_25 : decode m_Sh_printingCost.2.1 25 = .ok (.ifCond .eq 7, 3) := by decide +kernel
theorem d_Sh_printingCost_28 : decode m_Sh_printingCost.2.1 28 = .ok (.iconst 0, 1) := by decide +kernel
theorem d_Sh_printingCost_29 : decode m_Sh_printingCost.2.1 29 = .ok (.goto 7, 3) := by decide +kernel
theorem d_Sh_printingCost_32 : decode m_Sh_printingCost.2.1 32 = .ok (.aload_n 0, 1) := by decide +kernel
theorem d_Sh_printingCost_33 : decode m_Sh_printingCost.2.1 33 = .ok (.getfield 35, 3) := by decide +kernel
theorem d_Sh_printingCost_36 : decode m_Sh_printingCost.2.1 36 = .ok (.iadd, 1) := by decide +kernel
theorem d_Sh_printingCost_37 : decode m_Sh_printingCost.2.1 37 = .ok (.ireturn, 1) := by decide +kernel
set_option maxHeartbeats 4000000 in
set_option maxRecDepth 100000 in
theorem B_Sh_printingCost_0 {S : XS} {Q : Int32 → St → Prop} (σ : St) (x1 : Int32) (x2 : Int32) (H : CM S m_Sh_isSlot [.int x1] (enc σ) (qI (fun v1 τ2 => ((v1 = 0 → Q (0 : Int32) τ2) ∧ (¬ v1 = 0 → ((¬ x2 = 0 → (vp_in x1 96) ∧ ((((gA τ2 17) x1.toNatClampNeg) = 0 → Q (((gX τ2 19) * x2) + (gX τ2 20)) τ2) ∧ (¬ ((gA τ2 17) x1.toNatClampNeg) = 0 → Q (((gX τ2 19) * x2) + (0 : Int32)) τ2))) ∧ (x2 = 0 → Q (0 : Int32) τ2))))))) : BW S m_Sh_printingCost 0 [some (.ref 144), some (.int x1), some (.int x2)] [] (enc σ) (qI Q) := by
  refine b_iload_n d_Sh_printingCost_0 rfl rfl ?_
  refine b_callSi (Mc := m_Sh_isSlot) (As := [.int x1]) (st := []) d_Sh_printingCost_1 ⟨⟨kA_Sh_isSlot.1, kA_Sh_isSlot.2.1, kA_Sh_isSlot.2.2, by decide⟩, ml_Sh_41, kS_Sh_isSlot⟩ rfl rfl (Nat.le_of_ble_eq_true rfl) H (fun v1 τ2 H => ?_)
  refine b_if_eq (tgt := 11) d_Sh_printingCost_4 (by decide) (fun c6 => ?_) (fun c6 => ?_)
  · have H := H.1 c6
    refine b_iconst (v := (0 : Int32)) d_Sh_printingCost_11 (by decide) ?_
    exact b_iret (ty := .int) d_Sh_printingCost_12 rfl rfl ⟨_, _, rfl, rfl, H⟩
  · have H := H.2 c6
    refine b_iload_n d_Sh_printingCost_7 rfl rfl ?_
    refine b_if_ne (tgt := 13) d_Sh_printingCost_8 (by decide) (fun c5 => ?_) (fun c5 => ?_)
    · have H := H.1 c5
      refine b_aload_n d_Sh_printingCost_13 rfl rfl ?_
      refine b_getf (v := .int (gX τ2 19)) d_Sh_printingCost_14 fl_Sh_32 (eg_144 τ2) rfl ?_
      refine b_iload_n d_Sh_printingCost_17 rfl rfl ?_
      refine b_imul d_Sh_printingCost_18  ?_
      refine b_aload_n d_Sh_printingCost_19 rfl rfl ?_
      refine b_getf (v := .ref 149) d_Sh_printingCost_20 fl_Sh_24 (eg_144 τ2) rfl ?_
      refine b_iload_n d_Sh_printingCost_23 rfl rfl ?_
      obtain ⟨h3, H⟩ := H
      refine b_zald d_Sh_printingCost_24 (eg_149 τ2) h3 ?_
      refine b_st2 (st' := [.int ((gA τ2 17) x1.toNatClampNeg), .int ((gX τ2 19) * x2)]) rfl ?_
      refine b_if_eq (tgt := 32) d_Sh_printingCost_25 (by decide) (fun c4 => ?_) (fun c4 => ?_)
      · have H := H.1 c4
        refine b_aload_n d_Sh_printingCost_32 rfl rfl ?_
        refine b_getf (v := .int (gX τ2 20)) d_Sh_printingCost_33 fl_Sh_35 (eg_144 τ2) rfl ?_
        refine b_iadd d_Sh_printingCost_36  ?_
        exact b_iret (ty := .int) d_Sh_printingCost_37 rfl rfl ⟨_, _, rfl, rfl, H⟩
      · have H := H.2 c4
        refine b_iconst (v := (0 : Int32)) d_Sh_printingCost_28 (by decide) ?_
        refine b_goto (tgt := 36) d_Sh_printingCost_29 (by decide) ?_
        refine b_iadd d_Sh_printingCost_36  ?_
        exact b_iret (ty := .int) d_Sh_printingCost_37 rfl rfl ⟨_, _, rfl, rfl, H⟩
    · have H := H.2 c5
      refine b_iconst (v := (0 : Int32)) d_Sh_printingCost_11 (by decide) ?_
      exact b_iret (ty := .int) d_Sh_printingCost_12 rfl rfl ⟨_, _, rfl, rfl, H⟩
theorem C_Sh_printingCost {S : XS} {Q : Int32 → St → Prop} (σ : St) (x1 : Int32) (x2 : Int32) (H : BW S m_Sh_printingCost 0 [some (.ref 144), some (.int x1), some (.int x2)] [] (enc σ) (qI Q)) : CM S m_Sh_printingCost [.ref 144, .int x1, .int x2] (enc σ) (qI Q) := b_meth (by decide) (Nat.le_of_ble_eq_true rfl) rfl H
theorem d_Sh_addPrinted_0 : decode m_Sh_addPrinted.2.1 0 = .ok (.iload_n 1, 1) := by decide +kernel
theorem d_Sh_addPrinted_1 : decode m_Sh_addPrinted.2.1 1 = .ok (.invokestatic 41, 3) := by decide +kernel
theorem d_Sh_addPrinted_4 : decode m_Sh_addPrinted.2.1 4 = .ok (.ifCond .ne 5, 3) := by decide +kernel
theorem d_Sh_addPrinted_7 : decode m_Sh_addPrinted.2.1 7 = .ok (.iconst (-1), 1) := by decide +kernel
theorem d_Sh_addPrinted_8 : decode m_Sh_addPrinted.2.1 8 = .ok (.ireturn, 1) := by decide +kernel
theorem d_Sh_addPrinted_9 : decode m_Sh_addPrinted.2.1 9 = .ok (.aload_n 0, 1) := by decide +kernel
theorem d_Sh_addPrinted_10 : decode m_Sh_addPrinted.2.1 10 = .ok (.iload_n 1, 1) := by decide +kernel
theorem d_Sh_addPrinted_11 : decode m_Sh_addPrinted.2.1 11 = .ok (.iload_n 2, 1) := by decide +kernel
theorem d_Sh_addPrinted_12 : decode m_Sh_addPrinted.2.1 12 = .ok (.invokevirtual 45, 3) := by decide +kernel
theorem d_Sh_addPrinted_15 : decode m_Sh_addPrinted.2.1 15 = .ok (.istore_n 3, 1) := by decide +kernel
theorem d_Sh_addPrinted_16 : decode m_Sh_addPrinted.2.1 16 = .ok (.aload_n 0, 1) := by decide +kernel
theorem d_Sh_addPrinted_17 : decode m_Sh_addPrinted.2.1 17 = .ok (.getfield 11, 3) := by decide +kernel
theorem d_Sh_addPrinted_20 : decode m_Sh_addPrinted.2.1 20 = .ok (.iload_n 1, 1) := by decide +kernel
theorem d_Sh_addPrinted_21 : decode m_Sh_addPrinted.2.1 21 = .ok (.dup2, 1) := by decide +kernel
theorem d_Sh_addPrinted_22 : decode m_Sh_addPrinted.2.1 22 = .ok (.iaload, 1) := by decide +kernel
theorem d_Sh_addPrinted_23 : decode m_Sh_addPrinted.2.1 23 = .ok (.iload_n 2, 1) := by decide +kernel
theorem d_Sh_addPrinted_24 : decode m_Sh_addPrinted.2.1 24 = .ok (.iadd, 1) := by decide +kernel
theorem d_Sh_addPrinted_25 : decode m_Sh_addPrinted.2.1 25 = .ok (.iastore, 1) := by decide +kernel
theorem d_Sh_addPrinted_26 : decode m_Sh_addPrinted.2.1 26 = .ok (.aload_n 0, 1) := by decide +kernel
theorem d_Sh_addPrinted_27 : decode m_Sh_addPrinted.2.1 27 = .ok (.dup, 1) := by decide +kernel
theorem d_Sh_addPrinted_28 : decode m_Sh_addPrinted.2.1 28 = .ok (.getfield 49, 3) := by decide +kernel
theorem d_Sh_addPrinted_31 : decode m_Sh_addPrinted.2.1 31 = .ok (.iload_n 3, 1) := by decide +kernel
theorem d_Sh_addPrinted_32 : decode m_Sh_addPrinted.2.1 32 = .ok (.i2l, 1) := by decide +kernel
theorem d_Sh_addPrinted_33 : decode m_Sh_addPrinted.2.1 33 = .ok (.lsub, 1) := by decide +kernel
theorem d_Sh_addPrinted_34 : decode m_Sh_addPrinted.2.1 34 = .ok (.putfield 49, 3) := by decide +kernel
theorem d_Sh_addPrinted_37 : decode m_Sh_addPrinted.2.1 37 = .ok (.iload_n 3, 1) := by decide +kernel
theorem d_Sh_addPrinted_38 : decode m_Sh_addPrinted.2.1 38 = .ok (.ireturn, 1) := by decide +kernel
set_option maxHeartbeats 4000000 in
set_option maxRecDepth 100000 in
theorem B_Sh_addPrinted_0 {S : XS} {Q : Int32 → St → Prop} (σ : St) (x1 : Int32) (x2 : Int32) (H : CM S m_Sh_isSlot [.int x1] (enc σ) (qI (fun v1 τ2 => ((¬ v1 = 0 → CM S m_Sh_printingCost [.ref 144, .int x1, .int x2] (enc τ2) (qI (fun v3 τ4 => (vp_in x1 96) ∧ Q v3 (sP (sA τ4 13 (upd (gA τ4 13) x1.toNatClampNeg (((gA τ4 13) x1.toNatClampNeg) + x2))) ((gP τ4) - (v3).toInt64))))) ∧ (v1 = 0 → Q (-1 : Int32) τ2))))) : BW S m_Sh_addPrinted 0 [some (.ref 144), some (.int x1), some (.int x2), none] [] (enc σ) (qI Q) := by
  refine b_iload_n d_Sh_addPrinted_0 rfl rfl ?_
  refine b_callSi (Mc := m_Sh_isSlot) (As := [.int x1]) (st := []) d_Sh_addPrinted_1 ⟨⟨kA_Sh_isSlot.1, kA_Sh_isSlot.2.1, kA_Sh_isSlot.2.2, by decide⟩, ml_Sh_41, kS_Sh_isSlot⟩ rfl rfl (Nat.le_of_ble_eq_true rfl) H (fun v1 τ2 H => ?_)
  refine b_if_ne (tgt := 9) d_Sh_addPrinted_4 (by decide) (fun c6 => ?_) (fun c6 => ?_)
  · have H := H.1 c6
    refine b_aload_n d_Sh_addPrinted_9 rfl rfl ?_
    refine b_iload_n d_Sh_addPrinted_10 rfl rfl ?_
    refine b_iload_n d_Sh_addPrinted_11 rfl rfl ?_
    refine b_callVi (Mc := m_Sh_printingCost) (As := [.int x1, .int x2]) (st := []) d_Sh_addPrinted_12 ⟨⟨kA_Sh_printingCost.1, kA_Sh_printingCost.2.1, kA_Sh_printingCost.2.2, by decide⟩, ml_Sh_45, kV_Sh_printingCost⟩ (eg_144 τ2) rfl rfl (Nat.le_of_ble_eq_true rfl) H (fun v3 τ4 H => ?_)
    refine b_istore_n (ls' := [some (.ref 144), some (.int x1), some (.int x2), some (.int v3)]) d_Sh_addPrinted_15 rfl (Nat.le_of_ble_eq_true rfl) rfl ?_
    refine b_aload_n d_Sh_addPrinted_16 rfl rfl ?_
    refine b_getf (v := .ref 145) d_Sh_addPrinted_17 fl_Sh_11 (eg_144 τ4) rfl ?_
    refine b_iload_n d_Sh_addPrinted_20 rfl rfl ?_
    refine b_dup2 d_Sh_addPrinted_21 rfl rfl ?_
    obtain ⟨h5, H⟩ := H
    refine b_iald d_Sh_addPrinted_22 (eg_145 τ4) h5 ?_
    refine b_st2 (st' := [.int ((gA τ4 13) x1.toNatClampNeg), .int x1, .ref 145]) rfl ?_
    refine b_iload_n d_Sh_addPrinted_23 rfl rfl ?_
    refine b_iadd d_Sh_addPrinted_24  ?_
    refine b_iast (h1 := enc (sA τ4 13 (upd (gA τ4 13) x1.toNatClampNeg (((gA τ4 13) x1.toNatClampNeg) + x2)))) d_Sh_addPrinted_25 (eg_145 τ4) h5 (es_145 τ4 (upd (gA τ4 13) x1.toNatClampNeg (((gA τ4 13) x1.toNatClampNeg) + x2))) ?_
    refine b_aload_n d_Sh_addPrinted_26 rfl rfl ?_
    refine b_dup d_Sh_addPrinted_27 rfl ?_
    refine b_getf (v := .long (gP τ4)) d_Sh_addPrinted_28 fl_Sh_49 (eg_144 (sA τ4 13 (upd (gA τ4 13) x1.toNatClampNeg (((gA τ4 13) x1.toNatClampNeg) + x2)))) rfl ?_
    refine b_iload_n d_Sh_addPrinted_31 rfl rfl ?_
    refine b_i2l d_Sh_addPrinted_32 ?_
    refine b_lsub d_Sh_addPrinted_33  ?_
    refine b_putf (ty := .long) (h1 := enc (sP (sA τ4 13 (upd (gA τ4 13) x1.toNatClampNeg (((gA τ4 13) x1.toNatClampNeg) + x2))) ((gP τ4) - (v3).toInt64))) d_Sh_addPrinted_34 fl_Sh_49 ft_9_9 (fun _ => ⟨rfl, rfl⟩) (eg_144 (sA τ4 13 (upd (gA τ4 13) x1.toNatClampNeg (((gA τ4 13) x1.toNatClampNeg) + x2)))) (Nat.le_of_ble_eq_true rfl) (es_144_9 (sA τ4 13 (upd (gA τ4 13) x1.toNatClampNeg (((gA τ4 13) x1.toNatClampNeg) + x2))) ((gP τ4) - (v3).toInt64)) ?_
    refine b_iload_n d_Sh_addPrinted_37 rfl rfl ?_
    exact b_iret (ty := .int) d_Sh_addPrinted_38 rfl rfl ⟨_, _, rfl, rfl, H⟩
  · have H := H.2 c6
    refine b_iconst (v := (-1 : Int32)) d_Sh_addPrinted_7 (by decide) ?_
    exact b_iret (ty := .int) d_Sh_addPrinted_8 rfl rfl ⟨_, _, rfl, rfl, H⟩
theorem C_Sh_addPrinted {S : XS} {Q : Int32 → St → Prop} (σ : St) (x1 : Int32) (x2 : Int32) (H : BW S m_Sh_addPrinted 0 [some (.ref 144), some (.int x1), some (.int x2), none] [] (enc σ) (qI Q)) : CM S m_Sh_addPrinted [.ref 144, .int x1, .int x2] (enc σ) (qI Q) := b_meth (by decide) (Nat.le_of_ble_eq_true rfl) rfl H
theorem d_Sh_takeSold_0 : decode m_Sh_takeSold.2.1 0 = .ok (.iload_n 1, 1) := by decide +kernel
theorem d_Sh_takeSold_1 : decode m_Sh_takeSold.2.1 1 = .ok (.invokestatic 41, 3) := by decide +kernel
theorem d_Sh_takeSold_4 : decode m_Sh_takeSold.2.1 4 = .ok (.ifCond .eq 17, 3) := by decide +kernel
theorem d_Sh_takeSold_7 : decode m_Sh_takeSold.2.1 7 = .ok (.iload_n 2, 1) := by decide +kernel
theorem d_Sh_takeSold_8 : decode m_Sh_takeSold.2.1 8 = .ok (.iconst 1, 1) := by decide +kernel
theorem d_Sh_takeSold_9 : decode m_Sh_takeSold.2.1 9 = .ok (.if_icmp .lt 12, 3) := by decide +kernel
theorem d_Sh_takeSold_12 : decode m_Sh_takeSold.2.1 12 = .ok (.iload_n 2, 1) := by decide +kernel
theorem d_Sh_takeSold_13 : decode m_Sh_takeSold.2.1 13 = .ok (.aload_n 0, 1) := by decide +kernel
theorem d_Sh_takeSold_14 : decode m_Sh_takeSold.2.1 14 = .ok (.iload_n 1, 1) := by decide +kernel
theorem d_Sh_takeSold_15 : decode m_Sh_takeSold.2.1 15 = .ok (.invokevirtual 53, 3) := by decide +kernel
theorem d_Sh_takeSold_18 : decode m_Sh_takeSold.2.1 18 = .ok (.if_icmp .le 5, 3) := by decide +kernel
theorem d_Sh_takeSold_21 : decode m_Sh_takeSold.2.1 21 = .ok (.iconst (-1), 1) := by decide +kernel
theorem d_Sh_takeSold_22 : decode m_Sh_takeSold.2.1 22 = .ok (.ireturn, 1) := by decide +kernel
theorem d_Sh_takeSold_23 : decode m_Sh_takeSold.2.1 23 = .ok (.aload_n 0, 1) := by decide +kernel
theorem d_Sh_takeSold_24 : decode m_Sh_takeSold.2.1 24 = .ok (.getfield 15, 3) := by decide +kernel
theorem d_Sh_takeSold_27 : decode m_Sh_takeSold.2.1 27 = .ok (.iload_n 1, 1) := by decide +kernel
theorem d_Sh_takeSold_28 : decode m_Sh_takeSold.2.1 28 = .ok (.dup2, 1) := by decide +kernel
theorem d_Sh_takeSold_29 : decode m_Sh_takeSold.2.1 29 = .ok (.iaload, 1) := by decide +kernel
theorem d_Sh_takeSold_30 : decode m_Sh_takeSold.2.1 30 = .ok (.iload_n 2, 1) := by decide +kernel
theorem d_Sh_takeSold_31 : decode m_Sh_takeSold.2.1 31 = .ok (.iadd, 1) := by decide +kernel
theorem d_Sh_takeSold_32 : decode m_Sh_takeSold.2.1 32 = .ok (.iastore, 1) := by decide +kernel
theorem d_Sh_takeSold_33 : decode m_Sh_takeSold.2.1 33 = .ok (.aload_n 0, 1) := by decide +kernel
theorem d_Sh_takeSold_34 : decode m_Sh_takeSold.2.1 34 = .ok (.dup, 1) := by decide +kernel
theorem d_Sh_takeSold_35 : decode m_Sh_takeSold.2.1 35 = .ok (.getfield 49, 3) := by decide +kernel
theorem d_Sh_takeSold_38 : decode m_Sh_takeSold.2.1 38 = .ok (.iload_n 2, 1) := by decide +kernel
theorem d_Sh_takeSold_39 : decode m_Sh_takeSold.2.1 39 = .ok (.i2l, 1) := by decide +kernel
theorem d_Sh_takeSold_40 : decode m_Sh_takeSold.2.1 40 = .ok (.aload_n 0, 1) := by decide +kernel
theorem d_Sh_takeSold_41 : decode m_Sh_takeSold.2.1 41 = .ok (.getfield 28, 3) := by decide +kernel
theorem d_Sh_takeSold_44 : decode m_Sh_takeSold.2.1 44 = .ok (.i2l, 1) := by decide +kernel
theorem d_Sh_takeSold_45 : decode m_Sh_takeSold.2.1 45 = .ok (.lmul, 1) := by decide +kernel
theorem d_Sh_takeSold_46 : decode m_Sh_takeSold.2.1 46 = .ok (.ladd, 1) := by decide +kernel
theorem d_Sh_takeSold_47 : decode m_Sh_takeSold.2.1 47 = .ok (.putfield 49, 3) := by decide +kernel
theorem d_Sh_takeSold_50 : decode m_Sh_takeSold.2.1 50 = .ok (.aload_n 0, 1) := by decide +kernel
theorem d_Sh_takeSold_51 : decode m_Sh_takeSold.2.1 51 = .ok (.iload_n 1, 1) := by decide +kernel
theorem d_Sh_takeSold_52 : decode m_Sh_takeSold.2.1 52 = .ok (.invokevirtual 53, 3) := by decide +kernel
theorem d_Sh_takeSold_55 : decode m_Sh_takeSold.2.1 55 = .ok (.ireturn, 1) := by decide +kernel
set_option maxHeartbeats 4000000 in
set_option maxRecDepth 100000 in
theorem B_Sh_takeSold_0 {S : XS} {Q : Int32 → St → Prop} (σ : St) (x1 : Int32) (x2 : Int32) (H : CM S m_Sh_isSlot [.int x1] (enc σ) (qI (fun v1 τ2 => ((v1 = 0 → Q (-1 : Int32) τ2) ∧ (¬ v1 = 0 → ((x2 < (1 : Int32) → Q (-1 : Int32) τ2) ∧ (¬ x2 < (1 : Int32) → CM S m_Sh_left [.ref 144, .int x1] (enc τ2) (qI (fun v3 τ4 => ((x2 ≤ v3 → (vp_in x1 96) ∧ CM S m_Sh_left [.ref 144, .int x1] (enc (sP (sA τ4 14 (upd (gA τ4 14) x1.toNatClampNeg (((gA τ4 14) x1.toNatClampNeg) + x2))) ((gP τ4) + ((x2).toInt64 * ((gX τ4 18)).toInt64)))) (qI (fun v6 τ7 => Q v6 τ7))) ∧ (¬ x2 ≤ v3 → Q (-1 : Int32) τ4))))))))))) : BW S m_Sh_takeSold 0 [some (.ref 144), some (.int x1), some (.int x2)] [] (enc σ) (qI Q) := by
  refine b_iload_n d_Sh_takeSold_0 rfl rfl ?_
  refine b_callSi (Mc := m_Sh_isSlot) (As := [.int x1]) (st := []) d_Sh_takeSold_1 ⟨⟨kA_Sh_isSlot.1, kA_Sh_isSlot.2.1, kA_Sh_isSlot.2.2, by decide⟩, ml_Sh_41, kS_Sh_isSlot⟩ rfl rfl (Nat.le_of_ble_eq_true rfl) H (fun v1 τ2 H => ?_)
  refine b_if_eq (tgt := 21) d_Sh_takeSold_4 (by decide) (fun c10 => ?_) (fun c10 => ?_)
  · have H := H.1 c10
    refine b_iconst (v := (-1 : Int32)) d_Sh_takeSold_21 (by decide) ?_
    exact b_iret (ty := .int) d_Sh_takeSold_22 rfl rfl ⟨_, _, rfl, rfl, H⟩
  · have H := H.2 c10
    refine b_iload_n d_Sh_takeSold_7 rfl rfl ?_
    refine b_iconst (v := (1 : Int32)) d_Sh_takeSold_8 (by decide) ?_
    refine b_icmp_lt (tgt := 21) d_Sh_takeSold_9 (by decide) (fun c9 => ?_) (fun c9 => ?_)
    · have H := H.1 c9
      refine b_iconst (v := (-1 : Int32)) d_Sh_takeSold_21 (by decide) ?_
      exact b_iret (ty := .int) d_Sh_takeSold_22 rfl rfl ⟨_, _, rfl, rfl, H⟩
    · have H := H.2 c9
      refine b_iload_n d_Sh_takeSold_12 rfl rfl ?_
      refine b_aload_n d_Sh_takeSold_13 rfl rfl ?_
      refine b_iload_n d_Sh_takeSold_14 rfl rfl ?_
      refine b_callVi (Mc := m_Sh_left) (As := [.int x1]) (st := [.int x2]) d_Sh_takeSold_15 ⟨⟨kA_Sh_left.1, kA_Sh_left.2.1, kA_Sh_left.2.2, by decide⟩, ml_Sh_53, kV_Sh_left⟩ (eg_144 τ2) rfl rfl (Nat.le_of_ble_eq_true rfl) H (fun v3 τ4 H => ?_)
      refine b_icmp_le (tgt := 23) d_Sh_takeSold_18 (by decide) (fun c8 => ?_) (fun c8 => ?_)
      · have H := H.1 c8
        refine b_aload_n d_Sh_takeSold_23 rfl rfl ?_
        refine b_getf (v := .ref 146) d_Sh_takeSold_24 fl_Sh_15 (eg_144 τ4) rfl ?_
        refine b_iload_n d_Sh_takeSold_27 rfl rfl ?_
        refine b_dup2 d_Sh_takeSold_28 rfl rfl ?_
        obtain ⟨h5, H⟩ := H
        refine b_iald d_Sh_takeSold_29 (eg_146 τ4) h5 ?_
        refine b_st2 (st' := [.int ((gA τ4 14) x1.toNatClampNeg), .int x1, .ref 146]) rfl ?_
        refine b_iload_n d_Sh_takeSold_30 rfl rfl ?_
        refine b_iadd d_Sh_takeSold_31  ?_
        refine b_iast (h1 := enc (sA τ4 14 (upd (gA τ4 14) x1.toNatClampNeg (((gA τ4 14) x1.toNatClampNeg) + x2)))) d_Sh_takeSold_32 (eg_146 τ4) h5 (es_146 τ4 (upd (gA τ4 14) x1.toNatClampNeg (((gA τ4 14) x1.toNatClampNeg) + x2))) ?_
        refine b_aload_n d_Sh_takeSold_33 rfl rfl ?_
        refine b_dup d_Sh_takeSold_34 rfl ?_
        refine b_getf (v := .long (gP τ4)) d_Sh_takeSold_35 fl_Sh_49 (eg_144 (sA τ4 14 (upd (gA τ4 14) x1.toNatClampNeg (((gA τ4 14) x1.toNatClampNeg) + x2)))) rfl ?_
        refine b_iload_n d_Sh_takeSold_38 rfl rfl ?_
        refine b_i2l d_Sh_takeSold_39 ?_
        refine b_aload_n d_Sh_takeSold_40 rfl rfl ?_
        refine b_getf (v := .int (gX τ4 18)) d_Sh_takeSold_41 fl_Sh_28 (eg_144 (sA τ4 14 (upd (gA τ4 14) x1.toNatClampNeg (((gA τ4 14) x1.toNatClampNeg) + x2)))) rfl ?_
        refine b_i2l d_Sh_takeSold_44 ?_
        refine b_lmul d_Sh_takeSold_45  ?_
        refine b_ladd d_Sh_takeSold_46  ?_
        refine b_putf (ty := .long) (h1 := enc (sP (sA τ4 14 (upd (gA τ4 14) x1.toNatClampNeg (((gA τ4 14) x1.toNatClampNeg) + x2))) ((gP τ4) + ((x2).toInt64 * ((gX τ4 18)).toInt64)))) d_Sh_takeSold_47 fl_Sh_49 ft_9_9 (fun _ => ⟨rfl, rfl⟩) (eg_144 (sA τ4 14 (upd (gA τ4 14) x1.toNatClampNeg (((gA τ4 14) x1.toNatClampNeg) + x2)))) (Nat.le_of_ble_eq_true rfl) (es_144_9 (sA τ4 14 (upd (gA τ4 14) x1.toNatClampNeg (((gA τ4 14) x1.toNatClampNeg) + x2))) ((gP τ4) + ((x2).toInt64 * ((gX τ4 18)).toInt64))) ?_
        refine b_aload_n d_Sh_takeSold_50 rfl rfl ?_
        refine b_iload_n d_Sh_takeSold_51 rfl rfl ?_
        refine b_callVi (Mc := m_Sh_left) (As := [.int x1]) (st := []) d_Sh_takeSold_52 ⟨⟨kA_Sh_left.1, kA_Sh_left.2.1, kA_Sh_left.2.2, by decide⟩, ml_Sh_53, kV_Sh_left⟩ (eg_144 (sP (sA τ4 14 (upd (gA τ4 14) x1.toNatClampNeg (((gA τ4 14) x1.toNatClampNeg) + x2))) ((gP τ4) + ((x2).toInt64 * ((gX τ4 18)).toInt64)))) rfl rfl (Nat.le_of_ble_eq_true rfl) H (fun v6 τ7 H => ?_)
        exact b_iret (ty := .int) d_Sh_takeSold_55 rfl rfl ⟨_, _, rfl, rfl, H⟩
      · have H := H.2 c8
        refine b_iconst (v := (-1 : Int32)) d_Sh_takeSold_21 (by decide) ?_
        exact b_iret (ty := .int) d_Sh_takeSold_22 rfl rfl ⟨_, _, rfl, rfl, H⟩
theorem C_Sh_takeSold {S : XS} {Q : Int32 → St → Prop} (σ : St) (x1 : Int32) (x2 : Int32) (H : BW S m_Sh_takeSold 0 [some (.ref 144), some (.int x1), some (.int x2)] [] (enc σ) (qI Q)) : CM S m_Sh_takeSold [.ref 144, .int x1, .int x2] (enc σ) (qI Q) := b_meth (by decide) (Nat.le_of_ble_eq_true rfl) rfl H
theorem d_Sh_takePulped_0 : decode m_Sh_takePulped.2.1 0 = .ok (.iload_n 1, 1) := by decide +kernel
theorem d_Sh_takePulped_1 : decode m_Sh_takePulped.2.1 1 = .ok (.invokestatic 41, 3) := by decide +kernel
theorem d_Sh_takePulped_4 : decode m_Sh_takePulped.2.1 4 = .ok (.ifCond .ne 5, 3) := by decide +kernel
theorem d_Sh_takePulped_7 : decode m_Sh_takePulped.2.1 7 = .ok (.iconst (-1), 1) := by decide +kernel
theorem d_Sh_takePulped_8 : decode m_Sh_takePulped.2.1 8 = .ok (.ireturn, 1) := by decide +kernel
theorem d_Sh_takePulped_9 : decode m_Sh_takePulped.2.1 9 = .ok (.aload_n 0, 1) := by decide +kernel
theorem d_Sh_takePulped_10 : decode m_Sh_takePulped.2.1 10 = .ok (.iload_n 1, 1) := by decide +kernel
theorem d_Sh_takePulped_11 : decode m_Sh_takePulped.2.1 11 = .ok (.invokevirtual 53, 3) := by decide +kernel
theorem d_Sh_takePulped_14 : decode m_Sh_takePulped.2.1 14 = .ok (.istore_n 2, 1) := by decide +kernel
theorem d_Sh_takePulped_15 : decode m_Sh_takePulped.2.1 15 = .ok (.aload_n 0, 1) := by decide +kernel
theorem d_Sh_takePulped_16 : decode m_Sh_takePulped.2.1 16 = .ok (.getfield 18, 3) := by decide +kernel
theorem d_Sh_takePulped_19 : decode m_Sh_takePulped.2.1 19 = .ok (.iload_n 1, 1) := by decide +kernel
theorem d_Sh_takePulped_20 : decode m_Sh_takePulped.2.1 20 = .ok (.dup2, 1) := by decide +kernel
theorem d_Sh_takePulped_21 : decode m_Sh_takePulped.2.1 21 = .ok (.iaload, 1) := by decide +kernel
theorem d_Sh_takePulped_22 : decode m_Sh_takePulped.2.1 22 = .ok (.iload_n 2, 1) := by decide +kernel
theorem d_Sh_takePulped_23 : decode m_Sh_takePulped.2.1 23 = .ok (.iadd, 1) := by decide +kernel
theorem d_Sh_takePulped_24 : decode m_Sh_takePulped.2.1 24 = .ok (.iastore, 1) := by decide +kernel
theorem d_Sh_takePulped_25 : decode m_Sh_takePulped.2.1 25 = .ok (.aload_n 0, 1) := by decide +kernel
theorem d_Sh_takePulped_26 : decode m_Sh_takePulped.2.1 26 = .ok (.dup, 1) := by decide +kernel
theorem d_Sh_takePulped_27 : decode m_Sh_takePulped.2.1 27 = .ok (.getfield 49, 3) := by decide +kernel
theorem d_Sh_takePulped_30 : decode m_Sh_takePulped.2.1 30 = .ok (.iload_n 2, 1) := by decide +kernel
theorem d_Sh_takePulped_31 : decode m_Sh_takePulped.2.1 31 = .ok (.i2l, 1) := by decide +kernel
theorem d_Sh_takePulped_32 : decode m_Sh_takePulped.2.1 32 = .ok (.aload_n 0, 1) := by decide +kernel
theorem d_Sh_takePulped_33 : decode m_Sh_takePulped.2.1 33 = .ok (.getfield 38, 3) := by decide +kernel
theorem d_Sh_takePulped_36 : decode m_Sh_takePulped.2.1 36 = .ok (.i2l, 1) := by decide +kernel
theorem d_Sh_takePulped_37 : decode m_Sh_takePulped.2.1 37 = .ok (.lmul, 1) := by decide +kernel
theorem d_Sh_takePulped_38 : decode m_Sh_takePulped.2.1 38 = .ok (.ladd, 1) := by decide +kernel
theorem d_Sh_takePulped_39 : decode m_Sh_takePulped.2.1 39 = .ok (.putfield 49, 3) := by decide +kernel
theorem d_Sh_takePulped_42 : decode m_Sh_takePulped.2.1 42 = .ok (.iload_n 2, 1) := by decide +kernel
theorem d_Sh_takePulped_43 : decode m_Sh_takePulped.2.1 43 = .ok (.ireturn, 1) := by decide +kernel
set_option maxHeartbeats 4000000 in
set_option maxRecDepth 100000 in
theorem B_Sh_takePulped_0 {S : XS} {Q : Int32 → St → Prop} (σ : St) (x1 : Int32) (H : CM S m_Sh_isSlot [.int x1] (enc σ) (qI (fun v1 τ2 => ((¬ v1 = 0 → CM S m_Sh_left [.ref 144, .int x1] (enc τ2) (qI (fun v3 τ4 => (vp_in x1 96) ∧ Q v3 (sP (sA τ4 15 (upd (gA τ4 15) x1.toNatClampNeg (((gA τ4 15) x1.toNatClampNeg) + v3))) ((gP τ4) + ((v3).toInt64 * ((gX τ4 21)).toInt64)))))) ∧ (v1 = 0 → Q (-1 : Int32) τ2))))) : BW S m_Sh_takePulped 0 [some (.ref 144), some (.int x1), none] [] (enc σ) (qI Q) := by
  refine b_iload_n d_Sh_takePulped_0 rfl rfl ?_
  refine b_callSi (Mc := m_Sh_isSlot) (As := [.int x1]) (st := []) d_Sh_takePulped_1 ⟨⟨kA_Sh_isSlot.1, kA_Sh_isSlot.2.1, kA_Sh_isSlot.2.2, by decide⟩, ml_Sh_41, kS_Sh_isSlot⟩ rfl rfl (Nat.le_of_ble_eq_true rfl) H (fun v1 τ2 H => ?_)
  refine b_if_ne (tgt := 9) d_Sh_takePulped_4 (by decide) (fun c6 => ?_) (fun c6 => ?_)
  · have H := H.1 c6
    refine b_aload_n d_Sh_takePulped_9 rfl rfl ?_
    refine b_iload_n d_Sh_takePulped_10 rfl rfl ?_
    refine b_callVi (Mc := m_Sh_left) (As := [.int x1]) (st := []) d_Sh_takePulped_11 ⟨⟨kA_Sh_left.1, kA_Sh_left.2.1, kA_Sh_left.2.2, by decide⟩, ml_Sh_53, kV_Sh_left⟩ (eg_144 τ2) rfl rfl (Nat.le_of_ble_eq_true rfl) H (fun v3 τ4 H => ?_)
    refine b_istore_n (ls' := [some (.ref 144), some (.int x1), some (.int v3)]) d_Sh_takePulped_14 rfl (Nat.le_of_ble_eq_true rfl) rfl ?_
    refine b_aload_n d_Sh_takePulped_15 rfl rfl ?_
    refine b_getf (v := .ref 147) d_Sh_takePulped_16 fl_Sh_18 (eg_144 τ4) rfl ?_
    refine b_iload_n d_Sh_takePulped_19 rfl rfl ?_
    refine b_dup2 d_Sh_takePulped_20 rfl rfl ?_
    obtain ⟨h5, H⟩ := H
    refine b_iald d_Sh_takePulped_21 (eg_147 τ4) h5 ?_
    refine b_st2 (st' := [.int ((gA τ4 15) x1.toNatClampNeg), .int x1, .ref 147]) rfl ?_
    refine b_iload_n d_Sh_takePulped_22 rfl rfl ?_
    refine b_iadd d_Sh_takePulped_23  ?_
    refine b_iast (h1 := enc (sA τ4 15 (upd (gA τ4 15) x1.toNatClampNeg (((gA τ4 15) x1.toNatClampNeg) + v3)))) d_Sh_takePulped_24 (eg_147 τ4) h5 (es_147 τ4 (upd (gA τ4 15) x1.toNatClampNeg (((gA τ4 15) x1.toNatClampNeg) + v3))) ?_
    refine b_aload_n d_Sh_takePulped_25 rfl rfl ?_
    refine b_dup d_Sh_takePulped_26 rfl ?_
    refine b_getf (v := .long (gP τ4)) d_Sh_takePulped_27 fl_Sh_49 (eg_144 (sA τ4 15 (upd (gA τ4 15) x1.toNatClampNeg (((gA τ4 15) x1.toNatClampNeg) + v3)))) rfl ?_
    refine b_iload_n d_Sh_takePulped_30 rfl rfl ?_
    refine b_i2l d_Sh_takePulped_31 ?_
    refine b_aload_n d_Sh_takePulped_32 rfl rfl ?_
    refine b_getf (v := .int (gX τ4 21)) d_Sh_takePulped_33 fl_Sh_38 (eg_144 (sA τ4 15 (upd (gA τ4 15) x1.toNatClampNeg (((gA τ4 15) x1.toNatClampNeg) + v3)))) rfl ?_
    refine b_i2l d_Sh_takePulped_36 ?_
    refine b_lmul d_Sh_takePulped_37  ?_
    refine b_ladd d_Sh_takePulped_38  ?_
    refine b_putf (ty := .long) (h1 := enc (sP (sA τ4 15 (upd (gA τ4 15) x1.toNatClampNeg (((gA τ4 15) x1.toNatClampNeg) + v3))) ((gP τ4) + ((v3).toInt64 * ((gX τ4 21)).toInt64)))) d_Sh_takePulped_39 fl_Sh_49 ft_9_9 (fun _ => ⟨rfl, rfl⟩) (eg_144 (sA τ4 15 (upd (gA τ4 15) x1.toNatClampNeg (((gA τ4 15) x1.toNatClampNeg) + v3)))) (Nat.le_of_ble_eq_true rfl) (es_144_9 (sA τ4 15 (upd (gA τ4 15) x1.toNatClampNeg (((gA τ4 15) x1.toNatClampNeg) + v3))) ((gP τ4) + ((v3).toInt64 * ((gX τ4 21)).toInt64))) ?_
    refine b_iload_n d_Sh_takePulped_42 rfl rfl ?_
    exact b_iret (ty := .int) d_Sh_takePulped_43 rfl rfl ⟨_, _, rfl, rfl, H⟩
  · have H := H.2 c6
    refine b_iconst (v := (-1 : Int32)) d_Sh_takePulped_7 (by decide) ?_
    exact b_iret (ty := .int) d_Sh_takePulped_8 rfl rfl ⟨_, _, rfl, rfl, H⟩
theorem C_Sh_takePulped {S : XS} {Q : Int32 → St → Prop} (σ : St) (x1 : Int32) (H : BW S m_Sh_takePulped 0 [some (.ref 144), some (.int x1), none] [] (enc σ) (qI Q)) : CM S m_Sh_takePulped [.ref 144, .int x1] (enc σ) (qI Q) := b_meth (by decide) (Nat.le_of_ble_eq_true rfl) rfl H
theorem d_Sh_countOf_0 : decode m_Sh_countOf.2.1 0 = .ok (.iload_n 1, 1) := by decide +kernel
theorem d_Sh_countOf_1 : decode m_Sh_countOf.2.1 1 = .ok (.invokestatic 41, 3) := by decide +kernel
theorem d_Sh_countOf_4 : decode m_Sh_countOf.2.1 4 = .ok (.ifCond .ne 5, 3) := by decide +kernel
theorem d_Sh_countOf_7 : decode m_Sh_countOf.2.1 7 = .ok (.iconst (-1), 1) := by decide +kernel
theorem d_Sh_countOf_8 : decode m_Sh_countOf.2.1 8 = .ok (.ireturn, 1) := by decide +kernel
theorem d_Sh_countOf_9 : decode m_Sh_countOf.2.1 9 = .ok (.iload_n 2, 1) := by decide +kernel
theorem d_Sh_countOf_10 : decode m_Sh_countOf.2.1 10 = .ok (.tableswitch 87 0 5 #[38, 45, 52, 59, 66, 72], 38) := by decide +kernel
theorem d_Sh_countOf_48 : decode m_Sh_countOf.2.1 48 = .ok (.aload_n 0, 1) := by decide +kernel
theorem d_Sh_countOf_49 : decode m_Sh_countOf.2.1 49 = .ok (.getfield 11, 3) := by decide +kernel
theorem d_Sh_countOf_52 : decode m_Sh_countOf.2.1 52 = .ok (.iload_n 1, 1) := by decide +kernel
theorem d_Sh_countOf_53 : decode m_Sh_countOf.2.1 53 = .ok (.iaload, 1) := by decide +kernel
theorem d_Sh_countOf_54 : decode m_Sh_countOf.2.1 54 = .ok (.ireturn, 1) := by decide +kernel
theorem d_Sh_countOf_55 : decode m_Sh_countOf.2.1 55 = .ok (.aload_n 0, 1) := by decide +kernel
theorem d_Sh_countOf_56 : decode m_Sh_countOf.2.1 56 = .ok (.getfield 15, 3) := by decide +kernel
theorem d_Sh_countOf_59 : decode m_Sh_countOf.2.1 59 = .ok (.iload_n 1, 1) := by decide +kernel
theorem d_Sh_countOf_60 : decode m_Sh_countOf.2.1 60 = .ok (.iaload, 1) := by decide +kernel
theorem d_Sh_countOf_61 : decode m_Sh_countOf.2.1 61 = .ok (.ireturn, 1) := by decide +kernel
theorem d_Sh_countOf_62 : decode m_Sh_countOf.2.1 62 = .ok (.aload_n 0, 1) := by decide +kernel
theorem d_Sh_countOf_63 : decode m_Sh_countOf.2.1 63 = .ok (.getfield 18, 3) := by decide +kernel
theorem d_Sh_countOf_66 : decode m_Sh_countOf.2.1 66 = .ok (.iload_n 1, 1) := by decide +kernel
theorem d_Sh_countOf_67 : decode m_Sh_countOf.2.1 67 = .ok (.iaload, 1) := by decide +kernel
theorem d_Sh_countOf_68 : decode m_Sh_countOf.2.1 68 = .ok (.ireturn, 1) := by decide +kernel
theorem d_Sh_countOf_69 : decode m_Sh_countOf.2.1 69 = .ok (.aload_n 0, 1) := by decide +kernel
theorem d_Sh_countOf_70 : decode m_Sh_countOf.2.1 70 = .ok (.getfield 21, 3) := by decide +kernel
theorem d_Sh_countOf_73 : decode m_Sh_countOf.2.1 73 = .ok (.iload_n 1, 1) := by decide +kernel
theorem d_Sh_countOf_74 : decode m_Sh_countOf.2.1 74 = .ok (.iaload, 1) := by decide +kernel
theorem d_Sh_countOf_75 : decode m_Sh_countOf.2.1 75 = .ok (.ireturn, 1) := by decide +kernel
theorem d_Sh_countOf_76 : decode m_Sh_countOf.2.1 76 = .ok (.aload_n 0, 1) := by decide +kernel
theorem d_Sh_countOf_77 : decode m_Sh_countOf.2.1 77 = .ok (.iload_n 1, 1) := by decide +kernel
theorem d_Sh_countOf_78 : decode m_Sh_countOf.2.1 78 = .ok (.invokevirtual 53, 3) := by decide +kernel
theorem d_Sh_countOf_81 : decode m_Sh_countOf.2.1 81 = .ok (.ireturn, 1) := by decide +kernel
theorem d_Sh_countOf_82 : decode m_Sh_countOf.2.1 82 = .ok (.aload_n 0, 1) := by decide +kernel
theorem d_Sh_countOf_83 : decode m_Sh_countOf.2.1 83 = .ok (.getfield 24, 3) := by decide +kernel
theorem d_Sh_countOf_86 : decode m_Sh_countOf.2.1 86 = .ok (.iload_n 1, 1) := by decide +kernel
theorem d_Sh_countOf_87 : decode m_Sh_countOf.2.1 87 = .ok (.baload, 1) := by decide +kernel
theorem d_Sh_countOf_88 : decode m_Sh_countOf.2.1 88 = .ok (.ifCond .eq 7, 3) := by decide +kernel
theorem d_Sh_countOf_91 : decode m_Sh_countOf.2.1 91 = .ok (.iconst 1, 1) := by decide +kernel
theorem d_Sh_countOf_92 : decode m_Sh_countOf.2.1 92 = .ok (.goto 4, 3) := by decide +kernel
theorem d_Sh_countOf_95 : decode m_Sh_countOf.2.1 95 = .ok (.iconst 0, 1) := by decide +kernel
theorem d_Sh_countOf_96 : decode m_Sh_countOf.2.1 96 = .ok (.ireturn, 1) := by decide +kernel
theorem d_Sh_countOf_97 : decode m_Sh_countOf.2.1 97 = .ok (.iconst (-1), 1) := by decide +kernel
theorem d_Sh_countOf_98 : decode m_Sh_countOf.2.1 98 = .ok (.ireturn, 1) := by decide +kernel
set_option maxHeartbeats 4000000 in
set_option maxRecDepth 100000 in
theorem B_Sh_countOf_0 {S : XS} {Q : Int32 → St → Prop} (σ : St) (x1 : Int32) (x2 : Int32) (H : CM S m_Sh_isSlot [.int x1] (enc σ) (qI (fun v1 τ2 => ((¬ v1 = 0 → ((x2 = (0 : Int32) → (vp_in x1 96) ∧ Q ((gA τ2 13) x1.toNatClampNeg) τ2) ∧ (x2 = (1 : Int32) → (vp_in x1 96) ∧ Q ((gA τ2 14) x1.toNatClampNeg) τ2) ∧ (x2 = (2 : Int32) → (vp_in x1 96) ∧ Q ((gA τ2 15) x1.toNatClampNeg) τ2) ∧ (x2 = (3 : Int32) → (vp_in x1 96) ∧ Q ((gA τ2 16) x1.toNatClampNeg) τ2) ∧ (x2 = (4 : Int32) → CM S m_Sh_left [.ref 144, .int x1] (enc τ2) (qI (fun v13 τ14 => Q v13 τ14))) ∧ (x2 = (5 : Int32) → (vp_in x1 96) ∧ ((((gA τ2 17) x1.toNatClampNeg) = 0 → Q (0 : Int32) τ2) ∧ (¬ ((gA τ2 17) x1.toNatClampNeg) = 0 → Q (1 : Int32) τ2))) ∧ (¬ x2 = (0 : Int32) → ¬ x2 = (1 : Int32) → ¬ x2 = (2 : Int32) → ¬ x2 = (3 : Int32) → ¬ x2 = (4 : Int32) → ¬ x2 = (5 : Int32) → Q (-1 : Int32) τ2))) ∧ (v1 = 0 → Q (-1 : Int32) τ2))))) : BW S m_Sh_countOf 0 [some (.ref 144), some (.int x1), some (.int x2)] [] (enc σ) (qI Q) := by
  refine b_iload_n d_Sh_countOf_0 rfl rfl ?_
  refine b_callSi (Mc := m_Sh_isSlot) (As := [.int x1]) (st := []) d_Sh_countOf_1 ⟨⟨kA_Sh_isSlot.1, kA_Sh_isSlot.2.1, kA_Sh_isSlot.2.2, by decide⟩, ml_Sh_41, kS_Sh_isSlot⟩ rfl rfl (Nat.le_of_ble_eq_true rfl) H (fun v1 τ2 H => ?_)
  refine b_if_ne (tgt := 9) d_Sh_countOf_4 (by decide) (fun c17 => ?_) (fun c17 => ?_)
  · have H := H.1 c17
    refine b_iload_n d_Sh_countOf_9 rfl rfl ?_
    by_cases c3 : x2 = (0 : Int32)
    · have H := H.1 c3
      refine b_tableIn (off := 38) (tgt := 48) d_Sh_countOf_10 (by rw [c3]; decide) (by rw [c3]; decide) (by rw [c3]; rfl) (by decide) ?_
      refine b_aload_n d_Sh_countOf_48 rfl rfl ?_
      refine b_getf (v := .ref 145) d_Sh_countOf_49 fl_Sh_11 (eg_144 τ2) rfl ?_
      refine b_iload_n d_Sh_countOf_52 rfl rfl ?_
      obtain ⟨h9, H⟩ := H
      refine b_iald d_Sh_countOf_53 (eg_145 τ2) h9 ?_
      refine b_st2 (st' := [.int ((gA τ2 13) x1.toNatClampNeg)]) rfl ?_
      exact b_iret (ty := .int) d_Sh_countOf_54 rfl rfl ⟨_, _, rfl, rfl, H⟩
    by_cases c4 : x2 = (1 : Int32)
    · have H := H.2.1 c4
      refine b_tableIn (off := 45) (tgt := 55) d_Sh_countOf_10 (by rw [c4]; decide) (by rw [c4]; decide) (by rw [c4]; rfl) (by decide) ?_
      refine b_aload_n d_Sh_countOf_55 rfl rfl ?_
      refine b_getf (v := .ref 146) d_Sh_countOf_56 fl_Sh_15 (eg_144 τ2) rfl ?_
      refine b_iload_n d_Sh_countOf_59 rfl rfl ?_
      obtain ⟨h10, H⟩ := H
      refine b_iald d_Sh_countOf_60 (eg_146 τ2) h10 ?_
      refine b_st2 (st' := [.int ((gA τ2 14) x1.toNatClampNeg)]) rfl ?_
      exact b_iret (ty := .int) d_Sh_countOf_61 rfl rfl ⟨_, _, rfl, rfl, H⟩
    by_cases c5 : x2 = (2 : Int32)
    · have H := H.2.2.1 c5
      refine b_tableIn (off := 52) (tgt := 62) d_Sh_countOf_10 (by rw [c5]; decide) (by rw [c5]; decide) (by rw [c5]; rfl) (by decide) ?_
      refine b_aload_n d_Sh_countOf_62 rfl rfl ?_
      refine b_getf (v := .ref 147) d_Sh_countOf_63 fl_Sh_18 (eg_144 τ2) rfl ?_
      refine b_iload_n d_Sh_countOf_66 rfl rfl ?_
      obtain ⟨h11, H⟩ := H
      refine b_iald d_Sh_countOf_67 (eg_147 τ2) h11 ?_
      refine b_st2 (st' := [.int ((gA τ2 15) x1.toNatClampNeg)]) rfl ?_
      exact b_iret (ty := .int) d_Sh_countOf_68 rfl rfl ⟨_, _, rfl, rfl, H⟩
    by_cases c6 : x2 = (3 : Int32)
    · have H := H.2.2.2.1 c6
      refine b_tableIn (off := 59) (tgt := 69) d_Sh_countOf_10 (by rw [c6]; decide) (by rw [c6]; decide) (by rw [c6]; rfl) (by decide) ?_
      refine b_aload_n d_Sh_countOf_69 rfl rfl ?_
      refine b_getf (v := .ref 148) d_Sh_countOf_70 fl_Sh_21 (eg_144 τ2) rfl ?_
      refine b_iload_n d_Sh_countOf_73 rfl rfl ?_
      obtain ⟨h12, H⟩ := H
      refine b_iald d_Sh_countOf_74 (eg_148 τ2) h12 ?_
      refine b_st2 (st' := [.int ((gA τ2 16) x1.toNatClampNeg)]) rfl ?_
      exact b_iret (ty := .int) d_Sh_countOf_75 rfl rfl ⟨_, _, rfl, rfl, H⟩
    by_cases c7 : x2 = (4 : Int32)
    · have H := H.2.2.2.2.1 c7
      refine b_tableIn (off := 66) (tgt := 76) d_Sh_countOf_10 (by rw [c7]; decide) (by rw [c7]; decide) (by rw [c7]; rfl) (by decide) ?_
      refine b_aload_n d_Sh_countOf_76 rfl rfl ?_
      refine b_iload_n d_Sh_countOf_77 rfl rfl ?_
      refine b_callVi (Mc := m_Sh_left) (As := [.int x1]) (st := []) d_Sh_countOf_78 ⟨⟨kA_Sh_left.1, kA_Sh_left.2.1, kA_Sh_left.2.2, by decide⟩, ml_Sh_53, kV_Sh_left⟩ (eg_144 τ2) rfl rfl (Nat.le_of_ble_eq_true rfl) H (fun v13 τ14 H => ?_)
      exact b_iret (ty := .int) d_Sh_countOf_81 rfl rfl ⟨_, _, rfl, rfl, H⟩
    by_cases c8 : x2 = (5 : Int32)
    · have H := H.2.2.2.2.2.1 c8
      refine b_tableIn (off := 72) (tgt := 82) d_Sh_countOf_10 (by rw [c8]; decide) (by rw [c8]; decide) (by rw [c8]; rfl) (by decide) ?_
      refine b_aload_n d_Sh_countOf_82 rfl rfl ?_
      refine b_getf (v := .ref 149) d_Sh_countOf_83 fl_Sh_24 (eg_144 τ2) rfl ?_
      refine b_iload_n d_Sh_countOf_86 rfl rfl ?_
      obtain ⟨h15, H⟩ := H
      refine b_zald d_Sh_countOf_87 (eg_149 τ2) h15 ?_
      refine b_st2 (st' := [.int ((gA τ2 17) x1.toNatClampNeg)]) rfl ?_
      refine b_if_eq (tgt := 95) d_Sh_countOf_88 (by decide) (fun c16 => ?_) (fun c16 => ?_)
      · have H := H.1 c16
        refine b_iconst (v := (0 : Int32)) d_Sh_countOf_95 (by decide) ?_
        exact b_iret (ty := .int) d_Sh_countOf_96 rfl rfl ⟨_, _, rfl, rfl, H⟩
      · have H := H.2 c16
        refine b_iconst (v := (1 : Int32)) d_Sh_countOf_91 (by decide) ?_
        refine b_goto (tgt := 96) d_Sh_countOf_92 (by decide) ?_
        exact b_iret (ty := .int) d_Sh_countOf_96 rfl rfl ⟨_, _, rfl, rfl, H⟩
    have H := H.2.2.2.2.2.2 c3 c4 c5 c6 c7 c8
    refine b_tableOut (tgt := 97) d_Sh_countOf_10 (tabOut 6 (fun k hk e => ?_)) (by decide) ?_
    · match k, hk, e with
      | 0, _, e => exact c3 (Int32.toInt_inj.mp (e.trans (by decide)))
      | 1, _, e => exact c4 (Int32.toInt_inj.mp (e.trans (by decide)))
      | 2, _, e => exact c5 (Int32.toInt_inj.mp (e.trans (by decide)))
      | 3, _, e => exact c6 (Int32.toInt_inj.mp (e.trans (by decide)))
      | 4, _, e => exact c7 (Int32.toInt_inj.mp (e.trans (by decide)))
      | 5, _, e => exact c8 (Int32.toInt_inj.mp (e.trans (by decide)))
      | (k + 6), hk, _ => omega
    refine b_iconst (v := (-1 : Int32)) d_Sh_countOf_97 (by decide) ?_
    exact b_iret (ty := .int) d_Sh_countOf_98 rfl rfl ⟨_, _, rfl, rfl, H⟩
  · have H := H.2 c17
    refine b_iconst (v := (-1 : Int32)) d_Sh_countOf_7 (by decide) ?_
    exact b_iret (ty := .int) d_Sh_countOf_8 rfl rfl ⟨_, _, rfl, rfl, H⟩
theorem C_Sh_countOf {S : XS} {Q : Int32 → St → Prop} (σ : St) (x1 : Int32) (x2 : Int32) (H : BW S m_Sh_countOf 0 [some (.ref 144), some (.int x1), some (.int x2)] [] (enc σ) (qI Q)) : CM S m_Sh_countOf [.ref 144, .int x1, .int x2] (enc σ) (qI Q) := b_meth (by decide) (Nat.le_of_ble_eq_true rfl) rfl H
theorem d_Sh_soldOfPart_0 : decode m_Sh_soldOfPart.2.1 0 = .ok (.lconst 0, 1) := by decide +kernel
theorem d_Sh_soldOfPart_1 : decode m_Sh_soldOfPart.2.1 1 = .ok (.lstore_n 2, 1) := by decide +kernel
theorem d_Sh_soldOfPart_2 : decode m_Sh_soldOfPart.2.1 2 = .ok (.iconst 0, 1) := by decide +kernel
theorem d_Sh_soldOfPart_3 : decode m_Sh_soldOfPart.2.1 3 = .ok (.istore 4, 2) := by decide +kernel
theorem d_Sh_soldOfPart_5 : decode m_Sh_soldOfPart.2.1 5 = .ok (.iload 4, 2) := by decide +kernel
theorem d_Sh_soldOfPart_7 : decode m_Sh_soldOfPart.2.1 7 = .ok (.iconst 4, 1) := by decide +kernel
theorem d_Sh_soldOfPart_8 : decode m_Sh_soldOfPart.2.1 8 = .ok (.if_icmp .ge 40, 3) := by decide +kernel
theorem d_Sh_soldOfPart_11 : decode m_Sh_soldOfPart.2.1 11 = .ok (.iload_n 1, 1) := by decide +kernel
theorem d_Sh_soldOfPart_12 : decode m_Sh_soldOfPart.2.1 12 = .ok (.iload 4, 2) := by decide +kernel
theorem d_Sh_soldOfPart_14 : decode m_Sh_soldOfPart.2.1 14 = .ok (.invokestatic 57, 3) := by decide +kernel
theorem d_Sh_soldOfPart_17 : decode m_Sh_soldOfPart.2.1 17 = .ok (.istore 5, 2) := by decide +kernel
theorem d_Sh_soldOfPart_19 : decode m_Sh_soldOfPart.2.1 19 = .ok (.lload_n 2, 1) := by decide +kernel
theorem d_Sh_soldOfPart_20 : decode m_Sh_soldOfPart.2.1 20 = .ok (.iload 5, 2) := by decide +kernel
theorem d_Sh_soldOfPart_22 : decode m_Sh_soldOfPart.2.1 22 = .ok (.invokestatic 41, 3) := by decide +kernel
theorem d_Sh_soldOfPart_25 : decode m_Sh_soldOfPart.2.1 25 = .ok (.ifCond .eq 14, 3) := by decide +kernel
theorem d_Sh_soldOfPart_28 : decode m_Sh_soldOfPart.2.1 28 = .ok (.aload_n 0, 1) := by decide +kernel
theorem d_Sh_soldOfPart_29 : decode m_Sh_soldOfPart.2.1 29 = .ok (.getfield 15, 3) := by decide +kernel
theorem d_Sh_soldOfPart_32 : decode m_Sh_soldOfPart.2.1 32 = .ok (.iload 5, 2) := by decide +kernel
theorem d_Sh_soldOfPart_34 : decode m_Sh_soldOfPart.2.1 34 = .ok (.iaload, 1) := by decide +kernel
theorem d_Sh_soldOfPart_35 : decode m_Sh_soldOfPart.2.1 35 = .ok (.i2l, 1) := by decide +kernel
theorem d_Sh_soldOfPart_36 : decode m_Sh_soldOfPart.2.1 36 = .ok (.goto 4, 3) := by decide +kernel
theorem d_Sh_soldOfPart_39 : decode m_Sh_soldOfPart.2.1 39 = .ok (.lconst 0, 1) := by decide +kernel
theorem d_Sh_soldOfPart_40 : decode m_Sh_soldOfPart.2.1 40 = .ok (.ladd, 1) := by decide +kernel
theorem d_Sh_soldOfPart_41 : decode m_Sh_soldOfPart.2.1 41 = .ok (.lstore_n 2, 1) := by decide +kernel
theorem d_Sh_soldOfPart_42 : decode m_Sh_soldOfPart.2.1 42 = .ok (.iinc 4 1, 3) := by decide +kernel
theorem d_Sh_soldOfPart_45 : decode m_Sh_soldOfPart.2.1 45 = .ok (.goto (-40), 3) := by decide +kernel
theorem d_Sh_soldOfPart_48 : decode m_Sh_soldOfPart.2.1 48 = .ok (.lload_n 2, 1) := by decide +kernel
theorem d_Sh_soldOfPart_49 : decode m_Sh_soldOfPart.2.1 49 = .ok (.lreturn, 1) := by decide +kernel
set_option maxHeartbeats 4000000 in
set_option maxRecDepth 100000 in
theorem B_Sh_soldOfPart_0 {S : XS} {Q : Int64 → St → Prop} (σ : St) (x1 : Int32) (H : BW S m_Sh_soldOfPart 5 [some (.ref 144), some (.int x1), some (.long (0 : Int64)), none, some (.int (0 : Int32)), none] [] (enc σ) (qL Q)) : BW S m_Sh_soldOfPart 0 [some (.ref 144), some (.int x1), none, none, none, none] [] (enc σ) (qL Q) := by
  refine b_lconst (v := (0 : Int64)) d_Sh_soldOfPart_0 (by decide) ?_
  refine b_lstore_n (ls' := [some (.ref 144), some (.int x1), some (.long (0 : Int64)), none, none, none]) d_Sh_soldOfPart_1 rfl (Nat.le_of_ble_eq_true rfl) rfl ?_
  refine b_iconst (v := (0 : Int32)) d_Sh_soldOfPart_2 (by decide) ?_
  refine b_istore (ls' := [some (.ref 144), some (.int x1), some (.long (0 : Int64)), none, some (.int (0 : Int32)), none]) d_Sh_soldOfPart_3 (Nat.le_of_ble_eq_true rfl) rfl ?_
  exact b_mask [true, true, true, true, true, true] rfl H
set_option maxHeartbeats 4000000 in
set_option maxRecDepth 100000 in
theorem B_Sh_soldOfPart_5 {S : XS} {Q : Int64 → St → Prop} (σ : St) (x1 : Int32) (x2 : Int64) (x4 : Int32) (H : (((4 : Int32) ≤ x4 → Q x2 σ) ∧ (¬ (4 : Int32) ≤ x4 → CM S m_TH_slot [.int x1, .int x4] (enc σ) (qI (fun v1 τ2 => CM S m_Sh_isSlot [.int v1] (enc τ2) (qI (fun v3 τ4 => ((v3 = 0 → BW S m_Sh_soldOfPart 5 [some (.ref 144), some (.int x1), some (.long (x2 + (0 : Int64))), none, some (.int (x4 + (1 : Int32))), none] [] (enc τ4) (qL Q)) ∧ (¬ v3 = 0 → (vp_in v1 96) ∧ BW S m_Sh_soldOfPart 5 [some (.ref 144), some (.int x1), some (.long (x2 + (((gA τ4 14) v1.toNatClampNeg)).toInt64)), none, some (.int (x4 + (1 : Int32))), none] [] (enc τ4) (qL Q)))))))))) : BW S m_Sh_soldOfPart 5 [some (.ref 144), some (.int x1), some (.long x2), none, some (.int x4), none] [] (enc σ) (qL Q) := by
  refine b_iload d_Sh_soldOfPart_5 rfl ?_
  refine b_iconst (v := (4 : Int32)) d_Sh_soldOfPart_7 (by decide) ?_
  refine b_icmp_ge (tgt := 48) d_Sh_soldOfPart_8 (by decide) (fun c7 => ?_) (fun c7 => ?_)
  · have H := H.1 c7
    refine b_lload_n d_Sh_soldOfPart_48 rfl rfl ?_
    exact b_lret d_Sh_soldOfPart_49 rfl ⟨_, _, rfl, rfl, H⟩
  · have H := H.2 c7
    refine b_iload_n d_Sh_soldOfPart_11 rfl rfl ?_
    refine b_iload d_Sh_soldOfPart_12 rfl ?_
    refine b_callSNi (Mc := m_TH_slot) (As := [.int x1, .int x4]) (st := []) d_Sh_soldOfPart_14 ⟨⟨kA_TH_slot.1, kA_TH_slot.2.1, kA_TH_slot.2.2, by decide⟩, mn_Sh_57, kS_TH_slot⟩ rfl rfl (Nat.le_of_ble_eq_true rfl) H (fun v1 τ2 H => ?_)
    refine b_istore (ls' := [some (.ref 144), some (.int x1), some (.long x2), none, some (.int x4), some (.int v1)]) d_Sh_soldOfPart_17 (Nat.le_of_ble_eq_true rfl) rfl ?_
    refine b_lload_n d_Sh_soldOfPart_19 rfl rfl ?_
    refine b_iload d_Sh_soldOfPart_20 rfl ?_
    refine b_callSi (Mc := m_Sh_isSlot) (As := [.int v1]) (st := [.long x2]) d_Sh_soldOfPart_22 ⟨⟨kA_Sh_isSlot.1, kA_Sh_isSlot.2.1, kA_Sh_isSlot.2.2, by decide⟩, ml_Sh_41, kS_Sh_isSlot⟩ rfl rfl (Nat.le_of_ble_eq_true rfl) H (fun v3 τ4 H => ?_)
    refine b_if_eq (tgt := 39) d_Sh_soldOfPart_25 (by decide) (fun c6 => ?_) (fun c6 => ?_)
    · have H := H.1 c6
      refine b_lconst (v := (0 : Int64)) d_Sh_soldOfPart_39 (by decide) ?_
      refine b_ladd d_Sh_soldOfPart_40  ?_
      refine b_lstore_n (ls' := [some (.ref 144), some (.int x1), some (.long (x2 + (0 : Int64))), none, some (.int x4), some (.int v1)]) d_Sh_soldOfPart_41 rfl (Nat.le_of_ble_eq_true rfl) rfl ?_
      refine b_iinc (v := (x4 + (1 : Int32))) (ls' := [some (.ref 144), some (.int x1), some (.long (x2 + (0 : Int64))), none, some (.int (x4 + (1 : Int32))), some (.int v1)]) d_Sh_soldOfPart_42 rfl rfl (Nat.le_of_ble_eq_true rfl) rfl ?_
      refine b_goto (tgt := 5) d_Sh_soldOfPart_45 (by decide) ?_
      exact b_mask [true, true, true, true, true, false] rfl H
    · have H := H.2 c6
      refine b_aload_n d_Sh_soldOfPart_28 rfl rfl ?_
      refine b_getf (v := .ref 146) d_Sh_soldOfPart_29 fl_Sh_15 (eg_144 τ4) rfl ?_
      refine b_iload d_Sh_soldOfPart_32 rfl ?_
      obtain ⟨h5, H⟩ := H
      refine b_iald d_Sh_soldOfPart_34 (eg_146 τ4) h5 ?_
      refine b_st2 (st' := [.int ((gA τ4 14) v1.toNatClampNeg), .long x2]) rfl ?_
      refine b_i2l d_Sh_soldOfPart_35 ?_
      refine b_goto (tgt := 40) d_Sh_soldOfPart_36 (by decide) ?_
      refine b_ladd d_Sh_soldOfPart_40  ?_
      refine b_lstore_n (ls' := [some (.ref 144), some (.int x1), some (.long (x2 + (((gA τ4 14) v1.toNatClampNeg)).toInt64)), none, some (.int x4), some (.int v1)]) d_Sh_soldOfPart_41 rfl (Nat.le_of_ble_eq_true rfl) rfl ?_
      refine b_iinc (v := (x4 + (1 : Int32))) (ls' := [some (.ref 144), some (.int x1), some (.long (x2 + (((gA τ4 14) v1.toNatClampNeg)).toInt64)), none, some (.int (x4 + (1 : Int32))), some (.int v1)]) d_Sh_soldOfPart_42 rfl rfl (Nat.le_of_ble_eq_true rfl) rfl ?_
      refine b_goto (tgt := 5) d_Sh_soldOfPart_45 (by decide) ?_
      exact b_mask [true, true, true, true, true, false] rfl H
theorem C_Sh_soldOfPart {S : XS} {Q : Int64 → St → Prop} (σ : St) (x1 : Int32) (H : BW S m_Sh_soldOfPart 0 [some (.ref 144), some (.int x1), none, none, none, none] [] (enc σ) (qL Q)) : CM S m_Sh_soldOfPart [.ref 144, .int x1] (enc σ) (qL Q) := b_meth (by decide) (Nat.le_of_ble_eq_true rfl) rfl H
theorem d_Sh_leastLeft_0 : decode m_Sh_leastLeft.2.1 0 = .ok (.ldc 62, 2) := by decide +kernel
theorem d_Sh_leastLeft_2 : decode m_Sh_leastLeft.2.1 2 = .ok (.istore 4, 2) := by decide +kernel
theorem d_Sh_leastLeft_4 : decode m_Sh_leastLeft.2.1 4 = .ok (.iload_n 1, 1) := by decide +kernel
theorem d_Sh_leastLeft_5 : decode m_Sh_leastLeft.2.1 5 = .ok (.istore 5, 2) := by decide +kernel
theorem d_Sh_leastLeft_7 : decode m_Sh_leastLeft.2.1 7 = .ok (.iload 5, 2) := by decide +kernel
theorem d_Sh_leastLeft_9 : decode m_Sh_leastLeft.2.1 9 = .ok (.iload_n 2, 1) := by decide +kernel
theorem d_Sh_leastLeft_10 : decode m_Sh_leastLeft.2.1 10 = .ok (.if_icmp .gt 33, 3) := by decide +kernel
theorem d_Sh_leastLeft_13 : decode m_Sh_leastLeft.2.1 13 = .ok (.iload 5, 2) := by decide +kernel
theorem d_Sh_leastLeft_15 : decode m_Sh_leastLeft.2.1 15 = .ok (.bipush 24, 2) := by decide +kernel
theorem d_Sh_leastLeft_17 : decode m_Sh_leastLeft.2.1 17 = .ok (.if_icmp .ge 26, 3) := by decide +kernel
theorem d_Sh_leastLeft_20 : decode m_Sh_leastLeft.2.1 20 = .ok (.iload 4, 2) := by decide +kernel
theorem d_Sh_leastLeft_22 : decode m_Sh_leastLeft.2.1 22 = .ok (.aload_n 0, 1) := by decide +kernel
theorem d_Sh_leastLeft_23 : decode m_Sh_leastLeft.2.1 23 = .ok (.iload 5, 2) := by decide +kernel
theorem d_Sh_leastLeft_25 : decode m_Sh_leastLeft.2.1 25 = .ok (.iload_n 3, 1) := by decide +kernel
theorem d_Sh_leastLeft_26 : decode m_Sh_leastLeft.2.1 26 = .ok (.invokestatic 57, 3) := by decide +kernel
theorem d_Sh_leastLeft_29 : decode m_Sh_leastLeft.2.1 29 = .ok (.invokevirtual 53, 3) := by decide +kernel
theorem d_Sh_leastLeft_32 : decode m_Sh_leastLeft.2.1 32 = .ok (.invokestatic 63, 3) := by decide +kernel
theorem d_Sh_leastLeft_35 : decode m_Sh_leastLeft.2.1 35 = .ok (.istore 4, 2) := by decide +kernel
theorem d_Sh_leastLeft_37 : decode m_Sh_leastLeft.2.1 37 = .ok (.iinc 5 1, 3) := by decide +kernel
theorem d_Sh_leastLeft_40 : decode m_Sh_leastLeft.2.1 40 = .ok (.goto (-33), 3) := by decide +kernel
theorem d_Sh_leastLeft_43 : decode m_Sh_leastLeft.2.1 43 = .ok (.iload 4, 2) := by decide +kernel
theorem d_Sh_leastLeft_45 : decode m_Sh_leastLeft.2.1 45 = .ok (.ireturn, 1) := by decide +kernel
set_option maxHeartbeats 4000000 in
set_option maxRecDepth 100000 in
theorem B_Sh_leastLeft_0 {S : XS} {Q : Int32 → St → Prop} (σ : St) (x1 : Int32) (x2 : Int32) (x3 : Int32) (H : BW S m_Sh_leastLeft 7 [some (.ref 144), none, some (.int x2), some (.int x3), some (.int (2147483647 : Int32)), some (.int x1)] [] (enc σ) (qI Q)) : BW S m_Sh_leastLeft 0 [some (.ref 144), some (.int x1), some (.int x2), some (.int x3), none, none] [] (enc σ) (qI Q) := by
  refine b_ldc (v := (2147483647 : Int32)) d_Sh_leastLeft_0 cn_Sh_62 ?_
  refine b_istore (ls' := [some (.ref 144), some (.int x1), some (.int x2), some (.int x3), some (.int (2147483647 : Int32)), none]) d_Sh_leastLeft_2 (Nat.le_of_ble_eq_true rfl) rfl ?_
  refine b_iload_n d_Sh_leastLeft_4 rfl rfl ?_
  refine b_istore (ls' := [some (.ref 144), some (.int x1), some (.int x2), some (.int x3), some (.int (2147483647 : Int32)), some (.int x1)]) d_Sh_leastLeft_5 (Nat.le_of_ble_eq_true rfl) rfl ?_
  exact b_mask [true, false, true, true, true, true] rfl H
set_option maxHeartbeats 4000000 in
set_option maxRecDepth 100000 in
theorem B_Sh_leastLeft_7 {S : XS} {Q : Int32 → St → Prop} (σ : St) (x2 : Int32) (x3 : Int32) (x4 : Int32) (x5 : Int32) (H : ((x2 < x5 → Q x4 σ) ∧ (¬ x2 < x5 → (((24 : Int32) ≤ x5 → Q x4 σ) ∧ (¬ (24 : Int32) ≤ x5 → CM S m_TH_slot [.int x5, .int x3] (enc σ) (qI (fun v1 τ2 => CM S m_Sh_left [.ref 144, .int v1] (enc τ2) (qI (fun v3 τ4 => BW S m_Sh_leastLeft 7 [some (.ref 144), none, some (.int x2), some (.int x3), some (.int (if v3 < x4 then v3 else x4)), some (.int (x5 + (1 : Int32)))] [] (enc τ4) (qI Q)))))))))) : BW S m_Sh_leastLeft 7 [some (.ref 144), none, some (.int x2), some (.int x3), some (.int x4), some (.int x5)] [] (enc σ) (qI Q) := by
  refine b_iload d_Sh_leastLeft_7 rfl ?_
  refine b_iload_n d_Sh_leastLeft_9 rfl rfl ?_
  refine b_icmp_gt (tgt := 43) d_Sh_leastLeft_10 (by decide) (fun c6 => ?_) (fun c6 => ?_)
  · have H := H.1 c6
    refine b_iload d_Sh_leastLeft_43 rfl ?_
    exact b_iret (ty := .int) d_Sh_leastLeft_45 rfl rfl ⟨_, _, rfl, rfl, H⟩
  · have H := H.2 c6
    refine b_iload d_Sh_leastLeft_13 rfl ?_
    refine b_bipush (v := (24 : Int32)) d_Sh_leastLeft_15 (by decide) ?_
    refine b_icmp_ge (tgt := 43) d_Sh_leastLeft_17 (by decide) (fun c5 => ?_) (fun c5 => ?_)
    · have H := H.1 c5
      refine b_iload d_Sh_leastLeft_43 rfl ?_
      exact b_iret (ty := .int) d_Sh_leastLeft_45 rfl rfl ⟨_, _, rfl, rfl, H⟩
    · have H := H.2 c5
      refine b_iload d_Sh_leastLeft_20 rfl ?_
      refine b_aload_n d_Sh_leastLeft_22 rfl rfl ?_
      refine b_iload d_Sh_leastLeft_23 rfl ?_
      refine b_iload_n d_Sh_leastLeft_25 rfl rfl ?_
      refine b_callSNi (Mc := m_TH_slot) (As := [.int x5, .int x3]) (st := [.ref 144, .int x4]) d_Sh_leastLeft_26 ⟨⟨kA_TH_slot.1, kA_TH_slot.2.1, kA_TH_slot.2.2, by decide⟩, mn_Sh_57, kS_TH_slot⟩ rfl rfl (Nat.le_of_ble_eq_true rfl) H (fun v1 τ2 H => ?_)
      refine b_callVi (Mc := m_Sh_left) (As := [.int v1]) (st := [.int x4]) d_Sh_leastLeft_29 ⟨⟨kA_Sh_left.1, kA_Sh_left.2.1, kA_Sh_left.2.2, by decide⟩, ml_Sh_53, kV_Sh_left⟩ (eg_144 τ2) rfl rfl (Nat.le_of_ble_eq_true rfl) H (fun v3 τ4 H => ?_)
      refine b_minI d_Sh_leastLeft_32 ml_Sh_63 (Nat.le_of_ble_eq_true rfl) ⟨by decide, by decide⟩ ?_
      refine b_istore (ls' := [some (.ref 144), none, some (.int x2), some (.int x3), some (.int (if v3 < x4 then v3 else x4)), some (.int x5)]) d_Sh_leastLeft_35 (Nat.le_of_ble_eq_true rfl) rfl ?_
      refine b_iinc (v := (x5 + (1 : Int32))) (ls' := [some (.ref 144), none, some (.int x2), some (.int x3), some (.int (if v3 < x4 then v3 else x4)), some (.int (x5 + (1 : Int32)))]) d_Sh_leastLeft_37 rfl rfl (Nat.le_of_ble_eq_true rfl) rfl ?_
      refine b_goto (tgt := 7) d_Sh_leastLeft_40 (by decide) ?_
      exact b_mask [true, true, true, true, true, true] rfl H
theorem C_Sh_leastLeft {S : XS} {Q : Int32 → St → Prop} (σ : St) (x1 : Int32) (x2 : Int32) (x3 : Int32) (H : BW S m_Sh_leastLeft 0 [some (.ref 144), some (.int x1), some (.int x2), some (.int x3), none, none] [] (enc σ) (qI Q)) : CM S m_Sh_leastLeft [.ref 144, .int x1, .int x2, .int x3] (enc σ) (qI Q) := b_meth (by decide) (Nat.le_of_ble_eq_true rfl) rfl H
theorem d_Sh_bind_0 : decode m_Sh_bind.2.1 0 = .ok (.iload_n 1, 1) := by decide +kernel
theorem d_Sh_bind_1 : decode m_Sh_bind.2.1 1 = .ok (.istore 5, 2) := by decide +kernel
theorem d_Sh_bind_3 : decode m_Sh_bind.2.1 3 = .ok (.iload 5, 2) := by decide +kernel
theorem d_Sh_bind_5 : decode m_Sh_bind.2.1 5 = .ok (.iload_n 2, 1) := by decide +kernel
theorem d_Sh_bind_6 : decode m_Sh_bind.2.1 6 = .ok (.if_icmp .gt 44, 3) := by decide +kernel
theorem d_Sh_bind_9 : decode m_Sh_bind.2.1 9 = .ok (.iload 5, 2) := by decide +kernel
theorem d_Sh_bind_11 : decode m_Sh_bind.2.1 11 = .ok (.bipush 24, 2) := by decide +kernel
theorem d_Sh_bind_13 : decode m_Sh_bind.2.1 13 = .ok (.if_icmp .ge 37, 3) := by decide +kernel
theorem d_Sh_bind_16 : decode m_Sh_bind.2.1 16 = .ok (.iload 5, 2) := by decide +kernel
theorem d_Sh_bind_18 : decode m_Sh_bind.2.1 18 = .ok (.iload_n 3, 1) := by decide +kernel
theorem d_Sh_bind_19 : decode m_Sh_bind.2.1 19 = .ok (.invokestatic 57, 3) := by decide +kernel
theorem d_Sh_bind_22 : decode m_Sh_bind.2.1 22 = .ok (.istore 6, 2) := by decide +kernel
theorem d_Sh_bind_24 : decode m_Sh_bind.2.1 24 = .ok (.iload 6, 2) := by decide +kernel
theorem d_Sh_bind_26 : decode m_Sh_bind.2.1 26 = .ok (.invokestatic 41, 3) := by decide +kernel
theorem d_Sh_bind_29 : decode m_Sh_bind.2.1 29 = .ok (.ifCond .eq 15, 3) := by decide +kernel
theorem d_Sh_bind_32 : decode m_Sh_bind.2.1 32 = .ok (.aload_n 0, 1) := by decide +kernel
theorem d_Sh_bind_33 : decode m_Sh_bind.2.1 33 = .ok (.getfield 21, 3) := by decide +kernel
theorem d_Sh_bind_36 : decode m_Sh_bind.2.1 36 = .ok (.iload 6, 2) := by decide +kernel
theorem d_Sh_bind_38 : decode m_Sh_bind.2.1 38 = .ok (.dup2, 1) := by decide +kernel
theorem d_Sh_bind_39 : decode m_Sh_bind.2.1 39 = .ok (.iaload, 1) := by decide +kernel
theorem d_Sh_bind_40 : decode m_Sh_bind.2.1 40 = .ok (.iload 4, 2) := by decide +kernel
theorem d_Sh_bind_42 : decode m_Sh_bind.2.1 42 = .ok (.iadd, 1) := by decide +kernel
theorem d_Sh_bind_43 : decode m_Sh_bind.2.1 43 = .ok (.iastore, 1) := by decide +kernel
theorem d_Sh_bind_44 : decode m_Sh_bind.2.1 44 = .ok (.iinc 5 1, 3) := by decide +kernel
theorem d_Sh_bind_47 : decode m_Sh_bind.2.1 47 = .ok (.goto (-44), 3) := by decide +kernel
theorem d_Sh_bind_50 : decode m_Sh_bind.2.1 50 = .ok (.return_, 1) := by decide +kernel
set_option maxHeartbeats 4000000 in
set_option maxRecDepth 100000 in
theorem B_Sh_bind_0 {S : XS} {Q : St → Prop} (σ : St) (x1 : Int32) (x2 : Int32) (x3 : Int32) (x4 : Int32) (H : BW S m_Sh_bind 3 [some (.ref 144), none, some (.int x2), some (.int x3), some (.int x4), some (.int x1), none] [] (enc σ) (qV Q)) : BW S m_Sh_bind 0 [some (.ref 144), some (.int x1), some (.int x2), some (.int x3), some (.int x4), none, none] [] (enc σ) (qV Q) := by
  refine b_iload_n d_Sh_bind_0 rfl rfl ?_
  refine b_istore (ls' := [some (.ref 144), some (.int x1), some (.int x2), some (.int x3), some (.int x4), some (.int x1), none]) d_Sh_bind_1 (Nat.le_of_ble_eq_true rfl) rfl ?_
  exact b_mask [true, false, true, true, true, true, true] rfl H
set_option maxHeartbeats 4000000 in
set_option maxRecDepth 100000 in
theorem B_Sh_bind_3 {S : XS} {Q : St → Prop} (σ : St) (x2 : Int32) (x3 : Int32) (x4 : Int32) (x5 : Int32) (H : ((x2 < x5 → Q σ) ∧ (¬ x2 < x5 → (((24 : Int32) ≤ x5 → Q σ) ∧ (¬ (24 : Int32) ≤ x5 → CM S m_TH_slot [.int x5, .int x3] (enc σ) (qI (fun v1 τ2 => CM S m_Sh_isSlot [.int v1] (enc τ2) (qI (fun v3 τ4 => ((v3 = 0 → BW S m_Sh_bind 3 [some (.ref 144), none, some (.int x2), some (.int x3), some (.int x4), some (.int (x5 + (1 : Int32))), none] [] (enc τ4) (qV Q)) ∧ (¬ v3 = 0 → (vp_in v1 96) ∧ BW S m_Sh_bind 3 [some (.ref 144), none, some (.int x2), some (.int x3), some (.int x4), some (.int (x5 + (1 : Int32))), none] [] (enc (sA τ4 16 (upd (gA τ4 16) v1.toNatClampNeg (((gA τ4 16) v1.toNatClampNeg) + x4)))) (qV Q)))))))))))) : BW S m_Sh_bind 3 [some (.ref 144), none, some (.int x2), some (.int x3), some (.int x4), some (.int x5), none] [] (enc σ) (qV Q) := by
  refine b_iload d_Sh_bind_3 rfl ?_
  refine b_iload_n d_Sh_bind_5 rfl rfl ?_
  refine b_icmp_gt (tgt := 50) d_Sh_bind_6 (by decide) (fun c8 => ?_) (fun c8 => ?_)
  · have H := H.1 c8
    exact b_vret d_Sh_bind_50 rfl ⟨_, rfl, rfl, H⟩
  · have H := H.2 c8
    refine b_iload d_Sh_bind_9 rfl ?_
    refine b_bipush (v := (24 : Int32)) d_Sh_bind_11 (by decide) ?_
    refine b_icmp_ge (tgt := 50) d_Sh_bind_13 (by decide) (fun c7 => ?_) (fun c7 => ?_)
    · have H := H.1 c7
      exact b_vret d_Sh_bind_50 rfl ⟨_, rfl, rfl, H⟩
    · have H := H.2 c7
      refine b_iload d_Sh_bind_16 rfl ?_
      refine b_iload_n d_Sh_bind_18 rfl rfl ?_
      refine b_callSNi (Mc := m_TH_slot) (As := [.int x5, .int x3]) (st := []) d_Sh_bind_19 ⟨⟨kA_TH_slot.1, kA_TH_slot.2.1, kA_TH_slot.2.2, by decide⟩, mn_Sh_57, kS_TH_slot⟩ rfl rfl (Nat.le_of_ble_eq_true rfl) H (fun v1 τ2 H => ?_)
      refine b_istore (ls' := [some (.ref 144), none, some (.int x2), some (.int x3), some (.int x4), some (.int x5), some (.int v1)]) d_Sh_bind_22 (Nat.le_of_ble_eq_true rfl) rfl ?_
      refine b_iload d_Sh_bind_24 rfl ?_
      refine b_callSi (Mc := m_Sh_isSlot) (As := [.int v1]) (st := []) d_Sh_bind_26 ⟨⟨kA_Sh_isSlot.1, kA_Sh_isSlot.2.1, kA_Sh_isSlot.2.2, by decide⟩, ml_Sh_41, kS_Sh_isSlot⟩ rfl rfl (Nat.le_of_ble_eq_true rfl) H (fun v3 τ4 H => ?_)
      refine b_if_eq (tgt := 44) d_Sh_bind_29 (by decide) (fun c6 => ?_) (fun c6 => ?_)
      · have H := H.1 c6
        refine b_iinc (v := (x5 + (1 : Int32))) (ls' := [some (.ref 144), none, some (.int x2), some (.int x3), some (.int x4), some (.int (x5 + (1 : Int32))), some (.int v1)]) d_Sh_bind_44 rfl rfl (Nat.le_of_ble_eq_true rfl) rfl ?_
        refine b_goto (tgt := 3) d_Sh_bind_47 (by decide) ?_
        exact b_mask [true, true, true, true, true, true, false] rfl H
      · have H := H.2 c6
        refine b_aload_n d_Sh_bind_32 rfl rfl ?_
        refine b_getf (v := .ref 148) d_Sh_bind_33 fl_Sh_21 (eg_144 τ4) rfl ?_
        refine b_iload d_Sh_bind_36 rfl ?_
        refine b_dup2 d_Sh_bind_38 rfl rfl ?_
        obtain ⟨h5, H⟩ := H
        refine b_iald d_Sh_bind_39 (eg_148 τ4) h5 ?_
        refine b_st2 (st' := [.int ((gA τ4 16) v1.toNatClampNeg), .int v1, .ref 148]) rfl ?_
        refine b_iload d_Sh_bind_40 rfl ?_
        refine b_iadd d_Sh_bind_42  ?_
        refine b_iast (h1 := enc (sA τ4 16 (upd (gA τ4 16) v1.toNatClampNeg (((gA τ4 16) v1.toNatClampNeg) + x4)))) d_Sh_bind_43 (eg_148 τ4) h5 (es_148 τ4 (upd (gA τ4 16) v1.toNatClampNeg (((gA τ4 16) v1.toNatClampNeg) + x4))) ?_
        refine b_iinc (v := (x5 + (1 : Int32))) (ls' := [some (.ref 144), none, some (.int x2), some (.int x3), some (.int x4), some (.int (x5 + (1 : Int32))), some (.int v1)]) d_Sh_bind_44 rfl rfl (Nat.le_of_ble_eq_true rfl) rfl ?_
        refine b_goto (tgt := 3) d_Sh_bind_47 (by decide) ?_
        exact b_mask [true, true, true, true, true, true, false] rfl H
theorem C_Sh_bind {S : XS} {Q : St → Prop} (σ : St) (x1 : Int32) (x2 : Int32) (x3 : Int32) (x4 : Int32) (H : BW S m_Sh_bind 0 [some (.ref 144), some (.int x1), some (.int x2), some (.int x3), some (.int x4), none, none] [] (enc σ) (qV Q)) : CM S m_Sh_bind [.ref 144, .int x1, .int x2, .int x3, .int x4] (enc σ) (qV Q) := b_meth (by decide) (Nat.le_of_ble_eq_true rfl) rfl H
theorem d_Sh_left_0 : decode m_Sh_left.2.1 0 = .ok (.iload_n 1, 1) := by decide +kernel
theorem d_Sh_left_1 : decode m_Sh_left.2.1 1 = .ok (.invokestatic 41, 3) := by decide +kernel
theorem d_Sh_left_4 : decode m_Sh_left.2.1 4 = .ok (.ifCond .eq 33, 3) := by decide +kernel
theorem d_Sh_left_7 : decode m_Sh_left.2.1 7 = .ok (.aload_n 0, 1) := by decide +kernel
theorem d_Sh_left_8 : decode m_Sh_left.2.1 8 = .ok (.getfield 11, 3) := by decide +kernel
theorem d_Sh_left_11 : decode m_Sh_left.2.1 11 = .ok (.iload_n 1, 1) := by decide +kernel
theorem d_Sh_left_12 : decode m_Sh_left.2.1 12 = .ok (.iaload, 1) := by decide +kernel
theorem d_Sh_left_13 : decode m_Sh_left.2.1 13 = .ok (.aload_n 0, 1) := by decide +kernel
theorem d_Sh_left_14 : decode m_Sh_left.2.1 14 = .ok (.getfield 15, 3) := by decide +kernel
theorem d_Sh_left_17 : decode m_Sh_left.2.1 17 = .ok (.iload_n 1, 1) := by decide +kernel
theorem d_Sh_left_18 : decode m_Sh_left.2.1 18 = .ok (.iaload, 1) := by decide +kernel
theorem d_Sh_left_19 : decode m_Sh_left.2.1 19 = .ok (.isub, 1) := by decide +kernel
theorem d_Sh_left_20 : decode m_Sh_left.2.1 20 = .ok (.aload_n 0, 1) := by decide +kernel
theorem d_Sh_left_21 : decode m_Sh_left.2.1 21 = .ok (.getfield 18, 3) := by decide +kernel
theorem d_Sh_left_24 : decode m_Sh_left.2.1 24 = .ok (.iload_n 1, 1) := by decide +kernel
theorem d_Sh_left_25 : decode m_Sh_left.2.1 25 = .ok (.iaload, 1) := by decide +kernel
theorem d_Sh_left_26 : decode m_Sh_left.2.1 26 = .ok (.isub, 1) := by decide +kernel
theorem d_Sh_left_27 : decode m_Sh_left.2.1 27 = .ok (.aload_n 0, 1) := by decide +kernel
theorem d_Sh_left_28 : decode m_Sh_left.2.1 28 = .ok (.getfield 21, 3) := by decide +kernel
theorem d_Sh_left_31 : decode m_Sh_left.2.1 31 = .ok (.iload_n 1, 1) := by decide +kernel
theorem d_Sh_left_32 : decode m_Sh_left.2.1 32 = .ok (.iaload, 1) := by decide +kernel
theorem d_Sh_left_33 : decode m_Sh_left.2.1 33 = .ok (.isub, 1) := by decide +kernel
theorem d_Sh_left_34 : decode m_Sh_left.2.1 34 = .ok (.goto 4, 3) := by decide +kernel
theorem d_Sh_left_37 : decode m_Sh_left.2.1 37 = .ok (.iconst 0, 1) := by decide +kernel
theorem d_Sh_left_38 : decode m_Sh_left.2.1 38 = .ok (.ireturn, 1) := by decide +kernel
set_option maxHeartbeats 4000000 in
set_option maxRecDepth 100000 in
theorem B_Sh_left_0 {S : XS} {Q : Int32 → St → Prop} (σ : St) (x1 : Int32) (H : CM S m_Sh_isSlot [.int x1] (enc σ) (qI (fun v1 τ2 => ((v1 = 0 → Q (0 : Int32) τ2) ∧ (¬ v1 = 0 → (vp_in x1 96) ∧ Q (((((gA τ2 13) x1.toNatClampNeg) - ((gA τ2 14) x1.toNatClampNeg)) - ((gA τ2 15) x1.toNatClampNeg)) - ((gA τ2 16) x1.toNatClampNeg)) τ2))))) : BW S m_Sh_left 0 [some (.ref 144), some (.int x1)] [] (enc σ) (qI Q) := by
  refine b_iload_n d_Sh_left_0 rfl rfl ?_
  refine b_callSi (Mc := m_Sh_isSlot) (As := [.int x1]) (st := []) d_Sh_left_1 ⟨⟨kA_Sh_isSlot.1, kA_Sh_isSlot.2.1, kA_Sh_isSlot.2.2, by decide⟩, ml_Sh_41, kS_Sh_isSlot⟩ rfl rfl (Nat.le_of_ble_eq_true rfl) H (fun v1 τ2 H => ?_)
  refine b_if_eq (tgt := 37) d_Sh_left_4 (by decide) (fun c4 => ?_) (fun c4 => ?_)
  · have H := H.1 c4
    refine b_iconst (v := (0 : Int32)) d_Sh_left_37 (by decide) ?_
    exact b_iret (ty := .int) d_Sh_left_38 rfl rfl ⟨_, _, rfl, rfl, H⟩
  · have H := H.2 c4
    refine b_aload_n d_Sh_left_7 rfl rfl ?_
    refine b_getf (v := .ref 145) d_Sh_left_8 fl_Sh_11 (eg_144 τ2) rfl ?_
    refine b_iload_n d_Sh_left_11 rfl rfl ?_
    obtain ⟨h3, H⟩ := H
    refine b_iald d_Sh_left_12 (eg_145 τ2) h3 ?_
    refine b_st2 (st' := [.int ((gA τ2 13) x1.toNatClampNeg)]) rfl ?_
    refine b_aload_n d_Sh_left_13 rfl rfl ?_
    refine b_getf (v := .ref 146) d_Sh_left_14 fl_Sh_15 (eg_144 τ2) rfl ?_
    refine b_iload_n d_Sh_left_17 rfl rfl ?_
    refine b_iald d_Sh_left_18 (eg_146 τ2) h3 ?_
    refine b_st2 (st' := [.int ((gA τ2 14) x1.toNatClampNeg), .int ((gA τ2 13) x1.toNatClampNeg)]) rfl ?_
    refine b_isub d_Sh_left_19  ?_
    refine b_aload_n d_Sh_left_20 rfl rfl ?_
    refine b_getf (v := .ref 147) d_Sh_left_21 fl_Sh_18 (eg_144 τ2) rfl ?_
    refine b_iload_n d_Sh_left_24 rfl rfl ?_
    refine b_iald d_Sh_left_25 (eg_147 τ2) h3 ?_
    refine b_st2 (st' := [.int ((gA τ2 15) x1.toNatClampNeg), .int (((gA τ2 13) x1.toNatClampNeg) - ((gA τ2 14) x1.toNatClampNeg))]) rfl ?_
    refine b_isub d_Sh_left_26  ?_
    refine b_aload_n d_Sh_left_27 rfl rfl ?_
    refine b_getf (v := .ref 148) d_Sh_left_28 fl_Sh_21 (eg_144 τ2) rfl ?_
    refine b_iload_n d_Sh_left_31 rfl rfl ?_
    refine b_iald d_Sh_left_32 (eg_148 τ2) h3 ?_
    refine b_st2 (st' := [.int ((gA τ2 16) x1.toNatClampNeg), .int ((((gA τ2 13) x1.toNatClampNeg) - ((gA τ2 14) x1.toNatClampNeg)) - ((gA τ2 15) x1.toNatClampNeg))]) rfl ?_
    refine b_isub d_Sh_left_33  ?_
    refine b_goto (tgt := 38) d_Sh_left_34 (by decide) ?_
    exact b_iret (ty := .int) d_Sh_left_38 rfl rfl ⟨_, _, rfl, rfl, H⟩
theorem C_Sh_left {S : XS} {Q : Int32 → St → Prop} (σ : St) (x1 : Int32) (H : BW S m_Sh_left 0 [some (.ref 144), some (.int x1)] [] (enc σ) (qI Q)) : CM S m_Sh_left [.ref 144, .int x1] (enc σ) (qI Q) := b_meth (by decide) (Nat.le_of_ble_eq_true rfl) rfl H
theorem d_Sh_isSlot_0 : decode m_Sh_isSlot.2.1 0 = .ok (.iload_n 0, 1) := by decide +kernel
theorem d_Sh_isSlot_1 : decode m_Sh_isSlot.2.1 1 = .ok (.ifCond .lt 13, 3) := by decide +kernel
theorem d_Sh_isSlot_4 : decode m_Sh_isSlot.2.1 4 = .ok (.iload_n 0, 1) := by decide +kernel
theorem d_Sh_isSlot_5 : decode m_Sh_isSlot.2.1 5 = .ok (.bipush 96, 2) := by decide +kernel
theorem d_Sh_isSlot_7 : decode m_Sh_isSlot.2.1 7 = .ok (.if_icmp .ge 7, 3) := by decide +kernel
theorem d_Sh_isSlot_10 : decode m_Sh_isSlot.2.1 10 = .ok (.iconst 1, 1) := by decide +kernel
theorem d_Sh_isSlot_11 : decode m_Sh_isSlot.2.1 11 = .ok (.goto 4, 3) := by decide +kernel
theorem d_Sh_isSlot_14 : decode m_Sh_isSlot.2.1 14 = .ok (.iconst 0, 1) := by decide +kernel
theorem d_Sh_isSlot_15 : decode m_Sh_isSlot.2.1 15 = .ok (.ireturn, 1) := by decide +kernel
set_option maxHeartbeats 4000000 in
set_option maxRecDepth 100000 in
theorem B_Sh_isSlot_0 {S : XS} {Q : Int32 → St → Prop} (σ : St) (x0 : Int32) (H : ((x0 < 0 → Q (0 : Int32) σ) ∧ (¬ x0 < 0 → (((96 : Int32) ≤ x0 → Q (0 : Int32) σ) ∧ (¬ (96 : Int32) ≤ x0 → Q (1 : Int32) σ))))) : BW S m_Sh_isSlot 0 [some (.int x0)] [] (enc σ) (qI Q) := by
  refine b_iload_n d_Sh_isSlot_0 rfl rfl ?_
  refine b_if_lt (tgt := 14) d_Sh_isSlot_1 (by decide) (fun c2 => ?_) (fun c2 => ?_)
  · have H := H.1 c2
    refine b_iconst (v := (0 : Int32)) d_Sh_isSlot_14 (by decide) ?_
    exact b_iret (ty := .boolean) d_Sh_isSlot_15 rfl rfl ⟨_, _, rfl, rfl, H⟩
  · have H := H.2 c2
    refine b_iload_n d_Sh_isSlot_4 rfl rfl ?_
    refine b_bipush (v := (96 : Int32)) d_Sh_isSlot_5 (by decide) ?_
    refine b_icmp_ge (tgt := 14) d_Sh_isSlot_7 (by decide) (fun c1 => ?_) (fun c1 => ?_)
    · have H := H.1 c1
      refine b_iconst (v := (0 : Int32)) d_Sh_isSlot_14 (by decide) ?_
      exact b_iret (ty := .boolean) d_Sh_isSlot_15 rfl rfl ⟨_, _, rfl, rfl, H⟩
    · have H := H.2 c1
      refine b_iconst (v := (1 : Int32)) d_Sh_isSlot_10 (by decide) ?_
      refine b_goto (tgt := 15) d_Sh_isSlot_11 (by decide) ?_
      exact b_iret (ty := .boolean) d_Sh_isSlot_15 rfl rfl ⟨_, _, rfl, rfl, H⟩
theorem C_Sh_isSlot {S : XS} {Q : Int32 → St → Prop} (σ : St) (x0 : Int32) (H : BW S m_Sh_isSlot 0 [some (.int x0)] [] (enc σ) (qI Q)) : CM S m_Sh_isSlot [.int x0] (enc σ) (qI Q) := b_meth (by decide) (Nat.le_of_ble_eq_true rfl) rfl H
