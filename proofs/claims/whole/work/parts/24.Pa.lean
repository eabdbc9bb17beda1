/-! block rules, by program -/
theorem d_Pa_haveEdition_0 : decode m_Pa_haveEdition.2.1 0 = .ok (.iload_n 1, 1) := by decide +kernel
theorem d_Pa_haveEdition_1 : decode m_Pa_haveEdition.2.1 1 = .ok (.invokestatic 18, 3) := by decide +kernel
theorem d_Pa_haveEdition_4 : decode m_Pa_haveEdition.2.1 4 = .ok (.ifCond .eq 21, 3) := by decide +kernel
theorem d_Pa_haveEdition_7 : decode m_Pa_haveEdition.2.1 7 = .ok (.iload_n 2, 1) := by decide +kernel
theorem d_Pa_haveEdition_8 : decode m_Pa_haveEdition.2.1 8 = .ok (.ifCond .lt 17, 3) := by decide +kernel
theorem d_Pa_haveEdition_11 : decode m_Pa_haveEdition.2.1 11 = .ok (.iload_n 2, 1) := by decide +kernel
theorem d_Pa_haveEdition_12 : decode m_Pa_haveEdition.2.1 12 = .ok (.aload_n 0, 1) := by decide +kernel
theorem d_Pa_haveEdition_13 : decode m_Pa_haveEdition.2.1 13 = .ok (.getfield 9, 3) := by decide +kernel
theorem d_Pa_haveEdition_16 : decode m_Pa_haveEdition.2.1 16 = .ok (.iload_n 1, 1) := by decide +kernel
theorem d_Pa_haveEdition_17 : decode m_Pa_haveEdition.2.1 17 = .ok (.iaload, 1) := by decide +kernel
theorem d_Pa_haveEdition_18 : decode m_Pa_haveEdition.2.1 18 = .ok (.if_icmp .gt 7, 3) := by decide +kernel
theorem d_Pa_haveEdition_21 : decode m_Pa_haveEdition.2.1 21 = .ok (.iconst 1, 1) := by decide +kernel
theorem d_Pa_haveEdition_22 : decode m_Pa_haveEdition.2.1 22 = .ok (.goto 4, 3) := by decide +kernel
theorem d_Pa_haveEdition_25 : decode m_Pa_haveEdition.2.1 25 = .ok (.iconst 0, 1) := by decide +kernel
theorem d_Pa_haveEdition_26 : decode m_Pa_haveEdition.2.1 26 = .ok (.ireturn, 1) := by decide +kernel
set_option maxHeartbeats 4000000 in
set_option maxRecDepth 100000 in
theorem B_Pa_haveEdition_0 {S : XS} {Q : Int32 → St → Prop} (σ : St) (x1 : Int32) (x2 : Int32) (H : CM S m_TH_isPart [.int x1] (enc σ) (qI (fun v1 τ2 => ((v1 = 0 → Q (0 : Int32) τ2) ∧ (¬ v1 = 0 → ((x2 < 0 → Q (0 : Int32) τ2) ∧ (¬ x2 < 0 → (vp_in x1 24) ∧ ((((gA τ2 9) x1.toNatClampNeg) < x2 → Q (0 : Int32) τ2) ∧ (¬ ((gA τ2 9) x1.toNatClampNeg) < x2 → Q (1 : Int32) τ2))))))))) : BW S m_Pa_haveEdition 0 [some (.ref 131), some (.int x1), some (.int x2)] [] (enc σ) (qI Q) := by
  refine b_iload_n d_Pa_haveEdition_0 rfl rfl ?_
  refine b_callSNi (Mc := m_TH_isPart) (As := [.int x1]) (st := []) d_Pa_haveEdition_1 ⟨⟨kA_TH_isPart.1, kA_TH_isPart.2.1, kA_TH_isPart.2.2, by decide⟩, mn_Pa_18, kS_TH_isPart⟩ rfl rfl (Nat.le_of_ble_eq_true rfl) H (fun v1 τ2 H => ?_)
  refine b_if_eq (tgt := 25) d_Pa_haveEdition_4 (by decide) (fun c6 => ?_) (fun c6 => ?_)
  · have H := H.1 c6
    refine b_iconst (v := (0 : Int32)) d_Pa_haveEdition_25 (by decide) ?_
    exact b_iret (ty := .boolean) d_Pa_haveEdition_26 rfl rfl ⟨_, _, rfl, rfl, H⟩
  · have H := H.2 c6
    refine b_iload_n d_Pa_haveEdition_7 rfl rfl ?_
    refine b_if_lt (tgt := 25) d_Pa_haveEdition_8 (by decide) (fun c5 => ?_) (fun c5 => ?_)
    · have H := H.1 c5
      refine b_iconst (v := (0 : Int32)) d_Pa_haveEdition_25 (by decide) ?_
      exact b_iret (ty := .boolean) d_Pa_haveEdition_26 rfl rfl ⟨_, _, rfl, rfl, H⟩
    · have H := H.2 c5
      refine b_iload_n d_Pa_haveEdition_11 rfl rfl ?_
      refine b_aload_n d_Pa_haveEdition_12 rfl rfl ?_
      refine b_getf (v := .ref 132) d_Pa_haveEdition_13 fl_Pa_9 (eg_131 τ2) rfl ?_
      refine b_iload_n d_Pa_haveEdition_16 rfl rfl ?_
      obtain ⟨h3, H⟩ := H
      refine b_iald d_Pa_haveEdition_17 (eg_132 τ2) h3 ?_
      refine b_st2 (st' := [.int ((gA τ2 9) x1.toNatClampNeg), .int x2]) rfl ?_
      refine b_icmp_gt (tgt := 25) d_Pa_haveEdition_18 (by decide) (fun c4 => ?_) (fun c4 => ?_)
      · have H := H.1 c4
        refine b_iconst (v := (0 : Int32)) d_Pa_haveEdition_25 (by decide) ?_
        exact b_iret (ty := .boolean) d_Pa_haveEdition_26 rfl rfl ⟨_, _, rfl, rfl, H⟩
      · have H := H.2 c4
        refine b_iconst (v := (1 : Int32)) d_Pa_haveEdition_21 (by decide) ?_
        refine b_goto (tgt := 26) d_Pa_haveEdition_22 (by decide) ?_
        exact b_iret (ty := .boolean) d_Pa_haveEdition_26 rfl rfl ⟨_, _, rfl, rfl, H⟩
theorem C_Pa_haveEdition {S : XS} {Q : Int32 → St → Prop} (σ : St) (x1 : Int32) (x2 : Int32) (H : BW S m_Pa_haveEdition 0 [some (.ref 131), some (.int x1), some (.int x2)] [] (enc σ) (qI Q)) : CM S m_Pa_haveEdition [.ref 131, .int x1, .int x2] (enc σ) (qI Q) := b_meth (by decide) (Nat.le_of_ble_eq_true rfl) rfl H
theorem d_Pa_allHaveEdition_0 : decode m_Pa_allHaveEdition.2.1 0 = .ok (.iload_n 1, 1) := by decide +kernel
theorem d_Pa_allHaveEdition_1 : decode m_Pa_allHaveEdition.2.1 1 = .ok (.invokestatic 18, 3) := by decide +kernel
theorem d_Pa_allHaveEdition_4 : decode m_Pa_allHaveEdition.2.1 4 = .ok (.ifCond .eq 15, 3) := by decide +kernel
theorem d_Pa_allHaveEdition_7 : decode m_Pa_allHaveEdition.2.1 7 = .ok (.iload_n 2, 1) := by decide +kernel
theorem d_Pa_allHaveEdition_8 : decode m_Pa_allHaveEdition.2.1 8 = .ok (.invokestatic 18, 3) := by decide +kernel
theorem d_Pa_allHaveEdition_11 : decode m_Pa_allHaveEdition.2.1 11 = .ok (.ifCond .eq 8, 3) := by decide +kernel
theorem d_Pa_allHaveEdition_14 : decode m_Pa_allHaveEdition.2.1 14 = .ok (.iload_n 1, 1) := by decide +kernel
theorem d_Pa_allHaveEdition_15 : decode m_Pa_allHaveEdition.2.1 15 = .ok (.iload_n 2, 1) := by decide +kernel
theorem d_Pa_allHaveEdition_16 : decode m_Pa_allHaveEdition.2.1 16 = .ok (.if_icmp .le 5, 3) := by decide +kernel
theorem d_Pa_allHaveEdition_19 : decode m_Pa_allHaveEdition.2.1 19 = .ok (.iconst 0, 1) := by decide +kernel
theorem d_Pa_allHaveEdition_20 : decode m_Pa_allHaveEdition.2.1 20 = .ok (.ireturn, 1) := by decide +kernel
theorem d_Pa_allHaveEdition_21 : decode m_Pa_allHaveEdition.2.1 21 = .ok (.iload_n 1, 1) := by decide +kernel
theorem d_Pa_allHaveEdition_22 : decode m_Pa_allHaveEdition.2.1 22 = .ok (.istore 4, 2) := by decide +kernel
theorem d_Pa_allHaveEdition_24 : decode m_Pa_allHaveEdition.2.1 24 = .ok (.iload 4, 2) := by decide +kernel
theorem d_Pa_allHaveEdition_26 : decode m_Pa_allHaveEdition.2.1 26 = .ok (.iload_n 2, 1) := by decide +kernel
theorem d_Pa_allHaveEdition_27 : decode m_Pa_allHaveEdition.2.1 27 = .ok (.if_icmp .gt 21, 3) := by decide +kernel
theorem d_Pa_allHaveEdition_30 : decode m_Pa_allHaveEdition.2.1 30 = .ok (.aload_n 0, 1) := by decide +kernel
theorem d_Pa_allHaveEdition_31 : decode m_Pa_allHaveEdition.2.1 31 = .ok (.iload 4, 2) := by decide +kernel
theorem d_Pa_allHaveEdition_33 : decode m_Pa_allHaveEdition.2.1 33 = .ok (.iload_n 3, 1) := by decide +kernel
theorem d_Pa_allHaveEdition_34 : decode m_Pa_allHaveEdition.2.1 34 = .ok (.invokevirtual 22, 3) := by decide +kernel
theorem d_Pa_allHaveEdition_37 : decode m_Pa_allHaveEdition.2.1 37 = .ok (.ifCond .ne 5, 3) := by decide +kernel
theorem d_Pa_allHaveEdition_40 : decode m_Pa_allHaveEdition.2.1 40 = .ok (.iconst 0, 1) := by decide +kernel
theorem d_Pa_allHaveEdition_41 : decode m_Pa_allHaveEdition.2.1 41 = .ok (.ireturn, 1) := by decide +kernel
theorem d_Pa_allHaveEdition_42 : decode m_Pa_allHaveEdition.2.1 42 = .ok (.iinc 4 1, 3) := by decide +kernel
theorem d_Pa_allHaveEdition_45 : decode m_Pa_allHaveEdition.2.1 45 = .ok (.goto (-21), 3) := by decide +kernel
theorem d_Pa_allHaveEdition_48 : decode m_Pa_allHaveEdition.2.1 48 = .ok (.iconst 1, 1) := by decide +kernel
theorem d_Pa_allHaveEdition_49 : decode m_Pa_allHaveEdition.2.1 49 = .ok (.ireturn, 1) := by decide +kernel
set_option maxHeartbeats 4000000 in
set_option maxRecDepth 100000 in
theorem B_Pa_allHaveEdition_0 {S : XS} {Q : Int32 → St → Prop} (σ : St) (x1 : Int32) (x2 : Int32) (x3 : Int32) (H : CM S m_TH_isPart [.int x1] (enc σ) (qI (fun v1 τ2 => ((v1 = 0 → Q (0 : Int32) τ2) ∧ (¬ v1 = 0 → CM S m_TH_isPart [.int x2] (enc τ2) (qI (fun v3 τ4 => ((v3 = 0 → Q (0 : Int32) τ4) ∧ (¬ v3 = 0 → ((x1 ≤ x2 → BW S m_Pa_allHaveEdition 24 [some (.ref 131), none, some (.int x2), some (.int x3), some (.int x1)] [] (enc τ4) (qI Q)) ∧ (¬ x1 ≤ x2 → Q (0 : Int32) τ4))))))))))) : BW S m_Pa_allHaveEdition 0 [some (.ref 131), some (.int x1), some (.int x2), some (.int x3), none] [] (enc σ) (qI Q) := by
  refine b_iload_n d_Pa_allHaveEdition_0 rfl rfl ?_
  refine b_callSNi (Mc := m_TH_isPart) (As := [.int x1]) (st := []) d_Pa_allHaveEdition_1 ⟨⟨kA_TH_isPart.1, kA_TH_isPart.2.1, kA_TH_isPart.2.2, by decide⟩, mn_Pa_18, kS_TH_isPart⟩ rfl rfl (Nat.le_of_ble_eq_true rfl) H (fun v1 τ2 H => ?_)
  refine b_if_eq (tgt := 19) d_Pa_allHaveEdition_4 (by decide) (fun c7 => ?_) (fun c7 => ?_)
  · have H := H.1 c7
    refine b_iconst (v := (0 : Int32)) d_Pa_allHaveEdition_19 (by decide) ?_
    exact b_iret (ty := .boolean) d_Pa_allHaveEdition_20 rfl rfl ⟨_, _, rfl, rfl, H⟩
  · have H := H.2 c7
    refine b_iload_n d_Pa_allHaveEdition_7 rfl rfl ?_
    refine b_callSNi (Mc := m_TH_isPart) (As := [.int x2]) (st := []) d_Pa_allHaveEdition_8 ⟨⟨kA_TH_isPart.1, kA_TH_isPart.2.1, kA_TH_isPart.2.2, by decide⟩, mn_Pa_18, kS_TH_isPart⟩ rfl rfl (Nat.le_of_ble_eq_true rfl) H (fun v3 τ4 H => ?_)
    refine b_if_eq (tgt := 19) d_Pa_allHaveEdition_11 (by decide) (fun c6 => ?_) (fun c6 => ?_)
    · have H := H.1 c6
      refine b_iconst (v := (0 : Int32)) d_Pa_allHaveEdition_19 (by decide) ?_
      exact b_iret (ty := .boolean) d_Pa_allHaveEdition_20 rfl rfl ⟨_, _, rfl, rfl, H⟩
    · have H := H.2 c6
      refine b_iload_n d_Pa_allHaveEdition_14 rfl rfl ?_
      refine b_iload_n d_Pa_allHaveEdition_15 rfl rfl ?_
      refine b_icmp_le (tgt := 21) d_Pa_allHaveEdition_16 (by decide) (fun c5 => ?_) (fun c5 => ?_)
      · have H := H.1 c5
        refine b_iload_n d_Pa_allHaveEdition_21 rfl rfl ?_
        refine b_istore (ls' := [some (.ref 131), some (.int x1), some (.int x2), some (.int x3), some (.int x1)]) d_Pa_allHaveEdition_22 (Nat.le_of_ble_eq_true rfl) rfl ?_
        exact b_mask [true, false, true, true, true] rfl H
      · have H := H.2 c5
        refine b_iconst (v := (0 : Int32)) d_Pa_allHaveEdition_19 (by decide) ?_
        exact b_iret (ty := .boolean) d_Pa_allHaveEdition_20 rfl rfl ⟨_, _, rfl, rfl, H⟩
set_option maxHeartbeats 4000000 in
set_option maxRecDepth 100000 in
theorem B_Pa_allHaveEdition_24 {S : XS} {Q : Int32 → St → Prop} (σ : St) (x2 : Int32) (x3 : Int32) (x4 : Int32) (H : ((x2 < x4 → Q (1 : Int32) σ) ∧ (¬ x2 < x4 → CM S m_Pa_haveEdition [.ref 131, .int x4, .int x3] (enc σ) (qI (fun v8 τ9 => ((¬ v8 = 0 → BW S m_Pa_allHaveEdition 24 [some (.ref 131), none, some (.int x2), some (.int x3), some (.int (x4 + (1 : Int32)))] [] (enc τ9) (qI Q)) ∧ (v8 = 0 → Q (0 : Int32) τ9))))))) : BW S m_Pa_allHaveEdition 24 [some (.ref 131), none, some (.int x2), some (.int x3), some (.int x4)] [] (enc σ) (qI Q) := by
  refine b_iload d_Pa_allHaveEdition_24 rfl ?_
  refine b_iload_n d_Pa_allHaveEdition_26 rfl rfl ?_
  refine b_icmp_gt (tgt := 48) d_Pa_allHaveEdition_27 (by decide) (fun c11 => ?_) (fun c11 => ?_)
  · have H := H.1 c11
    refine b_iconst (v := (1 : Int32)) d_Pa_allHaveEdition_48 (by decide) ?_
    exact b_iret (ty := .boolean) d_Pa_allHaveEdition_49 rfl rfl ⟨_, _, rfl, rfl, H⟩
  · have H := H.2 c11
    refine b_aload_n d_Pa_allHaveEdition_30 rfl rfl ?_
    refine b_iload d_Pa_allHaveEdition_31 rfl ?_
    refine b_iload_n d_Pa_allHaveEdition_33 rfl rfl ?_
    refine b_callVi (Mc := m_Pa_haveEdition) (As := [.int x4, .int x3]) (st := []) d_Pa_allHaveEdition_34 ⟨⟨kA_Pa_haveEdition.1, kA_Pa_haveEdition.2.1, kA_Pa_haveEdition.2.2, by decide⟩, ml_Pa_22, kV_Pa_haveEdition⟩ (eg_131 σ) rfl rfl (Nat.le_of_ble_eq_true rfl) H (fun v8 τ9 H => ?_)
    refine b_if_ne (tgt := 42) d_Pa_allHaveEdition_37 (by decide) (fun c10 => ?_) (fun c10 => ?_)
    · have H := H.1 c10
      refine b_iinc (v := (x4 + (1 : Int32))) (ls' := [some (.ref 131), none, some (.int x2), some (.int x3), some (.int (x4 + (1 : Int32)))]) d_Pa_allHaveEdition_42 rfl rfl (Nat.le_of_ble_eq_true rfl) rfl ?_
      refine b_goto (tgt := 24) d_Pa_allHaveEdition_45 (by decide) ?_
      exact b_mask [true, true, true, true, true] rfl H
    · have H := H.2 c10
      refine b_iconst (v := (0 : Int32)) d_Pa_allHaveEdition_40 (by decide) ?_
      exact b_iret (ty := .boolean) d_Pa_allHaveEdition_41 rfl rfl ⟨_, _, rfl, rfl, H⟩
theorem C_Pa_allHaveEdition {S : XS} {Q : Int32 → St → Prop} (σ : St) (x1 : Int32) (x2 : Int32) (x3 : Int32) (H : BW S m_Pa_allHaveEdition 0 [some (.ref 131), some (.int x1), some (.int x2), some (.int x3), none] [] (enc σ) (qI Q)) : CM S m_Pa_allHaveEdition [.ref 131, .int x1, .int x2, .int x3] (enc σ) (qI Q) := b_meth (by decide) (Nat.le_of_ble_eq_true rfl) rfl H
theorem d_Pa_lastEdition_0 : decode m_Pa_lastEdition.2.1 0 = .ok (.iload_n 1, 1) := by decide +kernel
theorem d_Pa_lastEdition_1 : decode m_Pa_lastEdition.2.1 1 = .ok (.invokestatic 18, 3) := by decide +kernel
theorem d_Pa_lastEdition_4 : decode m_Pa_lastEdition.2.1 4 = .ok (.ifCond .eq 12, 3) := by decide +kernel
theorem d_Pa_lastEdition_7 : decode m_Pa_lastEdition.2.1 7 = .ok (.aload_n 0, 1) := by decide +kernel
theorem d_Pa_lastEdition_8 : decode m_Pa_lastEdition.2.1 8 = .ok (.getfield 9, 3) := by decide +kernel
theorem d_Pa_lastEdition_11 : decode m_Pa_lastEdition.2.1 11 = .ok (.iload_n 1, 1) := by decide +kernel
theorem d_Pa_lastEdition_12 : decode m_Pa_lastEdition.2.1 12 = .ok (.iaload, 1) := by decide +kernel
theorem d_Pa_lastEdition_13 : decode m_Pa_lastEdition.2.1 13 = .ok (.goto 4, 3) := by decide +kernel
theorem d_Pa_lastEdition_16 : decode m_Pa_lastEdition.2.1 16 = .ok (.iconst (-1), 1) := by decide +kernel
theorem d_Pa_lastEdition_17 : decode m_Pa_lastEdition.2.1 17 = .ok (.ireturn, 1) := by decide +kernel
set_option maxHeartbeats 4000000 in
set_option maxRecDepth 100000 in
theorem B_Pa_lastEdition_0 {S : XS} {Q : Int32 → St → Prop} (σ : St) (x1 : Int32) (H : CM S m_TH_isPart [.int x1] (enc σ) (qI (fun v1 τ2 => ((v1 = 0 → Q (-1 : Int32) τ2) ∧ (¬ v1 = 0 → (vp_in x1 24) ∧ Q ((gA τ2 9) x1.toNatClampNeg) τ2))))) : BW S m_Pa_lastEdition 0 [some (.ref 131), some (.int x1)] [] (enc σ) (qI Q) := by
  refine b_iload_n d_Pa_lastEdition_0 rfl rfl ?_
  refine b_callSNi (Mc := m_TH_isPart) (As := [.int x1]) (st := []) d_Pa_lastEdition_1 ⟨⟨kA_TH_isPart.1, kA_TH_isPart.2.1, kA_TH_isPart.2.2, by decide⟩, mn_Pa_18, kS_TH_isPart⟩ rfl rfl (Nat.le_of_ble_eq_true rfl) H (fun v1 τ2 H => ?_)
  refine b_if_eq (tgt := 16) d_Pa_lastEdition_4 (by decide) (fun c4 => ?_) (fun c4 => ?_)
  · have H := H.1 c4
    refine b_iconst (v := (-1 : Int32)) d_Pa_lastEdition_16 (by decide) ?_
    exact b_iret (ty := .int) d_Pa_lastEdition_17 rfl rfl ⟨_, _, rfl, rfl, H⟩
  · have H := H.2 c4
    refine b_aload_n d_Pa_lastEdition_7 rfl rfl ?_
    refine b_getf (v := .ref 132) d_Pa_lastEdition_8 fl_Pa_9 (eg_131 τ2) rfl ?_
    refine b_iload_n d_Pa_lastEdition_11 rfl rfl ?_
    obtain ⟨h3, H⟩ := H
    refine b_iald d_Pa_lastEdition_12 (eg_132 τ2) h3 ?_
    refine b_st2 (st' := [.int ((gA τ2 9) x1.toNatClampNeg)]) rfl ?_
    refine b_goto (tgt := 17) d_Pa_lastEdition_13 (by decide) ?_
    exact b_iret (ty := .int) d_Pa_lastEdition_17 rfl rfl ⟨_, _, rfl, rfl, H⟩
theorem C_Pa_lastEdition {S : XS} {Q : Int32 → St → Prop} (σ : St) (x1 : Int32) (H : BW S m_Pa_lastEdition 0 [some (.ref 131), some (.int x1)] [] (enc σ) (qI Q)) : CM S m_Pa_lastEdition [.ref 131, .int x1] (enc σ) (qI Q) := b_meth (by decide) (Nat.le_of_ble_eq_true rfl) rfl H
theorem d_Pa_addEdition_0 : decode m_Pa_addEdition.2.1 0 = .ok (.iload_n 1, 1) := by decide +kernel
theorem d_Pa_addEdition_1 : decode m_Pa_addEdition.2.1 1 = .ok (.invokestatic 18, 3) := by decide +kernel
theorem d_Pa_addEdition_4 : decode m_Pa_addEdition.2.1 4 = .ok (.ifCond .eq 13, 3) := by decide +kernel
theorem d_Pa_addEdition_7 : decode m_Pa_addEdition.2.1 7 = .ok (.aload_n 0, 1) := by decide +kernel
theorem d_Pa_addEdition_8 : decode m_Pa_addEdition.2.1 8 = .ok (.getfield 9, 3) := by decide +kernel
theorem d_Pa_addEdition_11 : decode m_Pa_addEdition.2.1 11 = .ok (.iload_n 1, 1) := by decide +kernel
theorem d_Pa_addEdition_12 : decode m_Pa_addEdition.2.1 12 = .ok (.iaload, 1) := by decide +kernel
theorem d_Pa_addEdition_13 : decode m_Pa_addEdition.2.1 13 = .ok (.iconst 3, 1) := by decide +kernel
theorem d_Pa_addEdition_14 : decode m_Pa_addEdition.2.1 14 = .ok (.if_icmp .lt 5, 3) := by decide +kernel
theorem d_Pa_addEdition_17 : decode m_Pa_addEdition.2.1 17 = .ok (.iconst (-1), 1) := by decide +kernel
theorem d_Pa_addEdition_18 : decode m_Pa_addEdition.2.1 18 = .ok (.ireturn, 1) := by decide +kernel
theorem d_Pa_addEdition_19 : decode m_Pa_addEdition.2.1 19 = .ok (.aload_n 0, 1) := by decide +kernel
theorem d_Pa_addEdition_20 : decode m_Pa_addEdition.2.1 20 = .ok (.getfield 9, 3) := by decide +kernel
theorem d_Pa_addEdition_23 : decode m_Pa_addEdition.2.1 23 = .ok (.iload_n 1, 1) := by decide +kernel
theorem d_Pa_addEdition_24 : decode m_Pa_addEdition.2.1 24 = .ok (.dup2, 1) := by decide +kernel
theorem d_Pa_addEdition_25 : decode m_Pa_addEdition.2.1 25 = .ok (.iaload, 1) := by decide +kernel
theorem d_Pa_addEdition_26 : decode m_Pa_addEdition.2.1 26 = .ok (.iconst 1, 1) := by decide +kernel
theorem d_Pa_addEdition_27 : decode m_Pa_addEdition.2.1 27 = .ok (.iadd, 1) := by decide +kernel
theorem d_Pa_addEdition_28 : decode m_Pa_addEdition.2.1 28 = .ok (.iastore, 1) := by decide +kernel
theorem d_Pa_addEdition_29 : decode m_Pa_addEdition.2.1 29 = .ok (.aload_n 0, 1) := by decide +kernel
theorem d_Pa_addEdition_30 : decode m_Pa_addEdition.2.1 30 = .ok (.getfield 9, 3) := by decide +kernel
theorem d_Pa_addEdition_33 : decode m_Pa_addEdition.2.1 33 = .ok (.iload_n 1, 1) := by decide +kernel
theorem d_Pa_addEdition_34 : decode m_Pa_addEdition.2.1 34 = .ok (.iaload, 1) := by decide +kernel
theorem d_Pa_addEdition_35 : decode m_Pa_addEdition.2.1 35 = .ok (.ireturn, 1) := by decide +kernel
set_option maxHeartbeats 4000000 in
set_option maxRecDepth 100000 in
theorem B_Pa_addEdition_0 {S : XS} {Q : Int32 → St → Prop} (σ : St) (x1 : Int32) (H : CM S m_TH_isPart [.int x1] (enc σ) (qI (fun v1 τ2 => ((v1 = 0 → Q (-1 : Int32) τ2) ∧ (¬ v1 = 0 → (vp_in x1 24) ∧ ((((gA τ2 9) x1.toNatClampNeg) < (3 : Int32) → Q ((upd (gA τ2 9) x1.toNatClampNeg (((gA τ2 9) x1.toNatClampNeg) + (1 : Int32))) x1.toNatClampNeg) (sA τ2 9 (upd (gA τ2 9) x1.toNatClampNeg (((gA τ2 9) x1.toNatClampNeg) + (1 : Int32))))) ∧ (¬ ((gA τ2 9) x1.toNatClampNeg) < (3 : Int32) → Q (-1 : Int32) τ2))))))) : BW S m_Pa_addEdition 0 [some (.ref 131), some (.int x1)] [] (enc σ) (qI Q) := by
  refine b_iload_n d_Pa_addEdition_0 rfl rfl ?_
  refine b_callSNi (Mc := m_TH_isPart) (As := [.int x1]) (st := []) d_Pa_addEdition_1 ⟨⟨kA_TH_isPart.1, kA_TH_isPart.2.1, kA_TH_isPart.2.2, by decide⟩, mn_Pa_18, kS_TH_isPart⟩ rfl rfl (Nat.le_of_ble_eq_true rfl) H (fun v1 τ2 H => ?_)
  refine b_if_eq (tgt := 17) d_Pa_addEdition_4 (by decide) (fun c5 => ?_) (fun c5 => ?_)
  · have H := H.1 c5
    refine b_iconst (v := (-1 : Int32)) d_Pa_addEdition_17 (by decide) ?_
    exact b_iret (ty := .int) d_Pa_addEdition_18 rfl rfl ⟨_, _, rfl, rfl, H⟩
  · have H := H.2 c5
    refine b_aload_n d_Pa_addEdition_7 rfl rfl ?_
    refine b_getf (v := .ref 132) d_Pa_addEdition_8 fl_Pa_9 (eg_131 τ2) rfl ?_
    refine b_iload_n d_Pa_addEdition_11 rfl rfl ?_
    obtain ⟨h3, H⟩ := H
    refine b_iald d_Pa_addEdition_12 (eg_132 τ2) h3 ?_
    refine b_st2 (st' := [.int ((gA τ2 9) x1.toNatClampNeg)]) rfl ?_
    refine b_iconst (v := (3 : Int32)) d_Pa_addEdition_13 (by decide) ?_
    refine b_icmp_lt (tgt := 19) d_Pa_addEdition_14 (by decide) (fun c4 => ?_) (fun c4 => ?_)
    · have H := H.1 c4
      refine b_aload_n d_Pa_addEdition_19 rfl rfl ?_
      refine b_getf (v := .ref 132) d_Pa_addEdition_20 fl_Pa_9 (eg_131 τ2) rfl ?_
      refine b_iload_n d_Pa_addEdition_23 rfl rfl ?_
      refine b_dup2 d_Pa_addEdition_24 rfl rfl ?_
      refine b_iald d_Pa_addEdition_25 (eg_132 τ2) h3 ?_
      refine b_st2 (st' := [.int ((gA τ2 9) x1.toNatClampNeg), .int x1, .ref 132]) rfl ?_
      refine b_iconst (v := (1 : Int32)) d_Pa_addEdition_26 (by decide) ?_
      refine b_iadd d_Pa_addEdition_27  ?_
      refine b_iast (h1 := enc (sA τ2 9 (upd (gA τ2 9) x1.toNatClampNeg (((gA τ2 9) x1.toNatClampNeg) + (1 : Int32))))) d_Pa_addEdition_28 (eg_132 τ2) h3 (es_132 τ2 (upd (gA τ2 9) x1.toNatClampNeg (((gA τ2 9) x1.toNatClampNeg) + (1 : Int32)))) ?_
      refine b_aload_n d_Pa_addEdition_29 rfl rfl ?_
      refine b_getf (v := .ref 132) d_Pa_addEdition_30 fl_Pa_9 (eg_131 (sA τ2 9 (upd (gA τ2 9) x1.toNatClampNeg (((gA τ2 9) x1.toNatClampNeg) + (1 : Int32))))) rfl ?_
      refine b_iload_n d_Pa_addEdition_33 rfl rfl ?_
      refine b_iald d_Pa_addEdition_34 (eg_132 (sA τ2 9 (upd (gA τ2 9) x1.toNatClampNeg (((gA τ2 9) x1.toNatClampNeg) + (1 : Int32))))) h3 ?_
      refine b_st2 (st' := [.int ((upd (gA τ2 9) x1.toNatClampNeg (((gA τ2 9) x1.toNatClampNeg) + (1 : Int32))) x1.toNatClampNeg)]) rfl ?_
      exact b_iret (ty := .int) d_Pa_addEdition_35 rfl rfl ⟨_, _, rfl, rfl, H⟩
    · have H := H.2 c4
      refine b_iconst (v := (-1 : Int32)) d_Pa_addEdition_17 (by decide) ?_
      exact b_iret (ty := .int) d_Pa_addEdition_18 rfl rfl ⟨_, _, rfl, rfl, H⟩
theorem C_Pa_addEdition {S : XS} {Q : Int32 → St → Prop} (σ : St) (x1 : Int32) (H : BW S m_Pa_addEdition 0 [some (.ref 131), some (.int x1)] [] (enc σ) (qI Q)) : CM S m_Pa_addEdition [.ref 131, .int x1] (enc σ) (qI Q) := b_meth (by decide) (Nat.le_of_ble_eq_true rfl) rfl H
theorem d_Pa_beginOn_0 : decode m_Pa_beginOn.2.1 0 = .ok (.iload_n 1, 1) := by decide +kernel
theorem d_Pa_beginOn_1 : decode m_Pa_beginOn.2.1 1 = .ok (.ifCond .lt 17, 3) := by decide +kernel
theorem d_Pa_beginOn_4 : decode m_Pa_beginOn.2.1 4 = .ok (.iload_n 1, 1) := by decide +kernel
theorem d_Pa_beginOn_5 : decode m_Pa_beginOn.2.1 5 = .ok (.sipush 20000, 3) := by decide +kernel
theorem d_Pa_beginOn_8 : decode m_Pa_beginOn.2.1 8 = .ok (.if_icmp .gt 10, 3) := by decide +kernel
theorem d_Pa_beginOn_11 : decode m_Pa_beginOn.2.1 11 = .ok (.aload_n 0, 1) := by decide +kernel
theorem d_Pa_beginOn_12 : decode m_Pa_beginOn.2.1 12 = .ok (.getfield 26, 3) := by decide +kernel
theorem d_Pa_beginOn_15 : decode m_Pa_beginOn.2.1 15 = .ok (.ifCond .le 5, 3) := by decide +kernel
theorem d_Pa_beginOn_18 : decode m_Pa_beginOn.2.1 18 = .ok (.iconst 0, 1) := by decide +kernel
theorem d_Pa_beginOn_19 : decode m_Pa_beginOn.2.1 19 = .ok (.ireturn, 1) := by decide +kernel
theorem d_Pa_beginOn_20 : decode m_Pa_beginOn.2.1 20 = .ok (.aload_n 0, 1) := by decide +kernel
theorem d_Pa_beginOn_21 : decode m_Pa_beginOn.2.1 21 = .ok (.iload_n 1, 1) := by decide +kernel
theorem d_Pa_beginOn_22 : decode m_Pa_beginOn.2.1 22 = .ok (.putfield 30, 3) := by decide +kernel
theorem d_Pa_beginOn_25 : decode m_Pa_beginOn.2.1 25 = .ok (.iconst 1, 1) := by decide +kernel
theorem d_Pa_beginOn_26 : decode m_Pa_beginOn.2.1 26 = .ok (.ireturn, 1) := by decide +kernel
set_option maxHeartbeats 4000000 in
set_option maxRecDepth 100000 in
theorem B_Pa_beginOn_0 {S : XS} {Q : Int32 → St → Prop} (σ : St) (x1 : Int32) (H : ((x1 < 0 → Q (0 : Int32) σ) ∧ (¬ x1 < 0 → (((20000 : Int32) < x1 → Q (0 : Int32) σ) ∧ (¬ (20000 : Int32) < x1 → (((gX σ 13) ≤ 0 → Q (1 : Int32) (sX σ 14 x1)) ∧ (¬ (gX σ 13) ≤ 0 → Q (0 : Int32) σ))))))) : BW S m_Pa_beginOn 0 [some (.ref 131), some (.int x1)] [] (enc σ) (qI Q) := by
  refine b_iload_n d_Pa_beginOn_0 rfl rfl ?_
  refine b_if_lt (tgt := 18) d_Pa_beginOn_1 (by decide) (fun c3 => ?_) (fun c3 => ?_)
  · have H := H.1 c3
    refine b_iconst (v := (0 : Int32)) d_Pa_beginOn_18 (by decide) ?_
    exact b_iret (ty := .boolean) d_Pa_beginOn_19 rfl rfl ⟨_, _, rfl, rfl, H⟩
  · have H := H.2 c3
    refine b_iload_n d_Pa_beginOn_4 rfl rfl ?_
    refine b_sipush (v := (20000 : Int32)) d_Pa_beginOn_5 (by decide) ?_
    refine b_icmp_gt (tgt := 18) d_Pa_beginOn_8 (by decide) (fun c2 => ?_) (fun c2 => ?_)
    · have H := H.1 c2
      refine b_iconst (v := (0 : Int32)) d_Pa_beginOn_18 (by decide) ?_
      exact b_iret (ty := .boolean) d_Pa_beginOn_19 rfl rfl ⟨_, _, rfl, rfl, H⟩
    · have H := H.2 c2
      refine b_aload_n d_Pa_beginOn_11 rfl rfl ?_
      refine b_getf (v := .int (gX σ 13)) d_Pa_beginOn_12 fl_Pa_26 (eg_131 σ) rfl ?_
      refine b_if_le (tgt := 20) d_Pa_beginOn_15 (by decide) (fun c1 => ?_) (fun c1 => ?_)
      · have H := H.1 c1
        refine b_aload_n d_Pa_beginOn_20 rfl rfl ?_
        refine b_iload_n d_Pa_beginOn_21 rfl rfl ?_
        refine b_putf (ty := .int) (h1 := enc (sX σ 14 x1)) d_Pa_beginOn_22 fl_Pa_30 ft_7_3 (fun _ => ⟨rfl, rfl⟩) (eg_131 σ) (Nat.le_of_ble_eq_true rfl) (es_131_3 σ x1) ?_
        refine b_iconst (v := (1 : Int32)) d_Pa_beginOn_25 (by decide) ?_
        exact b_iret (ty := .boolean) d_Pa_beginOn_26 rfl rfl ⟨_, _, rfl, rfl, H⟩
      · have H := H.2 c1
        refine b_iconst (v := (0 : Int32)) d_Pa_beginOn_18 (by decide) ?_
        exact b_iret (ty := .boolean) d_Pa_beginOn_19 rfl rfl ⟨_, _, rfl, rfl, H⟩
theorem C_Pa_beginOn {S : XS} {Q : Int32 → St → Prop} (σ : St) (x1 : Int32) (H : BW S m_Pa_beginOn 0 [some (.ref 131), some (.int x1)] [] (enc σ) (qI Q)) : CM S m_Pa_beginOn [.ref 131, .int x1] (enc σ) (qI Q) := b_meth (by decide) (Nat.le_of_ble_eq_true rfl) rfl H
theorem d_Pa_arrive_0 : decode m_Pa_arrive.2.1 0 = .ok (.iload_n 1, 1) := by decide +kernel
theorem d_Pa_arrive_1 : decode m_Pa_arrive.2.1 1 = .ok (.invokestatic 18, 3) := by decide +kernel
theorem d_Pa_arrive_4 : decode m_Pa_arrive.2.1 4 = .ok (.ifCond .eq 22, 3) := by decide +kernel
theorem d_Pa_arrive_7 : decode m_Pa_arrive.2.1 7 = .ok (.iload_n 1, 1) := by decide +kernel
theorem d_Pa_arrive_8 : decode m_Pa_arrive.2.1 8 = .ok (.aload_n 0, 1) := by decide +kernel
theorem d_Pa_arrive_9 : decode m_Pa_arrive.2.1 9 = .ok (.getfield 26, 3) := by decide +kernel
theorem d_Pa_arrive_12 : decode m_Pa_arrive.2.1 12 = .ok (.if_icmp .ne 14, 3) := by decide +kernel
theorem d_Pa_arrive_15 : decode m_Pa_arrive.2.1 15 = .ok (.iload_n 2, 1) := by decide +kernel
theorem d_Pa_arrive_16 : decode m_Pa_arrive.2.1 16 = .ok (.ifCond .lt 10, 3) := by decide +kernel
theorem d_Pa_arrive_19 : decode m_Pa_arrive.2.1 19 = .ok (.iload_n 2, 1) := by decide +kernel
theorem d_Pa_arrive_20 : decode m_Pa_arrive.2.1 20 = .ok (.sipush 30000, 3) := by decide +kernel
theorem d_Pa_arrive_23 : decode m_Pa_arrive.2.1 23 = .ok (.if_icmp .le 5, 3) := by decide +kernel
theorem d_Pa_arrive_26 : decode m_Pa_arrive.2.1 26 = .ok (.iconst (-1), 1) := by decide +kernel
theorem d_Pa_arrive_27 : decode m_Pa_arrive.2.1 27 = .ok (.ireturn, 1) := by decide +kernel
theorem d_Pa_arrive_28 : decode m_Pa_arrive.2.1 28 = .ok (.iload_n 1, 1) := by decide +kernel
theorem d_Pa_arrive_29 : decode m_Pa_arrive.2.1 29 = .ok (.ifCond .le 17, 3) := by decide +kernel
theorem d_Pa_arrive_32 : decode m_Pa_arrive.2.1 32 = .ok (.aload_n 0, 1) := by decide +kernel
theorem d_Pa_arrive_33 : decode m_Pa_arrive.2.1 33 = .ok (.getfield 15, 3) := by decide +kernel
theorem d_Pa_arrive_36 : decode m_Pa_arrive.2.1 36 = .ok (.iload_n 1, 1) := by decide +kernel
theorem d_Pa_arrive_37 : decode m_Pa_arrive.2.1 37 = .ok (.iconst 1, 1) := by decide +kernel
theorem d_Pa_arrive_38 : decode m_Pa_arrive.2.1 38 = .ok (.isub, 1) := by decide +kernel
theorem d_Pa_arrive_39 : decode m_Pa_arrive.2.1 39 = .ok (.iaload, 1) := by decide +kernel
theorem d_Pa_arrive_40 : decode m_Pa_arrive.2.1 40 = .ok (.iload_n 2, 1) := by decide +kernel
theorem d_Pa_arrive_41 : decode m_Pa_arrive.2.1 41 = .ok (.if_icmp .le 5, 3) := by decide +kernel
theorem d_Pa_arrive_44 : decode m_Pa_arrive.2.1 44 = .ok (.iconst (-1), 1) := by decide +kernel
theorem d_Pa_arrive_45 : decode m_Pa_arrive.2.1 45 = .ok (.ireturn, 1) := by decide +kernel
theorem d_Pa_arrive_46 : decode m_Pa_arrive.2.1 46 = .ok (.aload_n 0, 1) := by decide +kernel
theorem d_Pa_arrive_47 : decode m_Pa_arrive.2.1 47 = .ok (.getfield 15, 3) := by decide +kernel
theorem d_Pa_arrive_50 : decode m_Pa_arrive.2.1 50 = .ok (.iload_n 1, 1) := by decide +kernel
theorem d_Pa_arrive_51 : decode m_Pa_arrive.2.1 51 = .ok (.iload_n 2, 1) := by decide +kernel
theorem d_Pa_arrive_52 : decode m_Pa_arrive.2.1 52 = .ok (.iastore, 1) := by decide +kernel
theorem d_Pa_arrive_53 : decode m_Pa_arrive.2.1 53 = .ok (.aload_n 0, 1) := by decide +kernel
theorem d_Pa_arrive_54 : decode m_Pa_arrive.2.1 54 = .ok (.dup, 1) := by decide +kernel
theorem d_Pa_arrive_55 : decode m_Pa_arrive.2.1 55 = .ok (.getfield 26, 3) := by decide +kernel
theorem d_Pa_arrive_58 : decode m_Pa_arrive.2.1 58 = .ok (.iconst 1, 1) := by decide +kernel
theorem d_Pa_arrive_59 : decode m_Pa_arrive.2.1 59 = .ok (.iadd, 1) := by decide +kernel
theorem d_Pa_arrive_60 : decode m_Pa_arrive.2.1 60 = .ok (.putfield 26, 3) := by decide +kernel
theorem d_Pa_arrive_63 : decode m_Pa_arrive.2.1 63 = .ok (.aload_n 0, 1) := by decide +kernel
theorem d_Pa_arrive_64 : decode m_Pa_arrive.2.1 64 = .ok (.iload_n 1, 1) := by decide +kernel
theorem d_Pa_arrive_65 : decode m_Pa_arrive.2.1 65 = .ok (.invokevirtual 33, 3) := by decide +kernel
theorem d_Pa_arrive_68 : decode m_Pa_arrive.2.1 68 = .ok (.ireturn, 1) := by decide +kernel
set_option maxHeartbeats 4000000 in
set_option maxRecDepth 100000 in
theorem B_Pa_arrive_0 {S : XS} {Q : Int32 → St → Prop} (σ : St) (x1 : Int32) (x2 : Int32) (H : CM S m_TH_isPart [.int x1] (enc σ) (qI (fun v1 τ2 => ((v1 = 0 → Q (-1 : Int32) τ2) ∧ (¬ v1 = 0 → ((¬ x1 = (gX τ2 13) → Q (-1 : Int32) τ2) ∧ (x1 = (gX τ2 13) → ((x2 < 0 → Q (-1 : Int32) τ2) ∧ (¬ x2 < 0 → ((x2 ≤ (30000 : Int32) → ((x1 ≤ 0 → (vp_in x1 24) ∧ CM S m_Pa_daysLate [.ref 131, .int x1] (enc (sX (sA τ2 10 (upd (gA τ2 10) x1.toNatClampNeg x2)) 13 ((gX τ2 13) + (1 : Int32)))) (qI (fun v4 τ5 => Q v4 τ5))) ∧ (¬ x1 ≤ 0 → (vp_in (x1 - (1 : Int32)) 24) ∧ ((((gA τ2 10) (x1 - (1 : Int32)).toNatClampNeg) ≤ x2 → (vp_in x1 24) ∧ CM S m_Pa_daysLate [.ref 131, .int x1] (enc (sX (sA τ2 10 (upd (gA τ2 10) x1.toNatClampNeg x2)) 13 ((gX τ2 13) + (1 : Int32)))) (qI (fun v8 τ9 => Q v8 τ9))) ∧ (¬ ((gA τ2 10) (x1 - (1 : Int32)).toNatClampNeg) ≤ x2 → Q (-1 : Int32) τ2))))) ∧ (¬ x2 ≤ (30000 : Int32) → Q (-1 : Int32) τ2))))))))))) : BW S m_Pa_arrive 0 [some (.ref 131), some (.int x1), some (.int x2)] [] (enc σ) (qI Q) := by
  refine b_iload_n d_Pa_arrive_0 rfl rfl ?_
  refine b_callSNi (Mc := m_TH_isPart) (As := [.int x1]) (st := []) d_Pa_arrive_1 ⟨⟨kA_TH_isPart.1, kA_TH_isPart.2.1, kA_TH_isPart.2.2, by decide⟩, mn_Pa_18, kS_TH_isPart⟩ rfl rfl (Nat.le_of_ble_eq_true rfl) H (fun v1 τ2 H => ?_)
  refine b_if_eq (tgt := 26) d_Pa_arrive_4 (by decide) (fun c15 => ?_) (fun c15 => ?_)
  · have H := H.1 c15
    refine b_iconst (v := (-1 : Int32)) d_Pa_arrive_26 (by decide) ?_
    exact b_iret (ty := .int) d_Pa_arrive_27 rfl rfl ⟨_, _, rfl, rfl, H⟩
  · have H := H.2 c15
    refine b_iload_n d_Pa_arrive_7 rfl rfl ?_
    refine b_aload_n d_Pa_arrive_8 rfl rfl ?_
    refine b_getf (v := .int (gX τ2 13)) d_Pa_arrive_9 fl_Pa_26 (eg_131 τ2) rfl ?_
    refine b_icmp_ne (tgt := 26) d_Pa_arrive_12 (by decide) (fun c14 => ?_) (fun c14 => ?_)
    · have H := H.1 c14
      refine b_iconst (v := (-1 : Int32)) d_Pa_arrive_26 (by decide) ?_
      exact b_iret (ty := .int) d_Pa_arrive_27 rfl rfl ⟨_, _, rfl, rfl, H⟩
    · have H := H.2 c14
      refine b_iload_n d_Pa_arrive_15 rfl rfl ?_
      refine b_if_lt (tgt := 26) d_Pa_arrive_16 (by decide) (fun c13 => ?_) (fun c13 => ?_)
      · have H := H.1 c13
        refine b_iconst (v := (-1 : Int32)) d_Pa_arrive_26 (by decide) ?_
        exact b_iret (ty := .int) d_Pa_arrive_27 rfl rfl ⟨_, _, rfl, rfl, H⟩
      · have H := H.2 c13
        refine b_iload_n d_Pa_arrive_19 rfl rfl ?_
        refine b_sipush (v := (30000 : Int32)) d_Pa_arrive_20 (by decide) ?_
        refine b_icmp_le (tgt := 28) d_Pa_arrive_23 (by decide) (fun c12 => ?_) (fun c12 => ?_)
        · have H := H.1 c12
          refine b_iload_n d_Pa_arrive_28 rfl rfl ?_
          refine b_if_le (tgt := 46) d_Pa_arrive_29 (by decide) (fun c11 => ?_) (fun c11 => ?_)
          · have H := H.1 c11
            refine b_aload_n d_Pa_arrive_46 rfl rfl ?_
            refine b_getf (v := .ref 133) d_Pa_arrive_47 fl_Pa_15 (eg_131 τ2) rfl ?_
            refine b_iload_n d_Pa_arrive_50 rfl rfl ?_
            refine b_iload_n d_Pa_arrive_51 rfl rfl ?_
            obtain ⟨h3, H⟩ := H
            refine b_iast (h1 := enc (sA τ2 10 (upd (gA τ2 10) x1.toNatClampNeg x2))) d_Pa_arrive_52 (eg_133 τ2) h3 (es_133 τ2 (upd (gA τ2 10) x1.toNatClampNeg x2)) ?_
            refine b_aload_n d_Pa_arrive_53 rfl rfl ?_
            refine b_dup d_Pa_arrive_54 rfl ?_
            refine b_getf (v := .int (gX τ2 13)) d_Pa_arrive_55 fl_Pa_26 (eg_131 (sA τ2 10 (upd (gA τ2 10) x1.toNatClampNeg x2))) rfl ?_
            refine b_iconst (v := (1 : Int32)) d_Pa_arrive_58 (by decide) ?_
            refine b_iadd d_Pa_arrive_59  ?_
            refine b_putf (ty := .int) (h1 := enc (sX (sA τ2 10 (upd (gA τ2 10) x1.toNatClampNeg x2)) 13 ((gX τ2 13) + (1 : Int32)))) d_Pa_arrive_60 fl_Pa_26 ft_7_2 (fun _ => ⟨rfl, rfl⟩) (eg_131 (sA τ2 10 (upd (gA τ2 10) x1.toNatClampNeg x2))) (Nat.le_of_ble_eq_true rfl) (es_131_2 (sA τ2 10 (upd (gA τ2 10) x1.toNatClampNeg x2)) ((gX τ2 13) + (1 : Int32))) ?_
            refine b_aload_n d_Pa_arrive_63 rfl rfl ?_
            refine b_iload_n d_Pa_arrive_64 rfl rfl ?_
            refine b_callVi (Mc := m_Pa_daysLate) (As := [.int x1]) (st := []) d_Pa_arrive_65 ⟨⟨kA_Pa_daysLate.1, kA_Pa_daysLate.2.1, kA_Pa_daysLate.2.2, by decide⟩, ml_Pa_33, kV_Pa_daysLate⟩ (eg_131 (sX (sA τ2 10 (upd (gA τ2 10) x1.toNatClampNeg x2)) 13 ((gX τ2 13) + (1 : Int32)))) rfl rfl (Nat.le_of_ble_eq_true rfl) H (fun v4 τ5 H => ?_)
            exact b_iret (ty := .int) d_Pa_arrive_68 rfl rfl ⟨_, _, rfl, rfl, H⟩
          · have H := H.2 c11
            refine b_aload_n d_Pa_arrive_32 rfl rfl ?_
            refine b_getf (v := .ref 133) d_Pa_arrive_33 fl_Pa_15 (eg_131 τ2) rfl ?_
            refine b_iload_n d_Pa_arrive_36 rfl rfl ?_
            refine b_iconst (v := (1 : Int32)) d_Pa_arrive_37 (by decide) ?_
            refine b_isub d_Pa_arrive_38  ?_
            obtain ⟨h6, H⟩ := H
            refine b_iald d_Pa_arrive_39 (eg_133 τ2) h6 ?_
            refine b_st2 (st' := [.int ((gA τ2 10) (x1 - (1 : Int32)).toNatClampNeg)]) rfl ?_
            refine b_iload_n d_Pa_arrive_40 rfl rfl ?_
            refine b_icmp_le (tgt := 46) d_Pa_arrive_41 (by decide) (fun c10 => ?_) (fun c10 => ?_)
            · have H := H.1 c10
              refine b_aload_n d_Pa_arrive_46 rfl rfl ?_
              refine b_getf (v := .ref 133) d_Pa_arrive_47 fl_Pa_15 (eg_131 τ2) rfl ?_
              refine b_iload_n d_Pa_arrive_50 rfl rfl ?_
              refine b_iload_n d_Pa_arrive_51 rfl rfl ?_
              obtain ⟨h7, H⟩ := H
              refine b_iast (h1 := enc (sA τ2 10 (upd (gA τ2 10) x1.toNatClampNeg x2))) d_Pa_arrive_52 (eg_133 τ2) h7 (es_133 τ2 (upd (gA τ2 10) x1.toNatClampNeg x2)) ?_
              refine b_aload_n d_Pa_arrive_53 rfl rfl ?_
              refine b_dup d_Pa_arrive_54 rfl ?_
              refine b_getf (v := .int (gX τ2 13)) d_Pa_arrive_55 fl_Pa_26 (eg_131 (sA τ2 10 (upd (gA τ2 10) x1.toNatClampNeg x2))) rfl ?_
              refine b_iconst (v := (1 : Int32)) d_Pa_arrive_58 (by decide) ?_
              refine b_iadd d_Pa_arrive_59  ?_
              refine b_putf (ty := .int) (h1 := enc (sX (sA τ2 10 (upd (gA τ2 10) x1.toNatClampNeg x2)) 13 ((gX τ2 13) + (1 : Int32)))) d_Pa_arrive_60 fl_Pa_26 ft_7_2 (fun _ => ⟨rfl, rfl⟩) (eg_131 (sA τ2 10 (upd (gA τ2 10) x1.toNatClampNeg x2))) (Nat.le_of_ble_eq_true rfl) (es_131_2 (sA τ2 10 (upd (gA τ2 10) x1.toNatClampNeg x2)) ((gX τ2 13) + (1 : Int32))) ?_
              refine b_aload_n d_Pa_arrive_63 rfl rfl ?_
              refine b_iload_n d_Pa_arrive_64 rfl rfl ?_
              refine b_callVi (Mc := m_Pa_daysLate) (As := [.int x1]) (st := []) d_Pa_arrive_65 ⟨⟨kA_Pa_daysLate.1, kA_Pa_daysLate.2.1, kA_Pa_daysLate.2.2, by decide⟩, ml_Pa_33, kV_Pa_daysLate⟩ (eg_131 (sX (sA τ2 10 (upd (gA τ2 10) x1.toNatClampNeg x2)) 13 ((gX τ2 13) + (1 : Int32)))) rfl rfl (Nat.le_of_ble_eq_true rfl) H (fun v8 τ9 H => ?_)
              exact b_iret (ty := .int) d_Pa_arrive_68 rfl rfl ⟨_, _, rfl, rfl, H⟩
            · have H := H.2 c10
              refine b_iconst (v := (-1 : Int32)) d_Pa_arrive_44 (by decide) ?_
              exact b_iret (ty := .int) d_Pa_arrive_45 rfl rfl ⟨_, _, rfl, rfl, H⟩
        · have H := H.2 c12
          refine b_iconst (v := (-1 : Int32)) d_Pa_arrive_26 (by decide) ?_
          exact b_iret (ty := .int) d_Pa_arrive_27 rfl rfl ⟨_, _, rfl, rfl, H⟩
theorem C_Pa_arrive {S : XS} {Q : Int32 → St → Prop} (σ : St) (x1 : Int32) (x2 : Int32) (H : BW S m_Pa_arrive 0 [some (.ref 131), some (.int x1), some (.int x2)] [] (enc σ) (qI Q)) : CM S m_Pa_arrive [.ref 131, .int x1, .int x2] (enc σ) (qI Q) := b_meth (by decide) (Nat.le_of_ble_eq_true rfl) rfl H
theorem d_Pa_hasCome_0 : decode m_Pa_hasCome.2.1 0 = .ok (.iload_n 1, 1) := by decide +kernel
theorem d_Pa_hasCome_1 : decode m_Pa_hasCome.2.1 1 = .ok (.invokestatic 18, 3) := by decide +kernel
theorem d_Pa_hasCome_4 : decode m_Pa_hasCome.2.1 4 = .ok (.ifCond .eq 15, 3) := by decide +kernel
theorem d_Pa_hasCome_7 : decode m_Pa_hasCome.2.1 7 = .ok (.iload_n 1, 1) := by decide +kernel
theorem d_Pa_hasCome_8 : decode m_Pa_hasCome.2.1 8 = .ok (.aload_n 0, 1) := by decide +kernel
theorem d_Pa_hasCome_9 : decode m_Pa_hasCome.2.1 9 = .ok (.getfield 26, 3) := by decide +kernel
theorem d_Pa_hasCome_12 : decode m_Pa_hasCome.2.1 12 = .ok (.if_icmp .ge 7, 3) := by decide +kernel
theorem d_Pa_hasCome_15 : decode m_Pa_hasCome.2.1 15 = .ok (.iconst 1, 1) := by decide +kernel
theorem d_Pa_hasCome_16 : decode m_Pa_hasCome.2.1 16 = .ok (.goto 4, 3) := by decide +kernel
theorem d_Pa_hasCome_19 : decode m_Pa_hasCome.2.1 19 = .ok (.iconst 0, 1) := by decide +kernel
theorem d_Pa_hasCome_20 : decode m_Pa_hasCome.2.1 20 = .ok (.ireturn, 1) := by decide +kernel
set_option maxHeartbeats 4000000 in
set_option maxRecDepth 100000 in
theorem B_Pa_hasCome_0 {S : XS} {Q : Int32 → St → Prop} (σ : St) (x1 : Int32) (H : CM S m_TH_isPart [.int x1] (enc σ) (qI (fun v1 τ2 => ((v1 = 0 → Q (0 : Int32) τ2) ∧ (¬ v1 = 0 → (((gX τ2 13) ≤ x1 → Q (0 : Int32) τ2) ∧ (¬ (gX τ2 13) ≤ x1 → Q (1 : Int32) τ2))))))) : BW S m_Pa_hasCome 0 [some (.ref 131), some (.int x1)] [] (enc σ) (qI Q) := by
  refine b_iload_n d_Pa_hasCome_0 rfl rfl ?_
  refine b_callSNi (Mc := m_TH_isPart) (As := [.int x1]) (st := []) d_Pa_hasCome_1 ⟨⟨kA_TH_isPart.1, kA_TH_isPart.2.1, kA_TH_isPart.2.2, by decide⟩, mn_Pa_18, kS_TH_isPart⟩ rfl rfl (Nat.le_of_ble_eq_true rfl) H (fun v1 τ2 H => ?_)
  refine b_if_eq (tgt := 19) d_Pa_hasCome_4 (by decide) (fun c4 => ?_) (fun c4 => ?_)
  · have H := H.1 c4
    refine b_iconst (v := (0 : Int32)) d_Pa_hasCome_19 (by decide) ?_
    exact b_iret (ty := .boolean) d_Pa_hasCome_20 rfl rfl ⟨_, _, rfl, rfl, H⟩
  · have H := H.2 c4
    refine b_iload_n d_Pa_hasCome_7 rfl rfl ?_
    refine b_aload_n d_Pa_hasCome_8 rfl rfl ?_
    refine b_getf (v := .int (gX τ2 13)) d_Pa_hasCome_9 fl_Pa_26 (eg_131 τ2) rfl ?_
    refine b_icmp_ge (tgt := 19) d_Pa_hasCome_12 (by decide) (fun c3 => ?_) (fun c3 => ?_)
    · have H := H.1 c3
      refine b_iconst (v := (0 : Int32)) d_Pa_hasCome_19 (by decide) ?_
      exact b_iret (ty := .boolean) d_Pa_hasCome_20 rfl rfl ⟨_, _, rfl, rfl, H⟩
    · have H := H.2 c3
      refine b_iconst (v := (1 : Int32)) d_Pa_hasCome_15 (by decide) ?_
      refine b_goto (tgt := 20) d_Pa_hasCome_16 (by decide) ?_
      exact b_iret (ty := .boolean) d_Pa_hasCome_20 rfl rfl ⟨_, _, rfl, rfl, H⟩
theorem C_Pa_hasCome {S : XS} {Q : Int32 → St → Prop} (σ : St) (x1 : Int32) (H : BW S m_Pa_hasCome 0 [some (.ref 131), some (.int x1)] [] (enc σ) (qI Q)) : CM S m_Pa_hasCome [.ref 131, .int x1] (enc σ) (qI Q) := b_meth (by decide) (Nat.le_of_ble_eq_true rfl) rfl H
theorem d_Pa_daysLate_0 : decode m_Pa_daysLate.2.1 0 = .ok (.aload_n 0, 1) := by decide +kernel
theorem d_Pa_daysLate_1 : decode m_Pa_daysLate.2.1 1 = .ok (.iload_n 1, 1) := by decide +kernel
theorem d_Pa_daysLate_2 : decode m_Pa_daysLate.2.1 2 = .ok (.aload_n 0, 1) := by decide +kernel
theorem d_Pa_daysLate_3 : decode m_Pa_daysLate.2.1 3 = .ok (.iload_n 1, 1) := by decide +kernel
theorem d_Pa_daysLate_4 : decode m_Pa_daysLate.2.1 4 = .ok (.invokevirtual 37, 3) := by decide +kernel
theorem d_Pa_daysLate_7 : decode m_Pa_daysLate.2.1 7 = .ok (.invokevirtual 40, 3) := by decide +kernel
theorem d_Pa_daysLate_10 : decode m_Pa_daysLate.2.1 10 = .ok (.ireturn, 1) := by decide +kernel
set_option maxHeartbeats 4000000 in
set_option maxRecDepth 100000 in
theorem B_Pa_daysLate_0 {S : XS} {Q : Int32 → St → Prop} (σ : St) (x1 : Int32) (H : CM S m_Pa_dueDay [.ref 131, .int x1] (enc σ) (qI (fun v1 τ2 => CM S m_Pa_daysBehind [.ref 131, .int x1, .int v1] (enc τ2) (qI (fun v3 τ4 => Q v3 τ4))))) : BW S m_Pa_daysLate 0 [some (.ref 131), some (.int x1)] [] (enc σ) (qI Q) := by
  refine b_aload_n d_Pa_daysLate_0 rfl rfl ?_
  refine b_iload_n d_Pa_daysLate_1 rfl rfl ?_
  refine b_aload_n d_Pa_daysLate_2 rfl rfl ?_
  refine b_iload_n d_Pa_daysLate_3 rfl rfl ?_
  refine b_callVi (Mc := m_Pa_dueDay) (As := [.int x1]) (st := [.int x1, .ref 131]) d_Pa_daysLate_4 ⟨⟨kA_Pa_dueDay.1, kA_Pa_dueDay.2.1, kA_Pa_dueDay.2.2, by decide⟩, ml_Pa_37, kV_Pa_dueDay⟩ (eg_131 σ) rfl rfl (Nat.le_of_ble_eq_true rfl) H (fun v1 τ2 H => ?_)
  refine b_callVi (Mc := m_Pa_daysBehind) (As := [.int x1, .int v1]) (st := []) d_Pa_daysLate_7 ⟨⟨kA_Pa_daysBehind.1, kA_Pa_daysBehind.2.1, kA_Pa_daysBehind.2.2, by decide⟩, ml_Pa_40, kV_Pa_daysBehind⟩ (eg_131 τ2) rfl rfl (Nat.le_of_ble_eq_true rfl) H (fun v3 τ4 H => ?_)
  exact b_iret (ty := .int) d_Pa_daysLate_10 rfl rfl ⟨_, _, rfl, rfl, H⟩
theorem C_Pa_daysLate {S : XS} {Q : Int32 → St → Prop} (σ : St) (x1 : Int32) (H : BW S m_Pa_daysLate 0 [some (.ref 131), some (.int x1)] [] (enc σ) (qI Q)) : CM S m_Pa_daysLate [.ref 131, .int x1] (enc σ) (qI Q) := b_meth (by decide) (Nat.le_of_ble_eq_true rfl) rfl H
theorem d_Pa_dueDay_0 : decode m_Pa_dueDay.2.1 0 = .ok (.aload_n 0, 1) := by decide +kernel
theorem d_Pa_dueDay_1 : decode m_Pa_dueDay.2.1 1 = .ok (.getfield 30, 3) := by decide +kernel
theorem d_Pa_dueDay_4 : decode m_Pa_dueDay.2.1 4 = .ok (.istore_n 2, 1) := by decide +kernel
theorem d_Pa_dueDay_5 : decode m_Pa_dueDay.2.1 5 = .ok (.iconst 0, 1) := by decide +kernel
theorem d_Pa_dueDay_6 : decode m_Pa_dueDay.2.1 6 = .ok (.istore_n 3, 1) := by decide +kernel
theorem d_Pa_dueDay_7 : decode m_Pa_dueDay.2.1 7 = .ok (.iload_n 3, 1) := by decide +kernel
theorem d_Pa_dueDay_8 : decode m_Pa_dueDay.2.1 8 = .ok (.iload_n 1, 1) := by decide +kernel
theorem d_Pa_dueDay_9 : decode m_Pa_dueDay.2.1 9 = .ok (.if_icmp .ge 42, 3) := by decide +kernel
theorem d_Pa_dueDay_12 : decode m_Pa_dueDay.2.1 12 = .ok (.iload_n 3, 1) := by decide +kernel
theorem d_Pa_dueDay_13 : decode m_Pa_dueDay.2.1 13 = .ok (.bipush 24, 2) := by decide +kernel
theorem d_Pa_dueDay_15 : decode m_Pa_dueDay.2.1 15 = .ok (.if_icmp .ge 36, 3) := by decide +kernel
theorem d_Pa_dueDay_18 : decode m_Pa_dueDay.2.1 18 = .ok (.aload_n 0, 1) := by decide +kernel
theorem d_Pa_dueDay_19 : decode m_Pa_dueDay.2.1 19 = .ok (.iload_n 3, 1) := by decide +kernel
theorem d_Pa_dueDay_20 : decode m_Pa_dueDay.2.1 20 = .ok (.iload_n 2, 1) := by decide +kernel
theorem d_Pa_dueDay_21 : decode m_Pa_dueDay.2.1 21 = .ok (.invokevirtual 40, 3) := by decide +kernel
theorem d_Pa_dueDay_24 : decode m_Pa_dueDay.2.1 24 = .ok (.bipush 30, 2) := by decide +kernel
theorem d_Pa_dueDay_26 : decode m_Pa_dueDay.2.1 26 = .ok (.iadd, 1) := by decide +kernel
theorem d_Pa_dueDay_27 : decode m_Pa_dueDay.2.1 27 = .ok (.iconst 1, 1) := by decide +kernel
theorem d_Pa_dueDay_28 : decode m_Pa_dueDay.2.1 28 = .ok (.isub, 1) := by decide +kernel
theorem d_Pa_dueDay_29 : decode m_Pa_dueDay.2.1 29 = .ok (.bipush 30, 2) := by decide +kernel
theorem d_Pa_dueDay_31 : decode m_Pa_dueDay.2.1 31 = .ok (.idiv, 1) := by decide +kernel
theorem d_Pa_dueDay_32 : decode m_Pa_dueDay.2.1 32 = .ok (.istore 4, 2) := by decide +kernel
theorem d_Pa_dueDay_34 : decode m_Pa_dueDay.2.1 34 = .ok (.iload_n 2, 1) := by decide +kernel
theorem d_Pa_dueDay_35 : decode m_Pa_dueDay.2.1 35 = .ok (.bipush 30, 2) := by decide +kernel
theorem d_Pa_dueDay_37 : decode m_Pa_dueDay.2.1 37 = .ok (.bipush 30, 2) := by decide +kernel
theorem d_Pa_dueDay_39 : decode m_Pa_dueDay.2.1 39 = .ok (.iload 4, 2) := by decide +kernel
theorem d_Pa_dueDay_41 : decode m_Pa_dueDay.2.1 41 = .ok (.imul, 1) := by decide +kernel
theorem d_Pa_dueDay_42 : decode m_Pa_dueDay.2.1 42 = .ok (.iadd, 1) := by decide +kernel
theorem d_Pa_dueDay_43 : decode m_Pa_dueDay.2.1 43 = .ok (.iadd, 1) := by decide +kernel
theorem d_Pa_dueDay_44 : decode m_Pa_dueDay.2.1 44 = .ok (.istore_n 2, 1) := by decide +kernel
theorem d_Pa_dueDay_45 : decode m_Pa_dueDay.2.1 45 = .ok (.iinc 3 1, 3) := by decide +kernel
theorem d_Pa_dueDay_48 : decode m_Pa_dueDay.2.1 48 = .ok (.goto (-41), 3) := by decide +kernel
theorem d_Pa_dueDay_51 : decode m_Pa_dueDay.2.1 51 = .ok (.iload_n 2, 1) := by decide +kernel
theorem d_Pa_dueDay_52 : decode m_Pa_dueDay.2.1 52 = .ok (.ireturn, 1) := by decide +kernel
set_option maxHeartbeats 4000000 in
set_option maxRecDepth 100000 in
theorem B_Pa_dueDay_0 {S : XS} {Q : Int32 → St → Prop} (σ : St) (x1 : Int32) (H : BW S m_Pa_dueDay 7 [some (.ref 131), some (.int x1), some (.int (gX σ 14)), some (.int (0 : Int32)), none] [] (enc σ) (qI Q)) : BW S m_Pa_dueDay 0 [some (.ref 131), some (.int x1), none, none, none] [] (enc σ) (qI Q) := by
  refine b_aload_n d_Pa_dueDay_0 rfl rfl ?_
  refine b_getf (v := .int (gX σ 14)) d_Pa_dueDay_1 fl_Pa_30 (eg_131 σ) rfl ?_
  refine b_istore_n (ls' := [some (.ref 131), some (.int x1), some (.int (gX σ 14)), none, none]) d_Pa_dueDay_4 rfl (Nat.le_of_ble_eq_true rfl) rfl ?_
  refine b_iconst (v := (0 : Int32)) d_Pa_dueDay_5 (by decide) ?_
  refine b_istore_n (ls' := [some (.ref 131), some (.int x1), some (.int (gX σ 14)), some (.int (0 : Int32)), none]) d_Pa_dueDay_6 rfl (Nat.le_of_ble_eq_true rfl) rfl ?_
  exact b_mask [true, true, true, true, true] rfl H
set_option maxHeartbeats 4000000 in
set_option maxRecDepth 100000 in
theorem B_Pa_dueDay_7 {S : XS} {Q : Int32 → St → Prop} (σ : St) (x1 : Int32) (x2 : Int32) (x3 : Int32) (H : ((x1 ≤ x3 → Q x2 σ) ∧ (¬ x1 ≤ x3 → (((24 : Int32) ≤ x3 → Q x2 σ) ∧ (¬ (24 : Int32) ≤ x3 → CM S m_Pa_daysBehind [.ref 131, .int x3, .int x2] (enc σ) (qI (fun v1 τ2 => BW S m_Pa_dueDay 7 [some (.ref 131), some (.int x1), some (.int (x2 + ((30 : Int32) + ((30 : Int32) * (((v1 + (30 : Int32)) - (1 : Int32)) / (30 : Int32)))))), some (.int (x3 + (1 : Int32))), none] [] (enc τ2) (qI Q)))))))) : BW S m_Pa_dueDay 7 [some (.ref 131), some (.int x1), some (.int x2), some (.int x3), none] [] (enc σ) (qI Q) := by
  refine b_iload_n d_Pa_dueDay_7 rfl rfl ?_
  refine b_iload_n d_Pa_dueDay_8 rfl rfl ?_
  refine b_icmp_ge (tgt := 51) d_Pa_dueDay_9 (by decide) (fun c4 => ?_) (fun c4 => ?_)
  · have H := H.1 c4
    refine b_iload_n d_Pa_dueDay_51 rfl rfl ?_
    exact b_iret (ty := .int) d_Pa_dueDay_52 rfl rfl ⟨_, _, rfl, rfl, H⟩
  · have H := H.2 c4
    refine b_iload_n d_Pa_dueDay_12 rfl rfl ?_
    refine b_bipush (v := (24 : Int32)) d_Pa_dueDay_13 (by decide) ?_
    refine b_icmp_ge (tgt := 51) d_Pa_dueDay_15 (by decide) (fun c3 => ?_) (fun c3 => ?_)
    · have H := H.1 c3
      refine b_iload_n d_Pa_dueDay_51 rfl rfl ?_
      exact b_iret (ty := .int) d_Pa_dueDay_52 rfl rfl ⟨_, _, rfl, rfl, H⟩
    · have H := H.2 c3
      refine b_aload_n d_Pa_dueDay_18 rfl rfl ?_
      refine b_iload_n d_Pa_dueDay_19 rfl rfl ?_
      refine b_iload_n d_Pa_dueDay_20 rfl rfl ?_
      refine b_callVi (Mc := m_Pa_daysBehind) (As := [.int x3, .int x2]) (st := []) d_Pa_dueDay_21 ⟨⟨kA_Pa_daysBehind.1, kA_Pa_daysBehind.2.1, kA_Pa_daysBehind.2.2, by decide⟩, ml_Pa_40, kV_Pa_daysBehind⟩ (eg_131 σ) rfl rfl (Nat.le_of_ble_eq_true rfl) H (fun v1 τ2 H => ?_)
      refine b_bipush (v := (30 : Int32)) d_Pa_dueDay_24 (by decide) ?_
      refine b_iadd d_Pa_dueDay_26  ?_
      refine b_iconst (v := (1 : Int32)) d_Pa_dueDay_27 (by decide) ?_
      refine b_isub d_Pa_dueDay_28  ?_
      refine b_bipush (v := (30 : Int32)) d_Pa_dueDay_29 (by decide) ?_
      refine b_idiv d_Pa_dueDay_31 (by decide) ?_
      refine b_istore (ls' := [some (.ref 131), some (.int x1), some (.int x2), some (.int x3), some (.int (((v1 + (30 : Int32)) - (1 : Int32)) / (30 : Int32)))]) d_Pa_dueDay_32 (Nat.le_of_ble_eq_true rfl) rfl ?_
      refine b_iload_n d_Pa_dueDay_34 rfl rfl ?_
      refine b_bipush (v := (30 : Int32)) d_Pa_dueDay_35 (by decide) ?_
      refine b_bipush (v := (30 : Int32)) d_Pa_dueDay_37 (by decide) ?_
      refine b_iload d_Pa_dueDay_39 rfl ?_
      refine b_imul d_Pa_dueDay_41  ?_
      refine b_iadd d_Pa_dueDay_42  ?_
      refine b_iadd d_Pa_dueDay_43  ?_
      refine b_istore_n (ls' := [some (.ref 131), some (.int x1), some (.int (x2 + ((30 : Int32) + ((30 : Int32) * (((v1 + (30 : Int32)) - (1 : Int32)) / (30 : Int32)))))), some (.int x3), some (.int (((v1 + (30 : Int32)) - (1 : Int32)) / (30 : Int32)))]) d_Pa_dueDay_44 rfl (Nat.le_of_ble_eq_true rfl) rfl ?_
      refine b_iinc (v := (x3 + (1 : Int32))) (ls' := [some (.ref 131), some (.int x1), some (.int (x2 + ((30 : Int32) + ((30 : Int32) * (((v1 + (30 : Int32)) - (1 : Int32)) / (30 : Int32)))))), some (.int (x3 + (1 : Int32))), some (.int (((v1 + (30 : Int32)) - (1 : Int32)) / (30 : Int32)))]) d_Pa_dueDay_45 rfl rfl (Nat.le_of_ble_eq_true rfl) rfl ?_
      refine b_goto (tgt := 7) d_Pa_dueDay_48 (by decide) ?_
      exact b_mask [true, true, true, true, false] rfl H
theorem C_Pa_dueDay {S : XS} {Q : Int32 → St → Prop} (σ : St) (x1 : Int32) (H : BW S m_Pa_dueDay 0 [some (.ref 131), some (.int x1), none, none, none] [] (enc σ) (qI Q)) : CM S m_Pa_dueDay [.ref 131, .int x1] (enc σ) (qI Q) := b_meth (by decide) (Nat.le_of_ble_eq_true rfl) rfl H
theorem d_Pa_daysBehind_0 : decode m_Pa_daysBehind.2.1 0 = .ok (.aload_n 0, 1) := by decide +kernel
theorem d_Pa_daysBehind_1 : decode m_Pa_daysBehind.2.1 1 = .ok (.iload_n 1, 1) := by decide +kernel
theorem d_Pa_daysBehind_2 : decode m_Pa_daysBehind.2.1 2 = .ok (.invokevirtual 44, 3) := by decide +kernel
theorem d_Pa_daysBehind_5 : decode m_Pa_daysBehind.2.1 5 = .ok (.ifCond .eq 18, 3) := by decide +kernel
theorem d_Pa_daysBehind_8 : decode m_Pa_daysBehind.2.1 8 = .ok (.iconst 0, 1) := by decide +kernel
theorem d_Pa_daysBehind_9 : decode m_Pa_daysBehind.2.1 9 = .ok (.aload_n 0, 1) := by decide +kernel
theorem d_Pa_daysBehind_10 : decode m_Pa_daysBehind.2.1 10 = .ok (.getfield 15, 3) := by decide +kernel
theorem d_Pa_daysBehind_13 : decode m_Pa_daysBehind.2.1 13 = .ok (.iload_n 1, 1) := by decide +kernel
theorem d_Pa_daysBehind_14 : decode m_Pa_daysBehind.2.1 14 = .ok (.iaload, 1) := by decide +kernel
theorem d_Pa_daysBehind_15 : decode m_Pa_daysBehind.2.1 15 = .ok (.iload_n 2, 1) := by decide +kernel
theorem d_Pa_daysBehind_16 : decode m_Pa_daysBehind.2.1 16 = .ok (.isub, 1) := by decide +kernel
theorem d_Pa_daysBehind_17 : decode m_Pa_daysBehind.2.1 17 = .ok (.invokestatic 47, 3) := by decide +kernel
theorem d_Pa_daysBehind_20 : decode m_Pa_daysBehind.2.1 20 = .ok (.goto 4, 3) := by decide +kernel
theorem d_Pa_daysBehind_23 : decode m_Pa_daysBehind.2.1 23 = .ok (.iconst 0, 1) := by decide +kernel
theorem d_Pa_daysBehind_24 : decode m_Pa_daysBehind.2.1 24 = .ok (.ireturn, 1) := by decide +kernel
set_option maxHeartbeats 4000000 in
set_option maxRecDepth 100000 in
theorem B_Pa_daysBehind_0 {S : XS} {Q : Int32 → St → Prop} (σ : St) (x1 : Int32) (x2 : Int32) (H : CM S m_Pa_hasCome [.ref 131, .int x1] (enc σ) (qI (fun v1 τ2 => ((v1 = 0 → Q (0 : Int32) τ2) ∧ (¬ v1 = 0 → (vp_in x1 24) ∧ Q (if (0 : Int32) < (((gA τ2 10) x1.toNatClampNeg) - x2) then (((gA τ2 10) x1.toNatClampNeg) - x2) else (0 : Int32)) τ2))))) : BW S m_Pa_daysBehind 0 [some (.ref 131), some (.int x1), some (.int x2)] [] (enc σ) (qI Q) := by
  refine b_aload_n d_Pa_daysBehind_0 rfl rfl ?_
  refine b_iload_n d_Pa_daysBehind_1 rfl rfl ?_
  refine b_callVi (Mc := m_Pa_hasCome) (As := [.int x1]) (st := []) d_Pa_daysBehind_2 ⟨⟨kA_Pa_hasCome.1, kA_Pa_hasCome.2.1, kA_Pa_hasCome.2.2, by decide⟩, ml_Pa_44, kV_Pa_hasCome⟩ (eg_131 σ) rfl rfl (Nat.le_of_ble_eq_true rfl) H (fun v1 τ2 H => ?_)
  refine b_if_eq (tgt := 23) d_Pa_daysBehind_5 (by decide) (fun c4 => ?_) (fun c4 => ?_)
  · have H := H.1 c4
    refine b_iconst (v := (0 : Int32)) d_Pa_daysBehind_23 (by decide) ?_
    exact b_iret (ty := .int) d_Pa_daysBehind_24 rfl rfl ⟨_, _, rfl, rfl, H⟩
  · have H := H.2 c4
    refine b_iconst (v := (0 : Int32)) d_Pa_daysBehind_8 (by decide) ?_
    refine b_aload_n d_Pa_daysBehind_9 rfl rfl ?_
    refine b_getf (v := .ref 133) d_Pa_daysBehind_10 fl_Pa_15 (eg_131 τ2) rfl ?_
    refine b_iload_n d_Pa_daysBehind_13 rfl rfl ?_
    obtain ⟨h3, H⟩ := H
    refine b_iald d_Pa_daysBehind_14 (eg_133 τ2) h3 ?_
    refine b_st2 (st' := [.int ((gA τ2 10) x1.toNatClampNeg), .int (0 : Int32)]) rfl ?_
    refine b_iload_n d_Pa_daysBehind_15 rfl rfl ?_
    refine b_isub d_Pa_daysBehind_16  ?_
    refine b_maxI d_Pa_daysBehind_17 ml_Pa_47 (Nat.le_of_ble_eq_true rfl) ⟨by decide, by decide⟩ ?_
    refine b_goto (tgt := 24) d_Pa_daysBehind_20 (by decide) ?_
    exact b_iret (ty := .int) d_Pa_daysBehind_24 rfl rfl ⟨_, _, rfl, rfl, H⟩
theorem C_Pa_daysBehind {S : XS} {Q : Int32 → St → Prop} (σ : St) (x1 : Int32) (x2 : Int32) (H : BW S m_Pa_daysBehind 0 [some (.ref 131), some (.int x1), some (.int x2)] [] (enc σ) (qI Q)) : CM S m_Pa_daysBehind [.ref 131, .int x1, .int x2] (enc σ) (qI Q) := b_meth (by decide) (Nat.le_of_ble_eq_true rfl) rfl H
