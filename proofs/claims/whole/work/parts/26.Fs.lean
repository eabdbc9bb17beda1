/-! block rules, by program -/
theorem d_Fs_readDraft_0 : decode m_Fs_readDraft.2.1 0 = .ok (.aload_n 0, 1) := by decide +kernel
theorem d_Fs_readDraft_1 : decode m_Fs_readDraft.2.1 1 = .ok (.getfield 25, 3) := by decide +kernel
theorem d_Fs_readDraft_4 : decode m_Fs_readDraft.2.1 4 = .ok (.aload_n 1, 1) := by decide +kernel
theorem d_Fs_readDraft_5 : decode m_Fs_readDraft.2.1 5 = .ok (.invokevirtual 29, 3) := by decide +kernel
theorem d_Fs_readDraft_8 : decode m_Fs_readDraft.2.1 8 = .ok (.aload_n 1, 1) := by decide +kernel
theorem d_Fs_readDraft_9 : decode m_Fs_readDraft.2.1 9 = .ok (.invokevirtual 33, 3) := by decide +kernel
theorem d_Fs_readDraft_12 : decode m_Fs_readDraft.2.1 12 = .ok (.ifCond .ne 7, 3) := by decide +kernel
theorem d_Fs_readDraft_15 : decode m_Fs_readDraft.2.1 15 = .ok (.iconst 1, 1) := by decide +kernel
theorem d_Fs_readDraft_16 : decode m_Fs_readDraft.2.1 16 = .ok (.goto 4, 3) := by decide +kernel
theorem d_Fs_readDraft_19 : decode m_Fs_readDraft.2.1 19 = .ok (.iconst 0, 1) := by decide +kernel
theorem d_Fs_readDraft_20 : decode m_Fs_readDraft.2.1 20 = .ok (.ireturn, 1) := by decide +kernel
set_option maxHeartbeats 4000000 in
set_option maxRecDepth 100000 in
theorem B_Fs_readDraft_0 {S : XS} {Q : Int32 → St → Prop} (σ : St)  (H : (isFa σ (gf σ)) ∧ CM S m_Fa_readFrom [.ref (gf σ), .ref 1] (enc σ) (qV (fun τ2 => CM S m_Tp_failed [.ref 1] (enc τ2) (qI (fun v4 τ5 => ((¬ v4 = 0 → Q (0 : Int32) τ5) ∧ (v4 = 0 → Q (1 : Int32) τ5))))))) : BW S m_Fs_readDraft 0 [some (.ref 134), some (.ref 1)] [] (enc σ) (qI Q) := by
  refine b_aload_n d_Fs_readDraft_0 rfl rfl ?_
  refine b_getf (v := .ref (gf σ)) d_Fs_readDraft_1 fl_Fs_25 (eg_134 σ) rfl ?_
  refine b_aload_n d_Fs_readDraft_4 rfl rfl ?_
  obtain ⟨h3, H⟩ := H
  refine b_callVv (Mc := m_Fa_readFrom) (As := [.ref 1]) (st := []) d_Fs_readDraft_5 ⟨⟨kA_Fa_readFrom.1, kA_Fa_readFrom.2.1, kA_Fa_readFrom.2.2, by decide⟩, ml_Fs_29, kV_Fa_readFrom⟩ (eF σ h3) rfl rfl (Nat.le_of_ble_eq_true rfl) H (fun τ2 H => ?_)
  refine b_aload_n d_Fs_readDraft_8 rfl rfl ?_
  refine b_callVi (Mc := m_Tp_failed) (As := []) (st := []) d_Fs_readDraft_9 ⟨⟨kA_Tp_failed.1, kA_Tp_failed.2.1, kA_Tp_failed.2.2, by decide⟩, ml_Fs_33, kV_Tp_failed⟩ (eg_1 τ2) rfl rfl (Nat.le_of_ble_eq_true rfl) H (fun v4 τ5 H => ?_)
  refine b_if_ne (tgt := 19) d_Fs_readDraft_12 (by decide) (fun c6 => ?_) (fun c6 => ?_)
  · have H := H.1 c6
    refine b_iconst (v := (0 : Int32)) d_Fs_readDraft_19 (by decide) ?_
    exact b_iret (ty := .boolean) d_Fs_readDraft_20 rfl rfl ⟨_, _, rfl, rfl, H⟩
  · have H := H.2 c6
    refine b_iconst (v := (1 : Int32)) d_Fs_readDraft_15 (by decide) ?_
    refine b_goto (tgt := 20) d_Fs_readDraft_16 (by decide) ?_
    exact b_iret (ty := .boolean) d_Fs_readDraft_20 rfl rfl ⟨_, _, rfl, rfl, H⟩
theorem C_Fs_readDraft {S : XS} {Q : Int32 → St → Prop} (σ : St)  (H : BW S m_Fs_readDraft 0 [some (.ref 134), some (.ref 1)] [] (enc σ) (qI Q)) : CM S m_Fs_readDraft [.ref 134, .ref 1] (enc σ) (qI Q) := b_meth (by decide) (Nat.le_of_ble_eq_true rfl) rfl H
theorem d_Fs_strikeFrom_0 : decode m_Fs_strikeFrom.2.1 0 = .ok (.aload_n 0, 1) := by decide +kernel
theorem d_Fs_strikeFrom_1 : decode m_Fs_strikeFrom.2.1 1 = .ok (.iload_n 1, 1) := by decide +kernel
theorem d_Fs_strikeFrom_2 : decode m_Fs_strikeFrom.2.1 2 = .ok (.invokevirtual 49, 3) := by decide +kernel
theorem d_Fs_strikeFrom_5 : decode m_Fs_strikeFrom.2.1 5 = .ok (.astore 4, 2) := by decide +kernel
theorem d_Fs_strikeFrom_7 : decode m_Fs_strikeFrom.2.1 7 = .ok (.aload 4, 2) := by decide +kernel
theorem d_Fs_strikeFrom_9 : decode m_Fs_strikeFrom.2.1 9 = .ok (.ifnull 12, 3) := by decide +kernel
theorem d_Fs_strikeFrom_12 : decode m_Fs_strikeFrom.2.1 12 = .ok (.aload 4, 2) := by decide +kernel
theorem d_Fs_strikeFrom_14 : decode m_Fs_strikeFrom.2.1 14 = .ok (.getfield 53, 3) := by decide +kernel
theorem d_Fs_strikeFrom_17 : decode m_Fs_strikeFrom.2.1 17 = .ok (.iconst (-1), 1) := by decide +kernel
theorem d_Fs_strikeFrom_18 : decode m_Fs_strikeFrom.2.1 18 = .ok (.if_icmp .eq 5, 3) := by decide +kernel
theorem d_Fs_strikeFrom_21 : decode m_Fs_strikeFrom.2.1 21 = .ok (.iconst 0, 1) := by decide +kernel
theorem d_Fs_strikeFrom_22 : decode m_Fs_strikeFrom.2.1 22 = .ok (.ireturn, 1) := by decide +kernel
theorem d_Fs_strikeFrom_23 : decode m_Fs_strikeFrom.2.1 23 = .ok (.aload_n 3, 1) := by decide +kernel
theorem d_Fs_strikeFrom_24 : decode m_Fs_strikeFrom.2.1 24 = .ok (.aload 4, 2) := by decide +kernel
theorem d_Fs_strikeFrom_26 : decode m_Fs_strikeFrom.2.1 26 = .ok (.getfield 43, 3) := by decide +kernel
theorem d_Fs_strikeFrom_29 : decode m_Fs_strikeFrom.2.1 29 = .ok (.iload_n 2, 1) := by decide +kernel
theorem d_Fs_strikeFrom_30 : decode m_Fs_strikeFrom.2.1 30 = .ok (.invokevirtual 56, 3) := by decide +kernel
theorem d_Fs_strikeFrom_33 : decode m_Fs_strikeFrom.2.1 33 = .ok (.ifCond .eq 12, 3) := by decide +kernel
theorem d_Fs_strikeFrom_36 : decode m_Fs_strikeFrom.2.1 36 = .ok (.iload_n 2, 1) := by decide +kernel
theorem d_Fs_strikeFrom_37 : decode m_Fs_strikeFrom.2.1 37 = .ok (.aload 4, 2) := by decide +kernel
theorem d_Fs_strikeFrom_39 : decode m_Fs_strikeFrom.2.1 39 = .ok (.getfield 46, 3) := by decide +kernel
theorem d_Fs_strikeFrom_42 : decode m_Fs_strikeFrom.2.1 42 = .ok (.if_icmp .gt 5, 3) := by decide +kernel
theorem d_Fs_strikeFrom_45 : decode m_Fs_strikeFrom.2.1 45 = .ok (.iconst 0, 1) := by decide +kernel
theorem d_Fs_strikeFrom_46 : decode m_Fs_strikeFrom.2.1 46 = .ok (.ireturn, 1) := by decide +kernel
theorem d_Fs_strikeFrom_47 : decode m_Fs_strikeFrom.2.1 47 = .ok (.aload 4, 2) := by decide +kernel
theorem d_Fs_strikeFrom_49 : decode m_Fs_strikeFrom.2.1 49 = .ok (.iload_n 2, 1) := by decide +kernel
theorem d_Fs_strikeFrom_50 : decode m_Fs_strikeFrom.2.1 50 = .ok (.putfield 53, 3) := by decide +kernel
theorem d_Fs_strikeFrom_53 : decode m_Fs_strikeFrom.2.1 53 = .ok (.iconst 1, 1) := by decide +kernel
theorem d_Fs_strikeFrom_54 : decode m_Fs_strikeFrom.2.1 54 = .ok (.ireturn, 1) := by decide +kernel
set_option maxHeartbeats 4000000 in
set_option maxRecDepth 100000 in
theorem B_Fs_strikeFrom_0 {S : XS} {Q : Int32 → St → Prop} (σ : St) (x1 : Int32) (x2 : Int32) (H : CM S m_Fs_numbered [.ref 134, .int x1] (enc σ) (qR (fun v1 τ2 => ((v1 = none → Q (0 : Int32) τ2) ∧ (∀ q3, v1 = some q3 → (isFa τ2 q3) ∧ (((fI τ2 q3 6) = (-1 : Int32) → CM S m_Pa_haveEdition [.ref 131, .int (fI τ2 q3 4), .int x2] (enc τ2) (qI (fun v5 τ6 => ((v5 = 0 → Q (0 : Int32) τ6) ∧ (¬ v5 = 0 → (isFa τ6 q3) ∧ (((fI τ6 q3 5) < x2 → Q (1 : Int32) (stI τ6 q3 6 x2)) ∧ (¬ (fI τ6 q3 5) < x2 → Q (0 : Int32) τ6))))))) ∧ (¬ (fI τ2 q3 6) = (-1 : Int32) → Q (0 : Int32) τ2))))))) : BW S m_Fs_strikeFrom 0 [some (.ref 134), some (.int x1), some (.int x2), some (.ref 131), none] [] (enc σ) (qI Q) := by
  refine b_aload_n d_Fs_strikeFrom_0 rfl rfl ?_
  refine b_iload_n d_Fs_strikeFrom_1 rfl rfl ?_
  refine b_callVr (Mc := m_Fs_numbered) (As := [.int x1]) (st := []) d_Fs_strikeFrom_2 ⟨⟨kA_Fs_numbered.1, kA_Fs_numbered.2.1, kA_Fs_numbered.2.2, by decide⟩, ml_Fs_49, kV_Fs_numbered⟩ (eg_134 σ) rfl rfl (Nat.le_of_ble_eq_true rfl) H (fun v1 τ2 H => ?_)
  rcases v1 with _ | q3
  · have H := H.1 rfl
    refine b_astoreN (ls' := [some (.ref 134), some (.int x1), some (.int x2), some (.ref 131), some (.null)]) d_Fs_strikeFrom_5 (Nat.le_of_ble_eq_true rfl) rfl ?_
    refine b_aloadN d_Fs_strikeFrom_7 rfl ?_
    refine b_ifnullN (tgt := 21) d_Fs_strikeFrom_9 (by decide) ?_
    refine b_iconst (v := (0 : Int32)) d_Fs_strikeFrom_21 (by decide) ?_
    exact b_iret (ty := .boolean) d_Fs_strikeFrom_22 rfl rfl ⟨_, _, rfl, rfl, H⟩
  · have H := H.2 q3 rfl
    refine b_astore (ls' := [some (.ref 134), some (.int x1), some (.int x2), some (.ref 131), some (.ref q3)]) d_Fs_strikeFrom_5 (Nat.le_of_ble_eq_true rfl) rfl ?_
    refine b_aload d_Fs_strikeFrom_7 rfl ?_
    refine b_ifnull d_Fs_strikeFrom_9 ?_
    refine b_aload d_Fs_strikeFrom_12 rfl ?_
    obtain ⟨h4, H⟩ := H
    refine b_getfN (v := .int (fI τ2 q3 6)) d_Fs_strikeFrom_14 fn_Fs_53 (eF τ2 h4) rfl ?_
    refine b_iconst (v := (-1 : Int32)) d_Fs_strikeFrom_17 (by decide) ?_
    refine b_icmp_eq (tgt := 23) d_Fs_strikeFrom_18 (by decide) (fun c10 => ?_) (fun c10 => ?_)
    · have H := H.1 c10
      refine b_aload_n d_Fs_strikeFrom_23 rfl rfl ?_
      refine b_aload d_Fs_strikeFrom_24 rfl ?_
      refine b_getfN (v := .int (fI τ2 q3 4)) d_Fs_strikeFrom_26 fn_Fs_43 (eF τ2 h4) rfl ?_
      refine b_iload_n d_Fs_strikeFrom_29 rfl rfl ?_
      refine b_callVi (Mc := m_Pa_haveEdition) (As := [.int (fI τ2 q3 4), .int x2]) (st := []) d_Fs_strikeFrom_30 ⟨⟨kA_Pa_haveEdition.1, kA_Pa_haveEdition.2.1, kA_Pa_haveEdition.2.2, by decide⟩, ml_Fs_56, kV_Pa_haveEdition⟩ (eg_131 τ2) rfl rfl (Nat.le_of_ble_eq_true rfl) H (fun v5 τ6 H => ?_)
      refine b_if_eq (tgt := 45) d_Fs_strikeFrom_33 (by decide) (fun c9 => ?_) (fun c9 => ?_)
      · have H := H.1 c9
        refine b_iconst (v := (0 : Int32)) d_Fs_strikeFrom_45 (by decide) ?_
        exact b_iret (ty := .boolean) d_Fs_strikeFrom_46 rfl rfl ⟨_, _, rfl, rfl, H⟩
      · have H := H.2 c9
        refine b_iload_n d_Fs_strikeFrom_36 rfl rfl ?_
        refine b_aload d_Fs_strikeFrom_37 rfl ?_
        obtain ⟨h7, H⟩ := H
        refine b_getfN (v := .int (fI τ6 q3 5)) d_Fs_strikeFrom_39 fn_Fs_46 (eF τ6 h7) rfl ?_
        refine b_icmp_gt (tgt := 47) d_Fs_strikeFrom_42 (by decide) (fun c8 => ?_) (fun c8 => ?_)
        · have H := H.1 c8
          refine b_aload d_Fs_strikeFrom_47 rfl ?_
          refine b_iload_n d_Fs_strikeFrom_49 rfl rfl ?_
          refine b_putfN (ty := .int) (h1 := enc (stI τ6 q3 6 x2)) d_Fs_strikeFrom_50 fn_Fs_53 ft_3_6 (fun _ => ⟨rfl, rfl⟩) (eF τ6 h7) (Nat.le_of_ble_eq_true rfl) (eFI τ6 h7 6 x2) ?_
          refine b_iconst (v := (1 : Int32)) d_Fs_strikeFrom_53 (by decide) ?_
          exact b_iret (ty := .boolean) d_Fs_strikeFrom_54 rfl rfl ⟨_, _, rfl, rfl, H⟩
        · have H := H.2 c8
          refine b_iconst (v := (0 : Int32)) d_Fs_strikeFrom_45 (by decide) ?_
          exact b_iret (ty := .boolean) d_Fs_strikeFrom_46 rfl rfl ⟨_, _, rfl, rfl, H⟩
    · have H := H.2 c10
      refine b_iconst (v := (0 : Int32)) d_Fs_strikeFrom_21 (by decide) ?_
      exact b_iret (ty := .boolean) d_Fs_strikeFrom_22 rfl rfl ⟨_, _, rfl, rfl, H⟩
theorem C_Fs_strikeFrom {S : XS} {Q : Int32 → St → Prop} (σ : St) (x1 : Int32) (x2 : Int32) (H : BW S m_Fs_strikeFrom 0 [some (.ref 134), some (.int x1), some (.int x2), some (.ref 131), none] [] (enc σ) (qI Q)) : CM S m_Fs_strikeFrom [.ref 134, .int x1, .int x2, .ref 131] (enc σ) (qI Q) := b_meth (by decide) (Nat.le_of_ble_eq_true rfl) rfl H
theorem d_Fs_quarrelOf_0 : decode m_Fs_quarrelOf.2.1 0 = .ok (.aload_n 0, 1) := by decide +kernel
theorem d_Fs_quarrelOf_1 : decode m_Fs_quarrelOf.2.1 1 = .ok (.iload_n 1, 1) := by decide +kernel
theorem d_Fs_quarrelOf_2 : decode m_Fs_quarrelOf.2.1 2 = .ok (.invokevirtual 49, 3) := by decide +kernel
theorem d_Fs_quarrelOf_5 : decode m_Fs_quarrelOf.2.1 5 = .ok (.astore_n 3, 1) := by decide +kernel
theorem d_Fs_quarrelOf_6 : decode m_Fs_quarrelOf.2.1 6 = .ok (.aload_n 0, 1) := by decide +kernel
theorem d_Fs_quarrelOf_7 : decode m_Fs_quarrelOf.2.1 7 = .ok (.iload_n 2, 1) := by decide +kernel
theorem d_Fs_quarrelOf_8 : decode m_Fs_quarrelOf.2.1 8 = .ok (.invokevirtual 49, 3) := by decide +kernel
theorem d_Fs_quarrelOf_11 : decode m_Fs_quarrelOf.2.1 11 = .ok (.astore 4, 2) := by decide +kernel
theorem d_Fs_quarrelOf_13 : decode m_Fs_quarrelOf.2.1 13 = .ok (.aload_n 3, 1) := by decide +kernel
theorem d_Fs_quarrelOf_14 : decode m_Fs_quarrelOf.2.1 14 = .ok (.ifnull 13, 3) := by decide +kernel
theorem d_Fs_quarrelOf_17 : decode m_Fs_quarrelOf.2.1 17 = .ok (.aload 4, 2) := by decide +kernel
theorem d_Fs_quarrelOf_19 : decode m_Fs_quarrelOf.2.1 19 = .ok (.ifnull 8, 3) := by decide +kernel
theorem d_Fs_quarrelOf_22 : decode m_Fs_quarrelOf.2.1 22 = .ok (.iload_n 1, 1) := by decide +kernel
theorem d_Fs_quarrelOf_23 : decode m_Fs_quarrelOf.2.1 23 = .ok (.iload_n 2, 1) := by decide +kernel
theorem d_Fs_quarrelOf_24 : decode m_Fs_quarrelOf.2.1 24 = .ok (.if_icmp .ne 5, 3) := by decide +kernel
theorem d_Fs_quarrelOf_27 : decode m_Fs_quarrelOf.2.1 27 = .ok (.iconst (-1), 1) := by decide +kernel
theorem d_Fs_quarrelOf_28 : decode m_Fs_quarrelOf.2.1 28 = .ok (.ireturn, 1) := by decide +kernel
theorem d_Fs_quarrelOf_29 : decode m_Fs_quarrelOf.2.1 29 = .ok (.aload_n 3, 1) := by decide +kernel
theorem d_Fs_quarrelOf_30 : decode m_Fs_quarrelOf.2.1 30 = .ok (.aload 4, 2) := by decide +kernel
theorem d_Fs_quarrelOf_32 : decode m_Fs_quarrelOf.2.1 32 = .ok (.invokevirtual 62, 3) := by decide +kernel
theorem d_Fs_quarrelOf_35 : decode m_Fs_quarrelOf.2.1 35 = .ok (.ireturn, 1) := by decide +kernel
set_option maxHeartbeats 4000000 in
set_option maxRecDepth 100000 in
theorem B_Fs_quarrelOf_0 {S : XS} {Q : Int32 → St → Prop} (σ : St) (x1 : Int32) (x2 : Int32) (H : CM S m_Fs_numbered [.ref 134, .int x1] (enc σ) (qR (fun v1 τ2 => ((v1 = none → CM S m_Fs_numbered [.ref 134, .int x2] (enc τ2) (qR (fun v4 τ5 => ((v4 = none → Q (-1 : Int32) τ5) ∧ (∀ q6, v4 = some q6 → Q (-1 : Int32) τ5))))) ∧ (∀ q3, v1 = some q3 → CM S m_Fs_numbered [.ref 134, .int x2] (enc τ2) (qR (fun v7 τ8 => ((v7 = none → Q (-1 : Int32) τ8) ∧ (∀ q9, v7 = some q9 → ((¬ x1 = x2 → (isFa τ8 q3) ∧ CM S m_Fa_quarrelWith [.ref q3, .ref q9] (enc τ8) (qI (fun v10 τ11 => Q v10 τ11))) ∧ (x1 = x2 → Q (-1 : Int32) τ8))))))))))) : BW S m_Fs_quarrelOf 0 [some (.ref 134), some (.int x1), some (.int x2), none, none] [] (enc σ) (qI Q) := by
  refine b_aload_n d_Fs_quarrelOf_0 rfl rfl ?_
  refine b_iload_n d_Fs_quarrelOf_1 rfl rfl ?_
  refine b_callVr (Mc := m_Fs_numbered) (As := [.int x1]) (st := []) d_Fs_quarrelOf_2 ⟨⟨kA_Fs_numbered.1, kA_Fs_numbered.2.1, kA_Fs_numbered.2.2, by decide⟩, ml_Fs_49, kV_Fs_numbered⟩ (eg_134 σ) rfl rfl (Nat.le_of_ble_eq_true rfl) H (fun v1 τ2 H => ?_)
  rcases v1 with _ | q3
  · have H := H.1 rfl
    refine b_astore_nN (ls' := [some (.ref 134), some (.int x1), some (.int x2), some (.null), none]) d_Fs_quarrelOf_5 rfl (Nat.le_of_ble_eq_true rfl) rfl ?_
    refine b_aload_n d_Fs_quarrelOf_6 rfl rfl ?_
    refine b_iload_n d_Fs_quarrelOf_7 rfl rfl ?_
    refine b_callVr (Mc := m_Fs_numbered) (As := [.int x2]) (st := []) d_Fs_quarrelOf_8 ⟨⟨kA_Fs_numbered.1, kA_Fs_numbered.2.1, kA_Fs_numbered.2.2, by decide⟩, ml_Fs_49, kV_Fs_numbered⟩ (eg_134 τ2) rfl rfl (Nat.le_of_ble_eq_true rfl) H (fun v4 τ5 H => ?_)
    rcases v4 with _ | q6
    · have H := H.1 rfl
      refine b_astoreN (ls' := [some (.ref 134), some (.int x1), some (.int x2), some (.null), some (.null)]) d_Fs_quarrelOf_11 (Nat.le_of_ble_eq_true rfl) rfl ?_
      refine b_aload_nN d_Fs_quarrelOf_13 rfl rfl ?_
      refine b_ifnullN (tgt := 27) d_Fs_quarrelOf_14 (by decide) ?_
      refine b_iconst (v := (-1 : Int32)) d_Fs_quarrelOf_27 (by decide) ?_
      exact b_iret (ty := .int) d_Fs_quarrelOf_28 rfl rfl ⟨_, _, rfl, rfl, H⟩
    · have H := H.2 q6 rfl
      refine b_astore (ls' := [some (.ref 134), some (.int x1), some (.int x2), some (.null), some (.ref q6)]) d_Fs_quarrelOf_11 (Nat.le_of_ble_eq_true rfl) rfl ?_
      refine b_aload_nN d_Fs_quarrelOf_13 rfl rfl ?_
      refine b_ifnullN (tgt := 27) d_Fs_quarrelOf_14 (by decide) ?_
      refine b_iconst (v := (-1 : Int32)) d_Fs_quarrelOf_27 (by decide) ?_
      exact b_iret (ty := .int) d_Fs_quarrelOf_28 rfl rfl ⟨_, _, rfl, rfl, H⟩
  · have H := H.2 q3 rfl
    refine b_astore_n (ls' := [some (.ref 134), some (.int x1), some (.int x2), some (.ref q3), none]) d_Fs_quarrelOf_5 rfl (Nat.le_of_ble_eq_true rfl) rfl ?_
    refine b_aload_n d_Fs_quarrelOf_6 rfl rfl ?_
    refine b_iload_n d_Fs_quarrelOf_7 rfl rfl ?_
    refine b_callVr (Mc := m_Fs_numbered) (As := [.int x2]) (st := []) d_Fs_quarrelOf_8 ⟨⟨kA_Fs_numbered.1, kA_Fs_numbered.2.1, kA_Fs_numbered.2.2, by decide⟩, ml_Fs_49, kV_Fs_numbered⟩ (eg_134 τ2) rfl rfl (Nat.le_of_ble_eq_true rfl) H (fun v7 τ8 H => ?_)
    rcases v7 with _ | q9
    · have H := H.1 rfl
      refine b_astoreN (ls' := [some (.ref 134), some (.int x1), some (.int x2), some (.ref q3), some (.null)]) d_Fs_quarrelOf_11 (Nat.le_of_ble_eq_true rfl) rfl ?_
      refine b_aload_n d_Fs_quarrelOf_13 rfl rfl ?_
      refine b_ifnull d_Fs_quarrelOf_14 ?_
      refine b_aloadN d_Fs_quarrelOf_17 rfl ?_
      refine b_ifnullN (tgt := 27) d_Fs_quarrelOf_19 (by decide) ?_
      refine b_iconst (v := (-1 : Int32)) d_Fs_quarrelOf_27 (by decide) ?_
      exact b_iret (ty := .int) d_Fs_quarrelOf_28 rfl rfl ⟨_, _, rfl, rfl, H⟩
    · have H := H.2 q9 rfl
      refine b_astore (ls' := [some (.ref 134), some (.int x1), some (.int x2), some (.ref q3), some (.ref q9)]) d_Fs_quarrelOf_11 (Nat.le_of_ble_eq_true rfl) rfl ?_
      refine b_aload_n d_Fs_quarrelOf_13 rfl rfl ?_
      refine b_ifnull d_Fs_quarrelOf_14 ?_
      refine b_aload d_Fs_quarrelOf_17 rfl ?_
      refine b_ifnull d_Fs_quarrelOf_19 ?_
      refine b_iload_n d_Fs_quarrelOf_22 rfl rfl ?_
      refine b_iload_n d_Fs_quarrelOf_23 rfl rfl ?_
      refine b_icmp_ne (tgt := 29) d_Fs_quarrelOf_24 (by decide) (fun c13 => ?_) (fun c13 => ?_)
      · have H := H.1 c13
        refine b_aload_n d_Fs_quarrelOf_29 rfl rfl ?_
        refine b_aload d_Fs_quarrelOf_30 rfl ?_
        obtain ⟨h12, H⟩ := H
        refine b_callVi (Mc := m_Fa_quarrelWith) (As := [.ref q9]) (st := []) d_Fs_quarrelOf_32 ⟨⟨kA_Fa_quarrelWith.1, kA_Fa_quarrelWith.2.1, kA_Fa_quarrelWith.2.2, by decide⟩, ml_Fs_62, kV_Fa_quarrelWith⟩ (eF τ8 h12) rfl rfl (Nat.le_of_ble_eq_true rfl) H (fun v10 τ11 H => ?_)
        exact b_iret (ty := .int) d_Fs_quarrelOf_35 rfl rfl ⟨_, _, rfl, rfl, H⟩
      · have H := H.2 c13
        refine b_iconst (v := (-1 : Int32)) d_Fs_quarrelOf_27 (by decide) ?_
        exact b_iret (ty := .int) d_Fs_quarrelOf_28 rfl rfl ⟨_, _, rfl, rfl, H⟩
theorem C_Fs_quarrelOf {S : XS} {Q : Int32 → St → Prop} (σ : St) (x1 : Int32) (x2 : Int32) (H : BW S m_Fs_quarrelOf 0 [some (.ref 134), some (.int x1), some (.int x2), none, none] [] (enc σ) (qI Q)) : CM S m_Fs_quarrelOf [.ref 134, .int x1, .int x2] (enc σ) (qI Q) := b_meth (by decide) (Nat.le_of_ble_eq_true rfl) rfl H
theorem d_Fs_findQuarrels_0 : decode m_Fs_findQuarrels.2.1 0 = .ok (.aload_n 0, 1) := by decide +kernel
theorem d_Fs_findQuarrels_1 : decode m_Fs_findQuarrels.2.1 1 = .ok (.iconst 0, 1) := by decide +kernel
theorem d_Fs_findQuarrels_2 : decode m_Fs_findQuarrels.2.1 2 = .ok (.putfield 66, 3) := by decide +kernel
theorem d_Fs_findQuarrels_5 : decode m_Fs_findQuarrels.2.1 5 = .ok (.iconst 0, 1) := by decide +kernel
theorem d_Fs_findQuarrels_6 : decode m_Fs_findQuarrels.2.1 6 = .ok (.istore_n 3, 1) := by decide +kernel
theorem d_Fs_findQuarrels_7 : decode m_Fs_findQuarrels.2.1 7 = .ok (.iload_n 3, 1) := by decide +kernel
theorem d_Fs_findQuarrels_8 : decode m_Fs_findQuarrels.2.1 8 = .ok (.aload_n 0, 1) := by decide +kernel
theorem d_Fs_findQuarrels_9 : decode m_Fs_findQuarrels.2.1 9 = .ok (.getfield 39, 3) := by decide +kernel
theorem d_Fs_findQuarrels_12 : decode m_Fs_findQuarrels.2.1 12 = .ok (.if_icmp .ge 26, 3) := by decide +kernel
theorem d_Fs_findQuarrels_15 : decode m_Fs_findQuarrels.2.1 15 = .ok (.aload_n 0, 1) := by decide +kernel
theorem d_Fs_findQuarrels_16 : decode m_Fs_findQuarrels.2.1 16 = .ok (.iload_n 3, 1) := by decide +kernel
theorem d_Fs_findQuarrels_17 : decode m_Fs_findQuarrels.2.1 17 = .ok (.iload_n 1, 1) := by decide +kernel
theorem d_Fs_findQuarrels_18 : decode m_Fs_findQuarrels.2.1 18 = .ok (.aload_n 2, 1) := by decide +kernel
theorem d_Fs_findQuarrels_19 : decode m_Fs_findQuarrels.2.1 19 = .ok (.invokevirtual 69, 3) := by decide +kernel
theorem d_Fs_findQuarrels_22 : decode m_Fs_findQuarrels.2.1 22 = .ok (.ifCond .eq 10, 3) := by decide +kernel
theorem d_Fs_findQuarrels_25 : decode m_Fs_findQuarrels.2.1 25 = .ok (.aload_n 0, 1) := by decide +kernel
theorem d_Fs_findQuarrels_26 : decode m_Fs_findQuarrels.2.1 26 = .ok (.iload_n 3, 1) := by decide +kernel
theorem d_Fs_findQuarrels_27 : decode m_Fs_findQuarrels.2.1 27 = .ok (.iload_n 1, 1) := by decide +kernel
theorem d_Fs_findQuarrels_28 : decode m_Fs_findQuarrels.2.1 28 = .ok (.aload_n 2, 1) := by decide +kernel
theorem d_Fs_findQuarrels_29 : decode m_Fs_findQuarrels.2.1 29 = .ok (.invokevirtual 73, 3) := by decide +kernel
theorem d_Fs_findQuarrels_32 : decode m_Fs_findQuarrels.2.1 32 = .ok (.iinc 3 1, 3) := by decide +kernel
theorem d_Fs_findQuarrels_35 : decode m_Fs_findQuarrels.2.1 35 = .ok (.goto (-28), 3) := by decide +kernel
theorem d_Fs_findQuarrels_38 : decode m_Fs_findQuarrels.2.1 38 = .ok (.aload_n 0, 1) := by decide +kernel
theorem d_Fs_findQuarrels_39 : decode m_Fs_findQuarrels.2.1 39 = .ok (.getfield 66, 3) := by decide +kernel
theorem d_Fs_findQuarrels_42 : decode m_Fs_findQuarrels.2.1 42 = .ok (.ireturn, 1) := by decide +kernel
set_option maxHeartbeats 4000000 in
set_option maxRecDepth 100000 in
theorem B_Fs_findQuarrels_0 {S : XS} {Q : Int32 → St → Prop} (σ : St) (x1 : Int32) (H : BW S m_Fs_findQuarrels 7 [some (.ref 134), some (.int x1), some (.ref 131), some (.int (0 : Int32))] [] (enc (sX σ 16 (0 : Int32))) (qI Q)) : BW S m_Fs_findQuarrels 0 [some (.ref 134), some (.int x1), some (.ref 131), none] [] (enc σ) (qI Q) := by
  refine b_aload_n d_Fs_findQuarrels_0 rfl rfl ?_
  refine b_iconst (v := (0 : Int32)) d_Fs_findQuarrels_1 (by decide) ?_
  refine b_putf (ty := .int) (h1 := enc (sX σ 16 (0 : Int32))) d_Fs_findQuarrels_2 fl_Fs_66 ft_4_5 (fun _ => ⟨rfl, rfl⟩) (eg_134 σ) (Nat.le_of_ble_eq_true rfl) (es_134_5 σ (0 : Int32)) ?_
  refine b_iconst (v := (0 : Int32)) d_Fs_findQuarrels_5 (by decide) ?_
  refine b_istore_n (ls' := [some (.ref 134), some (.int x1), some (.ref 131), some (.int (0 : Int32))]) d_Fs_findQuarrels_6 rfl (Nat.le_of_ble_eq_true rfl) rfl ?_
  exact b_mask [true, true, true, true] rfl H
set_option maxHeartbeats 4000000 in
set_option maxRecDepth 100000 in
theorem B_Fs_findQuarrels_7 {S : XS} {Q : Int32 → St → Prop} (σ : St) (x1 : Int32) (x3 : Int32) (H : (((gX σ 15) ≤ x3 → Q (gX σ 16) σ) ∧ (¬ (gX σ 15) ≤ x3 → CM S m_Fs_stands [.ref 134, .int x3, .int x1, .ref 131] (enc σ) (qI (fun v1 τ2 => ((v1 = 0 → BW S m_Fs_findQuarrels 7 [some (.ref 134), some (.int x1), some (.ref 131), some (.int (x3 + (1 : Int32)))] [] (enc τ2) (qI Q)) ∧ (¬ v1 = 0 → CM S m_Fs_findQuarrelsOf [.ref 134, .int x3, .int x1, .ref 131] (enc τ2) (qV (fun τ4 => BW S m_Fs_findQuarrels 7 [some (.ref 134), some (.int x1), some (.ref 131), some (.int (x3 + (1 : Int32)))] [] (enc τ4) (qI Q)))))))))) : BW S m_Fs_findQuarrels 7 [some (.ref 134), some (.int x1), some (.ref 131), some (.int x3)] [] (enc σ) (qI Q) := by
  refine b_iload_n d_Fs_findQuarrels_7 rfl rfl ?_
  refine b_aload_n d_Fs_findQuarrels_8 rfl rfl ?_
  refine b_getf (v := .int (gX σ 15)) d_Fs_findQuarrels_9 fl_Fs_39 (eg_134 σ) rfl ?_
  refine b_icmp_ge (tgt := 38) d_Fs_findQuarrels_12 (by decide) (fun c6 => ?_) (fun c6 => ?_)
  · have H := H.1 c6
    refine b_aload_n d_Fs_findQuarrels_38 rfl rfl ?_
    refine b_getf (v := .int (gX σ 16)) d_Fs_findQuarrels_39 fl_Fs_66 (eg_134 σ) rfl ?_
    exact b_iret (ty := .int) d_Fs_findQuarrels_42 rfl rfl ⟨_, _, rfl, rfl, H⟩
  · have H := H.2 c6
    refine b_aload_n d_Fs_findQuarrels_15 rfl rfl ?_
    refine b_iload_n d_Fs_findQuarrels_16 rfl rfl ?_
    refine b_iload_n d_Fs_findQuarrels_17 rfl rfl ?_
    refine b_aload_n d_Fs_findQuarrels_18 rfl rfl ?_
    refine b_callVi (Mc := m_Fs_stands) (As := [.int x3, .int x1, .ref 131]) (st := []) d_Fs_findQuarrels_19 ⟨⟨kA_Fs_stands.1, kA_Fs_stands.2.1, kA_Fs_stands.2.2, by decide⟩, ml_Fs_69, kV_Fs_stands⟩ (eg_134 σ) rfl rfl (Nat.le_of_ble_eq_true rfl) H (fun v1 τ2 H => ?_)
    refine b_if_eq (tgt := 32) d_Fs_findQuarrels_22 (by decide) (fun c5 => ?_) (fun c5 => ?_)
    · have H := H.1 c5
      refine b_iinc (v := (x3 + (1 : Int32))) (ls' := [some (.ref 134), some (.int x1), some (.ref 131), some (.int (x3 + (1 : Int32)))]) d_Fs_findQuarrels_32 rfl rfl (Nat.le_of_ble_eq_true rfl) rfl ?_
      refine b_goto (tgt := 7) d_Fs_findQuarrels_35 (by decide) ?_
      exact b_mask [true, true, true, true] rfl H
    · have H := H.2 c5
      refine b_aload_n d_Fs_findQuarrels_25 rfl rfl ?_
      refine b_iload_n d_Fs_findQuarrels_26 rfl rfl ?_
      refine b_iload_n d_Fs_findQuarrels_27 rfl rfl ?_
      refine b_aload_n d_Fs_findQuarrels_28 rfl rfl ?_
      refine b_callVv (Mc := m_Fs_findQuarrelsOf) (As := [.int x3, .int x1, .ref 131]) (st := []) d_Fs_findQuarrels_29 ⟨⟨kA_Fs_findQuarrelsOf.1, kA_Fs_findQuarrelsOf.2.1, kA_Fs_findQuarrelsOf.2.2, by decide⟩, ml_Fs_73, kV_Fs_findQuarrelsOf⟩ (eg_134 τ2) rfl rfl (Nat.le_of_ble_eq_true rfl) H (fun τ4 H => ?_)
      refine b_iinc (v := (x3 + (1 : Int32))) (ls' := [some (.ref 134), some (.int x1), some (.ref 131), some (.int (x3 + (1 : Int32)))]) d_Fs_findQuarrels_32 rfl rfl (Nat.le_of_ble_eq_true rfl) rfl ?_
      refine b_goto (tgt := 7) d_Fs_findQuarrels_35 (by decide) ?_
      exact b_mask [true, true, true, true] rfl H
theorem C_Fs_findQuarrels {S : XS} {Q : Int32 → St → Prop} (σ : St) (x1 : Int32) (H : BW S m_Fs_findQuarrels 0 [some (.ref 134), some (.int x1), some (.ref 131), none] [] (enc σ) (qI Q)) : CM S m_Fs_findQuarrels [.ref 134, .int x1, .ref 131] (enc σ) (qI Q) := b_meth (by decide) (Nat.le_of_ble_eq_true rfl) rfl H
theorem d_Fs_foundPair_0 : decode m_Fs_foundPair.2.1 0 = .ok (.iload_n 1, 1) := by decide +kernel
theorem d_Fs_foundPair_1 : decode m_Fs_foundPair.2.1 1 = .ok (.ifCond .lt 11, 3) := by decide +kernel
theorem d_Fs_foundPair_4 : decode m_Fs_foundPair.2.1 4 = .ok (.iload_n 1, 1) := by decide +kernel
theorem d_Fs_foundPair_5 : decode m_Fs_foundPair.2.1 5 = .ok (.aload_n 0, 1) := by decide +kernel
theorem d_Fs_foundPair_6 : decode m_Fs_foundPair.2.1 6 = .ok (.getfield 66, 3) := by decide +kernel
theorem d_Fs_foundPair_9 : decode m_Fs_foundPair.2.1 9 = .ok (.if_icmp .lt 5, 3) := by decide +kernel
theorem d_Fs_foundPair_12 : decode m_Fs_foundPair.2.1 12 = .ok (.iconst (-1), 1) := by decide +kernel
theorem d_Fs_foundPair_13 : decode m_Fs_foundPair.2.1 13 = .ok (.ireturn, 1) := by decide +kernel
theorem d_Fs_foundPair_14 : decode m_Fs_foundPair.2.1 14 = .ok (.iload_n 2, 1) := by decide +kernel
theorem d_Fs_foundPair_15 : decode m_Fs_foundPair.2.1 15 = .ok (.ifCond .ne 10, 3) := by decide +kernel
theorem d_Fs_foundPair_18 : decode m_Fs_foundPair.2.1 18 = .ok (.aload_n 0, 1) := by decide +kernel
theorem d_Fs_foundPair_19 : decode m_Fs_foundPair.2.1 19 = .ok (.getfield 17, 3) := by decide +kernel
theorem d_Fs_foundPair_22 : decode m_Fs_foundPair.2.1 22 = .ok (.iload_n 1, 1) := by decide +kernel
theorem d_Fs_foundPair_23 : decode m_Fs_foundPair.2.1 23 = .ok (.iaload, 1) := by decide +kernel
theorem d_Fs_foundPair_24 : decode m_Fs_foundPair.2.1 24 = .ok (.ireturn, 1) := by decide +kernel
theorem d_Fs_foundPair_25 : decode m_Fs_foundPair.2.1 25 = .ok (.iload_n 2, 1) := by decide +kernel
theorem d_Fs_foundPair_26 : decode m_Fs_foundPair.2.1 26 = .ok (.iconst 1, 1) := by decide +kernel
theorem d_Fs_foundPair_27 : decode m_Fs_foundPair.2.1 27 = .ok (.if_icmp .ne 12, 3) := by decide +kernel
theorem d_Fs_foundPair_30 : decode m_Fs_foundPair.2.1 30 = .ok (.aload_n 0, 1) := by decide +kernel
theorem d_Fs_foundPair_31 : decode m_Fs_foundPair.2.1 31 = .ok (.getfield 21, 3) := by decide +kernel
theorem d_Fs_foundPair_34 : decode m_Fs_foundPair.2.1 34 = .ok (.iload_n 1, 1) := by decide +kernel
theorem d_Fs_foundPair_35 : decode m_Fs_foundPair.2.1 35 = .ok (.iaload, 1) := by decide +kernel
theorem d_Fs_foundPair_36 : decode m_Fs_foundPair.2.1 36 = .ok (.goto 4, 3) := by decide +kernel
theorem d_Fs_foundPair_39 : decode m_Fs_foundPair.2.1 39 = .ok (.iconst (-1), 1) := by decide +kernel
theorem d_Fs_foundPair_40 : decode m_Fs_foundPair.2.1 40 = .ok (.ireturn, 1) := by decide +kernel
set_option maxHeartbeats 4000000 in
set_option maxRecDepth 100000 in
theorem B_Fs_foundPair_0 {S : XS} {Q : Int32 → St → Prop} (σ : St) (x1 : Int32) (x2 : Int32) (H : ((x1 < 0 → Q (-1 : Int32) σ) ∧ (¬ x1 < 0 → ((x1 < (gX σ 16) → ((¬ x2 = 0 → ((¬ x2 = (1 : Int32) → Q (-1 : Int32) σ) ∧ (x2 = (1 : Int32) → (vp_in x1 1770) ∧ Q ((gA σ 12) x1.toNatClampNeg) σ))) ∧ (x2 = 0 → (vp_in x1 1770) ∧ Q ((gA σ 11) x1.toNatClampNeg) σ))) ∧ (¬ x1 < (gX σ 16) → Q (-1 : Int32) σ))))) : BW S m_Fs_foundPair 0 [some (.ref 134), some (.int x1), some (.int x2)] [] (enc σ) (qI Q) := by
  refine b_iload_n d_Fs_foundPair_0 rfl rfl ?_
  refine b_if_lt (tgt := 12) d_Fs_foundPair_1 (by decide) (fun c6 => ?_) (fun c6 => ?_)
  · have H := H.1 c6
    refine b_iconst (v := (-1 : Int32)) d_Fs_foundPair_12 (by decide) ?_
    exact b_iret (ty := .int) d_Fs_foundPair_13 rfl rfl ⟨_, _, rfl, rfl, H⟩
  · have H := H.2 c6
    refine b_iload_n d_Fs_foundPair_4 rfl rfl ?_
    refine b_aload_n d_Fs_foundPair_5 rfl rfl ?_
    refine b_getf (v := .int (gX σ 16)) d_Fs_foundPair_6 fl_Fs_66 (eg_134 σ) rfl ?_
    refine b_icmp_lt (tgt := 14) d_Fs_foundPair_9 (by decide) (fun c5 => ?_) (fun c5 => ?_)
    · have H := H.1 c5
      refine b_iload_n d_Fs_foundPair_14 rfl rfl ?_
      refine b_if_ne (tgt := 25) d_Fs_foundPair_15 (by decide) (fun c4 => ?_) (fun c4 => ?_)
      · have H := H.1 c4
        refine b_iload_n d_Fs_foundPair_25 rfl rfl ?_
        refine b_iconst (v := (1 : Int32)) d_Fs_foundPair_26 (by decide) ?_
        refine b_icmp_ne (tgt := 39) d_Fs_foundPair_27 (by decide) (fun c2 => ?_) (fun c2 => ?_)
        · have H := H.1 c2
          refine b_iconst (v := (-1 : Int32)) d_Fs_foundPair_39 (by decide) ?_
          exact b_iret (ty := .int) d_Fs_foundPair_40 rfl rfl ⟨_, _, rfl, rfl, H⟩
        · have H := H.2 c2
          refine b_aload_n d_Fs_foundPair_30 rfl rfl ?_
          refine b_getf (v := .ref 137) d_Fs_foundPair_31 fl_Fs_21 (eg_134 σ) rfl ?_
          refine b_iload_n d_Fs_foundPair_34 rfl rfl ?_
          obtain ⟨h1, H⟩ := H
          refine b_iald d_Fs_foundPair_35 (eg_137 σ) h1 ?_
          refine b_st2 (st' := [.int ((gA σ 12) x1.toNatClampNeg)]) rfl ?_
          refine b_goto (tgt := 40) d_Fs_foundPair_36 (by decide) ?_
          exact b_iret (ty := .int) d_Fs_foundPair_40 rfl rfl ⟨_, _, rfl, rfl, H⟩
      · have H := H.2 c4
        refine b_aload_n d_Fs_foundPair_18 rfl rfl ?_
        refine b_getf (v := .ref 136) d_Fs_foundPair_19 fl_Fs_17 (eg_134 σ) rfl ?_
        refine b_iload_n d_Fs_foundPair_22 rfl rfl ?_
        obtain ⟨h3, H⟩ := H
        refine b_iald d_Fs_foundPair_23 (eg_136 σ) h3 ?_
        refine b_st2 (st' := [.int ((gA σ 11) x1.toNatClampNeg)]) rfl ?_
        exact b_iret (ty := .int) d_Fs_foundPair_24 rfl rfl ⟨_, _, rfl, rfl, H⟩
    · have H := H.2 c5
      refine b_iconst (v := (-1 : Int32)) d_Fs_foundPair_12 (by decide) ?_
      exact b_iret (ty := .int) d_Fs_foundPair_13 rfl rfl ⟨_, _, rfl, rfl, H⟩
theorem C_Fs_foundPair {S : XS} {Q : Int32 → St → Prop} (σ : St) (x1 : Int32) (x2 : Int32) (H : BW S m_Fs_foundPair 0 [some (.ref 134), some (.int x1), some (.int x2)] [] (enc σ) (qI Q)) : CM S m_Fs_foundPair [.ref 134, .int x1, .int x2] (enc σ) (qI Q) := b_meth (by decide) (Nat.le_of_ble_eq_true rfl) rfl H
theorem d_Fs_findQuarrelsOf_0 : decode m_Fs_findQuarrelsOf.2.1 0 = .ok (.iload_n 1, 1) := by decide +kernel
theorem d_Fs_findQuarrelsOf_1 : decode m_Fs_findQuarrelsOf.2.1 1 = .ok (.iconst 1, 1) := by decide +kernel
theorem d_Fs_findQuarrelsOf_2 : decode m_Fs_findQuarrelsOf.2.1 2 = .ok (.iadd, 1) := by decide +kernel
theorem d_Fs_findQuarrelsOf_3 : decode m_Fs_findQuarrelsOf.2.1 3 = .ok (.istore 4, 2) := by decide +kernel
theorem d_Fs_findQuarrelsOf_5 : decode m_Fs_findQuarrelsOf.2.1 5 = .ok (.iload 4, 2) := by decide +kernel
theorem d_Fs_findQuarrelsOf_7 : decode m_Fs_findQuarrelsOf.2.1 7 = .ok (.aload_n 0, 1) := by decide +kernel
theorem d_Fs_findQuarrelsOf_8 : decode m_Fs_findQuarrelsOf.2.1 8 = .ok (.getfield 39, 3) := by decide +kernel
theorem d_Fs_findQuarrelsOf_11 : decode m_Fs_findQuarrelsOf.2.1 11 = .ok (.if_icmp .ge 73, 3) := by decide +kernel
theorem d_Fs_findQuarrelsOf_14 : decode m_Fs_findQuarrelsOf.2.1 14 = .ok (.aload_n 0, 1) := by decide +kernel
theorem d_Fs_findQuarrelsOf_15 : decode m_Fs_findQuarrelsOf.2.1 15 = .ok (.iload_n 1, 1) := by decide +kernel
theorem d_Fs_findQuarrelsOf_16 : decode m_Fs_findQuarrelsOf.2.1 16 = .ok (.iload 4, 2) := by decide +kernel
theorem d_Fs_findQuarrelsOf_18 : decode m_Fs_findQuarrelsOf.2.1 18 = .ok (.invokevirtual 77, 3) := by decide +kernel
theorem d_Fs_findQuarrelsOf_21 : decode m_Fs_findQuarrelsOf.2.1 21 = .ok (.ifCond .le 57, 3) := by decide +kernel
theorem d_Fs_findQuarrelsOf_24 : decode m_Fs_findQuarrelsOf.2.1 24 = .ok (.aload_n 0, 1) := by decide +kernel
theorem d_Fs_findQuarrelsOf_25 : decode m_Fs_findQuarrelsOf.2.1 25 = .ok (.iload 4, 2) := by decide +kernel
theorem d_Fs_findQuarrelsOf_27 : decode m_Fs_findQuarrelsOf.2.1 27 = .ok (.iload_n 2, 1) := by decide +kernel
theorem d_Fs_findQuarrelsOf_28 : decode m_Fs_findQuarrelsOf.2.1 28 = .ok (.aload_n 3, 1) := by decide +kernel
theorem d_Fs_findQuarrelsOf_29 : decode m_Fs_findQuarrelsOf.2.1 29 = .ok (.invokevirtual 69, 3) := by decide +kernel
theorem d_Fs_findQuarrelsOf_32 : decode m_Fs_findQuarrelsOf.2.1 32 = .ok (.ifCond .eq 46, 3) := by decide +kernel
theorem d_Fs_findQuarrelsOf_35 : decode m_Fs_findQuarrelsOf.2.1 35 = .ok (.aload_n 0, 1) := by decide +kernel
theorem d_Fs_findQuarrelsOf_36 : decode m_Fs_findQuarrelsOf.2.1 36 = .ok (.getfield 66, 3) := by decide +kernel
theorem d_Fs_findQuarrelsOf_39 : decode m_Fs_findQuarrelsOf.2.1 39 = .ok (.aload_n 0, 1) := by decide +kernel
theorem d_Fs_findQuarrelsOf_40 : decode m_Fs_findQuarrelsOf.2.1 40 = .ok (.getfield 17, 3) := by decide +kernel
theorem d_Fs_findQuarrelsOf_43 : decode m_Fs_findQuarrelsOf.2.1 43 = .ok (.arraylength, 1) := by decide +kernel
theorem d_Fs_findQuarrelsOf_44 : decode m_Fs_findQuarrelsOf.2.1 44 = .ok (.if_icmp .ge 34, 3) := by decide +kernel
theorem d_Fs_findQuarrelsOf_47 : decode m_Fs_findQuarrelsOf.2.1 47 = .ok (.aload_n 0, 1) := by decide +kernel
theorem d_Fs_findQuarrelsOf_48 : decode m_Fs_findQuarrelsOf.2.1 48 = .ok (.getfield 17, 3) := by decide +kernel
theorem d_Fs_findQuarrelsOf_51 : decode m_Fs_findQuarrelsOf.2.1 51 = .ok (.aload_n 0, 1) := by decide +kernel
theorem d_Fs_findQuarrelsOf_52 : decode m_Fs_findQuarrelsOf.2.1 52 = .ok (.getfield 66, 3) := by decide +kernel
theorem d_Fs_findQuarrelsOf_55 : decode m_Fs_findQuarrelsOf.2.1 55 = .ok (.iload_n 1, 1) := by decide +kernel
theorem d_Fs_findQuarrelsOf_56 : decode m_Fs_findQuarrelsOf.2.1 56 = .ok (.iastore, 1) := by decide +kernel
theorem d_Fs_findQuarrelsOf_57 : decode m_Fs_findQuarrelsOf.2.1 57 = .ok (.aload_n 0, 1) := by decide +kernel
theorem d_Fs_findQuarrelsOf_58 : decode m_Fs_findQuarrelsOf.2.1 58 = .ok (.getfield 21, 3) := by decide +kernel
theorem d_Fs_findQuarrelsOf_61 : decode m_Fs_findQuarrelsOf.2.1 61 = .ok (.aload_n 0, 1) := by decide +kernel
theorem d_Fs_findQuarrelsOf_62 : decode m_Fs_findQuarrelsOf.2.1 62 = .ok (.getfield 66, 3) := by decide +kernel
theorem d_Fs_findQuarrelsOf_65 : decode m_Fs_findQuarrelsOf.2.1 65 = .ok (.iload 4, 2) := by decide +kernel
theorem d_Fs_findQuarrelsOf_67 : decode m_Fs_findQuarrelsOf.2.1 67 = .ok (.iastore, 1) := by decide +kernel
theorem d_Fs_findQuarrelsOf_68 : decode m_Fs_findQuarrelsOf.2.1 68 = .ok (.aload_n 0, 1) := by decide +kernel
theorem d_Fs_findQuarrelsOf_69 : decode m_Fs_findQuarrelsOf.2.1 69 = .ok (.dup, 1) := by decide +kernel
theorem d_Fs_findQuarrelsOf_70 : decode m_Fs_findQuarrelsOf.2.1 70 = .ok (.getfield 66, 3) := by decide +kernel
theorem d_Fs_findQuarrelsOf_73 : decode m_Fs_findQuarrelsOf.2.1 73 = .ok (.iconst 1, 1) := by decide +kernel
theorem d_Fs_findQuarrelsOf_74 : decode m_Fs_findQuarrelsOf.2.1 74 = .ok (.iadd, 1) := by decide +kernel
theorem d_Fs_findQuarrelsOf_75 : decode m_Fs_findQuarrelsOf.2.1 75 = .ok (.putfield 66, 3) := by decide +kernel
theorem d_Fs_findQuarrelsOf_78 : decode m_Fs_findQuarrelsOf.2.1 78 = .ok (.iinc 4 1, 3) := by decide +kernel
theorem d_Fs_findQuarrelsOf_81 : decode m_Fs_findQuarrelsOf.2.1 81 = .ok (.goto (-76), 3) := by decide +kernel
theorem d_Fs_findQuarrelsOf_84 : decode m_Fs_findQuarrelsOf.2.1 84 = .ok (.return_, 1) := by decide +kernel
set_option maxHeartbeats 4000000 in
set_option maxRecDepth 100000 in
theorem B_Fs_findQuarrelsOf_0 {S : XS} {Q : St → Prop} (σ : St) (x1 : Int32) (x2 : Int32) (H : BW S m_Fs_findQuarrelsOf 5 [some (.ref 134), some (.int x1), some (.int x2), some (.ref 131), some (.int (x1 + (1 : Int32)))] [] (enc σ) (qV Q)) : BW S m_Fs_findQuarrelsOf 0 [some (.ref 134), some (.int x1), some (.int x2), some (.ref 131), none] [] (enc σ) (qV Q) := by
  refine b_iload_n d_Fs_findQuarrelsOf_0 rfl rfl ?_
  refine b_iconst (v := (1 : Int32)) d_Fs_findQuarrelsOf_1 (by decide) ?_
  refine b_iadd d_Fs_findQuarrelsOf_2  ?_
  refine b_istore (ls' := [some (.ref 134), some (.int x1), some (.int x2), some (.ref 131), some (.int (x1 + (1 : Int32)))]) d_Fs_findQuarrelsOf_3 (Nat.le_of_ble_eq_true rfl) rfl ?_
  exact b_mask [true, true, true, true, true] rfl H
set_option maxHeartbeats 4000000 in
set_option maxRecDepth 100000 in
theorem B_Fs_findQuarrelsOf_5 {S : XS} {Q : St → Prop} (σ : St) (x1 : Int32) (x2 : Int32) (x4 : Int32) (H : (((gX σ 15) ≤ x4 → Q σ) ∧ (¬ (gX σ 15) ≤ x4 → CM S m_Fs_quarrelOf [.ref 134, .int x1, .int x4] (enc σ) (qI (fun v1 τ2 => ((v1 ≤ 0 → BW S m_Fs_findQuarrelsOf 5 [some (.ref 134), some (.int x1), some (.int x2), some (.ref 131), some (.int (x4 + (1 : Int32)))] [] (enc τ2) (qV Q)) ∧ (¬ v1 ≤ 0 → CM S m_Fs_stands [.ref 134, .int x4, .int x2, .ref 131] (enc τ2) (qI (fun v3 τ4 => ((v3 = 0 → BW S m_Fs_findQuarrelsOf 5 [some (.ref 134), some (.int x1), some (.int x2), some (.ref 131), some (.int (x4 + (1 : Int32)))] [] (enc τ4) (qV Q)) ∧ (¬ v3 = 0 → (((1770 : Int32) ≤ (gX τ4 16) → BW S m_Fs_findQuarrelsOf 5 [some (.ref 134), some (.int x1), some (.int x2), some (.ref 131), some (.int (x4 + (1 : Int32)))] [] (enc τ4) (qV Q)) ∧ (¬ (1770 : Int32) ≤ (gX τ4 16) → (vp_in (gX τ4 16) 1770) ∧ BW S m_Fs_findQuarrelsOf 5 [some (.ref 134), some (.int x1), some (.int x2), some (.ref 131), some (.int (x4 + (1 : Int32)))] [] (enc (sX (sA (sA τ4 11 (upd (gA τ4 11) (gX τ4 16).toNatClampNeg x1)) 12 (upd (gA τ4 12) (gX τ4 16).toNatClampNeg x4)) 16 ((gX τ4 16) + (1 : Int32)))) (qV Q)))))))))))))) : BW S m_Fs_findQuarrelsOf 5 [some (.ref 134), some (.int x1), some (.int x2), some (.ref 131), some (.int x4)] [] (enc σ) (qV Q) := by
  refine b_iload d_Fs_findQuarrelsOf_5 rfl ?_
  refine b_aload_n d_Fs_findQuarrelsOf_7 rfl rfl ?_
  refine b_getf (v := .int (gX σ 15)) d_Fs_findQuarrelsOf_8 fl_Fs_39 (eg_134 σ) rfl ?_
  refine b_icmp_ge (tgt := 84) d_Fs_findQuarrelsOf_11 (by decide) (fun c9 => ?_) (fun c9 => ?_)
  · have H := H.1 c9
    exact b_vret d_Fs_findQuarrelsOf_84 rfl ⟨_, rfl, rfl, H⟩
  · have H := H.2 c9
    refine b_aload_n d_Fs_findQuarrelsOf_14 rfl rfl ?_
    refine b_iload_n d_Fs_findQuarrelsOf_15 rfl rfl ?_
    refine b_iload d_Fs_findQuarrelsOf_16 rfl ?_
    refine b_callVi (Mc := m_Fs_quarrelOf) (As := [.int x1, .int x4]) (st := []) d_Fs_findQuarrelsOf_18 ⟨⟨kA_Fs_quarrelOf.1, kA_Fs_quarrelOf.2.1, kA_Fs_quarrelOf.2.2, by decide⟩, ml_Fs_77, kV_Fs_quarrelOf⟩ (eg_134 σ) rfl rfl (Nat.le_of_ble_eq_true rfl) H (fun v1 τ2 H => ?_)
    refine b_if_le (tgt := 78) d_Fs_findQuarrelsOf_21 (by decide) (fun c8 => ?_) (fun c8 => ?_)
    · have H := H.1 c8
      refine b_iinc (v := (x4 + (1 : Int32))) (ls' := [some (.ref 134), some (.int x1), some (.int x2), some (.ref 131), some (.int (x4 + (1 : Int32)))]) d_Fs_findQuarrelsOf_78 rfl rfl (Nat.le_of_ble_eq_true rfl) rfl ?_
      refine b_goto (tgt := 5) d_Fs_findQuarrelsOf_81 (by decide) ?_
      exact b_mask [true, true, true, true, true] rfl H
    · have H := H.2 c8
      refine b_aload_n d_Fs_findQuarrelsOf_24 rfl rfl ?_
      refine b_iload d_Fs_findQuarrelsOf_25 rfl ?_
      refine b_iload_n d_Fs_findQuarrelsOf_27 rfl rfl ?_
      refine b_aload_n d_Fs_findQuarrelsOf_28 rfl rfl ?_
      refine b_callVi (Mc := m_Fs_stands) (As := [.int x4, .int x2, .ref 131]) (st := []) d_Fs_findQuarrelsOf_29 ⟨⟨kA_Fs_stands.1, kA_Fs_stands.2.1, kA_Fs_stands.2.2, by decide⟩, ml_Fs_69, kV_Fs_stands⟩ (eg_134 τ2) rfl rfl (Nat.le_of_ble_eq_true rfl) H (fun v3 τ4 H => ?_)
      refine b_if_eq (tgt := 78) d_Fs_findQuarrelsOf_32 (by decide) (fun c7 => ?_) (fun c7 => ?_)
      · have H := H.1 c7
        refine b_iinc (v := (x4 + (1 : Int32))) (ls' := [some (.ref 134), some (.int x1), some (.int x2), some (.ref 131), some (.int (x4 + (1 : Int32)))]) d_Fs_findQuarrelsOf_78 rfl rfl (Nat.le_of_ble_eq_true rfl) rfl ?_
        refine b_goto (tgt := 5) d_Fs_findQuarrelsOf_81 (by decide) ?_
        exact b_mask [true, true, true, true, true] rfl H
      · have H := H.2 c7
        refine b_aload_n d_Fs_findQuarrelsOf_35 rfl rfl ?_
        refine b_getf (v := .int (gX τ4 16)) d_Fs_findQuarrelsOf_36 fl_Fs_66 (eg_134 τ4) rfl ?_
        refine b_aload_n d_Fs_findQuarrelsOf_39 rfl rfl ?_
        refine b_getf (v := .ref 136) d_Fs_findQuarrelsOf_40 fl_Fs_17 (eg_134 τ4) rfl ?_
        refine b_alen (v := (1770 : Int32)) d_Fs_findQuarrelsOf_43 (eg_136 τ4) (by decide) (by decide) ?_
        refine b_icmp_ge (tgt := 78) d_Fs_findQuarrelsOf_44 (by decide) (fun c6 => ?_) (fun c6 => ?_)
        · have H := H.1 c6
          refine b_iinc (v := (x4 + (1 : Int32))) (ls' := [some (.ref 134), some (.int x1), some (.int x2), some (.ref 131), some (.int (x4 + (1 : Int32)))]) d_Fs_findQuarrelsOf_78 rfl rfl (Nat.le_of_ble_eq_true rfl) rfl ?_
          refine b_goto (tgt := 5) d_Fs_findQuarrelsOf_81 (by decide) ?_
          exact b_mask [true, true, true, true, true] rfl H
        · have H := H.2 c6
          refine b_aload_n d_Fs_findQuarrelsOf_47 rfl rfl ?_
          refine b_getf (v := .ref 136) d_Fs_findQuarrelsOf_48 fl_Fs_17 (eg_134 τ4) rfl ?_
          refine b_aload_n d_Fs_findQuarrelsOf_51 rfl rfl ?_
          refine b_getf (v := .int (gX τ4 16)) d_Fs_findQuarrelsOf_52 fl_Fs_66 (eg_134 τ4) rfl ?_
          refine b_iload_n d_Fs_findQuarrelsOf_55 rfl rfl ?_
          obtain ⟨h5, H⟩ := H
          refine b_iast (h1 := enc (sA τ4 11 (upd (gA τ4 11) (gX τ4 16).toNatClampNeg x1))) d_Fs_findQuarrelsOf_56 (eg_136 τ4) h5 (es_136 τ4 (upd (gA τ4 11) (gX τ4 16).toNatClampNeg x1)) ?_
          refine b_aload_n d_Fs_findQuarrelsOf_57 rfl rfl ?_
          refine b_getf (v := .ref 137) d_Fs_findQuarrelsOf_58 fl_Fs_21 (eg_134 (sA τ4 11 (upd (gA τ4 11) (gX τ4 16).toNatClampNeg x1))) rfl ?_
          refine b_aload_n d_Fs_findQuarrelsOf_61 rfl rfl ?_
          refine b_getf (v := .int (gX τ4 16)) d_Fs_findQuarrelsOf_62 fl_Fs_66 (eg_134 (sA τ4 11 (upd (gA τ4 11) (gX τ4 16).toNatClampNeg x1))) rfl ?_
          refine b_iload d_Fs_findQuarrelsOf_65 rfl ?_
          refine b_iast (h1 := enc (sA (sA τ4 11 (upd (gA τ4 11) (gX τ4 16).toNatClampNeg x1)) 12 (upd (gA τ4 12) (gX τ4 16).toNatClampNeg x4))) d_Fs_findQuarrelsOf_67 (eg_137 (sA τ4 11 (upd (gA τ4 11) (gX τ4 16).toNatClampNeg x1))) h5 (es_137 (sA τ4 11 (upd (gA τ4 11) (gX τ4 16).toNatClampNeg x1)) (upd (gA τ4 12) (gX τ4 16).toNatClampNeg x4)) ?_
          refine b_aload_n d_Fs_findQuarrelsOf_68 rfl rfl ?_
          refine b_dup d_Fs_findQuarrelsOf_69 rfl ?_
          refine b_getf (v := .int (gX τ4 16)) d_Fs_findQuarrelsOf_70 fl_Fs_66 (eg_134 (sA (sA τ4 11 (upd (gA τ4 11) (gX τ4 16).toNatClampNeg x1)) 12 (upd (gA τ4 12) (gX τ4 16).toNatClampNeg x4))) rfl ?_
          refine b_iconst (v := (1 : Int32)) d_Fs_findQuarrelsOf_73 (by decide) ?_
          refine b_iadd d_Fs_findQuarrelsOf_74  ?_
          refine b_putf (ty := .int) (h1 := enc (sX (sA (sA τ4 11 (upd (gA τ4 11) (gX τ4 16).toNatClampNeg x1)) 12 (upd (gA τ4 12) (gX τ4 16).toNatClampNeg x4)) 16 ((gX τ4 16) + (1 : Int32)))) d_Fs_findQuarrelsOf_75 fl_Fs_66 ft_4_5 (fun _ => ⟨rfl, rfl⟩) (eg_134 (sA (sA τ4 11 (upd (gA τ4 11) (gX τ4 16).toNatClampNeg x1)) 12 (upd (gA τ4 12) (gX τ4 16).toNatClampNeg x4))) (Nat.le_of_ble_eq_true rfl) (es_134_5 (sA (sA τ4 11 (upd (gA τ4 11) (gX τ4 16).toNatClampNeg x1)) 12 (upd (gA τ4 12) (gX τ4 16).toNatClampNeg x4)) ((gX τ4 16) + (1 : Int32))) ?_
          refine b_iinc (v := (x4 + (1 : Int32))) (ls' := [some (.ref 134), some (.int x1), some (.int x2), some (.ref 131), some (.int (x4 + (1 : Int32)))]) d_Fs_findQuarrelsOf_78 rfl rfl (Nat.le_of_ble_eq_true rfl) rfl ?_
          refine b_goto (tgt := 5) d_Fs_findQuarrelsOf_81 (by decide) ?_
          exact b_mask [true, true, true, true, true] rfl H
theorem C_Fs_findQuarrelsOf {S : XS} {Q : St → Prop} (σ : St) (x1 : Int32) (x2 : Int32) (H : BW S m_Fs_findQuarrelsOf 0 [some (.ref 134), some (.int x1), some (.int x2), some (.ref 131), none] [] (enc σ) (qV Q)) : CM S m_Fs_findQuarrelsOf [.ref 134, .int x1, .int x2, .ref 131] (enc σ) (qV Q) := b_meth (by decide) (Nat.le_of_ble_eq_true rfl) rfl H
theorem d_Fs_stands_0 : decode m_Fs_stands.2.1 0 = .ok (.aload_n 0, 1) := by decide +kernel
theorem d_Fs_stands_1 : decode m_Fs_stands.2.1 1 = .ok (.iload_n 1, 1) := by decide +kernel
theorem d_Fs_stands_2 : decode m_Fs_stands.2.1 2 = .ok (.invokevirtual 49, 3) := by decide +kernel
theorem d_Fs_stands_5 : decode m_Fs_stands.2.1 5 = .ok (.astore 4, 2) := by decide +kernel
theorem d_Fs_stands_7 : decode m_Fs_stands.2.1 7 = .ok (.aload 4, 2) := by decide +kernel
theorem d_Fs_stands_9 : decode m_Fs_stands.2.1 9 = .ok (.ifnull 28, 3) := by decide +kernel
theorem d_Fs_stands_12 : decode m_Fs_stands.2.1 12 = .ok (.aload 4, 2) := by decide +kernel
theorem d_Fs_stands_14 : decode m_Fs_stands.2.1 14 = .ok (.iload_n 2, 1) := by decide +kernel
theorem d_Fs_stands_15 : decode m_Fs_stands.2.1 15 = .ok (.aload_n 3, 1) := by decide +kernel
theorem d_Fs_stands_16 : decode m_Fs_stands.2.1 16 = .ok (.aload 4, 2) := by decide +kernel
theorem d_Fs_stands_18 : decode m_Fs_stands.2.1 18 = .ok (.getfield 43, 3) := by decide +kernel
theorem d_Fs_stands_21 : decode m_Fs_stands.2.1 21 = .ok (.invokevirtual 81, 3) := by decide +kernel
theorem d_Fs_stands_24 : decode m_Fs_stands.2.1 24 = .ok (.invokestatic 85, 3) := by decide +kernel
theorem d_Fs_stands_27 : decode m_Fs_stands.2.1 27 = .ok (.invokevirtual 90, 3) := by decide +kernel
theorem d_Fs_stands_30 : decode m_Fs_stands.2.1 30 = .ok (.ifCond .eq 7, 3) := by decide +kernel
theorem d_Fs_stands_33 : decode m_Fs_stands.2.1 33 = .ok (.iconst 1, 1) := by decide +kernel
theorem d_Fs_stands_34 : decode m_Fs_stands.2.1 34 = .ok (.goto 4, 3) := by decide +kernel
theorem d_Fs_stands_37 : decode m_Fs_stands.2.1 37 = .ok (.iconst 0, 1) := by decide +kernel
theorem d_Fs_stands_38 : decode m_Fs_stands.2.1 38 = .ok (.ireturn, 1) := by decide +kernel
set_option maxHeartbeats 4000000 in
set_option maxRecDepth 100000 in
theorem B_Fs_stands_0 {S : XS} {Q : Int32 → St → Prop} (σ : St) (x1 : Int32) (x2 : Int32) (H : CM S m_Fs_numbered [.ref 134, .int x1] (enc σ) (qR (fun v1 τ2 => ((v1 = none → Q (0 : Int32) τ2) ∧ (∀ q3, v1 = some q3 → (isFa τ2 q3) ∧ CM S m_Pa_lastEdition [.ref 131, .int (fI τ2 q3 4)] (enc τ2) (qI (fun v5 τ6 => (isFa τ6 q3) ∧ CM S m_Fa_standsIn [.ref q3, .int (if v5 < x2 then v5 else x2)] (enc τ6) (qI (fun v7 τ8 => ((v7 = 0 → Q (0 : Int32) τ8) ∧ (¬ v7 = 0 → Q (1 : Int32) τ8))))))))))) : BW S m_Fs_stands 0 [some (.ref 134), some (.int x1), some (.int x2), some (.ref 131), none] [] (enc σ) (qI Q) := by
  refine b_aload_n d_Fs_stands_0 rfl rfl ?_
  refine b_iload_n d_Fs_stands_1 rfl rfl ?_
  refine b_callVr (Mc := m_Fs_numbered) (As := [.int x1]) (st := []) d_Fs_stands_2 ⟨⟨kA_Fs_numbered.1, kA_Fs_numbered.2.1, kA_Fs_numbered.2.2, by decide⟩, ml_Fs_49, kV_Fs_numbered⟩ (eg_134 σ) rfl rfl (Nat.le_of_ble_eq_true rfl) H (fun v1 τ2 H => ?_)
  rcases v1 with _ | q3
  · have H := H.1 rfl
    refine b_astoreN (ls' := [some (.ref 134), some (.int x1), some (.int x2), some (.ref 131), some (.null)]) d_Fs_stands_5 (Nat.le_of_ble_eq_true rfl) rfl ?_
    refine b_aloadN d_Fs_stands_7 rfl ?_
    refine b_ifnullN (tgt := 37) d_Fs_stands_9 (by decide) ?_
    refine b_iconst (v := (0 : Int32)) d_Fs_stands_37 (by decide) ?_
    exact b_iret (ty := .boolean) d_Fs_stands_38 rfl rfl ⟨_, _, rfl, rfl, H⟩
  · have H := H.2 q3 rfl
    refine b_astore (ls' := [some (.ref 134), some (.int x1), some (.int x2), some (.ref 131), some (.ref q3)]) d_Fs_stands_5 (Nat.le_of_ble_eq_true rfl) rfl ?_
    refine b_aload d_Fs_stands_7 rfl ?_
    refine b_ifnull d_Fs_stands_9 ?_
    refine b_aload d_Fs_stands_12 rfl ?_
    refine b_iload_n d_Fs_stands_14 rfl rfl ?_
    refine b_aload_n d_Fs_stands_15 rfl rfl ?_
    refine b_aload d_Fs_stands_16 rfl ?_
    obtain ⟨h4, H⟩ := H
    refine b_getfN (v := .int (fI τ2 q3 4)) d_Fs_stands_18 fn_Fs_43 (eF τ2 h4) rfl ?_
    refine b_callVi (Mc := m_Pa_lastEdition) (As := [.int (fI τ2 q3 4)]) (st := [.int x2, .ref q3]) d_Fs_stands_21 ⟨⟨kA_Pa_lastEdition.1, kA_Pa_lastEdition.2.1, kA_Pa_lastEdition.2.2, by decide⟩, ml_Fs_81, kV_Pa_lastEdition⟩ (eg_131 τ2) rfl rfl (Nat.le_of_ble_eq_true rfl) H (fun v5 τ6 H => ?_)
    refine b_minI d_Fs_stands_24 ml_Fs_85 (Nat.le_of_ble_eq_true rfl) ⟨by decide, by decide⟩ ?_
    obtain ⟨h9, H⟩ := H
    refine b_callVi (Mc := m_Fa_standsIn) (As := [.int (if v5 < x2 then v5 else x2)]) (st := []) d_Fs_stands_27 ⟨⟨kA_Fa_standsIn.1, kA_Fa_standsIn.2.1, kA_Fa_standsIn.2.2, by decide⟩, ml_Fs_90, kV_Fa_standsIn⟩ (eF τ6 h9) rfl rfl (Nat.le_of_ble_eq_true rfl) H (fun v7 τ8 H => ?_)
    refine b_if_eq (tgt := 37) d_Fs_stands_30 (by decide) (fun c10 => ?_) (fun c10 => ?_)
    · have H := H.1 c10
      refine b_iconst (v := (0 : Int32)) d_Fs_stands_37 (by decide) ?_
      exact b_iret (ty := .boolean) d_Fs_stands_38 rfl rfl ⟨_, _, rfl, rfl, H⟩
    · have H := H.2 c10
      refine b_iconst (v := (1 : Int32)) d_Fs_stands_33 (by decide) ?_
      refine b_goto (tgt := 38) d_Fs_stands_34 (by decide) ?_
      exact b_iret (ty := .boolean) d_Fs_stands_38 rfl rfl ⟨_, _, rfl, rfl, H⟩
theorem C_Fs_stands {S : XS} {Q : Int32 → St → Prop} (σ : St) (x1 : Int32) (x2 : Int32) (H : BW S m_Fs_stands 0 [some (.ref 134), some (.int x1), some (.int x2), some (.ref 131), none] [] (enc σ) (qI Q)) : CM S m_Fs_stands [.ref 134, .int x1, .int x2, .ref 131] (enc σ) (qI Q) := b_meth (by decide) (Nat.le_of_ble_eq_true rfl) rfl H
theorem d_Fs_numbered_0 : decode m_Fs_numbered.2.1 0 = .ok (.iload_n 1, 1) := by decide +kernel
theorem d_Fs_numbered_1 : decode m_Fs_numbered.2.1 1 = .ok (.ifCond .lt 11, 3) := by decide +kernel
theorem d_Fs_numbered_4 : decode m_Fs_numbered.2.1 4 = .ok (.iload_n 1, 1) := by decide +kernel
theorem d_Fs_numbered_5 : decode m_Fs_numbered.2.1 5 = .ok (.aload_n 0, 1) := by decide +kernel
theorem d_Fs_numbered_6 : decode m_Fs_numbered.2.1 6 = .ok (.getfield 39, 3) := by decide +kernel
theorem d_Fs_numbered_9 : decode m_Fs_numbered.2.1 9 = .ok (.if_icmp .lt 7, 3) := by decide +kernel
theorem d_Fs_numbered_12 : decode m_Fs_numbered.2.1 12 = .ok (.aconst_null, 1) := by decide +kernel
theorem d_Fs_numbered_13 : decode m_Fs_numbered.2.1 13 = .ok (.goto 9, 3) := by decide +kernel
theorem d_Fs_numbered_16 : decode m_Fs_numbered.2.1 16 = .ok (.aload_n 0, 1) := by decide +kernel
theorem d_Fs_numbered_17 : decode m_Fs_numbered.2.1 17 = .ok (.getfield 13, 3) := by decide +kernel
theorem d_Fs_numbered_20 : decode m_Fs_numbered.2.1 20 = .ok (.iload_n 1, 1) := by decide +kernel
theorem d_Fs_numbered_21 : decode m_Fs_numbered.2.1 21 = .ok (.aaload, 1) := by decide +kernel
theorem d_Fs_numbered_22 : decode m_Fs_numbered.2.1 22 = .ok (.areturn, 1) := by decide +kernel
set_option maxHeartbeats 4000000 in
set_option maxRecDepth 100000 in
theorem B_Fs_numbered_0 {S : XS} {Q : Option Nat → St → Prop} (σ : St) (x1 : Int32) (H : ((x1 < 0 → Q none σ) ∧ (¬ x1 < 0 → ((x1 < (gX σ 15) → (vp_in x1 60) ∧ Q ((gF σ) x1.toNatClampNeg) σ) ∧ (¬ x1 < (gX σ 15) → Q none σ))))) : BW S m_Fs_numbered 0 [some (.ref 134), some (.int x1)] [] (enc σ) (qR Q) := by
  refine b_iload_n d_Fs_numbered_0 rfl rfl ?_
  refine b_if_lt (tgt := 12) d_Fs_numbered_1 (by decide) (fun c3 => ?_) (fun c3 => ?_)
  · have H := H.1 c3
    refine b_anull d_Fs_numbered_12 ?_
    refine b_goto (tgt := 22) d_Fs_numbered_13 (by decide) ?_
    exact b_aretO (v := none) d_Fs_numbered_22 rfl ⟨_, _, rfl, rfl, H⟩
  · have H := H.2 c3
    refine b_iload_n d_Fs_numbered_4 rfl rfl ?_
    refine b_aload_n d_Fs_numbered_5 rfl rfl ?_
    refine b_getf (v := .int (gX σ 15)) d_Fs_numbered_6 fl_Fs_39 (eg_134 σ) rfl ?_
    refine b_icmp_lt (tgt := 16) d_Fs_numbered_9 (by decide) (fun c2 => ?_) (fun c2 => ?_)
    · have H := H.1 c2
      refine b_aload_n d_Fs_numbered_16 rfl rfl ?_
      refine b_getf (v := .ref 135) d_Fs_numbered_17 fl_Fs_13 (eg_134 σ) rfl ?_
      refine b_iload_n d_Fs_numbered_20 rfl rfl ?_
      obtain ⟨h1, H⟩ := H
      refine b_aald d_Fs_numbered_21 (eg_135 σ) ⟨by decide, by decide⟩ h1 ?_
      exact b_aretO (v := ((gF σ) x1.toNatClampNeg)) d_Fs_numbered_22 rfl ⟨_, _, rfl, rfl, H⟩
    · have H := H.2 c2
      refine b_anull d_Fs_numbered_12 ?_
      refine b_goto (tgt := 22) d_Fs_numbered_13 (by decide) ?_
      exact b_aretO (v := none) d_Fs_numbered_22 rfl ⟨_, _, rfl, rfl, H⟩
theorem C_Fs_numbered {S : XS} {Q : Option Nat → St → Prop} (σ : St) (x1 : Int32) (H : BW S m_Fs_numbered 0 [some (.ref 134), some (.int x1)] [] (enc σ) (qR Q)) : CM S m_Fs_numbered [.ref 134, .int x1] (enc σ) (qR Q) := b_meth (by decide) (Nat.le_of_ble_eq_true rfl) rfl H
