/-! block rules, by program -/
theorem d_As_readDraft_0 : decode m_As_readDraft.2.1 0 = .ok (.aload_n 0, 1) := by decide +kernel
theorem d_As_readDraft_1 : decode m_As_readDraft.2.1 1 = .ok (.getfield 18, 3) := by decide +kernel
theorem d_As_readDraft_4 : decode m_As_readDraft.2.1 4 = .ok (.aload_n 1, 1) := by decide +kernel
theorem d_As_readDraft_5 : decode m_As_readDraft.2.1 5 = .ok (.invokevirtual 22, 3) := by decide +kernel
theorem d_As_readDraft_8 : decode m_As_readDraft.2.1 8 = .ok (.aload_n 1, 1) := by decide +kernel
theorem d_As_readDraft_9 : decode m_As_readDraft.2.1 9 = .ok (.invokevirtual 26, 3) := by decide +kernel
theorem d_As_readDraft_12 : decode m_As_readDraft.2.1 12 = .ok (.ifCond .ne 7, 3) := by decide +kernel
theorem d_As_readDraft_15 : decode m_As_readDraft.2.1 15 = .ok (.iconst 1, 1) := by decide +kernel
theorem d_As_readDraft_16 : decode m_As_readDraft.2.1 16 = .ok (.goto 4, 3) := by decide +kernel
theorem d_As_readDraft_19 : decode m_As_readDraft.2.1 19 = .ok (.iconst 0, 1) := by decide +kernel
theorem d_As_readDraft_20 : decode m_As_readDraft.2.1 20 = .ok (.ireturn, 1) := by decide +kernel
set_option maxHeartbeats 4000000 in
set_option maxRecDepth 100000 in
theorem B_As_readDraft_0 {S : XS} {Q : Int32 → St → Prop} (σ : St)  (H : (isAg σ (gg σ)) ∧ CM S m_Ag_readFrom [.ref (gg σ), .ref 1] (enc σ) (qV (fun τ2 => CM S m_Tp_failed [.ref 1] (enc τ2) (qI (fun v4 τ5 => ((¬ v4 = 0 → Q (0 : Int32) τ5) ∧ (v4 = 0 → Q (1 : Int32) τ5))))))) : BW S m_As_readDraft 0 [some (.ref 139), some (.ref 1)] [] (enc σ) (qI Q) := by
  refine b_aload_n d_As_readDraft_0 rfl rfl ?_
  refine b_getf (v := .ref (gg σ)) d_As_readDraft_1 fl_As_18 (eg_139 σ) rfl ?_
  refine b_aload_n d_As_readDraft_4 rfl rfl ?_
  obtain ⟨h3, H⟩ := H
  refine b_callVv (Mc := m_Ag_readFrom) (As := [.ref 1]) (st := []) d_As_readDraft_5 ⟨⟨kA_Ag_readFrom.1, kA_Ag_readFrom.2.1, kA_Ag_readFrom.2.2, by decide⟩, ml_As_22, kV_Ag_readFrom⟩ (eA σ h3) rfl rfl (Nat.le_of_ble_eq_true rfl) H (fun τ2 H => ?_)
  refine b_aload_n d_As_readDraft_8 rfl rfl ?_
  refine b_callVi (Mc := m_Tp_failed) (As := []) (st := []) d_As_readDraft_9 ⟨⟨kA_Tp_failed.1, kA_Tp_failed.2.1, kA_Tp_failed.2.2, by decide⟩, ml_As_26, kV_Tp_failed⟩ (eg_1 τ2) rfl rfl (Nat.le_of_ble_eq_true rfl) H (fun v4 τ5 H => ?_)
  refine b_if_ne (tgt := 19) d_As_readDraft_12 (by decide) (fun c6 => ?_) (fun c6 => ?_)
  · have H := H.1 c6
    refine b_iconst (v := (0 : Int32)) d_As_readDraft_19 (by decide) ?_
    exact b_iret (ty := .boolean) d_As_readDraft_20 rfl rfl ⟨_, _, rfl, rfl, H⟩
  · have H := H.2 c6
    refine b_iconst (v := (1 : Int32)) d_As_readDraft_15 (by decide) ?_
    refine b_goto (tgt := 20) d_As_readDraft_16 (by decide) ?_
    exact b_iret (ty := .boolean) d_As_readDraft_20 rfl rfl ⟨_, _, rfl, rfl, H⟩
theorem C_As_readDraft {S : XS} {Q : Int32 → St → Prop} (σ : St)  (H : BW S m_As_readDraft 0 [some (.ref 139), some (.ref 1)] [] (enc σ) (qI Q)) : CM S m_As_readDraft [.ref 139, .ref 1] (enc σ) (qI Q) := b_meth (by decide) (Nat.le_of_ble_eq_true rfl) rfl H
theorem d_As_latestFor_0 : decode m_As_latestFor.2.1 0 = .ok (.aload_n 0, 1) := by decide +kernel
theorem d_As_latestFor_1 : decode m_As_latestFor.2.1 1 = .ok (.getfield 32, 3) := by decide +kernel
theorem d_As_latestFor_4 : decode m_As_latestFor.2.1 4 = .ok (.iconst 1, 1) := by decide +kernel
theorem d_As_latestFor_5 : decode m_As_latestFor.2.1 5 = .ok (.isub, 1) := by decide +kernel
theorem d_As_latestFor_6 : decode m_As_latestFor.2.1 6 = .ok (.istore_n 2, 1) := by decide +kernel
theorem d_As_latestFor_7 : decode m_As_latestFor.2.1 7 = .ok (.iload_n 2, 1) := by decide +kernel
theorem d_As_latestFor_8 : decode m_As_latestFor.2.1 8 = .ok (.ifCond .lt 29, 3) := by decide +kernel
theorem d_As_latestFor_11 : decode m_As_latestFor.2.1 11 = .ok (.aload_n 0, 1) := by decide +kernel
theorem d_As_latestFor_12 : decode m_As_latestFor.2.1 12 = .ok (.iload_n 2, 1) := by decide +kernel
theorem d_As_latestFor_13 : decode m_As_latestFor.2.1 13 = .ok (.invokevirtual 39, 3) := by decide +kernel
theorem d_As_latestFor_16 : decode m_As_latestFor.2.1 16 = .ok (.astore_n 3, 1) := by decide +kernel
theorem d_As_latestFor_17 : decode m_As_latestFor.2.1 17 = .ok (.aload_n 3, 1) := by decide +kernel
theorem d_As_latestFor_18 : decode m_As_latestFor.2.1 18 = .ok (.ifnull 13, 3) := by decide +kernel
theorem d_As_latestFor_21 : decode m_As_latestFor.2.1 21 = .ok (.aload_n 3, 1) := by decide +kernel
theorem d_As_latestFor_22 : decode m_As_latestFor.2.1 22 = .ok (.getfield 36, 3) := by decide +kernel
theorem d_As_latestFor_25 : decode m_As_latestFor.2.1 25 = .ok (.iload_n 1, 1) := by decide +kernel
theorem d_As_latestFor_26 : decode m_As_latestFor.2.1 26 = .ok (.if_icmp .gt 5, 3) := by decide +kernel
theorem d_As_latestFor_29 : decode m_As_latestFor.2.1 29 = .ok (.iload_n 2, 1) := by decide +kernel
theorem d_As_latestFor_30 : decode m_As_latestFor.2.1 30 = .ok (.ireturn, 1) := by decide +kernel
theorem d_As_latestFor_31 : decode m_As_latestFor.2.1 31 = .ok (.iinc 2 (-1), 3) := by decide +kernel
theorem d_As_latestFor_34 : decode m_As_latestFor.2.1 34 = .ok (.goto (-27), 3) := by decide +kernel
theorem d_As_latestFor_37 : decode m_As_latestFor.2.1 37 = .ok (.iconst (-1), 1) := by decide +kernel
theorem d_As_latestFor_38 : decode m_As_latestFor.2.1 38 = .ok (.ireturn, 1) := by decide +kernel
set_option maxHeartbeats 4000000 in
set_option maxRecDepth 100000 in
theorem B_As_latestFor_0 {S : XS} {Q : Int32 → St → Prop} (σ : St) (x1 : Int32) (H : BW S m_As_latestFor 7 [some (.ref 139), some (.int x1), some (.int ((gX σ 17) - (1 : Int32))), none] [] (enc σ) (qI Q)) : BW S m_As_latestFor 0 [some (.ref 139), some (.int x1), none, none] [] (enc σ) (qI Q) := by
  refine b_aload_n d_As_latestFor_0 rfl rfl ?_
  refine b_getf (v := .int (gX σ 17)) d_As_latestFor_1 fl_As_32 (eg_139 σ) rfl ?_
  refine b_iconst (v := (1 : Int32)) d_As_latestFor_4 (by decide) ?_
  refine b_isub d_As_latestFor_5  ?_
  refine b_istore_n (ls' := [some (.ref 139), some (.int x1), some (.int ((gX σ 17) - (1 : Int32))), none]) d_As_latestFor_6 rfl (Nat.le_of_ble_eq_true rfl) rfl ?_
  exact b_mask [true, true, true, true] rfl H
set_option maxHeartbeats 4000000 in
set_option maxRecDepth 100000 in
theorem B_As_latestFor_7 {S : XS} {Q : Int32 → St → Prop} (σ : St) (x1 : Int32) (x2 : Int32) (H : ((x2 < 0 → Q (-1 : Int32) σ) ∧ (¬ x2 < 0 → CM S m_As_numbered [.ref 139, .int x2] (enc σ) (qR (fun v1 τ2 => ((v1 = none → BW S m_As_latestFor 7 [some (.ref 139), some (.int x1), some (.int (x2 + (-1 : Int32))), none] [] (enc τ2) (qI Q)) ∧ (∀ q3, v1 = some q3 → (isAg τ2 q3) ∧ ((x1 < (fI τ2 q3 4) → BW S m_As_latestFor 7 [some (.ref 139), some (.int x1), some (.int (x2 + (-1 : Int32))), none] [] (enc τ2) (qI Q)) ∧ (¬ x1 < (fI τ2 q3 4) → Q x2 τ2))))))))) : BW S m_As_latestFor 7 [some (.ref 139), some (.int x1), some (.int x2), none] [] (enc σ) (qI Q) := by
  refine b_iload_n d_As_latestFor_7 rfl rfl ?_
  refine b_if_lt (tgt := 37) d_As_latestFor_8 (by decide) (fun c6 => ?_) (fun c6 => ?_)
  · have H := H.1 c6
    refine b_iconst (v := (-1 : Int32)) d_As_latestFor_37 (by decide) ?_
    exact b_iret (ty := .int) d_As_latestFor_38 rfl rfl ⟨_, _, rfl, rfl, H⟩
  · have H := H.2 c6
    refine b_aload_n d_As_latestFor_11 rfl rfl ?_
    refine b_iload_n d_As_latestFor_12 rfl rfl ?_
    refine b_callVr (Mc := m_As_numbered) (As := [.int x2]) (st := []) d_As_latestFor_13 ⟨⟨kA_As_numbered.1, kA_As_numbered.2.1, kA_As_numbered.2.2, by decide⟩, ml_As_39, kV_As_numbered⟩ (eg_139 σ) rfl rfl (Nat.le_of_ble_eq_true rfl) H (fun v1 τ2 H => ?_)
    rcases v1 with _ | q3
    · have H := H.1 rfl
      refine b_astore_nN (ls' := [some (.ref 139), some (.int x1), some (.int x2), some (.null)]) d_As_latestFor_16 rfl (Nat.le_of_ble_eq_true rfl) rfl ?_
      refine b_aload_nN d_As_latestFor_17 rfl rfl ?_
      refine b_ifnullN (tgt := 31) d_As_latestFor_18 (by decide) ?_
      refine b_iinc (v := (x2 + (-1 : Int32))) (ls' := [some (.ref 139), some (.int x1), some (.int (x2 + (-1 : Int32))), some (.null)]) d_As_latestFor_31 rfl rfl (Nat.le_of_ble_eq_true rfl) rfl ?_
      refine b_goto (tgt := 7) d_As_latestFor_34 (by decide) ?_
      exact b_mask [true, true, true, false] rfl H
    · have H := H.2 q3 rfl
      refine b_astore_n (ls' := [some (.ref 139), some (.int x1), some (.int x2), some (.ref q3)]) d_As_latestFor_16 rfl (Nat.le_of_ble_eq_true rfl) rfl ?_
      refine b_aload_n d_As_latestFor_17 rfl rfl ?_
      refine b_ifnull d_As_latestFor_18 ?_
      refine b_aload_n d_As_latestFor_21 rfl rfl ?_
      obtain ⟨h4, H⟩ := H
      refine b_getfN (v := .int (fI τ2 q3 4)) d_As_latestFor_22 fn_As_36 (eA τ2 h4) rfl ?_
      refine b_iload_n d_As_latestFor_25 rfl rfl ?_
      refine b_icmp_gt (tgt := 31) d_As_latestFor_26 (by decide) (fun c5 => ?_) (fun c5 => ?_)
      · have H := H.1 c5
        refine b_iinc (v := (x2 + (-1 : Int32))) (ls' := [some (.ref 139), some (.int x1), some (.int (x2 + (-1 : Int32))), some (.ref q3)]) d_As_latestFor_31 rfl rfl (Nat.le_of_ble_eq_true rfl) rfl ?_
        refine b_goto (tgt := 7) d_As_latestFor_34 (by decide) ?_
        exact b_mask [true, true, true, false] rfl H
      · have H := H.2 c5
        refine b_iload_n d_As_latestFor_29 rfl rfl ?_
        exact b_iret (ty := .int) d_As_latestFor_30 rfl rfl ⟨_, _, rfl, rfl, H⟩
theorem C_As_latestFor {S : XS} {Q : Int32 → St → Prop} (σ : St) (x1 : Int32) (H : BW S m_As_latestFor 0 [some (.ref 139), some (.int x1), none, none] [] (enc σ) (qI Q)) : CM S m_As_latestFor [.ref 139, .int x1] (enc σ) (qI Q) := b_meth (by decide) (Nat.le_of_ble_eq_true rfl) rfl H
theorem d_As_numbered_0 : decode m_As_numbered.2.1 0 = .ok (.iload_n 1, 1) := by decide +kernel
theorem d_As_numbered_1 : decode m_As_numbered.2.1 1 = .ok (.ifCond .lt 11, 3) := by decide +kernel
theorem d_As_numbered_4 : decode m_As_numbered.2.1 4 = .ok (.iload_n 1, 1) := by decide +kernel
theorem d_As_numbered_5 : decode m_As_numbered.2.1 5 = .ok (.aload_n 0, 1) := by decide +kernel
theorem d_As_numbered_6 : decode m_As_numbered.2.1 6 = .ok (.getfield 32, 3) := by decide +kernel
theorem d_As_numbered_9 : decode m_As_numbered.2.1 9 = .ok (.if_icmp .lt 7, 3) := by decide +kernel
theorem d_As_numbered_12 : decode m_As_numbered.2.1 12 = .ok (.aconst_null, 1) := by decide +kernel
theorem d_As_numbered_13 : decode m_As_numbered.2.1 13 = .ok (.goto 9, 3) := by decide +kernel
theorem d_As_numbered_16 : decode m_As_numbered.2.1 16 = .ok (.aload_n 0, 1) := by decide +kernel
theorem d_As_numbered_17 : decode m_As_numbered.2.1 17 = .ok (.getfield 13, 3) := by decide +kernel
theorem d_As_numbered_20 : decode m_As_numbered.2.1 20 = .ok (.iload_n 1, 1) := by decide +kernel
theorem d_As_numbered_21 : decode m_As_numbered.2.1 21 = .ok (.aaload, 1) := by decide +kernel
theorem d_As_numbered_22 : decode m_As_numbered.2.1 22 = .ok (.areturn, 1) := by decide +kernel
set_option maxHeartbeats 4000000 in
set_option maxRecDepth 100000 in
theorem B_As_numbered_0 {S : XS} {Q : Option Nat → St → Prop} (σ : St) (x1 : Int32) (H : ((x1 < 0 → Q none σ) ∧ (¬ x1 < 0 → ((x1 < (gX σ 17) → (vp_in x1 12) ∧ Q ((gG σ) x1.toNatClampNeg) σ) ∧ (¬ x1 < (gX σ 17) → Q none σ))))) : BW S m_As_numbered 0 [some (.ref 139), some (.int x1)] [] (enc σ) (qR Q) := by
  refine b_iload_n d_As_numbered_0 rfl rfl ?_
  refine b_if_lt (tgt := 12) d_As_numbered_1 (by decide) (fun c3 => ?_) (fun c3 => ?_)
  · have H := H.1 c3
    refine b_anull d_As_numbered_12 ?_
    refine b_goto (tgt := 22) d_As_numbered_13 (by decide) ?_
    exact b_aretO (v := none) d_As_numbered_22 rfl ⟨_, _, rfl, rfl, H⟩
  · have H := H.2 c3
    refine b_iload_n d_As_numbered_4 rfl rfl ?_
    refine b_aload_n d_As_numbered_5 rfl rfl ?_
    refine b_getf (v := .int (gX σ 17)) d_As_numbered_6 fl_As_32 (eg_139 σ) rfl ?_
    refine b_icmp_lt (tgt := 16) d_As_numbered_9 (by decide) (fun c2 => ?_) (fun c2 => ?_)
    · have H := H.1 c2
      refine b_aload_n d_As_numbered_16 rfl rfl ?_
      refine b_getf (v := .ref 140) d_As_numbered_17 fl_As_13 (eg_139 σ) rfl ?_
      refine b_iload_n d_As_numbered_20 rfl rfl ?_
      obtain ⟨h1, H⟩ := H
      refine b_aald d_As_numbered_21 (eg_140 σ) ⟨by decide, by decide⟩ h1 ?_
      exact b_aretO (v := ((gG σ) x1.toNatClampNeg)) d_As_numbered_22 rfl ⟨_, _, rfl, rfl, H⟩
    · have H := H.2 c2
      refine b_anull d_As_numbered_12 ?_
      refine b_goto (tgt := 22) d_As_numbered_13 (by decide) ?_
      exact b_aretO (v := none) d_As_numbered_22 rfl ⟨_, _, rfl, rfl, H⟩
theorem C_As_numbered {S : XS} {Q : Option Nat → St → Prop} (σ : St) (x1 : Int32) (H : BW S m_As_numbered 0 [some (.ref 139), some (.int x1)] [] (enc σ) (qR Q)) : CM S m_As_numbered [.ref 139, .int x1] (enc σ) (qR Q) := b_meth (by decide) (Nat.le_of_ble_eq_true rfl) rfl H
