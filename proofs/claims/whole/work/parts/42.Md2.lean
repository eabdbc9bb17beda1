/-! block rules, by program -/
theorem d_Md_isEdition_0 : decode m_Md_isEdition.2.1 0 = .ok (.iload_n 1, 1) := by decide +kernel
theorem d_Md_isEdition_1 : decode m_Md_isEdition.2.1 1 = .ok (.invokestatic 234, 3) := by decide +kernel
theorem d_Md_isEdition_4 : decode m_Md_isEdition.2.1 4 = .ok (.ifCond .eq 21, 3) := by decide +kernel
theorem d_Md_isEdition_7 : decode m_Md_isEdition.2.1 7 = .ok (.iload_n 2, 1) := by decide +kernel
theorem d_Md_isEdition_8 : decode m_Md_isEdition.2.1 8 = .ok (.ifCond .lt 17, 3) := by decide +kernel
theorem d_Md_isEdition_11 : decode m_Md_isEdition.2.1 11 = .ok (.iload_n 2, 1) := by decide +kernel
theorem d_Md_isEdition_12 : decode m_Md_isEdition.2.1 12 = .ok (.aload_n 0, 1) := by decide +kernel
theorem d_Md_isEdition_13 : decode m_Md_isEdition.2.1 13 = .ok (.getfield 111, 3) := by decide +kernel
theorem d_Md_isEdition_16 : decode m_Md_isEdition.2.1 16 = .ok (.iload_n 1, 1) := by decide +kernel
theorem d_Md_isEdition_17 : decode m_Md_isEdition.2.1 17 = .ok (.iaload, 1) := by decide +kernel
theorem d_Md_isEdition_18 : decode m_Md_isEdition.2.1 18 = .ok (.if_icmp .gt 7, 3) := by decide +kernel
theorem d_Md_isEdition_21 : decode m_Md_isEdition.2.1 21 = .ok (.iconst 1, 1) := by decide +kernel
theorem d_Md_isEdition_22 : decode m_Md_isEdition.2.1 22 = .ok (.goto 4, 3) := by decide +kernel
theorem d_Md_isEdition_25 : decode m_Md_isEdition.2.1 25 = .ok (.iconst 0, 1) := by decide +kernel
theorem d_Md_isEdition_26 : decode m_Md_isEdition.2.1 26 = .ok (.ireturn, 1) := by decide +kernel
set_option maxHeartbeats 4000000 in
set_option maxRecDepth 100000 in
theorem B_Md_isEdition_0 {S : XS} {Q : Int32 → St → Prop} (σ : St) (x1 : Int32) (x2 : Int32) (H : CM S m_Md_isPart [.int x1] (enc σ) (qI (fun v1 τ2 => ((v1 = 0 → Q (0 : Int32) τ2) ∧ (¬ v1 = 0 → ((x2 < 0 → Q (0 : Int32) τ2) ∧ (¬ x2 < 0 → (vp_in x1 24) ∧ ((((gC τ2 21) x1.toNatClampNeg) < x2 → Q (0 : Int32) τ2) ∧ (¬ ((gC τ2 21) x1.toNatClampNeg) < x2 → Q (1 : Int32) τ2))))))))) : BW S m_Md_isEdition 0 [some (.ref 153), some (.int x1), some (.int x2)] [] (enc σ) (qI Q) := by
  refine b_iload_n d_Md_isEdition_0 rfl rfl ?_
  refine b_callSi (Mc := m_Md_isPart) (As := [.int x1]) (st := []) d_Md_isEdition_1 ⟨⟨kA_Md_isPart.1, kA_Md_isPart.2.1, kA_Md_isPart.2.2, by decide⟩, ml_Md_234, kS_Md_isPart⟩ rfl rfl (Nat.le_of_ble_eq_true rfl) H (fun v1 τ2 H => ?_)
  refine b_if_eq (tgt := 25) d_Md_isEdition_4 (by decide) (fun c6 => ?_) (fun c6 => ?_)
  · have H := H.1 c6
    refine b_iconst (v := (0 : Int32)) d_Md_isEdition_25 (by decide) ?_
    exact b_iret (ty := .boolean) d_Md_isEdition_26 rfl rfl ⟨_, _, rfl, rfl, H⟩
  · have H := H.2 c6
    refine b_iload_n d_Md_isEdition_7 rfl rfl ?_
    refine b_if_lt (tgt := 25) d_Md_isEdition_8 (by decide) (fun c5 => ?_) (fun c5 => ?_)
    · have H := H.1 c5
      refine b_iconst (v := (0 : Int32)) d_Md_isEdition_25 (by decide) ?_
      exact b_iret (ty := .boolean) d_Md_isEdition_26 rfl rfl ⟨_, _, rfl, rfl, H⟩
    · have H := H.2 c5
      refine b_iload_n d_Md_isEdition_11 rfl rfl ?_
      refine b_aload_n d_Md_isEdition_12 rfl rfl ?_
      refine b_getf (v := .ref 175) d_Md_isEdition_13 fl_Md_111 (eg_153 τ2) rfl ?_
      refine b_iload_n d_Md_isEdition_16 rfl rfl ?_
      obtain ⟨h3, H⟩ := H
      refine b_iald d_Md_isEdition_17 (eg_175 τ2) h3 ?_
      refine b_st2 (st' := [.int ((gC τ2 21) x1.toNatClampNeg), .int x2]) rfl ?_
      refine b_icmp_gt (tgt := 25) d_Md_isEdition_18 (by decide) (fun c4 => ?_) (fun c4 => ?_)
      · have H := H.1 c4
        refine b_iconst (v := (0 : Int32)) d_Md_isEdition_25 (by decide) ?_
        exact b_iret (ty := .boolean) d_Md_isEdition_26 rfl rfl ⟨_, _, rfl, rfl, H⟩
      · have H := H.2 c4
        refine b_iconst (v := (1 : Int32)) d_Md_isEdition_21 (by decide) ?_
        refine b_goto (tgt := 26) d_Md_isEdition_22 (by decide) ?_
        exact b_iret (ty := .boolean) d_Md_isEdition_26 rfl rfl ⟨_, _, rfl, rfl, H⟩
theorem C_Md_isEdition {S : XS} {Q : Int32 → St → Prop} (σ : St) (x1 : Int32) (x2 : Int32) (H : BW S m_Md_isEdition 0 [some (.ref 153), some (.int x1), some (.int x2)] [] (enc σ) (qI Q)) : CM S m_Md_isEdition [.ref 153, .int x1, .int x2] (enc σ) (qI Q) := b_meth (by decide) (Nat.le_of_ble_eq_true rfl) rfl H
theorem d_Md_name_0 : decode m_Md_name.2.1 0 = .ok (.aload_n 0, 1) := by decide +kernel
theorem d_Md_name_1 : decode m_Md_name.2.1 1 = .ok (.invokevirtual 205, 3) := by decide +kernel
theorem d_Md_name_4 : decode m_Md_name.2.1 4 = .ok (.invokestatic 212, 3) := by decide +kernel
theorem d_Md_name_7 : decode m_Md_name.2.1 7 = .ok (.ifCond .ne 13, 3) := by decide +kernel
theorem d_Md_name_10 : decode m_Md_name.2.1 10 = .ok (.aload_n 0, 1) := by decide +kernel
theorem d_Md_name_11 : decode m_Md_name.2.1 11 = .ok (.iconst 1, 1) := by decide +kernel
theorem d_Md_name_12 : decode m_Md_name.2.1 12 = .ok (.aload_n 0, 1) := by decide +kernel
theorem d_Md_name_13 : decode m_Md_name.2.1 13 = .ok (.getfield 81, 3) := by decide +kernel
theorem d_Md_name_16 : decode m_Md_name.2.1 16 = .ok (.invokevirtual 209, 3) := by decide +kernel
theorem d_Md_name_19 : decode m_Md_name.2.1 19 = .ok (.return_, 1) := by decide +kernel
theorem d_Md_name_20 : decode m_Md_name.2.1 20 = .ok (.aload_n 0, 1) := by decide +kernel
theorem d_Md_name_21 : decode m_Md_name.2.1 21 = .ok (.invokevirtual 218, 3) := by decide +kernel
theorem d_Md_name_24 : decode m_Md_name.2.1 24 = .ok (.istore_n 2, 1) := by decide +kernel
theorem d_Md_name_25 : decode m_Md_name.2.1 25 = .ok (.aload_n 0, 1) := by decide +kernel
theorem d_Md_name_26 : decode m_Md_name.2.1 26 = .ok (.iload_n 2, 1) := by decide +kernel
theorem d_Md_name_27 : decode m_Md_name.2.1 27 = .ok (.ldc2_w 237, 3) := by decide +kernel
theorem d_Md_name_30 : decode m_Md_name.2.1 30 = .ok (.iconst 4, 1) := by decide +kernel
theorem d_Md_name_31 : decode m_Md_name.2.1 31 = .ok (.invokevirtual 221, 3) := by decide +kernel
theorem d_Md_name_34 : decode m_Md_name.2.1 34 = .ok (.ifCond .ne 39, 3) := by decide +kernel
theorem d_Md_name_37 : decode m_Md_name.2.1 37 = .ok (.aload_n 0, 1) := by decide +kernel
theorem d_Md_name_38 : decode m_Md_name.2.1 38 = .ok (.iload_n 2, 1) := by decide +kernel
theorem d_Md_name_39 : decode m_Md_name.2.1 39 = .ok (.ldc2_w 239, 3) := by decide +kernel
theorem d_Md_name_42 : decode m_Md_name.2.1 42 = .ok (.iconst 4, 1) := by decide +kernel
theorem d_Md_name_43 : decode m_Md_name.2.1 43 = .ok (.invokevirtual 221, 3) := by decide +kernel
theorem d_Md_name_46 : decode m_Md_name.2.1 46 = .ok (.ifCond .ne 27, 3) := by decide +kernel
theorem d_Md_name_49 : decode m_Md_name.2.1 49 = .ok (.aload_n 0, 1) := by decide +kernel
theorem d_Md_name_50 : decode m_Md_name.2.1 50 = .ok (.iload_n 2, 1) := by decide +kernel
theorem d_Md_name_51 : decode m_Md_name.2.1 51 = .ok (.ldc2_w 241, 3) := by decide +kernel
theorem d_Md_name_54 : decode m_Md_name.2.1 54 = .ok (.iconst 2, 1) := by decide +kernel
theorem d_Md_name_55 : decode m_Md_name.2.1 55 = .ok (.invokevirtual 221, 3) := by decide +kernel
theorem d_Md_name_58 : decode m_Md_name.2.1 58 = .ok (.ifCond .ne 15, 3) := by decide +kernel
theorem d_Md_name_61 : decode m_Md_name.2.1 61 = .ok (.aload_n 0, 1) := by decide +kernel
theorem d_Md_name_62 : decode m_Md_name.2.1 62 = .ok (.iload_n 2, 1) := by decide +kernel
theorem d_Md_name_63 : decode m_Md_name.2.1 63 = .ok (.ldc2_w 243, 3) := by decide +kernel
theorem d_Md_name_66 : decode m_Md_name.2.1 66 = .ok (.iconst 2, 1) := by decide +kernel
theorem d_Md_name_67 : decode m_Md_name.2.1 67 = .ok (.invokevirtual 221, 3) := by decide +kernel
theorem d_Md_name_70 : decode m_Md_name.2.1 70 = .ok (.ifCond .eq 12, 3) := by decide +kernel
theorem d_Md_name_73 : decode m_Md_name.2.1 73 = .ok (.aload_n 0, 1) := by decide +kernel
theorem d_Md_name_74 : decode m_Md_name.2.1 74 = .ok (.iconst 1, 1) := by decide +kernel
theorem d_Md_name_75 : decode m_Md_name.2.1 75 = .ok (.aload_n 0, 1) := by decide +kernel
theorem d_Md_name_76 : decode m_Md_name.2.1 76 = .ok (.getfield 81, 3) := by decide +kernel
theorem d_Md_name_79 : decode m_Md_name.2.1 79 = .ok (.invokevirtual 209, 3) := by decide +kernel
theorem d_Md_name_82 : decode m_Md_name.2.1 82 = .ok (.iload_n 2, 1) := by decide +kernel
theorem d_Md_name_83 : decode m_Md_name.2.1 83 = .ok (.aload_n 0, 1) := by decide +kernel
theorem d_Md_name_84 : decode m_Md_name.2.1 84 = .ok (.getfield 81, 3) := by decide +kernel
theorem d_Md_name_87 : decode m_Md_name.2.1 87 = .ok (.isub, 1) := by decide +kernel
theorem d_Md_name_88 : decode m_Md_name.2.1 88 = .ok (.bipush 10, 2) := by decide +kernel
theorem d_Md_name_90 : decode m_Md_name.2.1 90 = .ok (.if_icmp .le 15, 3) := by decide +kernel
theorem d_Md_name_93 : decode m_Md_name.2.1 93 = .ok (.aload_n 0, 1) := by decide +kernel
theorem d_Md_name_94 : decode m_Md_name.2.1 94 = .ok (.iconst 1, 1) := by decide +kernel
theorem d_Md_name_95 : decode m_Md_name.2.1 95 = .ok (.aload_n 0, 1) := by decide +kernel
theorem d_Md_name_96 : decode m_Md_name.2.1 96 = .ok (.getfield 81, 3) := by decide +kernel
theorem d_Md_name_99 : decode m_Md_name.2.1 99 = .ok (.bipush 10, 2) := by decide +kernel
theorem d_Md_name_101 : decode m_Md_name.2.1 101 = .ok (.iadd, 1) := by decide +kernel
theorem d_Md_name_102 : decode m_Md_name.2.1 102 = .ok (.invokevirtual 209, 3) := by decide +kernel
theorem d_Md_name_105 : decode m_Md_name.2.1 105 = .ok (.aload_n 0, 1) := by decide +kernel
theorem d_Md_name_106 : decode m_Md_name.2.1 106 = .ok (.getfield 75, 3) := by decide +kernel
theorem d_Md_name_109 : decode m_Md_name.2.1 109 = .ok (.ifCond .le 4, 3) := by decide +kernel
theorem d_Md_name_112 : decode m_Md_name.2.1 112 = .ok (.return_, 1) := by decide +kernel
theorem d_Md_name_113 : decode m_Md_name.2.1 113 = .ok (.aload_n 0, 1) := by decide +kernel
theorem d_Md_name_114 : decode m_Md_name.2.1 114 = .ok (.getfield 93, 3) := by decide +kernel
theorem d_Md_name_117 : decode m_Md_name.2.1 117 = .ok (.iconst 2, 1) := by decide +kernel
theorem d_Md_name_118 : decode m_Md_name.2.1 118 = .ok (.aload_n 0, 1) := by decide +kernel
theorem d_Md_name_119 : decode m_Md_name.2.1 119 = .ok (.getfield 87, 3) := by decide +kernel
theorem d_Md_name_122 : decode m_Md_name.2.1 122 = .ok (.imul, 1) := by decide +kernel
theorem d_Md_name_123 : decode m_Md_name.2.1 123 = .ok (.iload_n 1, 1) := by decide +kernel
theorem d_Md_name_124 : decode m_Md_name.2.1 124 = .ok (.iadd, 1) := by decide +kernel
theorem d_Md_name_125 : decode m_Md_name.2.1 125 = .ok (.iload_n 2, 1) := by decide +kernel
theorem d_Md_name_126 : decode m_Md_name.2.1 126 = .ok (.aload_n 0, 1) := by decide +kernel
theorem d_Md_name_127 : decode m_Md_name.2.1 127 = .ok (.getfield 81, 3) := by decide +kernel
theorem d_Md_name_130 : decode m_Md_name.2.1 130 = .ok (.isub, 1) := by decide +kernel
theorem d_Md_name_131 : decode m_Md_name.2.1 131 = .ok (.iastore, 1) := by decide +kernel
theorem d_Md_name_132 : decode m_Md_name.2.1 132 = .ok (.iconst 0, 1) := by decide +kernel
theorem d_Md_name_133 : decode m_Md_name.2.1 133 = .ok (.istore_n 3, 1) := by decide +kernel
theorem d_Md_name_134 : decode m_Md_name.2.1 134 = .ok (.aload_n 0, 1) := by decide +kernel
theorem d_Md_name_135 : decode m_Md_name.2.1 135 = .ok (.getfield 81, 3) := by decide +kernel
theorem d_Md_name_138 : decode m_Md_name.2.1 138 = .ok (.iload_n 2, 1) := by decide +kernel
theorem d_Md_name_139 : decode m_Md_name.2.1 139 = .ok (.if_icmp .ge 47, 3) := by decide +kernel
theorem d_Md_name_142 : decode m_Md_name.2.1 142 = .ok (.aload_n 0, 1) := by decide +kernel
theorem d_Md_name_143 : decode m_Md_name.2.1 143 = .ok (.getfield 90, 3) := by decide +kernel
theorem d_Md_name_146 : decode m_Md_name.2.1 146 = .ok (.bipush 20, 2) := by decide +kernel
theorem d_Md_name_148 : decode m_Md_name.2.1 148 = .ok (.aload_n 0, 1) := by decide +kernel
theorem d_Md_name_149 : decode m_Md_name.2.1 149 = .ok (.getfield 87, 3) := by decide +kernel
theorem d_Md_name_152 : decode m_Md_name.2.1 152 = .ok (.imul, 1) := by decide +kernel
theorem d_Md_name_153 : decode m_Md_name.2.1 153 = .ok (.bipush 10, 2) := by decide +kernel
theorem d_Md_name_155 : decode m_Md_name.2.1 155 = .ok (.iload_n 1, 1) := by decide +kernel
theorem d_Md_name_156 : decode m_Md_name.2.1 156 = .ok (.imul, 1) := by decide +kernel
theorem d_Md_name_157 : decode m_Md_name.2.1 157 = .ok (.iadd, 1) := by decide +kernel
theorem d_Md_name_158 : decode m_Md_name.2.1 158 = .ok (.iload_n 3, 1) := by decide +kernel
theorem d_Md_name_159 : decode m_Md_name.2.1 159 = .ok (.iadd, 1) := by decide +kernel
theorem d_Md_name_160 : decode m_Md_name.2.1 160 = .ok (.aload_n 0, 1) := by decide +kernel
theorem d_Md_name_161 : decode m_Md_name.2.1 161 = .ok (.getfield 1, 3) := by decide +kernel
theorem d_Md_name_164 : decode m_Md_name.2.1 164 = .ok (.aload_n 0, 1) := by decide +kernel
theorem d_Md_name_165 : decode m_Md_name.2.1 165 = .ok (.getfield 81, 3) := by decide +kernel
theorem d_Md_name_168 : decode m_Md_name.2.1 168 = .ok (.iaload, 1) := by decide +kernel
theorem d_Md_name_169 : decode m_Md_name.2.1 169 = .ok (.iastore, 1) := by decide +kernel
theorem d_Md_name_170 : decode m_Md_name.2.1 170 = .ok (.aload_n 0, 1) := by decide +kernel
theorem d_Md_name_171 : decode m_Md_name.2.1 171 = .ok (.dup, 1) := by decide +kernel
theorem d_Md_name_172 : decode m_Md_name.2.1 172 = .ok (.getfield 81, 3) := by decide +kernel
theorem d_Md_name_175 : decode m_Md_name.2.1 175 = .ok (.iconst 1, 1) := by decide +kernel
theorem d_Md_name_176 : decode m_Md_name.2.1 176 = .ok (.iadd, 1) := by decide +kernel
theorem d_Md_name_177 : decode m_Md_name.2.1 177 = .ok (.putfield 81, 3) := by decide +kernel
theorem d_Md_name_180 : decode m_Md_name.2.1 180 = .ok (.iinc 3 1, 3) := by decide +kernel
theorem d_Md_name_183 : decode m_Md_name.2.1 183 = .ok (.goto (-49), 3) := by decide +kernel
theorem d_Md_name_186 : decode m_Md_name.2.1 186 = .ok (.return_, 1) := by decide +kernel
set_option maxHeartbeats 4000000 in
set_option maxRecDepth 100000 in
theorem B_Md_name_0 {S : XS} {Q : St → Prop} (σ : St) (x1 : Int32) (H : CM S m_Md_here [.ref 153] (enc σ) (qI (fun v1 τ2 => CM S m_Md_isLetter [.int v1] (enc τ2) (qI (fun v3 τ4 => ((¬ v3 = 0 → CM S m_Md_wordEnd [.ref 153] (enc τ4) (qI (fun v5 τ6 => CM S m_Md_spells [.ref 153, .int v5, .long (1651470958 : Int64), .int (4 : Int32)] (enc τ6) (qI (fun v7 τ8 => ((¬ v7 = 0 → CM S m_Md_blame [.ref 153, .int (1 : Int32), .int (gY τ8 9)] (enc τ8) (qV (fun τ10 => (((v5 - (gY τ10 9)) ≤ (10 : Int32) → (((gY τ10 7) ≤ 0 → (vp_in (((2 : Int32) * (gY τ10 11)) + x1) 122) ∧ BW S m_Md_name 134 [some (.ref 153), some (.int x1), some (.int v5), some (.int (0 : Int32))] [] (enc (sC τ10 15 (upd (gC τ10 15) (((2 : Int32) * (gY τ10 11)) + x1).toNatClampNeg (v5 - (gY τ10 9))))) (qV Q)) ∧ (¬ (gY τ10 7) ≤ 0 → Q τ10))) ∧ (¬ (v5 - (gY τ10 9)) ≤ (10 : Int32) → CM S m_Md_blame [.ref 153, .int (1 : Int32), .int ((gY τ10 9) + (10 : Int32))] (enc τ10) (qV (fun τ14 => (((gY τ14 7) ≤ 0 → (vp_in (((2 : Int32) * (gY τ14 11)) + x1) 122) ∧ BW S m_Md_name 134 [some (.ref 153), some (.int x1), some (.int v5), some (.int (0 : Int32))] [] (enc (sC τ14 15 (upd (gC τ14 15) (((2 : Int32) * (gY τ14 11)) + x1).toNatClampNeg (v5 - (gY τ14 9))))) (qV Q)) ∧ (¬ (gY τ14 7) ≤ 0 → Q τ14))))))))) ∧ (v7 = 0 → CM S m_Md_spells [.ref 153, .int v5, .long (1684365668 : Int64), .int (4 : Int32)] (enc τ8) (qI (fun v18 τ19 => ((¬ v18 = 0 → CM S m_Md_blame [.ref 153, .int (1 : Int32), .int (gY τ19 9)] (enc τ19) (qV (fun τ21 => (((v5 - (gY τ21 9)) ≤ (10 : Int32) → (((gY τ21 7) ≤ 0 → (vp_in (((2 : Int32) * (gY τ21 11)) + x1) 122) ∧ BW S m_Md_name 134 [some (.ref 153), some (.int x1), some (.int v5), some (.int (0 : Int32))] [] (enc (sC τ21 15 (upd (gC τ21 15) (((2 : Int32) * (gY τ21 11)) + x1).toNatClampNeg (v5 - (gY τ21 9))))) (qV Q)) ∧ (¬ (gY τ21 7) ≤ 0 → Q τ21))) ∧ (¬ (v5 - (gY τ21 9)) ≤ (10 : Int32) → CM S m_Md_blame [.ref 153, .int (1 : Int32), .int ((gY τ21 9) + (10 : Int32))] (enc τ21) (qV (fun τ25 => (((gY τ25 7) ≤ 0 → (vp_in (((2 : Int32) * (gY τ25 11)) + x1) 122) ∧ BW S m_Md_name 134 [some (.ref 153), some (.int x1), some (.int v5), some (.int (0 : Int32))] [] (enc (sC τ25 15 (upd (gC τ25 15) (((2 : Int32) * (gY τ25 11)) + x1).toNatClampNeg (v5 - (gY τ25 9))))) (qV Q)) ∧ (¬ (gY τ25 7) ≤ 0 → Q τ25))))))))) ∧ (v18 = 0 → CM S m_Md_spells [.ref 153, .int v5, .long (26990 : Int64), .int (2 : Int32)] (enc τ19) (qI (fun v29 τ30 => ((¬ v29 = 0 → CM S m_Md_blame [.ref 153, .int (1 : Int32), .int (gY τ30 9)] (enc τ30) (qV (fun τ32 => (((v5 - (gY τ32 9)) ≤ (10 : Int32) → (((gY τ32 7) ≤ 0 → (vp_in (((2 : Int32) * (gY τ32 11)) + x1) 122) ∧ BW S m_Md_name 134 [some (.ref 153), some (.int x1), some (.int v5), some (.int (0 : Int32))] [] (enc (sC τ32 15 (upd (gC τ32 15) (((2 : Int32) * (gY τ32 11)) + x1).toNatClampNeg (v5 - (gY τ32 9))))) (qV Q)) ∧ (¬ (gY τ32 7) ≤ 0 → Q τ32))) ∧ (¬ (v5 - (gY τ32 9)) ≤ (10 : Int32) → CM S m_Md_blame [.ref 153, .int (1 : Int32), .int ((gY τ32 9) + (10 : Int32))] (enc τ32) (qV (fun τ36 => (((gY τ36 7) ≤ 0 → (vp_in (((2 : Int32) * (gY τ36 11)) + x1) 122) ∧ BW S m_Md_name 134 [some (.ref 153), some (.int x1), some (.int v5), some (.int (0 : Int32))] [] (enc (sC τ36 15 (upd (gC τ36 15) (((2 : Int32) * (gY τ36 11)) + x1).toNatClampNeg (v5 - (gY τ36 9))))) (qV Q)) ∧ (¬ (gY τ36 7) ≤ 0 → Q τ36))))))))) ∧ (v29 = 0 → CM S m_Md_spells [.ref 153, .int v5, .long (28526 : Int64), .int (2 : Int32)] (enc τ30) (qI (fun v40 τ41 => ((v40 = 0 → (((v5 - (gY τ41 9)) ≤ (10 : Int32) → (((gY τ41 7) ≤ 0 → (vp_in (((2 : Int32) * (gY τ41 11)) + x1) 122) ∧ BW S m_Md_name 134 [some (.ref 153), some (.int x1), some (.int v5), some (.int (0 : Int32))] [] (enc (sC τ41 15 (upd (gC τ41 15) (((2 : Int32) * (gY τ41 11)) + x1).toNatClampNeg (v5 - (gY τ41 9))))) (qV Q)) ∧ (¬ (gY τ41 7) ≤ 0 → Q τ41))) ∧ (¬ (v5 - (gY τ41 9)) ≤ (10 : Int32) → CM S m_Md_blame [.ref 153, .int (1 : Int32), .int ((gY τ41 9) + (10 : Int32))] (enc τ41) (qV (fun τ45 => (((gY τ45 7) ≤ 0 → (vp_in (((2 : Int32) * (gY τ45 11)) + x1) 122) ∧ BW S m_Md_name 134 [some (.ref 153), some (.int x1), some (.int v5), some (.int (0 : Int32))] [] (enc (sC τ45 15 (upd (gC τ45 15) (((2 : Int32) * (gY τ45 11)) + x1).toNatClampNeg (v5 - (gY τ45 9))))) (qV Q)) ∧ (¬ (gY τ45 7) ≤ 0 → Q τ45))))))) ∧ (¬ v40 = 0 → CM S m_Md_blame [.ref 153, .int (1 : Int32), .int (gY τ41 9)] (enc τ41) (qV (fun τ50 => (((v5 - (gY τ50 9)) ≤ (10 : Int32) → (((gY τ50 7) ≤ 0 → (vp_in (((2 : Int32) * (gY τ50 11)) + x1) 122) ∧ BW S m_Md_name 134 [some (.ref 153), some (.int x1), some (.int v5), some (.int (0 : Int32))] [] (enc (sC τ50 15 (upd (gC τ50 15) (((2 : Int32) * (gY τ50 11)) + x1).toNatClampNeg (v5 - (gY τ50 9))))) (qV Q)) ∧ (¬ (gY τ50 7) ≤ 0 → Q τ50))) ∧ (¬ (v5 - (gY τ50 9)) ≤ (10 : Int32) → CM S m_Md_blame [.ref 153, .int (1 : Int32), .int ((gY τ50 9) + (10 : Int32))] (enc τ50) (qV (fun τ54 => (((gY τ54 7) ≤ 0 → (vp_in (((2 : Int32) * (gY τ54 11)) + x1) 122) ∧ BW S m_Md_name 134 [some (.ref 153), some (.int x1), some (.int v5), some (.int (0 : Int32))] [] (enc (sC τ54 15 (upd (gC τ54 15) (((2 : Int32) * (gY τ54 11)) + x1).toNatClampNeg (v5 - (gY τ54 9))))) (qV Q)) ∧ (¬ (gY τ54 7) ≤ 0 → Q τ54))))))))))))))))))))))))))) ∧ (v3 = 0 → CM S m_Md_blame [.ref 153, .int (1 : Int32), .int (gY τ4 9)] (enc τ4) (qV (fun τ63 => Q τ63))))))))) : BW S m_Md_name 0 [some (.ref 153), some (.int x1), none, none] [] (enc σ) (qV Q) := by
  refine b_aload_n d_Md_name_0 rfl rfl ?_
  refine b_callVi (Mc := m_Md_here) (As := []) (st := []) d_Md_name_1 ⟨⟨kA_Md_here.1, kA_Md_here.2.1, kA_Md_here.2.2, by decide⟩, ml_Md_205, kV_Md_here⟩ (eg_153 σ) rfl rfl (Nat.le_of_ble_eq_true rfl) H (fun v1 τ2 H => ?_)
  refine b_callSi (Mc := m_Md_isLetter) (As := [.int v1]) (st := []) d_Md_name_4 ⟨⟨kA_Md_isLetter.1, kA_Md_isLetter.2.1, kA_Md_isLetter.2.2, by decide⟩, ml_Md_212, kS_Md_isLetter⟩ rfl rfl (Nat.le_of_ble_eq_true rfl) H (fun v3 τ4 H => ?_)
  refine b_if_ne (tgt := 20) d_Md_name_7 (by decide) (fun c64 => ?_) (fun c64 => ?_)
  · have H := H.1 c64
    refine b_aload_n d_Md_name_20 rfl rfl ?_
    refine b_callVi (Mc := m_Md_wordEnd) (As := []) (st := []) d_Md_name_21 ⟨⟨kA_Md_wordEnd.1, kA_Md_wordEnd.2.1, kA_Md_wordEnd.2.2, by decide⟩, ml_Md_218, kV_Md_wordEnd⟩ (eg_153 τ4) rfl rfl (Nat.le_of_ble_eq_true rfl) H (fun v5 τ6 H => ?_)
    refine b_istore_n (ls' := [some (.ref 153), some (.int x1), some (.int v5), none]) d_Md_name_24 rfl (Nat.le_of_ble_eq_true rfl) rfl ?_
    refine b_aload_n d_Md_name_25 rfl rfl ?_
    refine b_iload_n d_Md_name_26 rfl rfl ?_
    refine b_ldc2 (v := (1651470958 : Int64)) d_Md_name_27 cn_Md_237 ?_
    refine b_iconst (v := (4 : Int32)) d_Md_name_30 (by decide) ?_
    refine b_callVi (Mc := m_Md_spells) (As := [.int v5, .long (1651470958 : Int64), .int (4 : Int32)]) (st := []) d_Md_name_31 ⟨⟨kA_Md_spells.1, kA_Md_spells.2.1, kA_Md_spells.2.2, by decide⟩, ml_Md_221, kV_Md_spells⟩ (eg_153 τ6) rfl rfl (Nat.le_of_ble_eq_true rfl) H (fun v7 τ8 H => ?_)
    refine b_if_ne (tgt := 73) d_Md_name_34 (by decide) (fun c61 => ?_) (fun c61 => ?_)
    · have H := H.1 c61
      refine b_aload_n d_Md_name_73 rfl rfl ?_
      refine b_iconst (v := (1 : Int32)) d_Md_name_74 (by decide) ?_
      refine b_aload_n d_Md_name_75 rfl rfl ?_
      refine b_getf (v := .int (gY τ8 9)) d_Md_name_76 fl_Md_81 (eg_153 τ8) rfl ?_
      refine b_callVv (Mc := m_Md_blame) (As := [.int (1 : Int32), .int (gY τ8 9)]) (st := []) d_Md_name_79 ⟨⟨kA_Md_blame.1, kA_Md_blame.2.1, kA_Md_blame.2.2, by decide⟩, ml_Md_209, kV_Md_blame⟩ (eg_153 τ8) rfl rfl (Nat.le_of_ble_eq_true rfl) H (fun τ10 H => ?_)
      refine b_iload_n d_Md_name_82 rfl rfl ?_
      refine b_aload_n d_Md_name_83 rfl rfl ?_
      refine b_getf (v := .int (gY τ10 9)) d_Md_name_84 fl_Md_81 (eg_153 τ10) rfl ?_
      refine b_isub d_Md_name_87  ?_
      refine b_bipush (v := (10 : Int32)) d_Md_name_88 (by decide) ?_
      refine b_icmp_le (tgt := 105) d_Md_name_90 (by decide) (fun c17 => ?_) (fun c17 => ?_)
      · have H := H.1 c17
        refine b_aload_n d_Md_name_105 rfl rfl ?_
        refine b_getf (v := .int (gY τ10 7)) d_Md_name_106 fl_Md_75 (eg_153 τ10) rfl ?_
        refine b_if_le (tgt := 113) d_Md_name_109 (by decide) (fun c12 => ?_) (fun c12 => ?_)
        · have H := H.1 c12
          refine b_aload_n d_Md_name_113 rfl rfl ?_
          refine b_getf (v := .ref 169) d_Md_name_114 fl_Md_93 (eg_153 τ10) rfl ?_
          refine b_iconst (v := (2 : Int32)) d_Md_name_117 (by decide) ?_
          refine b_aload_n d_Md_name_118 rfl rfl ?_
          refine b_getf (v := .int (gY τ10 11)) d_Md_name_119 fl_Md_87 (eg_153 τ10) rfl ?_
          refine b_imul d_Md_name_122  ?_
          refine b_iload_n d_Md_name_123 rfl rfl ?_
          refine b_iadd d_Md_name_124  ?_
          refine b_iload_n d_Md_name_125 rfl rfl ?_
          refine b_aload_n d_Md_name_126 rfl rfl ?_
          refine b_getf (v := .int (gY τ10 9)) d_Md_name_127 fl_Md_81 (eg_153 τ10) rfl ?_
          refine b_isub d_Md_name_130  ?_
          obtain ⟨h11, H⟩ := H
          refine b_iast (h1 := enc (sC τ10 15 (upd (gC τ10 15) (((2 : Int32) * (gY τ10 11)) + x1).toNatClampNeg (v5 - (gY τ10 9))))) d_Md_name_131 (eg_169 τ10) h11 (es_169 τ10 (upd (gC τ10 15) (((2 : Int32) * (gY τ10 11)) + x1).toNatClampNeg (v5 - (gY τ10 9)))) ?_
          refine b_iconst (v := (0 : Int32)) d_Md_name_132 (by decide) ?_
          refine b_istore_n (ls' := [some (.ref 153), some (.int x1), some (.int v5), some (.int (0 : Int32))]) d_Md_name_133 rfl (Nat.le_of_ble_eq_true rfl) rfl ?_
          exact b_mask [true, true, true, true] rfl H
        · have H := H.2 c12
          exact b_vret d_Md_name_112 rfl ⟨_, rfl, rfl, H⟩
      · have H := H.2 c17
        refine b_aload_n d_Md_name_93 rfl rfl ?_
        refine b_iconst (v := (1 : Int32)) d_Md_name_94 (by decide) ?_
        refine b_aload_n d_Md_name_95 rfl rfl ?_
        refine b_getf (v := .int (gY τ10 9)) d_Md_name_96 fl_Md_81 (eg_153 τ10) rfl ?_
        refine b_bipush (v := (10 : Int32)) d_Md_name_99 (by decide) ?_
        refine b_iadd d_Md_name_101  ?_
        refine b_callVv (Mc := m_Md_blame) (As := [.int (1 : Int32), .int ((gY τ10 9) + (10 : Int32))]) (st := []) d_Md_name_102 ⟨⟨kA_Md_blame.1, kA_Md_blame.2.1, kA_Md_blame.2.2, by decide⟩, ml_Md_209, kV_Md_blame⟩ (eg_153 τ10) rfl rfl (Nat.le_of_ble_eq_true rfl) H (fun τ14 H => ?_)
        refine b_aload_n d_Md_name_105 rfl rfl ?_
        refine b_getf (v := .int (gY τ14 7)) d_Md_name_106 fl_Md_75 (eg_153 τ14) rfl ?_
        refine b_if_le (tgt := 113) d_Md_name_109 (by decide) (fun c16 => ?_) (fun c16 => ?_)
        · have H := H.1 c16
          refine b_aload_n d_Md_name_113 rfl rfl ?_
          refine b_getf (v := .ref 169) d_Md_name_114 fl_Md_93 (eg_153 τ14) rfl ?_
          refine b_iconst (v := (2 : Int32)) d_Md_name_117 (by decide) ?_
          refine b_aload_n d_Md_name_118 rfl rfl ?_
          refine b_getf (v := .int (gY τ14 11)) d_Md_name_119 fl_Md_87 (eg_153 τ14) rfl ?_
          refine b_imul d_Md_name_122  ?_
          refine b_iload_n d_Md_name_123 rfl rfl ?_
          refine b_iadd d_Md_name_124  ?_
          refine b_iload_n d_Md_name_125 rfl rfl ?_
          refine b_aload_n d_Md_name_126 rfl rfl ?_
          refine b_getf (v := .int (gY τ14 9)) d_Md_name_127 fl_Md_81 (eg_153 τ14) rfl ?_
          refine b_isub d_Md_name_130  ?_
          obtain ⟨h15, H⟩ := H
          refine b_iast (h1 := enc (sC τ14 15 (upd (gC τ14 15) (((2 : Int32) * (gY τ14 11)) + x1).toNatClampNeg (v5 - (gY τ14 9))))) d_Md_name_131 (eg_169 τ14) h15 (es_169 τ14 (upd (gC τ14 15) (((2 : Int32) * (gY τ14 11)) + x1).toNatClampNeg (v5 - (gY τ14 9)))) ?_
          refine b_iconst (v := (0 : Int32)) d_Md_name_132 (by decide) ?_
          refine b_istore_n (ls' := [some (.ref 153), some (.int x1), some (.int v5), some (.int (0 : Int32))]) d_Md_name_133 rfl (Nat.le_of_ble_eq_true rfl) rfl ?_
          exact b_mask [true, true, true, true] rfl H
        · have H := H.2 c16
          exact b_vret d_Md_name_112 rfl ⟨_, rfl, rfl, H⟩
    · have H := H.2 c61
      refine b_aload_n d_Md_name_37 rfl rfl ?_
      refine b_iload_n d_Md_name_38 rfl rfl ?_
      refine b_ldc2 (v := (1684365668 : Int64)) d_Md_name_39 cn_Md_239 ?_
      refine b_iconst (v := (4 : Int32)) d_Md_name_42 (by decide) ?_
      refine b_callVi (Mc := m_Md_spells) (As := [.int v5, .long (1684365668 : Int64), .int (4 : Int32)]) (st := []) d_Md_name_43 ⟨⟨kA_Md_spells.1, kA_Md_spells.2.1, kA_Md_spells.2.2, by decide⟩, ml_Md_221, kV_Md_spells⟩ (eg_153 τ8) rfl rfl (Nat.le_of_ble_eq_true rfl) H (fun v18 τ19 H => ?_)
      refine b_if_ne (tgt := 73) d_Md_name_46 (by decide) (fun c60 => ?_) (fun c60 => ?_)
      · have H := H.1 c60
        refine b_aload_n d_Md_name_73 rfl rfl ?_
        refine b_iconst (v := (1 : Int32)) d_Md_name_74 (by decide) ?_
        refine b_aload_n d_Md_name_75 rfl rfl ?_
        refine b_getf (v := .int (gY τ19 9)) d_Md_name_76 fl_Md_81 (eg_153 τ19) rfl ?_
        refine b_callVv (Mc := m_Md_blame) (As := [.int (1 : Int32), .int (gY τ19 9)]) (st := []) d_Md_name_79 ⟨⟨kA_Md_blame.1, kA_Md_blame.2.1, kA_Md_blame.2.2, by decide⟩, ml_Md_209, kV_Md_blame⟩ (eg_153 τ19) rfl rfl (Nat.le_of_ble_eq_true rfl) H (fun τ21 H => ?_)
        refine b_iload_n d_Md_name_82 rfl rfl ?_
        refine b_aload_n d_Md_name_83 rfl rfl ?_
        refine b_getf (v := .int (gY τ21 9)) d_Md_name_84 fl_Md_81 (eg_153 τ21) rfl ?_
        refine b_isub d_Md_name_87  ?_
        refine b_bipush (v := (10 : Int32)) d_Md_name_88 (by decide) ?_
        refine b_icmp_le (tgt := 105) d_Md_name_90 (by decide) (fun c28 => ?_) (fun c28 => ?_)
        · have H := H.1 c28
          refine b_aload_n d_Md_name_105 rfl rfl ?_
          refine b_getf (v := .int (gY τ21 7)) d_Md_name_106 fl_Md_75 (eg_153 τ21) rfl ?_
          refine b_if_le (tgt := 113) d_Md_name_109 (by decide) (fun c23 => ?_) (fun c23 => ?_)
          · have H := H.1 c23
            refine b_aload_n d_Md_name_113 rfl rfl ?_
            refine b_getf (v := .ref 169) d_Md_name_114 fl_Md_93 (eg_153 τ21) rfl ?_
            refine b_iconst (v := (2 : Int32)) d_Md_name_117 (by decide) ?_
            refine b_aload_n d_Md_name_118 rfl rfl ?_
            refine b_getf (v := .int (gY τ21 11)) d_Md_name_119 fl_Md_87 (eg_153 τ21) rfl ?_
            refine b_imul d_Md_name_122  ?_
            refine b_iload_n d_Md_name_123 rfl rfl ?_
            refine b_iadd d_Md_name_124  ?_
            refine b_iload_n d_Md_name_125 rfl rfl ?_
            refine b_aload_n d_Md_name_126 rfl rfl ?_
            refine b_getf (v := .int (gY τ21 9)) d_Md_name_127 fl_Md_81 (eg_153 τ21) rfl ?_
            refine b_isub d_Md_name_130  ?_
            obtain ⟨h22, H⟩ := H
            refine b_iast (h1 := enc (sC τ21 15 (upd (gC τ21 15) (((2 : Int32) * (gY τ21 11)) + x1).toNatClampNeg (v5 - (gY τ21 9))))) d_Md_name_131 (eg_169 τ21) h22 (es_169 τ21 (upd (gC τ21 15) (((2 : Int32) * (gY τ21 11)) + x1).toNatClampNeg (v5 - (gY τ21 9)))) ?_
            refine b_iconst (v := (0 : Int32)) d_Md_name_132 (by decide) ?_
            refine b_istore_n (ls' := [some (.ref 153), some (.int x1), some (.int v5), some (.int (0 : Int32))]) d_Md_name_133 rfl (Nat.le_of_ble_eq_true rfl) rfl ?_
            exact b_mask [true, true, true, true] rfl H
          · have H := H.2 c23
            exact b_vret d_Md_name_112 rfl ⟨_, rfl, rfl, H⟩
        · have H := H.2 c28
          refine b_aload_n d_Md_name_93 rfl rfl ?_
          refine b_iconst (v := (1 : Int32)) d_Md_name_94 (by decide) ?_
          refine b_aload_n d_Md_name_95 rfl rfl ?_
          refine b_getf (v := .int (gY τ21 9)) d_Md_name_96 fl_Md_81 (eg_153 τ21) rfl ?_
          refine b_bipush (v := (10 : Int32)) d_Md_name_99 (by decide) ?_
          refine b_iadd d_Md_name_101  ?_
          refine b_callVv (Mc := m_Md_blame) (As := [.int (1 : Int32), .int ((gY τ21 9) + (10 : Int32))]) (st := []) d_Md_name_102 ⟨⟨kA_Md_blame.1, kA_Md_blame.2.1, kA_Md_blame.2.2, by decide⟩, ml_Md_209, kV_Md_blame⟩ (eg_153 τ21) rfl rfl (Nat.le_of_ble_eq_true rfl) H (fun τ25 H => ?_)
          refine b_aload_n d_Md_name_105 rfl rfl ?_
          refine b_getf (v := .int (gY τ25 7)) d_Md_name_106 fl_Md_75 (eg_153 τ25) rfl ?_
          refine b_if_le (tgt := 113) d_Md_name_109 (by decide) (fun c27 => ?_) (fun c27 => ?_)
          · have H := H.1 c27
            refine b_aload_n d_Md_name_113 rfl rfl ?_
            refine b_getf (v := .ref 169) d_Md_name_114 fl_Md_93 (eg_153 τ25) rfl ?_
            refine b_iconst (v := (2 : Int32)) d_Md_name_117 (by decide) ?_
            refine b_aload_n d_Md_name_118 rfl rfl ?_
            refine b_getf (v := .int (gY τ25 11)) d_Md_name_119 fl_Md_87 (eg_153 τ25) rfl ?_
            refine b_imul d_Md_name_122  ?_
            refine b_iload_n d_Md_name_123 rfl rfl ?_
            refine b_iadd d_Md_name_124  ?_
            refine b_iload_n d_Md_name_125 rfl rfl ?_
            refine b_aload_n d_Md_name_126 rfl rfl ?_
            refine b_getf (v := .int (gY τ25 9)) d_Md_name_127 fl_Md_81 (eg_153 τ25) rfl ?_
            refine b_isub d_Md_name_130  ?_
            obtain ⟨h26, H⟩ := H
            refine b_iast (h1 := enc (sC τ25 15 (upd (gC τ25 15) (((2 : Int32) * (gY τ25 11)) + x1).toNatClampNeg (v5 - (gY τ25 9))))) d_Md_name_131 (eg_169 τ25) h26 (es_169 τ25 (upd (gC τ25 15) (((2 : Int32) * (gY τ25 11)) + x1).toNatClampNeg (v5 - (gY τ25 9)))) ?_
            refine b_iconst (v := (0 : Int32)) d_Md_name_132 (by decide) ?_
            refine b_istore_n (ls' := [some (.ref 153), some (.int x1), some (.int v5), some (.int (0 : Int32))]) d_Md_name_133 rfl (Nat.le_of_ble_eq_true rfl) rfl ?_
            exact b_mask [true, true, true, true] rfl H
          · have H := H.2 c27
            exact b_vret d_Md_name_112 rfl ⟨_, rfl, rfl, H⟩
      · have H := H.2 c60
        refine b_aload_n d_Md_name_49 rfl rfl ?_
        refine b_iload_n d_Md_name_50 rfl rfl ?_
        refine b_ldc2 (v := (26990 : Int64)) d_Md_name_51 cn_Md_241 ?_
        refine b_iconst (v := (2 : Int32)) d_Md_name_54 (by decide) ?_
        refine b_callVi (Mc := m_Md_spells) (As := [.int v5, .long (26990 : Int64), .int (2 : Int32)]) (st := []) d_Md_name_55 ⟨⟨kA_Md_spells.1, kA_Md_spells.2.1, kA_Md_spells.2.2, by decide⟩, ml_Md_221, kV_Md_spells⟩ (eg_153 τ19) rfl rfl (Nat.le_of_ble_eq_true rfl) H (fun v29 τ30 H => ?_)
        refine b_if_ne (tgt := 73) d_Md_name_58 (by decide) (fun c59 => ?_) (fun c59 => ?_)
        · have H := H.1 c59
          refine b_aload_n d_Md_name_73 rfl rfl ?_
          refine b_iconst (v := (1 : Int32)) d_Md_name_74 (by decide) ?_
          refine b_aload_n d_Md_name_75 rfl rfl ?_
          refine b_getf (v := .int (gY τ30 9)) d_Md_name_76 fl_Md_81 (eg_153 τ30) rfl ?_
          refine b_callVv (Mc := m_Md_blame) (As := [.int (1 : Int32), .int (gY τ30 9)]) (st := []) d_Md_name_79 ⟨⟨kA_Md_blame.1, kA_Md_blame.2.1, kA_Md_blame.2.2, by decide⟩, ml_Md_209, kV_Md_blame⟩ (eg_153 τ30) rfl rfl (Nat.le_of_ble_eq_true rfl) H (fun τ32 H => ?_)
          refine b_iload_n d_Md_name_82 rfl rfl ?_
          refine b_aload_n d_Md_name_83 rfl rfl ?_
          refine b_getf (v := .int (gY τ32 9)) d_Md_name_84 fl_Md_81 (eg_153 τ32) rfl ?_
          refine b_isub d_Md_name_87  ?_
          refine b_bipush (v := (10 : Int32)) d_Md_name_88 (by decide) ?_
          refine b_icmp_le (tgt := 105) d_Md_name_90 (by decide) (fun c39 => ?_) (fun c39 => ?_)
          · have H := H.1 c39
            refine b_aload_n d_Md_name_105 rfl rfl ?_
            refine b_getf (v := .int (gY τ32 7)) d_Md_name_106 fl_Md_75 (eg_153 τ32) rfl ?_
            refine b_if_le (tgt := 113) d_Md_name_109 (by decide) (fun c34 => ?_) (fun c34 => ?_)
            · have H := H.1 c34
              refine b_aload_n d_Md_name_113 rfl rfl ?_
              refine b_getf (v := .ref 169) d_Md_name_114 fl_Md_93 (eg_153 τ32) rfl ?_
              refine b_iconst (v := (2 : Int32)) d_Md_name_117 (by decide) ?_
              refine b_aload_n d_Md_name_118 rfl rfl ?_
              refine b_getf (v := .int (gY τ32 11)) d_Md_name_119 fl_Md_87 (eg_153 τ32) rfl ?_
              refine b_imul d_Md_name_122  ?_
              refine b_iload_n d_Md_name_123 rfl rfl ?_
              refine b_iadd d_Md_name_124  ?_
              refine b_iload_n d_Md_name_125 rfl rfl ?_
              refine b_aload_n d_Md_name_126 rfl rfl ?_
              refine b_getf (v := .int (gY τ32 9)) d_Md_name_127 fl_Md_81 (eg_153 τ32) rfl ?_
              refine b_isub d_Md_name_130  ?_
              obtain ⟨h33, H⟩ := H
              refine b_iast (h1 := enc (sC τ32 15 (upd (gC τ32 15) (((2 : Int32) * (gY τ32 11)) + x1).toNatClampNeg (v5 - (gY τ32 9))))) d_Md_name_131 (eg_169 τ32) h33 (es_169 τ32 (upd (gC τ32 15) (((2 : Int32) * (gY τ32 11)) + x1).toNatClampNeg (v5 - (gY τ32 9)))) ?_
              refine b_iconst (v := (0 : Int32)) d_Md_name_132 (by decide) ?_
              refine b_istore_n (ls' := [some (.ref 153), some (.int x1), some (.int v5), some (.int (0 : Int32))]) d_Md_name_133 rfl (Nat.le_of_ble_eq_true rfl) rfl ?_
              exact b_mask [true, true, true, true] rfl H
            · have H := H.2 c34
              exact b_vret d_Md_name_112 rfl ⟨_, rfl, rfl, H⟩
          · have H := H.2 c39
            refine b_aload_n d_Md_name_93 rfl rfl ?_
            refine b_iconst (v := (1 : Int32)) d_Md_name_94 (by decide) ?_
            refine b_aload_n d_Md_name_95 rfl rfl ?_
            refine b_getf (v := .int (gY τ32 9)) d_Md_name_96 fl_Md_81 (eg_153 τ32) rfl ?_
            refine b_bipush (v := (10 : Int32)) d_Md_name_99 (by decide) ?_
            refine b_iadd d_Md_name_101  ?_
            refine b_callVv (Mc := m_Md_blame) (As := [.int (1 : Int32), .int ((gY τ32 9) + (10 : Int32))]) (st := []) d_Md_name_102 ⟨⟨kA_Md_blame.1, kA_Md_blame.2.1, kA_Md_blame.2.2, by decide⟩, ml_Md_209, kV_Md_blame⟩ (eg_153 τ32) rfl rfl (Nat.le_of_ble_eq_true rfl) H (fun τ36 H => ?_)
            refine b_aload_n d_Md_name_105 rfl rfl ?_
            refine b_getf (v := .int (gY τ36 7)) d_Md_name_106 fl_Md_75 (eg_153 τ36) rfl ?_
            refine b_if_le (tgt := 113) d_Md_name_109 (by decide) (fun c38 => ?_) (fun c38 => ?_)
            · have H := H.1 c38
              refine b_aload_n d_Md_name_113 rfl rfl ?_
              refine b_getf (v := .ref 169) d_Md_name_114 fl_Md_93 (eg_153 τ36) rfl ?_
              refine b_iconst (v := (2 : Int32)) d_Md_name_117 (by decide) ?_
              refine b_aload_n d_Md_name_118 rfl rfl ?_
              refine b_getf (v := .int (gY τ36 11)) d_Md_name_119 fl_Md_87 (eg_153 τ36) rfl ?_
              refine b_imul d_Md_name_122  ?_
              refine b_iload_n d_Md_name_123 rfl rfl ?_
              refine b_iadd d_Md_name_124  ?_
              refine b_iload_n d_Md_name_125 rfl rfl ?_
              refine b_aload_n d_Md_name_126 rfl rfl ?_
              refine b_getf (v := .int (gY τ36 9)) d_Md_name_127 fl_Md_81 (eg_153 τ36) rfl ?_
              refine b_isub d_Md_name_130  ?_
              obtain ⟨h37, H⟩ := H
              refine b_iast (h1 := enc (sC τ36 15 (upd (gC τ36 15) (((2 : Int32) * (gY τ36 11)) + x1).toNatClampNeg (v5 - (gY τ36 9))))) d_Md_name_131 (eg_169 τ36) h37 (es_169 τ36 (upd (gC τ36 15) (((2 : Int32) * (gY τ36 11)) + x1).toNatClampNeg (v5 - (gY τ36 9)))) ?_
              refine b_iconst (v := (0 : Int32)) d_Md_name_132 (by decide) ?_
              refine b_istore_n (ls' := [some (.ref 153), some (.int x1), some (.int v5), some (.int (0 : Int32))]) d_Md_name_133 rfl (Nat.le_of_ble_eq_true rfl) rfl ?_
              exact b_mask [true, true, true, true] rfl H
            · have H := H.2 c38
              exact b_vret d_Md_name_112 rfl ⟨_, rfl, rfl, H⟩
        · have H := H.2 c59
          refine b_aload_n d_Md_name_61 rfl rfl ?_
          refine b_iload_n d_Md_name_62 rfl rfl ?_
          refine b_ldc2 (v := (28526 : Int64)) d_Md_name_63 cn_Md_243 ?_
          refine b_iconst (v := (2 : Int32)) d_Md_name_66 (by decide) ?_
          refine b_callVi (Mc := m_Md_spells) (As := [.int v5, .long (28526 : Int64), .int (2 : Int32)]) (st := []) d_Md_name_67 ⟨⟨kA_Md_spells.1, kA_Md_spells.2.1, kA_Md_spells.2.2, by decide⟩, ml_Md_221, kV_Md_spells⟩ (eg_153 τ30) rfl rfl (Nat.le_of_ble_eq_true rfl) H (fun v40 τ41 H => ?_)
          refine b_if_eq (tgt := 82) d_Md_name_70 (by decide) (fun c58 => ?_) (fun c58 => ?_)
          · have H := H.1 c58
            refine b_iload_n d_Md_name_82 rfl rfl ?_
            refine b_aload_n d_Md_name_83 rfl rfl ?_
            refine b_getf (v := .int (gY τ41 9)) d_Md_name_84 fl_Md_81 (eg_153 τ41) rfl ?_
            refine b_isub d_Md_name_87  ?_
            refine b_bipush (v := (10 : Int32)) d_Md_name_88 (by decide) ?_
            refine b_icmp_le (tgt := 105) d_Md_name_90 (by decide) (fun c48 => ?_) (fun c48 => ?_)
            · have H := H.1 c48
              refine b_aload_n d_Md_name_105 rfl rfl ?_
              refine b_getf (v := .int (gY τ41 7)) d_Md_name_106 fl_Md_75 (eg_153 τ41) rfl ?_
              refine b_if_le (tgt := 113) d_Md_name_109 (by decide) (fun c43 => ?_) (fun c43 => ?_)
              · have H := H.1 c43
                refine b_aload_n d_Md_name_113 rfl rfl ?_
                refine b_getf (v := .ref 169) d_Md_name_114 fl_Md_93 (eg_153 τ41) rfl ?_
                refine b_iconst (v := (2 : Int32)) d_Md_name_117 (by decide) ?_
                refine b_aload_n d_Md_name_118 rfl rfl ?_
                refine b_getf (v := .int (gY τ41 11)) d_Md_name_119 fl_Md_87 (eg_153 τ41) rfl ?_
                refine b_imul d_Md_name_122  ?_
                refine b_iload_n d_Md_name_123 rfl rfl ?_
                refine b_iadd d_Md_name_124  ?_
                refine b_iload_n d_Md_name_125 rfl rfl ?_
                refine b_aload_n d_Md_name_126 rfl rfl ?_
                refine b_getf (v := .int (gY τ41 9)) d_Md_name_127 fl_Md_81 (eg_153 τ41) rfl ?_
                refine b_isub d_Md_name_130  ?_
                obtain ⟨h42, H⟩ := H
                refine b_iast (h1 := enc (sC τ41 15 (upd (gC τ41 15) (((2 : Int32) * (gY τ41 11)) + x1).toNatClampNeg (v5 - (gY τ41 9))))) d_Md_name_131 (eg_169 τ41) h42 (es_169 τ41 (upd (gC τ41 15) (((2 : Int32) * (gY τ41 11)) + x1).toNatClampNeg (v5 - (gY τ41 9)))) ?_
                refine b_iconst (v := (0 : Int32)) d_Md_name_132 (by decide) ?_
                refine b_istore_n (ls' := [some (.ref 153), some (.int x1), some (.int v5), some (.int (0 : Int32))]) d_Md_name_133 rfl (Nat.le_of_ble_eq_true rfl) rfl ?_
                exact b_mask [true, true, true, true] rfl H
              · have H := H.2 c43
                exact b_vret d_Md_name_112 rfl ⟨_, rfl, rfl, H⟩
            · have H := H.2 c48
              refine b_aload_n d_Md_name_93 rfl rfl ?_
              refine b_iconst (v := (1 : Int32)) d_Md_name_94 (by decide) ?_
              refine b_aload_n d_Md_name_95 rfl rfl ?_
              refine b_getf (v := .int (gY τ41 9)) d_Md_name_96 fl_Md_81 (eg_153 τ41) rfl ?_
              refine b_bipush (v := (10 : Int32)) d_Md_name_99 (by decide) ?_
              refine b_iadd d_Md_name_101  ?_
              refine b_callVv (Mc := m_Md_blame) (As := [.int (1 : Int32), .int ((gY τ41 9) + (10 : Int32))]) (st := []) d_Md_name_102 ⟨⟨kA_Md_blame.1, kA_Md_blame.2.1, kA_Md_blame.2.2, by decide⟩, ml_Md_209, kV_Md_blame⟩ (eg_153 τ41) rfl rfl (Nat.le_of_ble_eq_true rfl) H (fun τ45 H => ?_)
              refine b_aload_n d_Md_name_105 rfl rfl ?_
              refine b_getf (v := .int (gY τ45 7)) d_Md_name_106 fl_Md_75 (eg_153 τ45) rfl ?_
              refine b_if_le (tgt := 113) d_Md_name_109 (by decide) (fun c47 => ?_) (fun c47 => ?_)
              · have H := H.1 c47
                refine b_aload_n d_Md_name_113 rfl rfl ?_
                refine b_getf (v := .ref 169) d_Md_name_114 fl_Md_93 (eg_153 τ45) rfl ?_
                refine b_iconst (v := (2 : Int32)) d_Md_name_117 (by decide) ?_
                refine b_aload_n d_Md_name_118 rfl rfl ?_
                refine b_getf (v := .int (gY τ45 11)) d_Md_name_119 fl_Md_87 (eg_153 τ45) rfl ?_
                refine b_imul d_Md_name_122  ?_
                refine b_iload_n d_Md_name_123 rfl rfl ?_
                refine b_iadd d_Md_name_124  ?_
                refine b_iload_n d_Md_name_125 rfl rfl ?_
                refine b_aload_n d_Md_name_126 rfl rfl ?_
                refine b_getf (v := .int (gY τ45 9)) d_Md_name_127 fl_Md_81 (eg_153 τ45) rfl ?_
                refine b_isub d_Md_name_130  ?_
                obtain ⟨h46, H⟩ := H
                refine b_iast (h1 := enc (sC τ45 15 (upd (gC τ45 15) (((2 : Int32) * (gY τ45 11)) + x1).toNatClampNeg (v5 - (gY τ45 9))))) d_Md_name_131 (eg_169 τ45) h46 (es_169 τ45 (upd (gC τ45 15) (((2 : Int32) * (gY τ45 11)) + x1).toNatClampNeg (v5 - (gY τ45 9)))) ?_
                refine b_iconst (v := (0 : Int32)) d_Md_name_132 (by decide) ?_
                refine b_istore_n (ls' := [some (.ref 153), some (.int x1), some (.int v5), some (.int (0 : Int32))]) d_Md_name_133 rfl (Nat.le_of_ble_eq_true rfl) rfl ?_
                exact b_mask [true, true, true, true] rfl H
              · have H := H.2 c47
                exact b_vret d_Md_name_112 rfl ⟨_, rfl, rfl, H⟩
          · have H := H.2 c58
            refine b_aload_n d_Md_name_73 rfl rfl ?_
            refine b_iconst (v := (1 : Int32)) d_Md_name_74 (by decide) ?_
            refine b_aload_n d_Md_name_75 rfl rfl ?_
            refine b_getf (v := .int (gY τ41 9)) d_Md_name_76 fl_Md_81 (eg_153 τ41) rfl ?_
            refine b_callVv (Mc := m_Md_blame) (As := [.int (1 : Int32), .int (gY τ41 9)]) (st := []) d_Md_name_79 ⟨⟨kA_Md_blame.1, kA_Md_blame.2.1, kA_Md_blame.2.2, by decide⟩, ml_Md_209, kV_Md_blame⟩ (eg_153 τ41) rfl rfl (Nat.le_of_ble_eq_true rfl) H (fun τ50 H => ?_)
            refine b_iload_n d_Md_name_82 rfl rfl ?_
            refine b_aload_n d_Md_name_83 rfl rfl ?_
            refine b_getf (v := .int (gY τ50 9)) d_Md_name_84 fl_Md_81 (eg_153 τ50) rfl ?_
            refine b_isub d_Md_name_87  ?_
            refine b_bipush (v := (10 : Int32)) d_Md_name_88 (by decide) ?_
            refine b_icmp_le (tgt := 105) d_Md_name_90 (by decide) (fun c57 => ?_) (fun c57 => ?_)
            · have H := H.1 c57
              refine b_aload_n d_Md_name_105 rfl rfl ?_
              refine b_getf (v := .int (gY τ50 7)) d_Md_name_106 fl_Md_75 (eg_153 τ50) rfl ?_
              refine b_if_le (tgt := 113) d_Md_name_109 (by decide) (fun c52 => ?_) (fun c52 => ?_)
              · have H := H.1 c52
                refine b_aload_n d_Md_name_113 rfl rfl ?_
                refine b_getf (v := .ref 169) d_Md_name_114 fl_Md_93 (eg_153 τ50) rfl ?_
                refine b_iconst (v := (2 : Int32)) d_Md_name_117 (by decide) ?_
                refine b_aload_n d_Md_name_118 rfl rfl ?_
                refine b_getf (v := .int (gY τ50 11)) d_Md_name_119 fl_Md_87 (eg_153 τ50) rfl ?_
                refine b_imul d_Md_name_122  ?_
                refine b_iload_n d_Md_name_123 rfl rfl ?_
                refine b_iadd d_Md_name_124  ?_
                refine b_iload_n d_Md_name_125 rfl rfl ?_
                refine b_aload_n d_Md_name_126 rfl rfl ?_
                refine b_getf (v := .int (gY τ50 9)) d_Md_name_127 fl_Md_81 (eg_153 τ50) rfl ?_
                refine b_isub d_Md_name_130  ?_
                obtain ⟨h51, H⟩ := H
                refine b_iast (h1 := enc (sC τ50 15 (upd (gC τ50 15) (((2 : Int32) * (gY τ50 11)) + x1).toNatClampNeg (v5 - (gY τ50 9))))) d_Md_name_131 (eg_169 τ50) h51 (es_169 τ50 (upd (gC τ50 15) (((2 : Int32) * (gY τ50 11)) + x1).toNatClampNeg (v5 - (gY τ50 9)))) ?_
                refine b_iconst (v := (0 : Int32)) d_Md_name_132 (by decide) ?_
                refine b_istore_n (ls' := [some (.ref 153), some (.int x1), some (.int v5), some (.int (0 : Int32))]) d_Md_name_133 rfl (Nat.le_of_ble_eq_true rfl) rfl ?_
                exact b_mask [true, true, true, true] rfl H
              · have H := H.2 c52
                exact b_vret d_Md_name_112 rfl ⟨_, rfl, rfl, H⟩
            · have H := H.2 c57
              refine b_aload_n d_Md_name_93 rfl rfl ?_
              refine b_iconst (v := (1 : Int32)) d_Md_name_94 (by decide) ?_
              refine b_aload_n d_Md_name_95 rfl rfl ?_
              refine b_getf (v := .int (gY τ50 9)) d_Md_name_96 fl_Md_81 (eg_153 τ50) rfl ?_
              refine b_bipush (v := (10 : Int32)) d_Md_name_99 (by decide) ?_
              refine b_iadd d_Md_name_101  ?_
              refine b_callVv (Mc := m_Md_blame) (As := [.int (1 : Int32), .int ((gY τ50 9) + (10 : Int32))]) (st := []) d_Md_name_102 ⟨⟨kA_Md_blame.1, kA_Md_blame.2.1, kA_Md_blame.2.2, by decide⟩, ml_Md_209, kV_Md_blame⟩ (eg_153 τ50) rfl rfl (Nat.le_of_ble_eq_true rfl) H (fun τ54 H => ?_)
              refine b_aload_n d_Md_name_105 rfl rfl ?_
              refine b_getf (v := .int (gY τ54 7)) d_Md_name_106 fl_Md_75 (eg_153 τ54) rfl ?_
              refine b_if_le (tgt := 113) d_Md_name_109 (by decide) (fun c56 => ?_) (fun c56 => ?_)
              · have H := H.1 c56
                refine b_aload_n d_Md_name_113 rfl rfl ?_
                refine b_getf (v := .ref 169) d_Md_name_114 fl_Md_93 (eg_153 τ54) rfl ?_
                refine b_iconst (v := (2 : Int32)) d_Md_name_117 (by decide) ?_
                refine b_aload_n d_Md_name_118 rfl rfl ?_
                refine b_getf (v := .int (gY τ54 11)) d_Md_name_119 fl_Md_87 (eg_153 τ54) rfl ?_
                refine b_imul d_Md_name_122  ?_
                refine b_iload_n d_Md_name_123 rfl rfl ?_
                refine b_iadd d_Md_name_124  ?_
                refine b_iload_n d_Md_name_125 rfl rfl ?_
                refine b_aload_n d_Md_name_126 rfl rfl ?_
                refine b_getf (v := .int (gY τ54 9)) d_Md_name_127 fl_Md_81 (eg_153 τ54) rfl ?_
                refine b_isub d_Md_name_130  ?_
                obtain ⟨h55, H⟩ := H
                refine b_iast (h1 := enc (sC τ54 15 (upd (gC τ54 15) (((2 : Int32) * (gY τ54 11)) + x1).toNatClampNeg (v5 - (gY τ54 9))))) d_Md_name_131 (eg_169 τ54) h55 (es_169 τ54 (upd (gC τ54 15) (((2 : Int32) * (gY τ54 11)) + x1).toNatClampNeg (v5 - (gY τ54 9)))) ?_
                refine b_iconst (v := (0 : Int32)) d_Md_name_132 (by decide) ?_
                refine b_istore_n (ls' := [some (.ref 153), some (.int x1), some (.int v5), some (.int (0 : Int32))]) d_Md_name_133 rfl (Nat.le_of_ble_eq_true rfl) rfl ?_
                exact b_mask [true, true, true, true] rfl H
              · have H := H.2 c56
                exact b_vret d_Md_name_112 rfl ⟨_, rfl, rfl, H⟩
  · have H := H.2 c64
    refine b_aload_n d_Md_name_10 rfl rfl ?_
    refine b_iconst (v := (1 : Int32)) d_Md_name_11 (by decide) ?_
    refine b_aload_n d_Md_name_12 rfl rfl ?_
    refine b_getf (v := .int (gY τ4 9)) d_Md_name_13 fl_Md_81 (eg_153 τ4) rfl ?_
    refine b_callVv (Mc := m_Md_blame) (As := [.int (1 : Int32), .int (gY τ4 9)]) (st := []) d_Md_name_16 ⟨⟨kA_Md_blame.1, kA_Md_blame.2.1, kA_Md_blame.2.2, by decide⟩, ml_Md_209, kV_Md_blame⟩ (eg_153 τ4) rfl rfl (Nat.le_of_ble_eq_true rfl) H (fun τ63 H => ?_)
    exact b_vret d_Md_name_19 rfl ⟨_, rfl, rfl, H⟩
set_option maxHeartbeats 4000000 in
set_option maxRecDepth 100000 in
theorem B_Md_name_134 {S : XS} {Q : St → Prop} (σ : St) (x1 : Int32) (x2 : Int32) (x3 : Int32) (H : ((x2 ≤ (gY σ 9) → Q σ) ∧ (¬ x2 ≤ (gY σ 9) → (vp_in (gY σ 9) 200) ∧ (vp_in ((((20 : Int32) * (gY σ 11)) + ((10 : Int32) * x1)) + x3) 1220) ∧ BW S m_Md_name 134 [some (.ref 153), some (.int x1), some (.int x2), some (.int (x3 + (1 : Int32)))] [] (enc (sY (sC σ 14 (upd (gC σ 14) ((((20 : Int32) * (gY σ 11)) + ((10 : Int32) * x1)) + x3).toNatClampNeg ((gC σ 0) (gY σ 9).toNatClampNeg))) 9 ((gY σ 9) + (1 : Int32)))) (qV Q)))) : BW S m_Md_name 134 [some (.ref 153), some (.int x1), some (.int x2), some (.int x3)] [] (enc σ) (qV Q) := by
  refine b_aload_n d_Md_name_134 rfl rfl ?_
  refine b_getf (v := .int (gY σ 9)) d_Md_name_135 fl_Md_81 (eg_153 σ) rfl ?_
  refine b_iload_n d_Md_name_138 rfl rfl ?_
  refine b_icmp_ge (tgt := 186) d_Md_name_139 (by decide) (fun c67 => ?_) (fun c67 => ?_)
  · have H := H.1 c67
    exact b_vret d_Md_name_186 rfl ⟨_, rfl, rfl, H⟩
  · have H := H.2 c67
    refine b_aload_n d_Md_name_142 rfl rfl ?_
    refine b_getf (v := .ref 168) d_Md_name_143 fl_Md_90 (eg_153 σ) rfl ?_
    refine b_bipush (v := (20 : Int32)) d_Md_name_146 (by decide) ?_
    refine b_aload_n d_Md_name_148 rfl rfl ?_
    refine b_getf (v := .int (gY σ 11)) d_Md_name_149 fl_Md_87 (eg_153 σ) rfl ?_
    refine b_imul d_Md_name_152  ?_
    refine b_bipush (v := (10 : Int32)) d_Md_name_153 (by decide) ?_
    refine b_iload_n d_Md_name_155 rfl rfl ?_
    refine b_imul d_Md_name_156  ?_
    refine b_iadd d_Md_name_157  ?_
    refine b_iload_n d_Md_name_158 rfl rfl ?_
    refine b_iadd d_Md_name_159  ?_
    refine b_aload_n d_Md_name_160 rfl rfl ?_
    refine b_getf (v := .ref 154) d_Md_name_161 fl_Md_1 (eg_153 σ) rfl ?_
    refine b_aload_n d_Md_name_164 rfl rfl ?_
    refine b_getf (v := .int (gY σ 9)) d_Md_name_165 fl_Md_81 (eg_153 σ) rfl ?_
    obtain ⟨h65, H⟩ := H
    refine b_iald d_Md_name_168 (eg_154 σ) h65 ?_
    refine b_st2 (st' := [.int ((gC σ 0) (gY σ 9).toNatClampNeg), .int ((((20 : Int32) * (gY σ 11)) + ((10 : Int32) * x1)) + x3), .ref 168]) rfl ?_
    obtain ⟨h66, H⟩ := H
    refine b_iast (h1 := enc (sC σ 14 (upd (gC σ 14) ((((20 : Int32) * (gY σ 11)) + ((10 : Int32) * x1)) + x3).toNatClampNeg ((gC σ 0) (gY σ 9).toNatClampNeg)))) d_Md_name_169 (eg_168 σ) h66 (es_168 σ (upd (gC σ 14) ((((20 : Int32) * (gY σ 11)) + ((10 : Int32) * x1)) + x3).toNatClampNeg ((gC σ 0) (gY σ 9).toNatClampNeg))) ?_
    refine b_aload_n d_Md_name_170 rfl rfl ?_
    refine b_dup d_Md_name_171 rfl ?_
    refine b_getf (v := .int (gY σ 9)) d_Md_name_172 fl_Md_81 (eg_153 (sC σ 14 (upd (gC σ 14) ((((20 : Int32) * (gY σ 11)) + ((10 : Int32) * x1)) + x3).toNatClampNeg ((gC σ 0) (gY σ 9).toNatClampNeg)))) rfl ?_
    refine b_iconst (v := (1 : Int32)) d_Md_name_175 (by decide) ?_
    refine b_iadd d_Md_name_176  ?_
    refine b_putf (ty := .int) (h1 := enc (sY (sC σ 14 (upd (gC σ 14) ((((20 : Int32) * (gY σ 11)) + ((10 : Int32) * x1)) + x3).toNatClampNeg ((gC σ 0) (gY σ 9).toNatClampNeg))) 9 ((gY σ 9) + (1 : Int32)))) d_Md_name_177 fl_Md_81 ft_12_23 (fun _ => ⟨rfl, rfl⟩) (eg_153 (sC σ 14 (upd (gC σ 14) ((((20 : Int32) * (gY σ 11)) + ((10 : Int32) * x1)) + x3).toNatClampNeg ((gC σ 0) (gY σ 9).toNatClampNeg)))) (Nat.le_of_ble_eq_true rfl) (es_153_23 (sC σ 14 (upd (gC σ 14) ((((20 : Int32) * (gY σ 11)) + ((10 : Int32) * x1)) + x3).toNatClampNeg ((gC σ 0) (gY σ 9).toNatClampNeg))) ((gY σ 9) + (1 : Int32))) ?_
    refine b_iinc (v := (x3 + (1 : Int32))) (ls' := [some (.ref 153), some (.int x1), some (.int x2), some (.int (x3 + (1 : Int32)))]) d_Md_name_180 rfl rfl (Nat.le_of_ble_eq_true rfl) rfl ?_
    refine b_goto (tgt := 134) d_Md_name_183 (by decide) ?_
    exact b_mask [true, true, true, true] rfl H
theorem C_Md_name {S : XS} {Q : St → Prop} (σ : St) (x1 : Int32) (H : BW S m_Md_name 0 [some (.ref 153), some (.int x1), none, none] [] (enc σ) (qV Q)) : CM S m_Md_name [.ref 153, .int x1] (enc σ) (qV Q) := b_meth (by decide) (Nat.le_of_ble_eq_true rfl) rfl H
theorem d_Md_fact_0 : decode m_Md_fact.2.1 0 = .ok (.aload_n 0, 1) := by decide +kernel
theorem d_Md_fact_1 : decode m_Md_fact.2.1 1 = .ok (.invokevirtual 245, 3) := by decide +kernel
theorem d_Md_fact_4 : decode m_Md_fact.2.1 4 = .ok (.aload_n 0, 1) := by decide +kernel
theorem d_Md_fact_5 : decode m_Md_fact.2.1 5 = .ok (.iconst 0, 1) := by decide +kernel
theorem d_Md_fact_6 : decode m_Md_fact.2.1 6 = .ok (.invokevirtual 248, 3) := by decide +kernel
theorem d_Md_fact_9 : decode m_Md_fact.2.1 9 = .ok (.aload_n 0, 1) := by decide +kernel
theorem d_Md_fact_10 : decode m_Md_fact.2.1 10 = .ok (.getfield 75, 3) := by decide +kernel
theorem d_Md_fact_13 : decode m_Md_fact.2.1 13 = .ok (.ifCond .ne 80, 3) := by decide +kernel
theorem d_Md_fact_16 : decode m_Md_fact.2.1 16 = .ok (.aload_n 0, 1) := by decide +kernel
theorem d_Md_fact_17 : decode m_Md_fact.2.1 17 = .ok (.getfield 96, 3) := by decide +kernel
theorem d_Md_fact_20 : decode m_Md_fact.2.1 20 = .ok (.aload_n 0, 1) := by decide +kernel
theorem d_Md_fact_21 : decode m_Md_fact.2.1 21 = .ok (.getfield 87, 3) := by decide +kernel
theorem d_Md_fact_24 : decode m_Md_fact.2.1 24 = .ok (.aload_n 0, 1) := by decide +kernel
theorem d_Md_fact_25 : decode m_Md_fact.2.1 25 = .ok (.ldc2_w 237, 3) := by decide +kernel
theorem d_Md_fact_28 : decode m_Md_fact.2.1 28 = .ok (.iconst 4, 1) := by decide +kernel
theorem d_Md_fact_29 : decode m_Md_fact.2.1 29 = .ok (.invokevirtual 251, 3) := by decide +kernel
theorem d_Md_fact_32 : decode m_Md_fact.2.1 32 = .ok (.ifCond .eq 7, 3) := by decide +kernel
theorem d_Md_fact_35 : decode m_Md_fact.2.1 35 = .ok (.iconst 0, 1) := by decide +kernel
theorem d_Md_fact_36 : decode m_Md_fact.2.1 36 = .ok (.goto 34, 3) := by decide +kernel
theorem d_Md_fact_39 : decode m_Md_fact.2.1 39 = .ok (.aload_n 0, 1) := by decide +kernel
theorem d_Md_fact_40 : decode m_Md_fact.2.1 40 = .ok (.ldc2_w 239, 3) := by decide +kernel
theorem d_Md_fact_43 : decode m_Md_fact.2.1 43 = .ok (.iconst 4, 1) := by decide +kernel
theorem d_Md_fact_44 : decode m_Md_fact.2.1 44 = .ok (.invokevirtual 251, 3) := by decide +kernel
theorem d_Md_fact_47 : decode m_Md_fact.2.1 47 = .ok (.ifCond .eq 7, 3) := by decide +kernel
theorem d_Md_fact_50 : decode m_Md_fact.2.1 50 = .ok (.iconst 1, 1) := by decide +kernel
theorem d_Md_fact_51 : decode m_Md_fact.2.1 51 = .ok (.goto 19, 3) := by decide +kernel
theorem d_Md_fact_54 : decode m_Md_fact.2.1 54 = .ok (.aload_n 0, 1) := by decide +kernel
theorem d_Md_fact_55 : decode m_Md_fact.2.1 55 = .ok (.ldc2_w 241, 3) := by decide +kernel
theorem d_Md_fact_58 : decode m_Md_fact.2.1 58 = .ok (.iconst 2, 1) := by decide +kernel
theorem d_Md_fact_59 : decode m_Md_fact.2.1 59 = .ok (.invokevirtual 251, 3) := by decide +kernel
theorem d_Md_fact_62 : decode m_Md_fact.2.1 62 = .ok (.ifCond .eq 7, 3) := by decide +kernel
theorem d_Md_fact_65 : decode m_Md_fact.2.1 65 = .ok (.iconst 2, 1) := by decide +kernel
theorem d_Md_fact_66 : decode m_Md_fact.2.1 66 = .ok (.goto 4, 3) := by decide +kernel
theorem d_Md_fact_69 : decode m_Md_fact.2.1 69 = .ok (.iconst (-1), 1) := by decide +kernel
theorem d_Md_fact_70 : decode m_Md_fact.2.1 70 = .ok (.iastore, 1) := by decide +kernel
theorem d_Md_fact_71 : decode m_Md_fact.2.1 71 = .ok (.aload_n 0, 1) := by decide +kernel
theorem d_Md_fact_72 : decode m_Md_fact.2.1 72 = .ok (.getfield 96, 3) := by decide +kernel
theorem d_Md_fact_75 : decode m_Md_fact.2.1 75 = .ok (.aload_n 0, 1) := by decide +kernel
theorem d_Md_fact_76 : decode m_Md_fact.2.1 76 = .ok (.getfield 87, 3) := by decide +kernel
theorem d_Md_fact_79 : decode m_Md_fact.2.1 79 = .ok (.iaload, 1) := by decide +kernel
theorem d_Md_fact_80 : decode m_Md_fact.2.1 80 = .ok (.iconst (-1), 1) := by decide +kernel
theorem d_Md_fact_81 : decode m_Md_fact.2.1 81 = .ok (.if_icmp .ne 12, 3) := by decide +kernel
theorem d_Md_fact_84 : decode m_Md_fact.2.1 84 = .ok (.aload_n 0, 1) := by decide +kernel
theorem d_Md_fact_85 : decode m_Md_fact.2.1 85 = .ok (.iconst 1, 1) := by decide +kernel
theorem d_Md_fact_86 : decode m_Md_fact.2.1 86 = .ok (.aload_n 0, 1) := by decide +kernel
theorem d_Md_fact_87 : decode m_Md_fact.2.1 87 = .ok (.getfield 81, 3) := by decide +kernel
theorem d_Md_fact_90 : decode m_Md_fact.2.1 90 = .ok (.invokevirtual 209, 3) := by decide +kernel
theorem d_Md_fact_93 : decode m_Md_fact.2.1 93 = .ok (.aload_n 0, 1) := by decide +kernel
theorem d_Md_fact_94 : decode m_Md_fact.2.1 94 = .ok (.getfield 75, 3) := by decide +kernel
theorem d_Md_fact_97 : decode m_Md_fact.2.1 97 = .ok (.ifCond .ne 48, 3) := by decide +kernel
theorem d_Md_fact_100 : decode m_Md_fact.2.1 100 = .ok (.aload_n 0, 1) := by decide +kernel
theorem d_Md_fact_101 : decode m_Md_fact.2.1 101 = .ok (.getfield 96, 3) := by decide +kernel
theorem d_Md_fact_104 : decode m_Md_fact.2.1 104 = .ok (.aload_n 0, 1) := by decide +kernel
theorem d_Md_fact_105 : decode m_Md_fact.2.1 105 = .ok (.getfield 87, 3) := by decide +kernel
theorem d_Md_fact_108 : decode m_Md_fact.2.1 108 = .ok (.iaload, 1) := by decide +kernel
theorem d_Md_fact_109 : decode m_Md_fact.2.1 109 = .ok (.iconst 2, 1) := by decide +kernel
theorem d_Md_fact_110 : decode m_Md_fact.2.1 110 = .ok (.if_icmp .ne 35, 3) := by decide +kernel
theorem d_Md_fact_113 : decode m_Md_fact.2.1 113 = .ok (.aload_n 0, 1) := by decide +kernel
theorem d_Md_fact_114 : decode m_Md_fact.2.1 114 = .ok (.iconst 1, 1) := by decide +kernel
theorem d_Md_fact_115 : decode m_Md_fact.2.1 115 = .ok (.invokevirtual 248, 3) := by decide +kernel
theorem d_Md_fact_118 : decode m_Md_fact.2.1 118 = .ok (.aload_n 0, 1) := by decide +kernel
theorem d_Md_fact_119 : decode m_Md_fact.2.1 119 = .ok (.getfield 75, 3) := by decide +kernel
theorem d_Md_fact_122 : decode m_Md_fact.2.1 122 = .ok (.ifCond .ne 23, 3) := by decide +kernel
theorem d_Md_fact_125 : decode m_Md_fact.2.1 125 = .ok (.aload_n 0, 1) := by decide +kernel
theorem d_Md_fact_126 : decode m_Md_fact.2.1 126 = .ok (.ldc2_w 243, 3) := by decide +kernel
theorem d_Md_fact_129 : decode m_Md_fact.2.1 129 = .ok (.iconst 2, 1) := by decide +kernel
theorem d_Md_fact_130 : decode m_Md_fact.2.1 130 = .ok (.invokevirtual 251, 3) := by decide +kernel
theorem d_Md_fact_133 : decode m_Md_fact.2.1 133 = .ok (.ifCond .ne 12, 3) := by decide +kernel
theorem d_Md_fact_136 : decode m_Md_fact.2.1 136 = .ok (.aload_n 0, 1) := by decide +kernel
theorem d_Md_fact_137 : decode m_Md_fact.2.1 137 = .ok (.iconst 1, 1) := by decide +kernel
theorem d_Md_fact_138 : decode m_Md_fact.2.1 138 = .ok (.aload_n 0, 1) := by decide +kernel
theorem d_Md_fact_139 : decode m_Md_fact.2.1 139 = .ok (.getfield 81, 3) := by decide +kernel
theorem d_Md_fact_142 : decode m_Md_fact.2.1 142 = .ok (.invokevirtual 209, 3) := by decide +kernel
theorem d_Md_fact_145 : decode m_Md_fact.2.1 145 = .ok (.aload_n 0, 1) := by decide +kernel
theorem d_Md_fact_146 : decode m_Md_fact.2.1 146 = .ok (.getfield 75, 3) := by decide +kernel
theorem d_Md_fact_149 : decode m_Md_fact.2.1 149 = .ok (.ifCond .ne 16, 3) := by decide +kernel
theorem d_Md_fact_152 : decode m_Md_fact.2.1 152 = .ok (.aload_n 0, 1) := by decide +kernel
theorem d_Md_fact_153 : decode m_Md_fact.2.1 153 = .ok (.getfield 99, 3) := by decide +kernel
theorem d_Md_fact_156 : decode m_Md_fact.2.1 156 = .ok (.aload_n 0, 1) := by decide +kernel
theorem d_Md_fact_157 : decode m_Md_fact.2.1 157 = .ok (.getfield 87, 3) := by decide +kernel
theorem d_Md_fact_160 : decode m_Md_fact.2.1 160 = .ok (.aload_n 0, 1) := by decide +kernel
theorem d_Md_fact_161 : decode m_Md_fact.2.1 161 = .ok (.invokevirtual 228, 3) := by decide +kernel
theorem d_Md_fact_164 : decode m_Md_fact.2.1 164 = .ok (.iastore, 1) := by decide +kernel
theorem d_Md_fact_165 : decode m_Md_fact.2.1 165 = .ok (.aload_n 0, 1) := by decide +kernel
theorem d_Md_fact_166 : decode m_Md_fact.2.1 166 = .ok (.invokevirtual 255, 3) := by decide +kernel
theorem d_Md_fact_169 : decode m_Md_fact.2.1 169 = .ok (.aload_n 0, 1) := by decide +kernel
theorem d_Md_fact_170 : decode m_Md_fact.2.1 170 = .ok (.getfield 75, 3) := by decide +kernel
theorem d_Md_fact_173 : decode m_Md_fact.2.1 173 = .ok (.ifCond .le 5, 3) := by decide +kernel
theorem d_Md_fact_176 : decode m_Md_fact.2.1 176 = .ok (.iconst (-1), 1) := by decide +kernel
theorem d_Md_fact_177 : decode m_Md_fact.2.1 177 = .ok (.ireturn, 1) := by decide +kernel
theorem d_Md_fact_178 : decode m_Md_fact.2.1 178 = .ok (.aload_n 0, 1) := by decide +kernel
theorem d_Md_fact_179 : decode m_Md_fact.2.1 179 = .ok (.iload_n 1, 1) := by decide +kernel
theorem d_Md_fact_180 : decode m_Md_fact.2.1 180 = .ok (.iload_n 2, 1) := by decide +kernel
theorem d_Md_fact_181 : decode m_Md_fact.2.1 181 = .ok (.invokevirtual 258, 3) := by decide +kernel
theorem d_Md_fact_184 : decode m_Md_fact.2.1 184 = .ok (.ifCond .eq 12, 3) := by decide +kernel
theorem d_Md_fact_187 : decode m_Md_fact.2.1 187 = .ok (.aload_n 0, 1) := by decide +kernel
theorem d_Md_fact_188 : decode m_Md_fact.2.1 188 = .ok (.getfield 87, 3) := by decide +kernel
theorem d_Md_fact_191 : decode m_Md_fact.2.1 191 = .ok (.bipush 60, 2) := by decide +kernel
theorem d_Md_fact_193 : decode m_Md_fact.2.1 193 = .ok (.if_icmp .ne 6, 3) := by decide +kernel
theorem d_Md_fact_196 : decode m_Md_fact.2.1 196 = .ok (.bipush (-2), 2) := by decide +kernel
theorem d_Md_fact_198 : decode m_Md_fact.2.1 198 = .ok (.ireturn, 1) := by decide +kernel
theorem d_Md_fact_199 : decode m_Md_fact.2.1 199 = .ok (.aload_n 0, 1) := by decide +kernel
theorem d_Md_fact_200 : decode m_Md_fact.2.1 200 = .ok (.getfield 102, 3) := by decide +kernel
theorem d_Md_fact_203 : decode m_Md_fact.2.1 203 = .ok (.aload_n 0, 1) := by decide +kernel
theorem d_Md_fact_204 : decode m_Md_fact.2.1 204 = .ok (.getfield 87, 3) := by decide +kernel
theorem d_Md_fact_207 : decode m_Md_fact.2.1 207 = .ok (.iload_n 1, 1) := by decide +kernel
theorem d_Md_fact_208 : decode m_Md_fact.2.1 208 = .ok (.iastore, 1) := by decide +kernel
theorem d_Md_fact_209 : decode m_Md_fact.2.1 209 = .ok (.aload_n 0, 1) := by decide +kernel
theorem d_Md_fact_210 : decode m_Md_fact.2.1 210 = .ok (.getfield 105, 3) := by decide +kernel
theorem d_Md_fact_213 : decode m_Md_fact.2.1 213 = .ok (.aload_n 0, 1) := by decide +kernel
theorem d_Md_fact_214 : decode m_Md_fact.2.1 214 = .ok (.getfield 87, 3) := by decide +kernel
theorem d_Md_fact_217 : decode m_Md_fact.2.1 217 = .ok (.iload_n 2, 1) := by decide +kernel
theorem d_Md_fact_218 : decode m_Md_fact.2.1 218 = .ok (.iastore, 1) := by decide +kernel
theorem d_Md_fact_219 : decode m_Md_fact.2.1 219 = .ok (.aload_n 0, 1) := by decide +kernel
theorem d_Md_fact_220 : decode m_Md_fact.2.1 220 = .ok (.getfield 108, 3) := by decide +kernel
theorem d_Md_fact_223 : decode m_Md_fact.2.1 223 = .ok (.aload_n 0, 1) := by decide +kernel
theorem d_Md_fact_224 : decode m_Md_fact.2.1 224 = .ok (.getfield 87, 3) := by decide +kernel
theorem d_Md_fact_227 : decode m_Md_fact.2.1 227 = .ok (.iconst (-1), 1) := by decide +kernel
theorem d_Md_fact_228 : decode m_Md_fact.2.1 228 = .ok (.iastore, 1) := by decide +kernel
theorem d_Md_fact_229 : decode m_Md_fact.2.1 229 = .ok (.aload_n 0, 1) := by decide +kernel
theorem d_Md_fact_230 : decode m_Md_fact.2.1 230 = .ok (.dup, 1) := by decide +kernel
theorem d_Md_fact_231 : decode m_Md_fact.2.1 231 = .ok (.getfield 87, 3) := by decide +kernel
theorem d_Md_fact_234 : decode m_Md_fact.2.1 234 = .ok (.iconst 1, 1) := by decide +kernel
theorem d_Md_fact_235 : decode m_Md_fact.2.1 235 = .ok (.iadd, 1) := by decide +kernel
theorem d_Md_fact_236 : decode m_Md_fact.2.1 236 = .ok (.putfield 87, 3) := by decide +kernel
theorem d_Md_fact_239 : decode m_Md_fact.2.1 239 = .ok (.aload_n 0, 1) := by decide +kernel
theorem d_Md_fact_240 : decode m_Md_fact.2.1 240 = .ok (.getfield 87, 3) := by decide +kernel
theorem d_Md_fact_243 : decode m_Md_fact.2.1 243 = .ok (.iconst 1, 1) := by decide +kernel
theorem d_Md_fact_244 : decode m_Md_fact.2.1 244 = .ok (.isub, 1) := by decide +kernel
theorem d_Md_fact_245 : decode m_Md_fact.2.1 245 = .ok (.ireturn, 1) := by decide +kernel
set_option maxHeartbeats 4000000 in
set_option maxRecDepth 100000 in
theorem B_Md_fact_0 {S : XS} {Q : Int32 → St → Prop} (σ : St) (x1 : Int32) (x2 : Int32) (H : CM S m_Md_begins [.ref 153] (enc σ) (qV (fun τ2 => CM S m_Md_name [.ref 153, .int (0 : Int32)] (enc τ2) (qV (fun τ4 => ((¬ (gY τ4 7) = 0 → BW S m_Md_fact 93 [some (.ref 153), some (.int x1), some (.int x2)] [] (enc τ4) (qI Q)) ∧ ((gY τ4 7) = 0 → CM S m_Md_passes [.ref 153, .long (1651470958 : Int64), .int (4 : Int32)] (enc τ4) (qI (fun v5 τ6 => ((v5 = 0 → CM S m_Md_passes [.ref 153, .long (1684365668 : Int64), .int (4 : Int32)] (enc τ6) (qI (fun v7 τ8 => ((v7 = 0 → CM S m_Md_passes [.ref 153, .long (26990 : Int64), .int (2 : Int32)] (enc τ8) (qI (fun v9 τ10 => ((v9 = 0 → (vp_in (gY τ4 11) 61) ∧ (vp_in (gY τ10 11) 61) ∧ ((¬ ((upd (gC τ10 16) (gY τ4 11).toNatClampNeg (-1 : Int32)) (gY τ10 11).toNatClampNeg) = (-1 : Int32) → BW S m_Md_fact 93 [some (.ref 153), some (.int x1), some (.int x2)] [] (enc (sC τ10 16 (upd (gC τ10 16) (gY τ4 11).toNatClampNeg (-1 : Int32)))) (qI Q)) ∧ (((upd (gC τ10 16) (gY τ4 11).toNatClampNeg (-1 : Int32)) (gY τ10 11).toNatClampNeg) = (-1 : Int32) → CM S m_Md_blame [.ref 153, .int (1 : Int32), .int (gY τ10 9)] (enc (sC τ10 16 (upd (gC τ10 16) (gY τ4 11).toNatClampNeg (-1 : Int32)))) (qV (fun τ14 => BW S m_Md_fact 93 [some (.ref 153), some (.int x1), some (.int x2)] [] (enc τ14) (qI Q)))))) ∧ (¬ v9 = 0 → (vp_in (gY τ4 11) 61) ∧ (vp_in (gY τ10 11) 61) ∧ ((¬ ((upd (gC τ10 16) (gY τ4 11).toNatClampNeg (2 : Int32)) (gY τ10 11).toNatClampNeg) = (-1 : Int32) → BW S m_Md_fact 93 [some (.ref 153), some (.int x1), some (.int x2)] [] (enc (sC τ10 16 (upd (gC τ10 16) (gY τ4 11).toNatClampNeg (2 : Int32)))) (qI Q)) ∧ (((upd (gC τ10 16) (gY τ4 11).toNatClampNeg (2 : Int32)) (gY τ10 11).toNatClampNeg) = (-1 : Int32) → CM S m_Md_blame [.ref 153, .int (1 : Int32), .int (gY τ10 9)] (enc (sC τ10 16 (upd (gC τ10 16) (gY τ4 11).toNatClampNeg (2 : Int32)))) (qV (fun τ19 => BW S m_Md_fact 93 [some (.ref 153), some (.int x1), some (.int x2)] [] (enc τ19) (qI Q)))))))))) ∧ (¬ v7 = 0 → (vp_in (gY τ4 11) 61) ∧ (vp_in (gY τ8 11) 61) ∧ ((¬ ((upd (gC τ8 16) (gY τ4 11).toNatClampNeg (1 : Int32)) (gY τ8 11).toNatClampNeg) = (-1 : Int32) → BW S m_Md_fact 93 [some (.ref 153), some (.int x1), some (.int x2)] [] (enc (sC τ8 16 (upd (gC τ8 16) (gY τ4 11).toNatClampNeg (1 : Int32)))) (qI Q)) ∧ (((upd (gC τ8 16) (gY τ4 11).toNatClampNeg (1 : Int32)) (gY τ8 11).toNatClampNeg) = (-1 : Int32) → CM S m_Md_blame [.ref 153, .int (1 : Int32), .int (gY τ8 9)] (enc (sC τ8 16 (upd (gC τ8 16) (gY τ4 11).toNatClampNeg (1 : Int32)))) (qV (fun τ25 => BW S m_Md_fact 93 [some (.ref 153), some (.int x1), some (.int x2)] [] (enc τ25) (qI Q)))))))))) ∧ (¬ v5 = 0 → (vp_in (gY τ4 11) 61) ∧ (vp_in (gY τ6 11) 61) ∧ ((¬ ((upd (gC τ6 16) (gY τ4 11).toNatClampNeg (0 : Int32)) (gY τ6 11).toNatClampNeg) = (-1 : Int32) → BW S m_Md_fact 93 [some (.ref 153), some (.int x1), some (.int x2)] [] (enc (sC τ6 16 (upd (gC τ6 16) (gY τ4 11).toNatClampNeg (0 : Int32)))) (qI Q)) ∧ (((upd (gC τ6 16) (gY τ4 11).toNatClampNeg (0 : Int32)) (gY τ6 11).toNatClampNeg) = (-1 : Int32) → CM S m_Md_blame [.ref 153, .int (1 : Int32), .int (gY τ6 9)] (enc (sC τ6 16 (upd (gC τ6 16) (gY τ4 11).toNatClampNeg (0 : Int32)))) (qV (fun τ31 => BW S m_Md_fact 93 [some (.ref 153), some (.int x1), some (.int x2)] [] (enc τ31) (qI Q)))))))))))))))) : BW S m_Md_fact 0 [some (.ref 153), some (.int x1), some (.int x2)] [] (enc σ) (qI Q) := by
  refine b_aload_n d_Md_fact_0 rfl rfl ?_
  refine b_callVv (Mc := m_Md_begins) (As := []) (st := []) d_Md_fact_1 ⟨⟨kA_Md_begins.1, kA_Md_begins.2.1, kA_Md_begins.2.2, by decide⟩, ml_Md_245, kV_Md_begins⟩ (eg_153 σ) rfl rfl (Nat.le_of_ble_eq_true rfl) H (fun τ2 H => ?_)
  refine b_aload_n d_Md_fact_4 rfl rfl ?_
  refine b_iconst (v := (0 : Int32)) d_Md_fact_5 (by decide) ?_
  refine b_callVv (Mc := m_Md_name) (As := [.int (0 : Int32)]) (st := []) d_Md_fact_6 ⟨⟨kA_Md_name.1, kA_Md_name.2.1, kA_Md_name.2.2, by decide⟩, ml_Md_248, kV_Md_name⟩ (eg_153 τ2) rfl rfl (Nat.le_of_ble_eq_true rfl) H (fun τ4 H => ?_)
  refine b_aload_n d_Md_fact_9 rfl rfl ?_
  refine b_getf (v := .int (gY τ4 7)) d_Md_fact_10 fl_Md_75 (eg_153 τ4) rfl ?_
  refine b_if_ne (tgt := 93) d_Md_fact_13 (by decide) (fun c34 => ?_) (fun c34 => ?_)
  · have H := H.1 c34
    exact b_mask [true, true, true] rfl H
  · have H := H.2 c34
    refine b_aload_n d_Md_fact_16 rfl rfl ?_
    refine b_getf (v := .ref 170) d_Md_fact_17 fl_Md_96 (eg_153 τ4) rfl ?_
    refine b_aload_n d_Md_fact_20 rfl rfl ?_
    refine b_getf (v := .int (gY τ4 11)) d_Md_fact_21 fl_Md_87 (eg_153 τ4) rfl ?_
    refine b_aload_n d_Md_fact_24 rfl rfl ?_
    refine b_ldc2 (v := (1651470958 : Int64)) d_Md_fact_25 cn_Md_237 ?_
    refine b_iconst (v := (4 : Int32)) d_Md_fact_28 (by decide) ?_
    refine b_callVi (Mc := m_Md_passes) (As := [.long (1651470958 : Int64), .int (4 : Int32)]) (st := [.int (gY τ4 11), .ref 170]) d_Md_fact_29 ⟨⟨kA_Md_passes.1, kA_Md_passes.2.1, kA_Md_passes.2.2, by decide⟩, ml_Md_251, kV_Md_passes⟩ (eg_153 τ4) rfl rfl (Nat.le_of_ble_eq_true rfl) H (fun v5 τ6 H => ?_)
    refine b_if_eq (tgt := 39) d_Md_fact_32 (by decide) (fun c33 => ?_) (fun c33 => ?_)
    · have H := H.1 c33
      refine b_aload_n d_Md_fact_39 rfl rfl ?_
      refine b_ldc2 (v := (1684365668 : Int64)) d_Md_fact_40 cn_Md_239 ?_
      refine b_iconst (v := (4 : Int32)) d_Md_fact_43 (by decide) ?_
      refine b_callVi (Mc := m_Md_passes) (As := [.long (1684365668 : Int64), .int (4 : Int32)]) (st := [.int (gY τ4 11), .ref 170]) d_Md_fact_44 ⟨⟨kA_Md_passes.1, kA_Md_passes.2.1, kA_Md_passes.2.2, by decide⟩, ml_Md_251, kV_Md_passes⟩ (eg_153 τ6) rfl rfl (Nat.le_of_ble_eq_true rfl) H (fun v7 τ8 H => ?_)
      refine b_if_eq (tgt := 54) d_Md_fact_47 (by decide) (fun c27 => ?_) (fun c27 => ?_)
      · have H := H.1 c27
        refine b_aload_n d_Md_fact_54 rfl rfl ?_
        refine b_ldc2 (v := (26990 : Int64)) d_Md_fact_55 cn_Md_241 ?_
        refine b_iconst (v := (2 : Int32)) d_Md_fact_58 (by decide) ?_
        refine b_callVi (Mc := m_Md_passes) (As := [.long (26990 : Int64), .int (2 : Int32)]) (st := [.int (gY τ4 11), .ref 170]) d_Md_fact_59 ⟨⟨kA_Md_passes.1, kA_Md_passes.2.1, kA_Md_passes.2.2, by decide⟩, ml_Md_251, kV_Md_passes⟩ (eg_153 τ8) rfl rfl (Nat.le_of_ble_eq_true rfl) H (fun v9 τ10 H => ?_)
        refine b_if_eq (tgt := 69) d_Md_fact_62 (by decide) (fun c21 => ?_) (fun c21 => ?_)
        · have H := H.1 c21
          refine b_iconst (v := (-1 : Int32)) d_Md_fact_69 (by decide) ?_
          obtain ⟨h11, H⟩ := H
          refine b_iast (h1 := enc (sC τ10 16 (upd (gC τ10 16) (gY τ4 11).toNatClampNeg (-1 : Int32)))) d_Md_fact_70 (eg_170 τ10) h11 (es_170 τ10 (upd (gC τ10 16) (gY τ4 11).toNatClampNeg (-1 : Int32))) ?_
          refine b_aload_n d_Md_fact_71 rfl rfl ?_
          refine b_getf (v := .ref 170) d_Md_fact_72 fl_Md_96 (eg_153 (sC τ10 16 (upd (gC τ10 16) (gY τ4 11).toNatClampNeg (-1 : Int32)))) rfl ?_
          refine b_aload_n d_Md_fact_75 rfl rfl ?_
          refine b_getf (v := .int (gY τ10 11)) d_Md_fact_76 fl_Md_87 (eg_153 (sC τ10 16 (upd (gC τ10 16) (gY τ4 11).toNatClampNeg (-1 : Int32)))) rfl ?_
          obtain ⟨h12, H⟩ := H
          refine b_iald d_Md_fact_79 (eg_170 (sC τ10 16 (upd (gC τ10 16) (gY τ4 11).toNatClampNeg (-1 : Int32)))) h12 ?_
          refine b_st2 (st' := [.int ((upd (gC τ10 16) (gY τ4 11).toNatClampNeg (-1 : Int32)) (gY τ10 11).toNatClampNeg)]) rfl ?_
          refine b_iconst (v := (-1 : Int32)) d_Md_fact_80 (by decide) ?_
          refine b_icmp_ne (tgt := 93) d_Md_fact_81 (by decide) (fun c15 => ?_) (fun c15 => ?_)
          · have H := H.1 c15
            exact b_mask [true, true, true] rfl H
          · have H := H.2 c15
            refine b_aload_n d_Md_fact_84 rfl rfl ?_
            refine b_iconst (v := (1 : Int32)) d_Md_fact_85 (by decide) ?_
            refine b_aload_n d_Md_fact_86 rfl rfl ?_
            refine b_getf (v := .int (gY τ10 9)) d_Md_fact_87 fl_Md_81 (eg_153 (sC τ10 16 (upd (gC τ10 16) (gY τ4 11).toNatClampNeg (-1 : Int32)))) rfl ?_
            refine b_callVv (Mc := m_Md_blame) (As := [.int (1 : Int32), .int (gY τ10 9)]) (st := []) d_Md_fact_90 ⟨⟨kA_Md_blame.1, kA_Md_blame.2.1, kA_Md_blame.2.2, by decide⟩, ml_Md_209, kV_Md_blame⟩ (eg_153 (sC τ10 16 (upd (gC τ10 16) (gY τ4 11).toNatClampNeg (-1 : Int32)))) rfl rfl (Nat.le_of_ble_eq_true rfl) H (fun τ14 H => ?_)
            exact b_mask [true, true, true] rfl H
        · have H := H.2 c21
          refine b_iconst (v := (2 : Int32)) d_Md_fact_65 (by decide) ?_
          refine b_goto (tgt := 70) d_Md_fact_66 (by decide) ?_
          obtain ⟨h16, H⟩ := H
          refine b_iast (h1 := enc (sC τ10 16 (upd (gC τ10 16) (gY τ4 11).toNatClampNeg (2 : Int32)))) d_Md_fact_70 (eg_170 τ10) h16 (es_170 τ10 (upd (gC τ10 16) (gY τ4 11).toNatClampNeg (2 : Int32))) ?_
          refine b_aload_n d_Md_fact_71 rfl rfl ?_
          refine b_getf (v := .ref 170) d_Md_fact_72 fl_Md_96 (eg_153 (sC τ10 16 (upd (gC τ10 16) (gY τ4 11).toNatClampNeg (2 : Int32)))) rfl ?_
          refine b_aload_n d_Md_fact_75 rfl rfl ?_
          refine b_getf (v := .int (gY τ10 11)) d_Md_fact_76 fl_Md_87 (eg_153 (sC τ10 16 (upd (gC τ10 16) (gY τ4 11).toNatClampNeg (2 : Int32)))) rfl ?_
          obtain ⟨h17, H⟩ := H
          refine b_iald d_Md_fact_79 (eg_170 (sC τ10 16 (upd (gC τ10 16) (gY τ4 11).toNatClampNeg (2 : Int32)))) h17 ?_
          refine b_st2 (st' := [.int ((upd (gC τ10 16) (gY τ4 11).toNatClampNeg (2 : Int32)) (gY τ10 11).toNatClampNeg)]) rfl ?_
          refine b_iconst (v := (-1 : Int32)) d_Md_fact_80 (by decide) ?_
          refine b_icmp_ne (tgt := 93) d_Md_fact_81 (by decide) (fun c20 => ?_) (fun c20 => ?_)
          · have H := H.1 c20
            exact b_mask [true, true, true] rfl H
          · have H := H.2 c20
            refine b_aload_n d_Md_fact_84 rfl rfl ?_
            refine b_iconst (v := (1 : Int32)) d_Md_fact_85 (by decide) ?_
            refine b_aload_n d_Md_fact_86 rfl rfl ?_
            refine b_getf (v := .int (gY τ10 9)) d_Md_fact_87 fl_Md_81 (eg_153 (sC τ10 16 (upd (gC τ10 16) (gY τ4 11).toNatClampNeg (2 : Int32)))) rfl ?_
            refine b_callVv (Mc := m_Md_blame) (As := [.int (1 : Int32), .int (gY τ10 9)]) (st := []) d_Md_fact_90 ⟨⟨kA_Md_blame.1, kA_Md_blame.2.1, kA_Md_blame.2.2, by decide⟩, ml_Md_209, kV_Md_blame⟩ (eg_153 (sC τ10 16 (upd (gC τ10 16) (gY τ4 11).toNatClampNeg (2 : Int32)))) rfl rfl (Nat.le_of_ble_eq_true rfl) H (fun τ19 H => ?_)
            exact b_mask [true, true, true] rfl H
      · have H := H.2 c27
        refine b_iconst (v := (1 : Int32)) d_Md_fact_50 (by decide) ?_
        refine b_goto (tgt := 70) d_Md_fact_51 (by decide) ?_
        obtain ⟨h22, H⟩ := H
        refine b_iast (h1 := enc (sC τ8 16 (upd (gC τ8 16) (gY τ4 11).toNatClampNeg (1 : Int32)))) d_Md_fact_70 (eg_170 τ8) h22 (es_170 τ8 (upd (gC τ8 16) (gY τ4 11).toNatClampNeg (1 : Int32))) ?_
        refine b_aload_n d_Md_fact_71 rfl rfl ?_
        refine b_getf (v := .ref 170) d_Md_fact_72 fl_Md_96 (eg_153 (sC τ8 16 (upd (gC τ8 16) (gY τ4 11).toNatClampNeg (1 : Int32)))) rfl ?_
        refine b_aload_n d_Md_fact_75 rfl rfl ?_
        refine b_getf (v := .int (gY τ8 11)) d_Md_fact_76 fl_Md_87 (eg_153 (sC τ8 16 (upd (gC τ8 16) (gY τ4 11).toNatClampNeg (1 : Int32)))) rfl ?_
        obtain ⟨h23, H⟩ := H
        refine b_iald d_Md_fact_79 (eg_170 (sC τ8 16 (upd (gC τ8 16) (gY τ4 11).toNatClampNeg (1 : Int32)))) h23 ?_
        refine b_st2 (st' := [.int ((upd (gC τ8 16) (gY τ4 11).toNatClampNeg (1 : Int32)) (gY τ8 11).toNatClampNeg)]) rfl ?_
        refine b_iconst (v := (-1 : Int32)) d_Md_fact_80 (by decide) ?_
        refine b_icmp_ne (tgt := 93) d_Md_fact_81 (by decide) (fun c26 => ?_) (fun c26 => ?_)
        · have H := H.1 c26
          exact b_mask [true, true, true] rfl H
        · have H := H.2 c26
          refine b_aload_n d_Md_fact_84 rfl rfl ?_
          refine b_iconst (v := (1 : Int32)) d_Md_fact_85 (by decide) ?_
          refine b_aload_n d_Md_fact_86 rfl rfl ?_
          refine b_getf (v := .int (gY τ8 9)) d_Md_fact_87 fl_Md_81 (eg_153 (sC τ8 16 (upd (gC τ8 16) (gY τ4 11).toNatClampNeg (1 : Int32)))) rfl ?_
          refine b_callVv (Mc := m_Md_blame) (As := [.int (1 : Int32), .int (gY τ8 9)]) (st := []) d_Md_fact_90 ⟨⟨kA_Md_blame.1, kA_Md_blame.2.1, kA_Md_blame.2.2, by decide⟩, ml_Md_209, kV_Md_blame⟩ (eg_153 (sC τ8 16 (upd (gC τ8 16) (gY τ4 11).toNatClampNeg (1 : Int32)))) rfl rfl (Nat.le_of_ble_eq_true rfl) H (fun τ25 H => ?_)
          exact b_mask [true, true, true] rfl H
    · have H := H.2 c33
      refine b_iconst (v := (0 : Int32)) d_Md_fact_35 (by decide) ?_
      refine b_goto (tgt := 70) d_Md_fact_36 (by decide) ?_
      obtain ⟨h28, H⟩ := H
      refine b_iast (h1 := enc (sC τ6 16 (upd (gC τ6 16) (gY τ4 11).toNatClampNeg (0 : Int32)))) d_Md_fact_70 (eg_170 τ6) h28 (es_170 τ6 (upd (gC τ6 16) (gY τ4 11).toNatClampNeg (0 : Int32))) ?_
      refine b_aload_n d_Md_fact_71 rfl rfl ?_
      refine b_getf (v := .ref 170) d_Md_fact_72 fl_Md_96 (eg_153 (sC τ6 16 (upd (gC τ6 16) (gY τ4 11).toNatClampNeg (0 : Int32)))) rfl ?_
      refine b_aload_n d_Md_fact_75 rfl rfl ?_
      refine b_getf (v := .int (gY τ6 11)) d_Md_fact_76 fl_Md_87 (eg_153 (sC τ6 16 (upd (gC τ6 16) (gY τ4 11).toNatClampNeg (0 : Int32)))) rfl ?_
      obtain ⟨h29, H⟩ := H
      refine b_iald d_Md_fact_79 (eg_170 (sC τ6 16 (upd (gC τ6 16) (gY τ4 11).toNatClampNeg (0 : Int32)))) h29 ?_
      refine b_st2 (st' := [.int ((upd (gC τ6 16) (gY τ4 11).toNatClampNeg (0 : Int32)) (gY τ6 11).toNatClampNeg)]) rfl ?_
      refine b_iconst (v := (-1 : Int32)) d_Md_fact_80 (by decide) ?_
      refine b_icmp_ne (tgt := 93) d_Md_fact_81 (by decide) (fun c32 => ?_) (fun c32 => ?_)
      · have H := H.1 c32
        exact b_mask [true, true, true] rfl H
      · have H := H.2 c32
        refine b_aload_n d_Md_fact_84 rfl rfl ?_
        refine b_iconst (v := (1 : Int32)) d_Md_fact_85 (by decide) ?_
        refine b_aload_n d_Md_fact_86 rfl rfl ?_
        refine b_getf (v := .int (gY τ6 9)) d_Md_fact_87 fl_Md_81 (eg_153 (sC τ6 16 (upd (gC τ6 16) (gY τ4 11).toNatClampNeg (0 : Int32)))) rfl ?_
        refine b_callVv (Mc := m_Md_blame) (As := [.int (1 : Int32), .int (gY τ6 9)]) (st := []) d_Md_fact_90 ⟨⟨kA_Md_blame.1, kA_Md_blame.2.1, kA_Md_blame.2.2, by decide⟩, ml_Md_209, kV_Md_blame⟩ (eg_153 (sC τ6 16 (upd (gC τ6 16) (gY τ4 11).toNatClampNeg (0 : Int32)))) rfl rfl (Nat.le_of_ble_eq_true rfl) H (fun τ31 H => ?_)
        exact b_mask [true, true, true] rfl H
set_option maxHeartbeats 4000000 in
set_option maxRecDepth 100000 in
theorem B_Md_fact_93 {S : XS} {Q : Int32 → St → Prop} (σ : St) (x1 : Int32) (x2 : Int32) (H : ((¬ (gY σ 7) = 0 → BW S m_Md_fact 145 [some (.ref 153), some (.int x1), some (.int x2)] [] (enc σ) (qI Q)) ∧ ((gY σ 7) = 0 → (vp_in (gY σ 11) 61) ∧ ((¬ ((gC σ 16) (gY σ 11).toNatClampNeg) = (2 : Int32) → BW S m_Md_fact 145 [some (.ref 153), some (.int x1), some (.int x2)] [] (enc σ) (qI Q)) ∧ (((gC σ 16) (gY σ 11).toNatClampNeg) = (2 : Int32) → CM S m_Md_name [.ref 153, .int (1 : Int32)] (enc σ) (qV (fun τ37 => ((¬ (gY τ37 7) = 0 → BW S m_Md_fact 145 [some (.ref 153), some (.int x1), some (.int x2)] [] (enc τ37) (qI Q)) ∧ ((gY τ37 7) = 0 → CM S m_Md_passes [.ref 153, .long (28526 : Int64), .int (2 : Int32)] (enc τ37) (qI (fun v38 τ39 => ((¬ v38 = 0 → BW S m_Md_fact 145 [some (.ref 153), some (.int x1), some (.int x2)] [] (enc τ39) (qI Q)) ∧ (v38 = 0 → CM S m_Md_blame [.ref 153, .int (1 : Int32), .int (gY τ39 9)] (enc τ39) (qV (fun τ41 => BW S m_Md_fact 145 [some (.ref 153), some (.int x1), some (.int x2)] [] (enc τ41) (qI Q)))))))))))))))) : BW S m_Md_fact 93 [some (.ref 153), some (.int x1), some (.int x2)] [] (enc σ) (qI Q) := by
  refine b_aload_n d_Md_fact_93 rfl rfl ?_
  refine b_getf (v := .int (gY σ 7)) d_Md_fact_94 fl_Md_75 (eg_153 σ) rfl ?_
  refine b_if_ne (tgt := 145) d_Md_fact_97 (by decide) (fun c45 => ?_) (fun c45 => ?_)
  · have H := H.1 c45
    exact b_mask [true, true, true] rfl H
  · have H := H.2 c45
    refine b_aload_n d_Md_fact_100 rfl rfl ?_
    refine b_getf (v := .ref 170) d_Md_fact_101 fl_Md_96 (eg_153 σ) rfl ?_
    refine b_aload_n d_Md_fact_104 rfl rfl ?_
    refine b_getf (v := .int (gY σ 11)) d_Md_fact_105 fl_Md_87 (eg_153 σ) rfl ?_
    obtain ⟨h35, H⟩ := H
    refine b_iald d_Md_fact_108 (eg_170 σ) h35 ?_
    refine b_st2 (st' := [.int ((gC σ 16) (gY σ 11).toNatClampNeg)]) rfl ?_
    refine b_iconst (v := (2 : Int32)) d_Md_fact_109 (by decide) ?_
    refine b_icmp_ne (tgt := 145) d_Md_fact_110 (by decide) (fun c44 => ?_) (fun c44 => ?_)
    · have H := H.1 c44
      exact b_mask [true, true, true] rfl H
    · have H := H.2 c44
      refine b_aload_n d_Md_fact_113 rfl rfl ?_
      refine b_iconst (v := (1 : Int32)) d_Md_fact_114 (by decide) ?_
      refine b_callVv (Mc := m_Md_name) (As := [.int (1 : Int32)]) (st := []) d_Md_fact_115 ⟨⟨kA_Md_name.1, kA_Md_name.2.1, kA_Md_name.2.2, by decide⟩, ml_Md_248, kV_Md_name⟩ (eg_153 σ) rfl rfl (Nat.le_of_ble_eq_true rfl) H (fun τ37 H => ?_)
      refine b_aload_n d_Md_fact_118 rfl rfl ?_
      refine b_getf (v := .int (gY τ37 7)) d_Md_fact_119 fl_Md_75 (eg_153 τ37) rfl ?_
      refine b_if_ne (tgt := 145) d_Md_fact_122 (by decide) (fun c43 => ?_) (fun c43 => ?_)
      · have H := H.1 c43
        exact b_mask [true, true, true] rfl H
      · have H := H.2 c43
        refine b_aload_n d_Md_fact_125 rfl rfl ?_
        refine b_ldc2 (v := (28526 : Int64)) d_Md_fact_126 cn_Md_243 ?_
        refine b_iconst (v := (2 : Int32)) d_Md_fact_129 (by decide) ?_
        refine b_callVi (Mc := m_Md_passes) (As := [.long (28526 : Int64), .int (2 : Int32)]) (st := []) d_Md_fact_130 ⟨⟨kA_Md_passes.1, kA_Md_passes.2.1, kA_Md_passes.2.2, by decide⟩, ml_Md_251, kV_Md_passes⟩ (eg_153 τ37) rfl rfl (Nat.le_of_ble_eq_true rfl) H (fun v38 τ39 H => ?_)
        refine b_if_ne (tgt := 145) d_Md_fact_133 (by decide) (fun c42 => ?_) (fun c42 => ?_)
        · have H := H.1 c42
          exact b_mask [true, true, true] rfl H
        · have H := H.2 c42
          refine b_aload_n d_Md_fact_136 rfl rfl ?_
          refine b_iconst (v := (1 : Int32)) d_Md_fact_137 (by decide) ?_
          refine b_aload_n d_Md_fact_138 rfl rfl ?_
          refine b_getf (v := .int (gY τ39 9)) d_Md_fact_139 fl_Md_81 (eg_153 τ39) rfl ?_
          refine b_callVv (Mc := m_Md_blame) (As := [.int (1 : Int32), .int (gY τ39 9)]) (st := []) d_Md_fact_142 ⟨⟨kA_Md_blame.1, kA_Md_blame.2.1, kA_Md_blame.2.2, by decide⟩, ml_Md_209, kV_Md_blame⟩ (eg_153 τ39) rfl rfl (Nat.le_of_ble_eq_true rfl) H (fun τ41 H => ?_)
          exact b_mask [true, true, true] rfl H
set_option maxHeartbeats 4000000 in
set_option maxRecDepth 100000 in
theorem B_Md_fact_145 {S : XS} {Q : Int32 → St → Prop} (σ : St) (x1 : Int32) (x2 : Int32) (H : ((¬ (gY σ 7) = 0 → BW S m_Md_fact 165 [some (.ref 153), some (.int x1), some (.int x2)] [] (enc σ) (qI Q)) ∧ ((gY σ 7) = 0 → CM S m_Md_digits [.ref 153] (enc σ) (qI (fun v46 τ47 => (vp_in (gY σ 11) 61) ∧ BW S m_Md_fact 165 [some (.ref 153), some (.int x1), some (.int x2)] [] (enc (sC τ47 17 (upd (gC τ47 17) (gY σ 11).toNatClampNeg v46))) (qI Q)))))) : BW S m_Md_fact 145 [some (.ref 153), some (.int x1), some (.int x2)] [] (enc σ) (qI Q) := by
  refine b_aload_n d_Md_fact_145 rfl rfl ?_
  refine b_getf (v := .int (gY σ 7)) d_Md_fact_146 fl_Md_75 (eg_153 σ) rfl ?_
  refine b_if_ne (tgt := 165) d_Md_fact_149 (by decide) (fun c49 => ?_) (fun c49 => ?_)
  · have H := H.1 c49
    exact b_mask [true, true, true] rfl H
  · have H := H.2 c49
    refine b_aload_n d_Md_fact_152 rfl rfl ?_
    refine b_getf (v := .ref 171) d_Md_fact_153 fl_Md_99 (eg_153 σ) rfl ?_
    refine b_aload_n d_Md_fact_156 rfl rfl ?_
    refine b_getf (v := .int (gY σ 11)) d_Md_fact_157 fl_Md_87 (eg_153 σ) rfl ?_
    refine b_aload_n d_Md_fact_160 rfl rfl ?_
    refine b_callVi (Mc := m_Md_digits) (As := []) (st := [.int (gY σ 11), .ref 171]) d_Md_fact_161 ⟨⟨kA_Md_digits.1, kA_Md_digits.2.1, kA_Md_digits.2.2, by decide⟩, ml_Md_228, kV_Md_digits⟩ (eg_153 σ) rfl rfl (Nat.le_of_ble_eq_true rfl) H (fun v46 τ47 H => ?_)
    obtain ⟨h48, H⟩ := H
    refine b_iast (h1 := enc (sC τ47 17 (upd (gC τ47 17) (gY σ 11).toNatClampNeg v46))) d_Md_fact_164 (eg_171 τ47) h48 (es_171 τ47 (upd (gC τ47 17) (gY σ 11).toNatClampNeg v46)) ?_
    exact b_mask [true, true, true] rfl H
set_option maxHeartbeats 4000000 in
set_option maxRecDepth 100000 in
theorem B_Md_fact_165 {S : XS} {Q : Int32 → St → Prop} (σ : St) (x1 : Int32) (x2 : Int32) (H : CM S m_Md_ends [.ref 153] (enc σ) (qV (fun τ51 => (((gY τ51 7) ≤ 0 → CM S m_Md_isEdition [.ref 153, .int x1, .int x2] (enc τ51) (qI (fun v52 τ53 => ((v52 = 0 → BW S m_Md_fact 196 [none, none, none] [] (enc τ53) (qI Q)) ∧ (¬ v52 = 0 → ((¬ (gY τ53 11) = (60 : Int32) → (vp_in (gY τ53 11) 61) ∧ Q (((gY τ53 11) + (1 : Int32)) - (1 : Int32)) (sY (sC (sC (sC τ53 18 (upd (gC τ53 18) (gY τ53 11).toNatClampNeg x1)) 19 (upd (gC τ53 19) (gY τ53 11).toNatClampNeg x2)) 20 (upd (gC τ53 20) (gY τ53 11).toNatClampNeg (-1 : Int32))) 11 ((gY τ53 11) + (1 : Int32)))) ∧ ((gY τ53 11) = (60 : Int32) → BW S m_Md_fact 196 [none, none, none] [] (enc τ53) (qI Q)))))))) ∧ (¬ (gY τ51 7) ≤ 0 → Q (-1 : Int32) τ51))))) : BW S m_Md_fact 165 [some (.ref 153), some (.int x1), some (.int x2)] [] (enc σ) (qI Q) := by
  refine b_aload_n d_Md_fact_165 rfl rfl ?_
  refine b_callVv (Mc := m_Md_ends) (As := []) (st := []) d_Md_fact_166 ⟨⟨kA_Md_ends.1, kA_Md_ends.2.1, kA_Md_ends.2.2, by decide⟩, ml_Md_255, kV_Md_ends⟩ (eg_153 σ) rfl rfl (Nat.le_of_ble_eq_true rfl) H (fun τ51 H => ?_)
  refine b_aload_n d_Md_fact_169 rfl rfl ?_
  refine b_getf (v := .int (gY τ51 7)) d_Md_fact_170 fl_Md_75 (eg_153 τ51) rfl ?_
  refine b_if_le (tgt := 178) d_Md_fact_173 (by decide) (fun c57 => ?_) (fun c57 => ?_)
  · have H := H.1 c57
    refine b_aload_n d_Md_fact_178 rfl rfl ?_
    refine b_iload_n d_Md_fact_179 rfl rfl ?_
    refine b_iload_n d_Md_fact_180 rfl rfl ?_
    refine b_callVi (Mc := m_Md_isEdition) (As := [.int x1, .int x2]) (st := []) d_Md_fact_181 ⟨⟨kA_Md_isEdition.1, kA_Md_isEdition.2.1, kA_Md_isEdition.2.2, by decide⟩, ml_Md_258, kV_Md_isEdition⟩ (eg_153 τ51) rfl rfl (Nat.le_of_ble_eq_true rfl) H (fun v52 τ53 H => ?_)
    refine b_if_eq (tgt := 196) d_Md_fact_184 (by decide) (fun c56 => ?_) (fun c56 => ?_)
    · have H := H.1 c56
      exact b_mask [false, false, false] rfl H
    · have H := H.2 c56
      refine b_aload_n d_Md_fact_187 rfl rfl ?_
      refine b_getf (v := .int (gY τ53 11)) d_Md_fact_188 fl_Md_87 (eg_153 τ53) rfl ?_
      refine b_bipush (v := (60 : Int32)) d_Md_fact_191 (by decide) ?_
      refine b_icmp_ne (tgt := 199) d_Md_fact_193 (by decide) (fun c55 => ?_) (fun c55 => ?_)
      · have H := H.1 c55
        refine b_aload_n d_Md_fact_199 rfl rfl ?_
        refine b_getf (v := .ref 172) d_Md_fact_200 fl_Md_102 (eg_153 τ53) rfl ?_
        refine b_aload_n d_Md_fact_203 rfl rfl ?_
        refine b_getf (v := .int (gY τ53 11)) d_Md_fact_204 fl_Md_87 (eg_153 τ53) rfl ?_
        refine b_iload_n d_Md_fact_207 rfl rfl ?_
        obtain ⟨h54, H⟩ := H
        refine b_iast (h1 := enc (sC τ53 18 (upd (gC τ53 18) (gY τ53 11).toNatClampNeg x1))) d_Md_fact_208 (eg_172 τ53) h54 (es_172 τ53 (upd (gC τ53 18) (gY τ53 11).toNatClampNeg x1)) ?_
        refine b_aload_n d_Md_fact_209 rfl rfl ?_
        refine b_getf (v := .ref 173) d_Md_fact_210 fl_Md_105 (eg_153 (sC τ53 18 (upd (gC τ53 18) (gY τ53 11).toNatClampNeg x1))) rfl ?_
        refine b_aload_n d_Md_fact_213 rfl rfl ?_
        refine b_getf (v := .int (gY τ53 11)) d_Md_fact_214 fl_Md_87 (eg_153 (sC τ53 18 (upd (gC τ53 18) (gY τ53 11).toNatClampNeg x1))) rfl ?_
        refine b_iload_n d_Md_fact_217 rfl rfl ?_
        refine b_iast (h1 := enc (sC (sC τ53 18 (upd (gC τ53 18) (gY τ53 11).toNatClampNeg x1)) 19 (upd (gC τ53 19) (gY τ53 11).toNatClampNeg x2))) d_Md_fact_218 (eg_173 (sC τ53 18 (upd (gC τ53 18) (gY τ53 11).toNatClampNeg x1))) h54 (es_173 (sC τ53 18 (upd (gC τ53 18) (gY τ53 11).toNatClampNeg x1)) (upd (gC τ53 19) (gY τ53 11).toNatClampNeg x2)) ?_
        refine b_aload_n d_Md_fact_219 rfl rfl ?_
        refine b_getf (v := .ref 174) d_Md_fact_220 fl_Md_108 (eg_153 (sC (sC τ53 18 (upd (gC τ53 18) (gY τ53 11).toNatClampNeg x1)) 19 (upd (gC τ53 19) (gY τ53 11).toNatClampNeg x2))) rfl ?_
        refine b_aload_n d_Md_fact_223 rfl rfl ?_
        refine b_getf (v := .int (gY τ53 11)) d_Md_fact_224 fl_Md_87 (eg_153 (sC (sC τ53 18 (upd (gC τ53 18) (gY τ53 11).toNatClampNeg x1)) 19 (upd (gC τ53 19) (gY τ53 11).toNatClampNeg x2))) rfl ?_
        refine b_iconst (v := (-1 : Int32)) d_Md_fact_227 (by decide) ?_
        refine b_iast (h1 := enc (sC (sC (sC τ53 18 (upd (gC τ53 18) (gY τ53 11).toNatClampNeg x1)) 19 (upd (gC τ53 19) (gY τ53 11).toNatClampNeg x2)) 20 (upd (gC τ53 20) (gY τ53 11).toNatClampNeg (-1 : Int32)))) d_Md_fact_228 (eg_174 (sC (sC τ53 18 (upd (gC τ53 18) (gY τ53 11).toNatClampNeg x1)) 19 (upd (gC τ53 19) (gY τ53 11).toNatClampNeg x2))) h54 (es_174 (sC (sC τ53 18 (upd (gC τ53 18) (gY τ53 11).toNatClampNeg x1)) 19 (upd (gC τ53 19) (gY τ53 11).toNatClampNeg x2)) (upd (gC τ53 20) (gY τ53 11).toNatClampNeg (-1 : Int32))) ?_
        refine b_aload_n d_Md_fact_229 rfl rfl ?_
        refine b_dup d_Md_fact_230 rfl ?_
        refine b_getf (v := .int (gY τ53 11)) d_Md_fact_231 fl_Md_87 (eg_153 (sC (sC (sC τ53 18 (upd (gC τ53 18) (gY τ53 11).toNatClampNeg x1)) 19 (upd (gC τ53 19) (gY τ53 11).toNatClampNeg x2)) 20 (upd (gC τ53 20) (gY τ53 11).toNatClampNeg (-1 : Int32)))) rfl ?_
        refine b_iconst (v := (1 : Int32)) d_Md_fact_234 (by decide) ?_
        refine b_iadd d_Md_fact_235  ?_
        refine b_putf (ty := .int) (h1 := enc (sY (sC (sC (sC τ53 18 (upd (gC τ53 18) (gY τ53 11).toNatClampNeg x1)) 19 (upd (gC τ53 19) (gY τ53 11).toNatClampNeg x2)) 20 (upd (gC τ53 20) (gY τ53 11).toNatClampNeg (-1 : Int32))) 11 ((gY τ53 11) + (1 : Int32)))) d_Md_fact_236 fl_Md_87 ft_12_25 (fun _ => ⟨rfl, rfl⟩) (eg_153 (sC (sC (sC τ53 18 (upd (gC τ53 18) (gY τ53 11).toNatClampNeg x1)) 19 (upd (gC τ53 19) (gY τ53 11).toNatClampNeg x2)) 20 (upd (gC τ53 20) (gY τ53 11).toNatClampNeg (-1 : Int32)))) (Nat.le_of_ble_eq_true rfl) (es_153_25 (sC (sC (sC τ53 18 (upd (gC τ53 18) (gY τ53 11).toNatClampNeg x1)) 19 (upd (gC τ53 19) (gY τ53 11).toNatClampNeg x2)) 20 (upd (gC τ53 20) (gY τ53 11).toNatClampNeg (-1 : Int32))) ((gY τ53 11) + (1 : Int32))) ?_
        refine b_aload_n d_Md_fact_239 rfl rfl ?_
        refine b_getf (v := .int ((gY τ53 11) + (1 : Int32))) d_Md_fact_240 fl_Md_87 (eg_153 (sY (sC (sC (sC τ53 18 (upd (gC τ53 18) (gY τ53 11).toNatClampNeg x1)) 19 (upd (gC τ53 19) (gY τ53 11).toNatClampNeg x2)) 20 (upd (gC τ53 20) (gY τ53 11).toNatClampNeg (-1 : Int32))) 11 ((gY τ53 11) + (1 : Int32)))) rfl ?_
        refine b_iconst (v := (1 : Int32)) d_Md_fact_243 (by decide) ?_
        refine b_isub d_Md_fact_244  ?_
        exact b_iret (ty := .int) d_Md_fact_245 rfl rfl ⟨_, _, rfl, rfl, H⟩
      · have H := H.2 c55
        exact b_mask [false, false, false] rfl H
  · have H := H.2 c57
    refine b_iconst (v := (-1 : Int32)) d_Md_fact_176 (by decide) ?_
    exact b_iret (ty := .int) d_Md_fact_177 rfl rfl ⟨_, _, rfl, rfl, H⟩
set_option maxHeartbeats 4000000 in
set_option maxRecDepth 100000 in
theorem B_Md_fact_196 {S : XS} {Q : Int32 → St → Prop} (σ : St)  (H : Q (-2 : Int32) σ) : BW S m_Md_fact 196 [none, none, none] [] (enc σ) (qI Q) := by
  refine b_bipush (v := (-2 : Int32)) d_Md_fact_196 (by decide) ?_
  exact b_iret (ty := .int) d_Md_fact_198 rfl rfl ⟨_, _, rfl, rfl, H⟩
theorem C_Md_fact {S : XS} {Q : Int32 → St → Prop} (σ : St) (x1 : Int32) (x2 : Int32) (H : BW S m_Md_fact 0 [some (.ref 153), some (.int x1), some (.int x2)] [] (enc σ) (qI Q)) : CM S m_Md_fact [.ref 153, .int x1, .int x2] (enc σ) (qI Q) := b_meth (by decide) (Nat.le_of_ble_eq_true rfl) rfl H
theorem d_Md_strike_0 : decode m_Md_strike.2.1 0 = .ok (.iload_n 1, 1) := by decide +kernel
theorem d_Md_strike_1 : decode m_Md_strike.2.1 1 = .ok (.ifCond .lt 45, 3) := by decide +kernel
theorem d_Md_strike_4 : decode m_Md_strike.2.1 4 = .ok (.iload_n 1, 1) := by decide +kernel
theorem d_Md_strike_5 : decode m_Md_strike.2.1 5 = .ok (.aload_n 0, 1) := by decide +kernel
theorem d_Md_strike_6 : decode m_Md_strike.2.1 6 = .ok (.getfield 87, 3) := by decide +kernel
theorem d_Md_strike_9 : decode m_Md_strike.2.1 9 = .ok (.if_icmp .ge 37, 3) := by decide +kernel
theorem d_Md_strike_12 : decode m_Md_strike.2.1 12 = .ok (.aload_n 0, 1) := by decide +kernel
theorem d_Md_strike_13 : decode m_Md_strike.2.1 13 = .ok (.getfield 108, 3) := by decide +kernel
theorem d_Md_strike_16 : decode m_Md_strike.2.1 16 = .ok (.iload_n 1, 1) := by decide +kernel
theorem d_Md_strike_17 : decode m_Md_strike.2.1 17 = .ok (.iaload, 1) := by decide +kernel
theorem d_Md_strike_18 : decode m_Md_strike.2.1 18 = .ok (.iconst (-1), 1) := by decide +kernel
theorem d_Md_strike_19 : decode m_Md_strike.2.1 19 = .ok (.if_icmp .ne 27, 3) := by decide +kernel
theorem d_Md_strike_22 : decode m_Md_strike.2.1 22 = .ok (.aload_n 0, 1) := by decide +kernel
theorem d_Md_strike_23 : decode m_Md_strike.2.1 23 = .ok (.aload_n 0, 1) := by decide +kernel
theorem d_Md_strike_24 : decode m_Md_strike.2.1 24 = .ok (.getfield 102, 3) := by decide +kernel
theorem d_Md_strike_27 : decode m_Md_strike.2.1 27 = .ok (.iload_n 1, 1) := by decide +kernel
theorem d_Md_strike_28 : decode m_Md_strike.2.1 28 = .ok (.iaload, 1) := by decide +kernel
theorem d_Md_strike_29 : decode m_Md_strike.2.1 29 = .ok (.iload_n 2, 1) := by decide +kernel
theorem d_Md_strike_30 : decode m_Md_strike.2.1 30 = .ok (.invokevirtual 258, 3) := by decide +kernel
theorem d_Md_strike_33 : decode m_Md_strike.2.1 33 = .ok (.ifCond .eq 13, 3) := by decide +kernel
theorem d_Md_strike_36 : decode m_Md_strike.2.1 36 = .ok (.iload_n 2, 1) := by decide +kernel
theorem d_Md_strike_37 : decode m_Md_strike.2.1 37 = .ok (.aload_n 0, 1) := by decide +kernel
theorem d_Md_strike_38 : decode m_Md_strike.2.1 38 = .ok (.getfield 105, 3) := by decide +kernel
theorem d_Md_strike_41 : decode m_Md_strike.2.1 41 = .ok (.iload_n 1, 1) := by decide +kernel
theorem d_Md_strike_42 : decode m_Md_strike.2.1 42 = .ok (.iaload, 1) := by decide +kernel
theorem d_Md_strike_43 : decode m_Md_strike.2.1 43 = .ok (.if_icmp .gt 5, 3) := by decide +kernel
theorem d_Md_strike_46 : decode m_Md_strike.2.1 46 = .ok (.iconst 0, 1) := by decide +kernel
theorem d_Md_strike_47 : decode m_Md_strike.2.1 47 = .ok (.ireturn, 1) := by decide +kernel
theorem d_Md_strike_48 : decode m_Md_strike.2.1 48 = .ok (.aload_n 0, 1) := by decide +kernel
theorem d_Md_strike_49 : decode m_Md_strike.2.1 49 = .ok (.getfield 108, 3) := by decide +kernel
theorem d_Md_strike_52 : decode m_Md_strike.2.1 52 = .ok (.iload_n 1, 1) := by decide +kernel
theorem d_Md_strike_53 : decode m_Md_strike.2.1 53 = .ok (.iload_n 2, 1) := by decide +kernel
theorem d_Md_strike_54 : decode m_Md_strike.2.1 54 = .ok (.iastore, 1) := by decide +kernel
theorem d_Md_strike_55 : decode m_Md_strike.2.1 55 = .ok (.iconst 1, 1) := by decide +kernel
theorem d_Md_strike_56 : decode m_Md_strike.2.1 56 = .ok (.ireturn, 1) := by decide +kernel
set_option maxHeartbeats 4000000 in
set_option maxRecDepth 100000 in
theorem B_Md_strike_0 {S : XS} {Q : Int32 → St → Prop} (σ : St) (x1 : Int32) (x2 : Int32) (H : ((x1 < 0 → Q (0 : Int32) σ) ∧ (¬ x1 < 0 → (((gY σ 11) ≤ x1 → Q (0 : Int32) σ) ∧ (¬ (gY σ 11) ≤ x1 → (vp_in x1 61) ∧ ((¬ ((gC σ 20) x1.toNatClampNeg) = (-1 : Int32) → Q (0 : Int32) σ) ∧ (((gC σ 20) x1.toNatClampNeg) = (-1 : Int32) → CM S m_Md_isEdition [.ref 153, .int ((gC σ 18) x1.toNatClampNeg), .int x2] (enc σ) (qI (fun v2 τ3 => ((v2 = 0 → Q (0 : Int32) τ3) ∧ (¬ v2 = 0 → (vp_in x1 61) ∧ ((((gC τ3 19) x1.toNatClampNeg) < x2 → Q (1 : Int32) (sC τ3 20 (upd (gC τ3 20) x1.toNatClampNeg x2))) ∧ (¬ ((gC τ3 19) x1.toNatClampNeg) < x2 → Q (0 : Int32) τ3))))))))))))) : BW S m_Md_strike 0 [some (.ref 153), some (.int x1), some (.int x2)] [] (enc σ) (qI Q) := by
  refine b_iload_n d_Md_strike_0 rfl rfl ?_
  refine b_if_lt (tgt := 46) d_Md_strike_1 (by decide) (fun c9 => ?_) (fun c9 => ?_)
  · have H := H.1 c9
    refine b_iconst (v := (0 : Int32)) d_Md_strike_46 (by decide) ?_
    exact b_iret (ty := .boolean) d_Md_strike_47 rfl rfl ⟨_, _, rfl, rfl, H⟩
  · have H := H.2 c9
    refine b_iload_n d_Md_strike_4 rfl rfl ?_
    refine b_aload_n d_Md_strike_5 rfl rfl ?_
    refine b_getf (v := .int (gY σ 11)) d_Md_strike_6 fl_Md_87 (eg_153 σ) rfl ?_
    refine b_icmp_ge (tgt := 46) d_Md_strike_9 (by decide) (fun c8 => ?_) (fun c8 => ?_)
    · have H := H.1 c8
      refine b_iconst (v := (0 : Int32)) d_Md_strike_46 (by decide) ?_
      exact b_iret (ty := .boolean) d_Md_strike_47 rfl rfl ⟨_, _, rfl, rfl, H⟩
    · have H := H.2 c8
      refine b_aload_n d_Md_strike_12 rfl rfl ?_
      refine b_getf (v := .ref 174) d_Md_strike_13 fl_Md_108 (eg_153 σ) rfl ?_
      refine b_iload_n d_Md_strike_16 rfl rfl ?_
      obtain ⟨h1, H⟩ := H
      refine b_iald d_Md_strike_17 (eg_174 σ) h1 ?_
      refine b_st2 (st' := [.int ((gC σ 20) x1.toNatClampNeg)]) rfl ?_
      refine b_iconst (v := (-1 : Int32)) d_Md_strike_18 (by decide) ?_
      refine b_icmp_ne (tgt := 46) d_Md_strike_19 (by decide) (fun c7 => ?_) (fun c7 => ?_)
      · have H := H.1 c7
        refine b_iconst (v := (0 : Int32)) d_Md_strike_46 (by decide) ?_
        exact b_iret (ty := .boolean) d_Md_strike_47 rfl rfl ⟨_, _, rfl, rfl, H⟩
      · have H := H.2 c7
        refine b_aload_n d_Md_strike_22 rfl rfl ?_
        refine b_aload_n d_Md_strike_23 rfl rfl ?_
        refine b_getf (v := .ref 172) d_Md_strike_24 fl_Md_102 (eg_153 σ) rfl ?_
        refine b_iload_n d_Md_strike_27 rfl rfl ?_
        refine b_iald d_Md_strike_28 (eg_172 σ) h1 ?_
        refine b_st2 (st' := [.int ((gC σ 18) x1.toNatClampNeg), .ref 153]) rfl ?_
        refine b_iload_n d_Md_strike_29 rfl rfl ?_
        refine b_callVi (Mc := m_Md_isEdition) (As := [.int ((gC σ 18) x1.toNatClampNeg), .int x2]) (st := []) d_Md_strike_30 ⟨⟨kA_Md_isEdition.1, kA_Md_isEdition.2.1, kA_Md_isEdition.2.2, by decide⟩, ml_Md_258, kV_Md_isEdition⟩ (eg_153 σ) rfl rfl (Nat.le_of_ble_eq_true rfl) H (fun v2 τ3 H => ?_)
        refine b_if_eq (tgt := 46) d_Md_strike_33 (by decide) (fun c6 => ?_) (fun c6 => ?_)
        · have H := H.1 c6
          refine b_iconst (v := (0 : Int32)) d_Md_strike_46 (by decide) ?_
          exact b_iret (ty := .boolean) d_Md_strike_47 rfl rfl ⟨_, _, rfl, rfl, H⟩
        · have H := H.2 c6
          refine b_iload_n d_Md_strike_36 rfl rfl ?_
          refine b_aload_n d_Md_strike_37 rfl rfl ?_
          refine b_getf (v := .ref 173) d_Md_strike_38 fl_Md_105 (eg_153 τ3) rfl ?_
          refine b_iload_n d_Md_strike_41 rfl rfl ?_
          obtain ⟨h4, H⟩ := H
          refine b_iald d_Md_strike_42 (eg_173 τ3) h4 ?_
          refine b_st2 (st' := [.int ((gC τ3 19) x1.toNatClampNeg), .int x2]) rfl ?_
          refine b_icmp_gt (tgt := 48) d_Md_strike_43 (by decide) (fun c5 => ?_) (fun c5 => ?_)
          · have H := H.1 c5
            refine b_aload_n d_Md_strike_48 rfl rfl ?_
            refine b_getf (v := .ref 174) d_Md_strike_49 fl_Md_108 (eg_153 τ3) rfl ?_
            refine b_iload_n d_Md_strike_52 rfl rfl ?_
            refine b_iload_n d_Md_strike_53 rfl rfl ?_
            refine b_iast (h1 := enc (sC τ3 20 (upd (gC τ3 20) x1.toNatClampNeg x2))) d_Md_strike_54 (eg_174 τ3) h4 (es_174 τ3 (upd (gC τ3 20) x1.toNatClampNeg x2)) ?_
            refine b_iconst (v := (1 : Int32)) d_Md_strike_55 (by decide) ?_
            exact b_iret (ty := .boolean) d_Md_strike_56 rfl rfl ⟨_, _, rfl, rfl, H⟩
          · have H := H.2 c5
            refine b_iconst (v := (0 : Int32)) d_Md_strike_46 (by decide) ?_
            exact b_iret (ty := .boolean) d_Md_strike_47 rfl rfl ⟨_, _, rfl, rfl, H⟩
theorem C_Md_strike {S : XS} {Q : Int32 → St → Prop} (σ : St) (x1 : Int32) (x2 : Int32) (H : BW S m_Md_strike 0 [some (.ref 153), some (.int x1), some (.int x2)] [] (enc σ) (qI Q)) : CM S m_Md_strike [.ref 153, .int x1, .int x2] (enc σ) (qI Q) := b_meth (by decide) (Nat.le_of_ble_eq_true rfl) rfl H
theorem d_Md_isAlike_0 : decode m_Md_isAlike.2.1 0 = .ok (.aload_n 0, 1) := by decide +kernel
theorem d_Md_isAlike_1 : decode m_Md_isAlike.2.1 1 = .ok (.getfield 93, 3) := by decide +kernel
theorem d_Md_isAlike_4 : decode m_Md_isAlike.2.1 4 = .ok (.iconst 2, 1) := by decide +kernel
theorem d_Md_isAlike_5 : decode m_Md_isAlike.2.1 5 = .ok (.iload_n 1, 1) := by decide +kernel
theorem d_Md_isAlike_6 : decode m_Md_isAlike.2.1 6 = .ok (.imul, 1) := by decide +kernel
theorem d_Md_isAlike_7 : decode m_Md_isAlike.2.1 7 = .ok (.iload_n 3, 1) := by decide +kernel
theorem d_Md_isAlike_8 : decode m_Md_isAlike.2.1 8 = .ok (.iadd, 1) := by decide +kernel
theorem d_Md_isAlike_9 : decode m_Md_isAlike.2.1 9 = .ok (.iaload, 1) := by decide +kernel
theorem d_Md_isAlike_10 : decode m_Md_isAlike.2.1 10 = .ok (.aload_n 0, 1) := by decide +kernel
theorem d_Md_isAlike_11 : decode m_Md_isAlike.2.1 11 = .ok (.getfield 93, 3) := by decide +kernel
theorem d_Md_isAlike_14 : decode m_Md_isAlike.2.1 14 = .ok (.iconst 2, 1) := by decide +kernel
theorem d_Md_isAlike_15 : decode m_Md_isAlike.2.1 15 = .ok (.iload_n 2, 1) := by decide +kernel
theorem d_Md_isAlike_16 : decode m_Md_isAlike.2.1 16 = .ok (.imul, 1) := by decide +kernel
theorem d_Md_isAlike_17 : decode m_Md_isAlike.2.1 17 = .ok (.iload_n 3, 1) := by decide +kernel
theorem d_Md_isAlike_18 : decode m_Md_isAlike.2.1 18 = .ok (.iadd, 1) := by decide +kernel
theorem d_Md_isAlike_19 : decode m_Md_isAlike.2.1 19 = .ok (.iaload, 1) := by decide +kernel
theorem d_Md_isAlike_20 : decode m_Md_isAlike.2.1 20 = .ok (.if_icmp .ne 7, 3) := by decide +kernel
theorem d_Md_isAlike_23 : decode m_Md_isAlike.2.1 23 = .ok (.iconst 1, 1) := by decide +kernel
theorem d_Md_isAlike_24 : decode m_Md_isAlike.2.1 24 = .ok (.goto 4, 3) := by decide +kernel
theorem d_Md_isAlike_27 : decode m_Md_isAlike.2.1 27 = .ok (.iconst 0, 1) := by decide +kernel
theorem d_Md_isAlike_28 : decode m_Md_isAlike.2.1 28 = .ok (.istore 4, 2) := by decide +kernel
theorem d_Md_isAlike_30 : decode m_Md_isAlike.2.1 30 = .ok (.iconst 0, 1) := by decide +kernel
theorem d_Md_isAlike_31 : decode m_Md_isAlike.2.1 31 = .ok (.istore 5, 2) := by decide +kernel
theorem d_Md_isAlike_33 : decode m_Md_isAlike.2.1 33 = .ok (.iload 5, 2) := by decide +kernel
theorem d_Md_isAlike_35 : decode m_Md_isAlike.2.1 35 = .ok (.aload_n 0, 1) := by decide +kernel
theorem d_Md_isAlike_36 : decode m_Md_isAlike.2.1 36 = .ok (.getfield 93, 3) := by decide +kernel
theorem d_Md_isAlike_39 : decode m_Md_isAlike.2.1 39 = .ok (.iconst 2, 1) := by decide +kernel
theorem d_Md_isAlike_40 : decode m_Md_isAlike.2.1 40 = .ok (.iload_n 1, 1) := by decide +kernel
theorem d_Md_isAlike_41 : decode m_Md_isAlike.2.1 41 = .ok (.imul, 1) := by decide +kernel
theorem d_Md_isAlike_42 : decode m_Md_isAlike.2.1 42 = .ok (.iload_n 3, 1) := by decide +kernel
theorem d_Md_isAlike_43 : decode m_Md_isAlike.2.1 43 = .ok (.iadd, 1) := by decide +kernel
theorem d_Md_isAlike_44 : decode m_Md_isAlike.2.1 44 = .ok (.iaload, 1) := by decide +kernel
theorem d_Md_isAlike_45 : decode m_Md_isAlike.2.1 45 = .ok (.if_icmp .ge 58, 3) := by decide +kernel
theorem d_Md_isAlike_48 : decode m_Md_isAlike.2.1 48 = .ok (.iload 4, 2) := by decide +kernel
theorem d_Md_isAlike_50 : decode m_Md_isAlike.2.1 50 = .ok (.ifCond .eq 53, 3) := by decide +kernel
theorem d_Md_isAlike_53 : decode m_Md_isAlike.2.1 53 = .ok (.aload_n 0, 1) := by decide +kernel
theorem d_Md_isAlike_54 : decode m_Md_isAlike.2.1 54 = .ok (.getfield 90, 3) := by decide +kernel
theorem d_Md_isAlike_57 : decode m_Md_isAlike.2.1 57 = .ok (.bipush 20, 2) := by decide +kernel
theorem d_Md_isAlike_59 : decode m_Md_isAlike.2.1 59 = .ok (.iload_n 1, 1) := by decide +kernel
theorem d_Md_isAlike_60 : decode m_Md_isAlike.2.1 60 = .ok (.imul, 1) := by decide +kernel
theorem d_Md_isAlike_61 : decode m_Md_isAlike.2.1 61 = .ok (.bipush 10, 2) := by decide +kernel
theorem d_Md_isAlike_63 : decode m_Md_isAlike.2.1 63 = .ok (.iload_n 3, 1) := by decide +kernel
theorem d_Md_isAlike_64 : decode m_Md_isAlike.2.1 64 = .ok (.imul, 1) := by decide +kernel
theorem d_Md_isAlike_65 : decode m_Md_isAlike.2.1 65 = .ok (.iadd, 1) := by decide +kernel
theorem d_Md_isAlike_66 : decode m_Md_isAlike.2.1 66 = .ok (.iload 5, 2) := by decide +kernel
theorem d_Md_isAlike_68 : decode m_Md_isAlike.2.1 68 = .ok (.iadd, 1) := by decide +kernel
theorem d_Md_isAlike_69 : decode m_Md_isAlike.2.1 69 = .ok (.iaload, 1) := by decide +kernel
theorem d_Md_isAlike_70 : decode m_Md_isAlike.2.1 70 = .ok (.aload_n 0, 1) := by decide +kernel
theorem d_Md_isAlike_71 : decode m_Md_isAlike.2.1 71 = .ok (.getfield 90, 3) := by decide +kernel
theorem d_Md_isAlike_74 : decode m_Md_isAlike.2.1 74 = .ok (.bipush 20, 2) := by decide +kernel
theorem d_Md_isAlike_76 : decode m_Md_isAlike.2.1 76 = .ok (.iload_n 2, 1) := by decide +kernel
theorem d_Md_isAlike_77 : decode m_Md_isAlike.2.1 77 = .ok (.imul, 1) := by decide +kernel
theorem d_Md_isAlike_78 : decode m_Md_isAlike.2.1 78 = .ok (.bipush 10, 2) := by decide +kernel
theorem d_Md_isAlike_80 : decode m_Md_isAlike.2.1 80 = .ok (.iload_n 3, 1) := by decide +kernel
theorem d_Md_isAlike_81 : decode m_Md_isAlike.2.1 81 = .ok (.imul, 1) := by decide +kernel
theorem d_Md_isAlike_82 : decode m_Md_isAlike.2.1 82 = .ok (.iadd, 1) := by decide +kernel
theorem d_Md_isAlike_83 : decode m_Md_isAlike.2.1 83 = .ok (.iload 5, 2) := by decide +kernel
theorem d_Md_isAlike_85 : decode m_Md_isAlike.2.1 85 = .ok (.iadd, 1) := by decide +kernel
theorem d_Md_isAlike_86 : decode m_Md_isAlike.2.1 86 = .ok (.iaload, 1) := by decide +kernel
theorem d_Md_isAlike_87 : decode m_Md_isAlike.2.1 87 = .ok (.if_icmp .ne 7, 3) := by decide +kernel
theorem d_Md_isAlike_90 : decode m_Md_isAlike.2.1 90 = .ok (.iconst 1, 1) := by decide +kernel
theorem d_Md_isAlike_91 : decode m_Md_isAlike.2.1 91 = .ok (.goto 4, 3) := by decide +kernel
theorem d_Md_isAlike_94 : decode m_Md_isAlike.2.1 94 = .ok (.iconst 0, 1) := by decide +kernel
theorem d_Md_isAlike_95 : decode m_Md_isAlike.2.1 95 = .ok (.istore 4, 2) := by decide +kernel
theorem d_Md_isAlike_97 : decode m_Md_isAlike.2.1 97 = .ok (.iinc 5 1, 3) := by decide +kernel
theorem d_Md_isAlike_100 : decode m_Md_isAlike.2.1 100 = .ok (.goto (-67), 3) := by decide +kernel
theorem d_Md_isAlike_103 : decode m_Md_isAlike.2.1 103 = .ok (.iload 4, 2) := by decide +kernel
theorem d_Md_isAlike_105 : decode m_Md_isAlike.2.1 105 = .ok (.ireturn, 1) := by decide +kernel
set_option maxHeartbeats 4000000 in
set_option maxRecDepth 100000 in
theorem B_Md_isAlike_0 {S : XS} {Q : Int32 → St → Prop} (σ : St) (x1 : Int32) (x2 : Int32) (x3 : Int32) (H : (vp_in (((2 : Int32) * x1) + x3) 122) ∧ (vp_in (((2 : Int32) * x2) + x3) 122) ∧ ((¬ ((gC σ 15) (((2 : Int32) * x1) + x3).toNatClampNeg) = ((gC σ 15) (((2 : Int32) * x2) + x3).toNatClampNeg) → BW S m_Md_isAlike 33 [some (.ref 153), some (.int x1), some (.int x2), some (.int x3), some (.int (0 : Int32)), some (.int (0 : Int32))] [] (enc σ) (qI Q)) ∧ (((gC σ 15) (((2 : Int32) * x1) + x3).toNatClampNeg) = ((gC σ 15) (((2 : Int32) * x2) + x3).toNatClampNeg) → BW S m_Md_isAlike 33 [some (.ref 153), some (.int x1), some (.int x2), some (.int x3), some (.int (1 : Int32)), some (.int (0 : Int32))] [] (enc σ) (qI Q)))) : BW S m_Md_isAlike 0 [some (.ref 153), some (.int x1), some (.int x2), some (.int x3), none, none] [] (enc σ) (qI Q) := by
  refine b_aload_n d_Md_isAlike_0 rfl rfl ?_
  refine b_getf (v := .ref 169) d_Md_isAlike_1 fl_Md_93 (eg_153 σ) rfl ?_
  refine b_iconst (v := (2 : Int32)) d_Md_isAlike_4 (by decide) ?_
  refine b_iload_n d_Md_isAlike_5 rfl rfl ?_
  refine b_imul d_Md_isAlike_6  ?_
  refine b_iload_n d_Md_isAlike_7 rfl rfl ?_
  refine b_iadd d_Md_isAlike_8  ?_
  obtain ⟨h1, H⟩ := H
  refine b_iald d_Md_isAlike_9 (eg_169 σ) h1 ?_
  refine b_st2 (st' := [.int ((gC σ 15) (((2 : Int32) * x1) + x3).toNatClampNeg)]) rfl ?_
  refine b_aload_n d_Md_isAlike_10 rfl rfl ?_
  refine b_getf (v := .ref 169) d_Md_isAlike_11 fl_Md_93 (eg_153 σ) rfl ?_
  refine b_iconst (v := (2 : Int32)) d_Md_isAlike_14 (by decide) ?_
  refine b_iload_n d_Md_isAlike_15 rfl rfl ?_
  refine b_imul d_Md_isAlike_16  ?_
  refine b_iload_n d_Md_isAlike_17 rfl rfl ?_
  refine b_iadd d_Md_isAlike_18  ?_
  obtain ⟨h2, H⟩ := H
  refine b_iald d_Md_isAlike_19 (eg_169 σ) h2 ?_
  refine b_st2 (st' := [.int ((gC σ 15) (((2 : Int32) * x2) + x3).toNatClampNeg), .int ((gC σ 15) (((2 : Int32) * x1) + x3).toNatClampNeg)]) rfl ?_
  refine b_icmp_ne (tgt := 27) d_Md_isAlike_20 (by decide) (fun c3 => ?_) (fun c3 => ?_)
  · have H := H.1 c3
    refine b_iconst (v := (0 : Int32)) d_Md_isAlike_27 (by decide) ?_
    refine b_istore (ls' := [some (.ref 153), some (.int x1), some (.int x2), some (.int x3), some (.int (0 : Int32)), none]) d_Md_isAlike_28 (Nat.le_of_ble_eq_true rfl) rfl ?_
    refine b_iconst (v := (0 : Int32)) d_Md_isAlike_30 (by decide) ?_
    refine b_istore (ls' := [some (.ref 153), some (.int x1), some (.int x2), some (.int x3), some (.int (0 : Int32)), some (.int (0 : Int32))]) d_Md_isAlike_31 (Nat.le_of_ble_eq_true rfl) rfl ?_
    exact b_mask [true, true, true, true, true, true] rfl H
  · have H := H.2 c3
    refine b_iconst (v := (1 : Int32)) d_Md_isAlike_23 (by decide) ?_
    refine b_goto (tgt := 28) d_Md_isAlike_24 (by decide) ?_
    refine b_istore (ls' := [some (.ref 153), some (.int x1), some (.int x2), some (.int x3), some (.int (1 : Int32)), none]) d_Md_isAlike_28 (Nat.le_of_ble_eq_true rfl) rfl ?_
    refine b_iconst (v := (0 : Int32)) d_Md_isAlike_30 (by decide) ?_
    refine b_istore (ls' := [some (.ref 153), some (.int x1), some (.int x2), some (.int x3), some (.int (1 : Int32)), some (.int (0 : Int32))]) d_Md_isAlike_31 (Nat.le_of_ble_eq_true rfl) rfl ?_
    exact b_mask [true, true, true, true, true, true] rfl H
set_option maxHeartbeats 4000000 in
set_option maxRecDepth 100000 in
theorem B_Md_isAlike_33 {S : XS} {Q : Int32 → St → Prop} (σ : St) (x1 : Int32) (x2 : Int32) (x3 : Int32) (x4 : Int32) (x5 : Int32) (H : (vp_in (((2 : Int32) * x1) + x3) 122) ∧ ((((gC σ 15) (((2 : Int32) * x1) + x3).toNatClampNeg) ≤ x5 → (narrow .boolean (.int x4) = .int x4) ∧ Q x4 σ) ∧ (¬ ((gC σ 15) (((2 : Int32) * x1) + x3).toNatClampNeg) ≤ x5 → ((x4 = 0 → (narrow .boolean (.int x4) = .int x4) ∧ Q x4 σ) ∧ (¬ x4 = 0 → (vp_in ((((20 : Int32) * x1) + ((10 : Int32) * x3)) + x5) 1220) ∧ (vp_in ((((20 : Int32) * x2) + ((10 : Int32) * x3)) + x5) 1220) ∧ ((¬ ((gC σ 14) ((((20 : Int32) * x1) + ((10 : Int32) * x3)) + x5).toNatClampNeg) = ((gC σ 14) ((((20 : Int32) * x2) + ((10 : Int32) * x3)) + x5).toNatClampNeg) → BW S m_Md_isAlike 33 [some (.ref 153), some (.int x1), some (.int x2), some (.int x3), some (.int (0 : Int32)), some (.int (x5 + (1 : Int32)))] [] (enc σ) (qI Q)) ∧ (((gC σ 14) ((((20 : Int32) * x1) + ((10 : Int32) * x3)) + x5).toNatClampNeg) = ((gC σ 14) ((((20 : Int32) * x2) + ((10 : Int32) * x3)) + x5).toNatClampNeg) → BW S m_Md_isAlike 33 [some (.ref 153), some (.int x1), some (.int x2), some (.int x3), some (.int (1 : Int32)), some (.int (x5 + (1 : Int32)))] [] (enc σ) (qI Q)))))))) : BW S m_Md_isAlike 33 [some (.ref 153), some (.int x1), some (.int x2), some (.int x3), some (.int x4), some (.int x5)] [] (enc σ) (qI Q) := by
  refine b_iload d_Md_isAlike_33 rfl ?_
  refine b_aload_n d_Md_isAlike_35 rfl rfl ?_
  refine b_getf (v := .ref 169) d_Md_isAlike_36 fl_Md_93 (eg_153 σ) rfl ?_
  refine b_iconst (v := (2 : Int32)) d_Md_isAlike_39 (by decide) ?_
  refine b_iload_n d_Md_isAlike_40 rfl rfl ?_
  refine b_imul d_Md_isAlike_41  ?_
  refine b_iload_n d_Md_isAlike_42 rfl rfl ?_
  refine b_iadd d_Md_isAlike_43  ?_
  obtain ⟨h4, H⟩ := H
  refine b_iald d_Md_isAlike_44 (eg_169 σ) h4 ?_
  refine b_st2 (st' := [.int ((gC σ 15) (((2 : Int32) * x1) + x3).toNatClampNeg), .int x5]) rfl ?_
  refine b_icmp_ge (tgt := 103) d_Md_isAlike_45 (by decide) (fun c11 => ?_) (fun c11 => ?_)
  · have H := H.1 c11
    refine b_iload d_Md_isAlike_103 rfl ?_
    obtain ⟨h5, H⟩ := H
    exact b_iret (ty := .boolean) d_Md_isAlike_105 rfl h5 ⟨_, _, rfl, rfl, H⟩
  · have H := H.2 c11
    refine b_iload d_Md_isAlike_48 rfl ?_
    refine b_if_eq (tgt := 103) d_Md_isAlike_50 (by decide) (fun c10 => ?_) (fun c10 => ?_)
    · have H := H.1 c10
      refine b_iload d_Md_isAlike_103 rfl ?_
      obtain ⟨h6, H⟩ := H
      exact b_iret (ty := .boolean) d_Md_isAlike_105 rfl h6 ⟨_, _, rfl, rfl, H⟩
    · have H := H.2 c10
      refine b_aload_n d_Md_isAlike_53 rfl rfl ?_
      refine b_getf (v := .ref 168) d_Md_isAlike_54 fl_Md_90 (eg_153 σ) rfl ?_
      refine b_bipush (v := (20 : Int32)) d_Md_isAlike_57 (by decide) ?_
      refine b_iload_n d_Md_isAlike_59 rfl rfl ?_
      refine b_imul d_Md_isAlike_60  ?_
      refine b_bipush (v := (10 : Int32)) d_Md_isAlike_61 (by decide) ?_
      refine b_iload_n d_Md_isAlike_63 rfl rfl ?_
      refine b_imul d_Md_isAlike_64  ?_
      refine b_iadd d_Md_isAlike_65  ?_
      refine b_iload d_Md_isAlike_66 rfl ?_
      refine b_iadd d_Md_isAlike_68  ?_
      obtain ⟨h7, H⟩ := H
      refine b_iald d_Md_isAlike_69 (eg_168 σ) h7 ?_
      refine b_st2 (st' := [.int ((gC σ 14) ((((20 : Int32) * x1) + ((10 : Int32) * x3)) + x5).toNatClampNeg)]) rfl ?_
      refine b_aload_n d_Md_isAlike_70 rfl rfl ?_
      refine b_getf (v := .ref 168) d_Md_isAlike_71 fl_Md_90 (eg_153 σ) rfl ?_
      refine b_bipush (v := (20 : Int32)) d_Md_isAlike_74 (by decide) ?_
      refine b_iload_n d_Md_isAlike_76 rfl rfl ?_
      refine b_imul d_Md_isAlike_77  ?_
      refine b_bipush (v := (10 : Int32)) d_Md_isAlike_78 (by decide) ?_
      refine b_iload_n d_Md_isAlike_80 rfl rfl ?_
      refine b_imul d_Md_isAlike_81  ?_
      refine b_iadd d_Md_isAlike_82  ?_
      refine b_iload d_Md_isAlike_83 rfl ?_
      refine b_iadd d_Md_isAlike_85  ?_
      obtain ⟨h8, H⟩ := H
      refine b_iald d_Md_isAlike_86 (eg_168 σ) h8 ?_
      refine b_st2 (st' := [.int ((gC σ 14) ((((20 : Int32) * x2) + ((10 : Int32) * x3)) + x5).toNatClampNeg), .int ((gC σ 14) ((((20 : Int32) * x1) + ((10 : Int32) * x3)) + x5).toNatClampNeg)]) rfl ?_
      refine b_icmp_ne (tgt := 94) d_Md_isAlike_87 (by decide) (fun c9 => ?_) (fun c9 => ?_)
      · have H := H.1 c9
        refine b_iconst (v := (0 : Int32)) d_Md_isAlike_94 (by decide) ?_
        refine b_istore (ls' := [some (.ref 153), some (.int x1), some (.int x2), some (.int x3), some (.int (0 : Int32)), some (.int x5)]) d_Md_isAlike_95 (Nat.le_of_ble_eq_true rfl) rfl ?_
        refine b_iinc (v := (x5 + (1 : Int32))) (ls' := [some (.ref 153), some (.int x1), some (.int x2), some (.int x3), some (.int (0 : Int32)), some (.int (x5 + (1 : Int32)))]) d_Md_isAlike_97 rfl rfl (Nat.le_of_ble_eq_true rfl) rfl ?_
        refine b_goto (tgt := 33) d_Md_isAlike_100 (by decide) ?_
        exact b_mask [true, true, true, true, true, true] rfl H
      · have H := H.2 c9
        refine b_iconst (v := (1 : Int32)) d_Md_isAlike_90 (by decide) ?_
        refine b_goto (tgt := 95) d_Md_isAlike_91 (by decide) ?_
        refine b_istore (ls' := [some (.ref 153), some (.int x1), some (.int x2), some (.int x3), some (.int (1 : Int32)), some (.int x5)]) d_Md_isAlike_95 (Nat.le_of_ble_eq_true rfl) rfl ?_
        refine b_iinc (v := (x5 + (1 : Int32))) (ls' := [some (.ref 153), some (.int x1), some (.int x2), some (.int x3), some (.int (1 : Int32)), some (.int (x5 + (1 : Int32)))]) d_Md_isAlike_97 rfl rfl (Nat.le_of_ble_eq_true rfl) rfl ?_
        refine b_goto (tgt := 33) d_Md_isAlike_100 (by decide) ?_
        exact b_mask [true, true, true, true, true, true] rfl H
theorem C_Md_isAlike {S : XS} {Q : Int32 → St → Prop} (σ : St) (x1 : Int32) (x2 : Int32) (x3 : Int32) (H : BW S m_Md_isAlike 0 [some (.ref 153), some (.int x1), some (.int x2), some (.int x3), none, none] [] (enc σ) (qI Q)) : CM S m_Md_isAlike [.ref 153, .int x1, .int x2, .int x3] (enc σ) (qI Q) := b_meth (by decide) (Nat.le_of_ble_eq_true rfl) rfl H
theorem d_Md_quarrels0_0 : decode m_Md_quarrels0.2.1 0 = .ok (.aload_n 0, 1) := by decide +kernel
theorem d_Md_quarrels0_1 : decode m_Md_quarrels0.2.1 1 = .ok (.iload_n 1, 1) := by decide +kernel
theorem d_Md_quarrels0_2 : decode m_Md_quarrels0.2.1 2 = .ok (.iload_n 2, 1) := by decide +kernel
theorem d_Md_quarrels0_3 : decode m_Md_quarrels0.2.1 3 = .ok (.iconst 0, 1) := by decide +kernel
theorem d_Md_quarrels0_4 : decode m_Md_quarrels0.2.1 4 = .ok (.invokevirtual 262, 3) := by decide +kernel
theorem d_Md_quarrels0_7 : decode m_Md_quarrels0.2.1 7 = .ok (.ifCond .ne 5, 3) := by decide +kernel
theorem d_Md_quarrels0_10 : decode m_Md_quarrels0.2.1 10 = .ok (.iconst 0, 1) := by decide +kernel
theorem d_Md_quarrels0_11 : decode m_Md_quarrels0.2.1 11 = .ok (.ireturn, 1) := by decide +kernel
theorem d_Md_quarrels0_12 : decode m_Md_quarrels0.2.1 12 = .ok (.aload_n 0, 1) := by decide +kernel
theorem d_Md_quarrels0_13 : decode m_Md_quarrels0.2.1 13 = .ok (.getfield 96, 3) := by decide +kernel
theorem d_Md_quarrels0_16 : decode m_Md_quarrels0.2.1 16 = .ok (.iload_n 1, 1) := by decide +kernel
theorem d_Md_quarrels0_17 : decode m_Md_quarrels0.2.1 17 = .ok (.iaload, 1) := by decide +kernel
theorem d_Md_quarrels0_18 : decode m_Md_quarrels0.2.1 18 = .ok (.aload_n 0, 1) := by decide +kernel
theorem d_Md_quarrels0_19 : decode m_Md_quarrels0.2.1 19 = .ok (.getfield 96, 3) := by decide +kernel
theorem d_Md_quarrels0_22 : decode m_Md_quarrels0.2.1 22 = .ok (.iload_n 2, 1) := by decide +kernel
theorem d_Md_quarrels0_23 : decode m_Md_quarrels0.2.1 23 = .ok (.iaload, 1) := by decide +kernel
theorem d_Md_quarrels0_24 : decode m_Md_quarrels0.2.1 24 = .ok (.if_icmp .gt 7, 3) := by decide +kernel
theorem d_Md_quarrels0_27 : decode m_Md_quarrels0.2.1 27 = .ok (.iload_n 1, 1) := by decide +kernel
theorem d_Md_quarrels0_28 : decode m_Md_quarrels0.2.1 28 = .ok (.goto 4, 3) := by decide +kernel
theorem d_Md_quarrels0_31 : decode m_Md_quarrels0.2.1 31 = .ok (.iload_n 2, 1) := by decide +kernel
theorem d_Md_quarrels0_32 : decode m_Md_quarrels0.2.1 32 = .ok (.istore_n 3, 1) := by decide +kernel
theorem d_Md_quarrels0_33 : decode m_Md_quarrels0.2.1 33 = .ok (.iload_n 3, 1) := by decide +kernel
theorem d_Md_quarrels0_34 : decode m_Md_quarrels0.2.1 34 = .ok (.iload_n 1, 1) := by decide +kernel
theorem d_Md_quarrels0_35 : decode m_Md_quarrels0.2.1 35 = .ok (.if_icmp .ne 7, 3) := by decide +kernel
theorem d_Md_quarrels0_38 : decode m_Md_quarrels0.2.1 38 = .ok (.iload_n 2, 1) := by decide +kernel
theorem d_Md_quarrels0_39 : decode m_Md_quarrels0.2.1 39 = .ok (.goto 4, 3) := by decide +kernel
theorem d_Md_quarrels0_42 : decode m_Md_quarrels0.2.1 42 = .ok (.iload_n 1, 1) := by decide +kernel
theorem d_Md_quarrels0_43 : decode m_Md_quarrels0.2.1 43 = .ok (.istore 4, 2) := by decide +kernel
theorem d_Md_quarrels0_45 : decode m_Md_quarrels0.2.1 45 = .ok (.aload_n 0, 1) := by decide +kernel
theorem d_Md_quarrels0_46 : decode m_Md_quarrels0.2.1 46 = .ok (.getfield 96, 3) := by decide +kernel
theorem d_Md_quarrels0_49 : decode m_Md_quarrels0.2.1 49 = .ok (.iload_n 3, 1) := by decide +kernel
theorem d_Md_quarrels0_50 : decode m_Md_quarrels0.2.1 50 = .ok (.iaload, 1) := by decide +kernel
theorem d_Md_quarrels0_51 : decode m_Md_quarrels0.2.1 51 = .ok (.aload_n 0, 1) := by decide +kernel
theorem d_Md_quarrels0_52 : decode m_Md_quarrels0.2.1 52 = .ok (.getfield 96, 3) := by decide +kernel
theorem d_Md_quarrels0_55 : decode m_Md_quarrels0.2.1 55 = .ok (.iload 4, 2) := by decide +kernel
theorem d_Md_quarrels0_57 : decode m_Md_quarrels0.2.1 57 = .ok (.iaload, 1) := by decide +kernel
theorem d_Md_quarrels0_58 : decode m_Md_quarrels0.2.1 58 = .ok (.if_icmp .ne 70, 3) := by decide +kernel
theorem d_Md_quarrels0_61 : decode m_Md_quarrels0.2.1 61 = .ok (.aload_n 0, 1) := by decide +kernel
theorem d_Md_quarrels0_62 : decode m_Md_quarrels0.2.1 62 = .ok (.getfield 96, 3) := by decide +kernel
theorem d_Md_quarrels0_65 : decode m_Md_quarrels0.2.1 65 = .ok (.iload_n 3, 1) := by decide +kernel
theorem d_Md_quarrels0_66 : decode m_Md_quarrels0.2.1 66 = .ok (.iaload, 1) := by decide +kernel
theorem d_Md_quarrels0_67 : decode m_Md_quarrels0.2.1 67 = .ok (.iconst 2, 1) := by decide +kernel
theorem d_Md_quarrels0_68 : decode m_Md_quarrels0.2.1 68 = .ok (.if_icmp .ge 27, 3) := by decide +kernel
theorem d_Md_quarrels0_71 : decode m_Md_quarrels0.2.1 71 = .ok (.aload_n 0, 1) := by decide +kernel
theorem d_Md_quarrels0_72 : decode m_Md_quarrels0.2.1 72 = .ok (.getfield 99, 3) := by decide +kernel
theorem d_Md_quarrels0_75 : decode m_Md_quarrels0.2.1 75 = .ok (.iload_n 3, 1) := by decide +kernel
theorem d_Md_quarrels0_76 : decode m_Md_quarrels0.2.1 76 = .ok (.iaload, 1) := by decide +kernel
theorem d_Md_quarrels0_77 : decode m_Md_quarrels0.2.1 77 = .ok (.aload_n 0, 1) := by decide +kernel
theorem d_Md_quarrels0_78 : decode m_Md_quarrels0.2.1 78 = .ok (.getfield 99, 3) := by decide +kernel
theorem d_Md_quarrels0_81 : decode m_Md_quarrels0.2.1 81 = .ok (.iload 4, 2) := by decide +kernel
theorem d_Md_quarrels0_83 : decode m_Md_quarrels0.2.1 83 = .ok (.iaload, 1) := by decide +kernel
theorem d_Md_quarrels0_84 : decode m_Md_quarrels0.2.1 84 = .ok (.if_icmp .eq 7, 3) := by decide +kernel
theorem d_Md_quarrels0_87 : decode m_Md_quarrels0.2.1 87 = .ok (.iconst 1, 1) := by decide +kernel
theorem d_Md_quarrels0_88 : decode m_Md_quarrels0.2.1 88 = .ok (.goto 39, 3) := by decide +kernel
theorem d_Md_quarrels0_91 : decode m_Md_quarrels0.2.1 91 = .ok (.iconst 0, 1) := by decide +kernel
theorem d_Md_quarrels0_92 : decode m_Md_quarrels0.2.1 92 = .ok (.goto 35, 3) := by decide +kernel
theorem d_Md_quarrels0_95 : decode m_Md_quarrels0.2.1 95 = .ok (.aload_n 0, 1) := by decide +kernel
theorem d_Md_quarrels0_96 : decode m_Md_quarrels0.2.1 96 = .ok (.getfield 99, 3) := by decide +kernel
theorem d_Md_quarrels0_99 : decode m_Md_quarrels0.2.1 99 = .ok (.iload_n 3, 1) := by decide +kernel
theorem d_Md_quarrels0_100 : decode m_Md_quarrels0.2.1 100 = .ok (.iaload, 1) := by decide +kernel
theorem d_Md_quarrels0_101 : decode m_Md_quarrels0.2.1 101 = .ok (.aload_n 0, 1) := by decide +kernel
theorem d_Md_quarrels0_102 : decode m_Md_quarrels0.2.1 102 = .ok (.getfield 99, 3) := by decide +kernel
theorem d_Md_quarrels0_105 : decode m_Md_quarrels0.2.1 105 = .ok (.iload 4, 2) := by decide +kernel
theorem d_Md_quarrels0_107 : decode m_Md_quarrels0.2.1 107 = .ok (.iaload, 1) := by decide +kernel
theorem d_Md_quarrels0_108 : decode m_Md_quarrels0.2.1 108 = .ok (.if_icmp .ne 18, 3) := by decide +kernel
theorem d_Md_quarrels0_111 : decode m_Md_quarrels0.2.1 111 = .ok (.aload_n 0, 1) := by decide +kernel
theorem d_Md_quarrels0_112 : decode m_Md_quarrels0.2.1 112 = .ok (.iload_n 3, 1) := by decide +kernel
theorem d_Md_quarrels0_113 : decode m_Md_quarrels0.2.1 113 = .ok (.iload 4, 2) := by decide +kernel
theorem d_Md_quarrels0_115 : decode m_Md_quarrels0.2.1 115 = .ok (.iconst 1, 1) := by decide +kernel
theorem d_Md_quarrels0_116 : decode m_Md_quarrels0.2.1 116 = .ok (.invokevirtual 262, 3) := by decide +kernel
theorem d_Md_quarrels0_119 : decode m_Md_quarrels0.2.1 119 = .ok (.ifCond .ne 7, 3) := by decide +kernel
theorem d_Md_quarrels0_122 : decode m_Md_quarrels0.2.1 122 = .ok (.iconst 2, 1) := by decide +kernel
theorem d_Md_quarrels0_123 : decode m_Md_quarrels0.2.1 123 = .ok (.goto 4, 3) := by decide +kernel
theorem d_Md_quarrels0_126 : decode m_Md_quarrels0.2.1 126 = .ok (.iconst 0, 1) := by decide +kernel
theorem d_Md_quarrels0_127 : decode m_Md_quarrels0.2.1 127 = .ok (.ireturn, 1) := by decide +kernel
theorem d_Md_quarrels0_128 : decode m_Md_quarrels0.2.1 128 = .ok (.aload_n 0, 1) := by decide +kernel
theorem d_Md_quarrels0_129 : decode m_Md_quarrels0.2.1 129 = .ok (.getfield 96, 3) := by decide +kernel
theorem d_Md_quarrels0_132 : decode m_Md_quarrels0.2.1 132 = .ok (.iload 4, 2) := by decide +kernel
theorem d_Md_quarrels0_134 : decode m_Md_quarrels0.2.1 134 = .ok (.iaload, 1) := by decide +kernel
theorem d_Md_quarrels0_135 : decode m_Md_quarrels0.2.1 135 = .ok (.iconst 2, 1) := by decide +kernel
theorem d_Md_quarrels0_136 : decode m_Md_quarrels0.2.1 136 = .ok (.if_icmp .ne 53, 3) := by decide +kernel
theorem d_Md_quarrels0_139 : decode m_Md_quarrels0.2.1 139 = .ok (.aload_n 0, 1) := by decide +kernel
theorem d_Md_quarrels0_140 : decode m_Md_quarrels0.2.1 140 = .ok (.getfield 96, 3) := by decide +kernel
theorem d_Md_quarrels0_143 : decode m_Md_quarrels0.2.1 143 = .ok (.iload_n 3, 1) := by decide +kernel
theorem d_Md_quarrels0_144 : decode m_Md_quarrels0.2.1 144 = .ok (.iaload, 1) := by decide +kernel
theorem d_Md_quarrels0_145 : decode m_Md_quarrels0.2.1 145 = .ok (.ifCond .ne 22, 3) := by decide +kernel
theorem d_Md_quarrels0_148 : decode m_Md_quarrels0.2.1 148 = .ok (.aload_n 0, 1) := by decide +kernel
theorem d_Md_quarrels0_149 : decode m_Md_quarrels0.2.1 149 = .ok (.getfield 99, 3) := by decide +kernel
theorem d_Md_quarrels0_152 : decode m_Md_quarrels0.2.1 152 = .ok (.iload 4, 2) := by decide +kernel
theorem d_Md_quarrels0_154 : decode m_Md_quarrels0.2.1 154 = .ok (.iaload, 1) := by decide +kernel
theorem d_Md_quarrels0_155 : decode m_Md_quarrels0.2.1 155 = .ok (.aload_n 0, 1) := by decide +kernel
theorem d_Md_quarrels0_156 : decode m_Md_quarrels0.2.1 156 = .ok (.getfield 99, 3) := by decide +kernel
theorem d_Md_quarrels0_159 : decode m_Md_quarrels0.2.1 159 = .ok (.iload_n 3, 1) := by decide +kernel
theorem d_Md_quarrels0_160 : decode m_Md_quarrels0.2.1 160 = .ok (.iaload, 1) := by decide +kernel
theorem d_Md_quarrels0_161 : decode m_Md_quarrels0.2.1 161 = .ok (.if_icmp .ge 26, 3) := by decide +kernel
theorem d_Md_quarrels0_164 : decode m_Md_quarrels0.2.1 164 = .ok (.goto 19, 3) := by decide +kernel
theorem d_Md_quarrels0_167 : decode m_Md_quarrels0.2.1 167 = .ok (.aload_n 0, 1) := by decide +kernel
theorem d_Md_quarrels0_168 : decode m_Md_quarrels0.2.1 168 = .ok (.getfield 99, 3) := by decide +kernel
theorem d_Md_quarrels0_171 : decode m_Md_quarrels0.2.1 171 = .ok (.iload 4, 2) := by decide +kernel
theorem d_Md_quarrels0_173 : decode m_Md_quarrels0.2.1 173 = .ok (.iaload, 1) := by decide +kernel
theorem d_Md_quarrels0_174 : decode m_Md_quarrels0.2.1 174 = .ok (.aload_n 0, 1) := by decide +kernel
theorem d_Md_quarrels0_175 : decode m_Md_quarrels0.2.1 175 = .ok (.getfield 99, 3) := by decide +kernel
theorem d_Md_quarrels0_178 : decode m_Md_quarrels0.2.1 178 = .ok (.iload_n 3, 1) := by decide +kernel
theorem d_Md_quarrels0_179 : decode m_Md_quarrels0.2.1 179 = .ok (.iaload, 1) := by decide +kernel
theorem d_Md_quarrels0_180 : decode m_Md_quarrels0.2.1 180 = .ok (.if_icmp .le 7, 3) := by decide +kernel
theorem d_Md_quarrels0_183 : decode m_Md_quarrels0.2.1 183 = .ok (.iconst 3, 1) := by decide +kernel
theorem d_Md_quarrels0_184 : decode m_Md_quarrels0.2.1 184 = .ok (.goto 4, 3) := by decide +kernel
theorem d_Md_quarrels0_187 : decode m_Md_quarrels0.2.1 187 = .ok (.iconst 0, 1) := by decide +kernel
theorem d_Md_quarrels0_188 : decode m_Md_quarrels0.2.1 188 = .ok (.ireturn, 1) := by decide +kernel
theorem d_Md_quarrels0_189 : decode m_Md_quarrels0.2.1 189 = .ok (.aload_n 0, 1) := by decide +kernel
theorem d_Md_quarrels0_190 : decode m_Md_quarrels0.2.1 190 = .ok (.getfield 99, 3) := by decide +kernel
theorem d_Md_quarrels0_193 : decode m_Md_quarrels0.2.1 193 = .ok (.iload 4, 2) := by decide +kernel
theorem d_Md_quarrels0_195 : decode m_Md_quarrels0.2.1 195 = .ok (.iaload, 1) := by decide +kernel
theorem d_Md_quarrels0_196 : decode m_Md_quarrels0.2.1 196 = .ok (.aload_n 0, 1) := by decide +kernel
theorem d_Md_quarrels0_197 : decode m_Md_quarrels0.2.1 197 = .ok (.getfield 99, 3) := by decide +kernel
theorem d_Md_quarrels0_200 : decode m_Md_quarrels0.2.1 200 = .ok (.iload_n 3, 1) := by decide +kernel
theorem d_Md_quarrels0_201 : decode m_Md_quarrels0.2.1 201 = .ok (.iaload, 1) := by decide +kernel
theorem d_Md_quarrels0_202 : decode m_Md_quarrels0.2.1 202 = .ok (.if_icmp .ge 7, 3) := by decide +kernel
theorem d_Md_quarrels0_205 : decode m_Md_quarrels0.2.1 205 = .ok (.iconst 4, 1) := by decide +kernel
theorem d_Md_quarrels0_206 : decode m_Md_quarrels0.2.1 206 = .ok (.goto 4, 3) := by decide +kernel
theorem d_Md_quarrels0_209 : decode m_Md_quarrels0.2.1 209 = .ok (.iconst 0, 1) := by decide +kernel
theorem d_Md_quarrels0_210 : decode m_Md_quarrels0.2.1 210 = .ok (.ireturn, 1) := by decide +kernel
set_option maxHeartbeats 4000000 in
set_option maxRecDepth 100000 in
theorem B_Md_quarrels0_0 {S : XS} {Q : Int32 → St → Prop} (σ : St) (x1 : Int32) (x2 : Int32) (H : CM S m_Md_isAlike [.ref 153, .int x1, .int x2, .int (0 : Int32)] (enc σ) (qI (fun v1 τ2 => ((¬ v1 = 0 → (vp_in x1 61) ∧ (vp_in x2 61) ∧ ((((gC τ2 16) x2.toNatClampNeg) < ((gC τ2 16) x1.toNatClampNeg) → ((¬ x2 = x1 → ((¬ ((gC τ2 16) x2.toNatClampNeg) = ((gC τ2 16) x1.toNatClampNeg) → ((¬ ((gC τ2 16) x1.toNatClampNeg) = (2 : Int32) → ((((gC τ2 17) x2.toNatClampNeg) ≤ ((gC τ2 17) x1.toNatClampNeg) → Q (0 : Int32) τ2) ∧ (¬ ((gC τ2 17) x2.toNatClampNeg) ≤ ((gC τ2 17) x1.toNatClampNeg) → Q (4 : Int32) τ2))) ∧ (((gC τ2 16) x1.toNatClampNeg) = (2 : Int32) → ((¬ ((gC τ2 16) x2.toNatClampNeg) = 0 → ((((gC τ2 17) x1.toNatClampNeg) ≤ ((gC τ2 17) x2.toNatClampNeg) → BW S m_Md_quarrels0 187 [none, none, none, none, none] [] (enc τ2) (qI Q)) ∧ (¬ ((gC τ2 17) x1.toNatClampNeg) ≤ ((gC τ2 17) x2.toNatClampNeg) → BW S m_Md_quarrels0 183 [none, none, none, none, none] [] (enc τ2) (qI Q)))) ∧ (((gC τ2 16) x2.toNatClampNeg) = 0 → ((((gC τ2 17) x2.toNatClampNeg) ≤ ((gC τ2 17) x1.toNatClampNeg) → BW S m_Md_quarrels0 187 [none, none, none, none, none] [] (enc τ2) (qI Q)) ∧ (¬ ((gC τ2 17) x2.toNatClampNeg) ≤ ((gC τ2 17) x1.toNatClampNeg) → BW S m_Md_quarrels0 183 [none, none, none, none, none] [] (enc τ2) (qI Q)))))))) ∧ (((gC τ2 16) x2.toNatClampNeg) = ((gC τ2 16) x1.toNatClampNeg) → (((2 : Int32) ≤ ((gC τ2 16) x2.toNatClampNeg) → ((¬ ((gC τ2 17) x2.toNatClampNeg) = ((gC τ2 17) x1.toNatClampNeg) → BW S m_Md_quarrels0 126 [none, none, none, none, none] [] (enc τ2) (qI Q)) ∧ (((gC τ2 17) x2.toNatClampNeg) = ((gC τ2 17) x1.toNatClampNeg) → CM S m_Md_isAlike [.ref 153, .int x2, .int x1, .int (1 : Int32)] (enc τ2) (qI (fun v10 τ11 => ((¬ v10 = 0 → BW S m_Md_quarrels0 126 [none, none, none, none, none] [] (enc τ11) (qI Q)) ∧ (v10 = 0 → Q (2 : Int32) τ11))))))) ∧ (¬ (2 : Int32) ≤ ((gC τ2 16) x2.toNatClampNeg) → ((((gC τ2 17) x2.toNatClampNeg) = ((gC τ2 17) x1.toNatClampNeg) → Q (0 : Int32) τ2) ∧ (¬ ((gC τ2 17) x2.toNatClampNeg) = ((gC τ2 17) x1.toNatClampNeg) → Q (1 : Int32) τ2))))))) ∧ (x2 = x1 → ((¬ ((gC τ2 16) x2.toNatClampNeg) = ((gC τ2 16) x2.toNatClampNeg) → ((¬ ((gC τ2 16) x2.toNatClampNeg) = (2 : Int32) → ((((gC τ2 17) x2.toNatClampNeg) ≤ ((gC τ2 17) x2.toNatClampNeg) → Q (0 : Int32) τ2) ∧ (¬ ((gC τ2 17) x2.toNatClampNeg) ≤ ((gC τ2 17) x2.toNatClampNeg) → Q (4 : Int32) τ2))) ∧ (((gC τ2 16) x2.toNatClampNeg) = (2 : Int32) → ((¬ ((gC τ2 16) x2.toNatClampNeg) = 0 → ((((gC τ2 17) x2.toNatClampNeg) ≤ ((gC τ2 17) x2.toNatClampNeg) → BW S m_Md_quarrels0 187 [none, none, none, none, none] [] (enc τ2) (qI Q)) ∧ (¬ ((gC τ2 17) x2.toNatClampNeg) ≤ ((gC τ2 17) x2.toNatClampNeg) → BW S m_Md_quarrels0 183 [none, none, none, none, none] [] (enc τ2) (qI Q)))) ∧ (((gC τ2 16) x2.toNatClampNeg) = 0 → ((((gC τ2 17) x2.toNatClampNeg) ≤ ((gC τ2 17) x2.toNatClampNeg) → BW S m_Md_quarrels0 187 [none, none, none, none, none] [] (enc τ2) (qI Q)) ∧ (¬ ((gC τ2 17) x2.toNatClampNeg) ≤ ((gC τ2 17) x2.toNatClampNeg) → BW S m_Md_quarrels0 183 [none, none, none, none, none] [] (enc τ2) (qI Q)))))))) ∧ (((gC τ2 16) x2.toNatClampNeg) = ((gC τ2 16) x2.toNatClampNeg) → (((2 : Int32) ≤ ((gC τ2 16) x2.toNatClampNeg) → ((¬ ((gC τ2 17) x2.toNatClampNeg) = ((gC τ2 17) x2.toNatClampNeg) → BW S m_Md_quarrels0 126 [none, none, none, none, none] [] (enc τ2) (qI Q)) ∧ (((gC τ2 17) x2.toNatClampNeg) = ((gC τ2 17) x2.toNatClampNeg) → CM S m_Md_isAlike [.ref 153, .int x2, .int x2, .int (1 : Int32)] (enc τ2) (qI (fun v22 τ23 => ((¬ v22 = 0 → BW S m_Md_quarrels0 126 [none, none, none, none, none] [] (enc τ23) (qI Q)) ∧ (v22 = 0 → Q (2 : Int32) τ23))))))) ∧ (¬ (2 : Int32) ≤ ((gC τ2 16) x2.toNatClampNeg) → ((((gC τ2 17) x2.toNatClampNeg) = ((gC τ2 17) x2.toNatClampNeg) → Q (0 : Int32) τ2) ∧ (¬ ((gC τ2 17) x2.toNatClampNeg) = ((gC τ2 17) x2.toNatClampNeg) → Q (1 : Int32) τ2))))))))) ∧ (¬ ((gC τ2 16) x2.toNatClampNeg) < ((gC τ2 16) x1.toNatClampNeg) → ((¬ x1 = x1 → ((¬ ((gC τ2 16) x1.toNatClampNeg) = ((gC τ2 16) x1.toNatClampNeg) → ((¬ ((gC τ2 16) x1.toNatClampNeg) = (2 : Int32) → ((((gC τ2 17) x1.toNatClampNeg) ≤ ((gC τ2 17) x1.toNatClampNeg) → Q (0 : Int32) τ2) ∧ (¬ ((gC τ2 17) x1.toNatClampNeg) ≤ ((gC τ2 17) x1.toNatClampNeg) → Q (4 : Int32) τ2))) ∧ (((gC τ2 16) x1.toNatClampNeg) = (2 : Int32) → ((¬ ((gC τ2 16) x1.toNatClampNeg) = 0 → ((((gC τ2 17) x1.toNatClampNeg) ≤ ((gC τ2 17) x1.toNatClampNeg) → BW S m_Md_quarrels0 187 [none, none, none, none, none] [] (enc τ2) (qI Q)) ∧ (¬ ((gC τ2 17) x1.toNatClampNeg) ≤ ((gC τ2 17) x1.toNatClampNeg) → BW S m_Md_quarrels0 183 [none, none, none, none, none] [] (enc τ2) (qI Q)))) ∧ (((gC τ2 16) x1.toNatClampNeg) = 0 → ((((gC τ2 17) x1.toNatClampNeg) ≤ ((gC τ2 17) x1.toNatClampNeg) → BW S m_Md_quarrels0 187 [none, none, none, none, none] [] (enc τ2) (qI Q)) ∧ (¬ ((gC τ2 17) x1.toNatClampNeg) ≤ ((gC τ2 17) x1.toNatClampNeg) → BW S m_Md_quarrels0 183 [none, none, none, none, none] [] (enc τ2) (qI Q)))))))) ∧ (((gC τ2 16) x1.toNatClampNeg) = ((gC τ2 16) x1.toNatClampNeg) → (((2 : Int32) ≤ ((gC τ2 16) x1.toNatClampNeg) → ((¬ ((gC τ2 17) x1.toNatClampNeg) = ((gC τ2 17) x1.toNatClampNeg) → BW S m_Md_quarrels0 126 [none, none, none, none, none] [] (enc τ2) (qI Q)) ∧ (((gC τ2 17) x1.toNatClampNeg) = ((gC τ2 17) x1.toNatClampNeg) → CM S m_Md_isAlike [.ref 153, .int x1, .int x1, .int (1 : Int32)] (enc τ2) (qI (fun v35 τ36 => ((¬ v35 = 0 → BW S m_Md_quarrels0 126 [none, none, none, none, none] [] (enc τ36) (qI Q)) ∧ (v35 = 0 → Q (2 : Int32) τ36))))))) ∧ (¬ (2 : Int32) ≤ ((gC τ2 16) x1.toNatClampNeg) → ((((gC τ2 17) x1.toNatClampNeg) = ((gC τ2 17) x1.toNatClampNeg) → Q (0 : Int32) τ2) ∧ (¬ ((gC τ2 17) x1.toNatClampNeg) = ((gC τ2 17) x1.toNatClampNeg) → Q (1 : Int32) τ2))))))) ∧ (x1 = x1 → ((¬ ((gC τ2 16) x1.toNatClampNeg) = ((gC τ2 16) x2.toNatClampNeg) → ((¬ ((gC τ2 16) x2.toNatClampNeg) = (2 : Int32) → ((((gC τ2 17) x1.toNatClampNeg) ≤ ((gC τ2 17) x2.toNatClampNeg) → Q (0 : Int32) τ2) ∧ (¬ ((gC τ2 17) x1.toNatClampNeg) ≤ ((gC τ2 17) x2.toNatClampNeg) → Q (4 : Int32) τ2))) ∧ (((gC τ2 16) x2.toNatClampNeg) = (2 : Int32) → ((¬ ((gC τ2 16) x1.toNatClampNeg) = 0 → ((((gC τ2 17) x2.toNatClampNeg) ≤ ((gC τ2 17) x1.toNatClampNeg) → BW S m_Md_quarrels0 187 [none, none, none, none, none] [] (enc τ2) (qI Q)) ∧ (¬ ((gC τ2 17) x2.toNatClampNeg) ≤ ((gC τ2 17) x1.toNatClampNeg) → BW S m_Md_quarrels0 183 [none, none, none, none, none] [] (enc τ2) (qI Q)))) ∧ (((gC τ2 16) x1.toNatClampNeg) = 0 → ((((gC τ2 17) x1.toNatClampNeg) ≤ ((gC τ2 17) x2.toNatClampNeg) → BW S m_Md_quarrels0 187 [none, none, none, none, none] [] (enc τ2) (qI Q)) ∧ (¬ ((gC τ2 17) x1.toNatClampNeg) ≤ ((gC τ2 17) x2.toNatClampNeg) → BW S m_Md_quarrels0 183 [none, none, none, none, none] [] (enc τ2) (qI Q)))))))) ∧ (((gC τ2 16) x1.toNatClampNeg) = ((gC τ2 16) x2.toNatClampNeg) → (((2 : Int32) ≤ ((gC τ2 16) x1.toNatClampNeg) → ((¬ ((gC τ2 17) x1.toNatClampNeg) = ((gC τ2 17) x2.toNatClampNeg) → BW S m_Md_quarrels0 126 [none, none, none, none, none] [] (enc τ2) (qI Q)) ∧ (((gC τ2 17) x1.toNatClampNeg) = ((gC τ2 17) x2.toNatClampNeg) → CM S m_Md_isAlike [.ref 153, .int x1, .int x2, .int (1 : Int32)] (enc τ2) (qI (fun v47 τ48 => ((¬ v47 = 0 → BW S m_Md_quarrels0 126 [none, none, none, none, none] [] (enc τ48) (qI Q)) ∧ (v47 = 0 → Q (2 : Int32) τ48))))))) ∧ (¬ (2 : Int32) ≤ ((gC τ2 16) x1.toNatClampNeg) → ((((gC τ2 17) x1.toNatClampNeg) = ((gC τ2 17) x2.toNatClampNeg) → Q (0 : Int32) τ2) ∧ (¬ ((gC τ2 17) x1.toNatClampNeg) = ((gC τ2 17) x2.toNatClampNeg) → Q (1 : Int32) τ2))))))))))) ∧ (v1 = 0 → Q (0 : Int32) τ2))))) : BW S m_Md_quarrels0 0 [some (.ref 153), some (.int x1), some (.int x2), none, none] [] (enc σ) (qI Q) := by
  refine b_aload_n d_Md_quarrels0_0 rfl rfl ?_
  refine b_iload_n d_Md_quarrels0_1 rfl rfl ?_
  refine b_iload_n d_Md_quarrels0_2 rfl rfl ?_
  refine b_iconst (v := (0 : Int32)) d_Md_quarrels0_3 (by decide) ?_
  refine b_callVi (Mc := m_Md_isAlike) (As := [.int x1, .int x2, .int (0 : Int32)]) (st := []) d_Md_quarrels0_4 ⟨⟨kA_Md_isAlike.1, kA_Md_isAlike.2.1, kA_Md_isAlike.2.2, by decide⟩, ml_Md_262, kV_Md_isAlike⟩ (eg_153 σ) rfl rfl (Nat.le_of_ble_eq_true rfl) H (fun v1 τ2 H => ?_)
  refine b_if_ne (tgt := 12) d_Md_quarrels0_7 (by decide) (fun c56 => ?_) (fun c56 => ?_)
  · have H := H.1 c56
    refine b_aload_n d_Md_quarrels0_12 rfl rfl ?_
    refine b_getf (v := .ref 170) d_Md_quarrels0_13 fl_Md_96 (eg_153 τ2) rfl ?_
    refine b_iload_n d_Md_quarrels0_16 rfl rfl ?_
    obtain ⟨h3, H⟩ := H
    refine b_iald d_Md_quarrels0_17 (eg_170 τ2) h3 ?_
    refine b_st2 (st' := [.int ((gC τ2 16) x1.toNatClampNeg)]) rfl ?_
    refine b_aload_n d_Md_quarrels0_18 rfl rfl ?_
    refine b_getf (v := .ref 170) d_Md_quarrels0_19 fl_Md_96 (eg_153 τ2) rfl ?_
    refine b_iload_n d_Md_quarrels0_22 rfl rfl ?_
    obtain ⟨h4, H⟩ := H
    refine b_iald d_Md_quarrels0_23 (eg_170 τ2) h4 ?_
    refine b_st2 (st' := [.int ((gC τ2 16) x2.toNatClampNeg), .int ((gC τ2 16) x1.toNatClampNeg)]) rfl ?_
    refine b_icmp_gt (tgt := 31) d_Md_quarrels0_24 (by decide) (fun c55 => ?_) (fun c55 => ?_)
    · have H := H.1 c55
      refine b_iload_n d_Md_quarrels0_31 rfl rfl ?_
      refine b_istore_n (ls' := [some (.ref 153), some (.int x1), some (.int x2), some (.int x2), none]) d_Md_quarrels0_32 rfl (Nat.le_of_ble_eq_true rfl) rfl ?_
      refine b_iload_n d_Md_quarrels0_33 rfl rfl ?_
      refine b_iload_n d_Md_quarrels0_34 rfl rfl ?_
      refine b_icmp_ne (tgt := 42) d_Md_quarrels0_35 (by decide) (fun c29 => ?_) (fun c29 => ?_)
      · have H := H.1 c29
        refine b_iload_n d_Md_quarrels0_42 rfl rfl ?_
        refine b_istore (ls' := [some (.ref 153), some (.int x1), some (.int x2), some (.int x2), some (.int x1)]) d_Md_quarrels0_43 (Nat.le_of_ble_eq_true rfl) rfl ?_
        refine b_aload_n d_Md_quarrels0_45 rfl rfl ?_
        refine b_getf (v := .ref 170) d_Md_quarrels0_46 fl_Md_96 (eg_153 τ2) rfl ?_
        refine b_iload_n d_Md_quarrels0_49 rfl rfl ?_
        refine b_iald d_Md_quarrels0_50 (eg_170 τ2) h4 ?_
        refine b_st2 (st' := [.int ((gC τ2 16) x2.toNatClampNeg)]) rfl ?_
        refine b_aload_n d_Md_quarrels0_51 rfl rfl ?_
        refine b_getf (v := .ref 170) d_Md_quarrels0_52 fl_Md_96 (eg_153 τ2) rfl ?_
        refine b_iload d_Md_quarrels0_55 rfl ?_
        refine b_iald d_Md_quarrels0_57 (eg_170 τ2) h3 ?_
        refine b_st2 (st' := [.int ((gC τ2 16) x1.toNatClampNeg), .int ((gC τ2 16) x2.toNatClampNeg)]) rfl ?_
        refine b_icmp_ne (tgt := 128) d_Md_quarrels0_58 (by decide) (fun c16 => ?_) (fun c16 => ?_)
        · have H := H.1 c16
          refine b_aload_n d_Md_quarrels0_128 rfl rfl ?_
          refine b_getf (v := .ref 170) d_Md_quarrels0_129 fl_Md_96 (eg_153 τ2) rfl ?_
          refine b_iload d_Md_quarrels0_132 rfl ?_
          refine b_iald d_Md_quarrels0_134 (eg_170 τ2) h3 ?_
          refine b_st2 (st' := [.int ((gC τ2 16) x1.toNatClampNeg)]) rfl ?_
          refine b_iconst (v := (2 : Int32)) d_Md_quarrels0_135 (by decide) ?_
          refine b_icmp_ne (tgt := 189) d_Md_quarrels0_136 (by decide) (fun c9 => ?_) (fun c9 => ?_)
          · have H := H.1 c9
            refine b_aload_n d_Md_quarrels0_189 rfl rfl ?_
            refine b_getf (v := .ref 171) d_Md_quarrels0_190 fl_Md_99 (eg_153 τ2) rfl ?_
            refine b_iload d_Md_quarrels0_193 rfl ?_
            refine b_iald d_Md_quarrels0_195 (eg_171 τ2) h3 ?_
            refine b_st2 (st' := [.int ((gC τ2 17) x1.toNatClampNeg)]) rfl ?_
            refine b_aload_n d_Md_quarrels0_196 rfl rfl ?_
            refine b_getf (v := .ref 171) d_Md_quarrels0_197 fl_Md_99 (eg_153 τ2) rfl ?_
            refine b_iload_n d_Md_quarrels0_200 rfl rfl ?_
            refine b_iald d_Md_quarrels0_201 (eg_171 τ2) h4 ?_
            refine b_st2 (st' := [.int ((gC τ2 17) x2.toNatClampNeg), .int ((gC τ2 17) x1.toNatClampNeg)]) rfl ?_
            refine b_icmp_ge (tgt := 209) d_Md_quarrels0_202 (by decide) (fun c5 => ?_) (fun c5 => ?_)
            · have H := H.1 c5
              refine b_iconst (v := (0 : Int32)) d_Md_quarrels0_209 (by decide) ?_
              exact b_iret (ty := .int) d_Md_quarrels0_210 rfl rfl ⟨_, _, rfl, rfl, H⟩
            · have H := H.2 c5
              refine b_iconst (v := (4 : Int32)) d_Md_quarrels0_205 (by decide) ?_
              refine b_goto (tgt := 210) d_Md_quarrels0_206 (by decide) ?_
              exact b_iret (ty := .int) d_Md_quarrels0_210 rfl rfl ⟨_, _, rfl, rfl, H⟩
          · have H := H.2 c9
            refine b_aload_n d_Md_quarrels0_139 rfl rfl ?_
            refine b_getf (v := .ref 170) d_Md_quarrels0_140 fl_Md_96 (eg_153 τ2) rfl ?_
            refine b_iload_n d_Md_quarrels0_143 rfl rfl ?_
            refine b_iald d_Md_quarrels0_144 (eg_170 τ2) h4 ?_
            refine b_st2 (st' := [.int ((gC τ2 16) x2.toNatClampNeg)]) rfl ?_
            refine b_if_ne (tgt := 167) d_Md_quarrels0_145 (by decide) (fun c8 => ?_) (fun c8 => ?_)
            · have H := H.1 c8
              refine b_aload_n d_Md_quarrels0_167 rfl rfl ?_
              refine b_getf (v := .ref 171) d_Md_quarrels0_168 fl_Md_99 (eg_153 τ2) rfl ?_
              refine b_iload d_Md_quarrels0_171 rfl ?_
              refine b_iald d_Md_quarrels0_173 (eg_171 τ2) h3 ?_
              refine b_st2 (st' := [.int ((gC τ2 17) x1.toNatClampNeg)]) rfl ?_
              refine b_aload_n d_Md_quarrels0_174 rfl rfl ?_
              refine b_getf (v := .ref 171) d_Md_quarrels0_175 fl_Md_99 (eg_153 τ2) rfl ?_
              refine b_iload_n d_Md_quarrels0_178 rfl rfl ?_
              refine b_iald d_Md_quarrels0_179 (eg_171 τ2) h4 ?_
              refine b_st2 (st' := [.int ((gC τ2 17) x2.toNatClampNeg), .int ((gC τ2 17) x1.toNatClampNeg)]) rfl ?_
              refine b_icmp_le (tgt := 187) d_Md_quarrels0_180 (by decide) (fun c6 => ?_) (fun c6 => ?_)
              · have H := H.1 c6
                exact b_mask [false, false, false, false, false] rfl H
              · have H := H.2 c6
                exact b_mask [false, false, false, false, false] rfl H
            · have H := H.2 c8
              refine b_aload_n d_Md_quarrels0_148 rfl rfl ?_
              refine b_getf (v := .ref 171) d_Md_quarrels0_149 fl_Md_99 (eg_153 τ2) rfl ?_
              refine b_iload d_Md_quarrels0_152 rfl ?_
              refine b_iald d_Md_quarrels0_154 (eg_171 τ2) h3 ?_
              refine b_st2 (st' := [.int ((gC τ2 17) x1.toNatClampNeg)]) rfl ?_
              refine b_aload_n d_Md_quarrels0_155 rfl rfl ?_
              refine b_getf (v := .ref 171) d_Md_quarrels0_156 fl_Md_99 (eg_153 τ2) rfl ?_
              refine b_iload_n d_Md_quarrels0_159 rfl rfl ?_
              refine b_iald d_Md_quarrels0_160 (eg_171 τ2) h4 ?_
              refine b_st2 (st' := [.int ((gC τ2 17) x2.toNatClampNeg), .int ((gC τ2 17) x1.toNatClampNeg)]) rfl ?_
              refine b_icmp_ge (tgt := 187) d_Md_quarrels0_161 (by decide) (fun c7 => ?_) (fun c7 => ?_)
              · have H := H.1 c7
                exact b_mask [false, false, false, false, false] rfl H
              · have H := H.2 c7
                refine b_goto (tgt := 183) d_Md_quarrels0_164 (by decide) ?_
                exact b_mask [false, false, false, false, false] rfl H
        · have H := H.2 c16
          refine b_aload_n d_Md_quarrels0_61 rfl rfl ?_
          refine b_getf (v := .ref 170) d_Md_quarrels0_62 fl_Md_96 (eg_153 τ2) rfl ?_
          refine b_iload_n d_Md_quarrels0_65 rfl rfl ?_
          refine b_iald d_Md_quarrels0_66 (eg_170 τ2) h4 ?_
          refine b_st2 (st' := [.int ((gC τ2 16) x2.toNatClampNeg)]) rfl ?_
          refine b_iconst (v := (2 : Int32)) d_Md_quarrels0_67 (by decide) ?_
          refine b_icmp_ge (tgt := 95) d_Md_quarrels0_68 (by decide) (fun c15 => ?_) (fun c15 => ?_)
          · have H := H.1 c15
            refine b_aload_n d_Md_quarrels0_95 rfl rfl ?_
            refine b_getf (v := .ref 171) d_Md_quarrels0_96 fl_Md_99 (eg_153 τ2) rfl ?_
            refine b_iload_n d_Md_quarrels0_99 rfl rfl ?_
            refine b_iald d_Md_quarrels0_100 (eg_171 τ2) h4 ?_
            refine b_st2 (st' := [.int ((gC τ2 17) x2.toNatClampNeg)]) rfl ?_
            refine b_aload_n d_Md_quarrels0_101 rfl rfl ?_
            refine b_getf (v := .ref 171) d_Md_quarrels0_102 fl_Md_99 (eg_153 τ2) rfl ?_
            refine b_iload d_Md_quarrels0_105 rfl ?_
            refine b_iald d_Md_quarrels0_107 (eg_171 τ2) h3 ?_
            refine b_st2 (st' := [.int ((gC τ2 17) x1.toNatClampNeg), .int ((gC τ2 17) x2.toNatClampNeg)]) rfl ?_
            refine b_icmp_ne (tgt := 126) d_Md_quarrels0_108 (by decide) (fun c13 => ?_) (fun c13 => ?_)
            · have H := H.1 c13
              exact b_mask [false, false, false, false, false] rfl H
            · have H := H.2 c13
              refine b_aload_n d_Md_quarrels0_111 rfl rfl ?_
              refine b_iload_n d_Md_quarrels0_112 rfl rfl ?_
              refine b_iload d_Md_quarrels0_113 rfl ?_
              refine b_iconst (v := (1 : Int32)) d_Md_quarrels0_115 (by decide) ?_
              refine b_callVi (Mc := m_Md_isAlike) (As := [.int x2, .int x1, .int (1 : Int32)]) (st := []) d_Md_quarrels0_116 ⟨⟨kA_Md_isAlike.1, kA_Md_isAlike.2.1, kA_Md_isAlike.2.2, by decide⟩, ml_Md_262, kV_Md_isAlike⟩ (eg_153 τ2) rfl rfl (Nat.le_of_ble_eq_true rfl) H (fun v10 τ11 H => ?_)
              refine b_if_ne (tgt := 126) d_Md_quarrels0_119 (by decide) (fun c12 => ?_) (fun c12 => ?_)
              · have H := H.1 c12
                exact b_mask [false, false, false, false, false] rfl H
              · have H := H.2 c12
                refine b_iconst (v := (2 : Int32)) d_Md_quarrels0_122 (by decide) ?_
                refine b_goto (tgt := 127) d_Md_quarrels0_123 (by decide) ?_
                exact b_iret (ty := .int) d_Md_quarrels0_127 rfl rfl ⟨_, _, rfl, rfl, H⟩
          · have H := H.2 c15
            refine b_aload_n d_Md_quarrels0_71 rfl rfl ?_
            refine b_getf (v := .ref 171) d_Md_quarrels0_72 fl_Md_99 (eg_153 τ2) rfl ?_
            refine b_iload_n d_Md_quarrels0_75 rfl rfl ?_
            refine b_iald d_Md_quarrels0_76 (eg_171 τ2) h4 ?_
            refine b_st2 (st' := [.int ((gC τ2 17) x2.toNatClampNeg)]) rfl ?_
            refine b_aload_n d_Md_quarrels0_77 rfl rfl ?_
            refine b_getf (v := .ref 171) d_Md_quarrels0_78 fl_Md_99 (eg_153 τ2) rfl ?_
            refine b_iload d_Md_quarrels0_81 rfl ?_
            refine b_iald d_Md_quarrels0_83 (eg_171 τ2) h3 ?_
            refine b_st2 (st' := [.int ((gC τ2 17) x1.toNatClampNeg), .int ((gC τ2 17) x2.toNatClampNeg)]) rfl ?_
            refine b_icmp_eq (tgt := 91) d_Md_quarrels0_84 (by decide) (fun c14 => ?_) (fun c14 => ?_)
            · have H := H.1 c14
              refine b_iconst (v := (0 : Int32)) d_Md_quarrels0_91 (by decide) ?_
              refine b_goto (tgt := 127) d_Md_quarrels0_92 (by decide) ?_
              exact b_iret (ty := .int) d_Md_quarrels0_127 rfl rfl ⟨_, _, rfl, rfl, H⟩
            · have H := H.2 c14
              refine b_iconst (v := (1 : Int32)) d_Md_quarrels0_87 (by decide) ?_
              refine b_goto (tgt := 127) d_Md_quarrels0_88 (by decide) ?_
              exact b_iret (ty := .int) d_Md_quarrels0_127 rfl rfl ⟨_, _, rfl, rfl, H⟩
      · have H := H.2 c29
        refine b_iload_n d_Md_quarrels0_38 rfl rfl ?_
        refine b_goto (tgt := 43) d_Md_quarrels0_39 (by decide) ?_
        refine b_istore (ls' := [some (.ref 153), some (.int x1), some (.int x2), some (.int x2), some (.int x2)]) d_Md_quarrels0_43 (Nat.le_of_ble_eq_true rfl) rfl ?_
        refine b_aload_n d_Md_quarrels0_45 rfl rfl ?_
        refine b_getf (v := .ref 170) d_Md_quarrels0_46 fl_Md_96 (eg_153 τ2) rfl ?_
        refine b_iload_n d_Md_quarrels0_49 rfl rfl ?_
        refine b_iald d_Md_quarrels0_50 (eg_170 τ2) h4 ?_
        refine b_st2 (st' := [.int ((gC τ2 16) x2.toNatClampNeg)]) rfl ?_
        refine b_aload_n d_Md_quarrels0_51 rfl rfl ?_
        refine b_getf (v := .ref 170) d_Md_quarrels0_52 fl_Md_96 (eg_153 τ2) rfl ?_
        refine b_iload d_Md_quarrels0_55 rfl ?_
        refine b_iald d_Md_quarrels0_57 (eg_170 τ2) h4 ?_
        refine b_st2 (st' := [.int ((gC τ2 16) x2.toNatClampNeg), .int ((gC τ2 16) x2.toNatClampNeg)]) rfl ?_
        refine b_icmp_ne (tgt := 128) d_Md_quarrels0_58 (by decide) (fun c28 => ?_) (fun c28 => ?_)
        · have H := H.1 c28
          refine b_aload_n d_Md_quarrels0_128 rfl rfl ?_
          refine b_getf (v := .ref 170) d_Md_quarrels0_129 fl_Md_96 (eg_153 τ2) rfl ?_
          refine b_iload d_Md_quarrels0_132 rfl ?_
          refine b_iald d_Md_quarrels0_134 (eg_170 τ2) h4 ?_
          refine b_st2 (st' := [.int ((gC τ2 16) x2.toNatClampNeg)]) rfl ?_
          refine b_iconst (v := (2 : Int32)) d_Md_quarrels0_135 (by decide) ?_
          refine b_icmp_ne (tgt := 189) d_Md_quarrels0_136 (by decide) (fun c21 => ?_) (fun c21 => ?_)
          · have H := H.1 c21
            refine b_aload_n d_Md_quarrels0_189 rfl rfl ?_
            refine b_getf (v := .ref 171) d_Md_quarrels0_190 fl_Md_99 (eg_153 τ2) rfl ?_
            refine b_iload d_Md_quarrels0_193 rfl ?_
            refine b_iald d_Md_quarrels0_195 (eg_171 τ2) h4 ?_
            refine b_st2 (st' := [.int ((gC τ2 17) x2.toNatClampNeg)]) rfl ?_
            refine b_aload_n d_Md_quarrels0_196 rfl rfl ?_
            refine b_getf (v := .ref 171) d_Md_quarrels0_197 fl_Md_99 (eg_153 τ2) rfl ?_
            refine b_iload_n d_Md_quarrels0_200 rfl rfl ?_
            refine b_iald d_Md_quarrels0_201 (eg_171 τ2) h4 ?_
            refine b_st2 (st' := [.int ((gC τ2 17) x2.toNatClampNeg), .int ((gC τ2 17) x2.toNatClampNeg)]) rfl ?_
            refine b_icmp_ge (tgt := 209) d_Md_quarrels0_202 (by decide) (fun c17 => ?_) (fun c17 => ?_)
            · have H := H.1 c17
              refine b_iconst (v := (0 : Int32)) d_Md_quarrels0_209 (by decide) ?_
              exact b_iret (ty := .int) d_Md_quarrels0_210 rfl rfl ⟨_, _, rfl, rfl, H⟩
            · have H := H.2 c17
              refine b_iconst (v := (4 : Int32)) d_Md_quarrels0_205 (by decide) ?_
              refine b_goto (tgt := 210) d_Md_quarrels0_206 (by decide) ?_
              exact b_iret (ty := .int) d_Md_quarrels0_210 rfl rfl ⟨_, _, rfl, rfl, H⟩
          · have H := H.2 c21
            refine b_aload_n d_Md_quarrels0_139 rfl rfl ?_
            refine b_getf (v := .ref 170) d_Md_quarrels0_140 fl_Md_96 (eg_153 τ2) rfl ?_
            refine b_iload_n d_Md_quarrels0_143 rfl rfl ?_
            refine b_iald d_Md_quarrels0_144 (eg_170 τ2) h4 ?_
            refine b_st2 (st' := [.int ((gC τ2 16) x2.toNatClampNeg)]) rfl ?_
            refine b_if_ne (tgt := 167) d_Md_quarrels0_145 (by decide) (fun c20 => ?_) (fun c20 => ?_)
            · have H := H.1 c20
              refine b_aload_n d_Md_quarrels0_167 rfl rfl ?_
              refine b_getf (v := .ref 171) d_Md_quarrels0_168 fl_Md_99 (eg_153 τ2) rfl ?_
              refine b_iload d_Md_quarrels0_171 rfl ?_
              refine b_iald d_Md_quarrels0_173 (eg_171 τ2) h4 ?_
              refine b_st2 (st' := [.int ((gC τ2 17) x2.toNatClampNeg)]) rfl ?_
              refine b_aload_n d_Md_quarrels0_174 rfl rfl ?_
              refine b_getf (v := .ref 171) d_Md_quarrels0_175 fl_Md_99 (eg_153 τ2) rfl ?_
              refine b_iload_n d_Md_quarrels0_178 rfl rfl ?_
              refine b_iald d_Md_quarrels0_179 (eg_171 τ2) h4 ?_
              refine b_st2 (st' := [.int ((gC τ2 17) x2.toNatClampNeg), .int ((gC τ2 17) x2.toNatClampNeg)]) rfl ?_
              refine b_icmp_le (tgt := 187) d_Md_quarrels0_180 (by decide) (fun c18 => ?_) (fun c18 => ?_)
              · have H := H.1 c18
                exact b_mask [false, false, false, false, false] rfl H
              · have H := H.2 c18
                exact b_mask [false, false, false, false, false] rfl H
            · have H := H.2 c20
              refine b_aload_n d_Md_quarrels0_148 rfl rfl ?_
              refine b_getf (v := .ref 171) d_Md_quarrels0_149 fl_Md_99 (eg_153 τ2) rfl ?_
              refine b_iload d_Md_quarrels0_152 rfl ?_
              refine b_iald d_Md_quarrels0_154 (eg_171 τ2) h4 ?_
              refine b_st2 (st' := [.int ((gC τ2 17) x2.toNatClampNeg)]) rfl ?_
              refine b_aload_n d_Md_quarrels0_155 rfl rfl ?_
              refine b_getf (v := .ref 171) d_Md_quarrels0_156 fl_Md_99 (eg_153 τ2) rfl ?_
              refine b_iload_n d_Md_quarrels0_159 rfl rfl ?_
              refine b_iald d_Md_quarrels0_160 (eg_171 τ2) h4 ?_
              refine b_st2 (st' := [.int ((gC τ2 17) x2.toNatClampNeg), .int ((gC τ2 17) x2.toNatClampNeg)]) rfl ?_
              refine b_icmp_ge (tgt := 187) d_Md_quarrels0_161 (by decide) (fun c19 => ?_) (fun c19 => ?_)
              · have H := H.1 c19
                exact b_mask [false, false, false, false, false] rfl H
              · have H := H.2 c19
                refine b_goto (tgt := 183) d_Md_quarrels0_164 (by decide) ?_
                exact b_mask [false, false, false, false, false] rfl H
        · have H := H.2 c28
          refine b_aload_n d_Md_quarrels0_61 rfl rfl ?_
          refine b_getf (v := .ref 170) d_Md_quarrels0_62 fl_Md_96 (eg_153 τ2) rfl ?_
          refine b_iload_n d_Md_quarrels0_65 rfl rfl ?_
          refine b_iald d_Md_quarrels0_66 (eg_170 τ2) h4 ?_
          refine b_st2 (st' := [.int ((gC τ2 16) x2.toNatClampNeg)]) rfl ?_
          refine b_iconst (v := (2 : Int32)) d_Md_quarrels0_67 (by decide) ?_
          refine b_icmp_ge (tgt := 95) d_Md_quarrels0_68 (by decide) (fun c27 => ?_) (fun c27 => ?_)
          · have H := H.1 c27
            refine b_aload_n d_Md_quarrels0_95 rfl rfl ?_
            refine b_getf (v := .ref 171) d_Md_quarrels0_96 fl_Md_99 (eg_153 τ2) rfl ?_
            refine b_iload_n d_Md_quarrels0_99 rfl rfl ?_
            refine b_iald d_Md_quarrels0_100 (eg_171 τ2) h4 ?_
            refine b_st2 (st' := [.int ((gC τ2 17) x2.toNatClampNeg)]) rfl ?_
            refine b_aload_n d_Md_quarrels0_101 rfl rfl ?_
            refine b_getf (v := .ref 171) d_Md_quarrels0_102 fl_Md_99 (eg_153 τ2) rfl ?_
            refine b_iload d_Md_quarrels0_105 rfl ?_
            refine b_iald d_Md_quarrels0_107 (eg_171 τ2) h4 ?_
            refine b_st2 (st' := [.int ((gC τ2 17) x2.toNatClampNeg), .int ((gC τ2 17) x2.toNatClampNeg)]) rfl ?_
            refine b_icmp_ne (tgt := 126) d_Md_quarrels0_108 (by decide) (fun c25 => ?_) (fun c25 => ?_)
            · have H := H.1 c25
              exact b_mask [false, false, false, false, false] rfl H
            · have H := H.2 c25
              refine b_aload_n d_Md_quarrels0_111 rfl rfl ?_
              refine b_iload_n d_Md_quarrels0_112 rfl rfl ?_
              refine b_iload d_Md_quarrels0_113 rfl ?_
              refine b_iconst (v := (1 : Int32)) d_Md_quarrels0_115 (by decide) ?_
              refine b_callVi (Mc := m_Md_isAlike) (As := [.int x2, .int x2, .int (1 : Int32)]) (st := []) d_Md_quarrels0_116 ⟨⟨kA_Md_isAlike.1, kA_Md_isAlike.2.1, kA_Md_isAlike.2.2, by decide⟩, ml_Md_262, kV_Md_isAlike⟩ (eg_153 τ2) rfl rfl (Nat.le_of_ble_eq_true rfl) H (fun v22 τ23 H => ?_)
              refine b_if_ne (tgt := 126) d_Md_quarrels0_119 (by decide) (fun c24 => ?_) (fun c24 => ?_)
              · have H := H.1 c24
                exact b_mask [false, false, false, false, false] rfl H
              · have H := H.2 c24
                refine b_iconst (v := (2 : Int32)) d_Md_quarrels0_122 (by decide) ?_
                refine b_goto (tgt := 127) d_Md_quarrels0_123 (by decide) ?_
                exact b_iret (ty := .int) d_Md_quarrels0_127 rfl rfl ⟨_, _, rfl, rfl, H⟩
          · have H := H.2 c27
            refine b_aload_n d_Md_quarrels0_71 rfl rfl ?_
            refine b_getf (v := .ref 171) d_Md_quarrels0_72 fl_Md_99 (eg_153 τ2) rfl ?_
            refine b_iload_n d_Md_quarrels0_75 rfl rfl ?_
            refine b_iald d_Md_quarrels0_76 (eg_171 τ2) h4 ?_
            refine b_st2 (st' := [.int ((gC τ2 17) x2.toNatClampNeg)]) rfl ?_
            refine b_aload_n d_Md_quarrels0_77 rfl rfl ?_
            refine b_getf (v := .ref 171) d_Md_quarrels0_78 fl_Md_99 (eg_153 τ2) rfl ?_
            refine b_iload d_Md_quarrels0_81 rfl ?_
            refine b_iald d_Md_quarrels0_83 (eg_171 τ2) h4 ?_
            refine b_st2 (st' := [.int ((gC τ2 17) x2.toNatClampNeg), .int ((gC τ2 17) x2.toNatClampNeg)]) rfl ?_
            refine b_icmp_eq (tgt := 91) d_Md_quarrels0_84 (by decide) (fun c26 => ?_) (fun c26 => ?_)
            · have H := H.1 c26
              refine b_iconst (v := (0 : Int32)) d_Md_quarrels0_91 (by decide) ?_
              refine b_goto (tgt := 127) d_Md_quarrels0_92 (by decide) ?_
              exact b_iret (ty := .int) d_Md_quarrels0_127 rfl rfl ⟨_, _, rfl, rfl, H⟩
            · have H := H.2 c26
              refine b_iconst (v := (1 : Int32)) d_Md_quarrels0_87 (by decide) ?_
              refine b_goto (tgt := 127) d_Md_quarrels0_88 (by decide) ?_
              exact b_iret (ty := .int) d_Md_quarrels0_127 rfl rfl ⟨_, _, rfl, rfl, H⟩
    · have H := H.2 c55
      refine b_iload_n d_Md_quarrels0_27 rfl rfl ?_
      refine b_goto (tgt := 32) d_Md_quarrels0_28 (by decide) ?_
      refine b_istore_n (ls' := [some (.ref 153), some (.int x1), some (.int x2), some (.int x1), none]) d_Md_quarrels0_32 rfl (Nat.le_of_ble_eq_true rfl) rfl ?_
      refine b_iload_n d_Md_quarrels0_33 rfl rfl ?_
      refine b_iload_n d_Md_quarrels0_34 rfl rfl ?_
      refine b_icmp_ne (tgt := 42) d_Md_quarrels0_35 (by decide) (fun c54 => ?_) (fun c54 => ?_)
      · have H := H.1 c54
        refine b_iload_n d_Md_quarrels0_42 rfl rfl ?_
        refine b_istore (ls' := [some (.ref 153), some (.int x1), some (.int x2), some (.int x1), some (.int x1)]) d_Md_quarrels0_43 (Nat.le_of_ble_eq_true rfl) rfl ?_
        refine b_aload_n d_Md_quarrels0_45 rfl rfl ?_
        refine b_getf (v := .ref 170) d_Md_quarrels0_46 fl_Md_96 (eg_153 τ2) rfl ?_
        refine b_iload_n d_Md_quarrels0_49 rfl rfl ?_
        refine b_iald d_Md_quarrels0_50 (eg_170 τ2) h3 ?_
        refine b_st2 (st' := [.int ((gC τ2 16) x1.toNatClampNeg)]) rfl ?_
        refine b_aload_n d_Md_quarrels0_51 rfl rfl ?_
        refine b_getf (v := .ref 170) d_Md_quarrels0_52 fl_Md_96 (eg_153 τ2) rfl ?_
        refine b_iload d_Md_quarrels0_55 rfl ?_
        refine b_iald d_Md_quarrels0_57 (eg_170 τ2) h3 ?_
        refine b_st2 (st' := [.int ((gC τ2 16) x1.toNatClampNeg), .int ((gC τ2 16) x1.toNatClampNeg)]) rfl ?_
        refine b_icmp_ne (tgt := 128) d_Md_quarrels0_58 (by decide) (fun c41 => ?_) (fun c41 => ?_)
        · have H := H.1 c41
          refine b_aload_n d_Md_quarrels0_128 rfl rfl ?_
          refine b_getf (v := .ref 170) d_Md_quarrels0_129 fl_Md_96 (eg_153 τ2) rfl ?_
          refine b_iload d_Md_quarrels0_132 rfl ?_
          refine b_iald d_Md_quarrels0_134 (eg_170 τ2) h3 ?_
          refine b_st2 (st' := [.int ((gC τ2 16) x1.toNatClampNeg)]) rfl ?_
          refine b_iconst (v := (2 : Int32)) d_Md_quarrels0_135 (by decide) ?_
          refine b_icmp_ne (tgt := 189) d_Md_quarrels0_136 (by decide) (fun c34 => ?_) (fun c34 => ?_)
          · have H := H.1 c34
            refine b_aload_n d_Md_quarrels0_189 rfl rfl ?_
            refine b_getf (v := .ref 171) d_Md_quarrels0_190 fl_Md_99 (eg_153 τ2) rfl ?_
            refine b_iload d_Md_quarrels0_193 rfl ?_
            refine b_iald d_Md_quarrels0_195 (eg_171 τ2) h3 ?_
            refine b_st2 (st' := [.int ((gC τ2 17) x1.toNatClampNeg)]) rfl ?_
            refine b_aload_n d_Md_quarrels0_196 rfl rfl ?_
            refine b_getf (v := .ref 171) d_Md_quarrels0_197 fl_Md_99 (eg_153 τ2) rfl ?_
            refine b_iload_n d_Md_quarrels0_200 rfl rfl ?_
            refine b_iald d_Md_quarrels0_201 (eg_171 τ2) h3 ?_
            refine b_st2 (st' := [.int ((gC τ2 17) x1.toNatClampNeg), .int ((gC τ2 17) x1.toNatClampNeg)]) rfl ?_
            refine b_icmp_ge (tgt := 209) d_Md_quarrels0_202 (by decide) (fun c30 => ?_) (fun c30 => ?_)
            · have H := H.1 c30
              refine b_iconst (v := (0 : Int32)) d_Md_quarrels0_209 (by decide) ?_
              exact b_iret (ty := .int) d_Md_quarrels0_210 rfl rfl ⟨_, _, rfl, rfl, H⟩
            · have H := H.2 c30
              refine b_iconst (v := (4 : Int32)) d_Md_quarrels0_205 (by decide) ?_
              refine b_goto (tgt := 210) d_Md_quarrels0_206 (by decide) ?_
              exact b_iret (ty := .int) d_Md_quarrels0_210 rfl rfl ⟨_, _, rfl, rfl, H⟩
          · have H := H.2 c34
            refine b_aload_n d_Md_quarrels0_139 rfl rfl ?_
            refine b_getf (v := .ref 170) d_Md_quarrels0_140 fl_Md_96 (eg_153 τ2) rfl ?_
            refine b_iload_n d_Md_quarrels0_143 rfl rfl ?_
            refine b_iald d_Md_quarrels0_144 (eg_170 τ2) h3 ?_
            refine b_st2 (st' := [.int ((gC τ2 16) x1.toNatClampNeg)]) rfl ?_
            refine b_if_ne (tgt := 167) d_Md_quarrels0_145 (by decide) (fun c33 => ?_) (fun c33 => ?_)
            · have H := H.1 c33
              refine b_aload_n d_Md_quarrels0_167 rfl rfl ?_
              refine b_getf (v := .ref 171) d_Md_quarrels0_168 fl_Md_99 (eg_153 τ2) rfl ?_
              refine b_iload d_Md_quarrels0_171 rfl ?_
              refine b_iald d_Md_quarrels0_173 (eg_171 τ2) h3 ?_
              refine b_st2 (st' := [.int ((gC τ2 17) x1.toNatClampNeg)]) rfl ?_
              refine b_aload_n d_Md_quarrels0_174 rfl rfl ?_
              refine b_getf (v := .ref 171) d_Md_quarrels0_175 fl_Md_99 (eg_153 τ2) rfl ?_
              refine b_iload_n d_Md_quarrels0_178 rfl rfl ?_
              refine b_iald d_Md_quarrels0_179 (eg_171 τ2) h3 ?_
              refine b_st2 (st' := [.int ((gC τ2 17) x1.toNatClampNeg), .int ((gC τ2 17) x1.toNatClampNeg)]) rfl ?_
              refine b_icmp_le (tgt := 187) d_Md_quarrels0_180 (by decide) (fun c31 => ?_) (fun c31 => ?_)
              · have H := H.1 c31
                exact b_mask [false, false, false, false, false] rfl H
              · have H := H.2 c31
                exact b_mask [false, false, false, false, false] rfl H
            · have H := H.2 c33
              refine b_aload_n d_Md_quarrels0_148 rfl rfl ?_
              refine b_getf (v := .ref 171) d_Md_quarrels0_149 fl_Md_99 (eg_153 τ2) rfl ?_
              refine b_iload d_Md_quarrels0_152 rfl ?_
              refine b_iald d_Md_quarrels0_154 (eg_171 τ2) h3 ?_
              refine b_st2 (st' := [.int ((gC τ2 17) x1.toNatClampNeg)]) rfl ?_
              refine b_aload_n d_Md_quarrels0_155 rfl rfl ?_
              refine b_getf (v := .ref 171) d_Md_quarrels0_156 fl_Md_99 (eg_153 τ2) rfl ?_
              refine b_iload_n d_Md_quarrels0_159 rfl rfl ?_
              refine b_iald d_Md_quarrels0_160 (eg_171 τ2) h3 ?_
              refine b_st2 (st' := [.int ((gC τ2 17) x1.toNatClampNeg), .int ((gC τ2 17) x1.toNatClampNeg)]) rfl ?_
              refine b_icmp_ge (tgt := 187) d_Md_quarrels0_161 (by decide) (fun c32 => ?_) (fun c32 => ?_)
              · have H := H.1 c32
                exact b_mask [false, false, false, false, false] rfl H
              · have H := H.2 c32
                refine b_goto (tgt := 183) d_Md_quarrels0_164 (by decide) ?_
                exact b_mask [false, false, false, false, false] rfl H
        · have H := H.2 c41
          refine b_aload_n d_Md_quarrels0_61 rfl rfl ?_
          refine b_getf (v := .ref 170) d_Md_quarrels0_62 fl_Md_96 (eg_153 τ2) rfl ?_
          refine b_iload_n d_Md_quarrels0_65 rfl rfl ?_
          refine b_iald d_Md_quarrels0_66 (eg_170 τ2) h3 ?_
          refine b_st2 (st' := [.int ((gC τ2 16) x1.toNatClampNeg)]) rfl ?_
          refine b_iconst (v := (2 : Int32)) d_Md_quarrels0_67 (by decide) ?_
          refine b_icmp_ge (tgt := 95) d_Md_quarrels0_68 (by decide) (fun c40 => ?_) (fun c40 => ?_)
          · have H := H.1 c40
            refine b_aload_n d_Md_quarrels0_95 rfl rfl ?_
            refine b_getf (v := .ref 171) d_Md_quarrels0_96 fl_Md_99 (eg_153 τ2) rfl ?_
            refine b_iload_n d_Md_quarrels0_99 rfl rfl ?_
            refine b_iald d_Md_quarrels0_100 (eg_171 τ2) h3 ?_
            refine b_st2 (st' := [.int ((gC τ2 17) x1.toNatClampNeg)]) rfl ?_
            refine b_aload_n d_Md_quarrels0_101 rfl rfl ?_
            refine b_getf (v := .ref 171) d_Md_quarrels0_102 fl_Md_99 (eg_153 τ2) rfl ?_
            refine b_iload d_Md_quarrels0_105 rfl ?_
            refine b_iald d_Md_quarrels0_107 (eg_171 τ2) h3 ?_
            refine b_st2 (st' := [.int ((gC τ2 17) x1.toNatClampNeg), .int ((gC τ2 17) x1.toNatClampNeg)]) rfl ?_
            refine b_icmp_ne (tgt := 126) d_Md_quarrels0_108 (by decide) (fun c38 => ?_) (fun c38 => ?_)
            · have H := H.1 c38
              exact b_mask [false, false, false, false, false] rfl H
            · have H := H.2 c38
              refine b_aload_n d_Md_quarrels0_111 rfl rfl ?_
              refine b_iload_n d_Md_quarrels0_112 rfl rfl ?_
              refine b_iload d_Md_quarrels0_113 rfl ?_
              refine b_iconst (v := (1 : Int32)) d_Md_quarrels0_115 (by decide) ?_
              refine b_callVi (Mc := m_Md_isAlike) (As := [.int x1, .int x1, .int (1 : Int32)]) (st := []) d_Md_quarrels0_116 ⟨⟨kA_Md_isAlike.1, kA_Md_isAlike.2.1, kA_Md_isAlike.2.2, by decide⟩, ml_Md_262, kV_Md_isAlike⟩ (eg_153 τ2) rfl rfl (Nat.le_of_ble_eq_true rfl) H (fun v35 τ36 H => ?_)
              refine b_if_ne (tgt := 126) d_Md_quarrels0_119 (by decide) (fun c37 => ?_) (fun c37 => ?_)
              · have H := H.1 c37
                exact b_mask [false, false, false, false, false] rfl H
              · have H := H.2 c37
                refine b_iconst (v := (2 : Int32)) d_Md_quarrels0_122 (by decide) ?_
                refine b_goto (tgt := 127) d_Md_quarrels0_123 (by decide) ?_
                exact b_iret (ty := .int) d_Md_quarrels0_127 rfl rfl ⟨_, _, rfl, rfl, H⟩
          · have H := H.2 c40
            refine b_aload_n d_Md_quarrels0_71 rfl rfl ?_
            refine b_getf (v := .ref 171) d_Md_quarrels0_72 fl_Md_99 (eg_153 τ2) rfl ?_
            refine b_iload_n d_Md_quarrels0_75 rfl rfl ?_
            refine b_iald d_Md_quarrels0_76 (eg_171 τ2) h3 ?_
            refine b_st2 (st' := [.int ((gC τ2 17) x1.toNatClampNeg)]) rfl ?_
            refine b_aload_n d_Md_quarrels0_77 rfl rfl ?_
            refine b_getf (v := .ref 171) d_Md_quarrels0_78 fl_Md_99 (eg_153 τ2) rfl ?_
            refine b_iload d_Md_quarrels0_81 rfl ?_
            refine b_iald d_Md_quarrels0_83 (eg_171 τ2) h3 ?_
            refine b_st2 (st' := [.int ((gC τ2 17) x1.toNatClampNeg), .int ((gC τ2 17) x1.toNatClampNeg)]) rfl ?_
            refine b_icmp_eq (tgt := 91) d_Md_quarrels0_84 (by decide) (fun c39 => ?_) (fun c39 => ?_)
            · have H := H.1 c39
              refine b_iconst (v := (0 : Int32)) d_Md_quarrels0_91 (by decide) ?_
              refine b_goto (tgt := 127) d_Md_quarrels0_92 (by decide) ?_
              exact b_iret (ty := .int) d_Md_quarrels0_127 rfl rfl ⟨_, _, rfl, rfl, H⟩
            · have H := H.2 c39
              refine b_iconst (v := (1 : Int32)) d_Md_quarrels0_87 (by decide) ?_
              refine b_goto (tgt := 127) d_Md_quarrels0_88 (by decide) ?_
              exact b_iret (ty := .int) d_Md_quarrels0_127 rfl rfl ⟨_, _, rfl, rfl, H⟩
      · have H := H.2 c54
        refine b_iload_n d_Md_quarrels0_38 rfl rfl ?_
        refine b_goto (tgt := 43) d_Md_quarrels0_39 (by decide) ?_
        refine b_istore (ls' := [some (.ref 153), some (.int x1), some (.int x2), some (.int x1), some (.int x2)]) d_Md_quarrels0_43 (Nat.le_of_ble_eq_true rfl) rfl ?_
        refine b_aload_n d_Md_quarrels0_45 rfl rfl ?_
        refine b_getf (v := .ref 170) d_Md_quarrels0_46 fl_Md_96 (eg_153 τ2) rfl ?_
        refine b_iload_n d_Md_quarrels0_49 rfl rfl ?_
        refine b_iald d_Md_quarrels0_50 (eg_170 τ2) h3 ?_
        refine b_st2 (st' := [.int ((gC τ2 16) x1.toNatClampNeg)]) rfl ?_
        refine b_aload_n d_Md_quarrels0_51 rfl rfl ?_
        refine b_getf (v := .ref 170) d_Md_quarrels0_52 fl_Md_96 (eg_153 τ2) rfl ?_
        refine b_iload d_Md_quarrels0_55 rfl ?_
        refine b_iald d_Md_quarrels0_57 (eg_170 τ2) h4 ?_
        refine b_st2 (st' := [.int ((gC τ2 16) x2.toNatClampNeg), .int ((gC τ2 16) x1.toNatClampNeg)]) rfl ?_
        refine b_icmp_ne (tgt := 128) d_Md_quarrels0_58 (by decide) (fun c53 => ?_) (fun c53 => ?_)
        · have H := H.1 c53
          refine b_aload_n d_Md_quarrels0_128 rfl rfl ?_
          refine b_getf (v := .ref 170) d_Md_quarrels0_129 fl_Md_96 (eg_153 τ2) rfl ?_
          refine b_iload d_Md_quarrels0_132 rfl ?_
          refine b_iald d_Md_quarrels0_134 (eg_170 τ2) h4 ?_
          refine b_st2 (st' := [.int ((gC τ2 16) x2.toNatClampNeg)]) rfl ?_
          refine b_iconst (v := (2 : Int32)) d_Md_quarrels0_135 (by decide) ?_
          refine b_icmp_ne (tgt := 189) d_Md_quarrels0_136 (by decide) (fun c46 => ?_) (fun c46 => ?_)
          · have H := H.1 c46
            refine b_aload_n d_Md_quarrels0_189 rfl rfl ?_
            refine b_getf (v := .ref 171) d_Md_quarrels0_190 fl_Md_99 (eg_153 τ2) rfl ?_
            refine b_iload d_Md_quarrels0_193 rfl ?_
            refine b_iald d_Md_quarrels0_195 (eg_171 τ2) h4 ?_
            refine b_st2 (st' := [.int ((gC τ2 17) x2.toNatClampNeg)]) rfl ?_
            refine b_aload_n d_Md_quarrels0_196 rfl rfl ?_
            refine b_getf (v := .ref 171) d_Md_quarrels0_197 fl_Md_99 (eg_153 τ2) rfl ?_
            refine b_iload_n d_Md_quarrels0_200 rfl rfl ?_
            refine b_iald d_Md_quarrels0_201 (eg_171 τ2) h3 ?_
            refine b_st2 (st' := [.int ((gC τ2 17) x1.toNatClampNeg), .int ((gC τ2 17) x2.toNatClampNeg)]) rfl ?_
            refine b_icmp_ge (tgt := 209) d_Md_quarrels0_202 (by decide) (fun c42 => ?_) (fun c42 => ?_)
            · have H := H.1 c42
              refine b_iconst (v := (0 : Int32)) d_Md_quarrels0_209 (by decide) ?_
              exact b_iret (ty := .int) d_Md_quarrels0_210 rfl rfl ⟨_, _, rfl, rfl, H⟩
            · have H := H.2 c42
              refine b_iconst (v := (4 : Int32)) d_Md_quarrels0_205 (by decide) ?_
              refine b_goto (tgt := 210) d_Md_quarrels0_206 (by decide) ?_
              exact b_iret (ty := .int) d_Md_quarrels0_210 rfl rfl ⟨_, _, rfl, rfl, H⟩
          · have H := H.2 c46
            refine b_aload_n d_Md_quarrels0_139 rfl rfl ?_
            refine b_getf (v := .ref 170) d_Md_quarrels0_140 fl_Md_96 (eg_153 τ2) rfl ?_
            refine b_iload_n d_Md_quarrels0_143 rfl rfl ?_
            refine b_iald d_Md_quarrels0_144 (eg_170 τ2) h3 ?_
            refine b_st2 (st' := [.int ((gC τ2 16) x1.toNatClampNeg)]) rfl ?_
            refine b_if_ne (tgt := 167) d_Md_quarrels0_145 (by decide) (fun c45 => ?_) (fun c45 => ?_)
            · have H := H.1 c45
              refine b_aload_n d_Md_quarrels0_167 rfl rfl ?_
              refine b_getf (v := .ref 171) d_Md_quarrels0_168 fl_Md_99 (eg_153 τ2) rfl ?_
              refine b_iload d_Md_quarrels0_171 rfl ?_
              refine b_iald d_Md_quarrels0_173 (eg_171 τ2) h4 ?_
              refine b_st2 (st' := [.int ((gC τ2 17) x2.toNatClampNeg)]) rfl ?_
              refine b_aload_n d_Md_quarrels0_174 rfl rfl ?_
              refine b_getf (v := .ref 171) d_Md_quarrels0_175 fl_Md_99 (eg_153 τ2) rfl ?_
              refine b_iload_n d_Md_quarrels0_178 rfl rfl ?_
              refine b_iald d_Md_quarrels0_179 (eg_171 τ2) h3 ?_
              refine b_st2 (st' := [.int ((gC τ2 17) x1.toNatClampNeg), .int ((gC τ2 17) x2.toNatClampNeg)]) rfl ?_
              refine b_icmp_le (tgt := 187) d_Md_quarrels0_180 (by decide) (fun c43 => ?_) (fun c43 => ?_)
              · have H := H.1 c43
                exact b_mask [false, false, false, false, false] rfl H
              · have H := H.2 c43
                exact b_mask [false, false, false, false, false] rfl H
            · have H := H.2 c45
              refine b_aload_n d_Md_quarrels0_148 rfl rfl ?_
              refine b_getf (v := .ref 171) d_Md_quarrels0_149 fl_Md_99 (eg_153 τ2) rfl ?_
              refine b_iload d_Md_quarrels0_152 rfl ?_
              refine b_iald d_Md_quarrels0_154 (eg_171 τ2) h4 ?_
              refine b_st2 (st' := [.int ((gC τ2 17) x2.toNatClampNeg)]) rfl ?_
              refine b_aload_n d_Md_quarrels0_155 rfl rfl ?_
              refine b_getf (v := .ref 171) d_Md_quarrels0_156 fl_Md_99 (eg_153 τ2) rfl ?_
              refine b_iload_n d_Md_quarrels0_159 rfl rfl ?_
              refine b_iald d_Md_quarrels0_160 (eg_171 τ2) h3 ?_
              refine b_st2 (st' := [.int ((gC τ2 17) x1.toNatClampNeg), .int ((gC τ2 17) x2.toNatClampNeg)]) rfl ?_
              refine b_icmp_ge (tgt := 187) d_Md_quarrels0_161 (by decide) (fun c44 => ?_) (fun c44 => ?_)
              · have H := H.1 c44
                exact b_mask [false, false, false, false, false] rfl H
              · have H := H.2 c44
                refine b_goto (tgt := 183) d_Md_quarrels0_164 (by decide) ?_
                exact b_mask [false, false, false, false, false] rfl H
        · have H := H.2 c53
          refine b_aload_n d_Md_quarrels0_61 rfl rfl ?_
          refine b_getf (v := .ref 170) d_Md_quarrels0_62 fl_Md_96 (eg_153 τ2) rfl ?_
          refine b_iload_n d_Md_quarrels0_65 rfl rfl ?_
          refine b_iald d_Md_quarrels0_66 (eg_170 τ2) h3 ?_
          refine b_st2 (st' := [.int ((gC τ2 16) x1.toNatClampNeg)]) rfl ?_
          refine b_iconst (v := (2 : Int32)) d_Md_quarrels0_67 (by decide) ?_
          refine b_icmp_ge (tgt := 95) d_Md_quarrels0_68 (by decide) (fun c52 => ?_) (fun c52 => ?_)
          · have H := H.1 c52
            refine b_aload_n d_Md_quarrels0_95 rfl rfl ?_
            refine b_getf (v := .ref 171) d_Md_quarrels0_96 fl_Md_99 (eg_153 τ2) rfl ?_
            refine b_iload_n d_Md_quarrels0_99 rfl rfl ?_
            refine b_iald d_Md_quarrels0_100 (eg_171 τ2) h3 ?_
            refine b_st2 (st' := [.int ((gC τ2 17) x1.toNatClampNeg)]) rfl ?_
            refine b_aload_n d_Md_quarrels0_101 rfl rfl ?_
            refine b_getf (v := .ref 171) d_Md_quarrels0_102 fl_Md_99 (eg_153 τ2) rfl ?_
            refine b_iload d_Md_quarrels0_105 rfl ?_
            refine b_iald d_Md_quarrels0_107 (eg_171 τ2) h4 ?_
            refine b_st2 (st' := [.int ((gC τ2 17) x2.toNatClampNeg), .int ((gC τ2 17) x1.toNatClampNeg)]) rfl ?_
            refine b_icmp_ne (tgt := 126) d_Md_quarrels0_108 (by decide) (fun c50 => ?_) (fun c50 => ?_)
            · have H := H.1 c50
              exact b_mask [false, false, false, false, false] rfl H
            · have H := H.2 c50
              refine b_aload_n d_Md_quarrels0_111 rfl rfl ?_
              refine b_iload_n d_Md_quarrels0_112 rfl rfl ?_
              refine b_iload d_Md_quarrels0_113 rfl ?_
              refine b_iconst (v := (1 : Int32)) d_Md_quarrels0_115 (by decide) ?_
              refine b_callVi (Mc := m_Md_isAlike) (As := [.int x1, .int x2, .int (1 : Int32)]) (st := []) d_Md_quarrels0_116 ⟨⟨kA_Md_isAlike.1, kA_Md_isAlike.2.1, kA_Md_isAlike.2.2, by decide⟩, ml_Md_262, kV_Md_isAlike⟩ (eg_153 τ2) rfl rfl (Nat.le_of_ble_eq_true rfl) H (fun v47 τ48 H => ?_)
              refine b_if_ne (tgt := 126) d_Md_quarrels0_119 (by decide) (fun c49 => ?_) (fun c49 => ?_)
              · have H := H.1 c49
                exact b_mask [false, false, false, false, false] rfl H
              · have H := H.2 c49
                refine b_iconst (v := (2 : Int32)) d_Md_quarrels0_122 (by decide) ?_
                refine b_goto (tgt := 127) d_Md_quarrels0_123 (by decide) ?_
                exact b_iret (ty := .int) d_Md_quarrels0_127 rfl rfl ⟨_, _, rfl, rfl, H⟩
          · have H := H.2 c52
            refine b_aload_n d_Md_quarrels0_71 rfl rfl ?_
            refine b_getf (v := .ref 171) d_Md_quarrels0_72 fl_Md_99 (eg_153 τ2) rfl ?_
            refine b_iload_n d_Md_quarrels0_75 rfl rfl ?_
            refine b_iald d_Md_quarrels0_76 (eg_171 τ2) h3 ?_
            refine b_st2 (st' := [.int ((gC τ2 17) x1.toNatClampNeg)]) rfl ?_
            refine b_aload_n d_Md_quarrels0_77 rfl rfl ?_
            refine b_getf (v := .ref 171) d_Md_quarrels0_78 fl_Md_99 (eg_153 τ2) rfl ?_
            refine b_iload d_Md_quarrels0_81 rfl ?_
            refine b_iald d_Md_quarrels0_83 (eg_171 τ2) h4 ?_
            refine b_st2 (st' := [.int ((gC τ2 17) x2.toNatClampNeg), .int ((gC τ2 17) x1.toNatClampNeg)]) rfl ?_
            refine b_icmp_eq (tgt := 91) d_Md_quarrels0_84 (by decide) (fun c51 => ?_) (fun c51 => ?_)
            · have H := H.1 c51
              refine b_iconst (v := (0 : Int32)) d_Md_quarrels0_91 (by decide) ?_
              refine b_goto (tgt := 127) d_Md_quarrels0_92 (by decide) ?_
              exact b_iret (ty := .int) d_Md_quarrels0_127 rfl rfl ⟨_, _, rfl, rfl, H⟩
            · have H := H.2 c51
              refine b_iconst (v := (1 : Int32)) d_Md_quarrels0_87 (by decide) ?_
              refine b_goto (tgt := 127) d_Md_quarrels0_88 (by decide) ?_
              exact b_iret (ty := .int) d_Md_quarrels0_127 rfl rfl ⟨_, _, rfl, rfl, H⟩
  · have H := H.2 c56
    refine b_iconst (v := (0 : Int32)) d_Md_quarrels0_10 (by decide) ?_
    exact b_iret (ty := .int) d_Md_quarrels0_11 rfl rfl ⟨_, _, rfl, rfl, H⟩
set_option maxHeartbeats 4000000 in
set_option maxRecDepth 100000 in
theorem B_Md_quarrels0_187 {S : XS} {Q : Int32 → St → Prop} (σ : St)  (H : Q (0 : Int32) σ) : BW S m_Md_quarrels0 187 [none, none, none, none, none] [] (enc σ) (qI Q) := by
  refine b_iconst (v := (0 : Int32)) d_Md_quarrels0_187 (by decide) ?_
  exact b_iret (ty := .int) d_Md_quarrels0_188 rfl rfl ⟨_, _, rfl, rfl, H⟩
set_option maxHeartbeats 4000000 in
set_option maxRecDepth 100000 in
theorem B_Md_quarrels0_183 {S : XS} {Q : Int32 → St → Prop} (σ : St)  (H : Q (3 : Int32) σ) : BW S m_Md_quarrels0 183 [none, none, none, none, none] [] (enc σ) (qI Q) := by
  refine b_iconst (v := (3 : Int32)) d_Md_quarrels0_183 (by decide) ?_
  refine b_goto (tgt := 188) d_Md_quarrels0_184 (by decide) ?_
  exact b_iret (ty := .int) d_Md_quarrels0_188 rfl rfl ⟨_, _, rfl, rfl, H⟩
set_option maxHeartbeats 4000000 in
set_option maxRecDepth 100000 in
theorem B_Md_quarrels0_126 {S : XS} {Q : Int32 → St → Prop} (σ : St)  (H : Q (0 : Int32) σ) : BW S m_Md_quarrels0 126 [none, none, none, none, none] [] (enc σ) (qI Q) := by
  refine b_iconst (v := (0 : Int32)) d_Md_quarrels0_126 (by decide) ?_
  exact b_iret (ty := .int) d_Md_quarrels0_127 rfl rfl ⟨_, _, rfl, rfl, H⟩
theorem C_Md_quarrels0 {S : XS} {Q : Int32 → St → Prop} (σ : St) (x1 : Int32) (x2 : Int32) (H : BW S m_Md_quarrels0 0 [some (.ref 153), some (.int x1), some (.int x2), none, none] [] (enc σ) (qI Q)) : CM S m_Md_quarrels0 [.ref 153, .int x1, .int x2] (enc σ) (qI Q) := b_meth (by decide) (Nat.le_of_ble_eq_true rfl) rfl H
theorem d_Md_quarrel_0 : decode m_Md_quarrel.2.1 0 = .ok (.iload_n 1, 1) := by decide +kernel
theorem d_Md_quarrel_1 : decode m_Md_quarrel.2.1 1 = .ok (.ifCond .lt 28, 3) := by decide +kernel
theorem d_Md_quarrel_4 : decode m_Md_quarrel.2.1 4 = .ok (.iload_n 1, 1) := by decide +kernel
theorem d_Md_quarrel_5 : decode m_Md_quarrel.2.1 5 = .ok (.aload_n 0, 1) := by decide +kernel
theorem d_Md_quarrel_6 : decode m_Md_quarrel.2.1 6 = .ok (.getfield 87, 3) := by decide +kernel
theorem d_Md_quarrel_9 : decode m_Md_quarrel.2.1 9 = .ok (.if_icmp .ge 20, 3) := by decide +kernel
theorem d_Md_quarrel_12 : decode m_Md_quarrel.2.1 12 = .ok (.iload_n 2, 1) := by decide +kernel
theorem d_Md_quarrel_13 : decode m_Md_quarrel.2.1 13 = .ok (.ifCond .lt 16, 3) := by decide +kernel
theorem d_Md_quarrel_16 : decode m_Md_quarrel.2.1 16 = .ok (.iload_n 2, 1) := by decide +kernel
theorem d_Md_quarrel_17 : decode m_Md_quarrel.2.1 17 = .ok (.aload_n 0, 1) := by decide +kernel
theorem d_Md_quarrel_18 : decode m_Md_quarrel.2.1 18 = .ok (.getfield 87, 3) := by decide +kernel
theorem d_Md_quarrel_21 : decode m_Md_quarrel.2.1 21 = .ok (.if_icmp .ge 8, 3) := by decide +kernel
theorem d_Md_quarrel_24 : decode m_Md_quarrel.2.1 24 = .ok (.iload_n 1, 1) := by decide +kernel
theorem d_Md_quarrel_25 : decode m_Md_quarrel.2.1 25 = .ok (.iload_n 2, 1) := by decide +kernel
theorem d_Md_quarrel_26 : decode m_Md_quarrel.2.1 26 = .ok (.if_icmp .ne 7, 3) := by decide +kernel
theorem d_Md_quarrel_29 : decode m_Md_quarrel.2.1 29 = .ok (.iconst (-1), 1) := by decide +kernel
theorem d_Md_quarrel_30 : decode m_Md_quarrel.2.1 30 = .ok (.goto 9, 3) := by decide +kernel
theorem d_Md_quarrel_33 : decode m_Md_quarrel.2.1 33 = .ok (.aload_n 0, 1) := by decide +kernel
theorem d_Md_quarrel_34 : decode m_Md_quarrel.2.1 34 = .ok (.iload_n 1, 1) := by decide +kernel
theorem d_Md_quarrel_35 : decode m_Md_quarrel.2.1 35 = .ok (.iload_n 2, 1) := by decide +kernel
theorem d_Md_quarrel_36 : decode m_Md_quarrel.2.1 36 = .ok (.invokevirtual 265, 3) := by decide +kernel
theorem d_Md_quarrel_39 : decode m_Md_quarrel.2.1 39 = .ok (.ireturn, 1) := by decide +kernel
set_option maxHeartbeats 4000000 in
set_option maxRecDepth 100000 in
theorem B_Md_quarrel_0 {S : XS} {Q : Int32 → St → Prop} (σ : St) (x1 : Int32) (x2 : Int32) (H : ((x1 < 0 → Q (-1 : Int32) σ) ∧ (¬ x1 < 0 → (((gY σ 11) ≤ x1 → Q (-1 : Int32) σ) ∧ (¬ (gY σ 11) ≤ x1 → ((x2 < 0 → Q (-1 : Int32) σ) ∧ (¬ x2 < 0 → (((gY σ 11) ≤ x2 → Q (-1 : Int32) σ) ∧ (¬ (gY σ 11) ≤ x2 → ((¬ x1 = x2 → CM S m_Md_quarrels0 [.ref 153, .int x1, .int x2] (enc σ) (qI (fun v1 τ2 => Q v1 τ2))) ∧ (x1 = x2 → Q (-1 : Int32) σ))))))))))) : BW S m_Md_quarrel 0 [some (.ref 153), some (.int x1), some (.int x2)] [] (enc σ) (qI Q) := by
  refine b_iload_n d_Md_quarrel_0 rfl rfl ?_
  refine b_if_lt (tgt := 29) d_Md_quarrel_1 (by decide) (fun c7 => ?_) (fun c7 => ?_)
  · have H := H.1 c7
    refine b_iconst (v := (-1 : Int32)) d_Md_quarrel_29 (by decide) ?_
    refine b_goto (tgt := 39) d_Md_quarrel_30 (by decide) ?_
    exact b_iret (ty := .int) d_Md_quarrel_39 rfl rfl ⟨_, _, rfl, rfl, H⟩
  · have H := H.2 c7
    refine b_iload_n d_Md_quarrel_4 rfl rfl ?_
    refine b_aload_n d_Md_quarrel_5 rfl rfl ?_
    refine b_getf (v := .int (gY σ 11)) d_Md_quarrel_6 fl_Md_87 (eg_153 σ) rfl ?_
    refine b_icmp_ge (tgt := 29) d_Md_quarrel_9 (by decide) (fun c6 => ?_) (fun c6 => ?_)
    · have H := H.1 c6
      refine b_iconst (v := (-1 : Int32)) d_Md_quarrel_29 (by decide) ?_
      refine b_goto (tgt := 39) d_Md_quarrel_30 (by decide) ?_
      exact b_iret (ty := .int) d_Md_quarrel_39 rfl rfl ⟨_, _, rfl, rfl, H⟩
    · have H := H.2 c6
      refine b_iload_n d_Md_quarrel_12 rfl rfl ?_
      refine b_if_lt (tgt := 29) d_Md_quarrel_13 (by decide) (fun c5 => ?_) (fun c5 => ?_)
      · have H := H.1 c5
        refine b_iconst (v := (-1 : Int32)) d_Md_quarrel_29 (by decide) ?_
        refine b_goto (tgt := 39) d_Md_quarrel_30 (by decide) ?_
        exact b_iret (ty := .int) d_Md_quarrel_39 rfl rfl ⟨_, _, rfl, rfl, H⟩
      · have H := H.2 c5
        refine b_iload_n d_Md_quarrel_16 rfl rfl ?_
        refine b_aload_n d_Md_quarrel_17 rfl rfl ?_
        refine b_getf (v := .int (gY σ 11)) d_Md_quarrel_18 fl_Md_87 (eg_153 σ) rfl ?_
        refine b_icmp_ge (tgt := 29) d_Md_quarrel_21 (by decide) (fun c4 => ?_) (fun c4 => ?_)
        · have H := H.1 c4
          refine b_iconst (v := (-1 : Int32)) d_Md_quarrel_29 (by decide) ?_
          refine b_goto (tgt := 39) d_Md_quarrel_30 (by decide) ?_
          exact b_iret (ty := .int) d_Md_quarrel_39 rfl rfl ⟨_, _, rfl, rfl, H⟩
        · have H := H.2 c4
          refine b_iload_n d_Md_quarrel_24 rfl rfl ?_
          refine b_iload_n d_Md_quarrel_25 rfl rfl ?_
          refine b_icmp_ne (tgt := 33) d_Md_quarrel_26 (by decide) (fun c3 => ?_) (fun c3 => ?_)
          · have H := H.1 c3
            refine b_aload_n d_Md_quarrel_33 rfl rfl ?_
            refine b_iload_n d_Md_quarrel_34 rfl rfl ?_
            refine b_iload_n d_Md_quarrel_35 rfl rfl ?_
            refine b_callVi (Mc := m_Md_quarrels0) (As := [.int x1, .int x2]) (st := []) d_Md_quarrel_36 ⟨⟨kA_Md_quarrels0.1, kA_Md_quarrels0.2.1, kA_Md_quarrels0.2.2, by decide⟩, ml_Md_265, kV_Md_quarrels0⟩ (eg_153 σ) rfl rfl (Nat.le_of_ble_eq_true rfl) H (fun v1 τ2 H => ?_)
            exact b_iret (ty := .int) d_Md_quarrel_39 rfl rfl ⟨_, _, rfl, rfl, H⟩
          · have H := H.2 c3
            refine b_iconst (v := (-1 : Int32)) d_Md_quarrel_29 (by decide) ?_
            refine b_goto (tgt := 39) d_Md_quarrel_30 (by decide) ?_
            exact b_iret (ty := .int) d_Md_quarrel_39 rfl rfl ⟨_, _, rfl, rfl, H⟩
theorem C_Md_quarrel {S : XS} {Q : Int32 → St → Prop} (σ : St) (x1 : Int32) (x2 : Int32) (H : BW S m_Md_quarrel 0 [some (.ref 153), some (.int x1), some (.int x2)] [] (enc σ) (qI Q)) : CM S m_Md_quarrel [.ref 153, .int x1, .int x2] (enc σ) (qI Q) := b_meth (by decide) (Nat.le_of_ble_eq_true rfl) rfl H
theorem d_Md_stands2_0 : decode m_Md_stands2.2.1 0 = .ok (.iload_n 2, 1) := by decide +kernel
theorem d_Md_stands2_1 : decode m_Md_stands2.2.1 1 = .ok (.aload_n 0, 1) := by decide +kernel
theorem d_Md_stands2_2 : decode m_Md_stands2.2.1 2 = .ok (.getfield 111, 3) := by decide +kernel
theorem d_Md_stands2_5 : decode m_Md_stands2.2.1 5 = .ok (.aload_n 0, 1) := by decide +kernel
theorem d_Md_stands2_6 : decode m_Md_stands2.2.1 6 = .ok (.getfield 102, 3) := by decide +kernel
theorem d_Md_stands2_9 : decode m_Md_stands2.2.1 9 = .ok (.iload_n 1, 1) := by decide +kernel
theorem d_Md_stands2_10 : decode m_Md_stands2.2.1 10 = .ok (.iaload, 1) := by decide +kernel
theorem d_Md_stands2_11 : decode m_Md_stands2.2.1 11 = .ok (.iaload, 1) := by decide +kernel
theorem d_Md_stands2_12 : decode m_Md_stands2.2.1 12 = .ok (.if_icmp .ge 7, 3) := by decide +kernel
theorem d_Md_stands2_15 : decode m_Md_stands2.2.1 15 = .ok (.iload_n 2, 1) := by decide +kernel
theorem d_Md_stands2_16 : decode m_Md_stands2.2.1 16 = .ok (.goto 14, 3) := by decide +kernel
theorem d_Md_stands2_19 : decode m_Md_stands2.2.1 19 = .ok (.aload_n 0, 1) := by decide +kernel
theorem d_Md_stands2_20 : decode m_Md_stands2.2.1 20 = .ok (.getfield 111, 3) := by decide +kernel
theorem d_Md_stands2_23 : decode m_Md_stands2.2.1 23 = .ok (.aload_n 0, 1) := by decide +kernel
theorem d_Md_stands2_24 : decode m_Md_stands2.2.1 24 = .ok (.getfield 102, 3) := by decide +kernel
theorem d_Md_stands2_27 : decode m_Md_stands2.2.1 27 = .ok (.iload_n 1, 1) := by decide +kernel
theorem d_Md_stands2_28 : decode m_Md_stands2.2.1 28 = .ok (.iaload, 1) := by decide +kernel
theorem d_Md_stands2_29 : decode m_Md_stands2.2.1 29 = .ok (.iaload, 1) := by decide +kernel
theorem d_Md_stands2_30 : decode m_Md_stands2.2.1 30 = .ok (.istore_n 3, 1) := by decide +kernel
theorem d_Md_stands2_31 : decode m_Md_stands2.2.1 31 = .ok (.aload_n 0, 1) := by decide +kernel
theorem d_Md_stands2_32 : decode m_Md_stands2.2.1 32 = .ok (.getfield 105, 3) := by decide +kernel
theorem d_Md_stands2_35 : decode m_Md_stands2.2.1 35 = .ok (.iload_n 1, 1) := by decide +kernel
theorem d_Md_stands2_36 : decode m_Md_stands2.2.1 36 = .ok (.iaload, 1) := by decide +kernel
theorem d_Md_stands2_37 : decode m_Md_stands2.2.1 37 = .ok (.iload_n 3, 1) := by decide +kernel
theorem d_Md_stands2_38 : decode m_Md_stands2.2.1 38 = .ok (.if_icmp .gt 27, 3) := by decide +kernel
theorem d_Md_stands2_41 : decode m_Md_stands2.2.1 41 = .ok (.aload_n 0, 1) := by decide +kernel
theorem d_Md_stands2_42 : decode m_Md_stands2.2.1 42 = .ok (.getfield 108, 3) := by decide +kernel
theorem d_Md_stands2_45 : decode m_Md_stands2.2.1 45 = .ok (.iload_n 1, 1) := by decide +kernel
theorem d_Md_stands2_46 : decode m_Md_stands2.2.1 46 = .ok (.iaload, 1) := by decide +kernel
theorem d_Md_stands2_47 : decode m_Md_stands2.2.1 47 = .ok (.iconst (-1), 1) := by decide +kernel
theorem d_Md_stands2_48 : decode m_Md_stands2.2.1 48 = .ok (.if_icmp .eq 13, 3) := by decide +kernel
theorem d_Md_stands2_51 : decode m_Md_stands2.2.1 51 = .ok (.aload_n 0, 1) := by decide +kernel
theorem d_Md_stands2_52 : decode m_Md_stands2.2.1 52 = .ok (.getfield 108, 3) := by decide +kernel
theorem d_Md_stands2_55 : decode m_Md_stands2.2.1 55 = .ok (.iload_n 1, 1) := by decide +kernel
theorem d_Md_stands2_56 : decode m_Md_stands2.2.1 56 = .ok (.iaload, 1) := by decide +kernel
theorem d_Md_stands2_57 : decode m_Md_stands2.2.1 57 = .ok (.iload_n 3, 1) := by decide +kernel
theorem d_Md_stands2_58 : decode m_Md_stands2.2.1 58 = .ok (.if_icmp .le 7, 3) := by decide +kernel
theorem d_Md_stands2_61 : decode m_Md_stands2.2.1 61 = .ok (.iconst 1, 1) := by decide +kernel
theorem d_Md_stands2_62 : decode m_Md_stands2.2.1 62 = .ok (.goto 4, 3) := by decide +kernel
theorem d_Md_stands2_65 : decode m_Md_stands2.2.1 65 = .ok (.iconst 0, 1) := by decide +kernel
theorem d_Md_stands2_66 : decode m_Md_stands2.2.1 66 = .ok (.ireturn, 1) := by decide +kernel
set_option maxHeartbeats 4000000 in
set_option maxRecDepth 100000 in
theorem B_Md_stands2_0 {S : XS} {Q : Int32 → St → Prop} (σ : St) (x1 : Int32) (x2 : Int32) (H : (vp_in x1 61) ∧ (vp_in ((gC σ 18) x1.toNatClampNeg) 24) ∧ ((((gC σ 21) ((gC σ 18) x1.toNatClampNeg).toNatClampNeg) ≤ x2 → ((((gC σ 21) ((gC σ 18) x1.toNatClampNeg).toNatClampNeg) < ((gC σ 19) x1.toNatClampNeg) → Q (0 : Int32) σ) ∧ (¬ ((gC σ 21) ((gC σ 18) x1.toNatClampNeg).toNatClampNeg) < ((gC σ 19) x1.toNatClampNeg) → ((((gC σ 20) x1.toNatClampNeg) = (-1 : Int32) → Q (1 : Int32) σ) ∧ (¬ ((gC σ 20) x1.toNatClampNeg) = (-1 : Int32) → ((((gC σ 20) x1.toNatClampNeg) ≤ ((gC σ 21) ((gC σ 18) x1.toNatClampNeg).toNatClampNeg) → Q (0 : Int32) σ) ∧ (¬ ((gC σ 20) x1.toNatClampNeg) ≤ ((gC σ 21) ((gC σ 18) x1.toNatClampNeg).toNatClampNeg) → Q (1 : Int32) σ))))))) ∧ (¬ ((gC σ 21) ((gC σ 18) x1.toNatClampNeg).toNatClampNeg) ≤ x2 → ((x2 < ((gC σ 19) x1.toNatClampNeg) → Q (0 : Int32) σ) ∧ (¬ x2 < ((gC σ 19) x1.toNatClampNeg) → ((((gC σ 20) x1.toNatClampNeg) = (-1 : Int32) → Q (1 : Int32) σ) ∧ (¬ ((gC σ 20) x1.toNatClampNeg) = (-1 : Int32) → ((((gC σ 20) x1.toNatClampNeg) ≤ x2 → Q (0 : Int32) σ) ∧ (¬ ((gC σ 20) x1.toNatClampNeg) ≤ x2 → Q (1 : Int32) σ))))))))) : BW S m_Md_stands2 0 [some (.ref 153), some (.int x1), some (.int x2), none] [] (enc σ) (qI Q) := by
  refine b_iload_n d_Md_stands2_0 rfl rfl ?_
  refine b_aload_n d_Md_stands2_1 rfl rfl ?_
  refine b_getf (v := .ref 175) d_Md_stands2_2 fl_Md_111 (eg_153 σ) rfl ?_
  refine b_aload_n d_Md_stands2_5 rfl rfl ?_
  refine b_getf (v := .ref 172) d_Md_stands2_6 fl_Md_102 (eg_153 σ) rfl ?_
  refine b_iload_n d_Md_stands2_9 rfl rfl ?_
  obtain ⟨h1, H⟩ := H
  refine b_iald d_Md_stands2_10 (eg_172 σ) h1 ?_
  refine b_st2 (st' := [.int ((gC σ 18) x1.toNatClampNeg), .ref 175, .int x2]) rfl ?_
  obtain ⟨h2, H⟩ := H
  refine b_iald d_Md_stands2_11 (eg_175 σ) h2 ?_
  refine b_st2 (st' := [.int ((gC σ 21) ((gC σ 18) x1.toNatClampNeg).toNatClampNeg), .int x2]) rfl ?_
  refine b_icmp_ge (tgt := 19) d_Md_stands2_12 (by decide) (fun c9 => ?_) (fun c9 => ?_)
  · have H := H.1 c9
    refine b_aload_n d_Md_stands2_19 rfl rfl ?_
    refine b_getf (v := .ref 175) d_Md_stands2_20 fl_Md_111 (eg_153 σ) rfl ?_
    refine b_aload_n d_Md_stands2_23 rfl rfl ?_
    refine b_getf (v := .ref 172) d_Md_stands2_24 fl_Md_102 (eg_153 σ) rfl ?_
    refine b_iload_n d_Md_stands2_27 rfl rfl ?_
    refine b_iald d_Md_stands2_28 (eg_172 σ) h1 ?_
    refine b_st2 (st' := [.int ((gC σ 18) x1.toNatClampNeg), .ref 175]) rfl ?_
    refine b_iald d_Md_stands2_29 (eg_175 σ) h2 ?_
    refine b_st2 (st' := [.int ((gC σ 21) ((gC σ 18) x1.toNatClampNeg).toNatClampNeg)]) rfl ?_
    refine b_istore_n (ls' := [some (.ref 153), some (.int x1), some (.int x2), some (.int ((gC σ 21) ((gC σ 18) x1.toNatClampNeg).toNatClampNeg))]) d_Md_stands2_30 rfl (Nat.le_of_ble_eq_true rfl) rfl ?_
    refine b_aload_n d_Md_stands2_31 rfl rfl ?_
    refine b_getf (v := .ref 173) d_Md_stands2_32 fl_Md_105 (eg_153 σ) rfl ?_
    refine b_iload_n d_Md_stands2_35 rfl rfl ?_
    refine b_iald d_Md_stands2_36 (eg_173 σ) h1 ?_
    refine b_st2 (st' := [.int ((gC σ 19) x1.toNatClampNeg)]) rfl ?_
    refine b_iload_n d_Md_stands2_37 rfl rfl ?_
    refine b_icmp_gt (tgt := 65) d_Md_stands2_38 (by decide) (fun c5 => ?_) (fun c5 => ?_)
    · have H := H.1 c5
      refine b_iconst (v := (0 : Int32)) d_Md_stands2_65 (by decide) ?_
      exact b_iret (ty := .boolean) d_Md_stands2_66 rfl rfl ⟨_, _, rfl, rfl, H⟩
    · have H := H.2 c5
      refine b_aload_n d_Md_stands2_41 rfl rfl ?_
      refine b_getf (v := .ref 174) d_Md_stands2_42 fl_Md_108 (eg_153 σ) rfl ?_
      refine b_iload_n d_Md_stands2_45 rfl rfl ?_
      refine b_iald d_Md_stands2_46 (eg_174 σ) h1 ?_
      refine b_st2 (st' := [.int ((gC σ 20) x1.toNatClampNeg)]) rfl ?_
      refine b_iconst (v := (-1 : Int32)) d_Md_stands2_47 (by decide) ?_
      refine b_icmp_eq (tgt := 61) d_Md_stands2_48 (by decide) (fun c4 => ?_) (fun c4 => ?_)
      · have H := H.1 c4
        refine b_iconst (v := (1 : Int32)) d_Md_stands2_61 (by decide) ?_
        refine b_goto (tgt := 66) d_Md_stands2_62 (by decide) ?_
        exact b_iret (ty := .boolean) d_Md_stands2_66 rfl rfl ⟨_, _, rfl, rfl, H⟩
      · have H := H.2 c4
        refine b_aload_n d_Md_stands2_51 rfl rfl ?_
        refine b_getf (v := .ref 174) d_Md_stands2_52 fl_Md_108 (eg_153 σ) rfl ?_
        refine b_iload_n d_Md_stands2_55 rfl rfl ?_
        refine b_iald d_Md_stands2_56 (eg_174 σ) h1 ?_
        refine b_st2 (st' := [.int ((gC σ 20) x1.toNatClampNeg)]) rfl ?_
        refine b_iload_n d_Md_stands2_57 rfl rfl ?_
        refine b_icmp_le (tgt := 65) d_Md_stands2_58 (by decide) (fun c3 => ?_) (fun c3 => ?_)
        · have H := H.1 c3
          refine b_iconst (v := (0 : Int32)) d_Md_stands2_65 (by decide) ?_
          exact b_iret (ty := .boolean) d_Md_stands2_66 rfl rfl ⟨_, _, rfl, rfl, H⟩
        · have H := H.2 c3
          refine b_iconst (v := (1 : Int32)) d_Md_stands2_61 (by decide) ?_
          refine b_goto (tgt := 66) d_Md_stands2_62 (by decide) ?_
          exact b_iret (ty := .boolean) d_Md_stands2_66 rfl rfl ⟨_, _, rfl, rfl, H⟩
  · have H := H.2 c9
    refine b_iload_n d_Md_stands2_15 rfl rfl ?_
    refine b_goto (tgt := 30) d_Md_stands2_16 (by decide) ?_
    refine b_istore_n (ls' := [some (.ref 153), some (.int x1), some (.int x2), some (.int x2)]) d_Md_stands2_30 rfl (Nat.le_of_ble_eq_true rfl) rfl ?_
    refine b_aload_n d_Md_stands2_31 rfl rfl ?_
    refine b_getf (v := .ref 173) d_Md_stands2_32 fl_Md_105 (eg_153 σ) rfl ?_
    refine b_iload_n d_Md_stands2_35 rfl rfl ?_
    refine b_iald d_Md_stands2_36 (eg_173 σ) h1 ?_
    refine b_st2 (st' := [.int ((gC σ 19) x1.toNatClampNeg)]) rfl ?_
    refine b_iload_n d_Md_stands2_37 rfl rfl ?_
    refine b_icmp_gt (tgt := 65) d_Md_stands2_38 (by decide) (fun c8 => ?_) (fun c8 => ?_)
    · have H := H.1 c8
      refine b_iconst (v := (0 : Int32)) d_Md_stands2_65 (by decide) ?_
      exact b_iret (ty := .boolean) d_Md_stands2_66 rfl rfl ⟨_, _, rfl, rfl, H⟩
    · have H := H.2 c8
      refine b_aload_n d_Md_stands2_41 rfl rfl ?_
      refine b_getf (v := .ref 174) d_Md_stands2_42 fl_Md_108 (eg_153 σ) rfl ?_
      refine b_iload_n d_Md_stands2_45 rfl rfl ?_
      refine b_iald d_Md_stands2_46 (eg_174 σ) h1 ?_
      refine b_st2 (st' := [.int ((gC σ 20) x1.toNatClampNeg)]) rfl ?_
      refine b_iconst (v := (-1 : Int32)) d_Md_stands2_47 (by decide) ?_
      refine b_icmp_eq (tgt := 61) d_Md_stands2_48 (by decide) (fun c7 => ?_) (fun c7 => ?_)
      · have H := H.1 c7
        refine b_iconst (v := (1 : Int32)) d_Md_stands2_61 (by decide) ?_
        refine b_goto (tgt := 66) d_Md_stands2_62 (by decide) ?_
        exact b_iret (ty := .boolean) d_Md_stands2_66 rfl rfl ⟨_, _, rfl, rfl, H⟩
      · have H := H.2 c7
        refine b_aload_n d_Md_stands2_51 rfl rfl ?_
        refine b_getf (v := .ref 174) d_Md_stands2_52 fl_Md_108 (eg_153 σ) rfl ?_
        refine b_iload_n d_Md_stands2_55 rfl rfl ?_
        refine b_iald d_Md_stands2_56 (eg_174 σ) h1 ?_
        refine b_st2 (st' := [.int ((gC σ 20) x1.toNatClampNeg)]) rfl ?_
        refine b_iload_n d_Md_stands2_57 rfl rfl ?_
        refine b_icmp_le (tgt := 65) d_Md_stands2_58 (by decide) (fun c6 => ?_) (fun c6 => ?_)
        · have H := H.1 c6
          refine b_iconst (v := (0 : Int32)) d_Md_stands2_65 (by decide) ?_
          exact b_iret (ty := .boolean) d_Md_stands2_66 rfl rfl ⟨_, _, rfl, rfl, H⟩
        · have H := H.2 c6
          refine b_iconst (v := (1 : Int32)) d_Md_stands2_61 (by decide) ?_
          refine b_goto (tgt := 66) d_Md_stands2_62 (by decide) ?_
          exact b_iret (ty := .boolean) d_Md_stands2_66 rfl rfl ⟨_, _, rfl, rfl, H⟩
theorem C_Md_stands2 {S : XS} {Q : Int32 → St → Prop} (σ : St) (x1 : Int32) (x2 : Int32) (H : BW S m_Md_stands2 0 [some (.ref 153), some (.int x1), some (.int x2), none] [] (enc σ) (qI Q)) : CM S m_Md_stands2 [.ref 153, .int x1, .int x2] (enc σ) (qI Q) := b_meth (by decide) (Nat.le_of_ble_eq_true rfl) rfl H
theorem d_Md_quarrels_0 : decode m_Md_quarrels.2.1 0 = .ok (.iload_n 1, 1) := by decide +kernel
theorem d_Md_quarrels_1 : decode m_Md_quarrels.2.1 1 = .ok (.iconst 0, 1) := by decide +kernel
theorem d_Md_quarrels_2 : decode m_Md_quarrels.2.1 2 = .ok (.iconst 3, 1) := by decide +kernel
theorem d_Md_quarrels_3 : decode m_Md_quarrels.2.1 3 = .ok (.invokestatic 174, 3) := by decide +kernel
theorem d_Md_quarrels_6 : decode m_Md_quarrels.2.1 6 = .ok (.ifCond .ne 5, 3) := by decide +kernel
theorem d_Md_quarrels_9 : decode m_Md_quarrels.2.1 9 = .ok (.iconst (-1), 1) := by decide +kernel
theorem d_Md_quarrels_10 : decode m_Md_quarrels.2.1 10 = .ok (.ireturn, 1) := by decide +kernel
theorem d_Md_quarrels_11 : decode m_Md_quarrels.2.1 11 = .ok (.aload_n 0, 1) := by decide +kernel
theorem d_Md_quarrels_12 : decode m_Md_quarrels.2.1 12 = .ok (.iconst 0, 1) := by decide +kernel
theorem d_Md_quarrels_13 : decode m_Md_quarrels.2.1 13 = .ok (.putfield 117, 3) := by decide +kernel
theorem d_Md_quarrels_16 : decode m_Md_quarrels.2.1 16 = .ok (.iconst 0, 1) := by decide +kernel
theorem d_Md_quarrels_17 : decode m_Md_quarrels.2.1 17 = .ok (.istore_n 2, 1) := by decide +kernel
theorem d_Md_quarrels_18 : decode m_Md_quarrels.2.1 18 = .ok (.iload_n 2, 1) := by decide +kernel
theorem d_Md_quarrels_19 : decode m_Md_quarrels.2.1 19 = .ok (.aload_n 0, 1) := by decide +kernel
theorem d_Md_quarrels_20 : decode m_Md_quarrels.2.1 20 = .ok (.getfield 87, 3) := by decide +kernel
theorem d_Md_quarrels_23 : decode m_Md_quarrels.2.1 23 = .ok (.if_icmp .ge 93, 3) := by decide +kernel
theorem d_Md_quarrels_26 : decode m_Md_quarrels.2.1 26 = .ok (.iload_n 2, 1) := by decide +kernel
theorem d_Md_quarrels_27 : decode m_Md_quarrels.2.1 27 = .ok (.iconst 1, 1) := by decide +kernel
theorem d_Md_quarrels_28 : decode m_Md_quarrels.2.1 28 = .ok (.iadd, 1) := by decide +kernel
theorem d_Md_quarrels_29 : decode m_Md_quarrels.2.1 29 = .ok (.istore_n 3, 1) := by decide +kernel
theorem d_Md_quarrels_30 : decode m_Md_quarrels.2.1 30 = .ok (.iload_n 3, 1) := by decide +kernel
theorem d_Md_quarrels_31 : decode m_Md_quarrels.2.1 31 = .ok (.aload_n 0, 1) := by decide +kernel
theorem d_Md_quarrels_32 : decode m_Md_quarrels.2.1 32 = .ok (.getfield 87, 3) := by decide +kernel
theorem d_Md_quarrels_35 : decode m_Md_quarrels.2.1 35 = .ok (.if_icmp .ge 75, 3) := by decide +kernel
theorem d_Md_quarrels_38 : decode m_Md_quarrels.2.1 38 = .ok (.aload_n 0, 1) := by decide +kernel
theorem d_Md_quarrels_39 : decode m_Md_quarrels.2.1 39 = .ok (.iload_n 2, 1) := by decide +kernel
theorem d_Md_quarrels_40 : decode m_Md_quarrels.2.1 40 = .ok (.iload_n 1, 1) := by decide +kernel
theorem d_Md_quarrels_41 : decode m_Md_quarrels.2.1 41 = .ok (.invokevirtual 269, 3) := by decide +kernel
theorem d_Md_quarrels_44 : decode m_Md_quarrels.2.1 44 = .ok (.ifCond .eq 60, 3) := by decide +kernel
theorem d_Md_quarrels_47 : decode m_Md_quarrels.2.1 47 = .ok (.aload_n 0, 1) := by decide +kernel
theorem d_Md_quarrels_48 : decode m_Md_quarrels.2.1 48 = .ok (.iload_n 3, 1) := by decide +kernel
theorem d_Md_quarrels_49 : decode m_Md_quarrels.2.1 49 = .ok (.iload_n 1, 1) := by decide +kernel
theorem d_Md_quarrels_50 : decode m_Md_quarrels.2.1 50 = .ok (.invokevirtual 269, 3) := by decide +kernel
theorem d_Md_quarrels_53 : decode m_Md_quarrels.2.1 53 = .ok (.ifCond .eq 51, 3) := by decide +kernel
theorem d_Md_quarrels_56 : decode m_Md_quarrels.2.1 56 = .ok (.aload_n 0, 1) := by decide +kernel
theorem d_Md_quarrels_57 : decode m_Md_quarrels.2.1 57 = .ok (.iload_n 2, 1) := by decide +kernel
theorem d_Md_quarrels_58 : decode m_Md_quarrels.2.1 58 = .ok (.iload_n 3, 1) := by decide +kernel
theorem d_Md_quarrels_59 : decode m_Md_quarrels.2.1 59 = .ok (.invokevirtual 265, 3) := by decide +kernel
theorem d_Md_quarrels_62 : decode m_Md_quarrels.2.1 62 = .ok (.ifCond .ne 6, 3) := by decide +kernel
theorem d_Md_quarrels_65 : decode m_Md_quarrels.2.1 65 = .ok (.goto 39, 3) := by decide +kernel
theorem d_Md_quarrels_68 : decode m_Md_quarrels.2.1 68 = .ok (.aload_n 0, 1) := by decide +kernel
theorem d_Md_quarrels_69 : decode m_Md_quarrels.2.1 69 = .ok (.getfield 114, 3) := by decide +kernel
theorem d_Md_quarrels_72 : decode m_Md_quarrels.2.1 72 = .ok (.iconst 2, 1) := by decide +kernel
theorem d_Md_quarrels_73 : decode m_Md_quarrels.2.1 73 = .ok (.aload_n 0, 1) := by decide +kernel
theorem d_Md_quarrels_74 : decode m_Md_quarrels.2.1 74 = .ok (.getfield 117, 3) := by decide +kernel
theorem d_Md_quarrels_77 : decode m_Md_quarrels.2.1 77 = .ok (.imul, 1) := by decide +kernel
theorem d_Md_quarrels_78 : decode m_Md_quarrels.2.1 78 = .ok (.iload_n 2, 1) := by decide +kernel
theorem d_Md_quarrels_79 : decode m_Md_quarrels.2.1 79 = .ok (.iastore, 1) := by decide +kernel
theorem d_Md_quarrels_80 : decode m_Md_quarrels.2.1 80 = .ok (.aload_n 0, 1) := by decide +kernel
theorem d_Md_quarrels_81 : decode m_Md_quarrels.2.1 81 = .ok (.getfield 114, 3) := by decide +kernel
theorem d_Md_quarrels_84 : decode m_Md_quarrels.2.1 84 = .ok (.iconst 2, 1) := by decide +kernel
theorem d_Md_quarrels_85 : decode m_Md_quarrels.2.1 85 = .ok (.aload_n 0, 1) := by decide +kernel
theorem d_Md_quarrels_86 : decode m_Md_quarrels.2.1 86 = .ok (.getfield 117, 3) := by decide +kernel
theorem d_Md_quarrels_89 : decode m_Md_quarrels.2.1 89 = .ok (.imul, 1) := by decide +kernel
theorem d_Md_quarrels_90 : decode m_Md_quarrels.2.1 90 = .ok (.iconst 1, 1) := by decide +kernel
theorem d_Md_quarrels_91 : decode m_Md_quarrels.2.1 91 = .ok (.iadd, 1) := by decide +kernel
theorem d_Md_quarrels_92 : decode m_Md_quarrels.2.1 92 = .ok (.iload_n 3, 1) := by decide +kernel
theorem d_Md_quarrels_93 : decode m_Md_quarrels.2.1 93 = .ok (.iastore, 1) := by decide +kernel
theorem d_Md_quarrels_94 : decode m_Md_quarrels.2.1 94 = .ok (.aload_n 0, 1) := by decide +kernel
theorem d_Md_quarrels_95 : decode m_Md_quarrels.2.1 95 = .ok (.dup, 1) := by decide +kernel
theorem d_Md_quarrels_96 : decode m_Md_quarrels.2.1 96 = .ok (.getfield 117, 3) := by decide +kernel
theorem d_Md_quarrels_99 : decode m_Md_quarrels.2.1 99 = .ok (.iconst 1, 1) := by decide +kernel
theorem d_Md_quarrels_100 : decode m_Md_quarrels.2.1 100 = .ok (.iadd, 1) := by decide +kernel
theorem d_Md_quarrels_101 : decode m_Md_quarrels.2.1 101 = .ok (.putfield 117, 3) := by decide +kernel
theorem d_Md_quarrels_104 : decode m_Md_quarrels.2.1 104 = .ok (.iinc 3 1, 3) := by decide +kernel
theorem d_Md_quarrels_107 : decode m_Md_quarrels.2.1 107 = .ok (.goto (-77), 3) := by decide +kernel
theorem d_Md_quarrels_110 : decode m_Md_quarrels.2.1 110 = .ok (.iinc 2 1, 3) := by decide +kernel
theorem d_Md_quarrels_113 : decode m_Md_quarrels.2.1 113 = .ok (.goto (-95), 3) := by decide +kernel
theorem d_Md_quarrels_116 : decode m_Md_quarrels.2.1 116 = .ok (.aload_n 0, 1) := by decide +kernel
theorem d_Md_quarrels_117 : decode m_Md_quarrels.2.1 117 = .ok (.getfield 117, 3) := by decide +kernel
theorem d_Md_quarrels_120 : decode m_Md_quarrels.2.1 120 = .ok (.ireturn, 1) := by decide +kernel
set_option maxHeartbeats 4000000 in
set_option maxRecDepth 100000 in
theorem B_Md_quarrels_0 {S : XS} {Q : Int32 → St → Prop} (σ : St) (x1 : Int32) (H : CM S m_Md_is [.int x1, .int (0 : Int32), .int (3 : Int32)] (enc σ) (qI (fun v1 τ2 => ((¬ v1 = 0 → BW S m_Md_quarrels 18 [some (.ref 153), some (.int x1), some (.int (0 : Int32)), none] [] (enc (sY τ2 12 (0 : Int32))) (qI Q)) ∧ (v1 = 0 → Q (-1 : Int32) τ2))))) : BW S m_Md_quarrels 0 [some (.ref 153), some (.int x1), none, none] [] (enc σ) (qI Q) := by
  refine b_iload_n d_Md_quarrels_0 rfl rfl ?_
  refine b_iconst (v := (0 : Int32)) d_Md_quarrels_1 (by decide) ?_
  refine b_iconst (v := (3 : Int32)) d_Md_quarrels_2 (by decide) ?_
  refine b_callSi (Mc := m_Md_is) (As := [.int x1, .int (0 : Int32), .int (3 : Int32)]) (st := []) d_Md_quarrels_3 ⟨⟨kA_Md_is.1, kA_Md_is.2.1, kA_Md_is.2.2, by decide⟩, ml_Md_174, kS_Md_is⟩ rfl rfl (Nat.le_of_ble_eq_true rfl) H (fun v1 τ2 H => ?_)
  refine b_if_ne (tgt := 11) d_Md_quarrels_6 (by decide) (fun c3 => ?_) (fun c3 => ?_)
  · have H := H.1 c3
    refine b_aload_n d_Md_quarrels_11 rfl rfl ?_
    refine b_iconst (v := (0 : Int32)) d_Md_quarrels_12 (by decide) ?_
    refine b_putf (ty := .int) (h1 := enc (sY τ2 12 (0 : Int32))) d_Md_quarrels_13 fl_Md_117 ft_12_35 (fun _ => ⟨rfl, rfl⟩) (eg_153 τ2) (Nat.le_of_ble_eq_true rfl) (es_153_35 τ2 (0 : Int32)) ?_
    refine b_iconst (v := (0 : Int32)) d_Md_quarrels_16 (by decide) ?_
    refine b_istore_n (ls' := [some (.ref 153), some (.int x1), some (.int (0 : Int32)), none]) d_Md_quarrels_17 rfl (Nat.le_of_ble_eq_true rfl) rfl ?_
    exact b_mask [true, true, true, true] rfl H
  · have H := H.2 c3
    refine b_iconst (v := (-1 : Int32)) d_Md_quarrels_9 (by decide) ?_
    exact b_iret (ty := .int) d_Md_quarrels_10 rfl rfl ⟨_, _, rfl, rfl, H⟩
set_option maxHeartbeats 4000000 in
set_option maxRecDepth 100000 in
theorem B_Md_quarrels_18 {S : XS} {Q : Int32 → St → Prop} (σ : St) (x1 : Int32) (x2 : Int32) (H : (((gY σ 11) ≤ x2 → Q (gY σ 12) σ) ∧ (¬ (gY σ 11) ≤ x2 → BW S m_Md_quarrels 30 [some (.ref 153), some (.int x1), some (.int x2), some (.int (x2 + (1 : Int32)))] [] (enc σ) (qI Q)))) : BW S m_Md_quarrels 18 [some (.ref 153), some (.int x1), some (.int x2), none] [] (enc σ) (qI Q) := by
  refine b_iload_n d_Md_quarrels_18 rfl rfl ?_
  refine b_aload_n d_Md_quarrels_19 rfl rfl ?_
  refine b_getf (v := .int (gY σ 11)) d_Md_quarrels_20 fl_Md_87 (eg_153 σ) rfl ?_
  refine b_icmp_ge (tgt := 116) d_Md_quarrels_23 (by decide) (fun c4 => ?_) (fun c4 => ?_)
  · have H := H.1 c4
    refine b_aload_n d_Md_quarrels_116 rfl rfl ?_
    refine b_getf (v := .int (gY σ 12)) d_Md_quarrels_117 fl_Md_117 (eg_153 σ) rfl ?_
    exact b_iret (ty := .int) d_Md_quarrels_120 rfl rfl ⟨_, _, rfl, rfl, H⟩
  · have H := H.2 c4
    refine b_iload_n d_Md_quarrels_26 rfl rfl ?_
    refine b_iconst (v := (1 : Int32)) d_Md_quarrels_27 (by decide) ?_
    refine b_iadd d_Md_quarrels_28  ?_
    refine b_istore_n (ls' := [some (.ref 153), some (.int x1), some (.int x2), some (.int (x2 + (1 : Int32)))]) d_Md_quarrels_29 rfl (Nat.le_of_ble_eq_true rfl) rfl ?_
    exact b_mask [true, true, true, true] rfl H
set_option maxHeartbeats 4000000 in
set_option maxRecDepth 100000 in
theorem B_Md_quarrels_30 {S : XS} {Q : Int32 → St → Prop} (σ : St) (x1 : Int32) (x2 : Int32) (x3 : Int32) (H : (((gY σ 11) ≤ x3 → BW S m_Md_quarrels 18 [some (.ref 153), some (.int x1), some (.int (x2 + (1 : Int32))), none] [] (enc σ) (qI Q)) ∧ (¬ (gY σ 11) ≤ x3 → CM S m_Md_stands2 [.ref 153, .int x2, .int x1] (enc σ) (qI (fun v5 τ6 => ((v5 = 0 → BW S m_Md_quarrels 30 [some (.ref 153), some (.int x1), some (.int x2), some (.int (x3 + (1 : Int32)))] [] (enc τ6) (qI Q)) ∧ (¬ v5 = 0 → CM S m_Md_stands2 [.ref 153, .int x3, .int x1] (enc τ6) (qI (fun v7 τ8 => ((v7 = 0 → BW S m_Md_quarrels 30 [some (.ref 153), some (.int x1), some (.int x2), some (.int (x3 + (1 : Int32)))] [] (enc τ8) (qI Q)) ∧ (¬ v7 = 0 → CM S m_Md_quarrels0 [.ref 153, .int x2, .int x3] (enc τ8) (qI (fun v9 τ10 => ((¬ v9 = 0 → (vp_in ((2 : Int32) * (gY τ10 12)) 3600) ∧ (vp_in (((2 : Int32) * (gY τ10 12)) + (1 : Int32)) 3600) ∧ BW S m_Md_quarrels 30 [some (.ref 153), some (.int x1), some (.int x2), some (.int (x3 + (1 : Int32)))] [] (enc (sY (sC (sC τ10 22 (upd (gC τ10 22) ((2 : Int32) * (gY τ10 12)).toNatClampNeg x2)) 22 (upd (upd (gC τ10 22) ((2 : Int32) * (gY τ10 12)).toNatClampNeg x2) (((2 : Int32) * (gY τ10 12)) + (1 : Int32)).toNatClampNeg x3)) 12 ((gY τ10 12) + (1 : Int32)))) (qI Q)) ∧ (v9 = 0 → BW S m_Md_quarrels 30 [some (.ref 153), some (.int x1), some (.int x2), some (.int (x3 + (1 : Int32)))] [] (enc τ10) (qI Q)))))))))))))))) : BW S m_Md_quarrels 30 [some (.ref 153), some (.int x1), some (.int x2), some (.int x3)] [] (enc σ) (qI Q) := by
  refine b_iload_n d_Md_quarrels_30 rfl rfl ?_
  refine b_aload_n d_Md_quarrels_31 rfl rfl ?_
  refine b_getf (v := .int (gY σ 11)) d_Md_quarrels_32 fl_Md_87 (eg_153 σ) rfl ?_
  refine b_icmp_ge (tgt := 110) d_Md_quarrels_35 (by decide) (fun c16 => ?_) (fun c16 => ?_)
  · have H := H.1 c16
    refine b_iinc (v := (x2 + (1 : Int32))) (ls' := [some (.ref 153), some (.int x1), some (.int (x2 + (1 : Int32))), some (.int x3)]) d_Md_quarrels_110 rfl rfl (Nat.le_of_ble_eq_true rfl) rfl ?_
    refine b_goto (tgt := 18) d_Md_quarrels_113 (by decide) ?_
    exact b_mask [true, true, true, false] rfl H
  · have H := H.2 c16
    refine b_aload_n d_Md_quarrels_38 rfl rfl ?_
    refine b_iload_n d_Md_quarrels_39 rfl rfl ?_
    refine b_iload_n d_Md_quarrels_40 rfl rfl ?_
    refine b_callVi (Mc := m_Md_stands2) (As := [.int x2, .int x1]) (st := []) d_Md_quarrels_41 ⟨⟨kA_Md_stands2.1, kA_Md_stands2.2.1, kA_Md_stands2.2.2, by decide⟩, ml_Md_269, kV_Md_stands2⟩ (eg_153 σ) rfl rfl (Nat.le_of_ble_eq_true rfl) H (fun v5 τ6 H => ?_)
    refine b_if_eq (tgt := 104) d_Md_quarrels_44 (by decide) (fun c15 => ?_) (fun c15 => ?_)
    · have H := H.1 c15
      refine b_iinc (v := (x3 + (1 : Int32))) (ls' := [some (.ref 153), some (.int x1), some (.int x2), some (.int (x3 + (1 : Int32)))]) d_Md_quarrels_104 rfl rfl (Nat.le_of_ble_eq_true rfl) rfl ?_
      refine b_goto (tgt := 30) d_Md_quarrels_107 (by decide) ?_
      exact b_mask [true, true, true, true] rfl H
    · have H := H.2 c15
      refine b_aload_n d_Md_quarrels_47 rfl rfl ?_
      refine b_iload_n d_Md_quarrels_48 rfl rfl ?_
      refine b_iload_n d_Md_quarrels_49 rfl rfl ?_
      refine b_callVi (Mc := m_Md_stands2) (As := [.int x3, .int x1]) (st := []) d_Md_quarrels_50 ⟨⟨kA_Md_stands2.1, kA_Md_stands2.2.1, kA_Md_stands2.2.2, by decide⟩, ml_Md_269, kV_Md_stands2⟩ (eg_153 τ6) rfl rfl (Nat.le_of_ble_eq_true rfl) H (fun v7 τ8 H => ?_)
      refine b_if_eq (tgt := 104) d_Md_quarrels_53 (by decide) (fun c14 => ?_) (fun c14 => ?_)
      · have H := H.1 c14
        refine b_iinc (v := (x3 + (1 : Int32))) (ls' := [some (.ref 153), some (.int x1), some (.int x2), some (.int (x3 + (1 : Int32)))]) d_Md_quarrels_104 rfl rfl (Nat.le_of_ble_eq_true rfl) rfl ?_
        refine b_goto (tgt := 30) d_Md_quarrels_107 (by decide) ?_
        exact b_mask [true, true, true, true] rfl H
      · have H := H.2 c14
        refine b_aload_n d_Md_quarrels_56 rfl rfl ?_
        refine b_iload_n d_Md_quarrels_57 rfl rfl ?_
        refine b_iload_n d_Md_quarrels_58 rfl rfl ?_
        refine b_callVi (Mc := m_Md_quarrels0) (As := [.int x2, .int x3]) (st := []) d_Md_quarrels_59 ⟨⟨kA_Md_quarrels0.1, kA_Md_quarrels0.2.1, kA_Md_quarrels0.2.2, by decide⟩, ml_Md_265, kV_Md_quarrels0⟩ (eg_153 τ8) rfl rfl (Nat.le_of_ble_eq_true rfl) H (fun v9 τ10 H => ?_)
        refine b_if_ne (tgt := 68) d_Md_quarrels_62 (by decide) (fun c13 => ?_) (fun c13 => ?_)
        · have H := H.1 c13
          refine b_aload_n d_Md_quarrels_68 rfl rfl ?_
          refine b_getf (v := .ref 176) d_Md_quarrels_69 fl_Md_114 (eg_153 τ10) rfl ?_
          refine b_iconst (v := (2 : Int32)) d_Md_quarrels_72 (by decide) ?_
          refine b_aload_n d_Md_quarrels_73 rfl rfl ?_
          refine b_getf (v := .int (gY τ10 12)) d_Md_quarrels_74 fl_Md_117 (eg_153 τ10) rfl ?_
          refine b_imul d_Md_quarrels_77  ?_
          refine b_iload_n d_Md_quarrels_78 rfl rfl ?_
          obtain ⟨h11, H⟩ := H
          refine b_iast (h1 := enc (sC τ10 22 (upd (gC τ10 22) ((2 : Int32) * (gY τ10 12)).toNatClampNeg x2))) d_Md_quarrels_79 (eg_176 τ10) h11 (es_176 τ10 (upd (gC τ10 22) ((2 : Int32) * (gY τ10 12)).toNatClampNeg x2)) ?_
          refine b_aload_n d_Md_quarrels_80 rfl rfl ?_
          refine b_getf (v := .ref 176) d_Md_quarrels_81 fl_Md_114 (eg_153 (sC τ10 22 (upd (gC τ10 22) ((2 : Int32) * (gY τ10 12)).toNatClampNeg x2))) rfl ?_
          refine b_iconst (v := (2 : Int32)) d_Md_quarrels_84 (by decide) ?_
          refine b_aload_n d_Md_quarrels_85 rfl rfl ?_
          refine b_getf (v := .int (gY τ10 12)) d_Md_quarrels_86 fl_Md_117 (eg_153 (sC τ10 22 (upd (gC τ10 22) ((2 : Int32) * (gY τ10 12)).toNatClampNeg x2))) rfl ?_
          refine b_imul d_Md_quarrels_89  ?_
          refine b_iconst (v := (1 : Int32)) d_Md_quarrels_90 (by decide) ?_
          refine b_iadd d_Md_quarrels_91  ?_
          refine b_iload_n d_Md_quarrels_92 rfl rfl ?_
          obtain ⟨h12, H⟩ := H
          refine b_iast (h1 := enc (sC (sC τ10 22 (upd (gC τ10 22) ((2 : Int32) * (gY τ10 12)).toNatClampNeg x2)) 22 (upd (upd (gC τ10 22) ((2 : Int32) * (gY τ10 12)).toNatClampNeg x2) (((2 : Int32) * (gY τ10 12)) + (1 : Int32)).toNatClampNeg x3))) d_Md_quarrels_93 (eg_176 (sC τ10 22 (upd (gC τ10 22) ((2 : Int32) * (gY τ10 12)).toNatClampNeg x2))) h12 (es_176 (sC τ10 22 (upd (gC τ10 22) ((2 : Int32) * (gY τ10 12)).toNatClampNeg x2)) (upd (upd (gC τ10 22) ((2 : Int32) * (gY τ10 12)).toNatClampNeg x2) (((2 : Int32) * (gY τ10 12)) + (1 : Int32)).toNatClampNeg x3)) ?_
          refine b_aload_n d_Md_quarrels_94 rfl rfl ?_
          refine b_dup d_Md_quarrels_95 rfl ?_
          refine b_getf (v := .int (gY τ10 12)) d_Md_quarrels_96 fl_Md_117 (eg_153 (sC (sC τ10 22 (upd (gC τ10 22) ((2 : Int32) * (gY τ10 12)).toNatClampNeg x2)) 22 (upd (upd (gC τ10 22) ((2 : Int32) * (gY τ10 12)).toNatClampNeg x2) (((2 : Int32) * (gY τ10 12)) + (1 : Int32)).toNatClampNeg x3))) rfl ?_
          refine b_iconst (v := (1 : Int32)) d_Md_quarrels_99 (by decide) ?_
          refine b_iadd d_Md_quarrels_100  ?_
          refine b_putf (ty := .int) (h1 := enc (sY (sC (sC τ10 22 (upd (gC τ10 22) ((2 : Int32) * (gY τ10 12)).toNatClampNeg x2)) 22 (upd (upd (gC τ10 22) ((2 : Int32) * (gY τ10 12)).toNatClampNeg x2) (((2 : Int32) * (gY τ10 12)) + (1 : Int32)).toNatClampNeg x3)) 12 ((gY τ10 12) + (1 : Int32)))) d_Md_quarrels_101 fl_Md_117 ft_12_35 (fun _ => ⟨rfl, rfl⟩) (eg_153 (sC (sC τ10 22 (upd (gC τ10 22) ((2 : Int32) * (gY τ10 12)).toNatClampNeg x2)) 22 (upd (upd (gC τ10 22) ((2 : Int32) * (gY τ10 12)).toNatClampNeg x2) (((2 : Int32) * (gY τ10 12)) + (1 : Int32)).toNatClampNeg x3))) (Nat.le_of_ble_eq_true rfl) (es_153_35 (sC (sC τ10 22 (upd (gC τ10 22) ((2 : Int32) * (gY τ10 12)).toNatClampNeg x2)) 22 (upd (upd (gC τ10 22) ((2 : Int32) * (gY τ10 12)).toNatClampNeg x2) (((2 : Int32) * (gY τ10 12)) + (1 : Int32)).toNatClampNeg x3)) ((gY τ10 12) + (1 : Int32))) ?_
          refine b_iinc (v := (x3 + (1 : Int32))) (ls' := [some (.ref 153), some (.int x1), some (.int x2), some (.int (x3 + (1 : Int32)))]) d_Md_quarrels_104 rfl rfl (Nat.le_of_ble_eq_true rfl) rfl ?_
          refine b_goto (tgt := 30) d_Md_quarrels_107 (by decide) ?_
          exact b_mask [true, true, true, true] rfl H
        · have H := H.2 c13
          refine b_goto (tgt := 104) d_Md_quarrels_65 (by decide) ?_
          refine b_iinc (v := (x3 + (1 : Int32))) (ls' := [some (.ref 153), some (.int x1), some (.int x2), some (.int (x3 + (1 : Int32)))]) d_Md_quarrels_104 rfl rfl (Nat.le_of_ble_eq_true rfl) rfl ?_
          refine b_goto (tgt := 30) d_Md_quarrels_107 (by decide) ?_
          exact b_mask [true, true, true, true] rfl H
theorem C_Md_quarrels {S : XS} {Q : Int32 → St → Prop} (σ : St) (x1 : Int32) (H : BW S m_Md_quarrels 0 [some (.ref 153), some (.int x1), none, none] [] (enc σ) (qI Q)) : CM S m_Md_quarrels [.ref 153, .int x1] (enc σ) (qI Q) := b_meth (by decide) (Nat.le_of_ble_eq_true rfl) rfl H
theorem d_Md_found_0 : decode m_Md_found.2.1 0 = .ok (.iload_n 1, 1) := by decide +kernel
theorem d_Md_found_1 : decode m_Md_found.2.1 1 = .ok (.ifCond .lt 20, 3) := by decide +kernel
theorem d_Md_found_4 : decode m_Md_found.2.1 4 = .ok (.iload_n 1, 1) := by decide +kernel
theorem d_Md_found_5 : decode m_Md_found.2.1 5 = .ok (.aload_n 0, 1) := by decide +kernel
theorem d_Md_found_6 : decode m_Md_found.2.1 6 = .ok (.getfield 117, 3) := by decide +kernel
theorem d_Md_found_9 : decode m_Md_found.2.1 9 = .ok (.if_icmp .ge 12, 3) := by decide +kernel
theorem d_Md_found_12 : decode m_Md_found.2.1 12 = .ok (.iload_n 2, 1) := by decide +kernel
theorem d_Md_found_13 : decode m_Md_found.2.1 13 = .ok (.iconst 0, 1) := by decide +kernel
theorem d_Md_found_14 : decode m_Md_found.2.1 14 = .ok (.iconst 1, 1) := by decide +kernel
theorem d_Md_found_15 : decode m_Md_found.2.1 15 = .ok (.invokestatic 174, 3) := by decide +kernel
theorem d_Md_found_18 : decode m_Md_found.2.1 18 = .ok (.ifCond .ne 7, 3) := by decide +kernel
theorem d_Md_found_21 : decode m_Md_found.2.1 21 = .ok (.iconst (-1), 1) := by decide +kernel
theorem d_Md_found_22 : decode m_Md_found.2.1 22 = .ok (.goto 13, 3) := by decide +kernel
theorem d_Md_found_25 : decode m_Md_found.2.1 25 = .ok (.aload_n 0, 1) := by decide +kernel
theorem d_Md_found_26 : decode m_Md_found.2.1 26 = .ok (.getfield 114, 3) := by decide +kernel
theorem d_Md_found_29 : decode m_Md_found.2.1 29 = .ok (.iconst 2, 1) := by decide +kernel
theorem d_Md_found_30 : decode m_Md_found.2.1 30 = .ok (.iload_n 1, 1) := by decide +kernel
theorem d_Md_found_31 : decode m_Md_found.2.1 31 = .ok (.imul, 1) := by decide +kernel
theorem d_Md_found_32 : decode m_Md_found.2.1 32 = .ok (.iload_n 2, 1) := by decide +kernel
theorem d_Md_found_33 : decode m_Md_found.2.1 33 = .ok (.iadd, 1) := by decide +kernel
theorem d_Md_found_34 : decode m_Md_found.2.1 34 = .ok (.iaload, 1) := by decide +kernel
theorem d_Md_found_35 : decode m_Md_found.2.1 35 = .ok (.ireturn, 1) := by decide +kernel
set_option maxHeartbeats 4000000 in
set_option maxRecDepth 100000 in
theorem B_Md_found_0 {S : XS} {Q : Int32 → St → Prop} (σ : St) (x1 : Int32) (x2 : Int32) (H : ((x1 < 0 → Q (-1 : Int32) σ) ∧ (¬ x1 < 0 → (((gY σ 12) ≤ x1 → Q (-1 : Int32) σ) ∧ (¬ (gY σ 12) ≤ x1 → CM S m_Md_is [.int x2, .int (0 : Int32), .int (1 : Int32)] (enc σ) (qI (fun v1 τ2 => ((¬ v1 = 0 → (vp_in (((2 : Int32) * x1) + x2) 3600) ∧ Q ((gC τ2 22) (((2 : Int32) * x1) + x2).toNatClampNeg) τ2) ∧ (v1 = 0 → Q (-1 : Int32) τ2))))))))) : BW S m_Md_found 0 [some (.ref 153), some (.int x1), some (.int x2)] [] (enc σ) (qI Q) := by
  refine b_iload_n d_Md_found_0 rfl rfl ?_
  refine b_if_lt (tgt := 21) d_Md_found_1 (by decide) (fun c6 => ?_) (fun c6 => ?_)
  · have H := H.1 c6
    refine b_iconst (v := (-1 : Int32)) d_Md_found_21 (by decide) ?_
    refine b_goto (tgt := 35) d_Md_found_22 (by decide) ?_
    exact b_iret (ty := .int) d_Md_found_35 rfl rfl ⟨_, _, rfl, rfl, H⟩
  · have H := H.2 c6
    refine b_iload_n d_Md_found_4 rfl rfl ?_
    refine b_aload_n d_Md_found_5 rfl rfl ?_
    refine b_getf (v := .int (gY σ 12)) d_Md_found_6 fl_Md_117 (eg_153 σ) rfl ?_
    refine b_icmp_ge (tgt := 21) d_Md_found_9 (by decide) (fun c5 => ?_) (fun c5 => ?_)
    · have H := H.1 c5
      refine b_iconst (v := (-1 : Int32)) d_Md_found_21 (by decide) ?_
      refine b_goto (tgt := 35) d_Md_found_22 (by decide) ?_
      exact b_iret (ty := .int) d_Md_found_35 rfl rfl ⟨_, _, rfl, rfl, H⟩
    · have H := H.2 c5
      refine b_iload_n d_Md_found_12 rfl rfl ?_
      refine b_iconst (v := (0 : Int32)) d_Md_found_13 (by decide) ?_
      refine b_iconst (v := (1 : Int32)) d_Md_found_14 (by decide) ?_
      refine b_callSi (Mc := m_Md_is) (As := [.int x2, .int (0 : Int32), .int (1 : Int32)]) (st := []) d_Md_found_15 ⟨⟨kA_Md_is.1, kA_Md_is.2.1, kA_Md_is.2.2, by decide⟩, ml_Md_174, kS_Md_is⟩ rfl rfl (Nat.le_of_ble_eq_true rfl) H (fun v1 τ2 H => ?_)
      refine b_if_ne (tgt := 25) d_Md_found_18 (by decide) (fun c4 => ?_) (fun c4 => ?_)
      · have H := H.1 c4
        refine b_aload_n d_Md_found_25 rfl rfl ?_
        refine b_getf (v := .ref 176) d_Md_found_26 fl_Md_114 (eg_153 τ2) rfl ?_
        refine b_iconst (v := (2 : Int32)) d_Md_found_29 (by decide) ?_
        refine b_iload_n d_Md_found_30 rfl rfl ?_
        refine b_imul d_Md_found_31  ?_
        refine b_iload_n d_Md_found_32 rfl rfl ?_
        refine b_iadd d_Md_found_33  ?_
        obtain ⟨h3, H⟩ := H
        refine b_iald d_Md_found_34 (eg_176 τ2) h3 ?_
        refine b_st2 (st' := [.int ((gC τ2 22) (((2 : Int32) * x1) + x2).toNatClampNeg)]) rfl ?_
        exact b_iret (ty := .int) d_Md_found_35 rfl rfl ⟨_, _, rfl, rfl, H⟩
      · have H := H.2 c4
        refine b_iconst (v := (-1 : Int32)) d_Md_found_21 (by decide) ?_
        refine b_goto (tgt := 35) d_Md_found_22 (by decide) ?_
        exact b_iret (ty := .int) d_Md_found_35 rfl rfl ⟨_, _, rfl, rfl, H⟩
theorem C_Md_found {S : XS} {Q : Int32 → St → Prop} (σ : St) (x1 : Int32) (x2 : Int32) (H : BW S m_Md_found 0 [some (.ref 153), some (.int x1), some (.int x2)] [] (enc σ) (qI Q)) : CM S m_Md_found [.ref 153, .int x1, .int x2] (enc σ) (qI Q) := b_meth (by decide) (Nat.le_of_ble_eq_true rfl) rfl H
theorem d_Md_mend_0 : decode m_Md_mend.2.1 0 = .ok (.iload_n 1, 1) := by decide +kernel
theorem d_Md_mend_1 : decode m_Md_mend.2.1 1 = .ok (.invokestatic 234, 3) := by decide +kernel
theorem d_Md_mend_4 : decode m_Md_mend.2.1 4 = .ok (.ifCond .eq 13, 3) := by decide +kernel
theorem d_Md_mend_7 : decode m_Md_mend.2.1 7 = .ok (.aload_n 0, 1) := by decide +kernel
theorem d_Md_mend_8 : decode m_Md_mend.2.1 8 = .ok (.getfield 111, 3) := by decide +kernel
theorem d_Md_mend_11 : decode m_Md_mend.2.1 11 = .ok (.iload_n 1, 1) := by decide +kernel
theorem d_Md_mend_12 : decode m_Md_mend.2.1 12 = .ok (.iaload, 1) := by decide +kernel
theorem d_Md_mend_13 : decode m_Md_mend.2.1 13 = .ok (.iconst 3, 1) := by decide +kernel
theorem d_Md_mend_14 : decode m_Md_mend.2.1 14 = .ok (.if_icmp .ne 5, 3) := by decide +kernel
theorem d_Md_mend_17 : decode m_Md_mend.2.1 17 = .ok (.iconst (-1), 1) := by decide +kernel
theorem d_Md_mend_18 : decode m_Md_mend.2.1 18 = .ok (.ireturn, 1) := by decide +kernel
theorem d_Md_mend_19 : decode m_Md_mend.2.1 19 = .ok (.aload_n 0, 1) := by decide +kernel
theorem d_Md_mend_20 : decode m_Md_mend.2.1 20 = .ok (.getfield 111, 3) := by decide +kernel
theorem d_Md_mend_23 : decode m_Md_mend.2.1 23 = .ok (.iload_n 1, 1) := by decide +kernel
theorem d_Md_mend_24 : decode m_Md_mend.2.1 24 = .ok (.dup2, 1) := by decide +kernel
theorem d_Md_mend_25 : decode m_Md_mend.2.1 25 = .ok (.iaload, 1) := by decide +kernel
theorem d_Md_mend_26 : decode m_Md_mend.2.1 26 = .ok (.iconst 1, 1) := by decide +kernel
theorem d_Md_mend_27 : decode m_Md_mend.2.1 27 = .ok (.iadd, 1) := by decide +kernel
theorem d_Md_mend_28 : decode m_Md_mend.2.1 28 = .ok (.iastore, 1) := by decide +kernel
theorem d_Md_mend_29 : decode m_Md_mend.2.1 29 = .ok (.aload_n 0, 1) := by decide +kernel
theorem d_Md_mend_30 : decode m_Md_mend.2.1 30 = .ok (.getfield 111, 3) := by decide +kernel
theorem d_Md_mend_33 : decode m_Md_mend.2.1 33 = .ok (.iload_n 1, 1) := by decide +kernel
theorem d_Md_mend_34 : decode m_Md_mend.2.1 34 = .ok (.iaload, 1) := by decide +kernel
theorem d_Md_mend_35 : decode m_Md_mend.2.1 35 = .ok (.ireturn, 1) := by decide +kernel
set_option maxHeartbeats 4000000 in
set_option maxRecDepth 100000 in
theorem B_Md_mend_0 {S : XS} {Q : Int32 → St → Prop} (σ : St) (x1 : Int32) (H : CM S m_Md_isPart [.int x1] (enc σ) (qI (fun v1 τ2 => ((v1 = 0 → Q (-1 : Int32) τ2) ∧ (¬ v1 = 0 → (vp_in x1 24) ∧ ((¬ ((gC τ2 21) x1.toNatClampNeg) = (3 : Int32) → Q ((upd (gC τ2 21) x1.toNatClampNeg (((gC τ2 21) x1.toNatClampNeg) + (1 : Int32))) x1.toNatClampNeg) (sC τ2 21 (upd (gC τ2 21) x1.toNatClampNeg (((gC τ2 21) x1.toNatClampNeg) + (1 : Int32))))) ∧ (((gC τ2 21) x1.toNatClampNeg) = (3 : Int32) → Q (-1 : Int32) τ2))))))) : BW S m_Md_mend 0 [some (.ref 153), some (.int x1)] [] (enc σ) (qI Q) := by
  refine b_iload_n d_Md_mend_0 rfl rfl ?_
  refine b_callSi (Mc := m_Md_isPart) (As := [.int x1]) (st := []) d_Md_mend_1 ⟨⟨kA_Md_isPart.1, kA_Md_isPart.2.1, kA_Md_isPart.2.2, by decide⟩, ml_Md_234, kS_Md_isPart⟩ rfl rfl (Nat.le_of_ble_eq_true rfl) H (fun v1 τ2 H => ?_)
  refine b_if_eq (tgt := 17) d_Md_mend_4 (by decide) (fun c5 => ?_) (fun c5 => ?_)
  · have H := H.1 c5
    refine b_iconst (v := (-1 : Int32)) d_Md_mend_17 (by decide) ?_
    exact b_iret (ty := .int) d_Md_mend_18 rfl rfl ⟨_, _, rfl, rfl, H⟩
  · have H := H.2 c5
    refine b_aload_n d_Md_mend_7 rfl rfl ?_
    refine b_getf (v := .ref 175) d_Md_mend_8 fl_Md_111 (eg_153 τ2) rfl ?_
    refine b_iload_n d_Md_mend_11 rfl rfl ?_
    obtain ⟨h3, H⟩ := H
    refine b_iald d_Md_mend_12 (eg_175 τ2) h3 ?_
    refine b_st2 (st' := [.int ((gC τ2 21) x1.toNatClampNeg)]) rfl ?_
    refine b_iconst (v := (3 : Int32)) d_Md_mend_13 (by decide) ?_
    refine b_icmp_ne (tgt := 19) d_Md_mend_14 (by decide) (fun c4 => ?_) (fun c4 => ?_)
    · have H := H.1 c4
      refine b_aload_n d_Md_mend_19 rfl rfl ?_
      refine b_getf (v := .ref 175) d_Md_mend_20 fl_Md_111 (eg_153 τ2) rfl ?_
      refine b_iload_n d_Md_mend_23 rfl rfl ?_
      refine b_dup2 d_Md_mend_24 rfl rfl ?_
      refine b_iald d_Md_mend_25 (eg_175 τ2) h3 ?_
      refine b_st2 (st' := [.int ((gC τ2 21) x1.toNatClampNeg), .int x1, .ref 175]) rfl ?_
      refine b_iconst (v := (1 : Int32)) d_Md_mend_26 (by decide) ?_
      refine b_iadd d_Md_mend_27  ?_
      refine b_iast (h1 := enc (sC τ2 21 (upd (gC τ2 21) x1.toNatClampNeg (((gC τ2 21) x1.toNatClampNeg) + (1 : Int32))))) d_Md_mend_28 (eg_175 τ2) h3 (es_175 τ2 (upd (gC τ2 21) x1.toNatClampNeg (((gC τ2 21) x1.toNatClampNeg) + (1 : Int32)))) ?_
      refine b_aload_n d_Md_mend_29 rfl rfl ?_
      refine b_getf (v := .ref 175) d_Md_mend_30 fl_Md_111 (eg_153 (sC τ2 21 (upd (gC τ2 21) x1.toNatClampNeg (((gC τ2 21) x1.toNatClampNeg) + (1 : Int32))))) rfl ?_
      refine b_iload_n d_Md_mend_33 rfl rfl ?_
      refine b_iald d_Md_mend_34 (eg_175 (sC τ2 21 (upd (gC τ2 21) x1.toNatClampNeg (((gC τ2 21) x1.toNatClampNeg) + (1 : Int32))))) h3 ?_
      refine b_st2 (st' := [.int ((upd (gC τ2 21) x1.toNatClampNeg (((gC τ2 21) x1.toNatClampNeg) + (1 : Int32))) x1.toNatClampNeg)]) rfl ?_
      exact b_iret (ty := .int) d_Md_mend_35 rfl rfl ⟨_, _, rfl, rfl, H⟩
    · have H := H.2 c4
      refine b_iconst (v := (-1 : Int32)) d_Md_mend_17 (by decide) ?_
      exact b_iret (ty := .int) d_Md_mend_18 rfl rfl ⟨_, _, rfl, rfl, H⟩
theorem C_Md_mend {S : XS} {Q : Int32 → St → Prop} (σ : St) (x1 : Int32) (H : BW S m_Md_mend 0 [some (.ref 153), some (.int x1)] [] (enc σ) (qI Q)) : CM S m_Md_mend [.ref 153, .int x1] (enc σ) (qI Q) := b_meth (by decide) (Nat.le_of_ble_eq_true rfl) rfl H
theorem d_Md_agree_0 : decode m_Md_agree.2.1 0 = .ok (.aload_n 0, 1) := by decide +kernel
theorem d_Md_agree_1 : decode m_Md_agree.2.1 1 = .ok (.invokevirtual 245, 3) := by decide +kernel
theorem d_Md_agree_4 : decode m_Md_agree.2.1 4 = .ok (.iconst 0, 1) := by decide +kernel
theorem d_Md_agree_5 : decode m_Md_agree.2.1 5 = .ok (.istore_n 2, 1) := by decide +kernel
theorem d_Md_agree_6 : decode m_Md_agree.2.1 6 = .ok (.iconst 0, 1) := by decide +kernel
theorem d_Md_agree_7 : decode m_Md_agree.2.1 7 = .ok (.istore_n 3, 1) := by decide +kernel
theorem d_Md_agree_8 : decode m_Md_agree.2.1 8 = .ok (.iconst 1, 1) := by decide +kernel
theorem d_Md_agree_9 : decode m_Md_agree.2.1 9 = .ok (.istore 4, 2) := by decide +kernel
theorem d_Md_agree_11 : decode m_Md_agree.2.1 11 = .ok (.iload 4, 2) := by decide +kernel
theorem d_Md_agree_13 : decode m_Md_agree.2.1 13 = .ok (.ifCond .eq 186, 3) := by decide +kernel
theorem d_Md_agree_16 : decode m_Md_agree.2.1 16 = .ok (.aload_n 0, 1) := by decide +kernel
theorem d_Md_agree_17 : decode m_Md_agree.2.1 17 = .ok (.getfield 75, 3) := by decide +kernel
theorem d_Md_agree_20 : decode m_Md_agree.2.1 20 = .ok (.ifCond .ne 179, 3) := by decide +kernel
theorem d_Md_agree_23 : decode m_Md_agree.2.1 23 = .ok (.aload_n 0, 1) := by decide +kernel
theorem d_Md_agree_24 : decode m_Md_agree.2.1 24 = .ok (.invokevirtual 205, 3) := by decide +kernel
theorem d_Md_agree_27 : decode m_Md_agree.2.1 27 = .ok (.pop, 1) := by decide +kernel
theorem d_Md_agree_28 : decode m_Md_agree.2.1 28 = .ok (.iload_n 2, 1) := by decide +kernel
theorem d_Md_agree_29 : decode m_Md_agree.2.1 29 = .ok (.iconst 5, 1) := by decide +kernel
theorem d_Md_agree_30 : decode m_Md_agree.2.1 30 = .ok (.if_icmp .ne 22, 3) := by decide +kernel
theorem d_Md_agree_33 : decode m_Md_agree.2.1 33 = .ok (.aload_n 0, 1) := by decide +kernel
theorem d_Md_agree_34 : decode m_Md_agree.2.1 34 = .ok (.invokevirtual 205, 3) := by decide +kernel
theorem d_Md_agree_37 : decode m_Md_agree.2.1 37 = .ok (.invokestatic 225, 3) := by decide +kernel
theorem d_Md_agree_40 : decode m_Md_agree.2.1 40 = .ok (.ifCond .eq 12, 3) := by decide +kernel
theorem d_Md_agree_43 : decode m_Md_agree.2.1 43 = .ok (.aload_n 0, 1) := by decide +kernel
theorem d_Md_agree_44 : decode m_Md_agree.2.1 44 = .ok (.iconst 1, 1) := by decide +kernel
theorem d_Md_agree_45 : decode m_Md_agree.2.1 45 = .ok (.aload_n 0, 1) := by decide +kernel
theorem d_Md_agree_46 : decode m_Md_agree.2.1 46 = .ok (.getfield 81, 3) := by decide +kernel
theorem d_Md_agree_49 : decode m_Md_agree.2.1 49 = .ok (.invokevirtual 209, 3) := by decide +kernel
theorem d_Md_agree_52 : decode m_Md_agree.2.1 52 = .ok (.aload_n 0, 1) := by decide +kernel
theorem d_Md_agree_53 : decode m_Md_agree.2.1 53 = .ok (.iconst 0, 1) := by decide +kernel
theorem d_Md_agree_54 : decode m_Md_agree.2.1 54 = .ok (.bipush 100, 2) := by decide +kernel
theorem d_Md_agree_56 : decode m_Md_agree.2.1 56 = .ok (.invokevirtual 271, 3) := by decide +kernel
theorem d_Md_agree_59 : decode m_Md_agree.2.1 59 = .ok (.istore 5, 2) := by decide +kernel
theorem d_Md_agree_61 : decode m_Md_agree.2.1 61 = .ok (.aload_n 0, 1) := by decide +kernel
theorem d_Md_agree_62 : decode m_Md_agree.2.1 62 = .ok (.getfield 75, 3) := by decide +kernel
theorem d_Md_agree_65 : decode m_Md_agree.2.1 65 = .ok (.ifCond .ne 24, 3) := by decide +kernel
theorem d_Md_agree_68 : decode m_Md_agree.2.1 68 = .ok (.aload_n 0, 1) := by decide +kernel
theorem d_Md_agree_69 : decode m_Md_agree.2.1 69 = .ok (.ldc2_w 274, 3) := by decide +kernel
theorem d_Md_agree_72 : decode m_Md_agree.2.1 72 = .ok (.bipush 7, 2) := by decide +kernel
theorem d_Md_agree_74 : decode m_Md_agree.2.1 74 = .ok (.invokevirtual 251, 3) := by decide +kernel
theorem d_Md_agree_77 : decode m_Md_agree.2.1 77 = .ok (.ifCond .ne 12, 3) := by decide +kernel
theorem d_Md_agree_80 : decode m_Md_agree.2.1 80 = .ok (.aload_n 0, 1) := by decide +kernel
theorem d_Md_agree_81 : decode m_Md_agree.2.1 81 = .ok (.iconst 1, 1) := by decide +kernel
theorem d_Md_agree_82 : decode m_Md_agree.2.1 82 = .ok (.aload_n 0, 1) := by decide +kernel
theorem d_Md_agree_83 : decode m_Md_agree.2.1 83 = .ok (.getfield 81, 3) := by decide +kernel
theorem d_Md_agree_86 : decode m_Md_agree.2.1 86 = .ok (.invokevirtual 209, 3) := by decide +kernel
theorem d_Md_agree_89 : decode m_Md_agree.2.1 89 = .ok (.aload_n 0, 1) := by decide +kernel
theorem d_Md_agree_90 : decode m_Md_agree.2.1 90 = .ok (.getfield 75, 3) := by decide +kernel
theorem d_Md_agree_93 : decode m_Md_agree.2.1 93 = .ok (.ifCond .le 6, 3) := by decide +kernel
theorem d_Md_agree_96 : decode m_Md_agree.2.1 96 = .ok (.goto (-85), 3) := by decide +kernel
theorem d_Md_agree_99 : decode m_Md_agree.2.1 99 = .ok (.aload_n 0, 1) := by decide +kernel
theorem d_Md_agree_100 : decode m_Md_agree.2.1 100 = .ok (.ldc2_w 276, 3) := by decide +kernel
theorem d_Md_agree_103 : decode m_Md_agree.2.1 103 = .ok (.iconst 2, 1) := by decide +kernel
theorem d_Md_agree_104 : decode m_Md_agree.2.1 104 = .ok (.invokevirtual 251, 3) := by decide +kernel
theorem d_Md_agree_107 : decode m_Md_agree.2.1 107 = .ok (.istore 4, 2) := by decide +kernel
theorem d_Md_agree_109 : decode m_Md_agree.2.1 109 = .ok (.iload 4, 2) := by decide +kernel
theorem d_Md_agree_111 : decode m_Md_agree.2.1 111 = .ok (.ifCond .eq 16, 3) := by decide +kernel
theorem d_Md_agree_114 : decode m_Md_agree.2.1 114 = .ok (.aload_n 0, 1) := by decide +kernel
theorem d_Md_agree_115 : decode m_Md_agree.2.1 115 = .ok (.iload_n 3, 1) := by decide +kernel
theorem d_Md_agree_116 : decode m_Md_agree.2.1 116 = .ok (.iconst 1, 1) := by decide +kernel
theorem d_Md_agree_117 : decode m_Md_agree.2.1 117 = .ok (.iadd, 1) := by decide +kernel
theorem d_Md_agree_118 : decode m_Md_agree.2.1 118 = .ok (.ldc_w 278, 3) := by decide +kernel
theorem d_Md_agree_121 : decode m_Md_agree.2.1 121 = .ok (.invokevirtual 271, 3) := by decide +kernel
theorem d_Md_agree_124 : decode m_Md_agree.2.1 124 = .ok (.goto 5, 3) := by decide +kernel
theorem d_Md_agree_127 : decode m_Md_agree.2.1 127 = .ok (.ldc 178, 2) := by decide +kernel
theorem d_Md_agree_129 : decode m_Md_agree.2.1 129 = .ok (.istore 6, 2) := by decide +kernel
theorem d_Md_agree_131 : decode m_Md_agree.2.1 131 = .ok (.aload_n 0, 1) := by decide +kernel
theorem d_Md_agree_132 : decode m_Md_agree.2.1 132 = .ok (.getfield 75, 3) := by decide +kernel
theorem d_Md_agree_135 : decode m_Md_agree.2.1 135 = .ok (.ifCond .le 6, 3) := by decide +kernel
theorem d_Md_agree_138 : decode m_Md_agree.2.1 138 = .ok (.goto (-127), 3) := by decide +kernel
theorem d_Md_agree_141 : decode m_Md_agree.2.1 141 = .ok (.aload_n 0, 1) := by decide +kernel
theorem d_Md_agree_142 : decode m_Md_agree.2.1 142 = .ok (.getfield 123, 3) := by decide +kernel
theorem d_Md_agree_145 : decode m_Md_agree.2.1 145 = .ok (.bipush 10, 2) := by decide +kernel
theorem d_Md_agree_147 : decode m_Md_agree.2.1 147 = .ok (.aload_n 0, 1) := by decide +kernel
theorem d_Md_agree_148 : decode m_Md_agree.2.1 148 = .ok (.getfield 120, 3) := by decide +kernel
theorem d_Md_agree_151 : decode m_Md_agree.2.1 151 = .ok (.imul, 1) := by decide +kernel
theorem d_Md_agree_152 : decode m_Md_agree.2.1 152 = .ok (.iconst 2, 1) := by decide +kernel
theorem d_Md_agree_153 : decode m_Md_agree.2.1 153 = .ok (.iload_n 2, 1) := by decide +kernel
theorem d_Md_agree_154 : decode m_Md_agree.2.1 154 = .ok (.imul, 1) := by decide +kernel
theorem d_Md_agree_155 : decode m_Md_agree.2.1 155 = .ok (.iadd, 1) := by decide +kernel
theorem d_Md_agree_156 : decode m_Md_agree.2.1 156 = .ok (.iload 5, 2) := by decide +kernel
theorem d_Md_agree_158 : decode m_Md_agree.2.1 158 = .ok (.iastore, 1) := by decide +kernel
theorem d_Md_agree_159 : decode m_Md_agree.2.1 159 = .ok (.aload_n 0, 1) := by decide +kernel
theorem d_Md_agree_160 : decode m_Md_agree.2.1 160 = .ok (.getfield 123, 3) := by decide +kernel
theorem d_Md_agree_163 : decode m_Md_agree.2.1 163 = .ok (.bipush 10, 2) := by decide +kernel
theorem d_Md_agree_165 : decode m_Md_agree.2.1 165 = .ok (.aload_n 0, 1) := by decide +kernel
theorem d_Md_agree_166 : decode m_Md_agree.2.1 166 = .ok (.getfield 120, 3) := by decide +kernel
theorem d_Md_agree_169 : decode m_Md_agree.2.1 169 = .ok (.imul, 1) := by decide +kernel
theorem d_Md_agree_170 : decode m_Md_agree.2.1 170 = .ok (.iconst 2, 1) := by decide +kernel
theorem d_Md_agree_171 : decode m_Md_agree.2.1 171 = .ok (.iload_n 2, 1) := by decide +kernel
theorem d_Md_agree_172 : decode m_Md_agree.2.1 172 = .ok (.imul, 1) := by decide +kernel
theorem d_Md_agree_173 : decode m_Md_agree.2.1 173 = .ok (.iadd, 1) := by decide +kernel
theorem d_Md_agree_174 : decode m_Md_agree.2.1 174 = .ok (.iconst 1, 1) := by decide +kernel
theorem d_Md_agree_175 : decode m_Md_agree.2.1 175 = .ok (.iadd, 1) := by decide +kernel
theorem d_Md_agree_176 : decode m_Md_agree.2.1 176 = .ok (.iload 6, 2) := by decide +kernel
theorem d_Md_agree_178 : decode m_Md_agree.2.1 178 = .ok (.iastore, 1) := by decide +kernel
theorem d_Md_agree_179 : decode m_Md_agree.2.1 179 = .ok (.iinc 2 1, 3) := by decide +kernel
theorem d_Md_agree_182 : decode m_Md_agree.2.1 182 = .ok (.iload 6, 2) := by decide +kernel
theorem d_Md_agree_184 : decode m_Md_agree.2.1 184 = .ok (.istore_n 3, 1) := by decide +kernel
theorem d_Md_agree_185 : decode m_Md_agree.2.1 185 = .ok (.iload 4, 2) := by decide +kernel
theorem d_Md_agree_187 : decode m_Md_agree.2.1 187 = .ok (.ifCond .eq 9, 3) := by decide +kernel
theorem d_Md_agree_190 : decode m_Md_agree.2.1 190 = .ok (.aload_n 0, 1) := by decide +kernel
theorem d_Md_agree_191 : decode m_Md_agree.2.1 191 = .ok (.bipush 44, 2) := by decide +kernel
theorem d_Md_agree_193 : decode m_Md_agree.2.1 193 = .ok (.invokevirtual 231, 3) := by decide +kernel
theorem d_Md_agree_196 : decode m_Md_agree.2.1 196 = .ok (.goto (-185), 3) := by decide +kernel
theorem d_Md_agree_199 : decode m_Md_agree.2.1 199 = .ok (.aload_n 0, 1) := by decide +kernel
theorem d_Md_agree_200 : decode m_Md_agree.2.1 200 = .ok (.getfield 75, 3) := by decide +kernel
theorem d_Md_agree_203 : decode m_Md_agree.2.1 203 = .ok (.ifCond .ne 23, 3) := by decide +kernel
theorem d_Md_agree_206 : decode m_Md_agree.2.1 206 = .ok (.aload_n 0, 1) := by decide +kernel
theorem d_Md_agree_207 : decode m_Md_agree.2.1 207 = .ok (.ldc2_w 279, 3) := by decide +kernel
theorem d_Md_agree_210 : decode m_Md_agree.2.1 210 = .ok (.iconst 4, 1) := by decide +kernel
theorem d_Md_agree_211 : decode m_Md_agree.2.1 211 = .ok (.invokevirtual 251, 3) := by decide +kernel
theorem d_Md_agree_214 : decode m_Md_agree.2.1 214 = .ok (.ifCond .ne 12, 3) := by decide +kernel
theorem d_Md_agree_217 : decode m_Md_agree.2.1 217 = .ok (.aload_n 0, 1) := by decide +kernel
theorem d_Md_agree_218 : decode m_Md_agree.2.1 218 = .ok (.iconst 1, 1) := by decide +kernel
theorem d_Md_agree_219 : decode m_Md_agree.2.1 219 = .ok (.aload_n 0, 1) := by decide +kernel
theorem d_Md_agree_220 : decode m_Md_agree.2.1 220 = .ok (.getfield 81, 3) := by decide +kernel
theorem d_Md_agree_223 : decode m_Md_agree.2.1 223 = .ok (.invokevirtual 209, 3) := by decide +kernel
theorem d_Md_agree_226 : decode m_Md_agree.2.1 226 = .ok (.aload_n 0, 1) := by decide +kernel
theorem d_Md_agree_227 : decode m_Md_agree.2.1 227 = .ok (.getfield 75, 3) := by decide +kernel
theorem d_Md_agree_230 : decode m_Md_agree.2.1 230 = .ok (.ifCond .ne 14, 3) := by decide +kernel
theorem d_Md_agree_233 : decode m_Md_agree.2.1 233 = .ok (.aload_n 0, 1) := by decide +kernel
theorem d_Md_agree_234 : decode m_Md_agree.2.1 234 = .ok (.iconst 0, 1) := by decide +kernel
theorem d_Md_agree_235 : decode m_Md_agree.2.1 235 = .ok (.sipush 9999, 3) := by decide +kernel
theorem d_Md_agree_238 : decode m_Md_agree.2.1 238 = .ok (.invokevirtual 271, 3) := by decide +kernel
theorem d_Md_agree_241 : decode m_Md_agree.2.1 241 = .ok (.goto 4, 3) := by decide +kernel
theorem d_Md_agree_244 : decode m_Md_agree.2.1 244 = .ok (.iconst 0, 1) := by decide +kernel
theorem d_Md_agree_245 : decode m_Md_agree.2.1 245 = .ok (.istore 5, 2) := by decide +kernel
theorem d_Md_agree_247 : decode m_Md_agree.2.1 247 = .ok (.aload_n 0, 1) := by decide +kernel
theorem d_Md_agree_248 : decode m_Md_agree.2.1 248 = .ok (.invokevirtual 255, 3) := by decide +kernel
theorem d_Md_agree_251 : decode m_Md_agree.2.1 251 = .ok (.aload_n 0, 1) := by decide +kernel
theorem d_Md_agree_252 : decode m_Md_agree.2.1 252 = .ok (.getfield 75, 3) := by decide +kernel
theorem d_Md_agree_255 : decode m_Md_agree.2.1 255 = .ok (.ifCond .le 5, 3) := by decide +kernel
theorem d_Md_agree_258 : decode m_Md_agree.2.1 258 = .ok (.iconst (-1), 1) := by decide +kernel
theorem d_Md_agree_259 : decode m_Md_agree.2.1 259 = .ok (.ireturn, 1) := by decide +kernel
theorem d_Md_agree_260 : decode m_Md_agree.2.1 260 = .ok (.iload_n 1, 1) := by decide +kernel
theorem d_Md_agree_261 : decode m_Md_agree.2.1 261 = .ok (.invokestatic 234, 3) := by decide +kernel
theorem d_Md_agree_264 : decode m_Md_agree.2.1 264 = .ok (.ifCond .eq 12, 3) := by decide +kernel
theorem d_Md_agree_267 : decode m_Md_agree.2.1 267 = .ok (.aload_n 0, 1) := by decide +kernel
theorem d_Md_agree_268 : decode m_Md_agree.2.1 268 = .ok (.getfield 120, 3) := by decide +kernel
theorem d_Md_agree_271 : decode m_Md_agree.2.1 271 = .ok (.bipush 12, 2) := by decide +kernel
theorem d_Md_agree_273 : decode m_Md_agree.2.1 273 = .ok (.if_icmp .ne 6, 3) := by decide +kernel
theorem d_Md_agree_276 : decode m_Md_agree.2.1 276 = .ok (.bipush (-2), 2) := by decide +kernel
theorem d_Md_agree_278 : decode m_Md_agree.2.1 278 = .ok (.ireturn, 1) := by decide +kernel
theorem d_Md_agree_279 : decode m_Md_agree.2.1 279 = .ok (.aload_n 0, 1) := by decide +kernel
theorem d_Md_agree_280 : decode m_Md_agree.2.1 280 = .ok (.getfield 126, 3) := by decide +kernel
theorem d_Md_agree_283 : decode m_Md_agree.2.1 283 = .ok (.aload_n 0, 1) := by decide +kernel
theorem d_Md_agree_284 : decode m_Md_agree.2.1 284 = .ok (.getfield 120, 3) := by decide +kernel
theorem d_Md_agree_287 : decode m_Md_agree.2.1 287 = .ok (.iload_n 2, 1) := by decide +kernel
theorem d_Md_agree_288 : decode m_Md_agree.2.1 288 = .ok (.iastore, 1) := by decide +kernel
theorem d_Md_agree_289 : decode m_Md_agree.2.1 289 = .ok (.aload_n 0, 1) := by decide +kernel
theorem d_Md_agree_290 : decode m_Md_agree.2.1 290 = .ok (.getfield 129, 3) := by decide +kernel
theorem d_Md_agree_293 : decode m_Md_agree.2.1 293 = .ok (.aload_n 0, 1) := by decide +kernel
theorem d_Md_agree_294 : decode m_Md_agree.2.1 294 = .ok (.getfield 120, 3) := by decide +kernel
theorem d_Md_agree_297 : decode m_Md_agree.2.1 297 = .ok (.iload 5, 2) := by decide +kernel
theorem d_Md_agree_299 : decode m_Md_agree.2.1 299 = .ok (.iastore, 1) := by decide +kernel
theorem d_Md_agree_300 : decode m_Md_agree.2.1 300 = .ok (.aload_n 0, 1) := by decide +kernel
theorem d_Md_agree_301 : decode m_Md_agree.2.1 301 = .ok (.getfield 132, 3) := by decide +kernel
theorem d_Md_agree_304 : decode m_Md_agree.2.1 304 = .ok (.aload_n 0, 1) := by decide +kernel
theorem d_Md_agree_305 : decode m_Md_agree.2.1 305 = .ok (.getfield 120, 3) := by decide +kernel
theorem d_Md_agree_308 : decode m_Md_agree.2.1 308 = .ok (.iload_n 1, 1) := by decide +kernel
theorem d_Md_agree_309 : decode m_Md_agree.2.1 309 = .ok (.iastore, 1) := by decide +kernel
theorem d_Md_agree_310 : decode m_Md_agree.2.1 310 = .ok (.aload_n 0, 1) := by decide +kernel
theorem d_Md_agree_311 : decode m_Md_agree.2.1 311 = .ok (.dup, 1) := by decide +kernel
theorem d_Md_agree_312 : decode m_Md_agree.2.1 312 = .ok (.getfield 120, 3) := by decide +kernel
theorem d_Md_agree_315 : decode m_Md_agree.2.1 315 = .ok (.iconst 1, 1) := by decide +kernel
theorem d_Md_agree_316 : decode m_Md_agree.2.1 316 = .ok (.iadd, 1) := by decide +kernel
theorem d_Md_agree_317 : decode m_Md_agree.2.1 317 = .ok (.putfield 120, 3) := by decide +kernel
theorem d_Md_agree_320 : decode m_Md_agree.2.1 320 = .ok (.aload_n 0, 1) := by decide +kernel
theorem d_Md_agree_321 : decode m_Md_agree.2.1 321 = .ok (.getfield 120, 3) := by decide +kernel
theorem d_Md_agree_324 : decode m_Md_agree.2.1 324 = .ok (.iconst 1, 1) := by decide +kernel
theorem d_Md_agree_325 : decode m_Md_agree.2.1 325 = .ok (.isub, 1) := by decide +kernel
theorem d_Md_agree_326 : decode m_Md_agree.2.1 326 = .ok (.ireturn, 1) := by decide +kernel
set_option maxHeartbeats 4000000 in
set_option maxRecDepth 100000 in
theorem B_Md_agree_0 {S : XS} {Q : Int32 → St → Prop} (σ : St) (x1 : Int32) (H : CM S m_Md_begins [.ref 153] (enc σ) (qV (fun τ2 => BW S m_Md_agree 11 [some (.ref 153), some (.int x1), some (.int (0 : Int32)), some (.int (0 : Int32)), some (.int (1 : Int32)), none, none] [] (enc τ2) (qI Q)))) : BW S m_Md_agree 0 [some (.ref 153), some (.int x1), none, none, none, none, none] [] (enc σ) (qI Q) := by
  refine b_aload_n d_Md_agree_0 rfl rfl ?_
  refine b_callVv (Mc := m_Md_begins) (As := []) (st := []) d_Md_agree_1 ⟨⟨kA_Md_begins.1, kA_Md_begins.2.1, kA_Md_begins.2.2, by decide⟩, ml_Md_245, kV_Md_begins⟩ (eg_153 σ) rfl rfl (Nat.le_of_ble_eq_true rfl) H (fun τ2 H => ?_)
  refine b_iconst (v := (0 : Int32)) d_Md_agree_4 (by decide) ?_
  refine b_istore_n (ls' := [some (.ref 153), some (.int x1), some (.int (0 : Int32)), none, none, none, none]) d_Md_agree_5 rfl (Nat.le_of_ble_eq_true rfl) rfl ?_
  refine b_iconst (v := (0 : Int32)) d_Md_agree_6 (by decide) ?_
  refine b_istore_n (ls' := [some (.ref 153), some (.int x1), some (.int (0 : Int32)), some (.int (0 : Int32)), none, none, none]) d_Md_agree_7 rfl (Nat.le_of_ble_eq_true rfl) rfl ?_
  refine b_iconst (v := (1 : Int32)) d_Md_agree_8 (by decide) ?_
  refine b_istore (ls' := [some (.ref 153), some (.int x1), some (.int (0 : Int32)), some (.int (0 : Int32)), some (.int (1 : Int32)), none, none]) d_Md_agree_9 (Nat.le_of_ble_eq_true rfl) rfl ?_
  exact b_mask [true, true, true, true, true, true, true] rfl H
set_option maxHeartbeats 4000000 in
set_option maxRecDepth 100000 in
theorem B_Md_agree_11 {S : XS} {Q : Int32 → St → Prop} (σ : St) (x1 : Int32) (x2 : Int32) (x3 : Int32) (x4 : Int32) (H : ((x4 = 0 → BW S m_Md_agree 199 [some (.ref 153), some (.int x1), some (.int x2), none, none, none, none] [] (enc σ) (qI Q)) ∧ (¬ x4 = 0 → ((¬ (gY σ 7) = 0 → BW S m_Md_agree 199 [some (.ref 153), some (.int x1), some (.int x2), none, none, none, none] [] (enc σ) (qI Q)) ∧ ((gY σ 7) = 0 → CM S m_Md_here [.ref 153] (enc σ) (qI (fun v3 τ4 => ((¬ x2 = (5 : Int32) → BW S m_Md_agree 52 [some (.ref 153), some (.int x1), some (.int x2), some (.int x3), some (.int x4), none, none] [] (enc τ4) (qI Q)) ∧ (x2 = (5 : Int32) → CM S m_Md_here [.ref 153] (enc τ4) (qI (fun v5 τ6 => CM S m_Md_isDigit [.int v5] (enc τ6) (qI (fun v7 τ8 => ((v7 = 0 → BW S m_Md_agree 52 [some (.ref 153), some (.int x1), some (.int x2), some (.int x3), some (.int x4), none, none] [] (enc τ8) (qI Q)) ∧ (¬ v7 = 0 → CM S m_Md_blame [.ref 153, .int (1 : Int32), .int (gY τ8 9)] (enc τ8) (qV (fun τ10 => BW S m_Md_agree 52 [some (.ref 153), some (.int x1), some (.int x2), some (.int x3), some (.int x4), none, none] [] (enc τ10) (qI Q)))))))))))))))))) : BW S m_Md_agree 11 [some (.ref 153), some (.int x1), some (.int x2), some (.int x3), some (.int x4), none, none] [] (enc σ) (qI Q) := by
  refine b_iload d_Md_agree_11 rfl ?_
  refine b_if_eq (tgt := 199) d_Md_agree_13 (by decide) (fun c14 => ?_) (fun c14 => ?_)
  · have H := H.1 c14
    exact b_mask [true, true, true, false, false, true, true] rfl H
  · have H := H.2 c14
    refine b_aload_n d_Md_agree_16 rfl rfl ?_
    refine b_getf (v := .int (gY σ 7)) d_Md_agree_17 fl_Md_75 (eg_153 σ) rfl ?_
    refine b_if_ne (tgt := 199) d_Md_agree_20 (by decide) (fun c13 => ?_) (fun c13 => ?_)
    · have H := H.1 c13
      exact b_mask [true, true, true, false, false, true, true] rfl H
    · have H := H.2 c13
      refine b_aload_n d_Md_agree_23 rfl rfl ?_
      refine b_callVi (Mc := m_Md_here) (As := []) (st := []) d_Md_agree_24 ⟨⟨kA_Md_here.1, kA_Md_here.2.1, kA_Md_here.2.2, by decide⟩, ml_Md_205, kV_Md_here⟩ (eg_153 σ) rfl rfl (Nat.le_of_ble_eq_true rfl) H (fun v3 τ4 H => ?_)
      refine b_pop d_Md_agree_27 rfl ?_
      refine b_iload_n d_Md_agree_28 rfl rfl ?_
      refine b_iconst (v := (5 : Int32)) d_Md_agree_29 (by decide) ?_
      refine b_icmp_ne (tgt := 52) d_Md_agree_30 (by decide) (fun c12 => ?_) (fun c12 => ?_)
      · have H := H.1 c12
        exact b_mask [true, true, true, true, true, true, true] rfl H
      · have H := H.2 c12
        refine b_aload_n d_Md_agree_33 rfl rfl ?_
        refine b_callVi (Mc := m_Md_here) (As := []) (st := []) d_Md_agree_34 ⟨⟨kA_Md_here.1, kA_Md_here.2.1, kA_Md_here.2.2, by decide⟩, ml_Md_205, kV_Md_here⟩ (eg_153 τ4) rfl rfl (Nat.le_of_ble_eq_true rfl) H (fun v5 τ6 H => ?_)
        refine b_callSi (Mc := m_Md_isDigit) (As := [.int v5]) (st := []) d_Md_agree_37 ⟨⟨kA_Md_isDigit.1, kA_Md_isDigit.2.1, kA_Md_isDigit.2.2, by decide⟩, ml_Md_225, kS_Md_isDigit⟩ rfl rfl (Nat.le_of_ble_eq_true rfl) H (fun v7 τ8 H => ?_)
        refine b_if_eq (tgt := 52) d_Md_agree_40 (by decide) (fun c11 => ?_) (fun c11 => ?_)
        · have H := H.1 c11
          exact b_mask [true, true, true, true, true, true, true] rfl H
        · have H := H.2 c11
          refine b_aload_n d_Md_agree_43 rfl rfl ?_
          refine b_iconst (v := (1 : Int32)) d_Md_agree_44 (by decide) ?_
          refine b_aload_n d_Md_agree_45 rfl rfl ?_
          refine b_getf (v := .int (gY τ8 9)) d_Md_agree_46 fl_Md_81 (eg_153 τ8) rfl ?_
          refine b_callVv (Mc := m_Md_blame) (As := [.int (1 : Int32), .int (gY τ8 9)]) (st := []) d_Md_agree_49 ⟨⟨kA_Md_blame.1, kA_Md_blame.2.1, kA_Md_blame.2.2, by decide⟩, ml_Md_209, kV_Md_blame⟩ (eg_153 τ8) rfl rfl (Nat.le_of_ble_eq_true rfl) H (fun τ10 H => ?_)
          exact b_mask [true, true, true, true, true, true, true] rfl H
set_option maxHeartbeats 4000000 in
set_option maxRecDepth 100000 in
theorem B_Md_agree_199 {S : XS} {Q : Int32 → St → Prop} (σ : St) (x1 : Int32) (x2 : Int32) (H : ((¬ (gY σ 7) = 0 → BW S m_Md_agree 226 [some (.ref 153), some (.int x1), some (.int x2), none, none, none, none] [] (enc σ) (qI Q)) ∧ ((gY σ 7) = 0 → CM S m_Md_passes [.ref 153, .long (1818326117 : Int64), .int (4 : Int32)] (enc σ) (qI (fun v15 τ16 => ((¬ v15 = 0 → BW S m_Md_agree 226 [some (.ref 153), some (.int x1), some (.int x2), none, none, none, none] [] (enc τ16) (qI Q)) ∧ (v15 = 0 → CM S m_Md_blame [.ref 153, .int (1 : Int32), .int (gY τ16 9)] (enc τ16) (qV (fun τ18 => BW S m_Md_agree 226 [some (.ref 153), some (.int x1), some (.int x2), none, none, none, none] [] (enc τ18) (qI Q)))))))))) : BW S m_Md_agree 199 [some (.ref 153), some (.int x1), some (.int x2), none, none, none, none] [] (enc σ) (qI Q) := by
  refine b_aload_n d_Md_agree_199 rfl rfl ?_
  refine b_getf (v := .int (gY σ 7)) d_Md_agree_200 fl_Md_75 (eg_153 σ) rfl ?_
  refine b_if_ne (tgt := 226) d_Md_agree_203 (by decide) (fun c20 => ?_) (fun c20 => ?_)
  · have H := H.1 c20
    exact b_mask [true, true, true, true, true, true, true] rfl H
  · have H := H.2 c20
    refine b_aload_n d_Md_agree_206 rfl rfl ?_
    refine b_ldc2 (v := (1818326117 : Int64)) d_Md_agree_207 cn_Md_279 ?_
    refine b_iconst (v := (4 : Int32)) d_Md_agree_210 (by decide) ?_
    refine b_callVi (Mc := m_Md_passes) (As := [.long (1818326117 : Int64), .int (4 : Int32)]) (st := []) d_Md_agree_211 ⟨⟨kA_Md_passes.1, kA_Md_passes.2.1, kA_Md_passes.2.2, by decide⟩, ml_Md_251, kV_Md_passes⟩ (eg_153 σ) rfl rfl (Nat.le_of_ble_eq_true rfl) H (fun v15 τ16 H => ?_)
    refine b_if_ne (tgt := 226) d_Md_agree_214 (by decide) (fun c19 => ?_) (fun c19 => ?_)
    · have H := H.1 c19
      exact b_mask [true, true, true, true, true, true, true] rfl H
    · have H := H.2 c19
      refine b_aload_n d_Md_agree_217 rfl rfl ?_
      refine b_iconst (v := (1 : Int32)) d_Md_agree_218 (by decide) ?_
      refine b_aload_n d_Md_agree_219 rfl rfl ?_
      refine b_getf (v := .int (gY τ16 9)) d_Md_agree_220 fl_Md_81 (eg_153 τ16) rfl ?_
      refine b_callVv (Mc := m_Md_blame) (As := [.int (1 : Int32), .int (gY τ16 9)]) (st := []) d_Md_agree_223 ⟨⟨kA_Md_blame.1, kA_Md_blame.2.1, kA_Md_blame.2.2, by decide⟩, ml_Md_209, kV_Md_blame⟩ (eg_153 τ16) rfl rfl (Nat.le_of_ble_eq_true rfl) H (fun τ18 H => ?_)
      exact b_mask [true, true, true, true, true, true, true] rfl H
set_option maxHeartbeats 4000000 in
set_option maxRecDepth 100000 in
theorem B_Md_agree_52 {S : XS} {Q : Int32 → St → Prop} (σ : St) (x1 : Int32) (x2 : Int32) (x3 : Int32) (x4 : Int32) (H : CM S m_Md_number [.ref 153, .int (0 : Int32), .int (100 : Int32)] (enc σ) (qI (fun v21 τ22 => ((¬ (gY τ22 7) = 0 → BW S m_Md_agree 89 [some (.ref 153), some (.int x1), some (.int x2), some (.int x3), some (.int x4), some (.int v21), none] [] (enc τ22) (qI Q)) ∧ ((gY τ22 7) = 0 → CM S m_Md_passes [.ref 153, .long (31636739359862388 : Int64), .int (7 : Int32)] (enc τ22) (qI (fun v23 τ24 => ((¬ v23 = 0 → BW S m_Md_agree 89 [some (.ref 153), some (.int x1), some (.int x2), some (.int x3), some (.int x4), some (.int v21), none] [] (enc τ24) (qI Q)) ∧ (v23 = 0 → CM S m_Md_blame [.ref 153, .int (1 : Int32), .int (gY τ24 9)] (enc τ24) (qV (fun τ26 => BW S m_Md_agree 89 [some (.ref 153), some (.int x1), some (.int x2), some (.int x3), some (.int x4), some (.int v21), none] [] (enc τ26) (qI Q)))))))))))) : BW S m_Md_agree 52 [some (.ref 153), some (.int x1), some (.int x2), some (.int x3), some (.int x4), none, none] [] (enc σ) (qI Q) := by
  refine b_aload_n d_Md_agree_52 rfl rfl ?_
  refine b_iconst (v := (0 : Int32)) d_Md_agree_53 (by decide) ?_
  refine b_bipush (v := (100 : Int32)) d_Md_agree_54 (by decide) ?_
  refine b_callVi (Mc := m_Md_number) (As := [.int (0 : Int32), .int (100 : Int32)]) (st := []) d_Md_agree_56 ⟨⟨kA_Md_number.1, kA_Md_number.2.1, kA_Md_number.2.2, by decide⟩, ml_Md_271, kV_Md_number⟩ (eg_153 σ) rfl rfl (Nat.le_of_ble_eq_true rfl) H (fun v21 τ22 H => ?_)
  refine b_istore (ls' := [some (.ref 153), some (.int x1), some (.int x2), some (.int x3), some (.int x4), some (.int v21), none]) d_Md_agree_59 (Nat.le_of_ble_eq_true rfl) rfl ?_
  refine b_aload_n d_Md_agree_61 rfl rfl ?_
  refine b_getf (v := .int (gY τ22 7)) d_Md_agree_62 fl_Md_75 (eg_153 τ22) rfl ?_
  refine b_if_ne (tgt := 89) d_Md_agree_65 (by decide) (fun c28 => ?_) (fun c28 => ?_)
  · have H := H.1 c28
    exact b_mask [true, true, true, true, true, true, true] rfl H
  · have H := H.2 c28
    refine b_aload_n d_Md_agree_68 rfl rfl ?_
    refine b_ldc2 (v := (31636739359862388 : Int64)) d_Md_agree_69 cn_Md_274 ?_
    refine b_bipush (v := (7 : Int32)) d_Md_agree_72 (by decide) ?_
    refine b_callVi (Mc := m_Md_passes) (As := [.long (31636739359862388 : Int64), .int (7 : Int32)]) (st := []) d_Md_agree_74 ⟨⟨kA_Md_passes.1, kA_Md_passes.2.1, kA_Md_passes.2.2, by decide⟩, ml_Md_251, kV_Md_passes⟩ (eg_153 τ22) rfl rfl (Nat.le_of_ble_eq_true rfl) H (fun v23 τ24 H => ?_)
    refine b_if_ne (tgt := 89) d_Md_agree_77 (by decide) (fun c27 => ?_) (fun c27 => ?_)
    · have H := H.1 c27
      exact b_mask [true, true, true, true, true, true, true] rfl H
    · have H := H.2 c27
      refine b_aload_n d_Md_agree_80 rfl rfl ?_
      refine b_iconst (v := (1 : Int32)) d_Md_agree_81 (by decide) ?_
      refine b_aload_n d_Md_agree_82 rfl rfl ?_
      refine b_getf (v := .int (gY τ24 9)) d_Md_agree_83 fl_Md_81 (eg_153 τ24) rfl ?_
      refine b_callVv (Mc := m_Md_blame) (As := [.int (1 : Int32), .int (gY τ24 9)]) (st := []) d_Md_agree_86 ⟨⟨kA_Md_blame.1, kA_Md_blame.2.1, kA_Md_blame.2.2, by decide⟩, ml_Md_209, kV_Md_blame⟩ (eg_153 τ24) rfl rfl (Nat.le_of_ble_eq_true rfl) H (fun τ26 H => ?_)
      exact b_mask [true, true, true, true, true, true, true] rfl H
set_option maxHeartbeats 4000000 in
set_option maxRecDepth 100000 in
theorem B_Md_agree_226 {S : XS} {Q : Int32 → St → Prop} (σ : St) (x1 : Int32) (x2 : Int32) (H : ((¬ (gY σ 7) = 0 → CM S m_Md_ends [.ref 153] (enc σ) (qV (fun τ30 => (((gY τ30 7) ≤ 0 → CM S m_Md_isPart [.int x1] (enc τ30) (qI (fun v31 τ32 => ((v31 = 0 → BW S m_Md_agree 276 [none, none, none, none, none, none, none] [] (enc τ32) (qI Q)) ∧ (¬ v31 = 0 → ((¬ (gY τ32 13) = (12 : Int32) → (vp_in (gY τ32 13) 13) ∧ Q (((gY τ32 13) + (1 : Int32)) - (1 : Int32)) (sY (sC (sC (sC τ32 24 (upd (gC τ32 24) (gY τ32 13).toNatClampNeg x2)) 25 (upd (gC τ32 25) (gY τ32 13).toNatClampNeg (0 : Int32))) 26 (upd (gC τ32 26) (gY τ32 13).toNatClampNeg x1)) 13 ((gY τ32 13) + (1 : Int32)))) ∧ ((gY τ32 13) = (12 : Int32) → BW S m_Md_agree 276 [none, none, none, none, none, none, none] [] (enc τ32) (qI Q)))))))) ∧ (¬ (gY τ30 7) ≤ 0 → Q (-1 : Int32) τ30))))) ∧ ((gY σ 7) = 0 → CM S m_Md_number [.ref 153, .int (0 : Int32), .int (9999 : Int32)] (enc σ) (qI (fun v37 τ38 => CM S m_Md_ends [.ref 153] (enc τ38) (qV (fun τ40 => (((gY τ40 7) ≤ 0 → CM S m_Md_isPart [.int x1] (enc τ40) (qI (fun v41 τ42 => ((v41 = 0 → BW S m_Md_agree 276 [none, none, none, none, none, none, none] [] (enc τ42) (qI Q)) ∧ (¬ v41 = 0 → ((¬ (gY τ42 13) = (12 : Int32) → (vp_in (gY τ42 13) 13) ∧ Q (((gY τ42 13) + (1 : Int32)) - (1 : Int32)) (sY (sC (sC (sC τ42 24 (upd (gC τ42 24) (gY τ42 13).toNatClampNeg x2)) 25 (upd (gC τ42 25) (gY τ42 13).toNatClampNeg v37)) 26 (upd (gC τ42 26) (gY τ42 13).toNatClampNeg x1)) 13 ((gY τ42 13) + (1 : Int32)))) ∧ ((gY τ42 13) = (12 : Int32) → BW S m_Md_agree 276 [none, none, none, none, none, none, none] [] (enc τ42) (qI Q)))))))) ∧ (¬ (gY τ40 7) ≤ 0 → Q (-1 : Int32) τ40))))))))) : BW S m_Md_agree 226 [some (.ref 153), some (.int x1), some (.int x2), none, none, none, none] [] (enc σ) (qI Q) := by
  refine b_aload_n d_Md_agree_226 rfl rfl ?_
  refine b_getf (v := .int (gY σ 7)) d_Md_agree_227 fl_Md_75 (eg_153 σ) rfl ?_
  refine b_if_ne (tgt := 244) d_Md_agree_230 (by decide) (fun c47 => ?_) (fun c47 => ?_)
  · have H := H.1 c47
    refine b_iconst (v := (0 : Int32)) d_Md_agree_244 (by decide) ?_
    refine b_istore (ls' := [some (.ref 153), some (.int x1), some (.int x2), none, none, some (.int (0 : Int32)), none]) d_Md_agree_245 (Nat.le_of_ble_eq_true rfl) rfl ?_
    refine b_aload_n d_Md_agree_247 rfl rfl ?_
    refine b_callVv (Mc := m_Md_ends) (As := []) (st := []) d_Md_agree_248 ⟨⟨kA_Md_ends.1, kA_Md_ends.2.1, kA_Md_ends.2.2, by decide⟩, ml_Md_255, kV_Md_ends⟩ (eg_153 σ) rfl rfl (Nat.le_of_ble_eq_true rfl) H (fun τ30 H => ?_)
    refine b_aload_n d_Md_agree_251 rfl rfl ?_
    refine b_getf (v := .int (gY τ30 7)) d_Md_agree_252 fl_Md_75 (eg_153 τ30) rfl ?_
    refine b_if_le (tgt := 260) d_Md_agree_255 (by decide) (fun c36 => ?_) (fun c36 => ?_)
    · have H := H.1 c36
      refine b_iload_n d_Md_agree_260 rfl rfl ?_
      refine b_callSi (Mc := m_Md_isPart) (As := [.int x1]) (st := []) d_Md_agree_261 ⟨⟨kA_Md_isPart.1, kA_Md_isPart.2.1, kA_Md_isPart.2.2, by decide⟩, ml_Md_234, kS_Md_isPart⟩ rfl rfl (Nat.le_of_ble_eq_true rfl) H (fun v31 τ32 H => ?_)
      refine b_if_eq (tgt := 276) d_Md_agree_264 (by decide) (fun c35 => ?_) (fun c35 => ?_)
      · have H := H.1 c35
        exact b_mask [false, false, false, true, true, false, true] rfl H
      · have H := H.2 c35
        refine b_aload_n d_Md_agree_267 rfl rfl ?_
        refine b_getf (v := .int (gY τ32 13)) d_Md_agree_268 fl_Md_120 (eg_153 τ32) rfl ?_
        refine b_bipush (v := (12 : Int32)) d_Md_agree_271 (by decide) ?_
        refine b_icmp_ne (tgt := 279) d_Md_agree_273 (by decide) (fun c34 => ?_) (fun c34 => ?_)
        · have H := H.1 c34
          refine b_aload_n d_Md_agree_279 rfl rfl ?_
          refine b_getf (v := .ref 178) d_Md_agree_280 fl_Md_126 (eg_153 τ32) rfl ?_
          refine b_aload_n d_Md_agree_283 rfl rfl ?_
          refine b_getf (v := .int (gY τ32 13)) d_Md_agree_284 fl_Md_120 (eg_153 τ32) rfl ?_
          refine b_iload_n d_Md_agree_287 rfl rfl ?_
          obtain ⟨h33, H⟩ := H
          refine b_iast (h1 := enc (sC τ32 24 (upd (gC τ32 24) (gY τ32 13).toNatClampNeg x2))) d_Md_agree_288 (eg_178 τ32) h33 (es_178 τ32 (upd (gC τ32 24) (gY τ32 13).toNatClampNeg x2)) ?_
          refine b_aload_n d_Md_agree_289 rfl rfl ?_
          refine b_getf (v := .ref 179) d_Md_agree_290 fl_Md_129 (eg_153 (sC τ32 24 (upd (gC τ32 24) (gY τ32 13).toNatClampNeg x2))) rfl ?_
          refine b_aload_n d_Md_agree_293 rfl rfl ?_
          refine b_getf (v := .int (gY τ32 13)) d_Md_agree_294 fl_Md_120 (eg_153 (sC τ32 24 (upd (gC τ32 24) (gY τ32 13).toNatClampNeg x2))) rfl ?_
          refine b_iload d_Md_agree_297 rfl ?_
          refine b_iast (h1 := enc (sC (sC τ32 24 (upd (gC τ32 24) (gY τ32 13).toNatClampNeg x2)) 25 (upd (gC τ32 25) (gY τ32 13).toNatClampNeg (0 : Int32)))) d_Md_agree_299 (eg_179 (sC τ32 24 (upd (gC τ32 24) (gY τ32 13).toNatClampNeg x2))) h33 (es_179 (sC τ32 24 (upd (gC τ32 24) (gY τ32 13).toNatClampNeg x2)) (upd (gC τ32 25) (gY τ32 13).toNatClampNeg (0 : Int32))) ?_
          refine b_aload_n d_Md_agree_300 rfl rfl ?_
          refine b_getf (v := .ref 180) d_Md_agree_301 fl_Md_132 (eg_153 (sC (sC τ32 24 (upd (gC τ32 24) (gY τ32 13).toNatClampNeg x2)) 25 (upd (gC τ32 25) (gY τ32 13).toNatClampNeg (0 : Int32)))) rfl ?_
          refine b_aload_n d_Md_agree_304 rfl rfl ?_
          refine b_getf (v := .int (gY τ32 13)) d_Md_agree_305 fl_Md_120 (eg_153 (sC (sC τ32 24 (upd (gC τ32 24) (gY τ32 13).toNatClampNeg x2)) 25 (upd (gC τ32 25) (gY τ32 13).toNatClampNeg (0 : Int32)))) rfl ?_
          refine b_iload_n d_Md_agree_308 rfl rfl ?_
          refine b_iast (h1 := enc (sC (sC (sC τ32 24 (upd (gC τ32 24) (gY τ32 13).toNatClampNeg x2)) 25 (upd (gC τ32 25) (gY τ32 13).toNatClampNeg (0 : Int32))) 26 (upd (gC τ32 26) (gY τ32 13).toNatClampNeg x1))) d_Md_agree_309 (eg_180 (sC (sC τ32 24 (upd (gC τ32 24) (gY τ32 13).toNatClampNeg x2)) 25 (upd (gC τ32 25) (gY τ32 13).toNatClampNeg (0 : Int32)))) h33 (es_180 (sC (sC τ32 24 (upd (gC τ32 24) (gY τ32 13).toNatClampNeg x2)) 25 (upd (gC τ32 25) (gY τ32 13).toNatClampNeg (0 : Int32))) (upd (gC τ32 26) (gY τ32 13).toNatClampNeg x1)) ?_
          refine b_aload_n d_Md_agree_310 rfl rfl ?_
          refine b_dup d_Md_agree_311 rfl ?_
          refine b_getf (v := .int (gY τ32 13)) d_Md_agree_312 fl_Md_120 (eg_153 (sC (sC (sC τ32 24 (upd (gC τ32 24) (gY τ32 13).toNatClampNeg x2)) 25 (upd (gC τ32 25) (gY τ32 13).toNatClampNeg (0 : Int32))) 26 (upd (gC τ32 26) (gY τ32 13).toNatClampNeg x1))) rfl ?_
          refine b_iconst (v := (1 : Int32)) d_Md_agree_315 (by decide) ?_
          refine b_iadd d_Md_agree_316  ?_
          refine b_putf (ty := .int) (h1 := enc (sY (sC (sC (sC τ32 24 (upd (gC τ32 24) (gY τ32 13).toNatClampNeg x2)) 25 (upd (gC τ32 25) (gY τ32 13).toNatClampNeg (0 : Int32))) 26 (upd (gC τ32 26) (gY τ32 13).toNatClampNeg x1)) 13 ((gY τ32 13) + (1 : Int32)))) d_Md_agree_317 fl_Md_120 ft_12_36 (fun _ => ⟨rfl, rfl⟩) (eg_153 (sC (sC (sC τ32 24 (upd (gC τ32 24) (gY τ32 13).toNatClampNeg x2)) 25 (upd (gC τ32 25) (gY τ32 13).toNatClampNeg (0 : Int32))) 26 (upd (gC τ32 26) (gY τ32 13).toNatClampNeg x1))) (Nat.le_of_ble_eq_true rfl) (es_153_36 (sC (sC (sC τ32 24 (upd (gC τ32 24) (gY τ32 13).toNatClampNeg x2)) 25 (upd (gC τ32 25) (gY τ32 13).toNatClampNeg (0 : Int32))) 26 (upd (gC τ32 26) (gY τ32 13).toNatClampNeg x1)) ((gY τ32 13) + (1 : Int32))) ?_
          refine b_aload_n d_Md_agree_320 rfl rfl ?_
          refine b_getf (v := .int ((gY τ32 13) + (1 : Int32))) d_Md_agree_321 fl_Md_120 (eg_153 (sY (sC (sC (sC τ32 24 (upd (gC τ32 24) (gY τ32 13).toNatClampNeg x2)) 25 (upd (gC τ32 25) (gY τ32 13).toNatClampNeg (0 : Int32))) 26 (upd (gC τ32 26) (gY τ32 13).toNatClampNeg x1)) 13 ((gY τ32 13) + (1 : Int32)))) rfl ?_
          refine b_iconst (v := (1 : Int32)) d_Md_agree_324 (by decide) ?_
          refine b_isub d_Md_agree_325  ?_
          exact b_iret (ty := .int) d_Md_agree_326 rfl rfl ⟨_, _, rfl, rfl, H⟩
        · have H := H.2 c34
          exact b_mask [false, false, false, true, true, false, true] rfl H
    · have H := H.2 c36
      refine b_iconst (v := (-1 : Int32)) d_Md_agree_258 (by decide) ?_
      exact b_iret (ty := .int) d_Md_agree_259 rfl rfl ⟨_, _, rfl, rfl, H⟩
  · have H := H.2 c47
    refine b_aload_n d_Md_agree_233 rfl rfl ?_
    refine b_iconst (v := (0 : Int32)) d_Md_agree_234 (by decide) ?_
    refine b_sipush (v := (9999 : Int32)) d_Md_agree_235 (by decide) ?_
    refine b_callVi (Mc := m_Md_number) (As := [.int (0 : Int32), .int (9999 : Int32)]) (st := []) d_Md_agree_238 ⟨⟨kA_Md_number.1, kA_Md_number.2.1, kA_Md_number.2.2, by decide⟩, ml_Md_271, kV_Md_number⟩ (eg_153 σ) rfl rfl (Nat.le_of_ble_eq_true rfl) H (fun v37 τ38 H => ?_)
    refine b_goto (tgt := 245) d_Md_agree_241 (by decide) ?_
    refine b_istore (ls' := [some (.ref 153), some (.int x1), some (.int x2), none, none, some (.int v37), none]) d_Md_agree_245 (Nat.le_of_ble_eq_true rfl) rfl ?_
    refine b_aload_n d_Md_agree_247 rfl rfl ?_
    refine b_callVv (Mc := m_Md_ends) (As := []) (st := []) d_Md_agree_248 ⟨⟨kA_Md_ends.1, kA_Md_ends.2.1, kA_Md_ends.2.2, by decide⟩, ml_Md_255, kV_Md_ends⟩ (eg_153 τ38) rfl rfl (Nat.le_of_ble_eq_true rfl) H (fun τ40 H => ?_)
    refine b_aload_n d_Md_agree_251 rfl rfl ?_
    refine b_getf (v := .int (gY τ40 7)) d_Md_agree_252 fl_Md_75 (eg_153 τ40) rfl ?_
    refine b_if_le (tgt := 260) d_Md_agree_255 (by decide) (fun c46 => ?_) (fun c46 => ?_)
    · have H := H.1 c46
      refine b_iload_n d_Md_agree_260 rfl rfl ?_
      refine b_callSi (Mc := m_Md_isPart) (As := [.int x1]) (st := []) d_Md_agree_261 ⟨⟨kA_Md_isPart.1, kA_Md_isPart.2.1, kA_Md_isPart.2.2, by decide⟩, ml_Md_234, kS_Md_isPart⟩ rfl rfl (Nat.le_of_ble_eq_true rfl) H (fun v41 τ42 H => ?_)
      refine b_if_eq (tgt := 276) d_Md_agree_264 (by decide) (fun c45 => ?_) (fun c45 => ?_)
      · have H := H.1 c45
        exact b_mask [false, false, false, true, true, false, true] rfl H
      · have H := H.2 c45
        refine b_aload_n d_Md_agree_267 rfl rfl ?_
        refine b_getf (v := .int (gY τ42 13)) d_Md_agree_268 fl_Md_120 (eg_153 τ42) rfl ?_
        refine b_bipush (v := (12 : Int32)) d_Md_agree_271 (by decide) ?_
        refine b_icmp_ne (tgt := 279) d_Md_agree_273 (by decide) (fun c44 => ?_) (fun c44 => ?_)
        · have H := H.1 c44
          refine b_aload_n d_Md_agree_279 rfl rfl ?_
          refine b_getf (v := .ref 178) d_Md_agree_280 fl_Md_126 (eg_153 τ42) rfl ?_
          refine b_aload_n d_Md_agree_283 rfl rfl ?_
          refine b_getf (v := .int (gY τ42 13)) d_Md_agree_284 fl_Md_120 (eg_153 τ42) rfl ?_
          refine b_iload_n d_Md_agree_287 rfl rfl ?_
          obtain ⟨h43, H⟩ := H
          refine b_iast (h1 := enc (sC τ42 24 (upd (gC τ42 24) (gY τ42 13).toNatClampNeg x2))) d_Md_agree_288 (eg_178 τ42) h43 (es_178 τ42 (upd (gC τ42 24) (gY τ42 13).toNatClampNeg x2)) ?_
          refine b_aload_n d_Md_agree_289 rfl rfl ?_
          refine b_getf (v := .ref 179) d_Md_agree_290 fl_Md_129 (eg_153 (sC τ42 24 (upd (gC τ42 24) (gY τ42 13).toNatClampNeg x2))) rfl ?_
          refine b_aload_n d_Md_agree_293 rfl rfl ?_
          refine b_getf (v := .int (gY τ42 13)) d_Md_agree_294 fl_Md_120 (eg_153 (sC τ42 24 (upd (gC τ42 24) (gY τ42 13).toNatClampNeg x2))) rfl ?_
          refine b_iload d_Md_agree_297 rfl ?_
          refine b_iast (h1 := enc (sC (sC τ42 24 (upd (gC τ42 24) (gY τ42 13).toNatClampNeg x2)) 25 (upd (gC τ42 25) (gY τ42 13).toNatClampNeg v37))) d_Md_agree_299 (eg_179 (sC τ42 24 (upd (gC τ42 24) (gY τ42 13).toNatClampNeg x2))) h43 (es_179 (sC τ42 24 (upd (gC τ42 24) (gY τ42 13).toNatClampNeg x2)) (upd (gC τ42 25) (gY τ42 13).toNatClampNeg v37)) ?_
          refine b_aload_n d_Md_agree_300 rfl rfl ?_
          refine b_getf (v := .ref 180) d_Md_agree_301 fl_Md_132 (eg_153 (sC (sC τ42 24 (upd (gC τ42 24) (gY τ42 13).toNatClampNeg x2)) 25 (upd (gC τ42 25) (gY τ42 13).toNatClampNeg v37))) rfl ?_
          refine b_aload_n d_Md_agree_304 rfl rfl ?_
          refine b_getf (v := .int (gY τ42 13)) d_Md_agree_305 fl_Md_120 (eg_153 (sC (sC τ42 24 (upd (gC τ42 24) (gY τ42 13).toNatClampNeg x2)) 25 (upd (gC τ42 25) (gY τ42 13).toNatClampNeg v37))) rfl ?_
          refine b_iload_n d_Md_agree_308 rfl rfl ?_
          refine b_iast (h1 := enc (sC (sC (sC τ42 24 (upd (gC τ42 24) (gY τ42 13).toNatClampNeg x2)) 25 (upd (gC τ42 25) (gY τ42 13).toNatClampNeg v37)) 26 (upd (gC τ42 26) (gY τ42 13).toNatClampNeg x1))) d_Md_agree_309 (eg_180 (sC (sC τ42 24 (upd (gC τ42 24) (gY τ42 13).toNatClampNeg x2)) 25 (upd (gC τ42 25) (gY τ42 13).toNatClampNeg v37))) h43 (es_180 (sC (sC τ42 24 (upd (gC τ42 24) (gY τ42 13).toNatClampNeg x2)) 25 (upd (gC τ42 25) (gY τ42 13).toNatClampNeg v37)) (upd (gC τ42 26) (gY τ42 13).toNatClampNeg x1)) ?_
          refine b_aload_n d_Md_agree_310 rfl rfl ?_
          refine b_dup d_Md_agree_311 rfl ?_
          refine b_getf (v := .int (gY τ42 13)) d_Md_agree_312 fl_Md_120 (eg_153 (sC (sC (sC τ42 24 (upd (gC τ42 24) (gY τ42 13).toNatClampNeg x2)) 25 (upd (gC τ42 25) (gY τ42 13).toNatClampNeg v37)) 26 (upd (gC τ42 26) (gY τ42 13).toNatClampNeg x1))) rfl ?_
          refine b_iconst (v := (1 : Int32)) d_Md_agree_315 (by decide) ?_
          refine b_iadd d_Md_agree_316  ?_
          refine b_putf (ty := .int) (h1 := enc (sY (sC (sC (sC τ42 24 (upd (gC τ42 24) (gY τ42 13).toNatClampNeg x2)) 25 (upd (gC τ42 25) (gY τ42 13).toNatClampNeg v37)) 26 (upd (gC τ42 26) (gY τ42 13).toNatClampNeg x1)) 13 ((gY τ42 13) + (1 : Int32)))) d_Md_agree_317 fl_Md_120 ft_12_36 (fun _ => ⟨rfl, rfl⟩) (eg_153 (sC (sC (sC τ42 24 (upd (gC τ42 24) (gY τ42 13).toNatClampNeg x2)) 25 (upd (gC τ42 25) (gY τ42 13).toNatClampNeg v37)) 26 (upd (gC τ42 26) (gY τ42 13).toNatClampNeg x1))) (Nat.le_of_ble_eq_true rfl) (es_153_36 (sC (sC (sC τ42 24 (upd (gC τ42 24) (gY τ42 13).toNatClampNeg x2)) 25 (upd (gC τ42 25) (gY τ42 13).toNatClampNeg v37)) 26 (upd (gC τ42 26) (gY τ42 13).toNatClampNeg x1)) ((gY τ42 13) + (1 : Int32))) ?_
          refine b_aload_n d_Md_agree_320 rfl rfl ?_
          refine b_getf (v := .int ((gY τ42 13) + (1 : Int32))) d_Md_agree_321 fl_Md_120 (eg_153 (sY (sC (sC (sC τ42 24 (upd (gC τ42 24) (gY τ42 13).toNatClampNeg x2)) 25 (upd (gC τ42 25) (gY τ42 13).toNatClampNeg v37)) 26 (upd (gC τ42 26) (gY τ42 13).toNatClampNeg x1)) 13 ((gY τ42 13) + (1 : Int32)))) rfl ?_
          refine b_iconst (v := (1 : Int32)) d_Md_agree_324 (by decide) ?_
          refine b_isub d_Md_agree_325  ?_
          exact b_iret (ty := .int) d_Md_agree_326 rfl rfl ⟨_, _, rfl, rfl, H⟩
        · have H := H.2 c44
          exact b_mask [false, false, false, true, true, false, true] rfl H
    · have H := H.2 c46
      refine b_iconst (v := (-1 : Int32)) d_Md_agree_258 (by decide) ?_
      exact b_iret (ty := .int) d_Md_agree_259 rfl rfl ⟨_, _, rfl, rfl, H⟩
set_option maxHeartbeats 4000000 in
set_option maxRecDepth 100000 in
theorem B_Md_agree_89 {S : XS} {Q : Int32 → St → Prop} (σ : St) (x1 : Int32) (x2 : Int32) (x3 : Int32) (x4 : Int32) (x5 : Int32) (H : (((gY σ 7) ≤ 0 → CM S m_Md_passes [.ref 153, .long (29807 : Int64), .int (2 : Int32)] (enc σ) (qI (fun v48 τ49 => ((v48 = 0 → (((gY τ49 7) ≤ 0 → (vp_in (((10 : Int32) * (gY τ49 13)) + ((2 : Int32) * x2)) 130) ∧ (vp_in ((((10 : Int32) * (gY τ49 13)) + ((2 : Int32) * x2)) + (1 : Int32)) 130) ∧ ((v48 = 0 → BW S m_Md_agree 196 [some (.ref 153), some (.int x1), some (.int (x2 + (1 : Int32))), some (.int (1000000000 : Int32)), some (.int v48), none, none] [] (enc (sC (sC τ49 23 (upd (gC τ49 23) (((10 : Int32) * (gY τ49 13)) + ((2 : Int32) * x2)).toNatClampNeg x5)) 23 (upd (upd (gC τ49 23) (((10 : Int32) * (gY τ49 13)) + ((2 : Int32) * x2)).toNatClampNeg x5) ((((10 : Int32) * (gY τ49 13)) + ((2 : Int32) * x2)) + (1 : Int32)).toNatClampNeg (1000000000 : Int32)))) (qI Q)) ∧ (¬ v48 = 0 → CM S m_Md_must [.ref 153, .int (44 : Int32)] (enc (sC (sC τ49 23 (upd (gC τ49 23) (((10 : Int32) * (gY τ49 13)) + ((2 : Int32) * x2)).toNatClampNeg x5)) 23 (upd (upd (gC τ49 23) (((10 : Int32) * (gY τ49 13)) + ((2 : Int32) * x2)).toNatClampNeg x5) ((((10 : Int32) * (gY τ49 13)) + ((2 : Int32) * x2)) + (1 : Int32)).toNatClampNeg (1000000000 : Int32)))) (qV (fun τ53 => BW S m_Md_agree 196 [some (.ref 153), some (.int x1), some (.int (x2 + (1 : Int32))), some (.int (1000000000 : Int32)), some (.int v48), none, none] [] (enc τ53) (qI Q)))))) ∧ (¬ (gY τ49 7) ≤ 0 → BW S m_Md_agree 11 [some (.ref 153), some (.int x1), some (.int x2), some (.int x3), some (.int v48), none, none] [] (enc τ49) (qI Q)))) ∧ (¬ v48 = 0 → CM S m_Md_number [.ref 153, .int (x3 + (1 : Int32)), .int (99999 : Int32)] (enc τ49) (qI (fun v56 τ57 => (((gY τ57 7) ≤ 0 → (vp_in (((10 : Int32) * (gY τ57 13)) + ((2 : Int32) * x2)) 130) ∧ (vp_in ((((10 : Int32) * (gY τ57 13)) + ((2 : Int32) * x2)) + (1 : Int32)) 130) ∧ ((v48 = 0 → BW S m_Md_agree 196 [some (.ref 153), some (.int x1), some (.int (x2 + (1 : Int32))), some (.int v56), some (.int v48), none, none] [] (enc (sC (sC τ57 23 (upd (gC τ57 23) (((10 : Int32) * (gY τ57 13)) + ((2 : Int32) * x2)).toNatClampNeg x5)) 23 (upd (upd (gC τ57 23) (((10 : Int32) * (gY τ57 13)) + ((2 : Int32) * x2)).toNatClampNeg x5) ((((10 : Int32) * (gY τ57 13)) + ((2 : Int32) * x2)) + (1 : Int32)).toNatClampNeg v56))) (qI Q)) ∧ (¬ v48 = 0 → CM S m_Md_must [.ref 153, .int (44 : Int32)] (enc (sC (sC τ57 23 (upd (gC τ57 23) (((10 : Int32) * (gY τ57 13)) + ((2 : Int32) * x2)).toNatClampNeg x5)) 23 (upd (upd (gC τ57 23) (((10 : Int32) * (gY τ57 13)) + ((2 : Int32) * x2)).toNatClampNeg x5) ((((10 : Int32) * (gY τ57 13)) + ((2 : Int32) * x2)) + (1 : Int32)).toNatClampNeg v56))) (qV (fun τ61 => BW S m_Md_agree 196 [some (.ref 153), some (.int x1), some (.int (x2 + (1 : Int32))), some (.int v56), some (.int v48), none, none] [] (enc τ61) (qI Q)))))) ∧ (¬ (gY τ57 7) ≤ 0 → BW S m_Md_agree 11 [some (.ref 153), some (.int x1), some (.int x2), some (.int x3), some (.int v48), none, none] [] (enc τ57) (qI Q)))))))))) ∧ (¬ (gY σ 7) ≤ 0 → BW S m_Md_agree 11 [some (.ref 153), some (.int x1), some (.int x2), some (.int x3), some (.int x4), none, none] [] (enc σ) (qI Q)))) : BW S m_Md_agree 89 [some (.ref 153), some (.int x1), some (.int x2), some (.int x3), some (.int x4), some (.int x5), none] [] (enc σ) (qI Q) := by
  refine b_aload_n d_Md_agree_89 rfl rfl ?_
  refine b_getf (v := .int (gY σ 7)) d_Md_agree_90 fl_Md_75 (eg_153 σ) rfl ?_
  refine b_if_le (tgt := 99) d_Md_agree_93 (by decide) (fun c65 => ?_) (fun c65 => ?_)
  · have H := H.1 c65
    refine b_aload_n d_Md_agree_99 rfl rfl ?_
    refine b_ldc2 (v := (29807 : Int64)) d_Md_agree_100 cn_Md_276 ?_
    refine b_iconst (v := (2 : Int32)) d_Md_agree_103 (by decide) ?_
    refine b_callVi (Mc := m_Md_passes) (As := [.long (29807 : Int64), .int (2 : Int32)]) (st := []) d_Md_agree_104 ⟨⟨kA_Md_passes.1, kA_Md_passes.2.1, kA_Md_passes.2.2, by decide⟩, ml_Md_251, kV_Md_passes⟩ (eg_153 σ) rfl rfl (Nat.le_of_ble_eq_true rfl) H (fun v48 τ49 H => ?_)
    refine b_istore (ls' := [some (.ref 153), some (.int x1), some (.int x2), some (.int x3), some (.int v48), some (.int x5), none]) d_Md_agree_107 (Nat.le_of_ble_eq_true rfl) rfl ?_
    refine b_iload d_Md_agree_109 rfl ?_
    refine b_if_eq (tgt := 127) d_Md_agree_111 (by decide) (fun c64 => ?_) (fun c64 => ?_)
    · have H := H.1 c64
      refine b_ldc (v := (1000000000 : Int32)) d_Md_agree_127 cn_Md_178 ?_
      refine b_istore (ls' := [some (.ref 153), some (.int x1), some (.int x2), some (.int x3), some (.int v48), some (.int x5), some (.int (1000000000 : Int32))]) d_Md_agree_129 (Nat.le_of_ble_eq_true rfl) rfl ?_
      refine b_aload_n d_Md_agree_131 rfl rfl ?_
      refine b_getf (v := .int (gY τ49 7)) d_Md_agree_132 fl_Md_75 (eg_153 τ49) rfl ?_
      refine b_if_le (tgt := 141) d_Md_agree_135 (by decide) (fun c55 => ?_) (fun c55 => ?_)
      · have H := H.1 c55
        refine b_aload_n d_Md_agree_141 rfl rfl ?_
        refine b_getf (v := .ref 177) d_Md_agree_142 fl_Md_123 (eg_153 τ49) rfl ?_
        refine b_bipush (v := (10 : Int32)) d_Md_agree_145 (by decide) ?_
        refine b_aload_n d_Md_agree_147 rfl rfl ?_
        refine b_getf (v := .int (gY τ49 13)) d_Md_agree_148 fl_Md_120 (eg_153 τ49) rfl ?_
        refine b_imul d_Md_agree_151  ?_
        refine b_iconst (v := (2 : Int32)) d_Md_agree_152 (by decide) ?_
        refine b_iload_n d_Md_agree_153 rfl rfl ?_
        refine b_imul d_Md_agree_154  ?_
        refine b_iadd d_Md_agree_155  ?_
        refine b_iload d_Md_agree_156 rfl ?_
        obtain ⟨h50, H⟩ := H
        refine b_iast (h1 := enc (sC τ49 23 (upd (gC τ49 23) (((10 : Int32) * (gY τ49 13)) + ((2 : Int32) * x2)).toNatClampNeg x5))) d_Md_agree_158 (eg_177 τ49) h50 (es_177 τ49 (upd (gC τ49 23) (((10 : Int32) * (gY τ49 13)) + ((2 : Int32) * x2)).toNatClampNeg x5)) ?_
        refine b_aload_n d_Md_agree_159 rfl rfl ?_
        refine b_getf (v := .ref 177) d_Md_agree_160 fl_Md_123 (eg_153 (sC τ49 23 (upd (gC τ49 23) (((10 : Int32) * (gY τ49 13)) + ((2 : Int32) * x2)).toNatClampNeg x5))) rfl ?_
        refine b_bipush (v := (10 : Int32)) d_Md_agree_163 (by decide) ?_
        refine b_aload_n d_Md_agree_165 rfl rfl ?_
        refine b_getf (v := .int (gY τ49 13)) d_Md_agree_166 fl_Md_120 (eg_153 (sC τ49 23 (upd (gC τ49 23) (((10 : Int32) * (gY τ49 13)) + ((2 : Int32) * x2)).toNatClampNeg x5))) rfl ?_
        refine b_imul d_Md_agree_169  ?_
        refine b_iconst (v := (2 : Int32)) d_Md_agree_170 (by decide) ?_
        refine b_iload_n d_Md_agree_171 rfl rfl ?_
        refine b_imul d_Md_agree_172  ?_
        refine b_iadd d_Md_agree_173  ?_
        refine b_iconst (v := (1 : Int32)) d_Md_agree_174 (by decide) ?_
        refine b_iadd d_Md_agree_175  ?_
        refine b_iload d_Md_agree_176 rfl ?_
        obtain ⟨h51, H⟩ := H
        refine b_iast (h1 := enc (sC (sC τ49 23 (upd (gC τ49 23) (((10 : Int32) * (gY τ49 13)) + ((2 : Int32) * x2)).toNatClampNeg x5)) 23 (upd (upd (gC τ49 23) (((10 : Int32) * (gY τ49 13)) + ((2 : Int32) * x2)).toNatClampNeg x5) ((((10 : Int32) * (gY τ49 13)) + ((2 : Int32) * x2)) + (1 : Int32)).toNatClampNeg (1000000000 : Int32)))) d_Md_agree_178 (eg_177 (sC τ49 23 (upd (gC τ49 23) (((10 : Int32) * (gY τ49 13)) + ((2 : Int32) * x2)).toNatClampNeg x5))) h51 (es_177 (sC τ49 23 (upd (gC τ49 23) (((10 : Int32) * (gY τ49 13)) + ((2 : Int32) * x2)).toNatClampNeg x5)) (upd (upd (gC τ49 23) (((10 : Int32) * (gY τ49 13)) + ((2 : Int32) * x2)).toNatClampNeg x5) ((((10 : Int32) * (gY τ49 13)) + ((2 : Int32) * x2)) + (1 : Int32)).toNatClampNeg (1000000000 : Int32))) ?_
        refine b_iinc (v := (x2 + (1 : Int32))) (ls' := [some (.ref 153), some (.int x1), some (.int (x2 + (1 : Int32))), some (.int x3), some (.int v48), some (.int x5), some (.int (1000000000 : Int32))]) d_Md_agree_179 rfl rfl (Nat.le_of_ble_eq_true rfl) rfl ?_
        refine b_iload d_Md_agree_182 rfl ?_
        refine b_istore_n (ls' := [some (.ref 153), some (.int x1), some (.int (x2 + (1 : Int32))), some (.int (1000000000 : Int32)), some (.int v48), some (.int x5), some (.int (1000000000 : Int32))]) d_Md_agree_184 rfl (Nat.le_of_ble_eq_true rfl) rfl ?_
        refine b_iload d_Md_agree_185 rfl ?_
        refine b_if_eq (tgt := 196) d_Md_agree_187 (by decide) (fun c54 => ?_) (fun c54 => ?_)
        · have H := H.1 c54
          exact b_mask [true, true, true, true, true, false, false] rfl H
        · have H := H.2 c54
          refine b_aload_n d_Md_agree_190 rfl rfl ?_
          refine b_bipush (v := (44 : Int32)) d_Md_agree_191 (by decide) ?_
          refine b_callVv (Mc := m_Md_must) (As := [.int (44 : Int32)]) (st := []) d_Md_agree_193 ⟨⟨kA_Md_must.1, kA_Md_must.2.1, kA_Md_must.2.2, by decide⟩, ml_Md_231, kV_Md_must⟩ (eg_153 (sC (sC τ49 23 (upd (gC τ49 23) (((10 : Int32) * (gY τ49 13)) + ((2 : Int32) * x2)).toNatClampNeg x5)) 23 (upd (upd (gC τ49 23) (((10 : Int32) * (gY τ49 13)) + ((2 : Int32) * x2)).toNatClampNeg x5) ((((10 : Int32) * (gY τ49 13)) + ((2 : Int32) * x2)) + (1 : Int32)).toNatClampNeg (1000000000 : Int32)))) rfl rfl (Nat.le_of_ble_eq_true rfl) H (fun τ53 H => ?_)
          exact b_mask [true, true, true, true, true, false, false] rfl H
      · have H := H.2 c55
        refine b_goto (tgt := 11) d_Md_agree_138 (by decide) ?_
        exact b_mask [true, true, true, true, true, false, false] rfl H
    · have H := H.2 c64
      refine b_aload_n d_Md_agree_114 rfl rfl ?_
      refine b_iload_n d_Md_agree_115 rfl rfl ?_
      refine b_iconst (v := (1 : Int32)) d_Md_agree_116 (by decide) ?_
      refine b_iadd d_Md_agree_117  ?_
      refine b_ldcw (v := (99999 : Int32)) d_Md_agree_118 cn_Md_278 ?_
      refine b_callVi (Mc := m_Md_number) (As := [.int (x3 + (1 : Int32)), .int (99999 : Int32)]) (st := []) d_Md_agree_121 ⟨⟨kA_Md_number.1, kA_Md_number.2.1, kA_Md_number.2.2, by decide⟩, ml_Md_271, kV_Md_number⟩ (eg_153 τ49) rfl rfl (Nat.le_of_ble_eq_true rfl) H (fun v56 τ57 H => ?_)
      refine b_goto (tgt := 129) d_Md_agree_124 (by decide) ?_
      refine b_istore (ls' := [some (.ref 153), some (.int x1), some (.int x2), some (.int x3), some (.int v48), some (.int x5), some (.int v56)]) d_Md_agree_129 (Nat.le_of_ble_eq_true rfl) rfl ?_
      refine b_aload_n d_Md_agree_131 rfl rfl ?_
      refine b_getf (v := .int (gY τ57 7)) d_Md_agree_132 fl_Md_75 (eg_153 τ57) rfl ?_
      refine b_if_le (tgt := 141) d_Md_agree_135 (by decide) (fun c63 => ?_) (fun c63 => ?_)
      · have H := H.1 c63
        refine b_aload_n d_Md_agree_141 rfl rfl ?_
        refine b_getf (v := .ref 177) d_Md_agree_142 fl_Md_123 (eg_153 τ57) rfl ?_
        refine b_bipush (v := (10 : Int32)) d_Md_agree_145 (by decide) ?_
        refine b_aload_n d_Md_agree_147 rfl rfl ?_
        refine b_getf (v := .int (gY τ57 13)) d_Md_agree_148 fl_Md_120 (eg_153 τ57) rfl ?_
        refine b_imul d_Md_agree_151  ?_
        refine b_iconst (v := (2 : Int32)) d_Md_agree_152 (by decide) ?_
        refine b_iload_n d_Md_agree_153 rfl rfl ?_
        refine b_imul d_Md_agree_154  ?_
        refine b_iadd d_Md_agree_155  ?_
        refine b_iload d_Md_agree_156 rfl ?_
        obtain ⟨h58, H⟩ := H
        refine b_iast (h1 := enc (sC τ57 23 (upd (gC τ57 23) (((10 : Int32) * (gY τ57 13)) + ((2 : Int32) * x2)).toNatClampNeg x5))) d_Md_agree_158 (eg_177 τ57) h58 (es_177 τ57 (upd (gC τ57 23) (((10 : Int32) * (gY τ57 13)) + ((2 : Int32) * x2)).toNatClampNeg x5)) ?_
        refine b_aload_n d_Md_agree_159 rfl rfl ?_
        refine b_getf (v := .ref 177) d_Md_agree_160 fl_Md_123 (eg_153 (sC τ57 23 (upd (gC τ57 23) (((10 : Int32) * (gY τ57 13)) + ((2 : Int32) * x2)).toNatClampNeg x5))) rfl ?_
        refine b_bipush (v := (10 : Int32)) d_Md_agree_163 (by decide) ?_
        refine b_aload_n d_Md_agree_165 rfl rfl ?_
        refine b_getf (v := .int (gY τ57 13)) d_Md_agree_166 fl_Md_120 (eg_153 (sC τ57 23 (upd (gC τ57 23) (((10 : Int32) * (gY τ57 13)) + ((2 : Int32) * x2)).toNatClampNeg x5))) rfl ?_
        refine b_imul d_Md_agree_169  ?_
        refine b_iconst (v := (2 : Int32)) d_Md_agree_170 (by decide) ?_
        refine b_iload_n d_Md_agree_171 rfl rfl ?_
        refine b_imul d_Md_agree_172  ?_
        refine b_iadd d_Md_agree_173  ?_
        refine b_iconst (v := (1 : Int32)) d_Md_agree_174 (by decide) ?_
        refine b_iadd d_Md_agree_175  ?_
        refine b_iload d_Md_agree_176 rfl ?_
        obtain ⟨h59, H⟩ := H
        refine b_iast (h1 := enc (sC (sC τ57 23 (upd (gC τ57 23) (((10 : Int32) * (gY τ57 13)) + ((2 : Int32) * x2)).toNatClampNeg x5)) 23 (upd (upd (gC τ57 23) (((10 : Int32) * (gY τ57 13)) + ((2 : Int32) * x2)).toNatClampNeg x5) ((((10 : Int32) * (gY τ57 13)) + ((2 : Int32) * x2)) + (1 : Int32)).toNatClampNeg v56))) d_Md_agree_178 (eg_177 (sC τ57 23 (upd (gC τ57 23) (((10 : Int32) * (gY τ57 13)) + ((2 : Int32) * x2)).toNatClampNeg x5))) h59 (es_177 (sC τ57 23 (upd (gC τ57 23) (((10 : Int32) * (gY τ57 13)) + ((2 : Int32) * x2)).toNatClampNeg x5)) (upd (upd (gC τ57 23) (((10 : Int32) * (gY τ57 13)) + ((2 : Int32) * x2)).toNatClampNeg x5) ((((10 : Int32) * (gY τ57 13)) + ((2 : Int32) * x2)) + (1 : Int32)).toNatClampNeg v56)) ?_
        refine b_iinc (v := (x2 + (1 : Int32))) (ls' := [some (.ref 153), some (.int x1), some (.int (x2 + (1 : Int32))), some (.int x3), some (.int v48), some (.int x5), some (.int v56)]) d_Md_agree_179 rfl rfl (Nat.le_of_ble_eq_true rfl) rfl ?_
        refine b_iload d_Md_agree_182 rfl ?_
        refine b_istore_n (ls' := [some (.ref 153), some (.int x1), some (.int (x2 + (1 : Int32))), some (.int v56), some (.int v48), some (.int x5), some (.int v56)]) d_Md_agree_184 rfl (Nat.le_of_ble_eq_true rfl) rfl ?_
        refine b_iload d_Md_agree_185 rfl ?_
        refine b_if_eq (tgt := 196) d_Md_agree_187 (by decide) (fun c62 => ?_) (fun c62 => ?_)
        · have H := H.1 c62
          exact b_mask [true, true, true, true, true, false, false] rfl H
        · have H := H.2 c62
          refine b_aload_n d_Md_agree_190 rfl rfl ?_
          refine b_bipush (v := (44 : Int32)) d_Md_agree_191 (by decide) ?_
          refine b_callVv (Mc := m_Md_must) (As := [.int (44 : Int32)]) (st := []) d_Md_agree_193 ⟨⟨kA_Md_must.1, kA_Md_must.2.1, kA_Md_must.2.2, by decide⟩, ml_Md_231, kV_Md_must⟩ (eg_153 (sC (sC τ57 23 (upd (gC τ57 23) (((10 : Int32) * (gY τ57 13)) + ((2 : Int32) * x2)).toNatClampNeg x5)) 23 (upd (upd (gC τ57 23) (((10 : Int32) * (gY τ57 13)) + ((2 : Int32) * x2)).toNatClampNeg x5) ((((10 : Int32) * (gY τ57 13)) + ((2 : Int32) * x2)) + (1 : Int32)).toNatClampNeg v56))) rfl rfl (Nat.le_of_ble_eq_true rfl) H (fun τ61 H => ?_)
          exact b_mask [true, true, true, true, true, false, false] rfl H
      · have H := H.2 c63
        refine b_goto (tgt := 11) d_Md_agree_138 (by decide) ?_
        exact b_mask [true, true, true, true, true, false, false] rfl H
  · have H := H.2 c65
    refine b_goto (tgt := 11) d_Md_agree_96 (by decide) ?_
    exact b_mask [true, true, true, true, true, false, true] rfl H
set_option maxHeartbeats 4000000 in
set_option maxRecDepth 100000 in
theorem B_Md_agree_276 {S : XS} {Q : Int32 → St → Prop} (σ : St)  (H : Q (-2 : Int32) σ) : BW S m_Md_agree 276 [none, none, none, none, none, none, none] [] (enc σ) (qI Q) := by
  refine b_bipush (v := (-2 : Int32)) d_Md_agree_276 (by decide) ?_
  exact b_iret (ty := .int) d_Md_agree_278 rfl rfl ⟨_, _, rfl, rfl, H⟩
set_option maxHeartbeats 4000000 in
set_option maxRecDepth 100000 in
theorem B_Md_agree_196 {S : XS} {Q : Int32 → St → Prop} (σ : St) (x1 : Int32) (x2 : Int32) (x3 : Int32) (x4 : Int32) (H : BW S m_Md_agree 11 [some (.ref 153), some (.int x1), some (.int x2), some (.int x3), some (.int x4), none, none] [] (enc σ) (qI Q)) : BW S m_Md_agree 196 [some (.ref 153), some (.int x1), some (.int x2), some (.int x3), some (.int x4), none, none] [] (enc σ) (qI Q) := by
  refine b_goto (tgt := 11) d_Md_agree_196 (by decide) ?_
  exact b_mask [true, true, true, true, true, true, true] rfl H
theorem C_Md_agree {S : XS} {Q : Int32 → St → Prop} (σ : St) (x1 : Int32) (H : BW S m_Md_agree 0 [some (.ref 153), some (.int x1), none, none, none, none, none] [] (enc σ) (qI Q)) : CM S m_Md_agree [.ref 153, .int x1] (enc σ) (qI Q) := b_meth (by decide) (Nat.le_of_ble_eq_true rfl) rfl H
theorem d_Md_agreed_0 : decode m_Md_agreed.2.1 0 = .ok (.iconst (-1), 1) := by decide +kernel
theorem d_Md_agreed_1 : decode m_Md_agreed.2.1 1 = .ok (.istore_n 2, 1) := by decide +kernel
theorem d_Md_agreed_2 : decode m_Md_agreed.2.1 2 = .ok (.iconst 0, 1) := by decide +kernel
theorem d_Md_agreed_3 : decode m_Md_agreed.2.1 3 = .ok (.istore_n 3, 1) := by decide +kernel
theorem d_Md_agreed_4 : decode m_Md_agreed.2.1 4 = .ok (.iload_n 3, 1) := by decide +kernel
theorem d_Md_agreed_5 : decode m_Md_agreed.2.1 5 = .ok (.aload_n 0, 1) := by decide +kernel
theorem d_Md_agreed_6 : decode m_Md_agreed.2.1 6 = .ok (.getfield 120, 3) := by decide +kernel
theorem d_Md_agreed_9 : decode m_Md_agreed.2.1 9 = .ok (.if_icmp .ge 32, 3) := by decide +kernel
theorem d_Md_agreed_12 : decode m_Md_agreed.2.1 12 = .ok (.iload_n 1, 1) := by decide +kernel
theorem d_Md_agreed_13 : decode m_Md_agreed.2.1 13 = .ok (.invokestatic 234, 3) := by decide +kernel
theorem d_Md_agreed_16 : decode m_Md_agreed.2.1 16 = .ok (.ifCond .eq 25, 3) := by decide +kernel
theorem d_Md_agreed_19 : decode m_Md_agreed.2.1 19 = .ok (.aload_n 0, 1) := by decide +kernel
theorem d_Md_agreed_20 : decode m_Md_agreed.2.1 20 = .ok (.getfield 132, 3) := by decide +kernel
theorem d_Md_agreed_23 : decode m_Md_agreed.2.1 23 = .ok (.iload_n 3, 1) := by decide +kernel
theorem d_Md_agreed_24 : decode m_Md_agreed.2.1 24 = .ok (.iaload, 1) := by decide +kernel
theorem d_Md_agreed_25 : decode m_Md_agreed.2.1 25 = .ok (.iload_n 1, 1) := by decide +kernel
theorem d_Md_agreed_26 : decode m_Md_agreed.2.1 26 = .ok (.if_icmp .gt 7, 3) := by decide +kernel
theorem d_Md_agreed_29 : decode m_Md_agreed.2.1 29 = .ok (.iload_n 3, 1) := by decide +kernel
theorem d_Md_agreed_30 : decode m_Md_agreed.2.1 30 = .ok (.goto 4, 3) := by decide +kernel
theorem d_Md_agreed_33 : decode m_Md_agreed.2.1 33 = .ok (.iload_n 2, 1) := by decide +kernel
theorem d_Md_agreed_34 : decode m_Md_agreed.2.1 34 = .ok (.istore_n 2, 1) := by decide +kernel
theorem d_Md_agreed_35 : decode m_Md_agreed.2.1 35 = .ok (.iinc 3 1, 3) := by decide +kernel
theorem d_Md_agreed_38 : decode m_Md_agreed.2.1 38 = .ok (.goto (-34), 3) := by decide +kernel
theorem d_Md_agreed_41 : decode m_Md_agreed.2.1 41 = .ok (.iload_n 2, 1) := by decide +kernel
theorem d_Md_agreed_42 : decode m_Md_agreed.2.1 42 = .ok (.ireturn, 1) := by decide +kernel
set_option maxHeartbeats 4000000 in
set_option maxRecDepth 100000 in
theorem B_Md_agreed_0 {S : XS} {Q : Int32 → St → Prop} (σ : St) (x1 : Int32) (H : BW S m_Md_agreed 4 [some (.ref 153), some (.int x1), some (.int (-1 : Int32)), some (.int (0 : Int32))] [] (enc σ) (qI Q)) : BW S m_Md_agreed 0 [some (.ref 153), some (.int x1), none, none] [] (enc σ) (qI Q) := by
  refine b_iconst (v := (-1 : Int32)) d_Md_agreed_0 (by decide) ?_
  refine b_istore_n (ls' := [some (.ref 153), some (.int x1), some (.int (-1 : Int32)), none]) d_Md_agreed_1 rfl (Nat.le_of_ble_eq_true rfl) rfl ?_
  refine b_iconst (v := (0 : Int32)) d_Md_agreed_2 (by decide) ?_
  refine b_istore_n (ls' := [some (.ref 153), some (.int x1), some (.int (-1 : Int32)), some (.int (0 : Int32))]) d_Md_agreed_3 rfl (Nat.le_of_ble_eq_true rfl) rfl ?_
  exact b_mask [true, true, true, true] rfl H
set_option maxHeartbeats 4000000 in
set_option maxRecDepth 100000 in
theorem B_Md_agreed_4 {S : XS} {Q : Int32 → St → Prop} (σ : St) (x1 : Int32) (x2 : Int32) (x3 : Int32) (H : (((gY σ 13) ≤ x3 → Q x2 σ) ∧ (¬ (gY σ 13) ≤ x3 → CM S m_Md_isPart [.int x1] (enc σ) (qI (fun v1 τ2 => ((v1 = 0 → Q x2 τ2) ∧ (¬ v1 = 0 → (vp_in x3 13) ∧ ((x1 < ((gC τ2 26) x3.toNatClampNeg) → BW S m_Md_agreed 4 [some (.ref 153), some (.int x1), some (.int x2), some (.int (x3 + (1 : Int32)))] [] (enc τ2) (qI Q)) ∧ (¬ x1 < ((gC τ2 26) x3.toNatClampNeg) → BW S m_Md_agreed 4 [some (.ref 153), some (.int x1), some (.int x3), some (.int (x3 + (1 : Int32)))] [] (enc τ2) (qI Q)))))))))) : BW S m_Md_agreed 4 [some (.ref 153), some (.int x1), some (.int x2), some (.int x3)] [] (enc σ) (qI Q) := by
  refine b_iload_n d_Md_agreed_4 rfl rfl ?_
  refine b_aload_n d_Md_agreed_5 rfl rfl ?_
  refine b_getf (v := .int (gY σ 13)) d_Md_agreed_6 fl_Md_120 (eg_153 σ) rfl ?_
  refine b_icmp_ge (tgt := 41) d_Md_agreed_9 (by decide) (fun c6 => ?_) (fun c6 => ?_)
  · have H := H.1 c6
    refine b_iload_n d_Md_agreed_41 rfl rfl ?_
    exact b_iret (ty := .int) d_Md_agreed_42 rfl rfl ⟨_, _, rfl, rfl, H⟩
  · have H := H.2 c6
    refine b_iload_n d_Md_agreed_12 rfl rfl ?_
    refine b_callSi (Mc := m_Md_isPart) (As := [.int x1]) (st := []) d_Md_agreed_13 ⟨⟨kA_Md_isPart.1, kA_Md_isPart.2.1, kA_Md_isPart.2.2, by decide⟩, ml_Md_234, kS_Md_isPart⟩ rfl rfl (Nat.le_of_ble_eq_true rfl) H (fun v1 τ2 H => ?_)
    refine b_if_eq (tgt := 41) d_Md_agreed_16 (by decide) (fun c5 => ?_) (fun c5 => ?_)
    · have H := H.1 c5
      refine b_iload_n d_Md_agreed_41 rfl rfl ?_
      exact b_iret (ty := .int) d_Md_agreed_42 rfl rfl ⟨_, _, rfl, rfl, H⟩
    · have H := H.2 c5
      refine b_aload_n d_Md_agreed_19 rfl rfl ?_
      refine b_getf (v := .ref 180) d_Md_agreed_20 fl_Md_132 (eg_153 τ2) rfl ?_
      refine b_iload_n d_Md_agreed_23 rfl rfl ?_
      obtain ⟨h3, H⟩ := H
      refine b_iald d_Md_agreed_24 (eg_180 τ2) h3 ?_
      refine b_st2 (st' := [.int ((gC τ2 26) x3.toNatClampNeg)]) rfl ?_
      refine b_iload_n d_Md_agreed_25 rfl rfl ?_
      refine b_icmp_gt (tgt := 33) d_Md_agreed_26 (by decide) (fun c4 => ?_) (fun c4 => ?_)
      · have H := H.1 c4
        refine b_iload_n d_Md_agreed_33 rfl rfl ?_
        refine b_istore_n (ls' := [some (.ref 153), some (.int x1), some (.int x2), some (.int x3)]) d_Md_agreed_34 rfl (Nat.le_of_ble_eq_true rfl) rfl ?_
        refine b_iinc (v := (x3 + (1 : Int32))) (ls' := [some (.ref 153), some (.int x1), some (.int x2), some (.int (x3 + (1 : Int32)))]) d_Md_agreed_35 rfl rfl (Nat.le_of_ble_eq_true rfl) rfl ?_
        refine b_goto (tgt := 4) d_Md_agreed_38 (by decide) ?_
        exact b_mask [true, true, true, true] rfl H
      · have H := H.2 c4
        refine b_iload_n d_Md_agreed_29 rfl rfl ?_
        refine b_goto (tgt := 34) d_Md_agreed_30 (by decide) ?_
        refine b_istore_n (ls' := [some (.ref 153), some (.int x1), some (.int x3), some (.int x3)]) d_Md_agreed_34 rfl (Nat.le_of_ble_eq_true rfl) rfl ?_
        refine b_iinc (v := (x3 + (1 : Int32))) (ls' := [some (.ref 153), some (.int x1), some (.int x3), some (.int (x3 + (1 : Int32)))]) d_Md_agreed_35 rfl rfl (Nat.le_of_ble_eq_true rfl) rfl ?_
        refine b_goto (tgt := 4) d_Md_agreed_38 (by decide) ?_
        exact b_mask [true, true, true, true] rfl H
theorem C_Md_agreed {S : XS} {Q : Int32 → St → Prop} (σ : St) (x1 : Int32) (H : BW S m_Md_agreed 0 [some (.ref 153), some (.int x1), none, none] [] (enc σ) (qI Q)) : CM S m_Md_agreed [.ref 153, .int x1] (enc σ) (qI Q) := b_meth (by decide) (Nat.le_of_ble_eq_true rfl) rfl H
theorem d_Md_share_0 : decode m_Md_share.2.1 0 = .ok (.aload_n 0, 1) := by decide +kernel
theorem d_Md_share_1 : decode m_Md_share.2.1 1 = .ok (.iload_n 1, 1) := by decide +kernel
theorem d_Md_share_2 : decode m_Md_share.2.1 2 = .ok (.invokevirtual 281, 3) := by decide +kernel
theorem d_Md_share_5 : decode m_Md_share.2.1 5 = .ok (.istore_n 2, 1) := by decide +kernel
theorem d_Md_share_6 : decode m_Md_share.2.1 6 = .ok (.iload_n 2, 1) := by decide +kernel
theorem d_Md_share_7 : decode m_Md_share.2.1 7 = .ok (.ifCond .ge 7, 3) := by decide +kernel
theorem d_Md_share_10 : decode m_Md_share.2.1 10 = .ok (.ldc2_w 285, 3) := by decide +kernel
theorem d_Md_share_13 : decode m_Md_share.2.1 13 = .ok (.lreturn, 1) := by decide +kernel
theorem d_Md_share_14 : decode m_Md_share.2.1 14 = .ok (.lconst 0, 1) := by decide +kernel
theorem d_Md_share_15 : decode m_Md_share.2.1 15 = .ok (.lstore_n 3, 1) := by decide +kernel
theorem d_Md_share_16 : decode m_Md_share.2.1 16 = .ok (.iconst 0, 1) := by decide +kernel
theorem d_Md_share_17 : decode m_Md_share.2.1 17 = .ok (.istore 5, 2) := by decide +kernel
theorem d_Md_share_19 : decode m_Md_share.2.1 19 = .ok (.iload 5, 2) := by decide +kernel
theorem d_Md_share_21 : decode m_Md_share.2.1 21 = .ok (.iconst 4, 1) := by decide +kernel
theorem d_Md_share_22 : decode m_Md_share.2.1 22 = .ok (.if_icmp .ge 29, 3) := by decide +kernel
theorem d_Md_share_25 : decode m_Md_share.2.1 25 = .ok (.lload_n 3, 1) := by decide +kernel
theorem d_Md_share_26 : decode m_Md_share.2.1 26 = .ok (.aload_n 0, 1) := by decide +kernel
theorem d_Md_share_27 : decode m_Md_share.2.1 27 = .ok (.getfield 141, 3) := by decide +kernel
theorem d_Md_share_30 : decode m_Md_share.2.1 30 = .ok (.bipush 20, 2) := by decide +kernel
theorem d_Md_share_32 : decode m_Md_share.2.1 32 = .ok (.iload_n 1, 1) := by decide +kernel
theorem d_Md_share_33 : decode m_Md_share.2.1 33 = .ok (.imul, 1) := by decide +kernel
theorem d_Md_share_34 : decode m_Md_share.2.1 34 = .ok (.iconst 5, 1) := by decide +kernel
theorem d_Md_share_35 : decode m_Md_share.2.1 35 = .ok (.iload 5, 2) := by decide +kernel
theorem d_Md_share_37 : decode m_Md_share.2.1 37 = .ok (.imul, 1) := by decide +kernel
theorem d_Md_share_38 : decode m_Md_share.2.1 38 = .ok (.iadd, 1) := by decide +kernel
theorem d_Md_share_39 : decode m_Md_share.2.1 39 = .ok (.iconst 1, 1) := by decide +kernel
theorem d_Md_share_40 : decode m_Md_share.2.1 40 = .ok (.iadd, 1) := by decide +kernel
theorem d_Md_share_41 : decode m_Md_share.2.1 41 = .ok (.iaload, 1) := by decide +kernel
theorem d_Md_share_42 : decode m_Md_share.2.1 42 = .ok (.i2l, 1) := by decide +kernel
theorem d_Md_share_43 : decode m_Md_share.2.1 43 = .ok (.ladd, 1) := by decide +kernel
theorem d_Md_share_44 : decode m_Md_share.2.1 44 = .ok (.lstore_n 3, 1) := by decide +kernel
theorem d_Md_share_45 : decode m_Md_share.2.1 45 = .ok (.iinc 5 1, 3) := by decide +kernel
theorem d_Md_share_48 : decode m_Md_share.2.1 48 = .ok (.goto (-29), 3) := by decide +kernel
theorem d_Md_share_51 : decode m_Md_share.2.1 51 = .ok (.lconst 0, 1) := by decide +kernel
theorem d_Md_share_52 : decode m_Md_share.2.1 52 = .ok (.lstore 5, 2) := by decide +kernel
theorem d_Md_share_54 : decode m_Md_share.2.1 54 = .ok (.lconst 0, 1) := by decide +kernel
theorem d_Md_share_55 : decode m_Md_share.2.1 55 = .ok (.lstore 7, 2) := by decide +kernel
theorem d_Md_share_57 : decode m_Md_share.2.1 57 = .ok (.iconst 0, 1) := by decide +kernel
theorem d_Md_share_58 : decode m_Md_share.2.1 58 = .ok (.istore 9, 2) := by decide +kernel
theorem d_Md_share_60 : decode m_Md_share.2.1 60 = .ok (.iload 9, 2) := by decide +kernel
theorem d_Md_share_62 : decode m_Md_share.2.1 62 = .ok (.aload_n 0, 1) := by decide +kernel
theorem d_Md_share_63 : decode m_Md_share.2.1 63 = .ok (.getfield 126, 3) := by decide +kernel
theorem d_Md_share_66 : decode m_Md_share.2.1 66 = .ok (.iload_n 2, 1) := by decide +kernel
theorem d_Md_share_67 : decode m_Md_share.2.1 67 = .ok (.iaload, 1) := by decide +kernel
theorem d_Md_share_68 : decode m_Md_share.2.1 68 = .ok (.if_icmp .ge 114, 3) := by decide +kernel
theorem d_Md_share_71 : decode m_Md_share.2.1 71 = .ok (.aload_n 0, 1) := by decide +kernel
theorem d_Md_share_72 : decode m_Md_share.2.1 72 = .ok (.getfield 123, 3) := by decide +kernel
theorem d_Md_share_75 : decode m_Md_share.2.1 75 = .ok (.bipush 10, 2) := by decide +kernel
theorem d_Md_share_77 : decode m_Md_share.2.1 77 = .ok (.iload_n 2, 1) := by decide +kernel
theorem d_Md_share_78 : decode m_Md_share.2.1 78 = .ok (.imul, 1) := by decide +kernel
theorem d_Md_share_79 : decode m_Md_share.2.1 79 = .ok (.iconst 2, 1) := by decide +kernel
theorem d_Md_share_80 : decode m_Md_share.2.1 80 = .ok (.iload 9, 2) := by decide +kernel
theorem d_Md_share_82 : decode m_Md_share.2.1 82 = .ok (.imul, 1) := by decide +kernel
theorem d_Md_share_83 : decode m_Md_share.2.1 83 = .ok (.iadd, 1) := by decide +kernel
theorem d_Md_share_84 : decode m_Md_share.2.1 84 = .ok (.iconst 1, 1) := by decide +kernel
theorem d_Md_share_85 : decode m_Md_share.2.1 85 = .ok (.iadd, 1) := by decide +kernel
theorem d_Md_share_86 : decode m_Md_share.2.1 86 = .ok (.iaload, 1) := by decide +kernel
theorem d_Md_share_87 : decode m_Md_share.2.1 87 = .ok (.i2l, 1) := by decide +kernel
theorem d_Md_share_88 : decode m_Md_share.2.1 88 = .ok (.lload_n 3, 1) := by decide +kernel
theorem d_Md_share_89 : decode m_Md_share.2.1 89 = .ok (.lcmp, 1) := by decide +kernel
theorem d_Md_share_90 : decode m_Md_share.2.1 90 = .ok (.ifCond .ge 36, 3) := by decide +kernel
theorem d_Md_share_93 : decode m_Md_share.2.1 93 = .ok (.iload 9, 2) := by decide +kernel
theorem d_Md_share_95 : decode m_Md_share.2.1 95 = .ok (.iconst 1, 1) := by decide +kernel
theorem d_Md_share_96 : decode m_Md_share.2.1 96 = .ok (.iadd, 1) := by decide +kernel
theorem d_Md_share_97 : decode m_Md_share.2.1 97 = .ok (.aload_n 0, 1) := by decide +kernel
theorem d_Md_share_98 : decode m_Md_share.2.1 98 = .ok (.getfield 126, 3) := by decide +kernel
theorem d_Md_share_101 : decode m_Md_share.2.1 101 = .ok (.iload_n 2, 1) := by decide +kernel
theorem d_Md_share_102 : decode m_Md_share.2.1 102 = .ok (.iaload, 1) := by decide +kernel
theorem d_Md_share_103 : decode m_Md_share.2.1 103 = .ok (.if_icmp .ge 23, 3) := by decide +kernel
theorem d_Md_share_106 : decode m_Md_share.2.1 106 = .ok (.aload_n 0, 1) := by decide +kernel
theorem d_Md_share_107 : decode m_Md_share.2.1 107 = .ok (.getfield 123, 3) := by decide +kernel
theorem d_Md_share_110 : decode m_Md_share.2.1 110 = .ok (.bipush 10, 2) := by decide +kernel
theorem d_Md_share_112 : decode m_Md_share.2.1 112 = .ok (.iload_n 2, 1) := by decide +kernel
theorem d_Md_share_113 : decode m_Md_share.2.1 113 = .ok (.imul, 1) := by decide +kernel
theorem d_Md_share_114 : decode m_Md_share.2.1 114 = .ok (.iconst 2, 1) := by decide +kernel
theorem d_Md_share_115 : decode m_Md_share.2.1 115 = .ok (.iload 9, 2) := by decide +kernel
theorem d_Md_share_117 : decode m_Md_share.2.1 117 = .ok (.imul, 1) := by decide +kernel
theorem d_Md_share_118 : decode m_Md_share.2.1 118 = .ok (.iadd, 1) := by decide +kernel
theorem d_Md_share_119 : decode m_Md_share.2.1 119 = .ok (.iconst 1, 1) := by decide +kernel
theorem d_Md_share_120 : decode m_Md_share.2.1 120 = .ok (.iadd, 1) := by decide +kernel
theorem d_Md_share_121 : decode m_Md_share.2.1 121 = .ok (.iaload, 1) := by decide +kernel
theorem d_Md_share_122 : decode m_Md_share.2.1 122 = .ok (.i2l, 1) := by decide +kernel
theorem d_Md_share_123 : decode m_Md_share.2.1 123 = .ok (.goto 4, 3) := by decide +kernel
theorem d_Md_share_126 : decode m_Md_share.2.1 126 = .ok (.lload_n 3, 1) := by decide +kernel
theorem d_Md_share_127 : decode m_Md_share.2.1 127 = .ok (.lstore 10, 2) := by decide +kernel
theorem d_Md_share_129 : decode m_Md_share.2.1 129 = .ok (.lload 10, 2) := by decide +kernel
theorem d_Md_share_131 : decode m_Md_share.2.1 131 = .ok (.lload 7, 2) := by decide +kernel
theorem d_Md_share_133 : decode m_Md_share.2.1 133 = .ok (.lcmp, 1) := by decide +kernel
theorem d_Md_share_134 : decode m_Md_share.2.1 134 = .ok (.ifCond .gt 6, 3) := by decide +kernel
theorem d_Md_share_137 : decode m_Md_share.2.1 137 = .ok (.goto 39, 3) := by decide +kernel
theorem d_Md_share_140 : decode m_Md_share.2.1 140 = .ok (.lload 5, 2) := by decide +kernel
theorem d_Md_share_142 : decode m_Md_share.2.1 142 = .ok (.lload 10, 2) := by decide +kernel
theorem d_Md_share_144 : decode m_Md_share.2.1 144 = .ok (.lload 7, 2) := by decide +kernel
theorem d_Md_share_146 : decode m_Md_share.2.1 146 = .ok (.lsub, 1) := by decide +kernel
theorem d_Md_share_147 : decode m_Md_share.2.1 147 = .ok (.aload_n 0, 1) := by decide +kernel
theorem d_Md_share_148 : decode m_Md_share.2.1 148 = .ok (.getfield 123, 3) := by decide +kernel
theorem d_Md_share_151 : decode m_Md_share.2.1 151 = .ok (.bipush 10, 2) := by decide +kernel
theorem d_Md_share_153 : decode m_Md_share.2.1 153 = .ok (.iload_n 2, 1) := by decide +kernel
theorem d_Md_share_154 : decode m_Md_share.2.1 154 = .ok (.imul, 1) := by decide +kernel
theorem d_Md_share_155 : decode m_Md_share.2.1 155 = .ok (.iconst 2, 1) := by decide +kernel
theorem d_Md_share_156 : decode m_Md_share.2.1 156 = .ok (.iload 9, 2) := by decide +kernel
theorem d_Md_share_158 : decode m_Md_share.2.1 158 = .ok (.imul, 1) := by decide +kernel
theorem d_Md_share_159 : decode m_Md_share.2.1 159 = .ok (.iadd, 1) := by decide +kernel
theorem d_Md_share_160 : decode m_Md_share.2.1 160 = .ok (.iaload, 1) := by decide +kernel
theorem d_Md_share_161 : decode m_Md_share.2.1 161 = .ok (.i2l, 1) := by decide +kernel
theorem d_Md_share_162 : decode m_Md_share.2.1 162 = .ok (.lmul, 1) := by decide +kernel
theorem d_Md_share_163 : decode m_Md_share.2.1 163 = .ok (.aload_n 0, 1) := by decide +kernel
theorem d_Md_share_164 : decode m_Md_share.2.1 164 = .ok (.getfield 144, 3) := by decide +kernel
theorem d_Md_share_167 : decode m_Md_share.2.1 167 = .ok (.i2l, 1) := by decide +kernel
theorem d_Md_share_168 : decode m_Md_share.2.1 168 = .ok (.lmul, 1) := by decide +kernel
theorem d_Md_share_169 : decode m_Md_share.2.1 169 = .ok (.ladd, 1) := by decide +kernel
theorem d_Md_share_170 : decode m_Md_share.2.1 170 = .ok (.lstore 5, 2) := by decide +kernel
theorem d_Md_share_172 : decode m_Md_share.2.1 172 = .ok (.lload 10, 2) := by decide +kernel
theorem d_Md_share_174 : decode m_Md_share.2.1 174 = .ok (.lstore 7, 2) := by decide +kernel
theorem d_Md_share_176 : decode m_Md_share.2.1 176 = .ok (.iinc 9 1, 3) := by decide +kernel
theorem d_Md_share_179 : decode m_Md_share.2.1 179 = .ok (.goto (-119), 3) := by decide +kernel
theorem d_Md_share_182 : decode m_Md_share.2.1 182 = .ok (.lload 5, 2) := by decide +kernel
theorem d_Md_share_184 : decode m_Md_share.2.1 184 = .ok (.ldc2_w 287, 3) := by decide +kernel
theorem d_Md_share_187 : decode m_Md_share.2.1 187 = .ok (.ldiv, 1) := by decide +kernel
theorem d_Md_share_188 : decode m_Md_share.2.1 188 = .ok (.aload_n 0, 1) := by decide +kernel
theorem d_Md_share_189 : decode m_Md_share.2.1 189 = .ok (.getfield 129, 3) := by decide +kernel
theorem d_Md_share_192 : decode m_Md_share.2.1 192 = .ok (.iload_n 2, 1) := by decide +kernel
theorem d_Md_share_193 : decode m_Md_share.2.1 193 = .ok (.iaload, 1) := by decide +kernel
theorem d_Md_share_194 : decode m_Md_share.2.1 194 = .ok (.i2l, 1) := by decide +kernel
theorem d_Md_share_195 : decode m_Md_share.2.1 195 = .ok (.aload_n 0, 1) := by decide +kernel
theorem d_Md_share_196 : decode m_Md_share.2.1 196 = .ok (.iload_n 1, 1) := by decide +kernel
theorem d_Md_share_197 : decode m_Md_share.2.1 197 = .ok (.invokevirtual 289, 3) := by decide +kernel
theorem d_Md_share_200 : decode m_Md_share.2.1 200 = .ok (.i2l, 1) := by decide +kernel
theorem d_Md_share_201 : decode m_Md_share.2.1 201 = .ok (.lmul, 1) := by decide +kernel
theorem d_Md_share_202 : decode m_Md_share.2.1 202 = .ok (.lsub, 1) := by decide +kernel
theorem d_Md_share_203 : decode m_Md_share.2.1 203 = .ok (.lstore 9, 2) := by decide +kernel
theorem d_Md_share_205 : decode m_Md_share.2.1 205 = .ok (.lload 9, 2) := by decide +kernel
theorem d_Md_share_207 : decode m_Md_share.2.1 207 = .ok (.lconst 0, 1) := by decide +kernel
theorem d_Md_share_208 : decode m_Md_share.2.1 208 = .ok (.lcmp, 1) := by decide +kernel
theorem d_Md_share_209 : decode m_Md_share.2.1 209 = .ok (.ifCond .ge 7, 3) := by decide +kernel
theorem d_Md_share_212 : decode m_Md_share.2.1 212 = .ok (.lconst 0, 1) := by decide +kernel
theorem d_Md_share_213 : decode m_Md_share.2.1 213 = .ok (.goto 5, 3) := by decide +kernel
theorem d_Md_share_216 : decode m_Md_share.2.1 216 = .ok (.lload 9, 2) := by decide +kernel
theorem d_Md_share_218 : decode m_Md_share.2.1 218 = .ok (.lreturn, 1) := by decide +kernel
set_option maxHeartbeats 4000000 in
set_option maxRecDepth 100000 in
theorem B_Md_share_0 {S : XS} {Q : Int64 → St → Prop} (σ : St) (x1 : Int32) (H : CM S m_Md_agreed [.ref 153, .int x1] (enc σ) (qI (fun v1 τ2 => ((0 ≤ v1 → BW S m_Md_share 19 [some (.ref 153), some (.int x1), some (.int v1), some (.long (0 : Int64)), none, some (.int (0 : Int32)), none, none, none, none, none, none] [] (enc τ2) (qL Q)) ∧ (¬ 0 ≤ v1 → Q (-1 : Int64) τ2))))) : BW S m_Md_share 0 [some (.ref 153), some (.int x1), none, none, none, none, none, none, none, none, none, none] [] (enc σ) (qL Q) := by
  refine b_aload_n d_Md_share_0 rfl rfl ?_
  refine b_iload_n d_Md_share_1 rfl rfl ?_
  refine b_callVi (Mc := m_Md_agreed) (As := [.int x1]) (st := []) d_Md_share_2 ⟨⟨kA_Md_agreed.1, kA_Md_agreed.2.1, kA_Md_agreed.2.2, by decide⟩, ml_Md_281, kV_Md_agreed⟩ (eg_153 σ) rfl rfl (Nat.le_of_ble_eq_true rfl) H (fun v1 τ2 H => ?_)
  refine b_istore_n (ls' := [some (.ref 153), some (.int x1), some (.int v1), none, none, none, none, none, none, none, none, none]) d_Md_share_5 rfl (Nat.le_of_ble_eq_true rfl) rfl ?_
  refine b_iload_n d_Md_share_6 rfl rfl ?_
  refine b_if_ge (tgt := 14) d_Md_share_7 (by decide) (fun c3 => ?_) (fun c3 => ?_)
  · have H := H.1 c3
    refine b_lconst (v := (0 : Int64)) d_Md_share_14 (by decide) ?_
    refine b_lstore_n (ls' := [some (.ref 153), some (.int x1), some (.int v1), some (.long (0 : Int64)), none, none, none, none, none, none, none, none]) d_Md_share_15 rfl (Nat.le_of_ble_eq_true rfl) rfl ?_
    refine b_iconst (v := (0 : Int32)) d_Md_share_16 (by decide) ?_
    refine b_istore (ls' := [some (.ref 153), some (.int x1), some (.int v1), some (.long (0 : Int64)), none, some (.int (0 : Int32)), none, none, none, none, none, none]) d_Md_share_17 (Nat.le_of_ble_eq_true rfl) rfl ?_
    exact b_mask [true, true, true, true, true, true, true, true, true, true, true, true] rfl H
  · have H := H.2 c3
    refine b_ldc2 (v := (-1 : Int64)) d_Md_share_10 cn_Md_285 ?_
    exact b_lret d_Md_share_13 rfl ⟨_, _, rfl, rfl, H⟩
set_option maxHeartbeats 4000000 in
set_option maxRecDepth 100000 in
theorem B_Md_share_19 {S : XS} {Q : Int64 → St → Prop} (σ : St) (x1 : Int32) (x2 : Int32) (x3 : Int64) (x5 : Int32) (H : (((4 : Int32) ≤ x5 → BW S m_Md_share 60 [some (.ref 153), some (.int x1), some (.int x2), some (.long x3), none, some (.long (0 : Int64)), none, some (.long (0 : Int64)), none, some (.int (0 : Int32)), none, none] [] (enc σ) (qL Q)) ∧ (¬ (4 : Int32) ≤ x5 → (vp_in ((((20 : Int32) * x1) + ((5 : Int32) * x5)) + (1 : Int32)) 480) ∧ BW S m_Md_share 19 [some (.ref 153), some (.int x1), some (.int x2), some (.long (x3 + (((gC σ 28) ((((20 : Int32) * x1) + ((5 : Int32) * x5)) + (1 : Int32)).toNatClampNeg)).toInt64)), none, some (.int (x5 + (1 : Int32))), none, none, none, none, none, none] [] (enc σ) (qL Q)))) : BW S m_Md_share 19 [some (.ref 153), some (.int x1), some (.int x2), some (.long x3), none, some (.int x5), none, none, none, none, none, none] [] (enc σ) (qL Q) := by
  refine b_iload d_Md_share_19 rfl ?_
  refine b_iconst (v := (4 : Int32)) d_Md_share_21 (by decide) ?_
  refine b_icmp_ge (tgt := 51) d_Md_share_22 (by decide) (fun c5 => ?_) (fun c5 => ?_)
  · have H := H.1 c5
    refine b_lconst (v := (0 : Int64)) d_Md_share_51 (by decide) ?_
    refine b_lstore (ls' := [some (.ref 153), some (.int x1), some (.int x2), some (.long x3), none, some (.long (0 : Int64)), none, none, none, none, none, none]) d_Md_share_52 (Nat.le_of_ble_eq_true rfl) rfl ?_
    refine b_lconst (v := (0 : Int64)) d_Md_share_54 (by decide) ?_
    refine b_lstore (ls' := [some (.ref 153), some (.int x1), some (.int x2), some (.long x3), none, some (.long (0 : Int64)), none, some (.long (0 : Int64)), none, none, none, none]) d_Md_share_55 (Nat.le_of_ble_eq_true rfl) rfl ?_
    refine b_iconst (v := (0 : Int32)) d_Md_share_57 (by decide) ?_
    refine b_istore (ls' := [some (.ref 153), some (.int x1), some (.int x2), some (.long x3), none, some (.long (0 : Int64)), none, some (.long (0 : Int64)), none, some (.int (0 : Int32)), none, none]) d_Md_share_58 (Nat.le_of_ble_eq_true rfl) rfl ?_
    exact b_mask [true, true, true, true, true, true, true, true, true, true, true, true] rfl H
  · have H := H.2 c5
    refine b_lload_n d_Md_share_25 rfl rfl ?_
    refine b_aload_n d_Md_share_26 rfl rfl ?_
    refine b_getf (v := .ref 182) d_Md_share_27 fl_Md_141 (eg_153 σ) rfl ?_
    refine b_bipush (v := (20 : Int32)) d_Md_share_30 (by decide) ?_
    refine b_iload_n d_Md_share_32 rfl rfl ?_
    refine b_imul d_Md_share_33  ?_
    refine b_iconst (v := (5 : Int32)) d_Md_share_34 (by decide) ?_
    refine b_iload d_Md_share_35 rfl ?_
    refine b_imul d_Md_share_37  ?_
    refine b_iadd d_Md_share_38  ?_
    refine b_iconst (v := (1 : Int32)) d_Md_share_39 (by decide) ?_
    refine b_iadd d_Md_share_40  ?_
    obtain ⟨h4, H⟩ := H
    refine b_iald d_Md_share_41 (eg_182 σ) h4 ?_
    refine b_st2 (st' := [.int ((gC σ 28) ((((20 : Int32) * x1) + ((5 : Int32) * x5)) + (1 : Int32)).toNatClampNeg), .long x3]) rfl ?_
    refine b_i2l d_Md_share_42 ?_
    refine b_ladd d_Md_share_43  ?_
    refine b_lstore_n (ls' := [some (.ref 153), some (.int x1), some (.int x2), some (.long (x3 + (((gC σ 28) ((((20 : Int32) * x1) + ((5 : Int32) * x5)) + (1 : Int32)).toNatClampNeg)).toInt64)), none, some (.int x5), none, none, none, none, none, none]) d_Md_share_44 rfl (Nat.le_of_ble_eq_true rfl) rfl ?_
    refine b_iinc (v := (x5 + (1 : Int32))) (ls' := [some (.ref 153), some (.int x1), some (.int x2), some (.long (x3 + (((gC σ 28) ((((20 : Int32) * x1) + ((5 : Int32) * x5)) + (1 : Int32)).toNatClampNeg)).toInt64)), none, some (.int (x5 + (1 : Int32))), none, none, none, none, none, none]) d_Md_share_45 rfl rfl (Nat.le_of_ble_eq_true rfl) rfl ?_
    refine b_goto (tgt := 19) d_Md_share_48 (by decide) ?_
    exact b_mask [true, true, true, true, true, true, true, true, true, true, true, true] rfl H
set_option maxHeartbeats 4000000 in
set_option maxRecDepth 100000 in
theorem B_Md_share_60 {S : XS} {Q : Int64 → St → Prop} (σ : St) (x1 : Int32) (x2 : Int32) (x3 : Int64) (x5 : Int64) (x7 : Int64) (x9 : Int32) (H : (vp_in x2 13) ∧ ((((gC σ 24) x2.toNatClampNeg) ≤ x9 → CM S m_Md_lateDays [.ref 153, .int x1] (enc σ) (qI (fun v7 τ8 => ((0 ≤ (lg_cmp ((x5 / (100 : Int64)) - ((((gC σ 25) x2.toNatClampNeg)).toInt64 * (v7).toInt64)) (0 : Int64)) → Q ((x5 / (100 : Int64)) - ((((gC σ 25) x2.toNatClampNeg)).toInt64 * (v7).toInt64)) τ8) ∧ (¬ 0 ≤ (lg_cmp ((x5 / (100 : Int64)) - ((((gC σ 25) x2.toNatClampNeg)).toInt64 * (v7).toInt64)) (0 : Int64)) → Q (0 : Int64) τ8))))) ∧ (¬ ((gC σ 24) x2.toNatClampNeg) ≤ x9 → (vp_in ((((10 : Int32) * x2) + ((2 : Int32) * x9)) + (1 : Int32)) 130) ∧ ((0 ≤ (lg_cmp ((((gC σ 23) ((((10 : Int32) * x2) + ((2 : Int32) * x9)) + (1 : Int32)).toNatClampNeg)).toInt64) x3) → ((0 < (lg_cmp x3 x7) → (vp_in (((10 : Int32) * x2) + ((2 : Int32) * x9)) 130) ∧ BW S m_Md_share 60 [some (.ref 153), some (.int x1), some (.int x2), some (.long x3), none, some (.long (x5 + (((x3 - x7) * (((gC σ 23) (((10 : Int32) * x2) + ((2 : Int32) * x9)).toNatClampNeg)).toInt64) * ((gY σ 15)).toInt64))), none, some (.long x3), none, some (.int (x9 + (1 : Int32))), none, none] [] (enc σ) (qL Q)) ∧ (¬ 0 < (lg_cmp x3 x7) → BW S m_Md_share 60 [some (.ref 153), some (.int x1), some (.int x2), some (.long x3), none, some (.long x5), none, some (.long x7), none, some (.int (x9 + (1 : Int32))), none, none] [] (enc σ) (qL Q)))) ∧ (¬ 0 ≤ (lg_cmp ((((gC σ 23) ((((10 : Int32) * x2) + ((2 : Int32) * x9)) + (1 : Int32)).toNatClampNeg)).toInt64) x3) → ((((gC σ 24) x2.toNatClampNeg) ≤ (x9 + (1 : Int32)) → ((0 < (lg_cmp x3 x7) → (vp_in (((10 : Int32) * x2) + ((2 : Int32) * x9)) 130) ∧ BW S m_Md_share 60 [some (.ref 153), some (.int x1), some (.int x2), some (.long x3), none, some (.long (x5 + (((x3 - x7) * (((gC σ 23) (((10 : Int32) * x2) + ((2 : Int32) * x9)).toNatClampNeg)).toInt64) * ((gY σ 15)).toInt64))), none, some (.long x3), none, some (.int (x9 + (1 : Int32))), none, none] [] (enc σ) (qL Q)) ∧ (¬ 0 < (lg_cmp x3 x7) → BW S m_Md_share 60 [some (.ref 153), some (.int x1), some (.int x2), some (.long x3), none, some (.long x5), none, some (.long x7), none, some (.int (x9 + (1 : Int32))), none, none] [] (enc σ) (qL Q)))) ∧ (¬ ((gC σ 24) x2.toNatClampNeg) ≤ (x9 + (1 : Int32)) → ((0 < (lg_cmp ((((gC σ 23) ((((10 : Int32) * x2) + ((2 : Int32) * x9)) + (1 : Int32)).toNatClampNeg)).toInt64) x7) → (vp_in (((10 : Int32) * x2) + ((2 : Int32) * x9)) 130) ∧ BW S m_Md_share 60 [some (.ref 153), some (.int x1), some (.int x2), some (.long x3), none, some (.long (x5 + ((((((gC σ 23) ((((10 : Int32) * x2) + ((2 : Int32) * x9)) + (1 : Int32)).toNatClampNeg)).toInt64 - x7) * (((gC σ 23) (((10 : Int32) * x2) + ((2 : Int32) * x9)).toNatClampNeg)).toInt64) * ((gY σ 15)).toInt64))), none, some (.long ((((gC σ 23) ((((10 : Int32) * x2) + ((2 : Int32) * x9)) + (1 : Int32)).toNatClampNeg)).toInt64)), none, some (.int (x9 + (1 : Int32))), none, none] [] (enc σ) (qL Q)) ∧ (¬ 0 < (lg_cmp ((((gC σ 23) ((((10 : Int32) * x2) + ((2 : Int32) * x9)) + (1 : Int32)).toNatClampNeg)).toInt64) x7) → BW S m_Md_share 60 [some (.ref 153), some (.int x1), some (.int x2), some (.long x3), none, some (.long x5), none, some (.long x7), none, some (.int (x9 + (1 : Int32))), none, none] [] (enc σ) (qL Q)))))))))) : BW S m_Md_share 60 [some (.ref 153), some (.int x1), some (.int x2), some (.long x3), none, some (.long x5), none, some (.long x7), none, some (.int x9), none, none] [] (enc σ) (qL Q) := by
  refine b_iload d_Md_share_60 rfl ?_
  refine b_aload_n d_Md_share_62 rfl rfl ?_
  refine b_getf (v := .ref 178) d_Md_share_63 fl_Md_126 (eg_153 σ) rfl ?_
  refine b_iload_n d_Md_share_66 rfl rfl ?_
  obtain ⟨h6, H⟩ := H
  refine b_iald d_Md_share_67 (eg_178 σ) h6 ?_
  refine b_st2 (st' := [.int ((gC σ 24) x2.toNatClampNeg), .int x9]) rfl ?_
  refine b_icmp_ge (tgt := 182) d_Md_share_68 (by decide) (fun c19 => ?_) (fun c19 => ?_)
  · have H := H.1 c19
    refine b_lload d_Md_share_182 rfl ?_
    refine b_ldc2 (v := (100 : Int64)) d_Md_share_184 cn_Md_287 ?_
    refine b_ldiv d_Md_share_187 (by decide) ?_
    refine b_aload_n d_Md_share_188 rfl rfl ?_
    refine b_getf (v := .ref 179) d_Md_share_189 fl_Md_129 (eg_153 σ) rfl ?_
    refine b_iload_n d_Md_share_192 rfl rfl ?_
    refine b_iald d_Md_share_193 (eg_179 σ) h6 ?_
    refine b_st2 (st' := [.int ((gC σ 25) x2.toNatClampNeg), .long (x5 / (100 : Int64))]) rfl ?_
    refine b_i2l d_Md_share_194 ?_
    refine b_aload_n d_Md_share_195 rfl rfl ?_
    refine b_iload_n d_Md_share_196 rfl rfl ?_
    refine b_callVi (Mc := m_Md_lateDays) (As := [.int x1]) (st := [.long ((((gC σ 25) x2.toNatClampNeg)).toInt64), .long (x5 / (100 : Int64))]) d_Md_share_197 ⟨⟨kA_Md_lateDays.1, kA_Md_lateDays.2.1, kA_Md_lateDays.2.2, by decide⟩, ml_Md_289, kV_Md_lateDays⟩ (eg_153 σ) rfl rfl (Nat.le_of_ble_eq_true rfl) H (fun v7 τ8 H => ?_)
    refine b_i2l d_Md_share_200 ?_
    refine b_lmul d_Md_share_201  ?_
    refine b_lsub d_Md_share_202  ?_
    refine b_lstore (ls' := [some (.ref 153), some (.int x1), some (.int x2), some (.long x3), none, some (.long x5), none, some (.long x7), none, some (.long ((x5 / (100 : Int64)) - ((((gC σ 25) x2.toNatClampNeg)).toInt64 * (v7).toInt64))), none, none]) d_Md_share_203 (Nat.le_of_ble_eq_true rfl) rfl ?_
    refine b_lload d_Md_share_205 rfl ?_
    refine b_lconst (v := (0 : Int64)) d_Md_share_207 (by decide) ?_
    refine b_lcmp d_Md_share_208 ?_
    refine b_if_ge (tgt := 216) d_Md_share_209 (by decide) (fun c9 => ?_) (fun c9 => ?_)
    · have H := H.1 c9
      refine b_lload d_Md_share_216 rfl ?_
      exact b_lret d_Md_share_218 rfl ⟨_, _, rfl, rfl, H⟩
    · have H := H.2 c9
      refine b_lconst (v := (0 : Int64)) d_Md_share_212 (by decide) ?_
      refine b_goto (tgt := 218) d_Md_share_213 (by decide) ?_
      exact b_lret d_Md_share_218 rfl ⟨_, _, rfl, rfl, H⟩
  · have H := H.2 c19
    refine b_aload_n d_Md_share_71 rfl rfl ?_
    refine b_getf (v := .ref 177) d_Md_share_72 fl_Md_123 (eg_153 σ) rfl ?_
    refine b_bipush (v := (10 : Int32)) d_Md_share_75 (by decide) ?_
    refine b_iload_n d_Md_share_77 rfl rfl ?_
    refine b_imul d_Md_share_78  ?_
    refine b_iconst (v := (2 : Int32)) d_Md_share_79 (by decide) ?_
    refine b_iload d_Md_share_80 rfl ?_
    refine b_imul d_Md_share_82  ?_
    refine b_iadd d_Md_share_83  ?_
    refine b_iconst (v := (1 : Int32)) d_Md_share_84 (by decide) ?_
    refine b_iadd d_Md_share_85  ?_
    obtain ⟨h10, H⟩ := H
    refine b_iald d_Md_share_86 (eg_177 σ) h10 ?_
    refine b_st2 (st' := [.int ((gC σ 23) ((((10 : Int32) * x2) + ((2 : Int32) * x9)) + (1 : Int32)).toNatClampNeg)]) rfl ?_
    refine b_i2l d_Md_share_87 ?_
    refine b_lload_n d_Md_share_88 rfl rfl ?_
    refine b_lcmp d_Md_share_89 ?_
    refine b_if_ge (tgt := 126) d_Md_share_90 (by decide) (fun c18 => ?_) (fun c18 => ?_)
    · have H := H.1 c18
      refine b_lload_n d_Md_share_126 rfl rfl ?_
      refine b_lstore (ls' := [some (.ref 153), some (.int x1), some (.int x2), some (.long x3), none, some (.long x5), none, some (.long x7), none, some (.int x9), some (.long x3), none]) d_Md_share_127 (Nat.le_of_ble_eq_true rfl) rfl ?_
      refine b_lload d_Md_share_129 rfl ?_
      refine b_lload d_Md_share_131 rfl ?_
      refine b_lcmp d_Md_share_133 ?_
      refine b_if_gt (tgt := 140) d_Md_share_134 (by decide) (fun c12 => ?_) (fun c12 => ?_)
      · have H := H.1 c12
        refine b_lload d_Md_share_140 rfl ?_
        refine b_lload d_Md_share_142 rfl ?_
        refine b_lload d_Md_share_144 rfl ?_
        refine b_lsub d_Md_share_146  ?_
        refine b_aload_n d_Md_share_147 rfl rfl ?_
        refine b_getf (v := .ref 177) d_Md_share_148 fl_Md_123 (eg_153 σ) rfl ?_
        refine b_bipush (v := (10 : Int32)) d_Md_share_151 (by decide) ?_
        refine b_iload_n d_Md_share_153 rfl rfl ?_
        refine b_imul d_Md_share_154  ?_
        refine b_iconst (v := (2 : Int32)) d_Md_share_155 (by decide) ?_
        refine b_iload d_Md_share_156 rfl ?_
        refine b_imul d_Md_share_158  ?_
        refine b_iadd d_Md_share_159  ?_
        obtain ⟨h11, H⟩ := H
        refine b_iald d_Md_share_160 (eg_177 σ) h11 ?_
        refine b_st2 (st' := [.int ((gC σ 23) (((10 : Int32) * x2) + ((2 : Int32) * x9)).toNatClampNeg), .long (x3 - x7), .long x5]) rfl ?_
        refine b_i2l d_Md_share_161 ?_
        refine b_lmul d_Md_share_162  ?_
        refine b_aload_n d_Md_share_163 rfl rfl ?_
        refine b_getf (v := .int (gY σ 15)) d_Md_share_164 fl_Md_144 (eg_153 σ) rfl ?_
        refine b_i2l d_Md_share_167 ?_
        refine b_lmul d_Md_share_168  ?_
        refine b_ladd d_Md_share_169  ?_
        refine b_lstore (ls' := [some (.ref 153), some (.int x1), some (.int x2), some (.long x3), none, some (.long (x5 + (((x3 - x7) * (((gC σ 23) (((10 : Int32) * x2) + ((2 : Int32) * x9)).toNatClampNeg)).toInt64) * ((gY σ 15)).toInt64))), none, some (.long x7), none, some (.int x9), some (.long x3), none]) d_Md_share_170 (Nat.le_of_ble_eq_true rfl) rfl ?_
        refine b_lload d_Md_share_172 rfl ?_
        refine b_lstore (ls' := [some (.ref 153), some (.int x1), some (.int x2), some (.long x3), none, some (.long (x5 + (((x3 - x7) * (((gC σ 23) (((10 : Int32) * x2) + ((2 : Int32) * x9)).toNatClampNeg)).toInt64) * ((gY σ 15)).toInt64))), none, some (.long x3), none, some (.int x9), some (.long x3), none]) d_Md_share_174 (Nat.le_of_ble_eq_true rfl) rfl ?_
        refine b_iinc (v := (x9 + (1 : Int32))) (ls' := [some (.ref 153), some (.int x1), some (.int x2), some (.long x3), none, some (.long (x5 + (((x3 - x7) * (((gC σ 23) (((10 : Int32) * x2) + ((2 : Int32) * x9)).toNatClampNeg)).toInt64) * ((gY σ 15)).toInt64))), none, some (.long x3), none, some (.int (x9 + (1 : Int32))), some (.long x3), none]) d_Md_share_176 rfl rfl (Nat.le_of_ble_eq_true rfl) rfl ?_
        refine b_goto (tgt := 60) d_Md_share_179 (by decide) ?_
        exact b_mask [true, true, true, true, true, true, true, true, true, true, false, true] rfl H
      · have H := H.2 c12
        refine b_goto (tgt := 176) d_Md_share_137 (by decide) ?_
        refine b_iinc (v := (x9 + (1 : Int32))) (ls' := [some (.ref 153), some (.int x1), some (.int x2), some (.long x3), none, some (.long x5), none, some (.long x7), none, some (.int (x9 + (1 : Int32))), some (.long x3), none]) d_Md_share_176 rfl rfl (Nat.le_of_ble_eq_true rfl) rfl ?_
        refine b_goto (tgt := 60) d_Md_share_179 (by decide) ?_
        exact b_mask [true, true, true, true, true, true, true, true, true, true, false, true] rfl H
    · have H := H.2 c18
      refine b_iload d_Md_share_93 rfl ?_
      refine b_iconst (v := (1 : Int32)) d_Md_share_95 (by decide) ?_
      refine b_iadd d_Md_share_96  ?_
      refine b_aload_n d_Md_share_97 rfl rfl ?_
      refine b_getf (v := .ref 178) d_Md_share_98 fl_Md_126 (eg_153 σ) rfl ?_
      refine b_iload_n d_Md_share_101 rfl rfl ?_
      refine b_iald d_Md_share_102 (eg_178 σ) h6 ?_
      refine b_st2 (st' := [.int ((gC σ 24) x2.toNatClampNeg), .int (x9 + (1 : Int32))]) rfl ?_
      refine b_icmp_ge (tgt := 126) d_Md_share_103 (by decide) (fun c17 => ?_) (fun c17 => ?_)
      · have H := H.1 c17
        refine b_lload_n d_Md_share_126 rfl rfl ?_
        refine b_lstore (ls' := [some (.ref 153), some (.int x1), some (.int x2), some (.long x3), none, some (.long x5), none, some (.long x7), none, some (.int x9), some (.long x3), none]) d_Md_share_127 (Nat.le_of_ble_eq_true rfl) rfl ?_
        refine b_lload d_Md_share_129 rfl ?_
        refine b_lload d_Md_share_131 rfl ?_
        refine b_lcmp d_Md_share_133 ?_
        refine b_if_gt (tgt := 140) d_Md_share_134 (by decide) (fun c14 => ?_) (fun c14 => ?_)
        · have H := H.1 c14
          refine b_lload d_Md_share_140 rfl ?_
          refine b_lload d_Md_share_142 rfl ?_
          refine b_lload d_Md_share_144 rfl ?_
          refine b_lsub d_Md_share_146  ?_
          refine b_aload_n d_Md_share_147 rfl rfl ?_
          refine b_getf (v := .ref 177) d_Md_share_148 fl_Md_123 (eg_153 σ) rfl ?_
          refine b_bipush (v := (10 : Int32)) d_Md_share_151 (by decide) ?_
          refine b_iload_n d_Md_share_153 rfl rfl ?_
          refine b_imul d_Md_share_154  ?_
          refine b_iconst (v := (2 : Int32)) d_Md_share_155 (by decide) ?_
          refine b_iload d_Md_share_156 rfl ?_
          refine b_imul d_Md_share_158  ?_
          refine b_iadd d_Md_share_159  ?_
          obtain ⟨h13, H⟩ := H
          refine b_iald d_Md_share_160 (eg_177 σ) h13 ?_
          refine b_st2 (st' := [.int ((gC σ 23) (((10 : Int32) * x2) + ((2 : Int32) * x9)).toNatClampNeg), .long (x3 - x7), .long x5]) rfl ?_
          refine b_i2l d_Md_share_161 ?_
          refine b_lmul d_Md_share_162  ?_
          refine b_aload_n d_Md_share_163 rfl rfl ?_
          refine b_getf (v := .int (gY σ 15)) d_Md_share_164 fl_Md_144 (eg_153 σ) rfl ?_
          refine b_i2l d_Md_share_167 ?_
          refine b_lmul d_Md_share_168  ?_
          refine b_ladd d_Md_share_169  ?_
          refine b_lstore (ls' := [some (.ref 153), some (.int x1), some (.int x2), some (.long x3), none, some (.long (x5 + (((x3 - x7) * (((gC σ 23) (((10 : Int32) * x2) + ((2 : Int32) * x9)).toNatClampNeg)).toInt64) * ((gY σ 15)).toInt64))), none, some (.long x7), none, some (.int x9), some (.long x3), none]) d_Md_share_170 (Nat.le_of_ble_eq_true rfl) rfl ?_
          refine b_lload d_Md_share_172 rfl ?_
          refine b_lstore (ls' := [some (.ref 153), some (.int x1), some (.int x2), some (.long x3), none, some (.long (x5 + (((x3 - x7) * (((gC σ 23) (((10 : Int32) * x2) + ((2 : Int32) * x9)).toNatClampNeg)).toInt64) * ((gY σ 15)).toInt64))), none, some (.long x3), none, some (.int x9), some (.long x3), none]) d_Md_share_174 (Nat.le_of_ble_eq_true rfl) rfl ?_
          refine b_iinc (v := (x9 + (1 : Int32))) (ls' := [some (.ref 153), some (.int x1), some (.int x2), some (.long x3), none, some (.long (x5 + (((x3 - x7) * (((gC σ 23) (((10 : Int32) * x2) + ((2 : Int32) * x9)).toNatClampNeg)).toInt64) * ((gY σ 15)).toInt64))), none, some (.long x3), none, some (.int (x9 + (1 : Int32))), some (.long x3), none]) d_Md_share_176 rfl rfl (Nat.le_of_ble_eq_true rfl) rfl ?_
          refine b_goto (tgt := 60) d_Md_share_179 (by decide) ?_
          exact b_mask [true, true, true, true, true, true, true, true, true, true, false, true] rfl H
        · have H := H.2 c14
          refine b_goto (tgt := 176) d_Md_share_137 (by decide) ?_
          refine b_iinc (v := (x9 + (1 : Int32))) (ls' := [some (.ref 153), some (.int x1), some (.int x2), some (.long x3), none, some (.long x5), none, some (.long x7), none, some (.int (x9 + (1 : Int32))), some (.long x3), none]) d_Md_share_176 rfl rfl (Nat.le_of_ble_eq_true rfl) rfl ?_
          refine b_goto (tgt := 60) d_Md_share_179 (by decide) ?_
          exact b_mask [true, true, true, true, true, true, true, true, true, true, false, true] rfl H
      · have H := H.2 c17
        refine b_aload_n d_Md_share_106 rfl rfl ?_
        refine b_getf (v := .ref 177) d_Md_share_107 fl_Md_123 (eg_153 σ) rfl ?_
        refine b_bipush (v := (10 : Int32)) d_Md_share_110 (by decide) ?_
        refine b_iload_n d_Md_share_112 rfl rfl ?_
        refine b_imul d_Md_share_113  ?_
        refine b_iconst (v := (2 : Int32)) d_Md_share_114 (by decide) ?_
        refine b_iload d_Md_share_115 rfl ?_
        refine b_imul d_Md_share_117  ?_
        refine b_iadd d_Md_share_118  ?_
        refine b_iconst (v := (1 : Int32)) d_Md_share_119 (by decide) ?_
        refine b_iadd d_Md_share_120  ?_
        refine b_iald d_Md_share_121 (eg_177 σ) h10 ?_
        refine b_st2 (st' := [.int ((gC σ 23) ((((10 : Int32) * x2) + ((2 : Int32) * x9)) + (1 : Int32)).toNatClampNeg)]) rfl ?_
        refine b_i2l d_Md_share_122 ?_
        refine b_goto (tgt := 127) d_Md_share_123 (by decide) ?_
        refine b_lstore (ls' := [some (.ref 153), some (.int x1), some (.int x2), some (.long x3), none, some (.long x5), none, some (.long x7), none, some (.int x9), some (.long ((((gC σ 23) ((((10 : Int32) * x2) + ((2 : Int32) * x9)) + (1 : Int32)).toNatClampNeg)).toInt64)), none]) d_Md_share_127 (Nat.le_of_ble_eq_true rfl) rfl ?_
        refine b_lload d_Md_share_129 rfl ?_
        refine b_lload d_Md_share_131 rfl ?_
        refine b_lcmp d_Md_share_133 ?_
        refine b_if_gt (tgt := 140) d_Md_share_134 (by decide) (fun c16 => ?_) (fun c16 => ?_)
        · have H := H.1 c16
          refine b_lload d_Md_share_140 rfl ?_
          refine b_lload d_Md_share_142 rfl ?_
          refine b_lload d_Md_share_144 rfl ?_
          refine b_lsub d_Md_share_146  ?_
          refine b_aload_n d_Md_share_147 rfl rfl ?_
          refine b_getf (v := .ref 177) d_Md_share_148 fl_Md_123 (eg_153 σ) rfl ?_
          refine b_bipush (v := (10 : Int32)) d_Md_share_151 (by decide) ?_
          refine b_iload_n d_Md_share_153 rfl rfl ?_
          refine b_imul d_Md_share_154  ?_
          refine b_iconst (v := (2 : Int32)) d_Md_share_155 (by decide) ?_
          refine b_iload d_Md_share_156 rfl ?_
          refine b_imul d_Md_share_158  ?_
          refine b_iadd d_Md_share_159  ?_
          obtain ⟨h15, H⟩ := H
          refine b_iald d_Md_share_160 (eg_177 σ) h15 ?_
          refine b_st2 (st' := [.int ((gC σ 23) (((10 : Int32) * x2) + ((2 : Int32) * x9)).toNatClampNeg), .long ((((gC σ 23) ((((10 : Int32) * x2) + ((2 : Int32) * x9)) + (1 : Int32)).toNatClampNeg)).toInt64 - x7), .long x5]) rfl ?_
          refine b_i2l d_Md_share_161 ?_
          refine b_lmul d_Md_share_162  ?_
          refine b_aload_n d_Md_share_163 rfl rfl ?_
          refine b_getf (v := .int (gY σ 15)) d_Md_share_164 fl_Md_144 (eg_153 σ) rfl ?_
          refine b_i2l d_Md_share_167 ?_
          refine b_lmul d_Md_share_168  ?_
          refine b_ladd d_Md_share_169  ?_
          refine b_lstore (ls' := [some (.ref 153), some (.int x1), some (.int x2), some (.long x3), none, some (.long (x5 + ((((((gC σ 23) ((((10 : Int32) * x2) + ((2 : Int32) * x9)) + (1 : Int32)).toNatClampNeg)).toInt64 - x7) * (((gC σ 23) (((10 : Int32) * x2) + ((2 : Int32) * x9)).toNatClampNeg)).toInt64) * ((gY σ 15)).toInt64))), none, some (.long x7), none, some (.int x9), some (.long ((((gC σ 23) ((((10 : Int32) * x2) + ((2 : Int32) * x9)) + (1 : Int32)).toNatClampNeg)).toInt64)), none]) d_Md_share_170 (Nat.le_of_ble_eq_true rfl) rfl ?_
          refine b_lload d_Md_share_172 rfl ?_
          refine b_lstore (ls' := [some (.ref 153), some (.int x1), some (.int x2), some (.long x3), none, some (.long (x5 + ((((((gC σ 23) ((((10 : Int32) * x2) + ((2 : Int32) * x9)) + (1 : Int32)).toNatClampNeg)).toInt64 - x7) * (((gC σ 23) (((10 : Int32) * x2) + ((2 : Int32) * x9)).toNatClampNeg)).toInt64) * ((gY σ 15)).toInt64))), none, some (.long ((((gC σ 23) ((((10 : Int32) * x2) + ((2 : Int32) * x9)) + (1 : Int32)).toNatClampNeg)).toInt64)), none, some (.int x9), some (.long ((((gC σ 23) ((((10 : Int32) * x2) + ((2 : Int32) * x9)) + (1 : Int32)).toNatClampNeg)).toInt64)), none]) d_Md_share_174 (Nat.le_of_ble_eq_true rfl) rfl ?_
          refine b_iinc (v := (x9 + (1 : Int32))) (ls' := [some (.ref 153), some (.int x1), some (.int x2), some (.long x3), none, some (.long (x5 + ((((((gC σ 23) ((((10 : Int32) * x2) + ((2 : Int32) * x9)) + (1 : Int32)).toNatClampNeg)).toInt64 - x7) * (((gC σ 23) (((10 : Int32) * x2) + ((2 : Int32) * x9)).toNatClampNeg)).toInt64) * ((gY σ 15)).toInt64))), none, some (.long ((((gC σ 23) ((((10 : Int32) * x2) + ((2 : Int32) * x9)) + (1 : Int32)).toNatClampNeg)).toInt64)), none, some (.int (x9 + (1 : Int32))), some (.long ((((gC σ 23) ((((10 : Int32) * x2) + ((2 : Int32) * x9)) + (1 : Int32)).toNatClampNeg)).toInt64)), none]) d_Md_share_176 rfl rfl (Nat.le_of_ble_eq_true rfl) rfl ?_
          refine b_goto (tgt := 60) d_Md_share_179 (by decide) ?_
          exact b_mask [true, true, true, true, true, true, true, true, true, true, false, true] rfl H
        · have H := H.2 c16
          refine b_goto (tgt := 176) d_Md_share_137 (by decide) ?_
          refine b_iinc (v := (x9 + (1 : Int32))) (ls' := [some (.ref 153), some (.int x1), some (.int x2), some (.long x3), none, some (.long x5), none, some (.long x7), none, some (.int (x9 + (1 : Int32))), some (.long ((((gC σ 23) ((((10 : Int32) * x2) + ((2 : Int32) * x9)) + (1 : Int32)).toNatClampNeg)).toInt64)), none]) d_Md_share_176 rfl rfl (Nat.le_of_ble_eq_true rfl) rfl ?_
          refine b_goto (tgt := 60) d_Md_share_179 (by decide) ?_
          exact b_mask [true, true, true, true, true, true, true, true, true, true, false, true] rfl H
theorem C_Md_share {S : XS} {Q : Int64 → St → Prop} (σ : St) (x1 : Int32) (H : BW S m_Md_share 0 [some (.ref 153), some (.int x1), none, none, none, none, none, none, none, none, none, none] [] (enc σ) (qL Q)) : CM S m_Md_share [.ref 153, .int x1] (enc σ) (qL Q) := b_meth (by decide) (Nat.le_of_ble_eq_true rfl) rfl H
theorem d_Md_lateDays_0 : decode m_Md_lateDays.2.1 0 = .ok (.aload_n 0, 1) := by decide +kernel
theorem d_Md_lateDays_1 : decode m_Md_lateDays.2.1 1 = .ok (.getfield 138, 3) := by decide +kernel
theorem d_Md_lateDays_4 : decode m_Md_lateDays.2.1 4 = .ok (.iload_n 1, 1) := by decide +kernel
theorem d_Md_lateDays_5 : decode m_Md_lateDays.2.1 5 = .ok (.iaload, 1) := by decide +kernel
theorem d_Md_lateDays_6 : decode m_Md_lateDays.2.1 6 = .ok (.iconst (-1), 1) := by decide +kernel
theorem d_Md_lateDays_7 : decode m_Md_lateDays.2.1 7 = .ok (.if_icmp .eq 17, 3) := by decide +kernel
theorem d_Md_lateDays_10 : decode m_Md_lateDays.2.1 10 = .ok (.aload_n 0, 1) := by decide +kernel
theorem d_Md_lateDays_11 : decode m_Md_lateDays.2.1 11 = .ok (.getfield 138, 3) := by decide +kernel
theorem d_Md_lateDays_14 : decode m_Md_lateDays.2.1 14 = .ok (.iload_n 1, 1) := by decide +kernel
theorem d_Md_lateDays_15 : decode m_Md_lateDays.2.1 15 = .ok (.iaload, 1) := by decide +kernel
theorem d_Md_lateDays_16 : decode m_Md_lateDays.2.1 16 = .ok (.aload_n 0, 1) := by decide +kernel
theorem d_Md_lateDays_17 : decode m_Md_lateDays.2.1 17 = .ok (.iload_n 1, 1) := by decide +kernel
theorem d_Md_lateDays_18 : decode m_Md_lateDays.2.1 18 = .ok (.invokevirtual 292, 3) := by decide +kernel
theorem d_Md_lateDays_21 : decode m_Md_lateDays.2.1 21 = .ok (.if_icmp .gt 7, 3) := by decide +kernel
theorem d_Md_lateDays_24 : decode m_Md_lateDays.2.1 24 = .ok (.iconst 0, 1) := by decide +kernel
theorem d_Md_lateDays_25 : decode m_Md_lateDays.2.1 25 = .ok (.goto 15, 3) := by decide +kernel
theorem d_Md_lateDays_28 : decode m_Md_lateDays.2.1 28 = .ok (.aload_n 0, 1) := by decide +kernel
theorem d_Md_lateDays_29 : decode m_Md_lateDays.2.1 29 = .ok (.getfield 138, 3) := by decide +kernel
theorem d_Md_lateDays_32 : decode m_Md_lateDays.2.1 32 = .ok (.iload_n 1, 1) := by decide +kernel
theorem d_Md_lateDays_33 : decode m_Md_lateDays.2.1 33 = .ok (.iaload, 1) := by decide +kernel
theorem d_Md_lateDays_34 : decode m_Md_lateDays.2.1 34 = .ok (.aload_n 0, 1) := by decide +kernel
theorem d_Md_lateDays_35 : decode m_Md_lateDays.2.1 35 = .ok (.iload_n 1, 1) := by decide +kernel
theorem d_Md_lateDays_36 : decode m_Md_lateDays.2.1 36 = .ok (.invokevirtual 292, 3) := by decide +kernel
theorem d_Md_lateDays_39 : decode m_Md_lateDays.2.1 39 = .ok (.isub, 1) := by decide +kernel
theorem d_Md_lateDays_40 : decode m_Md_lateDays.2.1 40 = .ok (.ireturn, 1) := by decide +kernel
set_option maxHeartbeats 4000000 in
set_option maxRecDepth 100000 in
theorem B_Md_lateDays_0 {S : XS} {Q : Int32 → St → Prop} (σ : St) (x1 : Int32) (H : (vp_in x1 24) ∧ ((((gC σ 27) x1.toNatClampNeg) = (-1 : Int32) → Q (0 : Int32) σ) ∧ (¬ ((gC σ 27) x1.toNatClampNeg) = (-1 : Int32) → CM S m_Md_due [.ref 153, .int x1] (enc σ) (qI (fun v2 τ3 => ((v2 < ((gC σ 27) x1.toNatClampNeg) → (vp_in x1 24) ∧ CM S m_Md_due [.ref 153, .int x1] (enc τ3) (qI (fun v5 τ6 => Q (((gC τ3 27) x1.toNatClampNeg) - v5) τ6))) ∧ (¬ v2 < ((gC σ 27) x1.toNatClampNeg) → Q (0 : Int32) τ3))))))) : BW S m_Md_lateDays 0 [some (.ref 153), some (.int x1)] [] (enc σ) (qI Q) := by
  refine b_aload_n d_Md_lateDays_0 rfl rfl ?_
  refine b_getf (v := .ref 181) d_Md_lateDays_1 fl_Md_138 (eg_153 σ) rfl ?_
  refine b_iload_n d_Md_lateDays_4 rfl rfl ?_
  obtain ⟨h1, H⟩ := H
  refine b_iald d_Md_lateDays_5 (eg_181 σ) h1 ?_
  refine b_st2 (st' := [.int ((gC σ 27) x1.toNatClampNeg)]) rfl ?_
  refine b_iconst (v := (-1 : Int32)) d_Md_lateDays_6 (by decide) ?_
  refine b_icmp_eq (tgt := 24) d_Md_lateDays_7 (by decide) (fun c8 => ?_) (fun c8 => ?_)
  · have H := H.1 c8
    refine b_iconst (v := (0 : Int32)) d_Md_lateDays_24 (by decide) ?_
    refine b_goto (tgt := 40) d_Md_lateDays_25 (by decide) ?_
    exact b_iret (ty := .int) d_Md_lateDays_40 rfl rfl ⟨_, _, rfl, rfl, H⟩
  · have H := H.2 c8
    refine b_aload_n d_Md_lateDays_10 rfl rfl ?_
    refine b_getf (v := .ref 181) d_Md_lateDays_11 fl_Md_138 (eg_153 σ) rfl ?_
    refine b_iload_n d_Md_lateDays_14 rfl rfl ?_
    refine b_iald d_Md_lateDays_15 (eg_181 σ) h1 ?_
    refine b_st2 (st' := [.int ((gC σ 27) x1.toNatClampNeg)]) rfl ?_
    refine b_aload_n d_Md_lateDays_16 rfl rfl ?_
    refine b_iload_n d_Md_lateDays_17 rfl rfl ?_
    refine b_callVi (Mc := m_Md_due) (As := [.int x1]) (st := [.int ((gC σ 27) x1.toNatClampNeg)]) d_Md_lateDays_18 ⟨⟨kA_Md_due.1, kA_Md_due.2.1, kA_Md_due.2.2, by decide⟩, ml_Md_292, kV_Md_due⟩ (eg_153 σ) rfl rfl (Nat.le_of_ble_eq_true rfl) H (fun v2 τ3 H => ?_)
    refine b_icmp_gt (tgt := 28) d_Md_lateDays_21 (by decide) (fun c7 => ?_) (fun c7 => ?_)
    · have H := H.1 c7
      refine b_aload_n d_Md_lateDays_28 rfl rfl ?_
      refine b_getf (v := .ref 181) d_Md_lateDays_29 fl_Md_138 (eg_153 τ3) rfl ?_
      refine b_iload_n d_Md_lateDays_32 rfl rfl ?_
      obtain ⟨h4, H⟩ := H
      refine b_iald d_Md_lateDays_33 (eg_181 τ3) h4 ?_
      refine b_st2 (st' := [.int ((gC τ3 27) x1.toNatClampNeg)]) rfl ?_
      refine b_aload_n d_Md_lateDays_34 rfl rfl ?_
      refine b_iload_n d_Md_lateDays_35 rfl rfl ?_
      refine b_callVi (Mc := m_Md_due) (As := [.int x1]) (st := [.int ((gC τ3 27) x1.toNatClampNeg)]) d_Md_lateDays_36 ⟨⟨kA_Md_due.1, kA_Md_due.2.1, kA_Md_due.2.2, by decide⟩, ml_Md_292, kV_Md_due⟩ (eg_153 τ3) rfl rfl (Nat.le_of_ble_eq_true rfl) H (fun v5 τ6 H => ?_)
      refine b_isub d_Md_lateDays_39  ?_
      exact b_iret (ty := .int) d_Md_lateDays_40 rfl rfl ⟨_, _, rfl, rfl, H⟩
    · have H := H.2 c7
      refine b_iconst (v := (0 : Int32)) d_Md_lateDays_24 (by decide) ?_
      refine b_goto (tgt := 40) d_Md_lateDays_25 (by decide) ?_
      exact b_iret (ty := .int) d_Md_lateDays_40 rfl rfl ⟨_, _, rfl, rfl, H⟩
theorem C_Md_lateDays {S : XS} {Q : Int32 → St → Prop} (σ : St) (x1 : Int32) (H : BW S m_Md_lateDays 0 [some (.ref 153), some (.int x1)] [] (enc σ) (qI Q)) : CM S m_Md_lateDays [.ref 153, .int x1] (enc σ) (qI Q) := b_meth (by decide) (Nat.le_of_ble_eq_true rfl) rfl H
