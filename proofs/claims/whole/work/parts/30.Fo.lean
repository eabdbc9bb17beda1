/-! block rules, by program -/
theorem d_Fo_addRow_0 : decode m_Fo_addRow.2.1 0 = .ok (.iload_n 1, 1) := by decide +kernel
theorem d_Fo_addRow_1 : decode m_Fo_addRow.2.1 1 = .ok (.iconst (-1), 1) := by decide +kernel
theorem d_Fo_addRow_2 : decode m_Fo_addRow.2.1 2 = .ok (.if_icmp .ne 10, 3) := by decide +kernel
theorem d_Fo_addRow_5 : decode m_Fo_addRow.2.1 5 = .ok (.aload_n 0, 1) := by decide +kernel
theorem d_Fo_addRow_6 : decode m_Fo_addRow.2.1 6 = .ok (.iconst 0, 1) := by decide +kernel
theorem d_Fo_addRow_7 : decode m_Fo_addRow.2.1 7 = .ok (.putfield 18, 3) := by decide +kernel
theorem d_Fo_addRow_10 : decode m_Fo_addRow.2.1 10 = .ok (.iconst 0, 1) := by decide +kernel
theorem d_Fo_addRow_11 : decode m_Fo_addRow.2.1 11 = .ok (.ireturn, 1) := by decide +kernel
theorem d_Fo_addRow_12 : decode m_Fo_addRow.2.1 12 = .ok (.iload_n 1, 1) := by decide +kernel
theorem d_Fo_addRow_13 : decode m_Fo_addRow.2.1 13 = .ok (.ifCond .lt 29, 3) := by decide +kernel
theorem d_Fo_addRow_16 : decode m_Fo_addRow.2.1 16 = .ok (.iload_n 1, 1) := by decide +kernel
theorem d_Fo_addRow_17 : decode m_Fo_addRow.2.1 17 = .ok (.ldc 22, 2) := by decide +kernel
theorem d_Fo_addRow_19 : decode m_Fo_addRow.2.1 19 = .ok (.if_icmp .gt 23, 3) := by decide +kernel
theorem d_Fo_addRow_22 : decode m_Fo_addRow.2.1 22 = .ok (.iload_n 2, 1) := by decide +kernel
theorem d_Fo_addRow_23 : decode m_Fo_addRow.2.1 23 = .ok (.iconst 1, 1) := by decide +kernel
theorem d_Fo_addRow_24 : decode m_Fo_addRow.2.1 24 = .ok (.if_icmp .lt 18, 3) := by decide +kernel
theorem d_Fo_addRow_27 : decode m_Fo_addRow.2.1 27 = .ok (.iload_n 2, 1) := by decide +kernel
theorem d_Fo_addRow_28 : decode m_Fo_addRow.2.1 28 = .ok (.bipush 99, 2) := by decide +kernel
theorem d_Fo_addRow_30 : decode m_Fo_addRow.2.1 30 = .ok (.if_icmp .gt 12, 3) := by decide +kernel
theorem d_Fo_addRow_33 : decode m_Fo_addRow.2.1 33 = .ok (.aload_n 0, 1) := by decide +kernel
theorem d_Fo_addRow_34 : decode m_Fo_addRow.2.1 34 = .ok (.getfield 18, 3) := by decide +kernel
theorem d_Fo_addRow_37 : decode m_Fo_addRow.2.1 37 = .ok (.bipush 8, 2) := by decide +kernel
theorem d_Fo_addRow_39 : decode m_Fo_addRow.2.1 39 = .ok (.if_icmp .lt 5, 3) := by decide +kernel
theorem d_Fo_addRow_42 : decode m_Fo_addRow.2.1 42 = .ok (.iconst (-1), 1) := by decide +kernel
theorem d_Fo_addRow_43 : decode m_Fo_addRow.2.1 43 = .ok (.ireturn, 1) := by decide +kernel
theorem d_Fo_addRow_44 : decode m_Fo_addRow.2.1 44 = .ok (.aload_n 0, 1) := by decide +kernel
theorem d_Fo_addRow_45 : decode m_Fo_addRow.2.1 45 = .ok (.getfield 11, 3) := by decide +kernel
theorem d_Fo_addRow_48 : decode m_Fo_addRow.2.1 48 = .ok (.aload_n 0, 1) := by decide +kernel
theorem d_Fo_addRow_49 : decode m_Fo_addRow.2.1 49 = .ok (.getfield 18, 3) := by decide +kernel
theorem d_Fo_addRow_52 : decode m_Fo_addRow.2.1 52 = .ok (.iload_n 1, 1) := by decide +kernel
theorem d_Fo_addRow_53 : decode m_Fo_addRow.2.1 53 = .ok (.iastore, 1) := by decide +kernel
theorem d_Fo_addRow_54 : decode m_Fo_addRow.2.1 54 = .ok (.aload_n 0, 1) := by decide +kernel
theorem d_Fo_addRow_55 : decode m_Fo_addRow.2.1 55 = .ok (.getfield 15, 3) := by decide +kernel
theorem d_Fo_addRow_58 : decode m_Fo_addRow.2.1 58 = .ok (.aload_n 0, 1) := by decide +kernel
theorem d_Fo_addRow_59 : decode m_Fo_addRow.2.1 59 = .ok (.getfield 18, 3) := by decide +kernel
theorem d_Fo_addRow_62 : decode m_Fo_addRow.2.1 62 = .ok (.iload_n 2, 1) := by decide +kernel
theorem d_Fo_addRow_63 : decode m_Fo_addRow.2.1 63 = .ok (.iastore, 1) := by decide +kernel
theorem d_Fo_addRow_64 : decode m_Fo_addRow.2.1 64 = .ok (.aload_n 0, 1) := by decide +kernel
theorem d_Fo_addRow_65 : decode m_Fo_addRow.2.1 65 = .ok (.dup, 1) := by decide +kernel
theorem d_Fo_addRow_66 : decode m_Fo_addRow.2.1 66 = .ok (.getfield 18, 3) := by decide +kernel
theorem d_Fo_addRow_69 : decode m_Fo_addRow.2.1 69 = .ok (.iconst 1, 1) := by decide +kernel
theorem d_Fo_addRow_70 : decode m_Fo_addRow.2.1 70 = .ok (.iadd, 1) := by decide +kernel
theorem d_Fo_addRow_71 : decode m_Fo_addRow.2.1 71 = .ok (.putfield 18, 3) := by decide +kernel
theorem d_Fo_addRow_74 : decode m_Fo_addRow.2.1 74 = .ok (.aload_n 0, 1) := by decide +kernel
theorem d_Fo_addRow_75 : decode m_Fo_addRow.2.1 75 = .ok (.getfield 18, 3) := by decide +kernel
theorem d_Fo_addRow_78 : decode m_Fo_addRow.2.1 78 = .ok (.ireturn, 1) := by decide +kernel
set_option maxHeartbeats 4000000 in
set_option maxRecDepth 100000 in
theorem B_Fo_addRow_0 {S : XS} {Q : Int32 → St → Prop} (σ : St) (x1 : Int32) (x2 : Int32) (H : ((¬ x1 = (-1 : Int32) → ((x1 < 0 → Q (-1 : Int32) σ) ∧ (¬ x1 < 0 → (((100000 : Int32) < x1 → Q (-1 : Int32) σ) ∧ (¬ (100000 : Int32) < x1 → ((x2 < (1 : Int32) → Q (-1 : Int32) σ) ∧ (¬ x2 < (1 : Int32) → (((99 : Int32) < x2 → Q (-1 : Int32) σ) ∧ (¬ (99 : Int32) < x2 → (((gX σ 22) < (8 : Int32) → (vp_in (gX σ 22) 8) ∧ Q ((gX σ 22) + (1 : Int32)) (sX (sA (sA σ 18 (upd (gA σ 18) (gX σ 22).toNatClampNeg x1)) 19 (upd (gA σ 19) (gX σ 22).toNatClampNeg x2)) 22 ((gX σ 22) + (1 : Int32)))) ∧ (¬ (gX σ 22) < (8 : Int32) → Q (-1 : Int32) σ))))))))))) ∧ (x1 = (-1 : Int32) → Q (0 : Int32) (sX σ 22 (0 : Int32))))) : BW S m_Fo_addRow 0 [some (.ref 150), some (.int x1), some (.int x2)] [] (enc σ) (qI Q) := by
  refine b_iload_n d_Fo_addRow_0 rfl rfl ?_
  refine b_iconst (v := (-1 : Int32)) d_Fo_addRow_1 (by decide) ?_
  refine b_icmp_ne (tgt := 12) d_Fo_addRow_2 (by decide) (fun c7 => ?_) (fun c7 => ?_)
  · have H := H.1 c7
    refine b_iload_n d_Fo_addRow_12 rfl rfl ?_
    refine b_if_lt (tgt := 42) d_Fo_addRow_13 (by decide) (fun c6 => ?_) (fun c6 => ?_)
    · have H := H.1 c6
      refine b_iconst (v := (-1 : Int32)) d_Fo_addRow_42 (by decide) ?_
      exact b_iret (ty := .int) d_Fo_addRow_43 rfl rfl ⟨_, _, rfl, rfl, H⟩
    · have H := H.2 c6
      refine b_iload_n d_Fo_addRow_16 rfl rfl ?_
      refine b_ldc (v := (100000 : Int32)) d_Fo_addRow_17 cn_Fo_22 ?_
      refine b_icmp_gt (tgt := 42) d_Fo_addRow_19 (by decide) (fun c5 => ?_) (fun c5 => ?_)
      · have H := H.1 c5
        refine b_iconst (v := (-1 : Int32)) d_Fo_addRow_42 (by decide) ?_
        exact b_iret (ty := .int) d_Fo_addRow_43 rfl rfl ⟨_, _, rfl, rfl, H⟩
      · have H := H.2 c5
        refine b_iload_n d_Fo_addRow_22 rfl rfl ?_
        refine b_iconst (v := (1 : Int32)) d_Fo_addRow_23 (by decide) ?_
        refine b_icmp_lt (tgt := 42) d_Fo_addRow_24 (by decide) (fun c4 => ?_) (fun c4 => ?_)
        · have H := H.1 c4
          refine b_iconst (v := (-1 : Int32)) d_Fo_addRow_42 (by decide) ?_
          exact b_iret (ty := .int) d_Fo_addRow_43 rfl rfl ⟨_, _, rfl, rfl, H⟩
        · have H := H.2 c4
          refine b_iload_n d_Fo_addRow_27 rfl rfl ?_
          refine b_bipush (v := (99 : Int32)) d_Fo_addRow_28 (by decide) ?_
          refine b_icmp_gt (tgt := 42) d_Fo_addRow_30 (by decide) (fun c3 => ?_) (fun c3 => ?_)
          · have H := H.1 c3
            refine b_iconst (v := (-1 : Int32)) d_Fo_addRow_42 (by decide) ?_
            exact b_iret (ty := .int) d_Fo_addRow_43 rfl rfl ⟨_, _, rfl, rfl, H⟩
          · have H := H.2 c3
            refine b_aload_n d_Fo_addRow_33 rfl rfl ?_
            refine b_getf (v := .int (gX σ 22)) d_Fo_addRow_34 fl_Fo_18 (eg_150 σ) rfl ?_
            refine b_bipush (v := (8 : Int32)) d_Fo_addRow_37 (by decide) ?_
            refine b_icmp_lt (tgt := 44) d_Fo_addRow_39 (by decide) (fun c2 => ?_) (fun c2 => ?_)
            · have H := H.1 c2
              refine b_aload_n d_Fo_addRow_44 rfl rfl ?_
              refine b_getf (v := .ref 151) d_Fo_addRow_45 fl_Fo_11 (eg_150 σ) rfl ?_
              refine b_aload_n d_Fo_addRow_48 rfl rfl ?_
              refine b_getf (v := .int (gX σ 22)) d_Fo_addRow_49 fl_Fo_18 (eg_150 σ) rfl ?_
              refine b_iload_n d_Fo_addRow_52 rfl rfl ?_
              obtain ⟨h1, H⟩ := H
              refine b_iast (h1 := enc (sA σ 18 (upd (gA σ 18) (gX σ 22).toNatClampNeg x1))) d_Fo_addRow_53 (eg_151 σ) h1 (es_151 σ (upd (gA σ 18) (gX σ 22).toNatClampNeg x1)) ?_
              refine b_aload_n d_Fo_addRow_54 rfl rfl ?_
              refine b_getf (v := .ref 152) d_Fo_addRow_55 fl_Fo_15 (eg_150 (sA σ 18 (upd (gA σ 18) (gX σ 22).toNatClampNeg x1))) rfl ?_
              refine b_aload_n d_Fo_addRow_58 rfl rfl ?_
              refine b_getf (v := .int (gX σ 22)) d_Fo_addRow_59 fl_Fo_18 (eg_150 (sA σ 18 (upd (gA σ 18) (gX σ 22).toNatClampNeg x1))) rfl ?_
              refine b_iload_n d_Fo_addRow_62 rfl rfl ?_
              refine b_iast (h1 := enc (sA (sA σ 18 (upd (gA σ 18) (gX σ 22).toNatClampNeg x1)) 19 (upd (gA σ 19) (gX σ 22).toNatClampNeg x2))) d_Fo_addRow_63 (eg_152 (sA σ 18 (upd (gA σ 18) (gX σ 22).toNatClampNeg x1))) h1 (es_152 (sA σ 18 (upd (gA σ 18) (gX σ 22).toNatClampNeg x1)) (upd (gA σ 19) (gX σ 22).toNatClampNeg x2)) ?_
              refine b_aload_n d_Fo_addRow_64 rfl rfl ?_
              refine b_dup d_Fo_addRow_65 rfl ?_
              refine b_getf (v := .int (gX σ 22)) d_Fo_addRow_66 fl_Fo_18 (eg_150 (sA (sA σ 18 (upd (gA σ 18) (gX σ 22).toNatClampNeg x1)) 19 (upd (gA σ 19) (gX σ 22).toNatClampNeg x2))) rfl ?_
              refine b_iconst (v := (1 : Int32)) d_Fo_addRow_69 (by decide) ?_
              refine b_iadd d_Fo_addRow_70  ?_
              refine b_putf (ty := .int) (h1 := enc (sX (sA (sA σ 18 (upd (gA σ 18) (gX σ 22).toNatClampNeg x1)) 19 (upd (gA σ 19) (gX σ 22).toNatClampNeg x2)) 22 ((gX σ 22) + (1 : Int32)))) d_Fo_addRow_71 fl_Fo_18 ft_5_2 (fun _ => ⟨rfl, rfl⟩) (eg_150 (sA (sA σ 18 (upd (gA σ 18) (gX σ 22).toNatClampNeg x1)) 19 (upd (gA σ 19) (gX σ 22).toNatClampNeg x2))) (Nat.le_of_ble_eq_true rfl) (es_150_2 (sA (sA σ 18 (upd (gA σ 18) (gX σ 22).toNatClampNeg x1)) 19 (upd (gA σ 19) (gX σ 22).toNatClampNeg x2)) ((gX σ 22) + (1 : Int32))) ?_
              refine b_aload_n d_Fo_addRow_74 rfl rfl ?_
              refine b_getf (v := .int ((gX σ 22) + (1 : Int32))) d_Fo_addRow_75 fl_Fo_18 (eg_150 (sX (sA (sA σ 18 (upd (gA σ 18) (gX σ 22).toNatClampNeg x1)) 19 (upd (gA σ 19) (gX σ 22).toNatClampNeg x2)) 22 ((gX σ 22) + (1 : Int32)))) rfl ?_
              exact b_iret (ty := .int) d_Fo_addRow_78 rfl rfl ⟨_, _, rfl, rfl, H⟩
            · have H := H.2 c2
              refine b_iconst (v := (-1 : Int32)) d_Fo_addRow_42 (by decide) ?_
              exact b_iret (ty := .int) d_Fo_addRow_43 rfl rfl ⟨_, _, rfl, rfl, H⟩
  · have H := H.2 c7
    refine b_aload_n d_Fo_addRow_5 rfl rfl ?_
    refine b_iconst (v := (0 : Int32)) d_Fo_addRow_6 (by decide) ?_
    refine b_putf (ty := .int) (h1 := enc (sX σ 22 (0 : Int32))) d_Fo_addRow_7 fl_Fo_18 ft_5_2 (fun _ => ⟨rfl, rfl⟩) (eg_150 σ) (Nat.le_of_ble_eq_true rfl) (es_150_2 σ (0 : Int32)) ?_
    refine b_iconst (v := (0 : Int32)) d_Fo_addRow_10 (by decide) ?_
    exact b_iret (ty := .int) d_Fo_addRow_11 rfl rfl ⟨_, _, rfl, rfl, H⟩
theorem C_Fo_addRow {S : XS} {Q : Int32 → St → Prop} (σ : St) (x1 : Int32) (x2 : Int32) (H : BW S m_Fo_addRow 0 [some (.ref 150), some (.int x1), some (.int x2)] [] (enc σ) (qI Q)) : CM S m_Fo_addRow [.ref 150, .int x1, .int x2] (enc σ) (qI Q) := b_meth (by decide) (Nat.le_of_ble_eq_true rfl) rfl H
theorem d_Fo_worthOf_0 : decode m_Fo_worthOf.2.1 0 = .ok (.lconst 0, 1) := by decide +kernel
theorem d_Fo_worthOf_1 : decode m_Fo_worthOf.2.1 1 = .ok (.lstore 4, 2) := by decide +kernel
theorem d_Fo_worthOf_3 : decode m_Fo_worthOf.2.1 3 = .ok (.lconst 0, 1) := by decide +kernel
theorem d_Fo_worthOf_4 : decode m_Fo_worthOf.2.1 4 = .ok (.lstore 6, 2) := by decide +kernel
theorem d_Fo_worthOf_6 : decode m_Fo_worthOf.2.1 6 = .ok (.iconst 0, 1) := by decide +kernel
theorem d_Fo_worthOf_7 : decode m_Fo_worthOf.2.1 7 = .ok (.istore 8, 2) := by decide +kernel
theorem d_Fo_worthOf_9 : decode m_Fo_worthOf.2.1 9 = .ok (.iload 8, 2) := by decide +kernel
theorem d_Fo_worthOf_11 : decode m_Fo_worthOf.2.1 11 = .ok (.aload_n 0, 1) := by decide +kernel
theorem d_Fo_worthOf_12 : decode m_Fo_worthOf.2.1 12 = .ok (.getfield 18, 3) := by decide +kernel
theorem d_Fo_worthOf_15 : decode m_Fo_worthOf.2.1 15 = .ok (.if_icmp .ge 74, 3) := by decide +kernel
theorem d_Fo_worthOf_18 : decode m_Fo_worthOf.2.1 18 = .ok (.iload_n 3, 1) := by decide +kernel
theorem d_Fo_worthOf_19 : decode m_Fo_worthOf.2.1 19 = .ok (.aload_n 0, 1) := by decide +kernel
theorem d_Fo_worthOf_20 : decode m_Fo_worthOf.2.1 20 = .ok (.getfield 11, 3) := by decide +kernel
theorem d_Fo_worthOf_23 : decode m_Fo_worthOf.2.1 23 = .ok (.iload 8, 2) := by decide +kernel
theorem d_Fo_worthOf_25 : decode m_Fo_worthOf.2.1 25 = .ok (.iaload, 1) := by decide +kernel
theorem d_Fo_worthOf_26 : decode m_Fo_worthOf.2.1 26 = .ok (.invokestatic 23, 3) := by decide +kernel
theorem d_Fo_worthOf_29 : decode m_Fo_worthOf.2.1 29 = .ok (.istore 9, 2) := by decide +kernel
theorem d_Fo_worthOf_31 : decode m_Fo_worthOf.2.1 31 = .ok (.aload_n 1, 1) := by decide +kernel
theorem d_Fo_worthOf_32 : decode m_Fo_worthOf.2.1 32 = .ok (.getfield 29, 3) := by decide +kernel
theorem d_Fo_worthOf_35 : decode m_Fo_worthOf.2.1 35 = .ok (.i2l, 1) := by decide +kernel
theorem d_Fo_worthOf_36 : decode m_Fo_worthOf.2.1 36 = .ok (.iload 9, 2) := by decide +kernel
theorem d_Fo_worthOf_38 : decode m_Fo_worthOf.2.1 38 = .ok (.i2l, 1) := by decide +kernel
theorem d_Fo_worthOf_39 : decode m_Fo_worthOf.2.1 39 = .ok (.lmul, 1) := by decide +kernel
theorem d_Fo_worthOf_40 : decode m_Fo_worthOf.2.1 40 = .ok (.aload_n 1, 1) := by decide +kernel
theorem d_Fo_worthOf_41 : decode m_Fo_worthOf.2.1 41 = .ok (.getfield 34, 3) := by decide +kernel
theorem d_Fo_worthOf_44 : decode m_Fo_worthOf.2.1 44 = .ok (.i2l, 1) := by decide +kernel
theorem d_Fo_worthOf_45 : decode m_Fo_worthOf.2.1 45 = .ok (.iload_n 3, 1) := by decide +kernel
theorem d_Fo_worthOf_46 : decode m_Fo_worthOf.2.1 46 = .ok (.iload 9, 2) := by decide +kernel
theorem d_Fo_worthOf_48 : decode m_Fo_worthOf.2.1 48 = .ok (.isub, 1) := by decide +kernel
theorem d_Fo_worthOf_49 : decode m_Fo_worthOf.2.1 49 = .ok (.i2l, 1) := by decide +kernel
theorem d_Fo_worthOf_50 : decode m_Fo_worthOf.2.1 50 = .ok (.lmul, 1) := by decide +kernel
theorem d_Fo_worthOf_51 : decode m_Fo_worthOf.2.1 51 = .ok (.ladd, 1) := by decide +kernel
theorem d_Fo_worthOf_52 : decode m_Fo_worthOf.2.1 52 = .ok (.lstore 10, 2) := by decide +kernel
theorem d_Fo_worthOf_54 : decode m_Fo_worthOf.2.1 54 = .ok (.lload 4, 2) := by decide +kernel
theorem d_Fo_worthOf_56 : decode m_Fo_worthOf.2.1 56 = .ok (.aload_n 0, 1) := by decide +kernel
theorem d_Fo_worthOf_57 : decode m_Fo_worthOf.2.1 57 = .ok (.getfield 15, 3) := by decide +kernel
theorem d_Fo_worthOf_60 : decode m_Fo_worthOf.2.1 60 = .ok (.iload 8, 2) := by decide +kernel
theorem d_Fo_worthOf_62 : decode m_Fo_worthOf.2.1 62 = .ok (.iaload, 1) := by decide +kernel
theorem d_Fo_worthOf_63 : decode m_Fo_worthOf.2.1 63 = .ok (.i2l, 1) := by decide +kernel
theorem d_Fo_worthOf_64 : decode m_Fo_worthOf.2.1 64 = .ok (.lload 10, 2) := by decide +kernel
theorem d_Fo_worthOf_66 : decode m_Fo_worthOf.2.1 66 = .ok (.lmul, 1) := by decide +kernel
theorem d_Fo_worthOf_67 : decode m_Fo_worthOf.2.1 67 = .ok (.ladd, 1) := by decide +kernel
theorem d_Fo_worthOf_68 : decode m_Fo_worthOf.2.1 68 = .ok (.lstore 4, 2) := by decide +kernel
theorem d_Fo_worthOf_70 : decode m_Fo_worthOf.2.1 70 = .ok (.lload 6, 2) := by decide +kernel
theorem d_Fo_worthOf_72 : decode m_Fo_worthOf.2.1 72 = .ok (.aload_n 0, 1) := by decide +kernel
theorem d_Fo_worthOf_73 : decode m_Fo_worthOf.2.1 73 = .ok (.getfield 15, 3) := by decide +kernel
theorem d_Fo_worthOf_76 : decode m_Fo_worthOf.2.1 76 = .ok (.iload 8, 2) := by decide +kernel
theorem d_Fo_worthOf_78 : decode m_Fo_worthOf.2.1 78 = .ok (.iaload, 1) := by decide +kernel
theorem d_Fo_worthOf_79 : decode m_Fo_worthOf.2.1 79 = .ok (.i2l, 1) := by decide +kernel
theorem d_Fo_worthOf_80 : decode m_Fo_worthOf.2.1 80 = .ok (.ladd, 1) := by decide +kernel
theorem d_Fo_worthOf_81 : decode m_Fo_worthOf.2.1 81 = .ok (.lstore 6, 2) := by decide +kernel
theorem d_Fo_worthOf_83 : decode m_Fo_worthOf.2.1 83 = .ok (.iinc 8 1, 3) := by decide +kernel
theorem d_Fo_worthOf_86 : decode m_Fo_worthOf.2.1 86 = .ok (.goto (-77), 3) := by decide +kernel
theorem d_Fo_worthOf_89 : decode m_Fo_worthOf.2.1 89 = .ok (.lload 4, 2) := by decide +kernel
theorem d_Fo_worthOf_91 : decode m_Fo_worthOf.2.1 91 = .ok (.lload 6, 2) := by decide +kernel
theorem d_Fo_worthOf_93 : decode m_Fo_worthOf.2.1 93 = .ok (.aload_n 1, 1) := by decide +kernel
theorem d_Fo_worthOf_94 : decode m_Fo_worthOf.2.1 94 = .ok (.iload_n 2, 1) := by decide +kernel
theorem d_Fo_worthOf_95 : decode m_Fo_worthOf.2.1 95 = .ok (.iload_n 3, 1) := by decide +kernel
theorem d_Fo_worthOf_96 : decode m_Fo_worthOf.2.1 96 = .ok (.invokevirtual 37, 3) := by decide +kernel
theorem d_Fo_worthOf_99 : decode m_Fo_worthOf.2.1 99 = .ok (.i2l, 1) := by decide +kernel
theorem d_Fo_worthOf_100 : decode m_Fo_worthOf.2.1 100 = .ok (.lmul, 1) := by decide +kernel
theorem d_Fo_worthOf_101 : decode m_Fo_worthOf.2.1 101 = .ok (.lsub, 1) := by decide +kernel
theorem d_Fo_worthOf_102 : decode m_Fo_worthOf.2.1 102 = .ok (.lreturn, 1) := by decide +kernel
set_option maxHeartbeats 4000000 in
set_option maxRecDepth 100000 in
theorem B_Fo_worthOf_0 {S : XS} {Q : Int64 → St → Prop} (σ : St) (x2 : Int32) (x3 : Int32) (H : BW S m_Fo_worthOf 9 [some (.ref 150), some (.ref 144), some (.int x2), some (.int x3), some (.long (0 : Int64)), none, some (.long (0 : Int64)), none, some (.int (0 : Int32)), none, none, none] [] (enc σ) (qL Q)) : BW S m_Fo_worthOf 0 [some (.ref 150), some (.ref 144), some (.int x2), some (.int x3), none, none, none, none, none, none, none, none] [] (enc σ) (qL Q) := by
  refine b_lconst (v := (0 : Int64)) d_Fo_worthOf_0 (by decide) ?_
  refine b_lstore (ls' := [some (.ref 150), some (.ref 144), some (.int x2), some (.int x3), some (.long (0 : Int64)), none, none, none, none, none, none, none]) d_Fo_worthOf_1 (Nat.le_of_ble_eq_true rfl) rfl ?_
  refine b_lconst (v := (0 : Int64)) d_Fo_worthOf_3 (by decide) ?_
  refine b_lstore (ls' := [some (.ref 150), some (.ref 144), some (.int x2), some (.int x3), some (.long (0 : Int64)), none, some (.long (0 : Int64)), none, none, none, none, none]) d_Fo_worthOf_4 (Nat.le_of_ble_eq_true rfl) rfl ?_
  refine b_iconst (v := (0 : Int32)) d_Fo_worthOf_6 (by decide) ?_
  refine b_istore (ls' := [some (.ref 150), some (.ref 144), some (.int x2), some (.int x3), some (.long (0 : Int64)), none, some (.long (0 : Int64)), none, some (.int (0 : Int32)), none, none, none]) d_Fo_worthOf_7 (Nat.le_of_ble_eq_true rfl) rfl ?_
  exact b_mask [true, true, true, true, true, true, true, true, true, true, true, true] rfl H
set_option maxHeartbeats 4000000 in
set_option maxRecDepth 100000 in
theorem B_Fo_worthOf_9 {S : XS} {Q : Int64 → St → Prop} (σ : St) (x2 : Int32) (x3 : Int32) (x4 : Int64) (x6 : Int64) (x8 : Int32) (H : (((gX σ 22) ≤ x8 → CM S m_Sh_printingCost [.ref 144, .int x2, .int x3] (enc σ) (qI (fun v1 τ2 => Q (x4 - (x6 * (v1).toInt64)) τ2))) ∧ (¬ (gX σ 22) ≤ x8 → (vp_in x8 8) ∧ BW S m_Fo_worthOf 9 [some (.ref 150), some (.ref 144), some (.int x2), some (.int x3), some (.long (x4 + ((((gA σ 19) x8.toNatClampNeg)).toInt64 * ((((gX σ 18)).toInt64 * ((if ((gA σ 18) x8.toNatClampNeg) < x3 then ((gA σ 18) x8.toNatClampNeg) else x3)).toInt64) + (((gX σ 21)).toInt64 * ((x3 - (if ((gA σ 18) x8.toNatClampNeg) < x3 then ((gA σ 18) x8.toNatClampNeg) else x3))).toInt64))))), none, some (.long (x6 + (((gA σ 19) x8.toNatClampNeg)).toInt64)), none, some (.int (x8 + (1 : Int32))), none, none, none] [] (enc σ) (qL Q)))) : BW S m_Fo_worthOf 9 [some (.ref 150), some (.ref 144), some (.int x2), some (.int x3), some (.long x4), none, some (.long x6), none, some (.int x8), none, none, none] [] (enc σ) (qL Q) := by
  refine b_iload d_Fo_worthOf_9 rfl ?_
  refine b_aload_n d_Fo_worthOf_11 rfl rfl ?_
  refine b_getf (v := .int (gX σ 22)) d_Fo_worthOf_12 fl_Fo_18 (eg_150 σ) rfl ?_
  refine b_icmp_ge (tgt := 89) d_Fo_worthOf_15 (by decide) (fun c4 => ?_) (fun c4 => ?_)
  · have H := H.1 c4
    refine b_lload d_Fo_worthOf_89 rfl ?_
    refine b_lload d_Fo_worthOf_91 rfl ?_
    refine b_aload_n d_Fo_worthOf_93 rfl rfl ?_
    refine b_iload_n d_Fo_worthOf_94 rfl rfl ?_
    refine b_iload_n d_Fo_worthOf_95 rfl rfl ?_
    refine b_callVi (Mc := m_Sh_printingCost) (As := [.int x2, .int x3]) (st := [.long x6, .long x4]) d_Fo_worthOf_96 ⟨⟨kA_Sh_printingCost.1, kA_Sh_printingCost.2.1, kA_Sh_printingCost.2.2, by decide⟩, ml_Fo_37, kV_Sh_printingCost⟩ (eg_144 σ) rfl rfl (Nat.le_of_ble_eq_true rfl) H (fun v1 τ2 H => ?_)
    refine b_i2l d_Fo_worthOf_99 ?_
    refine b_lmul d_Fo_worthOf_100  ?_
    refine b_lsub d_Fo_worthOf_101  ?_
    exact b_lret d_Fo_worthOf_102 rfl ⟨_, _, rfl, rfl, H⟩
  · have H := H.2 c4
    refine b_iload_n d_Fo_worthOf_18 rfl rfl ?_
    refine b_aload_n d_Fo_worthOf_19 rfl rfl ?_
    refine b_getf (v := .ref 151) d_Fo_worthOf_20 fl_Fo_11 (eg_150 σ) rfl ?_
    refine b_iload d_Fo_worthOf_23 rfl ?_
    obtain ⟨h3, H⟩ := H
    refine b_iald d_Fo_worthOf_25 (eg_151 σ) h3 ?_
    refine b_st2 (st' := [.int ((gA σ 18) x8.toNatClampNeg), .int x3]) rfl ?_
    refine b_minI d_Fo_worthOf_26 ml_Fo_23 (Nat.le_of_ble_eq_true rfl) ⟨by decide, by decide⟩ ?_
    refine b_istore (ls' := [some (.ref 150), some (.ref 144), some (.int x2), some (.int x3), some (.long x4), none, some (.long x6), none, some (.int x8), some (.int (if ((gA σ 18) x8.toNatClampNeg) < x3 then ((gA σ 18) x8.toNatClampNeg) else x3)), none, none]) d_Fo_worthOf_29 (Nat.le_of_ble_eq_true rfl) rfl ?_
    refine b_aload_n d_Fo_worthOf_31 rfl rfl ?_
    refine b_getfN (v := .int (gX σ 18)) d_Fo_worthOf_32 fn_Fo_29 (eg_144 σ) rfl ?_
    refine b_i2l d_Fo_worthOf_35 ?_
    refine b_iload d_Fo_worthOf_36 rfl ?_
    refine b_i2l d_Fo_worthOf_38 ?_
    refine b_lmul d_Fo_worthOf_39  ?_
    refine b_aload_n d_Fo_worthOf_40 rfl rfl ?_
    refine b_getfN (v := .int (gX σ 21)) d_Fo_worthOf_41 fn_Fo_34 (eg_144 σ) rfl ?_
    refine b_i2l d_Fo_worthOf_44 ?_
    refine b_iload_n d_Fo_worthOf_45 rfl rfl ?_
    refine b_iload d_Fo_worthOf_46 rfl ?_
    refine b_isub d_Fo_worthOf_48  ?_
    refine b_i2l d_Fo_worthOf_49 ?_
    refine b_lmul d_Fo_worthOf_50  ?_
    refine b_ladd d_Fo_worthOf_51  ?_
    refine b_lstore (ls' := [some (.ref 150), some (.ref 144), some (.int x2), some (.int x3), some (.long x4), none, some (.long x6), none, some (.int x8), some (.int (if ((gA σ 18) x8.toNatClampNeg) < x3 then ((gA σ 18) x8.toNatClampNeg) else x3)), some (.long ((((gX σ 18)).toInt64 * ((if ((gA σ 18) x8.toNatClampNeg) < x3 then ((gA σ 18) x8.toNatClampNeg) else x3)).toInt64) + (((gX σ 21)).toInt64 * ((x3 - (if ((gA σ 18) x8.toNatClampNeg) < x3 then ((gA σ 18) x8.toNatClampNeg) else x3))).toInt64))), none]) d_Fo_worthOf_52 (Nat.le_of_ble_eq_true rfl) rfl ?_
    refine b_lload d_Fo_worthOf_54 rfl ?_
    refine b_aload_n d_Fo_worthOf_56 rfl rfl ?_
    refine b_getf (v := .ref 152) d_Fo_worthOf_57 fl_Fo_15 (eg_150 σ) rfl ?_
    refine b_iload d_Fo_worthOf_60 rfl ?_
    refine b_iald d_Fo_worthOf_62 (eg_152 σ) h3 ?_
    refine b_st2 (st' := [.int ((gA σ 19) x8.toNatClampNeg), .long x4]) rfl ?_
    refine b_i2l d_Fo_worthOf_63 ?_
    refine b_lload d_Fo_worthOf_64 rfl ?_
    refine b_lmul d_Fo_worthOf_66  ?_
    refine b_ladd d_Fo_worthOf_67  ?_
    refine b_lstore (ls' := [some (.ref 150), some (.ref 144), some (.int x2), some (.int x3), some (.long (x4 + ((((gA σ 19) x8.toNatClampNeg)).toInt64 * ((((gX σ 18)).toInt64 * ((if ((gA σ 18) x8.toNatClampNeg) < x3 then ((gA σ 18) x8.toNatClampNeg) else x3)).toInt64) + (((gX σ 21)).toInt64 * ((x3 - (if ((gA σ 18) x8.toNatClampNeg) < x3 then ((gA σ 18) x8.toNatClampNeg) else x3))).toInt64))))), none, some (.long x6), none, some (.int x8), some (.int (if ((gA σ 18) x8.toNatClampNeg) < x3 then ((gA σ 18) x8.toNatClampNeg) else x3)), some (.long ((((gX σ 18)).toInt64 * ((if ((gA σ 18) x8.toNatClampNeg) < x3 then ((gA σ 18) x8.toNatClampNeg) else x3)).toInt64) + (((gX σ 21)).toInt64 * ((x3 - (if ((gA σ 18) x8.toNatClampNeg) < x3 then ((gA σ 18) x8.toNatClampNeg) else x3))).toInt64))), none]) d_Fo_worthOf_68 (Nat.le_of_ble_eq_true rfl) rfl ?_
    refine b_lload d_Fo_worthOf_70 rfl ?_
    refine b_aload_n d_Fo_worthOf_72 rfl rfl ?_
    refine b_getf (v := .ref 152) d_Fo_worthOf_73 fl_Fo_15 (eg_150 σ) rfl ?_
    refine b_iload d_Fo_worthOf_76 rfl ?_
    refine b_iald d_Fo_worthOf_78 (eg_152 σ) h3 ?_
    refine b_st2 (st' := [.int ((gA σ 19) x8.toNatClampNeg), .long x6]) rfl ?_
    refine b_i2l d_Fo_worthOf_79 ?_
    refine b_ladd d_Fo_worthOf_80  ?_
    refine b_lstore (ls' := [some (.ref 150), some (.ref 144), some (.int x2), some (.int x3), some (.long (x4 + ((((gA σ 19) x8.toNatClampNeg)).toInt64 * ((((gX σ 18)).toInt64 * ((if ((gA σ 18) x8.toNatClampNeg) < x3 then ((gA σ 18) x8.toNatClampNeg) else x3)).toInt64) + (((gX σ 21)).toInt64 * ((x3 - (if ((gA σ 18) x8.toNatClampNeg) < x3 then ((gA σ 18) x8.toNatClampNeg) else x3))).toInt64))))), none, some (.long (x6 + (((gA σ 19) x8.toNatClampNeg)).toInt64)), none, some (.int x8), some (.int (if ((gA σ 18) x8.toNatClampNeg) < x3 then ((gA σ 18) x8.toNatClampNeg) else x3)), some (.long ((((gX σ 18)).toInt64 * ((if ((gA σ 18) x8.toNatClampNeg) < x3 then ((gA σ 18) x8.toNatClampNeg) else x3)).toInt64) + (((gX σ 21)).toInt64 * ((x3 - (if ((gA σ 18) x8.toNatClampNeg) < x3 then ((gA σ 18) x8.toNatClampNeg) else x3))).toInt64))), none]) d_Fo_worthOf_81 (Nat.le_of_ble_eq_true rfl) rfl ?_
    refine b_iinc (v := (x8 + (1 : Int32))) (ls' := [some (.ref 150), some (.ref 144), some (.int x2), some (.int x3), some (.long (x4 + ((((gA σ 19) x8.toNatClampNeg)).toInt64 * ((((gX σ 18)).toInt64 * ((if ((gA σ 18) x8.toNatClampNeg) < x3 then ((gA σ 18) x8.toNatClampNeg) else x3)).toInt64) + (((gX σ 21)).toInt64 * ((x3 - (if ((gA σ 18) x8.toNatClampNeg) < x3 then ((gA σ 18) x8.toNatClampNeg) else x3))).toInt64))))), none, some (.long (x6 + (((gA σ 19) x8.toNatClampNeg)).toInt64)), none, some (.int (x8 + (1 : Int32))), some (.int (if ((gA σ 18) x8.toNatClampNeg) < x3 then ((gA σ 18) x8.toNatClampNeg) else x3)), some (.long ((((gX σ 18)).toInt64 * ((if ((gA σ 18) x8.toNatClampNeg) < x3 then ((gA σ 18) x8.toNatClampNeg) else x3)).toInt64) + (((gX σ 21)).toInt64 * ((x3 - (if ((gA σ 18) x8.toNatClampNeg) < x3 then ((gA σ 18) x8.toNatClampNeg) else x3))).toInt64))), none]) d_Fo_worthOf_83 rfl rfl (Nat.le_of_ble_eq_true rfl) rfl ?_
    refine b_goto (tgt := 9) d_Fo_worthOf_86 (by decide) ?_
    exact b_mask [true, true, true, true, true, true, true, true, true, false, false, true] rfl H
theorem C_Fo_worthOf {S : XS} {Q : Int64 → St → Prop} (σ : St) (x2 : Int32) (x3 : Int32) (H : BW S m_Fo_worthOf 0 [some (.ref 150), some (.ref 144), some (.int x2), some (.int x3), none, none, none, none, none, none, none, none] [] (enc σ) (qL Q)) : CM S m_Fo_worthOf [.ref 150, .ref 144, .int x2, .int x3] (enc σ) (qL Q) := b_meth (by decide) (Nat.le_of_ble_eq_true rfl) rfl H
theorem d_Fo_bestCopies_0 : decode m_Fo_bestCopies.2.1 0 = .ok (.iconst 0, 1) := by decide +kernel
theorem d_Fo_bestCopies_1 : decode m_Fo_bestCopies.2.1 1 = .ok (.istore_n 3, 1) := by decide +kernel
theorem d_Fo_bestCopies_2 : decode m_Fo_bestCopies.2.1 2 = .ok (.aload_n 0, 1) := by decide +kernel
theorem d_Fo_bestCopies_3 : decode m_Fo_bestCopies.2.1 3 = .ok (.aload_n 1, 1) := by decide +kernel
theorem d_Fo_bestCopies_4 : decode m_Fo_bestCopies.2.1 4 = .ok (.iload_n 2, 1) := by decide +kernel
theorem d_Fo_bestCopies_5 : decode m_Fo_bestCopies.2.1 5 = .ok (.iconst 0, 1) := by decide +kernel
theorem d_Fo_bestCopies_6 : decode m_Fo_bestCopies.2.1 6 = .ok (.invokevirtual 40, 3) := by decide +kernel
theorem d_Fo_bestCopies_9 : decode m_Fo_bestCopies.2.1 9 = .ok (.lstore 4, 2) := by decide +kernel
theorem d_Fo_bestCopies_11 : decode m_Fo_bestCopies.2.1 11 = .ok (.iconst 0, 1) := by decide +kernel
theorem d_Fo_bestCopies_12 : decode m_Fo_bestCopies.2.1 12 = .ok (.istore 6, 2) := by decide +kernel
theorem d_Fo_bestCopies_14 : decode m_Fo_bestCopies.2.1 14 = .ok (.iload 6, 2) := by decide +kernel
theorem d_Fo_bestCopies_16 : decode m_Fo_bestCopies.2.1 16 = .ok (.aload_n 0, 1) := by decide +kernel
theorem d_Fo_bestCopies_17 : decode m_Fo_bestCopies.2.1 17 = .ok (.getfield 18, 3) := by decide +kernel
theorem d_Fo_bestCopies_20 : decode m_Fo_bestCopies.2.1 20 = .ok (.if_icmp .ge 63, 3) := by decide +kernel
theorem d_Fo_bestCopies_23 : decode m_Fo_bestCopies.2.1 23 = .ok (.aload_n 0, 1) := by decide +kernel
theorem d_Fo_bestCopies_24 : decode m_Fo_bestCopies.2.1 24 = .ok (.aload_n 1, 1) := by decide +kernel
theorem d_Fo_bestCopies_25 : decode m_Fo_bestCopies.2.1 25 = .ok (.iload_n 2, 1) := by decide +kernel
theorem d_Fo_bestCopies_26 : decode m_Fo_bestCopies.2.1 26 = .ok (.aload_n 0, 1) := by decide +kernel
theorem d_Fo_bestCopies_27 : decode m_Fo_bestCopies.2.1 27 = .ok (.getfield 11, 3) := by decide +kernel
theorem d_Fo_bestCopies_30 : decode m_Fo_bestCopies.2.1 30 = .ok (.iload 6, 2) := by decide +kernel
theorem d_Fo_bestCopies_32 : decode m_Fo_bestCopies.2.1 32 = .ok (.iaload, 1) := by decide +kernel
theorem d_Fo_bestCopies_33 : decode m_Fo_bestCopies.2.1 33 = .ok (.invokevirtual 40, 3) := by decide +kernel
theorem d_Fo_bestCopies_36 : decode m_Fo_bestCopies.2.1 36 = .ok (.lstore 7, 2) := by decide +kernel
theorem d_Fo_bestCopies_38 : decode m_Fo_bestCopies.2.1 38 = .ok (.lload 7, 2) := by decide +kernel
theorem d_Fo_bestCopies_40 : decode m_Fo_bestCopies.2.1 40 = .ok (.lload 4, 2) := by decide +kernel
theorem d_Fo_bestCopies_42 : decode m_Fo_bestCopies.2.1 42 = .ok (.lcmp, 1) := by decide +kernel
theorem d_Fo_bestCopies_43 : decode m_Fo_bestCopies.2.1 43 = .ok (.ifCond .gt 22, 3) := by decide +kernel
theorem d_Fo_bestCopies_46 : decode m_Fo_bestCopies.2.1 46 = .ok (.lload 7, 2) := by decide +kernel
theorem d_Fo_bestCopies_48 : decode m_Fo_bestCopies.2.1 48 = .ok (.lload 4, 2) := by decide +kernel
theorem d_Fo_bestCopies_50 : decode m_Fo_bestCopies.2.1 50 = .ok (.lcmp, 1) := by decide +kernel
theorem d_Fo_bestCopies_51 : decode m_Fo_bestCopies.2.1 51 = .ok (.ifCond .ne 26, 3) := by decide +kernel
theorem d_Fo_bestCopies_54 : decode m_Fo_bestCopies.2.1 54 = .ok (.aload_n 0, 1) := by decide +kernel
theorem d_Fo_bestCopies_55 : decode m_Fo_bestCopies.2.1 55 = .ok (.getfield 11, 3) := by decide +kernel
theorem d_Fo_bestCopies_58 : decode m_Fo_bestCopies.2.1 58 = .ok (.iload 6, 2) := by decide +kernel
theorem d_Fo_bestCopies_60 : decode m_Fo_bestCopies.2.1 60 = .ok (.iaload, 1) := by decide +kernel
theorem d_Fo_bestCopies_61 : decode m_Fo_bestCopies.2.1 61 = .ok (.iload_n 3, 1) := by decide +kernel
theorem d_Fo_bestCopies_62 : decode m_Fo_bestCopies.2.1 62 = .ok (.if_icmp .ge 15, 3) := by decide +kernel
theorem d_Fo_bestCopies_65 : decode m_Fo_bestCopies.2.1 65 = .ok (.aload_n 0, 1) := by decide +kernel
theorem d_Fo_bestCopies_66 : decode m_Fo_bestCopies.2.1 66 = .ok (.getfield 11, 3) := by decide +kernel
theorem d_Fo_bestCopies_69 : decode m_Fo_bestCopies.2.1 69 = .ok (.iload 6, 2) := by decide +kernel
theorem d_Fo_bestCopies_71 : decode m_Fo_bestCopies.2.1 71 = .ok (.iaload, 1) := by decide +kernel
theorem d_Fo_bestCopies_72 : decode m_Fo_bestCopies.2.1 72 = .ok (.istore_n 3, 1) := by decide +kernel
theorem d_Fo_bestCopies_73 : decode m_Fo_bestCopies.2.1 73 = .ok (.lload 7, 2) := by decide +kernel
theorem d_Fo_bestCopies_75 : decode m_Fo_bestCopies.2.1 75 = .ok (.lstore 4, 2) := by decide +kernel
theorem d_Fo_bestCopies_77 : decode m_Fo_bestCopies.2.1 77 = .ok (.iinc 6 1, 3) := by decide +kernel
theorem d_Fo_bestCopies_80 : decode m_Fo_bestCopies.2.1 80 = .ok (.goto (-66), 3) := by decide +kernel
theorem d_Fo_bestCopies_83 : decode m_Fo_bestCopies.2.1 83 = .ok (.iload_n 3, 1) := by decide +kernel
theorem d_Fo_bestCopies_84 : decode m_Fo_bestCopies.2.1 84 = .ok (.ireturn, 1) := by decide +kernel
set_option maxHeartbeats 4000000 in
set_option maxRecDepth 100000 in
theorem B_Fo_bestCopies_0 {S : XS} {Q : Int32 → St → Prop} (σ : St) (x2 : Int32) (H : CM S m_Fo_worthOf [.ref 150, .ref 144, .int x2, .int (0 : Int32)] (enc σ) (qL (fun v1 τ2 => BW S m_Fo_bestCopies 14 [some (.ref 150), some (.ref 144), some (.int x2), some (.int (0 : Int32)), some (.long v1), none, some (.int (0 : Int32)), none, none] [] (enc τ2) (qI Q)))) : BW S m_Fo_bestCopies 0 [some (.ref 150), some (.ref 144), some (.int x2), none, none, none, none, none, none] [] (enc σ) (qI Q) := by
  refine b_iconst (v := (0 : Int32)) d_Fo_bestCopies_0 (by decide) ?_
  refine b_istore_n (ls' := [some (.ref 150), some (.ref 144), some (.int x2), some (.int (0 : Int32)), none, none, none, none, none]) d_Fo_bestCopies_1 rfl (Nat.le_of_ble_eq_true rfl) rfl ?_
  refine b_aload_n d_Fo_bestCopies_2 rfl rfl ?_
  refine b_aload_n d_Fo_bestCopies_3 rfl rfl ?_
  refine b_iload_n d_Fo_bestCopies_4 rfl rfl ?_
  refine b_iconst (v := (0 : Int32)) d_Fo_bestCopies_5 (by decide) ?_
  refine b_callVl (Mc := m_Fo_worthOf) (As := [.ref 144, .int x2, .int (0 : Int32)]) (st := []) d_Fo_bestCopies_6 ⟨⟨kA_Fo_worthOf.1, kA_Fo_worthOf.2.1, kA_Fo_worthOf.2.2, by decide⟩, ml_Fo_40, kV_Fo_worthOf⟩ (eg_150 σ) rfl rfl (Nat.le_of_ble_eq_true rfl) H (fun v1 τ2 H => ?_)
  refine b_lstore (ls' := [some (.ref 150), some (.ref 144), some (.int x2), some (.int (0 : Int32)), some (.long v1), none, none, none, none]) d_Fo_bestCopies_9 (Nat.le_of_ble_eq_true rfl) rfl ?_
  refine b_iconst (v := (0 : Int32)) d_Fo_bestCopies_11 (by decide) ?_
  refine b_istore (ls' := [some (.ref 150), some (.ref 144), some (.int x2), some (.int (0 : Int32)), some (.long v1), none, some (.int (0 : Int32)), none, none]) d_Fo_bestCopies_12 (Nat.le_of_ble_eq_true rfl) rfl ?_
  exact b_mask [true, true, true, true, true, true, true, true, true] rfl H
set_option maxHeartbeats 4000000 in
set_option maxRecDepth 100000 in
theorem B_Fo_bestCopies_14 {S : XS} {Q : Int32 → St → Prop} (σ : St) (x2 : Int32) (x3 : Int32) (x4 : Int64) (x6 : Int32) (H : (((gX σ 22) ≤ x6 → Q x3 σ) ∧ (¬ (gX σ 22) ≤ x6 → (vp_in x6 8) ∧ CM S m_Fo_worthOf [.ref 150, .ref 144, .int x2, .int ((gA σ 18) x6.toNatClampNeg)] (enc σ) (qL (fun v4 τ5 => ((0 < (lg_cmp v4 x4) → (vp_in x6 8) ∧ BW S m_Fo_bestCopies 14 [some (.ref 150), some (.ref 144), some (.int x2), some (.int ((gA τ5 18) x6.toNatClampNeg)), some (.long v4), none, some (.int (x6 + (1 : Int32))), none, none] [] (enc τ5) (qI Q)) ∧ (¬ 0 < (lg_cmp v4 x4) → ((¬ (lg_cmp v4 x4) = 0 → BW S m_Fo_bestCopies 14 [some (.ref 150), some (.ref 144), some (.int x2), some (.int x3), some (.long x4), none, some (.int (x6 + (1 : Int32))), none, none] [] (enc τ5) (qI Q)) ∧ ((lg_cmp v4 x4) = 0 → (vp_in x6 8) ∧ ((x3 ≤ ((gA τ5 18) x6.toNatClampNeg) → BW S m_Fo_bestCopies 14 [some (.ref 150), some (.ref 144), some (.int x2), some (.int x3), some (.long x4), none, some (.int (x6 + (1 : Int32))), none, none] [] (enc τ5) (qI Q)) ∧ (¬ x3 ≤ ((gA τ5 18) x6.toNatClampNeg) → BW S m_Fo_bestCopies 14 [some (.ref 150), some (.ref 144), some (.int x2), some (.int ((gA τ5 18) x6.toNatClampNeg)), some (.long v4), none, some (.int (x6 + (1 : Int32))), none, none] [] (enc τ5) (qI Q)))))))))))) : BW S m_Fo_bestCopies 14 [some (.ref 150), some (.ref 144), some (.int x2), some (.int x3), some (.long x4), none, some (.int x6), none, none] [] (enc σ) (qI Q) := by
  refine b_iload d_Fo_bestCopies_14 rfl ?_
  refine b_aload_n d_Fo_bestCopies_16 rfl rfl ?_
  refine b_getf (v := .int (gX σ 22)) d_Fo_bestCopies_17 fl_Fo_18 (eg_150 σ) rfl ?_
  refine b_icmp_ge (tgt := 83) d_Fo_bestCopies_20 (by decide) (fun c11 => ?_) (fun c11 => ?_)
  · have H := H.1 c11
    refine b_iload_n d_Fo_bestCopies_83 rfl rfl ?_
    exact b_iret (ty := .int) d_Fo_bestCopies_84 rfl rfl ⟨_, _, rfl, rfl, H⟩
  · have H := H.2 c11
    refine b_aload_n d_Fo_bestCopies_23 rfl rfl ?_
    refine b_aload_n d_Fo_bestCopies_24 rfl rfl ?_
    refine b_iload_n d_Fo_bestCopies_25 rfl rfl ?_
    refine b_aload_n d_Fo_bestCopies_26 rfl rfl ?_
    refine b_getf (v := .ref 151) d_Fo_bestCopies_27 fl_Fo_11 (eg_150 σ) rfl ?_
    refine b_iload d_Fo_bestCopies_30 rfl ?_
    obtain ⟨h3, H⟩ := H
    refine b_iald d_Fo_bestCopies_32 (eg_151 σ) h3 ?_
    refine b_st2 (st' := [.int ((gA σ 18) x6.toNatClampNeg), .int x2, .ref 144, .ref 150]) rfl ?_
    refine b_callVl (Mc := m_Fo_worthOf) (As := [.ref 144, .int x2, .int ((gA σ 18) x6.toNatClampNeg)]) (st := []) d_Fo_bestCopies_33 ⟨⟨kA_Fo_worthOf.1, kA_Fo_worthOf.2.1, kA_Fo_worthOf.2.2, by decide⟩, ml_Fo_40, kV_Fo_worthOf⟩ (eg_150 σ) rfl rfl (Nat.le_of_ble_eq_true rfl) H (fun v4 τ5 H => ?_)
    refine b_lstore (ls' := [some (.ref 150), some (.ref 144), some (.int x2), some (.int x3), some (.long x4), none, some (.int x6), some (.long v4), none]) d_Fo_bestCopies_36 (Nat.le_of_ble_eq_true rfl) rfl ?_
    refine b_lload d_Fo_bestCopies_38 rfl ?_
    refine b_lload d_Fo_bestCopies_40 rfl ?_
    refine b_lcmp d_Fo_bestCopies_42 ?_
    refine b_if_gt (tgt := 65) d_Fo_bestCopies_43 (by decide) (fun c10 => ?_) (fun c10 => ?_)
    · have H := H.1 c10
      refine b_aload_n d_Fo_bestCopies_65 rfl rfl ?_
      refine b_getf (v := .ref 151) d_Fo_bestCopies_66 fl_Fo_11 (eg_150 τ5) rfl ?_
      refine b_iload d_Fo_bestCopies_69 rfl ?_
      obtain ⟨h6, H⟩ := H
      refine b_iald d_Fo_bestCopies_71 (eg_151 τ5) h6 ?_
      refine b_st2 (st' := [.int ((gA τ5 18) x6.toNatClampNeg)]) rfl ?_
      refine b_istore_n (ls' := [some (.ref 150), some (.ref 144), some (.int x2), some (.int ((gA τ5 18) x6.toNatClampNeg)), some (.long x4), none, some (.int x6), some (.long v4), none]) d_Fo_bestCopies_72 rfl (Nat.le_of_ble_eq_true rfl) rfl ?_
      refine b_lload d_Fo_bestCopies_73 rfl ?_
      refine b_lstore (ls' := [some (.ref 150), some (.ref 144), some (.int x2), some (.int ((gA τ5 18) x6.toNatClampNeg)), some (.long v4), none, some (.int x6), some (.long v4), none]) d_Fo_bestCopies_75 (Nat.le_of_ble_eq_true rfl) rfl ?_
      refine b_iinc (v := (x6 + (1 : Int32))) (ls' := [some (.ref 150), some (.ref 144), some (.int x2), some (.int ((gA τ5 18) x6.toNatClampNeg)), some (.long v4), none, some (.int (x6 + (1 : Int32))), some (.long v4), none]) d_Fo_bestCopies_77 rfl rfl (Nat.le_of_ble_eq_true rfl) rfl ?_
      refine b_goto (tgt := 14) d_Fo_bestCopies_80 (by decide) ?_
      exact b_mask [true, true, true, true, true, true, true, false, true] rfl H
    · have H := H.2 c10
      refine b_lload d_Fo_bestCopies_46 rfl ?_
      refine b_lload d_Fo_bestCopies_48 rfl ?_
      refine b_lcmp d_Fo_bestCopies_50 ?_
      refine b_if_ne (tgt := 77) d_Fo_bestCopies_51 (by decide) (fun c9 => ?_) (fun c9 => ?_)
      · have H := H.1 c9
        refine b_iinc (v := (x6 + (1 : Int32))) (ls' := [some (.ref 150), some (.ref 144), some (.int x2), some (.int x3), some (.long x4), none, some (.int (x6 + (1 : Int32))), some (.long v4), none]) d_Fo_bestCopies_77 rfl rfl (Nat.le_of_ble_eq_true rfl) rfl ?_
        refine b_goto (tgt := 14) d_Fo_bestCopies_80 (by decide) ?_
        exact b_mask [true, true, true, true, true, true, true, false, true] rfl H
      · have H := H.2 c9
        refine b_aload_n d_Fo_bestCopies_54 rfl rfl ?_
        refine b_getf (v := .ref 151) d_Fo_bestCopies_55 fl_Fo_11 (eg_150 τ5) rfl ?_
        refine b_iload d_Fo_bestCopies_58 rfl ?_
        obtain ⟨h7, H⟩ := H
        refine b_iald d_Fo_bestCopies_60 (eg_151 τ5) h7 ?_
        refine b_st2 (st' := [.int ((gA τ5 18) x6.toNatClampNeg)]) rfl ?_
        refine b_iload_n d_Fo_bestCopies_61 rfl rfl ?_
        refine b_icmp_ge (tgt := 77) d_Fo_bestCopies_62 (by decide) (fun c8 => ?_) (fun c8 => ?_)
        · have H := H.1 c8
          refine b_iinc (v := (x6 + (1 : Int32))) (ls' := [some (.ref 150), some (.ref 144), some (.int x2), some (.int x3), some (.long x4), none, some (.int (x6 + (1 : Int32))), some (.long v4), none]) d_Fo_bestCopies_77 rfl rfl (Nat.le_of_ble_eq_true rfl) rfl ?_
          refine b_goto (tgt := 14) d_Fo_bestCopies_80 (by decide) ?_
          exact b_mask [true, true, true, true, true, true, true, false, true] rfl H
        · have H := H.2 c8
          refine b_aload_n d_Fo_bestCopies_65 rfl rfl ?_
          refine b_getf (v := .ref 151) d_Fo_bestCopies_66 fl_Fo_11 (eg_150 τ5) rfl ?_
          refine b_iload d_Fo_bestCopies_69 rfl ?_
          refine b_iald d_Fo_bestCopies_71 (eg_151 τ5) h7 ?_
          refine b_st2 (st' := [.int ((gA τ5 18) x6.toNatClampNeg)]) rfl ?_
          refine b_istore_n (ls' := [some (.ref 150), some (.ref 144), some (.int x2), some (.int ((gA τ5 18) x6.toNatClampNeg)), some (.long x4), none, some (.int x6), some (.long v4), none]) d_Fo_bestCopies_72 rfl (Nat.le_of_ble_eq_true rfl) rfl ?_
          refine b_lload d_Fo_bestCopies_73 rfl ?_
          refine b_lstore (ls' := [some (.ref 150), some (.ref 144), some (.int x2), some (.int ((gA τ5 18) x6.toNatClampNeg)), some (.long v4), none, some (.int x6), some (.long v4), none]) d_Fo_bestCopies_75 (Nat.le_of_ble_eq_true rfl) rfl ?_
          refine b_iinc (v := (x6 + (1 : Int32))) (ls' := [some (.ref 150), some (.ref 144), some (.int x2), some (.int ((gA τ5 18) x6.toNatClampNeg)), some (.long v4), none, some (.int (x6 + (1 : Int32))), some (.long v4), none]) d_Fo_bestCopies_77 rfl rfl (Nat.le_of_ble_eq_true rfl) rfl ?_
          refine b_goto (tgt := 14) d_Fo_bestCopies_80 (by decide) ?_
          exact b_mask [true, true, true, true, true, true, true, false, true] rfl H
theorem C_Fo_bestCopies {S : XS} {Q : Int32 → St → Prop} (σ : St) (x2 : Int32) (H : BW S m_Fo_bestCopies 0 [some (.ref 150), some (.ref 144), some (.int x2), none, none, none, none, none, none] [] (enc σ) (qI Q)) : CM S m_Fo_bestCopies [.ref 150, .ref 144, .int x2] (enc σ) (qI Q) := b_meth (by decide) (Nat.le_of_ble_eq_true rfl) rfl H
