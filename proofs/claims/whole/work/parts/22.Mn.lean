/-! block rules, by program -/
theorem d_Mn_addParagraph_0 : decode m_Mn_addParagraph.2.1 0 = .ok (.iload_n 1, 1) := by decide +kernel
theorem d_Mn_addParagraph_1 : decode m_Mn_addParagraph.2.1 1 = .ok (.iconst (-1), 1) := by decide +kernel
theorem d_Mn_addParagraph_2 : decode m_Mn_addParagraph.2.1 2 = .ok (.if_icmp .lt 18, 3) := by decide +kernel
theorem d_Mn_addParagraph_5 : decode m_Mn_addParagraph.2.1 5 = .ok (.iload_n 1, 1) := by decide +kernel
theorem d_Mn_addParagraph_6 : decode m_Mn_addParagraph.2.1 6 = .ok (.ldc 50, 2) := by decide +kernel
theorem d_Mn_addParagraph_8 : decode m_Mn_addParagraph.2.1 8 = .ok (.if_icmp .gt 12, 3) := by decide +kernel
theorem d_Mn_addParagraph_11 : decode m_Mn_addParagraph.2.1 11 = .ok (.aload_n 0, 1) := by decide +kernel
theorem d_Mn_addParagraph_12 : decode m_Mn_addParagraph.2.1 12 = .ok (.getfield 51, 3) := by decide +kernel
theorem d_Mn_addParagraph_15 : decode m_Mn_addParagraph.2.1 15 = .ok (.bipush 20, 2) := by decide +kernel
theorem d_Mn_addParagraph_17 : decode m_Mn_addParagraph.2.1 17 = .ok (.if_icmp .lt 5, 3) := by decide +kernel
theorem d_Mn_addParagraph_20 : decode m_Mn_addParagraph.2.1 20 = .ok (.iconst (-1), 1) := by decide +kernel
theorem d_Mn_addParagraph_21 : decode m_Mn_addParagraph.2.1 21 = .ok (.ireturn, 1) := by decide +kernel
theorem d_Mn_addParagraph_22 : decode m_Mn_addParagraph.2.1 22 = .ok (.aload_n 0, 1) := by decide +kernel
theorem d_Mn_addParagraph_23 : decode m_Mn_addParagraph.2.1 23 = .ok (.getfield 9, 3) := by decide +kernel
theorem d_Mn_addParagraph_26 : decode m_Mn_addParagraph.2.1 26 = .ok (.aload_n 0, 1) := by decide +kernel
theorem d_Mn_addParagraph_27 : decode m_Mn_addParagraph.2.1 27 = .ok (.getfield 51, 3) := by decide +kernel
theorem d_Mn_addParagraph_30 : decode m_Mn_addParagraph.2.1 30 = .ok (.iload_n 1, 1) := by decide +kernel
theorem d_Mn_addParagraph_31 : decode m_Mn_addParagraph.2.1 31 = .ok (.iastore, 1) := by decide +kernel
theorem d_Mn_addParagraph_32 : decode m_Mn_addParagraph.2.1 32 = .ok (.aload_n 0, 1) := by decide +kernel
theorem d_Mn_addParagraph_33 : decode m_Mn_addParagraph.2.1 33 = .ok (.getfield 15, 3) := by decide +kernel
theorem d_Mn_addParagraph_36 : decode m_Mn_addParagraph.2.1 36 = .ok (.aload_n 0, 1) := by decide +kernel
theorem d_Mn_addParagraph_37 : decode m_Mn_addParagraph.2.1 37 = .ok (.getfield 51, 3) := by decide +kernel
theorem d_Mn_addParagraph_40 : decode m_Mn_addParagraph.2.1 40 = .ok (.iconst 0, 1) := by decide +kernel
theorem d_Mn_addParagraph_41 : decode m_Mn_addParagraph.2.1 41 = .ok (.iastore, 1) := by decide +kernel
theorem d_Mn_addParagraph_42 : decode m_Mn_addParagraph.2.1 42 = .ok (.aload_n 0, 1) := by decide +kernel
theorem d_Mn_addParagraph_43 : decode m_Mn_addParagraph.2.1 43 = .ok (.getfield 26, 3) := by decide +kernel
theorem d_Mn_addParagraph_46 : decode m_Mn_addParagraph.2.1 46 = .ok (.aload_n 0, 1) := by decide +kernel
theorem d_Mn_addParagraph_47 : decode m_Mn_addParagraph.2.1 47 = .ok (.getfield 51, 3) := by decide +kernel
theorem d_Mn_addParagraph_50 : decode m_Mn_addParagraph.2.1 50 = .ok (.iconst 0, 1) := by decide +kernel
theorem d_Mn_addParagraph_51 : decode m_Mn_addParagraph.2.1 51 = .ok (.bastore, 1) := by decide +kernel
theorem d_Mn_addParagraph_52 : decode m_Mn_addParagraph.2.1 52 = .ok (.aload_n 0, 1) := by decide +kernel
theorem d_Mn_addParagraph_53 : decode m_Mn_addParagraph.2.1 53 = .ok (.dup, 1) := by decide +kernel
theorem d_Mn_addParagraph_54 : decode m_Mn_addParagraph.2.1 54 = .ok (.getfield 51, 3) := by decide +kernel
theorem d_Mn_addParagraph_57 : decode m_Mn_addParagraph.2.1 57 = .ok (.iconst 1, 1) := by decide +kernel
theorem d_Mn_addParagraph_58 : decode m_Mn_addParagraph.2.1 58 = .ok (.iadd, 1) := by decide +kernel
theorem d_Mn_addParagraph_59 : decode m_Mn_addParagraph.2.1 59 = .ok (.putfield 51, 3) := by decide +kernel
theorem d_Mn_addParagraph_62 : decode m_Mn_addParagraph.2.1 62 = .ok (.aload_n 0, 1) := by decide +kernel
theorem d_Mn_addParagraph_63 : decode m_Mn_addParagraph.2.1 63 = .ok (.getfield 51, 3) := by decide +kernel
theorem d_Mn_addParagraph_66 : decode m_Mn_addParagraph.2.1 66 = .ok (.iconst 1, 1) := by decide +kernel
theorem d_Mn_addParagraph_67 : decode m_Mn_addParagraph.2.1 67 = .ok (.isub, 1) := by decide +kernel
theorem d_Mn_addParagraph_68 : decode m_Mn_addParagraph.2.1 68 = .ok (.ireturn, 1) := by decide +kernel
set_option maxHeartbeats 4000000 in
set_option maxRecDepth 100000 in
theorem B_Mn_addParagraph_0 {S : XS} {Q : Int32 → St → Prop} (σ : St) (x1 : Int32) (H : ((x1 < (-1 : Int32) → Q (-1 : Int32) σ) ∧ (¬ x1 < (-1 : Int32) → (((100000 : Int32) < x1 → Q (-1 : Int32) σ) ∧ (¬ (100000 : Int32) < x1 → (((gX σ 4) < (20 : Int32) → (vp_in (gX σ 4) 20) ∧ Q (((gX σ 4) + (1 : Int32)) - (1 : Int32)) (sX (sA (sA (sA σ 1 (upd (gA σ 1) (gX σ 4).toNatClampNeg x1)) 2 (upd (gA σ 2) (gX σ 4).toNatClampNeg (0 : Int32))) 3 (upd (gA σ 3) (gX σ 4).toNatClampNeg (0 : Int32))) 4 ((gX σ 4) + (1 : Int32)))) ∧ (¬ (gX σ 4) < (20 : Int32) → Q (-1 : Int32) σ))))))) : BW S m_Mn_addParagraph 0 [some (.ref 3), some (.int x1)] [] (enc σ) (qI Q) := by
  refine b_iload_n d_Mn_addParagraph_0 rfl rfl ?_
  refine b_iconst (v := (-1 : Int32)) d_Mn_addParagraph_1 (by decide) ?_
  refine b_icmp_lt (tgt := 20) d_Mn_addParagraph_2 (by decide) (fun c4 => ?_) (fun c4 => ?_)
  · have H := H.1 c4
    refine b_iconst (v := (-1 : Int32)) d_Mn_addParagraph_20 (by decide) ?_
    exact b_iret (ty := .int) d_Mn_addParagraph_21 rfl rfl ⟨_, _, rfl, rfl, H⟩
  · have H := H.2 c4
    refine b_iload_n d_Mn_addParagraph_5 rfl rfl ?_
    refine b_ldc (v := (100000 : Int32)) d_Mn_addParagraph_6 cn_Mn_50 ?_
    refine b_icmp_gt (tgt := 20) d_Mn_addParagraph_8 (by decide) (fun c3 => ?_) (fun c3 => ?_)
    · have H := H.1 c3
      refine b_iconst (v := (-1 : Int32)) d_Mn_addParagraph_20 (by decide) ?_
      exact b_iret (ty := .int) d_Mn_addParagraph_21 rfl rfl ⟨_, _, rfl, rfl, H⟩
    · have H := H.2 c3
      refine b_aload_n d_Mn_addParagraph_11 rfl rfl ?_
      refine b_getf (v := .int (gX σ 4)) d_Mn_addParagraph_12 fl_Mn_51 (eg_3 σ) rfl ?_
      refine b_bipush (v := (20 : Int32)) d_Mn_addParagraph_15 (by decide) ?_
      refine b_icmp_lt (tgt := 22) d_Mn_addParagraph_17 (by decide) (fun c2 => ?_) (fun c2 => ?_)
      · have H := H.1 c2
        refine b_aload_n d_Mn_addParagraph_22 rfl rfl ?_
        refine b_getf (v := .ref 4) d_Mn_addParagraph_23 fl_Mn_9 (eg_3 σ) rfl ?_
        refine b_aload_n d_Mn_addParagraph_26 rfl rfl ?_
        refine b_getf (v := .int (gX σ 4)) d_Mn_addParagraph_27 fl_Mn_51 (eg_3 σ) rfl ?_
        refine b_iload_n d_Mn_addParagraph_30 rfl rfl ?_
        obtain ⟨h1, H⟩ := H
        refine b_iast (h1 := enc (sA σ 1 (upd (gA σ 1) (gX σ 4).toNatClampNeg x1))) d_Mn_addParagraph_31 (eg_4 σ) h1 (es_4 σ (upd (gA σ 1) (gX σ 4).toNatClampNeg x1)) ?_
        refine b_aload_n d_Mn_addParagraph_32 rfl rfl ?_
        refine b_getf (v := .ref 5) d_Mn_addParagraph_33 fl_Mn_15 (eg_3 (sA σ 1 (upd (gA σ 1) (gX σ 4).toNatClampNeg x1))) rfl ?_
        refine b_aload_n d_Mn_addParagraph_36 rfl rfl ?_
        refine b_getf (v := .int (gX σ 4)) d_Mn_addParagraph_37 fl_Mn_51 (eg_3 (sA σ 1 (upd (gA σ 1) (gX σ 4).toNatClampNeg x1))) rfl ?_
        refine b_iconst (v := (0 : Int32)) d_Mn_addParagraph_40 (by decide) ?_
        refine b_iast (h1 := enc (sA (sA σ 1 (upd (gA σ 1) (gX σ 4).toNatClampNeg x1)) 2 (upd (gA σ 2) (gX σ 4).toNatClampNeg (0 : Int32)))) d_Mn_addParagraph_41 (eg_5 (sA σ 1 (upd (gA σ 1) (gX σ 4).toNatClampNeg x1))) h1 (es_5 (sA σ 1 (upd (gA σ 1) (gX σ 4).toNatClampNeg x1)) (upd (gA σ 2) (gX σ 4).toNatClampNeg (0 : Int32))) ?_
        refine b_aload_n d_Mn_addParagraph_42 rfl rfl ?_
        refine b_getf (v := .ref 48) d_Mn_addParagraph_43 fl_Mn_26 (eg_3 (sA (sA σ 1 (upd (gA σ 1) (gX σ 4).toNatClampNeg x1)) 2 (upd (gA σ 2) (gX σ 4).toNatClampNeg (0 : Int32)))) rfl ?_
        refine b_aload_n d_Mn_addParagraph_46 rfl rfl ?_
        refine b_getf (v := .int (gX σ 4)) d_Mn_addParagraph_47 fl_Mn_51 (eg_3 (sA (sA σ 1 (upd (gA σ 1) (gX σ 4).toNatClampNeg x1)) 2 (upd (gA σ 2) (gX σ 4).toNatClampNeg (0 : Int32)))) rfl ?_
        refine b_iconst (v := (0 : Int32)) d_Mn_addParagraph_50 (by decide) ?_
        refine b_zast (y := (0 : Int32)) (h1 := enc (sA (sA (sA σ 1 (upd (gA σ 1) (gX σ 4).toNatClampNeg x1)) 2 (upd (gA σ 2) (gX σ 4).toNatClampNeg (0 : Int32))) 3 (upd (gA σ 3) (gX σ 4).toNatClampNeg (0 : Int32)))) d_Mn_addParagraph_51 (eg_48 (sA (sA σ 1 (upd (gA σ 1) (gX σ 4).toNatClampNeg x1)) 2 (upd (gA σ 2) (gX σ 4).toNatClampNeg (0 : Int32)))) h1 (by decide) (es_48 (sA (sA σ 1 (upd (gA σ 1) (gX σ 4).toNatClampNeg x1)) 2 (upd (gA σ 2) (gX σ 4).toNatClampNeg (0 : Int32))) (upd (gA σ 3) (gX σ 4).toNatClampNeg (0 : Int32))) ?_
        refine b_aload_n d_Mn_addParagraph_52 rfl rfl ?_
        refine b_dup d_Mn_addParagraph_53 rfl ?_
        refine b_getf (v := .int (gX σ 4)) d_Mn_addParagraph_54 fl_Mn_51 (eg_3 (sA (sA (sA σ 1 (upd (gA σ 1) (gX σ 4).toNatClampNeg x1)) 2 (upd (gA σ 2) (gX σ 4).toNatClampNeg (0 : Int32))) 3 (upd (gA σ 3) (gX σ 4).toNatClampNeg (0 : Int32)))) rfl ?_
        refine b_iconst (v := (1 : Int32)) d_Mn_addParagraph_57 (by decide) ?_
        refine b_iadd d_Mn_addParagraph_58  ?_
        refine b_putf (ty := .int) (h1 := enc (sX (sA (sA (sA σ 1 (upd (gA σ 1) (gX σ 4).toNatClampNeg x1)) 2 (upd (gA σ 2) (gX σ 4).toNatClampNeg (0 : Int32))) 3 (upd (gA σ 3) (gX σ 4).toNatClampNeg (0 : Int32))) 4 ((gX σ 4) + (1 : Int32)))) d_Mn_addParagraph_59 fl_Mn_51 ft_6_6 (fun _ => ⟨rfl, rfl⟩) (eg_3 (sA (sA (sA σ 1 (upd (gA σ 1) (gX σ 4).toNatClampNeg x1)) 2 (upd (gA σ 2) (gX σ 4).toNatClampNeg (0 : Int32))) 3 (upd (gA σ 3) (gX σ 4).toNatClampNeg (0 : Int32)))) (Nat.le_of_ble_eq_true rfl) (es_3_6 (sA (sA (sA σ 1 (upd (gA σ 1) (gX σ 4).toNatClampNeg x1)) 2 (upd (gA σ 2) (gX σ 4).toNatClampNeg (0 : Int32))) 3 (upd (gA σ 3) (gX σ 4).toNatClampNeg (0 : Int32))) ((gX σ 4) + (1 : Int32))) ?_
        refine b_aload_n d_Mn_addParagraph_62 rfl rfl ?_
        refine b_getf (v := .int ((gX σ 4) + (1 : Int32))) d_Mn_addParagraph_63 fl_Mn_51 (eg_3 (sX (sA (sA (sA σ 1 (upd (gA σ 1) (gX σ 4).toNatClampNeg x1)) 2 (upd (gA σ 2) (gX σ 4).toNatClampNeg (0 : Int32))) 3 (upd (gA σ 3) (gX σ 4).toNatClampNeg (0 : Int32))) 4 ((gX σ 4) + (1 : Int32)))) rfl ?_
        refine b_iconst (v := (1 : Int32)) d_Mn_addParagraph_66 (by decide) ?_
        refine b_isub d_Mn_addParagraph_67  ?_
        exact b_iret (ty := .int) d_Mn_addParagraph_68 rfl rfl ⟨_, _, rfl, rfl, H⟩
      · have H := H.2 c2
        refine b_iconst (v := (-1 : Int32)) d_Mn_addParagraph_20 (by decide) ?_
        exact b_iret (ty := .int) d_Mn_addParagraph_21 rfl rfl ⟨_, _, rfl, rfl, H⟩
theorem C_Mn_addParagraph {S : XS} {Q : Int32 → St → Prop} (σ : St) (x1 : Int32) (H : BW S m_Mn_addParagraph 0 [some (.ref 3), some (.int x1)] [] (enc σ) (qI Q)) : CM S m_Mn_addParagraph [.ref 3, .int x1] (enc σ) (qI Q) := b_meth (by decide) (Nat.le_of_ble_eq_true rfl) rfl H
theorem d_Mn_addWord_0 : decode m_Mn_addWord.2.1 0 = .ok (.aload_n 0, 1) := by decide +kernel
theorem d_Mn_addWord_1 : decode m_Mn_addWord.2.1 1 = .ok (.getfield 51, 3) := by decide +kernel
theorem d_Mn_addWord_4 : decode m_Mn_addWord.2.1 4 = .ok (.iconst 1, 1) := by decide +kernel
theorem d_Mn_addWord_5 : decode m_Mn_addWord.2.1 5 = .ok (.isub, 1) := by decide +kernel
theorem d_Mn_addWord_6 : decode m_Mn_addWord.2.1 6 = .ok (.istore_n 2, 1) := by decide +kernel
theorem d_Mn_addWord_7 : decode m_Mn_addWord.2.1 7 = .ok (.iload_n 2, 1) := by decide +kernel
theorem d_Mn_addWord_8 : decode m_Mn_addWord.2.1 8 = .ok (.ifCond .lt 20, 3) := by decide +kernel
theorem d_Mn_addWord_11 : decode m_Mn_addWord.2.1 11 = .ok (.iload_n 2, 1) := by decide +kernel
theorem d_Mn_addWord_12 : decode m_Mn_addWord.2.1 12 = .ok (.bipush 20, 2) := by decide +kernel
theorem d_Mn_addWord_14 : decode m_Mn_addWord.2.1 14 = .ok (.if_icmp .ge 14, 3) := by decide +kernel
theorem d_Mn_addWord_17 : decode m_Mn_addWord.2.1 17 = .ok (.iload_n 1, 1) := by decide +kernel
theorem d_Mn_addWord_18 : decode m_Mn_addWord.2.1 18 = .ok (.iconst 1, 1) := by decide +kernel
theorem d_Mn_addWord_19 : decode m_Mn_addWord.2.1 19 = .ok (.if_icmp .lt 9, 3) := by decide +kernel
theorem d_Mn_addWord_22 : decode m_Mn_addWord.2.1 22 = .ok (.iload_n 1, 1) := by decide +kernel
theorem d_Mn_addWord_23 : decode m_Mn_addWord.2.1 23 = .ok (.bipush 20, 2) := by decide +kernel
theorem d_Mn_addWord_25 : decode m_Mn_addWord.2.1 25 = .ok (.if_icmp .le 5, 3) := by decide +kernel
theorem d_Mn_addWord_28 : decode m_Mn_addWord.2.1 28 = .ok (.iconst (-1), 1) := by decide +kernel
theorem d_Mn_addWord_29 : decode m_Mn_addWord.2.1 29 = .ok (.ireturn, 1) := by decide +kernel
theorem d_Mn_addWord_30 : decode m_Mn_addWord.2.1 30 = .ok (.aload_n 0, 1) := by decide +kernel
theorem d_Mn_addWord_31 : decode m_Mn_addWord.2.1 31 = .ok (.getfield 15, 3) := by decide +kernel
theorem d_Mn_addWord_34 : decode m_Mn_addWord.2.1 34 = .ok (.iload_n 2, 1) := by decide +kernel
theorem d_Mn_addWord_35 : decode m_Mn_addWord.2.1 35 = .ok (.iaload, 1) := by decide +kernel
theorem d_Mn_addWord_36 : decode m_Mn_addWord.2.1 36 = .ok (.istore_n 3, 1) := by decide +kernel
theorem d_Mn_addWord_37 : decode m_Mn_addWord.2.1 37 = .ok (.iload_n 3, 1) := by decide +kernel
theorem d_Mn_addWord_38 : decode m_Mn_addWord.2.1 38 = .ok (.ifCond .lt 9, 3) := by decide +kernel
theorem d_Mn_addWord_41 : decode m_Mn_addWord.2.1 41 = .ok (.iload_n 3, 1) := by decide +kernel
theorem d_Mn_addWord_42 : decode m_Mn_addWord.2.1 42 = .ok (.bipush 30, 2) := by decide +kernel
theorem d_Mn_addWord_44 : decode m_Mn_addWord.2.1 44 = .ok (.if_icmp .lt 5, 3) := by decide +kernel
theorem d_Mn_addWord_47 : decode m_Mn_addWord.2.1 47 = .ok (.iconst (-1), 1) := by decide +kernel
theorem d_Mn_addWord_48 : decode m_Mn_addWord.2.1 48 = .ok (.ireturn, 1) := by decide +kernel
theorem d_Mn_addWord_49 : decode m_Mn_addWord.2.1 49 = .ok (.aload_n 0, 1) := by decide +kernel
theorem d_Mn_addWord_50 : decode m_Mn_addWord.2.1 50 = .ok (.getfield 20, 3) := by decide +kernel
theorem d_Mn_addWord_53 : decode m_Mn_addWord.2.1 53 = .ok (.iload_n 2, 1) := by decide +kernel
theorem d_Mn_addWord_54 : decode m_Mn_addWord.2.1 54 = .ok (.aaload, 1) := by decide +kernel
theorem d_Mn_addWord_55 : decode m_Mn_addWord.2.1 55 = .ok (.iload_n 3, 1) := by decide +kernel
theorem d_Mn_addWord_56 : decode m_Mn_addWord.2.1 56 = .ok (.iload_n 1, 1) := by decide +kernel
theorem d_Mn_addWord_57 : decode m_Mn_addWord.2.1 57 = .ok (.iastore, 1) := by decide +kernel
theorem d_Mn_addWord_58 : decode m_Mn_addWord.2.1 58 = .ok (.aload_n 0, 1) := by decide +kernel
theorem d_Mn_addWord_59 : decode m_Mn_addWord.2.1 59 = .ok (.getfield 15, 3) := by decide +kernel
theorem d_Mn_addWord_62 : decode m_Mn_addWord.2.1 62 = .ok (.iload_n 2, 1) := by decide +kernel
theorem d_Mn_addWord_63 : decode m_Mn_addWord.2.1 63 = .ok (.iload_n 3, 1) := by decide +kernel
theorem d_Mn_addWord_64 : decode m_Mn_addWord.2.1 64 = .ok (.iconst 1, 1) := by decide +kernel
theorem d_Mn_addWord_65 : decode m_Mn_addWord.2.1 65 = .ok (.iadd, 1) := by decide +kernel
theorem d_Mn_addWord_66 : decode m_Mn_addWord.2.1 66 = .ok (.iastore, 1) := by decide +kernel
theorem d_Mn_addWord_67 : decode m_Mn_addWord.2.1 67 = .ok (.aload_n 0, 1) := by decide +kernel
theorem d_Mn_addWord_68 : decode m_Mn_addWord.2.1 68 = .ok (.getfield 26, 3) := by decide +kernel
theorem d_Mn_addWord_71 : decode m_Mn_addWord.2.1 71 = .ok (.iload_n 2, 1) := by decide +kernel
theorem d_Mn_addWord_72 : decode m_Mn_addWord.2.1 72 = .ok (.iconst 0, 1) := by decide +kernel
theorem d_Mn_addWord_73 : decode m_Mn_addWord.2.1 73 = .ok (.bastore, 1) := by decide +kernel
theorem d_Mn_addWord_74 : decode m_Mn_addWord.2.1 74 = .ok (.iload_n 3, 1) := by decide +kernel
theorem d_Mn_addWord_75 : decode m_Mn_addWord.2.1 75 = .ok (.iconst 1, 1) := by decide +kernel
theorem d_Mn_addWord_76 : decode m_Mn_addWord.2.1 76 = .ok (.iadd, 1) := by decide +kernel
theorem d_Mn_addWord_77 : decode m_Mn_addWord.2.1 77 = .ok (.ireturn, 1) := by decide +kernel
set_option maxHeartbeats 4000000 in
set_option maxRecDepth 100000 in
theorem B_Mn_addWord_0 {S : XS} {Q : Int32 → St → Prop} (σ : St) (x1 : Int32) (H : ((((gX σ 4) - (1 : Int32)) < 0 → Q (-1 : Int32) σ) ∧ (¬ ((gX σ 4) - (1 : Int32)) < 0 → (((20 : Int32) ≤ ((gX σ 4) - (1 : Int32)) → Q (-1 : Int32) σ) ∧ (¬ (20 : Int32) ≤ ((gX σ 4) - (1 : Int32)) → ((x1 < (1 : Int32) → Q (-1 : Int32) σ) ∧ (¬ x1 < (1 : Int32) → ((x1 ≤ (20 : Int32) → (vp_in ((gX σ 4) - (1 : Int32)) 20) ∧ ((((gA σ 2) ((gX σ 4) - (1 : Int32)).toNatClampNeg) < 0 → Q (-1 : Int32) σ) ∧ (¬ ((gA σ 2) ((gX σ 4) - (1 : Int32)).toNatClampNeg) < 0 → ((((gA σ 2) ((gX σ 4) - (1 : Int32)).toNatClampNeg) < (30 : Int32) → (vp_in ((gA σ 2) ((gX σ 4) - (1 : Int32)).toNatClampNeg) 30) ∧ Q (((gA σ 2) ((gX σ 4) - (1 : Int32)).toNatClampNeg) + (1 : Int32)) (sA (sA (sB σ 0 (((gX σ 4) - (1 : Int32)).toNatClampNeg) (upd (gB σ 0 (((gX σ 4) - (1 : Int32)).toNatClampNeg)) ((gA σ 2) ((gX σ 4) - (1 : Int32)).toNatClampNeg).toNatClampNeg x1)) 2 (upd (gA σ 2) ((gX σ 4) - (1 : Int32)).toNatClampNeg (((gA σ 2) ((gX σ 4) - (1 : Int32)).toNatClampNeg) + (1 : Int32)))) 3 (upd (gA σ 3) ((gX σ 4) - (1 : Int32)).toNatClampNeg (0 : Int32)))) ∧ (¬ ((gA σ 2) ((gX σ 4) - (1 : Int32)).toNatClampNeg) < (30 : Int32) → Q (-1 : Int32) σ))))) ∧ (¬ x1 ≤ (20 : Int32) → Q (-1 : Int32) σ))))))))) : BW S m_Mn_addWord 0 [some (.ref 3), some (.int x1), none, none] [] (enc σ) (qI Q) := by
  refine b_aload_n d_Mn_addWord_0 rfl rfl ?_
  refine b_getf (v := .int (gX σ 4)) d_Mn_addWord_1 fl_Mn_51 (eg_3 σ) rfl ?_
  refine b_iconst (v := (1 : Int32)) d_Mn_addWord_4 (by decide) ?_
  refine b_isub d_Mn_addWord_5  ?_
  refine b_istore_n (ls' := [some (.ref 3), some (.int x1), some (.int ((gX σ 4) - (1 : Int32))), none]) d_Mn_addWord_6 rfl (Nat.le_of_ble_eq_true rfl) rfl ?_
  refine b_iload_n d_Mn_addWord_7 rfl rfl ?_
  refine b_if_lt (tgt := 28) d_Mn_addWord_8 (by decide) (fun c8 => ?_) (fun c8 => ?_)
  · have H := H.1 c8
    refine b_iconst (v := (-1 : Int32)) d_Mn_addWord_28 (by decide) ?_
    exact b_iret (ty := .int) d_Mn_addWord_29 rfl rfl ⟨_, _, rfl, rfl, H⟩
  · have H := H.2 c8
    refine b_iload_n d_Mn_addWord_11 rfl rfl ?_
    refine b_bipush (v := (20 : Int32)) d_Mn_addWord_12 (by decide) ?_
    refine b_icmp_ge (tgt := 28) d_Mn_addWord_14 (by decide) (fun c7 => ?_) (fun c7 => ?_)
    · have H := H.1 c7
      refine b_iconst (v := (-1 : Int32)) d_Mn_addWord_28 (by decide) ?_
      exact b_iret (ty := .int) d_Mn_addWord_29 rfl rfl ⟨_, _, rfl, rfl, H⟩
    · have H := H.2 c7
      refine b_iload_n d_Mn_addWord_17 rfl rfl ?_
      refine b_iconst (v := (1 : Int32)) d_Mn_addWord_18 (by decide) ?_
      refine b_icmp_lt (tgt := 28) d_Mn_addWord_19 (by decide) (fun c6 => ?_) (fun c6 => ?_)
      · have H := H.1 c6
        refine b_iconst (v := (-1 : Int32)) d_Mn_addWord_28 (by decide) ?_
        exact b_iret (ty := .int) d_Mn_addWord_29 rfl rfl ⟨_, _, rfl, rfl, H⟩
      · have H := H.2 c6
        refine b_iload_n d_Mn_addWord_22 rfl rfl ?_
        refine b_bipush (v := (20 : Int32)) d_Mn_addWord_23 (by decide) ?_
        refine b_icmp_le (tgt := 30) d_Mn_addWord_25 (by decide) (fun c5 => ?_) (fun c5 => ?_)
        · have H := H.1 c5
          refine b_aload_n d_Mn_addWord_30 rfl rfl ?_
          refine b_getf (v := .ref 5) d_Mn_addWord_31 fl_Mn_15 (eg_3 σ) rfl ?_
          refine b_iload_n d_Mn_addWord_34 rfl rfl ?_
          obtain ⟨h1, H⟩ := H
          refine b_iald d_Mn_addWord_35 (eg_5 σ) h1 ?_
          refine b_st2 (st' := [.int ((gA σ 2) ((gX σ 4) - (1 : Int32)).toNatClampNeg)]) rfl ?_
          refine b_istore_n (ls' := [some (.ref 3), some (.int x1), some (.int ((gX σ 4) - (1 : Int32))), some (.int ((gA σ 2) ((gX σ 4) - (1 : Int32)).toNatClampNeg))]) d_Mn_addWord_36 rfl (Nat.le_of_ble_eq_true rfl) rfl ?_
          refine b_iload_n d_Mn_addWord_37 rfl rfl ?_
          refine b_if_lt (tgt := 47) d_Mn_addWord_38 (by decide) (fun c4 => ?_) (fun c4 => ?_)
          · have H := H.1 c4
            refine b_iconst (v := (-1 : Int32)) d_Mn_addWord_47 (by decide) ?_
            exact b_iret (ty := .int) d_Mn_addWord_48 rfl rfl ⟨_, _, rfl, rfl, H⟩
          · have H := H.2 c4
            refine b_iload_n d_Mn_addWord_41 rfl rfl ?_
            refine b_bipush (v := (30 : Int32)) d_Mn_addWord_42 (by decide) ?_
            refine b_icmp_lt (tgt := 49) d_Mn_addWord_44 (by decide) (fun c3 => ?_) (fun c3 => ?_)
            · have H := H.1 c3
              refine b_aload_n d_Mn_addWord_49 rfl rfl ?_
              refine b_getf (v := .ref 6) d_Mn_addWord_50 fl_Mn_20 (eg_3 σ) rfl ?_
              refine b_iload_n d_Mn_addWord_53 rfl rfl ?_
              refine b_rowld d_Mn_addWord_54 (eg_6 σ) h1 ?_
              refine b_iload_n d_Mn_addWord_55 rfl rfl ?_
              refine b_iload_n d_Mn_addWord_56 rfl rfl ?_
              obtain ⟨h2, H⟩ := H
              refine b_iast (h1 := enc (sB σ 0 (((gX σ 4) - (1 : Int32)).toNatClampNeg) (upd (gB σ 0 (((gX σ 4) - (1 : Int32)).toNatClampNeg)) ((gA σ 2) ((gX σ 4) - (1 : Int32)).toNatClampNeg).toNatClampNeg x1))) (f := gB σ 0 (((gX σ 4) - (1 : Int32)).toNatClampNeg)) d_Mn_addWord_57 (er0 σ (vp_lt h1)) h2 (et0 σ (vp_lt h1) (upd (gB σ 0 (((gX σ 4) - (1 : Int32)).toNatClampNeg)) ((gA σ 2) ((gX σ 4) - (1 : Int32)).toNatClampNeg).toNatClampNeg x1)) ?_
              refine b_aload_n d_Mn_addWord_58 rfl rfl ?_
              refine b_getf (v := .ref 5) d_Mn_addWord_59 fl_Mn_15 (eg_3 (sB σ 0 (((gX σ 4) - (1 : Int32)).toNatClampNeg) (upd (gB σ 0 (((gX σ 4) - (1 : Int32)).toNatClampNeg)) ((gA σ 2) ((gX σ 4) - (1 : Int32)).toNatClampNeg).toNatClampNeg x1))) rfl ?_
              refine b_iload_n d_Mn_addWord_62 rfl rfl ?_
              refine b_iload_n d_Mn_addWord_63 rfl rfl ?_
              refine b_iconst (v := (1 : Int32)) d_Mn_addWord_64 (by decide) ?_
              refine b_iadd d_Mn_addWord_65  ?_
              refine b_iast (h1 := enc (sA (sB σ 0 (((gX σ 4) - (1 : Int32)).toNatClampNeg) (upd (gB σ 0 (((gX σ 4) - (1 : Int32)).toNatClampNeg)) ((gA σ 2) ((gX σ 4) - (1 : Int32)).toNatClampNeg).toNatClampNeg x1)) 2 (upd (gA σ 2) ((gX σ 4) - (1 : Int32)).toNatClampNeg (((gA σ 2) ((gX σ 4) - (1 : Int32)).toNatClampNeg) + (1 : Int32))))) d_Mn_addWord_66 (eg_5 (sB σ 0 (((gX σ 4) - (1 : Int32)).toNatClampNeg) (upd (gB σ 0 (((gX σ 4) - (1 : Int32)).toNatClampNeg)) ((gA σ 2) ((gX σ 4) - (1 : Int32)).toNatClampNeg).toNatClampNeg x1))) h1 (es_5 (sB σ 0 (((gX σ 4) - (1 : Int32)).toNatClampNeg) (upd (gB σ 0 (((gX σ 4) - (1 : Int32)).toNatClampNeg)) ((gA σ 2) ((gX σ 4) - (1 : Int32)).toNatClampNeg).toNatClampNeg x1)) (upd (gA σ 2) ((gX σ 4) - (1 : Int32)).toNatClampNeg (((gA σ 2) ((gX σ 4) - (1 : Int32)).toNatClampNeg) + (1 : Int32)))) ?_
              refine b_aload_n d_Mn_addWord_67 rfl rfl ?_
              refine b_getf (v := .ref 48) d_Mn_addWord_68 fl_Mn_26 (eg_3 (sA (sB σ 0 (((gX σ 4) - (1 : Int32)).toNatClampNeg) (upd (gB σ 0 (((gX σ 4) - (1 : Int32)).toNatClampNeg)) ((gA σ 2) ((gX σ 4) - (1 : Int32)).toNatClampNeg).toNatClampNeg x1)) 2 (upd (gA σ 2) ((gX σ 4) - (1 : Int32)).toNatClampNeg (((gA σ 2) ((gX σ 4) - (1 : Int32)).toNatClampNeg) + (1 : Int32))))) rfl ?_
              refine b_iload_n d_Mn_addWord_71 rfl rfl ?_
              refine b_iconst (v := (0 : Int32)) d_Mn_addWord_72 (by decide) ?_
              refine b_zast (y := (0 : Int32)) (h1 := enc (sA (sA (sB σ 0 (((gX σ 4) - (1 : Int32)).toNatClampNeg) (upd (gB σ 0 (((gX σ 4) - (1 : Int32)).toNatClampNeg)) ((gA σ 2) ((gX σ 4) - (1 : Int32)).toNatClampNeg).toNatClampNeg x1)) 2 (upd (gA σ 2) ((gX σ 4) - (1 : Int32)).toNatClampNeg (((gA σ 2) ((gX σ 4) - (1 : Int32)).toNatClampNeg) + (1 : Int32)))) 3 (upd (gA σ 3) ((gX σ 4) - (1 : Int32)).toNatClampNeg (0 : Int32)))) d_Mn_addWord_73 (eg_48 (sA (sB σ 0 (((gX σ 4) - (1 : Int32)).toNatClampNeg) (upd (gB σ 0 (((gX σ 4) - (1 : Int32)).toNatClampNeg)) ((gA σ 2) ((gX σ 4) - (1 : Int32)).toNatClampNeg).toNatClampNeg x1)) 2 (upd (gA σ 2) ((gX σ 4) - (1 : Int32)).toNatClampNeg (((gA σ 2) ((gX σ 4) - (1 : Int32)).toNatClampNeg) + (1 : Int32))))) h1 (by decide) (es_48 (sA (sB σ 0 (((gX σ 4) - (1 : Int32)).toNatClampNeg) (upd (gB σ 0 (((gX σ 4) - (1 : Int32)).toNatClampNeg)) ((gA σ 2) ((gX σ 4) - (1 : Int32)).toNatClampNeg).toNatClampNeg x1)) 2 (upd (gA σ 2) ((gX σ 4) - (1 : Int32)).toNatClampNeg (((gA σ 2) ((gX σ 4) - (1 : Int32)).toNatClampNeg) + (1 : Int32)))) (upd (gA σ 3) ((gX σ 4) - (1 : Int32)).toNatClampNeg (0 : Int32))) ?_
              refine b_iload_n d_Mn_addWord_74 rfl rfl ?_
              refine b_iconst (v := (1 : Int32)) d_Mn_addWord_75 (by decide) ?_
              refine b_iadd d_Mn_addWord_76  ?_
              exact b_iret (ty := .int) d_Mn_addWord_77 rfl rfl ⟨_, _, rfl, rfl, H⟩
            · have H := H.2 c3
              refine b_iconst (v := (-1 : Int32)) d_Mn_addWord_47 (by decide) ?_
              exact b_iret (ty := .int) d_Mn_addWord_48 rfl rfl ⟨_, _, rfl, rfl, H⟩
        · have H := H.2 c5
          refine b_iconst (v := (-1 : Int32)) d_Mn_addWord_28 (by decide) ?_
          exact b_iret (ty := .int) d_Mn_addWord_29 rfl rfl ⟨_, _, rfl, rfl, H⟩
theorem C_Mn_addWord {S : XS} {Q : Int32 → St → Prop} (σ : St) (x1 : Int32) (H : BW S m_Mn_addWord 0 [some (.ref 3), some (.int x1), none, none] [] (enc σ) (qI Q)) : CM S m_Mn_addWord [.ref 3, .int x1] (enc σ) (qI Q) := b_meth (by decide) (Nat.le_of_ble_eq_true rfl) rfl H
theorem d_Mn_empty_0 : decode m_Mn_empty.2.1 0 = .ok (.aload_n 0, 1) := by decide +kernel
theorem d_Mn_empty_1 : decode m_Mn_empty.2.1 1 = .ok (.getfield 51, 3) := by decide +kernel
theorem d_Mn_empty_4 : decode m_Mn_empty.2.1 4 = .ok (.istore_n 1, 1) := by decide +kernel
theorem d_Mn_empty_5 : decode m_Mn_empty.2.1 5 = .ok (.aload_n 0, 1) := by decide +kernel
theorem d_Mn_empty_6 : decode m_Mn_empty.2.1 6 = .ok (.iconst 0, 1) := by decide +kernel
theorem d_Mn_empty_7 : decode m_Mn_empty.2.1 7 = .ok (.putfield 51, 3) := by decide +kernel
theorem d_Mn_empty_10 : decode m_Mn_empty.2.1 10 = .ok (.iload_n 1, 1) := by decide +kernel
theorem d_Mn_empty_11 : decode m_Mn_empty.2.1 11 = .ok (.ireturn, 1) := by decide +kernel
set_option maxHeartbeats 4000000 in
set_option maxRecDepth 100000 in
theorem B_Mn_empty_0 {S : XS} {Q : Int32 → St → Prop} (σ : St)  (H : Q (gX σ 4) (sX σ 4 (0 : Int32))) : BW S m_Mn_empty 0 [some (.ref 3), none] [] (enc σ) (qI Q) := by
  refine b_aload_n d_Mn_empty_0 rfl rfl ?_
  refine b_getf (v := .int (gX σ 4)) d_Mn_empty_1 fl_Mn_51 (eg_3 σ) rfl ?_
  refine b_istore_n (ls' := [some (.ref 3), some (.int (gX σ 4))]) d_Mn_empty_4 rfl (Nat.le_of_ble_eq_true rfl) rfl ?_
  refine b_aload_n d_Mn_empty_5 rfl rfl ?_
  refine b_iconst (v := (0 : Int32)) d_Mn_empty_6 (by decide) ?_
  refine b_putf (ty := .int) (h1 := enc (sX σ 4 (0 : Int32))) d_Mn_empty_7 fl_Mn_51 ft_6_6 (fun _ => ⟨rfl, rfl⟩) (eg_3 σ) (Nat.le_of_ble_eq_true rfl) (es_3_6 σ (0 : Int32)) ?_
  refine b_iload_n d_Mn_empty_10 rfl rfl ?_
  exact b_iret (ty := .int) d_Mn_empty_11 rfl rfl ⟨_, _, rfl, rfl, H⟩
theorem C_Mn_empty {S : XS} {Q : Int32 → St → Prop} (σ : St)  (H : BW S m_Mn_empty 0 [some (.ref 3), none] [] (enc σ) (qI Q)) : CM S m_Mn_empty [.ref 3] (enc σ) (qI Q) := b_meth (by decide) (Nat.le_of_ble_eq_true rfl) rfl H
theorem d_Mn_shape_0 : decode m_Mn_shape.2.1 0 = .ok (.iload_n 1, 1) := by decide +kernel
theorem d_Mn_shape_1 : decode m_Mn_shape.2.1 1 = .ok (.bipush 10, 2) := by decide +kernel
theorem d_Mn_shape_3 : decode m_Mn_shape.2.1 3 = .ok (.if_icmp .lt 20, 3) := by decide +kernel
theorem d_Mn_shape_6 : decode m_Mn_shape.2.1 6 = .ok (.iload_n 1, 1) := by decide +kernel
theorem d_Mn_shape_7 : decode m_Mn_shape.2.1 7 = .ok (.bipush 60, 2) := by decide +kernel
theorem d_Mn_shape_9 : decode m_Mn_shape.2.1 9 = .ok (.if_icmp .gt 14, 3) := by decide +kernel
theorem d_Mn_shape_12 : decode m_Mn_shape.2.1 12 = .ok (.iload_n 2, 1) := by decide +kernel
theorem d_Mn_shape_13 : decode m_Mn_shape.2.1 13 = .ok (.iconst 5, 1) := by decide +kernel
theorem d_Mn_shape_14 : decode m_Mn_shape.2.1 14 = .ok (.if_icmp .lt 9, 3) := by decide +kernel
theorem d_Mn_shape_17 : decode m_Mn_shape.2.1 17 = .ok (.iload_n 2, 1) := by decide +kernel
theorem d_Mn_shape_18 : decode m_Mn_shape.2.1 18 = .ok (.bipush 40, 2) := by decide +kernel
theorem d_Mn_shape_20 : decode m_Mn_shape.2.1 20 = .ok (.if_icmp .le 5, 3) := by decide +kernel
theorem d_Mn_shape_23 : decode m_Mn_shape.2.1 23 = .ok (.iconst 0, 1) := by decide +kernel
theorem d_Mn_shape_24 : decode m_Mn_shape.2.1 24 = .ok (.ireturn, 1) := by decide +kernel
theorem d_Mn_shape_25 : decode m_Mn_shape.2.1 25 = .ok (.iload_n 3, 1) := by decide +kernel
theorem d_Mn_shape_26 : decode m_Mn_shape.2.1 26 = .ok (.ifCond .lt 21, 3) := by decide +kernel
theorem d_Mn_shape_29 : decode m_Mn_shape.2.1 29 = .ok (.iload_n 3, 1) := by decide +kernel
theorem d_Mn_shape_30 : decode m_Mn_shape.2.1 30 = .ok (.ldc 50, 2) := by decide +kernel
theorem d_Mn_shape_32 : decode m_Mn_shape.2.1 32 = .ok (.if_icmp .gt 15, 3) := by decide +kernel
theorem d_Mn_shape_35 : decode m_Mn_shape.2.1 35 = .ok (.iload 4, 2) := by decide +kernel
theorem d_Mn_shape_37 : decode m_Mn_shape.2.1 37 = .ok (.ifCond .lt 10, 3) := by decide +kernel
theorem d_Mn_shape_40 : decode m_Mn_shape.2.1 40 = .ok (.iload 4, 2) := by decide +kernel
theorem d_Mn_shape_42 : decode m_Mn_shape.2.1 42 = .ok (.ldc 50, 2) := by decide +kernel
theorem d_Mn_shape_44 : decode m_Mn_shape.2.1 44 = .ok (.if_icmp .le 5, 3) := by decide +kernel
theorem d_Mn_shape_47 : decode m_Mn_shape.2.1 47 = .ok (.iconst 0, 1) := by decide +kernel
theorem d_Mn_shape_48 : decode m_Mn_shape.2.1 48 = .ok (.ireturn, 1) := by decide +kernel
theorem d_Mn_shape_49 : decode m_Mn_shape.2.1 49 = .ok (.iload_n 1, 1) := by decide +kernel
theorem d_Mn_shape_50 : decode m_Mn_shape.2.1 50 = .ok (.aload_n 0, 1) := by decide +kernel
theorem d_Mn_shape_51 : decode m_Mn_shape.2.1 51 = .ok (.getfield 37, 3) := by decide +kernel
theorem d_Mn_shape_54 : decode m_Mn_shape.2.1 54 = .ok (.if_icmp .eq 7, 3) := by decide +kernel
theorem d_Mn_shape_57 : decode m_Mn_shape.2.1 57 = .ok (.aload_n 0, 1) := by decide +kernel
theorem d_Mn_shape_58 : decode m_Mn_shape.2.1 58 = .ok (.invokevirtual 54, 3) := by decide +kernel
theorem d_Mn_shape_61 : decode m_Mn_shape.2.1 61 = .ok (.aload_n 0, 1) := by decide +kernel
theorem d_Mn_shape_62 : decode m_Mn_shape.2.1 62 = .ok (.iload_n 1, 1) := by decide +kernel
theorem d_Mn_shape_63 : decode m_Mn_shape.2.1 63 = .ok (.putfield 37, 3) := by decide +kernel
theorem d_Mn_shape_66 : decode m_Mn_shape.2.1 66 = .ok (.aload_n 0, 1) := by decide +kernel
theorem d_Mn_shape_67 : decode m_Mn_shape.2.1 67 = .ok (.iload_n 2, 1) := by decide +kernel
theorem d_Mn_shape_68 : decode m_Mn_shape.2.1 68 = .ok (.putfield 41, 3) := by decide +kernel
theorem d_Mn_shape_71 : decode m_Mn_shape.2.1 71 = .ok (.aload_n 0, 1) := by decide +kernel
theorem d_Mn_shape_72 : decode m_Mn_shape.2.1 72 = .ok (.iload_n 3, 1) := by decide +kernel
theorem d_Mn_shape_73 : decode m_Mn_shape.2.1 73 = .ok (.putfield 44, 3) := by decide +kernel
theorem d_Mn_shape_76 : decode m_Mn_shape.2.1 76 = .ok (.aload_n 0, 1) := by decide +kernel
theorem d_Mn_shape_77 : decode m_Mn_shape.2.1 77 = .ok (.iload 4, 2) := by decide +kernel
theorem d_Mn_shape_79 : decode m_Mn_shape.2.1 79 = .ok (.putfield 47, 3) := by decide +kernel
theorem d_Mn_shape_82 : decode m_Mn_shape.2.1 82 = .ok (.iconst 1, 1) := by decide +kernel
theorem d_Mn_shape_83 : decode m_Mn_shape.2.1 83 = .ok (.ireturn, 1) := by decide +kernel
set_option maxHeartbeats 4000000 in
set_option maxRecDepth 100000 in
theorem B_Mn_shape_0 {S : XS} {Q : Int32 → St → Prop} (σ : St) (x1 : Int32) (x2 : Int32) (x3 : Int32) (x4 : Int32) (H : ((x1 < (10 : Int32) → Q (0 : Int32) σ) ∧ (¬ x1 < (10 : Int32) → (((60 : Int32) < x1 → Q (0 : Int32) σ) ∧ (¬ (60 : Int32) < x1 → ((x2 < (5 : Int32) → Q (0 : Int32) σ) ∧ (¬ x2 < (5 : Int32) → ((x2 ≤ (40 : Int32) → ((x3 < 0 → Q (0 : Int32) σ) ∧ (¬ x3 < 0 → (((100000 : Int32) < x3 → Q (0 : Int32) σ) ∧ (¬ (100000 : Int32) < x3 → ((x4 < 0 → Q (0 : Int32) σ) ∧ (¬ x4 < 0 → ((x4 ≤ (100000 : Int32) → ((x1 = (gX σ 5) → Q (1 : Int32) (sX (sX (sX (sX σ 5 x1) 6 x2) 7 x3) 8 x4)) ∧ (¬ x1 = (gX σ 5) → CM S m_Mn_forgetBreakCosts [.ref 3] (enc σ) (qV (fun τ2 => Q (1 : Int32) (sX (sX (sX (sX τ2 5 x1) 6 x2) 7 x3) 8 x4)))))) ∧ (¬ x4 ≤ (100000 : Int32) → Q (0 : Int32) σ))))))))) ∧ (¬ x2 ≤ (40 : Int32) → Q (0 : Int32) σ))))))))) : BW S m_Mn_shape 0 [some (.ref 3), some (.int x1), some (.int x2), some (.int x3), some (.int x4)] [] (enc σ) (qI Q) := by
  refine b_iload_n d_Mn_shape_0 rfl rfl ?_
  refine b_bipush (v := (10 : Int32)) d_Mn_shape_1 (by decide) ?_
  refine b_icmp_lt (tgt := 23) d_Mn_shape_3 (by decide) (fun c11 => ?_) (fun c11 => ?_)
  · have H := H.1 c11
    refine b_iconst (v := (0 : Int32)) d_Mn_shape_23 (by decide) ?_
    exact b_iret (ty := .boolean) d_Mn_shape_24 rfl rfl ⟨_, _, rfl, rfl, H⟩
  · have H := H.2 c11
    refine b_iload_n d_Mn_shape_6 rfl rfl ?_
    refine b_bipush (v := (60 : Int32)) d_Mn_shape_7 (by decide) ?_
    refine b_icmp_gt (tgt := 23) d_Mn_shape_9 (by decide) (fun c10 => ?_) (fun c10 => ?_)
    · have H := H.1 c10
      refine b_iconst (v := (0 : Int32)) d_Mn_shape_23 (by decide) ?_
      exact b_iret (ty := .boolean) d_Mn_shape_24 rfl rfl ⟨_, _, rfl, rfl, H⟩
    · have H := H.2 c10
      refine b_iload_n d_Mn_shape_12 rfl rfl ?_
      refine b_iconst (v := (5 : Int32)) d_Mn_shape_13 (by decide) ?_
      refine b_icmp_lt (tgt := 23) d_Mn_shape_14 (by decide) (fun c9 => ?_) (fun c9 => ?_)
      · have H := H.1 c9
        refine b_iconst (v := (0 : Int32)) d_Mn_shape_23 (by decide) ?_
        exact b_iret (ty := .boolean) d_Mn_shape_24 rfl rfl ⟨_, _, rfl, rfl, H⟩
      · have H := H.2 c9
        refine b_iload_n d_Mn_shape_17 rfl rfl ?_
        refine b_bipush (v := (40 : Int32)) d_Mn_shape_18 (by decide) ?_
        refine b_icmp_le (tgt := 25) d_Mn_shape_20 (by decide) (fun c8 => ?_) (fun c8 => ?_)
        · have H := H.1 c8
          refine b_iload_n d_Mn_shape_25 rfl rfl ?_
          refine b_if_lt (tgt := 47) d_Mn_shape_26 (by decide) (fun c7 => ?_) (fun c7 => ?_)
          · have H := H.1 c7
            refine b_iconst (v := (0 : Int32)) d_Mn_shape_47 (by decide) ?_
            exact b_iret (ty := .boolean) d_Mn_shape_48 rfl rfl ⟨_, _, rfl, rfl, H⟩
          · have H := H.2 c7
            refine b_iload_n d_Mn_shape_29 rfl rfl ?_
            refine b_ldc (v := (100000 : Int32)) d_Mn_shape_30 cn_Mn_50 ?_
            refine b_icmp_gt (tgt := 47) d_Mn_shape_32 (by decide) (fun c6 => ?_) (fun c6 => ?_)
            · have H := H.1 c6
              refine b_iconst (v := (0 : Int32)) d_Mn_shape_47 (by decide) ?_
              exact b_iret (ty := .boolean) d_Mn_shape_48 rfl rfl ⟨_, _, rfl, rfl, H⟩
            · have H := H.2 c6
              refine b_iload d_Mn_shape_35 rfl ?_
              refine b_if_lt (tgt := 47) d_Mn_shape_37 (by decide) (fun c5 => ?_) (fun c5 => ?_)
              · have H := H.1 c5
                refine b_iconst (v := (0 : Int32)) d_Mn_shape_47 (by decide) ?_
                exact b_iret (ty := .boolean) d_Mn_shape_48 rfl rfl ⟨_, _, rfl, rfl, H⟩
              · have H := H.2 c5
                refine b_iload d_Mn_shape_40 rfl ?_
                refine b_ldc (v := (100000 : Int32)) d_Mn_shape_42 cn_Mn_50 ?_
                refine b_icmp_le (tgt := 49) d_Mn_shape_44 (by decide) (fun c4 => ?_) (fun c4 => ?_)
                · have H := H.1 c4
                  refine b_iload_n d_Mn_shape_49 rfl rfl ?_
                  refine b_aload_n d_Mn_shape_50 rfl rfl ?_
                  refine b_getf (v := .int (gX σ 5)) d_Mn_shape_51 fl_Mn_37 (eg_3 σ) rfl ?_
                  refine b_icmp_eq (tgt := 61) d_Mn_shape_54 (by decide) (fun c3 => ?_) (fun c3 => ?_)
                  · have H := H.1 c3
                    refine b_aload_n d_Mn_shape_61 rfl rfl ?_
                    refine b_iload_n d_Mn_shape_62 rfl rfl ?_
                    refine b_putf (ty := .int) (h1 := enc (sX σ 5 x1)) d_Mn_shape_63 fl_Mn_37 ft_6_7 (fun _ => ⟨rfl, rfl⟩) (eg_3 σ) (Nat.le_of_ble_eq_true rfl) (es_3_7 σ x1) ?_
                    refine b_aload_n d_Mn_shape_66 rfl rfl ?_
                    refine b_iload_n d_Mn_shape_67 rfl rfl ?_
                    refine b_putf (ty := .int) (h1 := enc (sX (sX σ 5 x1) 6 x2)) d_Mn_shape_68 fl_Mn_41 ft_6_8 (fun _ => ⟨rfl, rfl⟩) (eg_3 (sX σ 5 x1)) (Nat.le_of_ble_eq_true rfl) (es_3_8 (sX σ 5 x1) x2) ?_
                    refine b_aload_n d_Mn_shape_71 rfl rfl ?_
                    refine b_iload_n d_Mn_shape_72 rfl rfl ?_
                    refine b_putf (ty := .int) (h1 := enc (sX (sX (sX σ 5 x1) 6 x2) 7 x3)) d_Mn_shape_73 fl_Mn_44 ft_6_9 (fun _ => ⟨rfl, rfl⟩) (eg_3 (sX (sX σ 5 x1) 6 x2)) (Nat.le_of_ble_eq_true rfl) (es_3_9 (sX (sX σ 5 x1) 6 x2) x3) ?_
                    refine b_aload_n d_Mn_shape_76 rfl rfl ?_
                    refine b_iload d_Mn_shape_77 rfl ?_
                    refine b_putf (ty := .int) (h1 := enc (sX (sX (sX (sX σ 5 x1) 6 x2) 7 x3) 8 x4)) d_Mn_shape_79 fl_Mn_47 ft_6_10 (fun _ => ⟨rfl, rfl⟩) (eg_3 (sX (sX (sX σ 5 x1) 6 x2) 7 x3)) (Nat.le_of_ble_eq_true rfl) (es_3_10 (sX (sX (sX σ 5 x1) 6 x2) 7 x3) x4) ?_
                    refine b_iconst (v := (1 : Int32)) d_Mn_shape_82 (by decide) ?_
                    exact b_iret (ty := .boolean) d_Mn_shape_83 rfl rfl ⟨_, _, rfl, rfl, H⟩
                  · have H := H.2 c3
                    refine b_aload_n d_Mn_shape_57 rfl rfl ?_
                    refine b_callVv (Mc := m_Mn_forgetBreakCosts) (As := []) (st := []) d_Mn_shape_58 ⟨⟨kA_Mn_forgetBreakCosts.1, kA_Mn_forgetBreakCosts.2.1, kA_Mn_forgetBreakCosts.2.2, by decide⟩, ml_Mn_54, kV_Mn_forgetBreakCosts⟩ (eg_3 σ) rfl rfl (Nat.le_of_ble_eq_true rfl) H (fun τ2 H => ?_)
                    refine b_aload_n d_Mn_shape_61 rfl rfl ?_
                    refine b_iload_n d_Mn_shape_62 rfl rfl ?_
                    refine b_putf (ty := .int) (h1 := enc (sX τ2 5 x1)) d_Mn_shape_63 fl_Mn_37 ft_6_7 (fun _ => ⟨rfl, rfl⟩) (eg_3 τ2) (Nat.le_of_ble_eq_true rfl) (es_3_7 τ2 x1) ?_
                    refine b_aload_n d_Mn_shape_66 rfl rfl ?_
                    refine b_iload_n d_Mn_shape_67 rfl rfl ?_
                    refine b_putf (ty := .int) (h1 := enc (sX (sX τ2 5 x1) 6 x2)) d_Mn_shape_68 fl_Mn_41 ft_6_8 (fun _ => ⟨rfl, rfl⟩) (eg_3 (sX τ2 5 x1)) (Nat.le_of_ble_eq_true rfl) (es_3_8 (sX τ2 5 x1) x2) ?_
                    refine b_aload_n d_Mn_shape_71 rfl rfl ?_
                    refine b_iload_n d_Mn_shape_72 rfl rfl ?_
                    refine b_putf (ty := .int) (h1 := enc (sX (sX (sX τ2 5 x1) 6 x2) 7 x3)) d_Mn_shape_73 fl_Mn_44 ft_6_9 (fun _ => ⟨rfl, rfl⟩) (eg_3 (sX (sX τ2 5 x1) 6 x2)) (Nat.le_of_ble_eq_true rfl) (es_3_9 (sX (sX τ2 5 x1) 6 x2) x3) ?_
                    refine b_aload_n d_Mn_shape_76 rfl rfl ?_
                    refine b_iload d_Mn_shape_77 rfl ?_
                    refine b_putf (ty := .int) (h1 := enc (sX (sX (sX (sX τ2 5 x1) 6 x2) 7 x3) 8 x4)) d_Mn_shape_79 fl_Mn_47 ft_6_10 (fun _ => ⟨rfl, rfl⟩) (eg_3 (sX (sX (sX τ2 5 x1) 6 x2) 7 x3)) (Nat.le_of_ble_eq_true rfl) (es_3_10 (sX (sX (sX τ2 5 x1) 6 x2) 7 x3) x4) ?_
                    refine b_iconst (v := (1 : Int32)) d_Mn_shape_82 (by decide) ?_
                    exact b_iret (ty := .boolean) d_Mn_shape_83 rfl rfl ⟨_, _, rfl, rfl, H⟩
                · have H := H.2 c4
                  refine b_iconst (v := (0 : Int32)) d_Mn_shape_47 (by decide) ?_
                  exact b_iret (ty := .boolean) d_Mn_shape_48 rfl rfl ⟨_, _, rfl, rfl, H⟩
        · have H := H.2 c8
          refine b_iconst (v := (0 : Int32)) d_Mn_shape_23 (by decide) ?_
          exact b_iret (ty := .boolean) d_Mn_shape_24 rfl rfl ⟨_, _, rfl, rfl, H⟩
theorem C_Mn_shape {S : XS} {Q : Int32 → St → Prop} (σ : St) (x1 : Int32) (x2 : Int32) (x3 : Int32) (x4 : Int32) (H : BW S m_Mn_shape 0 [some (.ref 3), some (.int x1), some (.int x2), some (.int x3), some (.int x4)] [] (enc σ) (qI Q)) : CM S m_Mn_shape [.ref 3, .int x1, .int x2, .int x3, .int x4] (enc σ) (qI Q) := b_meth (by decide) (Nat.le_of_ble_eq_true rfl) rfl H
theorem d_Mn_cutCost_0 : decode m_Mn_cutCost.2.1 0 = .ok (.iload_n 1, 1) := by decide +kernel
theorem d_Mn_cutCost_1 : decode m_Mn_cutCost.2.1 1 = .ok (.ifCond .lt 21, 3) := by decide +kernel
theorem d_Mn_cutCost_4 : decode m_Mn_cutCost.2.1 4 = .ok (.iload_n 1, 1) := by decide +kernel
theorem d_Mn_cutCost_5 : decode m_Mn_cutCost.2.1 5 = .ok (.aload_n 0, 1) := by decide +kernel
theorem d_Mn_cutCost_6 : decode m_Mn_cutCost.2.1 6 = .ok (.getfield 51, 3) := by decide +kernel
theorem d_Mn_cutCost_9 : decode m_Mn_cutCost.2.1 9 = .ok (.if_icmp .ge 13, 3) := by decide +kernel
theorem d_Mn_cutCost_12 : decode m_Mn_cutCost.2.1 12 = .ok (.aload_n 0, 1) := by decide +kernel
theorem d_Mn_cutCost_13 : decode m_Mn_cutCost.2.1 13 = .ok (.getfield 9, 3) := by decide +kernel
theorem d_Mn_cutCost_16 : decode m_Mn_cutCost.2.1 16 = .ok (.iload_n 1, 1) := by decide +kernel
theorem d_Mn_cutCost_17 : decode m_Mn_cutCost.2.1 17 = .ok (.iaload, 1) := by decide +kernel
theorem d_Mn_cutCost_18 : decode m_Mn_cutCost.2.1 18 = .ok (.iconst (-1), 1) := by decide +kernel
theorem d_Mn_cutCost_19 : decode m_Mn_cutCost.2.1 19 = .ok (.if_icmp .ne 8, 3) := by decide +kernel
theorem d_Mn_cutCost_22 : decode m_Mn_cutCost.2.1 22 = .ok (.ldc 57, 2) := by decide +kernel
theorem d_Mn_cutCost_24 : decode m_Mn_cutCost.2.1 24 = .ok (.goto 9, 3) := by decide +kernel
theorem d_Mn_cutCost_27 : decode m_Mn_cutCost.2.1 27 = .ok (.aload_n 0, 1) := by decide +kernel
theorem d_Mn_cutCost_28 : decode m_Mn_cutCost.2.1 28 = .ok (.getfield 9, 3) := by decide +kernel
theorem d_Mn_cutCost_31 : decode m_Mn_cutCost.2.1 31 = .ok (.iload_n 1, 1) := by decide +kernel
theorem d_Mn_cutCost_32 : decode m_Mn_cutCost.2.1 32 = .ok (.iaload, 1) := by decide +kernel
theorem d_Mn_cutCost_33 : decode m_Mn_cutCost.2.1 33 = .ok (.ireturn, 1) := by decide +kernel
set_option maxHeartbeats 4000000 in
set_option maxRecDepth 100000 in
theorem B_Mn_cutCost_0 {S : XS} {Q : Int32 → St → Prop} (σ : St) (x1 : Int32) (H : ((x1 < 0 → Q (1000000000 : Int32) σ) ∧ (¬ x1 < 0 → (((gX σ 4) ≤ x1 → Q (1000000000 : Int32) σ) ∧ (¬ (gX σ 4) ≤ x1 → (vp_in x1 20) ∧ ((¬ ((gA σ 1) x1.toNatClampNeg) = (-1 : Int32) → Q ((gA σ 1) x1.toNatClampNeg) σ) ∧ (((gA σ 1) x1.toNatClampNeg) = (-1 : Int32) → Q (1000000000 : Int32) σ))))))) : BW S m_Mn_cutCost 0 [some (.ref 3), some (.int x1)] [] (enc σ) (qI Q) := by
  refine b_iload_n d_Mn_cutCost_0 rfl rfl ?_
  refine b_if_lt (tgt := 22) d_Mn_cutCost_1 (by decide) (fun c4 => ?_) (fun c4 => ?_)
  · have H := H.1 c4
    refine b_ldc (v := (1000000000 : Int32)) d_Mn_cutCost_22 cn_Mn_57 ?_
    refine b_goto (tgt := 33) d_Mn_cutCost_24 (by decide) ?_
    exact b_iret (ty := .int) d_Mn_cutCost_33 rfl rfl ⟨_, _, rfl, rfl, H⟩
  · have H := H.2 c4
    refine b_iload_n d_Mn_cutCost_4 rfl rfl ?_
    refine b_aload_n d_Mn_cutCost_5 rfl rfl ?_
    refine b_getf (v := .int (gX σ 4)) d_Mn_cutCost_6 fl_Mn_51 (eg_3 σ) rfl ?_
    refine b_icmp_ge (tgt := 22) d_Mn_cutCost_9 (by decide) (fun c3 => ?_) (fun c3 => ?_)
    · have H := H.1 c3
      refine b_ldc (v := (1000000000 : Int32)) d_Mn_cutCost_22 cn_Mn_57 ?_
      refine b_goto (tgt := 33) d_Mn_cutCost_24 (by decide) ?_
      exact b_iret (ty := .int) d_Mn_cutCost_33 rfl rfl ⟨_, _, rfl, rfl, H⟩
    · have H := H.2 c3
      refine b_aload_n d_Mn_cutCost_12 rfl rfl ?_
      refine b_getf (v := .ref 4) d_Mn_cutCost_13 fl_Mn_9 (eg_3 σ) rfl ?_
      refine b_iload_n d_Mn_cutCost_16 rfl rfl ?_
      obtain ⟨h1, H⟩ := H
      refine b_iald d_Mn_cutCost_17 (eg_4 σ) h1 ?_
      refine b_st2 (st' := [.int ((gA σ 1) x1.toNatClampNeg)]) rfl ?_
      refine b_iconst (v := (-1 : Int32)) d_Mn_cutCost_18 (by decide) ?_
      refine b_icmp_ne (tgt := 27) d_Mn_cutCost_19 (by decide) (fun c2 => ?_) (fun c2 => ?_)
      · have H := H.1 c2
        refine b_aload_n d_Mn_cutCost_27 rfl rfl ?_
        refine b_getf (v := .ref 4) d_Mn_cutCost_28 fl_Mn_9 (eg_3 σ) rfl ?_
        refine b_iload_n d_Mn_cutCost_31 rfl rfl ?_
        refine b_iald d_Mn_cutCost_32 (eg_4 σ) h1 ?_
        refine b_st2 (st' := [.int ((gA σ 1) x1.toNatClampNeg)]) rfl ?_
        exact b_iret (ty := .int) d_Mn_cutCost_33 rfl rfl ⟨_, _, rfl, rfl, H⟩
      · have H := H.2 c2
        refine b_ldc (v := (1000000000 : Int32)) d_Mn_cutCost_22 cn_Mn_57 ?_
        refine b_goto (tgt := 33) d_Mn_cutCost_24 (by decide) ?_
        exact b_iret (ty := .int) d_Mn_cutCost_33 rfl rfl ⟨_, _, rfl, rfl, H⟩
theorem C_Mn_cutCost {S : XS} {Q : Int32 → St → Prop} (σ : St) (x1 : Int32) (H : BW S m_Mn_cutCost 0 [some (.ref 3), some (.int x1)] [] (enc σ) (qI Q)) : CM S m_Mn_cutCost [.ref 3, .int x1] (enc σ) (qI Q) := b_meth (by decide) (Nat.le_of_ble_eq_true rfl) rfl H
theorem d_Mn_wordsOf_0 : decode m_Mn_wordsOf.2.1 0 = .ok (.iload_n 1, 1) := by decide +kernel
theorem d_Mn_wordsOf_1 : decode m_Mn_wordsOf.2.1 1 = .ok (.ifCond .lt 11, 3) := by decide +kernel
theorem d_Mn_wordsOf_4 : decode m_Mn_wordsOf.2.1 4 = .ok (.iload_n 1, 1) := by decide +kernel
theorem d_Mn_wordsOf_5 : decode m_Mn_wordsOf.2.1 5 = .ok (.aload_n 0, 1) := by decide +kernel
theorem d_Mn_wordsOf_6 : decode m_Mn_wordsOf.2.1 6 = .ok (.getfield 51, 3) := by decide +kernel
theorem d_Mn_wordsOf_9 : decode m_Mn_wordsOf.2.1 9 = .ok (.if_icmp .lt 7, 3) := by decide +kernel
theorem d_Mn_wordsOf_12 : decode m_Mn_wordsOf.2.1 12 = .ok (.iconst 0, 1) := by decide +kernel
theorem d_Mn_wordsOf_13 : decode m_Mn_wordsOf.2.1 13 = .ok (.goto 9, 3) := by decide +kernel
theorem d_Mn_wordsOf_16 : decode m_Mn_wordsOf.2.1 16 = .ok (.aload_n 0, 1) := by decide +kernel
theorem d_Mn_wordsOf_17 : decode m_Mn_wordsOf.2.1 17 = .ok (.getfield 15, 3) := by decide +kernel
theorem d_Mn_wordsOf_20 : decode m_Mn_wordsOf.2.1 20 = .ok (.iload_n 1, 1) := by decide +kernel
theorem d_Mn_wordsOf_21 : decode m_Mn_wordsOf.2.1 21 = .ok (.iaload, 1) := by decide +kernel
theorem d_Mn_wordsOf_22 : decode m_Mn_wordsOf.2.1 22 = .ok (.ireturn, 1) := by decide +kernel
set_option maxHeartbeats 4000000 in
set_option maxRecDepth 100000 in
theorem B_Mn_wordsOf_0 {S : XS} {Q : Int32 → St → Prop} (σ : St) (x1 : Int32) (H : ((x1 < 0 → Q (0 : Int32) σ) ∧ (¬ x1 < 0 → ((x1 < (gX σ 4) → (vp_in x1 20) ∧ Q ((gA σ 2) x1.toNatClampNeg) σ) ∧ (¬ x1 < (gX σ 4) → Q (0 : Int32) σ))))) : BW S m_Mn_wordsOf 0 [some (.ref 3), some (.int x1)] [] (enc σ) (qI Q) := by
  refine b_iload_n d_Mn_wordsOf_0 rfl rfl ?_
  refine b_if_lt (tgt := 12) d_Mn_wordsOf_1 (by decide) (fun c3 => ?_) (fun c3 => ?_)
  · have H := H.1 c3
    refine b_iconst (v := (0 : Int32)) d_Mn_wordsOf_12 (by decide) ?_
    refine b_goto (tgt := 22) d_Mn_wordsOf_13 (by decide) ?_
    exact b_iret (ty := .int) d_Mn_wordsOf_22 rfl rfl ⟨_, _, rfl, rfl, H⟩
  · have H := H.2 c3
    refine b_iload_n d_Mn_wordsOf_4 rfl rfl ?_
    refine b_aload_n d_Mn_wordsOf_5 rfl rfl ?_
    refine b_getf (v := .int (gX σ 4)) d_Mn_wordsOf_6 fl_Mn_51 (eg_3 σ) rfl ?_
    refine b_icmp_lt (tgt := 16) d_Mn_wordsOf_9 (by decide) (fun c2 => ?_) (fun c2 => ?_)
    · have H := H.1 c2
      refine b_aload_n d_Mn_wordsOf_16 rfl rfl ?_
      refine b_getf (v := .ref 5) d_Mn_wordsOf_17 fl_Mn_15 (eg_3 σ) rfl ?_
      refine b_iload_n d_Mn_wordsOf_20 rfl rfl ?_
      obtain ⟨h1, H⟩ := H
      refine b_iald d_Mn_wordsOf_21 (eg_5 σ) h1 ?_
      refine b_st2 (st' := [.int ((gA σ 2) x1.toNatClampNeg)]) rfl ?_
      exact b_iret (ty := .int) d_Mn_wordsOf_22 rfl rfl ⟨_, _, rfl, rfl, H⟩
    · have H := H.2 c2
      refine b_iconst (v := (0 : Int32)) d_Mn_wordsOf_12 (by decide) ?_
      refine b_goto (tgt := 22) d_Mn_wordsOf_13 (by decide) ?_
      exact b_iret (ty := .int) d_Mn_wordsOf_22 rfl rfl ⟨_, _, rfl, rfl, H⟩
theorem C_Mn_wordsOf {S : XS} {Q : Int32 → St → Prop} (σ : St) (x1 : Int32) (H : BW S m_Mn_wordsOf 0 [some (.ref 3), some (.int x1)] [] (enc σ) (qI Q)) : CM S m_Mn_wordsOf [.ref 3, .int x1] (enc σ) (qI Q) := b_meth (by decide) (Nat.le_of_ble_eq_true rfl) rfl H
theorem d_Mn_weighBreaks_0 : decode m_Mn_weighBreaks.2.1 0 = .ok (.iload_n 1, 1) := by decide +kernel
theorem d_Mn_weighBreaks_1 : decode m_Mn_weighBreaks.2.1 1 = .ok (.ifCond .lt 20, 3) := by decide +kernel
theorem d_Mn_weighBreaks_4 : decode m_Mn_weighBreaks.2.1 4 = .ok (.iload_n 1, 1) := by decide +kernel
theorem d_Mn_weighBreaks_5 : decode m_Mn_weighBreaks.2.1 5 = .ok (.aload_n 0, 1) := by decide +kernel
theorem d_Mn_weighBreaks_6 : decode m_Mn_weighBreaks.2.1 6 = .ok (.getfield 51, 3) := by decide +kernel
theorem d_Mn_weighBreaks_9 : decode m_Mn_weighBreaks.2.1 9 = .ok (.if_icmp .ge 12, 3) := by decide +kernel
theorem d_Mn_weighBreaks_12 : decode m_Mn_weighBreaks.2.1 12 = .ok (.aload_n 0, 1) := by decide +kernel
theorem d_Mn_weighBreaks_13 : decode m_Mn_weighBreaks.2.1 13 = .ok (.getfield 26, 3) := by decide +kernel
theorem d_Mn_weighBreaks_16 : decode m_Mn_weighBreaks.2.1 16 = .ok (.iload_n 1, 1) := by decide +kernel
theorem d_Mn_weighBreaks_17 : decode m_Mn_weighBreaks.2.1 17 = .ok (.baload, 1) := by decide +kernel
theorem d_Mn_weighBreaks_18 : decode m_Mn_weighBreaks.2.1 18 = .ok (.ifCond .eq 4, 3) := by decide +kernel
theorem d_Mn_weighBreaks_21 : decode m_Mn_weighBreaks.2.1 21 = .ok (.return_, 1) := by decide +kernel
theorem d_Mn_weighBreaks_22 : decode m_Mn_weighBreaks.2.1 22 = .ok (.aload_n 0, 1) := by decide +kernel
theorem d_Mn_weighBreaks_23 : decode m_Mn_weighBreaks.2.1 23 = .ok (.iload_n 1, 1) := by decide +kernel
theorem d_Mn_weighBreaks_24 : decode m_Mn_weighBreaks.2.1 24 = .ok (.invokevirtual 58, 3) := by decide +kernel
theorem d_Mn_weighBreaks_27 : decode m_Mn_weighBreaks.2.1 27 = .ok (.astore_n 2, 1) := by decide +kernel
theorem d_Mn_weighBreaks_28 : decode m_Mn_weighBreaks.2.1 28 = .ok (.iconst 0, 1) := by decide +kernel
theorem d_Mn_weighBreaks_29 : decode m_Mn_weighBreaks.2.1 29 = .ok (.istore_n 3, 1) := by decide +kernel
theorem d_Mn_weighBreaks_30 : decode m_Mn_weighBreaks.2.1 30 = .ok (.iload_n 3, 1) := by decide +kernel
theorem d_Mn_weighBreaks_31 : decode m_Mn_weighBreaks.2.1 31 = .ok (.bipush 30, 2) := by decide +kernel
theorem d_Mn_weighBreaks_33 : decode m_Mn_weighBreaks.2.1 33 = .ok (.if_icmp .gt 22, 3) := by decide +kernel
theorem d_Mn_weighBreaks_36 : decode m_Mn_weighBreaks.2.1 36 = .ok (.aload_n 0, 1) := by decide +kernel
theorem d_Mn_weighBreaks_37 : decode m_Mn_weighBreaks.2.1 37 = .ok (.getfield 23, 3) := by decide +kernel
theorem d_Mn_weighBreaks_40 : decode m_Mn_weighBreaks.2.1 40 = .ok (.iload_n 1, 1) := by decide +kernel
theorem d_Mn_weighBreaks_41 : decode m_Mn_weighBreaks.2.1 41 = .ok (.aaload, 1) := by decide +kernel
theorem d_Mn_weighBreaks_42 : decode m_Mn_weighBreaks.2.1 42 = .ok (.iload_n 3, 1) := by decide +kernel
theorem d_Mn_weighBreaks_43 : decode m_Mn_weighBreaks.2.1 43 = .ok (.aload_n 2, 1) := by decide +kernel
theorem d_Mn_weighBreaks_44 : decode m_Mn_weighBreaks.2.1 44 = .ok (.iload_n 3, 1) := by decide +kernel
theorem d_Mn_weighBreaks_45 : decode m_Mn_weighBreaks.2.1 45 = .ok (.invokevirtual 62, 3) := by decide +kernel
theorem d_Mn_weighBreaks_48 : decode m_Mn_weighBreaks.2.1 48 = .ok (.iastore, 1) := by decide +kernel
theorem d_Mn_weighBreaks_49 : decode m_Mn_weighBreaks.2.1 49 = .ok (.iinc 3 1, 3) := by decide +kernel
theorem d_Mn_weighBreaks_52 : decode m_Mn_weighBreaks.2.1 52 = .ok (.goto (-22), 3) := by decide +kernel
theorem d_Mn_weighBreaks_55 : decode m_Mn_weighBreaks.2.1 55 = .ok (.aload_n 0, 1) := by decide +kernel
theorem d_Mn_weighBreaks_56 : decode m_Mn_weighBreaks.2.1 56 = .ok (.getfield 26, 3) := by decide +kernel
theorem d_Mn_weighBreaks_59 : decode m_Mn_weighBreaks.2.1 59 = .ok (.iload_n 1, 1) := by decide +kernel
theorem d_Mn_weighBreaks_60 : decode m_Mn_weighBreaks.2.1 60 = .ok (.iconst 1, 1) := by decide +kernel
theorem d_Mn_weighBreaks_61 : decode m_Mn_weighBreaks.2.1 61 = .ok (.bastore, 1) := by decide +kernel
theorem d_Mn_weighBreaks_62 : decode m_Mn_weighBreaks.2.1 62 = .ok (.return_, 1) := by decide +kernel
set_option maxHeartbeats 4000000 in
set_option maxRecDepth 100000 in
theorem B_Mn_weighBreaks_0 {S : XS} {Q : St → Prop} (σ : St) (x1 : Int32) (H : ((x1 < 0 → Q σ) ∧ (¬ x1 < 0 → (((gX σ 4) ≤ x1 → Q σ) ∧ (¬ (gX σ 4) ≤ x1 → (vp_in x1 20) ∧ ((((gA σ 3) x1.toNatClampNeg) = 0 → CM S m_Mn_breaksOf [.ref 3, .int x1] (enc σ) (qR (fun v2 τ3 => v2 = some 49 ∧ BW S m_Mn_weighBreaks 30 [some (.ref 3), some (.int x1), some (.ref 49), some (.int (0 : Int32))] [] (enc τ3) (qV Q)))) ∧ (¬ ((gA σ 3) x1.toNatClampNeg) = 0 → Q σ))))))) : BW S m_Mn_weighBreaks 0 [some (.ref 3), some (.int x1), none, none] [] (enc σ) (qV Q) := by
  refine b_iload_n d_Mn_weighBreaks_0 rfl rfl ?_
  refine b_if_lt (tgt := 21) d_Mn_weighBreaks_1 (by decide) (fun c7 => ?_) (fun c7 => ?_)
  · have H := H.1 c7
    exact b_vret d_Mn_weighBreaks_21 rfl ⟨_, rfl, rfl, H⟩
  · have H := H.2 c7
    refine b_iload_n d_Mn_weighBreaks_4 rfl rfl ?_
    refine b_aload_n d_Mn_weighBreaks_5 rfl rfl ?_
    refine b_getf (v := .int (gX σ 4)) d_Mn_weighBreaks_6 fl_Mn_51 (eg_3 σ) rfl ?_
    refine b_icmp_ge (tgt := 21) d_Mn_weighBreaks_9 (by decide) (fun c6 => ?_) (fun c6 => ?_)
    · have H := H.1 c6
      exact b_vret d_Mn_weighBreaks_21 rfl ⟨_, rfl, rfl, H⟩
    · have H := H.2 c6
      refine b_aload_n d_Mn_weighBreaks_12 rfl rfl ?_
      refine b_getf (v := .ref 48) d_Mn_weighBreaks_13 fl_Mn_26 (eg_3 σ) rfl ?_
      refine b_iload_n d_Mn_weighBreaks_16 rfl rfl ?_
      obtain ⟨h1, H⟩ := H
      refine b_zald d_Mn_weighBreaks_17 (eg_48 σ) h1 ?_
      refine b_st2 (st' := [.int ((gA σ 3) x1.toNatClampNeg)]) rfl ?_
      refine b_if_eq (tgt := 22) d_Mn_weighBreaks_18 (by decide) (fun c5 => ?_) (fun c5 => ?_)
      · have H := H.1 c5
        refine b_aload_n d_Mn_weighBreaks_22 rfl rfl ?_
        refine b_iload_n d_Mn_weighBreaks_23 rfl rfl ?_
        refine b_callVr (Mc := m_Mn_breaksOf) (As := [.int x1]) (st := []) d_Mn_weighBreaks_24 ⟨⟨kA_Mn_breaksOf.1, kA_Mn_breaksOf.2.1, kA_Mn_breaksOf.2.2, by decide⟩, ml_Mn_58, kV_Mn_breaksOf⟩ (eg_3 σ) rfl rfl (Nat.le_of_ble_eq_true rfl) H (fun v2 τ3 H => ?_)
        obtain ⟨e4, H⟩ := H
        subst e4
        refine b_astore_n (ls' := [some (.ref 3), some (.int x1), some (.ref 49), none]) d_Mn_weighBreaks_27 rfl (Nat.le_of_ble_eq_true rfl) rfl ?_
        refine b_iconst (v := (0 : Int32)) d_Mn_weighBreaks_28 (by decide) ?_
        refine b_istore_n (ls' := [some (.ref 3), some (.int x1), some (.ref 49), some (.int (0 : Int32))]) d_Mn_weighBreaks_29 rfl (Nat.le_of_ble_eq_true rfl) rfl ?_
        exact b_mask [true, true, true, true] rfl H
      · have H := H.2 c5
        exact b_vret d_Mn_weighBreaks_21 rfl ⟨_, rfl, rfl, H⟩
set_option maxHeartbeats 4000000 in
set_option maxRecDepth 100000 in
theorem B_Mn_weighBreaks_30 {S : XS} {Q : St → Prop} (σ : St) (x1 : Int32) (x3 : Int32) (H : (((30 : Int32) < x3 → (vp_in x1 20) ∧ Q (sA σ 3 (upd (gA σ 3) x1.toNatClampNeg (1 : Int32)))) ∧ (¬ (30 : Int32) < x3 → (vp_in x1 20) ∧ CM S m_Br_cost [.ref 49, .int x3] (enc σ) (qI (fun v10 τ11 => (vp_in x3 31) ∧ BW S m_Mn_weighBreaks 30 [some (.ref 3), some (.int x1), some (.ref 49), some (.int (x3 + (1 : Int32)))] [] (enc (sB τ11 1 x1.toNatClampNeg (upd (gB τ11 1 x1.toNatClampNeg) x3.toNatClampNeg v10))) (qV Q)))))) : BW S m_Mn_weighBreaks 30 [some (.ref 3), some (.int x1), some (.ref 49), some (.int x3)] [] (enc σ) (qV Q) := by
  refine b_iload_n d_Mn_weighBreaks_30 rfl rfl ?_
  refine b_bipush (v := (30 : Int32)) d_Mn_weighBreaks_31 (by decide) ?_
  refine b_icmp_gt (tgt := 55) d_Mn_weighBreaks_33 (by decide) (fun c13 => ?_) (fun c13 => ?_)
  · have H := H.1 c13
    refine b_aload_n d_Mn_weighBreaks_55 rfl rfl ?_
    refine b_getf (v := .ref 48) d_Mn_weighBreaks_56 fl_Mn_26 (eg_3 σ) rfl ?_
    refine b_iload_n d_Mn_weighBreaks_59 rfl rfl ?_
    refine b_iconst (v := (1 : Int32)) d_Mn_weighBreaks_60 (by decide) ?_
    obtain ⟨h8, H⟩ := H
    refine b_zast (y := (1 : Int32)) (h1 := enc (sA σ 3 (upd (gA σ 3) x1.toNatClampNeg (1 : Int32)))) d_Mn_weighBreaks_61 (eg_48 σ) h8 (by decide) (es_48 σ (upd (gA σ 3) x1.toNatClampNeg (1 : Int32))) ?_
    exact b_vret d_Mn_weighBreaks_62 rfl ⟨_, rfl, rfl, H⟩
  · have H := H.2 c13
    refine b_aload_n d_Mn_weighBreaks_36 rfl rfl ?_
    refine b_getf (v := .ref 27) d_Mn_weighBreaks_37 fl_Mn_23 (eg_3 σ) rfl ?_
    refine b_iload_n d_Mn_weighBreaks_40 rfl rfl ?_
    obtain ⟨h9, H⟩ := H
    refine b_rowld d_Mn_weighBreaks_41 (eg_27 σ) h9 ?_
    refine b_iload_n d_Mn_weighBreaks_42 rfl rfl ?_
    refine b_aload_n d_Mn_weighBreaks_43 rfl rfl ?_
    refine b_iload_n d_Mn_weighBreaks_44 rfl rfl ?_
    refine b_callVi (Mc := m_Br_cost) (As := [.int x3]) (st := [.int x3, .ref (28 + x1.toNatClampNeg)]) d_Mn_weighBreaks_45 ⟨⟨kA_Br_cost.1, kA_Br_cost.2.1, kA_Br_cost.2.2, by decide⟩, ml_Mn_62, kV_Br_cost⟩ (eg_49 σ) rfl rfl (Nat.le_of_ble_eq_true rfl) H (fun v10 τ11 H => ?_)
    obtain ⟨h12, H⟩ := H
    refine b_iast (h1 := enc (sB τ11 1 x1.toNatClampNeg (upd (gB τ11 1 x1.toNatClampNeg) x3.toNatClampNeg v10))) (f := gB τ11 1 x1.toNatClampNeg) d_Mn_weighBreaks_48 (er1 τ11 (vp_lt h9)) h12 (et1 τ11 (vp_lt h9) (upd (gB τ11 1 x1.toNatClampNeg) x3.toNatClampNeg v10)) ?_
    refine b_iinc (v := (x3 + (1 : Int32))) (ls' := [some (.ref 3), some (.int x1), some (.ref 49), some (.int (x3 + (1 : Int32)))]) d_Mn_weighBreaks_49 rfl rfl (Nat.le_of_ble_eq_true rfl) rfl ?_
    refine b_goto (tgt := 30) d_Mn_weighBreaks_52 (by decide) ?_
    exact b_mask [true, true, true, true] rfl H
theorem C_Mn_weighBreaks {S : XS} {Q : St → Prop} (σ : St) (x1 : Int32) (H : BW S m_Mn_weighBreaks 0 [some (.ref 3), some (.int x1), none, none] [] (enc σ) (qV Q)) : CM S m_Mn_weighBreaks [.ref 3, .int x1] (enc σ) (qV Q) := b_meth (by decide) (Nat.le_of_ble_eq_true rfl) rfl H
theorem d_Mn_breakCost_0 : decode m_Mn_breakCost.2.1 0 = .ok (.iload_n 1, 1) := by decide +kernel
theorem d_Mn_breakCost_1 : decode m_Mn_breakCost.2.1 1 = .ok (.ifCond .lt 21, 3) := by decide +kernel
theorem d_Mn_breakCost_4 : decode m_Mn_breakCost.2.1 4 = .ok (.iload_n 1, 1) := by decide +kernel
theorem d_Mn_breakCost_5 : decode m_Mn_breakCost.2.1 5 = .ok (.aload_n 0, 1) := by decide +kernel
theorem d_Mn_breakCost_6 : decode m_Mn_breakCost.2.1 6 = .ok (.getfield 51, 3) := by decide +kernel
theorem d_Mn_breakCost_9 : decode m_Mn_breakCost.2.1 9 = .ok (.if_icmp .ge 13, 3) := by decide +kernel
theorem d_Mn_breakCost_12 : decode m_Mn_breakCost.2.1 12 = .ok (.iload_n 2, 1) := by decide +kernel
theorem d_Mn_breakCost_13 : decode m_Mn_breakCost.2.1 13 = .ok (.ifCond .lt 9, 3) := by decide +kernel
theorem d_Mn_breakCost_16 : decode m_Mn_breakCost.2.1 16 = .ok (.iload_n 2, 1) := by decide +kernel
theorem d_Mn_breakCost_17 : decode m_Mn_breakCost.2.1 17 = .ok (.bipush 30, 2) := by decide +kernel
theorem d_Mn_breakCost_19 : decode m_Mn_breakCost.2.1 19 = .ok (.if_icmp .le 6, 3) := by decide +kernel
theorem d_Mn_breakCost_22 : decode m_Mn_breakCost.2.1 22 = .ok (.ldc 57, 2) := by decide +kernel
theorem d_Mn_breakCost_24 : decode m_Mn_breakCost.2.1 24 = .ok (.ireturn, 1) := by decide +kernel
theorem d_Mn_breakCost_25 : decode m_Mn_breakCost.2.1 25 = .ok (.aload_n 0, 1) := by decide +kernel
theorem d_Mn_breakCost_26 : decode m_Mn_breakCost.2.1 26 = .ok (.getfield 23, 3) := by decide +kernel
theorem d_Mn_breakCost_29 : decode m_Mn_breakCost.2.1 29 = .ok (.iload_n 1, 1) := by decide +kernel
theorem d_Mn_breakCost_30 : decode m_Mn_breakCost.2.1 30 = .ok (.aaload, 1) := by decide +kernel
theorem d_Mn_breakCost_31 : decode m_Mn_breakCost.2.1 31 = .ok (.iload_n 2, 1) := by decide +kernel
theorem d_Mn_breakCost_32 : decode m_Mn_breakCost.2.1 32 = .ok (.iaload, 1) := by decide +kernel
theorem d_Mn_breakCost_33 : decode m_Mn_breakCost.2.1 33 = .ok (.ireturn, 1) := by decide +kernel
set_option maxHeartbeats 4000000 in
set_option maxRecDepth 100000 in
theorem B_Mn_breakCost_0 {S : XS} {Q : Int32 → St → Prop} (σ : St) (x1 : Int32) (x2 : Int32) (H : ((x1 < 0 → Q (1000000000 : Int32) σ) ∧ (¬ x1 < 0 → (((gX σ 4) ≤ x1 → Q (1000000000 : Int32) σ) ∧ (¬ (gX σ 4) ≤ x1 → ((x2 < 0 → Q (1000000000 : Int32) σ) ∧ (¬ x2 < 0 → ((x2 ≤ (30 : Int32) → (vp_in x1 20) ∧ (vp_in x2 31) ∧ Q (gB σ 1 x1.toNatClampNeg x2.toNatClampNeg) σ) ∧ (¬ x2 ≤ (30 : Int32) → Q (1000000000 : Int32) σ))))))))) : BW S m_Mn_breakCost 0 [some (.ref 3), some (.int x1), some (.int x2)] [] (enc σ) (qI Q) := by
  refine b_iload_n d_Mn_breakCost_0 rfl rfl ?_
  refine b_if_lt (tgt := 22) d_Mn_breakCost_1 (by decide) (fun c6 => ?_) (fun c6 => ?_)
  · have H := H.1 c6
    refine b_ldc (v := (1000000000 : Int32)) d_Mn_breakCost_22 cn_Mn_57 ?_
    exact b_iret (ty := .int) d_Mn_breakCost_24 rfl rfl ⟨_, _, rfl, rfl, H⟩
  · have H := H.2 c6
    refine b_iload_n d_Mn_breakCost_4 rfl rfl ?_
    refine b_aload_n d_Mn_breakCost_5 rfl rfl ?_
    refine b_getf (v := .int (gX σ 4)) d_Mn_breakCost_6 fl_Mn_51 (eg_3 σ) rfl ?_
    refine b_icmp_ge (tgt := 22) d_Mn_breakCost_9 (by decide) (fun c5 => ?_) (fun c5 => ?_)
    · have H := H.1 c5
      refine b_ldc (v := (1000000000 : Int32)) d_Mn_breakCost_22 cn_Mn_57 ?_
      exact b_iret (ty := .int) d_Mn_breakCost_24 rfl rfl ⟨_, _, rfl, rfl, H⟩
    · have H := H.2 c5
      refine b_iload_n d_Mn_breakCost_12 rfl rfl ?_
      refine b_if_lt (tgt := 22) d_Mn_breakCost_13 (by decide) (fun c4 => ?_) (fun c4 => ?_)
      · have H := H.1 c4
        refine b_ldc (v := (1000000000 : Int32)) d_Mn_breakCost_22 cn_Mn_57 ?_
        exact b_iret (ty := .int) d_Mn_breakCost_24 rfl rfl ⟨_, _, rfl, rfl, H⟩
      · have H := H.2 c4
        refine b_iload_n d_Mn_breakCost_16 rfl rfl ?_
        refine b_bipush (v := (30 : Int32)) d_Mn_breakCost_17 (by decide) ?_
        refine b_icmp_le (tgt := 25) d_Mn_breakCost_19 (by decide) (fun c3 => ?_) (fun c3 => ?_)
        · have H := H.1 c3
          refine b_aload_n d_Mn_breakCost_25 rfl rfl ?_
          refine b_getf (v := .ref 27) d_Mn_breakCost_26 fl_Mn_23 (eg_3 σ) rfl ?_
          refine b_iload_n d_Mn_breakCost_29 rfl rfl ?_
          obtain ⟨h1, H⟩ := H
          refine b_rowld d_Mn_breakCost_30 (eg_27 σ) h1 ?_
          refine b_iload_n d_Mn_breakCost_31 rfl rfl ?_
          obtain ⟨h2, H⟩ := H
          refine b_iald (f := gB σ 1 x1.toNatClampNeg) d_Mn_breakCost_32 (er1 σ (vp_lt h1)) h2 ?_
          refine b_st2 (st' := [.int (gB σ 1 x1.toNatClampNeg x2.toNatClampNeg)]) rfl ?_
          exact b_iret (ty := .int) d_Mn_breakCost_33 rfl rfl ⟨_, _, rfl, rfl, H⟩
        · have H := H.2 c3
          refine b_ldc (v := (1000000000 : Int32)) d_Mn_breakCost_22 cn_Mn_57 ?_
          exact b_iret (ty := .int) d_Mn_breakCost_24 rfl rfl ⟨_, _, rfl, rfl, H⟩
theorem C_Mn_breakCost {S : XS} {Q : Int32 → St → Prop} (σ : St) (x1 : Int32) (x2 : Int32) (H : BW S m_Mn_breakCost 0 [some (.ref 3), some (.int x1), some (.int x2)] [] (enc σ) (qI Q)) : CM S m_Mn_breakCost [.ref 3, .int x1, .int x2] (enc σ) (qI Q) := b_meth (by decide) (Nat.le_of_ble_eq_true rfl) rfl H
theorem d_Mn_breaksOf_0 : decode m_Mn_breaksOf.2.1 0 = .ok (.iload_n 1, 1) := by decide +kernel
theorem d_Mn_breaksOf_1 : decode m_Mn_breaksOf.2.1 1 = .ok (.ifCond .lt 34, 3) := by decide +kernel
theorem d_Mn_breaksOf_4 : decode m_Mn_breaksOf.2.1 4 = .ok (.iload_n 1, 1) := by decide +kernel
theorem d_Mn_breaksOf_5 : decode m_Mn_breaksOf.2.1 5 = .ok (.aload_n 0, 1) := by decide +kernel
theorem d_Mn_breaksOf_6 : decode m_Mn_breaksOf.2.1 6 = .ok (.getfield 51, 3) := by decide +kernel
theorem d_Mn_breaksOf_9 : decode m_Mn_breaksOf.2.1 9 = .ok (.if_icmp .ge 26, 3) := by decide +kernel
theorem d_Mn_breaksOf_12 : decode m_Mn_breaksOf.2.1 12 = .ok (.aload_n 0, 1) := by decide +kernel
theorem d_Mn_breaksOf_13 : decode m_Mn_breaksOf.2.1 13 = .ok (.getfield 33, 3) := by decide +kernel
theorem d_Mn_breaksOf_16 : decode m_Mn_breaksOf.2.1 16 = .ok (.aload_n 0, 1) := by decide +kernel
theorem d_Mn_breaksOf_17 : decode m_Mn_breaksOf.2.1 17 = .ok (.getfield 20, 3) := by decide +kernel
theorem d_Mn_breaksOf_20 : decode m_Mn_breaksOf.2.1 20 = .ok (.iload_n 1, 1) := by decide +kernel
theorem d_Mn_breaksOf_21 : decode m_Mn_breaksOf.2.1 21 = .ok (.aaload, 1) := by decide +kernel
theorem d_Mn_breaksOf_22 : decode m_Mn_breaksOf.2.1 22 = .ok (.aload_n 0, 1) := by decide +kernel
theorem d_Mn_breaksOf_23 : decode m_Mn_breaksOf.2.1 23 = .ok (.getfield 15, 3) := by decide +kernel
theorem d_Mn_breaksOf_26 : decode m_Mn_breaksOf.2.1 26 = .ok (.iload_n 1, 1) := by decide +kernel
theorem d_Mn_breaksOf_27 : decode m_Mn_breaksOf.2.1 27 = .ok (.iaload, 1) := by decide +kernel
theorem d_Mn_breaksOf_28 : decode m_Mn_breaksOf.2.1 28 = .ok (.aload_n 0, 1) := by decide +kernel
theorem d_Mn_breaksOf_29 : decode m_Mn_breaksOf.2.1 29 = .ok (.getfield 37, 3) := by decide +kernel
theorem d_Mn_breaksOf_32 : decode m_Mn_breaksOf.2.1 32 = .ok (.invokevirtual 66, 3) := by decide +kernel
theorem d_Mn_breaksOf_35 : decode m_Mn_breaksOf.2.1 35 = .ok (.aload_n 0, 1) := by decide +kernel
theorem d_Mn_breaksOf_36 : decode m_Mn_breaksOf.2.1 36 = .ok (.getfield 33, 3) := by decide +kernel
theorem d_Mn_breaksOf_39 : decode m_Mn_breaksOf.2.1 39 = .ok (.areturn, 1) := by decide +kernel
set_option maxHeartbeats 4000000 in
set_option maxRecDepth 100000 in
theorem B_Mn_breaksOf_0 {S : XS} {Q : Option Nat → St → Prop} (σ : St) (x1 : Int32) (H : ((x1 < 0 → Q (some 49) σ) ∧ (¬ x1 < 0 → (((gX σ 4) ≤ x1 → Q (some 49) σ) ∧ (¬ (gX σ 4) ≤ x1 → (vp_in x1 20) ∧ CM S m_Br_weigh [.ref 49, .ref (7 + x1.toNatClampNeg), .int ((gA σ 2) x1.toNatClampNeg), .int (gX σ 5)] (enc σ) (qV (fun τ3 => Q (some 49) τ3))))))) : BW S m_Mn_breaksOf 0 [some (.ref 3), some (.int x1)] [] (enc σ) (qR Q) := by
  refine b_iload_n d_Mn_breaksOf_0 rfl rfl ?_
  refine b_if_lt (tgt := 35) d_Mn_breaksOf_1 (by decide) (fun c5 => ?_) (fun c5 => ?_)
  · have H := H.1 c5
    refine b_aload_n d_Mn_breaksOf_35 rfl rfl ?_
    refine b_getf (v := .ref 49) d_Mn_breaksOf_36 fl_Mn_33 (eg_3 σ) rfl ?_
    exact b_aretO (v := (some 49)) d_Mn_breaksOf_39 rfl ⟨_, _, rfl, rfl, H⟩
  · have H := H.2 c5
    refine b_iload_n d_Mn_breaksOf_4 rfl rfl ?_
    refine b_aload_n d_Mn_breaksOf_5 rfl rfl ?_
    refine b_getf (v := .int (gX σ 4)) d_Mn_breaksOf_6 fl_Mn_51 (eg_3 σ) rfl ?_
    refine b_icmp_ge (tgt := 35) d_Mn_breaksOf_9 (by decide) (fun c4 => ?_) (fun c4 => ?_)
    · have H := H.1 c4
      refine b_aload_n d_Mn_breaksOf_35 rfl rfl ?_
      refine b_getf (v := .ref 49) d_Mn_breaksOf_36 fl_Mn_33 (eg_3 σ) rfl ?_
      exact b_aretO (v := (some 49)) d_Mn_breaksOf_39 rfl ⟨_, _, rfl, rfl, H⟩
    · have H := H.2 c4
      refine b_aload_n d_Mn_breaksOf_12 rfl rfl ?_
      refine b_getf (v := .ref 49) d_Mn_breaksOf_13 fl_Mn_33 (eg_3 σ) rfl ?_
      refine b_aload_n d_Mn_breaksOf_16 rfl rfl ?_
      refine b_getf (v := .ref 6) d_Mn_breaksOf_17 fl_Mn_20 (eg_3 σ) rfl ?_
      refine b_iload_n d_Mn_breaksOf_20 rfl rfl ?_
      obtain ⟨h1, H⟩ := H
      refine b_rowld d_Mn_breaksOf_21 (eg_6 σ) h1 ?_
      refine b_aload_n d_Mn_breaksOf_22 rfl rfl ?_
      refine b_getf (v := .ref 5) d_Mn_breaksOf_23 fl_Mn_15 (eg_3 σ) rfl ?_
      refine b_iload_n d_Mn_breaksOf_26 rfl rfl ?_
      refine b_iald d_Mn_breaksOf_27 (eg_5 σ) h1 ?_
      refine b_st2 (st' := [.int ((gA σ 2) x1.toNatClampNeg), .ref (7 + x1.toNatClampNeg), .ref 49]) rfl ?_
      refine b_aload_n d_Mn_breaksOf_28 rfl rfl ?_
      refine b_getf (v := .int (gX σ 5)) d_Mn_breaksOf_29 fl_Mn_37 (eg_3 σ) rfl ?_
      refine b_callVv (Mc := m_Br_weigh) (As := [.ref (7 + x1.toNatClampNeg), .int ((gA σ 2) x1.toNatClampNeg), .int (gX σ 5)]) (st := []) d_Mn_breaksOf_32 ⟨⟨kA_Br_weigh.1, kA_Br_weigh.2.1, kA_Br_weigh.2.2, by decide⟩, ml_Mn_66, kV_Br_weigh⟩ (eg_49 σ) rfl rfl (Nat.le_of_ble_eq_true rfl) H (fun τ3 H => ?_)
      refine b_aload_n d_Mn_breaksOf_35 rfl rfl ?_
      refine b_getf (v := .ref 49) d_Mn_breaksOf_36 fl_Mn_33 (eg_3 τ3) rfl ?_
      exact b_aretO (v := (some 49)) d_Mn_breaksOf_39 rfl ⟨_, _, rfl, rfl, H⟩
theorem C_Mn_breaksOf {S : XS} {Q : Option Nat → St → Prop} (σ : St) (x1 : Int32) (H : BW S m_Mn_breaksOf 0 [some (.ref 3), some (.int x1)] [] (enc σ) (qR Q)) : CM S m_Mn_breaksOf [.ref 3, .int x1] (enc σ) (qR Q) := b_meth (by decide) (Nat.le_of_ble_eq_true rfl) rfl H
theorem d_Mn_widowCost_0 : decode m_Mn_widowCost.2.1 0 = .ok (.iload_n 2, 1) := by decide +kernel
theorem d_Mn_widowCost_1 : decode m_Mn_widowCost.2.1 1 = .ok (.iconst 2, 1) := by decide +kernel
theorem d_Mn_widowCost_2 : decode m_Mn_widowCost.2.1 2 = .ok (.if_icmp .lt 11, 3) := by decide +kernel
theorem d_Mn_widowCost_5 : decode m_Mn_widowCost.2.1 5 = .ok (.aload_n 0, 1) := by decide +kernel
theorem d_Mn_widowCost_6 : decode m_Mn_widowCost.2.1 6 = .ok (.getfield 41, 3) := by decide +kernel
theorem d_Mn_widowCost_9 : decode m_Mn_widowCost.2.1 9 = .ok (.iconst 1, 1) := by decide +kernel
theorem d_Mn_widowCost_10 : decode m_Mn_widowCost.2.1 10 = .ok (.if_icmp .ge 5, 3) := by decide +kernel
theorem d_Mn_widowCost_13 : decode m_Mn_widowCost.2.1 13 = .ok (.iconst 0, 1) := by decide +kernel
theorem d_Mn_widowCost_14 : decode m_Mn_widowCost.2.1 14 = .ok (.ireturn, 1) := by decide +kernel
theorem d_Mn_widowCost_15 : decode m_Mn_widowCost.2.1 15 = .ok (.iconst 0, 1) := by decide +kernel
theorem d_Mn_widowCost_16 : decode m_Mn_widowCost.2.1 16 = .ok (.istore_n 3, 1) := by decide +kernel
theorem d_Mn_widowCost_17 : decode m_Mn_widowCost.2.1 17 = .ok (.iload_n 1, 1) := by decide +kernel
theorem d_Mn_widowCost_18 : decode m_Mn_widowCost.2.1 18 = .ok (.iconst 1, 1) := by decide +kernel
theorem d_Mn_widowCost_19 : decode m_Mn_widowCost.2.1 19 = .ok (.iadd, 1) := by decide +kernel
theorem d_Mn_widowCost_20 : decode m_Mn_widowCost.2.1 20 = .ok (.aload_n 0, 1) := by decide +kernel
theorem d_Mn_widowCost_21 : decode m_Mn_widowCost.2.1 21 = .ok (.getfield 41, 3) := by decide +kernel
theorem d_Mn_widowCost_24 : decode m_Mn_widowCost.2.1 24 = .ok (.irem, 1) := by decide +kernel
theorem d_Mn_widowCost_25 : decode m_Mn_widowCost.2.1 25 = .ok (.ifCond .ne 10, 3) := by decide +kernel
theorem d_Mn_widowCost_28 : decode m_Mn_widowCost.2.1 28 = .ok (.iload_n 3, 1) := by decide +kernel
theorem d_Mn_widowCost_29 : decode m_Mn_widowCost.2.1 29 = .ok (.aload_n 0, 1) := by decide +kernel
theorem d_Mn_widowCost_30 : decode m_Mn_widowCost.2.1 30 = .ok (.getfield 47, 3) := by decide +kernel
theorem d_Mn_widowCost_33 : decode m_Mn_widowCost.2.1 33 = .ok (.iadd, 1) := by decide +kernel
theorem d_Mn_widowCost_34 : decode m_Mn_widowCost.2.1 34 = .ok (.istore_n 3, 1) := by decide +kernel
theorem d_Mn_widowCost_35 : decode m_Mn_widowCost.2.1 35 = .ok (.iload_n 1, 1) := by decide +kernel
theorem d_Mn_widowCost_36 : decode m_Mn_widowCost.2.1 36 = .ok (.iload_n 2, 1) := by decide +kernel
theorem d_Mn_widowCost_37 : decode m_Mn_widowCost.2.1 37 = .ok (.iadd, 1) := by decide +kernel
theorem d_Mn_widowCost_38 : decode m_Mn_widowCost.2.1 38 = .ok (.iconst 1, 1) := by decide +kernel
theorem d_Mn_widowCost_39 : decode m_Mn_widowCost.2.1 39 = .ok (.isub, 1) := by decide +kernel
theorem d_Mn_widowCost_40 : decode m_Mn_widowCost.2.1 40 = .ok (.aload_n 0, 1) := by decide +kernel
theorem d_Mn_widowCost_41 : decode m_Mn_widowCost.2.1 41 = .ok (.getfield 41, 3) := by decide +kernel
theorem d_Mn_widowCost_44 : decode m_Mn_widowCost.2.1 44 = .ok (.irem, 1) := by decide +kernel
theorem d_Mn_widowCost_45 : decode m_Mn_widowCost.2.1 45 = .ok (.ifCond .ne 10, 3) := by decide +kernel
theorem d_Mn_widowCost_48 : decode m_Mn_widowCost.2.1 48 = .ok (.iload_n 3, 1) := by decide +kernel
theorem d_Mn_widowCost_49 : decode m_Mn_widowCost.2.1 49 = .ok (.aload_n 0, 1) := by decide +kernel
theorem d_Mn_widowCost_50 : decode m_Mn_widowCost.2.1 50 = .ok (.getfield 47, 3) := by decide +kernel
theorem d_Mn_widowCost_53 : decode m_Mn_widowCost.2.1 53 = .ok (.iadd, 1) := by decide +kernel
theorem d_Mn_widowCost_54 : decode m_Mn_widowCost.2.1 54 = .ok (.istore_n 3, 1) := by decide +kernel
theorem d_Mn_widowCost_55 : decode m_Mn_widowCost.2.1 55 = .ok (.iload_n 3, 1) := by decide +kernel
theorem d_Mn_widowCost_56 : decode m_Mn_widowCost.2.1 56 = .ok (.ireturn, 1) := by decide +kernel
set_option maxHeartbeats 4000000 in
set_option maxRecDepth 100000 in
theorem B_Mn_widowCost_0 {S : XS} {Q : Int32 → St → Prop} (σ : St) (x1 : Int32) (x2 : Int32) (H : ((x2 < (2 : Int32) → Q (0 : Int32) σ) ∧ (¬ x2 < (2 : Int32) → (((1 : Int32) ≤ (gX σ 6) → (¬ (gX σ 6) = 0) ∧ ((¬ ((x1 + (1 : Int32)) - (x1 + (1 : Int32)) / (gX σ 6) * (gX σ 6)) = 0 → ((¬ (((x1 + x2) - (1 : Int32)) - ((x1 + x2) - (1 : Int32)) / (gX σ 6) * (gX σ 6)) = 0 → Q (0 : Int32) σ) ∧ ((((x1 + x2) - (1 : Int32)) - ((x1 + x2) - (1 : Int32)) / (gX σ 6) * (gX σ 6)) = 0 → Q ((0 : Int32) + (gX σ 8)) σ))) ∧ (((x1 + (1 : Int32)) - (x1 + (1 : Int32)) / (gX σ 6) * (gX σ 6)) = 0 → ((¬ (((x1 + x2) - (1 : Int32)) - ((x1 + x2) - (1 : Int32)) / (gX σ 6) * (gX σ 6)) = 0 → Q ((0 : Int32) + (gX σ 8)) σ) ∧ ((((x1 + x2) - (1 : Int32)) - ((x1 + x2) - (1 : Int32)) / (gX σ 6) * (gX σ 6)) = 0 → Q (((0 : Int32) + (gX σ 8)) + (gX σ 8)) σ))))) ∧ (¬ (1 : Int32) ≤ (gX σ 6) → Q (0 : Int32) σ))))) : BW S m_Mn_widowCost 0 [some (.ref 3), some (.int x1), some (.int x2), none] [] (enc σ) (qI Q) := by
  refine b_iload_n d_Mn_widowCost_0 rfl rfl ?_
  refine b_iconst (v := (2 : Int32)) d_Mn_widowCost_1 (by decide) ?_
  refine b_icmp_lt (tgt := 13) d_Mn_widowCost_2 (by decide) (fun c6 => ?_) (fun c6 => ?_)
  · have H := H.1 c6
    refine b_iconst (v := (0 : Int32)) d_Mn_widowCost_13 (by decide) ?_
    exact b_iret (ty := .int) d_Mn_widowCost_14 rfl rfl ⟨_, _, rfl, rfl, H⟩
  · have H := H.2 c6
    refine b_aload_n d_Mn_widowCost_5 rfl rfl ?_
    refine b_getf (v := .int (gX σ 6)) d_Mn_widowCost_6 fl_Mn_41 (eg_3 σ) rfl ?_
    refine b_iconst (v := (1 : Int32)) d_Mn_widowCost_9 (by decide) ?_
    refine b_icmp_ge (tgt := 15) d_Mn_widowCost_10 (by decide) (fun c5 => ?_) (fun c5 => ?_)
    · have H := H.1 c5
      refine b_iconst (v := (0 : Int32)) d_Mn_widowCost_15 (by decide) ?_
      refine b_istore_n (ls' := [some (.ref 3), some (.int x1), some (.int x2), some (.int (0 : Int32))]) d_Mn_widowCost_16 rfl (Nat.le_of_ble_eq_true rfl) rfl ?_
      refine b_iload_n d_Mn_widowCost_17 rfl rfl ?_
      refine b_iconst (v := (1 : Int32)) d_Mn_widowCost_18 (by decide) ?_
      refine b_iadd d_Mn_widowCost_19  ?_
      refine b_aload_n d_Mn_widowCost_20 rfl rfl ?_
      refine b_getf (v := .int (gX σ 6)) d_Mn_widowCost_21 fl_Mn_41 (eg_3 σ) rfl ?_
      obtain ⟨h1, H⟩ := H
      refine b_irem d_Mn_widowCost_24 h1 ?_
      refine b_if_ne (tgt := 35) d_Mn_widowCost_25 (by decide) (fun c4 => ?_) (fun c4 => ?_)
      · have H := H.1 c4
        refine b_iload_n d_Mn_widowCost_35 rfl rfl ?_
        refine b_iload_n d_Mn_widowCost_36 rfl rfl ?_
        refine b_iadd d_Mn_widowCost_37  ?_
        refine b_iconst (v := (1 : Int32)) d_Mn_widowCost_38 (by decide) ?_
        refine b_isub d_Mn_widowCost_39  ?_
        refine b_aload_n d_Mn_widowCost_40 rfl rfl ?_
        refine b_getf (v := .int (gX σ 6)) d_Mn_widowCost_41 fl_Mn_41 (eg_3 σ) rfl ?_
        refine b_irem d_Mn_widowCost_44 h1 ?_
        refine b_if_ne (tgt := 55) d_Mn_widowCost_45 (by decide) (fun c2 => ?_) (fun c2 => ?_)
        · have H := H.1 c2
          refine b_iload_n d_Mn_widowCost_55 rfl rfl ?_
          exact b_iret (ty := .int) d_Mn_widowCost_56 rfl rfl ⟨_, _, rfl, rfl, H⟩
        · have H := H.2 c2
          refine b_iload_n d_Mn_widowCost_48 rfl rfl ?_
          refine b_aload_n d_Mn_widowCost_49 rfl rfl ?_
          refine b_getf (v := .int (gX σ 8)) d_Mn_widowCost_50 fl_Mn_47 (eg_3 σ) rfl ?_
          refine b_iadd d_Mn_widowCost_53  ?_
          refine b_istore_n (ls' := [some (.ref 3), some (.int x1), some (.int x2), some (.int ((0 : Int32) + (gX σ 8)))]) d_Mn_widowCost_54 rfl (Nat.le_of_ble_eq_true rfl) rfl ?_
          refine b_iload_n d_Mn_widowCost_55 rfl rfl ?_
          exact b_iret (ty := .int) d_Mn_widowCost_56 rfl rfl ⟨_, _, rfl, rfl, H⟩
      · have H := H.2 c4
        refine b_iload_n d_Mn_widowCost_28 rfl rfl ?_
        refine b_aload_n d_Mn_widowCost_29 rfl rfl ?_
        refine b_getf (v := .int (gX σ 8)) d_Mn_widowCost_30 fl_Mn_47 (eg_3 σ) rfl ?_
        refine b_iadd d_Mn_widowCost_33  ?_
        refine b_istore_n (ls' := [some (.ref 3), some (.int x1), some (.int x2), some (.int ((0 : Int32) + (gX σ 8)))]) d_Mn_widowCost_34 rfl (Nat.le_of_ble_eq_true rfl) rfl ?_
        refine b_iload_n d_Mn_widowCost_35 rfl rfl ?_
        refine b_iload_n d_Mn_widowCost_36 rfl rfl ?_
        refine b_iadd d_Mn_widowCost_37  ?_
        refine b_iconst (v := (1 : Int32)) d_Mn_widowCost_38 (by decide) ?_
        refine b_isub d_Mn_widowCost_39  ?_
        refine b_aload_n d_Mn_widowCost_40 rfl rfl ?_
        refine b_getf (v := .int (gX σ 6)) d_Mn_widowCost_41 fl_Mn_41 (eg_3 σ) rfl ?_
        refine b_irem d_Mn_widowCost_44 h1 ?_
        refine b_if_ne (tgt := 55) d_Mn_widowCost_45 (by decide) (fun c3 => ?_) (fun c3 => ?_)
        · have H := H.1 c3
          refine b_iload_n d_Mn_widowCost_55 rfl rfl ?_
          exact b_iret (ty := .int) d_Mn_widowCost_56 rfl rfl ⟨_, _, rfl, rfl, H⟩
        · have H := H.2 c3
          refine b_iload_n d_Mn_widowCost_48 rfl rfl ?_
          refine b_aload_n d_Mn_widowCost_49 rfl rfl ?_
          refine b_getf (v := .int (gX σ 8)) d_Mn_widowCost_50 fl_Mn_47 (eg_3 σ) rfl ?_
          refine b_iadd d_Mn_widowCost_53  ?_
          refine b_istore_n (ls' := [some (.ref 3), some (.int x1), some (.int x2), some (.int (((0 : Int32) + (gX σ 8)) + (gX σ 8)))]) d_Mn_widowCost_54 rfl (Nat.le_of_ble_eq_true rfl) rfl ?_
          refine b_iload_n d_Mn_widowCost_55 rfl rfl ?_
          exact b_iret (ty := .int) d_Mn_widowCost_56 rfl rfl ⟨_, _, rfl, rfl, H⟩
    · have H := H.2 c5
      refine b_iconst (v := (0 : Int32)) d_Mn_widowCost_13 (by decide) ?_
      exact b_iret (ty := .int) d_Mn_widowCost_14 rfl rfl ⟨_, _, rfl, rfl, H⟩
theorem C_Mn_widowCost {S : XS} {Q : Int32 → St → Prop} (σ : St) (x1 : Int32) (x2 : Int32) (H : BW S m_Mn_widowCost 0 [some (.ref 3), some (.int x1), some (.int x2), none] [] (enc σ) (qI Q)) : CM S m_Mn_widowCost [.ref 3, .int x1, .int x2] (enc σ) (qI Q) := b_meth (by decide) (Nat.le_of_ble_eq_true rfl) rfl H
theorem d_Mn_forgetBreakCosts_0 : decode m_Mn_forgetBreakCosts.2.1 0 = .ok (.iconst 0, 1) := by decide +kernel
theorem d_Mn_forgetBreakCosts_1 : decode m_Mn_forgetBreakCosts.2.1 1 = .ok (.istore_n 1, 1) := by decide +kernel
theorem d_Mn_forgetBreakCosts_2 : decode m_Mn_forgetBreakCosts.2.1 2 = .ok (.iload_n 1, 1) := by decide +kernel
theorem d_Mn_forgetBreakCosts_3 : decode m_Mn_forgetBreakCosts.2.1 3 = .ok (.bipush 20, 2) := by decide +kernel
theorem d_Mn_forgetBreakCosts_5 : decode m_Mn_forgetBreakCosts.2.1 5 = .ok (.if_icmp .ge 16, 3) := by decide +kernel
theorem d_Mn_forgetBreakCosts_8 : decode m_Mn_forgetBreakCosts.2.1 8 = .ok (.aload_n 0, 1) := by decide +kernel
theorem d_Mn_forgetBreakCosts_9 : decode m_Mn_forgetBreakCosts.2.1 9 = .ok (.getfield 26, 3) := by decide +kernel
theorem d_Mn_forgetBreakCosts_12 : decode m_Mn_forgetBreakCosts.2.1 12 = .ok (.iload_n 1, 1) := by decide +kernel
theorem d_Mn_forgetBreakCosts_13 : decode m_Mn_forgetBreakCosts.2.1 13 = .ok (.iconst 0, 1) := by decide +kernel
theorem d_Mn_forgetBreakCosts_14 : decode m_Mn_forgetBreakCosts.2.1 14 = .ok (.bastore, 1) := by decide +kernel
theorem d_Mn_forgetBreakCosts_15 : decode m_Mn_forgetBreakCosts.2.1 15 = .ok (.iinc 1 1, 3) := by decide +kernel
theorem d_Mn_forgetBreakCosts_18 : decode m_Mn_forgetBreakCosts.2.1 18 = .ok (.goto (-16), 3) := by decide +kernel
theorem d_Mn_forgetBreakCosts_21 : decode m_Mn_forgetBreakCosts.2.1 21 = .ok (.return_, 1) := by decide +kernel
set_option maxHeartbeats 4000000 in
set_option maxRecDepth 100000 in
theorem B_Mn_forgetBreakCosts_0 {S : XS} {Q : St → Prop} (σ : St)  (H : BW S m_Mn_forgetBreakCosts 2 [some (.ref 3), some (.int (0 : Int32))] [] (enc σ) (qV Q)) : BW S m_Mn_forgetBreakCosts 0 [some (.ref 3), none] [] (enc σ) (qV Q) := by
  refine b_iconst (v := (0 : Int32)) d_Mn_forgetBreakCosts_0 (by decide) ?_
  refine b_istore_n (ls' := [some (.ref 3), some (.int (0 : Int32))]) d_Mn_forgetBreakCosts_1 rfl (Nat.le_of_ble_eq_true rfl) rfl ?_
  exact b_mask [true, true] rfl H
set_option maxHeartbeats 4000000 in
set_option maxRecDepth 100000 in
theorem B_Mn_forgetBreakCosts_2 {S : XS} {Q : St → Prop} (σ : St) (x1 : Int32) (H : (((20 : Int32) ≤ x1 → Q σ) ∧ (¬ (20 : Int32) ≤ x1 → (vp_in x1 20) ∧ BW S m_Mn_forgetBreakCosts 2 [some (.ref 3), some (.int (x1 + (1 : Int32)))] [] (enc (sA σ 3 (upd (gA σ 3) x1.toNatClampNeg (0 : Int32)))) (qV Q)))) : BW S m_Mn_forgetBreakCosts 2 [some (.ref 3), some (.int x1)] [] (enc σ) (qV Q) := by
  refine b_iload_n d_Mn_forgetBreakCosts_2 rfl rfl ?_
  refine b_bipush (v := (20 : Int32)) d_Mn_forgetBreakCosts_3 (by decide) ?_
  refine b_icmp_ge (tgt := 21) d_Mn_forgetBreakCosts_5 (by decide) (fun c2 => ?_) (fun c2 => ?_)
  · have H := H.1 c2
    exact b_vret d_Mn_forgetBreakCosts_21 rfl ⟨_, rfl, rfl, H⟩
  · have H := H.2 c2
    refine b_aload_n d_Mn_forgetBreakCosts_8 rfl rfl ?_
    refine b_getf (v := .ref 48) d_Mn_forgetBreakCosts_9 fl_Mn_26 (eg_3 σ) rfl ?_
    refine b_iload_n d_Mn_forgetBreakCosts_12 rfl rfl ?_
    refine b_iconst (v := (0 : Int32)) d_Mn_forgetBreakCosts_13 (by decide) ?_
    obtain ⟨h1, H⟩ := H
    refine b_zast (y := (0 : Int32)) (h1 := enc (sA σ 3 (upd (gA σ 3) x1.toNatClampNeg (0 : Int32)))) d_Mn_forgetBreakCosts_14 (eg_48 σ) h1 (by decide) (es_48 σ (upd (gA σ 3) x1.toNatClampNeg (0 : Int32))) ?_
    refine b_iinc (v := (x1 + (1 : Int32))) (ls' := [some (.ref 3), some (.int (x1 + (1 : Int32)))]) d_Mn_forgetBreakCosts_15 rfl rfl (Nat.le_of_ble_eq_true rfl) rfl ?_
    refine b_goto (tgt := 2) d_Mn_forgetBreakCosts_18 (by decide) ?_
    exact b_mask [true, true] rfl H
theorem C_Mn_forgetBreakCosts {S : XS} {Q : St → Prop} (σ : St)  (H : BW S m_Mn_forgetBreakCosts 0 [some (.ref 3), none] [] (enc σ) (qV Q)) : CM S m_Mn_forgetBreakCosts [.ref 3] (enc σ) (qV Q) := b_meth (by decide) (Nat.le_of_ble_eq_true rfl) rfl H
