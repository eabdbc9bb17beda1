/-! block rules, by program -/
theorem d_Md_line_0 : decode m_Md_line.2.1 0 = .ok (.iload_n 1, 1) := by decide +kernel
theorem d_Md_line_1 : decode m_Md_line.2.1 1 = .ok (.ifCond .lt 26, 3) := by decide +kernel
theorem d_Md_line_4 : decode m_Md_line.2.1 4 = .ok (.iload_n 1, 1) := by decide +kernel
theorem d_Md_line_5 : decode m_Md_line.2.1 5 = .ok (.bipush 120, 2) := by decide +kernel
theorem d_Md_line_7 : decode m_Md_line.2.1 7 = .ok (.if_icmp .ge 20, 3) := by decide +kernel
theorem d_Md_line_10 : decode m_Md_line.2.1 10 = .ok (.aload_n 0, 1) := by decide +kernel
theorem d_Md_line_11 : decode m_Md_line.2.1 11 = .ok (.getfield 50, 3) := by decide +kernel
theorem d_Md_line_14 : decode m_Md_line.2.1 14 = .ok (.ifCond .eq 13, 3) := by decide +kernel
theorem d_Md_line_17 : decode m_Md_line.2.1 17 = .ok (.aload_n 0, 1) := by decide +kernel
theorem d_Md_line_18 : decode m_Md_line.2.1 18 = .ok (.getfield 66, 3) := by decide +kernel
theorem d_Md_line_21 : decode m_Md_line.2.1 21 = .ok (.iload_n 1, 1) := by decide +kernel
theorem d_Md_line_22 : decode m_Md_line.2.1 22 = .ok (.iaload, 1) := by decide +kernel
theorem d_Md_line_23 : decode m_Md_line.2.1 23 = .ok (.iconst (-1), 1) := by decide +kernel
theorem d_Md_line_24 : decode m_Md_line.2.1 24 = .ok (.if_icmp .ne 5, 3) := by decide +kernel
theorem d_Md_line_27 : decode m_Md_line.2.1 27 = .ok (.iconst (-1), 1) := by decide +kernel
theorem d_Md_line_28 : decode m_Md_line.2.1 28 = .ok (.ireturn, 1) := by decide +kernel
theorem d_Md_line_29 : decode m_Md_line.2.1 29 = .ok (.iload_n 2, 1) := by decide +kernel
theorem d_Md_line_30 : decode m_Md_line.2.1 30 = .ok (.tableswitch 47 0 2 #[26, 33, 40], 26) := by decide +kernel
theorem d_Md_line_56 : decode m_Md_line.2.1 56 = .ok (.aload_n 0, 1) := by decide +kernel
theorem d_Md_line_57 : decode m_Md_line.2.1 57 = .ok (.getfield 66, 3) := by decide +kernel
theorem d_Md_line_60 : decode m_Md_line.2.1 60 = .ok (.iload_n 1, 1) := by decide +kernel
theorem d_Md_line_61 : decode m_Md_line.2.1 61 = .ok (.iaload, 1) := by decide +kernel
theorem d_Md_line_62 : decode m_Md_line.2.1 62 = .ok (.ireturn, 1) := by decide +kernel
theorem d_Md_line_63 : decode m_Md_line.2.1 63 = .ok (.aload_n 0, 1) := by decide +kernel
theorem d_Md_line_64 : decode m_Md_line.2.1 64 = .ok (.getfield 69, 3) := by decide +kernel
theorem d_Md_line_67 : decode m_Md_line.2.1 67 = .ok (.iload_n 1, 1) := by decide +kernel
theorem d_Md_line_68 : decode m_Md_line.2.1 68 = .ok (.iaload, 1) := by decide +kernel
theorem d_Md_line_69 : decode m_Md_line.2.1 69 = .ok (.ireturn, 1) := by decide +kernel
theorem d_Md_line_70 : decode m_Md_line.2.1 70 = .ok (.aload_n 0, 1) := by decide +kernel
theorem d_Md_line_71 : decode m_Md_line.2.1 71 = .ok (.getfield 72, 3) := by decide +kernel
theorem d_Md_line_74 : decode m_Md_line.2.1 74 = .ok (.iload_n 1, 1) := by decide +kernel
theorem d_Md_line_75 : decode m_Md_line.2.1 75 = .ok (.iaload, 1) := by decide +kernel
theorem d_Md_line_76 : decode m_Md_line.2.1 76 = .ok (.ireturn, 1) := by decide +kernel
theorem d_Md_line_77 : decode m_Md_line.2.1 77 = .ok (.iconst (-1), 1) := by decide +kernel
theorem d_Md_line_78 : decode m_Md_line.2.1 78 = .ok (.ireturn, 1) := by decide +kernel
set_option maxHeartbeats 4000000 in
set_option maxRecDepth 100000 in
theorem B_Md_line_0 {S : XS} {Q : Int32 → St → Prop} (σ : St) (x1 : Int32) (x2 : Int32) (H : ((x1 < 0 → Q (-1 : Int32) σ) ∧ (¬ x1 < 0 → (((120 : Int32) ≤ x1 → Q (-1 : Int32) σ) ∧ (¬ (120 : Int32) ≤ x1 → (((gY σ 6) = 0 → Q (-1 : Int32) σ) ∧ (¬ (gY σ 6) = 0 → (vp_in x1 120) ∧ ((¬ ((gC σ 11) x1.toNatClampNeg) = (-1 : Int32) → ((x2 = (0 : Int32) → Q ((gC σ 11) x1.toNatClampNeg) σ) ∧ (x2 = (1 : Int32) → Q ((gC σ 12) x1.toNatClampNeg) σ) ∧ (x2 = (2 : Int32) → Q ((gC σ 13) x1.toNatClampNeg) σ) ∧ (¬ x2 = (0 : Int32) → ¬ x2 = (1 : Int32) → ¬ x2 = (2 : Int32) → Q (-1 : Int32) σ))) ∧ (((gC σ 11) x1.toNatClampNeg) = (-1 : Int32) → Q (-1 : Int32) σ))))))))) : BW S m_Md_line 0 [some (.ref 153), some (.int x1), some (.int x2)] [] (enc σ) (qI Q) := by
  refine b_iload_n d_Md_line_0 rfl rfl ?_
  refine b_if_lt (tgt := 27) d_Md_line_1 (by decide) (fun c8 => ?_) (fun c8 => ?_)
  · have H := H.1 c8
    refine b_iconst (v := (-1 : Int32)) d_Md_line_27 (by decide) ?_
    exact b_iret (ty := .int) d_Md_line_28 rfl rfl ⟨_, _, rfl, rfl, H⟩
  · have H := H.2 c8
    refine b_iload_n d_Md_line_4 rfl rfl ?_
    refine b_bipush (v := (120 : Int32)) d_Md_line_5 (by decide) ?_
    refine b_icmp_ge (tgt := 27) d_Md_line_7 (by decide) (fun c7 => ?_) (fun c7 => ?_)
    · have H := H.1 c7
      refine b_iconst (v := (-1 : Int32)) d_Md_line_27 (by decide) ?_
      exact b_iret (ty := .int) d_Md_line_28 rfl rfl ⟨_, _, rfl, rfl, H⟩
    · have H := H.2 c7
      refine b_aload_n d_Md_line_10 rfl rfl ?_
      refine b_getf (v := .int (gY σ 6)) d_Md_line_11 fl_Md_50 (eg_153 σ) rfl ?_
      refine b_if_eq (tgt := 27) d_Md_line_14 (by decide) (fun c6 => ?_) (fun c6 => ?_)
      · have H := H.1 c6
        refine b_iconst (v := (-1 : Int32)) d_Md_line_27 (by decide) ?_
        exact b_iret (ty := .int) d_Md_line_28 rfl rfl ⟨_, _, rfl, rfl, H⟩
      · have H := H.2 c6
        refine b_aload_n d_Md_line_17 rfl rfl ?_
        refine b_getf (v := .ref 165) d_Md_line_18 fl_Md_66 (eg_153 σ) rfl ?_
        refine b_iload_n d_Md_line_21 rfl rfl ?_
        obtain ⟨h1, H⟩ := H
        refine b_iald d_Md_line_22 (eg_165 σ) h1 ?_
        refine b_st2 (st' := [.int ((gC σ 11) x1.toNatClampNeg)]) rfl ?_
        refine b_iconst (v := (-1 : Int32)) d_Md_line_23 (by decide) ?_
        refine b_icmp_ne (tgt := 29) d_Md_line_24 (by decide) (fun c5 => ?_) (fun c5 => ?_)
        · have H := H.1 c5
          refine b_iload_n d_Md_line_29 rfl rfl ?_
          by_cases c2 : x2 = (0 : Int32)
          · have H := H.1 c2
            refine b_tableIn (off := 26) (tgt := 56) d_Md_line_30 (by rw [c2]; decide) (by rw [c2]; decide) (by rw [c2]; rfl) (by decide) ?_
            refine b_aload_n d_Md_line_56 rfl rfl ?_
            refine b_getf (v := .ref 165) d_Md_line_57 fl_Md_66 (eg_153 σ) rfl ?_
            refine b_iload_n d_Md_line_60 rfl rfl ?_
            refine b_iald d_Md_line_61 (eg_165 σ) h1 ?_
            refine b_st2 (st' := [.int ((gC σ 11) x1.toNatClampNeg)]) rfl ?_
            exact b_iret (ty := .int) d_Md_line_62 rfl rfl ⟨_, _, rfl, rfl, H⟩
          by_cases c3 : x2 = (1 : Int32)
          · have H := H.2.1 c3
            refine b_tableIn (off := 33) (tgt := 63) d_Md_line_30 (by rw [c3]; decide) (by rw [c3]; decide) (by rw [c3]; rfl) (by decide) ?_
            refine b_aload_n d_Md_line_63 rfl rfl ?_
            refine b_getf (v := .ref 166) d_Md_line_64 fl_Md_69 (eg_153 σ) rfl ?_
            refine b_iload_n d_Md_line_67 rfl rfl ?_
            refine b_iald d_Md_line_68 (eg_166 σ) h1 ?_
            refine b_st2 (st' := [.int ((gC σ 12) x1.toNatClampNeg)]) rfl ?_
            exact b_iret (ty := .int) d_Md_line_69 rfl rfl ⟨_, _, rfl, rfl, H⟩
          by_cases c4 : x2 = (2 : Int32)
          · have H := H.2.2.1 c4
            refine b_tableIn (off := 40) (tgt := 70) d_Md_line_30 (by rw [c4]; decide) (by rw [c4]; decide) (by rw [c4]; rfl) (by decide) ?_
            refine b_aload_n d_Md_line_70 rfl rfl ?_
            refine b_getf (v := .ref 167) d_Md_line_71 fl_Md_72 (eg_153 σ) rfl ?_
            refine b_iload_n d_Md_line_74 rfl rfl ?_
            refine b_iald d_Md_line_75 (eg_167 σ) h1 ?_
            refine b_st2 (st' := [.int ((gC σ 13) x1.toNatClampNeg)]) rfl ?_
            exact b_iret (ty := .int) d_Md_line_76 rfl rfl ⟨_, _, rfl, rfl, H⟩
          have H := H.2.2.2 c2 c3 c4
          refine b_tableOut (tgt := 77) d_Md_line_30 (tabOut 3 (fun k hk e => ?_)) (by decide) ?_
          · match k, hk, e with
            | 0, _, e => exact c2 (Int32.toInt_inj.mp (e.trans (by decide)))
            | 1, _, e => exact c3 (Int32.toInt_inj.mp (e.trans (by decide)))
            | 2, _, e => exact c4 (Int32.toInt_inj.mp (e.trans (by decide)))
            | (k + 3), hk, _ => omega
          refine b_iconst (v := (-1 : Int32)) d_Md_line_77 (by decide) ?_
          exact b_iret (ty := .int) d_Md_line_78 rfl rfl ⟨_, _, rfl, rfl, H⟩
        · have H := H.2 c5
          refine b_iconst (v := (-1 : Int32)) d_Md_line_27 (by decide) ?_
          exact b_iret (ty := .int) d_Md_line_28 rfl rfl ⟨_, _, rfl, rfl, H⟩
theorem C_Md_line {S : XS} {Q : Int32 → St → Prop} (σ : St) (x1 : Int32) (x2 : Int32) (H : BW S m_Md_line 0 [some (.ref 153), some (.int x1), some (.int x2)] [] (enc σ) (qI Q)) : CM S m_Md_line [.ref 153, .int x1, .int x2] (enc σ) (qI Q) := b_meth (by decide) (Nat.le_of_ble_eq_true rfl) rfl H
theorem d_Md_blame_0 : decode m_Md_blame.2.1 0 = .ok (.aload_n 0, 1) := by decide +kernel
theorem d_Md_blame_1 : decode m_Md_blame.2.1 1 = .ok (.getfield 75, 3) := by decide +kernel
theorem d_Md_blame_4 : decode m_Md_blame.2.1 4 = .ok (.ifCond .le 4, 3) := by decide +kernel
theorem d_Md_blame_7 : decode m_Md_blame.2.1 7 = .ok (.return_, 1) := by decide +kernel
theorem d_Md_blame_8 : decode m_Md_blame.2.1 8 = .ok (.aload_n 0, 1) := by decide +kernel
theorem d_Md_blame_9 : decode m_Md_blame.2.1 9 = .ok (.iload_n 1, 1) := by decide +kernel
theorem d_Md_blame_10 : decode m_Md_blame.2.1 10 = .ok (.putfield 75, 3) := by decide +kernel
theorem d_Md_blame_13 : decode m_Md_blame.2.1 13 = .ok (.aload_n 0, 1) := by decide +kernel
theorem d_Md_blame_14 : decode m_Md_blame.2.1 14 = .ok (.iload_n 2, 1) := by decide +kernel
theorem d_Md_blame_15 : decode m_Md_blame.2.1 15 = .ok (.putfield 78, 3) := by decide +kernel
theorem d_Md_blame_18 : decode m_Md_blame.2.1 18 = .ok (.return_, 1) := by decide +kernel
set_option maxHeartbeats 4000000 in
set_option maxRecDepth 100000 in
theorem B_Md_blame_0 {S : XS} {Q : St → Prop} (σ : St) (x1 : Int32) (x2 : Int32) (H : (((gY σ 7) ≤ 0 → Q (sY (sY σ 7 x1) 8 x2)) ∧ (¬ (gY σ 7) ≤ 0 → Q σ))) : BW S m_Md_blame 0 [some (.ref 153), some (.int x1), some (.int x2)] [] (enc σ) (qV Q) := by
  refine b_aload_n d_Md_blame_0 rfl rfl ?_
  refine b_getf (v := .int (gY σ 7)) d_Md_blame_1 fl_Md_75 (eg_153 σ) rfl ?_
  refine b_if_le (tgt := 8) d_Md_blame_4 (by decide) (fun c1 => ?_) (fun c1 => ?_)
  · have H := H.1 c1
    refine b_aload_n d_Md_blame_8 rfl rfl ?_
    refine b_iload_n d_Md_blame_9 rfl rfl ?_
    refine b_putf (ty := .int) (h1 := enc (sY σ 7 x1)) d_Md_blame_10 fl_Md_75 ft_12_21 (fun _ => ⟨rfl, rfl⟩) (eg_153 σ) (Nat.le_of_ble_eq_true rfl) (es_153_21 σ x1) ?_
    refine b_aload_n d_Md_blame_13 rfl rfl ?_
    refine b_iload_n d_Md_blame_14 rfl rfl ?_
    refine b_putf (ty := .int) (h1 := enc (sY (sY σ 7 x1) 8 x2)) d_Md_blame_15 fl_Md_78 ft_12_22 (fun _ => ⟨rfl, rfl⟩) (eg_153 (sY σ 7 x1)) (Nat.le_of_ble_eq_true rfl) (es_153_22 (sY σ 7 x1) x2) ?_
    exact b_vret d_Md_blame_18 rfl ⟨_, rfl, rfl, H⟩
  · have H := H.2 c1
    exact b_vret d_Md_blame_7 rfl ⟨_, rfl, rfl, H⟩
theorem C_Md_blame {S : XS} {Q : St → Prop} (σ : St) (x1 : Int32) (x2 : Int32) (H : BW S m_Md_blame 0 [some (.ref 153), some (.int x1), some (.int x2)] [] (enc σ) (qV Q)) : CM S m_Md_blame [.ref 153, .int x1, .int x2] (enc σ) (qV Q) := b_meth (by decide) (Nat.le_of_ble_eq_true rfl) rfl H
theorem d_Md_isLetter_0 : decode m_Md_isLetter.2.1 0 = .ok (.iload_n 0, 1) := by decide +kernel
theorem d_Md_isLetter_1 : decode m_Md_isLetter.2.1 1 = .ok (.bipush 97, 2) := by decide +kernel
theorem d_Md_isLetter_3 : decode m_Md_isLetter.2.1 3 = .ok (.if_icmp .lt 13, 3) := by decide +kernel
theorem d_Md_isLetter_6 : decode m_Md_isLetter.2.1 6 = .ok (.iload_n 0, 1) := by decide +kernel
theorem d_Md_isLetter_7 : decode m_Md_isLetter.2.1 7 = .ok (.bipush 122, 2) := by decide +kernel
theorem d_Md_isLetter_9 : decode m_Md_isLetter.2.1 9 = .ok (.if_icmp .gt 7, 3) := by decide +kernel
theorem d_Md_isLetter_12 : decode m_Md_isLetter.2.1 12 = .ok (.iconst 1, 1) := by decide +kernel
theorem d_Md_isLetter_13 : decode m_Md_isLetter.2.1 13 = .ok (.goto 4, 3) := by decide +kernel
theorem d_Md_isLetter_16 : decode m_Md_isLetter.2.1 16 = .ok (.iconst 0, 1) := by decide +kernel
theorem d_Md_isLetter_17 : decode m_Md_isLetter.2.1 17 = .ok (.ireturn, 1) := by decide +kernel
set_option maxHeartbeats 4000000 in
set_option maxRecDepth 100000 in
theorem B_Md_isLetter_0 {S : XS} {Q : Int32 → St → Prop} (σ : St) (x0 : Int32) (H : ((x0 < (97 : Int32) → Q (0 : Int32) σ) ∧ (¬ x0 < (97 : Int32) → (((122 : Int32) < x0 → Q (0 : Int32) σ) ∧ (¬ (122 : Int32) < x0 → Q (1 : Int32) σ))))) : BW S m_Md_isLetter 0 [some (.int x0)] [] (enc σ) (qI Q) := by
  refine b_iload_n d_Md_isLetter_0 rfl rfl ?_
  refine b_bipush (v := (97 : Int32)) d_Md_isLetter_1 (by decide) ?_
  refine b_icmp_lt (tgt := 16) d_Md_isLetter_3 (by decide) (fun c2 => ?_) (fun c2 => ?_)
  · have H := H.1 c2
    refine b_iconst (v := (0 : Int32)) d_Md_isLetter_16 (by decide) ?_
    exact b_iret (ty := .boolean) d_Md_isLetter_17 rfl rfl ⟨_, _, rfl, rfl, H⟩
  · have H := H.2 c2
    refine b_iload_n d_Md_isLetter_6 rfl rfl ?_
    refine b_bipush (v := (122 : Int32)) d_Md_isLetter_7 (by decide) ?_
    refine b_icmp_gt (tgt := 16) d_Md_isLetter_9 (by decide) (fun c1 => ?_) (fun c1 => ?_)
    · have H := H.1 c1
      refine b_iconst (v := (0 : Int32)) d_Md_isLetter_16 (by decide) ?_
      exact b_iret (ty := .boolean) d_Md_isLetter_17 rfl rfl ⟨_, _, rfl, rfl, H⟩
    · have H := H.2 c1
      refine b_iconst (v := (1 : Int32)) d_Md_isLetter_12 (by decide) ?_
      refine b_goto (tgt := 17) d_Md_isLetter_13 (by decide) ?_
      exact b_iret (ty := .boolean) d_Md_isLetter_17 rfl rfl ⟨_, _, rfl, rfl, H⟩
theorem C_Md_isLetter {S : XS} {Q : Int32 → St → Prop} (σ : St) (x0 : Int32) (H : BW S m_Md_isLetter 0 [some (.int x0)] [] (enc σ) (qI Q)) : CM S m_Md_isLetter [.int x0] (enc σ) (qI Q) := b_meth (by decide) (Nat.le_of_ble_eq_true rfl) rfl H
theorem d_Md_isDigit_0 : decode m_Md_isDigit.2.1 0 = .ok (.iload_n 0, 1) := by decide +kernel
theorem d_Md_isDigit_1 : decode m_Md_isDigit.2.1 1 = .ok (.bipush 48, 2) := by decide +kernel
theorem d_Md_isDigit_3 : decode m_Md_isDigit.2.1 3 = .ok (.if_icmp .lt 13, 3) := by decide +kernel
theorem d_Md_isDigit_6 : decode m_Md_isDigit.2.1 6 = .ok (.iload_n 0, 1) := by decide +kernel
theorem d_Md_isDigit_7 : decode m_Md_isDigit.2.1 7 = .ok (.bipush 57, 2) := by decide +kernel
theorem d_Md_isDigit_9 : decode m_Md_isDigit.2.1 9 = .ok (.if_icmp .gt 7, 3) := by decide +kernel
theorem d_Md_isDigit_12 : decode m_Md_isDigit.2.1 12 = .ok (.iconst 1, 1) := by decide +kernel
theorem d_Md_isDigit_13 : decode m_Md_isDigit.2.1 13 = .ok (.goto 4, 3) := by decide +kernel
theorem d_Md_isDigit_16 : decode m_Md_isDigit.2.1 16 = .ok (.iconst 0, 1) := by decide +kernel
theorem d_Md_isDigit_17 : decode m_Md_isDigit.2.1 17 = .ok (.ireturn, 1) := by decide +kernel
set_option maxHeartbeats 4000000 in
set_option maxRecDepth 100000 in
theorem B_Md_isDigit_0 {S : XS} {Q : Int32 → St → Prop} (σ : St) (x0 : Int32) (H : ((x0 < (48 : Int32) → Q (0 : Int32) σ) ∧ (¬ x0 < (48 : Int32) → (((57 : Int32) < x0 → Q (0 : Int32) σ) ∧ (¬ (57 : Int32) < x0 → Q (1 : Int32) σ))))) : BW S m_Md_isDigit 0 [some (.int x0)] [] (enc σ) (qI Q) := by
  refine b_iload_n d_Md_isDigit_0 rfl rfl ?_
  refine b_bipush (v := (48 : Int32)) d_Md_isDigit_1 (by decide) ?_
  refine b_icmp_lt (tgt := 16) d_Md_isDigit_3 (by decide) (fun c2 => ?_) (fun c2 => ?_)
  · have H := H.1 c2
    refine b_iconst (v := (0 : Int32)) d_Md_isDigit_16 (by decide) ?_
    exact b_iret (ty := .boolean) d_Md_isDigit_17 rfl rfl ⟨_, _, rfl, rfl, H⟩
  · have H := H.2 c2
    refine b_iload_n d_Md_isDigit_6 rfl rfl ?_
    refine b_bipush (v := (57 : Int32)) d_Md_isDigit_7 (by decide) ?_
    refine b_icmp_gt (tgt := 16) d_Md_isDigit_9 (by decide) (fun c1 => ?_) (fun c1 => ?_)
    · have H := H.1 c1
      refine b_iconst (v := (0 : Int32)) d_Md_isDigit_16 (by decide) ?_
      exact b_iret (ty := .boolean) d_Md_isDigit_17 rfl rfl ⟨_, _, rfl, rfl, H⟩
    · have H := H.2 c1
      refine b_iconst (v := (1 : Int32)) d_Md_isDigit_12 (by decide) ?_
      refine b_goto (tgt := 17) d_Md_isDigit_13 (by decide) ?_
      exact b_iret (ty := .boolean) d_Md_isDigit_17 rfl rfl ⟨_, _, rfl, rfl, H⟩
theorem C_Md_isDigit {S : XS} {Q : Int32 → St → Prop} (σ : St) (x0 : Int32) (H : BW S m_Md_isDigit 0 [some (.int x0)] [] (enc σ) (qI Q)) : CM S m_Md_isDigit [.int x0] (enc σ) (qI Q) := b_meth (by decide) (Nat.le_of_ble_eq_true rfl) rfl H
theorem d_Md_here_0 : decode m_Md_here.2.1 0 = .ok (.aload_n 0, 1) := by decide +kernel
theorem d_Md_here_1 : decode m_Md_here.2.1 1 = .ok (.getfield 81, 3) := by decide +kernel
theorem d_Md_here_4 : decode m_Md_here.2.1 4 = .ok (.aload_n 0, 1) := by decide +kernel
theorem d_Md_here_5 : decode m_Md_here.2.1 5 = .ok (.getfield 84, 3) := by decide +kernel
theorem d_Md_here_8 : decode m_Md_here.2.1 8 = .ok (.if_icmp .ge 44, 3) := by decide +kernel
theorem d_Md_here_11 : decode m_Md_here.2.1 11 = .ok (.aload_n 0, 1) := by decide +kernel
theorem d_Md_here_12 : decode m_Md_here.2.1 12 = .ok (.getfield 1, 3) := by decide +kernel
theorem d_Md_here_15 : decode m_Md_here.2.1 15 = .ok (.aload_n 0, 1) := by decide +kernel
theorem d_Md_here_16 : decode m_Md_here.2.1 16 = .ok (.getfield 81, 3) := by decide +kernel
theorem d_Md_here_19 : decode m_Md_here.2.1 19 = .ok (.iaload, 1) := by decide +kernel
theorem d_Md_here_20 : decode m_Md_here.2.1 20 = .ok (.bipush 32, 2) := by decide +kernel
theorem d_Md_here_22 : decode m_Md_here.2.1 22 = .ok (.if_icmp .eq 17, 3) := by decide +kernel
theorem d_Md_here_25 : decode m_Md_here.2.1 25 = .ok (.aload_n 0, 1) := by decide +kernel
theorem d_Md_here_26 : decode m_Md_here.2.1 26 = .ok (.getfield 1, 3) := by decide +kernel
theorem d_Md_here_29 : decode m_Md_here.2.1 29 = .ok (.aload_n 0, 1) := by decide +kernel
theorem d_Md_here_30 : decode m_Md_here.2.1 30 = .ok (.getfield 81, 3) := by decide +kernel
theorem d_Md_here_33 : decode m_Md_here.2.1 33 = .ok (.iaload, 1) := by decide +kernel
theorem d_Md_here_34 : decode m_Md_here.2.1 34 = .ok (.bipush 10, 2) := by decide +kernel
theorem d_Md_here_36 : decode m_Md_here.2.1 36 = .ok (.if_icmp .ne 16, 3) := by decide +kernel
theorem d_Md_here_39 : decode m_Md_here.2.1 39 = .ok (.aload_n 0, 1) := by decide +kernel
theorem d_Md_here_40 : decode m_Md_here.2.1 40 = .ok (.dup, 1) := by decide +kernel
theorem d_Md_here_41 : decode m_Md_here.2.1 41 = .ok (.getfield 81, 3) := by decide +kernel
theorem d_Md_here_44 : decode m_Md_here.2.1 44 = .ok (.iconst 1, 1) := by decide +kernel
theorem d_Md_here_45 : decode m_Md_here.2.1 45 = .ok (.iadd, 1) := by decide +kernel
theorem d_Md_here_46 : decode m_Md_here.2.1 46 = .ok (.putfield 81, 3) := by decide +kernel
theorem d_Md_here_49 : decode m_Md_here.2.1 49 = .ok (.goto (-49), 3) := by decide +kernel
theorem d_Md_here_52 : decode m_Md_here.2.1 52 = .ok (.aload_n 0, 1) := by decide +kernel
theorem d_Md_here_53 : decode m_Md_here.2.1 53 = .ok (.getfield 81, 3) := by decide +kernel
theorem d_Md_here_56 : decode m_Md_here.2.1 56 = .ok (.aload_n 0, 1) := by decide +kernel
theorem d_Md_here_57 : decode m_Md_here.2.1 57 = .ok (.getfield 84, 3) := by decide +kernel
theorem d_Md_here_60 : decode m_Md_here.2.1 60 = .ok (.if_icmp .ge 15, 3) := by decide +kernel
theorem d_Md_here_63 : decode m_Md_here.2.1 63 = .ok (.aload_n 0, 1) := by decide +kernel
theorem d_Md_here_64 : decode m_Md_here.2.1 64 = .ok (.getfield 1, 3) := by decide +kernel
theorem d_Md_here_67 : decode m_Md_here.2.1 67 = .ok (.aload_n 0, 1) := by decide +kernel
theorem d_Md_here_68 : decode m_Md_here.2.1 68 = .ok (.getfield 81, 3) := by decide +kernel
theorem d_Md_here_71 : decode m_Md_here.2.1 71 = .ok (.iaload, 1) := by decide +kernel
theorem d_Md_here_72 : decode m_Md_here.2.1 72 = .ok (.goto 4, 3) := by decide +kernel
theorem d_Md_here_75 : decode m_Md_here.2.1 75 = .ok (.iconst (-1), 1) := by decide +kernel
theorem d_Md_here_76 : decode m_Md_here.2.1 76 = .ok (.ireturn, 1) := by decide +kernel
set_option maxHeartbeats 4000000 in
set_option maxRecDepth 100000 in
theorem B_Md_here_0 {S : XS} {Q : Int32 → St → Prop} (σ : St)  (H : (((gY σ 10) ≤ (gY σ 9) → (((gY σ 10) ≤ (gY σ 9) → Q (-1 : Int32) σ) ∧ (¬ (gY σ 10) ≤ (gY σ 9) → (vp_in (gY σ 9) 200) ∧ Q ((gC σ 0) (gY σ 9).toNatClampNeg) σ))) ∧ (¬ (gY σ 10) ≤ (gY σ 9) → (vp_in (gY σ 9) 200) ∧ ((((gC σ 0) (gY σ 9).toNatClampNeg) = (32 : Int32) → BW S m_Md_here 0 [some (.ref 153)] [] (enc (sY σ 9 ((gY σ 9) + (1 : Int32)))) (qI Q)) ∧ (¬ ((gC σ 0) (gY σ 9).toNatClampNeg) = (32 : Int32) → ((¬ ((gC σ 0) (gY σ 9).toNatClampNeg) = (10 : Int32) → (((gY σ 10) ≤ (gY σ 9) → Q (-1 : Int32) σ) ∧ (¬ (gY σ 10) ≤ (gY σ 9) → Q ((gC σ 0) (gY σ 9).toNatClampNeg) σ))) ∧ (((gC σ 0) (gY σ 9).toNatClampNeg) = (10 : Int32) → BW S m_Md_here 0 [some (.ref 153)] [] (enc (sY σ 9 ((gY σ 9) + (1 : Int32)))) (qI Q)))))))) : BW S m_Md_here 0 [some (.ref 153)] [] (enc σ) (qI Q) := by
  refine b_aload_n d_Md_here_0 rfl rfl ?_
  refine b_getf (v := .int (gY σ 9)) d_Md_here_1 fl_Md_81 (eg_153 σ) rfl ?_
  refine b_aload_n d_Md_here_4 rfl rfl ?_
  refine b_getf (v := .int (gY σ 10)) d_Md_here_5 fl_Md_84 (eg_153 σ) rfl ?_
  refine b_icmp_ge (tgt := 52) d_Md_here_8 (by decide) (fun c7 => ?_) (fun c7 => ?_)
  · have H := H.1 c7
    refine b_aload_n d_Md_here_52 rfl rfl ?_
    refine b_getf (v := .int (gY σ 9)) d_Md_here_53 fl_Md_81 (eg_153 σ) rfl ?_
    refine b_aload_n d_Md_here_56 rfl rfl ?_
    refine b_getf (v := .int (gY σ 10)) d_Md_here_57 fl_Md_84 (eg_153 σ) rfl ?_
    refine b_icmp_ge (tgt := 75) d_Md_here_60 (by decide) (fun c2 => ?_) (fun c2 => ?_)
    · have H := H.1 c2
      refine b_iconst (v := (-1 : Int32)) d_Md_here_75 (by decide) ?_
      exact b_iret (ty := .int) d_Md_here_76 rfl rfl ⟨_, _, rfl, rfl, H⟩
    · have H := H.2 c2
      refine b_aload_n d_Md_here_63 rfl rfl ?_
      refine b_getf (v := .ref 154) d_Md_here_64 fl_Md_1 (eg_153 σ) rfl ?_
      refine b_aload_n d_Md_here_67 rfl rfl ?_
      refine b_getf (v := .int (gY σ 9)) d_Md_here_68 fl_Md_81 (eg_153 σ) rfl ?_
      obtain ⟨h1, H⟩ := H
      refine b_iald d_Md_here_71 (eg_154 σ) h1 ?_
      refine b_st2 (st' := [.int ((gC σ 0) (gY σ 9).toNatClampNeg)]) rfl ?_
      refine b_goto (tgt := 76) d_Md_here_72 (by decide) ?_
      exact b_iret (ty := .int) d_Md_here_76 rfl rfl ⟨_, _, rfl, rfl, H⟩
  · have H := H.2 c7
    refine b_aload_n d_Md_here_11 rfl rfl ?_
    refine b_getf (v := .ref 154) d_Md_here_12 fl_Md_1 (eg_153 σ) rfl ?_
    refine b_aload_n d_Md_here_15 rfl rfl ?_
    refine b_getf (v := .int (gY σ 9)) d_Md_here_16 fl_Md_81 (eg_153 σ) rfl ?_
    obtain ⟨h3, H⟩ := H
    refine b_iald d_Md_here_19 (eg_154 σ) h3 ?_
    refine b_st2 (st' := [.int ((gC σ 0) (gY σ 9).toNatClampNeg)]) rfl ?_
    refine b_bipush (v := (32 : Int32)) d_Md_here_20 (by decide) ?_
    refine b_icmp_eq (tgt := 39) d_Md_here_22 (by decide) (fun c6 => ?_) (fun c6 => ?_)
    · have H := H.1 c6
      refine b_aload_n d_Md_here_39 rfl rfl ?_
      refine b_dup d_Md_here_40 rfl ?_
      refine b_getf (v := .int (gY σ 9)) d_Md_here_41 fl_Md_81 (eg_153 σ) rfl ?_
      refine b_iconst (v := (1 : Int32)) d_Md_here_44 (by decide) ?_
      refine b_iadd d_Md_here_45  ?_
      refine b_putf (ty := .int) (h1 := enc (sY σ 9 ((gY σ 9) + (1 : Int32)))) d_Md_here_46 fl_Md_81 ft_12_23 (fun _ => ⟨rfl, rfl⟩) (eg_153 σ) (Nat.le_of_ble_eq_true rfl) (es_153_23 σ ((gY σ 9) + (1 : Int32))) ?_
      refine b_goto (tgt := 0) d_Md_here_49 (by decide) ?_
      exact b_mask [true] rfl H
    · have H := H.2 c6
      refine b_aload_n d_Md_here_25 rfl rfl ?_
      refine b_getf (v := .ref 154) d_Md_here_26 fl_Md_1 (eg_153 σ) rfl ?_
      refine b_aload_n d_Md_here_29 rfl rfl ?_
      refine b_getf (v := .int (gY σ 9)) d_Md_here_30 fl_Md_81 (eg_153 σ) rfl ?_
      refine b_iald d_Md_here_33 (eg_154 σ) h3 ?_
      refine b_st2 (st' := [.int ((gC σ 0) (gY σ 9).toNatClampNeg)]) rfl ?_
      refine b_bipush (v := (10 : Int32)) d_Md_here_34 (by decide) ?_
      refine b_icmp_ne (tgt := 52) d_Md_here_36 (by decide) (fun c5 => ?_) (fun c5 => ?_)
      · have H := H.1 c5
        refine b_aload_n d_Md_here_52 rfl rfl ?_
        refine b_getf (v := .int (gY σ 9)) d_Md_here_53 fl_Md_81 (eg_153 σ) rfl ?_
        refine b_aload_n d_Md_here_56 rfl rfl ?_
        refine b_getf (v := .int (gY σ 10)) d_Md_here_57 fl_Md_84 (eg_153 σ) rfl ?_
        refine b_icmp_ge (tgt := 75) d_Md_here_60 (by decide) (fun c4 => ?_) (fun c4 => ?_)
        · have H := H.1 c4
          refine b_iconst (v := (-1 : Int32)) d_Md_here_75 (by decide) ?_
          exact b_iret (ty := .int) d_Md_here_76 rfl rfl ⟨_, _, rfl, rfl, H⟩
        · have H := H.2 c4
          refine b_aload_n d_Md_here_63 rfl rfl ?_
          refine b_getf (v := .ref 154) d_Md_here_64 fl_Md_1 (eg_153 σ) rfl ?_
          refine b_aload_n d_Md_here_67 rfl rfl ?_
          refine b_getf (v := .int (gY σ 9)) d_Md_here_68 fl_Md_81 (eg_153 σ) rfl ?_
          refine b_iald d_Md_here_71 (eg_154 σ) h3 ?_
          refine b_st2 (st' := [.int ((gC σ 0) (gY σ 9).toNatClampNeg)]) rfl ?_
          refine b_goto (tgt := 76) d_Md_here_72 (by decide) ?_
          exact b_iret (ty := .int) d_Md_here_76 rfl rfl ⟨_, _, rfl, rfl, H⟩
      · have H := H.2 c5
        refine b_aload_n d_Md_here_39 rfl rfl ?_
        refine b_dup d_Md_here_40 rfl ?_
        refine b_getf (v := .int (gY σ 9)) d_Md_here_41 fl_Md_81 (eg_153 σ) rfl ?_
        refine b_iconst (v := (1 : Int32)) d_Md_here_44 (by decide) ?_
        refine b_iadd d_Md_here_45  ?_
        refine b_putf (ty := .int) (h1 := enc (sY σ 9 ((gY σ 9) + (1 : Int32)))) d_Md_here_46 fl_Md_81 ft_12_23 (fun _ => ⟨rfl, rfl⟩) (eg_153 σ) (Nat.le_of_ble_eq_true rfl) (es_153_23 σ ((gY σ 9) + (1 : Int32))) ?_
        refine b_goto (tgt := 0) d_Md_here_49 (by decide) ?_
        exact b_mask [true] rfl H
theorem C_Md_here {S : XS} {Q : Int32 → St → Prop} (σ : St)  (H : BW S m_Md_here 0 [some (.ref 153)] [] (enc σ) (qI Q)) : CM S m_Md_here [.ref 153] (enc σ) (qI Q) := b_meth (by decide) (Nat.le_of_ble_eq_true rfl) rfl H
theorem d_Md_must_0 : decode m_Md_must.2.1 0 = .ok (.aload_n 0, 1) := by decide +kernel
theorem d_Md_must_1 : decode m_Md_must.2.1 1 = .ok (.invokevirtual 205, 3) := by decide +kernel
theorem d_Md_must_4 : decode m_Md_must.2.1 4 = .ok (.iload_n 1, 1) := by decide +kernel
theorem d_Md_must_5 : decode m_Md_must.2.1 5 = .ok (.if_icmp .eq 12, 3) := by decide +kernel
theorem d_Md_must_8 : decode m_Md_must.2.1 8 = .ok (.aload_n 0, 1) := by decide +kernel
theorem d_Md_must_9 : decode m_Md_must.2.1 9 = .ok (.iconst 1, 1) := by decide +kernel
theorem d_Md_must_10 : decode m_Md_must.2.1 10 = .ok (.aload_n 0, 1) := by decide +kernel
theorem d_Md_must_11 : decode m_Md_must.2.1 11 = .ok (.getfield 81, 3) := by decide +kernel
theorem d_Md_must_14 : decode m_Md_must.2.1 14 = .ok (.invokevirtual 209, 3) := by decide +kernel
theorem d_Md_must_17 : decode m_Md_must.2.1 17 = .ok (.aload_n 0, 1) := by decide +kernel
theorem d_Md_must_18 : decode m_Md_must.2.1 18 = .ok (.dup, 1) := by decide +kernel
theorem d_Md_must_19 : decode m_Md_must.2.1 19 = .ok (.getfield 81, 3) := by decide +kernel
theorem d_Md_must_22 : decode m_Md_must.2.1 22 = .ok (.iconst 1, 1) := by decide +kernel
theorem d_Md_must_23 : decode m_Md_must.2.1 23 = .ok (.iadd, 1) := by decide +kernel
theorem d_Md_must_24 : decode m_Md_must.2.1 24 = .ok (.putfield 81, 3) := by decide +kernel
theorem d_Md_must_27 : decode m_Md_must.2.1 27 = .ok (.return_, 1) := by decide +kernel
set_option maxHeartbeats 4000000 in
set_option maxRecDepth 100000 in
theorem B_Md_must_0 {S : XS} {Q : St → Prop} (σ : St) (x1 : Int32) (H : CM S m_Md_here [.ref 153] (enc σ) (qI (fun v1 τ2 => ((v1 = x1 → Q (sY τ2 9 ((gY τ2 9) + (1 : Int32)))) ∧ (¬ v1 = x1 → CM S m_Md_blame [.ref 153, .int (1 : Int32), .int (gY τ2 9)] (enc τ2) (qV (fun τ4 => Q (sY τ4 9 ((gY τ4 9) + (1 : Int32)))))))))) : BW S m_Md_must 0 [some (.ref 153), some (.int x1)] [] (enc σ) (qV Q) := by
  refine b_aload_n d_Md_must_0 rfl rfl ?_
  refine b_callVi (Mc := m_Md_here) (As := []) (st := []) d_Md_must_1 ⟨⟨kA_Md_here.1, kA_Md_here.2.1, kA_Md_here.2.2, by decide⟩, ml_Md_205, kV_Md_here⟩ (eg_153 σ) rfl rfl (Nat.le_of_ble_eq_true rfl) H (fun v1 τ2 H => ?_)
  refine b_iload_n d_Md_must_4 rfl rfl ?_
  refine b_icmp_eq (tgt := 17) d_Md_must_5 (by decide) (fun c5 => ?_) (fun c5 => ?_)
  · have H := H.1 c5
    refine b_aload_n d_Md_must_17 rfl rfl ?_
    refine b_dup d_Md_must_18 rfl ?_
    refine b_getf (v := .int (gY τ2 9)) d_Md_must_19 fl_Md_81 (eg_153 τ2) rfl ?_
    refine b_iconst (v := (1 : Int32)) d_Md_must_22 (by decide) ?_
    refine b_iadd d_Md_must_23  ?_
    refine b_putf (ty := .int) (h1 := enc (sY τ2 9 ((gY τ2 9) + (1 : Int32)))) d_Md_must_24 fl_Md_81 ft_12_23 (fun _ => ⟨rfl, rfl⟩) (eg_153 τ2) (Nat.le_of_ble_eq_true rfl) (es_153_23 τ2 ((gY τ2 9) + (1 : Int32))) ?_
    exact b_vret d_Md_must_27 rfl ⟨_, rfl, rfl, H⟩
  · have H := H.2 c5
    refine b_aload_n d_Md_must_8 rfl rfl ?_
    refine b_iconst (v := (1 : Int32)) d_Md_must_9 (by decide) ?_
    refine b_aload_n d_Md_must_10 rfl rfl ?_
    refine b_getf (v := .int (gY τ2 9)) d_Md_must_11 fl_Md_81 (eg_153 τ2) rfl ?_
    refine b_callVv (Mc := m_Md_blame) (As := [.int (1 : Int32), .int (gY τ2 9)]) (st := []) d_Md_must_14 ⟨⟨kA_Md_blame.1, kA_Md_blame.2.1, kA_Md_blame.2.2, by decide⟩, ml_Md_209, kV_Md_blame⟩ (eg_153 τ2) rfl rfl (Nat.le_of_ble_eq_true rfl) H (fun τ4 H => ?_)
    refine b_aload_n d_Md_must_17 rfl rfl ?_
    refine b_dup d_Md_must_18 rfl ?_
    refine b_getf (v := .int (gY τ4 9)) d_Md_must_19 fl_Md_81 (eg_153 τ4) rfl ?_
    refine b_iconst (v := (1 : Int32)) d_Md_must_22 (by decide) ?_
    refine b_iadd d_Md_must_23  ?_
    refine b_putf (ty := .int) (h1 := enc (sY τ4 9 ((gY τ4 9) + (1 : Int32)))) d_Md_must_24 fl_Md_81 ft_12_23 (fun _ => ⟨rfl, rfl⟩) (eg_153 τ4) (Nat.le_of_ble_eq_true rfl) (es_153_23 τ4 ((gY τ4 9) + (1 : Int32))) ?_
    exact b_vret d_Md_must_27 rfl ⟨_, rfl, rfl, H⟩
theorem C_Md_must {S : XS} {Q : St → Prop} (σ : St) (x1 : Int32) (H : BW S m_Md_must 0 [some (.ref 153), some (.int x1)] [] (enc σ) (qV Q)) : CM S m_Md_must [.ref 153, .int x1] (enc σ) (qV Q) := b_meth (by decide) (Nat.le_of_ble_eq_true rfl) rfl H
theorem d_Md_wordEnd_0 : decode m_Md_wordEnd.2.1 0 = .ok (.aload_n 0, 1) := by decide +kernel
theorem d_Md_wordEnd_1 : decode m_Md_wordEnd.2.1 1 = .ok (.getfield 81, 3) := by decide +kernel
theorem d_Md_wordEnd_4 : decode m_Md_wordEnd.2.1 4 = .ok (.istore_n 1, 1) := by decide +kernel
theorem d_Md_wordEnd_5 : decode m_Md_wordEnd.2.1 5 = .ok (.iload_n 1, 1) := by decide +kernel
theorem d_Md_wordEnd_6 : decode m_Md_wordEnd.2.1 6 = .ok (.aload_n 0, 1) := by decide +kernel
theorem d_Md_wordEnd_7 : decode m_Md_wordEnd.2.1 7 = .ok (.getfield 84, 3) := by decide +kernel
theorem d_Md_wordEnd_10 : decode m_Md_wordEnd.2.1 10 = .ok (.if_icmp .ge 21, 3) := by decide +kernel
theorem d_Md_wordEnd_13 : decode m_Md_wordEnd.2.1 13 = .ok (.aload_n 0, 1) := by decide +kernel
theorem d_Md_wordEnd_14 : decode m_Md_wordEnd.2.1 14 = .ok (.getfield 1, 3) := by decide +kernel
theorem d_Md_wordEnd_17 : decode m_Md_wordEnd.2.1 17 = .ok (.iload_n 1, 1) := by decide +kernel
theorem d_Md_wordEnd_18 : decode m_Md_wordEnd.2.1 18 = .ok (.iaload, 1) := by decide +kernel
theorem d_Md_wordEnd_19 : decode m_Md_wordEnd.2.1 19 = .ok (.invokestatic 212, 3) := by decide +kernel
theorem d_Md_wordEnd_22 : decode m_Md_wordEnd.2.1 22 = .ok (.ifCond .eq 9, 3) := by decide +kernel
theorem d_Md_wordEnd_25 : decode m_Md_wordEnd.2.1 25 = .ok (.iinc 1 1, 3) := by decide +kernel
theorem d_Md_wordEnd_28 : decode m_Md_wordEnd.2.1 28 = .ok (.goto (-23), 3) := by decide +kernel
theorem d_Md_wordEnd_31 : decode m_Md_wordEnd.2.1 31 = .ok (.iload_n 1, 1) := by decide +kernel
theorem d_Md_wordEnd_32 : decode m_Md_wordEnd.2.1 32 = .ok (.ireturn, 1) := by decide +kernel
set_option maxHeartbeats 4000000 in
set_option maxRecDepth 100000 in
theorem B_Md_wordEnd_0 {S : XS} {Q : Int32 → St → Prop} (σ : St)  (H : BW S m_Md_wordEnd 5 [some (.ref 153), some (.int (gY σ 9))] [] (enc σ) (qI Q)) : BW S m_Md_wordEnd 0 [some (.ref 153), none] [] (enc σ) (qI Q) := by
  refine b_aload_n d_Md_wordEnd_0 rfl rfl ?_
  refine b_getf (v := .int (gY σ 9)) d_Md_wordEnd_1 fl_Md_81 (eg_153 σ) rfl ?_
  refine b_istore_n (ls' := [some (.ref 153), some (.int (gY σ 9))]) d_Md_wordEnd_4 rfl (Nat.le_of_ble_eq_true rfl) rfl ?_
  exact b_mask [true, true] rfl H
set_option maxHeartbeats 4000000 in
set_option maxRecDepth 100000 in
theorem B_Md_wordEnd_5 {S : XS} {Q : Int32 → St → Prop} (σ : St) (x1 : Int32) (H : (((gY σ 10) ≤ x1 → Q x1 σ) ∧ (¬ (gY σ 10) ≤ x1 → (vp_in x1 200) ∧ CM S m_Md_isLetter [.int ((gC σ 0) x1.toNatClampNeg)] (enc σ) (qI (fun v2 τ3 => ((v2 = 0 → Q x1 τ3) ∧ (¬ v2 = 0 → BW S m_Md_wordEnd 5 [some (.ref 153), some (.int (x1 + (1 : Int32)))] [] (enc τ3) (qI Q)))))))) : BW S m_Md_wordEnd 5 [some (.ref 153), some (.int x1)] [] (enc σ) (qI Q) := by
  refine b_iload_n d_Md_wordEnd_5 rfl rfl ?_
  refine b_aload_n d_Md_wordEnd_6 rfl rfl ?_
  refine b_getf (v := .int (gY σ 10)) d_Md_wordEnd_7 fl_Md_84 (eg_153 σ) rfl ?_
  refine b_icmp_ge (tgt := 31) d_Md_wordEnd_10 (by decide) (fun c5 => ?_) (fun c5 => ?_)
  · have H := H.1 c5
    refine b_iload_n d_Md_wordEnd_31 rfl rfl ?_
    exact b_iret (ty := .int) d_Md_wordEnd_32 rfl rfl ⟨_, _, rfl, rfl, H⟩
  · have H := H.2 c5
    refine b_aload_n d_Md_wordEnd_13 rfl rfl ?_
    refine b_getf (v := .ref 154) d_Md_wordEnd_14 fl_Md_1 (eg_153 σ) rfl ?_
    refine b_iload_n d_Md_wordEnd_17 rfl rfl ?_
    obtain ⟨h1, H⟩ := H
    refine b_iald d_Md_wordEnd_18 (eg_154 σ) h1 ?_
    refine b_st2 (st' := [.int ((gC σ 0) x1.toNatClampNeg)]) rfl ?_
    refine b_callSi (Mc := m_Md_isLetter) (As := [.int ((gC σ 0) x1.toNatClampNeg)]) (st := []) d_Md_wordEnd_19 ⟨⟨kA_Md_isLetter.1, kA_Md_isLetter.2.1, kA_Md_isLetter.2.2, by decide⟩, ml_Md_212, kS_Md_isLetter⟩ rfl rfl (Nat.le_of_ble_eq_true rfl) H (fun v2 τ3 H => ?_)
    refine b_if_eq (tgt := 31) d_Md_wordEnd_22 (by decide) (fun c4 => ?_) (fun c4 => ?_)
    · have H := H.1 c4
      refine b_iload_n d_Md_wordEnd_31 rfl rfl ?_
      exact b_iret (ty := .int) d_Md_wordEnd_32 rfl rfl ⟨_, _, rfl, rfl, H⟩
    · have H := H.2 c4
      refine b_iinc (v := (x1 + (1 : Int32))) (ls' := [some (.ref 153), some (.int (x1 + (1 : Int32)))]) d_Md_wordEnd_25 rfl rfl (Nat.le_of_ble_eq_true rfl) rfl ?_
      refine b_goto (tgt := 5) d_Md_wordEnd_28 (by decide) ?_
      exact b_mask [true, true] rfl H
theorem C_Md_wordEnd {S : XS} {Q : Int32 → St → Prop} (σ : St)  (H : BW S m_Md_wordEnd 0 [some (.ref 153), none] [] (enc σ) (qI Q)) : CM S m_Md_wordEnd [.ref 153] (enc σ) (qI Q) := b_meth (by decide) (Nat.le_of_ble_eq_true rfl) rfl H
theorem d_Md_spells_0 : decode m_Md_spells.2.1 0 = .ok (.iload_n 1, 1) := by decide +kernel
theorem d_Md_spells_1 : decode m_Md_spells.2.1 1 = .ok (.aload_n 0, 1) := by decide +kernel
theorem d_Md_spells_2 : decode m_Md_spells.2.1 2 = .ok (.getfield 81, 3) := by decide +kernel
theorem d_Md_spells_5 : decode m_Md_spells.2.1 5 = .ok (.isub, 1) := by decide +kernel
theorem d_Md_spells_6 : decode m_Md_spells.2.1 6 = .ok (.iload 4, 2) := by decide +kernel
theorem d_Md_spells_8 : decode m_Md_spells.2.1 8 = .ok (.if_icmp .eq 5, 3) := by decide +kernel
theorem d_Md_spells_11 : decode m_Md_spells.2.1 11 = .ok (.iconst 0, 1) := by decide +kernel
theorem d_Md_spells_12 : decode m_Md_spells.2.1 12 = .ok (.ireturn, 1) := by decide +kernel
theorem d_Md_spells_13 : decode m_Md_spells.2.1 13 = .ok (.iconst 1, 1) := by decide +kernel
theorem d_Md_spells_14 : decode m_Md_spells.2.1 14 = .ok (.istore 5, 2) := by decide +kernel
theorem d_Md_spells_16 : decode m_Md_spells.2.1 16 = .ok (.iconst 0, 1) := by decide +kernel
theorem d_Md_spells_17 : decode m_Md_spells.2.1 17 = .ok (.istore 6, 2) := by decide +kernel
theorem d_Md_spells_19 : decode m_Md_spells.2.1 19 = .ok (.iload 6, 2) := by decide +kernel
theorem d_Md_spells_21 : decode m_Md_spells.2.1 21 = .ok (.iload 4, 2) := by decide +kernel
theorem d_Md_spells_23 : decode m_Md_spells.2.1 23 = .ok (.if_icmp .ge 53, 3) := by decide +kernel
theorem d_Md_spells_26 : decode m_Md_spells.2.1 26 = .ok (.iload 5, 2) := by decide +kernel
theorem d_Md_spells_28 : decode m_Md_spells.2.1 28 = .ok (.ifCond .eq 39, 3) := by decide +kernel
theorem d_Md_spells_31 : decode m_Md_spells.2.1 31 = .ok (.aload_n 0, 1) := by decide +kernel
theorem d_Md_spells_32 : decode m_Md_spells.2.1 32 = .ok (.getfield 1, 3) := by decide +kernel
theorem d_Md_spells_35 : decode m_Md_spells.2.1 35 = .ok (.aload_n 0, 1) := by decide +kernel
theorem d_Md_spells_36 : decode m_Md_spells.2.1 36 = .ok (.getfield 81, 3) := by decide +kernel
theorem d_Md_spells_39 : decode m_Md_spells.2.1 39 = .ok (.iload 6, 2) := by decide +kernel
theorem d_Md_spells_41 : decode m_Md_spells.2.1 41 = .ok (.iadd, 1) := by decide +kernel
theorem d_Md_spells_42 : decode m_Md_spells.2.1 42 = .ok (.iaload, 1) := by decide +kernel
theorem d_Md_spells_43 : decode m_Md_spells.2.1 43 = .ok (.lload_n 2, 1) := by decide +kernel
theorem d_Md_spells_44 : decode m_Md_spells.2.1 44 = .ok (.bipush 8, 2) := by decide +kernel
theorem d_Md_spells_46 : decode m_Md_spells.2.1 46 = .ok (.iload 4, 2) := by decide +kernel
theorem d_Md_spells_48 : decode m_Md_spells.2.1 48 = .ok (.iconst 1, 1) := by decide +kernel
theorem d_Md_spells_49 : decode m_Md_spells.2.1 49 = .ok (.isub, 1) := by decide +kernel
theorem d_Md_spells_50 : decode m_Md_spells.2.1 50 = .ok (.iload 6, 2) := by decide +kernel
theorem d_Md_spells_52 : decode m_Md_spells.2.1 52 = .ok (.isub, 1) := by decide +kernel
theorem d_Md_spells_53 : decode m_Md_spells.2.1 53 = .ok (.imul, 1) := by decide +kernel
theorem d_Md_spells_54 : decode m_Md_spells.2.1 54 = .ok (.lshr, 1) := by decide +kernel
theorem d_Md_spells_55 : decode m_Md_spells.2.1 55 = .ok (.ldc2_w 216, 3) := by decide +kernel
theorem d_Md_spells_58 : decode m_Md_spells.2.1 58 = .ok (.land, 1) := by decide +kernel
theorem d_Md_spells_59 : decode m_Md_spells.2.1 59 = .ok (.l2i, 1) := by decide +kernel
theorem d_Md_spells_60 : decode m_Md_spells.2.1 60 = .ok (.if_icmp .ne 7, 3) := by decide +kernel
theorem d_Md_spells_63 : decode m_Md_spells.2.1 63 = .ok (.iconst 1, 1) := by decide +kernel
theorem d_Md_spells_64 : decode m_Md_spells.2.1 64 = .ok (.goto 4, 3) := by decide +kernel
theorem d_Md_spells_67 : decode m_Md_spells.2.1 67 = .ok (.iconst 0, 1) := by decide +kernel
theorem d_Md_spells_68 : decode m_Md_spells.2.1 68 = .ok (.istore 5, 2) := by decide +kernel
theorem d_Md_spells_70 : decode m_Md_spells.2.1 70 = .ok (.iinc 6 1, 3) := by decide +kernel
theorem d_Md_spells_73 : decode m_Md_spells.2.1 73 = .ok (.goto (-54), 3) := by decide +kernel
theorem d_Md_spells_76 : decode m_Md_spells.2.1 76 = .ok (.iload 5, 2) := by decide +kernel
theorem d_Md_spells_78 : decode m_Md_spells.2.1 78 = .ok (.ireturn, 1) := by decide +kernel
set_option maxHeartbeats 4000000 in
set_option maxRecDepth 100000 in
theorem B_Md_spells_0 {S : XS} {Q : Int32 → St → Prop} (σ : St) (x1 : Int32) (x2 : Int64) (x4 : Int32) (H : (((x1 - (gY σ 9)) = x4 → BW S m_Md_spells 19 [some (.ref 153), none, some (.long x2), none, some (.int x4), some (.int (1 : Int32)), some (.int (0 : Int32))] [] (enc σ) (qI Q)) ∧ (¬ (x1 - (gY σ 9)) = x4 → Q (0 : Int32) σ))) : BW S m_Md_spells 0 [some (.ref 153), some (.int x1), some (.long x2), none, some (.int x4), none, none] [] (enc σ) (qI Q) := by
  refine b_iload_n d_Md_spells_0 rfl rfl ?_
  refine b_aload_n d_Md_spells_1 rfl rfl ?_
  refine b_getf (v := .int (gY σ 9)) d_Md_spells_2 fl_Md_81 (eg_153 σ) rfl ?_
  refine b_isub d_Md_spells_5  ?_
  refine b_iload d_Md_spells_6 rfl ?_
  refine b_icmp_eq (tgt := 13) d_Md_spells_8 (by decide) (fun c1 => ?_) (fun c1 => ?_)
  · have H := H.1 c1
    refine b_iconst (v := (1 : Int32)) d_Md_spells_13 (by decide) ?_
    refine b_istore (ls' := [some (.ref 153), some (.int x1), some (.long x2), none, some (.int x4), some (.int (1 : Int32)), none]) d_Md_spells_14 (Nat.le_of_ble_eq_true rfl) rfl ?_
    refine b_iconst (v := (0 : Int32)) d_Md_spells_16 (by decide) ?_
    refine b_istore (ls' := [some (.ref 153), some (.int x1), some (.long x2), none, some (.int x4), some (.int (1 : Int32)), some (.int (0 : Int32))]) d_Md_spells_17 (Nat.le_of_ble_eq_true rfl) rfl ?_
    exact b_mask [true, false, true, true, true, true, true] rfl H
  · have H := H.2 c1
    refine b_iconst (v := (0 : Int32)) d_Md_spells_11 (by decide) ?_
    exact b_iret (ty := .boolean) d_Md_spells_12 rfl rfl ⟨_, _, rfl, rfl, H⟩
set_option maxHeartbeats 4000000 in
set_option maxRecDepth 100000 in
theorem B_Md_spells_19 {S : XS} {Q : Int32 → St → Prop} (σ : St) (x2 : Int64) (x4 : Int32) (x5 : Int32) (x6 : Int32) (H : ((x4 ≤ x6 → (narrow .boolean (.int x5) = .int x5) ∧ Q x5 σ) ∧ (¬ x4 ≤ x6 → ((x5 = 0 → BW S m_Md_spells 19 [some (.ref 153), none, some (.long x2), none, some (.int x4), some (.int (0 : Int32)), some (.int (x6 + (1 : Int32)))] [] (enc σ) (qI Q)) ∧ (¬ x5 = 0 → (vp_in ((gY σ 9) + x6) 200) ∧ ((¬ ((gC σ 0) ((gY σ 9) + x6).toNatClampNeg) = (((x2 >>> ((((8 : Int32) * ((x4 - (1 : Int32)) - x6))).toInt64 &&& 63)) &&& (255 : Int64))).toInt32 → BW S m_Md_spells 19 [some (.ref 153), none, some (.long x2), none, some (.int x4), some (.int (0 : Int32)), some (.int (x6 + (1 : Int32)))] [] (enc σ) (qI Q)) ∧ (((gC σ 0) ((gY σ 9) + x6).toNatClampNeg) = (((x2 >>> ((((8 : Int32) * ((x4 - (1 : Int32)) - x6))).toInt64 &&& 63)) &&& (255 : Int64))).toInt32 → BW S m_Md_spells 19 [some (.ref 153), none, some (.long x2), none, some (.int x4), some (.int (1 : Int32)), some (.int (x6 + (1 : Int32)))] [] (enc σ) (qI Q)))))))) : BW S m_Md_spells 19 [some (.ref 153), none, some (.long x2), none, some (.int x4), some (.int x5), some (.int x6)] [] (enc σ) (qI Q) := by
  refine b_iload d_Md_spells_19 rfl ?_
  refine b_iload d_Md_spells_21 rfl ?_
  refine b_icmp_ge (tgt := 76) d_Md_spells_23 (by decide) (fun c6 => ?_) (fun c6 => ?_)
  · have H := H.1 c6
    refine b_iload d_Md_spells_76 rfl ?_
    obtain ⟨h2, H⟩ := H
    exact b_iret (ty := .boolean) d_Md_spells_78 rfl h2 ⟨_, _, rfl, rfl, H⟩
  · have H := H.2 c6
    refine b_iload d_Md_spells_26 rfl ?_
    refine b_if_eq (tgt := 67) d_Md_spells_28 (by decide) (fun c5 => ?_) (fun c5 => ?_)
    · have H := H.1 c5
      refine b_iconst (v := (0 : Int32)) d_Md_spells_67 (by decide) ?_
      refine b_istore (ls' := [some (.ref 153), none, some (.long x2), none, some (.int x4), some (.int (0 : Int32)), some (.int x6)]) d_Md_spells_68 (Nat.le_of_ble_eq_true rfl) rfl ?_
      refine b_iinc (v := (x6 + (1 : Int32))) (ls' := [some (.ref 153), none, some (.long x2), none, some (.int x4), some (.int (0 : Int32)), some (.int (x6 + (1 : Int32)))]) d_Md_spells_70 rfl rfl (Nat.le_of_ble_eq_true rfl) rfl ?_
      refine b_goto (tgt := 19) d_Md_spells_73 (by decide) ?_
      exact b_mask [true, true, true, true, true, true, true] rfl H
    · have H := H.2 c5
      refine b_aload_n d_Md_spells_31 rfl rfl ?_
      refine b_getf (v := .ref 154) d_Md_spells_32 fl_Md_1 (eg_153 σ) rfl ?_
      refine b_aload_n d_Md_spells_35 rfl rfl ?_
      refine b_getf (v := .int (gY σ 9)) d_Md_spells_36 fl_Md_81 (eg_153 σ) rfl ?_
      refine b_iload d_Md_spells_39 rfl ?_
      refine b_iadd d_Md_spells_41  ?_
      obtain ⟨h3, H⟩ := H
      refine b_iald d_Md_spells_42 (eg_154 σ) h3 ?_
      refine b_st2 (st' := [.int ((gC σ 0) ((gY σ 9) + x6).toNatClampNeg)]) rfl ?_
      refine b_lload_n d_Md_spells_43 rfl rfl ?_
      refine b_bipush (v := (8 : Int32)) d_Md_spells_44 (by decide) ?_
      refine b_iload d_Md_spells_46 rfl ?_
      refine b_iconst (v := (1 : Int32)) d_Md_spells_48 (by decide) ?_
      refine b_isub d_Md_spells_49  ?_
      refine b_iload d_Md_spells_50 rfl ?_
      refine b_isub d_Md_spells_52  ?_
      refine b_imul d_Md_spells_53  ?_
      refine b_lshr d_Md_spells_54 ?_
      refine b_ldc2 (v := (255 : Int64)) d_Md_spells_55 cn_Md_216 ?_
      refine b_land d_Md_spells_58  ?_
      refine b_l2i d_Md_spells_59 ?_
      refine b_icmp_ne (tgt := 67) d_Md_spells_60 (by decide) (fun c4 => ?_) (fun c4 => ?_)
      · have H := H.1 c4
        refine b_iconst (v := (0 : Int32)) d_Md_spells_67 (by decide) ?_
        refine b_istore (ls' := [some (.ref 153), none, some (.long x2), none, some (.int x4), some (.int (0 : Int32)), some (.int x6)]) d_Md_spells_68 (Nat.le_of_ble_eq_true rfl) rfl ?_
        refine b_iinc (v := (x6 + (1 : Int32))) (ls' := [some (.ref 153), none, some (.long x2), none, some (.int x4), some (.int (0 : Int32)), some (.int (x6 + (1 : Int32)))]) d_Md_spells_70 rfl rfl (Nat.le_of_ble_eq_true rfl) rfl ?_
        refine b_goto (tgt := 19) d_Md_spells_73 (by decide) ?_
        exact b_mask [true, true, true, true, true, true, true] rfl H
      · have H := H.2 c4
        refine b_iconst (v := (1 : Int32)) d_Md_spells_63 (by decide) ?_
        refine b_goto (tgt := 68) d_Md_spells_64 (by decide) ?_
        refine b_istore (ls' := [some (.ref 153), none, some (.long x2), none, some (.int x4), some (.int (1 : Int32)), some (.int x6)]) d_Md_spells_68 (Nat.le_of_ble_eq_true rfl) rfl ?_
        refine b_iinc (v := (x6 + (1 : Int32))) (ls' := [some (.ref 153), none, some (.long x2), none, some (.int x4), some (.int (1 : Int32)), some (.int (x6 + (1 : Int32)))]) d_Md_spells_70 rfl rfl (Nat.le_of_ble_eq_true rfl) rfl ?_
        refine b_goto (tgt := 19) d_Md_spells_73 (by decide) ?_
        exact b_mask [true, true, true, true, true, true, true] rfl H
theorem C_Md_spells {S : XS} {Q : Int32 → St → Prop} (σ : St) (x1 : Int32) (x2 : Int64) (x4 : Int32) (H : BW S m_Md_spells 0 [some (.ref 153), some (.int x1), some (.long x2), none, some (.int x4), none, none] [] (enc σ) (qI Q)) : CM S m_Md_spells [.ref 153, .int x1, .long x2, .int x4] (enc σ) (qI Q) := b_meth (by decide) (Nat.le_of_ble_eq_true rfl) rfl H
theorem d_Md_passes_0 : decode m_Md_passes.2.1 0 = .ok (.aload_n 0, 1) := by decide +kernel
theorem d_Md_passes_1 : decode m_Md_passes.2.1 1 = .ok (.invokevirtual 205, 3) := by decide +kernel
theorem d_Md_passes_4 : decode m_Md_passes.2.1 4 = .ok (.invokestatic 212, 3) := by decide +kernel
theorem d_Md_passes_7 : decode m_Md_passes.2.1 7 = .ok (.ifCond .eq 16, 3) := by decide +kernel
theorem d_Md_passes_10 : decode m_Md_passes.2.1 10 = .ok (.aload_n 0, 1) := by decide +kernel
theorem d_Md_passes_11 : decode m_Md_passes.2.1 11 = .ok (.aload_n 0, 1) := by decide +kernel
theorem d_Md_passes_12 : decode m_Md_passes.2.1 12 = .ok (.invokevirtual 218, 3) := by decide +kernel
theorem d_Md_passes_15 : decode m_Md_passes.2.1 15 = .ok (.lload_n 1, 1) := by decide +kernel
theorem d_Md_passes_16 : decode m_Md_passes.2.1 16 = .ok (.iload_n 3, 1) := by decide +kernel
theorem d_Md_passes_17 : decode m_Md_passes.2.1 17 = .ok (.invokevirtual 221, 3) := by decide +kernel
theorem d_Md_passes_20 : decode m_Md_passes.2.1 20 = .ok (.ifCond .ne 5, 3) := by decide +kernel
theorem d_Md_passes_23 : decode m_Md_passes.2.1 23 = .ok (.iconst 0, 1) := by decide +kernel
theorem d_Md_passes_24 : decode m_Md_passes.2.1 24 = .ok (.ireturn, 1) := by decide +kernel
theorem d_Md_passes_25 : decode m_Md_passes.2.1 25 = .ok (.aload_n 0, 1) := by decide +kernel
theorem d_Md_passes_26 : decode m_Md_passes.2.1 26 = .ok (.aload_n 0, 1) := by decide +kernel
theorem d_Md_passes_27 : decode m_Md_passes.2.1 27 = .ok (.invokevirtual 218, 3) := by decide +kernel
theorem d_Md_passes_30 : decode m_Md_passes.2.1 30 = .ok (.putfield 81, 3) := by decide +kernel
theorem d_Md_passes_33 : decode m_Md_passes.2.1 33 = .ok (.iconst 1, 1) := by decide +kernel
theorem d_Md_passes_34 : decode m_Md_passes.2.1 34 = .ok (.ireturn, 1) := by decide +kernel
set_option maxHeartbeats 4000000 in
set_option maxRecDepth 100000 in
theorem B_Md_passes_0 {S : XS} {Q : Int32 → St → Prop} (σ : St) (x1 : Int64) (x3 : Int32) (H : CM S m_Md_here [.ref 153] (enc σ) (qI (fun v1 τ2 => CM S m_Md_isLetter [.int v1] (enc τ2) (qI (fun v3 τ4 => ((v3 = 0 → Q (0 : Int32) τ4) ∧ (¬ v3 = 0 → CM S m_Md_wordEnd [.ref 153] (enc τ4) (qI (fun v5 τ6 => CM S m_Md_spells [.ref 153, .int v5, .long x1, .int x3] (enc τ6) (qI (fun v7 τ8 => ((¬ v7 = 0 → CM S m_Md_wordEnd [.ref 153] (enc τ8) (qI (fun v9 τ10 => Q (1 : Int32) (sY τ10 9 v9)))) ∧ (v7 = 0 → Q (0 : Int32) τ8))))))))))))) : BW S m_Md_passes 0 [some (.ref 153), some (.long x1), none, some (.int x3)] [] (enc σ) (qI Q) := by
  refine b_aload_n d_Md_passes_0 rfl rfl ?_
  refine b_callVi (Mc := m_Md_here) (As := []) (st := []) d_Md_passes_1 ⟨⟨kA_Md_here.1, kA_Md_here.2.1, kA_Md_here.2.2, by decide⟩, ml_Md_205, kV_Md_here⟩ (eg_153 σ) rfl rfl (Nat.le_of_ble_eq_true rfl) H (fun v1 τ2 H => ?_)
  refine b_callSi (Mc := m_Md_isLetter) (As := [.int v1]) (st := []) d_Md_passes_4 ⟨⟨kA_Md_isLetter.1, kA_Md_isLetter.2.1, kA_Md_isLetter.2.2, by decide⟩, ml_Md_212, kS_Md_isLetter⟩ rfl rfl (Nat.le_of_ble_eq_true rfl) H (fun v3 τ4 H => ?_)
  refine b_if_eq (tgt := 23) d_Md_passes_7 (by decide) (fun c12 => ?_) (fun c12 => ?_)
  · have H := H.1 c12
    refine b_iconst (v := (0 : Int32)) d_Md_passes_23 (by decide) ?_
    exact b_iret (ty := .boolean) d_Md_passes_24 rfl rfl ⟨_, _, rfl, rfl, H⟩
  · have H := H.2 c12
    refine b_aload_n d_Md_passes_10 rfl rfl ?_
    refine b_aload_n d_Md_passes_11 rfl rfl ?_
    refine b_callVi (Mc := m_Md_wordEnd) (As := []) (st := [.ref 153]) d_Md_passes_12 ⟨⟨kA_Md_wordEnd.1, kA_Md_wordEnd.2.1, kA_Md_wordEnd.2.2, by decide⟩, ml_Md_218, kV_Md_wordEnd⟩ (eg_153 τ4) rfl rfl (Nat.le_of_ble_eq_true rfl) H (fun v5 τ6 H => ?_)
    refine b_lload_n d_Md_passes_15 rfl rfl ?_
    refine b_iload_n d_Md_passes_16 rfl rfl ?_
    refine b_callVi (Mc := m_Md_spells) (As := [.int v5, .long x1, .int x3]) (st := []) d_Md_passes_17 ⟨⟨kA_Md_spells.1, kA_Md_spells.2.1, kA_Md_spells.2.2, by decide⟩, ml_Md_221, kV_Md_spells⟩ (eg_153 τ6) rfl rfl (Nat.le_of_ble_eq_true rfl) H (fun v7 τ8 H => ?_)
    refine b_if_ne (tgt := 25) d_Md_passes_20 (by decide) (fun c11 => ?_) (fun c11 => ?_)
    · have H := H.1 c11
      refine b_aload_n d_Md_passes_25 rfl rfl ?_
      refine b_aload_n d_Md_passes_26 rfl rfl ?_
      refine b_callVi (Mc := m_Md_wordEnd) (As := []) (st := [.ref 153]) d_Md_passes_27 ⟨⟨kA_Md_wordEnd.1, kA_Md_wordEnd.2.1, kA_Md_wordEnd.2.2, by decide⟩, ml_Md_218, kV_Md_wordEnd⟩ (eg_153 τ8) rfl rfl (Nat.le_of_ble_eq_true rfl) H (fun v9 τ10 H => ?_)
      refine b_putf (ty := .int) (h1 := enc (sY τ10 9 v9)) d_Md_passes_30 fl_Md_81 ft_12_23 (fun _ => ⟨rfl, rfl⟩) (eg_153 τ10) (Nat.le_of_ble_eq_true rfl) (es_153_23 τ10 v9) ?_
      refine b_iconst (v := (1 : Int32)) d_Md_passes_33 (by decide) ?_
      exact b_iret (ty := .boolean) d_Md_passes_34 rfl rfl ⟨_, _, rfl, rfl, H⟩
    · have H := H.2 c11
      refine b_iconst (v := (0 : Int32)) d_Md_passes_23 (by decide) ?_
      exact b_iret (ty := .boolean) d_Md_passes_24 rfl rfl ⟨_, _, rfl, rfl, H⟩
theorem C_Md_passes {S : XS} {Q : Int32 → St → Prop} (σ : St) (x1 : Int64) (x3 : Int32) (H : BW S m_Md_passes 0 [some (.ref 153), some (.long x1), none, some (.int x3)] [] (enc σ) (qI Q)) : CM S m_Md_passes [.ref 153, .long x1, .int x3] (enc σ) (qI Q) := b_meth (by decide) (Nat.le_of_ble_eq_true rfl) rfl H
theorem d_Md_digits_0 : decode m_Md_digits.2.1 0 = .ok (.aload_n 0, 1) := by decide +kernel
theorem d_Md_digits_1 : decode m_Md_digits.2.1 1 = .ok (.invokevirtual 205, 3) := by decide +kernel
theorem d_Md_digits_4 : decode m_Md_digits.2.1 4 = .ok (.invokestatic 225, 3) := by decide +kernel
theorem d_Md_digits_7 : decode m_Md_digits.2.1 7 = .ok (.ifCond .ne 14, 3) := by decide +kernel
theorem d_Md_digits_10 : decode m_Md_digits.2.1 10 = .ok (.aload_n 0, 1) := by decide +kernel
theorem d_Md_digits_11 : decode m_Md_digits.2.1 11 = .ok (.iconst 1, 1) := by decide +kernel
theorem d_Md_digits_12 : decode m_Md_digits.2.1 12 = .ok (.aload_n 0, 1) := by decide +kernel
theorem d_Md_digits_13 : decode m_Md_digits.2.1 13 = .ok (.getfield 81, 3) := by decide +kernel
theorem d_Md_digits_16 : decode m_Md_digits.2.1 16 = .ok (.invokevirtual 209, 3) := by decide +kernel
theorem d_Md_digits_19 : decode m_Md_digits.2.1 19 = .ok (.iconst 0, 1) := by decide +kernel
theorem d_Md_digits_20 : decode m_Md_digits.2.1 20 = .ok (.ireturn, 1) := by decide +kernel
theorem d_Md_digits_21 : decode m_Md_digits.2.1 21 = .ok (.iconst 0, 1) := by decide +kernel
theorem d_Md_digits_22 : decode m_Md_digits.2.1 22 = .ok (.istore_n 1, 1) := by decide +kernel
theorem d_Md_digits_23 : decode m_Md_digits.2.1 23 = .ok (.iconst 0, 1) := by decide +kernel
theorem d_Md_digits_24 : decode m_Md_digits.2.1 24 = .ok (.istore_n 2, 1) := by decide +kernel
theorem d_Md_digits_25 : decode m_Md_digits.2.1 25 = .ok (.aload_n 0, 1) := by decide +kernel
theorem d_Md_digits_26 : decode m_Md_digits.2.1 26 = .ok (.getfield 81, 3) := by decide +kernel
theorem d_Md_digits_29 : decode m_Md_digits.2.1 29 = .ok (.aload_n 0, 1) := by decide +kernel
theorem d_Md_digits_30 : decode m_Md_digits.2.1 30 = .ok (.getfield 84, 3) := by decide +kernel
theorem d_Md_digits_33 : decode m_Md_digits.2.1 33 = .ok (.if_icmp .ge 73, 3) := by decide +kernel
theorem d_Md_digits_36 : decode m_Md_digits.2.1 36 = .ok (.aload_n 0, 1) := by decide +kernel
theorem d_Md_digits_37 : decode m_Md_digits.2.1 37 = .ok (.getfield 1, 3) := by decide +kernel
theorem d_Md_digits_40 : decode m_Md_digits.2.1 40 = .ok (.aload_n 0, 1) := by decide +kernel
theorem d_Md_digits_41 : decode m_Md_digits.2.1 41 = .ok (.getfield 81, 3) := by decide +kernel
theorem d_Md_digits_44 : decode m_Md_digits.2.1 44 = .ok (.iaload, 1) := by decide +kernel
theorem d_Md_digits_45 : decode m_Md_digits.2.1 45 = .ok (.invokestatic 225, 3) := by decide +kernel
theorem d_Md_digits_48 : decode m_Md_digits.2.1 48 = .ok (.ifCond .eq 58, 3) := by decide +kernel
theorem d_Md_digits_51 : decode m_Md_digits.2.1 51 = .ok (.aload_n 0, 1) := by decide +kernel
theorem d_Md_digits_52 : decode m_Md_digits.2.1 52 = .ok (.getfield 75, 3) := by decide +kernel
theorem d_Md_digits_55 : decode m_Md_digits.2.1 55 = .ok (.ifCond .ne 51, 3) := by decide +kernel
theorem d_Md_digits_58 : decode m_Md_digits.2.1 58 = .ok (.iload_n 2, 1) := by decide +kernel
theorem d_Md_digits_59 : decode m_Md_digits.2.1 59 = .ok (.iconst 5, 1) := by decide +kernel
theorem d_Md_digits_60 : decode m_Md_digits.2.1 60 = .ok (.if_icmp .ne 12, 3) := by decide +kernel
theorem d_Md_digits_63 : decode m_Md_digits.2.1 63 = .ok (.aload_n 0, 1) := by decide +kernel
theorem d_Md_digits_64 : decode m_Md_digits.2.1 64 = .ok (.iconst 1, 1) := by decide +kernel
theorem d_Md_digits_65 : decode m_Md_digits.2.1 65 = .ok (.aload_n 0, 1) := by decide +kernel
theorem d_Md_digits_66 : decode m_Md_digits.2.1 66 = .ok (.getfield 81, 3) := by decide +kernel
theorem d_Md_digits_69 : decode m_Md_digits.2.1 69 = .ok (.invokevirtual 209, 3) := by decide +kernel
theorem d_Md_digits_72 : decode m_Md_digits.2.1 72 = .ok (.bipush 10, 2) := by decide +kernel
theorem d_Md_digits_74 : decode m_Md_digits.2.1 74 = .ok (.iload_n 1, 1) := by decide +kernel
theorem d_Md_digits_75 : decode m_Md_digits.2.1 75 = .ok (.imul, 1) := by decide +kernel
theorem d_Md_digits_76 : decode m_Md_digits.2.1 76 = .ok (.aload_n 0, 1) := by decide +kernel
theorem d_Md_digits_77 : decode m_Md_digits.2.1 77 = .ok (.getfield 1, 3) := by decide +kernel
theorem d_Md_digits_80 : decode m_Md_digits.2.1 80 = .ok (.aload_n 0, 1) := by decide +kernel
theorem d_Md_digits_81 : decode m_Md_digits.2.1 81 = .ok (.getfield 81, 3) := by decide +kernel
theorem d_Md_digits_84 : decode m_Md_digits.2.1 84 = .ok (.iaload, 1) := by decide +kernel
theorem d_Md_digits_85 : decode m_Md_digits.2.1 85 = .ok (.iadd, 1) := by decide +kernel
theorem d_Md_digits_86 : decode m_Md_digits.2.1 86 = .ok (.bipush 48, 2) := by decide +kernel
theorem d_Md_digits_88 : decode m_Md_digits.2.1 88 = .ok (.isub, 1) := by decide +kernel
theorem d_Md_digits_89 : decode m_Md_digits.2.1 89 = .ok (.istore_n 1, 1) := by decide +kernel
theorem d_Md_digits_90 : decode m_Md_digits.2.1 90 = .ok (.aload_n 0, 1) := by decide +kernel
theorem d_Md_digits_91 : decode m_Md_digits.2.1 91 = .ok (.dup, 1) := by decide +kernel
theorem d_Md_digits_92 : decode m_Md_digits.2.1 92 = .ok (.getfield 81, 3) := by decide +kernel
theorem d_Md_digits_95 : decode m_Md_digits.2.1 95 = .ok (.iconst 1, 1) := by decide +kernel
theorem d_Md_digits_96 : decode m_Md_digits.2.1 96 = .ok (.iadd, 1) := by decide +kernel
theorem d_Md_digits_97 : decode m_Md_digits.2.1 97 = .ok (.putfield 81, 3) := by decide +kernel
theorem d_Md_digits_100 : decode m_Md_digits.2.1 100 = .ok (.iinc 2 1, 3) := by decide +kernel
theorem d_Md_digits_103 : decode m_Md_digits.2.1 103 = .ok (.goto (-78), 3) := by decide +kernel
theorem d_Md_digits_106 : decode m_Md_digits.2.1 106 = .ok (.iload_n 1, 1) := by decide +kernel
theorem d_Md_digits_107 : decode m_Md_digits.2.1 107 = .ok (.ireturn, 1) := by decide +kernel
set_option maxHeartbeats 4000000 in
set_option maxRecDepth 100000 in
theorem B_Md_digits_0 {S : XS} {Q : Int32 → St → Prop} (σ : St)  (H : CM S m_Md_here [.ref 153] (enc σ) (qI (fun v1 τ2 => CM S m_Md_isDigit [.int v1] (enc τ2) (qI (fun v3 τ4 => ((¬ v3 = 0 → BW S m_Md_digits 25 [some (.ref 153), some (.int (0 : Int32)), some (.int (0 : Int32))] [] (enc τ4) (qI Q)) ∧ (v3 = 0 → CM S m_Md_blame [.ref 153, .int (1 : Int32), .int (gY τ4 9)] (enc τ4) (qV (fun τ6 => Q (0 : Int32) τ6))))))))) : BW S m_Md_digits 0 [some (.ref 153), none, none] [] (enc σ) (qI Q) := by
  refine b_aload_n d_Md_digits_0 rfl rfl ?_
  refine b_callVi (Mc := m_Md_here) (As := []) (st := []) d_Md_digits_1 ⟨⟨kA_Md_here.1, kA_Md_here.2.1, kA_Md_here.2.2, by decide⟩, ml_Md_205, kV_Md_here⟩ (eg_153 σ) rfl rfl (Nat.le_of_ble_eq_true rfl) H (fun v1 τ2 H => ?_)
  refine b_callSi (Mc := m_Md_isDigit) (As := [.int v1]) (st := []) d_Md_digits_4 ⟨⟨kA_Md_isDigit.1, kA_Md_isDigit.2.1, kA_Md_isDigit.2.2, by decide⟩, ml_Md_225, kS_Md_isDigit⟩ rfl rfl (Nat.le_of_ble_eq_true rfl) H (fun v3 τ4 H => ?_)
  refine b_if_ne (tgt := 21) d_Md_digits_7 (by decide) (fun c7 => ?_) (fun c7 => ?_)
  · have H := H.1 c7
    refine b_iconst (v := (0 : Int32)) d_Md_digits_21 (by decide) ?_
    refine b_istore_n (ls' := [some (.ref 153), some (.int (0 : Int32)), none]) d_Md_digits_22 rfl (Nat.le_of_ble_eq_true rfl) rfl ?_
    refine b_iconst (v := (0 : Int32)) d_Md_digits_23 (by decide) ?_
    refine b_istore_n (ls' := [some (.ref 153), some (.int (0 : Int32)), some (.int (0 : Int32))]) d_Md_digits_24 rfl (Nat.le_of_ble_eq_true rfl) rfl ?_
    exact b_mask [true, true, true] rfl H
  · have H := H.2 c7
    refine b_aload_n d_Md_digits_10 rfl rfl ?_
    refine b_iconst (v := (1 : Int32)) d_Md_digits_11 (by decide) ?_
    refine b_aload_n d_Md_digits_12 rfl rfl ?_
    refine b_getf (v := .int (gY τ4 9)) d_Md_digits_13 fl_Md_81 (eg_153 τ4) rfl ?_
    refine b_callVv (Mc := m_Md_blame) (As := [.int (1 : Int32), .int (gY τ4 9)]) (st := []) d_Md_digits_16 ⟨⟨kA_Md_blame.1, kA_Md_blame.2.1, kA_Md_blame.2.2, by decide⟩, ml_Md_209, kV_Md_blame⟩ (eg_153 τ4) rfl rfl (Nat.le_of_ble_eq_true rfl) H (fun τ6 H => ?_)
    refine b_iconst (v := (0 : Int32)) d_Md_digits_19 (by decide) ?_
    exact b_iret (ty := .int) d_Md_digits_20 rfl rfl ⟨_, _, rfl, rfl, H⟩
set_option maxHeartbeats 4000000 in
set_option maxRecDepth 100000 in
theorem B_Md_digits_25 {S : XS} {Q : Int32 → St → Prop} (σ : St) (x1 : Int32) (x2 : Int32) (H : (((gY σ 10) ≤ (gY σ 9) → Q x1 σ) ∧ (¬ (gY σ 10) ≤ (gY σ 9) → (vp_in (gY σ 9) 200) ∧ CM S m_Md_isDigit [.int ((gC σ 0) (gY σ 9).toNatClampNeg)] (enc σ) (qI (fun v9 τ10 => ((v9 = 0 → Q x1 τ10) ∧ (¬ v9 = 0 → ((¬ (gY τ10 7) = 0 → Q x1 τ10) ∧ ((gY τ10 7) = 0 → ((¬ x2 = (5 : Int32) → (vp_in (gY τ10 9) 200) ∧ BW S m_Md_digits 25 [some (.ref 153), some (.int ((((10 : Int32) * x1) + ((gC τ10 0) (gY τ10 9).toNatClampNeg)) - (48 : Int32))), some (.int (x2 + (1 : Int32)))] [] (enc (sY τ10 9 ((gY τ10 9) + (1 : Int32)))) (qI Q)) ∧ (x2 = (5 : Int32) → CM S m_Md_blame [.ref 153, .int (1 : Int32), .int (gY τ10 9)] (enc τ10) (qV (fun τ13 => (vp_in (gY τ13 9) 200) ∧ BW S m_Md_digits 25 [some (.ref 153), some (.int ((((10 : Int32) * x1) + ((gC τ13 0) (gY τ13 9).toNatClampNeg)) - (48 : Int32))), some (.int (x2 + (1 : Int32)))] [] (enc (sY τ13 9 ((gY τ13 9) + (1 : Int32)))) (qI Q)))))))))))))) : BW S m_Md_digits 25 [some (.ref 153), some (.int x1), some (.int x2)] [] (enc σ) (qI Q) := by
  refine b_aload_n d_Md_digits_25 rfl rfl ?_
  refine b_getf (v := .int (gY σ 9)) d_Md_digits_26 fl_Md_81 (eg_153 σ) rfl ?_
  refine b_aload_n d_Md_digits_29 rfl rfl ?_
  refine b_getf (v := .int (gY σ 10)) d_Md_digits_30 fl_Md_84 (eg_153 σ) rfl ?_
  refine b_icmp_ge (tgt := 106) d_Md_digits_33 (by decide) (fun c18 => ?_) (fun c18 => ?_)
  · have H := H.1 c18
    refine b_iload_n d_Md_digits_106 rfl rfl ?_
    exact b_iret (ty := .int) d_Md_digits_107 rfl rfl ⟨_, _, rfl, rfl, H⟩
  · have H := H.2 c18
    refine b_aload_n d_Md_digits_36 rfl rfl ?_
    refine b_getf (v := .ref 154) d_Md_digits_37 fl_Md_1 (eg_153 σ) rfl ?_
    refine b_aload_n d_Md_digits_40 rfl rfl ?_
    refine b_getf (v := .int (gY σ 9)) d_Md_digits_41 fl_Md_81 (eg_153 σ) rfl ?_
    obtain ⟨h8, H⟩ := H
    refine b_iald d_Md_digits_44 (eg_154 σ) h8 ?_
    refine b_st2 (st' := [.int ((gC σ 0) (gY σ 9).toNatClampNeg)]) rfl ?_
    refine b_callSi (Mc := m_Md_isDigit) (As := [.int ((gC σ 0) (gY σ 9).toNatClampNeg)]) (st := []) d_Md_digits_45 ⟨⟨kA_Md_isDigit.1, kA_Md_isDigit.2.1, kA_Md_isDigit.2.2, by decide⟩, ml_Md_225, kS_Md_isDigit⟩ rfl rfl (Nat.le_of_ble_eq_true rfl) H (fun v9 τ10 H => ?_)
    refine b_if_eq (tgt := 106) d_Md_digits_48 (by decide) (fun c17 => ?_) (fun c17 => ?_)
    · have H := H.1 c17
      refine b_iload_n d_Md_digits_106 rfl rfl ?_
      exact b_iret (ty := .int) d_Md_digits_107 rfl rfl ⟨_, _, rfl, rfl, H⟩
    · have H := H.2 c17
      refine b_aload_n d_Md_digits_51 rfl rfl ?_
      refine b_getf (v := .int (gY τ10 7)) d_Md_digits_52 fl_Md_75 (eg_153 τ10) rfl ?_
      refine b_if_ne (tgt := 106) d_Md_digits_55 (by decide) (fun c16 => ?_) (fun c16 => ?_)
      · have H := H.1 c16
        refine b_iload_n d_Md_digits_106 rfl rfl ?_
        exact b_iret (ty := .int) d_Md_digits_107 rfl rfl ⟨_, _, rfl, rfl, H⟩
      · have H := H.2 c16
        refine b_iload_n d_Md_digits_58 rfl rfl ?_
        refine b_iconst (v := (5 : Int32)) d_Md_digits_59 (by decide) ?_
        refine b_icmp_ne (tgt := 72) d_Md_digits_60 (by decide) (fun c15 => ?_) (fun c15 => ?_)
        · have H := H.1 c15
          refine b_bipush (v := (10 : Int32)) d_Md_digits_72 (by decide) ?_
          refine b_iload_n d_Md_digits_74 rfl rfl ?_
          refine b_imul d_Md_digits_75  ?_
          refine b_aload_n d_Md_digits_76 rfl rfl ?_
          refine b_getf (v := .ref 154) d_Md_digits_77 fl_Md_1 (eg_153 τ10) rfl ?_
          refine b_aload_n d_Md_digits_80 rfl rfl ?_
          refine b_getf (v := .int (gY τ10 9)) d_Md_digits_81 fl_Md_81 (eg_153 τ10) rfl ?_
          obtain ⟨h11, H⟩ := H
          refine b_iald d_Md_digits_84 (eg_154 τ10) h11 ?_
          refine b_st2 (st' := [.int ((gC τ10 0) (gY τ10 9).toNatClampNeg), .int ((10 : Int32) * x1)]) rfl ?_
          refine b_iadd d_Md_digits_85  ?_
          refine b_bipush (v := (48 : Int32)) d_Md_digits_86 (by decide) ?_
          refine b_isub d_Md_digits_88  ?_
          refine b_istore_n (ls' := [some (.ref 153), some (.int ((((10 : Int32) * x1) + ((gC τ10 0) (gY τ10 9).toNatClampNeg)) - (48 : Int32))), some (.int x2)]) d_Md_digits_89 rfl (Nat.le_of_ble_eq_true rfl) rfl ?_
          refine b_aload_n d_Md_digits_90 rfl rfl ?_
          refine b_dup d_Md_digits_91 rfl ?_
          refine b_getf (v := .int (gY τ10 9)) d_Md_digits_92 fl_Md_81 (eg_153 τ10) rfl ?_
          refine b_iconst (v := (1 : Int32)) d_Md_digits_95 (by decide) ?_
          refine b_iadd d_Md_digits_96  ?_
          refine b_putf (ty := .int) (h1 := enc (sY τ10 9 ((gY τ10 9) + (1 : Int32)))) d_Md_digits_97 fl_Md_81 ft_12_23 (fun _ => ⟨rfl, rfl⟩) (eg_153 τ10) (Nat.le_of_ble_eq_true rfl) (es_153_23 τ10 ((gY τ10 9) + (1 : Int32))) ?_
          refine b_iinc (v := (x2 + (1 : Int32))) (ls' := [some (.ref 153), some (.int ((((10 : Int32) * x1) + ((gC τ10 0) (gY τ10 9).toNatClampNeg)) - (48 : Int32))), some (.int (x2 + (1 : Int32)))]) d_Md_digits_100 rfl rfl (Nat.le_of_ble_eq_true rfl) rfl ?_
          refine b_goto (tgt := 25) d_Md_digits_103 (by decide) ?_
          exact b_mask [true, true, true] rfl H
        · have H := H.2 c15
          refine b_aload_n d_Md_digits_63 rfl rfl ?_
          refine b_iconst (v := (1 : Int32)) d_Md_digits_64 (by decide) ?_
          refine b_aload_n d_Md_digits_65 rfl rfl ?_
          refine b_getf (v := .int (gY τ10 9)) d_Md_digits_66 fl_Md_81 (eg_153 τ10) rfl ?_
          refine b_callVv (Mc := m_Md_blame) (As := [.int (1 : Int32), .int (gY τ10 9)]) (st := []) d_Md_digits_69 ⟨⟨kA_Md_blame.1, kA_Md_blame.2.1, kA_Md_blame.2.2, by decide⟩, ml_Md_209, kV_Md_blame⟩ (eg_153 τ10) rfl rfl (Nat.le_of_ble_eq_true rfl) H (fun τ13 H => ?_)
          refine b_bipush (v := (10 : Int32)) d_Md_digits_72 (by decide) ?_
          refine b_iload_n d_Md_digits_74 rfl rfl ?_
          refine b_imul d_Md_digits_75  ?_
          refine b_aload_n d_Md_digits_76 rfl rfl ?_
          refine b_getf (v := .ref 154) d_Md_digits_77 fl_Md_1 (eg_153 τ13) rfl ?_
          refine b_aload_n d_Md_digits_80 rfl rfl ?_
          refine b_getf (v := .int (gY τ13 9)) d_Md_digits_81 fl_Md_81 (eg_153 τ13) rfl ?_
          obtain ⟨h14, H⟩ := H
          refine b_iald d_Md_digits_84 (eg_154 τ13) h14 ?_
          refine b_st2 (st' := [.int ((gC τ13 0) (gY τ13 9).toNatClampNeg), .int ((10 : Int32) * x1)]) rfl ?_
          refine b_iadd d_Md_digits_85  ?_
          refine b_bipush (v := (48 : Int32)) d_Md_digits_86 (by decide) ?_
          refine b_isub d_Md_digits_88  ?_
          refine b_istore_n (ls' := [some (.ref 153), some (.int ((((10 : Int32) * x1) + ((gC τ13 0) (gY τ13 9).toNatClampNeg)) - (48 : Int32))), some (.int x2)]) d_Md_digits_89 rfl (Nat.le_of_ble_eq_true rfl) rfl ?_
          refine b_aload_n d_Md_digits_90 rfl rfl ?_
          refine b_dup d_Md_digits_91 rfl ?_
          refine b_getf (v := .int (gY τ13 9)) d_Md_digits_92 fl_Md_81 (eg_153 τ13) rfl ?_
          refine b_iconst (v := (1 : Int32)) d_Md_digits_95 (by decide) ?_
          refine b_iadd d_Md_digits_96  ?_
          refine b_putf (ty := .int) (h1 := enc (sY τ13 9 ((gY τ13 9) + (1 : Int32)))) d_Md_digits_97 fl_Md_81 ft_12_23 (fun _ => ⟨rfl, rfl⟩) (eg_153 τ13) (Nat.le_of_ble_eq_true rfl) (es_153_23 τ13 ((gY τ13 9) + (1 : Int32))) ?_
          refine b_iinc (v := (x2 + (1 : Int32))) (ls' := [some (.ref 153), some (.int ((((10 : Int32) * x1) + ((gC τ13 0) (gY τ13 9).toNatClampNeg)) - (48 : Int32))), some (.int (x2 + (1 : Int32)))]) d_Md_digits_100 rfl rfl (Nat.le_of_ble_eq_true rfl) rfl ?_
          refine b_goto (tgt := 25) d_Md_digits_103 (by decide) ?_
          exact b_mask [true, true, true] rfl H
theorem C_Md_digits {S : XS} {Q : Int32 → St → Prop} (σ : St)  (H : BW S m_Md_digits 0 [some (.ref 153), none, none] [] (enc σ) (qI Q)) : CM S m_Md_digits [.ref 153] (enc σ) (qI Q) := b_meth (by decide) (Nat.le_of_ble_eq_true rfl) rfl H
theorem d_Md_number_0 : decode m_Md_number.2.1 0 = .ok (.aload_n 0, 1) := by decide +kernel
theorem d_Md_number_1 : decode m_Md_number.2.1 1 = .ok (.invokevirtual 205, 3) := by decide +kernel
theorem d_Md_number_4 : decode m_Md_number.2.1 4 = .ok (.pop, 1) := by decide +kernel
theorem d_Md_number_5 : decode m_Md_number.2.1 5 = .ok (.aload_n 0, 1) := by decide +kernel
theorem d_Md_number_6 : decode m_Md_number.2.1 6 = .ok (.getfield 81, 3) := by decide +kernel
theorem d_Md_number_9 : decode m_Md_number.2.1 9 = .ok (.istore_n 3, 1) := by decide +kernel
theorem d_Md_number_10 : decode m_Md_number.2.1 10 = .ok (.aload_n 0, 1) := by decide +kernel
theorem d_Md_number_11 : decode m_Md_number.2.1 11 = .ok (.invokevirtual 228, 3) := by decide +kernel
theorem d_Md_number_14 : decode m_Md_number.2.1 14 = .ok (.istore 4, 2) := by decide +kernel
theorem d_Md_number_16 : decode m_Md_number.2.1 16 = .ok (.aload_n 0, 1) := by decide +kernel
theorem d_Md_number_17 : decode m_Md_number.2.1 17 = .ok (.getfield 75, 3) := by decide +kernel
theorem d_Md_number_20 : decode m_Md_number.2.1 20 = .ok (.ifCond .ne 19, 3) := by decide +kernel
theorem d_Md_number_23 : decode m_Md_number.2.1 23 = .ok (.iload 4, 2) := by decide +kernel
theorem d_Md_number_25 : decode m_Md_number.2.1 25 = .ok (.iload_n 1, 1) := by decide +kernel
theorem d_Md_number_26 : decode m_Md_number.2.1 26 = .ok (.iload_n 2, 1) := by decide +kernel
theorem d_Md_number_27 : decode m_Md_number.2.1 27 = .ok (.invokestatic 174, 3) := by decide +kernel
theorem d_Md_number_30 : decode m_Md_number.2.1 30 = .ok (.ifCond .ne 9, 3) := by decide +kernel
theorem d_Md_number_33 : decode m_Md_number.2.1 33 = .ok (.aload_n 0, 1) := by decide +kernel
theorem d_Md_number_34 : decode m_Md_number.2.1 34 = .ok (.iconst 2, 1) := by decide +kernel
theorem d_Md_number_35 : decode m_Md_number.2.1 35 = .ok (.iload_n 3, 1) := by decide +kernel
theorem d_Md_number_36 : decode m_Md_number.2.1 36 = .ok (.invokevirtual 209, 3) := by decide +kernel
theorem d_Md_number_39 : decode m_Md_number.2.1 39 = .ok (.iload 4, 2) := by decide +kernel
theorem d_Md_number_41 : decode m_Md_number.2.1 41 = .ok (.ireturn, 1) := by decide +kernel
set_option maxHeartbeats 4000000 in
set_option maxRecDepth 100000 in
theorem B_Md_number_0 {S : XS} {Q : Int32 → St → Prop} (σ : St) (x1 : Int32) (x2 : Int32) (H : CM S m_Md_here [.ref 153] (enc σ) (qI (fun v1 τ2 => CM S m_Md_digits [.ref 153] (enc τ2) (qI (fun v3 τ4 => ((¬ (gY τ4 7) = 0 → Q v3 τ4) ∧ ((gY τ4 7) = 0 → CM S m_Md_is [.int v3, .int x1, .int x2] (enc τ4) (qI (fun v5 τ6 => ((¬ v5 = 0 → Q v3 τ6) ∧ (v5 = 0 → CM S m_Md_blame [.ref 153, .int (2 : Int32), .int (gY τ2 9)] (enc τ6) (qV (fun τ8 => Q v3 τ8))))))))))))) : BW S m_Md_number 0 [some (.ref 153), some (.int x1), some (.int x2), none, none] [] (enc σ) (qI Q) := by
  refine b_aload_n d_Md_number_0 rfl rfl ?_
  refine b_callVi (Mc := m_Md_here) (As := []) (st := []) d_Md_number_1 ⟨⟨kA_Md_here.1, kA_Md_here.2.1, kA_Md_here.2.2, by decide⟩, ml_Md_205, kV_Md_here⟩ (eg_153 σ) rfl rfl (Nat.le_of_ble_eq_true rfl) H (fun v1 τ2 H => ?_)
  refine b_pop d_Md_number_4 rfl ?_
  refine b_aload_n d_Md_number_5 rfl rfl ?_
  refine b_getf (v := .int (gY τ2 9)) d_Md_number_6 fl_Md_81 (eg_153 τ2) rfl ?_
  refine b_istore_n (ls' := [some (.ref 153), some (.int x1), some (.int x2), some (.int (gY τ2 9)), none]) d_Md_number_9 rfl (Nat.le_of_ble_eq_true rfl) rfl ?_
  refine b_aload_n d_Md_number_10 rfl rfl ?_
  refine b_callVi (Mc := m_Md_digits) (As := []) (st := []) d_Md_number_11 ⟨⟨kA_Md_digits.1, kA_Md_digits.2.1, kA_Md_digits.2.2, by decide⟩, ml_Md_228, kV_Md_digits⟩ (eg_153 τ2) rfl rfl (Nat.le_of_ble_eq_true rfl) H (fun v3 τ4 H => ?_)
  refine b_istore (ls' := [some (.ref 153), some (.int x1), some (.int x2), some (.int (gY τ2 9)), some (.int v3)]) d_Md_number_14 (Nat.le_of_ble_eq_true rfl) rfl ?_
  refine b_aload_n d_Md_number_16 rfl rfl ?_
  refine b_getf (v := .int (gY τ4 7)) d_Md_number_17 fl_Md_75 (eg_153 τ4) rfl ?_
  refine b_if_ne (tgt := 39) d_Md_number_20 (by decide) (fun c10 => ?_) (fun c10 => ?_)
  · have H := H.1 c10
    refine b_iload d_Md_number_39 rfl ?_
    exact b_iret (ty := .int) d_Md_number_41 rfl rfl ⟨_, _, rfl, rfl, H⟩
  · have H := H.2 c10
    refine b_iload d_Md_number_23 rfl ?_
    refine b_iload_n d_Md_number_25 rfl rfl ?_
    refine b_iload_n d_Md_number_26 rfl rfl ?_
    refine b_callSi (Mc := m_Md_is) (As := [.int v3, .int x1, .int x2]) (st := []) d_Md_number_27 ⟨⟨kA_Md_is.1, kA_Md_is.2.1, kA_Md_is.2.2, by decide⟩, ml_Md_174, kS_Md_is⟩ rfl rfl (Nat.le_of_ble_eq_true rfl) H (fun v5 τ6 H => ?_)
    refine b_if_ne (tgt := 39) d_Md_number_30 (by decide) (fun c9 => ?_) (fun c9 => ?_)
    · have H := H.1 c9
      refine b_iload d_Md_number_39 rfl ?_
      exact b_iret (ty := .int) d_Md_number_41 rfl rfl ⟨_, _, rfl, rfl, H⟩
    · have H := H.2 c9
      refine b_aload_n d_Md_number_33 rfl rfl ?_
      refine b_iconst (v := (2 : Int32)) d_Md_number_34 (by decide) ?_
      refine b_iload_n d_Md_number_35 rfl rfl ?_
      refine b_callVv (Mc := m_Md_blame) (As := [.int (2 : Int32), .int (gY τ2 9)]) (st := []) d_Md_number_36 ⟨⟨kA_Md_blame.1, kA_Md_blame.2.1, kA_Md_blame.2.2, by decide⟩, ml_Md_209, kV_Md_blame⟩ (eg_153 τ6) rfl rfl (Nat.le_of_ble_eq_true rfl) H (fun τ8 H => ?_)
      refine b_iload d_Md_number_39 rfl ?_
      exact b_iret (ty := .int) d_Md_number_41 rfl rfl ⟨_, _, rfl, rfl, H⟩
theorem C_Md_number {S : XS} {Q : Int32 → St → Prop} (σ : St) (x1 : Int32) (x2 : Int32) (H : BW S m_Md_number 0 [some (.ref 153), some (.int x1), some (.int x2), none, none] [] (enc σ) (qI Q)) : CM S m_Md_number [.ref 153, .int x1, .int x2] (enc σ) (qI Q) := b_meth (by decide) (Nat.le_of_ble_eq_true rfl) rfl H
theorem d_Md_begins_0 : decode m_Md_begins.2.1 0 = .ok (.aload_n 0, 1) := by decide +kernel
theorem d_Md_begins_1 : decode m_Md_begins.2.1 1 = .ok (.aload_n 0, 1) := by decide +kernel
theorem d_Md_begins_2 : decode m_Md_begins.2.1 2 = .ok (.getfield 7, 3) := by decide +kernel
theorem d_Md_begins_5 : decode m_Md_begins.2.1 5 = .ok (.putfield 84, 3) := by decide +kernel
theorem d_Md_begins_8 : decode m_Md_begins.2.1 8 = .ok (.aload_n 0, 1) := by decide +kernel
theorem d_Md_begins_9 : decode m_Md_begins.2.1 9 = .ok (.iconst 0, 1) := by decide +kernel
theorem d_Md_begins_10 : decode m_Md_begins.2.1 10 = .ok (.putfield 7, 3) := by decide +kernel
theorem d_Md_begins_13 : decode m_Md_begins.2.1 13 = .ok (.aload_n 0, 1) := by decide +kernel
theorem d_Md_begins_14 : decode m_Md_begins.2.1 14 = .ok (.iconst 0, 1) := by decide +kernel
theorem d_Md_begins_15 : decode m_Md_begins.2.1 15 = .ok (.putfield 81, 3) := by decide +kernel
theorem d_Md_begins_18 : decode m_Md_begins.2.1 18 = .ok (.aload_n 0, 1) := by decide +kernel
theorem d_Md_begins_19 : decode m_Md_begins.2.1 19 = .ok (.iconst 0, 1) := by decide +kernel
theorem d_Md_begins_20 : decode m_Md_begins.2.1 20 = .ok (.putfield 75, 3) := by decide +kernel
theorem d_Md_begins_23 : decode m_Md_begins.2.1 23 = .ok (.aload_n 0, 1) := by decide +kernel
theorem d_Md_begins_24 : decode m_Md_begins.2.1 24 = .ok (.iconst (-1), 1) := by decide +kernel
theorem d_Md_begins_25 : decode m_Md_begins.2.1 25 = .ok (.putfield 78, 3) := by decide +kernel
theorem d_Md_begins_28 : decode m_Md_begins.2.1 28 = .ok (.return_, 1) := by decide +kernel
set_option maxHeartbeats 4000000 in
set_option maxRecDepth 100000 in
theorem B_Md_begins_0 {S : XS} {Q : St → Prop} (σ : St)  (H : Q (sY (sY (sY (sY (sY σ 10 (gY σ 0)) 0 (0 : Int32)) 9 (0 : Int32)) 7 (0 : Int32)) 8 (-1 : Int32))) : BW S m_Md_begins 0 [some (.ref 153)] [] (enc σ) (qV Q) := by
  refine b_aload_n d_Md_begins_0 rfl rfl ?_
  refine b_aload_n d_Md_begins_1 rfl rfl ?_
  refine b_getf (v := .int (gY σ 0)) d_Md_begins_2 fl_Md_7 (eg_153 σ) rfl ?_
  refine b_putf (ty := .int) (h1 := enc (sY σ 10 (gY σ 0))) d_Md_begins_5 fl_Md_84 ft_12_24 (fun _ => ⟨rfl, rfl⟩) (eg_153 σ) (Nat.le_of_ble_eq_true rfl) (es_153_24 σ (gY σ 0)) ?_
  refine b_aload_n d_Md_begins_8 rfl rfl ?_
  refine b_iconst (v := (0 : Int32)) d_Md_begins_9 (by decide) ?_
  refine b_putf (ty := .int) (h1 := enc (sY (sY σ 10 (gY σ 0)) 0 (0 : Int32))) d_Md_begins_10 fl_Md_7 ft_12_1 (fun _ => ⟨rfl, rfl⟩) (eg_153 (sY σ 10 (gY σ 0))) (Nat.le_of_ble_eq_true rfl) (es_153_1 (sY σ 10 (gY σ 0)) (0 : Int32)) ?_
  refine b_aload_n d_Md_begins_13 rfl rfl ?_
  refine b_iconst (v := (0 : Int32)) d_Md_begins_14 (by decide) ?_
  refine b_putf (ty := .int) (h1 := enc (sY (sY (sY σ 10 (gY σ 0)) 0 (0 : Int32)) 9 (0 : Int32))) d_Md_begins_15 fl_Md_81 ft_12_23 (fun _ => ⟨rfl, rfl⟩) (eg_153 (sY (sY σ 10 (gY σ 0)) 0 (0 : Int32))) (Nat.le_of_ble_eq_true rfl) (es_153_23 (sY (sY σ 10 (gY σ 0)) 0 (0 : Int32)) (0 : Int32)) ?_
  refine b_aload_n d_Md_begins_18 rfl rfl ?_
  refine b_iconst (v := (0 : Int32)) d_Md_begins_19 (by decide) ?_
  refine b_putf (ty := .int) (h1 := enc (sY (sY (sY (sY σ 10 (gY σ 0)) 0 (0 : Int32)) 9 (0 : Int32)) 7 (0 : Int32))) d_Md_begins_20 fl_Md_75 ft_12_21 (fun _ => ⟨rfl, rfl⟩) (eg_153 (sY (sY (sY σ 10 (gY σ 0)) 0 (0 : Int32)) 9 (0 : Int32))) (Nat.le_of_ble_eq_true rfl) (es_153_21 (sY (sY (sY σ 10 (gY σ 0)) 0 (0 : Int32)) 9 (0 : Int32)) (0 : Int32)) ?_
  refine b_aload_n d_Md_begins_23 rfl rfl ?_
  refine b_iconst (v := (-1 : Int32)) d_Md_begins_24 (by decide) ?_
  refine b_putf (ty := .int) (h1 := enc (sY (sY (sY (sY (sY σ 10 (gY σ 0)) 0 (0 : Int32)) 9 (0 : Int32)) 7 (0 : Int32)) 8 (-1 : Int32))) d_Md_begins_25 fl_Md_78 ft_12_22 (fun _ => ⟨rfl, rfl⟩) (eg_153 (sY (sY (sY (sY σ 10 (gY σ 0)) 0 (0 : Int32)) 9 (0 : Int32)) 7 (0 : Int32))) (Nat.le_of_ble_eq_true rfl) (es_153_22 (sY (sY (sY (sY σ 10 (gY σ 0)) 0 (0 : Int32)) 9 (0 : Int32)) 7 (0 : Int32)) (-1 : Int32)) ?_
  exact b_vret d_Md_begins_28 rfl ⟨_, rfl, rfl, H⟩
theorem C_Md_begins {S : XS} {Q : St → Prop} (σ : St)  (H : BW S m_Md_begins 0 [some (.ref 153)] [] (enc σ) (qV Q)) : CM S m_Md_begins [.ref 153] (enc σ) (qV Q) := b_meth (by decide) (Nat.le_of_ble_eq_true rfl) rfl H
theorem d_Md_ends_0 : decode m_Md_ends.2.1 0 = .ok (.aload_n 0, 1) := by decide +kernel
theorem d_Md_ends_1 : decode m_Md_ends.2.1 1 = .ok (.getfield 75, 3) := by decide +kernel
theorem d_Md_ends_4 : decode m_Md_ends.2.1 4 = .ok (.ifCond .ne 9, 3) := by decide +kernel
theorem d_Md_ends_7 : decode m_Md_ends.2.1 7 = .ok (.aload_n 0, 1) := by decide +kernel
theorem d_Md_ends_8 : decode m_Md_ends.2.1 8 = .ok (.bipush 59, 2) := by decide +kernel
theorem d_Md_ends_10 : decode m_Md_ends.2.1 10 = .ok (.invokevirtual 231, 3) := by decide +kernel
theorem d_Md_ends_13 : decode m_Md_ends.2.1 13 = .ok (.aload_n 0, 1) := by decide +kernel
theorem d_Md_ends_14 : decode m_Md_ends.2.1 14 = .ok (.getfield 75, 3) := by decide +kernel
theorem d_Md_ends_17 : decode m_Md_ends.2.1 17 = .ok (.ifCond .ne 20, 3) := by decide +kernel
theorem d_Md_ends_20 : decode m_Md_ends.2.1 20 = .ok (.aload_n 0, 1) := by decide +kernel
theorem d_Md_ends_21 : decode m_Md_ends.2.1 21 = .ok (.invokevirtual 205, 3) := by decide +kernel
theorem d_Md_ends_24 : decode m_Md_ends.2.1 24 = .ok (.iconst (-1), 1) := by decide +kernel
theorem d_Md_ends_25 : decode m_Md_ends.2.1 25 = .ok (.if_icmp .eq 12, 3) := by decide +kernel
theorem d_Md_ends_28 : decode m_Md_ends.2.1 28 = .ok (.aload_n 0, 1) := by decide +kernel
theorem d_Md_ends_29 : decode m_Md_ends.2.1 29 = .ok (.iconst 1, 1) := by decide +kernel
theorem d_Md_ends_30 : decode m_Md_ends.2.1 30 = .ok (.aload_n 0, 1) := by decide +kernel
theorem d_Md_ends_31 : decode m_Md_ends.2.1 31 = .ok (.getfield 81, 3) := by decide +kernel
theorem d_Md_ends_34 : decode m_Md_ends.2.1 34 = .ok (.invokevirtual 209, 3) := by decide +kernel
theorem d_Md_ends_37 : decode m_Md_ends.2.1 37 = .ok (.return_, 1) := by decide +kernel
set_option maxHeartbeats 4000000 in
set_option maxRecDepth 100000 in
theorem B_Md_ends_0 {S : XS} {Q : St → Prop} (σ : St)  (H : ((¬ (gY σ 7) = 0 → ((¬ (gY σ 7) = 0 → Q σ) ∧ ((gY σ 7) = 0 → CM S m_Md_here [.ref 153] (enc σ) (qI (fun v1 τ2 => ((v1 = (-1 : Int32) → Q τ2) ∧ (¬ v1 = (-1 : Int32) → CM S m_Md_blame [.ref 153, .int (1 : Int32), .int (gY τ2 9)] (enc τ2) (qV (fun τ4 => Q τ4))))))))) ∧ ((gY σ 7) = 0 → CM S m_Md_must [.ref 153, .int (59 : Int32)] (enc σ) (qV (fun τ8 => ((¬ (gY τ8 7) = 0 → Q τ8) ∧ ((gY τ8 7) = 0 → CM S m_Md_here [.ref 153] (enc τ8) (qI (fun v9 τ10 => ((v9 = (-1 : Int32) → Q τ10) ∧ (¬ v9 = (-1 : Int32) → CM S m_Md_blame [.ref 153, .int (1 : Int32), .int (gY τ10 9)] (enc τ10) (qV (fun τ12 => Q τ12))))))))))))) : BW S m_Md_ends 0 [some (.ref 153)] [] (enc σ) (qV Q) := by
  refine b_aload_n d_Md_ends_0 rfl rfl ?_
  refine b_getf (v := .int (gY σ 7)) d_Md_ends_1 fl_Md_75 (eg_153 σ) rfl ?_
  refine b_if_ne (tgt := 13) d_Md_ends_4 (by decide) (fun c15 => ?_) (fun c15 => ?_)
  · have H := H.1 c15
    refine b_aload_n d_Md_ends_13 rfl rfl ?_
    refine b_getf (v := .int (gY σ 7)) d_Md_ends_14 fl_Md_75 (eg_153 σ) rfl ?_
    refine b_if_ne (tgt := 37) d_Md_ends_17 (by decide) (fun c6 => ?_) (fun c6 => ?_)
    · have H := H.1 c6
      exact b_vret d_Md_ends_37 rfl ⟨_, rfl, rfl, H⟩
    · have H := H.2 c6
      refine b_aload_n d_Md_ends_20 rfl rfl ?_
      refine b_callVi (Mc := m_Md_here) (As := []) (st := []) d_Md_ends_21 ⟨⟨kA_Md_here.1, kA_Md_here.2.1, kA_Md_here.2.2, by decide⟩, ml_Md_205, kV_Md_here⟩ (eg_153 σ) rfl rfl (Nat.le_of_ble_eq_true rfl) H (fun v1 τ2 H => ?_)
      refine b_iconst (v := (-1 : Int32)) d_Md_ends_24 (by decide) ?_
      refine b_icmp_eq (tgt := 37) d_Md_ends_25 (by decide) (fun c5 => ?_) (fun c5 => ?_)
      · have H := H.1 c5
        exact b_vret d_Md_ends_37 rfl ⟨_, rfl, rfl, H⟩
      · have H := H.2 c5
        refine b_aload_n d_Md_ends_28 rfl rfl ?_
        refine b_iconst (v := (1 : Int32)) d_Md_ends_29 (by decide) ?_
        refine b_aload_n d_Md_ends_30 rfl rfl ?_
        refine b_getf (v := .int (gY τ2 9)) d_Md_ends_31 fl_Md_81 (eg_153 τ2) rfl ?_
        refine b_callVv (Mc := m_Md_blame) (As := [.int (1 : Int32), .int (gY τ2 9)]) (st := []) d_Md_ends_34 ⟨⟨kA_Md_blame.1, kA_Md_blame.2.1, kA_Md_blame.2.2, by decide⟩, ml_Md_209, kV_Md_blame⟩ (eg_153 τ2) rfl rfl (Nat.le_of_ble_eq_true rfl) H (fun τ4 H => ?_)
        exact b_vret d_Md_ends_37 rfl ⟨_, rfl, rfl, H⟩
  · have H := H.2 c15
    refine b_aload_n d_Md_ends_7 rfl rfl ?_
    refine b_bipush (v := (59 : Int32)) d_Md_ends_8 (by decide) ?_
    refine b_callVv (Mc := m_Md_must) (As := [.int (59 : Int32)]) (st := []) d_Md_ends_10 ⟨⟨kA_Md_must.1, kA_Md_must.2.1, kA_Md_must.2.2, by decide⟩, ml_Md_231, kV_Md_must⟩ (eg_153 σ) rfl rfl (Nat.le_of_ble_eq_true rfl) H (fun τ8 H => ?_)
    refine b_aload_n d_Md_ends_13 rfl rfl ?_
    refine b_getf (v := .int (gY τ8 7)) d_Md_ends_14 fl_Md_75 (eg_153 τ8) rfl ?_
    refine b_if_ne (tgt := 37) d_Md_ends_17 (by decide) (fun c14 => ?_) (fun c14 => ?_)
    · have H := H.1 c14
      exact b_vret d_Md_ends_37 rfl ⟨_, rfl, rfl, H⟩
    · have H := H.2 c14
      refine b_aload_n d_Md_ends_20 rfl rfl ?_
      refine b_callVi (Mc := m_Md_here) (As := []) (st := []) d_Md_ends_21 ⟨⟨kA_Md_here.1, kA_Md_here.2.1, kA_Md_here.2.2, by decide⟩, ml_Md_205, kV_Md_here⟩ (eg_153 τ8) rfl rfl (Nat.le_of_ble_eq_true rfl) H (fun v9 τ10 H => ?_)
      refine b_iconst (v := (-1 : Int32)) d_Md_ends_24 (by decide) ?_
      refine b_icmp_eq (tgt := 37) d_Md_ends_25 (by decide) (fun c13 => ?_) (fun c13 => ?_)
      · have H := H.1 c13
        exact b_vret d_Md_ends_37 rfl ⟨_, rfl, rfl, H⟩
      · have H := H.2 c13
        refine b_aload_n d_Md_ends_28 rfl rfl ?_
        refine b_iconst (v := (1 : Int32)) d_Md_ends_29 (by decide) ?_
        refine b_aload_n d_Md_ends_30 rfl rfl ?_
        refine b_getf (v := .int (gY τ10 9)) d_Md_ends_31 fl_Md_81 (eg_153 τ10) rfl ?_
        refine b_callVv (Mc := m_Md_blame) (As := [.int (1 : Int32), .int (gY τ10 9)]) (st := []) d_Md_ends_34 ⟨⟨kA_Md_blame.1, kA_Md_blame.2.1, kA_Md_blame.2.2, by decide⟩, ml_Md_209, kV_Md_blame⟩ (eg_153 τ10) rfl rfl (Nat.le_of_ble_eq_true rfl) H (fun τ12 H => ?_)
        exact b_vret d_Md_ends_37 rfl ⟨_, rfl, rfl, H⟩
theorem C_Md_ends {S : XS} {Q : St → Prop} (σ : St)  (H : BW S m_Md_ends 0 [some (.ref 153)] [] (enc σ) (qV Q)) : CM S m_Md_ends [.ref 153] (enc σ) (qV Q) := b_meth (by decide) (Nat.le_of_ble_eq_true rfl) rfl H
theorem d_Md_fault_0 : decode m_Md_fault.2.1 0 = .ok (.iload_n 1, 1) := by decide +kernel
theorem d_Md_fault_1 : decode m_Md_fault.2.1 1 = .ok (.ifCond .ne 10, 3) := by decide +kernel
theorem d_Md_fault_4 : decode m_Md_fault.2.1 4 = .ok (.aload_n 0, 1) := by decide +kernel
theorem d_Md_fault_5 : decode m_Md_fault.2.1 5 = .ok (.getfield 75, 3) := by decide +kernel
theorem d_Md_fault_8 : decode m_Md_fault.2.1 8 = .ok (.goto 16, 3) := by decide +kernel
theorem d_Md_fault_11 : decode m_Md_fault.2.1 11 = .ok (.iload_n 1, 1) := by decide +kernel
theorem d_Md_fault_12 : decode m_Md_fault.2.1 12 = .ok (.iconst 1, 1) := by decide +kernel
theorem d_Md_fault_13 : decode m_Md_fault.2.1 13 = .ok (.if_icmp .ne 10, 3) := by decide +kernel
theorem d_Md_fault_16 : decode m_Md_fault.2.1 16 = .ok (.aload_n 0, 1) := by decide +kernel
theorem d_Md_fault_17 : decode m_Md_fault.2.1 17 = .ok (.getfield 78, 3) := by decide +kernel
theorem d_Md_fault_20 : decode m_Md_fault.2.1 20 = .ok (.goto 4, 3) := by decide +kernel
theorem d_Md_fault_23 : decode m_Md_fault.2.1 23 = .ok (.iconst (-1), 1) := by decide +kernel
theorem d_Md_fault_24 : decode m_Md_fault.2.1 24 = .ok (.ireturn, 1) := by decide +kernel
set_option maxHeartbeats 4000000 in
set_option maxRecDepth 100000 in
theorem B_Md_fault_0 {S : XS} {Q : Int32 → St → Prop} (σ : St) (x1 : Int32) (H : ((¬ x1 = 0 → ((¬ x1 = (1 : Int32) → Q (-1 : Int32) σ) ∧ (x1 = (1 : Int32) → Q (gY σ 8) σ))) ∧ (x1 = 0 → Q (gY σ 7) σ))) : BW S m_Md_fault 0 [some (.ref 153), some (.int x1)] [] (enc σ) (qI Q) := by
  refine b_iload_n d_Md_fault_0 rfl rfl ?_
  refine b_if_ne (tgt := 11) d_Md_fault_1 (by decide) (fun c2 => ?_) (fun c2 => ?_)
  · have H := H.1 c2
    refine b_iload_n d_Md_fault_11 rfl rfl ?_
    refine b_iconst (v := (1 : Int32)) d_Md_fault_12 (by decide) ?_
    refine b_icmp_ne (tgt := 23) d_Md_fault_13 (by decide) (fun c1 => ?_) (fun c1 => ?_)
    · have H := H.1 c1
      refine b_iconst (v := (-1 : Int32)) d_Md_fault_23 (by decide) ?_
      exact b_iret (ty := .int) d_Md_fault_24 rfl rfl ⟨_, _, rfl, rfl, H⟩
    · have H := H.2 c1
      refine b_aload_n d_Md_fault_16 rfl rfl ?_
      refine b_getf (v := .int (gY σ 8)) d_Md_fault_17 fl_Md_78 (eg_153 σ) rfl ?_
      refine b_goto (tgt := 24) d_Md_fault_20 (by decide) ?_
      exact b_iret (ty := .int) d_Md_fault_24 rfl rfl ⟨_, _, rfl, rfl, H⟩
  · have H := H.2 c2
    refine b_aload_n d_Md_fault_4 rfl rfl ?_
    refine b_getf (v := .int (gY σ 7)) d_Md_fault_5 fl_Md_75 (eg_153 σ) rfl ?_
    refine b_goto (tgt := 24) d_Md_fault_8 (by decide) ?_
    exact b_iret (ty := .int) d_Md_fault_24 rfl rfl ⟨_, _, rfl, rfl, H⟩
theorem C_Md_fault {S : XS} {Q : Int32 → St → Prop} (σ : St) (x1 : Int32) (H : BW S m_Md_fault 0 [some (.ref 153), some (.int x1)] [] (enc σ) (qI Q)) : CM S m_Md_fault [.ref 153, .int x1] (enc σ) (qI Q) := b_meth (by decide) (Nat.le_of_ble_eq_true rfl) rfl H
theorem d_Md_isPart_0 : decode m_Md_isPart.2.1 0 = .ok (.iload_n 0, 1) := by decide +kernel
theorem d_Md_isPart_1 : decode m_Md_isPart.2.1 1 = .ok (.ifCond .lt 13, 3) := by decide +kernel
theorem d_Md_isPart_4 : decode m_Md_isPart.2.1 4 = .ok (.iload_n 0, 1) := by decide +kernel
theorem d_Md_isPart_5 : decode m_Md_isPart.2.1 5 = .ok (.bipush 24, 2) := by decide +kernel
theorem d_Md_isPart_7 : decode m_Md_isPart.2.1 7 = .ok (.if_icmp .ge 7, 3) := by decide +kernel
theorem d_Md_isPart_10 : decode m_Md_isPart.2.1 10 = .ok (.iconst 1, 1) := by decide +kernel
theorem d_Md_isPart_11 : decode m_Md_isPart.2.1 11 = .ok (.goto 4, 3) := by decide +kernel
theorem d_Md_isPart_14 : decode m_Md_isPart.2.1 14 = .ok (.iconst 0, 1) := by decide +kernel
theorem d_Md_isPart_15 : decode m_Md_isPart.2.1 15 = .ok (.ireturn, 1) := by decide +kernel
set_option maxHeartbeats 4000000 in
set_option maxRecDepth 100000 in
theorem B_Md_isPart_0 {S : XS} {Q : Int32 → St → Prop} (σ : St) (x0 : Int32) (H : ((x0 < 0 → Q (0 : Int32) σ) ∧ (¬ x0 < 0 → (((24 : Int32) ≤ x0 → Q (0 : Int32) σ) ∧ (¬ (24 : Int32) ≤ x0 → Q (1 : Int32) σ))))) : BW S m_Md_isPart 0 [some (.int x0)] [] (enc σ) (qI Q) := by
  refine b_iload_n d_Md_isPart_0 rfl rfl ?_
  refine b_if_lt (tgt := 14) d_Md_isPart_1 (by decide) (fun c2 => ?_) (fun c2 => ?_)
  · have H := H.1 c2
    refine b_iconst (v := (0 : Int32)) d_Md_isPart_14 (by decide) ?_
    exact b_iret (ty := .boolean) d_Md_isPart_15 rfl rfl ⟨_, _, rfl, rfl, H⟩
  · have H := H.2 c2
    refine b_iload_n d_Md_isPart_4 rfl rfl ?_
    refine b_bipush (v := (24 : Int32)) d_Md_isPart_5 (by decide) ?_
    refine b_icmp_ge (tgt := 14) d_Md_isPart_7 (by decide) (fun c1 => ?_) (fun c1 => ?_)
    · have H := H.1 c1
      refine b_iconst (v := (0 : Int32)) d_Md_isPart_14 (by decide) ?_
      exact b_iret (ty := .boolean) d_Md_isPart_15 rfl rfl ⟨_, _, rfl, rfl, H⟩
    · have H := H.2 c1
      refine b_iconst (v := (1 : Int32)) d_Md_isPart_10 (by decide) ?_
      refine b_goto (tgt := 15) d_Md_isPart_11 (by decide) ?_
      exact b_iret (ty := .boolean) d_Md_isPart_15 rfl rfl ⟨_, _, rfl, rfl, H⟩
theorem C_Md_isPart {S : XS} {Q : Int32 → St → Prop} (σ : St) (x0 : Int32) (H : BW S m_Md_isPart 0 [some (.int x0)] [] (enc σ) (qI Q)) : CM S m_Md_isPart [.int x0] (enc σ) (qI Q) := b_meth (by decide) (Nat.le_of_ble_eq_true rfl) rfl H
