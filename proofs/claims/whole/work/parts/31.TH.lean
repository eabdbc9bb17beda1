/-! block rules, by program -/
theorem d_TH_feed_0 : decode m_TH_feed.2.1 0 = .ok (.aload_n 0, 1) := by decide +kernel
theorem d_TH_feed_1 : decode m_TH_feed.2.1 1 = .ok (.getfield 10, 3) := by decide +kernel
theorem d_TH_feed_4 : decode m_TH_feed.2.1 4 = .ok (.invokevirtual 65, 3) := by decide +kernel
theorem d_TH_feed_7 : decode m_TH_feed.2.1 7 = .ok (.ifCond .ne 5, 3) := by decide +kernel
theorem d_TH_feed_10 : decode m_TH_feed.2.1 10 = .ok (.iconst (-1), 1) := by decide +kernel
theorem d_TH_feed_11 : decode m_TH_feed.2.1 11 = .ok (.ireturn, 1) := by decide +kernel
theorem d_TH_feed_12 : decode m_TH_feed.2.1 12 = .ok (.aload_n 0, 1) := by decide +kernel
theorem d_TH_feed_13 : decode m_TH_feed.2.1 13 = .ok (.getfield 10, 3) := by decide +kernel
theorem d_TH_feed_16 : decode m_TH_feed.2.1 16 = .ok (.iload_n 1, 1) := by decide +kernel
theorem d_TH_feed_17 : decode m_TH_feed.2.1 17 = .ok (.invokevirtual 69, 3) := by decide +kernel
theorem d_TH_feed_20 : decode m_TH_feed.2.1 20 = .ok (.aload_n 0, 1) := by decide +kernel
theorem d_TH_feed_21 : decode m_TH_feed.2.1 21 = .ok (.getfield 10, 3) := by decide +kernel
theorem d_TH_feed_24 : decode m_TH_feed.2.1 24 = .ok (.iload_n 2, 1) := by decide +kernel
theorem d_TH_feed_25 : decode m_TH_feed.2.1 25 = .ok (.invokevirtual 69, 3) := by decide +kernel
theorem d_TH_feed_28 : decode m_TH_feed.2.1 28 = .ok (.aload_n 0, 1) := by decide +kernel
theorem d_TH_feed_29 : decode m_TH_feed.2.1 29 = .ok (.getfield 10, 3) := by decide +kernel
theorem d_TH_feed_32 : decode m_TH_feed.2.1 32 = .ok (.iload_n 3, 1) := by decide +kernel
theorem d_TH_feed_33 : decode m_TH_feed.2.1 33 = .ok (.invokevirtual 69, 3) := by decide +kernel
theorem d_TH_feed_36 : decode m_TH_feed.2.1 36 = .ok (.aload_n 0, 1) := by decide +kernel
theorem d_TH_feed_37 : decode m_TH_feed.2.1 37 = .ok (.getfield 10, 3) := by decide +kernel
theorem d_TH_feed_40 : decode m_TH_feed.2.1 40 = .ok (.iload 4, 2) := by decide +kernel
theorem d_TH_feed_42 : decode m_TH_feed.2.1 42 = .ok (.invokevirtual 69, 3) := by decide +kernel
theorem d_TH_feed_45 : decode m_TH_feed.2.1 45 = .ok (.aload_n 0, 1) := by decide +kernel
theorem d_TH_feed_46 : decode m_TH_feed.2.1 46 = .ok (.getfield 10, 3) := by decide +kernel
theorem d_TH_feed_49 : decode m_TH_feed.2.1 49 = .ok (.iload 5, 2) := by decide +kernel
theorem d_TH_feed_51 : decode m_TH_feed.2.1 51 = .ok (.invokevirtual 69, 3) := by decide +kernel
theorem d_TH_feed_54 : decode m_TH_feed.2.1 54 = .ok (.aload_n 0, 1) := by decide +kernel
theorem d_TH_feed_55 : decode m_TH_feed.2.1 55 = .ok (.getfield 10, 3) := by decide +kernel
theorem d_TH_feed_58 : decode m_TH_feed.2.1 58 = .ok (.getfield 73, 3) := by decide +kernel
theorem d_TH_feed_61 : decode m_TH_feed.2.1 61 = .ok (.ireturn, 1) := by decide +kernel
set_option maxHeartbeats 4000000 in
set_option maxRecDepth 100000 in
theorem B_TH_feed_0 {S : XS} {Q : Int32 → St → Prop} (σ : St) (x1 : Int32) (x2 : Int32) (x3 : Int32) (x4 : Int32) (x5 : Int32) (H : CM S m_Tp_hasRoom [.ref 1] (enc σ) (qI (fun v1 τ2 => ((¬ v1 = 0 → CM S m_Tp_append [.ref 1, .int x1] (enc τ2) (qV (fun τ4 => CM S m_Tp_append [.ref 1, .int x2] (enc τ4) (qV (fun τ6 => CM S m_Tp_append [.ref 1, .int x3] (enc τ6) (qV (fun τ8 => CM S m_Tp_append [.ref 1, .int x4] (enc τ8) (qV (fun τ10 => CM S m_Tp_append [.ref 1, .int x5] (enc τ10) (qV (fun τ12 => Q (gX τ12 0) τ12))))))))))) ∧ (v1 = 0 → Q (-1 : Int32) τ2))))) : BW S m_TH_feed 0 [some (.ref 0), some (.int x1), some (.int x2), some (.int x3), some (.int x4), some (.int x5)] [] (enc σ) (qI Q) := by
  refine b_aload_n d_TH_feed_0 rfl rfl ?_
  refine b_getf (v := .ref 1) d_TH_feed_1 fl_TH_10 (eg_0 σ) rfl ?_
  refine b_callVi (Mc := m_Tp_hasRoom) (As := []) (st := []) d_TH_feed_4 ⟨⟨kA_Tp_hasRoom.1, kA_Tp_hasRoom.2.1, kA_Tp_hasRoom.2.2, by decide⟩, ml_TH_65, kV_Tp_hasRoom⟩ (eg_1 σ) rfl rfl (Nat.le_of_ble_eq_true rfl) H (fun v1 τ2 H => ?_)
  refine b_if_ne (tgt := 12) d_TH_feed_7 (by decide) (fun c13 => ?_) (fun c13 => ?_)
  · have H := H.1 c13
    refine b_aload_n d_TH_feed_12 rfl rfl ?_
    refine b_getf (v := .ref 1) d_TH_feed_13 fl_TH_10 (eg_0 τ2) rfl ?_
    refine b_iload_n d_TH_feed_16 rfl rfl ?_
    refine b_callVv (Mc := m_Tp_append) (As := [.int x1]) (st := []) d_TH_feed_17 ⟨⟨kA_Tp_append.1, kA_Tp_append.2.1, kA_Tp_append.2.2, by decide⟩, ml_TH_69, kV_Tp_append⟩ (eg_1 τ2) rfl rfl (Nat.le_of_ble_eq_true rfl) H (fun τ4 H => ?_)
    refine b_aload_n d_TH_feed_20 rfl rfl ?_
    refine b_getf (v := .ref 1) d_TH_feed_21 fl_TH_10 (eg_0 τ4) rfl ?_
    refine b_iload_n d_TH_feed_24 rfl rfl ?_
    refine b_callVv (Mc := m_Tp_append) (As := [.int x2]) (st := []) d_TH_feed_25 ⟨⟨kA_Tp_append.1, kA_Tp_append.2.1, kA_Tp_append.2.2, by decide⟩, ml_TH_69, kV_Tp_append⟩ (eg_1 τ4) rfl rfl (Nat.le_of_ble_eq_true rfl) H (fun τ6 H => ?_)
    refine b_aload_n d_TH_feed_28 rfl rfl ?_
    refine b_getf (v := .ref 1) d_TH_feed_29 fl_TH_10 (eg_0 τ6) rfl ?_
    refine b_iload_n d_TH_feed_32 rfl rfl ?_
    refine b_callVv (Mc := m_Tp_append) (As := [.int x3]) (st := []) d_TH_feed_33 ⟨⟨kA_Tp_append.1, kA_Tp_append.2.1, kA_Tp_append.2.2, by decide⟩, ml_TH_69, kV_Tp_append⟩ (eg_1 τ6) rfl rfl (Nat.le_of_ble_eq_true rfl) H (fun τ8 H => ?_)
    refine b_aload_n d_TH_feed_36 rfl rfl ?_
    refine b_getf (v := .ref 1) d_TH_feed_37 fl_TH_10 (eg_0 τ8) rfl ?_
    refine b_iload d_TH_feed_40 rfl ?_
    refine b_callVv (Mc := m_Tp_append) (As := [.int x4]) (st := []) d_TH_feed_42 ⟨⟨kA_Tp_append.1, kA_Tp_append.2.1, kA_Tp_append.2.2, by decide⟩, ml_TH_69, kV_Tp_append⟩ (eg_1 τ8) rfl rfl (Nat.le_of_ble_eq_true rfl) H (fun τ10 H => ?_)
    refine b_aload_n d_TH_feed_45 rfl rfl ?_
    refine b_getf (v := .ref 1) d_TH_feed_46 fl_TH_10 (eg_0 τ10) rfl ?_
    refine b_iload d_TH_feed_49 rfl ?_
    refine b_callVv (Mc := m_Tp_append) (As := [.int x5]) (st := []) d_TH_feed_51 ⟨⟨kA_Tp_append.1, kA_Tp_append.2.1, kA_Tp_append.2.2, by decide⟩, ml_TH_69, kV_Tp_append⟩ (eg_1 τ10) rfl rfl (Nat.le_of_ble_eq_true rfl) H (fun τ12 H => ?_)
    refine b_aload_n d_TH_feed_54 rfl rfl ?_
    refine b_getf (v := .ref 1) d_TH_feed_55 fl_TH_10 (eg_0 τ12) rfl ?_
    refine b_getfN (v := .int (gX τ12 0)) d_TH_feed_58 fn_TH_73 (eg_1 τ12) rfl ?_
    exact b_iret (ty := .int) d_TH_feed_61 rfl rfl ⟨_, _, rfl, rfl, H⟩
  · have H := H.2 c13
    refine b_iconst (v := (-1 : Int32)) d_TH_feed_10 (by decide) ?_
    exact b_iret (ty := .int) d_TH_feed_11 rfl rfl ⟨_, _, rfl, rfl, H⟩
theorem C_TH_feed {S : XS} {Q : Int32 → St → Prop} (σ : St) (x1 : Int32) (x2 : Int32) (x3 : Int32) (x4 : Int32) (x5 : Int32) (H : BW S m_TH_feed 0 [some (.ref 0), some (.int x1), some (.int x2), some (.int x3), some (.int x4), some (.int x5)] [] (enc σ) (qI Q)) : CM S m_TH_feed [.ref 0, .int x1, .int x2, .int x3, .int x4, .int x5] (enc σ) (qI Q) := b_meth (by decide) (Nat.le_of_ble_eq_true rfl) rfl H
theorem d_TH_end_0 : decode m_TH_end.2.1 0 = .ok (.aload_n 0, 1) := by decide +kernel
theorem d_TH_end_1 : decode m_TH_end.2.1 1 = .ok (.getfield 10, 3) := by decide +kernel
theorem d_TH_end_4 : decode m_TH_end.2.1 4 = .ok (.iload_n 1, 1) := by decide +kernel
theorem d_TH_end_5 : decode m_TH_end.2.1 5 = .ok (.invokevirtual 77, 3) := by decide +kernel
theorem d_TH_end_8 : decode m_TH_end.2.1 8 = .ok (.ireturn, 1) := by decide +kernel
set_option maxHeartbeats 4000000 in
set_option maxRecDepth 100000 in
theorem B_TH_end_0 {S : XS} {Q : Int32 → St → Prop} (σ : St) (x1 : Int32) (H : CM S m_Tp_shorten [.ref 1, .int x1] (enc σ) (qI (fun v1 τ2 => (narrow .boolean (.int v1) = .int v1) ∧ Q v1 τ2))) : BW S m_TH_end 0 [some (.ref 0), some (.int x1)] [] (enc σ) (qI Q) := by
  refine b_aload_n d_TH_end_0 rfl rfl ?_
  refine b_getf (v := .ref 1) d_TH_end_1 fl_TH_10 (eg_0 σ) rfl ?_
  refine b_iload_n d_TH_end_4 rfl rfl ?_
  refine b_callVi (Mc := m_Tp_shorten) (As := [.int x1]) (st := []) d_TH_end_5 ⟨⟨kA_Tp_shorten.1, kA_Tp_shorten.2.1, kA_Tp_shorten.2.2, by decide⟩, ml_TH_77, kV_Tp_shorten⟩ (eg_1 σ) rfl rfl (Nat.le_of_ble_eq_true rfl) H (fun v1 τ2 H => ?_)
  obtain ⟨h3, H⟩ := H
  exact b_iret (ty := .boolean) d_TH_end_8 rfl h3 ⟨_, _, rfl, rfl, H⟩
theorem C_TH_end {S : XS} {Q : Int32 → St → Prop} (σ : St) (x1 : Int32) (H : BW S m_TH_end 0 [some (.ref 0), some (.int x1)] [] (enc σ) (qI Q)) : CM S m_TH_end [.ref 0, .int x1] (enc σ) (qI Q) := b_meth (by decide) (Nat.le_of_ble_eq_true rfl) rfl H
theorem d_TH_paragraph_0 : decode m_TH_paragraph.2.1 0 = .ok (.aload_n 0, 1) := by decide +kernel
theorem d_TH_paragraph_1 : decode m_TH_paragraph.2.1 1 = .ok (.getfield 19, 3) := by decide +kernel
theorem d_TH_paragraph_4 : decode m_TH_paragraph.2.1 4 = .ok (.iload_n 1, 1) := by decide +kernel
theorem d_TH_paragraph_5 : decode m_TH_paragraph.2.1 5 = .ok (.invokevirtual 81, 3) := by decide +kernel
theorem d_TH_paragraph_8 : decode m_TH_paragraph.2.1 8 = .ok (.ireturn, 1) := by decide +kernel
set_option maxHeartbeats 4000000 in
set_option maxRecDepth 100000 in
theorem B_TH_paragraph_0 {S : XS} {Q : Int32 → St → Prop} (σ : St) (x1 : Int32) (H : CM S m_Mn_addParagraph [.ref 3, .int x1] (enc σ) (qI (fun v1 τ2 => Q v1 τ2))) : BW S m_TH_paragraph 0 [some (.ref 0), some (.int x1)] [] (enc σ) (qI Q) := by
  refine b_aload_n d_TH_paragraph_0 rfl rfl ?_
  refine b_getf (v := .ref 3) d_TH_paragraph_1 fl_TH_19 (eg_0 σ) rfl ?_
  refine b_iload_n d_TH_paragraph_4 rfl rfl ?_
  refine b_callVi (Mc := m_Mn_addParagraph) (As := [.int x1]) (st := []) d_TH_paragraph_5 ⟨⟨kA_Mn_addParagraph.1, kA_Mn_addParagraph.2.1, kA_Mn_addParagraph.2.2, by decide⟩, ml_TH_81, kV_Mn_addParagraph⟩ (eg_3 σ) rfl rfl (Nat.le_of_ble_eq_true rfl) H (fun v1 τ2 H => ?_)
  exact b_iret (ty := .int) d_TH_paragraph_8 rfl rfl ⟨_, _, rfl, rfl, H⟩
theorem C_TH_paragraph {S : XS} {Q : Int32 → St → Prop} (σ : St) (x1 : Int32) (H : BW S m_TH_paragraph 0 [some (.ref 0), some (.int x1)] [] (enc σ) (qI Q)) : CM S m_TH_paragraph [.ref 0, .int x1] (enc σ) (qI Q) := b_meth (by decide) (Nat.le_of_ble_eq_true rfl) rfl H
theorem d_TH_word_0 : decode m_TH_word.2.1 0 = .ok (.aload_n 0, 1) := by decide +kernel
theorem d_TH_word_1 : decode m_TH_word.2.1 1 = .ok (.getfield 19, 3) := by decide +kernel
theorem d_TH_word_4 : decode m_TH_word.2.1 4 = .ok (.iload_n 1, 1) := by decide +kernel
theorem d_TH_word_5 : decode m_TH_word.2.1 5 = .ok (.invokevirtual 85, 3) := by decide +kernel
theorem d_TH_word_8 : decode m_TH_word.2.1 8 = .ok (.ireturn, 1) := by decide +kernel
set_option maxHeartbeats 4000000 in
set_option maxRecDepth 100000 in
theorem B_TH_word_0 {S : XS} {Q : Int32 → St → Prop} (σ : St) (x1 : Int32) (H : CM S m_Mn_addWord [.ref 3, .int x1] (enc σ) (qI (fun v1 τ2 => Q v1 τ2))) : BW S m_TH_word 0 [some (.ref 0), some (.int x1)] [] (enc σ) (qI Q) := by
  refine b_aload_n d_TH_word_0 rfl rfl ?_
  refine b_getf (v := .ref 3) d_TH_word_1 fl_TH_19 (eg_0 σ) rfl ?_
  refine b_iload_n d_TH_word_4 rfl rfl ?_
  refine b_callVi (Mc := m_Mn_addWord) (As := [.int x1]) (st := []) d_TH_word_5 ⟨⟨kA_Mn_addWord.1, kA_Mn_addWord.2.1, kA_Mn_addWord.2.2, by decide⟩, ml_TH_85, kV_Mn_addWord⟩ (eg_3 σ) rfl rfl (Nat.le_of_ble_eq_true rfl) H (fun v1 τ2 H => ?_)
  exact b_iret (ty := .int) d_TH_word_8 rfl rfl ⟨_, _, rfl, rfl, H⟩
theorem C_TH_word {S : XS} {Q : Int32 → St → Prop} (σ : St) (x1 : Int32) (H : BW S m_TH_word 0 [some (.ref 0), some (.int x1)] [] (enc σ) (qI Q)) : CM S m_TH_word [.ref 0, .int x1] (enc σ) (qI Q) := b_meth (by decide) (Nat.le_of_ble_eq_true rfl) rfl H
theorem d_TH_clear_0 : decode m_TH_clear.2.1 0 = .ok (.aload_n 0, 1) := by decide +kernel
theorem d_TH_clear_1 : decode m_TH_clear.2.1 1 = .ok (.getfield 19, 3) := by decide +kernel
theorem d_TH_clear_4 : decode m_TH_clear.2.1 4 = .ok (.invokevirtual 88, 3) := by decide +kernel
theorem d_TH_clear_7 : decode m_TH_clear.2.1 7 = .ok (.ireturn, 1) := by decide +kernel
set_option maxHeartbeats 4000000 in
set_option maxRecDepth 100000 in
theorem B_TH_clear_0 {S : XS} {Q : Int32 → St → Prop} (σ : St)  (H : CM S m_Mn_empty [.ref 3] (enc σ) (qI (fun v1 τ2 => Q v1 τ2))) : BW S m_TH_clear 0 [some (.ref 0)] [] (enc σ) (qI Q) := by
  refine b_aload_n d_TH_clear_0 rfl rfl ?_
  refine b_getf (v := .ref 3) d_TH_clear_1 fl_TH_19 (eg_0 σ) rfl ?_
  refine b_callVi (Mc := m_Mn_empty) (As := []) (st := []) d_TH_clear_4 ⟨⟨kA_Mn_empty.1, kA_Mn_empty.2.1, kA_Mn_empty.2.2, by decide⟩, ml_TH_88, kV_Mn_empty⟩ (eg_3 σ) rfl rfl (Nat.le_of_ble_eq_true rfl) H (fun v1 τ2 H => ?_)
  exact b_iret (ty := .int) d_TH_clear_7 rfl rfl ⟨_, _, rfl, rfl, H⟩
theorem C_TH_clear {S : XS} {Q : Int32 → St → Prop} (σ : St)  (H : BW S m_TH_clear 0 [some (.ref 0)] [] (enc σ) (qI Q)) : CM S m_TH_clear [.ref 0] (enc σ) (qI Q) := b_meth (by decide) (Nat.le_of_ble_eq_true rfl) rfl H
theorem d_TH_page_0 : decode m_TH_page.2.1 0 = .ok (.aload_n 0, 1) := by decide +kernel
theorem d_TH_page_1 : decode m_TH_page.2.1 1 = .ok (.getfield 19, 3) := by decide +kernel
theorem d_TH_page_4 : decode m_TH_page.2.1 4 = .ok (.iload_n 1, 1) := by decide +kernel
theorem d_TH_page_5 : decode m_TH_page.2.1 5 = .ok (.iload_n 2, 1) := by decide +kernel
theorem d_TH_page_6 : decode m_TH_page.2.1 6 = .ok (.iload_n 3, 1) := by decide +kernel
theorem d_TH_page_7 : decode m_TH_page.2.1 7 = .ok (.iload 4, 2) := by decide +kernel
theorem d_TH_page_9 : decode m_TH_page.2.1 9 = .ok (.invokevirtual 92, 3) := by decide +kernel
theorem d_TH_page_12 : decode m_TH_page.2.1 12 = .ok (.ireturn, 1) := by decide +kernel
set_option maxHeartbeats 4000000 in
set_option maxRecDepth 100000 in
theorem B_TH_page_0 {S : XS} {Q : Int32 → St → Prop} (σ : St) (x1 : Int32) (x2 : Int32) (x3 : Int32) (x4 : Int32) (H : CM S m_Mn_shape [.ref 3, .int x1, .int x2, .int x3, .int x4] (enc σ) (qI (fun v1 τ2 => (narrow .boolean (.int v1) = .int v1) ∧ Q v1 τ2))) : BW S m_TH_page 0 [some (.ref 0), some (.int x1), some (.int x2), some (.int x3), some (.int x4)] [] (enc σ) (qI Q) := by
  refine b_aload_n d_TH_page_0 rfl rfl ?_
  refine b_getf (v := .ref 3) d_TH_page_1 fl_TH_19 (eg_0 σ) rfl ?_
  refine b_iload_n d_TH_page_4 rfl rfl ?_
  refine b_iload_n d_TH_page_5 rfl rfl ?_
  refine b_iload_n d_TH_page_6 rfl rfl ?_
  refine b_iload d_TH_page_7 rfl ?_
  refine b_callVi (Mc := m_Mn_shape) (As := [.int x1, .int x2, .int x3, .int x4]) (st := []) d_TH_page_9 ⟨⟨kA_Mn_shape.1, kA_Mn_shape.2.1, kA_Mn_shape.2.2, by decide⟩, ml_TH_92, kV_Mn_shape⟩ (eg_3 σ) rfl rfl (Nat.le_of_ble_eq_true rfl) H (fun v1 τ2 H => ?_)
  obtain ⟨h3, H⟩ := H
  exact b_iret (ty := .boolean) d_TH_page_12 rfl h3 ⟨_, _, rfl, rfl, H⟩
theorem C_TH_page {S : XS} {Q : Int32 → St → Prop} (σ : St) (x1 : Int32) (x2 : Int32) (x3 : Int32) (x4 : Int32) (H : BW S m_TH_page 0 [some (.ref 0), some (.int x1), some (.int x2), some (.int x3), some (.int x4)] [] (enc σ) (qI Q)) : CM S m_TH_page [.ref 0, .int x1, .int x2, .int x3, .int x4] (enc σ) (qI Q) := b_meth (by decide) (Nat.le_of_ble_eq_true rfl) rfl H
theorem d_TH_lines_0 : decode m_TH_lines.2.1 0 = .ok (.iload_n 1, 1) := by decide +kernel
theorem d_TH_lines_1 : decode m_TH_lines.2.1 1 = .ok (.ifCond .lt 18, 3) := by decide +kernel
theorem d_TH_lines_4 : decode m_TH_lines.2.1 4 = .ok (.iload_n 1, 1) := by decide +kernel
theorem d_TH_lines_5 : decode m_TH_lines.2.1 5 = .ok (.aload_n 0, 1) := by decide +kernel
theorem d_TH_lines_6 : decode m_TH_lines.2.1 6 = .ok (.getfield 19, 3) := by decide +kernel
theorem d_TH_lines_9 : decode m_TH_lines.2.1 9 = .ok (.getfield 96, 3) := by decide +kernel
theorem d_TH_lines_12 : decode m_TH_lines.2.1 12 = .ok (.if_icmp .ge 7, 3) := by decide +kernel
theorem d_TH_lines_15 : decode m_TH_lines.2.1 15 = .ok (.iload_n 2, 1) := by decide +kernel
theorem d_TH_lines_16 : decode m_TH_lines.2.1 16 = .ok (.ifCond .ge 5, 3) := by decide +kernel
theorem d_TH_lines_19 : decode m_TH_lines.2.1 19 = .ok (.iconst (-1), 1) := by decide +kernel
theorem d_TH_lines_20 : decode m_TH_lines.2.1 20 = .ok (.ireturn, 1) := by decide +kernel
theorem d_TH_lines_21 : decode m_TH_lines.2.1 21 = .ok (.aload_n 0, 1) := by decide +kernel
theorem d_TH_lines_22 : decode m_TH_lines.2.1 22 = .ok (.getfield 19, 3) := by decide +kernel
theorem d_TH_lines_25 : decode m_TH_lines.2.1 25 = .ok (.iload_n 1, 1) := by decide +kernel
theorem d_TH_lines_26 : decode m_TH_lines.2.1 26 = .ok (.invokevirtual 99, 3) := by decide +kernel
theorem d_TH_lines_29 : decode m_TH_lines.2.1 29 = .ok (.aload_n 0, 1) := by decide +kernel
theorem d_TH_lines_30 : decode m_TH_lines.2.1 30 = .ok (.getfield 19, 3) := by decide +kernel
theorem d_TH_lines_33 : decode m_TH_lines.2.1 33 = .ok (.iload_n 1, 1) := by decide +kernel
theorem d_TH_lines_34 : decode m_TH_lines.2.1 34 = .ok (.iload_n 2, 1) := by decide +kernel
theorem d_TH_lines_35 : decode m_TH_lines.2.1 35 = .ok (.invokevirtual 102, 3) := by decide +kernel
theorem d_TH_lines_38 : decode m_TH_lines.2.1 38 = .ok (.istore_n 3, 1) := by decide +kernel
theorem d_TH_lines_39 : decode m_TH_lines.2.1 39 = .ok (.iload_n 3, 1) := by decide +kernel
theorem d_TH_lines_40 : decode m_TH_lines.2.1 40 = .ok (.ldc 106, 2) := by decide +kernel
theorem d_TH_lines_42 : decode m_TH_lines.2.1 42 = .ok (.if_icmp .lt 8, 3) := by decide +kernel
theorem d_TH_lines_45 : decode m_TH_lines.2.1 45 = .ok (.bipush (-2), 2) := by decide +kernel
theorem d_TH_lines_47 : decode m_TH_lines.2.1 47 = .ok (.goto 4, 3) := by decide +kernel
theorem d_TH_lines_50 : decode m_TH_lines.2.1 50 = .ok (.iload_n 3, 1) := by decide +kernel
theorem d_TH_lines_51 : decode m_TH_lines.2.1 51 = .ok (.ireturn, 1) := by decide +kernel
set_option maxHeartbeats 4000000 in
set_option maxRecDepth 100000 in
theorem B_TH_lines_0 {S : XS} {Q : Int32 → St → Prop} (σ : St) (x1 : Int32) (x2 : Int32) (H : ((x1 < 0 → Q (-1 : Int32) σ) ∧ (¬ x1 < 0 → (((gX σ 4) ≤ x1 → Q (-1 : Int32) σ) ∧ (¬ (gX σ 4) ≤ x1 → ((0 ≤ x2 → CM S m_Mn_weighBreaks [.ref 3, .int x1] (enc σ) (qV (fun τ2 => CM S m_Mn_breakCost [.ref 3, .int x1, .int x2] (enc τ2) (qI (fun v3 τ4 => ((v3 < (1000000000 : Int32) → Q v3 τ4) ∧ (¬ v3 < (1000000000 : Int32) → Q (-2 : Int32) τ4))))))) ∧ (¬ 0 ≤ x2 → Q (-1 : Int32) σ))))))) : BW S m_TH_lines 0 [some (.ref 0), some (.int x1), some (.int x2), none] [] (enc σ) (qI Q) := by
  refine b_iload_n d_TH_lines_0 rfl rfl ?_
  refine b_if_lt (tgt := 19) d_TH_lines_1 (by decide) (fun c8 => ?_) (fun c8 => ?_)
  · have H := H.1 c8
    refine b_iconst (v := (-1 : Int32)) d_TH_lines_19 (by decide) ?_
    exact b_iret (ty := .int) d_TH_lines_20 rfl rfl ⟨_, _, rfl, rfl, H⟩
  · have H := H.2 c8
    refine b_iload_n d_TH_lines_4 rfl rfl ?_
    refine b_aload_n d_TH_lines_5 rfl rfl ?_
    refine b_getf (v := .ref 3) d_TH_lines_6 fl_TH_19 (eg_0 σ) rfl ?_
    refine b_getfN (v := .int (gX σ 4)) d_TH_lines_9 fn_TH_96 (eg_3 σ) rfl ?_
    refine b_icmp_ge (tgt := 19) d_TH_lines_12 (by decide) (fun c7 => ?_) (fun c7 => ?_)
    · have H := H.1 c7
      refine b_iconst (v := (-1 : Int32)) d_TH_lines_19 (by decide) ?_
      exact b_iret (ty := .int) d_TH_lines_20 rfl rfl ⟨_, _, rfl, rfl, H⟩
    · have H := H.2 c7
      refine b_iload_n d_TH_lines_15 rfl rfl ?_
      refine b_if_ge (tgt := 21) d_TH_lines_16 (by decide) (fun c6 => ?_) (fun c6 => ?_)
      · have H := H.1 c6
        refine b_aload_n d_TH_lines_21 rfl rfl ?_
        refine b_getf (v := .ref 3) d_TH_lines_22 fl_TH_19 (eg_0 σ) rfl ?_
        refine b_iload_n d_TH_lines_25 rfl rfl ?_
        refine b_callVv (Mc := m_Mn_weighBreaks) (As := [.int x1]) (st := []) d_TH_lines_26 ⟨⟨kA_Mn_weighBreaks.1, kA_Mn_weighBreaks.2.1, kA_Mn_weighBreaks.2.2, by decide⟩, ml_TH_99, kV_Mn_weighBreaks⟩ (eg_3 σ) rfl rfl (Nat.le_of_ble_eq_true rfl) H (fun τ2 H => ?_)
        refine b_aload_n d_TH_lines_29 rfl rfl ?_
        refine b_getf (v := .ref 3) d_TH_lines_30 fl_TH_19 (eg_0 τ2) rfl ?_
        refine b_iload_n d_TH_lines_33 rfl rfl ?_
        refine b_iload_n d_TH_lines_34 rfl rfl ?_
        refine b_callVi (Mc := m_Mn_breakCost) (As := [.int x1, .int x2]) (st := []) d_TH_lines_35 ⟨⟨kA_Mn_breakCost.1, kA_Mn_breakCost.2.1, kA_Mn_breakCost.2.2, by decide⟩, ml_TH_102, kV_Mn_breakCost⟩ (eg_3 τ2) rfl rfl (Nat.le_of_ble_eq_true rfl) H (fun v3 τ4 H => ?_)
        refine b_istore_n (ls' := [some (.ref 0), some (.int x1), some (.int x2), some (.int v3)]) d_TH_lines_38 rfl (Nat.le_of_ble_eq_true rfl) rfl ?_
        refine b_iload_n d_TH_lines_39 rfl rfl ?_
        refine b_ldc (v := (1000000000 : Int32)) d_TH_lines_40 cn_TH_106 ?_
        refine b_icmp_lt (tgt := 50) d_TH_lines_42 (by decide) (fun c5 => ?_) (fun c5 => ?_)
        · have H := H.1 c5
          refine b_iload_n d_TH_lines_50 rfl rfl ?_
          exact b_iret (ty := .int) d_TH_lines_51 rfl rfl ⟨_, _, rfl, rfl, H⟩
        · have H := H.2 c5
          refine b_bipush (v := (-2 : Int32)) d_TH_lines_45 (by decide) ?_
          refine b_goto (tgt := 51) d_TH_lines_47 (by decide) ?_
          exact b_iret (ty := .int) d_TH_lines_51 rfl rfl ⟨_, _, rfl, rfl, H⟩
      · have H := H.2 c6
        refine b_iconst (v := (-1 : Int32)) d_TH_lines_19 (by decide) ?_
        exact b_iret (ty := .int) d_TH_lines_20 rfl rfl ⟨_, _, rfl, rfl, H⟩
theorem C_TH_lines {S : XS} {Q : Int32 → St → Prop} (σ : St) (x1 : Int32) (x2 : Int32) (H : BW S m_TH_lines 0 [some (.ref 0), some (.int x1), some (.int x2), none] [] (enc σ) (qI Q)) : CM S m_TH_lines [.ref 0, .int x1, .int x2] (enc σ) (qI Q) := b_meth (by decide) (Nat.le_of_ble_eq_true rfl) rfl H
theorem d_TH_fill_0 : decode m_TH_fill.2.1 0 = .ok (.iload_n 1, 1) := by decide +kernel
theorem d_TH_fill_1 : decode m_TH_fill.2.1 1 = .ok (.iconst 1, 1) := by decide +kernel
theorem d_TH_fill_2 : decode m_TH_fill.2.1 2 = .ok (.if_icmp .lt 9, 3) := by decide +kernel
theorem d_TH_fill_5 : decode m_TH_fill.2.1 5 = .ok (.iload_n 1, 1) := by decide +kernel
theorem d_TH_fill_6 : decode m_TH_fill.2.1 6 = .ok (.bipush 120, 2) := by decide +kernel
theorem d_TH_fill_8 : decode m_TH_fill.2.1 8 = .ok (.if_icmp .le 5, 3) := by decide +kernel
theorem d_TH_fill_11 : decode m_TH_fill.2.1 11 = .ok (.iconst (-1), 1) := by decide +kernel
theorem d_TH_fill_12 : decode m_TH_fill.2.1 12 = .ok (.ireturn, 1) := by decide +kernel
theorem d_TH_fill_13 : decode m_TH_fill.2.1 13 = .ok (.aload_n 0, 1) := by decide +kernel
theorem d_TH_fill_14 : decode m_TH_fill.2.1 14 = .ok (.getfield 26, 3) := by decide +kernel
theorem d_TH_fill_17 : decode m_TH_fill.2.1 17 = .ok (.aload_n 0, 1) := by decide +kernel
theorem d_TH_fill_18 : decode m_TH_fill.2.1 18 = .ok (.getfield 19, 3) := by decide +kernel
theorem d_TH_fill_21 : decode m_TH_fill.2.1 21 = .ok (.iload_n 1, 1) := by decide +kernel
theorem d_TH_fill_22 : decode m_TH_fill.2.1 22 = .ok (.invokevirtual 107, 3) := by decide +kernel
theorem d_TH_fill_25 : decode m_TH_fill.2.1 25 = .ok (.istore_n 2, 1) := by decide +kernel
theorem d_TH_fill_26 : decode m_TH_fill.2.1 26 = .ok (.iload_n 2, 1) := by decide +kernel
theorem d_TH_fill_27 : decode m_TH_fill.2.1 27 = .ok (.ldc 106, 2) := by decide +kernel
theorem d_TH_fill_29 : decode m_TH_fill.2.1 29 = .ok (.if_icmp .lt 6, 3) := by decide +kernel
theorem d_TH_fill_32 : decode m_TH_fill.2.1 32 = .ok (.bipush (-2), 2) := by decide +kernel
theorem d_TH_fill_34 : decode m_TH_fill.2.1 34 = .ok (.ireturn, 1) := by decide +kernel
theorem d_TH_fill_35 : decode m_TH_fill.2.1 35 = .ok (.aload_n 0, 1) := by decide +kernel
theorem d_TH_fill_36 : decode m_TH_fill.2.1 36 = .ok (.getfield 26, 3) := by decide +kernel
theorem d_TH_fill_39 : decode m_TH_fill.2.1 39 = .ok (.aload_n 0, 1) := by decide +kernel
theorem d_TH_fill_40 : decode m_TH_fill.2.1 40 = .ok (.getfield 19, 3) := by decide +kernel
theorem d_TH_fill_43 : decode m_TH_fill.2.1 43 = .ok (.iload_n 1, 1) := by decide +kernel
theorem d_TH_fill_44 : decode m_TH_fill.2.1 44 = .ok (.invokevirtual 111, 3) := by decide +kernel
theorem d_TH_fill_47 : decode m_TH_fill.2.1 47 = .ok (.iload_n 2, 1) := by decide +kernel
theorem d_TH_fill_48 : decode m_TH_fill.2.1 48 = .ok (.ireturn, 1) := by decide +kernel
set_option maxHeartbeats 4000000 in
set_option maxRecDepth 100000 in
theorem B_TH_fill_0 {S : XS} {Q : Int32 → St → Prop} (σ : St) (x1 : Int32) (H : ((x1 < (1 : Int32) → Q (-1 : Int32) σ) ∧ (¬ x1 < (1 : Int32) → ((x1 ≤ (120 : Int32) → CM S m_Se_leastCost [.ref 82, .ref 3, .int x1] (enc σ) (qI (fun v1 τ2 => ((v1 < (1000000000 : Int32) → CM S m_Se_placeAll [.ref 82, .ref 3, .int x1] (enc τ2) (qV (fun τ4 => Q v1 τ4))) ∧ (¬ v1 < (1000000000 : Int32) → Q (-2 : Int32) τ2))))) ∧ (¬ x1 ≤ (120 : Int32) → Q (-1 : Int32) σ))))) : BW S m_TH_fill 0 [some (.ref 0), some (.int x1), none] [] (enc σ) (qI Q) := by
  refine b_iload_n d_TH_fill_0 rfl rfl ?_
  refine b_iconst (v := (1 : Int32)) d_TH_fill_1 (by decide) ?_
  refine b_icmp_lt (tgt := 11) d_TH_fill_2 (by decide) (fun c7 => ?_) (fun c7 => ?_)
  · have H := H.1 c7
    refine b_iconst (v := (-1 : Int32)) d_TH_fill_11 (by decide) ?_
    exact b_iret (ty := .int) d_TH_fill_12 rfl rfl ⟨_, _, rfl, rfl, H⟩
  · have H := H.2 c7
    refine b_iload_n d_TH_fill_5 rfl rfl ?_
    refine b_bipush (v := (120 : Int32)) d_TH_fill_6 (by decide) ?_
    refine b_icmp_le (tgt := 13) d_TH_fill_8 (by decide) (fun c6 => ?_) (fun c6 => ?_)
    · have H := H.1 c6
      refine b_aload_n d_TH_fill_13 rfl rfl ?_
      refine b_getf (v := .ref 82) d_TH_fill_14 fl_TH_26 (eg_0 σ) rfl ?_
      refine b_aload_n d_TH_fill_17 rfl rfl ?_
      refine b_getf (v := .ref 3) d_TH_fill_18 fl_TH_19 (eg_0 σ) rfl ?_
      refine b_iload_n d_TH_fill_21 rfl rfl ?_
      refine b_callVi (Mc := m_Se_leastCost) (As := [.ref 3, .int x1]) (st := []) d_TH_fill_22 ⟨⟨kA_Se_leastCost.1, kA_Se_leastCost.2.1, kA_Se_leastCost.2.2, by decide⟩, ml_TH_107, kV_Se_leastCost⟩ (eg_82 σ) rfl rfl (Nat.le_of_ble_eq_true rfl) H (fun v1 τ2 H => ?_)
      refine b_istore_n (ls' := [some (.ref 0), some (.int x1), some (.int v1)]) d_TH_fill_25 rfl (Nat.le_of_ble_eq_true rfl) rfl ?_
      refine b_iload_n d_TH_fill_26 rfl rfl ?_
      refine b_ldc (v := (1000000000 : Int32)) d_TH_fill_27 cn_TH_106 ?_
      refine b_icmp_lt (tgt := 35) d_TH_fill_29 (by decide) (fun c5 => ?_) (fun c5 => ?_)
      · have H := H.1 c5
        refine b_aload_n d_TH_fill_35 rfl rfl ?_
        refine b_getf (v := .ref 82) d_TH_fill_36 fl_TH_26 (eg_0 τ2) rfl ?_
        refine b_aload_n d_TH_fill_39 rfl rfl ?_
        refine b_getf (v := .ref 3) d_TH_fill_40 fl_TH_19 (eg_0 τ2) rfl ?_
        refine b_iload_n d_TH_fill_43 rfl rfl ?_
        refine b_callVv (Mc := m_Se_placeAll) (As := [.ref 3, .int x1]) (st := []) d_TH_fill_44 ⟨⟨kA_Se_placeAll.1, kA_Se_placeAll.2.1, kA_Se_placeAll.2.2, by decide⟩, ml_TH_111, kV_Se_placeAll⟩ (eg_82 τ2) rfl rfl (Nat.le_of_ble_eq_true rfl) H (fun τ4 H => ?_)
        refine b_iload_n d_TH_fill_47 rfl rfl ?_
        exact b_iret (ty := .int) d_TH_fill_48 rfl rfl ⟨_, _, rfl, rfl, H⟩
      · have H := H.2 c5
        refine b_bipush (v := (-2 : Int32)) d_TH_fill_32 (by decide) ?_
        exact b_iret (ty := .int) d_TH_fill_34 rfl rfl ⟨_, _, rfl, rfl, H⟩
    · have H := H.2 c6
      refine b_iconst (v := (-1 : Int32)) d_TH_fill_11 (by decide) ?_
      exact b_iret (ty := .int) d_TH_fill_12 rfl rfl ⟨_, _, rfl, rfl, H⟩
theorem C_TH_fill {S : XS} {Q : Int32 → St → Prop} (σ : St) (x1 : Int32) (H : BW S m_TH_fill 0 [some (.ref 0), some (.int x1), none] [] (enc σ) (qI Q)) : CM S m_TH_fill [.ref 0, .int x1] (enc σ) (qI Q) := b_meth (by decide) (Nat.le_of_ble_eq_true rfl) rfl H
theorem d_TH_set_0 : decode m_TH_set.2.1 0 = .ok (.aload_n 0, 1) := by decide +kernel
theorem d_TH_set_1 : decode m_TH_set.2.1 1 = .ok (.getfield 26, 3) := by decide +kernel
theorem d_TH_set_4 : decode m_TH_set.2.1 4 = .ok (.iload_n 1, 1) := by decide +kernel
theorem d_TH_set_5 : decode m_TH_set.2.1 5 = .ok (.iload_n 2, 1) := by decide +kernel
theorem d_TH_set_6 : decode m_TH_set.2.1 6 = .ok (.invokevirtual 115, 3) := by decide +kernel
theorem d_TH_set_9 : decode m_TH_set.2.1 9 = .ok (.ireturn, 1) := by decide +kernel
set_option maxHeartbeats 4000000 in
set_option maxRecDepth 100000 in
theorem B_TH_set_0 {S : XS} {Q : Int32 → St → Prop} (σ : St) (x1 : Int32) (x2 : Int32) (H : CM S m_Se_ofParagraph [.ref 82, .int x1, .int x2] (enc σ) (qI (fun v1 τ2 => Q v1 τ2))) : BW S m_TH_set 0 [some (.ref 0), some (.int x1), some (.int x2)] [] (enc σ) (qI Q) := by
  refine b_aload_n d_TH_set_0 rfl rfl ?_
  refine b_getf (v := .ref 82) d_TH_set_1 fl_TH_26 (eg_0 σ) rfl ?_
  refine b_iload_n d_TH_set_4 rfl rfl ?_
  refine b_iload_n d_TH_set_5 rfl rfl ?_
  refine b_callVi (Mc := m_Se_ofParagraph) (As := [.int x1, .int x2]) (st := []) d_TH_set_6 ⟨⟨kA_Se_ofParagraph.1, kA_Se_ofParagraph.2.1, kA_Se_ofParagraph.2.2, by decide⟩, ml_TH_115, kV_Se_ofParagraph⟩ (eg_82 σ) rfl rfl (Nat.le_of_ble_eq_true rfl) H (fun v1 τ2 H => ?_)
  exact b_iret (ty := .int) d_TH_set_9 rfl rfl ⟨_, _, rfl, rfl, H⟩
theorem C_TH_set {S : XS} {Q : Int32 → St → Prop} (σ : St) (x1 : Int32) (x2 : Int32) (H : BW S m_TH_set 0 [some (.ref 0), some (.int x1), some (.int x2)] [] (enc σ) (qI Q)) : CM S m_TH_set [.ref 0, .int x1, .int x2] (enc σ) (qI Q) := b_meth (by decide) (Nat.le_of_ble_eq_true rfl) rfl H
theorem d_TH_line_0 : decode m_TH_line.2.1 0 = .ok (.aload_n 0, 1) := by decide +kernel
theorem d_TH_line_1 : decode m_TH_line.2.1 1 = .ok (.getfield 26, 3) := by decide +kernel
theorem d_TH_line_4 : decode m_TH_line.2.1 4 = .ok (.iload_n 1, 1) := by decide +kernel
theorem d_TH_line_5 : decode m_TH_line.2.1 5 = .ok (.iload_n 2, 1) := by decide +kernel
theorem d_TH_line_6 : decode m_TH_line.2.1 6 = .ok (.invokevirtual 118, 3) := by decide +kernel
theorem d_TH_line_9 : decode m_TH_line.2.1 9 = .ok (.ireturn, 1) := by decide +kernel
set_option maxHeartbeats 4000000 in
set_option maxRecDepth 100000 in
theorem B_TH_line_0 {S : XS} {Q : Int32 → St → Prop} (σ : St) (x1 : Int32) (x2 : Int32) (H : CM S m_Se_ofLine [.ref 82, .int x1, .int x2] (enc σ) (qI (fun v1 τ2 => Q v1 τ2))) : BW S m_TH_line 0 [some (.ref 0), some (.int x1), some (.int x2)] [] (enc σ) (qI Q) := by
  refine b_aload_n d_TH_line_0 rfl rfl ?_
  refine b_getf (v := .ref 82) d_TH_line_1 fl_TH_26 (eg_0 σ) rfl ?_
  refine b_iload_n d_TH_line_4 rfl rfl ?_
  refine b_iload_n d_TH_line_5 rfl rfl ?_
  refine b_callVi (Mc := m_Se_ofLine) (As := [.int x1, .int x2]) (st := []) d_TH_line_6 ⟨⟨kA_Se_ofLine.1, kA_Se_ofLine.2.1, kA_Se_ofLine.2.2, by decide⟩, ml_TH_118, kV_Se_ofLine⟩ (eg_82 σ) rfl rfl (Nat.le_of_ble_eq_true rfl) H (fun v1 τ2 H => ?_)
  exact b_iret (ty := .int) d_TH_line_9 rfl rfl ⟨_, _, rfl, rfl, H⟩
theorem C_TH_line {S : XS} {Q : Int32 → St → Prop} (σ : St) (x1 : Int32) (x2 : Int32) (H : BW S m_TH_line 0 [some (.ref 0), some (.int x1), some (.int x2)] [] (enc σ) (qI Q)) : CM S m_TH_line [.ref 0, .int x1, .int x2] (enc σ) (qI Q) := b_meth (by decide) (Nat.le_of_ble_eq_true rfl) rfl H
theorem d_TH_fact_0 : decode m_TH_fact.2.1 0 = .ok (.aload_n 0, 1) := by decide +kernel
theorem d_TH_fact_1 : decode m_TH_fact.2.1 1 = .ok (.getfield 40, 3) := by decide +kernel
theorem d_TH_fact_4 : decode m_TH_fact.2.1 4 = .ok (.aload_n 0, 1) := by decide +kernel
theorem d_TH_fact_5 : decode m_TH_fact.2.1 5 = .ok (.getfield 10, 3) := by decide +kernel
theorem d_TH_fact_8 : decode m_TH_fact.2.1 8 = .ok (.invokevirtual 121, 3) := by decide +kernel
theorem d_TH_fact_11 : decode m_TH_fact.2.1 11 = .ok (.istore_n 3, 1) := by decide +kernel
theorem d_TH_fact_12 : decode m_TH_fact.2.1 12 = .ok (.aload_n 0, 1) := by decide +kernel
theorem d_TH_fact_13 : decode m_TH_fact.2.1 13 = .ok (.getfield 10, 3) := by decide +kernel
theorem d_TH_fact_16 : decode m_TH_fact.2.1 16 = .ok (.invokevirtual 125, 3) := by decide +kernel
theorem d_TH_fact_19 : decode m_TH_fact.2.1 19 = .ok (.iload_n 3, 1) := by decide +kernel
theorem d_TH_fact_20 : decode m_TH_fact.2.1 20 = .ok (.ifCond .ne 5, 3) := by decide +kernel
theorem d_TH_fact_23 : decode m_TH_fact.2.1 23 = .ok (.iconst (-1), 1) := by decide +kernel
theorem d_TH_fact_24 : decode m_TH_fact.2.1 24 = .ok (.ireturn, 1) := by decide +kernel
theorem d_TH_fact_25 : decode m_TH_fact.2.1 25 = .ok (.aload_n 0, 1) := by decide +kernel
theorem d_TH_fact_26 : decode m_TH_fact.2.1 26 = .ok (.getfield 33, 3) := by decide +kernel
theorem d_TH_fact_29 : decode m_TH_fact.2.1 29 = .ok (.iload_n 1, 1) := by decide +kernel
theorem d_TH_fact_30 : decode m_TH_fact.2.1 30 = .ok (.iload_n 2, 1) := by decide +kernel
theorem d_TH_fact_31 : decode m_TH_fact.2.1 31 = .ok (.invokevirtual 128, 3) := by decide +kernel
theorem d_TH_fact_34 : decode m_TH_fact.2.1 34 = .ok (.ifCond .ne 6, 3) := by decide +kernel
theorem d_TH_fact_37 : decode m_TH_fact.2.1 37 = .ok (.bipush (-2), 2) := by decide +kernel
theorem d_TH_fact_39 : decode m_TH_fact.2.1 39 = .ok (.ireturn, 1) := by decide +kernel
theorem d_TH_fact_40 : decode m_TH_fact.2.1 40 = .ok (.aload_n 0, 1) := by decide +kernel
theorem d_TH_fact_41 : decode m_TH_fact.2.1 41 = .ok (.getfield 40, 3) := by decide +kernel
theorem d_TH_fact_44 : decode m_TH_fact.2.1 44 = .ok (.iload_n 1, 1) := by decide +kernel
theorem d_TH_fact_45 : decode m_TH_fact.2.1 45 = .ok (.iload_n 2, 1) := by decide +kernel
theorem d_TH_fact_46 : decode m_TH_fact.2.1 46 = .ok (.invokevirtual 132, 3) := by decide +kernel
theorem d_TH_fact_49 : decode m_TH_fact.2.1 49 = .ok (.ireturn, 1) := by decide +kernel
set_option maxHeartbeats 4000000 in
set_option maxRecDepth 100000 in
theorem B_TH_fact_0 {S : XS} {Q : Int32 → St → Prop} (σ : St) (x1 : Int32) (x2 : Int32) (H : CM S m_Fs_readDraft [.ref 134, .ref 1] (enc σ) (qI (fun v1 τ2 => CM S m_Tp_discard [.ref 1] (enc τ2) (qV (fun τ4 => ((¬ v1 = 0 → CM S m_Pa_haveEdition [.ref 131, .int x1, .int x2] (enc τ4) (qI (fun v5 τ6 => ((¬ v5 = 0 → CM S m_Fs_addDraft [.ref 134, .int x1, .int x2] (enc τ6) (qI (fun v7 τ8 => Q v7 τ8))) ∧ (v5 = 0 → Q (-2 : Int32) τ6))))) ∧ (v1 = 0 → Q (-1 : Int32) τ4))))))) : BW S m_TH_fact 0 [some (.ref 0), some (.int x1), some (.int x2), none] [] (enc σ) (qI Q) := by
  refine b_aload_n d_TH_fact_0 rfl rfl ?_
  refine b_getf (v := .ref 134) d_TH_fact_1 fl_TH_40 (eg_0 σ) rfl ?_
  refine b_aload_n d_TH_fact_4 rfl rfl ?_
  refine b_getf (v := .ref 1) d_TH_fact_5 fl_TH_10 (eg_0 σ) rfl ?_
  refine b_callVi (Mc := m_Fs_readDraft) (As := [.ref 1]) (st := []) d_TH_fact_8 ⟨⟨kA_Fs_readDraft.1, kA_Fs_readDraft.2.1, kA_Fs_readDraft.2.2, by decide⟩, ml_TH_121, kV_Fs_readDraft⟩ (eg_134 σ) rfl rfl (Nat.le_of_ble_eq_true rfl) H (fun v1 τ2 H => ?_)
  refine b_istore_n (ls' := [some (.ref 0), some (.int x1), some (.int x2), some (.int v1)]) d_TH_fact_11 rfl (Nat.le_of_ble_eq_true rfl) rfl ?_
  refine b_aload_n d_TH_fact_12 rfl rfl ?_
  refine b_getf (v := .ref 1) d_TH_fact_13 fl_TH_10 (eg_0 τ2) rfl ?_
  refine b_callVv (Mc := m_Tp_discard) (As := []) (st := []) d_TH_fact_16 ⟨⟨kA_Tp_discard.1, kA_Tp_discard.2.1, kA_Tp_discard.2.2, by decide⟩, ml_TH_125, kV_Tp_discard⟩ (eg_1 τ2) rfl rfl (Nat.le_of_ble_eq_true rfl) H (fun τ4 H => ?_)
  refine b_iload_n d_TH_fact_19 rfl rfl ?_
  refine b_if_ne (tgt := 25) d_TH_fact_20 (by decide) (fun c10 => ?_) (fun c10 => ?_)
  · have H := H.1 c10
    refine b_aload_n d_TH_fact_25 rfl rfl ?_
    refine b_getf (v := .ref 131) d_TH_fact_26 fl_TH_33 (eg_0 τ4) rfl ?_
    refine b_iload_n d_TH_fact_29 rfl rfl ?_
    refine b_iload_n d_TH_fact_30 rfl rfl ?_
    refine b_callVi (Mc := m_Pa_haveEdition) (As := [.int x1, .int x2]) (st := []) d_TH_fact_31 ⟨⟨kA_Pa_haveEdition.1, kA_Pa_haveEdition.2.1, kA_Pa_haveEdition.2.2, by decide⟩, ml_TH_128, kV_Pa_haveEdition⟩ (eg_131 τ4) rfl rfl (Nat.le_of_ble_eq_true rfl) H (fun v5 τ6 H => ?_)
    refine b_if_ne (tgt := 40) d_TH_fact_34 (by decide) (fun c9 => ?_) (fun c9 => ?_)
    · have H := H.1 c9
      refine b_aload_n d_TH_fact_40 rfl rfl ?_
      refine b_getf (v := .ref 134) d_TH_fact_41 fl_TH_40 (eg_0 τ6) rfl ?_
      refine b_iload_n d_TH_fact_44 rfl rfl ?_
      refine b_iload_n d_TH_fact_45 rfl rfl ?_
      refine b_callVi (Mc := m_Fs_addDraft) (As := [.int x1, .int x2]) (st := []) d_TH_fact_46 ⟨⟨kA_Fs_addDraft.1, kA_Fs_addDraft.2.1, kA_Fs_addDraft.2.2, by decide⟩, ml_TH_132, kV_Fs_addDraft⟩ (eg_134 τ6) rfl rfl (Nat.le_of_ble_eq_true rfl) H (fun v7 τ8 H => ?_)
      exact b_iret (ty := .int) d_TH_fact_49 rfl rfl ⟨_, _, rfl, rfl, H⟩
    · have H := H.2 c9
      refine b_bipush (v := (-2 : Int32)) d_TH_fact_37 (by decide) ?_
      exact b_iret (ty := .int) d_TH_fact_39 rfl rfl ⟨_, _, rfl, rfl, H⟩
  · have H := H.2 c10
    refine b_iconst (v := (-1 : Int32)) d_TH_fact_23 (by decide) ?_
    exact b_iret (ty := .int) d_TH_fact_24 rfl rfl ⟨_, _, rfl, rfl, H⟩
theorem C_TH_fact {S : XS} {Q : Int32 → St → Prop} (σ : St) (x1 : Int32) (x2 : Int32) (H : BW S m_TH_fact 0 [some (.ref 0), some (.int x1), some (.int x2), none] [] (enc σ) (qI Q)) : CM S m_TH_fact [.ref 0, .int x1, .int x2] (enc σ) (qI Q) := b_meth (by decide) (Nat.le_of_ble_eq_true rfl) rfl H
theorem d_TH_fault_0 : decode m_TH_fault.2.1 0 = .ok (.iload_n 1, 1) := by decide +kernel
theorem d_TH_fault_1 : decode m_TH_fault.2.1 1 = .ok (.ifCond .ne 11, 3) := by decide +kernel
theorem d_TH_fault_4 : decode m_TH_fault.2.1 4 = .ok (.aload_n 0, 1) := by decide +kernel
theorem d_TH_fault_5 : decode m_TH_fault.2.1 5 = .ok (.getfield 10, 3) := by decide +kernel
theorem d_TH_fault_8 : decode m_TH_fault.2.1 8 = .ok (.getfield 135, 3) := by decide +kernel
theorem d_TH_fault_11 : decode m_TH_fault.2.1 11 = .ok (.ireturn, 1) := by decide +kernel
theorem d_TH_fault_12 : decode m_TH_fault.2.1 12 = .ok (.iload_n 1, 1) := by decide +kernel
theorem d_TH_fault_13 : decode m_TH_fault.2.1 13 = .ok (.iconst 1, 1) := by decide +kernel
theorem d_TH_fault_14 : decode m_TH_fault.2.1 14 = .ok (.if_icmp .ne 13, 3) := by decide +kernel
theorem d_TH_fault_17 : decode m_TH_fault.2.1 17 = .ok (.aload_n 0, 1) := by decide +kernel
theorem d_TH_fault_18 : decode m_TH_fault.2.1 18 = .ok (.getfield 10, 3) := by decide +kernel
theorem d_TH_fault_21 : decode m_TH_fault.2.1 21 = .ok (.getfield 138, 3) := by decide +kernel
theorem d_TH_fault_24 : decode m_TH_fault.2.1 24 = .ok (.goto 4, 3) := by decide +kernel
theorem d_TH_fault_27 : decode m_TH_fault.2.1 27 = .ok (.iconst (-1), 1) := by decide +kernel
theorem d_TH_fault_28 : decode m_TH_fault.2.1 28 = .ok (.ireturn, 1) := by decide +kernel
set_option maxHeartbeats 4000000 in
set_option maxRecDepth 100000 in
theorem B_TH_fault_0 {S : XS} {Q : Int32 → St → Prop} (σ : St) (x1 : Int32) (H : ((¬ x1 = 0 → ((¬ x1 = (1 : Int32) → Q (-1 : Int32) σ) ∧ (x1 = (1 : Int32) → Q (gX σ 3) σ))) ∧ (x1 = 0 → Q (gX σ 2) σ))) : BW S m_TH_fault 0 [some (.ref 0), some (.int x1)] [] (enc σ) (qI Q) := by
  refine b_iload_n d_TH_fault_0 rfl rfl ?_
  refine b_if_ne (tgt := 12) d_TH_fault_1 (by decide) (fun c2 => ?_) (fun c2 => ?_)
  · have H := H.1 c2
    refine b_iload_n d_TH_fault_12 rfl rfl ?_
    refine b_iconst (v := (1 : Int32)) d_TH_fault_13 (by decide) ?_
    refine b_icmp_ne (tgt := 27) d_TH_fault_14 (by decide) (fun c1 => ?_) (fun c1 => ?_)
    · have H := H.1 c1
      refine b_iconst (v := (-1 : Int32)) d_TH_fault_27 (by decide) ?_
      exact b_iret (ty := .int) d_TH_fault_28 rfl rfl ⟨_, _, rfl, rfl, H⟩
    · have H := H.2 c1
      refine b_aload_n d_TH_fault_17 rfl rfl ?_
      refine b_getf (v := .ref 1) d_TH_fault_18 fl_TH_10 (eg_0 σ) rfl ?_
      refine b_getfN (v := .int (gX σ 3)) d_TH_fault_21 fn_TH_138 (eg_1 σ) rfl ?_
      refine b_goto (tgt := 28) d_TH_fault_24 (by decide) ?_
      exact b_iret (ty := .int) d_TH_fault_28 rfl rfl ⟨_, _, rfl, rfl, H⟩
  · have H := H.2 c2
    refine b_aload_n d_TH_fault_4 rfl rfl ?_
    refine b_getf (v := .ref 1) d_TH_fault_5 fl_TH_10 (eg_0 σ) rfl ?_
    refine b_getfN (v := .int (gX σ 2)) d_TH_fault_8 fn_TH_135 (eg_1 σ) rfl ?_
    exact b_iret (ty := .int) d_TH_fault_11 rfl rfl ⟨_, _, rfl, rfl, H⟩
theorem C_TH_fault {S : XS} {Q : Int32 → St → Prop} (σ : St) (x1 : Int32) (H : BW S m_TH_fault 0 [some (.ref 0), some (.int x1)] [] (enc σ) (qI Q)) : CM S m_TH_fault [.ref 0, .int x1] (enc σ) (qI Q) := b_meth (by decide) (Nat.le_of_ble_eq_true rfl) rfl H
theorem d_TH_strike_0 : decode m_TH_strike.2.1 0 = .ok (.aload_n 0, 1) := by decide +kernel
theorem d_TH_strike_1 : decode m_TH_strike.2.1 1 = .ok (.getfield 40, 3) := by decide +kernel
theorem d_TH_strike_4 : decode m_TH_strike.2.1 4 = .ok (.iload_n 1, 1) := by decide +kernel
theorem d_TH_strike_5 : decode m_TH_strike.2.1 5 = .ok (.iload_n 2, 1) := by decide +kernel
theorem d_TH_strike_6 : decode m_TH_strike.2.1 6 = .ok (.aload_n 0, 1) := by decide +kernel
theorem d_TH_strike_7 : decode m_TH_strike.2.1 7 = .ok (.getfield 33, 3) := by decide +kernel
theorem d_TH_strike_10 : decode m_TH_strike.2.1 10 = .ok (.invokevirtual 141, 3) := by decide +kernel
theorem d_TH_strike_13 : decode m_TH_strike.2.1 13 = .ok (.ireturn, 1) := by decide +kernel
set_option maxHeartbeats 4000000 in
set_option maxRecDepth 100000 in
theorem B_TH_strike_0 {S : XS} {Q : Int32 → St → Prop} (σ : St) (x1 : Int32) (x2 : Int32) (H : CM S m_Fs_strikeFrom [.ref 134, .int x1, .int x2, .ref 131] (enc σ) (qI (fun v1 τ2 => (narrow .boolean (.int v1) = .int v1) ∧ Q v1 τ2))) : BW S m_TH_strike 0 [some (.ref 0), some (.int x1), some (.int x2)] [] (enc σ) (qI Q) := by
  refine b_aload_n d_TH_strike_0 rfl rfl ?_
  refine b_getf (v := .ref 134) d_TH_strike_1 fl_TH_40 (eg_0 σ) rfl ?_
  refine b_iload_n d_TH_strike_4 rfl rfl ?_
  refine b_iload_n d_TH_strike_5 rfl rfl ?_
  refine b_aload_n d_TH_strike_6 rfl rfl ?_
  refine b_getf (v := .ref 131) d_TH_strike_7 fl_TH_33 (eg_0 σ) rfl ?_
  refine b_callVi (Mc := m_Fs_strikeFrom) (As := [.int x1, .int x2, .ref 131]) (st := []) d_TH_strike_10 ⟨⟨kA_Fs_strikeFrom.1, kA_Fs_strikeFrom.2.1, kA_Fs_strikeFrom.2.2, by decide⟩, ml_TH_141, kV_Fs_strikeFrom⟩ (eg_134 σ) rfl rfl (Nat.le_of_ble_eq_true rfl) H (fun v1 τ2 H => ?_)
  obtain ⟨h3, H⟩ := H
  exact b_iret (ty := .boolean) d_TH_strike_13 rfl h3 ⟨_, _, rfl, rfl, H⟩
theorem C_TH_strike {S : XS} {Q : Int32 → St → Prop} (σ : St) (x1 : Int32) (x2 : Int32) (H : BW S m_TH_strike 0 [some (.ref 0), some (.int x1), some (.int x2)] [] (enc σ) (qI Q)) : CM S m_TH_strike [.ref 0, .int x1, .int x2] (enc σ) (qI Q) := b_meth (by decide) (Nat.le_of_ble_eq_true rfl) rfl H
theorem d_TH_quarrel_0 : decode m_TH_quarrel.2.1 0 = .ok (.aload_n 0, 1) := by decide +kernel
theorem d_TH_quarrel_1 : decode m_TH_quarrel.2.1 1 = .ok (.getfield 40, 3) := by decide +kernel
theorem d_TH_quarrel_4 : decode m_TH_quarrel.2.1 4 = .ok (.iload_n 1, 1) := by decide +kernel
theorem d_TH_quarrel_5 : decode m_TH_quarrel.2.1 5 = .ok (.iload_n 2, 1) := by decide +kernel
theorem d_TH_quarrel_6 : decode m_TH_quarrel.2.1 6 = .ok (.invokevirtual 145, 3) := by decide +kernel
theorem d_TH_quarrel_9 : decode m_TH_quarrel.2.1 9 = .ok (.ireturn, 1) := by decide +kernel
set_option maxHeartbeats 4000000 in
set_option maxRecDepth 100000 in
theorem B_TH_quarrel_0 {S : XS} {Q : Int32 → St → Prop} (σ : St) (x1 : Int32) (x2 : Int32) (H : CM S m_Fs_quarrelOf [.ref 134, .int x1, .int x2] (enc σ) (qI (fun v1 τ2 => Q v1 τ2))) : BW S m_TH_quarrel 0 [some (.ref 0), some (.int x1), some (.int x2)] [] (enc σ) (qI Q) := by
  refine b_aload_n d_TH_quarrel_0 rfl rfl ?_
  refine b_getf (v := .ref 134) d_TH_quarrel_1 fl_TH_40 (eg_0 σ) rfl ?_
  refine b_iload_n d_TH_quarrel_4 rfl rfl ?_
  refine b_iload_n d_TH_quarrel_5 rfl rfl ?_
  refine b_callVi (Mc := m_Fs_quarrelOf) (As := [.int x1, .int x2]) (st := []) d_TH_quarrel_6 ⟨⟨kA_Fs_quarrelOf.1, kA_Fs_quarrelOf.2.1, kA_Fs_quarrelOf.2.2, by decide⟩, ml_TH_145, kV_Fs_quarrelOf⟩ (eg_134 σ) rfl rfl (Nat.le_of_ble_eq_true rfl) H (fun v1 τ2 H => ?_)
  exact b_iret (ty := .int) d_TH_quarrel_9 rfl rfl ⟨_, _, rfl, rfl, H⟩
theorem C_TH_quarrel {S : XS} {Q : Int32 → St → Prop} (σ : St) (x1 : Int32) (x2 : Int32) (H : BW S m_TH_quarrel 0 [some (.ref 0), some (.int x1), some (.int x2)] [] (enc σ) (qI Q)) : CM S m_TH_quarrel [.ref 0, .int x1, .int x2] (enc σ) (qI Q) := b_meth (by decide) (Nat.le_of_ble_eq_true rfl) rfl H
theorem d_TH_quarrels_0 : decode m_TH_quarrels.2.1 0 = .ok (.iload_n 1, 1) := by decide +kernel
theorem d_TH_quarrels_1 : decode m_TH_quarrels.2.1 1 = .ok (.ifCond .lt 8, 3) := by decide +kernel
theorem d_TH_quarrels_4 : decode m_TH_quarrels.2.1 4 = .ok (.iload_n 1, 1) := by decide +kernel
theorem d_TH_quarrels_5 : decode m_TH_quarrels.2.1 5 = .ok (.iconst 4, 1) := by decide +kernel
theorem d_TH_quarrels_6 : decode m_TH_quarrels.2.1 6 = .ok (.if_icmp .lt 5, 3) := by decide +kernel
theorem d_TH_quarrels_9 : decode m_TH_quarrels.2.1 9 = .ok (.iconst (-1), 1) := by decide +kernel
theorem d_TH_quarrels_10 : decode m_TH_quarrels.2.1 10 = .ok (.ireturn, 1) := by decide +kernel
theorem d_TH_quarrels_11 : decode m_TH_quarrels.2.1 11 = .ok (.aload_n 0, 1) := by decide +kernel
theorem d_TH_quarrels_12 : decode m_TH_quarrels.2.1 12 = .ok (.getfield 40, 3) := by decide +kernel
theorem d_TH_quarrels_15 : decode m_TH_quarrels.2.1 15 = .ok (.iload_n 1, 1) := by decide +kernel
theorem d_TH_quarrels_16 : decode m_TH_quarrels.2.1 16 = .ok (.aload_n 0, 1) := by decide +kernel
theorem d_TH_quarrels_17 : decode m_TH_quarrels.2.1 17 = .ok (.getfield 33, 3) := by decide +kernel
theorem d_TH_quarrels_20 : decode m_TH_quarrels.2.1 20 = .ok (.invokevirtual 148, 3) := by decide +kernel
theorem d_TH_quarrels_23 : decode m_TH_quarrels.2.1 23 = .ok (.ireturn, 1) := by decide +kernel
set_option maxHeartbeats 4000000 in
set_option maxRecDepth 100000 in
theorem B_TH_quarrels_0 {S : XS} {Q : Int32 → St → Prop} (σ : St) (x1 : Int32) (H : ((x1 < 0 → Q (-1 : Int32) σ) ∧ (¬ x1 < 0 → ((x1 < (4 : Int32) → CM S m_Fs_findQuarrels [.ref 134, .int x1, .ref 131] (enc σ) (qI (fun v1 τ2 => Q v1 τ2))) ∧ (¬ x1 < (4 : Int32) → Q (-1 : Int32) σ))))) : BW S m_TH_quarrels 0 [some (.ref 0), some (.int x1)] [] (enc σ) (qI Q) := by
  refine b_iload_n d_TH_quarrels_0 rfl rfl ?_
  refine b_if_lt (tgt := 9) d_TH_quarrels_1 (by decide) (fun c4 => ?_) (fun c4 => ?_)
  · have H := H.1 c4
    refine b_iconst (v := (-1 : Int32)) d_TH_quarrels_9 (by decide) ?_
    exact b_iret (ty := .int) d_TH_quarrels_10 rfl rfl ⟨_, _, rfl, rfl, H⟩
  · have H := H.2 c4
    refine b_iload_n d_TH_quarrels_4 rfl rfl ?_
    refine b_iconst (v := (4 : Int32)) d_TH_quarrels_5 (by decide) ?_
    refine b_icmp_lt (tgt := 11) d_TH_quarrels_6 (by decide) (fun c3 => ?_) (fun c3 => ?_)
    · have H := H.1 c3
      refine b_aload_n d_TH_quarrels_11 rfl rfl ?_
      refine b_getf (v := .ref 134) d_TH_quarrels_12 fl_TH_40 (eg_0 σ) rfl ?_
      refine b_iload_n d_TH_quarrels_15 rfl rfl ?_
      refine b_aload_n d_TH_quarrels_16 rfl rfl ?_
      refine b_getf (v := .ref 131) d_TH_quarrels_17 fl_TH_33 (eg_0 σ) rfl ?_
      refine b_callVi (Mc := m_Fs_findQuarrels) (As := [.int x1, .ref 131]) (st := []) d_TH_quarrels_20 ⟨⟨kA_Fs_findQuarrels.1, kA_Fs_findQuarrels.2.1, kA_Fs_findQuarrels.2.2, by decide⟩, ml_TH_148, kV_Fs_findQuarrels⟩ (eg_134 σ) rfl rfl (Nat.le_of_ble_eq_true rfl) H (fun v1 τ2 H => ?_)
      exact b_iret (ty := .int) d_TH_quarrels_23 rfl rfl ⟨_, _, rfl, rfl, H⟩
    · have H := H.2 c3
      refine b_iconst (v := (-1 : Int32)) d_TH_quarrels_9 (by decide) ?_
      exact b_iret (ty := .int) d_TH_quarrels_10 rfl rfl ⟨_, _, rfl, rfl, H⟩
theorem C_TH_quarrels {S : XS} {Q : Int32 → St → Prop} (σ : St) (x1 : Int32) (H : BW S m_TH_quarrels 0 [some (.ref 0), some (.int x1)] [] (enc σ) (qI Q)) : CM S m_TH_quarrels [.ref 0, .int x1] (enc σ) (qI Q) := b_meth (by decide) (Nat.le_of_ble_eq_true rfl) rfl H
theorem d_TH_found_0 : decode m_TH_found.2.1 0 = .ok (.aload_n 0, 1) := by decide +kernel
theorem d_TH_found_1 : decode m_TH_found.2.1 1 = .ok (.getfield 40, 3) := by decide +kernel
theorem d_TH_found_4 : decode m_TH_found.2.1 4 = .ok (.iload_n 1, 1) := by decide +kernel
theorem d_TH_found_5 : decode m_TH_found.2.1 5 = .ok (.iload_n 2, 1) := by decide +kernel
theorem d_TH_found_6 : decode m_TH_found.2.1 6 = .ok (.invokevirtual 152, 3) := by decide +kernel
theorem d_TH_found_9 : decode m_TH_found.2.1 9 = .ok (.ireturn, 1) := by decide +kernel
set_option maxHeartbeats 4000000 in
set_option maxRecDepth 100000 in
theorem B_TH_found_0 {S : XS} {Q : Int32 → St → Prop} (σ : St) (x1 : Int32) (x2 : Int32) (H : CM S m_Fs_foundPair [.ref 134, .int x1, .int x2] (enc σ) (qI (fun v1 τ2 => Q v1 τ2))) : BW S m_TH_found 0 [some (.ref 0), some (.int x1), some (.int x2)] [] (enc σ) (qI Q) := by
  refine b_aload_n d_TH_found_0 rfl rfl ?_
  refine b_getf (v := .ref 134) d_TH_found_1 fl_TH_40 (eg_0 σ) rfl ?_
  refine b_iload_n d_TH_found_4 rfl rfl ?_
  refine b_iload_n d_TH_found_5 rfl rfl ?_
  refine b_callVi (Mc := m_Fs_foundPair) (As := [.int x1, .int x2]) (st := []) d_TH_found_6 ⟨⟨kA_Fs_foundPair.1, kA_Fs_foundPair.2.1, kA_Fs_foundPair.2.2, by decide⟩, ml_TH_152, kV_Fs_foundPair⟩ (eg_134 σ) rfl rfl (Nat.le_of_ble_eq_true rfl) H (fun v1 τ2 H => ?_)
  exact b_iret (ty := .int) d_TH_found_9 rfl rfl ⟨_, _, rfl, rfl, H⟩
theorem C_TH_found {S : XS} {Q : Int32 → St → Prop} (σ : St) (x1 : Int32) (x2 : Int32) (H : BW S m_TH_found 0 [some (.ref 0), some (.int x1), some (.int x2)] [] (enc σ) (qI Q)) : CM S m_TH_found [.ref 0, .int x1, .int x2] (enc σ) (qI Q) := b_meth (by decide) (Nat.le_of_ble_eq_true rfl) rfl H
theorem d_TH_mend_0 : decode m_TH_mend.2.1 0 = .ok (.aload_n 0, 1) := by decide +kernel
theorem d_TH_mend_1 : decode m_TH_mend.2.1 1 = .ok (.getfield 33, 3) := by decide +kernel
theorem d_TH_mend_4 : decode m_TH_mend.2.1 4 = .ok (.iload_n 1, 1) := by decide +kernel
theorem d_TH_mend_5 : decode m_TH_mend.2.1 5 = .ok (.invokevirtual 155, 3) := by decide +kernel
theorem d_TH_mend_8 : decode m_TH_mend.2.1 8 = .ok (.ireturn, 1) := by decide +kernel
set_option maxHeartbeats 4000000 in
set_option maxRecDepth 100000 in
theorem B_TH_mend_0 {S : XS} {Q : Int32 → St → Prop} (σ : St) (x1 : Int32) (H : CM S m_Pa_addEdition [.ref 131, .int x1] (enc σ) (qI (fun v1 τ2 => Q v1 τ2))) : BW S m_TH_mend 0 [some (.ref 0), some (.int x1)] [] (enc σ) (qI Q) := by
  refine b_aload_n d_TH_mend_0 rfl rfl ?_
  refine b_getf (v := .ref 131) d_TH_mend_1 fl_TH_33 (eg_0 σ) rfl ?_
  refine b_iload_n d_TH_mend_4 rfl rfl ?_
  refine b_callVi (Mc := m_Pa_addEdition) (As := [.int x1]) (st := []) d_TH_mend_5 ⟨⟨kA_Pa_addEdition.1, kA_Pa_addEdition.2.1, kA_Pa_addEdition.2.2, by decide⟩, ml_TH_155, kV_Pa_addEdition⟩ (eg_131 σ) rfl rfl (Nat.le_of_ble_eq_true rfl) H (fun v1 τ2 H => ?_)
  exact b_iret (ty := .int) d_TH_mend_8 rfl rfl ⟨_, _, rfl, rfl, H⟩
theorem C_TH_mend {S : XS} {Q : Int32 → St → Prop} (σ : St) (x1 : Int32) (H : BW S m_TH_mend 0 [some (.ref 0), some (.int x1)] [] (enc σ) (qI Q)) : CM S m_TH_mend [.ref 0, .int x1] (enc σ) (qI Q) := b_meth (by decide) (Nat.le_of_ble_eq_true rfl) rfl H
theorem d_TH_agree_0 : decode m_TH_agree.2.1 0 = .ok (.aload_n 0, 1) := by decide +kernel
theorem d_TH_agree_1 : decode m_TH_agree.2.1 1 = .ok (.getfield 47, 3) := by decide +kernel
theorem d_TH_agree_4 : decode m_TH_agree.2.1 4 = .ok (.aload_n 0, 1) := by decide +kernel
theorem d_TH_agree_5 : decode m_TH_agree.2.1 5 = .ok (.getfield 10, 3) := by decide +kernel
theorem d_TH_agree_8 : decode m_TH_agree.2.1 8 = .ok (.invokevirtual 158, 3) := by decide +kernel
theorem d_TH_agree_11 : decode m_TH_agree.2.1 11 = .ok (.istore_n 2, 1) := by decide +kernel
theorem d_TH_agree_12 : decode m_TH_agree.2.1 12 = .ok (.aload_n 0, 1) := by decide +kernel
theorem d_TH_agree_13 : decode m_TH_agree.2.1 13 = .ok (.getfield 10, 3) := by decide +kernel
theorem d_TH_agree_16 : decode m_TH_agree.2.1 16 = .ok (.invokevirtual 125, 3) := by decide +kernel
theorem d_TH_agree_19 : decode m_TH_agree.2.1 19 = .ok (.iload_n 2, 1) := by decide +kernel
theorem d_TH_agree_20 : decode m_TH_agree.2.1 20 = .ok (.ifCond .ne 5, 3) := by decide +kernel
theorem d_TH_agree_23 : decode m_TH_agree.2.1 23 = .ok (.iconst (-1), 1) := by decide +kernel
theorem d_TH_agree_24 : decode m_TH_agree.2.1 24 = .ok (.ireturn, 1) := by decide +kernel
theorem d_TH_agree_25 : decode m_TH_agree.2.1 25 = .ok (.iload_n 1, 1) := by decide +kernel
theorem d_TH_agree_26 : decode m_TH_agree.2.1 26 = .ok (.invokestatic 159, 3) := by decide +kernel
theorem d_TH_agree_29 : decode m_TH_agree.2.1 29 = .ok (.ifCond .ne 6, 3) := by decide +kernel
theorem d_TH_agree_32 : decode m_TH_agree.2.1 32 = .ok (.bipush (-2), 2) := by decide +kernel
theorem d_TH_agree_34 : decode m_TH_agree.2.1 34 = .ok (.ireturn, 1) := by decide +kernel
theorem d_TH_agree_35 : decode m_TH_agree.2.1 35 = .ok (.aload_n 0, 1) := by decide +kernel
theorem d_TH_agree_36 : decode m_TH_agree.2.1 36 = .ok (.getfield 47, 3) := by decide +kernel
theorem d_TH_agree_39 : decode m_TH_agree.2.1 39 = .ok (.iload_n 1, 1) := by decide +kernel
theorem d_TH_agree_40 : decode m_TH_agree.2.1 40 = .ok (.invokevirtual 162, 3) := by decide +kernel
theorem d_TH_agree_43 : decode m_TH_agree.2.1 43 = .ok (.ireturn, 1) := by decide +kernel
set_option maxHeartbeats 4000000 in
set_option maxRecDepth 100000 in
theorem B_TH_agree_0 {S : XS} {Q : Int32 → St → Prop} (σ : St) (x1 : Int32) (H : CM S m_As_readDraft [.ref 139, .ref 1] (enc σ) (qI (fun v1 τ2 => CM S m_Tp_discard [.ref 1] (enc τ2) (qV (fun τ4 => ((¬ v1 = 0 → CM S m_TH_isPart [.int x1] (enc τ4) (qI (fun v5 τ6 => ((¬ v5 = 0 → CM S m_As_addDraft [.ref 139, .int x1] (enc τ6) (qI (fun v7 τ8 => Q v7 τ8))) ∧ (v5 = 0 → Q (-2 : Int32) τ6))))) ∧ (v1 = 0 → Q (-1 : Int32) τ4))))))) : BW S m_TH_agree 0 [some (.ref 0), some (.int x1), none] [] (enc σ) (qI Q) := by
  refine b_aload_n d_TH_agree_0 rfl rfl ?_
  refine b_getf (v := .ref 139) d_TH_agree_1 fl_TH_47 (eg_0 σ) rfl ?_
  refine b_aload_n d_TH_agree_4 rfl rfl ?_
  refine b_getf (v := .ref 1) d_TH_agree_5 fl_TH_10 (eg_0 σ) rfl ?_
  refine b_callVi (Mc := m_As_readDraft) (As := [.ref 1]) (st := []) d_TH_agree_8 ⟨⟨kA_As_readDraft.1, kA_As_readDraft.2.1, kA_As_readDraft.2.2, by decide⟩, ml_TH_158, kV_As_readDraft⟩ (eg_139 σ) rfl rfl (Nat.le_of_ble_eq_true rfl) H (fun v1 τ2 H => ?_)
  refine b_istore_n (ls' := [some (.ref 0), some (.int x1), some (.int v1)]) d_TH_agree_11 rfl (Nat.le_of_ble_eq_true rfl) rfl ?_
  refine b_aload_n d_TH_agree_12 rfl rfl ?_
  refine b_getf (v := .ref 1) d_TH_agree_13 fl_TH_10 (eg_0 τ2) rfl ?_
  refine b_callVv (Mc := m_Tp_discard) (As := []) (st := []) d_TH_agree_16 ⟨⟨kA_Tp_discard.1, kA_Tp_discard.2.1, kA_Tp_discard.2.2, by decide⟩, ml_TH_125, kV_Tp_discard⟩ (eg_1 τ2) rfl rfl (Nat.le_of_ble_eq_true rfl) H (fun τ4 H => ?_)
  refine b_iload_n d_TH_agree_19 rfl rfl ?_
  refine b_if_ne (tgt := 25) d_TH_agree_20 (by decide) (fun c10 => ?_) (fun c10 => ?_)
  · have H := H.1 c10
    refine b_iload_n d_TH_agree_25 rfl rfl ?_
    refine b_callSi (Mc := m_TH_isPart) (As := [.int x1]) (st := []) d_TH_agree_26 ⟨⟨kA_TH_isPart.1, kA_TH_isPart.2.1, kA_TH_isPart.2.2, by decide⟩, ml_TH_159, kS_TH_isPart⟩ rfl rfl (Nat.le_of_ble_eq_true rfl) H (fun v5 τ6 H => ?_)
    refine b_if_ne (tgt := 35) d_TH_agree_29 (by decide) (fun c9 => ?_) (fun c9 => ?_)
    · have H := H.1 c9
      refine b_aload_n d_TH_agree_35 rfl rfl ?_
      refine b_getf (v := .ref 139) d_TH_agree_36 fl_TH_47 (eg_0 τ6) rfl ?_
      refine b_iload_n d_TH_agree_39 rfl rfl ?_
      refine b_callVi (Mc := m_As_addDraft) (As := [.int x1]) (st := []) d_TH_agree_40 ⟨⟨kA_As_addDraft.1, kA_As_addDraft.2.1, kA_As_addDraft.2.2, by decide⟩, ml_TH_162, kV_As_addDraft⟩ (eg_139 τ6) rfl rfl (Nat.le_of_ble_eq_true rfl) H (fun v7 τ8 H => ?_)
      exact b_iret (ty := .int) d_TH_agree_43 rfl rfl ⟨_, _, rfl, rfl, H⟩
    · have H := H.2 c9
      refine b_bipush (v := (-2 : Int32)) d_TH_agree_32 (by decide) ?_
      exact b_iret (ty := .int) d_TH_agree_34 rfl rfl ⟨_, _, rfl, rfl, H⟩
  · have H := H.2 c10
    refine b_iconst (v := (-1 : Int32)) d_TH_agree_23 (by decide) ?_
    exact b_iret (ty := .int) d_TH_agree_24 rfl rfl ⟨_, _, rfl, rfl, H⟩
theorem C_TH_agree {S : XS} {Q : Int32 → St → Prop} (σ : St) (x1 : Int32) (H : BW S m_TH_agree 0 [some (.ref 0), some (.int x1), none] [] (enc σ) (qI Q)) : CM S m_TH_agree [.ref 0, .int x1] (enc σ) (qI Q) := b_meth (by decide) (Nat.le_of_ble_eq_true rfl) rfl H
theorem d_TH_agreed_0 : decode m_TH_agreed.2.1 0 = .ok (.iload_n 1, 1) := by decide +kernel
theorem d_TH_agreed_1 : decode m_TH_agreed.2.1 1 = .ok (.invokestatic 159, 3) := by decide +kernel
theorem d_TH_agreed_4 : decode m_TH_agreed.2.1 4 = .ok (.ifCond .eq 14, 3) := by decide +kernel
theorem d_TH_agreed_7 : decode m_TH_agreed.2.1 7 = .ok (.aload_n 0, 1) := by decide +kernel
theorem d_TH_agreed_8 : decode m_TH_agreed.2.1 8 = .ok (.getfield 47, 3) := by decide +kernel
theorem d_TH_agreed_11 : decode m_TH_agreed.2.1 11 = .ok (.iload_n 1, 1) := by decide +kernel
theorem d_TH_agreed_12 : decode m_TH_agreed.2.1 12 = .ok (.invokevirtual 164, 3) := by decide +kernel
theorem d_TH_agreed_15 : decode m_TH_agreed.2.1 15 = .ok (.goto 4, 3) := by decide +kernel
theorem d_TH_agreed_18 : decode m_TH_agreed.2.1 18 = .ok (.iconst (-1), 1) := by decide +kernel
theorem d_TH_agreed_19 : decode m_TH_agreed.2.1 19 = .ok (.ireturn, 1) := by decide +kernel
set_option maxHeartbeats 4000000 in
set_option maxRecDepth 100000 in
theorem B_TH_agreed_0 {S : XS} {Q : Int32 → St → Prop} (σ : St) (x1 : Int32) (H : CM S m_TH_isPart [.int x1] (enc σ) (qI (fun v1 τ2 => ((v1 = 0 → Q (-1 : Int32) τ2) ∧ (¬ v1 = 0 → CM S m_As_latestFor [.ref 139, .int x1] (enc τ2) (qI (fun v3 τ4 => Q v3 τ4))))))) : BW S m_TH_agreed 0 [some (.ref 0), some (.int x1)] [] (enc σ) (qI Q) := by
  refine b_iload_n d_TH_agreed_0 rfl rfl ?_
  refine b_callSi (Mc := m_TH_isPart) (As := [.int x1]) (st := []) d_TH_agreed_1 ⟨⟨kA_TH_isPart.1, kA_TH_isPart.2.1, kA_TH_isPart.2.2, by decide⟩, ml_TH_159, kS_TH_isPart⟩ rfl rfl (Nat.le_of_ble_eq_true rfl) H (fun v1 τ2 H => ?_)
  refine b_if_eq (tgt := 18) d_TH_agreed_4 (by decide) (fun c5 => ?_) (fun c5 => ?_)
  · have H := H.1 c5
    refine b_iconst (v := (-1 : Int32)) d_TH_agreed_18 (by decide) ?_
    exact b_iret (ty := .int) d_TH_agreed_19 rfl rfl ⟨_, _, rfl, rfl, H⟩
  · have H := H.2 c5
    refine b_aload_n d_TH_agreed_7 rfl rfl ?_
    refine b_getf (v := .ref 139) d_TH_agreed_8 fl_TH_47 (eg_0 τ2) rfl ?_
    refine b_iload_n d_TH_agreed_11 rfl rfl ?_
    refine b_callVi (Mc := m_As_latestFor) (As := [.int x1]) (st := []) d_TH_agreed_12 ⟨⟨kA_As_latestFor.1, kA_As_latestFor.2.1, kA_As_latestFor.2.2, by decide⟩, ml_TH_164, kV_As_latestFor⟩ (eg_139 τ2) rfl rfl (Nat.le_of_ble_eq_true rfl) H (fun v3 τ4 H => ?_)
    refine b_goto (tgt := 19) d_TH_agreed_15 (by decide) ?_
    exact b_iret (ty := .int) d_TH_agreed_19 rfl rfl ⟨_, _, rfl, rfl, H⟩
theorem C_TH_agreed {S : XS} {Q : Int32 → St → Prop} (σ : St) (x1 : Int32) (H : BW S m_TH_agreed 0 [some (.ref 0), some (.int x1)] [] (enc σ) (qI Q)) : CM S m_TH_agreed [.ref 0, .int x1] (enc σ) (qI Q) := b_meth (by decide) (Nat.le_of_ble_eq_true rfl) rfl H
theorem d_TH_share_0 : decode m_TH_share.2.1 0 = .ok (.iload_n 1, 1) := by decide +kernel
theorem d_TH_share_1 : decode m_TH_share.2.1 1 = .ok (.invokestatic 159, 3) := by decide +kernel
theorem d_TH_share_4 : decode m_TH_share.2.1 4 = .ok (.ifCond .ne 7, 3) := by decide +kernel
theorem d_TH_share_7 : decode m_TH_share.2.1 7 = .ok (.ldc2_w 167, 3) := by decide +kernel
theorem d_TH_share_10 : decode m_TH_share.2.1 10 = .ok (.lreturn, 1) := by decide +kernel
theorem d_TH_share_11 : decode m_TH_share.2.1 11 = .ok (.aload_n 0, 1) := by decide +kernel
theorem d_TH_share_12 : decode m_TH_share.2.1 12 = .ok (.getfield 47, 3) := by decide +kernel
theorem d_TH_share_15 : decode m_TH_share.2.1 15 = .ok (.aload_n 0, 1) := by decide +kernel
theorem d_TH_share_16 : decode m_TH_share.2.1 16 = .ok (.getfield 47, 3) := by decide +kernel
theorem d_TH_share_19 : decode m_TH_share.2.1 19 = .ok (.iload_n 1, 1) := by decide +kernel
theorem d_TH_share_20 : decode m_TH_share.2.1 20 = .ok (.invokevirtual 164, 3) := by decide +kernel
theorem d_TH_share_23 : decode m_TH_share.2.1 23 = .ok (.invokevirtual 169, 3) := by decide +kernel
theorem d_TH_share_26 : decode m_TH_share.2.1 26 = .ok (.astore_n 2, 1) := by decide +kernel
theorem d_TH_share_27 : decode m_TH_share.2.1 27 = .ok (.aload_n 2, 1) := by decide +kernel
theorem d_TH_share_28 : decode m_TH_share.2.1 28 = .ok (.ifnonnull 7, 3) := by decide +kernel
theorem d_TH_share_31 : decode m_TH_share.2.1 31 = .ok (.ldc2_w 167, 3) := by decide +kernel
theorem d_TH_share_34 : decode m_TH_share.2.1 34 = .ok (.lreturn, 1) := by decide +kernel
theorem d_TH_share_35 : decode m_TH_share.2.1 35 = .ok (.aload_n 2, 1) := by decide +kernel
theorem d_TH_share_36 : decode m_TH_share.2.1 36 = .ok (.aload_n 0, 1) := by decide +kernel
theorem d_TH_share_37 : decode m_TH_share.2.1 37 = .ok (.getfield 54, 3) := by decide +kernel
theorem d_TH_share_40 : decode m_TH_share.2.1 40 = .ok (.iload_n 1, 1) := by decide +kernel
theorem d_TH_share_41 : decode m_TH_share.2.1 41 = .ok (.invokevirtual 173, 3) := by decide +kernel
theorem d_TH_share_44 : decode m_TH_share.2.1 44 = .ok (.invokevirtual 177, 3) := by decide +kernel
theorem d_TH_share_47 : decode m_TH_share.2.1 47 = .ok (.lstore_n 3, 1) := by decide +kernel
theorem d_TH_share_48 : decode m_TH_share.2.1 48 = .ok (.lload_n 3, 1) := by decide +kernel
theorem d_TH_share_49 : decode m_TH_share.2.1 49 = .ok (.aload_n 0, 1) := by decide +kernel
theorem d_TH_share_50 : decode m_TH_share.2.1 50 = .ok (.getfield 54, 3) := by decide +kernel
theorem d_TH_share_53 : decode m_TH_share.2.1 53 = .ok (.getfield 183, 3) := by decide +kernel
theorem d_TH_share_56 : decode m_TH_share.2.1 56 = .ok (.i2l, 1) := by decide +kernel
theorem d_TH_share_57 : decode m_TH_share.2.1 57 = .ok (.lmul, 1) := by decide +kernel
theorem d_TH_share_58 : decode m_TH_share.2.1 58 = .ok (.ldc2_w 186, 3) := by decide +kernel
theorem d_TH_share_61 : decode m_TH_share.2.1 61 = .ok (.ldiv, 1) := by decide +kernel
theorem d_TH_share_62 : decode m_TH_share.2.1 62 = .ok (.lstore 5, 2) := by decide +kernel
theorem d_TH_share_64 : decode m_TH_share.2.1 64 = .ok (.aload_n 2, 1) := by decide +kernel
theorem d_TH_share_65 : decode m_TH_share.2.1 65 = .ok (.getfield 188, 3) := by decide +kernel
theorem d_TH_share_68 : decode m_TH_share.2.1 68 = .ok (.i2l, 1) := by decide +kernel
theorem d_TH_share_69 : decode m_TH_share.2.1 69 = .ok (.aload_n 0, 1) := by decide +kernel
theorem d_TH_share_70 : decode m_TH_share.2.1 70 = .ok (.getfield 33, 3) := by decide +kernel
theorem d_TH_share_73 : decode m_TH_share.2.1 73 = .ok (.iload_n 1, 1) := by decide +kernel
theorem d_TH_share_74 : decode m_TH_share.2.1 74 = .ok (.invokevirtual 191, 3) := by decide +kernel
theorem d_TH_share_77 : decode m_TH_share.2.1 77 = .ok (.i2l, 1) := by decide +kernel
theorem d_TH_share_78 : decode m_TH_share.2.1 78 = .ok (.lmul, 1) := by decide +kernel
theorem d_TH_share_79 : decode m_TH_share.2.1 79 = .ok (.lstore 7, 2) := by decide +kernel
theorem d_TH_share_81 : decode m_TH_share.2.1 81 = .ok (.lconst 0, 1) := by decide +kernel
theorem d_TH_share_82 : decode m_TH_share.2.1 82 = .ok (.lload 5, 2) := by decide +kernel
theorem d_TH_share_84 : decode m_TH_share.2.1 84 = .ok (.lload 7, 2) := by decide +kernel
theorem d_TH_share_86 : decode m_TH_share.2.1 86 = .ok (.lsub, 1) := by decide +kernel
theorem d_TH_share_87 : decode m_TH_share.2.1 87 = .ok (.invokestatic 194, 3) := by decide +kernel
theorem d_TH_share_90 : decode m_TH_share.2.1 90 = .ok (.lreturn, 1) := by decide +kernel
set_option maxHeartbeats 4000000 in
set_option maxRecDepth 100000 in
theorem B_TH_share_0 {S : XS} {Q : Int64 → St → Prop} (σ : St) (x1 : Int32) (H : CM S m_TH_isPart [.int x1] (enc σ) (qI (fun v1 τ2 => ((¬ v1 = 0 → CM S m_As_latestFor [.ref 139, .int x1] (enc τ2) (qI (fun v3 τ4 => CM S m_As_numbered [.ref 139, .int v3] (enc τ4) (qR (fun v5 τ6 => ((v5 = none → Q (-1 : Int64) τ6) ∧ (∀ q7, v5 = some q7 → CM S m_Sh_soldOfPart [.ref 144, .int x1] (enc τ6) (qL (fun v8 τ9 => (isAg τ9 q7) ∧ CM S m_Ag_percentsOf [.ref q7, .long v8] (enc τ9) (qL (fun v10 τ11 => (isAg τ11 q7) ∧ CM S m_Pa_daysLate [.ref 131, .int x1] (enc τ11) (qI (fun v14 τ15 => Q (if (((v10 * ((gX τ11 18)).toInt64) / (100 : Int64)) - (((fI τ11 q7 3)).toInt64 * (v14).toInt64)) < (0 : Int64) then (0 : Int64) else (((v10 * ((gX τ11 18)).toInt64) / (100 : Int64)) - (((fI τ11 q7 3)).toInt64 * (v14).toInt64))) τ15))))))))))))) ∧ (v1 = 0 → Q (-1 : Int64) τ2))))) : BW S m_TH_share 0 [some (.ref 0), some (.int x1), none, none, none, none, none, none, none] [] (enc σ) (qL Q) := by
  refine b_iload_n d_TH_share_0 rfl rfl ?_
  refine b_callSi (Mc := m_TH_isPart) (As := [.int x1]) (st := []) d_TH_share_1 ⟨⟨kA_TH_isPart.1, kA_TH_isPart.2.1, kA_TH_isPart.2.2, by decide⟩, ml_TH_159, kS_TH_isPart⟩ rfl rfl (Nat.le_of_ble_eq_true rfl) H (fun v1 τ2 H => ?_)
  refine b_if_ne (tgt := 11) d_TH_share_4 (by decide) (fun c16 => ?_) (fun c16 => ?_)
  · have H := H.1 c16
    refine b_aload_n d_TH_share_11 rfl rfl ?_
    refine b_getf (v := .ref 139) d_TH_share_12 fl_TH_47 (eg_0 τ2) rfl ?_
    refine b_aload_n d_TH_share_15 rfl rfl ?_
    refine b_getf (v := .ref 139) d_TH_share_16 fl_TH_47 (eg_0 τ2) rfl ?_
    refine b_iload_n d_TH_share_19 rfl rfl ?_
    refine b_callVi (Mc := m_As_latestFor) (As := [.int x1]) (st := [.ref 139]) d_TH_share_20 ⟨⟨kA_As_latestFor.1, kA_As_latestFor.2.1, kA_As_latestFor.2.2, by decide⟩, ml_TH_164, kV_As_latestFor⟩ (eg_139 τ2) rfl rfl (Nat.le_of_ble_eq_true rfl) H (fun v3 τ4 H => ?_)
    refine b_callVr (Mc := m_As_numbered) (As := [.int v3]) (st := []) d_TH_share_23 ⟨⟨kA_As_numbered.1, kA_As_numbered.2.1, kA_As_numbered.2.2, by decide⟩, ml_TH_169, kV_As_numbered⟩ (eg_139 τ4) rfl rfl (Nat.le_of_ble_eq_true rfl) H (fun v5 τ6 H => ?_)
    rcases v5 with _ | q7
    · have H := H.1 rfl
      refine b_astore_nN (ls' := [some (.ref 0), some (.int x1), some (.null), none, none, none, none, none, none]) d_TH_share_26 rfl (Nat.le_of_ble_eq_true rfl) rfl ?_
      refine b_aload_nN d_TH_share_27 rfl rfl ?_
      refine b_ifnonnullN d_TH_share_28 ?_
      refine b_ldc2 (v := (-1 : Int64)) d_TH_share_31 cn_TH_167 ?_
      exact b_lret d_TH_share_34 rfl ⟨_, _, rfl, rfl, H⟩
    · have H := H.2 q7 rfl
      refine b_astore_n (ls' := [some (.ref 0), some (.int x1), some (.ref q7), none, none, none, none, none, none]) d_TH_share_26 rfl (Nat.le_of_ble_eq_true rfl) rfl ?_
      refine b_aload_n d_TH_share_27 rfl rfl ?_
      refine b_ifnonnull (tgt := 35) d_TH_share_28 (by decide) ?_
      refine b_aload_n d_TH_share_35 rfl rfl ?_
      refine b_aload_n d_TH_share_36 rfl rfl ?_
      refine b_getf (v := .ref 144) d_TH_share_37 fl_TH_54 (eg_0 τ6) rfl ?_
      refine b_iload_n d_TH_share_40 rfl rfl ?_
      refine b_callVl (Mc := m_Sh_soldOfPart) (As := [.int x1]) (st := [.ref q7]) d_TH_share_41 ⟨⟨kA_Sh_soldOfPart.1, kA_Sh_soldOfPart.2.1, kA_Sh_soldOfPart.2.2, by decide⟩, ml_TH_173, kV_Sh_soldOfPart⟩ (eg_144 τ6) rfl rfl (Nat.le_of_ble_eq_true rfl) H (fun v8 τ9 H => ?_)
      obtain ⟨h12, H⟩ := H
      refine b_callVl (Mc := m_Ag_percentsOf) (As := [.long v8]) (st := []) d_TH_share_44 ⟨⟨kA_Ag_percentsOf.1, kA_Ag_percentsOf.2.1, kA_Ag_percentsOf.2.2, by decide⟩, ml_TH_177, kV_Ag_percentsOf⟩ (eA τ9 h12) rfl rfl (Nat.le_of_ble_eq_true rfl) H (fun v10 τ11 H => ?_)
      refine b_lstore_n (ls' := [some (.ref 0), some (.int x1), some (.ref q7), some (.long v10), none, none, none, none, none]) d_TH_share_47 rfl (Nat.le_of_ble_eq_true rfl) rfl ?_
      refine b_lload_n d_TH_share_48 rfl rfl ?_
      refine b_aload_n d_TH_share_49 rfl rfl ?_
      refine b_getf (v := .ref 144) d_TH_share_50 fl_TH_54 (eg_0 τ11) rfl ?_
      refine b_getfN (v := .int (gX τ11 18)) d_TH_share_53 fn_TH_183 (eg_144 τ11) rfl ?_
      refine b_i2l d_TH_share_56 ?_
      refine b_lmul d_TH_share_57  ?_
      refine b_ldc2 (v := (100 : Int64)) d_TH_share_58 cn_TH_186 ?_
      refine b_ldiv d_TH_share_61 (by decide) ?_
      refine b_lstore (ls' := [some (.ref 0), some (.int x1), some (.ref q7), some (.long v10), none, some (.long ((v10 * ((gX τ11 18)).toInt64) / (100 : Int64))), none, none, none]) d_TH_share_62 (Nat.le_of_ble_eq_true rfl) rfl ?_
      refine b_aload_n d_TH_share_64 rfl rfl ?_
      obtain ⟨h13, H⟩ := H
      refine b_getfN (v := .int (fI τ11 q7 3)) d_TH_share_65 fn_TH_188 (eA τ11 h13) rfl ?_
      refine b_i2l d_TH_share_68 ?_
      refine b_aload_n d_TH_share_69 rfl rfl ?_
      refine b_getf (v := .ref 131) d_TH_share_70 fl_TH_33 (eg_0 τ11) rfl ?_
      refine b_iload_n d_TH_share_73 rfl rfl ?_
      refine b_callVi (Mc := m_Pa_daysLate) (As := [.int x1]) (st := [.long (((fI τ11 q7 3)).toInt64)]) d_TH_share_74 ⟨⟨kA_Pa_daysLate.1, kA_Pa_daysLate.2.1, kA_Pa_daysLate.2.2, by decide⟩, ml_TH_191, kV_Pa_daysLate⟩ (eg_131 τ11) rfl rfl (Nat.le_of_ble_eq_true rfl) H (fun v14 τ15 H => ?_)
      refine b_i2l d_TH_share_77 ?_
      refine b_lmul d_TH_share_78  ?_
      refine b_lstore (ls' := [some (.ref 0), some (.int x1), some (.ref q7), some (.long v10), none, some (.long ((v10 * ((gX τ11 18)).toInt64) / (100 : Int64))), none, some (.long (((fI τ11 q7 3)).toInt64 * (v14).toInt64)), none]) d_TH_share_79 (Nat.le_of_ble_eq_true rfl) rfl ?_
      refine b_lconst (v := (0 : Int64)) d_TH_share_81 (by decide) ?_
      refine b_lload d_TH_share_82 rfl ?_
      refine b_lload d_TH_share_84 rfl ?_
      refine b_lsub d_TH_share_86  ?_
      refine b_maxJ d_TH_share_87 ml_TH_194 (Nat.le_of_ble_eq_true rfl) ⟨by decide, by decide⟩ ?_
      exact b_lret d_TH_share_90 rfl ⟨_, _, rfl, rfl, H⟩
  · have H := H.2 c16
    refine b_ldc2 (v := (-1 : Int64)) d_TH_share_7 cn_TH_167 ?_
    exact b_lret d_TH_share_10 rfl ⟨_, _, rfl, rfl, H⟩
theorem C_TH_share {S : XS} {Q : Int64 → St → Prop} (σ : St) (x1 : Int32) (H : BW S m_TH_share 0 [some (.ref 0), some (.int x1), none, none, none, none, none, none, none] [] (enc σ) (qL Q)) : CM S m_TH_share [.ref 0, .int x1] (enc σ) (qL Q) := b_meth (by decide) (Nat.le_of_ble_eq_true rfl) rfl H
theorem d_TH_start_0 : decode m_TH_start.2.1 0 = .ok (.aload_n 0, 1) := by decide +kernel
theorem d_TH_start_1 : decode m_TH_start.2.1 1 = .ok (.getfield 33, 3) := by decide +kernel
theorem d_TH_start_4 : decode m_TH_start.2.1 4 = .ok (.iload_n 1, 1) := by decide +kernel
theorem d_TH_start_5 : decode m_TH_start.2.1 5 = .ok (.invokevirtual 200, 3) := by decide +kernel
theorem d_TH_start_8 : decode m_TH_start.2.1 8 = .ok (.ireturn, 1) := by decide +kernel
set_option maxHeartbeats 4000000 in
set_option maxRecDepth 100000 in
theorem B_TH_start_0 {S : XS} {Q : Int32 → St → Prop} (σ : St) (x1 : Int32) (H : CM S m_Pa_beginOn [.ref 131, .int x1] (enc σ) (qI (fun v1 τ2 => (narrow .boolean (.int v1) = .int v1) ∧ Q v1 τ2))) : BW S m_TH_start 0 [some (.ref 0), some (.int x1)] [] (enc σ) (qI Q) := by
  refine b_aload_n d_TH_start_0 rfl rfl ?_
  refine b_getf (v := .ref 131) d_TH_start_1 fl_TH_33 (eg_0 σ) rfl ?_
  refine b_iload_n d_TH_start_4 rfl rfl ?_
  refine b_callVi (Mc := m_Pa_beginOn) (As := [.int x1]) (st := []) d_TH_start_5 ⟨⟨kA_Pa_beginOn.1, kA_Pa_beginOn.2.1, kA_Pa_beginOn.2.2, by decide⟩, ml_TH_200, kV_Pa_beginOn⟩ (eg_131 σ) rfl rfl (Nat.le_of_ble_eq_true rfl) H (fun v1 τ2 H => ?_)
  obtain ⟨h3, H⟩ := H
  exact b_iret (ty := .boolean) d_TH_start_8 rfl h3 ⟨_, _, rfl, rfl, H⟩
theorem C_TH_start {S : XS} {Q : Int32 → St → Prop} (σ : St) (x1 : Int32) (H : BW S m_TH_start 0 [some (.ref 0), some (.int x1)] [] (enc σ) (qI Q)) : CM S m_TH_start [.ref 0, .int x1] (enc σ) (qI Q) := b_meth (by decide) (Nat.le_of_ble_eq_true rfl) rfl H
theorem d_TH_came_0 : decode m_TH_came.2.1 0 = .ok (.aload_n 0, 1) := by decide +kernel
theorem d_TH_came_1 : decode m_TH_came.2.1 1 = .ok (.getfield 33, 3) := by decide +kernel
theorem d_TH_came_4 : decode m_TH_came.2.1 4 = .ok (.iload_n 1, 1) := by decide +kernel
theorem d_TH_came_5 : decode m_TH_came.2.1 5 = .ok (.iload_n 2, 1) := by decide +kernel
theorem d_TH_came_6 : decode m_TH_came.2.1 6 = .ok (.invokevirtual 203, 3) := by decide +kernel
theorem d_TH_came_9 : decode m_TH_came.2.1 9 = .ok (.ireturn, 1) := by decide +kernel
set_option maxHeartbeats 4000000 in
set_option maxRecDepth 100000 in
theorem B_TH_came_0 {S : XS} {Q : Int32 → St → Prop} (σ : St) (x1 : Int32) (x2 : Int32) (H : CM S m_Pa_arrive [.ref 131, .int x1, .int x2] (enc σ) (qI (fun v1 τ2 => Q v1 τ2))) : BW S m_TH_came 0 [some (.ref 0), some (.int x1), some (.int x2)] [] (enc σ) (qI Q) := by
  refine b_aload_n d_TH_came_0 rfl rfl ?_
  refine b_getf (v := .ref 131) d_TH_came_1 fl_TH_33 (eg_0 σ) rfl ?_
  refine b_iload_n d_TH_came_4 rfl rfl ?_
  refine b_iload_n d_TH_came_5 rfl rfl ?_
  refine b_callVi (Mc := m_Pa_arrive) (As := [.int x1, .int x2]) (st := []) d_TH_came_6 ⟨⟨kA_Pa_arrive.1, kA_Pa_arrive.2.1, kA_Pa_arrive.2.2, by decide⟩, ml_TH_203, kV_Pa_arrive⟩ (eg_131 σ) rfl rfl (Nat.le_of_ble_eq_true rfl) H (fun v1 τ2 H => ?_)
  exact b_iret (ty := .int) d_TH_came_9 rfl rfl ⟨_, _, rfl, rfl, H⟩
theorem C_TH_came {S : XS} {Q : Int32 → St → Prop} (σ : St) (x1 : Int32) (x2 : Int32) (H : BW S m_TH_came 0 [some (.ref 0), some (.int x1), some (.int x2)] [] (enc σ) (qI Q)) : CM S m_TH_came [.ref 0, .int x1, .int x2] (enc σ) (qI Q) := b_meth (by decide) (Nat.le_of_ble_eq_true rfl) rfl H
theorem d_TH_due_0 : decode m_TH_due.2.1 0 = .ok (.iload_n 1, 1) := by decide +kernel
theorem d_TH_due_1 : decode m_TH_due.2.1 1 = .ok (.invokestatic 159, 3) := by decide +kernel
theorem d_TH_due_4 : decode m_TH_due.2.1 4 = .ok (.ifCond .eq 14, 3) := by decide +kernel
theorem d_TH_due_7 : decode m_TH_due.2.1 7 = .ok (.aload_n 0, 1) := by decide +kernel
theorem d_TH_due_8 : decode m_TH_due.2.1 8 = .ok (.getfield 33, 3) := by decide +kernel
theorem d_TH_due_11 : decode m_TH_due.2.1 11 = .ok (.iload_n 1, 1) := by decide +kernel
theorem d_TH_due_12 : decode m_TH_due.2.1 12 = .ok (.invokevirtual 206, 3) := by decide +kernel
theorem d_TH_due_15 : decode m_TH_due.2.1 15 = .ok (.goto 4, 3) := by decide +kernel
theorem d_TH_due_18 : decode m_TH_due.2.1 18 = .ok (.iconst (-1), 1) := by decide +kernel
theorem d_TH_due_19 : decode m_TH_due.2.1 19 = .ok (.ireturn, 1) := by decide +kernel
set_option maxHeartbeats 4000000 in
set_option maxRecDepth 100000 in
theorem B_TH_due_0 {S : XS} {Q : Int32 → St → Prop} (σ : St) (x1 : Int32) (H : CM S m_TH_isPart [.int x1] (enc σ) (qI (fun v1 τ2 => ((v1 = 0 → Q (-1 : Int32) τ2) ∧ (¬ v1 = 0 → CM S m_Pa_dueDay [.ref 131, .int x1] (enc τ2) (qI (fun v3 τ4 => Q v3 τ4))))))) : BW S m_TH_due 0 [some (.ref 0), some (.int x1)] [] (enc σ) (qI Q) := by
  refine b_iload_n d_TH_due_0 rfl rfl ?_
  refine b_callSi (Mc := m_TH_isPart) (As := [.int x1]) (st := []) d_TH_due_1 ⟨⟨kA_TH_isPart.1, kA_TH_isPart.2.1, kA_TH_isPart.2.2, by decide⟩, ml_TH_159, kS_TH_isPart⟩ rfl rfl (Nat.le_of_ble_eq_true rfl) H (fun v1 τ2 H => ?_)
  refine b_if_eq (tgt := 18) d_TH_due_4 (by decide) (fun c5 => ?_) (fun c5 => ?_)
  · have H := H.1 c5
    refine b_iconst (v := (-1 : Int32)) d_TH_due_18 (by decide) ?_
    exact b_iret (ty := .int) d_TH_due_19 rfl rfl ⟨_, _, rfl, rfl, H⟩
  · have H := H.2 c5
    refine b_aload_n d_TH_due_7 rfl rfl ?_
    refine b_getf (v := .ref 131) d_TH_due_8 fl_TH_33 (eg_0 τ2) rfl ?_
    refine b_iload_n d_TH_due_11 rfl rfl ?_
    refine b_callVi (Mc := m_Pa_dueDay) (As := [.int x1]) (st := []) d_TH_due_12 ⟨⟨kA_Pa_dueDay.1, kA_Pa_dueDay.2.1, kA_Pa_dueDay.2.2, by decide⟩, ml_TH_206, kV_Pa_dueDay⟩ (eg_131 τ2) rfl rfl (Nat.le_of_ble_eq_true rfl) H (fun v3 τ4 H => ?_)
    refine b_goto (tgt := 19) d_TH_due_15 (by decide) ?_
    exact b_iret (ty := .int) d_TH_due_19 rfl rfl ⟨_, _, rfl, rfl, H⟩
theorem C_TH_due {S : XS} {Q : Int32 → St → Prop} (σ : St) (x1 : Int32) (H : BW S m_TH_due 0 [some (.ref 0), some (.int x1)] [] (enc σ) (qI Q)) : CM S m_TH_due [.ref 0, .int x1] (enc σ) (qI Q) := b_meth (by decide) (Nat.le_of_ble_eq_true rfl) rfl H
theorem d_TH_prices_0 : decode m_TH_prices.2.1 0 = .ok (.aload_n 0, 1) := by decide +kernel
theorem d_TH_prices_1 : decode m_TH_prices.2.1 1 = .ok (.getfield 54, 3) := by decide +kernel
theorem d_TH_prices_4 : decode m_TH_prices.2.1 4 = .ok (.iload_n 1, 1) := by decide +kernel
theorem d_TH_prices_5 : decode m_TH_prices.2.1 5 = .ok (.iload_n 2, 1) := by decide +kernel
theorem d_TH_prices_6 : decode m_TH_prices.2.1 6 = .ok (.iload_n 3, 1) := by decide +kernel
theorem d_TH_prices_7 : decode m_TH_prices.2.1 7 = .ok (.iload 4, 2) := by decide +kernel
theorem d_TH_prices_9 : decode m_TH_prices.2.1 9 = .ok (.invokevirtual 209, 3) := by decide +kernel
theorem d_TH_prices_12 : decode m_TH_prices.2.1 12 = .ok (.ireturn, 1) := by decide +kernel
set_option maxHeartbeats 4000000 in
set_option maxRecDepth 100000 in
theorem B_TH_prices_0 {S : XS} {Q : Int32 → St → Prop} (σ : St) (x1 : Int32) (x2 : Int32) (x3 : Int32) (x4 : Int32) (H : CM S m_Sh_changePrices [.ref 144, .int x1, .int x2, .int x3, .int x4] (enc σ) (qI (fun v1 τ2 => (narrow .boolean (.int v1) = .int v1) ∧ Q v1 τ2))) : BW S m_TH_prices 0 [some (.ref 0), some (.int x1), some (.int x2), some (.int x3), some (.int x4)] [] (enc σ) (qI Q) := by
  refine b_aload_n d_TH_prices_0 rfl rfl ?_
  refine b_getf (v := .ref 144) d_TH_prices_1 fl_TH_54 (eg_0 σ) rfl ?_
  refine b_iload_n d_TH_prices_4 rfl rfl ?_
  refine b_iload_n d_TH_prices_5 rfl rfl ?_
  refine b_iload_n d_TH_prices_6 rfl rfl ?_
  refine b_iload d_TH_prices_7 rfl ?_
  refine b_callVi (Mc := m_Sh_changePrices) (As := [.int x1, .int x2, .int x3, .int x4]) (st := []) d_TH_prices_9 ⟨⟨kA_Sh_changePrices.1, kA_Sh_changePrices.2.1, kA_Sh_changePrices.2.2, by decide⟩, ml_TH_209, kV_Sh_changePrices⟩ (eg_144 σ) rfl rfl (Nat.le_of_ble_eq_true rfl) H (fun v1 τ2 H => ?_)
  obtain ⟨h3, H⟩ := H
  exact b_iret (ty := .boolean) d_TH_prices_12 rfl h3 ⟨_, _, rfl, rfl, H⟩
theorem C_TH_prices {S : XS} {Q : Int32 → St → Prop} (σ : St) (x1 : Int32) (x2 : Int32) (x3 : Int32) (x4 : Int32) (H : BW S m_TH_prices 0 [some (.ref 0), some (.int x1), some (.int x2), some (.int x3), some (.int x4)] [] (enc σ) (qI Q)) : CM S m_TH_prices [.ref 0, .int x1, .int x2, .int x3, .int x4] (enc σ) (qI Q) := b_meth (by decide) (Nat.le_of_ble_eq_true rfl) rfl H
theorem d_TH_keep_0 : decode m_TH_keep.2.1 0 = .ok (.aload_n 0, 1) := by decide +kernel
theorem d_TH_keep_1 : decode m_TH_keep.2.1 1 = .ok (.getfield 33, 3) := by decide +kernel
theorem d_TH_keep_4 : decode m_TH_keep.2.1 4 = .ok (.iload_n 1, 1) := by decide +kernel
theorem d_TH_keep_5 : decode m_TH_keep.2.1 5 = .ok (.iload_n 2, 1) := by decide +kernel
theorem d_TH_keep_6 : decode m_TH_keep.2.1 6 = .ok (.invokevirtual 128, 3) := by decide +kernel
theorem d_TH_keep_9 : decode m_TH_keep.2.1 9 = .ok (.ifCond .eq 23, 3) := by decide +kernel
theorem d_TH_keep_12 : decode m_TH_keep.2.1 12 = .ok (.aload_n 0, 1) := by decide +kernel
theorem d_TH_keep_13 : decode m_TH_keep.2.1 13 = .ok (.getfield 54, 3) := by decide +kernel
theorem d_TH_keep_16 : decode m_TH_keep.2.1 16 = .ok (.iload_n 1, 1) := by decide +kernel
theorem d_TH_keep_17 : decode m_TH_keep.2.1 17 = .ok (.iload_n 2, 1) := by decide +kernel
theorem d_TH_keep_18 : decode m_TH_keep.2.1 18 = .ok (.invokestatic 212, 3) := by decide +kernel
theorem d_TH_keep_21 : decode m_TH_keep.2.1 21 = .ok (.iload_n 3, 1) := by decide +kernel
theorem d_TH_keep_22 : decode m_TH_keep.2.1 22 = .ok (.invokevirtual 215, 3) := by decide +kernel
theorem d_TH_keep_25 : decode m_TH_keep.2.1 25 = .ok (.ifCond .eq 7, 3) := by decide +kernel
theorem d_TH_keep_28 : decode m_TH_keep.2.1 28 = .ok (.iconst 1, 1) := by decide +kernel
theorem d_TH_keep_29 : decode m_TH_keep.2.1 29 = .ok (.goto 4, 3) := by decide +kernel
theorem d_TH_keep_32 : decode m_TH_keep.2.1 32 = .ok (.iconst 0, 1) := by decide +kernel
theorem d_TH_keep_33 : decode m_TH_keep.2.1 33 = .ok (.ireturn, 1) := by decide +kernel
set_option maxHeartbeats 4000000 in
set_option maxRecDepth 100000 in
theorem B_TH_keep_0 {S : XS} {Q : Int32 → St → Prop} (σ : St) (x1 : Int32) (x2 : Int32) (x3 : Int32) (H : CM S m_Pa_haveEdition [.ref 131, .int x1, .int x2] (enc σ) (qI (fun v1 τ2 => ((v1 = 0 → Q (0 : Int32) τ2) ∧ (¬ v1 = 0 → CM S m_TH_slot [.int x1, .int x2] (enc τ2) (qI (fun v3 τ4 => CM S m_Sh_keepPlates [.ref 144, .int v3, .int x3] (enc τ4) (qI (fun v5 τ6 => ((v5 = 0 → Q (0 : Int32) τ6) ∧ (¬ v5 = 0 → Q (1 : Int32) τ6))))))))))) : BW S m_TH_keep 0 [some (.ref 0), some (.int x1), some (.int x2), some (.int x3)] [] (enc σ) (qI Q) := by
  refine b_aload_n d_TH_keep_0 rfl rfl ?_
  refine b_getf (v := .ref 131) d_TH_keep_1 fl_TH_33 (eg_0 σ) rfl ?_
  refine b_iload_n d_TH_keep_4 rfl rfl ?_
  refine b_iload_n d_TH_keep_5 rfl rfl ?_
  refine b_callVi (Mc := m_Pa_haveEdition) (As := [.int x1, .int x2]) (st := []) d_TH_keep_6 ⟨⟨kA_Pa_haveEdition.1, kA_Pa_haveEdition.2.1, kA_Pa_haveEdition.2.2, by decide⟩, ml_TH_128, kV_Pa_haveEdition⟩ (eg_131 σ) rfl rfl (Nat.le_of_ble_eq_true rfl) H (fun v1 τ2 H => ?_)
  refine b_if_eq (tgt := 32) d_TH_keep_9 (by decide) (fun c8 => ?_) (fun c8 => ?_)
  · have H := H.1 c8
    refine b_iconst (v := (0 : Int32)) d_TH_keep_32 (by decide) ?_
    exact b_iret (ty := .boolean) d_TH_keep_33 rfl rfl ⟨_, _, rfl, rfl, H⟩
  · have H := H.2 c8
    refine b_aload_n d_TH_keep_12 rfl rfl ?_
    refine b_getf (v := .ref 144) d_TH_keep_13 fl_TH_54 (eg_0 τ2) rfl ?_
    refine b_iload_n d_TH_keep_16 rfl rfl ?_
    refine b_iload_n d_TH_keep_17 rfl rfl ?_
    refine b_callSi (Mc := m_TH_slot) (As := [.int x1, .int x2]) (st := [.ref 144]) d_TH_keep_18 ⟨⟨kA_TH_slot.1, kA_TH_slot.2.1, kA_TH_slot.2.2, by decide⟩, ml_TH_212, kS_TH_slot⟩ rfl rfl (Nat.le_of_ble_eq_true rfl) H (fun v3 τ4 H => ?_)
    refine b_iload_n d_TH_keep_21 rfl rfl ?_
    refine b_callVi (Mc := m_Sh_keepPlates) (As := [.int v3, .int x3]) (st := []) d_TH_keep_22 ⟨⟨kA_Sh_keepPlates.1, kA_Sh_keepPlates.2.1, kA_Sh_keepPlates.2.2, by decide⟩, ml_TH_215, kV_Sh_keepPlates⟩ (eg_144 τ4) rfl rfl (Nat.le_of_ble_eq_true rfl) H (fun v5 τ6 H => ?_)
    refine b_if_eq (tgt := 32) d_TH_keep_25 (by decide) (fun c7 => ?_) (fun c7 => ?_)
    · have H := H.1 c7
      refine b_iconst (v := (0 : Int32)) d_TH_keep_32 (by decide) ?_
      exact b_iret (ty := .boolean) d_TH_keep_33 rfl rfl ⟨_, _, rfl, rfl, H⟩
    · have H := H.2 c7
      refine b_iconst (v := (1 : Int32)) d_TH_keep_28 (by decide) ?_
      refine b_goto (tgt := 33) d_TH_keep_29 (by decide) ?_
      exact b_iret (ty := .boolean) d_TH_keep_33 rfl rfl ⟨_, _, rfl, rfl, H⟩
theorem C_TH_keep {S : XS} {Q : Int32 → St → Prop} (σ : St) (x1 : Int32) (x2 : Int32) (x3 : Int32) (H : BW S m_TH_keep 0 [some (.ref 0), some (.int x1), some (.int x2), some (.int x3)] [] (enc σ) (qI Q)) : CM S m_TH_keep [.ref 0, .int x1, .int x2, .int x3] (enc σ) (qI Q) := b_meth (by decide) (Nat.le_of_ble_eq_true rfl) rfl H
theorem d_TH_print_0 : decode m_TH_print.2.1 0 = .ok (.aload_n 0, 1) := by decide +kernel
theorem d_TH_print_1 : decode m_TH_print.2.1 1 = .ok (.getfield 33, 3) := by decide +kernel
theorem d_TH_print_4 : decode m_TH_print.2.1 4 = .ok (.iload_n 1, 1) := by decide +kernel
theorem d_TH_print_5 : decode m_TH_print.2.1 5 = .ok (.iload_n 2, 1) := by decide +kernel
theorem d_TH_print_6 : decode m_TH_print.2.1 6 = .ok (.invokevirtual 128, 3) := by decide +kernel
theorem d_TH_print_9 : decode m_TH_print.2.1 9 = .ok (.ifCond .eq 14, 3) := by decide +kernel
theorem d_TH_print_12 : decode m_TH_print.2.1 12 = .ok (.aload_n 0, 1) := by decide +kernel
theorem d_TH_print_13 : decode m_TH_print.2.1 13 = .ok (.getfield 33, 3) := by decide +kernel
theorem d_TH_print_16 : decode m_TH_print.2.1 16 = .ok (.iload_n 1, 1) := by decide +kernel
theorem d_TH_print_17 : decode m_TH_print.2.1 17 = .ok (.invokevirtual 219, 3) := by decide +kernel
theorem d_TH_print_20 : decode m_TH_print.2.1 20 = .ok (.ifCond .ne 5, 3) := by decide +kernel
theorem d_TH_print_23 : decode m_TH_print.2.1 23 = .ok (.iconst (-1), 1) := by decide +kernel
theorem d_TH_print_24 : decode m_TH_print.2.1 24 = .ok (.ireturn, 1) := by decide +kernel
theorem d_TH_print_25 : decode m_TH_print.2.1 25 = .ok (.iload_n 3, 1) := by decide +kernel
theorem d_TH_print_26 : decode m_TH_print.2.1 26 = .ok (.iconst 1, 1) := by decide +kernel
theorem d_TH_print_27 : decode m_TH_print.2.1 27 = .ok (.if_icmp .lt 9, 3) := by decide +kernel
theorem d_TH_print_30 : decode m_TH_print.2.1 30 = .ok (.iload_n 3, 1) := by decide +kernel
theorem d_TH_print_31 : decode m_TH_print.2.1 31 = .ok (.ldc 222, 2) := by decide +kernel
theorem d_TH_print_33 : decode m_TH_print.2.1 33 = .ok (.if_icmp .le 5, 3) := by decide +kernel
theorem d_TH_print_36 : decode m_TH_print.2.1 36 = .ok (.iconst (-1), 1) := by decide +kernel
theorem d_TH_print_37 : decode m_TH_print.2.1 37 = .ok (.ireturn, 1) := by decide +kernel
theorem d_TH_print_38 : decode m_TH_print.2.1 38 = .ok (.aload_n 0, 1) := by decide +kernel
theorem d_TH_print_39 : decode m_TH_print.2.1 39 = .ok (.getfield 54, 3) := by decide +kernel
theorem d_TH_print_42 : decode m_TH_print.2.1 42 = .ok (.iload_n 1, 1) := by decide +kernel
theorem d_TH_print_43 : decode m_TH_print.2.1 43 = .ok (.iload_n 2, 1) := by decide +kernel
theorem d_TH_print_44 : decode m_TH_print.2.1 44 = .ok (.invokestatic 212, 3) := by decide +kernel
theorem d_TH_print_47 : decode m_TH_print.2.1 47 = .ok (.iload_n 3, 1) := by decide +kernel
theorem d_TH_print_48 : decode m_TH_print.2.1 48 = .ok (.invokevirtual 223, 3) := by decide +kernel
theorem d_TH_print_51 : decode m_TH_print.2.1 51 = .ok (.ireturn, 1) := by decide +kernel
set_option maxHeartbeats 4000000 in
set_option maxRecDepth 100000 in
theorem B_TH_print_0 {S : XS} {Q : Int32 → St → Prop} (σ : St) (x1 : Int32) (x2 : Int32) (x3 : Int32) (H : CM S m_Pa_haveEdition [.ref 131, .int x1, .int x2] (enc σ) (qI (fun v1 τ2 => ((v1 = 0 → Q (-1 : Int32) τ2) ∧ (¬ v1 = 0 → CM S m_Pa_hasCome [.ref 131, .int x1] (enc τ2) (qI (fun v3 τ4 => ((¬ v3 = 0 → ((x3 < (1 : Int32) → Q (-1 : Int32) τ4) ∧ (¬ x3 < (1 : Int32) → ((x3 ≤ (100000 : Int32) → CM S m_TH_slot [.int x1, .int x2] (enc τ4) (qI (fun v5 τ6 => CM S m_Sh_addPrinted [.ref 144, .int v5, .int x3] (enc τ6) (qI (fun v7 τ8 => Q v7 τ8))))) ∧ (¬ x3 ≤ (100000 : Int32) → Q (-1 : Int32) τ4))))) ∧ (v3 = 0 → Q (-1 : Int32) τ4))))))))) : BW S m_TH_print 0 [some (.ref 0), some (.int x1), some (.int x2), some (.int x3)] [] (enc σ) (qI Q) := by
  refine b_aload_n d_TH_print_0 rfl rfl ?_
  refine b_getf (v := .ref 131) d_TH_print_1 fl_TH_33 (eg_0 σ) rfl ?_
  refine b_iload_n d_TH_print_4 rfl rfl ?_
  refine b_iload_n d_TH_print_5 rfl rfl ?_
  refine b_callVi (Mc := m_Pa_haveEdition) (As := [.int x1, .int x2]) (st := []) d_TH_print_6 ⟨⟨kA_Pa_haveEdition.1, kA_Pa_haveEdition.2.1, kA_Pa_haveEdition.2.2, by decide⟩, ml_TH_128, kV_Pa_haveEdition⟩ (eg_131 σ) rfl rfl (Nat.le_of_ble_eq_true rfl) H (fun v1 τ2 H => ?_)
  refine b_if_eq (tgt := 23) d_TH_print_9 (by decide) (fun c12 => ?_) (fun c12 => ?_)
  · have H := H.1 c12
    refine b_iconst (v := (-1 : Int32)) d_TH_print_23 (by decide) ?_
    exact b_iret (ty := .int) d_TH_print_24 rfl rfl ⟨_, _, rfl, rfl, H⟩
  · have H := H.2 c12
    refine b_aload_n d_TH_print_12 rfl rfl ?_
    refine b_getf (v := .ref 131) d_TH_print_13 fl_TH_33 (eg_0 τ2) rfl ?_
    refine b_iload_n d_TH_print_16 rfl rfl ?_
    refine b_callVi (Mc := m_Pa_hasCome) (As := [.int x1]) (st := []) d_TH_print_17 ⟨⟨kA_Pa_hasCome.1, kA_Pa_hasCome.2.1, kA_Pa_hasCome.2.2, by decide⟩, ml_TH_219, kV_Pa_hasCome⟩ (eg_131 τ2) rfl rfl (Nat.le_of_ble_eq_true rfl) H (fun v3 τ4 H => ?_)
    refine b_if_ne (tgt := 25) d_TH_print_20 (by decide) (fun c11 => ?_) (fun c11 => ?_)
    · have H := H.1 c11
      refine b_iload_n d_TH_print_25 rfl rfl ?_
      refine b_iconst (v := (1 : Int32)) d_TH_print_26 (by decide) ?_
      refine b_icmp_lt (tgt := 36) d_TH_print_27 (by decide) (fun c10 => ?_) (fun c10 => ?_)
      · have H := H.1 c10
        refine b_iconst (v := (-1 : Int32)) d_TH_print_36 (by decide) ?_
        exact b_iret (ty := .int) d_TH_print_37 rfl rfl ⟨_, _, rfl, rfl, H⟩
      · have H := H.2 c10
        refine b_iload_n d_TH_print_30 rfl rfl ?_
        refine b_ldc (v := (100000 : Int32)) d_TH_print_31 cn_TH_222 ?_
        refine b_icmp_le (tgt := 38) d_TH_print_33 (by decide) (fun c9 => ?_) (fun c9 => ?_)
        · have H := H.1 c9
          refine b_aload_n d_TH_print_38 rfl rfl ?_
          refine b_getf (v := .ref 144) d_TH_print_39 fl_TH_54 (eg_0 τ4) rfl ?_
          refine b_iload_n d_TH_print_42 rfl rfl ?_
          refine b_iload_n d_TH_print_43 rfl rfl ?_
          refine b_callSi (Mc := m_TH_slot) (As := [.int x1, .int x2]) (st := [.ref 144]) d_TH_print_44 ⟨⟨kA_TH_slot.1, kA_TH_slot.2.1, kA_TH_slot.2.2, by decide⟩, ml_TH_212, kS_TH_slot⟩ rfl rfl (Nat.le_of_ble_eq_true rfl) H (fun v5 τ6 H => ?_)
          refine b_iload_n d_TH_print_47 rfl rfl ?_
          refine b_callVi (Mc := m_Sh_addPrinted) (As := [.int v5, .int x3]) (st := []) d_TH_print_48 ⟨⟨kA_Sh_addPrinted.1, kA_Sh_addPrinted.2.1, kA_Sh_addPrinted.2.2, by decide⟩, ml_TH_223, kV_Sh_addPrinted⟩ (eg_144 τ6) rfl rfl (Nat.le_of_ble_eq_true rfl) H (fun v7 τ8 H => ?_)
          exact b_iret (ty := .int) d_TH_print_51 rfl rfl ⟨_, _, rfl, rfl, H⟩
        · have H := H.2 c9
          refine b_iconst (v := (-1 : Int32)) d_TH_print_36 (by decide) ?_
          exact b_iret (ty := .int) d_TH_print_37 rfl rfl ⟨_, _, rfl, rfl, H⟩
    · have H := H.2 c11
      refine b_iconst (v := (-1 : Int32)) d_TH_print_23 (by decide) ?_
      exact b_iret (ty := .int) d_TH_print_24 rfl rfl ⟨_, _, rfl, rfl, H⟩
theorem C_TH_print {S : XS} {Q : Int32 → St → Prop} (σ : St) (x1 : Int32) (x2 : Int32) (x3 : Int32) (H : BW S m_TH_print 0 [some (.ref 0), some (.int x1), some (.int x2), some (.int x3)] [] (enc σ) (qI Q)) : CM S m_TH_print [.ref 0, .int x1, .int x2, .int x3] (enc σ) (qI Q) := b_meth (by decide) (Nat.le_of_ble_eq_true rfl) rfl H
theorem d_TH_sell_0 : decode m_TH_sell.2.1 0 = .ok (.aload_n 0, 1) := by decide +kernel
theorem d_TH_sell_1 : decode m_TH_sell.2.1 1 = .ok (.getfield 33, 3) := by decide +kernel
theorem d_TH_sell_4 : decode m_TH_sell.2.1 4 = .ok (.iload_n 1, 1) := by decide +kernel
theorem d_TH_sell_5 : decode m_TH_sell.2.1 5 = .ok (.iload_n 2, 1) := by decide +kernel
theorem d_TH_sell_6 : decode m_TH_sell.2.1 6 = .ok (.invokevirtual 128, 3) := by decide +kernel
theorem d_TH_sell_9 : decode m_TH_sell.2.1 9 = .ok (.ifCond .eq 19, 3) := by decide +kernel
theorem d_TH_sell_12 : decode m_TH_sell.2.1 12 = .ok (.aload_n 0, 1) := by decide +kernel
theorem d_TH_sell_13 : decode m_TH_sell.2.1 13 = .ok (.getfield 54, 3) := by decide +kernel
theorem d_TH_sell_16 : decode m_TH_sell.2.1 16 = .ok (.iload_n 1, 1) := by decide +kernel
theorem d_TH_sell_17 : decode m_TH_sell.2.1 17 = .ok (.iload_n 2, 1) := by decide +kernel
theorem d_TH_sell_18 : decode m_TH_sell.2.1 18 = .ok (.invokestatic 212, 3) := by decide +kernel
theorem d_TH_sell_21 : decode m_TH_sell.2.1 21 = .ok (.iload_n 3, 1) := by decide +kernel
theorem d_TH_sell_22 : decode m_TH_sell.2.1 22 = .ok (.invokevirtual 226, 3) := by decide +kernel
theorem d_TH_sell_25 : decode m_TH_sell.2.1 25 = .ok (.goto 4, 3) := by decide +kernel
theorem d_TH_sell_28 : decode m_TH_sell.2.1 28 = .ok (.iconst (-1), 1) := by decide +kernel
theorem d_TH_sell_29 : decode m_TH_sell.2.1 29 = .ok (.ireturn, 1) := by decide +kernel
set_option maxHeartbeats 4000000 in
set_option maxRecDepth 100000 in
theorem B_TH_sell_0 {S : XS} {Q : Int32 → St → Prop} (σ : St) (x1 : Int32) (x2 : Int32) (x3 : Int32) (H : CM S m_Pa_haveEdition [.ref 131, .int x1, .int x2] (enc σ) (qI (fun v1 τ2 => ((v1 = 0 → Q (-1 : Int32) τ2) ∧ (¬ v1 = 0 → CM S m_TH_slot [.int x1, .int x2] (enc τ2) (qI (fun v3 τ4 => CM S m_Sh_takeSold [.ref 144, .int v3, .int x3] (enc τ4) (qI (fun v5 τ6 => Q v5 τ6))))))))) : BW S m_TH_sell 0 [some (.ref 0), some (.int x1), some (.int x2), some (.int x3)] [] (enc σ) (qI Q) := by
  refine b_aload_n d_TH_sell_0 rfl rfl ?_
  refine b_getf (v := .ref 131) d_TH_sell_1 fl_TH_33 (eg_0 σ) rfl ?_
  refine b_iload_n d_TH_sell_4 rfl rfl ?_
  refine b_iload_n d_TH_sell_5 rfl rfl ?_
  refine b_callVi (Mc := m_Pa_haveEdition) (As := [.int x1, .int x2]) (st := []) d_TH_sell_6 ⟨⟨kA_Pa_haveEdition.1, kA_Pa_haveEdition.2.1, kA_Pa_haveEdition.2.2, by decide⟩, ml_TH_128, kV_Pa_haveEdition⟩ (eg_131 σ) rfl rfl (Nat.le_of_ble_eq_true rfl) H (fun v1 τ2 H => ?_)
  refine b_if_eq (tgt := 28) d_TH_sell_9 (by decide) (fun c7 => ?_) (fun c7 => ?_)
  · have H := H.1 c7
    refine b_iconst (v := (-1 : Int32)) d_TH_sell_28 (by decide) ?_
    exact b_iret (ty := .int) d_TH_sell_29 rfl rfl ⟨_, _, rfl, rfl, H⟩
  · have H := H.2 c7
    refine b_aload_n d_TH_sell_12 rfl rfl ?_
    refine b_getf (v := .ref 144) d_TH_sell_13 fl_TH_54 (eg_0 τ2) rfl ?_
    refine b_iload_n d_TH_sell_16 rfl rfl ?_
    refine b_iload_n d_TH_sell_17 rfl rfl ?_
    refine b_callSi (Mc := m_TH_slot) (As := [.int x1, .int x2]) (st := [.ref 144]) d_TH_sell_18 ⟨⟨kA_TH_slot.1, kA_TH_slot.2.1, kA_TH_slot.2.2, by decide⟩, ml_TH_212, kS_TH_slot⟩ rfl rfl (Nat.le_of_ble_eq_true rfl) H (fun v3 τ4 H => ?_)
    refine b_iload_n d_TH_sell_21 rfl rfl ?_
    refine b_callVi (Mc := m_Sh_takeSold) (As := [.int v3, .int x3]) (st := []) d_TH_sell_22 ⟨⟨kA_Sh_takeSold.1, kA_Sh_takeSold.2.1, kA_Sh_takeSold.2.2, by decide⟩, ml_TH_226, kV_Sh_takeSold⟩ (eg_144 τ4) rfl rfl (Nat.le_of_ble_eq_true rfl) H (fun v5 τ6 H => ?_)
    refine b_goto (tgt := 29) d_TH_sell_25 (by decide) ?_
    exact b_iret (ty := .int) d_TH_sell_29 rfl rfl ⟨_, _, rfl, rfl, H⟩
theorem C_TH_sell {S : XS} {Q : Int32 → St → Prop} (σ : St) (x1 : Int32) (x2 : Int32) (x3 : Int32) (H : BW S m_TH_sell 0 [some (.ref 0), some (.int x1), some (.int x2), some (.int x3)] [] (enc σ) (qI Q)) : CM S m_TH_sell [.ref 0, .int x1, .int x2, .int x3] (enc σ) (qI Q) := b_meth (by decide) (Nat.le_of_ble_eq_true rfl) rfl H
theorem d_TH_pulp_0 : decode m_TH_pulp.2.1 0 = .ok (.aload_n 0, 1) := by decide +kernel
theorem d_TH_pulp_1 : decode m_TH_pulp.2.1 1 = .ok (.getfield 33, 3) := by decide +kernel
theorem d_TH_pulp_4 : decode m_TH_pulp.2.1 4 = .ok (.iload_n 1, 1) := by decide +kernel
theorem d_TH_pulp_5 : decode m_TH_pulp.2.1 5 = .ok (.iload_n 2, 1) := by decide +kernel
theorem d_TH_pulp_6 : decode m_TH_pulp.2.1 6 = .ok (.invokevirtual 128, 3) := by decide +kernel
theorem d_TH_pulp_9 : decode m_TH_pulp.2.1 9 = .ok (.ifCond .eq 18, 3) := by decide +kernel
theorem d_TH_pulp_12 : decode m_TH_pulp.2.1 12 = .ok (.aload_n 0, 1) := by decide +kernel
theorem d_TH_pulp_13 : decode m_TH_pulp.2.1 13 = .ok (.getfield 54, 3) := by decide +kernel
theorem d_TH_pulp_16 : decode m_TH_pulp.2.1 16 = .ok (.iload_n 1, 1) := by decide +kernel
theorem d_TH_pulp_17 : decode m_TH_pulp.2.1 17 = .ok (.iload_n 2, 1) := by decide +kernel
theorem d_TH_pulp_18 : decode m_TH_pulp.2.1 18 = .ok (.invokestatic 212, 3) := by decide +kernel
theorem d_TH_pulp_21 : decode m_TH_pulp.2.1 21 = .ok (.invokevirtual 229, 3) := by decide +kernel
theorem d_TH_pulp_24 : decode m_TH_pulp.2.1 24 = .ok (.goto 4, 3) := by decide +kernel
theorem d_TH_pulp_27 : decode m_TH_pulp.2.1 27 = .ok (.iconst (-1), 1) := by decide +kernel
theorem d_TH_pulp_28 : decode m_TH_pulp.2.1 28 = .ok (.ireturn, 1) := by decide +kernel
set_option maxHeartbeats 4000000 in
set_option maxRecDepth 100000 in
theorem B_TH_pulp_0 {S : XS} {Q : Int32 → St → Prop} (σ : St) (x1 : Int32) (x2 : Int32) (H : CM S m_Pa_haveEdition [.ref 131, .int x1, .int x2] (enc σ) (qI (fun v1 τ2 => ((v1 = 0 → Q (-1 : Int32) τ2) ∧ (¬ v1 = 0 → CM S m_TH_slot [.int x1, .int x2] (enc τ2) (qI (fun v3 τ4 => CM S m_Sh_takePulped [.ref 144, .int v3] (enc τ4) (qI (fun v5 τ6 => Q v5 τ6))))))))) : BW S m_TH_pulp 0 [some (.ref 0), some (.int x1), some (.int x2)] [] (enc σ) (qI Q) := by
  refine b_aload_n d_TH_pulp_0 rfl rfl ?_
  refine b_getf (v := .ref 131) d_TH_pulp_1 fl_TH_33 (eg_0 σ) rfl ?_
  refine b_iload_n d_TH_pulp_4 rfl rfl ?_
  refine b_iload_n d_TH_pulp_5 rfl rfl ?_
  refine b_callVi (Mc := m_Pa_haveEdition) (As := [.int x1, .int x2]) (st := []) d_TH_pulp_6 ⟨⟨kA_Pa_haveEdition.1, kA_Pa_haveEdition.2.1, kA_Pa_haveEdition.2.2, by decide⟩, ml_TH_128, kV_Pa_haveEdition⟩ (eg_131 σ) rfl rfl (Nat.le_of_ble_eq_true rfl) H (fun v1 τ2 H => ?_)
  refine b_if_eq (tgt := 27) d_TH_pulp_9 (by decide) (fun c7 => ?_) (fun c7 => ?_)
  · have H := H.1 c7
    refine b_iconst (v := (-1 : Int32)) d_TH_pulp_27 (by decide) ?_
    exact b_iret (ty := .int) d_TH_pulp_28 rfl rfl ⟨_, _, rfl, rfl, H⟩
  · have H := H.2 c7
    refine b_aload_n d_TH_pulp_12 rfl rfl ?_
    refine b_getf (v := .ref 144) d_TH_pulp_13 fl_TH_54 (eg_0 τ2) rfl ?_
    refine b_iload_n d_TH_pulp_16 rfl rfl ?_
    refine b_iload_n d_TH_pulp_17 rfl rfl ?_
    refine b_callSi (Mc := m_TH_slot) (As := [.int x1, .int x2]) (st := [.ref 144]) d_TH_pulp_18 ⟨⟨kA_TH_slot.1, kA_TH_slot.2.1, kA_TH_slot.2.2, by decide⟩, ml_TH_212, kS_TH_slot⟩ rfl rfl (Nat.le_of_ble_eq_true rfl) H (fun v3 τ4 H => ?_)
    refine b_callVi (Mc := m_Sh_takePulped) (As := [.int v3]) (st := []) d_TH_pulp_21 ⟨⟨kA_Sh_takePulped.1, kA_Sh_takePulped.2.1, kA_Sh_takePulped.2.2, by decide⟩, ml_TH_229, kV_Sh_takePulped⟩ (eg_144 τ4) rfl rfl (Nat.le_of_ble_eq_true rfl) H (fun v5 τ6 H => ?_)
    refine b_goto (tgt := 28) d_TH_pulp_24 (by decide) ?_
    exact b_iret (ty := .int) d_TH_pulp_28 rfl rfl ⟨_, _, rfl, rfl, H⟩
theorem C_TH_pulp {S : XS} {Q : Int32 → St → Prop} (σ : St) (x1 : Int32) (x2 : Int32) (H : BW S m_TH_pulp 0 [some (.ref 0), some (.int x1), some (.int x2)] [] (enc σ) (qI Q)) : CM S m_TH_pulp [.ref 0, .int x1, .int x2] (enc σ) (qI Q) := b_meth (by decide) (Nat.le_of_ble_eq_true rfl) rfl H
theorem d_TH_stock_0 : decode m_TH_stock.2.1 0 = .ok (.aload_n 0, 1) := by decide +kernel
theorem d_TH_stock_1 : decode m_TH_stock.2.1 1 = .ok (.getfield 33, 3) := by decide +kernel
theorem d_TH_stock_4 : decode m_TH_stock.2.1 4 = .ok (.iload_n 1, 1) := by decide +kernel
theorem d_TH_stock_5 : decode m_TH_stock.2.1 5 = .ok (.iload_n 2, 1) := by decide +kernel
theorem d_TH_stock_6 : decode m_TH_stock.2.1 6 = .ok (.invokevirtual 128, 3) := by decide +kernel
theorem d_TH_stock_9 : decode m_TH_stock.2.1 9 = .ok (.ifCond .eq 19, 3) := by decide +kernel
theorem d_TH_stock_12 : decode m_TH_stock.2.1 12 = .ok (.aload_n 0, 1) := by decide +kernel
theorem d_TH_stock_13 : decode m_TH_stock.2.1 13 = .ok (.getfield 54, 3) := by decide +kernel
theorem d_TH_stock_16 : decode m_TH_stock.2.1 16 = .ok (.iload_n 1, 1) := by decide +kernel
theorem d_TH_stock_17 : decode m_TH_stock.2.1 17 = .ok (.iload_n 2, 1) := by decide +kernel
theorem d_TH_stock_18 : decode m_TH_stock.2.1 18 = .ok (.invokestatic 212, 3) := by decide +kernel
theorem d_TH_stock_21 : decode m_TH_stock.2.1 21 = .ok (.iload_n 3, 1) := by decide +kernel
theorem d_TH_stock_22 : decode m_TH_stock.2.1 22 = .ok (.invokevirtual 232, 3) := by decide +kernel
theorem d_TH_stock_25 : decode m_TH_stock.2.1 25 = .ok (.goto 4, 3) := by decide +kernel
theorem d_TH_stock_28 : decode m_TH_stock.2.1 28 = .ok (.iconst (-1), 1) := by decide +kernel
theorem d_TH_stock_29 : decode m_TH_stock.2.1 29 = .ok (.ireturn, 1) := by decide +kernel
set_option maxHeartbeats 4000000 in
set_option maxRecDepth 100000 in
theorem B_TH_stock_0 {S : XS} {Q : Int32 → St → Prop} (σ : St) (x1 : Int32) (x2 : Int32) (x3 : Int32) (H : CM S m_Pa_haveEdition [.ref 131, .int x1, .int x2] (enc σ) (qI (fun v1 τ2 => ((v1 = 0 → Q (-1 : Int32) τ2) ∧ (¬ v1 = 0 → CM S m_TH_slot [.int x1, .int x2] (enc τ2) (qI (fun v3 τ4 => CM S m_Sh_countOf [.ref 144, .int v3, .int x3] (enc τ4) (qI (fun v5 τ6 => Q v5 τ6))))))))) : BW S m_TH_stock 0 [some (.ref 0), some (.int x1), some (.int x2), some (.int x3)] [] (enc σ) (qI Q) := by
  refine b_aload_n d_TH_stock_0 rfl rfl ?_
  refine b_getf (v := .ref 131) d_TH_stock_1 fl_TH_33 (eg_0 σ) rfl ?_
  refine b_iload_n d_TH_stock_4 rfl rfl ?_
  refine b_iload_n d_TH_stock_5 rfl rfl ?_
  refine b_callVi (Mc := m_Pa_haveEdition) (As := [.int x1, .int x2]) (st := []) d_TH_stock_6 ⟨⟨kA_Pa_haveEdition.1, kA_Pa_haveEdition.2.1, kA_Pa_haveEdition.2.2, by decide⟩, ml_TH_128, kV_Pa_haveEdition⟩ (eg_131 σ) rfl rfl (Nat.le_of_ble_eq_true rfl) H (fun v1 τ2 H => ?_)
  refine b_if_eq (tgt := 28) d_TH_stock_9 (by decide) (fun c7 => ?_) (fun c7 => ?_)
  · have H := H.1 c7
    refine b_iconst (v := (-1 : Int32)) d_TH_stock_28 (by decide) ?_
    exact b_iret (ty := .int) d_TH_stock_29 rfl rfl ⟨_, _, rfl, rfl, H⟩
  · have H := H.2 c7
    refine b_aload_n d_TH_stock_12 rfl rfl ?_
    refine b_getf (v := .ref 144) d_TH_stock_13 fl_TH_54 (eg_0 τ2) rfl ?_
    refine b_iload_n d_TH_stock_16 rfl rfl ?_
    refine b_iload_n d_TH_stock_17 rfl rfl ?_
    refine b_callSi (Mc := m_TH_slot) (As := [.int x1, .int x2]) (st := [.ref 144]) d_TH_stock_18 ⟨⟨kA_TH_slot.1, kA_TH_slot.2.1, kA_TH_slot.2.2, by decide⟩, ml_TH_212, kS_TH_slot⟩ rfl rfl (Nat.le_of_ble_eq_true rfl) H (fun v3 τ4 H => ?_)
    refine b_iload_n d_TH_stock_21 rfl rfl ?_
    refine b_callVi (Mc := m_Sh_countOf) (As := [.int v3, .int x3]) (st := []) d_TH_stock_22 ⟨⟨kA_Sh_countOf.1, kA_Sh_countOf.2.1, kA_Sh_countOf.2.2, by decide⟩, ml_TH_232, kV_Sh_countOf⟩ (eg_144 τ4) rfl rfl (Nat.le_of_ble_eq_true rfl) H (fun v5 τ6 H => ?_)
    refine b_goto (tgt := 29) d_TH_stock_25 (by decide) ?_
    exact b_iret (ty := .int) d_TH_stock_29 rfl rfl ⟨_, _, rfl, rfl, H⟩
theorem C_TH_stock {S : XS} {Q : Int32 → St → Prop} (σ : St) (x1 : Int32) (x2 : Int32) (x3 : Int32) (H : BW S m_TH_stock 0 [some (.ref 0), some (.int x1), some (.int x2), some (.int x3)] [] (enc σ) (qI Q)) : CM S m_TH_stock [.ref 0, .int x1, .int x2, .int x3] (enc σ) (qI Q) := b_meth (by decide) (Nat.le_of_ble_eq_true rfl) rfl H
theorem d_TH_volume_0 : decode m_TH_volume.2.1 0 = .ok (.iload 4, 2) := by decide +kernel
theorem d_TH_volume_2 : decode m_TH_volume.2.1 2 = .ok (.iconst 1, 1) := by decide +kernel
theorem d_TH_volume_3 : decode m_TH_volume.2.1 3 = .ok (.if_icmp .lt 16, 3) := by decide +kernel
theorem d_TH_volume_6 : decode m_TH_volume.2.1 6 = .ok (.aload_n 0, 1) := by decide +kernel
theorem d_TH_volume_7 : decode m_TH_volume.2.1 7 = .ok (.getfield 33, 3) := by decide +kernel
theorem d_TH_volume_10 : decode m_TH_volume.2.1 10 = .ok (.iload_n 1, 1) := by decide +kernel
theorem d_TH_volume_11 : decode m_TH_volume.2.1 11 = .ok (.iload_n 2, 1) := by decide +kernel
theorem d_TH_volume_12 : decode m_TH_volume.2.1 12 = .ok (.iload_n 3, 1) := by decide +kernel
theorem d_TH_volume_13 : decode m_TH_volume.2.1 13 = .ok (.invokevirtual 235, 3) := by decide +kernel
theorem d_TH_volume_16 : decode m_TH_volume.2.1 16 = .ok (.ifCond .ne 5, 3) := by decide +kernel
theorem d_TH_volume_19 : decode m_TH_volume.2.1 19 = .ok (.iconst (-1), 1) := by decide +kernel
theorem d_TH_volume_20 : decode m_TH_volume.2.1 20 = .ok (.ireturn, 1) := by decide +kernel
theorem d_TH_volume_21 : decode m_TH_volume.2.1 21 = .ok (.aload_n 0, 1) := by decide +kernel
theorem d_TH_volume_22 : decode m_TH_volume.2.1 22 = .ok (.getfield 54, 3) := by decide +kernel
theorem d_TH_volume_25 : decode m_TH_volume.2.1 25 = .ok (.iload_n 1, 1) := by decide +kernel
theorem d_TH_volume_26 : decode m_TH_volume.2.1 26 = .ok (.iload_n 2, 1) := by decide +kernel
theorem d_TH_volume_27 : decode m_TH_volume.2.1 27 = .ok (.iload_n 3, 1) := by decide +kernel
theorem d_TH_volume_28 : decode m_TH_volume.2.1 28 = .ok (.invokevirtual 239, 3) := by decide +kernel
theorem d_TH_volume_31 : decode m_TH_volume.2.1 31 = .ok (.istore 5, 2) := by decide +kernel
theorem d_TH_volume_33 : decode m_TH_volume.2.1 33 = .ok (.iload 5, 2) := by decide +kernel
theorem d_TH_volume_35 : decode m_TH_volume.2.1 35 = .ok (.iload 4, 2) := by decide +kernel
theorem d_TH_volume_37 : decode m_TH_volume.2.1 37 = .ok (.if_icmp .ge 6, 3) := by decide +kernel
theorem d_TH_volume_40 : decode m_TH_volume.2.1 40 = .ok (.bipush (-2), 2) := by decide +kernel
theorem d_TH_volume_42 : decode m_TH_volume.2.1 42 = .ok (.ireturn, 1) := by decide +kernel
theorem d_TH_volume_43 : decode m_TH_volume.2.1 43 = .ok (.aload_n 0, 1) := by decide +kernel
theorem d_TH_volume_44 : decode m_TH_volume.2.1 44 = .ok (.getfield 54, 3) := by decide +kernel
theorem d_TH_volume_47 : decode m_TH_volume.2.1 47 = .ok (.iload_n 1, 1) := by decide +kernel
theorem d_TH_volume_48 : decode m_TH_volume.2.1 48 = .ok (.iload_n 2, 1) := by decide +kernel
theorem d_TH_volume_49 : decode m_TH_volume.2.1 49 = .ok (.iload_n 3, 1) := by decide +kernel
theorem d_TH_volume_50 : decode m_TH_volume.2.1 50 = .ok (.iload 4, 2) := by decide +kernel
theorem d_TH_volume_52 : decode m_TH_volume.2.1 52 = .ok (.invokevirtual 243, 3) := by decide +kernel
theorem d_TH_volume_55 : decode m_TH_volume.2.1 55 = .ok (.iload 5, 2) := by decide +kernel
theorem d_TH_volume_57 : decode m_TH_volume.2.1 57 = .ok (.iload 4, 2) := by decide +kernel
theorem d_TH_volume_59 : decode m_TH_volume.2.1 59 = .ok (.isub, 1) := by decide +kernel
theorem d_TH_volume_60 : decode m_TH_volume.2.1 60 = .ok (.ireturn, 1) := by decide +kernel
set_option maxHeartbeats 4000000 in
set_option maxRecDepth 100000 in
theorem B_TH_volume_0 {S : XS} {Q : Int32 → St → Prop} (σ : St) (x1 : Int32) (x2 : Int32) (x3 : Int32) (x4 : Int32) (H : ((x4 < (1 : Int32) → Q (-1 : Int32) σ) ∧ (¬ x4 < (1 : Int32) → CM S m_Pa_allHaveEdition [.ref 131, .int x1, .int x2, .int x3] (enc σ) (qI (fun v1 τ2 => ((¬ v1 = 0 → CM S m_Sh_leastLeft [.ref 144, .int x1, .int x2, .int x3] (enc τ2) (qI (fun v3 τ4 => ((x4 ≤ v3 → CM S m_Sh_bind [.ref 144, .int x1, .int x2, .int x3, .int x4] (enc τ4) (qV (fun τ6 => Q (v3 - x4) τ6))) ∧ (¬ x4 ≤ v3 → Q (-2 : Int32) τ4))))) ∧ (v1 = 0 → Q (-1 : Int32) τ2))))))) : BW S m_TH_volume 0 [some (.ref 0), some (.int x1), some (.int x2), some (.int x3), some (.int x4), none] [] (enc σ) (qI Q) := by
  refine b_iload d_TH_volume_0 rfl ?_
  refine b_iconst (v := (1 : Int32)) d_TH_volume_2 (by decide) ?_
  refine b_icmp_lt (tgt := 19) d_TH_volume_3 (by decide) (fun c9 => ?_) (fun c9 => ?_)
  · have H := H.1 c9
    refine b_iconst (v := (-1 : Int32)) d_TH_volume_19 (by decide) ?_
    exact b_iret (ty := .int) d_TH_volume_20 rfl rfl ⟨_, _, rfl, rfl, H⟩
  · have H := H.2 c9
    refine b_aload_n d_TH_volume_6 rfl rfl ?_
    refine b_getf (v := .ref 131) d_TH_volume_7 fl_TH_33 (eg_0 σ) rfl ?_
    refine b_iload_n d_TH_volume_10 rfl rfl ?_
    refine b_iload_n d_TH_volume_11 rfl rfl ?_
    refine b_iload_n d_TH_volume_12 rfl rfl ?_
    refine b_callVi (Mc := m_Pa_allHaveEdition) (As := [.int x1, .int x2, .int x3]) (st := []) d_TH_volume_13 ⟨⟨kA_Pa_allHaveEdition.1, kA_Pa_allHaveEdition.2.1, kA_Pa_allHaveEdition.2.2, by decide⟩, ml_TH_235, kV_Pa_allHaveEdition⟩ (eg_131 σ) rfl rfl (Nat.le_of_ble_eq_true rfl) H (fun v1 τ2 H => ?_)
    refine b_if_ne (tgt := 21) d_TH_volume_16 (by decide) (fun c8 => ?_) (fun c8 => ?_)
    · have H := H.1 c8
      refine b_aload_n d_TH_volume_21 rfl rfl ?_
      refine b_getf (v := .ref 144) d_TH_volume_22 fl_TH_54 (eg_0 τ2) rfl ?_
      refine b_iload_n d_TH_volume_25 rfl rfl ?_
      refine b_iload_n d_TH_volume_26 rfl rfl ?_
      refine b_iload_n d_TH_volume_27 rfl rfl ?_
      refine b_callVi (Mc := m_Sh_leastLeft) (As := [.int x1, .int x2, .int x3]) (st := []) d_TH_volume_28 ⟨⟨kA_Sh_leastLeft.1, kA_Sh_leastLeft.2.1, kA_Sh_leastLeft.2.2, by decide⟩, ml_TH_239, kV_Sh_leastLeft⟩ (eg_144 τ2) rfl rfl (Nat.le_of_ble_eq_true rfl) H (fun v3 τ4 H => ?_)
      refine b_istore (ls' := [some (.ref 0), some (.int x1), some (.int x2), some (.int x3), some (.int x4), some (.int v3)]) d_TH_volume_31 (Nat.le_of_ble_eq_true rfl) rfl ?_
      refine b_iload d_TH_volume_33 rfl ?_
      refine b_iload d_TH_volume_35 rfl ?_
      refine b_icmp_ge (tgt := 43) d_TH_volume_37 (by decide) (fun c7 => ?_) (fun c7 => ?_)
      · have H := H.1 c7
        refine b_aload_n d_TH_volume_43 rfl rfl ?_
        refine b_getf (v := .ref 144) d_TH_volume_44 fl_TH_54 (eg_0 τ4) rfl ?_
        refine b_iload_n d_TH_volume_47 rfl rfl ?_
        refine b_iload_n d_TH_volume_48 rfl rfl ?_
        refine b_iload_n d_TH_volume_49 rfl rfl ?_
        refine b_iload d_TH_volume_50 rfl ?_
        refine b_callVv (Mc := m_Sh_bind) (As := [.int x1, .int x2, .int x3, .int x4]) (st := []) d_TH_volume_52 ⟨⟨kA_Sh_bind.1, kA_Sh_bind.2.1, kA_Sh_bind.2.2, by decide⟩, ml_TH_243, kV_Sh_bind⟩ (eg_144 τ4) rfl rfl (Nat.le_of_ble_eq_true rfl) H (fun τ6 H => ?_)
        refine b_iload d_TH_volume_55 rfl ?_
        refine b_iload d_TH_volume_57 rfl ?_
        refine b_isub d_TH_volume_59  ?_
        exact b_iret (ty := .int) d_TH_volume_60 rfl rfl ⟨_, _, rfl, rfl, H⟩
      · have H := H.2 c7
        refine b_bipush (v := (-2 : Int32)) d_TH_volume_40 (by decide) ?_
        exact b_iret (ty := .int) d_TH_volume_42 rfl rfl ⟨_, _, rfl, rfl, H⟩
    · have H := H.2 c8
      refine b_iconst (v := (-1 : Int32)) d_TH_volume_19 (by decide) ?_
      exact b_iret (ty := .int) d_TH_volume_20 rfl rfl ⟨_, _, rfl, rfl, H⟩
theorem C_TH_volume {S : XS} {Q : Int32 → St → Prop} (σ : St) (x1 : Int32) (x2 : Int32) (x3 : Int32) (x4 : Int32) (H : BW S m_TH_volume 0 [some (.ref 0), some (.int x1), some (.int x2), some (.int x3), some (.int x4), none] [] (enc σ) (qI Q)) : CM S m_TH_volume [.ref 0, .int x1, .int x2, .int x3, .int x4] (enc σ) (qI Q) := b_meth (by decide) (Nat.le_of_ble_eq_true rfl) rfl H
theorem d_TH_foretell_0 : decode m_TH_foretell.2.1 0 = .ok (.aload_n 0, 1) := by decide +kernel
theorem d_TH_foretell_1 : decode m_TH_foretell.2.1 1 = .ok (.getfield 61, 3) := by decide +kernel
theorem d_TH_foretell_4 : decode m_TH_foretell.2.1 4 = .ok (.iload_n 1, 1) := by decide +kernel
theorem d_TH_foretell_5 : decode m_TH_foretell.2.1 5 = .ok (.iload_n 2, 1) := by decide +kernel
theorem d_TH_foretell_6 : decode m_TH_foretell.2.1 6 = .ok (.invokevirtual 247, 3) := by decide +kernel
theorem d_TH_foretell_9 : decode m_TH_foretell.2.1 9 = .ok (.ireturn, 1) := by decide +kernel
set_option maxHeartbeats 4000000 in
set_option maxRecDepth 100000 in
theorem B_TH_foretell_0 {S : XS} {Q : Int32 → St → Prop} (σ : St) (x1 : Int32) (x2 : Int32) (H : CM S m_Fo_addRow [.ref 150, .int x1, .int x2] (enc σ) (qI (fun v1 τ2 => Q v1 τ2))) : BW S m_TH_foretell 0 [some (.ref 0), some (.int x1), some (.int x2)] [] (enc σ) (qI Q) := by
  refine b_aload_n d_TH_foretell_0 rfl rfl ?_
  refine b_getf (v := .ref 150) d_TH_foretell_1 fl_TH_61 (eg_0 σ) rfl ?_
  refine b_iload_n d_TH_foretell_4 rfl rfl ?_
  refine b_iload_n d_TH_foretell_5 rfl rfl ?_
  refine b_callVi (Mc := m_Fo_addRow) (As := [.int x1, .int x2]) (st := []) d_TH_foretell_6 ⟨⟨kA_Fo_addRow.1, kA_Fo_addRow.2.1, kA_Fo_addRow.2.2, by decide⟩, ml_TH_247, kV_Fo_addRow⟩ (eg_150 σ) rfl rfl (Nat.le_of_ble_eq_true rfl) H (fun v1 τ2 H => ?_)
  exact b_iret (ty := .int) d_TH_foretell_9 rfl rfl ⟨_, _, rfl, rfl, H⟩
theorem C_TH_foretell {S : XS} {Q : Int32 → St → Prop} (σ : St) (x1 : Int32) (x2 : Int32) (H : BW S m_TH_foretell 0 [some (.ref 0), some (.int x1), some (.int x2)] [] (enc σ) (qI Q)) : CM S m_TH_foretell [.ref 0, .int x1, .int x2] (enc σ) (qI Q) := b_meth (by decide) (Nat.le_of_ble_eq_true rfl) rfl H
theorem d_TH_best_0 : decode m_TH_best.2.1 0 = .ok (.aload_n 0, 1) := by decide +kernel
theorem d_TH_best_1 : decode m_TH_best.2.1 1 = .ok (.getfield 33, 3) := by decide +kernel
theorem d_TH_best_4 : decode m_TH_best.2.1 4 = .ok (.iload_n 1, 1) := by decide +kernel
theorem d_TH_best_5 : decode m_TH_best.2.1 5 = .ok (.iload_n 2, 1) := by decide +kernel
theorem d_TH_best_6 : decode m_TH_best.2.1 6 = .ok (.invokevirtual 128, 3) := by decide +kernel
theorem d_TH_best_9 : decode m_TH_best.2.1 9 = .ok (.ifCond .eq 13, 3) := by decide +kernel
theorem d_TH_best_12 : decode m_TH_best.2.1 12 = .ok (.aload_n 0, 1) := by decide +kernel
theorem d_TH_best_13 : decode m_TH_best.2.1 13 = .ok (.getfield 61, 3) := by decide +kernel
theorem d_TH_best_16 : decode m_TH_best.2.1 16 = .ok (.getfield 250, 3) := by decide +kernel
theorem d_TH_best_19 : decode m_TH_best.2.1 19 = .ok (.ifCond .ne 5, 3) := by decide +kernel
theorem d_TH_best_22 : decode m_TH_best.2.1 22 = .ok (.iconst (-1), 1) := by decide +kernel
theorem d_TH_best_23 : decode m_TH_best.2.1 23 = .ok (.ireturn, 1) := by decide +kernel
theorem d_TH_best_24 : decode m_TH_best.2.1 24 = .ok (.aload_n 0, 1) := by decide +kernel
theorem d_TH_best_25 : decode m_TH_best.2.1 25 = .ok (.getfield 61, 3) := by decide +kernel
theorem d_TH_best_28 : decode m_TH_best.2.1 28 = .ok (.aload_n 0, 1) := by decide +kernel
theorem d_TH_best_29 : decode m_TH_best.2.1 29 = .ok (.getfield 54, 3) := by decide +kernel
theorem d_TH_best_32 : decode m_TH_best.2.1 32 = .ok (.iload_n 1, 1) := by decide +kernel
theorem d_TH_best_33 : decode m_TH_best.2.1 33 = .ok (.iload_n 2, 1) := by decide +kernel
theorem d_TH_best_34 : decode m_TH_best.2.1 34 = .ok (.invokestatic 212, 3) := by decide +kernel
theorem d_TH_best_37 : decode m_TH_best.2.1 37 = .ok (.invokevirtual 251, 3) := by decide +kernel
theorem d_TH_best_40 : decode m_TH_best.2.1 40 = .ok (.ireturn, 1) := by decide +kernel
set_option maxHeartbeats 4000000 in
set_option maxRecDepth 100000 in
theorem B_TH_best_0 {S : XS} {Q : Int32 → St → Prop} (σ : St) (x1 : Int32) (x2 : Int32) (H : CM S m_Pa_haveEdition [.ref 131, .int x1, .int x2] (enc σ) (qI (fun v1 τ2 => ((v1 = 0 → Q (-1 : Int32) τ2) ∧ (¬ v1 = 0 → ((¬ (gX τ2 22) = 0 → CM S m_TH_slot [.int x1, .int x2] (enc τ2) (qI (fun v3 τ4 => CM S m_Fo_bestCopies [.ref 150, .ref 144, .int v3] (enc τ4) (qI (fun v5 τ6 => Q v5 τ6))))) ∧ ((gX τ2 22) = 0 → Q (-1 : Int32) τ2))))))) : BW S m_TH_best 0 [some (.ref 0), some (.int x1), some (.int x2)] [] (enc σ) (qI Q) := by
  refine b_aload_n d_TH_best_0 rfl rfl ?_
  refine b_getf (v := .ref 131) d_TH_best_1 fl_TH_33 (eg_0 σ) rfl ?_
  refine b_iload_n d_TH_best_4 rfl rfl ?_
  refine b_iload_n d_TH_best_5 rfl rfl ?_
  refine b_callVi (Mc := m_Pa_haveEdition) (As := [.int x1, .int x2]) (st := []) d_TH_best_6 ⟨⟨kA_Pa_haveEdition.1, kA_Pa_haveEdition.2.1, kA_Pa_haveEdition.2.2, by decide⟩, ml_TH_128, kV_Pa_haveEdition⟩ (eg_131 σ) rfl rfl (Nat.le_of_ble_eq_true rfl) H (fun v1 τ2 H => ?_)
  refine b_if_eq (tgt := 22) d_TH_best_9 (by decide) (fun c8 => ?_) (fun c8 => ?_)
  · have H := H.1 c8
    refine b_iconst (v := (-1 : Int32)) d_TH_best_22 (by decide) ?_
    exact b_iret (ty := .int) d_TH_best_23 rfl rfl ⟨_, _, rfl, rfl, H⟩
  · have H := H.2 c8
    refine b_aload_n d_TH_best_12 rfl rfl ?_
    refine b_getf (v := .ref 150) d_TH_best_13 fl_TH_61 (eg_0 τ2) rfl ?_
    refine b_getfN (v := .int (gX τ2 22)) d_TH_best_16 fn_TH_250 (eg_150 τ2) rfl ?_
    refine b_if_ne (tgt := 24) d_TH_best_19 (by decide) (fun c7 => ?_) (fun c7 => ?_)
    · have H := H.1 c7
      refine b_aload_n d_TH_best_24 rfl rfl ?_
      refine b_getf (v := .ref 150) d_TH_best_25 fl_TH_61 (eg_0 τ2) rfl ?_
      refine b_aload_n d_TH_best_28 rfl rfl ?_
      refine b_getf (v := .ref 144) d_TH_best_29 fl_TH_54 (eg_0 τ2) rfl ?_
      refine b_iload_n d_TH_best_32 rfl rfl ?_
      refine b_iload_n d_TH_best_33 rfl rfl ?_
      refine b_callSi (Mc := m_TH_slot) (As := [.int x1, .int x2]) (st := [.ref 144, .ref 150]) d_TH_best_34 ⟨⟨kA_TH_slot.1, kA_TH_slot.2.1, kA_TH_slot.2.2, by decide⟩, ml_TH_212, kS_TH_slot⟩ rfl rfl (Nat.le_of_ble_eq_true rfl) H (fun v3 τ4 H => ?_)
      refine b_callVi (Mc := m_Fo_bestCopies) (As := [.ref 144, .int v3]) (st := []) d_TH_best_37 ⟨⟨kA_Fo_bestCopies.1, kA_Fo_bestCopies.2.1, kA_Fo_bestCopies.2.2, by decide⟩, ml_TH_251, kV_Fo_bestCopies⟩ (eg_150 τ4) rfl rfl (Nat.le_of_ble_eq_true rfl) H (fun v5 τ6 H => ?_)
      exact b_iret (ty := .int) d_TH_best_40 rfl rfl ⟨_, _, rfl, rfl, H⟩
    · have H := H.2 c7
      refine b_iconst (v := (-1 : Int32)) d_TH_best_22 (by decide) ?_
      exact b_iret (ty := .int) d_TH_best_23 rfl rfl ⟨_, _, rfl, rfl, H⟩
theorem C_TH_best {S : XS} {Q : Int32 → St → Prop} (σ : St) (x1 : Int32) (x2 : Int32) (H : BW S m_TH_best 0 [some (.ref 0), some (.int x1), some (.int x2)] [] (enc σ) (qI Q)) : CM S m_TH_best [.ref 0, .int x1, .int x2] (enc σ) (qI Q) := b_meth (by decide) (Nat.le_of_ble_eq_true rfl) rfl H
theorem d_TH_worth_0 : decode m_TH_worth.2.1 0 = .ok (.aload_n 0, 1) := by decide +kernel
theorem d_TH_worth_1 : decode m_TH_worth.2.1 1 = .ok (.getfield 33, 3) := by decide +kernel
theorem d_TH_worth_4 : decode m_TH_worth.2.1 4 = .ok (.iload_n 1, 1) := by decide +kernel
theorem d_TH_worth_5 : decode m_TH_worth.2.1 5 = .ok (.iload_n 2, 1) := by decide +kernel
theorem d_TH_worth_6 : decode m_TH_worth.2.1 6 = .ok (.invokevirtual 128, 3) := by decide +kernel
theorem d_TH_worth_9 : decode m_TH_worth.2.1 9 = .ok (.ifCond .eq 13, 3) := by decide +kernel
theorem d_TH_worth_12 : decode m_TH_worth.2.1 12 = .ok (.aload_n 0, 1) := by decide +kernel
theorem d_TH_worth_13 : decode m_TH_worth.2.1 13 = .ok (.getfield 61, 3) := by decide +kernel
theorem d_TH_worth_16 : decode m_TH_worth.2.1 16 = .ok (.getfield 250, 3) := by decide +kernel
theorem d_TH_worth_19 : decode m_TH_worth.2.1 19 = .ok (.ifCond .ne 7, 3) := by decide +kernel
theorem d_TH_worth_22 : decode m_TH_worth.2.1 22 = .ok (.ldc2_w 255, 3) := by decide +kernel
theorem d_TH_worth_25 : decode m_TH_worth.2.1 25 = .ok (.lreturn, 1) := by decide +kernel
theorem d_TH_worth_26 : decode m_TH_worth.2.1 26 = .ok (.iload_n 3, 1) := by decide +kernel
theorem d_TH_worth_27 : decode m_TH_worth.2.1 27 = .ok (.ifCond .lt 9, 3) := by decide +kernel
theorem d_TH_worth_30 : decode m_TH_worth.2.1 30 = .ok (.iload_n 3, 1) := by decide +kernel
theorem d_TH_worth_31 : decode m_TH_worth.2.1 31 = .ok (.ldc 222, 2) := by decide +kernel
theorem d_TH_worth_33 : decode m_TH_worth.2.1 33 = .ok (.if_icmp .le 7, 3) := by decide +kernel
theorem d_TH_worth_36 : decode m_TH_worth.2.1 36 = .ok (.ldc2_w 255, 3) := by decide +kernel
theorem d_TH_worth_39 : decode m_TH_worth.2.1 39 = .ok (.lreturn, 1) := by decide +kernel
theorem d_TH_worth_40 : decode m_TH_worth.2.1 40 = .ok (.aload_n 0, 1) := by decide +kernel
theorem d_TH_worth_41 : decode m_TH_worth.2.1 41 = .ok (.getfield 61, 3) := by decide +kernel
theorem d_TH_worth_44 : decode m_TH_worth.2.1 44 = .ok (.aload_n 0, 1) := by decide +kernel
theorem d_TH_worth_45 : decode m_TH_worth.2.1 45 = .ok (.getfield 54, 3) := by decide +kernel
theorem d_TH_worth_48 : decode m_TH_worth.2.1 48 = .ok (.iload_n 1, 1) := by decide +kernel
theorem d_TH_worth_49 : decode m_TH_worth.2.1 49 = .ok (.iload_n 2, 1) := by decide +kernel
theorem d_TH_worth_50 : decode m_TH_worth.2.1 50 = .ok (.invokestatic 212, 3) := by decide +kernel
theorem d_TH_worth_53 : decode m_TH_worth.2.1 53 = .ok (.iload_n 3, 1) := by decide +kernel
theorem d_TH_worth_54 : decode m_TH_worth.2.1 54 = .ok (.invokevirtual 257, 3) := by decide +kernel
theorem d_TH_worth_57 : decode m_TH_worth.2.1 57 = .ok (.lreturn, 1) := by decide +kernel
set_option maxHeartbeats 4000000 in
set_option maxRecDepth 100000 in
theorem B_TH_worth_0 {S : XS} {Q : Int64 → St → Prop} (σ : St) (x1 : Int32) (x2 : Int32) (x3 : Int32) (H : CM S m_Pa_haveEdition [.ref 131, .int x1, .int x2] (enc σ) (qI (fun v1 τ2 => ((v1 = 0 → Q (-9000000000000000000 : Int64) τ2) ∧ (¬ v1 = 0 → ((¬ (gX τ2 22) = 0 → ((x3 < 0 → Q (-9000000000000000000 : Int64) τ2) ∧ (¬ x3 < 0 → ((x3 ≤ (100000 : Int32) → CM S m_TH_slot [.int x1, .int x2] (enc τ2) (qI (fun v3 τ4 => CM S m_Fo_worthOf [.ref 150, .ref 144, .int v3, .int x3] (enc τ4) (qL (fun v5 τ6 => Q v5 τ6))))) ∧ (¬ x3 ≤ (100000 : Int32) → Q (-9000000000000000000 : Int64) τ2))))) ∧ ((gX τ2 22) = 0 → Q (-9000000000000000000 : Int64) τ2))))))) : BW S m_TH_worth 0 [some (.ref 0), some (.int x1), some (.int x2), some (.int x3)] [] (enc σ) (qL Q) := by
  refine b_aload_n d_TH_worth_0 rfl rfl ?_
  refine b_getf (v := .ref 131) d_TH_worth_1 fl_TH_33 (eg_0 σ) rfl ?_
  refine b_iload_n d_TH_worth_4 rfl rfl ?_
  refine b_iload_n d_TH_worth_5 rfl rfl ?_
  refine b_callVi (Mc := m_Pa_haveEdition) (As := [.int x1, .int x2]) (st := []) d_TH_worth_6 ⟨⟨kA_Pa_haveEdition.1, kA_Pa_haveEdition.2.1, kA_Pa_haveEdition.2.2, by decide⟩, ml_TH_128, kV_Pa_haveEdition⟩ (eg_131 σ) rfl rfl (Nat.le_of_ble_eq_true rfl) H (fun v1 τ2 H => ?_)
  refine b_if_eq (tgt := 22) d_TH_worth_9 (by decide) (fun c10 => ?_) (fun c10 => ?_)
  · have H := H.1 c10
    refine b_ldc2 (v := (-9000000000000000000 : Int64)) d_TH_worth_22 cn_TH_255 ?_
    exact b_lret d_TH_worth_25 rfl ⟨_, _, rfl, rfl, H⟩
  · have H := H.2 c10
    refine b_aload_n d_TH_worth_12 rfl rfl ?_
    refine b_getf (v := .ref 150) d_TH_worth_13 fl_TH_61 (eg_0 τ2) rfl ?_
    refine b_getfN (v := .int (gX τ2 22)) d_TH_worth_16 fn_TH_250 (eg_150 τ2) rfl ?_
    refine b_if_ne (tgt := 26) d_TH_worth_19 (by decide) (fun c9 => ?_) (fun c9 => ?_)
    · have H := H.1 c9
      refine b_iload_n d_TH_worth_26 rfl rfl ?_
      refine b_if_lt (tgt := 36) d_TH_worth_27 (by decide) (fun c8 => ?_) (fun c8 => ?_)
      · have H := H.1 c8
        refine b_ldc2 (v := (-9000000000000000000 : Int64)) d_TH_worth_36 cn_TH_255 ?_
        exact b_lret d_TH_worth_39 rfl ⟨_, _, rfl, rfl, H⟩
      · have H := H.2 c8
        refine b_iload_n d_TH_worth_30 rfl rfl ?_
        refine b_ldc (v := (100000 : Int32)) d_TH_worth_31 cn_TH_222 ?_
        refine b_icmp_le (tgt := 40) d_TH_worth_33 (by decide) (fun c7 => ?_) (fun c7 => ?_)
        · have H := H.1 c7
          refine b_aload_n d_TH_worth_40 rfl rfl ?_
          refine b_getf (v := .ref 150) d_TH_worth_41 fl_TH_61 (eg_0 τ2) rfl ?_
          refine b_aload_n d_TH_worth_44 rfl rfl ?_
          refine b_getf (v := .ref 144) d_TH_worth_45 fl_TH_54 (eg_0 τ2) rfl ?_
          refine b_iload_n d_TH_worth_48 rfl rfl ?_
          refine b_iload_n d_TH_worth_49 rfl rfl ?_
          refine b_callSi (Mc := m_TH_slot) (As := [.int x1, .int x2]) (st := [.ref 144, .ref 150]) d_TH_worth_50 ⟨⟨kA_TH_slot.1, kA_TH_slot.2.1, kA_TH_slot.2.2, by decide⟩, ml_TH_212, kS_TH_slot⟩ rfl rfl (Nat.le_of_ble_eq_true rfl) H (fun v3 τ4 H => ?_)
          refine b_iload_n d_TH_worth_53 rfl rfl ?_
          refine b_callVl (Mc := m_Fo_worthOf) (As := [.ref 144, .int v3, .int x3]) (st := []) d_TH_worth_54 ⟨⟨kA_Fo_worthOf.1, kA_Fo_worthOf.2.1, kA_Fo_worthOf.2.2, by decide⟩, ml_TH_257, kV_Fo_worthOf⟩ (eg_150 τ4) rfl rfl (Nat.le_of_ble_eq_true rfl) H (fun v5 τ6 H => ?_)
          exact b_lret d_TH_worth_57 rfl ⟨_, _, rfl, rfl, H⟩
        · have H := H.2 c7
          refine b_ldc2 (v := (-9000000000000000000 : Int64)) d_TH_worth_36 cn_TH_255 ?_
          exact b_lret d_TH_worth_39 rfl ⟨_, _, rfl, rfl, H⟩
    · have H := H.2 c9
      refine b_ldc2 (v := (-9000000000000000000 : Int64)) d_TH_worth_22 cn_TH_255 ?_
      exact b_lret d_TH_worth_25 rfl ⟨_, _, rfl, rfl, H⟩
theorem C_TH_worth {S : XS} {Q : Int64 → St → Prop} (σ : St) (x1 : Int32) (x2 : Int32) (x3 : Int32) (H : BW S m_TH_worth 0 [some (.ref 0), some (.int x1), some (.int x2), some (.int x3)] [] (enc σ) (qL Q)) : CM S m_TH_worth [.ref 0, .int x1, .int x2, .int x3] (enc σ) (qL Q) := b_meth (by decide) (Nat.le_of_ble_eq_true rfl) rfl H
theorem d_TH_purse_0 : decode m_TH_purse.2.1 0 = .ok (.aload_n 0, 1) := by decide +kernel
theorem d_TH_purse_1 : decode m_TH_purse.2.1 1 = .ok (.getfield 54, 3) := by decide +kernel
theorem d_TH_purse_4 : decode m_TH_purse.2.1 4 = .ok (.getfield 261, 3) := by decide +kernel
theorem d_TH_purse_7 : decode m_TH_purse.2.1 7 = .ok (.lreturn, 1) := by decide +kernel
set_option maxHeartbeats 4000000 in
set_option maxRecDepth 100000 in
theorem B_TH_purse_0 {S : XS} {Q : Int64 → St → Prop} (σ : St)  (H : Q (gP σ) σ) : BW S m_TH_purse 0 [some (.ref 0)] [] (enc σ) (qL Q) := by
  refine b_aload_n d_TH_purse_0 rfl rfl ?_
  refine b_getf (v := .ref 144) d_TH_purse_1 fl_TH_54 (eg_0 σ) rfl ?_
  refine b_getfN (v := .long (gP σ)) d_TH_purse_4 fn_TH_261 (eg_144 σ) rfl ?_
  exact b_lret d_TH_purse_7 rfl ⟨_, _, rfl, rfl, H⟩
theorem C_TH_purse {S : XS} {Q : Int64 → St → Prop} (σ : St)  (H : BW S m_TH_purse 0 [some (.ref 0)] [] (enc σ) (qL Q)) : CM S m_TH_purse [.ref 0] (enc σ) (qL Q) := b_meth (by decide) (Nat.le_of_ble_eq_true rfl) rfl H
theorem d_TH_isPart_0 : decode m_TH_isPart.2.1 0 = .ok (.iload_n 0, 1) := by decide +kernel
theorem d_TH_isPart_1 : decode m_TH_isPart.2.1 1 = .ok (.ifCond .lt 13, 3) := by decide +kernel
theorem d_TH_isPart_4 : decode m_TH_isPart.2.1 4 = .ok (.iload_n 0, 1) := by decide +kernel
theorem d_TH_isPart_5 : decode m_TH_isPart.2.1 5 = .ok (.bipush 24, 2) := by decide +kernel
theorem d_TH_isPart_7 : decode m_TH_isPart.2.1 7 = .ok (.if_icmp .ge 7, 3) := by decide +kernel
theorem d_TH_isPart_10 : decode m_TH_isPart.2.1 10 = .ok (.iconst 1, 1) := by decide +kernel
theorem d_TH_isPart_11 : decode m_TH_isPart.2.1 11 = .ok (.goto 4, 3) := by decide +kernel
theorem d_TH_isPart_14 : decode m_TH_isPart.2.1 14 = .ok (.iconst 0, 1) := by decide +kernel
theorem d_TH_isPart_15 : decode m_TH_isPart.2.1 15 = .ok (.ireturn, 1) := by decide +kernel
set_option maxHeartbeats 4000000 in
set_option maxRecDepth 100000 in
theorem B_TH_isPart_0 {S : XS} {Q : Int32 → St → Prop} (σ : St) (x0 : Int32) (H : ((x0 < 0 → Q (0 : Int32) σ) ∧ (¬ x0 < 0 → (((24 : Int32) ≤ x0 → Q (0 : Int32) σ) ∧ (¬ (24 : Int32) ≤ x0 → Q (1 : Int32) σ))))) : BW S m_TH_isPart 0 [some (.int x0)] [] (enc σ) (qI Q) := by
  refine b_iload_n d_TH_isPart_0 rfl rfl ?_
  refine b_if_lt (tgt := 14) d_TH_isPart_1 (by decide) (fun c2 => ?_) (fun c2 => ?_)
  · have H := H.1 c2
    refine b_iconst (v := (0 : Int32)) d_TH_isPart_14 (by decide) ?_
    exact b_iret (ty := .boolean) d_TH_isPart_15 rfl rfl ⟨_, _, rfl, rfl, H⟩
  · have H := H.2 c2
    refine b_iload_n d_TH_isPart_4 rfl rfl ?_
    refine b_bipush (v := (24 : Int32)) d_TH_isPart_5 (by decide) ?_
    refine b_icmp_ge (tgt := 14) d_TH_isPart_7 (by decide) (fun c1 => ?_) (fun c1 => ?_)
    · have H := H.1 c1
      refine b_iconst (v := (0 : Int32)) d_TH_isPart_14 (by decide) ?_
      exact b_iret (ty := .boolean) d_TH_isPart_15 rfl rfl ⟨_, _, rfl, rfl, H⟩
    · have H := H.2 c1
      refine b_iconst (v := (1 : Int32)) d_TH_isPart_10 (by decide) ?_
      refine b_goto (tgt := 15) d_TH_isPart_11 (by decide) ?_
      exact b_iret (ty := .boolean) d_TH_isPart_15 rfl rfl ⟨_, _, rfl, rfl, H⟩
theorem C_TH_isPart {S : XS} {Q : Int32 → St → Prop} (σ : St) (x0 : Int32) (H : BW S m_TH_isPart 0 [some (.int x0)] [] (enc σ) (qI Q)) : CM S m_TH_isPart [.int x0] (enc σ) (qI Q) := b_meth (by decide) (Nat.le_of_ble_eq_true rfl) rfl H
theorem d_TH_slot_0 : decode m_TH_slot.2.1 0 = .ok (.iload_n 0, 1) := by decide +kernel
theorem d_TH_slot_1 : decode m_TH_slot.2.1 1 = .ok (.iconst 4, 1) := by decide +kernel
theorem d_TH_slot_2 : decode m_TH_slot.2.1 2 = .ok (.imul, 1) := by decide +kernel
theorem d_TH_slot_3 : decode m_TH_slot.2.1 3 = .ok (.iload_n 1, 1) := by decide +kernel
theorem d_TH_slot_4 : decode m_TH_slot.2.1 4 = .ok (.iadd, 1) := by decide +kernel
theorem d_TH_slot_5 : decode m_TH_slot.2.1 5 = .ok (.ireturn, 1) := by decide +kernel
set_option maxHeartbeats 4000000 in
set_option maxRecDepth 100000 in
theorem B_TH_slot_0 {S : XS} {Q : Int32 → St → Prop} (σ : St) (x0 : Int32) (x1 : Int32) (H : Q ((x0 * (4 : Int32)) + x1) σ) : BW S m_TH_slot 0 [some (.int x0), some (.int x1)] [] (enc σ) (qI Q) := by
  refine b_iload_n d_TH_slot_0 rfl rfl ?_
  refine b_iconst (v := (4 : Int32)) d_TH_slot_1 (by decide) ?_
  refine b_imul d_TH_slot_2  ?_
  refine b_iload_n d_TH_slot_3 rfl rfl ?_
  refine b_iadd d_TH_slot_4  ?_
  exact b_iret (ty := .int) d_TH_slot_5 rfl rfl ⟨_, _, rfl, rfl, H⟩
theorem C_TH_slot {S : XS} {Q : Int32 → St → Prop} (σ : St) (x0 : Int32) (x1 : Int32) (H : BW S m_TH_slot 0 [some (.int x0), some (.int x1)] [] (enc σ) (qI Q)) : CM S m_TH_slot [.int x0, .int x1] (enc σ) (qI Q) := b_meth (by decide) (Nat.le_of_ble_eq_true rfl) rfl H
theorem d_TH_plus_0 : decode m_TH_plus.2.1 0 = .ok (.iload_n 0, 1) := by decide +kernel
theorem d_TH_plus_1 : decode m_TH_plus.2.1 1 = .ok (.ldc 106, 2) := by decide +kernel
theorem d_TH_plus_3 : decode m_TH_plus.2.1 3 = .ok (.if_icmp .ge 9, 3) := by decide +kernel
theorem d_TH_plus_6 : decode m_TH_plus.2.1 6 = .ok (.iload_n 1, 1) := by decide +kernel
theorem d_TH_plus_7 : decode m_TH_plus.2.1 7 = .ok (.ldc 106, 2) := by decide +kernel
theorem d_TH_plus_9 : decode m_TH_plus.2.1 9 = .ok (.if_icmp .lt 8, 3) := by decide +kernel
theorem d_TH_plus_12 : decode m_TH_plus.2.1 12 = .ok (.ldc 106, 2) := by decide +kernel
theorem d_TH_plus_14 : decode m_TH_plus.2.1 14 = .ok (.goto 6, 3) := by decide +kernel
theorem d_TH_plus_17 : decode m_TH_plus.2.1 17 = .ok (.iload_n 0, 1) := by decide +kernel
theorem d_TH_plus_18 : decode m_TH_plus.2.1 18 = .ok (.iload_n 1, 1) := by decide +kernel
theorem d_TH_plus_19 : decode m_TH_plus.2.1 19 = .ok (.iadd, 1) := by decide +kernel
theorem d_TH_plus_20 : decode m_TH_plus.2.1 20 = .ok (.ireturn, 1) := by decide +kernel
set_option maxHeartbeats 4000000 in
set_option maxRecDepth 100000 in
theorem B_TH_plus_0 {S : XS} {Q : Int32 → St → Prop} (σ : St) (x0 : Int32) (x1 : Int32) (H : (((1000000000 : Int32) ≤ x0 → Q (1000000000 : Int32) σ) ∧ (¬ (1000000000 : Int32) ≤ x0 → ((x1 < (1000000000 : Int32) → Q (x0 + x1) σ) ∧ (¬ x1 < (1000000000 : Int32) → Q (1000000000 : Int32) σ))))) : BW S m_TH_plus 0 [some (.int x0), some (.int x1)] [] (enc σ) (qI Q) := by
  refine b_iload_n d_TH_plus_0 rfl rfl ?_
  refine b_ldc (v := (1000000000 : Int32)) d_TH_plus_1 cn_TH_106 ?_
  refine b_icmp_ge (tgt := 12) d_TH_plus_3 (by decide) (fun c2 => ?_) (fun c2 => ?_)
  · have H := H.1 c2
    refine b_ldc (v := (1000000000 : Int32)) d_TH_plus_12 cn_TH_106 ?_
    refine b_goto (tgt := 20) d_TH_plus_14 (by decide) ?_
    exact b_iret (ty := .int) d_TH_plus_20 rfl rfl ⟨_, _, rfl, rfl, H⟩
  · have H := H.2 c2
    refine b_iload_n d_TH_plus_6 rfl rfl ?_
    refine b_ldc (v := (1000000000 : Int32)) d_TH_plus_7 cn_TH_106 ?_
    refine b_icmp_lt (tgt := 17) d_TH_plus_9 (by decide) (fun c1 => ?_) (fun c1 => ?_)
    · have H := H.1 c1
      refine b_iload_n d_TH_plus_17 rfl rfl ?_
      refine b_iload_n d_TH_plus_18 rfl rfl ?_
      refine b_iadd d_TH_plus_19  ?_
      exact b_iret (ty := .int) d_TH_plus_20 rfl rfl ⟨_, _, rfl, rfl, H⟩
    · have H := H.2 c1
      refine b_ldc (v := (1000000000 : Int32)) d_TH_plus_12 cn_TH_106 ?_
      refine b_goto (tgt := 20) d_TH_plus_14 (by decide) ?_
      exact b_iret (ty := .int) d_TH_plus_20 rfl rfl ⟨_, _, rfl, rfl, H⟩
theorem C_TH_plus {S : XS} {Q : Int32 → St → Prop} (σ : St) (x0 : Int32) (x1 : Int32) (H : BW S m_TH_plus 0 [some (.int x0), some (.int x1)] [] (enc σ) (qI Q)) : CM S m_TH_plus [.int x0, .int x1] (enc σ) (qI Q) := b_meth (by decide) (Nat.le_of_ble_eq_true rfl) rfl H
