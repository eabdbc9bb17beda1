/-! String.length, String.charAt -/
def m_Jp_checkIndex : XM := (⟨"jdk/internal/util/Preconditions", "checkIndex", "(IILjava/util/function/BiFunction;)I"⟩, prog_20_method_11_code, 3, (some .int), 0, 0)
set_option maxRecDepth 100000 in
theorem kA_Jp_checkIndex : Cond.initialized m_Jp_checkIndex.1.cls ∈ gtbl ∧ Cond.code m_Jp_checkIndex.1 m_Jp_checkIndex.2.1 m_Jp_checkIndex.2.2.1 m_Jp_checkIndex.2.2.2.1 ∈ gtbl ∧ (m_Jp_checkIndex.1.cls ≠ "java/lang/invoke/MethodHandle" ∧ m_Jp_checkIndex.1.cls ≠ "java/lang/invoke/VarHandle" ∧ (parseMethodDescriptor m_Jp_checkIndex.1.desc).map (fun d => d.parameters.length) = some 3) := ⟨gt_in 18 (by decide +kernel) rfl, gt_in 609 (by rfl) rfl, by decide +kernel⟩
set_option maxRecDepth 100000 in
theorem kS_Jp_checkIndex : Cond.static m_Jp_checkIndex.1 ∈ gtbl := gt_in 608 (by decide +kernel) rfl
set_option maxRecDepth 100000 in
theorem ml_Js_1059 : Cond.methodLink "java/lang/String" 1059 m_Jp_checkIndex.1 ∈ gtbl := gt_in 607 (by decide +kernel) rfl
set_option maxRecDepth 100000 in
theorem kT_Js_coder : Cond.instanceMethod m_Js_coder.1 ∈ gtbl ∧ Cond.selects m_Js_coder.1.cls m_Js_coder.1 m_Js_coder.1 ∈ gtbl ∧ m_Js_coder.1.cls = "java/lang/String" := ⟨gt_in 586 (by decide +kernel) rfl, gt_in 587 (by decide +kernel) rfl, rfl⟩
set_option maxRecDepth 100000 in
theorem kT_Js_isLatin1 : Cond.instanceMethod m_Js_isLatin1.1 ∈ gtbl ∧ Cond.selects m_Js_isLatin1.1.cls m_Js_isLatin1.1 m_Js_isLatin1.1 ∈ gtbl ∧ m_Js_isLatin1.1.cls = "java/lang/String" := ⟨gt_in 596 (by decide +kernel) rfl, gt_in 597 (by decide +kernel) rfl, rfl⟩
set_option maxRecDepth 100000 in
theorem sl_38 : Cond.fieldLink "java/lang/String" 38 "java/lang/String" "COMPACT_STRINGS" "Z" ∈ gtbl := gt_in 589 (by decide +kernel) rfl
set_option maxRecDepth 100000 in
theorem sl_1053 : Cond.fieldLink "java/lang/String" 1053 "jdk/internal/util/Preconditions" "SIOOBE_FORMATTER" "Ljava/util/function/BiFunction;" ∈ gtbl := gt_in 605 (by decide +kernel) rfl
set_option maxRecDepth 100000 in
theorem sl_9 : Cond.fieldLink "java/lang/String" 9 "java/lang/String" "value" "[B" ∈ gtbl := gt_in 1418 (by decide +kernel) rfl
set_option maxRecDepth 100000 in
theorem sl_15 : Cond.fieldLink "java/lang/String" 15 "java/lang/String" "coder" "B" ∈ gtbl := gt_in 1419 (by decide +kernel) rfl
theorem d_Js_length_0 : decode m_Js_length.2.1 0 = .ok (.aload_n 0, 1) := by decide +kernel
theorem d_Js_length_1 : decode m_Js_length.2.1 1 = .ok (.getfield 9, 3) := by decide +kernel
theorem d_Js_length_4 : decode m_Js_length.2.1 4 = .ok (.arraylength, 1) := by decide +kernel
theorem d_Js_length_5 : decode m_Js_length.2.1 5 = .ok (.aload_n 0, 1) := by decide +kernel
theorem d_Js_length_6 : decode m_Js_length.2.1 6 = .ok (.invokevirtual 335, 3) := by decide +kernel
theorem d_Js_length_9 : decode m_Js_length.2.1 9 = .ok (.ishr, 1) := by decide +kernel
theorem d_Js_length_10 : decode m_Js_length.2.1 10 = .ok (.ireturn, 1) := by decide +kernel
theorem d_Js_charAt_0 : decode m_Js_charAt.2.1 0 = .ok (.aload_n 0, 1) := by decide +kernel
theorem d_Js_charAt_1 : decode m_Js_charAt.2.1 1 = .ok (.invokevirtual 492, 3) := by decide +kernel
theorem d_Js_charAt_4 : decode m_Js_charAt.2.1 4 = .ok (.ifCond .eq 12, 3) := by decide +kernel
theorem d_Js_charAt_7 : decode m_Js_charAt.2.1 7 = .ok (.aload_n 0, 1) := by decide +kernel
theorem d_Js_charAt_8 : decode m_Js_charAt.2.1 8 = .ok (.getfield 9, 3) := by decide +kernel
theorem d_Js_charAt_11 : decode m_Js_charAt.2.1 11 = .ok (.iload_n 1, 1) := by decide +kernel
theorem d_Js_charAt_12 : decode m_Js_charAt.2.1 12 = .ok (.invokestatic 495, 3) := by decide +kernel
theorem d_Js_charAt_15 : decode m_Js_charAt.2.1 15 = .ok (.ireturn, 1) := by decide +kernel
theorem d_Js_charAt_16 : decode m_Js_charAt.2.1 16 = .ok (.aload_n 0, 1) := by decide +kernel
theorem d_Js_charAt_17 : decode m_Js_charAt.2.1 17 = .ok (.getfield 9, 3) := by decide +kernel
theorem d_Js_charAt_20 : decode m_Js_charAt.2.1 20 = .ok (.iload_n 1, 1) := by decide +kernel
theorem d_Js_charAt_21 : decode m_Js_charAt.2.1 21 = .ok (.invokestatic 498, 3) := by decide +kernel
theorem d_Js_charAt_24 : decode m_Js_charAt.2.1 24 = .ok (.ireturn, 1) := by decide +kernel
theorem d_Js_coder_0 : decode m_Js_coder.2.1 0 = .ok (.getstatic 38, 3) := by decide +kernel
theorem d_Js_coder_3 : decode m_Js_coder.2.1 3 = .ok (.ifCond .eq 10, 3) := by decide +kernel
theorem d_Js_coder_6 : decode m_Js_coder.2.1 6 = .ok (.aload_n 0, 1) := by decide +kernel
theorem d_Js_coder_7 : decode m_Js_coder.2.1 7 = .ok (.getfield 15, 3) := by decide +kernel
theorem d_Js_coder_10 : decode m_Js_coder.2.1 10 = .ok (.goto 4, 3) := by decide +kernel
theorem d_Js_coder_13 : decode m_Js_coder.2.1 13 = .ok (.iconst 1, 1) := by decide +kernel
theorem d_Js_coder_14 : decode m_Js_coder.2.1 14 = .ok (.ireturn, 1) := by decide +kernel
theorem d_Js_isLatin1_0 : decode m_Js_isLatin1.2.1 0 = .ok (.getstatic 38, 3) := by decide +kernel
theorem d_Js_isLatin1_3 : decode m_Js_isLatin1.2.1 3 = .ok (.ifCond .eq 14, 3) := by decide +kernel
theorem d_Js_isLatin1_6 : decode m_Js_isLatin1.2.1 6 = .ok (.aload_n 0, 1) := by decide +kernel
theorem d_Js_isLatin1_7 : decode m_Js_isLatin1.2.1 7 = .ok (.getfield 15, 3) := by decide +kernel
theorem d_Js_isLatin1_10 : decode m_Js_isLatin1.2.1 10 = .ok (.ifCond .ne 7, 3) := by decide +kernel
theorem d_Js_isLatin1_13 : decode m_Js_isLatin1.2.1 13 = .ok (.iconst 1, 1) := by decide +kernel
theorem d_Js_isLatin1_14 : decode m_Js_isLatin1.2.1 14 = .ok (.goto 4, 3) := by decide +kernel
theorem d_Js_isLatin1_17 : decode m_Js_isLatin1.2.1 17 = .ok (.iconst 0, 1) := by decide +kernel
theorem d_Js_isLatin1_18 : decode m_Js_isLatin1.2.1 18 = .ok (.ireturn, 1) := by decide +kernel
theorem d_Js_checkIndex_0 : decode m_Js_checkIndex.2.1 0 = .ok (.iload_n 0, 1) := by decide +kernel
theorem d_Js_checkIndex_1 : decode m_Js_checkIndex.2.1 1 = .ok (.iload_n 1, 1) := by decide +kernel
theorem d_Js_checkIndex_2 : decode m_Js_checkIndex.2.1 2 = .ok (.getstatic 1053, 3) := by decide +kernel
theorem d_Js_checkIndex_5 : decode m_Js_checkIndex.2.1 5 = .ok (.invokestatic 1059, 3) := by decide +kernel
theorem d_Js_checkIndex_8 : decode m_Js_checkIndex.2.1 8 = .ok (.pop, 1) := by decide +kernel
theorem d_Js_checkIndex_9 : decode m_Js_checkIndex.2.1 9 = .ok (.return_, 1) := by decide +kernel
theorem d_Jl_charAt_0 : decode m_Jl_charAt.2.1 0 = .ok (.iload_n 1, 1) := by decide +kernel
theorem d_Jl_charAt_1 : decode m_Jl_charAt.2.1 1 = .ok (.aload_n 0, 1) := by decide +kernel
theorem d_Jl_charAt_2 : decode m_Jl_charAt.2.1 2 = .ok (.arraylength, 1) := by decide +kernel
theorem d_Jl_charAt_3 : decode m_Jl_charAt.2.1 3 = .ok (.invokestatic 9, 3) := by decide +kernel
theorem d_Jl_charAt_6 : decode m_Jl_charAt.2.1 6 = .ok (.aload_n 0, 1) := by decide +kernel
theorem d_Jl_charAt_7 : decode m_Jl_charAt.2.1 7 = .ok (.iload_n 1, 1) := by decide +kernel
theorem d_Jl_charAt_8 : decode m_Jl_charAt.2.1 8 = .ok (.baload, 1) := by decide +kernel
theorem d_Jl_charAt_9 : decode m_Jl_charAt.2.1 9 = .ok (.sipush 255, 3) := by decide +kernel
theorem d_Jl_charAt_12 : decode m_Jl_charAt.2.1 12 = .ok (.iand, 1) := by decide +kernel
theorem d_Jl_charAt_13 : decode m_Jl_charAt.2.1 13 = .ok (.i2c, 1) := by decide +kernel
theorem d_Jl_charAt_14 : decode m_Jl_charAt.2.1 14 = .ok (.ireturn, 1) := by decide +kernel
theorem d_Jp_checkIndex_0 : decode m_Jp_checkIndex.2.1 0 = .ok (.iload_n 0, 1) := by decide +kernel
theorem d_Jp_checkIndex_1 : decode m_Jp_checkIndex.2.1 1 = .ok (.ifCond .lt 8, 3) := by decide +kernel
theorem d_Jp_checkIndex_4 : decode m_Jp_checkIndex.2.1 4 = .ok (.iload_n 0, 1) := by decide +kernel
theorem d_Jp_checkIndex_5 : decode m_Jp_checkIndex.2.1 5 = .ok (.iload_n 1, 1) := by decide +kernel
theorem d_Jp_checkIndex_6 : decode m_Jp_checkIndex.2.1 6 = .ok (.if_icmp .lt 10, 3) := by decide +kernel
theorem d_Jp_checkIndex_9 : decode m_Jp_checkIndex.2.1 9 = .ok (.aload_n 2, 1) := by decide +kernel
theorem d_Jp_checkIndex_10 : decode m_Jp_checkIndex.2.1 10 = .ok (.iload_n 0, 1) := by decide +kernel
theorem d_Jp_checkIndex_11 : decode m_Jp_checkIndex.2.1 11 = .ok (.iload_n 1, 1) := by decide +kernel
theorem d_Jp_checkIndex_12 : decode m_Jp_checkIndex.2.1 12 = .ok (.invokestatic 95, 3) := by decide +kernel
theorem d_Jp_checkIndex_16 : decode m_Jp_checkIndex.2.1 16 = .ok (.iload_n 0, 1) := by decide +kernel
theorem d_Jp_checkIndex_17 : decode m_Jp_checkIndex.2.1 17 = .ok (.ireturn, 1) := by decide +kernel
theorem A_coder {S : XS} {h : XH} {k : Nat} (hk : k < 7) : AM S m_Js_coder [.retAddr k] h (some (.int 0)) h := by
  refine x_meth (ls := [some (.retAddr k)]) (by decide) (Nat.le_of_ble_eq_true rfl) rfl ?_
  refine x_scmp d_Js_coder_0 sl_38 ?_
  refine x_if_eq (tgt := 13) d_Js_coder_3 (by decide) (fun c => absurd c (by decide)) (fun c => ?_)
  refine x_aload_nS d_Js_coder_6 rfl rfl ?_
  refine x_scod d_Js_coder_7 sl_15 hk ?_
  refine x_goto (tgt := 14) d_Js_coder_10 (by decide) ?_
  exact x_iret (ty := .byte) d_Js_coder_14 rfl rfl
theorem A_isLatin1 {S : XS} {h : XH} {k : Nat} (hk : k < 7) : AM S m_Js_isLatin1 [.retAddr k] h (some (.int 1)) h := by
  refine x_meth (ls := [some (.retAddr k)]) (by decide) (Nat.le_of_ble_eq_true rfl) rfl ?_
  refine x_scmp d_Js_isLatin1_0 sl_38 ?_
  refine x_if_eq (tgt := 17) d_Js_isLatin1_3 (by decide) (fun c => absurd c (by decide)) (fun c => ?_)
  refine x_aload_nS d_Js_isLatin1_6 rfl rfl ?_
  refine x_scod d_Js_isLatin1_7 sl_15 hk ?_
  refine x_if_ne (tgt := 17) d_Js_isLatin1_10 (by decide) (fun c => absurd rfl c) (fun c => ?_)
  refine x_iconst (v := 1) d_Js_isLatin1_13 (by decide) ?_
  refine x_goto (tgt := 18) d_Js_isLatin1_14 (by decide) ?_
  exact x_iret (ty := .boolean) d_Js_isLatin1_18 rfl rfl
theorem shr_len : ∀ k, k < 7 → (Int32.ofNat (xlen.getD k 0)) >>> ((0 : Int32) &&& 31) = Int32.ofNat (xlen.getD k 0) := by decide +kernel
theorem A_length {S : XS} {h : XH} {k : Nat} (hk : k < 7) : AM S m_Js_length [.retAddr k] h (some (.int (Int32.ofNat (xlen.getD k 0)))) h := by
  refine x_meth (ls := [some (.retAddr k)]) (by decide) (Nat.le_of_ble_eq_true rfl) rfl ?_
  refine x_aload_nS d_Js_length_0 rfl rfl ?_
  refine x_sval d_Js_length_1 sl_9 hk ?_
  refine x_vlen d_Js_length_4 hk rfl ?_
  refine x_aload_nS d_Js_length_5 rfl rfl ?_
  refine x_callT (Mc := m_Js_coder) (As := []) (st := [.int (Int32.ofNat (xlen.getD k 0))]) d_Js_length_6 ⟨⟨kA_Js_coder.1, kA_Js_coder.2.1, kA_Js_coder.2.2, by decide⟩, ml_Js_335, kT_Js_coder⟩ hk rfl rfl (Nat.le_of_ble_eq_true rfl) (A_coder hk) ?_
  refine x_ishr d_Js_length_9 ?_
  rw [shr_len k hk]
  exact x_iret (ty := .int) d_Js_length_10 rfl rfl
theorem A_pcheck {S : XS} {h : XH} {i n : Int32} {v : Value} (hv : v = .null ∨ v = .retAddr 98) (h0 : ¬ i < 0) (h1 : i < n) : AM S m_Jp_checkIndex [.int i, .int n, v] h (some (.int i)) h := by
  rcases hv with rfl | rfl
  all_goals
    refine x_meth (ls := [some (.int i), some (.int n), some _]) (by decide) (Nat.le_of_ble_eq_true rfl) rfl ?_
    refine x_iload_n d_Jp_checkIndex_0 rfl rfl ?_
    refine x_if_lt (tgt := 9) d_Jp_checkIndex_1 (by decide) (fun c => absurd c h0) (fun c => ?_)
    refine x_iload_n d_Jp_checkIndex_4 rfl rfl ?_
    refine x_iload_n d_Jp_checkIndex_5 rfl rfl ?_
    refine x_icmp_lt (tgt := 16) d_Jp_checkIndex_6 (by decide) (fun c => ?_) (fun c => absurd h1 c)
    refine x_iload_n d_Jp_checkIndex_16 rfl rfl ?_
    exact x_iret (ty := .int) d_Jp_checkIndex_17 rfl rfl
theorem A_scheck {S : XS} {h : XH} {i n : Int32} (h0 : ¬ i < 0) (h1 : i < n) : AM S m_Js_checkIndex [.int i, .int n] h none h := by
  refine x_meth (ls := [some (.int i), some (.int n)]) (by decide) (Nat.le_of_ble_eq_true rfl) rfl ?_
  refine x_iload_n d_Js_checkIndex_0 rfl rfl ?_
  refine x_iload_n d_Js_checkIndex_1 rfl rfl ?_
  refine x_sfmt d_Js_checkIndex_2 sl_1053 ?_ ?_
  · refine x_callS (Mc := m_Jp_checkIndex) (As := [.int i, .int n, .null]) (st := []) d_Js_checkIndex_5 ⟨⟨kA_Jp_checkIndex.1, kA_Jp_checkIndex.2.1, kA_Jp_checkIndex.2.2, by decide⟩, ml_Js_1059, kS_Jp_checkIndex⟩ rfl rfl (Nat.le_of_ble_eq_true rfl) (A_pcheck (Or.inl rfl) h0 h1) ?_
    refine x_pop d_Js_checkIndex_8 rfl ?_
    exact x_vret d_Js_checkIndex_9 rfl
  · refine x_callS (Mc := m_Jp_checkIndex) (As := [.int i, .int n, .retAddr 98]) (st := []) d_Js_checkIndex_5 ⟨⟨kA_Jp_checkIndex.1, kA_Jp_checkIndex.2.1, kA_Jp_checkIndex.2.2, by decide⟩, ml_Js_1059, kS_Jp_checkIndex⟩ rfl rfl (Nat.le_of_ble_eq_true rfl) (A_pcheck (Or.inr rfl) h0 h1) ?_
    refine x_pop d_Js_checkIndex_8 rfl ?_
    exact x_vret d_Js_checkIndex_9 rfl
