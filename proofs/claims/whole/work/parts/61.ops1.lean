/-! OPERATIONS: the tape, prices, prints .. -/
set_option maxHeartbeats 2000000 in
theorem op_end {S : XS} {n : Nat} {σ : St} (h : RR n σ) (x : Int32) : OPI S n σ m_TH_end m_Md_end [.int x] := by
  obtain ⟨r0, r1, r2, r3, r4, r5, r6, r7, r8⟩ := h
  unfold OPI
  obtain ⟨a1, a2, a3, a4, a5⟩ := id r0
  repeat' (first
    | refine C_TH_end _ _ (B_TH_end_0 _ _ ?_)
    | refine C_Tp_shorten _ _ (B_Tp_shorten_0 _ _ ?_)
    | refine ⟨lnb _ (Or.inl rfl), ?_⟩
    | refine ⟨lnb _ (Or.inr rfl), ?_⟩
    | refine bq_t rfl ?_
    | refine bq_f (by decide) ?_
    | refine bq_tn rfl ?_
    | refine bq_fn (by decide) ?_
    | refine bq_s (fun _ => ?_) (fun _ => ?_)
    | refine bq_sn (fun _ => ?_) (fun _ => ?_))
  all_goals repeat' (first
    | refine C_Md_end _ _ (B_Md_end_0 _ _ ?_)
    | simp only [gs_X_X, gs_A_X, gs_B_X, gs_P_X, gs_N_X, gs_F_X, gs_G_X, gs_f_X, gs_g_X, gs_D_X, gs_n_X, gs_Y_X, gs_C_X, gs_Q_X, reduceIte, Nat.reduceEqDiff]
    | refine bq_t trivial ?_
    | refine ⟨lnb _ (Or.inl rfl), ?_⟩
    | refine ⟨lnb _ (Or.inr rfl), ?_⟩
    | refine bq_t rfl ?_
    | refine bq_f (by decide) ?_
    | refine bq_tn rfl ?_
    | refine bq_fn (by decide) ?_
    | refine bq_t (by grind) ?_
    | refine bq_f (by grind) ?_
    | refine bq_tn (by grind) ?_
    | refine bq_fn (by grind) ?_)
  all_goals first
    | exact ⟨rfl, ⟨r0, r1, r2, r3, r4, r5, r6.succ, r7, r8.succ⟩⟩
    | exact ⟨trivial, ⟨r0, r1, r2, r3, r4, r5, r6.succ, r7, r8.succ⟩⟩
    | exact ⟨trivial, ⟨⟨a1, rfl, (by grind : 0 ≤ x ∧ x ≤ 200), a4, a5⟩, r1, r2, r3, r4, r5, r6.succ, r7, r8.succ⟩⟩
set_option maxHeartbeats 2000000 in
theorem op_fault {S : XS} {n : Nat} {σ : St} (h : RR n σ) (x : Int32) : OPI S n σ m_TH_fault m_Md_fault [.int x] := by
  obtain ⟨r0, r1, r2, r3, r4, r5, r6, r7, r8⟩ := h
  unfold OPI
  obtain ⟨a1, a2, a3, a4, a5⟩ := id r0
  repeat' (first
    | refine C_TH_fault _ _ (B_TH_fault_0 _ _ ?_)
    | refine ⟨lnb _ (Or.inl rfl), ?_⟩
    | refine ⟨lnb _ (Or.inr rfl), ?_⟩
    | refine bq_t rfl ?_
    | refine bq_f (by decide) ?_
    | refine bq_tn rfl ?_
    | refine bq_fn (by decide) ?_
    | refine bq_s (fun _ => ?_) (fun _ => ?_)
    | refine bq_sn (fun _ => ?_) (fun _ => ?_))
  all_goals repeat' (first
    | refine C_Md_fault _ _ (B_Md_fault_0 _ _ ?_)
    | refine bq_t trivial ?_
    | refine ⟨lnb _ (Or.inl rfl), ?_⟩
    | refine ⟨lnb _ (Or.inr rfl), ?_⟩
    | refine bq_t rfl ?_
    | refine bq_f (by decide) ?_
    | refine bq_tn rfl ?_
    | refine bq_fn (by decide) ?_
    | refine bq_t (by grind) ?_
    | refine bq_f (by grind) ?_
    | refine bq_tn (by grind) ?_
    | refine bq_fn (by grind) ?_)
  all_goals first
    | exact ⟨rfl, ⟨r0, r1, r2, r3, r4, r5, r6.succ, r7, r8.succ⟩⟩
    | exact ⟨a4, ⟨r0, r1, r2, r3, r4, r5, r6.succ, r7, r8.succ⟩⟩
    | exact ⟨a5.1, ⟨r0, r1, r2, r3, r4, r5, r6.succ, r7, r8.succ⟩⟩
set_option maxHeartbeats 2000000 in
theorem op_purse {S : XS} {n : Nat} {σ : St} (h : RR n σ)  : OPL S n σ m_TH_purse m_Md_purse [] := by
  obtain ⟨r0, r1, r2, r3, r4, r5, r6, r7, r8⟩ := h
  unfold OPL
  repeat' (first
    | refine C_TH_purse _ (B_TH_purse_0 _ ?_)
    | refine ⟨lnb _ (Or.inl rfl), ?_⟩
    | refine ⟨lnb _ (Or.inr rfl), ?_⟩
    | refine bq_t rfl ?_
    | refine bq_f (by decide) ?_
    | refine bq_tn rfl ?_
    | refine bq_fn (by decide) ?_
    | refine bq_s (fun _ => ?_) (fun _ => ?_)
    | refine bq_sn (fun _ => ?_) (fun _ => ?_))
  all_goals repeat' (first
    | refine C_Md_purse _ (B_Md_purse_0 _ ?_)
    | refine bq_t trivial ?_
    | refine ⟨lnb _ (Or.inl rfl), ?_⟩
    | refine ⟨lnb _ (Or.inr rfl), ?_⟩
    | refine bq_t rfl ?_
    | refine bq_f (by decide) ?_
    | refine bq_tn rfl ?_
    | refine bq_fn (by decide) ?_
    | refine bq_t (by grind) ?_
    | refine bq_f (by grind) ?_
    | refine bq_tn (by grind) ?_
    | refine bq_fn (by grind) ?_)
  exact ⟨r6.2.2.2.2.1, ⟨r0, r1, r2, r3, r4, r5, r6.succ, r7, r8.succ⟩⟩
set_option maxHeartbeats 2000000 in
theorem op_clear {S : XS} {n : Nat} {σ : St} (h : RR n σ)  : OPI S n σ m_TH_clear m_Md_clear [] := by
  obtain ⟨r0, r1, r2, r3, r4, r5, r6, r7, r8⟩ := h
  unfold OPI
  obtain ⟨a1, a2⟩ := id r1
  repeat' (first
    | refine C_TH_clear _ (B_TH_clear_0 _ ?_)
    | refine C_Mn_empty _ (B_Mn_empty_0 _ ?_)
    | refine ⟨lnb _ (Or.inl rfl), ?_⟩
    | refine ⟨lnb _ (Or.inr rfl), ?_⟩
    | refine bq_t rfl ?_
    | refine bq_f (by decide) ?_
    | refine bq_tn rfl ?_
    | refine bq_fn (by decide) ?_
    | refine bq_s (fun _ => ?_) (fun _ => ?_)
    | refine bq_sn (fun _ => ?_) (fun _ => ?_))
  all_goals repeat' (first
    | refine C_Md_clear _ (B_Md_clear_0 _ ?_)
    | refine bq_t trivial ?_
    | refine ⟨lnb _ (Or.inl rfl), ?_⟩
    | refine ⟨lnb _ (Or.inr rfl), ?_⟩
    | refine bq_t rfl ?_
    | refine bq_f (by decide) ?_
    | refine bq_tn rfl ?_
    | refine bq_fn (by decide) ?_
    | refine bq_t (by grind) ?_
    | refine bq_f (by grind) ?_
    | refine bq_tn (by grind) ?_
    | refine bq_fn (by grind) ?_)
  exact ⟨a1.1, ⟨r0, ⟨⟨rfl, (by decide : (0 : Int32) ≤ 0), (by decide : (0 : Int32) ≤ 20)⟩, a2⟩, r2, r3, r4, r5, r6.succ, r7, r8.succ⟩⟩
set_option maxHeartbeats 2000000 in
theorem op_prices {S : XS} {n : Nat} {σ : St} (h : RR n σ) (a : Int32) (b : Int32) (c : Int32) (d : Int32) : OPI S n σ m_TH_prices m_Md_prices [.int a, .int b, .int c, .int d] := by
  obtain ⟨r0, r1, r2, r3, r4, r5, r6, r7, r8⟩ := h
  unfold OPI
  repeat' (first
    | refine C_TH_prices _ _ _ _ _ (B_TH_prices_0 _ _ _ _ _ ?_)
    | refine C_Sh_changePrices _ _ _ _ _ (B_Sh_changePrices_0 _ _ _ _ _ ?_)
    | refine ⟨lnb _ (Or.inl rfl), ?_⟩
    | refine ⟨lnb _ (Or.inr rfl), ?_⟩
    | refine bq_t rfl ?_
    | refine bq_f (by decide) ?_
    | refine bq_tn rfl ?_
    | refine bq_fn (by decide) ?_
    | refine bq_s (fun _ => ?_) (fun _ => ?_)
    | refine bq_sn (fun _ => ?_) (fun _ => ?_))
  all_goals repeat' (first
    | refine C_Md_prices _ _ _ _ _ (B_Md_prices_0 _ _ _ _ _ ?_)
    | refine C_Md_is _ _ _ _ (B_Md_is_0 _ _ _ _ ?_)
    | refine bq_t trivial ?_
    | refine ⟨lnb _ (Or.inl rfl), ?_⟩
    | refine ⟨lnb _ (Or.inr rfl), ?_⟩
    | refine bq_t rfl ?_
    | refine bq_f (by decide) ?_
    | refine bq_tn rfl ?_
    | refine bq_fn (by decide) ?_
    | refine bq_t (by grind) ?_
    | refine bq_f (by grind) ?_
    | refine bq_tn (by grind) ?_
    | refine bq_fn (by grind) ?_)
  all_goals first
    | exact ⟨rfl, ⟨r0, r1, r2, r3, r4, r5, r6.succ, r7, r8.succ⟩⟩
    | exact ⟨rfl, ⟨r0, r1, r2, r3, r4, r5, R6.succ (n := n) ⟨⟨rfl, (by grind : 0 ≤ a ∧ a ≤ 10000)⟩, ⟨rfl, (by grind : 0 ≤ b ∧ b ≤ 10000)⟩, ⟨rfl, (by grind : 0 ≤ c ∧ c ≤ 10000)⟩, ⟨rfl, (by grind : 0 ≤ d ∧ d ≤ b)⟩, r6.2.2.2.2⟩, r7, r8.succ⟩⟩
