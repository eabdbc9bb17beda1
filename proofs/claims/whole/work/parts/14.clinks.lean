/-! calls -/
set_option maxRecDepth 100000 in
theorem kA_Ag_init : Cond.initialized m_Ag_init.1.cls ∈ gtbl ∧ Cond.code m_Ag_init.1 m_Ag_init.2.1 m_Ag_init.2.2.1 m_Ag_init.2.2.2.1 ∈ gtbl ∧ (m_Ag_init.1.cls ≠ "java/lang/invoke/MethodHandle" ∧ m_Ag_init.1.cls ≠ "java/lang/invoke/VarHandle" ∧ (parseMethodDescriptor m_Ag_init.1.desc).map (fun d => d.parameters.length) = some 0) := ⟨gt_in 10 (by decide +kernel) rfl, gt_in 241 (by rfl) rfl, by decide +kernel⟩
set_option maxRecDepth 100000 in
theorem kI_Ag_init : Cond.instanceMethod m_Ag_init.1 ∈ gtbl ∧ m_Ag_init.1.name = "<init>" ∧ m_Ag_init.2.2.2.1 = none := ⟨gt_in 240 (by decide +kernel) rfl, rfl, rfl⟩
set_option maxRecDepth 100000 in
theorem kA_Ag_readFrom : Cond.initialized m_Ag_readFrom.1.cls ∈ gtbl ∧ Cond.code m_Ag_readFrom.1 m_Ag_readFrom.2.1 m_Ag_readFrom.2.2.1 m_Ag_readFrom.2.2.2.1 ∈ gtbl ∧ (m_Ag_readFrom.1.cls ≠ "java/lang/invoke/MethodHandle" ∧ m_Ag_readFrom.1.cls ≠ "java/lang/invoke/VarHandle" ∧ (parseMethodDescriptor m_Ag_readFrom.1.desc).map (fun d => d.parameters.length) = some 1) := ⟨gt_in 10 (by decide +kernel) rfl, gt_in 774 (by rfl) rfl, by decide +kernel⟩
set_option maxRecDepth 100000 in
theorem kV_Ag_readFrom : Cond.instanceMethod m_Ag_readFrom.1 ∈ gtbl ∧ Cond.selects m_Ag_readFrom.1.cls m_Ag_readFrom.1 m_Ag_readFrom.1 ∈ gtbl ∧ ∃ (T : u_T) (N : Nat), xcl[0]? = some (m_Ag_readFrom.1.cls, T, N) := ⟨gt_in 772 (by decide +kernel) rfl, gt_in 773 (by decide +kernel) rfl, xT_Ag, 5, rfl⟩
set_option maxRecDepth 100000 in
theorem kA_Ag_percentsOf : Cond.initialized m_Ag_percentsOf.1.cls ∈ gtbl ∧ Cond.code m_Ag_percentsOf.1 m_Ag_percentsOf.2.1 m_Ag_percentsOf.2.2.1 m_Ag_percentsOf.2.2.2.1 ∈ gtbl ∧ (m_Ag_percentsOf.1.cls ≠ "java/lang/invoke/MethodHandle" ∧ m_Ag_percentsOf.1.cls ≠ "java/lang/invoke/VarHandle" ∧ (parseMethodDescriptor m_Ag_percentsOf.1.desc).map (fun d => d.parameters.length) = some 1) := ⟨gt_in 10 (by decide +kernel) rfl, gt_in 824 (by rfl) rfl, by decide +kernel⟩
set_option maxRecDepth 100000 in
theorem kV_Ag_percentsOf : Cond.instanceMethod m_Ag_percentsOf.1 ∈ gtbl ∧ Cond.selects m_Ag_percentsOf.1.cls m_Ag_percentsOf.1 m_Ag_percentsOf.1 ∈ gtbl ∧ ∃ (T : u_T) (N : Nat), xcl[0]? = some (m_Ag_percentsOf.1.cls, T, N) := ⟨gt_in 822 (by decide +kernel) rfl, gt_in 823 (by decide +kernel) rfl, xT_Ag, 5, rfl⟩
set_option maxRecDepth 100000 in
theorem kA_As_init : Cond.initialized m_As_init.1.cls ∈ gtbl ∧ Cond.code m_As_init.1 m_As_init.2.1 m_As_init.2.2.1 m_As_init.2.2.2.1 ∈ gtbl ∧ (m_As_init.1.cls ≠ "java/lang/invoke/MethodHandle" ∧ m_As_init.1.cls ≠ "java/lang/invoke/VarHandle" ∧ (parseMethodDescriptor m_As_init.1.desc).map (fun d => d.parameters.length) = some 0) := ⟨gt_in 9 (by decide +kernel) rfl, gt_in 234 (by rfl) rfl, by decide +kernel⟩
set_option maxRecDepth 100000 in
theorem kI_As_init : Cond.instanceMethod m_As_init.1 ∈ gtbl ∧ m_As_init.1.name = "<init>" ∧ m_As_init.2.2.2.1 = none := ⟨gt_in 233 (by decide +kernel) rfl, rfl, rfl⟩
set_option maxRecDepth 100000 in
theorem kA_As_readDraft : Cond.initialized m_As_readDraft.1.cls ∈ gtbl ∧ Cond.code m_As_readDraft.1 m_As_readDraft.2.1 m_As_readDraft.2.2.1 m_As_readDraft.2.2.2.1 ∈ gtbl ∧ (m_As_readDraft.1.cls ≠ "java/lang/invoke/MethodHandle" ∧ m_As_readDraft.1.cls ≠ "java/lang/invoke/VarHandle" ∧ (parseMethodDescriptor m_As_readDraft.1.desc).map (fun d => d.parameters.length) = some 1) := ⟨gt_in 9 (by decide +kernel) rfl, gt_in 770 (by rfl) rfl, by decide +kernel⟩
set_option maxRecDepth 100000 in
theorem kV_As_readDraft : Cond.instanceMethod m_As_readDraft.1 ∈ gtbl ∧ Cond.selects m_As_readDraft.1.cls m_As_readDraft.1 m_As_readDraft.1 ∈ gtbl ∧ ∃ (T : u_T) (N : Nat), xcl[1]? = some (m_As_readDraft.1.cls, T, N) := ⟨gt_in 768 (by decide +kernel) rfl, gt_in 769 (by decide +kernel) rfl, xT_As, 3, rfl⟩
set_option maxRecDepth 100000 in
theorem kA_As_addDraft : Cond.initialized m_As_addDraft.1.cls ∈ gtbl ∧ Cond.code m_As_addDraft.1 m_As_addDraft.2.1 m_As_addDraft.2.2.1 m_As_addDraft.2.2.2.1 ∈ gtbl ∧ (m_As_addDraft.1.cls ≠ "java/lang/invoke/MethodHandle" ∧ m_As_addDraft.1.cls ≠ "java/lang/invoke/VarHandle" ∧ (parseMethodDescriptor m_As_addDraft.1.desc).map (fun d => d.parameters.length) = some 1) := ⟨gt_in 9 (by decide +kernel) rfl, gt_in 792 (by rfl) rfl, by decide +kernel⟩
set_option maxRecDepth 100000 in
theorem kV_As_addDraft : Cond.instanceMethod m_As_addDraft.1 ∈ gtbl ∧ Cond.selects m_As_addDraft.1.cls m_As_addDraft.1 m_As_addDraft.1 ∈ gtbl ∧ ∃ (T : u_T) (N : Nat), xcl[1]? = some (m_As_addDraft.1.cls, T, N) := ⟨gt_in 790 (by decide +kernel) rfl, gt_in 791 (by decide +kernel) rfl, xT_As, 3, rfl⟩
set_option maxRecDepth 100000 in
theorem kA_As_latestFor : Cond.initialized m_As_latestFor.1.cls ∈ gtbl ∧ Cond.code m_As_latestFor.1 m_As_latestFor.2.1 m_As_latestFor.2.2.1 m_As_latestFor.2.2.2.1 ∈ gtbl ∧ (m_As_latestFor.1.cls ≠ "java/lang/invoke/MethodHandle" ∧ m_As_latestFor.1.cls ≠ "java/lang/invoke/VarHandle" ∧ (parseMethodDescriptor m_As_latestFor.1.desc).map (fun d => d.parameters.length) = some 1) := ⟨gt_in 9 (by decide +kernel) rfl, gt_in 800 (by rfl) rfl, by decide +kernel⟩
set_option maxRecDepth 100000 in
theorem kV_As_latestFor : Cond.instanceMethod m_As_latestFor.1 ∈ gtbl ∧ Cond.selects m_As_latestFor.1.cls m_As_latestFor.1 m_As_latestFor.1 ∈ gtbl ∧ ∃ (T : u_T) (N : Nat), xcl[1]? = some (m_As_latestFor.1.cls, T, N) := ⟨gt_in 798 (by decide +kernel) rfl, gt_in 799 (by decide +kernel) rfl, xT_As, 3, rfl⟩
set_option maxRecDepth 100000 in
theorem kA_As_numbered : Cond.initialized m_As_numbered.1.cls ∈ gtbl ∧ Cond.code m_As_numbered.1 m_As_numbered.2.1 m_As_numbered.2.2.1 m_As_numbered.2.2.2.1 ∈ gtbl ∧ (m_As_numbered.1.cls ≠ "java/lang/invoke/MethodHandle" ∧ m_As_numbered.1.cls ≠ "java/lang/invoke/VarHandle" ∧ (parseMethodDescriptor m_As_numbered.1.desc).map (fun d => d.parameters.length) = some 1) := ⟨gt_in 9 (by decide +kernel) rfl, gt_in 804 (by rfl) rfl, by decide +kernel⟩
set_option maxRecDepth 100000 in
theorem kV_As_numbered : Cond.instanceMethod m_As_numbered.1 ∈ gtbl ∧ Cond.selects m_As_numbered.1.cls m_As_numbered.1 m_As_numbered.1 ∈ gtbl ∧ ∃ (T : u_T) (N : Nat), xcl[1]? = some (m_As_numbered.1.cls, T, N) := ⟨gt_in 802 (by decide +kernel) rfl, gt_in 803 (by decide +kernel) rfl, xT_As, 3, rfl⟩
set_option maxRecDepth 100000 in
theorem kA_Br_init : Cond.initialized m_Br_init.1.cls ∈ gtbl ∧ Cond.code m_Br_init.1 m_Br_init.2.1 m_Br_init.2.2.1 m_Br_init.2.2.2.1 ∈ gtbl ∧ (m_Br_init.1.cls ≠ "java/lang/invoke/MethodHandle" ∧ m_Br_init.1.cls ≠ "java/lang/invoke/VarHandle" ∧ (parseMethodDescriptor m_Br_init.1.desc).map (fun d => d.parameters.length) = some 0) := ⟨gt_in 4 (by decide +kernel) rfl, gt_in 66 (by rfl) rfl, by decide +kernel⟩
set_option maxRecDepth 100000 in
theorem kI_Br_init : Cond.instanceMethod m_Br_init.1 ∈ gtbl ∧ m_Br_init.1.name = "<init>" ∧ m_Br_init.2.2.2.1 = none := ⟨gt_in 65 (by decide +kernel) rfl, rfl, rfl⟩
set_option maxRecDepth 100000 in
theorem kA_Br_weigh : Cond.initialized m_Br_weigh.1.cls ∈ gtbl ∧ Cond.code m_Br_weigh.1 m_Br_weigh.2.1 m_Br_weigh.2.2.1 m_Br_weigh.2.2.2.1 ∈ gtbl ∧ (m_Br_weigh.1.cls ≠ "java/lang/invoke/MethodHandle" ∧ m_Br_weigh.1.cls ≠ "java/lang/invoke/VarHandle" ∧ (parseMethodDescriptor m_Br_weigh.1.desc).map (fun d => d.parameters.length) = some 3) := ⟨gt_in 4 (by decide +kernel) rfl, gt_in 425 (by rfl) rfl, by decide +kernel⟩
set_option maxRecDepth 100000 in
theorem kV_Br_weigh : Cond.instanceMethod m_Br_weigh.1 ∈ gtbl ∧ Cond.selects m_Br_weigh.1.cls m_Br_weigh.1 m_Br_weigh.1 ∈ gtbl ∧ ∃ (T : u_T) (N : Nat), xcl[2]? = some (m_Br_weigh.1.cls, T, N) := ⟨gt_in 423 (by decide +kernel) rfl, gt_in 424 (by decide +kernel) rfl, xT_Br, 4, rfl⟩
set_option maxRecDepth 100000 in
theorem kA_Br_cost : Cond.initialized m_Br_cost.1.cls ∈ gtbl ∧ Cond.code m_Br_cost.1 m_Br_cost.2.1 m_Br_cost.2.2.1 m_Br_cost.2.2.2.1 ∈ gtbl ∧ (m_Br_cost.1.cls ≠ "java/lang/invoke/MethodHandle" ∧ m_Br_cost.1.cls ≠ "java/lang/invoke/VarHandle" ∧ (parseMethodDescriptor m_Br_cost.1.desc).map (fun d => d.parameters.length) = some 1) := ⟨gt_in 4 (by decide +kernel) rfl, gt_in 444 (by rfl) rfl, by decide +kernel⟩
set_option maxRecDepth 100000 in
theorem kV_Br_cost : Cond.instanceMethod m_Br_cost.1 ∈ gtbl ∧ Cond.selects m_Br_cost.1.cls m_Br_cost.1 m_Br_cost.1 ∈ gtbl ∧ ∃ (T : u_T) (N : Nat), xcl[2]? = some (m_Br_cost.1.cls, T, N) := ⟨gt_in 442 (by decide +kernel) rfl, gt_in 443 (by decide +kernel) rfl, xT_Br, 4, rfl⟩
set_option maxRecDepth 100000 in
theorem kA_Br_wordsTaken : Cond.initialized m_Br_wordsTaken.1.cls ∈ gtbl ∧ Cond.code m_Br_wordsTaken.1 m_Br_wordsTaken.2.1 m_Br_wordsTaken.2.2.1 m_Br_wordsTaken.2.2.2.1 ∈ gtbl ∧ (m_Br_wordsTaken.1.cls ≠ "java/lang/invoke/MethodHandle" ∧ m_Br_wordsTaken.1.cls ≠ "java/lang/invoke/VarHandle" ∧ (parseMethodDescriptor m_Br_wordsTaken.1.desc).map (fun d => d.parameters.length) = some 2) := ⟨gt_in 4 (by decide +kernel) rfl, gt_in 519 (by rfl) rfl, by decide +kernel⟩
set_option maxRecDepth 100000 in
theorem kV_Br_wordsTaken : Cond.instanceMethod m_Br_wordsTaken.1 ∈ gtbl ∧ Cond.selects m_Br_wordsTaken.1.cls m_Br_wordsTaken.1 m_Br_wordsTaken.1 ∈ gtbl ∧ ∃ (T : u_T) (N : Nat), xcl[2]? = some (m_Br_wordsTaken.1.cls, T, N) := ⟨gt_in 517 (by decide +kernel) rfl, gt_in 518 (by decide +kernel) rfl, xT_Br, 4, rfl⟩
set_option maxRecDepth 100000 in
theorem kA_Br_weighRest : Cond.initialized m_Br_weighRest.1.cls ∈ gtbl ∧ Cond.code m_Br_weighRest.1 m_Br_weighRest.2.1 m_Br_weighRest.2.2.1 m_Br_weighRest.2.2.2.1 ∈ gtbl ∧ (m_Br_weighRest.1.cls ≠ "java/lang/invoke/MethodHandle" ∧ m_Br_weighRest.1.cls ≠ "java/lang/invoke/VarHandle" ∧ (parseMethodDescriptor m_Br_weighRest.1.desc).map (fun d => d.parameters.length) = some 2) := ⟨gt_in 4 (by decide +kernel) rfl, gt_in 433 (by rfl) rfl, by decide +kernel⟩
set_option maxRecDepth 100000 in
theorem kV_Br_weighRest : Cond.instanceMethod m_Br_weighRest.1 ∈ gtbl ∧ Cond.selects m_Br_weighRest.1.cls m_Br_weighRest.1 m_Br_weighRest.1 ∈ gtbl ∧ ∃ (T : u_T) (N : Nat), xcl[2]? = some (m_Br_weighRest.1.cls, T, N) := ⟨gt_in 432 (by decide +kernel) rfl, gt_pv 1 (by decide +kernel) rfl, xT_Br, 4, rfl⟩
set_option maxRecDepth 100000 in
theorem kA_Br_costWith : Cond.initialized m_Br_costWith.1.cls ∈ gtbl ∧ Cond.code m_Br_costWith.1 m_Br_costWith.2.1 m_Br_costWith.2.2.1 m_Br_costWith.2.2.2.1 ∈ gtbl ∧ (m_Br_costWith.1.cls ≠ "java/lang/invoke/MethodHandle" ∧ m_Br_costWith.1.cls ≠ "java/lang/invoke/VarHandle" ∧ (parseMethodDescriptor m_Br_costWith.1.desc).map (fun d => d.parameters.length) = some 3) := ⟨gt_in 4 (by decide +kernel) rfl, gt_in 437 (by rfl) rfl, by decide +kernel⟩
set_option maxRecDepth 100000 in
theorem kV_Br_costWith : Cond.instanceMethod m_Br_costWith.1 ∈ gtbl ∧ Cond.selects m_Br_costWith.1.cls m_Br_costWith.1 m_Br_costWith.1 ∈ gtbl ∧ ∃ (T : u_T) (N : Nat), xcl[2]? = some (m_Br_costWith.1.cls, T, N) := ⟨gt_in 436 (by decide +kernel) rfl, gt_pv 2 (by decide +kernel) rfl, xT_Br, 4, rfl⟩
set_option maxRecDepth 100000 in
theorem kA_Fa_init : Cond.initialized m_Fa_init.1.cls ∈ gtbl ∧ Cond.code m_Fa_init.1 m_Fa_init.2.1 m_Fa_init.2.2.1 m_Fa_init.2.2.2.1 ∈ gtbl ∧ (m_Fa_init.1.cls ≠ "java/lang/invoke/MethodHandle" ∧ m_Fa_init.1.cls ≠ "java/lang/invoke/VarHandle" ∧ (parseMethodDescriptor m_Fa_init.1.desc).map (fun d => d.parameters.length) = some 0) := ⟨gt_in 8 (by decide +kernel) rfl, gt_in 185 (by rfl) rfl, by decide +kernel⟩
set_option maxRecDepth 100000 in
theorem kI_Fa_init : Cond.instanceMethod m_Fa_init.1 ∈ gtbl ∧ m_Fa_init.1.name = "<init>" ∧ m_Fa_init.2.2.2.1 = none := ⟨gt_in 184 (by decide +kernel) rfl, rfl, rfl⟩
set_option maxRecDepth 100000 in
theorem kA_Fa_readFrom : Cond.initialized m_Fa_readFrom.1.cls ∈ gtbl ∧ Cond.code m_Fa_readFrom.1 m_Fa_readFrom.2.1 m_Fa_readFrom.2.2.1 m_Fa_readFrom.2.2.2.1 ∈ gtbl ∧ (m_Fa_readFrom.1.cls ≠ "java/lang/invoke/MethodHandle" ∧ m_Fa_readFrom.1.cls ≠ "java/lang/invoke/VarHandle" ∧ (parseMethodDescriptor m_Fa_readFrom.1.desc).map (fun d => d.parameters.length) = some 1) := ⟨gt_in 8 (by decide +kernel) rfl, gt_in 547 (by rfl) rfl, by decide +kernel⟩
set_option maxRecDepth 100000 in
theorem kV_Fa_readFrom : Cond.instanceMethod m_Fa_readFrom.1 ∈ gtbl ∧ Cond.selects m_Fa_readFrom.1.cls m_Fa_readFrom.1 m_Fa_readFrom.1 ∈ gtbl ∧ ∃ (T : u_T) (N : Nat), xcl[3]? = some (m_Fa_readFrom.1.cls, T, N) := ⟨gt_in 545 (by decide +kernel) rfl, gt_in 546 (by decide +kernel) rfl, xT_Fa, 7, rfl⟩
set_option maxRecDepth 100000 in
theorem kA_Fa_standsIn : Cond.initialized m_Fa_standsIn.1.cls ∈ gtbl ∧ Cond.code m_Fa_standsIn.1 m_Fa_standsIn.2.1 m_Fa_standsIn.2.2.1 m_Fa_standsIn.2.2.2.1 ∈ gtbl ∧ (m_Fa_standsIn.1.cls ≠ "java/lang/invoke/MethodHandle" ∧ m_Fa_standsIn.1.cls ≠ "java/lang/invoke/VarHandle" ∧ (parseMethodDescriptor m_Fa_standsIn.1.desc).map (fun d => d.parameters.length) = some 1) := ⟨gt_in 8 (by decide +kernel) rfl, gt_in 741 (by rfl) rfl, by decide +kernel⟩
set_option maxRecDepth 100000 in
theorem kV_Fa_standsIn : Cond.instanceMethod m_Fa_standsIn.1 ∈ gtbl ∧ Cond.selects m_Fa_standsIn.1.cls m_Fa_standsIn.1 m_Fa_standsIn.1 ∈ gtbl ∧ ∃ (T : u_T) (N : Nat), xcl[3]? = some (m_Fa_standsIn.1.cls, T, N) := ⟨gt_in 739 (by decide +kernel) rfl, gt_in 740 (by decide +kernel) rfl, xT_Fa, 7, rfl⟩
set_option maxRecDepth 100000 in
theorem kA_Fa_quarrelWith : Cond.initialized m_Fa_quarrelWith.1.cls ∈ gtbl ∧ Cond.code m_Fa_quarrelWith.1 m_Fa_quarrelWith.2.1 m_Fa_quarrelWith.2.2.1 m_Fa_quarrelWith.2.2.2.1 ∈ gtbl ∧ (m_Fa_quarrelWith.1.cls ≠ "java/lang/invoke/MethodHandle" ∧ m_Fa_quarrelWith.1.cls ≠ "java/lang/invoke/VarHandle" ∧ (parseMethodDescriptor m_Fa_quarrelWith.1.desc).map (fun d => d.parameters.length) = some 1) := ⟨gt_in 8 (by decide +kernel) rfl, gt_in 716 (by rfl) rfl, by decide +kernel⟩
set_option maxRecDepth 100000 in
theorem kV_Fa_quarrelWith : Cond.instanceMethod m_Fa_quarrelWith.1 ∈ gtbl ∧ Cond.selects m_Fa_quarrelWith.1.cls m_Fa_quarrelWith.1 m_Fa_quarrelWith.1 ∈ gtbl ∧ ∃ (T : u_T) (N : Nat), xcl[3]? = some (m_Fa_quarrelWith.1.cls, T, N) := ⟨gt_in 714 (by decide +kernel) rfl, gt_in 715 (by decide +kernel) rfl, xT_Fa, 7, rfl⟩
set_option maxRecDepth 100000 in
theorem kA_Fa_quarrelWithLater : Cond.initialized m_Fa_quarrelWithLater.1.cls ∈ gtbl ∧ Cond.code m_Fa_quarrelWithLater.1 m_Fa_quarrelWithLater.2.1 m_Fa_quarrelWithLater.2.2.1 m_Fa_quarrelWithLater.2.2.2.1 ∈ gtbl ∧ (m_Fa_quarrelWithLater.1.cls ≠ "java/lang/invoke/MethodHandle" ∧ m_Fa_quarrelWithLater.1.cls ≠ "java/lang/invoke/VarHandle" ∧ (parseMethodDescriptor m_Fa_quarrelWithLater.1.desc).map (fun d => d.parameters.length) = some 1) := ⟨gt_in 8 (by decide +kernel) rfl, gt_in 720 (by rfl) rfl, by decide +kernel⟩
set_option maxRecDepth 100000 in
theorem kV_Fa_quarrelWithLater : Cond.instanceMethod m_Fa_quarrelWithLater.1 ∈ gtbl ∧ Cond.selects m_Fa_quarrelWithLater.1.cls m_Fa_quarrelWithLater.1 m_Fa_quarrelWithLater.1 ∈ gtbl ∧ ∃ (T : u_T) (N : Nat), xcl[3]? = some (m_Fa_quarrelWithLater.1.cls, T, N) := ⟨gt_in 719 (by decide +kernel) rfl, gt_pv 19 (by decide +kernel) rfl, xT_Fa, 7, rfl⟩
set_option maxRecDepth 100000 in
theorem kA_Fs_init : Cond.initialized m_Fs_init.1.cls ∈ gtbl ∧ Cond.code m_Fs_init.1 m_Fs_init.2.1 m_Fs_init.2.2.1 m_Fs_init.2.2.2.1 ∈ gtbl ∧ (m_Fs_init.1.cls ≠ "java/lang/invoke/MethodHandle" ∧ m_Fs_init.1.cls ≠ "java/lang/invoke/VarHandle" ∧ (parseMethodDescriptor m_Fs_init.1.desc).map (fun d => d.parameters.length) = some 0) := ⟨gt_in 7 (by decide +kernel) rfl, gt_in 178 (by rfl) rfl, by decide +kernel⟩
set_option maxRecDepth 100000 in
theorem kI_Fs_init : Cond.instanceMethod m_Fs_init.1 ∈ gtbl ∧ m_Fs_init.1.name = "<init>" ∧ m_Fs_init.2.2.2.1 = none := ⟨gt_in 177 (by decide +kernel) rfl, rfl, rfl⟩
set_option maxRecDepth 100000 in
theorem kA_Fs_readDraft : Cond.initialized m_Fs_readDraft.1.cls ∈ gtbl ∧ Cond.code m_Fs_readDraft.1 m_Fs_readDraft.2.1 m_Fs_readDraft.2.2.1 m_Fs_readDraft.2.2.2.1 ∈ gtbl ∧ (m_Fs_readDraft.1.cls ≠ "java/lang/invoke/MethodHandle" ∧ m_Fs_readDraft.1.cls ≠ "java/lang/invoke/VarHandle" ∧ (parseMethodDescriptor m_Fs_readDraft.1.desc).map (fun d => d.parameters.length) = some 1) := ⟨gt_in 7 (by decide +kernel) rfl, gt_in 543 (by rfl) rfl, by decide +kernel⟩
set_option maxRecDepth 100000 in
theorem kV_Fs_readDraft : Cond.instanceMethod m_Fs_readDraft.1 ∈ gtbl ∧ Cond.selects m_Fs_readDraft.1.cls m_Fs_readDraft.1 m_Fs_readDraft.1 ∈ gtbl ∧ ∃ (T : u_T) (N : Nat), xcl[4]? = some (m_Fs_readDraft.1.cls, T, N) := ⟨gt_in 541 (by decide +kernel) rfl, gt_in 542 (by decide +kernel) rfl, xT_Fs, 6, rfl⟩
set_option maxRecDepth 100000 in
theorem kA_Fs_addDraft : Cond.initialized m_Fs_addDraft.1.cls ∈ gtbl ∧ Cond.code m_Fs_addDraft.1 m_Fs_addDraft.2.1 m_Fs_addDraft.2.2.1 m_Fs_addDraft.2.2.2.1 ∈ gtbl ∧ (m_Fs_addDraft.1.cls ≠ "java/lang/invoke/MethodHandle" ∧ m_Fs_addDraft.1.cls ≠ "java/lang/invoke/VarHandle" ∧ (parseMethodDescriptor m_Fs_addDraft.1.desc).map (fun d => d.parameters.length) = some 2) := ⟨gt_in 7 (by decide +kernel) rfl, gt_in 686 (by rfl) rfl, by decide +kernel⟩
set_option maxRecDepth 100000 in
theorem kV_Fs_addDraft : Cond.instanceMethod m_Fs_addDraft.1 ∈ gtbl ∧ Cond.selects m_Fs_addDraft.1.cls m_Fs_addDraft.1 m_Fs_addDraft.1 ∈ gtbl ∧ ∃ (T : u_T) (N : Nat), xcl[4]? = some (m_Fs_addDraft.1.cls, T, N) := ⟨gt_in 684 (by decide +kernel) rfl, gt_in 685 (by decide +kernel) rfl, xT_Fs, 6, rfl⟩
set_option maxRecDepth 100000 in
theorem kA_Fs_strikeFrom : Cond.initialized m_Fs_strikeFrom.1.cls ∈ gtbl ∧ Cond.code m_Fs_strikeFrom.1 m_Fs_strikeFrom.2.1 m_Fs_strikeFrom.2.2.1 m_Fs_strikeFrom.2.2.2.1 ∈ gtbl ∧ (m_Fs_strikeFrom.1.cls ≠ "java/lang/invoke/MethodHandle" ∧ m_Fs_strikeFrom.1.cls ≠ "java/lang/invoke/VarHandle" ∧ (parseMethodDescriptor m_Fs_strikeFrom.1.desc).map (fun d => d.parameters.length) = some 3) := ⟨gt_in 7 (by decide +kernel) rfl, gt_in 699 (by rfl) rfl, by decide +kernel⟩
set_option maxRecDepth 100000 in
theorem kV_Fs_strikeFrom : Cond.instanceMethod m_Fs_strikeFrom.1 ∈ gtbl ∧ Cond.selects m_Fs_strikeFrom.1.cls m_Fs_strikeFrom.1 m_Fs_strikeFrom.1 ∈ gtbl ∧ ∃ (T : u_T) (N : Nat), xcl[4]? = some (m_Fs_strikeFrom.1.cls, T, N) := ⟨gt_in 697 (by decide +kernel) rfl, gt_in 698 (by decide +kernel) rfl, xT_Fs, 6, rfl⟩
set_option maxRecDepth 100000 in
theorem kA_Fs_quarrelOf : Cond.initialized m_Fs_quarrelOf.1.cls ∈ gtbl ∧ Cond.code m_Fs_quarrelOf.1 m_Fs_quarrelOf.2.1 m_Fs_quarrelOf.2.2.1 m_Fs_quarrelOf.2.2.2.1 ∈ gtbl ∧ (m_Fs_quarrelOf.1.cls ≠ "java/lang/invoke/MethodHandle" ∧ m_Fs_quarrelOf.1.cls ≠ "java/lang/invoke/VarHandle" ∧ (parseMethodDescriptor m_Fs_quarrelOf.1.desc).map (fun d => d.parameters.length) = some 2) := ⟨gt_in 7 (by decide +kernel) rfl, gt_in 712 (by rfl) rfl, by decide +kernel⟩
set_option maxRecDepth 100000 in
theorem kV_Fs_quarrelOf : Cond.instanceMethod m_Fs_quarrelOf.1 ∈ gtbl ∧ Cond.selects m_Fs_quarrelOf.1.cls m_Fs_quarrelOf.1 m_Fs_quarrelOf.1 ∈ gtbl ∧ ∃ (T : u_T) (N : Nat), xcl[4]? = some (m_Fs_quarrelOf.1.cls, T, N) := ⟨gt_in 710 (by decide +kernel) rfl, gt_in 711 (by decide +kernel) rfl, xT_Fs, 6, rfl⟩
set_option maxRecDepth 100000 in
theorem kA_Fs_findQuarrels : Cond.initialized m_Fs_findQuarrels.1.cls ∈ gtbl ∧ Cond.code m_Fs_findQuarrels.1 m_Fs_findQuarrels.2.1 m_Fs_findQuarrels.2.2.1 m_Fs_findQuarrels.2.2.2.1 ∈ gtbl ∧ (m_Fs_findQuarrels.1.cls ≠ "java/lang/invoke/MethodHandle" ∧ m_Fs_findQuarrels.1.cls ≠ "java/lang/invoke/VarHandle" ∧ (parseMethodDescriptor m_Fs_findQuarrels.1.desc).map (fun d => d.parameters.length) = some 2) := ⟨gt_in 7 (by decide +kernel) rfl, gt_in 728 (by rfl) rfl, by decide +kernel⟩
set_option maxRecDepth 100000 in
theorem kV_Fs_findQuarrels : Cond.instanceMethod m_Fs_findQuarrels.1 ∈ gtbl ∧ Cond.selects m_Fs_findQuarrels.1.cls m_Fs_findQuarrels.1 m_Fs_findQuarrels.1 ∈ gtbl ∧ ∃ (T : u_T) (N : Nat), xcl[4]? = some (m_Fs_findQuarrels.1.cls, T, N) := ⟨gt_in 726 (by decide +kernel) rfl, gt_in 727 (by decide +kernel) rfl, xT_Fs, 6, rfl⟩
set_option maxRecDepth 100000 in
theorem kA_Fs_foundPair : Cond.initialized m_Fs_foundPair.1.cls ∈ gtbl ∧ Cond.code m_Fs_foundPair.1 m_Fs_foundPair.2.1 m_Fs_foundPair.2.2.1 m_Fs_foundPair.2.2.2.1 ∈ gtbl ∧ (m_Fs_foundPair.1.cls ≠ "java/lang/invoke/MethodHandle" ∧ m_Fs_foundPair.1.cls ≠ "java/lang/invoke/VarHandle" ∧ (parseMethodDescriptor m_Fs_foundPair.1.desc).map (fun d => d.parameters.length) = some 2) := ⟨gt_in 7 (by decide +kernel) rfl, gt_in 754 (by rfl) rfl, by decide +kernel⟩
set_option maxRecDepth 100000 in
theorem kV_Fs_foundPair : Cond.instanceMethod m_Fs_foundPair.1 ∈ gtbl ∧ Cond.selects m_Fs_foundPair.1.cls m_Fs_foundPair.1 m_Fs_foundPair.1 ∈ gtbl ∧ ∃ (T : u_T) (N : Nat), xcl[4]? = some (m_Fs_foundPair.1.cls, T, N) := ⟨gt_in 752 (by decide +kernel) rfl, gt_in 753 (by decide +kernel) rfl, xT_Fs, 6, rfl⟩
set_option maxRecDepth 100000 in
theorem kA_Fs_findQuarrelsOf : Cond.initialized m_Fs_findQuarrelsOf.1.cls ∈ gtbl ∧ Cond.code m_Fs_findQuarrelsOf.1 m_Fs_findQuarrelsOf.2.1 m_Fs_findQuarrelsOf.2.2.1 m_Fs_findQuarrelsOf.2.2.2.1 ∈ gtbl ∧ (m_Fs_findQuarrelsOf.1.cls ≠ "java/lang/invoke/MethodHandle" ∧ m_Fs_findQuarrelsOf.1.cls ≠ "java/lang/invoke/VarHandle" ∧ (parseMethodDescriptor m_Fs_findQuarrelsOf.1.desc).map (fun d => d.parameters.length) = some 3) := ⟨gt_in 7 (by decide +kernel) rfl, gt_in 745 (by rfl) rfl, by decide +kernel⟩
set_option maxRecDepth 100000 in
theorem kV_Fs_findQuarrelsOf : Cond.instanceMethod m_Fs_findQuarrelsOf.1 ∈ gtbl ∧ Cond.selects m_Fs_findQuarrelsOf.1.cls m_Fs_findQuarrelsOf.1 m_Fs_findQuarrelsOf.1 ∈ gtbl ∧ ∃ (T : u_T) (N : Nat), xcl[4]? = some (m_Fs_findQuarrelsOf.1.cls, T, N) := ⟨gt_in 744 (by decide +kernel) rfl, gt_pv 21 (by decide +kernel) rfl, xT_Fs, 6, rfl⟩
set_option maxRecDepth 100000 in
theorem kA_Fs_stands : Cond.initialized m_Fs_stands.1.cls ∈ gtbl ∧ Cond.code m_Fs_stands.1 m_Fs_stands.2.1 m_Fs_stands.2.2.1 m_Fs_stands.2.2.2.1 ∈ gtbl ∧ (m_Fs_stands.1.cls ≠ "java/lang/invoke/MethodHandle" ∧ m_Fs_stands.1.cls ≠ "java/lang/invoke/VarHandle" ∧ (parseMethodDescriptor m_Fs_stands.1.desc).map (fun d => d.parameters.length) = some 3) := ⟨gt_in 7 (by decide +kernel) rfl, gt_in 732 (by rfl) rfl, by decide +kernel⟩
set_option maxRecDepth 100000 in
theorem kV_Fs_stands : Cond.instanceMethod m_Fs_stands.1 ∈ gtbl ∧ Cond.selects m_Fs_stands.1.cls m_Fs_stands.1 m_Fs_stands.1 ∈ gtbl ∧ ∃ (T : u_T) (N : Nat), xcl[4]? = some (m_Fs_stands.1.cls, T, N) := ⟨gt_in 731 (by decide +kernel) rfl, gt_pv 20 (by decide +kernel) rfl, xT_Fs, 6, rfl⟩
set_option maxRecDepth 100000 in
theorem kA_Fs_numbered : Cond.initialized m_Fs_numbered.1.cls ∈ gtbl ∧ Cond.code m_Fs_numbered.1 m_Fs_numbered.2.1 m_Fs_numbered.2.2.1 m_Fs_numbered.2.2.2.1 ∈ gtbl ∧ (m_Fs_numbered.1.cls ≠ "java/lang/invoke/MethodHandle" ∧ m_Fs_numbered.1.cls ≠ "java/lang/invoke/VarHandle" ∧ (parseMethodDescriptor m_Fs_numbered.1.desc).map (fun d => d.parameters.length) = some 1) := ⟨gt_in 7 (by decide +kernel) rfl, gt_in 703 (by rfl) rfl, by decide +kernel⟩
set_option maxRecDepth 100000 in
theorem kV_Fs_numbered : Cond.instanceMethod m_Fs_numbered.1 ∈ gtbl ∧ Cond.selects m_Fs_numbered.1.cls m_Fs_numbered.1 m_Fs_numbered.1 ∈ gtbl ∧ ∃ (T : u_T) (N : Nat), xcl[4]? = some (m_Fs_numbered.1.cls, T, N) := ⟨gt_in 702 (by decide +kernel) rfl, gt_pv 18 (by decide +kernel) rfl, xT_Fs, 6, rfl⟩
set_option maxRecDepth 100000 in
theorem kA_Fo_init : Cond.initialized m_Fo_init.1.cls ∈ gtbl ∧ Cond.code m_Fo_init.1 m_Fo_init.2.1 m_Fo_init.2.2.1 m_Fo_init.2.2.2.1 ∈ gtbl ∧ (m_Fo_init.1.cls ≠ "java/lang/invoke/MethodHandle" ∧ m_Fo_init.1.cls ≠ "java/lang/invoke/VarHandle" ∧ (parseMethodDescriptor m_Fo_init.1.desc).map (fun d => d.parameters.length) = some 0) := ⟨gt_in 12 (by decide +kernel) rfl, gt_in 315 (by rfl) rfl, by decide +kernel⟩
set_option maxRecDepth 100000 in
theorem kI_Fo_init : Cond.instanceMethod m_Fo_init.1 ∈ gtbl ∧ m_Fo_init.1.name = "<init>" ∧ m_Fo_init.2.2.2.1 = none := ⟨gt_in 314 (by decide +kernel) rfl, rfl, rfl⟩
set_option maxRecDepth 100000 in
theorem kA_Fo_addRow : Cond.initialized m_Fo_addRow.1.cls ∈ gtbl ∧ Cond.code m_Fo_addRow.1 m_Fo_addRow.2.1 m_Fo_addRow.2.2.1 m_Fo_addRow.2.2.2.1 ∈ gtbl ∧ (m_Fo_addRow.1.cls ≠ "java/lang/invoke/MethodHandle" ∧ m_Fo_addRow.1.cls ≠ "java/lang/invoke/VarHandle" ∧ (parseMethodDescriptor m_Fo_addRow.1.desc).map (fun d => d.parameters.length) = some 2) := ⟨gt_in 12 (by decide +kernel) rfl, gt_in 958 (by rfl) rfl, by decide +kernel⟩
set_option maxRecDepth 100000 in
theorem kV_Fo_addRow : Cond.instanceMethod m_Fo_addRow.1 ∈ gtbl ∧ Cond.selects m_Fo_addRow.1.cls m_Fo_addRow.1 m_Fo_addRow.1 ∈ gtbl ∧ ∃ (T : u_T) (N : Nat), xcl[5]? = some (m_Fo_addRow.1.cls, T, N) := ⟨gt_in 956 (by decide +kernel) rfl, gt_in 957 (by decide +kernel) rfl, xT_Fo, 3, rfl⟩
set_option maxRecDepth 100000 in
theorem kA_Fo_worthOf : Cond.initialized m_Fo_worthOf.1.cls ∈ gtbl ∧ Cond.code m_Fo_worthOf.1 m_Fo_worthOf.2.1 m_Fo_worthOf.2.2.1 m_Fo_worthOf.2.2.2.1 ∈ gtbl ∧ (m_Fo_worthOf.1.cls ≠ "java/lang/invoke/MethodHandle" ∧ m_Fo_worthOf.1.cls ≠ "java/lang/invoke/VarHandle" ∧ (parseMethodDescriptor m_Fo_worthOf.1.desc).map (fun d => d.parameters.length) = some 3) := ⟨gt_in 12 (by decide +kernel) rfl, gt_in 971 (by rfl) rfl, by decide +kernel⟩
set_option maxRecDepth 100000 in
theorem kV_Fo_worthOf : Cond.instanceMethod m_Fo_worthOf.1 ∈ gtbl ∧ Cond.selects m_Fo_worthOf.1.cls m_Fo_worthOf.1 m_Fo_worthOf.1 ∈ gtbl ∧ ∃ (T : u_T) (N : Nat), xcl[5]? = some (m_Fo_worthOf.1.cls, T, N) := ⟨gt_in 969 (by decide +kernel) rfl, gt_in 970 (by decide +kernel) rfl, xT_Fo, 3, rfl⟩
set_option maxRecDepth 100000 in
theorem kA_Fo_bestCopies : Cond.initialized m_Fo_bestCopies.1.cls ∈ gtbl ∧ Cond.code m_Fo_bestCopies.1 m_Fo_bestCopies.2.1 m_Fo_bestCopies.2.2.1 m_Fo_bestCopies.2.2.2.1 ∈ gtbl ∧ (m_Fo_bestCopies.1.cls ≠ "java/lang/invoke/MethodHandle" ∧ m_Fo_bestCopies.1.cls ≠ "java/lang/invoke/VarHandle" ∧ (parseMethodDescriptor m_Fo_bestCopies.1.desc).map (fun d => d.parameters.length) = some 2) := ⟨gt_in 12 (by decide +kernel) rfl, gt_in 967 (by rfl) rfl, by decide +kernel⟩
set_option maxRecDepth 100000 in
theorem kV_Fo_bestCopies : Cond.instanceMethod m_Fo_bestCopies.1 ∈ gtbl ∧ Cond.selects m_Fo_bestCopies.1.cls m_Fo_bestCopies.1 m_Fo_bestCopies.1 ∈ gtbl ∧ ∃ (T : u_T) (N : Nat), xcl[5]? = some (m_Fo_bestCopies.1.cls, T, N) := ⟨gt_in 965 (by decide +kernel) rfl, gt_in 966 (by decide +kernel) rfl, xT_Fo, 3, rfl⟩
set_option maxRecDepth 100000 in
theorem kA_Mn_init : Cond.initialized m_Mn_init.1.cls ∈ gtbl ∧ Cond.code m_Mn_init.1 m_Mn_init.2.1 m_Mn_init.2.2.1 m_Mn_init.2.2.2.1 ∈ gtbl ∧ (m_Mn_init.1.cls ≠ "java/lang/invoke/MethodHandle" ∧ m_Mn_init.1.cls ≠ "java/lang/invoke/VarHandle" ∧ (parseMethodDescriptor m_Mn_init.1.desc).map (fun d => d.parameters.length) = some 0) := ⟨gt_in 3 (by decide +kernel) rfl, gt_in 58 (by rfl) rfl, by decide +kernel⟩
set_option maxRecDepth 100000 in
theorem kI_Mn_init : Cond.instanceMethod m_Mn_init.1 ∈ gtbl ∧ m_Mn_init.1.name = "<init>" ∧ m_Mn_init.2.2.2.1 = none := ⟨gt_in 57 (by decide +kernel) rfl, rfl, rfl⟩
set_option maxRecDepth 100000 in
theorem kA_Mn_addParagraph : Cond.initialized m_Mn_addParagraph.1.cls ∈ gtbl ∧ Cond.code m_Mn_addParagraph.1 m_Mn_addParagraph.2.1 m_Mn_addParagraph.2.2.1 m_Mn_addParagraph.2.2.2.1 ∈ gtbl ∧ (m_Mn_addParagraph.1.cls ≠ "java/lang/invoke/MethodHandle" ∧ m_Mn_addParagraph.1.cls ≠ "java/lang/invoke/VarHandle" ∧ (parseMethodDescriptor m_Mn_addParagraph.1.desc).map (fun d => d.parameters.length) = some 1) := ⟨gt_in 3 (by decide +kernel) rfl, gt_in 380 (by rfl) rfl, by decide +kernel⟩
set_option maxRecDepth 100000 in
theorem kV_Mn_addParagraph : Cond.instanceMethod m_Mn_addParagraph.1 ∈ gtbl ∧ Cond.selects m_Mn_addParagraph.1.cls m_Mn_addParagraph.1 m_Mn_addParagraph.1 ∈ gtbl ∧ ∃ (T : u_T) (N : Nat), xcl[6]? = some (m_Mn_addParagraph.1.cls, T, N) := ⟨gt_in 378 (by decide +kernel) rfl, gt_in 379 (by decide +kernel) rfl, xT_Mn, 11, rfl⟩
set_option maxRecDepth 100000 in
theorem kA_Mn_addWord : Cond.initialized m_Mn_addWord.1.cls ∈ gtbl ∧ Cond.code m_Mn_addWord.1 m_Mn_addWord.2.1 m_Mn_addWord.2.2.1 m_Mn_addWord.2.2.2.1 ∈ gtbl ∧ (m_Mn_addWord.1.cls ≠ "java/lang/invoke/MethodHandle" ∧ m_Mn_addWord.1.cls ≠ "java/lang/invoke/VarHandle" ∧ (parseMethodDescriptor m_Mn_addWord.1.desc).map (fun d => d.parameters.length) = some 1) := ⟨gt_in 3 (by decide +kernel) rfl, gt_in 389 (by rfl) rfl, by decide +kernel⟩
set_option maxRecDepth 100000 in
theorem kV_Mn_addWord : Cond.instanceMethod m_Mn_addWord.1 ∈ gtbl ∧ Cond.selects m_Mn_addWord.1.cls m_Mn_addWord.1 m_Mn_addWord.1 ∈ gtbl ∧ ∃ (T : u_T) (N : Nat), xcl[6]? = some (m_Mn_addWord.1.cls, T, N) := ⟨gt_in 387 (by decide +kernel) rfl, gt_in 388 (by decide +kernel) rfl, xT_Mn, 11, rfl⟩
set_option maxRecDepth 100000 in
theorem kA_Mn_empty : Cond.initialized m_Mn_empty.1.cls ∈ gtbl ∧ Cond.code m_Mn_empty.1 m_Mn_empty.2.1 m_Mn_empty.2.2.1 m_Mn_empty.2.2.2.1 ∈ gtbl ∧ (m_Mn_empty.1.cls ≠ "java/lang/invoke/MethodHandle" ∧ m_Mn_empty.1.cls ≠ "java/lang/invoke/VarHandle" ∧ (parseMethodDescriptor m_Mn_empty.1.desc).map (fun d => d.parameters.length) = some 0) := ⟨gt_in 3 (by decide +kernel) rfl, gt_in 397 (by rfl) rfl, by decide +kernel⟩
set_option maxRecDepth 100000 in
theorem kV_Mn_empty : Cond.instanceMethod m_Mn_empty.1 ∈ gtbl ∧ Cond.selects m_Mn_empty.1.cls m_Mn_empty.1 m_Mn_empty.1 ∈ gtbl ∧ ∃ (T : u_T) (N : Nat), xcl[6]? = some (m_Mn_empty.1.cls, T, N) := ⟨gt_in 395 (by decide +kernel) rfl, gt_in 396 (by decide +kernel) rfl, xT_Mn, 11, rfl⟩
set_option maxRecDepth 100000 in
theorem kA_Mn_shape : Cond.initialized m_Mn_shape.1.cls ∈ gtbl ∧ Cond.code m_Mn_shape.1 m_Mn_shape.2.1 m_Mn_shape.2.2.1 m_Mn_shape.2.2.2.1 ∈ gtbl ∧ (m_Mn_shape.1.cls ≠ "java/lang/invoke/MethodHandle" ∧ m_Mn_shape.1.cls ≠ "java/lang/invoke/VarHandle" ∧ (parseMethodDescriptor m_Mn_shape.1.desc).map (fun d => d.parameters.length) = some 4) := ⟨gt_in 3 (by decide +kernel) rfl, gt_in 405 (by rfl) rfl, by decide +kernel⟩
set_option maxRecDepth 100000 in
theorem kV_Mn_shape : Cond.instanceMethod m_Mn_shape.1 ∈ gtbl ∧ Cond.selects m_Mn_shape.1.cls m_Mn_shape.1 m_Mn_shape.1 ∈ gtbl ∧ ∃ (T : u_T) (N : Nat), xcl[6]? = some (m_Mn_shape.1.cls, T, N) := ⟨gt_in 403 (by decide +kernel) rfl, gt_in 404 (by decide +kernel) rfl, xT_Mn, 11, rfl⟩
set_option maxRecDepth 100000 in
theorem kA_Mn_cutCost : Cond.initialized m_Mn_cutCost.1.cls ∈ gtbl ∧ Cond.code m_Mn_cutCost.1 m_Mn_cutCost.2.1 m_Mn_cutCost.2.2.1 m_Mn_cutCost.2.2.2.1 ∈ gtbl ∧ (m_Mn_cutCost.1.cls ≠ "java/lang/invoke/MethodHandle" ∧ m_Mn_cutCost.1.cls ≠ "java/lang/invoke/VarHandle" ∧ (parseMethodDescriptor m_Mn_cutCost.1.desc).map (fun d => d.parameters.length) = some 1) := ⟨gt_in 3 (by decide +kernel) rfl, gt_in 469 (by rfl) rfl, by decide +kernel⟩
set_option maxRecDepth 100000 in
theorem kV_Mn_cutCost : Cond.instanceMethod m_Mn_cutCost.1 ∈ gtbl ∧ Cond.selects m_Mn_cutCost.1.cls m_Mn_cutCost.1 m_Mn_cutCost.1 ∈ gtbl ∧ ∃ (T : u_T) (N : Nat), xcl[6]? = some (m_Mn_cutCost.1.cls, T, N) := ⟨gt_in 467 (by decide +kernel) rfl, gt_in 468 (by decide +kernel) rfl, xT_Mn, 11, rfl⟩
set_option maxRecDepth 100000 in
theorem kA_Mn_wordsOf : Cond.initialized m_Mn_wordsOf.1.cls ∈ gtbl ∧ Cond.code m_Mn_wordsOf.1 m_Mn_wordsOf.2.1 m_Mn_wordsOf.2.2.1 m_Mn_wordsOf.2.2.2.1 ∈ gtbl ∧ (m_Mn_wordsOf.1.cls ≠ "java/lang/invoke/MethodHandle" ∧ m_Mn_wordsOf.1.cls ≠ "java/lang/invoke/VarHandle" ∧ (parseMethodDescriptor m_Mn_wordsOf.1.desc).map (fun d => d.parameters.length) = some 1) := ⟨gt_in 3 (by decide +kernel) rfl, gt_in 477 (by rfl) rfl, by decide +kernel⟩
set_option maxRecDepth 100000 in
theorem kV_Mn_wordsOf : Cond.instanceMethod m_Mn_wordsOf.1 ∈ gtbl ∧ Cond.selects m_Mn_wordsOf.1.cls m_Mn_wordsOf.1 m_Mn_wordsOf.1 ∈ gtbl ∧ ∃ (T : u_T) (N : Nat), xcl[6]? = some (m_Mn_wordsOf.1.cls, T, N) := ⟨gt_in 475 (by decide +kernel) rfl, gt_in 476 (by decide +kernel) rfl, xT_Mn, 11, rfl⟩
set_option maxRecDepth 100000 in
theorem kA_Mn_weighBreaks : Cond.initialized m_Mn_weighBreaks.1.cls ∈ gtbl ∧ Cond.code m_Mn_weighBreaks.1 m_Mn_weighBreaks.2.1 m_Mn_weighBreaks.2.2.1 m_Mn_weighBreaks.2.2.2.1 ∈ gtbl ∧ (m_Mn_weighBreaks.1.cls ≠ "java/lang/invoke/MethodHandle" ∧ m_Mn_weighBreaks.1.cls ≠ "java/lang/invoke/VarHandle" ∧ (parseMethodDescriptor m_Mn_weighBreaks.1.desc).map (fun d => d.parameters.length) = some 1) := ⟨gt_in 3 (by decide +kernel) rfl, gt_in 417 (by rfl) rfl, by decide +kernel⟩
set_option maxRecDepth 100000 in
theorem kV_Mn_weighBreaks : Cond.instanceMethod m_Mn_weighBreaks.1 ∈ gtbl ∧ Cond.selects m_Mn_weighBreaks.1.cls m_Mn_weighBreaks.1 m_Mn_weighBreaks.1 ∈ gtbl ∧ ∃ (T : u_T) (N : Nat), xcl[6]? = some (m_Mn_weighBreaks.1.cls, T, N) := ⟨gt_in 415 (by decide +kernel) rfl, gt_in 416 (by decide +kernel) rfl, xT_Mn, 11, rfl⟩
set_option maxRecDepth 100000 in
theorem kA_Mn_breakCost : Cond.initialized m_Mn_breakCost.1.cls ∈ gtbl ∧ Cond.code m_Mn_breakCost.1 m_Mn_breakCost.2.1 m_Mn_breakCost.2.2.1 m_Mn_breakCost.2.2.2.1 ∈ gtbl ∧ (m_Mn_breakCost.1.cls ≠ "java/lang/invoke/MethodHandle" ∧ m_Mn_breakCost.1.cls ≠ "java/lang/invoke/VarHandle" ∧ (parseMethodDescriptor m_Mn_breakCost.1.desc).map (fun d => d.parameters.length) = some 2) := ⟨gt_in 3 (by decide +kernel) rfl, gt_in 448 (by rfl) rfl, by decide +kernel⟩
set_option maxRecDepth 100000 in
theorem kV_Mn_breakCost : Cond.instanceMethod m_Mn_breakCost.1 ∈ gtbl ∧ Cond.selects m_Mn_breakCost.1.cls m_Mn_breakCost.1 m_Mn_breakCost.1 ∈ gtbl ∧ ∃ (T : u_T) (N : Nat), xcl[6]? = some (m_Mn_breakCost.1.cls, T, N) := ⟨gt_in 446 (by decide +kernel) rfl, gt_in 447 (by decide +kernel) rfl, xT_Mn, 11, rfl⟩
set_option maxRecDepth 100000 in
theorem kA_Mn_breaksOf : Cond.initialized m_Mn_breaksOf.1.cls ∈ gtbl ∧ Cond.code m_Mn_breaksOf.1 m_Mn_breaksOf.2.1 m_Mn_breaksOf.2.2.1 m_Mn_breaksOf.2.2.2.1 ∈ gtbl ∧ (m_Mn_breaksOf.1.cls ≠ "java/lang/invoke/MethodHandle" ∧ m_Mn_breaksOf.1.cls ≠ "java/lang/invoke/VarHandle" ∧ (parseMethodDescriptor m_Mn_breaksOf.1.desc).map (fun d => d.parameters.length) = some 1) := ⟨gt_in 3 (by decide +kernel) rfl, gt_in 421 (by rfl) rfl, by decide +kernel⟩
set_option maxRecDepth 100000 in
theorem kV_Mn_breaksOf : Cond.instanceMethod m_Mn_breaksOf.1 ∈ gtbl ∧ Cond.selects m_Mn_breaksOf.1.cls m_Mn_breaksOf.1 m_Mn_breaksOf.1 ∈ gtbl ∧ ∃ (T : u_T) (N : Nat), xcl[6]? = some (m_Mn_breaksOf.1.cls, T, N) := ⟨gt_in 419 (by decide +kernel) rfl, gt_in 420 (by decide +kernel) rfl, xT_Mn, 11, rfl⟩
set_option maxRecDepth 100000 in
theorem kA_Mn_widowCost : Cond.initialized m_Mn_widowCost.1.cls ∈ gtbl ∧ Cond.code m_Mn_widowCost.1 m_Mn_widowCost.2.1 m_Mn_widowCost.2.2.1 m_Mn_widowCost.2.2.2.1 ∈ gtbl ∧ (m_Mn_widowCost.1.cls ≠ "java/lang/invoke/MethodHandle" ∧ m_Mn_widowCost.1.cls ≠ "java/lang/invoke/VarHandle" ∧ (parseMethodDescriptor m_Mn_widowCost.1.desc).map (fun d => d.parameters.length) = some 2) := ⟨gt_in 3 (by decide +kernel) rfl, gt_in 487 (by rfl) rfl, by decide +kernel⟩
set_option maxRecDepth 100000 in
theorem kV_Mn_widowCost : Cond.instanceMethod m_Mn_widowCost.1 ∈ gtbl ∧ Cond.selects m_Mn_widowCost.1.cls m_Mn_widowCost.1 m_Mn_widowCost.1 ∈ gtbl ∧ ∃ (T : u_T) (N : Nat), xcl[6]? = some (m_Mn_widowCost.1.cls, T, N) := ⟨gt_in 485 (by decide +kernel) rfl, gt_in 486 (by decide +kernel) rfl, xT_Mn, 11, rfl⟩
set_option maxRecDepth 100000 in
theorem kA_Mn_forgetBreakCosts : Cond.initialized m_Mn_forgetBreakCosts.1.cls ∈ gtbl ∧ Cond.code m_Mn_forgetBreakCosts.1 m_Mn_forgetBreakCosts.2.1 m_Mn_forgetBreakCosts.2.2.1 m_Mn_forgetBreakCosts.2.2.2.1 ∈ gtbl ∧ (m_Mn_forgetBreakCosts.1.cls ≠ "java/lang/invoke/MethodHandle" ∧ m_Mn_forgetBreakCosts.1.cls ≠ "java/lang/invoke/VarHandle" ∧ (parseMethodDescriptor m_Mn_forgetBreakCosts.1.desc).map (fun d => d.parameters.length) = some 0) := ⟨gt_in 3 (by decide +kernel) rfl, gt_in 409 (by rfl) rfl, by decide +kernel⟩
set_option maxRecDepth 100000 in
theorem kV_Mn_forgetBreakCosts : Cond.instanceMethod m_Mn_forgetBreakCosts.1 ∈ gtbl ∧ Cond.selects m_Mn_forgetBreakCosts.1.cls m_Mn_forgetBreakCosts.1 m_Mn_forgetBreakCosts.1 ∈ gtbl ∧ ∃ (T : u_T) (N : Nat), xcl[6]? = some (m_Mn_forgetBreakCosts.1.cls, T, N) := ⟨gt_in 408 (by decide +kernel) rfl, gt_pv 0 (by decide +kernel) rfl, xT_Mn, 11, rfl⟩
set_option maxRecDepth 100000 in
theorem kA_Pa_init : Cond.initialized m_Pa_init.1.cls ∈ gtbl ∧ Cond.code m_Pa_init.1 m_Pa_init.2.1 m_Pa_init.2.2.1 m_Pa_init.2.2.2.1 ∈ gtbl ∧ (m_Pa_init.1.cls ≠ "java/lang/invoke/MethodHandle" ∧ m_Pa_init.1.cls ≠ "java/lang/invoke/VarHandle" ∧ (parseMethodDescriptor m_Pa_init.1.desc).map (fun d => d.parameters.length) = some 0) := ⟨gt_in 6 (by decide +kernel) rfl, gt_in 159 (by rfl) rfl, by decide +kernel⟩
set_option maxRecDepth 100000 in
theorem kI_Pa_init : Cond.instanceMethod m_Pa_init.1 ∈ gtbl ∧ m_Pa_init.1.name = "<init>" ∧ m_Pa_init.2.2.2.1 = none := ⟨gt_in 158 (by decide +kernel) rfl, rfl, rfl⟩
set_option maxRecDepth 100000 in
theorem kA_Pa_haveEdition : Cond.initialized m_Pa_haveEdition.1.cls ∈ gtbl ∧ Cond.code m_Pa_haveEdition.1 m_Pa_haveEdition.2.1 m_Pa_haveEdition.2.2.1 m_Pa_haveEdition.2.2.2.1 ∈ gtbl ∧ (m_Pa_haveEdition.1.cls ≠ "java/lang/invoke/MethodHandle" ∧ m_Pa_haveEdition.1.cls ≠ "java/lang/invoke/VarHandle" ∧ (parseMethodDescriptor m_Pa_haveEdition.1.desc).map (fun d => d.parameters.length) = some 2) := ⟨gt_in 6 (by decide +kernel) rfl, gt_in 679 (by rfl) rfl, by decide +kernel⟩
set_option maxRecDepth 100000 in
theorem kV_Pa_haveEdition : Cond.instanceMethod m_Pa_haveEdition.1 ∈ gtbl ∧ Cond.selects m_Pa_haveEdition.1.cls m_Pa_haveEdition.1 m_Pa_haveEdition.1 ∈ gtbl ∧ ∃ (T : u_T) (N : Nat), xcl[7]? = some (m_Pa_haveEdition.1.cls, T, N) := ⟨gt_in 677 (by decide +kernel) rfl, gt_in 678 (by decide +kernel) rfl, xT_Pa, 4, rfl⟩
set_option maxRecDepth 100000 in
theorem kA_Pa_allHaveEdition : Cond.initialized m_Pa_allHaveEdition.1.cls ∈ gtbl ∧ Cond.code m_Pa_allHaveEdition.1 m_Pa_allHaveEdition.2.1 m_Pa_allHaveEdition.2.2.1 m_Pa_allHaveEdition.2.2.2.1 ∈ gtbl ∧ (m_Pa_allHaveEdition.1.cls ≠ "java/lang/invoke/MethodHandle" ∧ m_Pa_allHaveEdition.1.cls ≠ "java/lang/invoke/VarHandle" ∧ (parseMethodDescriptor m_Pa_allHaveEdition.1.desc).map (fun d => d.parameters.length) = some 3) := ⟨gt_in 6 (by decide +kernel) rfl, gt_in 939 (by rfl) rfl, by decide +kernel⟩
set_option maxRecDepth 100000 in
theorem kV_Pa_allHaveEdition : Cond.instanceMethod m_Pa_allHaveEdition.1 ∈ gtbl ∧ Cond.selects m_Pa_allHaveEdition.1.cls m_Pa_allHaveEdition.1 m_Pa_allHaveEdition.1 ∈ gtbl ∧ ∃ (T : u_T) (N : Nat), xcl[7]? = some (m_Pa_allHaveEdition.1.cls, T, N) := ⟨gt_in 937 (by decide +kernel) rfl, gt_in 938 (by decide +kernel) rfl, xT_Pa, 4, rfl⟩
set_option maxRecDepth 100000 in
theorem kA_Pa_lastEdition : Cond.initialized m_Pa_lastEdition.1.cls ∈ gtbl ∧ Cond.code m_Pa_lastEdition.1 m_Pa_lastEdition.2.1 m_Pa_lastEdition.2.2.1 m_Pa_lastEdition.2.2.2.1 ∈ gtbl ∧ (m_Pa_lastEdition.1.cls ≠ "java/lang/invoke/MethodHandle" ∧ m_Pa_lastEdition.1.cls ≠ "java/lang/invoke/VarHandle" ∧ (parseMethodDescriptor m_Pa_lastEdition.1.desc).map (fun d => d.parameters.length) = some 1) := ⟨gt_in 6 (by decide +kernel) rfl, gt_in 736 (by rfl) rfl, by decide +kernel⟩
set_option maxRecDepth 100000 in
theorem kV_Pa_lastEdition : Cond.instanceMethod m_Pa_lastEdition.1 ∈ gtbl ∧ Cond.selects m_Pa_lastEdition.1.cls m_Pa_lastEdition.1 m_Pa_lastEdition.1 ∈ gtbl ∧ ∃ (T : u_T) (N : Nat), xcl[7]? = some (m_Pa_lastEdition.1.cls, T, N) := ⟨gt_in 734 (by decide +kernel) rfl, gt_in 735 (by decide +kernel) rfl, xT_Pa, 4, rfl⟩
set_option maxRecDepth 100000 in
theorem kA_Pa_addEdition : Cond.initialized m_Pa_addEdition.1.cls ∈ gtbl ∧ Cond.code m_Pa_addEdition.1 m_Pa_addEdition.2.1 m_Pa_addEdition.2.2.1 m_Pa_addEdition.2.2.2.1 ∈ gtbl ∧ (m_Pa_addEdition.1.cls ≠ "java/lang/invoke/MethodHandle" ∧ m_Pa_addEdition.1.cls ≠ "java/lang/invoke/VarHandle" ∧ (parseMethodDescriptor m_Pa_addEdition.1.desc).map (fun d => d.parameters.length) = some 1) := ⟨gt_in 6 (by decide +kernel) rfl, gt_in 762 (by rfl) rfl, by decide +kernel⟩
set_option maxRecDepth 100000 in
theorem kV_Pa_addEdition : Cond.instanceMethod m_Pa_addEdition.1 ∈ gtbl ∧ Cond.selects m_Pa_addEdition.1.cls m_Pa_addEdition.1 m_Pa_addEdition.1 ∈ gtbl ∧ ∃ (T : u_T) (N : Nat), xcl[7]? = some (m_Pa_addEdition.1.cls, T, N) := ⟨gt_in 760 (by decide +kernel) rfl, gt_in 761 (by decide +kernel) rfl, xT_Pa, 4, rfl⟩
set_option maxRecDepth 100000 in
theorem kA_Pa_beginOn : Cond.initialized m_Pa_beginOn.1.cls ∈ gtbl ∧ Cond.code m_Pa_beginOn.1 m_Pa_beginOn.2.1 m_Pa_beginOn.2.2.1 m_Pa_beginOn.2.2.2.1 ∈ gtbl ∧ (m_Pa_beginOn.1.cls ≠ "java/lang/invoke/MethodHandle" ∧ m_Pa_beginOn.1.cls ≠ "java/lang/invoke/VarHandle" ∧ (parseMethodDescriptor m_Pa_beginOn.1.desc).map (fun d => d.parameters.length) = some 1) := ⟨gt_in 6 (by decide +kernel) rfl, gt_in 858 (by rfl) rfl, by decide +kernel⟩
set_option maxRecDepth 100000 in
theorem kV_Pa_beginOn : Cond.instanceMethod m_Pa_beginOn.1 ∈ gtbl ∧ Cond.selects m_Pa_beginOn.1.cls m_Pa_beginOn.1 m_Pa_beginOn.1 ∈ gtbl ∧ ∃ (T : u_T) (N : Nat), xcl[7]? = some (m_Pa_beginOn.1.cls, T, N) := ⟨gt_in 856 (by decide +kernel) rfl, gt_in 857 (by decide +kernel) rfl, xT_Pa, 4, rfl⟩
set_option maxRecDepth 100000 in
theorem kA_Pa_arrive : Cond.initialized m_Pa_arrive.1.cls ∈ gtbl ∧ Cond.code m_Pa_arrive.1 m_Pa_arrive.2.1 m_Pa_arrive.2.2.1 m_Pa_arrive.2.2.2.1 ∈ gtbl ∧ (m_Pa_arrive.1.cls ≠ "java/lang/invoke/MethodHandle" ∧ m_Pa_arrive.1.cls ≠ "java/lang/invoke/VarHandle" ∧ (parseMethodDescriptor m_Pa_arrive.1.desc).map (fun d => d.parameters.length) = some 2) := ⟨gt_in 6 (by decide +kernel) rfl, gt_in 866 (by rfl) rfl, by decide +kernel⟩
set_option maxRecDepth 100000 in
theorem kV_Pa_arrive : Cond.instanceMethod m_Pa_arrive.1 ∈ gtbl ∧ Cond.selects m_Pa_arrive.1.cls m_Pa_arrive.1 m_Pa_arrive.1 ∈ gtbl ∧ ∃ (T : u_T) (N : Nat), xcl[7]? = some (m_Pa_arrive.1.cls, T, N) := ⟨gt_in 864 (by decide +kernel) rfl, gt_in 865 (by decide +kernel) rfl, xT_Pa, 4, rfl⟩
set_option maxRecDepth 100000 in
theorem kA_Pa_hasCome : Cond.initialized m_Pa_hasCome.1.cls ∈ gtbl ∧ Cond.code m_Pa_hasCome.1 m_Pa_hasCome.2.1 m_Pa_hasCome.2.2.1 m_Pa_hasCome.2.2.2.1 ∈ gtbl ∧ (m_Pa_hasCome.1.cls ≠ "java/lang/invoke/MethodHandle" ∧ m_Pa_hasCome.1.cls ≠ "java/lang/invoke/VarHandle" ∧ (parseMethodDescriptor m_Pa_hasCome.1.desc).map (fun d => d.parameters.length) = some 1) := ⟨gt_in 6 (by decide +kernel) rfl, gt_in 844 (by rfl) rfl, by decide +kernel⟩
set_option maxRecDepth 100000 in
theorem kV_Pa_hasCome : Cond.instanceMethod m_Pa_hasCome.1 ∈ gtbl ∧ Cond.selects m_Pa_hasCome.1.cls m_Pa_hasCome.1 m_Pa_hasCome.1 ∈ gtbl ∧ ∃ (T : u_T) (N : Nat), xcl[7]? = some (m_Pa_hasCome.1.cls, T, N) := ⟨gt_in 842 (by decide +kernel) rfl, gt_in 843 (by decide +kernel) rfl, xT_Pa, 4, rfl⟩
set_option maxRecDepth 100000 in
theorem kA_Pa_daysLate : Cond.initialized m_Pa_daysLate.1.cls ∈ gtbl ∧ Cond.code m_Pa_daysLate.1 m_Pa_daysLate.2.1 m_Pa_daysLate.2.2.1 m_Pa_daysLate.2.2.2.1 ∈ gtbl ∧ (m_Pa_daysLate.1.cls ≠ "java/lang/invoke/MethodHandle" ∧ m_Pa_daysLate.1.cls ≠ "java/lang/invoke/VarHandle" ∧ (parseMethodDescriptor m_Pa_daysLate.1.desc).map (fun d => d.parameters.length) = some 1) := ⟨gt_in 6 (by decide +kernel) rfl, gt_in 832 (by rfl) rfl, by decide +kernel⟩
set_option maxRecDepth 100000 in
theorem kV_Pa_daysLate : Cond.instanceMethod m_Pa_daysLate.1 ∈ gtbl ∧ Cond.selects m_Pa_daysLate.1.cls m_Pa_daysLate.1 m_Pa_daysLate.1 ∈ gtbl ∧ ∃ (T : u_T) (N : Nat), xcl[7]? = some (m_Pa_daysLate.1.cls, T, N) := ⟨gt_in 830 (by decide +kernel) rfl, gt_in 831 (by decide +kernel) rfl, xT_Pa, 4, rfl⟩
set_option maxRecDepth 100000 in
theorem kA_Pa_dueDay : Cond.initialized m_Pa_dueDay.1.cls ∈ gtbl ∧ Cond.code m_Pa_dueDay.1 m_Pa_dueDay.2.1 m_Pa_dueDay.2.2.1 m_Pa_dueDay.2.2.2.1 ∈ gtbl ∧ (m_Pa_dueDay.1.cls ≠ "java/lang/invoke/MethodHandle" ∧ m_Pa_dueDay.1.cls ≠ "java/lang/invoke/VarHandle" ∧ (parseMethodDescriptor m_Pa_dueDay.1.desc).map (fun d => d.parameters.length) = some 1) := ⟨gt_in 6 (by decide +kernel) rfl, gt_in 836 (by rfl) rfl, by decide +kernel⟩
set_option maxRecDepth 100000 in
theorem kV_Pa_dueDay : Cond.instanceMethod m_Pa_dueDay.1 ∈ gtbl ∧ Cond.selects m_Pa_dueDay.1.cls m_Pa_dueDay.1 m_Pa_dueDay.1 ∈ gtbl ∧ ∃ (T : u_T) (N : Nat), xcl[7]? = some (m_Pa_dueDay.1.cls, T, N) := ⟨gt_in 834 (by decide +kernel) rfl, gt_in 835 (by decide +kernel) rfl, xT_Pa, 4, rfl⟩
set_option maxRecDepth 100000 in
theorem kA_Pa_daysBehind : Cond.initialized m_Pa_daysBehind.1.cls ∈ gtbl ∧ Cond.code m_Pa_daysBehind.1 m_Pa_daysBehind.2.1 m_Pa_daysBehind.2.2.1 m_Pa_daysBehind.2.2.2.1 ∈ gtbl ∧ (m_Pa_daysBehind.1.cls ≠ "java/lang/invoke/MethodHandle" ∧ m_Pa_daysBehind.1.cls ≠ "java/lang/invoke/VarHandle" ∧ (parseMethodDescriptor m_Pa_daysBehind.1.desc).map (fun d => d.parameters.length) = some 2) := ⟨gt_in 6 (by decide +kernel) rfl, gt_in 840 (by rfl) rfl, by decide +kernel⟩
set_option maxRecDepth 100000 in
theorem kV_Pa_daysBehind : Cond.instanceMethod m_Pa_daysBehind.1 ∈ gtbl ∧ Cond.selects m_Pa_daysBehind.1.cls m_Pa_daysBehind.1 m_Pa_daysBehind.1 ∈ gtbl ∧ ∃ (T : u_T) (N : Nat), xcl[7]? = some (m_Pa_daysBehind.1.cls, T, N) := ⟨gt_in 839 (by decide +kernel) rfl, gt_pv 22 (by decide +kernel) rfl, xT_Pa, 4, rfl⟩
set_option maxRecDepth 100000 in
theorem kA_Se_init : Cond.initialized m_Se_init.1.cls ∈ gtbl ∧ Cond.code m_Se_init.1 m_Se_init.2.1 m_Se_init.2.2.1 m_Se_init.2.2.2.1 ∈ gtbl ∧ (m_Se_init.1.cls ≠ "java/lang/invoke/MethodHandle" ∧ m_Se_init.1.cls ≠ "java/lang/invoke/VarHandle" ∧ (parseMethodDescriptor m_Se_init.1.desc).map (fun d => d.parameters.length) = some 0) := ⟨gt_in 5 (by decide +kernel) rfl, gt_in 124 (by rfl) rfl, by decide +kernel⟩
set_option maxRecDepth 100000 in
theorem kI_Se_init : Cond.instanceMethod m_Se_init.1 ∈ gtbl ∧ m_Se_init.1.name = "<init>" ∧ m_Se_init.2.2.2.1 = none := ⟨gt_in 123 (by decide +kernel) rfl, rfl, rfl⟩
set_option maxRecDepth 100000 in
theorem kA_Se_leastCost : Cond.initialized m_Se_leastCost.1.cls ∈ gtbl ∧ Cond.code m_Se_leastCost.1 m_Se_leastCost.2.1 m_Se_leastCost.2.2.1 m_Se_leastCost.2.2.2.1 ∈ gtbl ∧ (m_Se_leastCost.1.cls ≠ "java/lang/invoke/MethodHandle" ∧ m_Se_leastCost.1.cls ≠ "java/lang/invoke/VarHandle" ∧ (parseMethodDescriptor m_Se_leastCost.1.desc).map (fun d => d.parameters.length) = some 2) := ⟨gt_in 5 (by decide +kernel) rfl, gt_in 458 (by rfl) rfl, by decide +kernel⟩
set_option maxRecDepth 100000 in
theorem kV_Se_leastCost : Cond.instanceMethod m_Se_leastCost.1 ∈ gtbl ∧ Cond.selects m_Se_leastCost.1.cls m_Se_leastCost.1 m_Se_leastCost.1 ∈ gtbl ∧ ∃ (T : u_T) (N : Nat), xcl[8]? = some (m_Se_leastCost.1.cls, T, N) := ⟨gt_in 456 (by decide +kernel) rfl, gt_in 457 (by decide +kernel) rfl, xT_Se, 9, rfl⟩
set_option maxRecDepth 100000 in
theorem kA_Se_placeAll : Cond.initialized m_Se_placeAll.1.cls ∈ gtbl ∧ Cond.code m_Se_placeAll.1 m_Se_placeAll.2.1 m_Se_placeAll.2.2.1 m_Se_placeAll.2.2.2.1 ∈ gtbl ∧ (m_Se_placeAll.1.cls ≠ "java/lang/invoke/MethodHandle" ∧ m_Se_placeAll.1.cls ≠ "java/lang/invoke/VarHandle" ∧ (parseMethodDescriptor m_Se_placeAll.1.desc).map (fun d => d.parameters.length) = some 2) := ⟨gt_in 5 (by decide +kernel) rfl, gt_in 494 (by rfl) rfl, by decide +kernel⟩
set_option maxRecDepth 100000 in
theorem kV_Se_placeAll : Cond.instanceMethod m_Se_placeAll.1 ∈ gtbl ∧ Cond.selects m_Se_placeAll.1.cls m_Se_placeAll.1 m_Se_placeAll.1 ∈ gtbl ∧ ∃ (T : u_T) (N : Nat), xcl[8]? = some (m_Se_placeAll.1.cls, T, N) := ⟨gt_in 492 (by decide +kernel) rfl, gt_in 493 (by decide +kernel) rfl, xT_Se, 9, rfl⟩
set_option maxRecDepth 100000 in
theorem kA_Se_ofParagraph : Cond.initialized m_Se_ofParagraph.1.cls ∈ gtbl ∧ Cond.code m_Se_ofParagraph.1 m_Se_ofParagraph.2.1 m_Se_ofParagraph.2.2.1 m_Se_ofParagraph.2.2.2.1 ∈ gtbl ∧ (m_Se_ofParagraph.1.cls ≠ "java/lang/invoke/MethodHandle" ∧ m_Se_ofParagraph.1.cls ≠ "java/lang/invoke/VarHandle" ∧ (parseMethodDescriptor m_Se_ofParagraph.1.desc).map (fun d => d.parameters.length) = some 2) := ⟨gt_in 5 (by decide +kernel) rfl, gt_in 527 (by rfl) rfl, by decide +kernel⟩
set_option maxRecDepth 100000 in
theorem kV_Se_ofParagraph : Cond.instanceMethod m_Se_ofParagraph.1 ∈ gtbl ∧ Cond.selects m_Se_ofParagraph.1.cls m_Se_ofParagraph.1 m_Se_ofParagraph.1 ∈ gtbl ∧ ∃ (T : u_T) (N : Nat), xcl[8]? = some (m_Se_ofParagraph.1.cls, T, N) := ⟨gt_in 525 (by decide +kernel) rfl, gt_in 526 (by decide +kernel) rfl, xT_Se, 9, rfl⟩
set_option maxRecDepth 100000 in
theorem kA_Se_ofLine : Cond.initialized m_Se_ofLine.1.cls ∈ gtbl ∧ Cond.code m_Se_ofLine.1 m_Se_ofLine.2.1 m_Se_ofLine.2.2.1 m_Se_ofLine.2.2.2.1 ∈ gtbl ∧ (m_Se_ofLine.1.cls ≠ "java/lang/invoke/MethodHandle" ∧ m_Se_ofLine.1.cls ≠ "java/lang/invoke/VarHandle" ∧ (parseMethodDescriptor m_Se_ofLine.1.desc).map (fun d => d.parameters.length) = some 2) := ⟨gt_in 5 (by decide +kernel) rfl, gt_in 535 (by rfl) rfl, by decide +kernel⟩
set_option maxRecDepth 100000 in
theorem kV_Se_ofLine : Cond.instanceMethod m_Se_ofLine.1 ∈ gtbl ∧ Cond.selects m_Se_ofLine.1.cls m_Se_ofLine.1 m_Se_ofLine.1 ∈ gtbl ∧ ∃ (T : u_T) (N : Nat), xcl[8]? = some (m_Se_ofLine.1.cls, T, N) := ⟨gt_in 533 (by decide +kernel) rfl, gt_in 534 (by decide +kernel) rfl, xT_Se, 9, rfl⟩
set_option maxRecDepth 100000 in
theorem kA_Se_weighFrom : Cond.initialized m_Se_weighFrom.1.cls ∈ gtbl ∧ Cond.code m_Se_weighFrom.1 m_Se_weighFrom.2.1 m_Se_weighFrom.2.2.1 m_Se_weighFrom.2.2.2.1 ∈ gtbl ∧ (m_Se_weighFrom.1.cls ≠ "java/lang/invoke/MethodHandle" ∧ m_Se_weighFrom.1.cls ≠ "java/lang/invoke/VarHandle" ∧ (parseMethodDescriptor m_Se_weighFrom.1.desc).map (fun d => d.parameters.length) = some 3) := ⟨gt_in 5 (by decide +kernel) rfl, gt_in 465 (by rfl) rfl, by decide +kernel⟩
set_option maxRecDepth 100000 in
theorem kV_Se_weighFrom : Cond.instanceMethod m_Se_weighFrom.1 ∈ gtbl ∧ Cond.selects m_Se_weighFrom.1.cls m_Se_weighFrom.1 m_Se_weighFrom.1 ∈ gtbl ∧ ∃ (T : u_T) (N : Nat), xcl[8]? = some (m_Se_weighFrom.1.cls, T, N) := ⟨gt_in 464 (by decide +kernel) rfl, gt_pv 3 (by decide +kernel) rfl, xT_Se, 9, rfl⟩
set_option maxRecDepth 100000 in
theorem kA_Se_leastUncut : Cond.initialized m_Se_leastUncut.1.cls ∈ gtbl ∧ Cond.code m_Se_leastUncut.1 m_Se_leastUncut.2.1 m_Se_leastUncut.2.2.1 m_Se_leastUncut.2.2.2.1 ∈ gtbl ∧ (m_Se_leastUncut.1.cls ≠ "java/lang/invoke/MethodHandle" ∧ m_Se_leastUncut.1.cls ≠ "java/lang/invoke/VarHandle" ∧ (parseMethodDescriptor m_Se_leastUncut.1.desc).map (fun d => d.parameters.length) = some 4) := ⟨gt_in 5 (by decide +kernel) rfl, gt_in 473 (by rfl) rfl, by decide +kernel⟩
set_option maxRecDepth 100000 in
theorem kV_Se_leastUncut : Cond.instanceMethod m_Se_leastUncut.1 ∈ gtbl ∧ Cond.selects m_Se_leastUncut.1.cls m_Se_leastUncut.1 m_Se_leastUncut.1 ∈ gtbl ∧ ∃ (T : u_T) (N : Nat), xcl[8]? = some (m_Se_leastUncut.1.cls, T, N) := ⟨gt_in 472 (by decide +kernel) rfl, gt_pv 4 (by decide +kernel) rfl, xT_Se, 9, rfl⟩
set_option maxRecDepth 100000 in
theorem kA_Se_costInLines : Cond.initialized m_Se_costInLines.1.cls ∈ gtbl ∧ Cond.code m_Se_costInLines.1 m_Se_costInLines.2.1 m_Se_costInLines.2.2.1 m_Se_costInLines.2.2.2.1 ∈ gtbl ∧ (m_Se_costInLines.1.cls ≠ "java/lang/invoke/MethodHandle" ∧ m_Se_costInLines.1.cls ≠ "java/lang/invoke/VarHandle" ∧ (parseMethodDescriptor m_Se_costInLines.1.desc).map (fun d => d.parameters.length) = some 4) := ⟨gt_in 5 (by decide +kernel) rfl, gt_in 482 (by rfl) rfl, by decide +kernel⟩
set_option maxRecDepth 100000 in
theorem kV_Se_costInLines : Cond.instanceMethod m_Se_costInLines.1 ∈ gtbl ∧ Cond.selects m_Se_costInLines.1.cls m_Se_costInLines.1 m_Se_costInLines.1 ∈ gtbl ∧ ∃ (T : u_T) (N : Nat), xcl[8]? = some (m_Se_costInLines.1.cls, T, N) := ⟨gt_in 481 (by decide +kernel) rfl, gt_pv 5 (by decide +kernel) rfl, xT_Se, 9, rfl⟩
set_option maxRecDepth 100000 in
theorem kA_Se_forgetPlaces : Cond.initialized m_Se_forgetPlaces.1.cls ∈ gtbl ∧ Cond.code m_Se_forgetPlaces.1 m_Se_forgetPlaces.2.1 m_Se_forgetPlaces.2.2.1 m_Se_forgetPlaces.2.2.2.1 ∈ gtbl ∧ (m_Se_forgetPlaces.1.cls ≠ "java/lang/invoke/MethodHandle" ∧ m_Se_forgetPlaces.1.cls ≠ "java/lang/invoke/VarHandle" ∧ (parseMethodDescriptor m_Se_forgetPlaces.1.desc).map (fun d => d.parameters.length) = some 2) := ⟨gt_in 5 (by decide +kernel) rfl, gt_in 498 (by rfl) rfl, by decide +kernel⟩
set_option maxRecDepth 100000 in
theorem kV_Se_forgetPlaces : Cond.instanceMethod m_Se_forgetPlaces.1 ∈ gtbl ∧ Cond.selects m_Se_forgetPlaces.1.cls m_Se_forgetPlaces.1 m_Se_forgetPlaces.1 ∈ gtbl ∧ ∃ (T : u_T) (N : Nat), xcl[8]? = some (m_Se_forgetPlaces.1.cls, T, N) := ⟨gt_in 497 (by decide +kernel) rfl, gt_pv 6 (by decide +kernel) rfl, xT_Se, 9, rfl⟩
set_option maxRecDepth 100000 in
theorem kA_Se_fewestLeads : Cond.initialized m_Se_fewestLeads.1.cls ∈ gtbl ∧ Cond.code m_Se_fewestLeads.1 m_Se_fewestLeads.2.1 m_Se_fewestLeads.2.2.1 m_Se_fewestLeads.2.2.2.1 ∈ gtbl ∧ (m_Se_fewestLeads.1.cls ≠ "java/lang/invoke/MethodHandle" ∧ m_Se_fewestLeads.1.cls ≠ "java/lang/invoke/VarHandle" ∧ (parseMethodDescriptor m_Se_fewestLeads.1.desc).map (fun d => d.parameters.length) = some 5) := ⟨gt_in 5 (by decide +kernel) rfl, gt_in 502 (by rfl) rfl, by decide +kernel⟩
set_option maxRecDepth 100000 in
theorem kV_Se_fewestLeads : Cond.instanceMethod m_Se_fewestLeads.1 ∈ gtbl ∧ Cond.selects m_Se_fewestLeads.1.cls m_Se_fewestLeads.1 m_Se_fewestLeads.1 ∈ gtbl ∧ ∃ (T : u_T) (N : Nat), xcl[8]? = some (m_Se_fewestLeads.1.cls, T, N) := ⟨gt_in 501 (by decide +kernel) rfl, gt_pv 7 (by decide +kernel) rfl, xT_Se, 9, rfl⟩
set_option maxRecDepth 100000 in
theorem kA_Se_fewestLines : Cond.initialized m_Se_fewestLines.1.cls ∈ gtbl ∧ Cond.code m_Se_fewestLines.1 m_Se_fewestLines.2.1 m_Se_fewestLines.2.2.1 m_Se_fewestLines.2.2.2.1 ∈ gtbl ∧ (m_Se_fewestLines.1.cls ≠ "java/lang/invoke/MethodHandle" ∧ m_Se_fewestLines.1.cls ≠ "java/lang/invoke/VarHandle" ∧ (parseMethodDescriptor m_Se_fewestLines.1.desc).map (fun d => d.parameters.length) = some 4) := ⟨gt_in 5 (by decide +kernel) rfl, gt_in 510 (by rfl) rfl, by decide +kernel⟩
set_option maxRecDepth 100000 in
theorem kV_Se_fewestLines : Cond.instanceMethod m_Se_fewestLines.1 ∈ gtbl ∧ Cond.selects m_Se_fewestLines.1.cls m_Se_fewestLines.1 m_Se_fewestLines.1 ∈ gtbl ∧ ∃ (T : u_T) (N : Nat), xcl[8]? = some (m_Se_fewestLines.1.cls, T, N) := ⟨gt_in 509 (by decide +kernel) rfl, gt_pv 9 (by decide +kernel) rfl, xT_Se, 9, rfl⟩
set_option maxRecDepth 100000 in
theorem kA_Se_placeLines : Cond.initialized m_Se_placeLines.1.cls ∈ gtbl ∧ Cond.code m_Se_placeLines.1 m_Se_placeLines.2.1 m_Se_placeLines.2.2.1 m_Se_placeLines.2.2.2.1 ∈ gtbl ∧ (m_Se_placeLines.1.cls ≠ "java/lang/invoke/MethodHandle" ∧ m_Se_placeLines.1.cls ≠ "java/lang/invoke/VarHandle" ∧ (parseMethodDescriptor m_Se_placeLines.1.desc).map (fun d => d.parameters.length) = some 4) := ⟨gt_in 5 (by decide +kernel) rfl, gt_in 514 (by rfl) rfl, by decide +kernel⟩
set_option maxRecDepth 100000 in
theorem kV_Se_placeLines : Cond.instanceMethod m_Se_placeLines.1 ∈ gtbl ∧ Cond.selects m_Se_placeLines.1.cls m_Se_placeLines.1 m_Se_placeLines.1 ∈ gtbl ∧ ∃ (T : u_T) (N : Nat), xcl[8]? = some (m_Se_placeLines.1.cls, T, N) := ⟨gt_in 513 (by decide +kernel) rfl, gt_pv 10 (by decide +kernel) rfl, xT_Se, 9, rfl⟩
set_option maxRecDepth 100000 in
theorem kA_Se_note : Cond.initialized m_Se_note.1.cls ∈ gtbl ∧ Cond.code m_Se_note.1 m_Se_note.2.1 m_Se_note.2.2.1 m_Se_note.2.2.2.1 ∈ gtbl ∧ (m_Se_note.1.cls ≠ "java/lang/invoke/MethodHandle" ∧ m_Se_note.1.cls ≠ "java/lang/invoke/VarHandle" ∧ (parseMethodDescriptor m_Se_note.1.desc).map (fun d => d.parameters.length) = some 5) := ⟨gt_in 5 (by decide +kernel) rfl, gt_in 506 (by rfl) rfl, by decide +kernel⟩
set_option maxRecDepth 100000 in
theorem kV_Se_note : Cond.instanceMethod m_Se_note.1 ∈ gtbl ∧ Cond.selects m_Se_note.1.cls m_Se_note.1 m_Se_note.1 ∈ gtbl ∧ ∃ (T : u_T) (N : Nat), xcl[8]? = some (m_Se_note.1.cls, T, N) := ⟨gt_in 505 (by decide +kernel) rfl, gt_pv 8 (by decide +kernel) rfl, xT_Se, 9, rfl⟩
set_option maxRecDepth 100000 in
theorem kA_Sh_init : Cond.initialized m_Sh_init.1.cls ∈ gtbl ∧ Cond.code m_Sh_init.1 m_Sh_init.2.1 m_Sh_init.2.2.1 m_Sh_init.2.2.2.1 ∈ gtbl ∧ (m_Sh_init.1.cls ≠ "java/lang/invoke/MethodHandle" ∧ m_Sh_init.1.cls ≠ "java/lang/invoke/VarHandle" ∧ (parseMethodDescriptor m_Sh_init.1.desc).map (fun d => d.parameters.length) = some 0) := ⟨gt_in 11 (by decide +kernel) rfl, gt_in 274 (by rfl) rfl, by decide +kernel⟩
set_option maxRecDepth 100000 in
theorem kI_Sh_init : Cond.instanceMethod m_Sh_init.1 ∈ gtbl ∧ m_Sh_init.1.name = "<init>" ∧ m_Sh_init.2.2.2.1 = none := ⟨gt_in 273 (by decide +kernel) rfl, rfl, rfl⟩
set_option maxRecDepth 100000 in
theorem kA_Sh_changePrices : Cond.initialized m_Sh_changePrices.1.cls ∈ gtbl ∧ Cond.code m_Sh_changePrices.1 m_Sh_changePrices.2.1 m_Sh_changePrices.2.2.1 m_Sh_changePrices.2.2.2.1 ∈ gtbl ∧ (m_Sh_changePrices.1.cls ≠ "java/lang/invoke/MethodHandle" ∧ m_Sh_changePrices.1.cls ≠ "java/lang/invoke/VarHandle" ∧ (parseMethodDescriptor m_Sh_changePrices.1.desc).map (fun d => d.parameters.length) = some 4) := ⟨gt_in 11 (by decide +kernel) rfl, gt_in 880 (by rfl) rfl, by decide +kernel⟩
set_option maxRecDepth 100000 in
theorem kV_Sh_changePrices : Cond.instanceMethod m_Sh_changePrices.1 ∈ gtbl ∧ Cond.selects m_Sh_changePrices.1.cls m_Sh_changePrices.1 m_Sh_changePrices.1 ∈ gtbl ∧ ∃ (T : u_T) (N : Nat), xcl[9]? = some (m_Sh_changePrices.1.cls, T, N) := ⟨gt_in 878 (by decide +kernel) rfl, gt_in 879 (by decide +kernel) rfl, xT_Sh, 10, rfl⟩
set_option maxRecDepth 100000 in
theorem kA_Sh_keepPlates : Cond.initialized m_Sh_keepPlates.1.cls ∈ gtbl ∧ Cond.code m_Sh_keepPlates.1 m_Sh_keepPlates.2.1 m_Sh_keepPlates.2.2.1 m_Sh_keepPlates.2.2.2.1 ∈ gtbl ∧ (m_Sh_keepPlates.1.cls ≠ "java/lang/invoke/MethodHandle" ∧ m_Sh_keepPlates.1.cls ≠ "java/lang/invoke/VarHandle" ∧ (parseMethodDescriptor m_Sh_keepPlates.1.desc).map (fun d => d.parameters.length) = some 2) := ⟨gt_in 11 (by decide +kernel) rfl, gt_in 889 (by rfl) rfl, by decide +kernel⟩
set_option maxRecDepth 100000 in
theorem kV_Sh_keepPlates : Cond.instanceMethod m_Sh_keepPlates.1 ∈ gtbl ∧ Cond.selects m_Sh_keepPlates.1.cls m_Sh_keepPlates.1 m_Sh_keepPlates.1 ∈ gtbl ∧ ∃ (T : u_T) (N : Nat), xcl[9]? = some (m_Sh_keepPlates.1.cls, T, N) := ⟨gt_in 887 (by decide +kernel) rfl, gt_in 888 (by decide +kernel) rfl, xT_Sh, 10, rfl⟩
set_option maxRecDepth 100000 in
theorem kA_Sh_printingCost : Cond.initialized m_Sh_printingCost.1.cls ∈ gtbl ∧ Cond.code m_Sh_printingCost.1 m_Sh_printingCost.2.1 m_Sh_printingCost.2.2.1 m_Sh_printingCost.2.2.2.1 ∈ gtbl ∧ (m_Sh_printingCost.1.cls ≠ "java/lang/invoke/MethodHandle" ∧ m_Sh_printingCost.1.cls ≠ "java/lang/invoke/VarHandle" ∧ (parseMethodDescriptor m_Sh_printingCost.1.desc).map (fun d => d.parameters.length) = some 2) := ⟨gt_in 11 (by decide +kernel) rfl, gt_in 903 (by rfl) rfl, by decide +kernel⟩
set_option maxRecDepth 100000 in
theorem kV_Sh_printingCost : Cond.instanceMethod m_Sh_printingCost.1 ∈ gtbl ∧ Cond.selects m_Sh_printingCost.1.cls m_Sh_printingCost.1 m_Sh_printingCost.1 ∈ gtbl ∧ ∃ (T : u_T) (N : Nat), xcl[9]? = some (m_Sh_printingCost.1.cls, T, N) := ⟨gt_in 901 (by decide +kernel) rfl, gt_in 902 (by decide +kernel) rfl, xT_Sh, 10, rfl⟩
set_option maxRecDepth 100000 in
theorem kA_Sh_addPrinted : Cond.initialized m_Sh_addPrinted.1.cls ∈ gtbl ∧ Cond.code m_Sh_addPrinted.1 m_Sh_addPrinted.2.1 m_Sh_addPrinted.2.2.1 m_Sh_addPrinted.2.2.2.1 ∈ gtbl ∧ (m_Sh_addPrinted.1.cls ≠ "java/lang/invoke/MethodHandle" ∧ m_Sh_addPrinted.1.cls ≠ "java/lang/invoke/VarHandle" ∧ (parseMethodDescriptor m_Sh_addPrinted.1.desc).map (fun d => d.parameters.length) = some 2) := ⟨gt_in 11 (by decide +kernel) rfl, gt_in 899 (by rfl) rfl, by decide +kernel⟩
set_option maxRecDepth 100000 in
theorem kV_Sh_addPrinted : Cond.instanceMethod m_Sh_addPrinted.1 ∈ gtbl ∧ Cond.selects m_Sh_addPrinted.1.cls m_Sh_addPrinted.1 m_Sh_addPrinted.1 ∈ gtbl ∧ ∃ (T : u_T) (N : Nat), xcl[9]? = some (m_Sh_addPrinted.1.cls, T, N) := ⟨gt_in 897 (by decide +kernel) rfl, gt_in 898 (by decide +kernel) rfl, xT_Sh, 10, rfl⟩
set_option maxRecDepth 100000 in
theorem kA_Sh_takeSold : Cond.initialized m_Sh_takeSold.1.cls ∈ gtbl ∧ Cond.code m_Sh_takeSold.1 m_Sh_takeSold.2.1 m_Sh_takeSold.2.2.1 m_Sh_takeSold.2.2.2.1 ∈ gtbl ∧ (m_Sh_takeSold.1.cls ≠ "java/lang/invoke/MethodHandle" ∧ m_Sh_takeSold.1.cls ≠ "java/lang/invoke/VarHandle" ∧ (parseMethodDescriptor m_Sh_takeSold.1.desc).map (fun d => d.parameters.length) = some 2) := ⟨gt_in 11 (by decide +kernel) rfl, gt_in 911 (by rfl) rfl, by decide +kernel⟩
set_option maxRecDepth 100000 in
theorem kV_Sh_takeSold : Cond.instanceMethod m_Sh_takeSold.1 ∈ gtbl ∧ Cond.selects m_Sh_takeSold.1.cls m_Sh_takeSold.1 m_Sh_takeSold.1 ∈ gtbl ∧ ∃ (T : u_T) (N : Nat), xcl[9]? = some (m_Sh_takeSold.1.cls, T, N) := ⟨gt_in 909 (by decide +kernel) rfl, gt_in 910 (by decide +kernel) rfl, xT_Sh, 10, rfl⟩
set_option maxRecDepth 100000 in
theorem kA_Sh_takePulped : Cond.initialized m_Sh_takePulped.1.cls ∈ gtbl ∧ Cond.code m_Sh_takePulped.1 m_Sh_takePulped.2.1 m_Sh_takePulped.2.2.1 m_Sh_takePulped.2.2.2.1 ∈ gtbl ∧ (m_Sh_takePulped.1.cls ≠ "java/lang/invoke/MethodHandle" ∧ m_Sh_takePulped.1.cls ≠ "java/lang/invoke/VarHandle" ∧ (parseMethodDescriptor m_Sh_takePulped.1.desc).map (fun d => d.parameters.length) = some 1) := ⟨gt_in 11 (by decide +kernel) rfl, gt_in 923 (by rfl) rfl, by decide +kernel⟩
set_option maxRecDepth 100000 in
theorem kV_Sh_takePulped : Cond.instanceMethod m_Sh_takePulped.1 ∈ gtbl ∧ Cond.selects m_Sh_takePulped.1.cls m_Sh_takePulped.1 m_Sh_takePulped.1 ∈ gtbl ∧ ∃ (T : u_T) (N : Nat), xcl[9]? = some (m_Sh_takePulped.1.cls, T, N) := ⟨gt_in 921 (by decide +kernel) rfl, gt_in 922 (by decide +kernel) rfl, xT_Sh, 10, rfl⟩
set_option maxRecDepth 100000 in
theorem kA_Sh_countOf : Cond.initialized m_Sh_countOf.1.cls ∈ gtbl ∧ Cond.code m_Sh_countOf.1 m_Sh_countOf.2.1 m_Sh_countOf.2.2.1 m_Sh_countOf.2.2.2.1 ∈ gtbl ∧ (m_Sh_countOf.1.cls ≠ "java/lang/invoke/MethodHandle" ∧ m_Sh_countOf.1.cls ≠ "java/lang/invoke/VarHandle" ∧ (parseMethodDescriptor m_Sh_countOf.1.desc).map (fun d => d.parameters.length) = some 2) := ⟨gt_in 11 (by decide +kernel) rfl, gt_in 931 (by rfl) rfl, by decide +kernel⟩
set_option maxRecDepth 100000 in
theorem kV_Sh_countOf : Cond.instanceMethod m_Sh_countOf.1 ∈ gtbl ∧ Cond.selects m_Sh_countOf.1.cls m_Sh_countOf.1 m_Sh_countOf.1 ∈ gtbl ∧ ∃ (T : u_T) (N : Nat), xcl[9]? = some (m_Sh_countOf.1.cls, T, N) := ⟨gt_in 929 (by decide +kernel) rfl, gt_in 930 (by decide +kernel) rfl, xT_Sh, 10, rfl⟩
set_option maxRecDepth 100000 in
theorem kA_Sh_soldOfPart : Cond.initialized m_Sh_soldOfPart.1.cls ∈ gtbl ∧ Cond.code m_Sh_soldOfPart.1 m_Sh_soldOfPart.2.1 m_Sh_soldOfPart.2.2.1 m_Sh_soldOfPart.2.2.2.1 ∈ gtbl ∧ (m_Sh_soldOfPart.1.cls ≠ "java/lang/invoke/MethodHandle" ∧ m_Sh_soldOfPart.1.cls ≠ "java/lang/invoke/VarHandle" ∧ (parseMethodDescriptor m_Sh_soldOfPart.1.desc).map (fun d => d.parameters.length) = some 1) := ⟨gt_in 11 (by decide +kernel) rfl, gt_in 814 (by rfl) rfl, by decide +kernel⟩
set_option maxRecDepth 100000 in
theorem kV_Sh_soldOfPart : Cond.instanceMethod m_Sh_soldOfPart.1 ∈ gtbl ∧ Cond.selects m_Sh_soldOfPart.1.cls m_Sh_soldOfPart.1 m_Sh_soldOfPart.1 ∈ gtbl ∧ ∃ (T : u_T) (N : Nat), xcl[9]? = some (m_Sh_soldOfPart.1.cls, T, N) := ⟨gt_in 812 (by decide +kernel) rfl, gt_in 813 (by decide +kernel) rfl, xT_Sh, 10, rfl⟩
set_option maxRecDepth 100000 in
theorem kA_Sh_leastLeft : Cond.initialized m_Sh_leastLeft.1.cls ∈ gtbl ∧ Cond.code m_Sh_leastLeft.1 m_Sh_leastLeft.2.1 m_Sh_leastLeft.2.2.1 m_Sh_leastLeft.2.2.2.1 ∈ gtbl ∧ (m_Sh_leastLeft.1.cls ≠ "java/lang/invoke/MethodHandle" ∧ m_Sh_leastLeft.1.cls ≠ "java/lang/invoke/VarHandle" ∧ (parseMethodDescriptor m_Sh_leastLeft.1.desc).map (fun d => d.parameters.length) = some 3) := ⟨gt_in 11 (by decide +kernel) rfl, gt_in 944 (by rfl) rfl, by decide +kernel⟩
set_option maxRecDepth 100000 in
theorem kV_Sh_leastLeft : Cond.instanceMethod m_Sh_leastLeft.1 ∈ gtbl ∧ Cond.selects m_Sh_leastLeft.1.cls m_Sh_leastLeft.1 m_Sh_leastLeft.1 ∈ gtbl ∧ ∃ (T : u_T) (N : Nat), xcl[9]? = some (m_Sh_leastLeft.1.cls, T, N) := ⟨gt_in 942 (by decide +kernel) rfl, gt_in 943 (by decide +kernel) rfl, xT_Sh, 10, rfl⟩
set_option maxRecDepth 100000 in
theorem kA_Sh_bind : Cond.initialized m_Sh_bind.1.cls ∈ gtbl ∧ Cond.code m_Sh_bind.1 m_Sh_bind.2.1 m_Sh_bind.2.2.1 m_Sh_bind.2.2.2.1 ∈ gtbl ∧ (m_Sh_bind.1.cls ≠ "java/lang/invoke/MethodHandle" ∧ m_Sh_bind.1.cls ≠ "java/lang/invoke/VarHandle" ∧ (parseMethodDescriptor m_Sh_bind.1.desc).map (fun d => d.parameters.length) = some 4) := ⟨gt_in 11 (by decide +kernel) rfl, gt_in 950 (by rfl) rfl, by decide +kernel⟩
set_option maxRecDepth 100000 in
theorem kV_Sh_bind : Cond.instanceMethod m_Sh_bind.1 ∈ gtbl ∧ Cond.selects m_Sh_bind.1.cls m_Sh_bind.1 m_Sh_bind.1 ∈ gtbl ∧ ∃ (T : u_T) (N : Nat), xcl[9]? = some (m_Sh_bind.1.cls, T, N) := ⟨gt_in 948 (by decide +kernel) rfl, gt_in 949 (by decide +kernel) rfl, xT_Sh, 10, rfl⟩
set_option maxRecDepth 100000 in
theorem kA_Sh_left : Cond.initialized m_Sh_left.1.cls ∈ gtbl ∧ Cond.code m_Sh_left.1 m_Sh_left.2.1 m_Sh_left.2.2.1 m_Sh_left.2.2.2.1 ∈ gtbl ∧ (m_Sh_left.1.cls ≠ "java/lang/invoke/MethodHandle" ∧ m_Sh_left.1.cls ≠ "java/lang/invoke/VarHandle" ∧ (parseMethodDescriptor m_Sh_left.1.desc).map (fun d => d.parameters.length) = some 1) := ⟨gt_in 11 (by decide +kernel) rfl, gt_in 915 (by rfl) rfl, by decide +kernel⟩
set_option maxRecDepth 100000 in
theorem kV_Sh_left : Cond.instanceMethod m_Sh_left.1 ∈ gtbl ∧ Cond.selects m_Sh_left.1.cls m_Sh_left.1 m_Sh_left.1 ∈ gtbl ∧ ∃ (T : u_T) (N : Nat), xcl[9]? = some (m_Sh_left.1.cls, T, N) := ⟨gt_in 914 (by decide +kernel) rfl, gt_pv 23 (by decide +kernel) rfl, xT_Sh, 10, rfl⟩
set_option maxRecDepth 100000 in
theorem kA_Sh_isSlot : Cond.initialized m_Sh_isSlot.1.cls ∈ gtbl ∧ Cond.code m_Sh_isSlot.1 m_Sh_isSlot.2.1 m_Sh_isSlot.2.2.1 m_Sh_isSlot.2.2.2.1 ∈ gtbl ∧ (m_Sh_isSlot.1.cls ≠ "java/lang/invoke/MethodHandle" ∧ m_Sh_isSlot.1.cls ≠ "java/lang/invoke/VarHandle" ∧ (parseMethodDescriptor m_Sh_isSlot.1.desc).map (fun d => d.parameters.length) = some 1) := ⟨gt_in 11 (by decide +kernel) rfl, gt_in 820 (by rfl) rfl, by decide +kernel⟩
set_option maxRecDepth 100000 in
theorem kS_Sh_isSlot : Cond.static m_Sh_isSlot.1 ∈ gtbl := gt_in 819 (by decide +kernel) rfl
set_option maxRecDepth 100000 in
theorem kA_Tp_init : Cond.initialized m_Tp_init.1.cls ∈ gtbl ∧ Cond.code m_Tp_init.1 m_Tp_init.2.1 m_Tp_init.2.2.1 m_Tp_init.2.2.2.1 ∈ gtbl ∧ (m_Tp_init.1.cls ≠ "java/lang/invoke/MethodHandle" ∧ m_Tp_init.1.cls ≠ "java/lang/invoke/VarHandle" ∧ (parseMethodDescriptor m_Tp_init.1.desc).map (fun d => d.parameters.length) = some 0) := ⟨gt_in 2 (by decide +kernel) rfl, gt_in 32 (by rfl) rfl, by decide +kernel⟩
set_option maxRecDepth 100000 in
theorem kI_Tp_init : Cond.instanceMethod m_Tp_init.1 ∈ gtbl ∧ m_Tp_init.1.name = "<init>" ∧ m_Tp_init.2.2.2.1 = none := ⟨gt_in 31 (by decide +kernel) rfl, rfl, rfl⟩
set_option maxRecDepth 100000 in
theorem kA_Tp_hasRoom : Cond.initialized m_Tp_hasRoom.1.cls ∈ gtbl ∧ Cond.code m_Tp_hasRoom.1 m_Tp_hasRoom.2.1 m_Tp_hasRoom.2.2.1 m_Tp_hasRoom.2.2.2.1 ∈ gtbl ∧ (m_Tp_hasRoom.1.cls ≠ "java/lang/invoke/MethodHandle" ∧ m_Tp_hasRoom.1.cls ≠ "java/lang/invoke/VarHandle" ∧ (parseMethodDescriptor m_Tp_hasRoom.1.desc).map (fun d => d.parameters.length) = some 0) := ⟨gt_in 2 (by decide +kernel) rfl, gt_in 360 (by rfl) rfl, by decide +kernel⟩
set_option maxRecDepth 100000 in
theorem kV_Tp_hasRoom : Cond.instanceMethod m_Tp_hasRoom.1 ∈ gtbl ∧ Cond.selects m_Tp_hasRoom.1.cls m_Tp_hasRoom.1 m_Tp_hasRoom.1 ∈ gtbl ∧ ∃ (T : u_T) (N : Nat), xcl[10]? = some (m_Tp_hasRoom.1.cls, T, N) := ⟨gt_in 358 (by decide +kernel) rfl, gt_in 359 (by decide +kernel) rfl, xT_Tp, 5, rfl⟩
set_option maxRecDepth 100000 in
theorem kA_Tp_append : Cond.initialized m_Tp_append.1.cls ∈ gtbl ∧ Cond.code m_Tp_append.1 m_Tp_append.2.1 m_Tp_append.2.2.1 m_Tp_append.2.2.2.1 ∈ gtbl ∧ (m_Tp_append.1.cls ≠ "java/lang/invoke/MethodHandle" ∧ m_Tp_append.1.cls ≠ "java/lang/invoke/VarHandle" ∧ (parseMethodDescriptor m_Tp_append.1.desc).map (fun d => d.parameters.length) = some 1) := ⟨gt_in 2 (by decide +kernel) rfl, gt_in 364 (by rfl) rfl, by decide +kernel⟩
set_option maxRecDepth 100000 in
theorem kV_Tp_append : Cond.instanceMethod m_Tp_append.1 ∈ gtbl ∧ Cond.selects m_Tp_append.1.cls m_Tp_append.1 m_Tp_append.1 ∈ gtbl ∧ ∃ (T : u_T) (N : Nat), xcl[10]? = some (m_Tp_append.1.cls, T, N) := ⟨gt_in 362 (by decide +kernel) rfl, gt_in 363 (by decide +kernel) rfl, xT_Tp, 5, rfl⟩
set_option maxRecDepth 100000 in
theorem kA_Tp_shorten : Cond.initialized m_Tp_shorten.1.cls ∈ gtbl ∧ Cond.code m_Tp_shorten.1 m_Tp_shorten.2.1 m_Tp_shorten.2.2.1 m_Tp_shorten.2.2.2.1 ∈ gtbl ∧ (m_Tp_shorten.1.cls ≠ "java/lang/invoke/MethodHandle" ∧ m_Tp_shorten.1.cls ≠ "java/lang/invoke/VarHandle" ∧ (parseMethodDescriptor m_Tp_shorten.1.desc).map (fun d => d.parameters.length) = some 1) := ⟨gt_in 2 (by decide +kernel) rfl, gt_in 372 (by rfl) rfl, by decide +kernel⟩
set_option maxRecDepth 100000 in
theorem kV_Tp_shorten : Cond.instanceMethod m_Tp_shorten.1 ∈ gtbl ∧ Cond.selects m_Tp_shorten.1.cls m_Tp_shorten.1 m_Tp_shorten.1 ∈ gtbl ∧ ∃ (T : u_T) (N : Nat), xcl[10]? = some (m_Tp_shorten.1.cls, T, N) := ⟨gt_in 370 (by decide +kernel) rfl, gt_in 371 (by decide +kernel) rfl, xT_Tp, 5, rfl⟩
set_option maxRecDepth 100000 in
theorem kA_Tp_discard : Cond.initialized m_Tp_discard.1.cls ∈ gtbl ∧ Cond.code m_Tp_discard.1 m_Tp_discard.2.1 m_Tp_discard.2.2.1 m_Tp_discard.2.2.2.1 ∈ gtbl ∧ (m_Tp_discard.1.cls ≠ "java/lang/invoke/MethodHandle" ∧ m_Tp_discard.1.cls ≠ "java/lang/invoke/VarHandle" ∧ (parseMethodDescriptor m_Tp_discard.1.desc).map (fun d => d.parameters.length) = some 0) := ⟨gt_in 2 (by decide +kernel) rfl, gt_in 675 (by rfl) rfl, by decide +kernel⟩
set_option maxRecDepth 100000 in
theorem kV_Tp_discard : Cond.instanceMethod m_Tp_discard.1 ∈ gtbl ∧ Cond.selects m_Tp_discard.1.cls m_Tp_discard.1 m_Tp_discard.1 ∈ gtbl ∧ ∃ (T : u_T) (N : Nat), xcl[10]? = some (m_Tp_discard.1.cls, T, N) := ⟨gt_in 673 (by decide +kernel) rfl, gt_in 674 (by decide +kernel) rfl, xT_Tp, 5, rfl⟩
set_option maxRecDepth 100000 in
theorem kA_Tp_open : Cond.initialized m_Tp_open.1.cls ∈ gtbl ∧ Cond.code m_Tp_open.1 m_Tp_open.2.1 m_Tp_open.2.2.1 m_Tp_open.2.2.2.1 ∈ gtbl ∧ (m_Tp_open.1.cls ≠ "java/lang/invoke/MethodHandle" ∧ m_Tp_open.1.cls ≠ "java/lang/invoke/VarHandle" ∧ (parseMethodDescriptor m_Tp_open.1.desc).map (fun d => d.parameters.length) = some 0) := ⟨gt_in 2 (by decide +kernel) rfl, gt_in 551 (by rfl) rfl, by decide +kernel⟩
set_option maxRecDepth 100000 in
theorem kV_Tp_open : Cond.instanceMethod m_Tp_open.1 ∈ gtbl ∧ Cond.selects m_Tp_open.1.cls m_Tp_open.1 m_Tp_open.1 ∈ gtbl ∧ ∃ (T : u_T) (N : Nat), xcl[10]? = some (m_Tp_open.1.cls, T, N) := ⟨gt_in 549 (by decide +kernel) rfl, gt_in 550 (by decide +kernel) rfl, xT_Tp, 5, rfl⟩
set_option maxRecDepth 100000 in
theorem kA_Tp_failed : Cond.initialized m_Tp_failed.1.cls ∈ gtbl ∧ Cond.code m_Tp_failed.1 m_Tp_failed.2.1 m_Tp_failed.2.2.1 m_Tp_failed.2.2.2.1 ∈ gtbl ∧ (m_Tp_failed.1.cls ≠ "java/lang/invoke/MethodHandle" ∧ m_Tp_failed.1.cls ≠ "java/lang/invoke/VarHandle" ∧ (parseMethodDescriptor m_Tp_failed.1.desc).map (fun d => d.parameters.length) = some 0) := ⟨gt_in 2 (by decide +kernel) rfl, gt_in 559 (by rfl) rfl, by decide +kernel⟩
set_option maxRecDepth 100000 in
theorem kV_Tp_failed : Cond.instanceMethod m_Tp_failed.1 ∈ gtbl ∧ Cond.selects m_Tp_failed.1.cls m_Tp_failed.1 m_Tp_failed.1 ∈ gtbl ∧ ∃ (T : u_T) (N : Nat), xcl[10]? = some (m_Tp_failed.1.cls, T, N) := ⟨gt_in 557 (by decide +kernel) rfl, gt_in 558 (by decide +kernel) rfl, xT_Tp, 5, rfl⟩
set_option maxRecDepth 100000 in
theorem kA_Tp_readName : Cond.initialized m_Tp_readName.1.cls ∈ gtbl ∧ Cond.code m_Tp_readName.1 m_Tp_readName.2.1 m_Tp_readName.2.2.1 m_Tp_readName.2.2.2.1 ∈ gtbl ∧ (m_Tp_readName.1.cls ≠ "java/lang/invoke/MethodHandle" ∧ m_Tp_readName.1.cls ≠ "java/lang/invoke/VarHandle" ∧ (parseMethodDescriptor m_Tp_readName.1.desc).map (fun d => d.parameters.length) = some 0) := ⟨gt_in 2 (by decide +kernel) rfl, gt_in 555 (by rfl) rfl, by decide +kernel⟩
set_option maxRecDepth 100000 in
theorem kV_Tp_readName : Cond.instanceMethod m_Tp_readName.1 ∈ gtbl ∧ Cond.selects m_Tp_readName.1.cls m_Tp_readName.1 m_Tp_readName.1 ∈ gtbl ∧ ∃ (T : u_T) (N : Nat), xcl[10]? = some (m_Tp_readName.1.cls, T, N) := ⟨gt_in 553 (by decide +kernel) rfl, gt_in 554 (by decide +kernel) rfl, xT_Tp, 5, rfl⟩
set_option maxRecDepth 100000 in
theorem kA_Tp_readNumber : Cond.initialized m_Tp_readNumber.1.cls ∈ gtbl ∧ Cond.code m_Tp_readNumber.1 m_Tp_readNumber.2.1 m_Tp_readNumber.2.2.1 m_Tp_readNumber.2.2.2.1 ∈ gtbl ∧ (m_Tp_readNumber.1.cls ≠ "java/lang/invoke/MethodHandle" ∧ m_Tp_readNumber.1.cls ≠ "java/lang/invoke/VarHandle" ∧ (parseMethodDescriptor m_Tp_readNumber.1.desc).map (fun d => d.parameters.length) = some 2) := ⟨gt_in 2 (by decide +kernel) rfl, gt_in 658 (by rfl) rfl, by decide +kernel⟩
set_option maxRecDepth 100000 in
theorem kV_Tp_readNumber : Cond.instanceMethod m_Tp_readNumber.1 ∈ gtbl ∧ Cond.selects m_Tp_readNumber.1.cls m_Tp_readNumber.1 m_Tp_readNumber.1 ∈ gtbl ∧ ∃ (T : u_T) (N : Nat), xcl[10]? = some (m_Tp_readNumber.1.cls, T, N) := ⟨gt_in 656 (by decide +kernel) rfl, gt_in 657 (by decide +kernel) rfl, xT_Tp, 5, rfl⟩
set_option maxRecDepth 100000 in
theorem kA_Tp_passWord : Cond.initialized m_Tp_passWord.1.cls ∈ gtbl ∧ Cond.code m_Tp_passWord.1 m_Tp_passWord.2.1 m_Tp_passWord.2.2.1 m_Tp_passWord.2.2.2.1 ∈ gtbl ∧ (m_Tp_passWord.1.cls ≠ "java/lang/invoke/MethodHandle" ∧ m_Tp_passWord.1.cls ≠ "java/lang/invoke/VarHandle" ∧ (parseMethodDescriptor m_Tp_passWord.1.desc).map (fun d => d.parameters.length) = some 1) := ⟨gt_in 2 (by decide +kernel) rfl, gt_in 641 (by rfl) rfl, by decide +kernel⟩
set_option maxRecDepth 100000 in
theorem kV_Tp_passWord : Cond.instanceMethod m_Tp_passWord.1 ∈ gtbl ∧ Cond.selects m_Tp_passWord.1.cls m_Tp_passWord.1 m_Tp_passWord.1 ∈ gtbl ∧ ∃ (T : u_T) (N : Nat), xcl[10]? = some (m_Tp_passWord.1.cls, T, N) := ⟨gt_in 639 (by decide +kernel) rfl, gt_in 640 (by decide +kernel) rfl, xT_Tp, 5, rfl⟩
set_option maxRecDepth 100000 in
theorem kA_Tp_needWord : Cond.initialized m_Tp_needWord.1.cls ∈ gtbl ∧ Cond.code m_Tp_needWord.1 m_Tp_needWord.2.1 m_Tp_needWord.2.2.1 m_Tp_needWord.2.2.2.1 ∈ gtbl ∧ (m_Tp_needWord.1.cls ≠ "java/lang/invoke/MethodHandle" ∧ m_Tp_needWord.1.cls ≠ "java/lang/invoke/VarHandle" ∧ (parseMethodDescriptor m_Tp_needWord.1.desc).map (fun d => d.parameters.length) = some 1) := ⟨gt_in 2 (by decide +kernel) rfl, gt_in 647 (by rfl) rfl, by decide +kernel⟩
set_option maxRecDepth 100000 in
theorem kV_Tp_needWord : Cond.instanceMethod m_Tp_needWord.1 ∈ gtbl ∧ Cond.selects m_Tp_needWord.1.cls m_Tp_needWord.1 m_Tp_needWord.1 ∈ gtbl ∧ ∃ (T : u_T) (N : Nat), xcl[10]? = some (m_Tp_needWord.1.cls, T, N) := ⟨gt_in 645 (by decide +kernel) rfl, gt_in 646 (by decide +kernel) rfl, xT_Tp, 5, rfl⟩
set_option maxRecDepth 100000 in
theorem kA_Tp_needSign : Cond.initialized m_Tp_needSign.1.cls ∈ gtbl ∧ Cond.code m_Tp_needSign.1 m_Tp_needSign.2.1 m_Tp_needSign.2.2.1 m_Tp_needSign.2.2.2.1 ∈ gtbl ∧ (m_Tp_needSign.1.cls ≠ "java/lang/invoke/MethodHandle" ∧ m_Tp_needSign.1.cls ≠ "java/lang/invoke/VarHandle" ∧ (parseMethodDescriptor m_Tp_needSign.1.desc).map (fun d => d.parameters.length) = some 1) := ⟨gt_in 2 (by decide +kernel) rfl, gt_in 666 (by rfl) rfl, by decide +kernel⟩
set_option maxRecDepth 100000 in
theorem kV_Tp_needSign : Cond.instanceMethod m_Tp_needSign.1 ∈ gtbl ∧ Cond.selects m_Tp_needSign.1.cls m_Tp_needSign.1 m_Tp_needSign.1 ∈ gtbl ∧ ∃ (T : u_T) (N : Nat), xcl[10]? = some (m_Tp_needSign.1.cls, T, N) := ⟨gt_in 664 (by decide +kernel) rfl, gt_in 665 (by decide +kernel) rfl, xT_Tp, 5, rfl⟩
set_option maxRecDepth 100000 in
theorem kA_Tp_needEnd : Cond.initialized m_Tp_needEnd.1.cls ∈ gtbl ∧ Cond.code m_Tp_needEnd.1 m_Tp_needEnd.2.1 m_Tp_needEnd.2.2.1 m_Tp_needEnd.2.2.2.1 ∈ gtbl ∧ (m_Tp_needEnd.1.cls ≠ "java/lang/invoke/MethodHandle" ∧ m_Tp_needEnd.1.cls ≠ "java/lang/invoke/VarHandle" ∧ (parseMethodDescriptor m_Tp_needEnd.1.desc).map (fun d => d.parameters.length) = some 0) := ⟨gt_in 2 (by decide +kernel) rfl, gt_in 670 (by rfl) rfl, by decide +kernel⟩
set_option maxRecDepth 100000 in
theorem kV_Tp_needEnd : Cond.instanceMethod m_Tp_needEnd.1 ∈ gtbl ∧ Cond.selects m_Tp_needEnd.1.cls m_Tp_needEnd.1 m_Tp_needEnd.1 ∈ gtbl ∧ ∃ (T : u_T) (N : Nat), xcl[10]? = some (m_Tp_needEnd.1.cls, T, N) := ⟨gt_in 668 (by decide +kernel) rfl, gt_in 669 (by decide +kernel) rfl, xT_Tp, 5, rfl⟩
set_option maxRecDepth 100000 in
theorem kA_Tp_failNext : Cond.initialized m_Tp_failNext.1.cls ∈ gtbl ∧ Cond.code m_Tp_failNext.1 m_Tp_failNext.2.1 m_Tp_failNext.2.2.1 m_Tp_failNext.2.2.2.1 ∈ gtbl ∧ (m_Tp_failNext.1.cls ≠ "java/lang/invoke/MethodHandle" ∧ m_Tp_failNext.1.cls ≠ "java/lang/invoke/VarHandle" ∧ (parseMethodDescriptor m_Tp_failNext.1.desc).map (fun d => d.parameters.length) = some 0) := ⟨gt_in 2 (by decide +kernel) rfl, gt_in 652 (by rfl) rfl, by decide +kernel⟩
set_option maxRecDepth 100000 in
theorem kV_Tp_failNext : Cond.instanceMethod m_Tp_failNext.1 ∈ gtbl ∧ Cond.selects m_Tp_failNext.1.cls m_Tp_failNext.1 m_Tp_failNext.1 ∈ gtbl ∧ ∃ (T : u_T) (N : Nat), xcl[10]? = some (m_Tp_failNext.1.cls, T, N) := ⟨gt_in 650 (by decide +kernel) rfl, gt_in 651 (by decide +kernel) rfl, xT_Tp, 5, rfl⟩
set_option maxRecDepth 100000 in
theorem kA_Tp_fail : Cond.initialized m_Tp_fail.1.cls ∈ gtbl ∧ Cond.code m_Tp_fail.1 m_Tp_fail.2.1 m_Tp_fail.2.2.1 m_Tp_fail.2.2.2.1 ∈ gtbl ∧ (m_Tp_fail.1.cls ≠ "java/lang/invoke/MethodHandle" ∧ m_Tp_fail.1.cls ≠ "java/lang/invoke/VarHandle" ∧ (parseMethodDescriptor m_Tp_fail.1.desc).map (fun d => d.parameters.length) = some 2) := ⟨gt_in 2 (by decide +kernel) rfl, gt_in 635 (by rfl) rfl, by decide +kernel⟩
set_option maxRecDepth 100000 in
theorem kV_Tp_fail : Cond.instanceMethod m_Tp_fail.1 ∈ gtbl ∧ Cond.selects m_Tp_fail.1.cls m_Tp_fail.1 m_Tp_fail.1 ∈ gtbl ∧ ∃ (T : u_T) (N : Nat), xcl[10]? = some (m_Tp_fail.1.cls, T, N) := ⟨gt_in 634 (by decide +kernel) rfl, gt_pv 16 (by decide +kernel) rfl, xT_Tp, 5, rfl⟩
set_option maxRecDepth 100000 in
theorem kA_Tp_lettersAhead : Cond.initialized m_Tp_lettersAhead.1.cls ∈ gtbl ∧ Cond.code m_Tp_lettersAhead.1 m_Tp_lettersAhead.2.1 m_Tp_lettersAhead.2.2.1 m_Tp_lettersAhead.2.2.2.1 ∈ gtbl ∧ (m_Tp_lettersAhead.1.cls ≠ "java/lang/invoke/MethodHandle" ∧ m_Tp_lettersAhead.1.cls ≠ "java/lang/invoke/VarHandle" ∧ (parseMethodDescriptor m_Tp_lettersAhead.1.desc).map (fun d => d.parameters.length) = some 0) := ⟨gt_in 2 (by decide +kernel) rfl, gt_in 563 (by rfl) rfl, by decide +kernel⟩
set_option maxRecDepth 100000 in
theorem kV_Tp_lettersAhead : Cond.instanceMethod m_Tp_lettersAhead.1 ∈ gtbl ∧ Cond.selects m_Tp_lettersAhead.1.cls m_Tp_lettersAhead.1 m_Tp_lettersAhead.1 ∈ gtbl ∧ ∃ (T : u_T) (N : Nat), xcl[10]? = some (m_Tp_lettersAhead.1.cls, T, N) := ⟨gt_in 562 (by decide +kernel) rfl, gt_pv 11 (by decide +kernel) rfl, xT_Tp, 5, rfl⟩
set_option maxRecDepth 100000 in
theorem kA_Tp_digitsAhead : Cond.initialized m_Tp_digitsAhead.1.cls ∈ gtbl ∧ Cond.code m_Tp_digitsAhead.1 m_Tp_digitsAhead.2.1 m_Tp_digitsAhead.2.2.1 m_Tp_digitsAhead.2.2.2.1 ∈ gtbl ∧ (m_Tp_digitsAhead.1.cls ≠ "java/lang/invoke/MethodHandle" ∧ m_Tp_digitsAhead.1.cls ≠ "java/lang/invoke/VarHandle" ∧ (parseMethodDescriptor m_Tp_digitsAhead.1.desc).map (fun d => d.parameters.length) = some 0) := ⟨gt_in 2 (by decide +kernel) rfl, gt_in 662 (by rfl) rfl, by decide +kernel⟩
set_option maxRecDepth 100000 in
theorem kV_Tp_digitsAhead : Cond.instanceMethod m_Tp_digitsAhead.1 ∈ gtbl ∧ Cond.selects m_Tp_digitsAhead.1.cls m_Tp_digitsAhead.1 m_Tp_digitsAhead.1 ∈ gtbl ∧ ∃ (T : u_T) (N : Nat), xcl[10]? = some (m_Tp_digitsAhead.1.cls, T, N) := ⟨gt_in 661 (by decide +kernel) rfl, gt_pv 17 (by decide +kernel) rfl, xT_Tp, 5, rfl⟩
set_option maxRecDepth 100000 in
theorem kA_Tp_skipBlanks : Cond.initialized m_Tp_skipBlanks.1.cls ∈ gtbl ∧ Cond.code m_Tp_skipBlanks.1 m_Tp_skipBlanks.2.1 m_Tp_skipBlanks.2.2.1 m_Tp_skipBlanks.2.2.2.1 ∈ gtbl ∧ (m_Tp_skipBlanks.1.cls ≠ "java/lang/invoke/MethodHandle" ∧ m_Tp_skipBlanks.1.cls ≠ "java/lang/invoke/VarHandle" ∧ (parseMethodDescriptor m_Tp_skipBlanks.1.desc).map (fun d => d.parameters.length) = some 0) := ⟨gt_in 2 (by decide +kernel) rfl, gt_in 567 (by rfl) rfl, by decide +kernel⟩
set_option maxRecDepth 100000 in
theorem kV_Tp_skipBlanks : Cond.instanceMethod m_Tp_skipBlanks.1 ∈ gtbl ∧ Cond.selects m_Tp_skipBlanks.1.cls m_Tp_skipBlanks.1 m_Tp_skipBlanks.1 ∈ gtbl ∧ ∃ (T : u_T) (N : Nat), xcl[10]? = some (m_Tp_skipBlanks.1.cls, T, N) := ⟨gt_in 566 (by decide +kernel) rfl, gt_pv 12 (by decide +kernel) rfl, xT_Tp, 5, rfl⟩
set_option maxRecDepth 100000 in
theorem kA_Tp_byteAt : Cond.initialized m_Tp_byteAt.1.cls ∈ gtbl ∧ Cond.code m_Tp_byteAt.1 m_Tp_byteAt.2.1 m_Tp_byteAt.2.2.1 m_Tp_byteAt.2.2.2.1 ∈ gtbl ∧ (m_Tp_byteAt.1.cls ≠ "java/lang/invoke/MethodHandle" ∧ m_Tp_byteAt.1.cls ≠ "java/lang/invoke/VarHandle" ∧ (parseMethodDescriptor m_Tp_byteAt.1.desc).map (fun d => d.parameters.length) = some 1) := ⟨gt_in 2 (by decide +kernel) rfl, gt_in 571 (by rfl) rfl, by decide +kernel⟩
set_option maxRecDepth 100000 in
theorem kV_Tp_byteAt : Cond.instanceMethod m_Tp_byteAt.1 ∈ gtbl ∧ Cond.selects m_Tp_byteAt.1.cls m_Tp_byteAt.1 m_Tp_byteAt.1 ∈ gtbl ∧ ∃ (T : u_T) (N : Nat), xcl[10]? = some (m_Tp_byteAt.1.cls, T, N) := ⟨gt_in 570 (by decide +kernel) rfl, gt_pv 13 (by decide +kernel) rfl, xT_Tp, 5, rfl⟩
set_option maxRecDepth 100000 in
theorem kA_Tp_isFactWord : Cond.initialized m_Tp_isFactWord.1.cls ∈ gtbl ∧ Cond.code m_Tp_isFactWord.1 m_Tp_isFactWord.2.1 m_Tp_isFactWord.2.2.1 m_Tp_isFactWord.2.2.2.1 ∈ gtbl ∧ (m_Tp_isFactWord.1.cls ≠ "java/lang/invoke/MethodHandle" ∧ m_Tp_isFactWord.1.cls ≠ "java/lang/invoke/VarHandle" ∧ (parseMethodDescriptor m_Tp_isFactWord.1.desc).map (fun d => d.parameters.length) = some 1) := ⟨gt_in 2 (by decide +kernel) rfl, gt_in 575 (by rfl) rfl, by decide +kernel⟩
set_option maxRecDepth 100000 in
theorem kV_Tp_isFactWord : Cond.instanceMethod m_Tp_isFactWord.1 ∈ gtbl ∧ Cond.selects m_Tp_isFactWord.1.cls m_Tp_isFactWord.1 m_Tp_isFactWord.1 ∈ gtbl ∧ ∃ (T : u_T) (N : Nat), xcl[10]? = some (m_Tp_isFactWord.1.cls, T, N) := ⟨gt_in 574 (by decide +kernel) rfl, gt_pv 14 (by decide +kernel) rfl, xT_Tp, 5, rfl⟩
set_option maxRecDepth 100000 in
theorem kA_Tp_isWord : Cond.initialized m_Tp_isWord.1.cls ∈ gtbl ∧ Cond.code m_Tp_isWord.1 m_Tp_isWord.2.1 m_Tp_isWord.2.2.1 m_Tp_isWord.2.2.2.1 ∈ gtbl ∧ (m_Tp_isWord.1.cls ≠ "java/lang/invoke/MethodHandle" ∧ m_Tp_isWord.1.cls ≠ "java/lang/invoke/VarHandle" ∧ (parseMethodDescriptor m_Tp_isWord.1.desc).map (fun d => d.parameters.length) = some 2) := ⟨gt_in 2 (by decide +kernel) rfl, gt_in 580 (by rfl) rfl, by decide +kernel⟩
set_option maxRecDepth 100000 in
theorem kV_Tp_isWord : Cond.instanceMethod m_Tp_isWord.1 ∈ gtbl ∧ Cond.selects m_Tp_isWord.1.cls m_Tp_isWord.1 m_Tp_isWord.1 ∈ gtbl ∧ ∃ (T : u_T) (N : Nat), xcl[10]? = some (m_Tp_isWord.1.cls, T, N) := ⟨gt_in 579 (by decide +kernel) rfl, gt_pv 15 (by decide +kernel) rfl, xT_Tp, 5, rfl⟩
set_option maxRecDepth 100000 in
theorem kA_TH_init : Cond.initialized m_TH_init.1.cls ∈ gtbl ∧ Cond.code m_TH_init.1 m_TH_init.2.1 m_TH_init.2.2.1 m_TH_init.2.2.2.1 ∈ gtbl ∧ (m_TH_init.1.cls ≠ "java/lang/invoke/MethodHandle" ∧ m_TH_init.1.cls ≠ "java/lang/invoke/VarHandle" ∧ (parseMethodDescriptor m_TH_init.1.desc).map (fun d => d.parameters.length) = some 0) := ⟨gt_in 1 (by decide +kernel) rfl, gt_in 24 (by rfl) rfl, by decide +kernel⟩
set_option maxRecDepth 100000 in
theorem kI_TH_init : Cond.instanceMethod m_TH_init.1 ∈ gtbl ∧ m_TH_init.1.name = "<init>" ∧ m_TH_init.2.2.2.1 = none := ⟨gt_in 23 (by decide +kernel) rfl, rfl, rfl⟩
set_option maxRecDepth 100000 in
theorem kA_TH_feed : Cond.initialized m_TH_feed.1.cls ∈ gtbl ∧ Cond.code m_TH_feed.1 m_TH_feed.2.1 m_TH_feed.2.2.1 m_TH_feed.2.2.2.1 ∈ gtbl ∧ (m_TH_feed.1.cls ≠ "java/lang/invoke/MethodHandle" ∧ m_TH_feed.1.cls ≠ "java/lang/invoke/VarHandle" ∧ (parseMethodDescriptor m_TH_feed.1.desc).map (fun d => d.parameters.length) = some 5) := ⟨gt_in 1 (by decide +kernel) rfl, gt_in 356 (by rfl) rfl, by decide +kernel⟩
set_option maxRecDepth 100000 in
theorem kV_TH_feed : Cond.instanceMethod m_TH_feed.1 ∈ gtbl ∧ Cond.selects m_TH_feed.1.cls m_TH_feed.1 m_TH_feed.1 ∈ gtbl ∧ ∃ (T : u_T) (N : Nat), xcl[11]? = some (m_TH_feed.1.cls, T, N) := ⟨gt_in 354 (by decide +kernel) rfl, gt_in 355 (by decide +kernel) rfl, xT_TH, 8, rfl⟩
set_option maxRecDepth 100000 in
theorem kA_TH_end : Cond.initialized m_TH_end.1.cls ∈ gtbl ∧ Cond.code m_TH_end.1 m_TH_end.2.1 m_TH_end.2.2.1 m_TH_end.2.2.2.1 ∈ gtbl ∧ (m_TH_end.1.cls ≠ "java/lang/invoke/MethodHandle" ∧ m_TH_end.1.cls ≠ "java/lang/invoke/VarHandle" ∧ (parseMethodDescriptor m_TH_end.1.desc).map (fun d => d.parameters.length) = some 1) := ⟨gt_in 1 (by decide +kernel) rfl, gt_in 368 (by rfl) rfl, by decide +kernel⟩
set_option maxRecDepth 100000 in
theorem kV_TH_end : Cond.instanceMethod m_TH_end.1 ∈ gtbl ∧ Cond.selects m_TH_end.1.cls m_TH_end.1 m_TH_end.1 ∈ gtbl ∧ ∃ (T : u_T) (N : Nat), xcl[11]? = some (m_TH_end.1.cls, T, N) := ⟨gt_in 366 (by decide +kernel) rfl, gt_in 367 (by decide +kernel) rfl, xT_TH, 8, rfl⟩
set_option maxRecDepth 100000 in
theorem kA_TH_paragraph : Cond.initialized m_TH_paragraph.1.cls ∈ gtbl ∧ Cond.code m_TH_paragraph.1 m_TH_paragraph.2.1 m_TH_paragraph.2.2.1 m_TH_paragraph.2.2.2.1 ∈ gtbl ∧ (m_TH_paragraph.1.cls ≠ "java/lang/invoke/MethodHandle" ∧ m_TH_paragraph.1.cls ≠ "java/lang/invoke/VarHandle" ∧ (parseMethodDescriptor m_TH_paragraph.1.desc).map (fun d => d.parameters.length) = some 1) := ⟨gt_in 1 (by decide +kernel) rfl, gt_in 376 (by rfl) rfl, by decide +kernel⟩
set_option maxRecDepth 100000 in
theorem kV_TH_paragraph : Cond.instanceMethod m_TH_paragraph.1 ∈ gtbl ∧ Cond.selects m_TH_paragraph.1.cls m_TH_paragraph.1 m_TH_paragraph.1 ∈ gtbl ∧ ∃ (T : u_T) (N : Nat), xcl[11]? = some (m_TH_paragraph.1.cls, T, N) := ⟨gt_in 374 (by decide +kernel) rfl, gt_in 375 (by decide +kernel) rfl, xT_TH, 8, rfl⟩
set_option maxRecDepth 100000 in
theorem kA_TH_word : Cond.initialized m_TH_word.1.cls ∈ gtbl ∧ Cond.code m_TH_word.1 m_TH_word.2.1 m_TH_word.2.2.1 m_TH_word.2.2.2.1 ∈ gtbl ∧ (m_TH_word.1.cls ≠ "java/lang/invoke/MethodHandle" ∧ m_TH_word.1.cls ≠ "java/lang/invoke/VarHandle" ∧ (parseMethodDescriptor m_TH_word.1.desc).map (fun d => d.parameters.length) = some 1) := ⟨gt_in 1 (by decide +kernel) rfl, gt_in 385 (by rfl) rfl, by decide +kernel⟩
set_option maxRecDepth 100000 in
theorem kV_TH_word : Cond.instanceMethod m_TH_word.1 ∈ gtbl ∧ Cond.selects m_TH_word.1.cls m_TH_word.1 m_TH_word.1 ∈ gtbl ∧ ∃ (T : u_T) (N : Nat), xcl[11]? = some (m_TH_word.1.cls, T, N) := ⟨gt_in 383 (by decide +kernel) rfl, gt_in 384 (by decide +kernel) rfl, xT_TH, 8, rfl⟩
set_option maxRecDepth 100000 in
theorem kA_TH_clear : Cond.initialized m_TH_clear.1.cls ∈ gtbl ∧ Cond.code m_TH_clear.1 m_TH_clear.2.1 m_TH_clear.2.2.1 m_TH_clear.2.2.2.1 ∈ gtbl ∧ (m_TH_clear.1.cls ≠ "java/lang/invoke/MethodHandle" ∧ m_TH_clear.1.cls ≠ "java/lang/invoke/VarHandle" ∧ (parseMethodDescriptor m_TH_clear.1.desc).map (fun d => d.parameters.length) = some 0) := ⟨gt_in 1 (by decide +kernel) rfl, gt_in 393 (by rfl) rfl, by decide +kernel⟩
set_option maxRecDepth 100000 in
theorem kV_TH_clear : Cond.instanceMethod m_TH_clear.1 ∈ gtbl ∧ Cond.selects m_TH_clear.1.cls m_TH_clear.1 m_TH_clear.1 ∈ gtbl ∧ ∃ (T : u_T) (N : Nat), xcl[11]? = some (m_TH_clear.1.cls, T, N) := ⟨gt_in 391 (by decide +kernel) rfl, gt_in 392 (by decide +kernel) rfl, xT_TH, 8, rfl⟩
set_option maxRecDepth 100000 in
theorem kA_TH_page : Cond.initialized m_TH_page.1.cls ∈ gtbl ∧ Cond.code m_TH_page.1 m_TH_page.2.1 m_TH_page.2.2.1 m_TH_page.2.2.2.1 ∈ gtbl ∧ (m_TH_page.1.cls ≠ "java/lang/invoke/MethodHandle" ∧ m_TH_page.1.cls ≠ "java/lang/invoke/VarHandle" ∧ (parseMethodDescriptor m_TH_page.1.desc).map (fun d => d.parameters.length) = some 4) := ⟨gt_in 1 (by decide +kernel) rfl, gt_in 401 (by rfl) rfl, by decide +kernel⟩
set_option maxRecDepth 100000 in
theorem kV_TH_page : Cond.instanceMethod m_TH_page.1 ∈ gtbl ∧ Cond.selects m_TH_page.1.cls m_TH_page.1 m_TH_page.1 ∈ gtbl ∧ ∃ (T : u_T) (N : Nat), xcl[11]? = some (m_TH_page.1.cls, T, N) := ⟨gt_in 399 (by decide +kernel) rfl, gt_in 400 (by decide +kernel) rfl, xT_TH, 8, rfl⟩
set_option maxRecDepth 100000 in
theorem kA_TH_lines : Cond.initialized m_TH_lines.1.cls ∈ gtbl ∧ Cond.code m_TH_lines.1 m_TH_lines.2.1 m_TH_lines.2.2.1 m_TH_lines.2.2.2.1 ∈ gtbl ∧ (m_TH_lines.1.cls ≠ "java/lang/invoke/MethodHandle" ∧ m_TH_lines.1.cls ≠ "java/lang/invoke/VarHandle" ∧ (parseMethodDescriptor m_TH_lines.1.desc).map (fun d => d.parameters.length) = some 2) := ⟨gt_in 1 (by decide +kernel) rfl, gt_in 413 (by rfl) rfl, by decide +kernel⟩
set_option maxRecDepth 100000 in
theorem kV_TH_lines : Cond.instanceMethod m_TH_lines.1 ∈ gtbl ∧ Cond.selects m_TH_lines.1.cls m_TH_lines.1 m_TH_lines.1 ∈ gtbl ∧ ∃ (T : u_T) (N : Nat), xcl[11]? = some (m_TH_lines.1.cls, T, N) := ⟨gt_in 411 (by decide +kernel) rfl, gt_in 412 (by decide +kernel) rfl, xT_TH, 8, rfl⟩
set_option maxRecDepth 100000 in
theorem kA_TH_fill : Cond.initialized m_TH_fill.1.cls ∈ gtbl ∧ Cond.code m_TH_fill.1 m_TH_fill.2.1 m_TH_fill.2.2.1 m_TH_fill.2.2.2.1 ∈ gtbl ∧ (m_TH_fill.1.cls ≠ "java/lang/invoke/MethodHandle" ∧ m_TH_fill.1.cls ≠ "java/lang/invoke/VarHandle" ∧ (parseMethodDescriptor m_TH_fill.1.desc).map (fun d => d.parameters.length) = some 1) := ⟨gt_in 1 (by decide +kernel) rfl, gt_in 454 (by rfl) rfl, by decide +kernel⟩
set_option maxRecDepth 100000 in
theorem kV_TH_fill : Cond.instanceMethod m_TH_fill.1 ∈ gtbl ∧ Cond.selects m_TH_fill.1.cls m_TH_fill.1 m_TH_fill.1 ∈ gtbl ∧ ∃ (T : u_T) (N : Nat), xcl[11]? = some (m_TH_fill.1.cls, T, N) := ⟨gt_in 452 (by decide +kernel) rfl, gt_in 453 (by decide +kernel) rfl, xT_TH, 8, rfl⟩
set_option maxRecDepth 100000 in
theorem kA_TH_set : Cond.initialized m_TH_set.1.cls ∈ gtbl ∧ Cond.code m_TH_set.1 m_TH_set.2.1 m_TH_set.2.2.1 m_TH_set.2.2.2.1 ∈ gtbl ∧ (m_TH_set.1.cls ≠ "java/lang/invoke/MethodHandle" ∧ m_TH_set.1.cls ≠ "java/lang/invoke/VarHandle" ∧ (parseMethodDescriptor m_TH_set.1.desc).map (fun d => d.parameters.length) = some 2) := ⟨gt_in 1 (by decide +kernel) rfl, gt_in 523 (by rfl) rfl, by decide +kernel⟩
set_option maxRecDepth 100000 in
theorem kV_TH_set : Cond.instanceMethod m_TH_set.1 ∈ gtbl ∧ Cond.selects m_TH_set.1.cls m_TH_set.1 m_TH_set.1 ∈ gtbl ∧ ∃ (T : u_T) (N : Nat), xcl[11]? = some (m_TH_set.1.cls, T, N) := ⟨gt_in 521 (by decide +kernel) rfl, gt_in 522 (by decide +kernel) rfl, xT_TH, 8, rfl⟩
set_option maxRecDepth 100000 in
theorem kA_TH_line : Cond.initialized m_TH_line.1.cls ∈ gtbl ∧ Cond.code m_TH_line.1 m_TH_line.2.1 m_TH_line.2.2.1 m_TH_line.2.2.2.1 ∈ gtbl ∧ (m_TH_line.1.cls ≠ "java/lang/invoke/MethodHandle" ∧ m_TH_line.1.cls ≠ "java/lang/invoke/VarHandle" ∧ (parseMethodDescriptor m_TH_line.1.desc).map (fun d => d.parameters.length) = some 2) := ⟨gt_in 1 (by decide +kernel) rfl, gt_in 531 (by rfl) rfl, by decide +kernel⟩
set_option maxRecDepth 100000 in
theorem kV_TH_line : Cond.instanceMethod m_TH_line.1 ∈ gtbl ∧ Cond.selects m_TH_line.1.cls m_TH_line.1 m_TH_line.1 ∈ gtbl ∧ ∃ (T : u_T) (N : Nat), xcl[11]? = some (m_TH_line.1.cls, T, N) := ⟨gt_in 529 (by decide +kernel) rfl, gt_in 530 (by decide +kernel) rfl, xT_TH, 8, rfl⟩
set_option maxRecDepth 100000 in
theorem kA_TH_fact : Cond.initialized m_TH_fact.1.cls ∈ gtbl ∧ Cond.code m_TH_fact.1 m_TH_fact.2.1 m_TH_fact.2.2.1 m_TH_fact.2.2.2.1 ∈ gtbl ∧ (m_TH_fact.1.cls ≠ "java/lang/invoke/MethodHandle" ∧ m_TH_fact.1.cls ≠ "java/lang/invoke/VarHandle" ∧ (parseMethodDescriptor m_TH_fact.1.desc).map (fun d => d.parameters.length) = some 2) := ⟨gt_in 1 (by decide +kernel) rfl, gt_in 539 (by rfl) rfl, by decide +kernel⟩
set_option maxRecDepth 100000 in
theorem kV_TH_fact : Cond.instanceMethod m_TH_fact.1 ∈ gtbl ∧ Cond.selects m_TH_fact.1.cls m_TH_fact.1 m_TH_fact.1 ∈ gtbl ∧ ∃ (T : u_T) (N : Nat), xcl[11]? = some (m_TH_fact.1.cls, T, N) := ⟨gt_in 537 (by decide +kernel) rfl, gt_in 538 (by decide +kernel) rfl, xT_TH, 8, rfl⟩
set_option maxRecDepth 100000 in
theorem kA_TH_fault : Cond.initialized m_TH_fault.1.cls ∈ gtbl ∧ Cond.code m_TH_fault.1 m_TH_fault.2.1 m_TH_fault.2.2.1 m_TH_fault.2.2.2.1 ∈ gtbl ∧ (m_TH_fault.1.cls ≠ "java/lang/invoke/MethodHandle" ∧ m_TH_fault.1.cls ≠ "java/lang/invoke/VarHandle" ∧ (parseMethodDescriptor m_TH_fault.1.desc).map (fun d => d.parameters.length) = some 1) := ⟨gt_in 1 (by decide +kernel) rfl, gt_in 691 (by rfl) rfl, by decide +kernel⟩
set_option maxRecDepth 100000 in
theorem kV_TH_fault : Cond.instanceMethod m_TH_fault.1 ∈ gtbl ∧ Cond.selects m_TH_fault.1.cls m_TH_fault.1 m_TH_fault.1 ∈ gtbl ∧ ∃ (T : u_T) (N : Nat), xcl[11]? = some (m_TH_fault.1.cls, T, N) := ⟨gt_in 689 (by decide +kernel) rfl, gt_in 690 (by decide +kernel) rfl, xT_TH, 8, rfl⟩
set_option maxRecDepth 100000 in
theorem kA_TH_strike : Cond.initialized m_TH_strike.1.cls ∈ gtbl ∧ Cond.code m_TH_strike.1 m_TH_strike.2.1 m_TH_strike.2.2.1 m_TH_strike.2.2.2.1 ∈ gtbl ∧ (m_TH_strike.1.cls ≠ "java/lang/invoke/MethodHandle" ∧ m_TH_strike.1.cls ≠ "java/lang/invoke/VarHandle" ∧ (parseMethodDescriptor m_TH_strike.1.desc).map (fun d => d.parameters.length) = some 2) := ⟨gt_in 1 (by decide +kernel) rfl, gt_in 695 (by rfl) rfl, by decide +kernel⟩
set_option maxRecDepth 100000 in
theorem kV_TH_strike : Cond.instanceMethod m_TH_strike.1 ∈ gtbl ∧ Cond.selects m_TH_strike.1.cls m_TH_strike.1 m_TH_strike.1 ∈ gtbl ∧ ∃ (T : u_T) (N : Nat), xcl[11]? = some (m_TH_strike.1.cls, T, N) := ⟨gt_in 693 (by decide +kernel) rfl, gt_in 694 (by decide +kernel) rfl, xT_TH, 8, rfl⟩
set_option maxRecDepth 100000 in
theorem kA_TH_quarrel : Cond.initialized m_TH_quarrel.1.cls ∈ gtbl ∧ Cond.code m_TH_quarrel.1 m_TH_quarrel.2.1 m_TH_quarrel.2.2.1 m_TH_quarrel.2.2.2.1 ∈ gtbl ∧ (m_TH_quarrel.1.cls ≠ "java/lang/invoke/MethodHandle" ∧ m_TH_quarrel.1.cls ≠ "java/lang/invoke/VarHandle" ∧ (parseMethodDescriptor m_TH_quarrel.1.desc).map (fun d => d.parameters.length) = some 2) := ⟨gt_in 1 (by decide +kernel) rfl, gt_in 708 (by rfl) rfl, by decide +kernel⟩
set_option maxRecDepth 100000 in
theorem kV_TH_quarrel : Cond.instanceMethod m_TH_quarrel.1 ∈ gtbl ∧ Cond.selects m_TH_quarrel.1.cls m_TH_quarrel.1 m_TH_quarrel.1 ∈ gtbl ∧ ∃ (T : u_T) (N : Nat), xcl[11]? = some (m_TH_quarrel.1.cls, T, N) := ⟨gt_in 706 (by decide +kernel) rfl, gt_in 707 (by decide +kernel) rfl, xT_TH, 8, rfl⟩
set_option maxRecDepth 100000 in
theorem kA_TH_quarrels : Cond.initialized m_TH_quarrels.1.cls ∈ gtbl ∧ Cond.code m_TH_quarrels.1 m_TH_quarrels.2.1 m_TH_quarrels.2.2.1 m_TH_quarrels.2.2.2.1 ∈ gtbl ∧ (m_TH_quarrels.1.cls ≠ "java/lang/invoke/MethodHandle" ∧ m_TH_quarrels.1.cls ≠ "java/lang/invoke/VarHandle" ∧ (parseMethodDescriptor m_TH_quarrels.1.desc).map (fun d => d.parameters.length) = some 1) := ⟨gt_in 1 (by decide +kernel) rfl, gt_in 724 (by rfl) rfl, by decide +kernel⟩
set_option maxRecDepth 100000 in
theorem kV_TH_quarrels : Cond.instanceMethod m_TH_quarrels.1 ∈ gtbl ∧ Cond.selects m_TH_quarrels.1.cls m_TH_quarrels.1 m_TH_quarrels.1 ∈ gtbl ∧ ∃ (T : u_T) (N : Nat), xcl[11]? = some (m_TH_quarrels.1.cls, T, N) := ⟨gt_in 722 (by decide +kernel) rfl, gt_in 723 (by decide +kernel) rfl, xT_TH, 8, rfl⟩
set_option maxRecDepth 100000 in
theorem kA_TH_found : Cond.initialized m_TH_found.1.cls ∈ gtbl ∧ Cond.code m_TH_found.1 m_TH_found.2.1 m_TH_found.2.2.1 m_TH_found.2.2.2.1 ∈ gtbl ∧ (m_TH_found.1.cls ≠ "java/lang/invoke/MethodHandle" ∧ m_TH_found.1.cls ≠ "java/lang/invoke/VarHandle" ∧ (parseMethodDescriptor m_TH_found.1.desc).map (fun d => d.parameters.length) = some 2) := ⟨gt_in 1 (by decide +kernel) rfl, gt_in 750 (by rfl) rfl, by decide +kernel⟩
set_option maxRecDepth 100000 in
theorem kV_TH_found : Cond.instanceMethod m_TH_found.1 ∈ gtbl ∧ Cond.selects m_TH_found.1.cls m_TH_found.1 m_TH_found.1 ∈ gtbl ∧ ∃ (T : u_T) (N : Nat), xcl[11]? = some (m_TH_found.1.cls, T, N) := ⟨gt_in 748 (by decide +kernel) rfl, gt_in 749 (by decide +kernel) rfl, xT_TH, 8, rfl⟩
set_option maxRecDepth 100000 in
theorem kA_TH_mend : Cond.initialized m_TH_mend.1.cls ∈ gtbl ∧ Cond.code m_TH_mend.1 m_TH_mend.2.1 m_TH_mend.2.2.1 m_TH_mend.2.2.2.1 ∈ gtbl ∧ (m_TH_mend.1.cls ≠ "java/lang/invoke/MethodHandle" ∧ m_TH_mend.1.cls ≠ "java/lang/invoke/VarHandle" ∧ (parseMethodDescriptor m_TH_mend.1.desc).map (fun d => d.parameters.length) = some 1) := ⟨gt_in 1 (by decide +kernel) rfl, gt_in 758 (by rfl) rfl, by decide +kernel⟩
set_option maxRecDepth 100000 in
theorem kV_TH_mend : Cond.instanceMethod m_TH_mend.1 ∈ gtbl ∧ Cond.selects m_TH_mend.1.cls m_TH_mend.1 m_TH_mend.1 ∈ gtbl ∧ ∃ (T : u_T) (N : Nat), xcl[11]? = some (m_TH_mend.1.cls, T, N) := ⟨gt_in 756 (by decide +kernel) rfl, gt_in 757 (by decide +kernel) rfl, xT_TH, 8, rfl⟩
set_option maxRecDepth 100000 in
theorem kA_TH_agree : Cond.initialized m_TH_agree.1.cls ∈ gtbl ∧ Cond.code m_TH_agree.1 m_TH_agree.2.1 m_TH_agree.2.2.1 m_TH_agree.2.2.2.1 ∈ gtbl ∧ (m_TH_agree.1.cls ≠ "java/lang/invoke/MethodHandle" ∧ m_TH_agree.1.cls ≠ "java/lang/invoke/VarHandle" ∧ (parseMethodDescriptor m_TH_agree.1.desc).map (fun d => d.parameters.length) = some 1) := ⟨gt_in 1 (by decide +kernel) rfl, gt_in 766 (by rfl) rfl, by decide +kernel⟩
set_option maxRecDepth 100000 in
theorem kV_TH_agree : Cond.instanceMethod m_TH_agree.1 ∈ gtbl ∧ Cond.selects m_TH_agree.1.cls m_TH_agree.1 m_TH_agree.1 ∈ gtbl ∧ ∃ (T : u_T) (N : Nat), xcl[11]? = some (m_TH_agree.1.cls, T, N) := ⟨gt_in 764 (by decide +kernel) rfl, gt_in 765 (by decide +kernel) rfl, xT_TH, 8, rfl⟩
set_option maxRecDepth 100000 in
theorem kA_TH_agreed : Cond.initialized m_TH_agreed.1.cls ∈ gtbl ∧ Cond.code m_TH_agreed.1 m_TH_agreed.2.1 m_TH_agreed.2.2.1 m_TH_agreed.2.2.2.1 ∈ gtbl ∧ (m_TH_agreed.1.cls ≠ "java/lang/invoke/MethodHandle" ∧ m_TH_agreed.1.cls ≠ "java/lang/invoke/VarHandle" ∧ (parseMethodDescriptor m_TH_agreed.1.desc).map (fun d => d.parameters.length) = some 1) := ⟨gt_in 1 (by decide +kernel) rfl, gt_in 796 (by rfl) rfl, by decide +kernel⟩
set_option maxRecDepth 100000 in
theorem kV_TH_agreed : Cond.instanceMethod m_TH_agreed.1 ∈ gtbl ∧ Cond.selects m_TH_agreed.1.cls m_TH_agreed.1 m_TH_agreed.1 ∈ gtbl ∧ ∃ (T : u_T) (N : Nat), xcl[11]? = some (m_TH_agreed.1.cls, T, N) := ⟨gt_in 794 (by decide +kernel) rfl, gt_in 795 (by decide +kernel) rfl, xT_TH, 8, rfl⟩
set_option maxRecDepth 100000 in
theorem kA_TH_share : Cond.initialized m_TH_share.1.cls ∈ gtbl ∧ Cond.code m_TH_share.1 m_TH_share.2.1 m_TH_share.2.2.1 m_TH_share.2.2.2.1 ∈ gtbl ∧ (m_TH_share.1.cls ≠ "java/lang/invoke/MethodHandle" ∧ m_TH_share.1.cls ≠ "java/lang/invoke/VarHandle" ∧ (parseMethodDescriptor m_TH_share.1.desc).map (fun d => d.parameters.length) = some 1) := ⟨gt_in 1 (by decide +kernel) rfl, gt_in 808 (by rfl) rfl, by decide +kernel⟩
set_option maxRecDepth 100000 in
theorem kV_TH_share : Cond.instanceMethod m_TH_share.1 ∈ gtbl ∧ Cond.selects m_TH_share.1.cls m_TH_share.1 m_TH_share.1 ∈ gtbl ∧ ∃ (T : u_T) (N : Nat), xcl[11]? = some (m_TH_share.1.cls, T, N) := ⟨gt_in 806 (by decide +kernel) rfl, gt_in 807 (by decide +kernel) rfl, xT_TH, 8, rfl⟩
set_option maxRecDepth 100000 in
theorem kA_TH_start : Cond.initialized m_TH_start.1.cls ∈ gtbl ∧ Cond.code m_TH_start.1 m_TH_start.2.1 m_TH_start.2.2.1 m_TH_start.2.2.2.1 ∈ gtbl ∧ (m_TH_start.1.cls ≠ "java/lang/invoke/MethodHandle" ∧ m_TH_start.1.cls ≠ "java/lang/invoke/VarHandle" ∧ (parseMethodDescriptor m_TH_start.1.desc).map (fun d => d.parameters.length) = some 1) := ⟨gt_in 1 (by decide +kernel) rfl, gt_in 854 (by rfl) rfl, by decide +kernel⟩
set_option maxRecDepth 100000 in
theorem kV_TH_start : Cond.instanceMethod m_TH_start.1 ∈ gtbl ∧ Cond.selects m_TH_start.1.cls m_TH_start.1 m_TH_start.1 ∈ gtbl ∧ ∃ (T : u_T) (N : Nat), xcl[11]? = some (m_TH_start.1.cls, T, N) := ⟨gt_in 852 (by decide +kernel) rfl, gt_in 853 (by decide +kernel) rfl, xT_TH, 8, rfl⟩
set_option maxRecDepth 100000 in
theorem kA_TH_came : Cond.initialized m_TH_came.1.cls ∈ gtbl ∧ Cond.code m_TH_came.1 m_TH_came.2.1 m_TH_came.2.2.1 m_TH_came.2.2.2.1 ∈ gtbl ∧ (m_TH_came.1.cls ≠ "java/lang/invoke/MethodHandle" ∧ m_TH_came.1.cls ≠ "java/lang/invoke/VarHandle" ∧ (parseMethodDescriptor m_TH_came.1.desc).map (fun d => d.parameters.length) = some 2) := ⟨gt_in 1 (by decide +kernel) rfl, gt_in 862 (by rfl) rfl, by decide +kernel⟩
set_option maxRecDepth 100000 in
theorem kV_TH_came : Cond.instanceMethod m_TH_came.1 ∈ gtbl ∧ Cond.selects m_TH_came.1.cls m_TH_came.1 m_TH_came.1 ∈ gtbl ∧ ∃ (T : u_T) (N : Nat), xcl[11]? = some (m_TH_came.1.cls, T, N) := ⟨gt_in 860 (by decide +kernel) rfl, gt_in 861 (by decide +kernel) rfl, xT_TH, 8, rfl⟩
set_option maxRecDepth 100000 in
theorem kA_TH_due : Cond.initialized m_TH_due.1.cls ∈ gtbl ∧ Cond.code m_TH_due.1 m_TH_due.2.1 m_TH_due.2.2.1 m_TH_due.2.2.2.1 ∈ gtbl ∧ (m_TH_due.1.cls ≠ "java/lang/invoke/MethodHandle" ∧ m_TH_due.1.cls ≠ "java/lang/invoke/VarHandle" ∧ (parseMethodDescriptor m_TH_due.1.desc).map (fun d => d.parameters.length) = some 1) := ⟨gt_in 1 (by decide +kernel) rfl, gt_in 871 (by rfl) rfl, by decide +kernel⟩
set_option maxRecDepth 100000 in
theorem kV_TH_due : Cond.instanceMethod m_TH_due.1 ∈ gtbl ∧ Cond.selects m_TH_due.1.cls m_TH_due.1 m_TH_due.1 ∈ gtbl ∧ ∃ (T : u_T) (N : Nat), xcl[11]? = some (m_TH_due.1.cls, T, N) := ⟨gt_in 869 (by decide +kernel) rfl, gt_in 870 (by decide +kernel) rfl, xT_TH, 8, rfl⟩
set_option maxRecDepth 100000 in
theorem kA_TH_prices : Cond.initialized m_TH_prices.1.cls ∈ gtbl ∧ Cond.code m_TH_prices.1 m_TH_prices.2.1 m_TH_prices.2.2.1 m_TH_prices.2.2.2.1 ∈ gtbl ∧ (m_TH_prices.1.cls ≠ "java/lang/invoke/MethodHandle" ∧ m_TH_prices.1.cls ≠ "java/lang/invoke/VarHandle" ∧ (parseMethodDescriptor m_TH_prices.1.desc).map (fun d => d.parameters.length) = some 4) := ⟨gt_in 1 (by decide +kernel) rfl, gt_in 876 (by rfl) rfl, by decide +kernel⟩
set_option maxRecDepth 100000 in
theorem kV_TH_prices : Cond.instanceMethod m_TH_prices.1 ∈ gtbl ∧ Cond.selects m_TH_prices.1.cls m_TH_prices.1 m_TH_prices.1 ∈ gtbl ∧ ∃ (T : u_T) (N : Nat), xcl[11]? = some (m_TH_prices.1.cls, T, N) := ⟨gt_in 874 (by decide +kernel) rfl, gt_in 875 (by decide +kernel) rfl, xT_TH, 8, rfl⟩
set_option maxRecDepth 100000 in
theorem kA_TH_keep : Cond.initialized m_TH_keep.1.cls ∈ gtbl ∧ Cond.code m_TH_keep.1 m_TH_keep.2.1 m_TH_keep.2.2.1 m_TH_keep.2.2.2.1 ∈ gtbl ∧ (m_TH_keep.1.cls ≠ "java/lang/invoke/MethodHandle" ∧ m_TH_keep.1.cls ≠ "java/lang/invoke/VarHandle" ∧ (parseMethodDescriptor m_TH_keep.1.desc).map (fun d => d.parameters.length) = some 3) := ⟨gt_in 1 (by decide +kernel) rfl, gt_in 884 (by rfl) rfl, by decide +kernel⟩
set_option maxRecDepth 100000 in
theorem kV_TH_keep : Cond.instanceMethod m_TH_keep.1 ∈ gtbl ∧ Cond.selects m_TH_keep.1.cls m_TH_keep.1 m_TH_keep.1 ∈ gtbl ∧ ∃ (T : u_T) (N : Nat), xcl[11]? = some (m_TH_keep.1.cls, T, N) := ⟨gt_in 882 (by decide +kernel) rfl, gt_in 883 (by decide +kernel) rfl, xT_TH, 8, rfl⟩
set_option maxRecDepth 100000 in
theorem kA_TH_print : Cond.initialized m_TH_print.1.cls ∈ gtbl ∧ Cond.code m_TH_print.1 m_TH_print.2.1 m_TH_print.2.2.1 m_TH_print.2.2.2.1 ∈ gtbl ∧ (m_TH_print.1.cls ≠ "java/lang/invoke/MethodHandle" ∧ m_TH_print.1.cls ≠ "java/lang/invoke/VarHandle" ∧ (parseMethodDescriptor m_TH_print.1.desc).map (fun d => d.parameters.length) = some 3) := ⟨gt_in 1 (by decide +kernel) rfl, gt_in 893 (by rfl) rfl, by decide +kernel⟩
set_option maxRecDepth 100000 in
theorem kV_TH_print : Cond.instanceMethod m_TH_print.1 ∈ gtbl ∧ Cond.selects m_TH_print.1.cls m_TH_print.1 m_TH_print.1 ∈ gtbl ∧ ∃ (T : u_T) (N : Nat), xcl[11]? = some (m_TH_print.1.cls, T, N) := ⟨gt_in 891 (by decide +kernel) rfl, gt_in 892 (by decide +kernel) rfl, xT_TH, 8, rfl⟩
set_option maxRecDepth 100000 in
theorem kA_TH_sell : Cond.initialized m_TH_sell.1.cls ∈ gtbl ∧ Cond.code m_TH_sell.1 m_TH_sell.2.1 m_TH_sell.2.2.1 m_TH_sell.2.2.2.1 ∈ gtbl ∧ (m_TH_sell.1.cls ≠ "java/lang/invoke/MethodHandle" ∧ m_TH_sell.1.cls ≠ "java/lang/invoke/VarHandle" ∧ (parseMethodDescriptor m_TH_sell.1.desc).map (fun d => d.parameters.length) = some 3) := ⟨gt_in 1 (by decide +kernel) rfl, gt_in 907 (by rfl) rfl, by decide +kernel⟩
set_option maxRecDepth 100000 in
theorem kV_TH_sell : Cond.instanceMethod m_TH_sell.1 ∈ gtbl ∧ Cond.selects m_TH_sell.1.cls m_TH_sell.1 m_TH_sell.1 ∈ gtbl ∧ ∃ (T : u_T) (N : Nat), xcl[11]? = some (m_TH_sell.1.cls, T, N) := ⟨gt_in 905 (by decide +kernel) rfl, gt_in 906 (by decide +kernel) rfl, xT_TH, 8, rfl⟩
set_option maxRecDepth 100000 in
theorem kA_TH_pulp : Cond.initialized m_TH_pulp.1.cls ∈ gtbl ∧ Cond.code m_TH_pulp.1 m_TH_pulp.2.1 m_TH_pulp.2.2.1 m_TH_pulp.2.2.2.1 ∈ gtbl ∧ (m_TH_pulp.1.cls ≠ "java/lang/invoke/MethodHandle" ∧ m_TH_pulp.1.cls ≠ "java/lang/invoke/VarHandle" ∧ (parseMethodDescriptor m_TH_pulp.1.desc).map (fun d => d.parameters.length) = some 2) := ⟨gt_in 1 (by decide +kernel) rfl, gt_in 919 (by rfl) rfl, by decide +kernel⟩
set_option maxRecDepth 100000 in
theorem kV_TH_pulp : Cond.instanceMethod m_TH_pulp.1 ∈ gtbl ∧ Cond.selects m_TH_pulp.1.cls m_TH_pulp.1 m_TH_pulp.1 ∈ gtbl ∧ ∃ (T : u_T) (N : Nat), xcl[11]? = some (m_TH_pulp.1.cls, T, N) := ⟨gt_in 917 (by decide +kernel) rfl, gt_in 918 (by decide +kernel) rfl, xT_TH, 8, rfl⟩
set_option maxRecDepth 100000 in
theorem kA_TH_stock : Cond.initialized m_TH_stock.1.cls ∈ gtbl ∧ Cond.code m_TH_stock.1 m_TH_stock.2.1 m_TH_stock.2.2.1 m_TH_stock.2.2.2.1 ∈ gtbl ∧ (m_TH_stock.1.cls ≠ "java/lang/invoke/MethodHandle" ∧ m_TH_stock.1.cls ≠ "java/lang/invoke/VarHandle" ∧ (parseMethodDescriptor m_TH_stock.1.desc).map (fun d => d.parameters.length) = some 3) := ⟨gt_in 1 (by decide +kernel) rfl, gt_in 927 (by rfl) rfl, by decide +kernel⟩
set_option maxRecDepth 100000 in
theorem kV_TH_stock : Cond.instanceMethod m_TH_stock.1 ∈ gtbl ∧ Cond.selects m_TH_stock.1.cls m_TH_stock.1 m_TH_stock.1 ∈ gtbl ∧ ∃ (T : u_T) (N : Nat), xcl[11]? = some (m_TH_stock.1.cls, T, N) := ⟨gt_in 925 (by decide +kernel) rfl, gt_in 926 (by decide +kernel) rfl, xT_TH, 8, rfl⟩
set_option maxRecDepth 100000 in
theorem kA_TH_volume : Cond.initialized m_TH_volume.1.cls ∈ gtbl ∧ Cond.code m_TH_volume.1 m_TH_volume.2.1 m_TH_volume.2.2.1 m_TH_volume.2.2.2.1 ∈ gtbl ∧ (m_TH_volume.1.cls ≠ "java/lang/invoke/MethodHandle" ∧ m_TH_volume.1.cls ≠ "java/lang/invoke/VarHandle" ∧ (parseMethodDescriptor m_TH_volume.1.desc).map (fun d => d.parameters.length) = some 4) := ⟨gt_in 1 (by decide +kernel) rfl, gt_in 935 (by rfl) rfl, by decide +kernel⟩
set_option maxRecDepth 100000 in
theorem kV_TH_volume : Cond.instanceMethod m_TH_volume.1 ∈ gtbl ∧ Cond.selects m_TH_volume.1.cls m_TH_volume.1 m_TH_volume.1 ∈ gtbl ∧ ∃ (T : u_T) (N : Nat), xcl[11]? = some (m_TH_volume.1.cls, T, N) := ⟨gt_in 933 (by decide +kernel) rfl, gt_in 934 (by decide +kernel) rfl, xT_TH, 8, rfl⟩
set_option maxRecDepth 100000 in
theorem kA_TH_foretell : Cond.initialized m_TH_foretell.1.cls ∈ gtbl ∧ Cond.code m_TH_foretell.1 m_TH_foretell.2.1 m_TH_foretell.2.2.1 m_TH_foretell.2.2.2.1 ∈ gtbl ∧ (m_TH_foretell.1.cls ≠ "java/lang/invoke/MethodHandle" ∧ m_TH_foretell.1.cls ≠ "java/lang/invoke/VarHandle" ∧ (parseMethodDescriptor m_TH_foretell.1.desc).map (fun d => d.parameters.length) = some 2) := ⟨gt_in 1 (by decide +kernel) rfl, gt_in 954 (by rfl) rfl, by decide +kernel⟩
set_option maxRecDepth 100000 in
theorem kV_TH_foretell : Cond.instanceMethod m_TH_foretell.1 ∈ gtbl ∧ Cond.selects m_TH_foretell.1.cls m_TH_foretell.1 m_TH_foretell.1 ∈ gtbl ∧ ∃ (T : u_T) (N : Nat), xcl[11]? = some (m_TH_foretell.1.cls, T, N) := ⟨gt_in 952 (by decide +kernel) rfl, gt_in 953 (by decide +kernel) rfl, xT_TH, 8, rfl⟩
set_option maxRecDepth 100000 in
theorem kA_TH_best : Cond.initialized m_TH_best.1.cls ∈ gtbl ∧ Cond.code m_TH_best.1 m_TH_best.2.1 m_TH_best.2.2.1 m_TH_best.2.2.2.1 ∈ gtbl ∧ (m_TH_best.1.cls ≠ "java/lang/invoke/MethodHandle" ∧ m_TH_best.1.cls ≠ "java/lang/invoke/VarHandle" ∧ (parseMethodDescriptor m_TH_best.1.desc).map (fun d => d.parameters.length) = some 2) := ⟨gt_in 1 (by decide +kernel) rfl, gt_in 963 (by rfl) rfl, by decide +kernel⟩
set_option maxRecDepth 100000 in
theorem kV_TH_best : Cond.instanceMethod m_TH_best.1 ∈ gtbl ∧ Cond.selects m_TH_best.1.cls m_TH_best.1 m_TH_best.1 ∈ gtbl ∧ ∃ (T : u_T) (N : Nat), xcl[11]? = some (m_TH_best.1.cls, T, N) := ⟨gt_in 961 (by decide +kernel) rfl, gt_in 962 (by decide +kernel) rfl, xT_TH, 8, rfl⟩
set_option maxRecDepth 100000 in
theorem kA_TH_worth : Cond.initialized m_TH_worth.1.cls ∈ gtbl ∧ Cond.code m_TH_worth.1 m_TH_worth.2.1 m_TH_worth.2.2.1 m_TH_worth.2.2.2.1 ∈ gtbl ∧ (m_TH_worth.1.cls ≠ "java/lang/invoke/MethodHandle" ∧ m_TH_worth.1.cls ≠ "java/lang/invoke/VarHandle" ∧ (parseMethodDescriptor m_TH_worth.1.desc).map (fun d => d.parameters.length) = some 3) := ⟨gt_in 1 (by decide +kernel) rfl, gt_in 977 (by rfl) rfl, by decide +kernel⟩
set_option maxRecDepth 100000 in
theorem kV_TH_worth : Cond.instanceMethod m_TH_worth.1 ∈ gtbl ∧ Cond.selects m_TH_worth.1.cls m_TH_worth.1 m_TH_worth.1 ∈ gtbl ∧ ∃ (T : u_T) (N : Nat), xcl[11]? = some (m_TH_worth.1.cls, T, N) := ⟨gt_in 975 (by decide +kernel) rfl, gt_in 976 (by decide +kernel) rfl, xT_TH, 8, rfl⟩
set_option maxRecDepth 100000 in
theorem kA_TH_purse : Cond.initialized m_TH_purse.1.cls ∈ gtbl ∧ Cond.code m_TH_purse.1 m_TH_purse.2.1 m_TH_purse.2.2.1 m_TH_purse.2.2.2.1 ∈ gtbl ∧ (m_TH_purse.1.cls ≠ "java/lang/invoke/MethodHandle" ∧ m_TH_purse.1.cls ≠ "java/lang/invoke/VarHandle" ∧ (parseMethodDescriptor m_TH_purse.1.desc).map (fun d => d.parameters.length) = some 0) := ⟨gt_in 1 (by decide +kernel) rfl, gt_in 983 (by rfl) rfl, by decide +kernel⟩
set_option maxRecDepth 100000 in
theorem kV_TH_purse : Cond.instanceMethod m_TH_purse.1 ∈ gtbl ∧ Cond.selects m_TH_purse.1.cls m_TH_purse.1 m_TH_purse.1 ∈ gtbl ∧ ∃ (T : u_T) (N : Nat), xcl[11]? = some (m_TH_purse.1.cls, T, N) := ⟨gt_in 981 (by decide +kernel) rfl, gt_in 982 (by decide +kernel) rfl, xT_TH, 8, rfl⟩
set_option maxRecDepth 100000 in
theorem kA_TH_isPart : Cond.initialized m_TH_isPart.1.cls ∈ gtbl ∧ Cond.code m_TH_isPart.1 m_TH_isPart.2.1 m_TH_isPart.2.2.1 m_TH_isPart.2.2.2.1 ∈ gtbl ∧ (m_TH_isPart.1.cls ≠ "java/lang/invoke/MethodHandle" ∧ m_TH_isPart.1.cls ≠ "java/lang/invoke/VarHandle" ∧ (parseMethodDescriptor m_TH_isPart.1.desc).map (fun d => d.parameters.length) = some 1) := ⟨gt_in 1 (by decide +kernel) rfl, gt_in 682 (by rfl) rfl, by decide +kernel⟩
set_option maxRecDepth 100000 in
theorem kS_TH_isPart : Cond.static m_TH_isPart.1 ∈ gtbl := gt_in 681 (by decide +kernel) rfl
set_option maxRecDepth 100000 in
theorem kA_TH_slot : Cond.initialized m_TH_slot.1.cls ∈ gtbl ∧ Cond.code m_TH_slot.1 m_TH_slot.2.1 m_TH_slot.2.2.1 m_TH_slot.2.2.2.1 ∈ gtbl ∧ (m_TH_slot.1.cls ≠ "java/lang/invoke/MethodHandle" ∧ m_TH_slot.1.cls ≠ "java/lang/invoke/VarHandle" ∧ (parseMethodDescriptor m_TH_slot.1.desc).map (fun d => d.parameters.length) = some 2) := ⟨gt_in 1 (by decide +kernel) rfl, gt_in 817 (by rfl) rfl, by decide +kernel⟩
set_option maxRecDepth 100000 in
theorem kS_TH_slot : Cond.static m_TH_slot.1 ∈ gtbl := gt_in 816 (by decide +kernel) rfl
set_option maxRecDepth 100000 in
theorem kA_TH_plus : Cond.initialized m_TH_plus.1.cls ∈ gtbl ∧ Cond.code m_TH_plus.1 m_TH_plus.2.1 m_TH_plus.2.2.1 m_TH_plus.2.2.2.1 ∈ gtbl ∧ (m_TH_plus.1.cls ≠ "java/lang/invoke/MethodHandle" ∧ m_TH_plus.1.cls ≠ "java/lang/invoke/VarHandle" ∧ (parseMethodDescriptor m_TH_plus.1.desc).map (fun d => d.parameters.length) = some 2) := ⟨gt_in 1 (by decide +kernel) rfl, gt_in 490 (by rfl) rfl, by decide +kernel⟩
set_option maxRecDepth 100000 in
theorem kS_TH_plus : Cond.static m_TH_plus.1 ∈ gtbl := gt_in 489 (by decide +kernel) rfl
set_option maxRecDepth 100000 in
theorem kA_Md_is : Cond.initialized m_Md_is.1.cls ∈ gtbl ∧ Cond.code m_Md_is.1 m_Md_is.2.1 m_Md_is.2.2.1 m_Md_is.2.2.2.1 ∈ gtbl ∧ (m_Md_is.1.cls ≠ "java/lang/invoke/MethodHandle" ∧ m_Md_is.1.cls ≠ "java/lang/invoke/VarHandle" ∧ (parseMethodDescriptor m_Md_is.1.desc).map (fun d => d.parameters.length) = some 3) := ⟨gt_in 13 (by decide +kernel) rfl, gt_in 1166 (by rfl) rfl, by decide +kernel⟩
set_option maxRecDepth 100000 in
theorem kS_Md_is : Cond.static m_Md_is.1 ∈ gtbl := gt_in 1165 (by decide +kernel) rfl
set_option maxRecDepth 100000 in
theorem kA_Md_put : Cond.initialized m_Md_put.1.cls ∈ gtbl ∧ Cond.code m_Md_put.1 m_Md_put.2.1 m_Md_put.2.2.1 m_Md_put.2.2.2.1 ∈ gtbl ∧ (m_Md_put.1.cls ≠ "java/lang/invoke/MethodHandle" ∧ m_Md_put.1.cls ≠ "java/lang/invoke/VarHandle" ∧ (parseMethodDescriptor m_Md_put.1.desc).map (fun d => d.parameters.length) = some 1) := ⟨gt_in 13 (by decide +kernel) rfl, gt_in 1154 (by rfl) rfl, by decide +kernel⟩
set_option maxRecDepth 100000 in
theorem kV_Md_put : Cond.instanceMethod m_Md_put.1 ∈ gtbl ∧ Cond.selects m_Md_put.1.cls m_Md_put.1 m_Md_put.1 ∈ gtbl ∧ ∃ (T : u_T) (N : Nat), xcl[12]? = some (m_Md_put.1.cls, T, N) := ⟨gt_in 1153 (by decide +kernel) rfl, gt_pv 24 (by decide +kernel) rfl, xT_Md, 52, rfl⟩
set_option maxRecDepth 100000 in
theorem kA_Md_init : Cond.initialized m_Md_init.1.cls ∈ gtbl ∧ Cond.code m_Md_init.1 m_Md_init.2.1 m_Md_init.2.2.1 m_Md_init.2.2.2.1 ∈ gtbl ∧ (m_Md_init.1.cls ≠ "java/lang/invoke/MethodHandle" ∧ m_Md_init.1.cls ≠ "java/lang/invoke/VarHandle" ∧ (parseMethodDescriptor m_Md_init.1.desc).map (fun d => d.parameters.length) = some 0) := ⟨gt_in 13 (by decide +kernel) rfl, gt_in 988 (by rfl) rfl, by decide +kernel⟩
set_option maxRecDepth 100000 in
theorem kI_Md_init : Cond.instanceMethod m_Md_init.1 ∈ gtbl ∧ m_Md_init.1.name = "<init>" ∧ m_Md_init.2.2.2.1 = none := ⟨gt_in 987 (by decide +kernel) rfl, rfl, rfl⟩
set_option maxRecDepth 100000 in
theorem kA_Md_feed : Cond.initialized m_Md_feed.1.cls ∈ gtbl ∧ Cond.code m_Md_feed.1 m_Md_feed.2.1 m_Md_feed.2.2.1 m_Md_feed.2.2.2.1 ∈ gtbl ∧ (m_Md_feed.1.cls ≠ "java/lang/invoke/MethodHandle" ∧ m_Md_feed.1.cls ≠ "java/lang/invoke/VarHandle" ∧ (parseMethodDescriptor m_Md_feed.1.desc).map (fun d => d.parameters.length) = some 5) := ⟨gt_in 13 (by decide +kernel) rfl, gt_in 1150 (by rfl) rfl, by decide +kernel⟩
set_option maxRecDepth 100000 in
theorem kV_Md_feed : Cond.instanceMethod m_Md_feed.1 ∈ gtbl ∧ Cond.selects m_Md_feed.1.cls m_Md_feed.1 m_Md_feed.1 ∈ gtbl ∧ ∃ (T : u_T) (N : Nat), xcl[12]? = some (m_Md_feed.1.cls, T, N) := ⟨gt_in 1148 (by decide +kernel) rfl, gt_in 1149 (by decide +kernel) rfl, xT_Md, 52, rfl⟩
set_option maxRecDepth 100000 in
theorem kA_Md_end : Cond.initialized m_Md_end.1.cls ∈ gtbl ∧ Cond.code m_Md_end.1 m_Md_end.2.1 m_Md_end.2.2.1 m_Md_end.2.2.2.1 ∈ gtbl ∧ (m_Md_end.1.cls ≠ "java/lang/invoke/MethodHandle" ∧ m_Md_end.1.cls ≠ "java/lang/invoke/VarHandle" ∧ (parseMethodDescriptor m_Md_end.1.desc).map (fun d => d.parameters.length) = some 1) := ⟨gt_in 13 (by decide +kernel) rfl, gt_in 1158 (by rfl) rfl, by decide +kernel⟩
set_option maxRecDepth 100000 in
theorem kV_Md_end : Cond.instanceMethod m_Md_end.1 ∈ gtbl ∧ Cond.selects m_Md_end.1.cls m_Md_end.1 m_Md_end.1 ∈ gtbl ∧ ∃ (T : u_T) (N : Nat), xcl[12]? = some (m_Md_end.1.cls, T, N) := ⟨gt_in 1156 (by decide +kernel) rfl, gt_in 1157 (by decide +kernel) rfl, xT_Md, 52, rfl⟩
set_option maxRecDepth 100000 in
theorem kA_Md_paragraph : Cond.initialized m_Md_paragraph.1.cls ∈ gtbl ∧ Cond.code m_Md_paragraph.1 m_Md_paragraph.2.1 m_Md_paragraph.2.2.1 m_Md_paragraph.2.2.2.1 ∈ gtbl ∧ (m_Md_paragraph.1.cls ≠ "java/lang/invoke/MethodHandle" ∧ m_Md_paragraph.1.cls ≠ "java/lang/invoke/VarHandle" ∧ (parseMethodDescriptor m_Md_paragraph.1.desc).map (fun d => d.parameters.length) = some 1) := ⟨gt_in 13 (by decide +kernel) rfl, gt_in 1162 (by rfl) rfl, by decide +kernel⟩
set_option maxRecDepth 100000 in
theorem kV_Md_paragraph : Cond.instanceMethod m_Md_paragraph.1 ∈ gtbl ∧ Cond.selects m_Md_paragraph.1.cls m_Md_paragraph.1 m_Md_paragraph.1 ∈ gtbl ∧ ∃ (T : u_T) (N : Nat), xcl[12]? = some (m_Md_paragraph.1.cls, T, N) := ⟨gt_in 1160 (by decide +kernel) rfl, gt_in 1161 (by decide +kernel) rfl, xT_Md, 52, rfl⟩
set_option maxRecDepth 100000 in
theorem kA_Md_word : Cond.initialized m_Md_word.1.cls ∈ gtbl ∧ Cond.code m_Md_word.1 m_Md_word.2.1 m_Md_word.2.2.1 m_Md_word.2.2.2.1 ∈ gtbl ∧ (m_Md_word.1.cls ≠ "java/lang/invoke/MethodHandle" ∧ m_Md_word.1.cls ≠ "java/lang/invoke/VarHandle" ∧ (parseMethodDescriptor m_Md_word.1.desc).map (fun d => d.parameters.length) = some 1) := ⟨gt_in 13 (by decide +kernel) rfl, gt_in 1170 (by rfl) rfl, by decide +kernel⟩
set_option maxRecDepth 100000 in
theorem kV_Md_word : Cond.instanceMethod m_Md_word.1 ∈ gtbl ∧ Cond.selects m_Md_word.1.cls m_Md_word.1 m_Md_word.1 ∈ gtbl ∧ ∃ (T : u_T) (N : Nat), xcl[12]? = some (m_Md_word.1.cls, T, N) := ⟨gt_in 1168 (by decide +kernel) rfl, gt_in 1169 (by decide +kernel) rfl, xT_Md, 52, rfl⟩
set_option maxRecDepth 100000 in
theorem kA_Md_clear : Cond.initialized m_Md_clear.1.cls ∈ gtbl ∧ Cond.code m_Md_clear.1 m_Md_clear.2.1 m_Md_clear.2.2.1 m_Md_clear.2.2.2.1 ∈ gtbl ∧ (m_Md_clear.1.cls ≠ "java/lang/invoke/MethodHandle" ∧ m_Md_clear.1.cls ≠ "java/lang/invoke/VarHandle" ∧ (parseMethodDescriptor m_Md_clear.1.desc).map (fun d => d.parameters.length) = some 0) := ⟨gt_in 13 (by decide +kernel) rfl, gt_in 1174 (by rfl) rfl, by decide +kernel⟩
set_option maxRecDepth 100000 in
theorem kV_Md_clear : Cond.instanceMethod m_Md_clear.1 ∈ gtbl ∧ Cond.selects m_Md_clear.1.cls m_Md_clear.1 m_Md_clear.1 ∈ gtbl ∧ ∃ (T : u_T) (N : Nat), xcl[12]? = some (m_Md_clear.1.cls, T, N) := ⟨gt_in 1172 (by decide +kernel) rfl, gt_in 1173 (by decide +kernel) rfl, xT_Md, 52, rfl⟩
set_option maxRecDepth 100000 in
theorem kA_Md_page : Cond.initialized m_Md_page.1.cls ∈ gtbl ∧ Cond.code m_Md_page.1 m_Md_page.2.1 m_Md_page.2.2.1 m_Md_page.2.2.2.1 ∈ gtbl ∧ (m_Md_page.1.cls ≠ "java/lang/invoke/MethodHandle" ∧ m_Md_page.1.cls ≠ "java/lang/invoke/VarHandle" ∧ (parseMethodDescriptor m_Md_page.1.desc).map (fun d => d.parameters.length) = some 4) := ⟨gt_in 13 (by decide +kernel) rfl, gt_in 1178 (by rfl) rfl, by decide +kernel⟩
set_option maxRecDepth 100000 in
theorem kV_Md_page : Cond.instanceMethod m_Md_page.1 ∈ gtbl ∧ Cond.selects m_Md_page.1.cls m_Md_page.1 m_Md_page.1 ∈ gtbl ∧ ∃ (T : u_T) (N : Nat), xcl[12]? = some (m_Md_page.1.cls, T, N) := ⟨gt_in 1176 (by decide +kernel) rfl, gt_in 1177 (by decide +kernel) rfl, xT_Md, 52, rfl⟩
set_option maxRecDepth 100000 in
theorem kA_Md_cost : Cond.initialized m_Md_cost.1.cls ∈ gtbl ∧ Cond.code m_Md_cost.1 m_Md_cost.2.1 m_Md_cost.2.2.1 m_Md_cost.2.2.2.1 ∈ gtbl ∧ (m_Md_cost.1.cls ≠ "java/lang/invoke/MethodHandle" ∧ m_Md_cost.1.cls ≠ "java/lang/invoke/VarHandle" ∧ (parseMethodDescriptor m_Md_cost.1.desc).map (fun d => d.parameters.length) = some 3) := ⟨gt_in 13 (by decide +kernel) rfl, gt_in 1191 (by rfl) rfl, by decide +kernel⟩
set_option maxRecDepth 100000 in
theorem kV_Md_cost : Cond.instanceMethod m_Md_cost.1 ∈ gtbl ∧ Cond.selects m_Md_cost.1.cls m_Md_cost.1 m_Md_cost.1 ∈ gtbl ∧ ∃ (T : u_T) (N : Nat), xcl[12]? = some (m_Md_cost.1.cls, T, N) := ⟨gt_in 1190 (by decide +kernel) rfl, gt_pv 26 (by decide +kernel) rfl, xT_Md, 52, rfl⟩
set_option maxRecDepth 100000 in
theorem kA_Md_breaks : Cond.initialized m_Md_breaks.1.cls ∈ gtbl ∧ Cond.code m_Md_breaks.1 m_Md_breaks.2.1 m_Md_breaks.2.2.1 m_Md_breaks.2.2.2.1 ∈ gtbl ∧ (m_Md_breaks.1.cls ≠ "java/lang/invoke/MethodHandle" ∧ m_Md_breaks.1.cls ≠ "java/lang/invoke/VarHandle" ∧ (parseMethodDescriptor m_Md_breaks.1.desc).map (fun d => d.parameters.length) = some 1) := ⟨gt_in 13 (by decide +kernel) rfl, gt_in 1186 (by rfl) rfl, by decide +kernel⟩
set_option maxRecDepth 100000 in
theorem kV_Md_breaks : Cond.instanceMethod m_Md_breaks.1 ∈ gtbl ∧ Cond.selects m_Md_breaks.1.cls m_Md_breaks.1 m_Md_breaks.1 ∈ gtbl ∧ ∃ (T : u_T) (N : Nat), xcl[12]? = some (m_Md_breaks.1.cls, T, N) := ⟨gt_in 1185 (by decide +kernel) rfl, gt_pv 25 (by decide +kernel) rfl, xT_Md, 52, rfl⟩
set_option maxRecDepth 100000 in
theorem kA_Md_lines : Cond.initialized m_Md_lines.1.cls ∈ gtbl ∧ Cond.code m_Md_lines.1 m_Md_lines.2.1 m_Md_lines.2.2.1 m_Md_lines.2.2.2.1 ∈ gtbl ∧ (m_Md_lines.1.cls ≠ "java/lang/invoke/MethodHandle" ∧ m_Md_lines.1.cls ≠ "java/lang/invoke/VarHandle" ∧ (parseMethodDescriptor m_Md_lines.1.desc).map (fun d => d.parameters.length) = some 2) := ⟨gt_in 13 (by decide +kernel) rfl, gt_in 1182 (by rfl) rfl, by decide +kernel⟩
set_option maxRecDepth 100000 in
theorem kV_Md_lines : Cond.instanceMethod m_Md_lines.1 ∈ gtbl ∧ Cond.selects m_Md_lines.1.cls m_Md_lines.1 m_Md_lines.1 ∈ gtbl ∧ ∃ (T : u_T) (N : Nat), xcl[12]? = some (m_Md_lines.1.cls, T, N) := ⟨gt_in 1180 (by decide +kernel) rfl, gt_in 1181 (by decide +kernel) rfl, xT_Md, 52, rfl⟩
set_option maxRecDepth 100000 in
theorem kA_Md_at : Cond.initialized m_Md_at.1.cls ∈ gtbl ∧ Cond.code m_Md_at.1 m_Md_at.2.1 m_Md_at.2.2.1 m_Md_at.2.2.2.1 ∈ gtbl ∧ (m_Md_at.1.cls ≠ "java/lang/invoke/MethodHandle" ∧ m_Md_at.1.cls ≠ "java/lang/invoke/VarHandle" ∧ (parseMethodDescriptor m_Md_at.1.desc).map (fun d => d.parameters.length) = some 3) := ⟨gt_in 13 (by decide +kernel) rfl, gt_in 1202 (by rfl) rfl, by decide +kernel⟩
set_option maxRecDepth 100000 in
theorem kS_Md_at : Cond.static m_Md_at.1 ∈ gtbl := gt_in 1201 (by decide +kernel) rfl
set_option maxRecDepth 100000 in
theorem kA_Md_price : Cond.initialized m_Md_price.1.cls ∈ gtbl ∧ Cond.code m_Md_price.1 m_Md_price.2.1 m_Md_price.2.2.1 m_Md_price.2.2.2.1 ∈ gtbl ∧ (m_Md_price.1.cls ≠ "java/lang/invoke/MethodHandle" ∧ m_Md_price.1.cls ≠ "java/lang/invoke/VarHandle" ∧ (parseMethodDescriptor m_Md_price.1.desc).map (fun d => d.parameters.length) = some 4) := ⟨gt_in 13 (by decide +kernel) rfl, gt_in 1210 (by rfl) rfl, by decide +kernel⟩
set_option maxRecDepth 100000 in
theorem kV_Md_price : Cond.instanceMethod m_Md_price.1 ∈ gtbl ∧ Cond.selects m_Md_price.1.cls m_Md_price.1 m_Md_price.1 ∈ gtbl ∧ ∃ (T : u_T) (N : Nat), xcl[12]? = some (m_Md_price.1.cls, T, N) := ⟨gt_in 1209 (by decide +kernel) rfl, gt_pv 29 (by decide +kernel) rfl, xT_Md, 52, rfl⟩
set_option maxRecDepth 100000 in
theorem kA_Md_stands6 : Cond.initialized m_Md_stands6.1.cls ∈ gtbl ∧ Cond.code m_Md_stands6.1 m_Md_stands6.2.1 m_Md_stands6.2.2.1 m_Md_stands6.2.2.2.1 ∈ gtbl ∧ (m_Md_stands6.1.cls ≠ "java/lang/invoke/MethodHandle" ∧ m_Md_stands6.1.cls ≠ "java/lang/invoke/VarHandle" ∧ (parseMethodDescriptor m_Md_stands6.1.desc).map (fun d => d.parameters.length) = some 6) := ⟨gt_in 13 (by decide +kernel) rfl, gt_in 1206 (by rfl) rfl, by decide +kernel⟩
set_option maxRecDepth 100000 in
theorem kV_Md_stands6 : Cond.instanceMethod m_Md_stands6.1 ∈ gtbl ∧ Cond.selects m_Md_stands6.1.cls m_Md_stands6.1 m_Md_stands6.1 ∈ gtbl ∧ ∃ (T : u_T) (N : Nat), xcl[12]? = some (m_Md_stands6.1.cls, T, N) := ⟨gt_in 1205 (by decide +kernel) rfl, gt_pv 28 (by decide +kernel) rfl, xT_Md, 52, rfl⟩
set_option maxRecDepth 100000 in
theorem kA_Md_gone : Cond.initialized m_Md_gone.1.cls ∈ gtbl ∧ Cond.code m_Md_gone.1 m_Md_gone.2.1 m_Md_gone.2.2.1 m_Md_gone.2.2.2.1 ∈ gtbl ∧ (m_Md_gone.1.cls ≠ "java/lang/invoke/MethodHandle" ∧ m_Md_gone.1.cls ≠ "java/lang/invoke/VarHandle" ∧ (parseMethodDescriptor m_Md_gone.1.desc).map (fun d => d.parameters.length) = some 3) := ⟨gt_in 13 (by decide +kernel) rfl, gt_in 1199 (by rfl) rfl, by decide +kernel⟩
set_option maxRecDepth 100000 in
theorem kV_Md_gone : Cond.instanceMethod m_Md_gone.1 ∈ gtbl ∧ Cond.selects m_Md_gone.1.cls m_Md_gone.1 m_Md_gone.1 ∈ gtbl ∧ ∃ (T : u_T) (N : Nat), xcl[12]? = some (m_Md_gone.1.cls, T, N) := ⟨gt_in 1198 (by decide +kernel) rfl, gt_pv 27 (by decide +kernel) rfl, xT_Md, 52, rfl⟩
set_option maxRecDepth 100000 in
theorem kA_Md_fill : Cond.initialized m_Md_fill.1.cls ∈ gtbl ∧ Cond.code m_Md_fill.1 m_Md_fill.2.1 m_Md_fill.2.2.1 m_Md_fill.2.2.2.1 ∈ gtbl ∧ (m_Md_fill.1.cls ≠ "java/lang/invoke/MethodHandle" ∧ m_Md_fill.1.cls ≠ "java/lang/invoke/VarHandle" ∧ (parseMethodDescriptor m_Md_fill.1.desc).map (fun d => d.parameters.length) = some 1) := ⟨gt_in 13 (by decide +kernel) rfl, gt_in 1195 (by rfl) rfl, by decide +kernel⟩
set_option maxRecDepth 100000 in
theorem kV_Md_fill : Cond.instanceMethod m_Md_fill.1 ∈ gtbl ∧ Cond.selects m_Md_fill.1.cls m_Md_fill.1 m_Md_fill.1 ∈ gtbl ∧ ∃ (T : u_T) (N : Nat), xcl[12]? = some (m_Md_fill.1.cls, T, N) := ⟨gt_in 1193 (by decide +kernel) rfl, gt_in 1194 (by decide +kernel) rfl, xT_Md, 52, rfl⟩
set_option maxRecDepth 100000 in
theorem kA_Md_tells : Cond.initialized m_Md_tells.1.cls ∈ gtbl ∧ Cond.code m_Md_tells.1 m_Md_tells.2.1 m_Md_tells.2.2.1 m_Md_tells.2.2.2.1 ∈ gtbl ∧ (m_Md_tells.1.cls ≠ "java/lang/invoke/MethodHandle" ∧ m_Md_tells.1.cls ≠ "java/lang/invoke/VarHandle" ∧ (parseMethodDescriptor m_Md_tells.1.desc).map (fun d => d.parameters.length) = some 1) := ⟨gt_in 13 (by decide +kernel) rfl, gt_in 1214 (by rfl) rfl, by decide +kernel⟩
set_option maxRecDepth 100000 in
theorem kV_Md_tells : Cond.instanceMethod m_Md_tells.1 ∈ gtbl ∧ Cond.selects m_Md_tells.1.cls m_Md_tells.1 m_Md_tells.1 ∈ gtbl ∧ ∃ (T : u_T) (N : Nat), xcl[12]? = some (m_Md_tells.1.cls, T, N) := ⟨gt_in 1213 (by decide +kernel) rfl, gt_pv 30 (by decide +kernel) rfl, xT_Md, 52, rfl⟩
set_option maxRecDepth 100000 in
theorem kA_Md_lays : Cond.initialized m_Md_lays.1.cls ∈ gtbl ∧ Cond.code m_Md_lays.1 m_Md_lays.2.1 m_Md_lays.2.2.1 m_Md_lays.2.2.2.1 ∈ gtbl ∧ (m_Md_lays.1.cls ≠ "java/lang/invoke/MethodHandle" ∧ m_Md_lays.1.cls ≠ "java/lang/invoke/VarHandle" ∧ (parseMethodDescriptor m_Md_lays.1.desc).map (fun d => d.parameters.length) = some 2) := ⟨gt_in 13 (by decide +kernel) rfl, gt_in 1218 (by rfl) rfl, by decide +kernel⟩
set_option maxRecDepth 100000 in
theorem kV_Md_lays : Cond.instanceMethod m_Md_lays.1 ∈ gtbl ∧ Cond.selects m_Md_lays.1.cls m_Md_lays.1 m_Md_lays.1 ∈ gtbl ∧ ∃ (T : u_T) (N : Nat), xcl[12]? = some (m_Md_lays.1.cls, T, N) := ⟨gt_in 1217 (by decide +kernel) rfl, gt_pv 31 (by decide +kernel) rfl, xT_Md, 52, rfl⟩
set_option maxRecDepth 100000 in
theorem kA_Md_set : Cond.initialized m_Md_set.1.cls ∈ gtbl ∧ Cond.code m_Md_set.1 m_Md_set.2.1 m_Md_set.2.2.1 m_Md_set.2.2.2.1 ∈ gtbl ∧ (m_Md_set.1.cls ≠ "java/lang/invoke/MethodHandle" ∧ m_Md_set.1.cls ≠ "java/lang/invoke/VarHandle" ∧ (parseMethodDescriptor m_Md_set.1.desc).map (fun d => d.parameters.length) = some 2) := ⟨gt_in 13 (by decide +kernel) rfl, gt_in 1222 (by rfl) rfl, by decide +kernel⟩
set_option maxRecDepth 100000 in
theorem kV_Md_set : Cond.instanceMethod m_Md_set.1 ∈ gtbl ∧ Cond.selects m_Md_set.1.cls m_Md_set.1 m_Md_set.1 ∈ gtbl ∧ ∃ (T : u_T) (N : Nat), xcl[12]? = some (m_Md_set.1.cls, T, N) := ⟨gt_in 1220 (by decide +kernel) rfl, gt_in 1221 (by decide +kernel) rfl, xT_Md, 52, rfl⟩
set_option maxRecDepth 100000 in
theorem kA_Md_line : Cond.initialized m_Md_line.1.cls ∈ gtbl ∧ Cond.code m_Md_line.1 m_Md_line.2.1 m_Md_line.2.2.1 m_Md_line.2.2.2.1 ∈ gtbl ∧ (m_Md_line.1.cls ≠ "java/lang/invoke/MethodHandle" ∧ m_Md_line.1.cls ≠ "java/lang/invoke/VarHandle" ∧ (parseMethodDescriptor m_Md_line.1.desc).map (fun d => d.parameters.length) = some 2) := ⟨gt_in 13 (by decide +kernel) rfl, gt_in 1226 (by rfl) rfl, by decide +kernel⟩
set_option maxRecDepth 100000 in
theorem kV_Md_line : Cond.instanceMethod m_Md_line.1 ∈ gtbl ∧ Cond.selects m_Md_line.1.cls m_Md_line.1 m_Md_line.1 ∈ gtbl ∧ ∃ (T : u_T) (N : Nat), xcl[12]? = some (m_Md_line.1.cls, T, N) := ⟨gt_in 1224 (by decide +kernel) rfl, gt_in 1225 (by decide +kernel) rfl, xT_Md, 52, rfl⟩
set_option maxRecDepth 100000 in
theorem kA_Md_blame : Cond.initialized m_Md_blame.1.cls ∈ gtbl ∧ Cond.code m_Md_blame.1 m_Md_blame.2.1 m_Md_blame.2.2.1 m_Md_blame.2.2.2.1 ∈ gtbl ∧ (m_Md_blame.1.cls ≠ "java/lang/invoke/MethodHandle" ∧ m_Md_blame.1.cls ≠ "java/lang/invoke/VarHandle" ∧ (parseMethodDescriptor m_Md_blame.1.desc).map (fun d => d.parameters.length) = some 2) := ⟨gt_in 13 (by decide +kernel) rfl, gt_in 1253 (by rfl) rfl, by decide +kernel⟩
set_option maxRecDepth 100000 in
theorem kV_Md_blame : Cond.instanceMethod m_Md_blame.1 ∈ gtbl ∧ Cond.selects m_Md_blame.1.cls m_Md_blame.1 m_Md_blame.1 ∈ gtbl ∧ ∃ (T : u_T) (N : Nat), xcl[12]? = some (m_Md_blame.1.cls, T, N) := ⟨gt_in 1252 (by decide +kernel) rfl, gt_pv 35 (by decide +kernel) rfl, xT_Md, 52, rfl⟩
set_option maxRecDepth 100000 in
theorem kA_Md_isLetter : Cond.initialized m_Md_isLetter.1.cls ∈ gtbl ∧ Cond.code m_Md_isLetter.1 m_Md_isLetter.2.1 m_Md_isLetter.2.2.1 m_Md_isLetter.2.2.2.1 ∈ gtbl ∧ (m_Md_isLetter.1.cls ≠ "java/lang/invoke/MethodHandle" ∧ m_Md_isLetter.1.cls ≠ "java/lang/invoke/VarHandle" ∧ (parseMethodDescriptor m_Md_isLetter.1.desc).map (fun d => d.parameters.length) = some 1) := ⟨gt_in 13 (by decide +kernel) rfl, gt_in 1249 (by rfl) rfl, by decide +kernel⟩
set_option maxRecDepth 100000 in
theorem kS_Md_isLetter : Cond.static m_Md_isLetter.1 ∈ gtbl := gt_in 1248 (by decide +kernel) rfl
set_option maxRecDepth 100000 in
theorem kA_Md_isDigit : Cond.initialized m_Md_isDigit.1.cls ∈ gtbl ∧ Cond.code m_Md_isDigit.1 m_Md_isDigit.2.1 m_Md_isDigit.2.2.1 m_Md_isDigit.2.2.2.1 ∈ gtbl ∧ (m_Md_isDigit.1.cls ≠ "java/lang/invoke/MethodHandle" ∧ m_Md_isDigit.1.cls ≠ "java/lang/invoke/VarHandle" ∧ (parseMethodDescriptor m_Md_isDigit.1.desc).map (fun d => d.parameters.length) = some 1) := ⟨gt_in 13 (by decide +kernel) rfl, gt_in 1277 (by rfl) rfl, by decide +kernel⟩
set_option maxRecDepth 100000 in
theorem kS_Md_isDigit : Cond.static m_Md_isDigit.1 ∈ gtbl := gt_in 1276 (by decide +kernel) rfl
set_option maxRecDepth 100000 in
theorem kA_Md_here : Cond.initialized m_Md_here.1.cls ∈ gtbl ∧ Cond.code m_Md_here.1 m_Md_here.2.1 m_Md_here.2.2.1 m_Md_here.2.2.2.1 ∈ gtbl ∧ (m_Md_here.1.cls ≠ "java/lang/invoke/MethodHandle" ∧ m_Md_here.1.cls ≠ "java/lang/invoke/VarHandle" ∧ (parseMethodDescriptor m_Md_here.1.desc).map (fun d => d.parameters.length) = some 0) := ⟨gt_in 13 (by decide +kernel) rfl, gt_in 1246 (by rfl) rfl, by decide +kernel⟩
set_option maxRecDepth 100000 in
theorem kV_Md_here : Cond.instanceMethod m_Md_here.1 ∈ gtbl ∧ Cond.selects m_Md_here.1.cls m_Md_here.1 m_Md_here.1 ∈ gtbl ∧ ∃ (T : u_T) (N : Nat), xcl[12]? = some (m_Md_here.1.cls, T, N) := ⟨gt_in 1245 (by decide +kernel) rfl, gt_pv 34 (by decide +kernel) rfl, xT_Md, 52, rfl⟩
set_option maxRecDepth 100000 in
theorem kA_Md_must : Cond.initialized m_Md_must.1.cls ∈ gtbl ∧ Cond.code m_Md_must.1 m_Md_must.2.1 m_Md_must.2.2.1 m_Md_must.2.2.2.1 ∈ gtbl ∧ (m_Md_must.1.cls ≠ "java/lang/invoke/MethodHandle" ∧ m_Md_must.1.cls ≠ "java/lang/invoke/VarHandle" ∧ (parseMethodDescriptor m_Md_must.1.desc).map (fun d => d.parameters.length) = some 1) := ⟨gt_in 13 (by decide +kernel) rfl, gt_in 1285 (by rfl) rfl, by decide +kernel⟩
set_option maxRecDepth 100000 in
theorem kV_Md_must : Cond.instanceMethod m_Md_must.1 ∈ gtbl ∧ Cond.selects m_Md_must.1.cls m_Md_must.1 m_Md_must.1 ∈ gtbl ∧ ∃ (T : u_T) (N : Nat), xcl[12]? = some (m_Md_must.1.cls, T, N) := ⟨gt_in 1284 (by decide +kernel) rfl, gt_pv 41 (by decide +kernel) rfl, xT_Md, 52, rfl⟩
set_option maxRecDepth 100000 in
theorem kA_Md_wordEnd : Cond.initialized m_Md_wordEnd.1.cls ∈ gtbl ∧ Cond.code m_Md_wordEnd.1 m_Md_wordEnd.2.1 m_Md_wordEnd.2.2.1 m_Md_wordEnd.2.2.2.1 ∈ gtbl ∧ (m_Md_wordEnd.1.cls ≠ "java/lang/invoke/MethodHandle" ∧ m_Md_wordEnd.1.cls ≠ "java/lang/invoke/VarHandle" ∧ (parseMethodDescriptor m_Md_wordEnd.1.desc).map (fun d => d.parameters.length) = some 0) := ⟨gt_in 13 (by decide +kernel) rfl, gt_in 1257 (by rfl) rfl, by decide +kernel⟩
set_option maxRecDepth 100000 in
theorem kV_Md_wordEnd : Cond.instanceMethod m_Md_wordEnd.1 ∈ gtbl ∧ Cond.selects m_Md_wordEnd.1.cls m_Md_wordEnd.1 m_Md_wordEnd.1 ∈ gtbl ∧ ∃ (T : u_T) (N : Nat), xcl[12]? = some (m_Md_wordEnd.1.cls, T, N) := ⟨gt_in 1256 (by decide +kernel) rfl, gt_pv 36 (by decide +kernel) rfl, xT_Md, 52, rfl⟩
set_option maxRecDepth 100000 in
theorem kA_Md_spells : Cond.initialized m_Md_spells.1.cls ∈ gtbl ∧ Cond.code m_Md_spells.1 m_Md_spells.2.1 m_Md_spells.2.2.1 m_Md_spells.2.2.2.1 ∈ gtbl ∧ (m_Md_spells.1.cls ≠ "java/lang/invoke/MethodHandle" ∧ m_Md_spells.1.cls ≠ "java/lang/invoke/VarHandle" ∧ (parseMethodDescriptor m_Md_spells.1.desc).map (fun d => d.parameters.length) = some 3) := ⟨gt_in 13 (by decide +kernel) rfl, gt_in 1262 (by rfl) rfl, by decide +kernel⟩
set_option maxRecDepth 100000 in
theorem kV_Md_spells : Cond.instanceMethod m_Md_spells.1 ∈ gtbl ∧ Cond.selects m_Md_spells.1.cls m_Md_spells.1 m_Md_spells.1 ∈ gtbl ∧ ∃ (T : u_T) (N : Nat), xcl[12]? = some (m_Md_spells.1.cls, T, N) := ⟨gt_in 1261 (by decide +kernel) rfl, gt_pv 37 (by decide +kernel) rfl, xT_Md, 52, rfl⟩
set_option maxRecDepth 100000 in
theorem kA_Md_passes : Cond.initialized m_Md_passes.1.cls ∈ gtbl ∧ Cond.code m_Md_passes.1 m_Md_passes.2.1 m_Md_passes.2.2.1 m_Md_passes.2.2.2.1 ∈ gtbl ∧ (m_Md_passes.1.cls ≠ "java/lang/invoke/MethodHandle" ∧ m_Md_passes.1.cls ≠ "java/lang/invoke/VarHandle" ∧ (parseMethodDescriptor m_Md_passes.1.desc).map (fun d => d.parameters.length) = some 2) := ⟨gt_in 13 (by decide +kernel) rfl, gt_in 1270 (by rfl) rfl, by decide +kernel⟩
set_option maxRecDepth 100000 in
theorem kV_Md_passes : Cond.instanceMethod m_Md_passes.1 ∈ gtbl ∧ Cond.selects m_Md_passes.1.cls m_Md_passes.1 m_Md_passes.1 ∈ gtbl ∧ ∃ (T : u_T) (N : Nat), xcl[12]? = some (m_Md_passes.1.cls, T, N) := ⟨gt_in 1269 (by decide +kernel) rfl, gt_pv 38 (by decide +kernel) rfl, xT_Md, 52, rfl⟩
set_option maxRecDepth 100000 in
theorem kA_Md_digits : Cond.initialized m_Md_digits.1.cls ∈ gtbl ∧ Cond.code m_Md_digits.1 m_Md_digits.2.1 m_Md_digits.2.2.1 m_Md_digits.2.2.2.1 ∈ gtbl ∧ (m_Md_digits.1.cls ≠ "java/lang/invoke/MethodHandle" ∧ m_Md_digits.1.cls ≠ "java/lang/invoke/VarHandle" ∧ (parseMethodDescriptor m_Md_digits.1.desc).map (fun d => d.parameters.length) = some 0) := ⟨gt_in 13 (by decide +kernel) rfl, gt_in 1274 (by rfl) rfl, by decide +kernel⟩
set_option maxRecDepth 100000 in
theorem kV_Md_digits : Cond.instanceMethod m_Md_digits.1 ∈ gtbl ∧ Cond.selects m_Md_digits.1.cls m_Md_digits.1 m_Md_digits.1 ∈ gtbl ∧ ∃ (T : u_T) (N : Nat), xcl[12]? = some (m_Md_digits.1.cls, T, N) := ⟨gt_in 1273 (by decide +kernel) rfl, gt_pv 39 (by decide +kernel) rfl, xT_Md, 52, rfl⟩
set_option maxRecDepth 100000 in
theorem kA_Md_number : Cond.initialized m_Md_number.1.cls ∈ gtbl ∧ Cond.code m_Md_number.1 m_Md_number.2.1 m_Md_number.2.2.1 m_Md_number.2.2.2.1 ∈ gtbl ∧ (m_Md_number.1.cls ≠ "java/lang/invoke/MethodHandle" ∧ m_Md_number.1.cls ≠ "java/lang/invoke/VarHandle" ∧ (parseMethodDescriptor m_Md_number.1.desc).map (fun d => d.parameters.length) = some 2) := ⟨gt_in 13 (by decide +kernel) rfl, gt_in 1332 (by rfl) rfl, by decide +kernel⟩
set_option maxRecDepth 100000 in
theorem kV_Md_number : Cond.instanceMethod m_Md_number.1 ∈ gtbl ∧ Cond.selects m_Md_number.1.cls m_Md_number.1 m_Md_number.1 ∈ gtbl ∧ ∃ (T : u_T) (N : Nat), xcl[12]? = some (m_Md_number.1.cls, T, N) := ⟨gt_in 1331 (by decide +kernel) rfl, gt_pv 46 (by decide +kernel) rfl, xT_Md, 52, rfl⟩
set_option maxRecDepth 100000 in
theorem kA_Md_begins : Cond.initialized m_Md_begins.1.cls ∈ gtbl ∧ Cond.code m_Md_begins.1 m_Md_begins.2.1 m_Md_begins.2.2.1 m_Md_begins.2.2.2.1 ∈ gtbl ∧ (m_Md_begins.1.cls ≠ "java/lang/invoke/MethodHandle" ∧ m_Md_begins.1.cls ≠ "java/lang/invoke/VarHandle" ∧ (parseMethodDescriptor m_Md_begins.1.desc).map (fun d => d.parameters.length) = some 0) := ⟨gt_in 13 (by decide +kernel) rfl, gt_in 1238 (by rfl) rfl, by decide +kernel⟩
set_option maxRecDepth 100000 in
theorem kV_Md_begins : Cond.instanceMethod m_Md_begins.1 ∈ gtbl ∧ Cond.selects m_Md_begins.1.cls m_Md_begins.1 m_Md_begins.1 ∈ gtbl ∧ ∃ (T : u_T) (N : Nat), xcl[12]? = some (m_Md_begins.1.cls, T, N) := ⟨gt_in 1237 (by decide +kernel) rfl, gt_pv 32 (by decide +kernel) rfl, xT_Md, 52, rfl⟩
set_option maxRecDepth 100000 in
theorem kA_Md_ends : Cond.initialized m_Md_ends.1.cls ∈ gtbl ∧ Cond.code m_Md_ends.1 m_Md_ends.2.1 m_Md_ends.2.2.1 m_Md_ends.2.2.2.1 ∈ gtbl ∧ (m_Md_ends.1.cls ≠ "java/lang/invoke/MethodHandle" ∧ m_Md_ends.1.cls ≠ "java/lang/invoke/VarHandle" ∧ (parseMethodDescriptor m_Md_ends.1.desc).map (fun d => d.parameters.length) = some 0) := ⟨gt_in 13 (by decide +kernel) rfl, gt_in 1281 (by rfl) rfl, by decide +kernel⟩
set_option maxRecDepth 100000 in
theorem kV_Md_ends : Cond.instanceMethod m_Md_ends.1 ∈ gtbl ∧ Cond.selects m_Md_ends.1.cls m_Md_ends.1 m_Md_ends.1 ∈ gtbl ∧ ∃ (T : u_T) (N : Nat), xcl[12]? = some (m_Md_ends.1.cls, T, N) := ⟨gt_in 1280 (by decide +kernel) rfl, gt_pv 40 (by decide +kernel) rfl, xT_Md, 52, rfl⟩
set_option maxRecDepth 100000 in
theorem kA_Md_fault : Cond.initialized m_Md_fault.1.cls ∈ gtbl ∧ Cond.code m_Md_fault.1 m_Md_fault.2.1 m_Md_fault.2.2.1 m_Md_fault.2.2.2.1 ∈ gtbl ∧ (m_Md_fault.1.cls ≠ "java/lang/invoke/MethodHandle" ∧ m_Md_fault.1.cls ≠ "java/lang/invoke/VarHandle" ∧ (parseMethodDescriptor m_Md_fault.1.desc).map (fun d => d.parameters.length) = some 1) := ⟨gt_in 13 (by decide +kernel) rfl, gt_in 1230 (by rfl) rfl, by decide +kernel⟩
set_option maxRecDepth 100000 in
theorem kV_Md_fault : Cond.instanceMethod m_Md_fault.1 ∈ gtbl ∧ Cond.selects m_Md_fault.1.cls m_Md_fault.1 m_Md_fault.1 ∈ gtbl ∧ ∃ (T : u_T) (N : Nat), xcl[12]? = some (m_Md_fault.1.cls, T, N) := ⟨gt_in 1228 (by decide +kernel) rfl, gt_in 1229 (by decide +kernel) rfl, xT_Md, 52, rfl⟩
set_option maxRecDepth 100000 in
theorem kA_Md_isPart : Cond.initialized m_Md_isPart.1.cls ∈ gtbl ∧ Cond.code m_Md_isPart.1 m_Md_isPart.2.1 m_Md_isPart.2.2.1 m_Md_isPart.2.2.2.1 ∈ gtbl ∧ (m_Md_isPart.1.cls ≠ "java/lang/invoke/MethodHandle" ∧ m_Md_isPart.1.cls ≠ "java/lang/invoke/VarHandle" ∧ (parseMethodDescriptor m_Md_isPart.1.desc).map (fun d => d.parameters.length) = some 1) := ⟨gt_in 13 (by decide +kernel) rfl, gt_in 1292 (by rfl) rfl, by decide +kernel⟩
set_option maxRecDepth 100000 in
theorem kS_Md_isPart : Cond.static m_Md_isPart.1 ∈ gtbl := gt_in 1291 (by decide +kernel) rfl
set_option maxRecDepth 100000 in
theorem kA_Md_isEdition : Cond.initialized m_Md_isEdition.1.cls ∈ gtbl ∧ Cond.code m_Md_isEdition.1 m_Md_isEdition.2.1 m_Md_isEdition.2.2.1 m_Md_isEdition.2.2.2.1 ∈ gtbl ∧ (m_Md_isEdition.1.cls ≠ "java/lang/invoke/MethodHandle" ∧ m_Md_isEdition.1.cls ≠ "java/lang/invoke/VarHandle" ∧ (parseMethodDescriptor m_Md_isEdition.1.desc).map (fun d => d.parameters.length) = some 2) := ⟨gt_in 13 (by decide +kernel) rfl, gt_in 1289 (by rfl) rfl, by decide +kernel⟩
set_option maxRecDepth 100000 in
theorem kV_Md_isEdition : Cond.instanceMethod m_Md_isEdition.1 ∈ gtbl ∧ Cond.selects m_Md_isEdition.1.cls m_Md_isEdition.1 m_Md_isEdition.1 ∈ gtbl ∧ ∃ (T : u_T) (N : Nat), xcl[12]? = some (m_Md_isEdition.1.cls, T, N) := ⟨gt_in 1288 (by decide +kernel) rfl, gt_pv 42 (by decide +kernel) rfl, xT_Md, 52, rfl⟩
set_option maxRecDepth 100000 in
theorem kA_Md_name : Cond.initialized m_Md_name.1.cls ∈ gtbl ∧ Cond.code m_Md_name.1 m_Md_name.2.1 m_Md_name.2.2.1 m_Md_name.2.2.2.1 ∈ gtbl ∧ (m_Md_name.1.cls ≠ "java/lang/invoke/MethodHandle" ∧ m_Md_name.1.cls ≠ "java/lang/invoke/VarHandle" ∧ (parseMethodDescriptor m_Md_name.1.desc).map (fun d => d.parameters.length) = some 1) := ⟨gt_in 13 (by decide +kernel) rfl, gt_in 1242 (by rfl) rfl, by decide +kernel⟩
set_option maxRecDepth 100000 in
theorem kV_Md_name : Cond.instanceMethod m_Md_name.1 ∈ gtbl ∧ Cond.selects m_Md_name.1.cls m_Md_name.1 m_Md_name.1 ∈ gtbl ∧ ∃ (T : u_T) (N : Nat), xcl[12]? = some (m_Md_name.1.cls, T, N) := ⟨gt_in 1241 (by decide +kernel) rfl, gt_pv 33 (by decide +kernel) rfl, xT_Md, 52, rfl⟩
set_option maxRecDepth 100000 in
theorem kA_Md_fact : Cond.initialized m_Md_fact.1.cls ∈ gtbl ∧ Cond.code m_Md_fact.1 m_Md_fact.2.1 m_Md_fact.2.2.1 m_Md_fact.2.2.2.1 ∈ gtbl ∧ (m_Md_fact.1.cls ≠ "java/lang/invoke/MethodHandle" ∧ m_Md_fact.1.cls ≠ "java/lang/invoke/VarHandle" ∧ (parseMethodDescriptor m_Md_fact.1.desc).map (fun d => d.parameters.length) = some 2) := ⟨gt_in 13 (by decide +kernel) rfl, gt_in 1234 (by rfl) rfl, by decide +kernel⟩
set_option maxRecDepth 100000 in
theorem kV_Md_fact : Cond.instanceMethod m_Md_fact.1 ∈ gtbl ∧ Cond.selects m_Md_fact.1.cls m_Md_fact.1 m_Md_fact.1 ∈ gtbl ∧ ∃ (T : u_T) (N : Nat), xcl[12]? = some (m_Md_fact.1.cls, T, N) := ⟨gt_in 1232 (by decide +kernel) rfl, gt_in 1233 (by decide +kernel) rfl, xT_Md, 52, rfl⟩
set_option maxRecDepth 100000 in
theorem kA_Md_strike : Cond.initialized m_Md_strike.1.cls ∈ gtbl ∧ Cond.code m_Md_strike.1 m_Md_strike.2.1 m_Md_strike.2.2.1 m_Md_strike.2.2.2.1 ∈ gtbl ∧ (m_Md_strike.1.cls ≠ "java/lang/invoke/MethodHandle" ∧ m_Md_strike.1.cls ≠ "java/lang/invoke/VarHandle" ∧ (parseMethodDescriptor m_Md_strike.1.desc).map (fun d => d.parameters.length) = some 2) := ⟨gt_in 13 (by decide +kernel) rfl, gt_in 1296 (by rfl) rfl, by decide +kernel⟩
set_option maxRecDepth 100000 in
theorem kV_Md_strike : Cond.instanceMethod m_Md_strike.1 ∈ gtbl ∧ Cond.selects m_Md_strike.1.cls m_Md_strike.1 m_Md_strike.1 ∈ gtbl ∧ ∃ (T : u_T) (N : Nat), xcl[12]? = some (m_Md_strike.1.cls, T, N) := ⟨gt_in 1294 (by decide +kernel) rfl, gt_in 1295 (by decide +kernel) rfl, xT_Md, 52, rfl⟩
set_option maxRecDepth 100000 in
theorem kA_Md_isAlike : Cond.initialized m_Md_isAlike.1.cls ∈ gtbl ∧ Cond.code m_Md_isAlike.1 m_Md_isAlike.2.1 m_Md_isAlike.2.2.1 m_Md_isAlike.2.2.2.1 ∈ gtbl ∧ (m_Md_isAlike.1.cls ≠ "java/lang/invoke/MethodHandle" ∧ m_Md_isAlike.1.cls ≠ "java/lang/invoke/VarHandle" ∧ (parseMethodDescriptor m_Md_isAlike.1.desc).map (fun d => d.parameters.length) = some 3) := ⟨gt_in 13 (by decide +kernel) rfl, gt_in 1308 (by rfl) rfl, by decide +kernel⟩
set_option maxRecDepth 100000 in
theorem kV_Md_isAlike : Cond.instanceMethod m_Md_isAlike.1 ∈ gtbl ∧ Cond.selects m_Md_isAlike.1.cls m_Md_isAlike.1 m_Md_isAlike.1 ∈ gtbl ∧ ∃ (T : u_T) (N : Nat), xcl[12]? = some (m_Md_isAlike.1.cls, T, N) := ⟨gt_in 1307 (by decide +kernel) rfl, gt_pv 44 (by decide +kernel) rfl, xT_Md, 52, rfl⟩
set_option maxRecDepth 100000 in
theorem kA_Md_quarrels0 : Cond.initialized m_Md_quarrels0.1.cls ∈ gtbl ∧ Cond.code m_Md_quarrels0.1 m_Md_quarrels0.2.1 m_Md_quarrels0.2.2.1 m_Md_quarrels0.2.2.2.1 ∈ gtbl ∧ (m_Md_quarrels0.1.cls ≠ "java/lang/invoke/MethodHandle" ∧ m_Md_quarrels0.1.cls ≠ "java/lang/invoke/VarHandle" ∧ (parseMethodDescriptor m_Md_quarrels0.1.desc).map (fun d => d.parameters.length) = some 2) := ⟨gt_in 13 (by decide +kernel) rfl, gt_in 1304 (by rfl) rfl, by decide +kernel⟩
set_option maxRecDepth 100000 in
theorem kV_Md_quarrels0 : Cond.instanceMethod m_Md_quarrels0.1 ∈ gtbl ∧ Cond.selects m_Md_quarrels0.1.cls m_Md_quarrels0.1 m_Md_quarrels0.1 ∈ gtbl ∧ ∃ (T : u_T) (N : Nat), xcl[12]? = some (m_Md_quarrels0.1.cls, T, N) := ⟨gt_in 1303 (by decide +kernel) rfl, gt_pv 43 (by decide +kernel) rfl, xT_Md, 52, rfl⟩
set_option maxRecDepth 100000 in
theorem kA_Md_quarrel : Cond.initialized m_Md_quarrel.1.cls ∈ gtbl ∧ Cond.code m_Md_quarrel.1 m_Md_quarrel.2.1 m_Md_quarrel.2.2.1 m_Md_quarrel.2.2.2.1 ∈ gtbl ∧ (m_Md_quarrel.1.cls ≠ "java/lang/invoke/MethodHandle" ∧ m_Md_quarrel.1.cls ≠ "java/lang/invoke/VarHandle" ∧ (parseMethodDescriptor m_Md_quarrel.1.desc).map (fun d => d.parameters.length) = some 2) := ⟨gt_in 13 (by decide +kernel) rfl, gt_in 1300 (by rfl) rfl, by decide +kernel⟩
set_option maxRecDepth 100000 in
theorem kV_Md_quarrel : Cond.instanceMethod m_Md_quarrel.1 ∈ gtbl ∧ Cond.selects m_Md_quarrel.1.cls m_Md_quarrel.1 m_Md_quarrel.1 ∈ gtbl ∧ ∃ (T : u_T) (N : Nat), xcl[12]? = some (m_Md_quarrel.1.cls, T, N) := ⟨gt_in 1298 (by decide +kernel) rfl, gt_in 1299 (by decide +kernel) rfl, xT_Md, 52, rfl⟩
set_option maxRecDepth 100000 in
theorem kA_Md_stands2 : Cond.initialized m_Md_stands2.1.cls ∈ gtbl ∧ Cond.code m_Md_stands2.1 m_Md_stands2.2.1 m_Md_stands2.2.2.1 m_Md_stands2.2.2.2.1 ∈ gtbl ∧ (m_Md_stands2.1.cls ≠ "java/lang/invoke/MethodHandle" ∧ m_Md_stands2.1.cls ≠ "java/lang/invoke/VarHandle" ∧ (parseMethodDescriptor m_Md_stands2.1.desc).map (fun d => d.parameters.length) = some 2) := ⟨gt_in 13 (by decide +kernel) rfl, gt_in 1316 (by rfl) rfl, by decide +kernel⟩
set_option maxRecDepth 100000 in
theorem kV_Md_stands2 : Cond.instanceMethod m_Md_stands2.1 ∈ gtbl ∧ Cond.selects m_Md_stands2.1.cls m_Md_stands2.1 m_Md_stands2.1 ∈ gtbl ∧ ∃ (T : u_T) (N : Nat), xcl[12]? = some (m_Md_stands2.1.cls, T, N) := ⟨gt_in 1315 (by decide +kernel) rfl, gt_pv 45 (by decide +kernel) rfl, xT_Md, 52, rfl⟩
set_option maxRecDepth 100000 in
theorem kA_Md_quarrels : Cond.initialized m_Md_quarrels.1.cls ∈ gtbl ∧ Cond.code m_Md_quarrels.1 m_Md_quarrels.2.1 m_Md_quarrels.2.2.1 m_Md_quarrels.2.2.2.1 ∈ gtbl ∧ (m_Md_quarrels.1.cls ≠ "java/lang/invoke/MethodHandle" ∧ m_Md_quarrels.1.cls ≠ "java/lang/invoke/VarHandle" ∧ (parseMethodDescriptor m_Md_quarrels.1.desc).map (fun d => d.parameters.length) = some 1) := ⟨gt_in 13 (by decide +kernel) rfl, gt_in 1312 (by rfl) rfl, by decide +kernel⟩
set_option maxRecDepth 100000 in
theorem kV_Md_quarrels : Cond.instanceMethod m_Md_quarrels.1 ∈ gtbl ∧ Cond.selects m_Md_quarrels.1.cls m_Md_quarrels.1 m_Md_quarrels.1 ∈ gtbl ∧ ∃ (T : u_T) (N : Nat), xcl[12]? = some (m_Md_quarrels.1.cls, T, N) := ⟨gt_in 1310 (by decide +kernel) rfl, gt_in 1311 (by decide +kernel) rfl, xT_Md, 52, rfl⟩
set_option maxRecDepth 100000 in
theorem kA_Md_found : Cond.initialized m_Md_found.1.cls ∈ gtbl ∧ Cond.code m_Md_found.1 m_Md_found.2.1 m_Md_found.2.2.1 m_Md_found.2.2.2.1 ∈ gtbl ∧ (m_Md_found.1.cls ≠ "java/lang/invoke/MethodHandle" ∧ m_Md_found.1.cls ≠ "java/lang/invoke/VarHandle" ∧ (parseMethodDescriptor m_Md_found.1.desc).map (fun d => d.parameters.length) = some 2) := ⟨gt_in 13 (by decide +kernel) rfl, gt_in 1320 (by rfl) rfl, by decide +kernel⟩
set_option maxRecDepth 100000 in
theorem kV_Md_found : Cond.instanceMethod m_Md_found.1 ∈ gtbl ∧ Cond.selects m_Md_found.1.cls m_Md_found.1 m_Md_found.1 ∈ gtbl ∧ ∃ (T : u_T) (N : Nat), xcl[12]? = some (m_Md_found.1.cls, T, N) := ⟨gt_in 1318 (by decide +kernel) rfl, gt_in 1319 (by decide +kernel) rfl, xT_Md, 52, rfl⟩
set_option maxRecDepth 100000 in
theorem kA_Md_mend : Cond.initialized m_Md_mend.1.cls ∈ gtbl ∧ Cond.code m_Md_mend.1 m_Md_mend.2.1 m_Md_mend.2.2.1 m_Md_mend.2.2.2.1 ∈ gtbl ∧ (m_Md_mend.1.cls ≠ "java/lang/invoke/MethodHandle" ∧ m_Md_mend.1.cls ≠ "java/lang/invoke/VarHandle" ∧ (parseMethodDescriptor m_Md_mend.1.desc).map (fun d => d.parameters.length) = some 1) := ⟨gt_in 13 (by decide +kernel) rfl, gt_in 1324 (by rfl) rfl, by decide +kernel⟩
set_option maxRecDepth 100000 in
theorem kV_Md_mend : Cond.instanceMethod m_Md_mend.1 ∈ gtbl ∧ Cond.selects m_Md_mend.1.cls m_Md_mend.1 m_Md_mend.1 ∈ gtbl ∧ ∃ (T : u_T) (N : Nat), xcl[12]? = some (m_Md_mend.1.cls, T, N) := ⟨gt_in 1322 (by decide +kernel) rfl, gt_in 1323 (by decide +kernel) rfl, xT_Md, 52, rfl⟩
set_option maxRecDepth 100000 in
theorem kA_Md_agree : Cond.initialized m_Md_agree.1.cls ∈ gtbl ∧ Cond.code m_Md_agree.1 m_Md_agree.2.1 m_Md_agree.2.2.1 m_Md_agree.2.2.2.1 ∈ gtbl ∧ (m_Md_agree.1.cls ≠ "java/lang/invoke/MethodHandle" ∧ m_Md_agree.1.cls ≠ "java/lang/invoke/VarHandle" ∧ (parseMethodDescriptor m_Md_agree.1.desc).map (fun d => d.parameters.length) = some 1) := ⟨gt_in 13 (by decide +kernel) rfl, gt_in 1328 (by rfl) rfl, by decide +kernel⟩
set_option maxRecDepth 100000 in
theorem kV_Md_agree : Cond.instanceMethod m_Md_agree.1 ∈ gtbl ∧ Cond.selects m_Md_agree.1.cls m_Md_agree.1 m_Md_agree.1 ∈ gtbl ∧ ∃ (T : u_T) (N : Nat), xcl[12]? = some (m_Md_agree.1.cls, T, N) := ⟨gt_in 1326 (by decide +kernel) rfl, gt_in 1327 (by decide +kernel) rfl, xT_Md, 52, rfl⟩
set_option maxRecDepth 100000 in
theorem kA_Md_agreed : Cond.initialized m_Md_agreed.1.cls ∈ gtbl ∧ Cond.code m_Md_agreed.1 m_Md_agreed.2.1 m_Md_agreed.2.2.1 m_Md_agreed.2.2.2.1 ∈ gtbl ∧ (m_Md_agreed.1.cls ≠ "java/lang/invoke/MethodHandle" ∧ m_Md_agreed.1.cls ≠ "java/lang/invoke/VarHandle" ∧ (parseMethodDescriptor m_Md_agreed.1.desc).map (fun d => d.parameters.length) = some 1) := ⟨gt_in 13 (by decide +kernel) rfl, gt_in 1340 (by rfl) rfl, by decide +kernel⟩
set_option maxRecDepth 100000 in
theorem kV_Md_agreed : Cond.instanceMethod m_Md_agreed.1 ∈ gtbl ∧ Cond.selects m_Md_agreed.1.cls m_Md_agreed.1 m_Md_agreed.1 ∈ gtbl ∧ ∃ (T : u_T) (N : Nat), xcl[12]? = some (m_Md_agreed.1.cls, T, N) := ⟨gt_in 1338 (by decide +kernel) rfl, gt_in 1339 (by decide +kernel) rfl, xT_Md, 52, rfl⟩
set_option maxRecDepth 100000 in
theorem kA_Md_share : Cond.initialized m_Md_share.1.cls ∈ gtbl ∧ Cond.code m_Md_share.1 m_Md_share.2.1 m_Md_share.2.2.1 m_Md_share.2.2.2.1 ∈ gtbl ∧ (m_Md_share.1.cls ≠ "java/lang/invoke/MethodHandle" ∧ m_Md_share.1.cls ≠ "java/lang/invoke/VarHandle" ∧ (parseMethodDescriptor m_Md_share.1.desc).map (fun d => d.parameters.length) = some 1) := ⟨gt_in 13 (by decide +kernel) rfl, gt_in 1344 (by rfl) rfl, by decide +kernel⟩
set_option maxRecDepth 100000 in
theorem kV_Md_share : Cond.instanceMethod m_Md_share.1 ∈ gtbl ∧ Cond.selects m_Md_share.1.cls m_Md_share.1 m_Md_share.1 ∈ gtbl ∧ ∃ (T : u_T) (N : Nat), xcl[12]? = some (m_Md_share.1.cls, T, N) := ⟨gt_in 1342 (by decide +kernel) rfl, gt_in 1343 (by decide +kernel) rfl, xT_Md, 52, rfl⟩
set_option maxRecDepth 100000 in
theorem kA_Md_lateDays : Cond.initialized m_Md_lateDays.1.cls ∈ gtbl ∧ Cond.code m_Md_lateDays.1 m_Md_lateDays.2.1 m_Md_lateDays.2.2.1 m_Md_lateDays.2.2.2.1 ∈ gtbl ∧ (m_Md_lateDays.1.cls ≠ "java/lang/invoke/MethodHandle" ∧ m_Md_lateDays.1.cls ≠ "java/lang/invoke/VarHandle" ∧ (parseMethodDescriptor m_Md_lateDays.1.desc).map (fun d => d.parameters.length) = some 1) := ⟨gt_in 13 (by decide +kernel) rfl, gt_in 1351 (by rfl) rfl, by decide +kernel⟩
set_option maxRecDepth 100000 in
theorem kV_Md_lateDays : Cond.instanceMethod m_Md_lateDays.1 ∈ gtbl ∧ Cond.selects m_Md_lateDays.1.cls m_Md_lateDays.1 m_Md_lateDays.1 ∈ gtbl ∧ ∃ (T : u_T) (N : Nat), xcl[12]? = some (m_Md_lateDays.1.cls, T, N) := ⟨gt_in 1350 (by decide +kernel) rfl, gt_pv 47 (by decide +kernel) rfl, xT_Md, 52, rfl⟩
set_option maxRecDepth 100000 in
theorem kA_Md_due : Cond.initialized m_Md_due.1.cls ∈ gtbl ∧ Cond.code m_Md_due.1 m_Md_due.2.1 m_Md_due.2.2.1 m_Md_due.2.2.2.1 ∈ gtbl ∧ (m_Md_due.1.cls ≠ "java/lang/invoke/MethodHandle" ∧ m_Md_due.1.cls ≠ "java/lang/invoke/VarHandle" ∧ (parseMethodDescriptor m_Md_due.1.desc).map (fun d => d.parameters.length) = some 1) := ⟨gt_in 13 (by decide +kernel) rfl, gt_in 1355 (by rfl) rfl, by decide +kernel⟩
set_option maxRecDepth 100000 in
theorem kV_Md_due : Cond.instanceMethod m_Md_due.1 ∈ gtbl ∧ Cond.selects m_Md_due.1.cls m_Md_due.1 m_Md_due.1 ∈ gtbl ∧ ∃ (T : u_T) (N : Nat), xcl[12]? = some (m_Md_due.1.cls, T, N) := ⟨gt_in 1353 (by decide +kernel) rfl, gt_in 1354 (by decide +kernel) rfl, xT_Md, 52, rfl⟩
set_option maxRecDepth 100000 in
theorem kA_Md_start : Cond.initialized m_Md_start.1.cls ∈ gtbl ∧ Cond.code m_Md_start.1 m_Md_start.2.1 m_Md_start.2.2.1 m_Md_start.2.2.2.1 ∈ gtbl ∧ (m_Md_start.1.cls ≠ "java/lang/invoke/MethodHandle" ∧ m_Md_start.1.cls ≠ "java/lang/invoke/VarHandle" ∧ (parseMethodDescriptor m_Md_start.1.desc).map (fun d => d.parameters.length) = some 1) := ⟨gt_in 13 (by decide +kernel) rfl, gt_in 1360 (by rfl) rfl, by decide +kernel⟩
set_option maxRecDepth 100000 in
theorem kV_Md_start : Cond.instanceMethod m_Md_start.1 ∈ gtbl ∧ Cond.selects m_Md_start.1.cls m_Md_start.1 m_Md_start.1 ∈ gtbl ∧ ∃ (T : u_T) (N : Nat), xcl[12]? = some (m_Md_start.1.cls, T, N) := ⟨gt_in 1358 (by decide +kernel) rfl, gt_in 1359 (by decide +kernel) rfl, xT_Md, 52, rfl⟩
set_option maxRecDepth 100000 in
theorem kA_Md_came : Cond.initialized m_Md_came.1.cls ∈ gtbl ∧ Cond.code m_Md_came.1 m_Md_came.2.1 m_Md_came.2.2.1 m_Md_came.2.2.2.1 ∈ gtbl ∧ (m_Md_came.1.cls ≠ "java/lang/invoke/MethodHandle" ∧ m_Md_came.1.cls ≠ "java/lang/invoke/VarHandle" ∧ (parseMethodDescriptor m_Md_came.1.desc).map (fun d => d.parameters.length) = some 2) := ⟨gt_in 13 (by decide +kernel) rfl, gt_in 1364 (by rfl) rfl, by decide +kernel⟩
set_option maxRecDepth 100000 in
theorem kV_Md_came : Cond.instanceMethod m_Md_came.1 ∈ gtbl ∧ Cond.selects m_Md_came.1.cls m_Md_came.1 m_Md_came.1 ∈ gtbl ∧ ∃ (T : u_T) (N : Nat), xcl[12]? = some (m_Md_came.1.cls, T, N) := ⟨gt_in 1362 (by decide +kernel) rfl, gt_in 1363 (by decide +kernel) rfl, xT_Md, 52, rfl⟩
set_option maxRecDepth 100000 in
theorem kA_Md_prices : Cond.initialized m_Md_prices.1.cls ∈ gtbl ∧ Cond.code m_Md_prices.1 m_Md_prices.2.1 m_Md_prices.2.2.1 m_Md_prices.2.2.2.1 ∈ gtbl ∧ (m_Md_prices.1.cls ≠ "java/lang/invoke/MethodHandle" ∧ m_Md_prices.1.cls ≠ "java/lang/invoke/VarHandle" ∧ (parseMethodDescriptor m_Md_prices.1.desc).map (fun d => d.parameters.length) = some 4) := ⟨gt_in 13 (by decide +kernel) rfl, gt_in 1368 (by rfl) rfl, by decide +kernel⟩
set_option maxRecDepth 100000 in
theorem kV_Md_prices : Cond.instanceMethod m_Md_prices.1 ∈ gtbl ∧ Cond.selects m_Md_prices.1.cls m_Md_prices.1 m_Md_prices.1 ∈ gtbl ∧ ∃ (T : u_T) (N : Nat), xcl[12]? = some (m_Md_prices.1.cls, T, N) := ⟨gt_in 1366 (by decide +kernel) rfl, gt_in 1367 (by decide +kernel) rfl, xT_Md, 52, rfl⟩
set_option maxRecDepth 100000 in
theorem kA_Md_row : Cond.initialized m_Md_row.1.cls ∈ gtbl ∧ Cond.code m_Md_row.1 m_Md_row.2.1 m_Md_row.2.2.1 m_Md_row.2.2.2.1 ∈ gtbl ∧ (m_Md_row.1.cls ≠ "java/lang/invoke/MethodHandle" ∧ m_Md_row.1.cls ≠ "java/lang/invoke/VarHandle" ∧ (parseMethodDescriptor m_Md_row.1.desc).map (fun d => d.parameters.length) = some 2) := ⟨gt_in 13 (by decide +kernel) rfl, gt_in 1375 (by rfl) rfl, by decide +kernel⟩
set_option maxRecDepth 100000 in
theorem kS_Md_row : Cond.static m_Md_row.1 ∈ gtbl := gt_in 1374 (by decide +kernel) rfl
set_option maxRecDepth 100000 in
theorem kA_Md_stays : Cond.initialized m_Md_stays.1.cls ∈ gtbl ∧ Cond.code m_Md_stays.1 m_Md_stays.2.1 m_Md_stays.2.2.1 m_Md_stays.2.2.2.1 ∈ gtbl ∧ (m_Md_stays.1.cls ≠ "java/lang/invoke/MethodHandle" ∧ m_Md_stays.1.cls ≠ "java/lang/invoke/VarHandle" ∧ (parseMethodDescriptor m_Md_stays.1.desc).map (fun d => d.parameters.length) = some 2) := ⟨gt_in 13 (by decide +kernel) rfl, gt_in 1387 (by rfl) rfl, by decide +kernel⟩
set_option maxRecDepth 100000 in
theorem kV_Md_stays : Cond.instanceMethod m_Md_stays.1 ∈ gtbl ∧ Cond.selects m_Md_stays.1.cls m_Md_stays.1 m_Md_stays.1 ∈ gtbl ∧ ∃ (T : u_T) (N : Nat), xcl[12]? = some (m_Md_stays.1.cls, T, N) := ⟨gt_in 1386 (by decide +kernel) rfl, gt_pv 48 (by decide +kernel) rfl, xT_Md, 52, rfl⟩
set_option maxRecDepth 100000 in
theorem kA_Md_keep : Cond.initialized m_Md_keep.1.cls ∈ gtbl ∧ Cond.code m_Md_keep.1 m_Md_keep.2.1 m_Md_keep.2.2.1 m_Md_keep.2.2.2.1 ∈ gtbl ∧ (m_Md_keep.1.cls ≠ "java/lang/invoke/MethodHandle" ∧ m_Md_keep.1.cls ≠ "java/lang/invoke/VarHandle" ∧ (parseMethodDescriptor m_Md_keep.1.desc).map (fun d => d.parameters.length) = some 3) := ⟨gt_in 13 (by decide +kernel) rfl, gt_in 1372 (by rfl) rfl, by decide +kernel⟩
set_option maxRecDepth 100000 in
theorem kV_Md_keep : Cond.instanceMethod m_Md_keep.1 ∈ gtbl ∧ Cond.selects m_Md_keep.1.cls m_Md_keep.1 m_Md_keep.1 ∈ gtbl ∧ ∃ (T : u_T) (N : Nat), xcl[12]? = some (m_Md_keep.1.cls, T, N) := ⟨gt_in 1370 (by decide +kernel) rfl, gt_in 1371 (by decide +kernel) rfl, xT_Md, 52, rfl⟩
set_option maxRecDepth 100000 in
theorem kA_Md_print : Cond.initialized m_Md_print.1.cls ∈ gtbl ∧ Cond.code m_Md_print.1 m_Md_print.2.1 m_Md_print.2.2.1 m_Md_print.2.2.2.1 ∈ gtbl ∧ (m_Md_print.1.cls ≠ "java/lang/invoke/MethodHandle" ∧ m_Md_print.1.cls ≠ "java/lang/invoke/VarHandle" ∧ (parseMethodDescriptor m_Md_print.1.desc).map (fun d => d.parameters.length) = some 3) := ⟨gt_in 13 (by decide +kernel) rfl, gt_in 1379 (by rfl) rfl, by decide +kernel⟩
set_option maxRecDepth 100000 in
theorem kV_Md_print : Cond.instanceMethod m_Md_print.1 ∈ gtbl ∧ Cond.selects m_Md_print.1.cls m_Md_print.1 m_Md_print.1 ∈ gtbl ∧ ∃ (T : u_T) (N : Nat), xcl[12]? = some (m_Md_print.1.cls, T, N) := ⟨gt_in 1377 (by decide +kernel) rfl, gt_in 1378 (by decide +kernel) rfl, xT_Md, 52, rfl⟩
set_option maxRecDepth 100000 in
theorem kA_Md_sell : Cond.initialized m_Md_sell.1.cls ∈ gtbl ∧ Cond.code m_Md_sell.1 m_Md_sell.2.1 m_Md_sell.2.2.1 m_Md_sell.2.2.2.1 ∈ gtbl ∧ (m_Md_sell.1.cls ≠ "java/lang/invoke/MethodHandle" ∧ m_Md_sell.1.cls ≠ "java/lang/invoke/VarHandle" ∧ (parseMethodDescriptor m_Md_sell.1.desc).map (fun d => d.parameters.length) = some 3) := ⟨gt_in 13 (by decide +kernel) rfl, gt_in 1383 (by rfl) rfl, by decide +kernel⟩
set_option maxRecDepth 100000 in
theorem kV_Md_sell : Cond.instanceMethod m_Md_sell.1 ∈ gtbl ∧ Cond.selects m_Md_sell.1.cls m_Md_sell.1 m_Md_sell.1 ∈ gtbl ∧ ∃ (T : u_T) (N : Nat), xcl[12]? = some (m_Md_sell.1.cls, T, N) := ⟨gt_in 1381 (by decide +kernel) rfl, gt_in 1382 (by decide +kernel) rfl, xT_Md, 52, rfl⟩
set_option maxRecDepth 100000 in
theorem kA_Md_pulp : Cond.initialized m_Md_pulp.1.cls ∈ gtbl ∧ Cond.code m_Md_pulp.1 m_Md_pulp.2.1 m_Md_pulp.2.2.1 m_Md_pulp.2.2.2.1 ∈ gtbl ∧ (m_Md_pulp.1.cls ≠ "java/lang/invoke/MethodHandle" ∧ m_Md_pulp.1.cls ≠ "java/lang/invoke/VarHandle" ∧ (parseMethodDescriptor m_Md_pulp.1.desc).map (fun d => d.parameters.length) = some 2) := ⟨gt_in 13 (by decide +kernel) rfl, gt_in 1391 (by rfl) rfl, by decide +kernel⟩
set_option maxRecDepth 100000 in
theorem kV_Md_pulp : Cond.instanceMethod m_Md_pulp.1 ∈ gtbl ∧ Cond.selects m_Md_pulp.1.cls m_Md_pulp.1 m_Md_pulp.1 ∈ gtbl ∧ ∃ (T : u_T) (N : Nat), xcl[12]? = some (m_Md_pulp.1.cls, T, N) := ⟨gt_in 1389 (by decide +kernel) rfl, gt_in 1390 (by decide +kernel) rfl, xT_Md, 52, rfl⟩
set_option maxRecDepth 100000 in
theorem kA_Md_stock : Cond.initialized m_Md_stock.1.cls ∈ gtbl ∧ Cond.code m_Md_stock.1 m_Md_stock.2.1 m_Md_stock.2.2.1 m_Md_stock.2.2.2.1 ∈ gtbl ∧ (m_Md_stock.1.cls ≠ "java/lang/invoke/MethodHandle" ∧ m_Md_stock.1.cls ≠ "java/lang/invoke/VarHandle" ∧ (parseMethodDescriptor m_Md_stock.1.desc).map (fun d => d.parameters.length) = some 3) := ⟨gt_in 13 (by decide +kernel) rfl, gt_in 1395 (by rfl) rfl, by decide +kernel⟩
set_option maxRecDepth 100000 in
theorem kV_Md_stock : Cond.instanceMethod m_Md_stock.1 ∈ gtbl ∧ Cond.selects m_Md_stock.1.cls m_Md_stock.1 m_Md_stock.1 ∈ gtbl ∧ ∃ (T : u_T) (N : Nat), xcl[12]? = some (m_Md_stock.1.cls, T, N) := ⟨gt_in 1393 (by decide +kernel) rfl, gt_in 1394 (by decide +kernel) rfl, xT_Md, 52, rfl⟩
set_option maxRecDepth 100000 in
theorem kA_Md_volume : Cond.initialized m_Md_volume.1.cls ∈ gtbl ∧ Cond.code m_Md_volume.1 m_Md_volume.2.1 m_Md_volume.2.2.1 m_Md_volume.2.2.2.1 ∈ gtbl ∧ (m_Md_volume.1.cls ≠ "java/lang/invoke/MethodHandle" ∧ m_Md_volume.1.cls ≠ "java/lang/invoke/VarHandle" ∧ (parseMethodDescriptor m_Md_volume.1.desc).map (fun d => d.parameters.length) = some 4) := ⟨gt_in 13 (by decide +kernel) rfl, gt_in 1399 (by rfl) rfl, by decide +kernel⟩
set_option maxRecDepth 100000 in
theorem kV_Md_volume : Cond.instanceMethod m_Md_volume.1 ∈ gtbl ∧ Cond.selects m_Md_volume.1.cls m_Md_volume.1 m_Md_volume.1 ∈ gtbl ∧ ∃ (T : u_T) (N : Nat), xcl[12]? = some (m_Md_volume.1.cls, T, N) := ⟨gt_in 1397 (by decide +kernel) rfl, gt_in 1398 (by decide +kernel) rfl, xT_Md, 52, rfl⟩
set_option maxRecDepth 100000 in
theorem kA_Md_foretell : Cond.initialized m_Md_foretell.1.cls ∈ gtbl ∧ Cond.code m_Md_foretell.1 m_Md_foretell.2.1 m_Md_foretell.2.2.1 m_Md_foretell.2.2.2.1 ∈ gtbl ∧ (m_Md_foretell.1.cls ≠ "java/lang/invoke/MethodHandle" ∧ m_Md_foretell.1.cls ≠ "java/lang/invoke/VarHandle" ∧ (parseMethodDescriptor m_Md_foretell.1.desc).map (fun d => d.parameters.length) = some 2) := ⟨gt_in 13 (by decide +kernel) rfl, gt_in 1403 (by rfl) rfl, by decide +kernel⟩
set_option maxRecDepth 100000 in
theorem kV_Md_foretell : Cond.instanceMethod m_Md_foretell.1 ∈ gtbl ∧ Cond.selects m_Md_foretell.1.cls m_Md_foretell.1 m_Md_foretell.1 ∈ gtbl ∧ ∃ (T : u_T) (N : Nat), xcl[12]? = some (m_Md_foretell.1.cls, T, N) := ⟨gt_in 1401 (by decide +kernel) rfl, gt_in 1402 (by decide +kernel) rfl, xT_Md, 52, rfl⟩
set_option maxRecDepth 100000 in
theorem kA_Md_worth : Cond.initialized m_Md_worth.1.cls ∈ gtbl ∧ Cond.code m_Md_worth.1 m_Md_worth.2.1 m_Md_worth.2.2.1 m_Md_worth.2.2.2.1 ∈ gtbl ∧ (m_Md_worth.1.cls ≠ "java/lang/invoke/MethodHandle" ∧ m_Md_worth.1.cls ≠ "java/lang/invoke/VarHandle" ∧ (parseMethodDescriptor m_Md_worth.1.desc).map (fun d => d.parameters.length) = some 3) := ⟨gt_in 13 (by decide +kernel) rfl, gt_in 1407 (by rfl) rfl, by decide +kernel⟩
set_option maxRecDepth 100000 in
theorem kV_Md_worth : Cond.instanceMethod m_Md_worth.1 ∈ gtbl ∧ Cond.selects m_Md_worth.1.cls m_Md_worth.1 m_Md_worth.1 ∈ gtbl ∧ ∃ (T : u_T) (N : Nat), xcl[12]? = some (m_Md_worth.1.cls, T, N) := ⟨gt_in 1405 (by decide +kernel) rfl, gt_in 1406 (by decide +kernel) rfl, xT_Md, 52, rfl⟩
set_option maxRecDepth 100000 in
theorem kA_Md_best : Cond.initialized m_Md_best.1.cls ∈ gtbl ∧ Cond.code m_Md_best.1 m_Md_best.2.1 m_Md_best.2.2.1 m_Md_best.2.2.2.1 ∈ gtbl ∧ (m_Md_best.1.cls ≠ "java/lang/invoke/MethodHandle" ∧ m_Md_best.1.cls ≠ "java/lang/invoke/VarHandle" ∧ (parseMethodDescriptor m_Md_best.1.desc).map (fun d => d.parameters.length) = some 2) := ⟨gt_in 13 (by decide +kernel) rfl, gt_in 1412 (by rfl) rfl, by decide +kernel⟩
set_option maxRecDepth 100000 in
theorem kV_Md_best : Cond.instanceMethod m_Md_best.1 ∈ gtbl ∧ Cond.selects m_Md_best.1.cls m_Md_best.1 m_Md_best.1 ∈ gtbl ∧ ∃ (T : u_T) (N : Nat), xcl[12]? = some (m_Md_best.1.cls, T, N) := ⟨gt_in 1410 (by decide +kernel) rfl, gt_in 1411 (by decide +kernel) rfl, xT_Md, 52, rfl⟩
set_option maxRecDepth 100000 in
theorem kA_Md_purse : Cond.initialized m_Md_purse.1.cls ∈ gtbl ∧ Cond.code m_Md_purse.1 m_Md_purse.2.1 m_Md_purse.2.2.1 m_Md_purse.2.2.2.1 ∈ gtbl ∧ (m_Md_purse.1.cls ≠ "java/lang/invoke/MethodHandle" ∧ m_Md_purse.1.cls ≠ "java/lang/invoke/VarHandle" ∧ (parseMethodDescriptor m_Md_purse.1.desc).map (fun d => d.parameters.length) = some 0) := ⟨gt_in 13 (by decide +kernel) rfl, gt_in 1417 (by rfl) rfl, by decide +kernel⟩
set_option maxRecDepth 100000 in
theorem kV_Md_purse : Cond.instanceMethod m_Md_purse.1 ∈ gtbl ∧ Cond.selects m_Md_purse.1.cls m_Md_purse.1 m_Md_purse.1 ∈ gtbl ∧ ∃ (T : u_T) (N : Nat), xcl[12]? = some (m_Md_purse.1.cls, T, N) := ⟨gt_in 1415 (by decide +kernel) rfl, gt_in 1416 (by decide +kernel) rfl, xT_Md, 52, rfl⟩
set_option maxRecDepth 100000 in
theorem kA_Jm_maxI : Cond.initialized m_Jm_maxI.1.cls ∈ gtbl ∧ Cond.code m_Jm_maxI.1 m_Jm_maxI.2.1 m_Jm_maxI.2.2.1 m_Jm_maxI.2.2.2.1 ∈ gtbl ∧ (m_Jm_maxI.1.cls ≠ "java/lang/invoke/MethodHandle" ∧ m_Jm_maxI.1.cls ≠ "java/lang/invoke/VarHandle" ∧ (parseMethodDescriptor m_Jm_maxI.1.desc).map (fun d => d.parameters.length) = some 2) := ⟨gt_in 15 (by decide +kernel) rfl, gt_in 847 (by rfl) rfl, by decide +kernel⟩
set_option maxRecDepth 100000 in
theorem kS_Jm_maxI : Cond.static m_Jm_maxI.1 ∈ gtbl := gt_in 846 (by decide +kernel) rfl
set_option maxRecDepth 100000 in
theorem kA_Jm_maxJ : Cond.initialized m_Jm_maxJ.1.cls ∈ gtbl ∧ Cond.code m_Jm_maxJ.1 m_Jm_maxJ.2.1 m_Jm_maxJ.2.2.1 m_Jm_maxJ.2.2.2.1 ∈ gtbl ∧ (m_Jm_maxJ.1.cls ≠ "java/lang/invoke/MethodHandle" ∧ m_Jm_maxJ.1.cls ≠ "java/lang/invoke/VarHandle" ∧ (parseMethodDescriptor m_Jm_maxJ.1.desc).map (fun d => d.parameters.length) = some 2) := ⟨gt_in 15 (by decide +kernel) rfl, gt_in 850 (by rfl) rfl, by decide +kernel⟩
set_option maxRecDepth 100000 in
theorem kS_Jm_maxJ : Cond.static m_Jm_maxJ.1 ∈ gtbl := gt_in 849 (by decide +kernel) rfl
set_option maxRecDepth 100000 in
theorem kA_Jm_minI : Cond.initialized m_Jm_minI.1.cls ∈ gtbl ∧ Cond.code m_Jm_minI.1 m_Jm_minI.2.1 m_Jm_minI.2.2.1 m_Jm_minI.2.2.2.1 ∈ gtbl ∧ (m_Jm_minI.1.cls ≠ "java/lang/invoke/MethodHandle" ∧ m_Jm_minI.1.cls ≠ "java/lang/invoke/VarHandle" ∧ (parseMethodDescriptor m_Jm_minI.1.desc).map (fun d => d.parameters.length) = some 2) := ⟨gt_in 15 (by decide +kernel) rfl, gt_in 440 (by rfl) rfl, by decide +kernel⟩
set_option maxRecDepth 100000 in
theorem kS_Jm_minI : Cond.static m_Jm_minI.1 ∈ gtbl := gt_in 439 (by decide +kernel) rfl
set_option maxRecDepth 100000 in
theorem kA_Jm_minJ : Cond.initialized m_Jm_minJ.1.cls ∈ gtbl ∧ Cond.code m_Jm_minJ.1 m_Jm_minJ.2.1 m_Jm_minJ.2.2.1 m_Jm_minJ.2.2.2.1 ∈ gtbl ∧ (m_Jm_minJ.1.cls ≠ "java/lang/invoke/MethodHandle" ∧ m_Jm_minJ.1.cls ≠ "java/lang/invoke/VarHandle" ∧ (parseMethodDescriptor m_Jm_minJ.1.desc).map (fun d => d.parameters.length) = some 2) := ⟨gt_in 15 (by decide +kernel) rfl, gt_in 827 (by rfl) rfl, by decide +kernel⟩
set_option maxRecDepth 100000 in
theorem kS_Jm_minJ : Cond.static m_Jm_minJ.1 ∈ gtbl := gt_in 826 (by decide +kernel) rfl
set_option maxRecDepth 100000 in
theorem kA_Js_length : Cond.initialized m_Js_length.1.cls ∈ gtbl ∧ Cond.code m_Js_length.1 m_Js_length.2.1 m_Js_length.2.2.1 m_Js_length.2.2.2.1 ∈ gtbl ∧ (m_Js_length.1.cls ≠ "java/lang/invoke/MethodHandle" ∧ m_Js_length.1.cls ≠ "java/lang/invoke/VarHandle" ∧ (parseMethodDescriptor m_Js_length.1.desc).map (fun d => d.parameters.length) = some 0) := ⟨gt_in 16 (by decide +kernel) rfl, gt_in 584 (by rfl) rfl, by decide +kernel⟩
set_option maxRecDepth 100000 in
theorem kA_Js_charAt : Cond.initialized m_Js_charAt.1.cls ∈ gtbl ∧ Cond.code m_Js_charAt.1 m_Js_charAt.2.1 m_Js_charAt.2.2.1 m_Js_charAt.2.2.2.1 ∈ gtbl ∧ (m_Js_charAt.1.cls ≠ "java/lang/invoke/MethodHandle" ∧ m_Js_charAt.1.cls ≠ "java/lang/invoke/VarHandle" ∧ (parseMethodDescriptor m_Js_charAt.1.desc).map (fun d => d.parameters.length) = some 1) := ⟨gt_in 16 (by decide +kernel) rfl, gt_in 594 (by rfl) rfl, by decide +kernel⟩
set_option maxRecDepth 100000 in
theorem kA_Js_coder : Cond.initialized m_Js_coder.1.cls ∈ gtbl ∧ Cond.code m_Js_coder.1 m_Js_coder.2.1 m_Js_coder.2.2.1 m_Js_coder.2.2.2.1 ∈ gtbl ∧ (m_Js_coder.1.cls ≠ "java/lang/invoke/MethodHandle" ∧ m_Js_coder.1.cls ≠ "java/lang/invoke/VarHandle" ∧ (parseMethodDescriptor m_Js_coder.1.desc).map (fun d => d.parameters.length) = some 0) := ⟨gt_in 16 (by decide +kernel) rfl, gt_in 588 (by rfl) rfl, by decide +kernel⟩
set_option maxRecDepth 100000 in
theorem kA_Js_isLatin1 : Cond.initialized m_Js_isLatin1.1.cls ∈ gtbl ∧ Cond.code m_Js_isLatin1.1 m_Js_isLatin1.2.1 m_Js_isLatin1.2.2.1 m_Js_isLatin1.2.2.2.1 ∈ gtbl ∧ (m_Js_isLatin1.1.cls ≠ "java/lang/invoke/MethodHandle" ∧ m_Js_isLatin1.1.cls ≠ "java/lang/invoke/VarHandle" ∧ (parseMethodDescriptor m_Js_isLatin1.1.desc).map (fun d => d.parameters.length) = some 0) := ⟨gt_in 16 (by decide +kernel) rfl, gt_in 598 (by rfl) rfl, by decide +kernel⟩
set_option maxRecDepth 100000 in
theorem kA_Js_checkIndex : Cond.initialized m_Js_checkIndex.1.cls ∈ gtbl ∧ Cond.code m_Js_checkIndex.1 m_Js_checkIndex.2.1 m_Js_checkIndex.2.2.1 m_Js_checkIndex.2.2.2.1 ∈ gtbl ∧ (m_Js_checkIndex.1.cls ≠ "java/lang/invoke/MethodHandle" ∧ m_Js_checkIndex.1.cls ≠ "java/lang/invoke/VarHandle" ∧ (parseMethodDescriptor m_Js_checkIndex.1.desc).map (fun d => d.parameters.length) = some 2) := ⟨gt_in 16 (by decide +kernel) rfl, gt_in 604 (by rfl) rfl, by decide +kernel⟩
set_option maxRecDepth 100000 in
theorem kS_Js_checkIndex : Cond.static m_Js_checkIndex.1 ∈ gtbl := gt_in 603 (by decide +kernel) rfl
set_option maxRecDepth 100000 in
theorem kA_Jl_charAt : Cond.initialized m_Jl_charAt.1.cls ∈ gtbl ∧ Cond.code m_Jl_charAt.1 m_Jl_charAt.2.1 m_Jl_charAt.2.2.1 m_Jl_charAt.2.2.2.1 ∈ gtbl ∧ (m_Jl_charAt.1.cls ≠ "java/lang/invoke/MethodHandle" ∧ m_Jl_charAt.1.cls ≠ "java/lang/invoke/VarHandle" ∧ (parseMethodDescriptor m_Jl_charAt.1.desc).map (fun d => d.parameters.length) = some 2) := ⟨gt_in 17 (by decide +kernel) rfl, gt_in 601 (by rfl) rfl, by decide +kernel⟩
set_option maxRecDepth 100000 in
theorem kS_Jl_charAt : Cond.static m_Jl_charAt.1 ∈ gtbl := gt_in 600 (by decide +kernel) rfl
set_option maxRecDepth 100000 in
theorem kA_Ja_fill : Cond.initialized m_Ja_fill.1.cls ∈ gtbl ∧ Cond.code m_Ja_fill.1 m_Ja_fill.2.1 m_Ja_fill.2.2.1 m_Ja_fill.2.2.2.1 ∈ gtbl ∧ (m_Ja_fill.1.cls ≠ "java/lang/invoke/MethodHandle" ∧ m_Ja_fill.1.cls ≠ "java/lang/invoke/VarHandle" ∧ (parseMethodDescriptor m_Ja_fill.1.desc).map (fun d => d.parameters.length) = some 2) := ⟨gt_in 14 (by decide +kernel) rfl, gt_in 429 (by rfl) rfl, by decide +kernel⟩
set_option maxRecDepth 100000 in
theorem kS_Ja_fill : Cond.static m_Ja_fill.1 ∈ gtbl := gt_in 428 (by decide +kernel) rfl
set_option maxRecDepth 100000 in
theorem ml_TH_1 : Cond.methodLink "TaleHouse" 1 Lib.objectInit ∈ gtbl := gt_in 25 (by decide +kernel) rfl
set_option maxRecDepth 100000 in
theorem ml_TH_65 : Cond.methodLink "TaleHouse" 65 m_Tp_hasRoom.1 ∈ gtbl := gt_in 357 (by decide +kernel) rfl
set_option maxRecDepth 100000 in
theorem ml_TH_69 : Cond.methodLink "TaleHouse" 69 m_Tp_append.1 ∈ gtbl := gt_in 361 (by decide +kernel) rfl
set_option maxRecDepth 100000 in
theorem ml_TH_77 : Cond.methodLink "TaleHouse" 77 m_Tp_shorten.1 ∈ gtbl := gt_in 369 (by decide +kernel) rfl
set_option maxRecDepth 100000 in
theorem ml_TH_81 : Cond.methodLink "TaleHouse" 81 m_Mn_addParagraph.1 ∈ gtbl := gt_in 377 (by decide +kernel) rfl
set_option maxRecDepth 100000 in
theorem ml_TH_85 : Cond.methodLink "TaleHouse" 85 m_Mn_addWord.1 ∈ gtbl := gt_in 386 (by decide +kernel) rfl
set_option maxRecDepth 100000 in
theorem ml_TH_88 : Cond.methodLink "TaleHouse" 88 m_Mn_empty.1 ∈ gtbl := gt_in 394 (by decide +kernel) rfl
set_option maxRecDepth 100000 in
theorem ml_TH_92 : Cond.methodLink "TaleHouse" 92 m_Mn_shape.1 ∈ gtbl := gt_in 402 (by decide +kernel) rfl
set_option maxRecDepth 100000 in
theorem ml_TH_99 : Cond.methodLink "TaleHouse" 99 m_Mn_weighBreaks.1 ∈ gtbl := gt_in 414 (by decide +kernel) rfl
set_option maxRecDepth 100000 in
theorem ml_TH_102 : Cond.methodLink "TaleHouse" 102 m_Mn_breakCost.1 ∈ gtbl := gt_in 445 (by decide +kernel) rfl
set_option maxRecDepth 100000 in
theorem ml_TH_107 : Cond.methodLink "TaleHouse" 107 m_Se_leastCost.1 ∈ gtbl := gt_in 455 (by decide +kernel) rfl
set_option maxRecDepth 100000 in
theorem ml_TH_111 : Cond.methodLink "TaleHouse" 111 m_Se_placeAll.1 ∈ gtbl := gt_in 491 (by decide +kernel) rfl
set_option maxRecDepth 100000 in
theorem ml_TH_115 : Cond.methodLink "TaleHouse" 115 m_Se_ofParagraph.1 ∈ gtbl := gt_in 524 (by decide +kernel) rfl
set_option maxRecDepth 100000 in
theorem ml_TH_118 : Cond.methodLink "TaleHouse" 118 m_Se_ofLine.1 ∈ gtbl := gt_in 532 (by decide +kernel) rfl
set_option maxRecDepth 100000 in
theorem ml_TH_121 : Cond.methodLink "TaleHouse" 121 m_Fs_readDraft.1 ∈ gtbl := gt_in 540 (by decide +kernel) rfl
set_option maxRecDepth 100000 in
theorem ml_TH_125 : Cond.methodLink "TaleHouse" 125 m_Tp_discard.1 ∈ gtbl := gt_in 672 (by decide +kernel) rfl
set_option maxRecDepth 100000 in
theorem ml_TH_128 : Cond.methodLink "TaleHouse" 128 m_Pa_haveEdition.1 ∈ gtbl := gt_in 676 (by decide +kernel) rfl
set_option maxRecDepth 100000 in
theorem ml_TH_132 : Cond.methodLink "TaleHouse" 132 m_Fs_addDraft.1 ∈ gtbl := gt_in 683 (by decide +kernel) rfl
set_option maxRecDepth 100000 in
theorem ml_TH_141 : Cond.methodLink "TaleHouse" 141 m_Fs_strikeFrom.1 ∈ gtbl := gt_in 696 (by decide +kernel) rfl
set_option maxRecDepth 100000 in
theorem ml_TH_145 : Cond.methodLink "TaleHouse" 145 m_Fs_quarrelOf.1 ∈ gtbl := gt_in 709 (by decide +kernel) rfl
set_option maxRecDepth 100000 in
theorem ml_TH_148 : Cond.methodLink "TaleHouse" 148 m_Fs_findQuarrels.1 ∈ gtbl := gt_in 725 (by decide +kernel) rfl
set_option maxRecDepth 100000 in
theorem ml_TH_152 : Cond.methodLink "TaleHouse" 152 m_Fs_foundPair.1 ∈ gtbl := gt_in 751 (by decide +kernel) rfl
set_option maxRecDepth 100000 in
theorem ml_TH_155 : Cond.methodLink "TaleHouse" 155 m_Pa_addEdition.1 ∈ gtbl := gt_in 759 (by decide +kernel) rfl
set_option maxRecDepth 100000 in
theorem ml_TH_158 : Cond.methodLink "TaleHouse" 158 m_As_readDraft.1 ∈ gtbl := gt_in 767 (by decide +kernel) rfl
set_option maxRecDepth 100000 in
theorem ml_TH_159 : Cond.methodLink "TaleHouse" 159 m_TH_isPart.1 ∈ gtbl := gt_in 788 (by decide +kernel) rfl
set_option maxRecDepth 100000 in
theorem ml_TH_162 : Cond.methodLink "TaleHouse" 162 m_As_addDraft.1 ∈ gtbl := gt_in 789 (by decide +kernel) rfl
set_option maxRecDepth 100000 in
theorem ml_TH_164 : Cond.methodLink "TaleHouse" 164 m_As_latestFor.1 ∈ gtbl := gt_in 797 (by decide +kernel) rfl
set_option maxRecDepth 100000 in
theorem ml_TH_169 : Cond.methodLink "TaleHouse" 169 m_As_numbered.1 ∈ gtbl := gt_in 810 (by decide +kernel) rfl
set_option maxRecDepth 100000 in
theorem ml_TH_173 : Cond.methodLink "TaleHouse" 173 m_Sh_soldOfPart.1 ∈ gtbl := gt_in 811 (by decide +kernel) rfl
set_option maxRecDepth 100000 in
theorem ml_TH_177 : Cond.methodLink "TaleHouse" 177 m_Ag_percentsOf.1 ∈ gtbl := gt_in 821 (by decide +kernel) rfl
set_option maxRecDepth 100000 in
theorem ml_TH_191 : Cond.methodLink "TaleHouse" 191 m_Pa_daysLate.1 ∈ gtbl := gt_in 829 (by decide +kernel) rfl
set_option maxRecDepth 100000 in
theorem ml_TH_194 : Cond.methodLink "TaleHouse" 194 m_Jm_maxJ.1 ∈ gtbl := gt_in 848 (by decide +kernel) rfl
set_option maxRecDepth 100000 in
theorem ml_TH_200 : Cond.methodLink "TaleHouse" 200 m_Pa_beginOn.1 ∈ gtbl := gt_in 855 (by decide +kernel) rfl
set_option maxRecDepth 100000 in
theorem ml_TH_203 : Cond.methodLink "TaleHouse" 203 m_Pa_arrive.1 ∈ gtbl := gt_in 863 (by decide +kernel) rfl
set_option maxRecDepth 100000 in
theorem ml_TH_206 : Cond.methodLink "TaleHouse" 206 m_Pa_dueDay.1 ∈ gtbl := gt_in 872 (by decide +kernel) rfl
set_option maxRecDepth 100000 in
theorem ml_TH_209 : Cond.methodLink "TaleHouse" 209 m_Sh_changePrices.1 ∈ gtbl := gt_in 877 (by decide +kernel) rfl
set_option maxRecDepth 100000 in
theorem ml_TH_212 : Cond.methodLink "TaleHouse" 212 m_TH_slot.1 ∈ gtbl := gt_in 885 (by decide +kernel) rfl
set_option maxRecDepth 100000 in
theorem ml_TH_215 : Cond.methodLink "TaleHouse" 215 m_Sh_keepPlates.1 ∈ gtbl := gt_in 886 (by decide +kernel) rfl
set_option maxRecDepth 100000 in
theorem ml_TH_219 : Cond.methodLink "TaleHouse" 219 m_Pa_hasCome.1 ∈ gtbl := gt_in 894 (by decide +kernel) rfl
set_option maxRecDepth 100000 in
theorem ml_TH_223 : Cond.methodLink "TaleHouse" 223 m_Sh_addPrinted.1 ∈ gtbl := gt_in 896 (by decide +kernel) rfl
set_option maxRecDepth 100000 in
theorem ml_TH_226 : Cond.methodLink "TaleHouse" 226 m_Sh_takeSold.1 ∈ gtbl := gt_in 908 (by decide +kernel) rfl
set_option maxRecDepth 100000 in
theorem ml_TH_229 : Cond.methodLink "TaleHouse" 229 m_Sh_takePulped.1 ∈ gtbl := gt_in 920 (by decide +kernel) rfl
set_option maxRecDepth 100000 in
theorem ml_TH_232 : Cond.methodLink "TaleHouse" 232 m_Sh_countOf.1 ∈ gtbl := gt_in 928 (by decide +kernel) rfl
set_option maxRecDepth 100000 in
theorem ml_TH_235 : Cond.methodLink "TaleHouse" 235 m_Pa_allHaveEdition.1 ∈ gtbl := gt_in 936 (by decide +kernel) rfl
set_option maxRecDepth 100000 in
theorem ml_TH_239 : Cond.methodLink "TaleHouse" 239 m_Sh_leastLeft.1 ∈ gtbl := gt_in 941 (by decide +kernel) rfl
set_option maxRecDepth 100000 in
theorem ml_TH_243 : Cond.methodLink "TaleHouse" 243 m_Sh_bind.1 ∈ gtbl := gt_in 947 (by decide +kernel) rfl
set_option maxRecDepth 100000 in
theorem ml_TH_247 : Cond.methodLink "TaleHouse" 247 m_Fo_addRow.1 ∈ gtbl := gt_in 955 (by decide +kernel) rfl
set_option maxRecDepth 100000 in
theorem ml_TH_251 : Cond.methodLink "TaleHouse" 251 m_Fo_bestCopies.1 ∈ gtbl := gt_in 964 (by decide +kernel) rfl
set_option maxRecDepth 100000 in
theorem ml_TH_257 : Cond.methodLink "TaleHouse" 257 m_Fo_worthOf.1 ∈ gtbl := gt_in 979 (by decide +kernel) rfl
set_option maxRecDepth 100000 in
theorem ml_Ag_1 : Cond.methodLink "TaleHouse$Agreement" 1 Lib.objectInit ∈ gtbl := gt_in 242 (by decide +kernel) rfl
set_option maxRecDepth 100000 in
theorem ml_Ag_16 : Cond.methodLink "TaleHouse$Agreement" 16 m_Tp_open.1 ∈ gtbl := gt_in 775 (by decide +kernel) rfl
set_option maxRecDepth 100000 in
theorem ml_Ag_21 : Cond.methodLink "TaleHouse$Agreement" 21 m_Tp_failed.1 ∈ gtbl := gt_in 776 (by decide +kernel) rfl
set_option maxRecDepth 100000 in
theorem ml_Ag_29 : Cond.methodLink "TaleHouse$Agreement" 29 m_Tp_readNumber.1 ∈ gtbl := gt_in 777 (by decide +kernel) rfl
set_option maxRecDepth 100000 in
theorem ml_Ag_35 : Cond.methodLink "TaleHouse$Agreement" 35 m_Tp_needWord.1 ∈ gtbl := gt_in 779 (by decide +kernel) rfl
set_option maxRecDepth 100000 in
theorem ml_Ag_41 : Cond.methodLink "TaleHouse$Agreement" 41 m_Tp_passWord.1 ∈ gtbl := gt_in 781 (by decide +kernel) rfl
set_option maxRecDepth 100000 in
theorem ml_Ag_47 : Cond.methodLink "TaleHouse$Agreement" 47 m_Tp_needSign.1 ∈ gtbl := gt_in 782 (by decide +kernel) rfl
set_option maxRecDepth 100000 in
theorem ml_Ag_51 : Cond.methodLink "TaleHouse$Agreement" 51 m_Tp_needEnd.1 ∈ gtbl := gt_in 783 (by decide +kernel) rfl
set_option maxRecDepth 100000 in
theorem ml_Ag_57 : Cond.methodLink "TaleHouse$Agreement" 57 m_Tp_failNext.1 ∈ gtbl := gt_in 786 (by decide +kernel) rfl
set_option maxRecDepth 100000 in
theorem ml_Ag_60 : Cond.methodLink "TaleHouse$Agreement" 60 m_Jm_minJ.1 ∈ gtbl := gt_in 825 (by decide +kernel) rfl
set_option maxRecDepth 100000 in
theorem ml_As_3 : Cond.methodLink "TaleHouse$Agreements" 3 Lib.objectInit ∈ gtbl := gt_in 235 (by decide +kernel) rfl
set_option maxRecDepth 100000 in
theorem ml_As_22 : Cond.methodLink "TaleHouse$Agreements" 22 m_Ag_readFrom.1 ∈ gtbl := gt_in 771 (by decide +kernel) rfl
set_option maxRecDepth 100000 in
theorem ml_As_26 : Cond.methodLink "TaleHouse$Agreements" 26 m_Tp_failed.1 ∈ gtbl := gt_in 787 (by decide +kernel) rfl
set_option maxRecDepth 100000 in
theorem ml_As_39 : Cond.methodLink "TaleHouse$Agreements" 39 m_As_numbered.1 ∈ gtbl := gt_in 801 (by decide +kernel) rfl
set_option maxRecDepth 100000 in
theorem ml_Br_3 : Cond.methodLink "TaleHouse$Breaks" 3 Lib.objectInit ∈ gtbl := gt_in 67 (by decide +kernel) rfl
set_option maxRecDepth 100000 in
theorem ml_Br_28 : Cond.methodLink "TaleHouse$Breaks" 28 m_Ja_fill.1 ∈ gtbl := gt_in 427 (by decide +kernel) rfl
set_option maxRecDepth 100000 in
theorem ml_Br_34 : Cond.methodLink "TaleHouse$Breaks" 34 m_Br_weighRest.1 ∈ gtbl := gt_in 430 (by decide +kernel) rfl
set_option maxRecDepth 100000 in
theorem ml_Br_38 : Cond.methodLink "TaleHouse$Breaks" 38 m_Br_costWith.1 ∈ gtbl := gt_in 434 (by decide +kernel) rfl
set_option maxRecDepth 100000 in
theorem ml_Br_42 : Cond.methodLink "TaleHouse$Breaks" 42 m_Jm_minI.1 ∈ gtbl := gt_in 438 (by decide +kernel) rfl
set_option maxRecDepth 100000 in
theorem ml_Fa_3 : Cond.methodLink "TaleHouse$Fact" 3 Lib.objectInit ∈ gtbl := gt_in 186 (by decide +kernel) rfl
set_option maxRecDepth 100000 in
theorem ml_Fa_15 : Cond.methodLink "TaleHouse$Fact" 15 m_Tp_open.1 ∈ gtbl := gt_in 548 (by decide +kernel) rfl
set_option maxRecDepth 100000 in
theorem ml_Fa_20 : Cond.methodLink "TaleHouse$Fact" 20 m_Tp_readName.1 ∈ gtbl := gt_in 552 (by decide +kernel) rfl
set_option maxRecDepth 100000 in
theorem ml_Fa_33 : Cond.methodLink "TaleHouse$Fact" 33 m_Tp_passWord.1 ∈ gtbl := gt_in 638 (by decide +kernel) rfl
set_option maxRecDepth 100000 in
theorem ml_Fa_44 : Cond.methodLink "TaleHouse$Fact" 44 m_Tp_needWord.1 ∈ gtbl := gt_in 644 (by decide +kernel) rfl
set_option maxRecDepth 100000 in
theorem ml_Fa_51 : Cond.methodLink "TaleHouse$Fact" 51 m_Tp_readNumber.1 ∈ gtbl := gt_in 655 (by decide +kernel) rfl
set_option maxRecDepth 100000 in
theorem ml_Fa_58 : Cond.methodLink "TaleHouse$Fact" 58 m_Tp_needSign.1 ∈ gtbl := gt_in 663 (by decide +kernel) rfl
set_option maxRecDepth 100000 in
theorem ml_Fa_62 : Cond.methodLink "TaleHouse$Fact" 62 m_Tp_needEnd.1 ∈ gtbl := gt_in 667 (by decide +kernel) rfl
set_option maxRecDepth 100000 in
theorem ml_Fa_68 : Cond.methodLink "TaleHouse$Fact" 68 m_Fa_quarrelWithLater.1 ∈ gtbl := gt_in 717 (by decide +kernel) rfl
set_option maxRecDepth 100000 in
theorem ml_Fs_3 : Cond.methodLink "TaleHouse$Facts" 3 Lib.objectInit ∈ gtbl := gt_in 179 (by decide +kernel) rfl
set_option maxRecDepth 100000 in
theorem ml_Fs_29 : Cond.methodLink "TaleHouse$Facts" 29 m_Fa_readFrom.1 ∈ gtbl := gt_in 544 (by decide +kernel) rfl
set_option maxRecDepth 100000 in
theorem ml_Fs_33 : Cond.methodLink "TaleHouse$Facts" 33 m_Tp_failed.1 ∈ gtbl := gt_in 671 (by decide +kernel) rfl
set_option maxRecDepth 100000 in
theorem ml_Fs_49 : Cond.methodLink "TaleHouse$Facts" 49 m_Fs_numbered.1 ∈ gtbl := gt_in 700 (by decide +kernel) rfl
set_option maxRecDepth 100000 in
theorem ml_Fs_56 : Cond.methodLink "TaleHouse$Facts" 56 m_Pa_haveEdition.1 ∈ gtbl := gt_in 704 (by decide +kernel) rfl
set_option maxRecDepth 100000 in
theorem ml_Fs_62 : Cond.methodLink "TaleHouse$Facts" 62 m_Fa_quarrelWith.1 ∈ gtbl := gt_in 713 (by decide +kernel) rfl
set_option maxRecDepth 100000 in
theorem ml_Fs_69 : Cond.methodLink "TaleHouse$Facts" 69 m_Fs_stands.1 ∈ gtbl := gt_in 729 (by decide +kernel) rfl
set_option maxRecDepth 100000 in
theorem ml_Fs_73 : Cond.methodLink "TaleHouse$Facts" 73 m_Fs_findQuarrelsOf.1 ∈ gtbl := gt_in 742 (by decide +kernel) rfl
set_option maxRecDepth 100000 in
theorem ml_Fs_77 : Cond.methodLink "TaleHouse$Facts" 77 m_Fs_quarrelOf.1 ∈ gtbl := gt_in 746 (by decide +kernel) rfl
set_option maxRecDepth 100000 in
theorem ml_Fs_81 : Cond.methodLink "TaleHouse$Facts" 81 m_Pa_lastEdition.1 ∈ gtbl := gt_in 733 (by decide +kernel) rfl
set_option maxRecDepth 100000 in
theorem ml_Fs_85 : Cond.methodLink "TaleHouse$Facts" 85 m_Jm_minI.1 ∈ gtbl := gt_in 737 (by decide +kernel) rfl
set_option maxRecDepth 100000 in
theorem ml_Fs_90 : Cond.methodLink "TaleHouse$Facts" 90 m_Fa_standsIn.1 ∈ gtbl := gt_in 738 (by decide +kernel) rfl
set_option maxRecDepth 100000 in
theorem ml_Fo_3 : Cond.methodLink "TaleHouse$Foretelling" 3 Lib.objectInit ∈ gtbl := gt_in 316 (by decide +kernel) rfl
set_option maxRecDepth 100000 in
theorem ml_Fo_23 : Cond.methodLink "TaleHouse$Foretelling" 23 m_Jm_minI.1 ∈ gtbl := gt_in 972 (by decide +kernel) rfl
set_option maxRecDepth 100000 in
theorem ml_Fo_37 : Cond.methodLink "TaleHouse$Foretelling" 37 m_Sh_printingCost.1 ∈ gtbl := gt_in 973 (by decide +kernel) rfl
set_option maxRecDepth 100000 in
theorem ml_Fo_40 : Cond.methodLink "TaleHouse$Foretelling" 40 m_Fo_worthOf.1 ∈ gtbl := gt_in 968 (by decide +kernel) rfl
set_option maxRecDepth 100000 in
theorem ml_Mn_3 : Cond.methodLink "TaleHouse$Manuscript" 3 Lib.objectInit ∈ gtbl := gt_in 59 (by decide +kernel) rfl
set_option maxRecDepth 100000 in
theorem ml_Mn_54 : Cond.methodLink "TaleHouse$Manuscript" 54 m_Mn_forgetBreakCosts.1 ∈ gtbl := gt_in 406 (by decide +kernel) rfl
set_option maxRecDepth 100000 in
theorem ml_Mn_58 : Cond.methodLink "TaleHouse$Manuscript" 58 m_Mn_breaksOf.1 ∈ gtbl := gt_in 418 (by decide +kernel) rfl
set_option maxRecDepth 100000 in
theorem ml_Mn_62 : Cond.methodLink "TaleHouse$Manuscript" 62 m_Br_cost.1 ∈ gtbl := gt_in 441 (by decide +kernel) rfl
set_option maxRecDepth 100000 in
theorem ml_Mn_66 : Cond.methodLink "TaleHouse$Manuscript" 66 m_Br_weigh.1 ∈ gtbl := gt_in 422 (by decide +kernel) rfl
set_option maxRecDepth 100000 in
theorem ml_Pa_3 : Cond.methodLink "TaleHouse$Parts" 3 Lib.objectInit ∈ gtbl := gt_in 160 (by decide +kernel) rfl
set_option maxRecDepth 100000 in
theorem ml_Pa_22 : Cond.methodLink "TaleHouse$Parts" 22 m_Pa_haveEdition.1 ∈ gtbl := gt_in 940 (by decide +kernel) rfl
set_option maxRecDepth 100000 in
theorem ml_Pa_33 : Cond.methodLink "TaleHouse$Parts" 33 m_Pa_daysLate.1 ∈ gtbl := gt_in 867 (by decide +kernel) rfl
set_option maxRecDepth 100000 in
theorem ml_Pa_37 : Cond.methodLink "TaleHouse$Parts" 37 m_Pa_dueDay.1 ∈ gtbl := gt_in 833 (by decide +kernel) rfl
set_option maxRecDepth 100000 in
theorem ml_Pa_40 : Cond.methodLink "TaleHouse$Parts" 40 m_Pa_daysBehind.1 ∈ gtbl := gt_in 837 (by decide +kernel) rfl
set_option maxRecDepth 100000 in
theorem ml_Pa_44 : Cond.methodLink "TaleHouse$Parts" 44 m_Pa_hasCome.1 ∈ gtbl := gt_in 841 (by decide +kernel) rfl
set_option maxRecDepth 100000 in
theorem ml_Pa_47 : Cond.methodLink "TaleHouse$Parts" 47 m_Jm_maxI.1 ∈ gtbl := gt_in 845 (by decide +kernel) rfl
set_option maxRecDepth 100000 in
theorem ml_Se_3 : Cond.methodLink "TaleHouse$Setting" 3 Lib.objectInit ∈ gtbl := gt_in 125 (by decide +kernel) rfl
set_option maxRecDepth 100000 in
theorem ml_Se_42 : Cond.methodLink "TaleHouse$Setting" 42 m_Ja_fill.1 ∈ gtbl := gt_in 460 (by decide +kernel) rfl
set_option maxRecDepth 100000 in
theorem ml_Se_48 : Cond.methodLink "TaleHouse$Setting" 48 m_Mn_weighBreaks.1 ∈ gtbl := gt_in 461 (by decide +kernel) rfl
set_option maxRecDepth 100000 in
theorem ml_Se_52 : Cond.methodLink "TaleHouse$Setting" 52 m_Se_weighFrom.1 ∈ gtbl := gt_in 462 (by decide +kernel) rfl
set_option maxRecDepth 100000 in
theorem ml_Se_56 : Cond.methodLink "TaleHouse$Setting" 56 m_Se_forgetPlaces.1 ∈ gtbl := gt_in 495 (by decide +kernel) rfl
set_option maxRecDepth 100000 in
theorem ml_Se_63 : Cond.methodLink "TaleHouse$Setting" 63 m_Se_fewestLeads.1 ∈ gtbl := gt_in 499 (by decide +kernel) rfl
set_option maxRecDepth 100000 in
theorem ml_Se_67 : Cond.methodLink "TaleHouse$Setting" 67 m_Se_note.1 ∈ gtbl := gt_in 503 (by decide +kernel) rfl
set_option maxRecDepth 100000 in
theorem ml_Se_74 : Cond.methodLink "TaleHouse$Setting" 74 m_Se_fewestLines.1 ∈ gtbl := gt_in 507 (by decide +kernel) rfl
set_option maxRecDepth 100000 in
theorem ml_Se_78 : Cond.methodLink "TaleHouse$Setting" 78 m_Se_placeLines.1 ∈ gtbl := gt_in 511 (by decide +kernel) rfl
set_option maxRecDepth 100000 in
theorem ml_Se_85 : Cond.methodLink "TaleHouse$Setting" 85 m_Mn_cutCost.1 ∈ gtbl := gt_in 466 (by decide +kernel) rfl
set_option maxRecDepth 100000 in
theorem ml_Se_89 : Cond.methodLink "TaleHouse$Setting" 89 m_Se_leastUncut.1 ∈ gtbl := gt_in 470 (by decide +kernel) rfl
set_option maxRecDepth 100000 in
theorem ml_Se_96 : Cond.methodLink "TaleHouse$Setting" 96 m_Jm_minI.1 ∈ gtbl := gt_in 478 (by decide +kernel) rfl
set_option maxRecDepth 100000 in
theorem ml_Se_101 : Cond.methodLink "TaleHouse$Setting" 101 m_Mn_wordsOf.1 ∈ gtbl := gt_in 474 (by decide +kernel) rfl
set_option maxRecDepth 100000 in
theorem ml_Se_104 : Cond.methodLink "TaleHouse$Setting" 104 m_Se_costInLines.1 ∈ gtbl := gt_in 479 (by decide +kernel) rfl
set_option maxRecDepth 100000 in
theorem ml_Se_107 : Cond.methodLink "TaleHouse$Setting" 107 m_Mn_breakCost.1 ∈ gtbl := gt_in 483 (by decide +kernel) rfl
set_option maxRecDepth 100000 in
theorem ml_Se_110 : Cond.methodLink "TaleHouse$Setting" 110 m_Mn_widowCost.1 ∈ gtbl := gt_in 484 (by decide +kernel) rfl
set_option maxRecDepth 100000 in
theorem ml_Se_113 : Cond.methodLink "TaleHouse$Setting" 113 m_Mn_breaksOf.1 ∈ gtbl := gt_in 515 (by decide +kernel) rfl
set_option maxRecDepth 100000 in
theorem ml_Se_117 : Cond.methodLink "TaleHouse$Setting" 117 m_Br_wordsTaken.1 ∈ gtbl := gt_in 516 (by decide +kernel) rfl
set_option maxRecDepth 100000 in
theorem ml_Sh_3 : Cond.methodLink "TaleHouse$Shelf" 3 Lib.objectInit ∈ gtbl := gt_in 275 (by decide +kernel) rfl
set_option maxRecDepth 100000 in
theorem ml_Sh_41 : Cond.methodLink "TaleHouse$Shelf" 41 m_Sh_isSlot.1 ∈ gtbl := gt_in 818 (by decide +kernel) rfl
set_option maxRecDepth 100000 in
theorem ml_Sh_45 : Cond.methodLink "TaleHouse$Shelf" 45 m_Sh_printingCost.1 ∈ gtbl := gt_in 900 (by decide +kernel) rfl
set_option maxRecDepth 100000 in
theorem ml_Sh_53 : Cond.methodLink "TaleHouse$Shelf" 53 m_Sh_left.1 ∈ gtbl := gt_in 912 (by decide +kernel) rfl
set_option maxRecDepth 100000 in
theorem ml_Sh_63 : Cond.methodLink "TaleHouse$Shelf" 63 m_Jm_minI.1 ∈ gtbl := gt_in 946 (by decide +kernel) rfl
set_option maxRecDepth 100000 in
theorem ml_Tp_3 : Cond.methodLink "TaleHouse$Tape" 3 Lib.objectInit ∈ gtbl := gt_in 33 (by decide +kernel) rfl
set_option maxRecDepth 100000 in
theorem ml_Tp_28 : Cond.methodLink "TaleHouse$Tape" 28 m_Tp_failed.1 ∈ gtbl := gt_in 556 (by decide +kernel) rfl
set_option maxRecDepth 100000 in
theorem ml_Tp_32 : Cond.methodLink "TaleHouse$Tape" 32 m_Tp_lettersAhead.1 ∈ gtbl := gt_in 560 (by decide +kernel) rfl
set_option maxRecDepth 100000 in
theorem ml_Tp_36 : Cond.methodLink "TaleHouse$Tape" 36 m_Tp_isFactWord.1 ∈ gtbl := gt_in 572 (by decide +kernel) rfl
set_option maxRecDepth 100000 in
theorem ml_Tp_40 : Cond.methodLink "TaleHouse$Tape" 40 m_Tp_fail.1 ∈ gtbl := gt_in 632 (by decide +kernel) rfl
set_option maxRecDepth 100000 in
theorem ml_Tp_46 : Cond.methodLink "TaleHouse$Tape" 46 m_Tp_byteAt.1 ∈ gtbl := gt_in 568 (by decide +kernel) rfl
set_option maxRecDepth 100000 in
theorem ml_Tp_50 : Cond.methodLink "TaleHouse$Tape" 50 m_Tp_digitsAhead.1 ∈ gtbl := gt_in 659 (by decide +kernel) rfl
set_option maxRecDepth 100000 in
theorem ml_Tp_53 : Cond.methodLink "TaleHouse$Tape" 53 m_Tp_isWord.1 ∈ gtbl := gt_in 577 (by decide +kernel) rfl
set_option maxRecDepth 100000 in
theorem ml_Tp_57 : Cond.methodLink "TaleHouse$Tape" 57 m_Tp_passWord.1 ∈ gtbl := gt_in 648 (by decide +kernel) rfl
set_option maxRecDepth 100000 in
theorem ml_Tp_61 : Cond.methodLink "TaleHouse$Tape" 61 m_Tp_failNext.1 ∈ gtbl := gt_in 649 (by decide +kernel) rfl
set_option maxRecDepth 100000 in
theorem ml_Tp_64 : Cond.methodLink "TaleHouse$Tape" 64 m_Tp_skipBlanks.1 ∈ gtbl := gt_in 564 (by decide +kernel) rfl
set_option maxRecDepth 100000 in
theorem ml_Tp_75 : Cond.methodLink "TaleHouse$Tape" 75 m_Js_length.1 ∈ gtbl := gt_in 581 (by decide +kernel) rfl
set_option maxRecDepth 100000 in
theorem ml_Tp_80 : Cond.methodLink "TaleHouse$Tape" 80 m_Js_charAt.1 ∈ gtbl := gt_in 591 (by decide +kernel) rfl
set_option maxRecDepth 100000 in
theorem ml_Lw_9 : Cond.methodLink "TaleHouseLaw" 9 m_TH_init.1 ∈ gtbl := gt_in 22 (by decide +kernel) rfl
set_option maxRecDepth 100000 in
theorem ml_Lw_12 : Cond.methodLink "TaleHouseLaw" 12 m_Md_init.1 ∈ gtbl := gt_in 986 (by decide +kernel) rfl
set_option maxRecDepth 100000 in
theorem ml_Lw_13 : Cond.methodLink "TaleHouseLaw" 13 m_TH_feed.1 ∈ gtbl := gt_in 353 (by decide +kernel) rfl
set_option maxRecDepth 100000 in
theorem ml_Lw_17 : Cond.methodLink "TaleHouseLaw" 17 m_Md_feed.1 ∈ gtbl := gt_in 1147 (by decide +kernel) rfl
set_option maxRecDepth 100000 in
theorem ml_Lw_18 : Cond.methodLink "TaleHouseLaw" 18 m_TH_end.1 ∈ gtbl := gt_in 365 (by decide +kernel) rfl
set_option maxRecDepth 100000 in
theorem ml_Lw_22 : Cond.methodLink "TaleHouseLaw" 22 m_Md_end.1 ∈ gtbl := gt_in 1155 (by decide +kernel) rfl
set_option maxRecDepth 100000 in
theorem ml_Lw_23 : Cond.methodLink "TaleHouseLaw" 23 m_TH_paragraph.1 ∈ gtbl := gt_in 373 (by decide +kernel) rfl
set_option maxRecDepth 100000 in
theorem ml_Lw_27 : Cond.methodLink "TaleHouseLaw" 27 m_Md_paragraph.1 ∈ gtbl := gt_in 1159 (by decide +kernel) rfl
set_option maxRecDepth 100000 in
theorem ml_Lw_28 : Cond.methodLink "TaleHouseLaw" 28 m_TH_word.1 ∈ gtbl := gt_in 382 (by decide +kernel) rfl
set_option maxRecDepth 100000 in
theorem ml_Lw_31 : Cond.methodLink "TaleHouseLaw" 31 m_Md_word.1 ∈ gtbl := gt_in 1167 (by decide +kernel) rfl
set_option maxRecDepth 100000 in
theorem ml_Lw_32 : Cond.methodLink "TaleHouseLaw" 32 m_TH_clear.1 ∈ gtbl := gt_in 390 (by decide +kernel) rfl
set_option maxRecDepth 100000 in
theorem ml_Lw_36 : Cond.methodLink "TaleHouseLaw" 36 m_Md_clear.1 ∈ gtbl := gt_in 1171 (by decide +kernel) rfl
set_option maxRecDepth 100000 in
theorem ml_Lw_37 : Cond.methodLink "TaleHouseLaw" 37 m_TH_page.1 ∈ gtbl := gt_in 398 (by decide +kernel) rfl
set_option maxRecDepth 100000 in
theorem ml_Lw_41 : Cond.methodLink "TaleHouseLaw" 41 m_Md_page.1 ∈ gtbl := gt_in 1175 (by decide +kernel) rfl
set_option maxRecDepth 100000 in
theorem ml_Lw_42 : Cond.methodLink "TaleHouseLaw" 42 m_TH_lines.1 ∈ gtbl := gt_in 410 (by decide +kernel) rfl
set_option maxRecDepth 100000 in
theorem ml_Lw_46 : Cond.methodLink "TaleHouseLaw" 46 m_Md_lines.1 ∈ gtbl := gt_in 1179 (by decide +kernel) rfl
set_option maxRecDepth 100000 in
theorem ml_Lw_47 : Cond.methodLink "TaleHouseLaw" 47 m_TH_fill.1 ∈ gtbl := gt_in 451 (by decide +kernel) rfl
set_option maxRecDepth 100000 in
theorem ml_Lw_50 : Cond.methodLink "TaleHouseLaw" 50 m_Md_fill.1 ∈ gtbl := gt_in 1192 (by decide +kernel) rfl
set_option maxRecDepth 100000 in
theorem ml_Lw_51 : Cond.methodLink "TaleHouseLaw" 51 m_TH_set.1 ∈ gtbl := gt_in 520 (by decide +kernel) rfl
set_option maxRecDepth 100000 in
theorem ml_Lw_54 : Cond.methodLink "TaleHouseLaw" 54 m_Md_set.1 ∈ gtbl := gt_in 1219 (by decide +kernel) rfl
set_option maxRecDepth 100000 in
theorem ml_Lw_55 : Cond.methodLink "TaleHouseLaw" 55 m_TH_line.1 ∈ gtbl := gt_in 528 (by decide +kernel) rfl
set_option maxRecDepth 100000 in
theorem ml_Lw_58 : Cond.methodLink "TaleHouseLaw" 58 m_Md_line.1 ∈ gtbl := gt_in 1223 (by decide +kernel) rfl
set_option maxRecDepth 100000 in
theorem ml_Lw_59 : Cond.methodLink "TaleHouseLaw" 59 m_TH_fact.1 ∈ gtbl := gt_in 536 (by decide +kernel) rfl
set_option maxRecDepth 100000 in
theorem ml_Lw_62 : Cond.methodLink "TaleHouseLaw" 62 m_Md_fact.1 ∈ gtbl := gt_in 1231 (by decide +kernel) rfl
set_option maxRecDepth 100000 in
theorem ml_Lw_63 : Cond.methodLink "TaleHouseLaw" 63 m_TH_fault.1 ∈ gtbl := gt_in 688 (by decide +kernel) rfl
set_option maxRecDepth 100000 in
theorem ml_Lw_66 : Cond.methodLink "TaleHouseLaw" 66 m_Md_fault.1 ∈ gtbl := gt_in 1227 (by decide +kernel) rfl
set_option maxRecDepth 100000 in
theorem ml_Lw_67 : Cond.methodLink "TaleHouseLaw" 67 m_TH_strike.1 ∈ gtbl := gt_in 692 (by decide +kernel) rfl
set_option maxRecDepth 100000 in
theorem ml_Lw_71 : Cond.methodLink "TaleHouseLaw" 71 m_Md_strike.1 ∈ gtbl := gt_in 1293 (by decide +kernel) rfl
set_option maxRecDepth 100000 in
theorem ml_Lw_72 : Cond.methodLink "TaleHouseLaw" 72 m_TH_quarrel.1 ∈ gtbl := gt_in 705 (by decide +kernel) rfl
set_option maxRecDepth 100000 in
theorem ml_Lw_75 : Cond.methodLink "TaleHouseLaw" 75 m_Md_quarrel.1 ∈ gtbl := gt_in 1297 (by decide +kernel) rfl
set_option maxRecDepth 100000 in
theorem ml_Lw_76 : Cond.methodLink "TaleHouseLaw" 76 m_TH_quarrels.1 ∈ gtbl := gt_in 721 (by decide +kernel) rfl
set_option maxRecDepth 100000 in
theorem ml_Lw_79 : Cond.methodLink "TaleHouseLaw" 79 m_Md_quarrels.1 ∈ gtbl := gt_in 1309 (by decide +kernel) rfl
set_option maxRecDepth 100000 in
theorem ml_Lw_80 : Cond.methodLink "TaleHouseLaw" 80 m_TH_found.1 ∈ gtbl := gt_in 747 (by decide +kernel) rfl
set_option maxRecDepth 100000 in
theorem ml_Lw_83 : Cond.methodLink "TaleHouseLaw" 83 m_Md_found.1 ∈ gtbl := gt_in 1317 (by decide +kernel) rfl
set_option maxRecDepth 100000 in
theorem ml_Lw_84 : Cond.methodLink "TaleHouseLaw" 84 m_TH_mend.1 ∈ gtbl := gt_in 755 (by decide +kernel) rfl
set_option maxRecDepth 100000 in
theorem ml_Lw_87 : Cond.methodLink "TaleHouseLaw" 87 m_Md_mend.1 ∈ gtbl := gt_in 1321 (by decide +kernel) rfl
set_option maxRecDepth 100000 in
theorem ml_Lw_88 : Cond.methodLink "TaleHouseLaw" 88 m_TH_agree.1 ∈ gtbl := gt_in 763 (by decide +kernel) rfl
set_option maxRecDepth 100000 in
theorem ml_Lw_91 : Cond.methodLink "TaleHouseLaw" 91 m_Md_agree.1 ∈ gtbl := gt_in 1325 (by decide +kernel) rfl
set_option maxRecDepth 100000 in
theorem ml_Lw_92 : Cond.methodLink "TaleHouseLaw" 92 m_TH_agreed.1 ∈ gtbl := gt_in 793 (by decide +kernel) rfl
set_option maxRecDepth 100000 in
theorem ml_Lw_95 : Cond.methodLink "TaleHouseLaw" 95 m_Md_agreed.1 ∈ gtbl := gt_in 1337 (by decide +kernel) rfl
set_option maxRecDepth 100000 in
theorem ml_Lw_96 : Cond.methodLink "TaleHouseLaw" 96 m_TH_share.1 ∈ gtbl := gt_in 805 (by decide +kernel) rfl
set_option maxRecDepth 100000 in
theorem ml_Lw_100 : Cond.methodLink "TaleHouseLaw" 100 m_Md_share.1 ∈ gtbl := gt_in 1341 (by decide +kernel) rfl
set_option maxRecDepth 100000 in
theorem ml_Lw_101 : Cond.methodLink "TaleHouseLaw" 101 m_TH_start.1 ∈ gtbl := gt_in 851 (by decide +kernel) rfl
set_option maxRecDepth 100000 in
theorem ml_Lw_104 : Cond.methodLink "TaleHouseLaw" 104 m_Md_start.1 ∈ gtbl := gt_in 1357 (by decide +kernel) rfl
set_option maxRecDepth 100000 in
theorem ml_Lw_105 : Cond.methodLink "TaleHouseLaw" 105 m_TH_came.1 ∈ gtbl := gt_in 859 (by decide +kernel) rfl
set_option maxRecDepth 100000 in
theorem ml_Lw_108 : Cond.methodLink "TaleHouseLaw" 108 m_Md_came.1 ∈ gtbl := gt_in 1361 (by decide +kernel) rfl
set_option maxRecDepth 100000 in
theorem ml_Lw_109 : Cond.methodLink "TaleHouseLaw" 109 m_TH_due.1 ∈ gtbl := gt_in 868 (by decide +kernel) rfl
set_option maxRecDepth 100000 in
theorem ml_Lw_112 : Cond.methodLink "TaleHouseLaw" 112 m_Md_due.1 ∈ gtbl := gt_in 1356 (by decide +kernel) rfl
set_option maxRecDepth 100000 in
theorem ml_Lw_113 : Cond.methodLink "TaleHouseLaw" 113 m_TH_prices.1 ∈ gtbl := gt_in 873 (by decide +kernel) rfl
set_option maxRecDepth 100000 in
theorem ml_Lw_116 : Cond.methodLink "TaleHouseLaw" 116 m_Md_prices.1 ∈ gtbl := gt_in 1365 (by decide +kernel) rfl
set_option maxRecDepth 100000 in
theorem ml_Lw_117 : Cond.methodLink "TaleHouseLaw" 117 m_TH_keep.1 ∈ gtbl := gt_in 881 (by decide +kernel) rfl
set_option maxRecDepth 100000 in
theorem ml_Lw_121 : Cond.methodLink "TaleHouseLaw" 121 m_Md_keep.1 ∈ gtbl := gt_in 1369 (by decide +kernel) rfl
set_option maxRecDepth 100000 in
theorem ml_Lw_122 : Cond.methodLink "TaleHouseLaw" 122 m_TH_print.1 ∈ gtbl := gt_in 890 (by decide +kernel) rfl
set_option maxRecDepth 100000 in
theorem ml_Lw_126 : Cond.methodLink "TaleHouseLaw" 126 m_Md_print.1 ∈ gtbl := gt_in 1376 (by decide +kernel) rfl
set_option maxRecDepth 100000 in
theorem ml_Lw_127 : Cond.methodLink "TaleHouseLaw" 127 m_TH_sell.1 ∈ gtbl := gt_in 904 (by decide +kernel) rfl
set_option maxRecDepth 100000 in
theorem ml_Lw_130 : Cond.methodLink "TaleHouseLaw" 130 m_Md_sell.1 ∈ gtbl := gt_in 1380 (by decide +kernel) rfl
set_option maxRecDepth 100000 in
theorem ml_Lw_131 : Cond.methodLink "TaleHouseLaw" 131 m_TH_pulp.1 ∈ gtbl := gt_in 916 (by decide +kernel) rfl
set_option maxRecDepth 100000 in
theorem ml_Lw_134 : Cond.methodLink "TaleHouseLaw" 134 m_Md_pulp.1 ∈ gtbl := gt_in 1388 (by decide +kernel) rfl
set_option maxRecDepth 100000 in
theorem ml_Lw_135 : Cond.methodLink "TaleHouseLaw" 135 m_TH_stock.1 ∈ gtbl := gt_in 924 (by decide +kernel) rfl
set_option maxRecDepth 100000 in
theorem ml_Lw_138 : Cond.methodLink "TaleHouseLaw" 138 m_Md_stock.1 ∈ gtbl := gt_in 1392 (by decide +kernel) rfl
set_option maxRecDepth 100000 in
theorem ml_Lw_139 : Cond.methodLink "TaleHouseLaw" 139 m_TH_volume.1 ∈ gtbl := gt_in 932 (by decide +kernel) rfl
set_option maxRecDepth 100000 in
theorem ml_Lw_143 : Cond.methodLink "TaleHouseLaw" 143 m_Md_volume.1 ∈ gtbl := gt_in 1396 (by decide +kernel) rfl
set_option maxRecDepth 100000 in
theorem ml_Lw_144 : Cond.methodLink "TaleHouseLaw" 144 m_TH_foretell.1 ∈ gtbl := gt_in 951 (by decide +kernel) rfl
set_option maxRecDepth 100000 in
theorem ml_Lw_147 : Cond.methodLink "TaleHouseLaw" 147 m_Md_foretell.1 ∈ gtbl := gt_in 1400 (by decide +kernel) rfl
set_option maxRecDepth 100000 in
theorem ml_Lw_148 : Cond.methodLink "TaleHouseLaw" 148 m_TH_best.1 ∈ gtbl := gt_in 960 (by decide +kernel) rfl
set_option maxRecDepth 100000 in
theorem ml_Lw_151 : Cond.methodLink "TaleHouseLaw" 151 m_Md_best.1 ∈ gtbl := gt_in 1409 (by decide +kernel) rfl
set_option maxRecDepth 100000 in
theorem ml_Lw_152 : Cond.methodLink "TaleHouseLaw" 152 m_TH_worth.1 ∈ gtbl := gt_in 974 (by decide +kernel) rfl
set_option maxRecDepth 100000 in
theorem ml_Lw_156 : Cond.methodLink "TaleHouseLaw" 156 m_Md_worth.1 ∈ gtbl := gt_in 1404 (by decide +kernel) rfl
set_option maxRecDepth 100000 in
theorem ml_Lw_157 : Cond.methodLink "TaleHouseLaw" 157 m_TH_purse.1 ∈ gtbl := gt_in 980 (by decide +kernel) rfl
set_option maxRecDepth 100000 in
theorem ml_Lw_161 : Cond.methodLink "TaleHouseLaw" 161 m_Md_purse.1 ∈ gtbl := gt_in 1414 (by decide +kernel) rfl
set_option maxRecDepth 100000 in
theorem ml_Md_11 : Cond.methodLink "TaleHouseModel" 11 Lib.objectInit ∈ gtbl := gt_in 989 (by decide +kernel) rfl
set_option maxRecDepth 100000 in
theorem ml_Md_169 : Cond.methodLink "TaleHouseModel" 169 m_Md_put.1 ∈ gtbl := gt_in 1151 (by decide +kernel) rfl
set_option maxRecDepth 100000 in
theorem ml_Md_174 : Cond.methodLink "TaleHouseModel" 174 m_Md_is.1 ∈ gtbl := gt_in 1164 (by decide +kernel) rfl
set_option maxRecDepth 100000 in
theorem ml_Md_179 : Cond.methodLink "TaleHouseModel" 179 m_Md_cost.1 ∈ gtbl := gt_in 1188 (by decide +kernel) rfl
set_option maxRecDepth 100000 in
theorem ml_Md_183 : Cond.methodLink "TaleHouseModel" 183 m_Md_breaks.1 ∈ gtbl := gt_in 1183 (by decide +kernel) rfl
set_option maxRecDepth 100000 in
theorem ml_Md_186 : Cond.methodLink "TaleHouseModel" 186 m_Md_price.1 ∈ gtbl := gt_in 1207 (by decide +kernel) rfl
set_option maxRecDepth 100000 in
theorem ml_Md_189 : Cond.methodLink "TaleHouseModel" 189 m_Md_at.1 ∈ gtbl := gt_in 1200 (by decide +kernel) rfl
set_option maxRecDepth 100000 in
theorem ml_Md_191 : Cond.methodLink "TaleHouseModel" 191 m_Md_gone.1 ∈ gtbl := gt_in 1196 (by decide +kernel) rfl
set_option maxRecDepth 100000 in
theorem ml_Md_194 : Cond.methodLink "TaleHouseModel" 194 m_Md_stands6.1 ∈ gtbl := gt_in 1203 (by decide +kernel) rfl
set_option maxRecDepth 100000 in
theorem ml_Md_198 : Cond.methodLink "TaleHouseModel" 198 m_Md_tells.1 ∈ gtbl := gt_in 1211 (by decide +kernel) rfl
set_option maxRecDepth 100000 in
theorem ml_Md_201 : Cond.methodLink "TaleHouseModel" 201 m_Md_lays.1 ∈ gtbl := gt_in 1215 (by decide +kernel) rfl
set_option maxRecDepth 100000 in
theorem ml_Md_205 : Cond.methodLink "TaleHouseModel" 205 m_Md_here.1 ∈ gtbl := gt_in 1243 (by decide +kernel) rfl
set_option maxRecDepth 100000 in
theorem ml_Md_209 : Cond.methodLink "TaleHouseModel" 209 m_Md_blame.1 ∈ gtbl := gt_in 1250 (by decide +kernel) rfl
set_option maxRecDepth 100000 in
theorem ml_Md_212 : Cond.methodLink "TaleHouseModel" 212 m_Md_isLetter.1 ∈ gtbl := gt_in 1247 (by decide +kernel) rfl
set_option maxRecDepth 100000 in
theorem ml_Md_218 : Cond.methodLink "TaleHouseModel" 218 m_Md_wordEnd.1 ∈ gtbl := gt_in 1254 (by decide +kernel) rfl
set_option maxRecDepth 100000 in
theorem ml_Md_221 : Cond.methodLink "TaleHouseModel" 221 m_Md_spells.1 ∈ gtbl := gt_in 1259 (by decide +kernel) rfl
set_option maxRecDepth 100000 in
theorem ml_Md_225 : Cond.methodLink "TaleHouseModel" 225 m_Md_isDigit.1 ∈ gtbl := gt_in 1275 (by decide +kernel) rfl
set_option maxRecDepth 100000 in
theorem ml_Md_228 : Cond.methodLink "TaleHouseModel" 228 m_Md_digits.1 ∈ gtbl := gt_in 1271 (by decide +kernel) rfl
set_option maxRecDepth 100000 in
theorem ml_Md_231 : Cond.methodLink "TaleHouseModel" 231 m_Md_must.1 ∈ gtbl := gt_in 1282 (by decide +kernel) rfl
set_option maxRecDepth 100000 in
theorem ml_Md_234 : Cond.methodLink "TaleHouseModel" 234 m_Md_isPart.1 ∈ gtbl := gt_in 1290 (by decide +kernel) rfl
set_option maxRecDepth 100000 in
theorem ml_Md_245 : Cond.methodLink "TaleHouseModel" 245 m_Md_begins.1 ∈ gtbl := gt_in 1235 (by decide +kernel) rfl
set_option maxRecDepth 100000 in
theorem ml_Md_248 : Cond.methodLink "TaleHouseModel" 248 m_Md_name.1 ∈ gtbl := gt_in 1239 (by decide +kernel) rfl
set_option maxRecDepth 100000 in
theorem ml_Md_251 : Cond.methodLink "TaleHouseModel" 251 m_Md_passes.1 ∈ gtbl := gt_in 1267 (by decide +kernel) rfl
set_option maxRecDepth 100000 in
theorem ml_Md_255 : Cond.methodLink "TaleHouseModel" 255 m_Md_ends.1 ∈ gtbl := gt_in 1278 (by decide +kernel) rfl
set_option maxRecDepth 100000 in
theorem ml_Md_258 : Cond.methodLink "TaleHouseModel" 258 m_Md_isEdition.1 ∈ gtbl := gt_in 1286 (by decide +kernel) rfl
set_option maxRecDepth 100000 in
theorem ml_Md_262 : Cond.methodLink "TaleHouseModel" 262 m_Md_isAlike.1 ∈ gtbl := gt_in 1305 (by decide +kernel) rfl
set_option maxRecDepth 100000 in
theorem ml_Md_265 : Cond.methodLink "TaleHouseModel" 265 m_Md_quarrels0.1 ∈ gtbl := gt_in 1301 (by decide +kernel) rfl
set_option maxRecDepth 100000 in
theorem ml_Md_269 : Cond.methodLink "TaleHouseModel" 269 m_Md_stands2.1 ∈ gtbl := gt_in 1313 (by decide +kernel) rfl
set_option maxRecDepth 100000 in
theorem ml_Md_271 : Cond.methodLink "TaleHouseModel" 271 m_Md_number.1 ∈ gtbl := gt_in 1329 (by decide +kernel) rfl
set_option maxRecDepth 100000 in
theorem ml_Md_281 : Cond.methodLink "TaleHouseModel" 281 m_Md_agreed.1 ∈ gtbl := gt_in 1345 (by decide +kernel) rfl
set_option maxRecDepth 100000 in
theorem ml_Md_289 : Cond.methodLink "TaleHouseModel" 289 m_Md_lateDays.1 ∈ gtbl := gt_in 1348 (by decide +kernel) rfl
set_option maxRecDepth 100000 in
theorem ml_Md_292 : Cond.methodLink "TaleHouseModel" 292 m_Md_due.1 ∈ gtbl := gt_in 1352 (by decide +kernel) rfl
set_option maxRecDepth 100000 in
theorem ml_Md_295 : Cond.methodLink "TaleHouseModel" 295 m_Md_row.1 ∈ gtbl := gt_in 1373 (by decide +kernel) rfl
set_option maxRecDepth 100000 in
theorem ml_Md_298 : Cond.methodLink "TaleHouseModel" 298 m_Md_stays.1 ∈ gtbl := gt_in 1384 (by decide +kernel) rfl
set_option maxRecDepth 100000 in
theorem ml_Md_303 : Cond.methodLink "TaleHouseModel" 303 m_Md_worth.1 ∈ gtbl := gt_in 1413 (by decide +kernel) rfl
set_option maxRecDepth 100000 in
theorem ml_Js_335 : Cond.methodLink "java/lang/String" 335 m_Js_coder.1 ∈ gtbl := gt_in 585 (by decide +kernel) rfl
set_option maxRecDepth 100000 in
theorem ml_Js_492 : Cond.methodLink "java/lang/String" 492 m_Js_isLatin1.1 ∈ gtbl := gt_in 595 (by decide +kernel) rfl
set_option maxRecDepth 100000 in
theorem ml_Js_495 : Cond.methodLink "java/lang/String" 495 m_Jl_charAt.1 ∈ gtbl := gt_in 599 (by decide +kernel) rfl
set_option maxRecDepth 100000 in
theorem ml_Jl_9 : Cond.methodLink "java/lang/StringLatin1" 9 m_Js_checkIndex.1 ∈ gtbl := gt_in 602 (by decide +kernel) rfl
set_option maxRecDepth 100000 in
theorem ml_Ju_414 : Cond.methodLink "java/lang/StringUTF16" 414 m_Js_checkIndex.1 ∈ gtbl := gt_in 619 (by decide +kernel) rfl
set_option maxRecDepth 100000 in
theorem mn_TH_9 : ∃ host, Cond.methodLinkNest "TaleHouse" 9 m_Tp_init.1 host ∈ tables_1 := ⟨"TaleHouse", List.mem_of_getElem? (i := 30) (by decide +kernel)⟩
set_option maxRecDepth 100000 in
theorem mn_TH_18 : ∃ host, Cond.methodLinkNest "TaleHouse" 18 m_Mn_init.1 host ∈ tables_1 := ⟨"TaleHouse", List.mem_of_getElem? (i := 56) (by decide +kernel)⟩
set_option maxRecDepth 100000 in
theorem mn_TH_25 : ∃ host, Cond.methodLinkNest "TaleHouse" 25 m_Se_init.1 host ∈ tables_1 := ⟨"TaleHouse", List.mem_of_getElem? (i := 122) (by decide +kernel)⟩
set_option maxRecDepth 100000 in
theorem mn_TH_32 : ∃ host, Cond.methodLinkNest "TaleHouse" 32 m_Pa_init.1 host ∈ tables_1 := ⟨"TaleHouse", List.mem_of_getElem? (i := 157) (by decide +kernel)⟩
set_option maxRecDepth 100000 in
theorem mn_TH_39 : ∃ host, Cond.methodLinkNest "TaleHouse" 39 m_Fs_init.1 host ∈ tables_1 := ⟨"TaleHouse", List.mem_of_getElem? (i := 176) (by decide +kernel)⟩
set_option maxRecDepth 100000 in
theorem mn_TH_46 : ∃ host, Cond.methodLinkNest "TaleHouse" 46 m_As_init.1 host ∈ tables_1 := ⟨"TaleHouse", List.mem_of_getElem? (i := 232) (by decide +kernel)⟩
set_option maxRecDepth 100000 in
theorem mn_TH_53 : ∃ host, Cond.methodLinkNest "TaleHouse" 53 m_Sh_init.1 host ∈ tables_1 := ⟨"TaleHouse", List.mem_of_getElem? (i := 272) (by decide +kernel)⟩
set_option maxRecDepth 100000 in
theorem mn_TH_60 : ∃ host, Cond.methodLinkNest "TaleHouse" 60 m_Fo_init.1 host ∈ tables_1 := ⟨"TaleHouse", List.mem_of_getElem? (i := 313) (by decide +kernel)⟩
set_option maxRecDepth 100000 in
theorem mn_As_17 : ∃ host, Cond.methodLinkNest "TaleHouse$Agreements" 17 m_Ag_init.1 host ∈ tables_1 := ⟨"TaleHouse", List.mem_of_getElem? (i := 239) (by decide +kernel)⟩
set_option maxRecDepth 100000 in
theorem mn_Fs_24 : ∃ host, Cond.methodLinkNest "TaleHouse$Facts" 24 m_Fa_init.1 host ∈ tables_1 := ⟨"TaleHouse", List.mem_of_getElem? (i := 183) (by decide +kernel)⟩
set_option maxRecDepth 100000 in
theorem mn_Mn_32 : ∃ host, Cond.methodLinkNest "TaleHouse$Manuscript" 32 m_Br_init.1 host ∈ tables_1 := ⟨"TaleHouse", List.mem_of_getElem? (i := 64) (by decide +kernel)⟩
set_option maxRecDepth 100000 in
theorem mn_Pa_18 : ∃ host, Cond.methodLinkNest "TaleHouse$Parts" 18 m_TH_isPart.1 host ∈ tables_1 := ⟨"TaleHouse", List.mem_of_getElem? (i := 680) (by decide +kernel)⟩
set_option maxRecDepth 100000 in
theorem mn_Se_92 : ∃ host, Cond.methodLinkNest "TaleHouse$Setting" 92 m_TH_plus.1 host ∈ tables_1 := ⟨"TaleHouse", List.mem_of_getElem? (i := 488) (by decide +kernel)⟩
set_option maxRecDepth 100000 in
theorem mn_Sh_57 : ∃ host, Cond.methodLinkNest "TaleHouse$Shelf" 57 m_TH_slot.1 host ∈ tables_1 := ⟨"TaleHouse", List.mem_of_getElem? (i := 815) (by decide +kernel)⟩
set_option maxRecDepth 100000 in
theorem kO : Cond.instanceMethod Lib.objectInit ∈ gtbl ∧ Cond.code Lib.objectInit ⟨#[0xb1]⟩ 1 none ∈ gtbl := ⟨gt_in 26 (by decide +kernel) rfl, gt_in 27 (by decide +kernel) rfl⟩
