/-! THE START. -/
def fX0 : Nat → Int32
  | 3 => -1
  | 5 => 40
  | 6 => 20
  | 7 => 50
  | 8 => 200
  | 18 => 10
  | 19 => 2
  | 20 => 500
  | _ => 0
def fY0 : Nat → Int32
  | 2 => 40
  | 3 => 20
  | 4 => 50
  | 5 => 200
  | 8 => -1
  | 15 => 10
  | 16 => 2
  | 17 => 500
  | _ => 0
def fC0 : Nat → Nat → Int32
  | 20 => fun j => if j < 60 then -1 else 0
  | 27 => fun j => if j < 24 then -1 else 0
  | _ => fun _ => 0
def fD0 : Nat → va_E
  | 138 => mkF 0 0 0 0 0 0 (-1)
  | 141 => .inr (0, [.ref 142, .ref 143, .int 0, .int 0, .int 0])
  | 142 => zI 5
  | 143 => zI 5
  | _ => .inr (0, [])
def st0 : St := ((fX0, fun _ _ => 0, fun _ _ _ => 0, 0, none, fun _ => none, fun _ => none, 138, 141, fD0, 0), (fY0, fC0, 0))
theorem R8_0 : ∀ q, xs1 (fD0 q) ≤ 7 := by
  intro q
  unfold fD0
  split <;> decide
theorem RR_0 : RR 0 st0 := by
  refine ⟨⟨rfl, rfl, ⟨(by decide : (0 : Int32) ≤ 0), (by decide : (0 : Int32) ≤ 200)⟩, rfl, rfl, fun _ => (by decide : ¬ (0 : Int32) = -1)⟩, ?_, ?_, ?_, ?_, ?_, ?_, ?_, ⟨Nat.le_refl 0, R8_0⟩⟩
  · exact ⟨⟨rfl, (by decide : (0 : Int32) ≤ 0), (by decide : (0 : Int32) ≤ 20)⟩, ⟨rfl, (by decide : (10 : Int32) ≤ 40), (by decide : (40 : Int32) ≤ 60)⟩, ⟨rfl, (by decide : (5 : Int32) ≤ 20), (by decide : (20 : Int32) ≤ 40)⟩, ⟨rfl, (by decide : (0 : Int32) ≤ 50), (by decide : (50 : Int32) ≤ 100000)⟩, ⟨rfl, (by decide : (0 : Int32) ≤ 200), (by decide : (200 : Int32) ≤ 100000)⟩, ⟨rfl, fun p _ => ⟨(by decide : (-1 : Int32) ≤ 0), (by decide : (0 : Int32) ≤ 100000)⟩⟩, ⟨rfl, fun p _ => ⟨(by decide : (0 : Int32) ≤ 0), (by decide : (0 : Int32) ≤ 30)⟩⟩, fun p k _ _ => rfl, fun p k _ h => absurd h (Nat.not_lt_zero k), fun p _ h => absurd rfl h⟩
  · exact ⟨⟨rfl, (by decide : (0 : Int32) ≤ 0), (by decide : (0 : Int32) ≤ 20)⟩, ⟨(by decide : (0 : Int32) ≤ 0), (by decide : (0 : Int32) ≤ 120)⟩, fun p h => absurd h (Nat.not_lt_zero p), Or.inl ⟨rfl, rfl⟩⟩
  · refine ⟨rfl, fun p _ => ⟨(by decide : (0 : Int32) ≤ 0), (by decide : (0 : Int32) ≤ 3)⟩, ⟨(by decide : (0 : Int32) ≤ 0), (by decide : (0 : Int32) ≤ 24)⟩, rfl, ⟨(by decide : (0 : Int32) ≤ 0), (by decide : (0 : Int32) ≤ 20000)⟩, fun p hp => ⟨fun h => absurd h (Nat.not_lt_zero p), fun _ => ?_⟩⟩
    show (if p < 24 then (-1 : Int32) else 0) = -1
    rw [if_pos hp]
  · exact ⟨⟨rfl, (by decide : (0 : Int32) ≤ 0), (by decide : (0 : Int32) ≤ 60)⟩, ⟨rfl, (by decide : (0 : Int32) ≤ 0), (by decide : (0 : Int32) ≤ 1770)⟩, fun k _ => ⟨rfl, rfl⟩, ⟨⟨Or.inl rfl, rfl⟩, rfl⟩, fun i h => absurd h (Nat.not_lt_zero i), fun i j q h => absurd h (Nat.not_lt_zero i)⟩
  · exact ⟨⟨rfl, (by decide : (0 : Int32) ≤ 0), (by decide : (0 : Int32) ≤ 12)⟩, ⟨⟨Or.inr (Or.inl rfl), rfl⟩, ⟨Or.inr (Or.inr (Or.inl rfl)), rfl⟩, ⟨Or.inr (Or.inr (Or.inr (Or.inl rfl))), rfl⟩⟩, fun i h => absurd h (Nat.not_lt_zero i)⟩
  · exact ⟨⟨rfl, (by decide : (0 : Int32) ≤ 10), (by decide : (10 : Int32) ≤ 10000)⟩, ⟨rfl, (by decide : (0 : Int32) ≤ 2), (by decide : (2 : Int32) ≤ 10000)⟩, ⟨rfl, (by decide : (0 : Int32) ≤ 500), (by decide : (500 : Int32) ≤ 10000)⟩, ⟨rfl, (by decide : (0 : Int32) ≤ 0), (by decide : (0 : Int32) ≤ 2)⟩, rfl, fun p e _ _ => ⟨rfl, rfl, rfl, rfl, rfl⟩, fun s _ => ⟨Or.inl rfl, (by decide : 0 ≤ (0 : Int32).toInt), (by decide : 0 ≤ (0 : Int32).toInt), (by decide : 0 ≤ (0 : Int32).toInt), (by decide : (0 : Int32).toInt + (0 : Int32).toInt + (0 : Int32).toInt ≤ (0 : Int32).toInt), (by decide : (0 : Int32).toInt ≤ 100000 * ((0 : Nat) : Int))⟩⟩
  · exact ⟨⟨rfl, (by decide : (0 : Int32) ≤ 0), (by decide : (0 : Int32) ≤ 8)⟩, rfl, rfl, fun k _ => ⟨⟨(by decide : (0 : Int32) ≤ 0), (by decide : (0 : Int32) ≤ 100000)⟩, (by decide : (0 : Int32) ≤ 0), (by decide : (0 : Int32) ≤ 99)⟩⟩
set_option maxRecDepth 100000 in
theorem nw_Lw_law_0 : xNw m_Lw_law 7 11 [.null, .null, .null, .null, .null, .null, .null, .null] := ⟨xR_TH, xT_TH, xY_TH, rfl, gt_in 20 (by decide +kernel) rfl, gt_in 21 (by decide +kernel) rfl, gt_in 1 (by decide +kernel) rfl, ok_TH, fun K j hj => by
  have hj : j < 8 := hj
  rcases (show j = 0 ∨ j = 1 ∨ j = 2 ∨ j = 3 ∨ j = 4 ∨ j = 5 ∨ j = 6 ∨ j = 7 by omega) with rfl | rfl | rfl | rfl | rfl | rfl | rfl | rfl <;> rfl⟩
set_option maxRecDepth 100000 in
theorem nw_Lw_law_8 : xNw m_Lw_law 10 12 [.null, .int 0, .int 0, .null, .null, .null, .int 0, .int 0, .int 0, .int 0, .null, .null, .null, .int 0, .null, .null, .null, .null, .null, .null, .null, .int 0, .int 0, .int 0, .int 0, .int 0, .null, .null, .null, .null, .null, .null, .null, .null, .null, .int 0, .int 0, .null, .null, .null, .null, .int 0, .null, .null, .int 0, .int 0, .int 0, .int 0, .long 0, .int 0, .null, .null] := ⟨xR_Md, xT_Md, xY_Md, rfl, gt_in 984 (by decide +kernel) rfl, gt_in 985 (by decide +kernel) rfl, gt_in 13 (by decide +kernel) rfl, ok_Md, fun K j hj => by
  have hj : j < 52 := hj
  rcases (show j = 0 ∨ j = 1 ∨ j = 2 ∨ j = 3 ∨ j = 4 ∨ j = 5 ∨ j = 6 ∨ j = 7 ∨ j = 8 ∨ j = 9 ∨ j = 10 ∨ j = 11 ∨ j = 12 ∨ j = 13 ∨ j = 14 ∨ j = 15 ∨ j = 16 ∨ j = 17 ∨ j = 18 ∨ j = 19 ∨ j = 20 ∨ j = 21 ∨ j = 22 ∨ j = 23 ∨ j = 24 ∨ j = 25 ∨ j = 26 ∨ j = 27 ∨ j = 28 ∨ j = 29 ∨ j = 30 ∨ j = 31 ∨ j = 32 ∨ j = 33 ∨ j = 34 ∨ j = 35 ∨ j = 36 ∨ j = 37 ∨ j = 38 ∨ j = 39 ∨ j = 40 ∨ j = 41 ∨ j = 42 ∨ j = 43 ∨ j = 44 ∨ j = 45 ∨ j = 46 ∨ j = 47 ∨ j = 48 ∨ j = 49 ∨ j = 50 ∨ j = 51 by omega) with rfl | rfl | rfl | rfl | rfl | rfl | rfl | rfl | rfl | rfl | rfl | rfl | rfl | rfl | rfl | rfl | rfl | rfl | rfl | rfl | rfl | rfl | rfl | rfl | rfl | rfl | rfl | rfl | rfl | rfl | rfl | rfl | rfl | rfl | rfl | rfl | rfl | rfl | rfl | rfl | rfl | rfl | rfl | rfl | rfl | rfl | rfl | rfl | rfl | rfl | rfl | rfl <;> rfl⟩
set_option maxHeartbeats 4000000 in
set_option maxRecDepth 100000 in
theorem law0 {S : XS} (hS : S.1 ≤ 3072) (H3 : OPS3 S) : BW S m_Lw_law 0 [some (.retAddr 99), none, none, none] [] [] (qI (fun v τ => v = 1 ∧ ∃ k, k ≤ 512 ∧ RR k τ)) := by
  obtain ⟨r, h9, q, w⟩ := lawL hS H3 (S.1 / 6) 0 st0 (by omega) (by omega) RR_0
  refine ⟨r, h9, q, ?_⟩
  refine x_new (ci := 11) (q := 0) (h1 := [] ++ [.inr (11, [.null, .null, .null, .null, .null, .null, .null, .null])]) d_Lw_law_0 nw_Lw_law_0 rfl rfl ?_
  refine x_dup d_Lw_law_3 rfl ?_
  refine x_callI (Mc := m_TH_init) (As := []) (b := 0) (st := [.ref 0]) (rv := none) d_Lw_law_4 ⟨⟨kA_TH_init.1, kA_TH_init.2.1, kA_TH_init.2.2, by decide⟩, ml_Lw_9, kI_TH_init⟩ rfl rfl (Nat.le_of_ble_eq_true rfl) (A_TH_init (h := []) (n := 0) rfl) ?_
  refine x_st2 (st' := [.ref 0]) rfl ?_
  refine x_astore_n (ls' := [some (.retAddr 99), some (.ref 0), none, none]) d_Lw_law_7 rfl (Nat.le_of_ble_eq_true rfl) rfl ?_
  refine x_new (ci := 12) (q := 153) d_Lw_law_8 nw_Lw_law_8 rfl rfl ?_
  refine x_dup d_Lw_law_11 rfl ?_
  refine x_callI (Mc := m_Md_init) (As := []) (b := 153) (st := [.ref 153]) (rv := none) d_Lw_law_12 ⟨⟨kA_Md_init.1, kA_Md_init.2.1, kA_Md_init.2.2, by decide⟩, ml_Lw_12, kI_Md_init⟩ rfl rfl (Nat.le_of_ble_eq_true rfl) (A_Md_init (n := 153) rfl) ?_
  refine x_st2 (st' := [.ref 153]) rfl ?_
  refine x_astore_n (ls' := [some (.retAddr 99), some (.ref 0), some (.ref 153), none]) d_Lw_law_15 rfl (Nat.le_of_ble_eq_true rfl) rfl ?_
  refine x_iconst (v := (0 : Int32)) d_Lw_law_16 (by decide) ?_
  refine x_istore_n (ls' := [some (.retAddr 99), some (.ref 0), some (.ref 153), some (.int (0 : Int32))]) d_Lw_law_17 rfl (Nat.le_of_ble_eq_true rfl) rfl ?_
  exact x_eq (h2 := enc st0) rfl w
