/-! WHAT IS GIVEN AT THE ENTRY. -/
/-! THE CLAIM OUT OF ONE WALK OF THE LAW'S BODY. Your part is whole_start (and what it stands on); all else here is the same for every law, but numbers. -/
def R_law : String := "TaleHouseLaw"
def lw_P (b : Addr) (xs : List Int32) (args : Array Value) (s : State) : Prop := args = #[.ref b] ∧ s.IntsAt b xs ∧ xs.length ≤ 3072 ∧ (Jvm.Cond.and given_1 narrow_1).before args s = true
def lw_Q (_ : Array Value) (s : State) (o : Outcome) (t : State) : Prop := o = .returned (some (.int 1)) ∧ Framed s o t [] 600000 7302250
def lw_Z (below : List Frame) (a : Array Value) (s : State) : State → Prop := fun t => ∃ o, t.status = .running ∧ Ended t below o ∧ lw_Q a s o t
/-- the law's own end, with 1 on the stack, nothing written that was there before, its room as the claim has it -/
theorem lw_ret {p : Program} {l : Launch} {e : Env} {s : State} {m : MethodId} {below : List Frame} {meth : Method} {c : Code} {b : Nat} (hx : p.tables.exec = Jvm.exec) (hb : c.code = code) (hr : meth.sig.returnType = ret) (hlocks : meth.locks = false) {pc : Nat} {H : Heap} {ls : Array Slot} (hdg : decode code pc = .ok (.ireturn, 1)) : W p l e room_1 s m #[Value.ref b] below meth c H [] 600000 7302250 (lw_Z below #[Value.ref b] s) (F0 m pc ls [.int 1]) := by
  intro T hT X
  obtain ⟨fs, hret, hrun, hended, hW, hframe⟩ := X.leave (v := some (.int 1)) (hlocks := hlocks) (fun h => by rw [hr] at h; cases h)
  have hmeth' : T.vm.method? m = some meth := X.method'
  refine ⟨T.setFrames fs, ?_, .returned (some (.int 1)), hrun, hended, rfl, ⟨_, rfl⟩, hW, hframe⟩
  jvm_step X.here [X.here.top, hx, hb, hdg, hmeth', hr, ret, narrow_b1]
  (try refine ⟨rfl, ?_⟩); (try refine ⟨rfl, ?_⟩)
  first | (intro acts; rw [hret _ acts rfl rfl rfl]) | rw [hret _ _ rfl rfl rfl]
  exact Steps.refl _
/-- what holds at the law's entry: the machine, the code, the tables' words (any of lw_tbl by 'hts w (by decide +kernel)'), the script of L ints xs at the cell b, what the Statement gives of the start (any of its parts by flat_of_before) -/
def lw_At (p : Program) (s : State) (m : MethodId) (meth : Method) (c : Code) (b L : Nat) (xs : Nat → Int32) : Prop :=
  p.tables.exec = Jvm.exec ∧ c.code = code ∧ meth.sig.returnType = ret ∧ c.maxLocals = 4 ∧ s.vm.findClass R_law = some m.cls ∧ (∀ w ∈ lw_tbl, w.before #[Value.ref b] s = true) ∧ va_X b L xs s s.heap ∧ b < s.heap.size ∧ meth.locks = false ∧ meth.name = x.name ∧ (Jvm.Cond.and given_1 narrow_1).before #[Value.ref b] s = true
def xtm : Nat → Term
  | 0 => .string "TaleHouse$Fact" 31
  | 1 => .string "TaleHouse$Fact" 40
  | 2 => .string "TaleHouse$Fact" 42
  | 3 => .string "TaleHouse$Fact" 48
  | 4 => .string "TaleHouse$Agreement" 33
  | 5 => .string "TaleHouse$Agreement" 39
  | _ => .string "TaleHouse$Agreement" 54
abbrev xfl : List Cond := flatC (Jvm.Cond.and given_1 narrow_1)
set_option maxRecDepth 100000 in
theorem xf_ex : ∀ i, i < 7 → Cond.exactly (xtm i) "java/lang/String" ∈ xfl := by decide +kernel
set_option maxRecDepth 100000 in
theorem xf_co : ∀ i, i < 7 → Cond.eq (.field (xtm i) "java/lang/String" "coder" "B") (.int 0) ∈ xfl := by decide +kernel
set_option maxRecDepth 100000 in
theorem xf_ar : ∀ i, i < 7 → Cond.arrayOf (.field (xtm i) "java/lang/String" "value" "[B") .byte ∈ xfl := by decide +kernel
set_option maxRecDepth 100000 in
theorem xf_le : ∀ i, i < 7 → Cond.eq (.length (.field (xtm i) "java/lang/String" "value" "[B")) (.int (Int32.ofNat (xlen.getD i 0))) ∈ xfl := by decide +kernel
set_option maxRecDepth 100000 in
theorem xf_el : ∀ i, i < 7 → ∀ j, j < xlen.getD i 0 → Cond.eq (.elem (.field (xtm i) "java/lang/String" "value" "[B") (.int (Int32.ofNat j))) (.int ((xbyt.getD i []).getD j 0)) ∈ xfl := by decide +kernel
set_option maxRecDepth 100000 in
theorem xf_ne : ∀ i, i < 7 → ∀ j, j < 7 → i ≠ j → (Cond.not (Cond.eq (xtm i) (xtm j)) ∈ xfl ∨ Cond.not (Cond.eq (xtm j) (xtm i)) ∈ xfl) := by decide +kernel
set_option maxRecDepth 100000 in
theorem xf_cs : Cond.eq (.static "java/lang/String" "COMPACT_STRINGS" "Z") (.int 1) ∈ xfl := by decide +kernel
set_option maxRecDepth 100000 in
theorem xf_fm : Cond.isRef (.static "jdk/internal/util/Preconditions" "SIOOBE_FORMATTER" "Ljava/util/function/BiFunction;") ∈ xfl := by decide +kernel
theorem vk_Scg {N : Nat} {len : List Nat} {byt : List (List Int32)} {a1 v1 a2 v2 : Nat → Nat} {A : Nat → Prop} {U : State} {H : Heap} (h : vk_S N len byt a1 v1 A U H) (ha : ∀ i, i < N → a2 i = a1 i) (hv : ∀ i, i < N → v2 i = v1 i) : vk_S N len byt a2 v2 A U H := by
  refine ⟨fun i hi => ?_, fun i j hi hj e => h.2 i j hi hj (by rw [← ha i hi, ← ha j hj]; exact e)⟩
  rw [ha i hi, hv i hi]
  exact h.1 i hi
set_option maxRecDepth 100000 in
theorem kn_0 {s : State} {args : Array Value} (hts : ∀ w ∈ lw_tbl, w.before args s = true) : ∃ q : ClassId × (Nat → Nat), u_Kn s xR_Ag xT_Ag 5 q.1 q.2 := by
  obtain ⟨c, i, h⟩ := u_known (ws := gtbl) (fun w hw => hts w (List.mem_filter.mp hw).1) ok_Ag.1 (hts (Cond.instantiable xR_Ag 5) (List.mem_append_right _ (List.mem_of_getElem? (i := 238) (by decide +kernel))))
  exact ⟨(c, i), h⟩
set_option maxRecDepth 100000 in
theorem kn_1 {s : State} {args : Array Value} (hts : ∀ w ∈ lw_tbl, w.before args s = true) : ∃ q : ClassId × (Nat → Nat), u_Kn s xR_As xT_As 3 q.1 q.2 := by
  obtain ⟨c, i, h⟩ := u_known (ws := gtbl) (fun w hw => hts w (List.mem_filter.mp hw).1) ok_As.1 (hts (Cond.instantiable xR_As 3) (List.mem_append_right _ (List.mem_of_getElem? (i := 231) (by decide +kernel))))
  exact ⟨(c, i), h⟩
set_option maxRecDepth 100000 in
theorem kn_2 {s : State} {args : Array Value} (hts : ∀ w ∈ lw_tbl, w.before args s = true) : ∃ q : ClassId × (Nat → Nat), u_Kn s xR_Br xT_Br 4 q.1 q.2 := by
  obtain ⟨c, i, h⟩ := u_known (ws := gtbl) (fun w hw => hts w (List.mem_filter.mp hw).1) ok_Br.1 (hts (Cond.instantiable xR_Br 4) (List.mem_append_right _ (List.mem_of_getElem? (i := 63) (by decide +kernel))))
  exact ⟨(c, i), h⟩
set_option maxRecDepth 100000 in
theorem kn_3 {s : State} {args : Array Value} (hts : ∀ w ∈ lw_tbl, w.before args s = true) : ∃ q : ClassId × (Nat → Nat), u_Kn s xR_Fa xT_Fa 7 q.1 q.2 := by
  obtain ⟨c, i, h⟩ := u_known (ws := gtbl) (fun w hw => hts w (List.mem_filter.mp hw).1) ok_Fa.1 (hts (Cond.instantiable xR_Fa 7) (List.mem_append_right _ (List.mem_of_getElem? (i := 182) (by decide +kernel))))
  exact ⟨(c, i), h⟩
set_option maxRecDepth 100000 in
theorem kn_4 {s : State} {args : Array Value} (hts : ∀ w ∈ lw_tbl, w.before args s = true) : ∃ q : ClassId × (Nat → Nat), u_Kn s xR_Fs xT_Fs 6 q.1 q.2 := by
  obtain ⟨c, i, h⟩ := u_known (ws := gtbl) (fun w hw => hts w (List.mem_filter.mp hw).1) ok_Fs.1 (hts (Cond.instantiable xR_Fs 6) (List.mem_append_right _ (List.mem_of_getElem? (i := 175) (by decide +kernel))))
  exact ⟨(c, i), h⟩
set_option maxRecDepth 100000 in
theorem kn_5 {s : State} {args : Array Value} (hts : ∀ w ∈ lw_tbl, w.before args s = true) : ∃ q : ClassId × (Nat → Nat), u_Kn s xR_Fo xT_Fo 3 q.1 q.2 := by
  obtain ⟨c, i, h⟩ := u_known (ws := gtbl) (fun w hw => hts w (List.mem_filter.mp hw).1) ok_Fo.1 (hts (Cond.instantiable xR_Fo 3) (List.mem_append_right _ (List.mem_of_getElem? (i := 312) (by decide +kernel))))
  exact ⟨(c, i), h⟩
set_option maxRecDepth 100000 in
theorem kn_6 {s : State} {args : Array Value} (hts : ∀ w ∈ lw_tbl, w.before args s = true) : ∃ q : ClassId × (Nat → Nat), u_Kn s xR_Mn xT_Mn 11 q.1 q.2 := by
  obtain ⟨c, i, h⟩ := u_known (ws := gtbl) (fun w hw => hts w (List.mem_filter.mp hw).1) ok_Mn.1 (hts (Cond.instantiable xR_Mn 11) (List.mem_append_right _ (List.mem_of_getElem? (i := 55) (by decide +kernel))))
  exact ⟨(c, i), h⟩
set_option maxRecDepth 100000 in
theorem kn_7 {s : State} {args : Array Value} (hts : ∀ w ∈ lw_tbl, w.before args s = true) : ∃ q : ClassId × (Nat → Nat), u_Kn s xR_Pa xT_Pa 4 q.1 q.2 := by
  obtain ⟨c, i, h⟩ := u_known (ws := gtbl) (fun w hw => hts w (List.mem_filter.mp hw).1) ok_Pa.1 (hts (Cond.instantiable xR_Pa 4) (List.mem_append_right _ (List.mem_of_getElem? (i := 156) (by decide +kernel))))
  exact ⟨(c, i), h⟩
set_option maxRecDepth 100000 in
theorem kn_8 {s : State} {args : Array Value} (hts : ∀ w ∈ lw_tbl, w.before args s = true) : ∃ q : ClassId × (Nat → Nat), u_Kn s xR_Se xT_Se 9 q.1 q.2 := by
  obtain ⟨c, i, h⟩ := u_known (ws := gtbl) (fun w hw => hts w (List.mem_filter.mp hw).1) ok_Se.1 (hts (Cond.instantiable xR_Se 9) (List.mem_append_right _ (List.mem_of_getElem? (i := 121) (by decide +kernel))))
  exact ⟨(c, i), h⟩
set_option maxRecDepth 100000 in
theorem kn_9 {s : State} {args : Array Value} (hts : ∀ w ∈ lw_tbl, w.before args s = true) : ∃ q : ClassId × (Nat → Nat), u_Kn s xR_Sh xT_Sh 10 q.1 q.2 := by
  obtain ⟨c, i, h⟩ := u_known (ws := gtbl) (fun w hw => hts w (List.mem_filter.mp hw).1) ok_Sh.1 (hts (Cond.instantiable xR_Sh 10) (List.mem_append_right _ (List.mem_of_getElem? (i := 271) (by decide +kernel))))
  exact ⟨(c, i), h⟩
set_option maxRecDepth 100000 in
theorem kn_10 {s : State} {args : Array Value} (hts : ∀ w ∈ lw_tbl, w.before args s = true) : ∃ q : ClassId × (Nat → Nat), u_Kn s xR_Tp xT_Tp 5 q.1 q.2 := by
  obtain ⟨c, i, h⟩ := u_known (ws := gtbl) (fun w hw => hts w (List.mem_filter.mp hw).1) ok_Tp.1 (hts (Cond.instantiable xR_Tp 5) (List.mem_append_right _ (List.mem_of_getElem? (i := 29) (by decide +kernel))))
  exact ⟨(c, i), h⟩
set_option maxRecDepth 100000 in
theorem kn_11 {s : State} {args : Array Value} (hts : ∀ w ∈ lw_tbl, w.before args s = true) : ∃ q : ClassId × (Nat → Nat), u_Kn s xR_TH xT_TH 8 q.1 q.2 := by
  obtain ⟨c, i, h⟩ := u_known (ws := gtbl) (fun w hw => hts w (List.mem_filter.mp hw).1) ok_TH.1 (hts (Cond.instantiable xR_TH 8) (List.mem_append_right _ (List.mem_of_getElem? (i := 21) (by decide +kernel))))
  exact ⟨(c, i), h⟩
set_option maxRecDepth 100000 in
theorem kn_12 {s : State} {args : Array Value} (hts : ∀ w ∈ lw_tbl, w.before args s = true) : ∃ q : ClassId × (Nat → Nat), u_Kn s xR_Md xT_Md 52 q.1 q.2 := by
  obtain ⟨c, i, h⟩ := u_known (ws := gtbl) (fun w hw => hts w (List.mem_filter.mp hw).1) ok_Md.1 (hts (Cond.instantiable xR_Md 52) (List.mem_append_right _ (List.mem_of_getElem? (i := 985) (by decide +kernel))))
  exact ⟨(c, i), h⟩
set_option maxRecDepth 100000 in
theorem kn_all {s : State} {args : Array Value} (hts : ∀ w ∈ lw_tbl, w.before args s = true) : ∀ ci : Nat, ∃ q : ClassId × (Nat → Nat), ∀ r : vw_C, xcl[ci]? = some r → u_Kn s r.1 r.2.1 r.2.2 q.1 q.2 := by
  intro ci
  match ci with
  | 0 =>
    obtain ⟨q, h⟩ := kn_0 hts
    exact ⟨q, fun r e => by cases (show some (xR_Ag, xT_Ag, 5) = some r from e); exact h⟩
  | 1 =>
    obtain ⟨q, h⟩ := kn_1 hts
    exact ⟨q, fun r e => by cases (show some (xR_As, xT_As, 3) = some r from e); exact h⟩
  | 2 =>
    obtain ⟨q, h⟩ := kn_2 hts
    exact ⟨q, fun r e => by cases (show some (xR_Br, xT_Br, 4) = some r from e); exact h⟩
  | 3 =>
    obtain ⟨q, h⟩ := kn_3 hts
    exact ⟨q, fun r e => by cases (show some (xR_Fa, xT_Fa, 7) = some r from e); exact h⟩
  | 4 =>
    obtain ⟨q, h⟩ := kn_4 hts
    exact ⟨q, fun r e => by cases (show some (xR_Fs, xT_Fs, 6) = some r from e); exact h⟩
  | 5 =>
    obtain ⟨q, h⟩ := kn_5 hts
    exact ⟨q, fun r e => by cases (show some (xR_Fo, xT_Fo, 3) = some r from e); exact h⟩
  | 6 =>
    obtain ⟨q, h⟩ := kn_6 hts
    exact ⟨q, fun r e => by cases (show some (xR_Mn, xT_Mn, 11) = some r from e); exact h⟩
  | 7 =>
    obtain ⟨q, h⟩ := kn_7 hts
    exact ⟨q, fun r e => by cases (show some (xR_Pa, xT_Pa, 4) = some r from e); exact h⟩
  | 8 =>
    obtain ⟨q, h⟩ := kn_8 hts
    exact ⟨q, fun r e => by cases (show some (xR_Se, xT_Se, 9) = some r from e); exact h⟩
  | 9 =>
    obtain ⟨q, h⟩ := kn_9 hts
    exact ⟨q, fun r e => by cases (show some (xR_Sh, xT_Sh, 10) = some r from e); exact h⟩
  | 10 =>
    obtain ⟨q, h⟩ := kn_10 hts
    exact ⟨q, fun r e => by cases (show some (xR_Tp, xT_Tp, 5) = some r from e); exact h⟩
  | 11 =>
    obtain ⟨q, h⟩ := kn_11 hts
    exact ⟨q, fun r e => by cases (show some (xR_TH, xT_TH, 8) = some r from e); exact h⟩
  | 12 =>
    obtain ⟨q, h⟩ := kn_12 hts
    exact ⟨q, fun r e => by cases (show some (xR_Md, xT_Md, 52) = some r from e); exact h⟩
  | k + 13 => exact ⟨(Classical.choice ⟨(kn_0 hts).choose.1⟩, fun _ => 0), fun r e => by
      have hl : k + 13 < xcl.length := (List.getElem?_eq_some_iff.mp e).1
      have : xcl.length = 13 := rfl
      omega⟩
theorem arc {s : State} {args : Array Value} {ty : FieldType} (h : (Cond.arrayClass ty).before args s = true) : ∃ cA : ClassId, ArrOfT s cA ty ∧ s.vm.findClass ("[" ++ ty.toString) = some cA := by
  obtain ⟨c, k, comp, h1, h2, h3⟩ := Cond.arrayClass_spec h
  exact ⟨c, fun n z => ⟨fun k h => (by cases h), k, h2, comp, h3⟩, h1⟩
theorem aro {s : State} {args : Array Value} {C : String} (h : (Cond.arrayOver (.object C)).before args s = true) : ∃ cA : ClassId, ArrOfT s cA (.object C) ∧ va_RA s cA (.object C) := by
  obtain ⟨comp, c, k, h1, h2, h3, h4, h5⟩ := Cond.arrayOver_spec h
  exact ⟨c, fun n z => ⟨fun k h => (by cases h), k, h3, comp, h4⟩, k, comp, h3, h4, h1, h5⟩
theorem ara {s : State} {args : Array Value} {t : FieldType} (h : (Cond.arrayOver (.array t)).before args s = true) : ∃ cA : ClassId, ArrOfT s cA (.array t) ∧ s.vm.findClass ("[" ++ (FieldType.array t).toString) = some cA := by
  obtain ⟨comp, c, k, h1, h2, h3, h4, h5⟩ := arrayOverA_spec h
  exact ⟨c, fun n z => ⟨fun k h => (by cases h), k, h3, comp, h4⟩, h5⟩
set_option maxHeartbeats 2000000 in
set_option maxRecDepth 100000 in
theorem mk_E {p : Program} {s : State} {m : MethodId} {meth : Method} {c : Code} {b L : Nat} {xs : Nat → Int32} (C0 : lw_At p s m meth c b L xs) : ∃ K : XK, K.1 = s.heap.size ∧ K.2.2.2 99 = b ∧ xE K (L, xs) s := by
  obtain ⟨-, -, -, -, -, hts, hX, hbl, -, -, hg⟩ := C0
  have G := flat_of_before _ hg
  have hA : ∀ a : Nat, a < s.heap.size → ¬ s.heap.size ≤ a := fun a h => by omega
  obtain ⟨a0, A0, B0⟩ := arc (ty := .int) (hts _ (List.mem_append_right _ (List.mem_of_getElem? (i := 53) (by decide +kernel))))
  obtain ⟨a1, A1, B1⟩ := arc (ty := .boolean) (hts _ (List.mem_append_right _ (List.mem_of_getElem? (i := 82) (by decide +kernel))))
  obtain ⟨a2, A2, B2⟩ := ara (t := .int) (hts _ (List.mem_append_right _ (List.mem_of_getElem? (i := 61) (by decide +kernel))))
  obtain ⟨a3, A3, B3⟩ := aro (C := xR_Fa) (hts _ (List.mem_append_right _ (List.mem_of_getElem? (i := 181) (by decide +kernel))))
  obtain ⟨a4, A4, B4⟩ := aro (C := xR_Ag) (hts _ (List.mem_append_right _ (List.mem_of_getElem? (i := 237) (by decide +kernel))))
  obtain ⟨adK, adV, S1, S2⟩ := vk_Sof (args := #[Value.ref b]) (s := s) (N := 7) (tm := xtm) (len := xlen) (byt := xbyt) (A := fun q => s.heap.size ≤ q) (by decide +kernel) (fun i hi => G _ (xf_ex i hi)) (fun i hi => G _ (xf_co i hi)) (fun i hi => G _ (xf_ar i hi)) (fun i hi => G _ (xf_le i hi)) (fun i hi j hj => G _ (xf_el i hi j hj)) (fun i j hi hj hij => (xf_ne i hi j hj hij).imp (fun q => G _ q) (fun q => G _ q)) hA
  have zc := va_Zof (A := fun q => s.heap.size ≤ q) (hts _ (List.mem_append_right _ (List.mem_of_getElem? (i := 590) (by decide +kernel)))) (hts _ (List.mem_append_right _ (List.mem_of_getElem? (i := 16) (by decide +kernel)))) (va_eqi (G _ xf_cs)) hA
  have zf := va_Zqof (A := fun q => s.heap.size ≤ q) (hts _ (List.mem_append_right _ (List.mem_of_getElem? (i := 606) (by decide +kernel)))) (hts _ (List.mem_append_right _ (List.mem_of_getElem? (i := 18) (by decide +kernel)))) (G _ xf_fm) hA
  obtain ⟨t, zt⟩ : ∃ t : Nat, va_Z "jdk/internal/util/Preconditions" "SIOOBE_FORMATTER" "Ljava/util/function/BiFunction;" .null (fun q => s.heap.size ≤ q) s s.heap ∨ va_Z "jdk/internal/util/Preconditions" "SIOOBE_FORMATTER" "Ljava/util/function/BiFunction;" (.ref t) (fun q => s.heap.size ≤ q) s s.heap := by
    rcases zf with z | ⟨t, z⟩
    · exact ⟨0, Or.inl z⟩
    · exact ⟨t, Or.inr z⟩
  have kn := kn_all hts
  refine ⟨(s.heap.size, ((fun ci => (Classical.choose (kn ci)).1), (fun ci => (Classical.choose (kn ci)).2)), (fun k => match k with | 0 => a0 | 1 => a1 | 2 => a2 | 3 => a3 | _ => a4), (fun k => if k < 7 then adK k else if k = 98 then t else if k = 99 then b else adV (k - 100))), rfl, rfl, ?_⟩
  refine ⟨⟨fun ci q hq => Classical.choose_spec (kn ci) q hq, fun k q hk => ?_⟩, fun w hw hn => ?_, ?_, ⟨?_, ?_, ?_⟩, ?_, ⟨zc, zt⟩, hX, hbl⟩
  · match k, hk with
    | 0, hk => cases hk; exact ⟨A0, B0⟩
    | 1, hk => cases hk; exact ⟨A1, B1⟩
    | 2, hk => cases hk; exact ⟨A2, B2⟩
    | 3, hk => cases hk; exact ⟨A3, B3⟩
    | 4, hk => cases hk; exact ⟨A4, B4⟩
    | (k + 5), hk => exact absurd (List.getElem?_eq_some_iff.mp hk).1 (by show ¬ k + 5 < 5; omega)
  · have h := hts w (List.mem_append_right _ hw)
    cases w <;> first | exact va_Nw.of rfl h | cases hn
  · have F : ∀ i, i < 7 → (xtm i).eval #[Value.ref b] s none [] s = some (.ref (if i < 7 then adK i else if i = 98 then t else if i = 99 then b else adV (i - 100))) := fun i hi => by
      rw [if_pos hi]
      exact S2 i hi
    intro q hq
    have hq' : q ∈ ([("TaleHouse$Tape", 67, "born", 0), ("TaleHouse$Tape", 69, "dead", 1), ("TaleHouse$Tape", 71, "in", 2), ("TaleHouse$Tape", 73, "on", 3), ("TaleHouse$Fact", 31, "born", 0), ("TaleHouse$Fact", 40, "dead", 1), ("TaleHouse$Fact", 42, "in", 2), ("TaleHouse$Fact", 48, "on", 3), ("TaleHouse$Agreement", 33, "percent", 4), ("TaleHouse$Agreement", 39, "late", 5), ("TaleHouse$Agreement", 54, "to", 6)] : List (String × Nat × String × Nat)) := hq
    simp only [List.mem_cons, List.not_mem_nil, or_false] at hq'
    rcases hq' with rfl | rfl | rfl | rfl | rfl | rfl | rfl | rfl | rfl | rfl | rfl
    · exact vk_R.of (A := #[Value.ref b]) (hts _ (List.mem_append_right _ (List.mem_of_getElem? (i := 576) (by decide +kernel)))) (Cond.eq_refs (G (Cond.eq (.string "TaleHouse$Tape" 67) (.string "TaleHouse$Fact" 31)) (by decide +kernel)) (F 0 (by decide)) rfl)
    · exact vk_R.of (A := #[Value.ref b]) (hts _ (List.mem_append_right _ (List.mem_of_getElem? (i := 629) (by decide +kernel)))) (Cond.eq_refs (G (Cond.eq (.string "TaleHouse$Tape" 69) (.string "TaleHouse$Fact" 40)) (by decide +kernel)) (F 1 (by decide)) rfl)
    · exact vk_R.of (A := #[Value.ref b]) (hts _ (List.mem_append_right _ (List.mem_of_getElem? (i := 630) (by decide +kernel)))) (Cond.eq_refs (G (Cond.eq (.string "TaleHouse$Tape" 71) (.string "TaleHouse$Fact" 42)) (by decide +kernel)) (F 2 (by decide)) rfl)
    · exact vk_R.of (A := #[Value.ref b]) (hts _ (List.mem_append_right _ (List.mem_of_getElem? (i := 631) (by decide +kernel)))) (Cond.eq_refs (G (Cond.eq (.string "TaleHouse$Tape" 73) (.string "TaleHouse$Fact" 48)) (by decide +kernel)) (F 3 (by decide)) rfl)
    · exact vk_R.of (A := #[Value.ref b]) (hts _ (List.mem_append_right _ (List.mem_of_getElem? (i := 637) (by decide +kernel)))) (F 0 (by decide))
    · exact vk_R.of (A := #[Value.ref b]) (hts _ (List.mem_append_right _ (List.mem_of_getElem? (i := 642) (by decide +kernel)))) (F 1 (by decide))
    · exact vk_R.of (A := #[Value.ref b]) (hts _ (List.mem_append_right _ (List.mem_of_getElem? (i := 643) (by decide +kernel)))) (F 2 (by decide))
    · exact vk_R.of (A := #[Value.ref b]) (hts _ (List.mem_append_right _ (List.mem_of_getElem? (i := 653) (by decide +kernel)))) (F 3 (by decide))
    · exact vk_R.of (A := #[Value.ref b]) (hts _ (List.mem_append_right _ (List.mem_of_getElem? (i := 778) (by decide +kernel)))) (F 4 (by decide))
    · exact vk_R.of (A := #[Value.ref b]) (hts _ (List.mem_append_right _ (List.mem_of_getElem? (i := 780) (by decide +kernel)))) (F 5 (by decide))
    · exact vk_R.of (A := #[Value.ref b]) (hts _ (List.mem_append_right _ (List.mem_of_getElem? (i := 784) (by decide +kernel)))) (F 6 (by decide))
  · exact va_AO.of (A := #[Value.ref b]) (hts _ (List.mem_append_right _ (List.mem_of_getElem? (i := 181) (by decide +kernel))))
  · exact va_AO.of (A := #[Value.ref b]) (hts _ (List.mem_append_right _ (List.mem_of_getElem? (i := 237) (by decide +kernel))))
  · exact (hts (Cond.arrayOver (.array .int)) (List.mem_append_right _ (List.mem_of_getElem? (i := 61) (by decide +kernel))))
  · refine vk_Scg S1 (fun i hi => ?_) (fun i hi => ?_)
    · show (if i < 7 then adK i else _) = adK i
      rw [if_pos hi]
    · show (if 100 + i < 7 then _ else if 100 + i = 98 then _ else if 100 + i = 99 then _ else adV (100 + i - 100)) = adV i
      rw [if_neg (by omega), if_neg (by omega), if_neg (by omega)]
      congr 1
      omega
