/-! WHAT IS GIVEN AT A METHOD'S ENTRY, AND THE JUDGEMENT. -/
def gtbl : List Cond := lw_tbl.filter goodWord
theorem gt_of {w : Cond} (h : w ∈ lw_tbl) (hg : goodWord w = true) : w ∈ gtbl := List.mem_filter.mpr ⟨h, hg⟩
theorem gt_in {w : Cond} (i : Nat) (h : tables_1[i]? = some w) (hg : goodWord w = true) : w ∈ gtbl := gt_of (List.mem_append_right _ (List.mem_of_getElem? h)) hg
theorem gt_pv {w : Cond} (i : Nat) (h : (k2_sels lw_privs)[i]? = some w) (hg : goodWord w = true) : w ∈ gtbl := gt_of (List.mem_append_left _ (List.mem_of_getElem? h)) hg
theorem gt_good : GoodIn gtbl gtbl := fun w h => ⟨h, good_of_word (List.mem_filter.mp h).2⟩
/-- the array kinds: 0 int, 1 boolean, 2 int[], 3 Fact, 4 Agreement -/
def xkd : Nat → FieldType
  | 0 => .int
  | 1 => .boolean
  | 2 => .array .int
  | 3 => .object xR_Fa
  | _ => .object xR_Ag
def xtys (K : XK) : List (ClassId × FieldType) := [(K.2.2.1 0, .int), (K.2.2.1 1, .boolean), (K.2.2.1 2, .array .int), (K.2.2.1 3, .object xR_Fa), (K.2.2.1 4, .object xR_Ag)]
def xnst : Cond → Bool
  | .fieldLinkNest .. => true
  | .methodLinkNest .. => true
  | _ => false
/-- the String constants' places: class, entry, text, number -/
def xstr : List (String × Nat × String × Nat) := [("TaleHouse$Tape", 67, "born", 0), ("TaleHouse$Tape", 69, "dead", 1), ("TaleHouse$Tape", 71, "in", 2), ("TaleHouse$Tape", 73, "on", 3), ("TaleHouse$Fact", 31, "born", 0), ("TaleHouse$Fact", 40, "dead", 1), ("TaleHouse$Fact", 42, "in", 2), ("TaleHouse$Fact", 48, "on", 3), ("TaleHouse$Agreement", 33, "percent", 4), ("TaleHouse$Agreement", 39, "late", 5), ("TaleHouse$Agreement", 54, "to", 6)]
def xlen : List Nat := [4, 4, 2, 2, 7, 4, 2]
def xbyt : List (List Int32) := [[98, 111, 114, 110], [100, 101, 97, 100], [105, 110], [111, 110], [112, 101, 114, 99, 101, 110, 116], [108, 97, 116, 101], [116, 111]]
/-- the script: its length and its ints -/
abbrev XS : Type := Nat × (Nat → Int32)
def xAi (U : State) : Prop := (Cond.arrayOver (.array .int)).before #[] U = true
theorem xAi.same {u U : State} (hv : U.vm = u.vm) (h : xAi u) : xAi U := by
  have h1 : (Cond.arrayOver (.array .int)).before #[] u = true := h
  show (Cond.arrayOver (.array .int)).before #[] U = true
  simp only [Cond.before, Cond.holds, Cond.value] at h1 ⊢
  rw [hv]
  exact h1
theorem xAi.moved {u U : State} (hvm : u.vm.Alike U.vm) (h : xAi u) : xAi U := by
  have h1 : (Cond.arrayOver (.array .int)).before #[] u = true := h
  show (Cond.arrayOver (.array .int)).before #[] U = true
  simp only [Cond.before, Cond.holds, Cond.value, beq_iff_eq, Option.bind_eq_some_iff, Option.map_eq_some_iff] at h1 ⊢
  obtain ⟨comp, h1, c, h2, k, h3, h4⟩ := h1
  obtain ⟨k', hk', he⟩ := hvm.2.2 _ _ h3
  refine ⟨comp, by rw [hvm.findClass]; exact h1, c, ?_, k', hk', ?_⟩
  · have e1 := va_idx_bare U.vm comp
    have e2 := va_idx_bare u.vm comp
    first | rw [hvm.bare_eq] at e1 | rw [← hvm.bare_eq] at e1
    exact e1.symm.trans (e2.trans h2)
  · rw [hvm.findClass, he]
    exact h4
/-- what is given of the tables and of the older cells -/
def xE (K : XK) (S : XS) (U : State) : Prop :=
  va_K K.2.1 xcl (xtys K) U ∧ (∀ w ∈ tables_1, xnst w = true → va_Nw w U) ∧ (∀ q ∈ xstr, vk_R q.1 q.2.1 q.2.2.1 (K.2.2.2 q.2.2.2) U) ∧
  (va_AO xR_Fa U ∧ va_AO xR_Ag U ∧ xAi U) ∧ vk_S 7 xlen xbyt K.2.2.2 (fun i => K.2.2.2 (100 + i)) (fun q => K.1 ≤ q) U U.heap ∧ (va_Z "java/lang/String" "COMPACT_STRINGS" "Z" (.int 1) (fun q => K.1 ≤ q) U U.heap ∧ (va_Z "jdk/internal/util/Preconditions" "SIOOBE_FORMATTER" "Ljava/util/function/BiFunction;" .null (fun q => K.1 ≤ q) U U.heap ∨ va_Z "jdk/internal/util/Preconditions" "SIOOBE_FORMATTER" "Ljava/util/function/BiFunction;" (.ref (K.2.2.2 98)) (fun q => K.1 ≤ q) U U.heap)) ∧
  va_X (K.2.2.2 99) S.1 S.2 U U.heap ∧ K.2.2.2 99 < K.1
theorem xE.to {K : XK} {S : XS} {s U : State} (hW : s.WarmedH U.vm) (hh : ∀ q : Nat, q < s.heap.size → ¬ K.1 ≤ q → U.heap[q]? = s.heap[q]?) (h : xE K S s) : xE K S U := by
  obtain ⟨h1, h2, h3, ⟨h4, h5, h6⟩, h7, h8, h9, h10⟩ := h
  refine ⟨va_K.moved hW.alike h1, fun w hw hn => ?_, fun q hq => (h3 q hq).warm hW, ⟨h4.moved hW.alike, h5.moved hW.alike, h6.moved hW.alike⟩, (h7.moved hW.alike).kept hh, ⟨(h8.1.moved hW.alike).kept hh, h8.2.imp (fun z => (z.moved hW.alike).kept hh) (fun z => (z.moved hW.alike).kept hh)⟩, (h9.moved hW.alike).kept (hh _ ?_ (by omega)), h10⟩
  · have h := h2 w hw hn
    cases w <;> first | exact va_Nw.warmF hW h | exact va_Nw.warmM hW h | cases hn
  · obtain ⟨scr, g1, -⟩ := h9
    exact (Array.getElem?_eq_some_iff.mp g1).1
theorem xE.same {K : XK} {S : XS} {s U : State} (hv : U.vm = s.vm) (hh : U.heap = s.heap) (h : xE K S s) : xE K S U := by
  have hA : s.vm.Alike U.vm := by rw [hv]; exact Vm.Alike.refl _
  obtain ⟨h1, h2, h3, ⟨h4, h5, h6⟩, h7, h8, h9, h10⟩ := h
  refine ⟨va_K.moved hA h1, fun w hw hn => ?_, fun q hq => (h3 q hq).same hv, ⟨h4.moved hA, h5.moved hA, h6.moved hA⟩, ?_, ?_, ?_, h10⟩
  · have h := h2 w hw hn
    cases w <;> first | exact va_Nw.same rfl hv.symm h | cases hn
  · rw [hh]; exact h7.moved hA
  · rw [hh]; exact ⟨h8.1.moved hA, h8.2.imp (fun z => z.moved hA) (fun z => z.moved hA)⟩
  · rw [hh]; exact h9.moved hA
def xQ (K : XK) (r : Option Value) (h' : XH) : Array Value → State → Outcome → State → Prop := fun _ st oc t =>
  oc = .returned (r.map (xv K)) ∧ XR K h' t.heap ∧ va_F (fun q => K.1 ≤ q) st t
def xP (K : XK) (S : XS) (as : List Value) (h : XH) : Array Value → State → Prop := fun v U => v = (as.map (xv K)).toArray ∧ XR K h U.heap ∧ xE K S U ∧ K.1 ≤ U.heap.size
abbrev xws (M : XM) : List Cond := .code M.1 M.2.1 M.2.2.1 M.2.2.2.1 :: gtbl
abbrev xrm (M : XM) (mc ms : Nat) : Room := { frames := M.2.2.2.2.1, cells := mc, slots := ms, locals := M.2.2.2.2.2 }
/-- method M, called with as over the small heap h, answers r over h' -/
def AM (S : XS) (M : XM) (as : List Value) (h : XH) (r : Option Value) (h' : XH) : Prop :=
  (h.length ≤ h'.length ∧ xsz h ≤ xsz h') ∧ ∀ (l : Launch) (K : XK), Met l M.1 (xws M) (xrm M (h'.length - h.length) (xsz h' - xsz h)) (xP K S as h) (xQ K r h') (h'.length - h.length) (xsz h' - xsz h) (fun q => K.1 ≤ q)
/-- what a method's walk stands on -/
def xC (K : XK) (S : XS) (M : XM) (p : Program) (s : State) (m : MethodId) (args : Array Value) (meth : Method) (c : Code) : Prop :=
  p.tables.exec = Jvm.exec ∧ c.code = M.2.1 ∧ meth.sig.returnType = M.2.2.2.1 ∧ c.maxLocals = M.2.2.1 ∧ s.vm.findClass M.1.cls = some m.cls ∧ (∀ w ∈ gtbl, w.before args s = true) ∧ meth.locks = false ∧ meth.name = M.1.name ∧ xE K S s ∧ K.1 ≤ s.heap.size
/-- from here on method M comes to its end, with r over h' -/
def AW (S : XS) (M : XM) (pc : Nat) (ls : List (Option Value)) (st : List Value) (h : XH) (r : Option Value) (h' : XH) : Prop :=
  (h.length ≤ h'.length ∧ xsz h ≤ xsz h') ∧
  ∀ (l : Launch) (K : XK) (p : Program) (e : Env) (s : State) (m : MethodId) (args : Array Value) (below : List Frame) (meth : Method) (c : Code) (n0 z0 : Nat) (H : Heap) (locs : List Loc) (L : Array Slot),
    xC K S M p s m args meth c → n0 ≤ h.length → z0 ≤ xsz h → XR K h H → va_S (fun q => K.1 ≤ q) s.heap H locs → lvX K L M.2.2.1 ls →
    W p l e (xrm M (h'.length - n0) (xsz h' - z0)) s m args below meth c H locs (h.length - n0) (xsz h - z0) (MQ below (xQ K r h') args s (h'.length - n0) (xsz h' - z0) (fun q => K.1 ≤ q)) (F0 m pc L (st.map (xv K)))
