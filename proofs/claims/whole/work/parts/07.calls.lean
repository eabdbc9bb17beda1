/-! CALLS, AND A METHOD'S CONTRACT OUT OF ITS WALK. -/
theorem xP_blind {K : XK} {S : XS} {as : List Value} {h : XH} : FrameBlind (xP K S as h) := fun a U g mk q => ⟨q.1, q.2.1, xE.same (s := U) (U := U.calling g mk a) rfl rfl q.2.2.1, q.2.2.2⟩
section XCR
variable {S : XS} {M : XM} {pc : Nat} {ls : List (Option Value)} {st : List Value} {h h1 : XH} {r rv : Option Value} {h' : XH}
theorem xP_at {l : Launch} {K : XK} {p : Program} {s : State} {m : MethodId} {args : Array Value} {meth : Method} {c : Code} {H : Heap} {locs : List Loc} {as : List Value} (C : xC K S M p s m args meth c) (hR : XR K h H) (hS : va_S (fun q => K.1 ≤ q) s.heap H locs) :
    ∀ U : State, U.heap = H → s.WarmedH U.vm → xP K S as h (as.map (xv K)).toArray U := fun U hU hW =>
  ⟨rfl, by rw [hU]; exact hR, C.2.2.2.2.2.2.2.2.1.to hW (fun q q1 q2 => by rw [hU]; exact hS.2.1 q q1 q2), by rw [hU, hR.1]; exact Nat.le_add_right _ _⟩
theorem xrun {l : Launch} {K : XK} {p : Program} {e : Env} {s : State} {m : MethodId} {args a : Array Value} {below : List Frame} {meth : Method} {c : Code} {n0 z0 : Nat} {H : Heap} {locs : List Loc} {L : Array Slot} {st0 : List Value}
    (C : xC K S M p s m args meth c) (hn : n0 ≤ h.length) (hz : z0 ≤ xsz h) (hl1 : h.length ≤ h1.length ∧ xsz h ≤ xsz h1) (hS : va_S (fun q => K.1 ≤ q) s.heap H locs) (hL : lvX K L M.2.2.1 ls)
    (hrun : va_Run p l e (xrm M (h'.length - n0) (xsz h' - z0)) s m args below meth c H locs (h.length - n0) (xsz h - z0) (h1.length - h.length) (xsz h1 - xsz h) (F0 m pc L st0) (st.map (xv K)) (xQ K rv h1 a) (fun q => K.1 ≤ q))
    (kk : AW S M (pc + 3) ls (rv.toList ++ st) h1 r h') :
    W p l e (xrm M (h'.length - n0) (xsz h' - z0)) s m args below meth c H locs (h.length - n0) (xsz h - z0) (MQ below (xQ K r h') args s (h'.length - n0) (xsz h' - z0) (fun q => K.1 ≤ q)) (F0 m pc L st0) := by
  intro T hT X
  obtain ⟨v, s0, t, T', L9, g0, X', hL9, e1, e2, ⟨hv, hR1, hF⟩, go⟩ := hrun T hT X
  have hv : v = rv.map (xv K) := by injection hv
  subst hv
  rw [show h.length - n0 + (h1.length - h.length) = h1.length - n0 by omega, show xsz h - z0 + (xsz h1 - xsz h) = xsz h1 - z0 by omega] at X'
  have hS1 : va_S (fun q => K.1 ≤ q) s.heap T'.heap (locs ++ L9) := by
    refine ⟨?_, fun q q1 q2 => ?_, fun q hq => ?_⟩
    · rw [e1]; exact Nat.le_trans hS.1 (by rw [← g0]; exact hF.1)
    · rw [e1, hF.2 q (by rw [g0]; exact Nat.lt_of_lt_of_le q1 hS.1) q2, g0]; exact hS.2.1 q q1 q2
    · rcases List.mem_append.mp hq with h9 | h9
      · exact hS.2.2 q h9
      · exact hL9 q h9
  obtain ⟨t2, a1, b1⟩ := kk.2 l K p e s m args below meth c n0 z0 T'.heap (locs ++ L9) L C (by omega) (by omega) (by rw [e1]; exact hR1) hS1 hL T' rfl X'
  refine ⟨t2, go t2 ?_, b1⟩
  have hstk : (rv.map (xv K)).toList ++ st.map (xv K) = (rv.toList ++ st).map (xv K) := by cases rv <;> simp
  rw [hstk]
  exact a1
/-- what the tables say of a call -/
def xLk (M Mc : XM) (n : Nat) : Prop := Cond.initialized Mc.1.cls ∈ gtbl ∧ Cond.code Mc.1 Mc.2.1 Mc.2.2.1 Mc.2.2.2.1 ∈ gtbl ∧ (Mc.1.cls ≠ "java/lang/invoke/MethodHandle" ∧ Mc.1.cls ≠ "java/lang/invoke/VarHandle" ∧ (parseMethodDescriptor Mc.1.desc).map (fun d => d.parameters.length) = some n) ∧ (Mc.2.2.2.2.1 + 1 ≤ M.2.2.2.2.1 ∧ 8 + (Mc.2.2.1 + 11) + Mc.2.2.2.2.2 ≤ M.2.2.2.2.2)
def xLV (M Mc : XM) (index ci n : Nat) : Prop := xLk M Mc n ∧ Cond.methodLink M.1.cls index Mc.1 ∈ gtbl ∧ Cond.instanceMethod Mc.1 ∈ gtbl ∧ Cond.selects Mc.1.cls Mc.1 Mc.1 ∈ gtbl ∧ ∃ (T : u_T) (N : Nat), xcl[ci]? = some (Mc.1.cls, T, N)
def xLS (M Mc : XM) (index n : Nat) : Prop := xLk M Mc n ∧ Cond.methodLink M.1.cls index Mc.1 ∈ gtbl ∧ Cond.static Mc.1 ∈ gtbl
def xLSN (M Mc : XM) (index n : Nat) : Prop := xLk M Mc n ∧ (∃ host, Cond.methodLinkNest M.1.cls index Mc.1 host ∈ tables_1) ∧ Cond.static Mc.1 ∈ gtbl
def xLI (M Mc : XM) (index n : Nat) : Prop := xLk M Mc n ∧ Cond.methodLink M.1.cls index Mc.1 ∈ gtbl ∧ Cond.instanceMethod Mc.1 ∈ gtbl ∧ Mc.1.name = "<init>" ∧ Mc.2.2.2.1 = none
def xLIN (M Mc : XM) (index n : Nat) : Prop := xLk M Mc n ∧ (∃ host, Cond.methodLinkNest M.1.cls index Mc.1 host ∈ tables_1) ∧ Cond.instanceMethod Mc.1 ∈ gtbl ∧ Mc.1.name = "<init>" ∧ Mc.2.2.2.1 = none
theorem xGW {Mc : XM} (h : Cond.code Mc.1 Mc.2.1 Mc.2.2.1 Mc.2.2.2.1 ∈ gtbl) : GoodIn gtbl (xws Mc) := fun w hw => by
  rcases List.mem_cons.mp hw with rfl | q
  · exact gt_good _ h
  · exact gt_good _ q
theorem x_callV {index ci b n : Nat} {fs : List Value} {Mc : XM} {As stk : List Value} (hd : decode M.2.1 pc = .ok (.invokevirtual index, 3)) (hl : xLV M Mc index ci n) (he : h[b]? = some (.inr (ci, fs))) (hn9 : As.length = n) (hs9 : stk = As.reverse ++ .ref b :: st) (hst : (st.map fun v => v.category).sum ≤ 8) (hM : AM S Mc (.ref b :: As) h rv h1) (kk : AW S M (pc + 3) ls (rv.toList ++ st) h1 r h') : AW S M pc ls stk h r h' := by
  subst hs9
  refine ⟨⟨Nat.le_trans hM.1.1 kk.1.1, Nat.le_trans hM.1.2 kk.1.2⟩, fun l K p e s m args below meth c n0 z0 H locs L C hn hz hR hS hL => ?_⟩
  obtain ⟨⟨l1, l2, l3, l4⟩, l5, l6, l7, T, N, l8⟩ := hl
  have hts := C.2.2.2.2.2.1
  have k1 := kk.1
  have m1 := hM.1
  refine xrun C hn hz hM.1 hS hL (va_runV (As := As.map (xv K)) (rest := st.map (xv K)) (b := K.1 + b) (C := Mc.1.cls) ⟨C.1, C.2.1, C.2.2.2.1, C.2.2.2.2.1, hts⟩ (hM.2 l K) ⟨callB_of n hts (xGW l2) rfl rfl rfl (hts _ l1) (hts _ l5) l3 l4, hts _ l6, hts _ l7⟩ ⟨xP_blind, va_recv (ci := ci) (q0 := b) C.2.2.2.2.2.2.2.2.1.1 hR.2 l8 (xw_get he), xP_at (l := l) (as := .ref b :: As) C hR hS⟩ rfl (by rw [List.length_map]; exact hn9) hL.1 ?_ (lv_room (by rw [xv_cats]; exact hst)) hd ⟨?_, ?_⟩) kk
  · show List.map (xv K) (As.reverse ++ .ref b :: st) = _
    rw [List.map_append, List.map_reverse]
    rfl
  · show h.length - n0 + (h1.length - h.length) ≤ h'.length - n0
    omega
  · show xsz h - z0 + (xsz h1 - xsz h) ≤ xsz h' - z0
    omega
theorem x_callS {index n : Nat} {Mc : XM} {As stk : List Value} (hd : decode M.2.1 pc = .ok (.invokestatic index, 3)) (hl : xLS M Mc index n) (hn9 : As.length = n) (hs9 : stk = As.reverse ++ st) (hst : (st.map fun v => v.category).sum ≤ 8) (hM : AM S Mc As h rv h1) (kk : AW S M (pc + 3) ls (rv.toList ++ st) h1 r h') : AW S M pc ls stk h r h' := by
  subst hs9
  refine ⟨⟨Nat.le_trans hM.1.1 kk.1.1, Nat.le_trans hM.1.2 kk.1.2⟩, fun l K p e s m args below meth c n0 z0 H locs L C hn hz hR hS hL => ?_⟩
  obtain ⟨⟨l1, l2, l3, l4⟩, l5, l6⟩ := hl
  have hts := C.2.2.2.2.2.1
  have k1 := kk.1
  have m1 := hM.1
  refine xrun C hn hz hM.1 hS hL (va_runS (As := As.map (xv K)) (rest := st.map (xv K)) ⟨C.1, C.2.1, C.2.2.2.1, C.2.2.2.2.1, hts⟩ (hM.2 l K) ⟨callB_of n hts (xGW l2) rfl rfl rfl (hts _ l1) (hts _ l5) l3 l4, hts _ l6⟩ ⟨xP_blind, xP_at (l := l) (as := As) C hR hS⟩ rfl (by rw [List.length_map]; exact hn9) hL.1 ?_ (lv_room (by rw [xv_cats]; exact hst)) hd ⟨?_, ?_⟩) kk
  · show List.map (xv K) (As.reverse ++ st) = _
    rw [List.map_append, List.map_reverse]
  · show h.length - n0 + (h1.length - h.length) ≤ h'.length - n0
    omega
  · show xsz h - z0 + (xsz h1 - xsz h) ≤ xsz h' - z0
    omega
theorem x_callSN {index n : Nat} {Mc : XM} {As stk : List Value} (hd : decode M.2.1 pc = .ok (.invokestatic index, 3)) (hl : xLSN M Mc index n) (hn9 : As.length = n) (hs9 : stk = As.reverse ++ st) (hst : (st.map fun v => v.category).sum ≤ 8) (hM : AM S Mc As h rv h1) (kk : AW S M (pc + 3) ls (rv.toList ++ st) h1 r h') : AW S M pc ls stk h r h' := by
  subst hs9
  refine ⟨⟨Nat.le_trans hM.1.1 kk.1.1, Nat.le_trans hM.1.2 kk.1.2⟩, fun l K p e s m args below meth c n0 z0 H locs L C hn hz hR hS hL => ?_⟩
  obtain ⟨⟨l1, l2, l3, l4⟩, ⟨host, l5⟩, l6⟩ := hl
  have hts := C.2.2.2.2.2.1
  have k1 := kk.1
  have m1 := hM.1
  refine xrun C hn hz hM.1 hS hL (va_runSN (As := As.map (xv K)) (rest := st.map (xv K)) ⟨C.1, C.2.1, C.2.2.2.1, C.2.2.2.2.1, hts⟩ (hM.2 l K) ⟨va_cnB n hts (xGW l2) rfl rfl rfl (C.2.2.2.2.2.2.2.2.1.2.1 _ l5 rfl) (hts _ l1) l3 l4, hts _ l6, trivial⟩ ⟨xP_blind, xP_at (l := l) (as := As) C hR hS⟩ rfl (by rw [List.length_map]; exact hn9) hL.1 ?_ (lv_room (by rw [xv_cats]; exact hst)) hd ⟨?_, ?_⟩) kk
  · show List.map (xv K) (As.reverse ++ st) = _
    rw [List.map_append, List.map_reverse]
  · show h.length - n0 + (h1.length - h.length) ≤ h'.length - n0
    omega
  · show xsz h - z0 + (xsz h1 - xsz h) ≤ xsz h' - z0
    omega
theorem x_callI {index b n : Nat} {Mc : XM} {As stk : List Value} (hd : decode M.2.1 pc = .ok (.invokespecial index, 3)) (hl : xLI M Mc index n) (hn9 : As.length = n) (hs9 : stk = As.reverse ++ .ref b :: st) (hst : (st.map fun v => v.category).sum ≤ 8) (hM : AM S Mc (.ref b :: As) h rv h1) (kk : AW S M (pc + 3) ls (rv.toList ++ st) h1 r h') : AW S M pc ls stk h r h' := by
  subst hs9
  refine ⟨⟨Nat.le_trans hM.1.1 kk.1.1, Nat.le_trans hM.1.2 kk.1.2⟩, fun l K p e s m args below meth c n0 z0 H locs L C hn hz hR hS hL => ?_⟩
  obtain ⟨⟨l1, l2, l3, l4⟩, l5, l6, l7, l8⟩ := hl
  have hts := C.2.2.2.2.2.1
  have k1 := kk.1
  have m1 := hM.1
  refine xrun C hn hz hM.1 hS hL (va_runI (As := As.map (xv K)) (rest := st.map (xv K)) (b := K.1 + b) ⟨C.1, C.2.1, C.2.2.2.1, C.2.2.2.2.1, hts⟩ (hM.2 l K) ⟨callB_of n hts (xGW l2) (by rw [← l8]) rfl rfl (hts _ l1) (hts _ l5) l3 l4, l7, hts _ l6⟩ ⟨xP_blind, xP_at (l := l) (as := .ref b :: As) C hR hS⟩ rfl (by rw [List.length_map]; exact hn9) hL.1 ?_ (lv_room (by rw [xv_cats]; exact hst)) hd ⟨?_, ?_⟩) kk
  · show List.map (xv K) (As.reverse ++ .ref b :: st) = _
    rw [List.map_append, List.map_reverse]
    rfl
  · show h.length - n0 + (h1.length - h.length) ≤ h'.length - n0
    omega
  · show xsz h - z0 + (xsz h1 - xsz h) ≤ xsz h' - z0
    omega
theorem x_callIN {index b n : Nat} {Mc : XM} {As stk : List Value} (hd : decode M.2.1 pc = .ok (.invokespecial index, 3)) (hl : xLIN M Mc index n) (hn9 : As.length = n) (hs9 : stk = As.reverse ++ .ref b :: st) (hst : (st.map fun v => v.category).sum ≤ 8) (hM : AM S Mc (.ref b :: As) h rv h1) (kk : AW S M (pc + 3) ls (rv.toList ++ st) h1 r h') : AW S M pc ls stk h r h' := by
  subst hs9
  refine ⟨⟨Nat.le_trans hM.1.1 kk.1.1, Nat.le_trans hM.1.2 kk.1.2⟩, fun l K p e s m args below meth c n0 z0 H locs L C hn hz hR hS hL => ?_⟩
  obtain ⟨⟨l1, l2, l3, l4⟩, ⟨host, l5⟩, l6, l7, l8⟩ := hl
  have hts := C.2.2.2.2.2.1
  have k1 := kk.1
  have m1 := hM.1
  refine xrun C hn hz hM.1 hS hL (va_runIN (As := As.map (xv K)) (rest := st.map (xv K)) (b := K.1 + b) ⟨C.1, C.2.1, C.2.2.2.1, C.2.2.2.2.1, hts⟩ (hM.2 l K) ⟨va_cnB n hts (xGW l2) (by rw [← l8]) rfl rfl (C.2.2.2.2.2.2.2.2.1.2.1 _ l5 rfl) (hts _ l1) l3 l4, l7, hts _ l6⟩ ⟨xP_blind, xP_at (l := l) (as := .ref b :: As) C hR hS⟩ rfl (by rw [List.length_map]; exact hn9) hL.1 ?_ (lv_room (by rw [xv_cats]; exact hst)) hd ⟨?_, ?_⟩) kk
  · show List.map (xv K) (As.reverse ++ .ref b :: st) = _
    rw [List.map_append, List.map_reverse]
    rfl
  · show h.length - n0 + (h1.length - h.length) ≤ h'.length - n0
    omega
  · show xsz h - z0 + (xsz h1 - xsz h) ≤ xsz h' - z0
    omega
/-- Object.<init> -/
theorem x_oinit {index a : Nat} (hd : decode M.2.1 pc = .ok (.invokespecial index, 3)) (hl : Cond.methodLink M.1.cls index Lib.objectInit ∈ gtbl ∧ Cond.instanceMethod Lib.objectInit ∈ gtbl ∧ Cond.code Lib.objectInit ⟨#[0xb1]⟩ 1 none ∈ gtbl) (hst : (st.map fun v => v.category).sum ≤ 8) (hrm : 1 ≤ M.2.2.2.2.1 ∧ 20 ≤ M.2.2.2.2.2) (kk : AW S M (pc + 3) ls st h r h') : AW S M pc ls (.ref a :: st) h r h' := by
  refine ⟨kk.1, fun l K p e s m args below meth c n0 z0 H locs L C hn hz hR hS hL => ?_⟩
  have hts := C.2.2.2.2.2.1
  refine W.objInit (a := K.1 + a) (rest := st.map (xv K)) C.1 C.2.1 C.2.2.2.2.1 (hts _ hl.1) (hts _ hl.2.1) (hts _ hl.2.2) rfl (hL.1.trans C.2.2.2.1.symm) rfl hd hrm.1 ?_ (kk.2 l K p e s m args below meth c n0 z0 H locs L C hn hz hR hS hL)
  show 2 * 0 + ((st.map (xv K)).map fun v => v.category).sum + 12 ≤ M.2.2.2.2.2
  rw [xv_cats]
  omega
/-- a method's locals at its entry -/
def xin (nL : Nat) (as : List Value) : List (Option Value) := (as.flatMap (fun v => if v.category = 2 then [some v, none] else [some v])) ++ List.replicate (nL - (as.map fun v => v.category).sum) none
theorem xin_args (K : XK) : ∀ (as : List Value) (o : Nat) (i : Nat) (v : Value), (as.flatMap (fun v => if v.category = 2 then [some v, none] else [some v]))[i]? = some (some v) → (o + i, xv K v) ∈ lv_args o (as.map (xv K)) := by
  intro as
  induction as with
  | nil => intro o i v h; simp at h
  | cons a as ih =>
    intro o i v h
    rw [List.flatMap_cons] at h
    rw [List.map_cons, lv_args, xv_cat]
    by_cases hc : a.category = 2
    · rw [if_pos hc] at h ⊢
      match i, h with
      | 0, h =>
        have h : some (some a) = some (some v) := h
        cases h
        exact List.mem_cons_self
      | 1, h =>
        have h : some (none : Option Value) = some (some v) := h
        cases h
      | i + 2, h =>
        have := ih (o + 2) i v h
        rw [show o + 2 + i = o + (i + 2) by omega] at this
        exact List.mem_cons_of_mem _ this
    · rw [if_neg hc] at h ⊢
      match i, h with
      | 0, h =>
        have h : some (some a) = some (some v) := h
        cases h
        exact List.mem_cons_self
      | i + 1, h =>
        have := ih (o + 1) i v h
        rw [show o + 1 + i = o + (i + 1) by omega] at this
        exact List.mem_cons_of_mem _ this
theorem xin_len (K : XK) (as : List Value) : (lg_sl (as.map (xv K))).length = (as.map fun v => v.category).sum := by
  induction as with
  | nil => rfl
  | cons a as ih =>
    have hc := lv_cat a
    have e : lg_sl ((a :: as).map (xv K)) = lg_sl [xv K a] ++ lg_sl (as.map (xv K)) := by simp [lg_sl]
    rw [e, List.length_append, ih, List.map_cons, List.sum_cons]
    congr 1
    rcases hc with h | h
    · simp [lg_sl, xv_cat, h]
    · simp [lg_sl, xv_cat, h]
/-- THE CONTRACT -/
theorem x_meth {as : List Value} {ls : List (Option Value)} (hy : plainName M.1.cls = true) (hcat : (as.map fun v => v.category).sum ≤ M.2.2.1) (hls : xin M.2.2.1 as = ls) (k : AW S M 0 ls [] h r h') : AM S M as h r h' := by
  subst hls
  refine ⟨k.1, fun l K => ?_⟩
  refine Met.ofW (cc := M.2.1) (maxL := M.2.2.1) (ret := M.2.2.2.1) hy rfl ?_
  intro p e s m args below meth c s1 B hml hv
  obtain ⟨rfl, hR, hE, hsz⟩ := hv
  have hts := atoms_spec (ws := xws M) B.pre
  have hC : xC K S M p s m ((as.map (xv K)).toArray) meth c := ⟨B.exec, B.bytes, B.returns, hml, findClass_of_methodNamed B.named, fun w hw => hts w (List.mem_cons_of_mem _ hw), B.notSynchronized, (name_of_methodNamed B.named B.method).1, hE, hsz⟩
  have hle : (lg_sl (as.map (xv K))).length ≤ M.2.2.1 := by rw [xin_len]; exact hcat
  have hl := lv_entry (as.map (xv K)) (n := M.2.2.1) hle
  rw [lg_entry_eq]
  generalize (lg_sl (as.map (xv K)) ++ List.replicate (M.2.2.1 - (lg_sl (as.map (xv K))).length) Slot.unset).toArray = L at hl ⊢
  have hL : lvX K L M.2.2.1 (xin M.2.2.1 as) := by
    refine ⟨hl.1, hl.2.1, fun i v hi => ?_⟩
    refine hl.2.2 (i, xv K v) ?_
    unfold xin at hi
    by_cases hlt : i < (as.flatMap (fun v => if v.category = 2 then [some v, none] else [some v])).length
    · rw [List.getElem?_append_left hlt] at hi
      have := xin_args K as 0 i v hi
      rw [Nat.zero_add] at this
      exact this
    · rw [List.getElem?_append_right (by omega)] at hi
      have := List.eq_of_mem_replicate (List.mem_of_getElem? hi)
      cases this
  have q := k.2 l K p e s m ((as.map (xv K)).toArray) below meth c h.length (xsz h) s.heap [] L hC (Nat.le_refl _) (Nat.le_refl _) hR va_S.rf hL
  rw [Nat.sub_self, Nat.sub_self] at q
  exact q
end XCR
