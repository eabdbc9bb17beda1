/-! ROWS THAT MAKE CELLS. -/
theorem XR.push {K : XK} {h : XH} {H H1 : Heap} {e : va_E} (hR : XR K h H) (z : H1.size = H.size + 1) (hat : va_at K.2.1 xcl (K.1 + h.length, xe K e) H1) (o1 : ∀ q : Nat, q < H.size → H1[q]? = H[q]?) : XR K (h ++ [e]) H1 := by
  refine ⟨by rw [List.length_append, z, hR.1]; rfl, ?_⟩
  rw [xw_push]
  refine (hR.2.kept (fun k x hx => o1 x.1 ((hR.2 k x hx).lt))).app (fun k x hx => ?_)
  have h0 : k < 1 := (List.getElem?_eq_some_iff.mp hx).1
  rw [show k = 0 by omega] at hx
  cases hx
  exact hat
theorem va_S.grow {A : Nat → Prop} {H0 H H1 : Heap} {locs : List Loc} (hS : va_S A H0 H locs) (z : H.size ≤ H1.size) (o1 : ∀ q : Nat, q < H.size → H1[q]? = H[q]?) : va_S A H0 H1 locs :=
  ⟨Nat.le_trans hS.1 z, fun x h1 h2 => (o1 x (Nat.lt_of_lt_of_le h1 hS.1)).trans (hS.2.1 x h1 h2), hS.2.2⟩
section XAL
variable {S : XS} {M : XM} {pc : Nat} {ls : List (Option Value)} {st : List Value} {h h1 : XH} {r : Option Value} {h' : XH} {Q : Option Value → XH → Prop}
/-- a point behind some cells that were made -/
theorem xgo2 {pc1 : Nat} {ls1 : List (Option Value)} {st1 : List Value} {dc ds : Nat} (k : AW S M pc1 ls1 st1 h1 r h') (e1 : h1.length = h.length + dc) (e2 : xsz h1 = xsz h + ds) {l : Launch} {K : XK} {p : Program} {e : Env} {s : State} {m : MethodId} {args : Array Value} {below : List Frame} {meth : Method} {c : Code} {n0 z0 : Nat} {H : Heap} {locs : List Loc} {L : Array Slot}
    (C : xC K S M p s m args meth c) (hn : n0 ≤ h.length) (hz : z0 ≤ xsz h) (hR : XR K h1 H) (hS : va_S (fun q => K.1 ≤ q) s.heap H locs) (hL : lvX K L M.2.2.1 ls1) :
    W p l e (xrm M (h'.length - n0) (xsz h' - z0)) s m args below meth c H locs (h.length - n0 + dc) (xsz h - z0 + ds) (MQ below (xQ K r h') args s (h'.length - n0) (xsz h' - z0) (fun q => K.1 ≤ q)) (F0 m pc1 L (st1.map (xv K))) := by
  rw [show h.length - n0 + dc = h1.length - n0 by omega, show xsz h - z0 + ds = xsz h1 - z0 by omega]
  exact k.2 l K p e s m args below meth c n0 z0 H locs L C (by omega) (by omega) hR hS hL
/-- what the tables say of a new object: its fields' first values -/
def xNw (M : XM) (index ci : Nat) (fs : List Value) : Prop := ∃ (C : String) (T : u_T) (ty0 : Nat → FieldType), xcl[ci]? = some (C, T, fs.length) ∧ Cond.classLink M.1.cls index C ∈ gtbl ∧ Cond.instantiable C fs.length ∈ gtbl ∧ Cond.initialized C ∈ gtbl ∧ xok ci C T fs.length ty0 ∧ ∀ K : XK, ∀ j, j < fs.length → defaultValue (ty0 j) = vp_V (fs.map (xv K)) j
theorem x_new {index ci : Nat} {fs : List Value} {q : Nat} (hd : decode M.2.1 pc = .ok (.new index, 3)) (hw : xNw M index ci fs) (hq : h.length = q) (hh : h ++ [.inr (ci, fs)] = h1) (kk : AW S M (pc + 3) ls (.ref q :: st) h1 r h') : AW S M pc ls st h r h' := by
  subst hh
  subst hq
  have k1 := kk.1
  have e1 : (h ++ [(.inr (ci, fs) : va_E)]).length = h.length + 1 := by simp
  have e2 : xsz (h ++ [.inr (ci, fs)]) = xsz h + fs.length := xsz_push _
  rw [e1, e2] at k1
  refine ⟨⟨by omega, by omega⟩, fun l K p e s m args below meth c n0 z0 H locs L C hn hz hR hS hL => ?_⟩
  obtain ⟨C9, T, ty0, hc, w1, w2, w3, ho, hdf⟩ := hw
  have hts := C.2.2.2.2.2.1
  have hK := C.2.2.2.2.2.2.2.2.1.1
  have hKn := hK.1 ci _ hc
  refine W.newcK C.1 C.2.1 C.2.2.2.2.1 (hts _ w1) (hts _ w2) (hts _ w3) rfl hd ?_ ?_ hKn.2.1 hR.1 fun H1 kC hkC g1 z1 o1 => ?_
  · show h.length - n0 + 1 ≤ h'.length - n0
    omega
  · show xsz h - z0 + fs.length ≤ xsz h' - z0
    omega
  · have o1 : ∀ q : Nat, q < H.size → H1[q]? = H[q]? := fun q hq => o1 q (by rw [← hR.1]; exact hq)
    have hR1 : XR K (h ++ [.inr (ci, fs)]) H1 := hR.push (by rw [z1, hR.1]) ⟨_, hc, (u_born ty0 hts ho.1 hKn hkC g1 ho.2.1).to (hdf K)⟩ o1
    exact xgo2 kk e1 e2 C hn hz hR1 (hS.grow (by rw [z1, hR.1]; omega) o1) hL
theorem x_newa {at9 : ArrayType} {t : Nat} {n : Int32} {N q : Nat} (hd : decode M.2.1 pc = .ok (.newarray at9, 2)) (ht : (at9 = .int ∧ t = 0) ∨ (at9 = .boolean ∧ t = 1)) (hw : Cond.arrayClass (newarray.typeOf at9) ∈ gtbl) (hn0 : ¬ n < 0) (hN : n.toNatClampNeg = N) (hb : N ≤ 100000) (hq : h.length = q) (hh : h ++ [.inl (t, N, .inl (fun _ => 0))] = h1) (kk : AW S M (pc + 2) ls (.ref q :: st) h1 r h') : AW S M pc ls (.int n :: st) h r h' := by
  subst hh
  subst hq
  have k1 := kk.1
  have e1 : (h ++ [(.inl (t, N, .inl (fun _ => 0)) : va_E)]).length = h.length + 1 := by simp
  have e2 : xsz (h ++ [.inl (t, N, .inl (fun _ => 0))]) = xsz h + N := xsz_push _
  rw [e1, e2] at k1
  refine ⟨⟨by omega, by omega⟩, fun l K p e s m args below meth c n0 z0 H locs L C hn hz hR hS hL => ?_⟩
  have hts := C.2.2.2.2.2.1
  have hK := C.2.2.2.2.2.2.2.2.1.1
  refine va_newaK C.1 C.2.1 (hts _ hw) rfl hd rfl hn0 hN ?_ ?_ ?_ hR.1 fun H1 cA g1 z1 o1 hAr hNm => ?_
  · rcases ht with ⟨rfl, -⟩ | ⟨rfl, -⟩
    · show N * 4 ≤ 536870912
      omega
    · show N * 1 ≤ 536870912
      omega
  · show h.length - n0 + 1 ≤ h'.length - n0
    omega
  · show xsz h - z0 + N ≤ xsz h' - z0
    omega
  · have o1 : ∀ q : Nat, q < H.size → H1[q]? = H[q]? := fun q hq => o1 q (by rw [← hR.1]; exact hq)
    have hcA : cA = K.2.2.1 t := by
      rcases ht with ⟨rfl, rfl⟩ | ⟨rfl, rfl⟩
      · exact Option.some.inj (hNm.symm.trans (hK.2 0 _ rfl).2)
      · exact Option.some.inj (hNm.symm.trans (hK.2 1 _ rfl).2)
    have hR1 : XR K (h ++ [.inl (t, N, .inl (fun _ => 0))]) H1 := hR.push (by rw [z1, hR.1]) (by
      show H1[K.1 + h.length]? = some (vp_cell (K.2.2.1 t) (N, .inl (fun _ => 0)))
      rw [g1, hcA, vp_cell_i]
      rcases ht with ⟨rfl, -⟩ | ⟨rfl, -⟩ <;> rfl) o1
    exact xgo2 kk e1 e2 C hn hz hR1 (hS.grow (by rw [z1, hR.1]; omega) o1) hL
theorem x_anewa {index t : Nat} {C9 : String} {n : Int32} {N q : Nat} (hd : decode M.2.1 pc = .ok (.anewarray index, 3)) (ht : (C9 = xR_Fa ∧ t = 3) ∨ (C9 = xR_Ag ∧ t = 4)) (hw : Cond.classLink M.1.cls index C9 ∈ gtbl) (hn0 : ¬ n < 0) (hN : n.toNatClampNeg = N) (hb : N ≤ 100000) (hq : h.length = q) (hh : h ++ [.inl (t, N, .inr (.inr (.inr (.inr (fun _ => none)))))] = h1) (kk : AW S M (pc + 3) ls (.ref q :: st) h1 r h') : AW S M pc ls (.int n :: st) h r h' := by
  subst hh
  subst hq
  have k1 := kk.1
  have e1 : (h ++ [(.inl (t, N, .inr (.inr (.inr (.inr (fun _ => none))))) : va_E)]).length = h.length + 1 := by simp
  have e2 : xsz (h ++ [.inl (t, N, .inr (.inr (.inr (.inr (fun _ => none)))))]) = xsz h + N := xsz_push _
  rw [e1, e2] at k1
  refine ⟨⟨by omega, by omega⟩, fun l K p e s m args below meth c n0 z0 H locs L C hn hz hR hS hL => ?_⟩
  subst hN
  have hts := C.2.2.2.2.2.1
  have hE := C.2.2.2.2.2.2.2.2.1
  have hK := hE.1
  have hover : va_AO C9 s := by
    rcases ht with ⟨rfl, -⟩ | ⟨rfl, -⟩
    · exact hE.2.2.2.1.1
    · exact hE.2.2.2.1.2.1
  refine W.anew C.1 C.2.1 C.2.2.2.2.1 (hts _ hw) (va_AO.use hover) rfl hd rfl hn0 (by omega) ?_ ?_ fun cA kA comp f1 f2 f3 f4 => ?_
  · show h.length - n0 + 1 ≤ h'.length - n0
    omega
  · show xsz h - z0 + n.toNatClampNeg ≤ xsz h' - z0
    omega
  · generalize hH1 : H.push ({ cls := cA, slots := Array.replicate n.toNatClampNeg .null, vm := .none } : Cell) = H1
    have z1 : H1.size = H.size + 1 := by rw [← hH1, Array.size_push]
    have g1 : H1[H.size]? = some (arrV cA n.toNatClampNeg (fun _ => .null)) := by rw [← hH1, Array.getElem?_push_size, ← arrV_new]
    have o1 : ∀ q : Nat, q < H.size → H1[q]? = H[q]? := fun q hq => by rw [← hH1, Array.getElem?_push, if_neg (Nat.ne_of_lt hq)]
    have hcA : cA = K.2.2.1 t := by
      rcases ht with ⟨rfl, rfl⟩ | ⟨rfl, rfl⟩
      · obtain ⟨_, _, _, _, _, q4⟩ := (hK.2 3 _ rfl).2
        exact Option.some.inj (f1.symm.trans q4)
      · obtain ⟨_, _, _, _, _, q4⟩ := (hK.2 4 _ rfl).2
        exact Option.some.inj (f1.symm.trans q4)
    have hR1 : XR K (h ++ [.inl (t, n.toNatClampNeg, .inr (.inr (.inr (.inr (fun _ => none)))))]) H1 := hR.push z1 (by
      show H1[K.1 + h.length]? = some (vp_cell (K.2.2.1 t) (n.toNatClampNeg, .inr (.inr (.inr (.inr (fun _ => xf K none))))))
      rw [← hR.1, g1, hcA, vp_cell_q]
      rfl) o1
    have q := xgo2 kk e1 e2 (l := l) (e := e) (below := below) C hn hz hR1 (hS.grow (by rw [z1]; omega) o1) hL
    rw [hR.1]
    exact q
theorem xouter (c : ClassId) (N h0 : Nat) : ∀ i : Nat, Jvm.Free.Multi.outerC c N h0 i = arrV c N (fun j => va_rf (if j < i then some (h0 + 1 + j) else none))
  | 0 => by
    show ({ cls := c, slots := Array.replicate N .null, vm := .none } : Cell) = _
    rw [arrV_new]
    refine congrArg (arrV c N) (funext fun j => ?_)
    simp [va_rf]
  | i + 1 => by
    show (Jvm.Free.Multi.outerC c N h0 i).setSlot i (.ref (h0 + 1 + i)) = _
    rw [xouter c N h0 i, arrV_store]
    refine congrArg (arrV c N) (funext fun j => ?_)
    by_cases e : j = i
    · subst e
      simp [updV, va_rf]
    · by_cases h : j < i
      · simp [updV, e, h, Nat.lt_succ_of_lt h]
      · simp [updV, e, h, show ¬ j < i + 1 by omega]
theorem XR.many {K : XK} {h : XH} {H H1 : Heap} {es : List va_E} (hR : XR K h H) (z : H1.size = H.size + es.length) (hat : ∀ (i : Nat) (e : va_E), es[i]? = some e → va_at K.2.1 xcl (K.1 + h.length + i, xe K e) H1) (o1 : ∀ q : Nat, q < H.size → H1[q]? = H[q]?) : XR K (h ++ es) H1 := by
  refine ⟨by rw [List.length_append, z, hR.1]; omega, ?_⟩
  intro k x hx
  obtain ⟨g1, e, g2, g3⟩ := xw_get' hx
  by_cases hl : k < h.length
  · rw [List.getElem?_append_left hl] at g2
    have h3 : (xw K h)[k]? = some x := by
      rw [xw_get g2, ← g1, ← g3]
    exact (hR.2 k x h3).kept (o1 x.1 ((hR.2 k x h3).lt))
  · rw [List.getElem?_append_right (by omega)] at g2
    have := hat (k - h.length) e g2
    rw [show K.1 + h.length + (k - h.length) = K.1 + k by omega, ← g1, ← g3] at this
    exact this
theorem x_mna {index q N K' : Nat} {n k : Int32} (hd : decode M.2.1 pc = .ok (.multianewarray index 2, 4)) (hw : Cond.classLink M.1.cls index "[[I" ∈ gtbl) (hw2 : Cond.arrayClass .int ∈ gtbl) (hn0 : ¬ n < 0) (hk0 : ¬ k < 0) (hN : n.toNatClampNeg = N) (hK' : k.toNatClampNeg = K') (hb : N ≤ 100000) (hb2 : K' ≤ 100000) (hq : h.length = q) (hh : h ++ (.inl (2, N, .inr (.inr (.inr (.inr (xri N (q + 1)))))) :: List.replicate N (.inl (0, K', .inl (fun _ => 0)))) = h1) (kk : AW S M (pc + 4) ls (.ref q :: st) h1 r h') : AW S M pc ls (.int k :: .int n :: st) h r h' := by
  subst hh
  subst hq
  generalize hes : ((.inl (2, N, .inr (.inr (.inr (.inr (xri N (h.length + 1)))))) :: List.replicate N (.inl (0, K', .inl (fun _ => 0)))) : List va_E) = es at kk
  have el : es.length = 1 + N := by rw [← hes]; simp; omega
  have k1 := kk.1
  have e1 : (h ++ es).length = h.length + (1 + N) := by rw [List.length_append, el]
  have e2 : xsz (h ++ es) = xsz h + (N + N * K') := by
    unfold xsz
    rw [List.map_append, List.sum_append, ← hes]
    simp [xs1]
  rw [e1, e2] at k1
  refine ⟨⟨by omega, by omega⟩, fun l K p e s m args below meth c n0 z0 H locs L C hn hz hR hS hL => ?_⟩
  subst hN
  subst hK'
  have hts := C.2.2.2.2.2.1
  have hE := C.2.2.2.2.2.2.2.2.1
  have hKK := hE.1
  have hb := C.2.1
  intro T hT X
  have hover : (Cond.arrayOver (.array .int)).before args s = true := hE.2.2.2.1.2.2
  obtain ⟨vm1, cA, comp, -, fA, fC, -, -, X', step⟩ := X.multianewarray2F C.1 C.2.2.2.2.1 (ty := .int) (hts _ hw) hover (hts _ hw2) (g := F0 m pc L (.int k :: .int n :: st.map (xv K))) rfl (by rw [hb]; exact hd) rfl hn0 hk0 (by omega) (by show k.toNatClampNeg * 4 ≤ 536870912; omega) (by omega) rfl rfl (by show h.length - n0 + _ ≤ h'.length - n0; omega) (by show xsz h - z0 + _ ≤ xsz h' - z0; omega)
  have hcA : cA = K.2.2.1 2 := Option.some.inj (fA.symm.trans (hKK.2 2 _ rfl).2)
  have hcm : comp = K.2.2.1 0 := Option.some.inj (fC.symm.trans (hKK.2 0 _ rfl).2)
  subst hcA
  subst hcm
  generalize hF : Jvm.Free.Multi.fill (T.setVm vm1) (K.2.2.1 2) (K.2.2.1 0) n.toNatClampNeg k.toNatClampNeg (defaultValue .int) n.toNatClampNeg = F at X' step
  have hTh : (T.setVm vm1).heap = H := hT
  obtain ⟨f1, f2, -, -⟩ := Jvm.Free.Multi.fill_facts (T.setVm vm1) (K.2.2.1 2) (K.2.2.1 0) n.toNatClampNeg k.toNatClampNeg (defaultValue .int) n.toNatClampNeg
  rw [hF, hTh] at f1 f2
  have hold : ∀ x : Nat, x < H.size → F.heap[x]? = H[x]? := fun x hx => by
    have := Jvm.Free.Multi.fill_old (T.setVm vm1) (K.2.2.1 2) (K.2.2.1 0) n.toNatClampNeg k.toNatClampNeg (defaultValue .int) (a := x) (by rw [hTh]; exact hx) n.toNatClampNeg
    rw [hF, hTh] at this
    exact this
  have hrow : ∀ j : Nat, j < n.toNatClampNeg → F.heap[H.size + 1 + j]? = some (Jvm.Free.Multi.innerC (K.2.2.1 0) k.toNatClampNeg (defaultValue .int)) := fun j hj => by
    have := Jvm.Free.Multi.fill_inner (T.setVm vm1) (K.2.2.1 2) (K.2.2.1 0) n.toNatClampNeg k.toNatClampNeg (defaultValue .int) n.toNatClampNeg j hj
    rw [hF, hTh] at this
    exact this
  rw [xouter] at f2
  have hR1 : XR K (h ++ es) F.heap := by
    refine hR.many (by rw [f1, el]; omega) (fun i e9 hi => ?_) hold
    rw [← hes] at hi
    cases i with
    | zero =>
      cases hi
      show F.heap[K.1 + h.length + 0]? = some (vp_cell (K.2.2.1 2) (n.toNatClampNeg, .inr (.inr (.inr (.inr (fun j => xf K (xri n.toNatClampNeg (h.length + 1) j)))))))
      rw [Nat.add_zero, ← hR.1, f2, vp_cell_q]
      congr 2
      funext j
      unfold xri xf
      split
      · simp [hR.1, Nat.add_assoc]
      · rfl
    | succ i =>
      rw [List.getElem?_cons_succ] at hi
      have hi2 := List.eq_of_mem_replicate (List.mem_of_getElem? hi)
      have hil : i < n.toNatClampNeg := by
        have := (List.getElem?_eq_some_iff.mp hi).1
        rw [List.length_replicate] at this
        exact this
      subst hi2
      show F.heap[K.1 + h.length + (i + 1)]? = some (vp_cell (K.2.2.1 0) (k.toNatClampNeg, .inl (fun _ => 0)))
      rw [show K.1 + h.length + (i + 1) = H.size + 1 + i by rw [hR.1]; omega, hrow i hil, vp_cell_i]
      show some ({ cls := K.2.2.1 0, slots := Array.replicate k.toNatClampNeg (.int 0), vm := .none } : Cell) = _
      rw [arrV_new]
  have q := xgo2 kk e1 e2 (l := l) (e := e) (below := below) C hn hz hR1 (hS.grow (by rw [f1]; omega) hold) hL
  have X2 : Stand p l e (xrm M (h'.length - n0) (xsz h' - z0)) s m args below meth c F locs (h.length - n0 + (1 + n.toNatClampNeg)) (xsz h - z0 + (n.toNatClampNeg + n.toNatClampNeg * k.toNatClampNeg)) := by
    have := X'
    rw [Nat.add_assoc, Nat.add_assoc (xsz h - z0)] at this
    exact this
  obtain ⟨t, a1, b1⟩ := q F rfl X2
  refine ⟨t, step t ?_, b1⟩
  have e9 : T.heap.size = K.1 + h.length := by rw [hT, hR.1]
  rw [e9]
  exact a1
theorem b_new {index ci : Nat} {fs : List Value} {q : Nat} (hd : decode M.2.1 pc = .ok (.new index, 3)) (hw : xNw M index ci fs) (hq : h.length = q) (hh : h ++ [.inr (ci, fs)] = h1) (kk : BW S M (pc + 3) ls (.ref q :: st) h1 Q) : BW S M pc ls st h Q := by
  obtain ⟨r, h9, q, w⟩ := kk
  exact ⟨r, h9, q, x_new hd hw hq hh w⟩
theorem b_newa {at9 : ArrayType} {t : Nat} {n : Int32} {N q : Nat} (hd : decode M.2.1 pc = .ok (.newarray at9, 2)) (ht : (at9 = .int ∧ t = 0) ∨ (at9 = .boolean ∧ t = 1)) (hw : Cond.arrayClass (newarray.typeOf at9) ∈ gtbl) (hn0 : ¬ n < 0) (hN : n.toNatClampNeg = N) (hb : N ≤ 100000) (hq : h.length = q) (hh : h ++ [.inl (t, N, .inl (fun _ => 0))] = h1) (kk : BW S M (pc + 2) ls (.ref q :: st) h1 Q) : BW S M pc ls (.int n :: st) h Q := by
  obtain ⟨r, h9, q, w⟩ := kk
  exact ⟨r, h9, q, x_newa hd ht hw hn0 hN hb hq hh w⟩
theorem b_anewa {index t : Nat} {C9 : String} {n : Int32} {N q : Nat} (hd : decode M.2.1 pc = .ok (.anewarray index, 3)) (ht : (C9 = xR_Fa ∧ t = 3) ∨ (C9 = xR_Ag ∧ t = 4)) (hw : Cond.classLink M.1.cls index C9 ∈ gtbl) (hn0 : ¬ n < 0) (hN : n.toNatClampNeg = N) (hb : N ≤ 100000) (hq : h.length = q) (hh : h ++ [.inl (t, N, .inr (.inr (.inr (.inr (fun _ => none)))))] = h1) (kk : BW S M (pc + 3) ls (.ref q :: st) h1 Q) : BW S M pc ls (.int n :: st) h Q := by
  obtain ⟨r, h9, q, w⟩ := kk
  exact ⟨r, h9, q, x_anewa hd ht hw hn0 hN hb hq hh w⟩
theorem b_mna {index q N K' : Nat} {n k : Int32} (hd : decode M.2.1 pc = .ok (.multianewarray index 2, 4)) (hw : Cond.classLink M.1.cls index "[[I" ∈ gtbl) (hw2 : Cond.arrayClass .int ∈ gtbl) (hn0 : ¬ n < 0) (hk0 : ¬ k < 0) (hN : n.toNatClampNeg = N) (hK' : k.toNatClampNeg = K') (hb : N ≤ 100000) (hb2 : K' ≤ 100000) (hq : h.length = q) (hh : h ++ (.inl (2, N, .inr (.inr (.inr (.inr (xri N (q + 1)))))) :: List.replicate N (.inl (0, K', .inl (fun _ => 0)))) = h1) (kk : BW S M (pc + 4) ls (.ref q :: st) h1 Q) : BW S M pc ls (.int k :: .int n :: st) h Q := by
  obtain ⟨r, h9, q, w⟩ := kk
  exact ⟨r, h9, q, x_mna hd hw hw2 hn0 hk0 hN hK' hb hb2 hq hh w⟩
end XAL
