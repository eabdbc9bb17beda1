/-! ROWS OVER THE SMALL HEAP'S CELLS: fields, arrays. -/
/-- what a program decides of each class: its words stand in the tables, its fields' types, their names apart -/
def xok (ci : Nat) (C : String) (T : u_T) (N : Nat) (ty0 : Nat → FieldType) : Prop := (∀ w ∈ u_ws C T N, w ∈ gtbl) ∧ (∀ k, k < N → parseFieldDescriptor (T k).2.2.1 = some (ty0 k)) ∧ (∀ a, a < N → ∀ b, b < N → a ≠ b → (T a).2.1 ≠ (T b).2.1)
/-- the link of a field: its class's number and the field's place -/
def xFL (own : String) (index ci k : Nat) : Prop := ∃ (C : String) (T : u_T) (N : Nat) (ty0 : Nat → FieldType), xcl[ci]? = some (C, T, N) ∧ k < N ∧ Cond.fieldLink own index (T k).1 (T k).2.1 (T k).2.2.1 ∈ gtbl ∧ xok ci C T N ty0
def xFN (own : String) (index ci k : Nat) : Prop := ∃ (C : String) (T : u_T) (N : Nat) (ty0 : Nat → FieldType) (host : String), xcl[ci]? = some (C, T, N) ∧ k < N ∧ Cond.fieldLinkNest own index (T k).1 (T k).2.1 (T k).2.2.1 host ∈ tables_1 ∧ xok ci C T N ty0
/-- a value that may stand in a field of this type -/
def xfit (ty : FieldType) (v : Value) : Prop := ∀ K : XK, narrow ty (xv K v) = xv K v ∧ fits ty (xv K v) = true
def xFT (ci k : Nat) (fin : Bool) (ty : FieldType) : Prop := ∃ (C : String) (T : u_T) (N : Nat), xcl[ci]? = some (C, T, N) ∧ (T k).2.2.2 = fin ∧ parseFieldDescriptor (T k).2.2.1 = some ty
theorem XR.set {K : XK} {h : XH} {H H1 : Heap} {a : Nat} {e0 e : va_E} (hR : XR K h H) (he : h[a]? = some e0) (z : H1.size = H.size) (hat : va_at K.2.1 xcl (K.1 + a, xe K e) H1) (oq : ∀ q : Nat, q ≠ K.1 + a → H1[q]? = H[q]?) : XR K (h.set a e) H1 := by
  refine ⟨by rw [List.length_set, z]; exact hR.1, ?_⟩
  rw [xw_set]
  exact hR.2.set xw_D (xw_get he) hat oq
section XHR
variable {S : XS} {M : XM} {pc : Nat} {ls : List (Option Value)} {st : List Value} {h h1 : XH} {r : Option Value} {h' : XH}
theorem x_getf {index ci k a : Nat} {fs : List Value} {v : Value} (hd : decode M.2.1 pc = .ok (.getfield index, 3)) (hf : xFL M.1.cls index ci k) (he : h[a]? = some (.inr (ci, fs))) (hv : fs[k]? = some v) (kk : AW S M (pc + 3) ls (v :: st) h r h') : AW S M pc ls (.ref a :: st) h r h' := by
  refine ⟨kk.1, fun l K p e s m args below meth c n0 z0 H locs L C hn hz hR hS hL => ?_⟩
  obtain ⟨C9, T, N, ty0, hc, hk, hl, ho⟩ := hf
  exact va_get (D := K.2.1) (C := C9) (T := T) (N := N) (ci := ci) (a := K.1 + a) (fs := fs.map (xv K)) (v := xv K v) C.1 C.2.1 C.2.2.2.2.2.1 ho.1 C.2.2.2.2.1 C.2.2.2.2.2.2.2.2.1.1 hR.2 a (xw_get he) hc k hk (C.2.2.2.2.2.1 _ hl) (fun _ q => q) (by rw [List.getElem?_map, hv]; rfl) hd (kk.2 l K p e s m args below meth c n0 z0 H locs L C hn hz hR hS hL)
theorem x_getfN {index ci k a : Nat} {fs : List Value} {v : Value} (hd : decode M.2.1 pc = .ok (.getfield index, 3)) (hf : xFN M.1.cls index ci k) (he : h[a]? = some (.inr (ci, fs))) (hv : fs[k]? = some v) (kk : AW S M (pc + 3) ls (v :: st) h r h') : AW S M pc ls (.ref a :: st) h r h' := by
  refine ⟨kk.1, fun l K p e s m args below meth c n0 z0 H locs L C hn hz hR hS hL => ?_⟩
  obtain ⟨C9, T, N, ty0, host, hc, hk, hl, ho⟩ := hf
  exact va_getN (D := K.2.1) (C := C9) (T := T) (N := N) (ci := ci) (a := K.1 + a) (fs := fs.map (xv K)) (v := xv K v) C.1 C.2.1 C.2.2.2.2.2.1 ho.1 C.2.2.2.2.1 C.2.2.2.2.2.2.2.2.1.1 hR.2 a (xw_get he) hc k hk (va_Nw.use rfl (C.2.2.2.2.2.2.2.2.1.2.1 _ hl rfl)) (fun _ q => q) (by rw [List.getElem?_map, hv]; rfl) hd (kk.2 l K p e s m args below meth c n0 z0 H locs L C hn hz hR hS hL)
theorem xsl {h : XH} {a ci k : Nat} {fs : List Value} {v : Value} (he : h[a]? = some (.inr (ci, fs))) : (h.set a (.inr (ci, fs.set k v))).length = h.length ∧ xsz (h.set a (.inr (ci, fs.set k v))) = xsz h := ⟨List.length_set, xsz_set he (by show (fs.set k v).length = fs.length; exact List.length_set)⟩
theorem xgo {pc1 : Nat} {ls1 : List (Option Value)} {st1 : List Value} (k : AW S M pc1 ls1 st1 h1 r h') (e1 : h1.length = h.length) (e2 : xsz h1 = xsz h) {l : Launch} {K : XK} {p : Program} {e : Env} {s : State} {m : MethodId} {args : Array Value} {below : List Frame} {meth : Method} {c : Code} {n0 z0 : Nat} {H : Heap} {locs : List Loc} {L : Array Slot}
    (C : xC K S M p s m args meth c) (hn : n0 ≤ h.length) (hz : z0 ≤ xsz h) (hR : XR K h1 H) (hS : va_S (fun q => K.1 ≤ q) s.heap H locs) (hL : lvX K L M.2.2.1 ls1) :
    W p l e (xrm M (h'.length - n0) (xsz h' - z0)) s m args below meth c H locs (h.length - n0) (xsz h - z0) (MQ below (xQ K r h') args s (h'.length - n0) (xsz h' - z0) (fun q => K.1 ≤ q)) (F0 m pc1 L (st1.map (xv K))) := by
  rw [← e1, ← e2]
  exact k.2 l K p e s m args below meth c n0 z0 H locs L C (by rw [e1]; exact hn) (by rw [e2]; exact hz) hR hS hL
theorem x_putf {index ci k a : Nat} {fs : List Value} {v : Value} {ty : FieldType} (hd : decode M.2.1 pc = .ok (.putfield index, 3)) (hf : xFL M.1.cls index ci k) (ht : xFT ci k false ty) (hw : xfit ty v) (he : h[a]? = some (.inr (ci, fs))) (hkl : k < fs.length) (hh : h.set a (.inr (ci, fs.set k v)) = h1) (kk : AW S M (pc + 3) ls st h1 r h') : AW S M pc ls (v :: .ref a :: st) h r h' := by
  subst hh
  obtain ⟨e1, e2⟩ := xsl (k := k) (v := v) he
  refine ⟨by rw [← e1, ← e2]; exact kk.1, fun l K p e s m args below meth c n0 z0 H locs L C hn hz hR hS hL => ?_⟩
  obtain ⟨C9, T, N, ty0, hc, hk, hl, ho⟩ := hf
  obtain ⟨C8, T8, N8, hc8, hfin, hdt⟩ := ht
  obtain ⟨rfl, rfl, rfl⟩ : C8 = C9 ∧ T8 = T ∧ N8 = N := by
    have q := Option.some.inj (hc8.symm.trans hc)
    exact ⟨congrArg (fun z => z.1) q, congrArg (fun z => z.2.1) q, congrArg (fun z => z.2.2) q⟩
  have hts := C.2.2.2.2.2.1
  have hK := C.2.2.2.2.2.2.2.2.1.1
  have hin := ho.1
  have hap := va_apart (own := M.1.cls) hts hin ty0 ho.2.1 ho.2.2 hK hc
  obtain ⟨r0, g1, cell, q1, q2, q3, q4⟩ := hR.2 a _ (xw_get he)
  have hr : r0 = (C8, T8, N8) := Option.some.inj (g1.symm.trans hc)
  subst hr
  obtain ⟨hSl, hfc, kC, hkC, hkind⟩ := hK.1 ci _ hc
  obtain ⟨cf, kf, fi, f, hi, hsl⟩ := hSl k hk
  have hlay := hts _ (hin _ (u_in_lay hk))
  unfold u_lay at hlay
  rw [if_neg (by rw [hfin]; decide)] at hlay
  have hst := (u_facts hfc hkC (u_lays hts hin hk) hi).1
  have h6 := u_store hfc hkC hkind hlay hi hdt (hw K).1 (hw K).2
  refine W.putK C.1 C.2.1 (f := f) (v := xv K v) (a := K.1 + a) ⟨C.2.2.2.2.1, hts _ hl, ⟨_, _, _, hi⟩, hst⟩ (by rw [q2]; exact h6) q1 q3 (by rw [hsl]; exact k2_hasslot (q4 k hk)) rfl rfl hd fun H' w1 w2 w3 => ?_
  rw [hsl] at w1 ⊢
  have hR1 : XR K (h.set a (.inr (ci, fs.set k v))) H' := hR.set he w2 ⟨_, hc, t_OB.to (V := updV (vp_V (fs.map (xv K))) k (xv K v)) ⟨_, w1, q2, q3, t_set q4 hap hk (xv K v)⟩ (fun j _ => by rw [vp_updV_set (by rw [List.length_map]; exact hkl) (xv K v) j, List.map_set])⟩ w3
  exact xgo kk e1 e2 C hn hz hR1 (hS.put w2 w3 (Nat.le_add_right _ _)) hL
theorem x_putfN {index ci k a : Nat} {fs : List Value} {v : Value} {ty : FieldType} (hd : decode M.2.1 pc = .ok (.putfield index, 3)) (hf : xFN M.1.cls index ci k) (ht : xFT ci k false ty) (hw : xfit ty v) (he : h[a]? = some (.inr (ci, fs))) (hkl : k < fs.length) (hh : h.set a (.inr (ci, fs.set k v)) = h1) (kk : AW S M (pc + 3) ls st h1 r h') : AW S M pc ls (v :: .ref a :: st) h r h' := by
  subst hh
  obtain ⟨e1, e2⟩ := xsl (k := k) (v := v) he
  refine ⟨by rw [← e1, ← e2]; exact kk.1, fun l K p e s m args below meth c n0 z0 H locs L C hn hz hR hS hL => ?_⟩
  obtain ⟨C9, T, N, ty0, host, hc, hk, hl, ho⟩ := hf
  obtain ⟨C8, T8, N8, hc8, hfin, hdt⟩ := ht
  obtain ⟨rfl, rfl, rfl⟩ : C8 = C9 ∧ T8 = T ∧ N8 = N := by
    have q := Option.some.inj (hc8.symm.trans hc)
    exact ⟨congrArg (fun z => z.1) q, congrArg (fun z => z.2.1) q, congrArg (fun z => z.2.2) q⟩
  have hts := C.2.2.2.2.2.1
  have hK := C.2.2.2.2.2.2.2.2.1.1
  have hin := ho.1
  have hap := va_apart (own := M.1.cls) hts hin ty0 ho.2.1 ho.2.2 hK hc
  obtain ⟨r0, g1, cell, q1, q2, q3, q4⟩ := hR.2 a _ (xw_get he)
  have hr : r0 = (C8, T8, N8) := Option.some.inj (g1.symm.trans hc)
  subst hr
  obtain ⟨hSl, hfc, kC, hkC, hkind⟩ := hK.1 ci _ hc
  obtain ⟨cf, kf, fi, f, hi, hsl⟩ := hSl k hk
  have hlay := hts _ (hin _ (u_in_lay hk))
  unfold u_lay at hlay
  rw [if_neg (by rw [hfin]; decide)] at hlay
  have hst := (u_facts hfc hkC (u_lays hts hin hk) hi).1
  have h6 := u_store hfc hkC hkind hlay hi hdt (hw K).1 (hw K).2
  refine va_WputK C.1 C.2.1 (f := f) (v := xv K v) (a := K.1 + a) C.2.2.2.2.1 (va_Nw.use rfl (C.2.2.2.2.2.2.2.2.1.2.1 _ hl rfl)) hi hst (by rw [q2]; exact h6) q1 q3 (by rw [hsl]; exact k2_hasslot (q4 k hk)) rfl rfl hd fun H' w1 w2 w3 => ?_
  rw [hsl] at w1 ⊢
  have hR1 : XR K (h.set a (.inr (ci, fs.set k v))) H' := hR.set he w2 ⟨_, hc, t_OB.to (V := updV (vp_V (fs.map (xv K))) k (xv K v)) ⟨_, w1, q2, q3, t_set q4 hap hk (xv K v)⟩ (fun j _ => by rw [vp_updV_set (by rw [List.length_map]; exact hkl) (xv K v) j, List.map_set])⟩ w3
  exact xgo kk e1 e2 C hn hz hR1 (hS.put w2 w3 (Nat.le_add_right _ _)) hL
theorem x_putfF {index ci k a : Nat} {fs : List Value} {v : Value} {ty : FieldType} (hd : decode M.2.1 pc = .ok (.putfield index, 3)) (hf : xFL M.1.cls index ci k) (ht : xFT ci k true ty) (hini : M.1.name = "<init>") (hcl : M.1.cls = (xcl.getD ci ("", xT_Ag, 0)).1) (hdc : ∀ (C : String) (T : u_T) (N : Nat), xcl[ci]? = some (C, T, N) → (T k).1 = C) (hw : xfit ty v) (he : h[a]? = some (.inr (ci, fs))) (hkl : k < fs.length) (hh : h.set a (.inr (ci, fs.set k v)) = h1) (kk : AW S M (pc + 3) ls st h1 r h') : AW S M pc ls (v :: .ref a :: st) h r h' := by
  subst hh
  obtain ⟨e1, e2⟩ := xsl (k := k) (v := v) he
  refine ⟨by rw [← e1, ← e2]; exact kk.1, fun l K p e s m args below meth c n0 z0 H locs L C hn hz hR hS hL => ?_⟩
  obtain ⟨C9, T, N, ty0, hc, hk, hl, ho⟩ := hf
  obtain ⟨C8, T8, N8, hc8, hfin, hdt⟩ := ht
  obtain ⟨rfl, rfl, rfl⟩ : C8 = C9 ∧ T8 = T ∧ N8 = N := by
    have q := Option.some.inj (hc8.symm.trans hc)
    exact ⟨congrArg (fun z => z.1) q, congrArg (fun z => z.2.1) q, congrArg (fun z => z.2.2) q⟩
  have hts := C.2.2.2.2.2.1
  have hK := C.2.2.2.2.2.2.2.2.1.1
  have hin := ho.1
  have hap := va_apart (own := M.1.cls) hts hin ty0 ho.2.1 ho.2.2 hK hc
  obtain ⟨r0, g1, cell, q1, q2, q3, q4⟩ := hR.2 a _ (xw_get he)
  have hr : r0 = (C8, T8, N8) := Option.some.inj (g1.symm.trans hc)
  subst hr
  obtain ⟨hSl, hfc, kC, hkC, hkind⟩ := hK.1 ci _ hc
  obtain ⟨cf, kf, fi, f, hi, hsl⟩ := hSl k hk
  have hlay := hts _ (hin _ (u_in_lay hk))
  unfold u_lay at hlay
  rw [if_pos hfin] at hlay
  have hst := (u_facts hfc hkC (u_lays hts hin hk) hi).1
  have hdecl : (T8 k).1 = M.1.cls := by
    rw [hdc C8 T8 N8 hc, hcl, List.getD_eq_getElem?_getD, hc]
    rfl
  have hcf : m.cls = cf := by
    obtain ⟨_, _, c', _, _, _, -, -, hf', -, -, -, hown2, -⟩ := Cond.laysFinal_spec hlay
    have e1 : c' = cf := by have := hi.symm.trans hf'; simp at this; exact this.1.symm
    rw [hdecl] at hown2
    rw [← e1]; exact Option.some.inj (C.2.2.2.2.1.symm.trans hown2)
  have h6 := u_fits hfc hkC hkind (Or.inr hlay) hi hdt (hw K).1 (hw K).2
  refine W.putFinK C.1 C.2.1 (f := f) (v := xv K v) (a := K.1 + a) C.2.2.2.2.1 (hts _ hl) hi hst hcf (C.2.2.2.2.2.2.2.1.trans hini) (by rw [q2]; exact h6) q1 q3 (by rw [hsl]; exact k2_hasslot (q4 k hk)) rfl rfl hd fun H' w1 w2 w3 => ?_
  rw [hsl] at w1 ⊢
  have hR1 : XR K (h.set a (.inr (ci, fs.set k v))) H' := hR.set he w2 ⟨_, hc, t_OB.to (V := updV (vp_V (fs.map (xv K))) k (xv K v)) ⟨_, w1, q2, q3, t_set q4 hap hk (xv K v)⟩ (fun j _ => by rw [vp_updV_set (by rw [List.length_map]; exact hkl) (xv K v) j, List.map_set])⟩ w3
  exact xgo kk e1 e2 C hn hz hR1 (hS.put w2 w3 (Nat.le_add_right _ _)) hL
/-- the arrays: a read, a store, the length -/
theorem x_iald {a n : Nat} {f : Nat → Int32} {i : Int32} (hd : decode M.2.1 pc = .ok (.iaload, 1)) (he : h[a]? = some (.inl (0, n, .inl f))) (hin : vp_in i n) (kk : AW S M (pc + 1) ls (.int (f i.toNatClampNeg) :: st) h r h') : AW S M pc ls (.int i :: .ref a :: st) h r h' :=
  ⟨kk.1, fun l K p e s m args below meth c n0 z0 H locs L C hn hz hR hS hL => va_iald (a := K.1 + a) C.1 C.2.1 C.2.2.2.2.2.2.2.2.1.1 hR.2 a 0 (xw_get he) rfl hin hd (kk.2 l K p e s m args below meth c n0 z0 H locs L C hn hz hR hS hL)⟩
theorem x_zald {a n : Nat} {f : Nat → Int32} {i : Int32} (hd : decode M.2.1 pc = .ok (.baload, 1)) (he : h[a]? = some (.inl (1, n, .inl f))) (hin : vp_in i n) (kk : AW S M (pc + 1) ls (.int (f i.toNatClampNeg) :: st) h r h') : AW S M pc ls (.int i :: .ref a :: st) h r h' :=
  ⟨kk.1, fun l K p e s m args below meth c n0 z0 H locs L C hn hz hR hS hL => va_zald (a := K.1 + a) C.1 C.2.1 C.2.2.2.2.2.2.2.2.1.1 hR.2 a 1 (xw_get he) rfl hin hd (kk.2 l K p e s m args below meth c n0 z0 H locs L C hn hz hR hS hL)⟩
theorem x_alen {a t n : Nat} {x : _} {v : Int32} (hd : decode M.2.1 pc = .ok (.arraylength, 1)) (he : h[a]? = some (.inl (t, n, x))) (ht : t < 5) (hv : Int32.ofNat n = v) (kk : AW S M (pc + 1) ls (.int v :: st) h r h') : AW S M pc ls (.ref a :: st) h r h' :=
  ⟨kk.1, fun l K p e s m args below meth c n0 z0 H locs L C hn hz hR hS hL => va_alen (a := K.1 + a) (ty := xkd t) C.1 C.2.1 C.2.2.2.2.2.2.2.2.1.1 hR.2 a t (xw_get he) (by match t, ht with | 0, _ => rfl | 1, _ => rfl | 2, _ => rfl | 3, _ => rfl | 4, _ => rfl) hv hd (kk.2 l K p e s m args below meth c n0 z0 H locs L C hn hz hR hS hL)⟩
/-- a reference out of an array of objects (3, 4) or of rows (2) -/
theorem x_aald {a t n : Nat} {f : Nat → Option Nat} {i : Int32} (hd : decode M.2.1 pc = .ok (.aaload, 1)) (he : h[a]? = some (.inl (t, n, .inr (.inr (.inr (.inr f)))))) (ht : 2 ≤ t ∧ t < 5) (hin : vp_in i n) (kk : AW S M (pc + 1) ls (va_rf (f i.toNatClampNeg) :: st) h r h') : AW S M pc ls (.int i :: .ref a :: st) h r h' := by
  refine ⟨kk.1, fun l K p e s m args below meth c n0 z0 H locs L C hn hz hR hS hL => ?_⟩
  have hlt : i.toNatClampNeg < n := Nat.not_le.mp fun q => hin (Or.inr q)
  have hty : (xtys K)[t]? = some (K.2.2.1 t, xkd t) := by
    obtain ⟨h1, h2⟩ := ht
    match t, h2 with
    | 2, _ => rfl
    | 3, _ => rfl
    | 4, _ => rfl
    | 0, _ => omega
    | 1, _ => omega
  have hrf : (xkd t).isReference = true := by
    obtain ⟨h1, h2⟩ := ht
    match t, h2 with
    | 2, _ => rfl
    | 3, _ => rfl
    | 4, _ => rfl
    | 0, _ => omega
    | 1, _ => omega
  have q := kk.2 l K p e s m args below meth c n0 z0 H locs L C hn hz hR hS hL
  have e1 : xv K (va_rf (f i.toNatClampNeg)) = va_rf (xf K (f i.toNatClampNeg)) := by cases f i.toNatClampNeg <;> rfl
  rw [List.map_cons, e1] at q
  exact W.aald (v := va_rf (xf K (f i.toNatClampNeg))) (ty := xkd t) C.1 C.2.1 (hR.2 a _ (xw_get he)) ((C.2.2.2.2.2.2.2.2.1.1.2 t _ hty).1 n (fun j => va_rf (xf K (f j)))) hrf (fun q => by cases q) (by show ¬ (i < 0 ∨ (arrV _ _ _).slots.size ≤ _); rw [arrV_size]; exact hin) (by show (arrV _ _ _).slots[_]? = _; rw [arrV_read _ _ hlt]) rfl rfl hd q
theorem xsa {h : XH} {a t n : Nat} {x y : _} (he : h[a]? = some (.inl (t, n, x))) : (h.set a (.inl (t, n, y))).length = h.length ∧ xsz (h.set a (.inl (t, n, y))) = xsz h := ⟨List.length_set, xsz_set he rfl⟩
theorem x_iast {a n : Nat} {f : Nat → Int32} {i x : Int32} (hd : decode M.2.1 pc = .ok (.iastore, 1)) (he : h[a]? = some (.inl (0, n, .inl f))) (hin : vp_in i n) (hh : h.set a (.inl (0, n, .inl (upd f i.toNatClampNeg x))) = h1) (kk : AW S M (pc + 1) ls st h1 r h') : AW S M pc ls (.int x :: .int i :: .ref a :: st) h r h' := by
  subst hh
  obtain ⟨e1, e2⟩ := xsa (y := .inl (upd f i.toNatClampNeg x)) he
  refine ⟨by rw [← e1, ← e2]; exact kk.1, fun l K p e s m args below meth c n0 z0 H locs L C hn hz hR hS hL => ?_⟩
  refine W.iast (a := K.1 + a) C.1 C.2.1 (hR.2 a _ (xw_get he)) ((C.2.2.2.2.2.2.2.2.1.1.2 0 _ rfl).1 n (fun j => .int (f j))) (fun q => by cases q) (by show ¬ (i < 0 ∨ (arrV _ _ _).slots.size ≤ _); rw [arrV_size]; exact hin) rfl rfl hd fun H1 w1 w2 w3 => ?_
  have hR1 : XR K (h.set a (.inl (0, n, .inl (upd f i.toNatClampNeg x)))) H1 := by
    refine hR.set he w2 ?_ w3
    show H1[K.1 + a]? = some (vp_cell (K.2.2.1 0) (n, .inl (upd f i.toNatClampNeg x)))
    rw [w1]
    show some ((vp_cell (K.2.2.1 0) (n, .inl f)).setSlot _ _) = _
    rw [vp_cell_i, vp_cell_i, arrV_store]
    congr 2
    funext q
    by_cases hq : q = i.toNatClampNeg
    · subst hq
      simp [updV, upd]
    · simp [updV, upd, hq]
  exact xgo kk e1 e2 C hn hz hR1 (hS.put w2 w3 (Nat.le_add_right _ _)) hL
theorem x_zast {a n : Nat} {f : Nat → Int32} {i x y : Int32} (hd : decode M.2.1 pc = .ok (.bastore, 1)) (he : h[a]? = some (.inl (1, n, .inl f))) (hin : vp_in i n) (hxy : vp_nar .boolean x = y) (hh : h.set a (.inl (1, n, .inl (upd f i.toNatClampNeg y))) = h1) (kk : AW S M (pc + 1) ls st h1 r h') : AW S M pc ls (.int x :: .int i :: .ref a :: st) h r h' := by
  subst hh
  subst hxy
  obtain ⟨e1, e2⟩ := xsa (y := .inl (upd f i.toNatClampNeg (vp_nar .boolean x))) he
  refine ⟨by rw [← e1, ← e2]; exact kk.1, fun l K p e s m args below meth c n0 z0 H locs L C hn hz hR hS hL => ?_⟩
  refine W.zast (a := K.1 + a) C.1 C.2.1 (hR.2 a _ (xw_get he)) ((C.2.2.2.2.2.2.2.2.1.1.2 1 _ rfl).1 n (fun j => .int (f j))) (fun q => by cases q) (by show ¬ (i < 0 ∨ (arrV _ _ _).slots.size ≤ _); rw [arrV_size]; exact hin) rfl rfl hd fun H1 w1 w2 w3 => ?_
  have hR1 : XR K (h.set a (.inl (1, n, .inl (upd f i.toNatClampNeg (vp_nar .boolean x))))) H1 := by
    refine hR.set he w2 ?_ w3
    show H1[K.1 + a]? = some (vp_cell (K.2.2.1 1) (n, .inl (upd f i.toNatClampNeg (vp_nar .boolean x))))
    rw [w1]
    show some ((vp_cell (K.2.2.1 1) (n, .inl f)).setSlot _ _) = _
    rw [vp_cell_i, vp_cell_i, arrV_store]
    congr 2
    funext q
    by_cases hq : q = i.toNatClampNeg
    · subst hq
      simp [updV, upd, vp_nar]
      try rfl
    · simp [updV, upd, hq]
  exact xgo kk e1 e2 C hn hz hR1 (hS.put w2 w3 (Nat.le_add_right _ _)) hL
/-- the script -/
theorem x_sald {i : Int32} (hd : decode M.2.1 pc = .ok (.iaload, 1)) (hin : vp_in i S.1) (kk : AW S M (pc + 1) ls (.int (S.2 i.toNatClampNeg) :: st) h r h') : AW S M pc ls (.int i :: .retAddr 99 :: st) h r h' :=
  ⟨kk.1, fun l K p e s m args below meth c n0 z0 H locs L C hn hz hR hS hL => va_sld (b := K.2.2.2 99) C.1 C.2.1 C.2.2.2.2.2.2.2.2.1.2.2.2.2.2.2.1 (Nat.lt_of_lt_of_le C.2.2.2.2.2.2.2.2.1.2.2.2.2.2.2.2 C.2.2.2.2.2.2.2.2.2) (Nat.not_le.mpr C.2.2.2.2.2.2.2.2.1.2.2.2.2.2.2.2) hS hin hd (kk.2 l K p e s m args below meth c n0 z0 H locs L C hn hz hR hS hL)⟩
theorem x_slen (hd : decode M.2.1 pc = .ok (.arraylength, 1)) (kk : AW S M (pc + 1) ls (.int (Int32.ofNat S.1) :: st) h r h') : AW S M pc ls (.retAddr 99 :: st) h r h' :=
  ⟨kk.1, fun l K p e s m args below meth c n0 z0 H locs L C hn hz hR hS hL => va_slen (b := K.2.2.2 99) C.1 C.2.1 C.2.2.2.2.2.2.2.2.1.2.2.2.2.2.2.1 (Nat.lt_of_lt_of_le C.2.2.2.2.2.2.2.2.1.2.2.2.2.2.2.2 C.2.2.2.2.2.2.2.2.2) (Nat.not_le.mpr C.2.2.2.2.2.2.2.2.1.2.2.2.2.2.2.2) hS hd (kk.2 l K p e s m args below meth c n0 z0 H locs L C hn hz hR hS hL)⟩
end XHR
