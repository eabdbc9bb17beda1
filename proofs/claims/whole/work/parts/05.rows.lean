/-! ROWS: AN INSTRUCTION, OVER THE SMALL HEAP. -/
section XRW
variable {S : XS} {M : XM} {pc : Nat} {ls : List (Option Value)} {st : List Value} {h : XH} {r : Option Value} {h' : XH}
theorem x_iconst {n : Int} {v : Int32} (hd : decode M.2.1 pc = .ok (.iconst n, 1)) (hv : Int32.ofInt n = v) (k : AW S M (pc + 1) ls (.int v :: st) h r h') : AW S M pc ls (st) h r h' :=
  ⟨k.1, fun l K p e s m args below meth c n0 z0 H locs L C hn hz hR hS hL => lv_iconst C.1 C.2.1 hd hv (k.2 l K p e s m args below meth c n0 z0 H locs L C hn hz hR hS hL)⟩
theorem x_bipush {n : Int} {v : Int32} (hd : decode M.2.1 pc = .ok (.bipush n, 2)) (hv : (Int8.ofInt n).toInt32 = v) (k : AW S M (pc + 2) ls (.int v :: st) h r h') : AW S M pc ls (st) h r h' :=
  ⟨k.1, fun l K p e s m args below meth c n0 z0 H locs L C hn hz hR hS hL => lv_bipush C.1 C.2.1 hd hv (k.2 l K p e s m args below meth c n0 z0 H locs L C hn hz hR hS hL)⟩
theorem x_sipush {n : Int} {v : Int32} (hd : decode M.2.1 pc = .ok (.sipush n, 3)) (hv : (Int16.ofInt n).toInt32 = v) (k : AW S M (pc + 3) ls (.int v :: st) h r h') : AW S M pc ls (st) h r h' :=
  ⟨k.1, fun l K p e s m args below meth c n0 z0 H locs L C hn hz hR hS hL => lv_sipush C.1 C.2.1 hd hv (k.2 l K p e s m args below meth c n0 z0 H locs L C hn hz hR hS hL)⟩
theorem x_lconst {n : Fin 2} {v : Int64} (hd : decode M.2.1 pc = .ok (.lconst n, 1)) (hv : Int64.ofNat (n : Nat) = v) (k : AW S M (pc + 1) ls (.long v :: st) h r h') : AW S M pc ls (st) h r h' :=
  ⟨k.1, fun l K p e s m args below meth c n0 z0 H locs L C hn hz hR hS hL => lv_lconst C.1 C.2.1 hd hv (k.2 l K p e s m args below meth c n0 z0 H locs L C hn hz hR hS hL)⟩
theorem x_anull  (hd : decode M.2.1 pc = .ok (.aconst_null, 1))  (k : AW S M (pc + 1) ls (.null :: st) h r h') : AW S M pc ls (st) h r h' :=
  ⟨k.1, fun l K p e s m args below meth c n0 z0 H locs L C hn hz hR hS hL => lv_null C.1 C.2.1 hd  (k.2 l K p e s m args below meth c n0 z0 H locs L C hn hz hR hS hL)⟩
theorem x_iload_n {k0 : Fin 4} {i : Nat} {x : Int32} (hd : decode M.2.1 pc = .ok (.iload_n k0, 1)) (hi : (k0 : Nat) = i) (hl : ls[i]? = some (some (.int x))) (k : AW S M (pc + 1) ls (.int x :: st) h r h') : AW S M pc ls (st) h r h' :=
  ⟨k.1, fun l K p e s m args below meth c n0 z0 H locs L C hn hz hR hS hL => lv_iload_n C.1 C.2.1 hd hi (lvX_at hL hl) (k.2 l K p e s m args below meth c n0 z0 H locs L C hn hz hR hS hL)⟩
theorem x_iload {i : Nat} {x : Int32} (hd : decode M.2.1 pc = .ok (.iload i, 2)) (hl : ls[i]? = some (some (.int x))) (k : AW S M (pc + 2) ls (.int x :: st) h r h') : AW S M pc ls (st) h r h' :=
  ⟨k.1, fun l K p e s m args below meth c n0 z0 H locs L C hn hz hR hS hL => lv_iload C.1 C.2.1 hd (lvX_at hL hl) (k.2 l K p e s m args below meth c n0 z0 H locs L C hn hz hR hS hL)⟩
theorem x_lload_n {k0 : Fin 4} {i : Nat} {x : Int64} (hd : decode M.2.1 pc = .ok (.lload_n k0, 1)) (hi : (k0 : Nat) = i) (hl : ls[i]? = some (some (.long x))) (k : AW S M (pc + 1) ls (.long x :: st) h r h') : AW S M pc ls (st) h r h' :=
  ⟨k.1, fun l K p e s m args below meth c n0 z0 H locs L C hn hz hR hS hL => lv_lload_n C.1 C.2.1 hd hi (lvX_at hL hl) (k.2 l K p e s m args below meth c n0 z0 H locs L C hn hz hR hS hL)⟩
theorem x_lload {i : Nat} {x : Int64} (hd : decode M.2.1 pc = .ok (.lload i, 2)) (hl : ls[i]? = some (some (.long x))) (k : AW S M (pc + 2) ls (.long x :: st) h r h') : AW S M pc ls (st) h r h' :=
  ⟨k.1, fun l K p e s m args below meth c n0 z0 H locs L C hn hz hR hS hL => lv_lload C.1 C.2.1 hd (lvX_at hL hl) (k.2 l K p e s m args below meth c n0 z0 H locs L C hn hz hR hS hL)⟩
theorem x_aload_n {k0 : Fin 4} {i : Nat} {x : Nat} (hd : decode M.2.1 pc = .ok (.aload_n k0, 1)) (hi : (k0 : Nat) = i) (hl : ls[i]? = some (some (.ref x))) (k : AW S M (pc + 1) ls (.ref x :: st) h r h') : AW S M pc ls (st) h r h' :=
  ⟨k.1, fun l K p e s m args below meth c n0 z0 H locs L C hn hz hR hS hL => lv_aload_n C.1 C.2.1 hd hi (lvX_at hL hl) (k.2 l K p e s m args below meth c n0 z0 H locs L C hn hz hR hS hL)⟩
theorem x_aload_nS {k0 : Fin 4} {i : Nat} {x : Nat} (hd : decode M.2.1 pc = .ok (.aload_n k0, 1)) (hi : (k0 : Nat) = i) (hl : ls[i]? = some (some (.retAddr x))) (k : AW S M (pc + 1) ls (.retAddr x :: st) h r h') : AW S M pc ls (st) h r h' :=
  ⟨k.1, fun l K p e s m args below meth c n0 z0 H locs L C hn hz hR hS hL => lv_aload_n C.1 C.2.1 hd hi (lvX_at hL hl) (k.2 l K p e s m args below meth c n0 z0 H locs L C hn hz hR hS hL)⟩
theorem x_aload_nN {k0 : Fin 4} {i : Nat} (hd : decode M.2.1 pc = .ok (.aload_n k0, 1)) (hi : (k0 : Nat) = i) (hl : ls[i]? = some (some .null)) (k : AW S M (pc + 1) ls (.null :: st) h r h') : AW S M pc ls (st) h r h' :=
  ⟨k.1, fun l K p e s m args below meth c n0 z0 H locs L C hn hz hR hS hL => lv_aload_nN C.1 C.2.1 hd hi (lvX_at hL hl) (k.2 l K p e s m args below meth c n0 z0 H locs L C hn hz hR hS hL)⟩
theorem x_aload {i : Nat} {x : Nat} (hd : decode M.2.1 pc = .ok (.aload i, 2)) (hl : ls[i]? = some (some (.ref x))) (k : AW S M (pc + 2) ls (.ref x :: st) h r h') : AW S M pc ls (st) h r h' :=
  ⟨k.1, fun l K p e s m args below meth c n0 z0 H locs L C hn hz hR hS hL => lv_aload C.1 C.2.1 hd (lvX_at hL hl) (k.2 l K p e s m args below meth c n0 z0 H locs L C hn hz hR hS hL)⟩
theorem x_aloadS {i : Nat} {x : Nat} (hd : decode M.2.1 pc = .ok (.aload i, 2)) (hl : ls[i]? = some (some (.retAddr x))) (k : AW S M (pc + 2) ls (.retAddr x :: st) h r h') : AW S M pc ls (st) h r h' :=
  ⟨k.1, fun l K p e s m args below meth c n0 z0 H locs L C hn hz hR hS hL => lv_aload C.1 C.2.1 hd (lvX_at hL hl) (k.2 l K p e s m args below meth c n0 z0 H locs L C hn hz hR hS hL)⟩
theorem x_aloadN {i : Nat} (hd : decode M.2.1 pc = .ok (.aload i, 2)) (hl : ls[i]? = some (some .null)) (k : AW S M (pc + 2) ls (.null :: st) h r h') : AW S M pc ls (st) h r h' :=
  ⟨k.1, fun l K p e s m args below meth c n0 z0 H locs L C hn hz hR hS hL => lv_aloadN C.1 C.2.1 hd (lvX_at hL hl) (k.2 l K p e s m args below meth c n0 z0 H locs L C hn hz hR hS hL)⟩
theorem x_iadd {x y : Int32} (hd : decode M.2.1 pc = .ok (.iadd, 1))  (k : AW S M (pc + 1) ls (.int (x + y) :: st) h r h') : AW S M pc ls (.int y :: .int x :: st) h r h' :=
  ⟨k.1, fun l K p e s m args below meth c n0 z0 H locs L C hn hz hR hS hL => lv_iadd C.1 C.2.1 hd  (k.2 l K p e s m args below meth c n0 z0 H locs L C hn hz hR hS hL)⟩
theorem x_isub {x y : Int32} (hd : decode M.2.1 pc = .ok (.isub, 1))  (k : AW S M (pc + 1) ls (.int (x - y) :: st) h r h') : AW S M pc ls (.int y :: .int x :: st) h r h' :=
  ⟨k.1, fun l K p e s m args below meth c n0 z0 H locs L C hn hz hR hS hL => lv_isub C.1 C.2.1 hd  (k.2 l K p e s m args below meth c n0 z0 H locs L C hn hz hR hS hL)⟩
theorem x_imul {x y : Int32} (hd : decode M.2.1 pc = .ok (.imul, 1))  (k : AW S M (pc + 1) ls (.int (x * y) :: st) h r h') : AW S M pc ls (.int y :: .int x :: st) h r h' :=
  ⟨k.1, fun l K p e s m args below meth c n0 z0 H locs L C hn hz hR hS hL => lv_imul C.1 C.2.1 hd  (k.2 l K p e s m args below meth c n0 z0 H locs L C hn hz hR hS hL)⟩
theorem x_iand {x y : Int32} (hd : decode M.2.1 pc = .ok (.iand, 1))  (k : AW S M (pc + 1) ls (.int (x &&& y) :: st) h r h') : AW S M pc ls (.int y :: .int x :: st) h r h' :=
  ⟨k.1, fun l K p e s m args below meth c n0 z0 H locs L C hn hz hR hS hL => lv_iand C.1 C.2.1 hd  (k.2 l K p e s m args below meth c n0 z0 H locs L C hn hz hR hS hL)⟩
theorem x_ishr {x y : Int32} (hd : decode M.2.1 pc = .ok (.ishr, 1))  (k : AW S M (pc + 1) ls (.int (x >>> (y &&& 31)) :: st) h r h') : AW S M pc ls (.int y :: .int x :: st) h r h' :=
  ⟨k.1, fun l K p e s m args below meth c n0 z0 H locs L C hn hz hR hS hL => lv_ishr C.1 C.2.1 hd  (k.2 l K p e s m args below meth c n0 z0 H locs L C hn hz hR hS hL)⟩
theorem x_iushr {x y : Int32} (hd : decode M.2.1 pc = .ok (.iushr, 1))  (k : AW S M (pc + 1) ls (.int ((x.toUInt32 >>> (y.toUInt32 &&& Int32.toUInt32 31)).toInt32) :: st) h r h') : AW S M pc ls (.int y :: .int x :: st) h r h' :=
  ⟨k.1, fun l K p e s m args below meth c n0 z0 H locs L C hn hz hR hS hL => lv_iushr C.1 C.2.1 hd rfl (k.2 l K p e s m args below meth c n0 z0 H locs L C hn hz hR hS hL)⟩
theorem x_idiv {x y : Int32} (hd : decode M.2.1 pc = .ok (.idiv, 1)) (hne : ¬ y = 0) (k : AW S M (pc + 1) ls (.int (x / y) :: st) h r h') : AW S M pc ls (.int y :: .int x :: st) h r h' :=
  ⟨k.1, fun l K p e s m args below meth c n0 z0 H locs L C hn hz hR hS hL => lv_idiv C.1 C.2.1 hd hne (k.2 l K p e s m args below meth c n0 z0 H locs L C hn hz hR hS hL)⟩
theorem x_irem {x y : Int32} (hd : decode M.2.1 pc = .ok (.irem, 1)) (hne : ¬ y = 0) (k : AW S M (pc + 1) ls (.int (x - x / y * y) :: st) h r h') : AW S M pc ls (.int y :: .int x :: st) h r h' :=
  ⟨k.1, fun l K p e s m args below meth c n0 z0 H locs L C hn hz hR hS hL => lv_irem C.1 C.2.1 hd hne (k.2 l K p e s m args below meth c n0 z0 H locs L C hn hz hR hS hL)⟩
theorem x_ladd {x y : Int64} (hd : decode M.2.1 pc = .ok (.ladd, 1))  (k : AW S M (pc + 1) ls (.long (x + y) :: st) h r h') : AW S M pc ls (.long y :: .long x :: st) h r h' :=
  ⟨k.1, fun l K p e s m args below meth c n0 z0 H locs L C hn hz hR hS hL => lv_ladd C.1 C.2.1 hd  (k.2 l K p e s m args below meth c n0 z0 H locs L C hn hz hR hS hL)⟩
theorem x_lsub {x y : Int64} (hd : decode M.2.1 pc = .ok (.lsub, 1))  (k : AW S M (pc + 1) ls (.long (x - y) :: st) h r h') : AW S M pc ls (.long y :: .long x :: st) h r h' :=
  ⟨k.1, fun l K p e s m args below meth c n0 z0 H locs L C hn hz hR hS hL => lv_lsub C.1 C.2.1 hd  (k.2 l K p e s m args below meth c n0 z0 H locs L C hn hz hR hS hL)⟩
theorem x_lmul {x y : Int64} (hd : decode M.2.1 pc = .ok (.lmul, 1))  (k : AW S M (pc + 1) ls (.long (x * y) :: st) h r h') : AW S M pc ls (.long y :: .long x :: st) h r h' :=
  ⟨k.1, fun l K p e s m args below meth c n0 z0 H locs L C hn hz hR hS hL => lv_lmul C.1 C.2.1 hd  (k.2 l K p e s m args below meth c n0 z0 H locs L C hn hz hR hS hL)⟩
theorem x_land {x y : Int64} (hd : decode M.2.1 pc = .ok (.land, 1))  (k : AW S M (pc + 1) ls (.long (x &&& y) :: st) h r h') : AW S M pc ls (.long y :: .long x :: st) h r h' :=
  ⟨k.1, fun l K p e s m args below meth c n0 z0 H locs L C hn hz hR hS hL => lv_land C.1 C.2.1 hd  (k.2 l K p e s m args below meth c n0 z0 H locs L C hn hz hR hS hL)⟩
theorem x_ldiv {x y : Int64} (hd : decode M.2.1 pc = .ok (.ldiv, 1)) (hne : ¬ y = 0) (k : AW S M (pc + 1) ls (.long (x / y) :: st) h r h') : AW S M pc ls (.long y :: .long x :: st) h r h' :=
  ⟨k.1, fun l K p e s m args below meth c n0 z0 H locs L C hn hz hR hS hL => lv_ldiv C.1 C.2.1 hd hne (k.2 l K p e s m args below meth c n0 z0 H locs L C hn hz hR hS hL)⟩
theorem x_lshr {x : Int64} {y : Int32} (hd : decode M.2.1 pc = .ok (.lshr, 1))  (k : AW S M (pc + 1) ls (.long (x >>> (y.toInt64 &&& 63)) :: st) h r h') : AW S M pc ls (.int y :: .long x :: st) h r h' :=
  ⟨k.1, fun l K p e s m args below meth c n0 z0 H locs L C hn hz hR hS hL => lv_lshr C.1 C.2.1 hd rfl (k.2 l K p e s m args below meth c n0 z0 H locs L C hn hz hR hS hL)⟩
theorem x_i2l {x : Int32} (hd : decode M.2.1 pc = .ok (.i2l, 1))  (k : AW S M (pc + 1) ls (.long x.toInt64 :: st) h r h') : AW S M pc ls (.int x :: st) h r h' :=
  ⟨k.1, fun l K p e s m args below meth c n0 z0 H locs L C hn hz hR hS hL => lv_i2l C.1 C.2.1 hd rfl (k.2 l K p e s m args below meth c n0 z0 H locs L C hn hz hR hS hL)⟩
theorem x_l2i {x : Int64} (hd : decode M.2.1 pc = .ok (.l2i, 1))  (k : AW S M (pc + 1) ls (.int x.toInt32 :: st) h r h') : AW S M pc ls (.long x :: st) h r h' :=
  ⟨k.1, fun l K p e s m args below meth c n0 z0 H locs L C hn hz hR hS hL => lv_l2i C.1 C.2.1 hd rfl (k.2 l K p e s m args below meth c n0 z0 H locs L C hn hz hR hS hL)⟩
theorem x_lcmp {x y : Int64} (hd : decode M.2.1 pc = .ok (.lcmp, 1))  (k : AW S M (pc + 1) ls (.int (lg_cmp x y) :: st) h r h') : AW S M pc ls (.long y :: .long x :: st) h r h' :=
  ⟨k.1, fun l K p e s m args below meth c n0 z0 H locs L C hn hz hR hS hL => W.lcmp C.1 C.2.1 hd  (k.2 l K p e s m args below meth c n0 z0 H locs L C hn hz hR hS hL)⟩
theorem x_dup {v : Value} (hd : decode M.2.1 pc = .ok (.dup, 1)) (hv : v.category = 1) (k : AW S M (pc + 1) ls (v :: v :: st) h r h') : AW S M pc ls (v :: st) h r h' :=
  ⟨k.1, fun l K p e s m args below meth c n0 z0 H locs L C hn hz hR hS hL => lv_dup C.1 C.2.1 hd (by rw [xv_cat]; exact hv) (k.2 l K p e s m args below meth c n0 z0 H locs L C hn hz hR hS hL)⟩
theorem x_pop {v : Value} (hd : decode M.2.1 pc = .ok (.pop, 1)) (hv : v.category = 1) (k : AW S M (pc + 1) ls (st) h r h') : AW S M pc ls (v :: st) h r h' :=
  ⟨k.1, fun l K p e s m args below meth c n0 z0 H locs L C hn hz hR hS hL => lv_pop C.1 C.2.1 hd (by rw [xv_cat]; exact hv) (k.2 l K p e s m args below meth c n0 z0 H locs L C hn hz hR hS hL)⟩
theorem x_dup2 {v w : Value} (hd : decode M.2.1 pc = .ok (.dup2, 1)) (hv : v.category = 1) (hw : w.category = 1) (k : AW S M (pc + 1) ls (v :: w :: v :: w :: st) h r h') : AW S M pc ls (v :: w :: st) h r h' :=
  ⟨k.1, fun l K p e s m args below meth c n0 z0 H locs L C hn hz hR hS hL => lv_dup2_11 C.1 C.2.1 hd (by rw [xv_cat]; exact hv) (by rw [xv_cat]; exact hw) (k.2 l K p e s m args below meth c n0 z0 H locs L C hn hz hR hS hL)⟩
theorem x_istore_n {k0 : Fin 4} {i : Nat} {x : Int32} {ls' : List (Option Value)} (hd : decode M.2.1 pc = .ok (.istore_n k0, 1)) (hi : (k0 : Nat) = i) (hn9 : i < M.2.2.1) (hl : xst ls i (.int x) = ls') (k : AW S M (pc + 1) ls' st h r h') : AW S M pc ls (.int x :: st) h r h' := by
  refine ⟨k.1, fun l K p e s m args below meth c n0 z0 H locs L C hn hz hR hS hL => ?_⟩
  obtain ⟨L', e1, h1⟩ := lvX_store1 (v := .int x) hL hn9 rfl
  rw [hl] at h1
  have e1 : storeLocals L i (.int x) = some L' := e1
  rw [← hi] at e1
  have hx := C.1
  have hb := C.2.1
  intro T hT X
  obtain ⟨t, a, b⟩ := k.2 l K p e s m args below meth c n0 z0 H locs L' C hn hz hR hS h1 T hT X
  refine ⟨t, ?_, b⟩
  jvm_step X.here [X.here.top, ↓top_set X.here.top, hx, hb, hd, e1, xv]
  exact a
theorem x_lstore_n {k0 : Fin 4} {i : Nat} {x : Int64} {ls' : List (Option Value)} (hd : decode M.2.1 pc = .ok (.lstore_n k0, 1)) (hi : (k0 : Nat) = i) (hn9 : i + 1 < M.2.2.1) (hl : xst2 ls i (.long x) = ls') (k : AW S M (pc + 1) ls' st h r h') : AW S M pc ls (.long x :: st) h r h' := by
  refine ⟨k.1, fun l K p e s m args below meth c n0 z0 H locs L C hn hz hR hS hL => ?_⟩
  obtain ⟨L', e1, h1⟩ := lvX_store2 (v := .long x) hL hn9 rfl
  rw [hl] at h1
  have e1 : storeLocals L i (.long x) = some L' := e1
  rw [← hi] at e1
  have hx := C.1
  have hb := C.2.1
  intro T hT X
  obtain ⟨t, a, b⟩ := k.2 l K p e s m args below meth c n0 z0 H locs L' C hn hz hR hS h1 T hT X
  refine ⟨t, ?_, b⟩
  jvm_step X.here [X.here.top, ↓top_set X.here.top, hx, hb, hd, e1, xv]
  exact a
theorem x_astore_n {k0 : Fin 4} {i : Nat} {x : Nat} {ls' : List (Option Value)} (hd : decode M.2.1 pc = .ok (.astore_n k0, 1)) (hi : (k0 : Nat) = i) (hn9 : i < M.2.2.1) (hl : xst ls i (.ref x) = ls') (k : AW S M (pc + 1) ls' st h r h') : AW S M pc ls (.ref x :: st) h r h' := by
  refine ⟨k.1, fun l K p e s m args below meth c n0 z0 H locs L C hn hz hR hS hL => ?_⟩
  obtain ⟨L', e1, h1⟩ := lvX_store1 (v := .ref x) hL hn9 rfl
  rw [hl] at h1
  have e1 : storeLocals L i (.ref (K.1 + x)) = some L' := e1
  rw [← hi] at e1
  have hx := C.1
  have hb := C.2.1
  intro T hT X
  obtain ⟨t, a, b⟩ := k.2 l K p e s m args below meth c n0 z0 H locs L' C hn hz hR hS h1 T hT X
  refine ⟨t, ?_, b⟩
  jvm_step X.here [X.here.top, ↓top_set X.here.top, hx, hb, hd, e1, xv, Value.isRef]
  exact a
theorem x_astore_nN {k0 : Fin 4} {i : Nat} {ls' : List (Option Value)} (hd : decode M.2.1 pc = .ok (.astore_n k0, 1)) (hi : (k0 : Nat) = i) (hn9 : i < M.2.2.1) (hl : xst ls i (.null) = ls') (k : AW S M (pc + 1) ls' st h r h') : AW S M pc ls (.null :: st) h r h' := by
  refine ⟨k.1, fun l K p e s m args below meth c n0 z0 H locs L C hn hz hR hS hL => ?_⟩
  obtain ⟨L', e1, h1⟩ := lvX_store1 (v := .null) hL hn9 rfl
  rw [hl] at h1
  have e1 : storeLocals L i (.null) = some L' := e1
  rw [← hi] at e1
  have hx := C.1
  have hb := C.2.1
  intro T hT X
  obtain ⟨t, a, b⟩ := k.2 l K p e s m args below meth c n0 z0 H locs L' C hn hz hR hS h1 T hT X
  refine ⟨t, ?_, b⟩
  jvm_step X.here [X.here.top, ↓top_set X.here.top, hx, hb, hd, e1, xv, Value.isRef]
  exact a
theorem x_istore {i : Nat} {x : Int32} {ls' : List (Option Value)} (hd : decode M.2.1 pc = .ok (.istore i, 2))  (hn9 : i < M.2.2.1) (hl : xst ls i (.int x) = ls') (k : AW S M (pc + 2) ls' st h r h') : AW S M pc ls (.int x :: st) h r h' := by
  refine ⟨k.1, fun l K p e s m args below meth c n0 z0 H locs L C hn hz hR hS hL => ?_⟩
  obtain ⟨L', e1, h1⟩ := lvX_store1 (v := .int x) hL hn9 rfl
  rw [hl] at h1
  have e1 : storeLocals L i (.int x) = some L' := e1
  skip
  have hx := C.1
  have hb := C.2.1
  intro T hT X
  obtain ⟨t, a, b⟩ := k.2 l K p e s m args below meth c n0 z0 H locs L' C hn hz hR hS h1 T hT X
  refine ⟨t, ?_, b⟩
  jvm_step X.here [X.here.top, ↓top_set X.here.top, hx, hb, hd, e1, xv]
  exact a
theorem x_lstore {i : Nat} {x : Int64} {ls' : List (Option Value)} (hd : decode M.2.1 pc = .ok (.lstore i, 2))  (hn9 : i + 1 < M.2.2.1) (hl : xst2 ls i (.long x) = ls') (k : AW S M (pc + 2) ls' st h r h') : AW S M pc ls (.long x :: st) h r h' := by
  refine ⟨k.1, fun l K p e s m args below meth c n0 z0 H locs L C hn hz hR hS hL => ?_⟩
  obtain ⟨L', e1, h1⟩ := lvX_store2 (v := .long x) hL hn9 rfl
  rw [hl] at h1
  have e1 : storeLocals L i (.long x) = some L' := e1
  skip
  have hx := C.1
  have hb := C.2.1
  intro T hT X
  obtain ⟨t, a, b⟩ := k.2 l K p e s m args below meth c n0 z0 H locs L' C hn hz hR hS h1 T hT X
  refine ⟨t, ?_, b⟩
  jvm_step X.here [X.here.top, ↓top_set X.here.top, hx, hb, hd, e1, xv]
  exact a
theorem x_astore {i : Nat} {x : Nat} {ls' : List (Option Value)} (hd : decode M.2.1 pc = .ok (.astore i, 2))  (hn9 : i < M.2.2.1) (hl : xst ls i (.ref x) = ls') (k : AW S M (pc + 2) ls' st h r h') : AW S M pc ls (.ref x :: st) h r h' := by
  refine ⟨k.1, fun l K p e s m args below meth c n0 z0 H locs L C hn hz hR hS hL => ?_⟩
  obtain ⟨L', e1, h1⟩ := lvX_store1 (v := .ref x) hL hn9 rfl
  rw [hl] at h1
  have e1 : storeLocals L i (.ref (K.1 + x)) = some L' := e1
  skip
  have hx := C.1
  have hb := C.2.1
  intro T hT X
  obtain ⟨t, a, b⟩ := k.2 l K p e s m args below meth c n0 z0 H locs L' C hn hz hR hS h1 T hT X
  refine ⟨t, ?_, b⟩
  jvm_step X.here [X.here.top, ↓top_set X.here.top, hx, hb, hd, e1, xv, Value.isRef]
  exact a
theorem x_astoreN {i : Nat} {ls' : List (Option Value)} (hd : decode M.2.1 pc = .ok (.astore i, 2))  (hn9 : i < M.2.2.1) (hl : xst ls i (.null) = ls') (k : AW S M (pc + 2) ls' st h r h') : AW S M pc ls (.null :: st) h r h' := by
  refine ⟨k.1, fun l K p e s m args below meth c n0 z0 H locs L C hn hz hR hS hL => ?_⟩
  obtain ⟨L', e1, h1⟩ := lvX_store1 (v := .null) hL hn9 rfl
  rw [hl] at h1
  have e1 : storeLocals L i (.null) = some L' := e1
  skip
  have hx := C.1
  have hb := C.2.1
  intro T hT X
  obtain ⟨t, a, b⟩ := k.2 l K p e s m args below meth c n0 z0 H locs L' C hn hz hR hS h1 T hT X
  refine ⟨t, ?_, b⟩
  jvm_step X.here [X.here.top, ↓top_set X.here.top, hx, hb, hd, e1, xv, Value.isRef]
  exact a
theorem x_iinc {i : Nat} {n : Int} {x v : Int32} {ls' : List (Option Value)} (hd : decode M.2.1 pc = .ok (.iinc i n, 3)) (hx0 : ls[i]? = some (some (.int x))) (hv : x + Int32.ofInt n = v) (hn9 : i < M.2.2.1) (hl : xst ls i (.int v) = ls') (k : AW S M (pc + 3) ls' st h r h') : AW S M pc ls st h r h' := by
  refine ⟨k.1, fun l K p e s m args below meth c n0 z0 H locs L C hn hz hR hS hL => ?_⟩
  subst hv
  obtain ⟨L', e1, h1⟩ := lvX_store1 (v := .int (x + Int32.ofInt n)) hL hn9 rfl
  rw [hl] at h1
  have e1 : storeLocals L i (.int (x + Int32.ofInt n)) = some L' := e1
  have hg : L[i]? = some (.val (.int x)) := lvX_at hL hx0
  have hx := C.1
  have hb := C.2.1
  intro T hT X
  obtain ⟨t, a, b⟩ := k.2 l K p e s m args below meth c n0 z0 H locs L' C hn hz hR hS h1 T hT X
  refine ⟨t, ?_, b⟩
  jvm_step X.here [X.here.top, ↓top_set X.here.top, hx, hb, hd, hg, e1]
  exact a
theorem x_if_eq {x : Int32} {off : Int} {tgt : Nat} (hd : decode M.2.1 pc = .ok (.ifCond .eq off, 3)) (ht : (pc : Int) + off = (tgt : Int)) (kt : x = 0 → AW S M tgt ls st h r h') (kf : ¬ x = 0 → AW S M (pc + 3) ls st h r h') : AW S M pc ls (.int x :: st) h r h' :=
  ⟨by by_cases q : x = 0
      · exact (kt q).1
      · exact (kf q).1, fun l K p e s m args below meth c n0 z0 H locs L C hn hz hR hS hL => lv_if_eq C.1 C.2.1 hd ht (fun q => (kt q).2 l K p e s m args below meth c n0 z0 H locs L C hn hz hR hS hL) (fun q => (kf q).2 l K p e s m args below meth c n0 z0 H locs L C hn hz hR hS hL)⟩
theorem x_icmp_eq {x y : Int32} {off : Int} {tgt : Nat} (hd : decode M.2.1 pc = .ok (.if_icmp .eq off, 3)) (ht : (pc : Int) + off = (tgt : Int)) (kt : x = y → AW S M tgt ls st h r h') (kf : ¬ x = y → AW S M (pc + 3) ls st h r h') : AW S M pc ls (.int y :: .int x :: st) h r h' :=
  ⟨by by_cases q : x = y
      · exact (kt q).1
      · exact (kf q).1, fun l K p e s m args below meth c n0 z0 H locs L C hn hz hR hS hL => lv_icmp_eq C.1 C.2.1 hd ht (fun q => (kt q).2 l K p e s m args below meth c n0 z0 H locs L C hn hz hR hS hL) (fun q => (kf q).2 l K p e s m args below meth c n0 z0 H locs L C hn hz hR hS hL)⟩
theorem x_if_ne {x : Int32} {off : Int} {tgt : Nat} (hd : decode M.2.1 pc = .ok (.ifCond .ne off, 3)) (ht : (pc : Int) + off = (tgt : Int)) (kt : ¬ x = 0 → AW S M tgt ls st h r h') (kf : x = 0 → AW S M (pc + 3) ls st h r h') : AW S M pc ls (.int x :: st) h r h' :=
  ⟨by by_cases q : x = 0
      · exact (kf q).1
      · exact (kt q).1, fun l K p e s m args below meth c n0 z0 H locs L C hn hz hR hS hL => lv_if_ne C.1 C.2.1 hd ht (fun q => (kt q).2 l K p e s m args below meth c n0 z0 H locs L C hn hz hR hS hL) (fun q => (kf q).2 l K p e s m args below meth c n0 z0 H locs L C hn hz hR hS hL)⟩
theorem x_icmp_ne {x y : Int32} {off : Int} {tgt : Nat} (hd : decode M.2.1 pc = .ok (.if_icmp .ne off, 3)) (ht : (pc : Int) + off = (tgt : Int)) (kt : ¬ x = y → AW S M tgt ls st h r h') (kf : x = y → AW S M (pc + 3) ls st h r h') : AW S M pc ls (.int y :: .int x :: st) h r h' :=
  ⟨by by_cases q : x = y
      · exact (kf q).1
      · exact (kt q).1, fun l K p e s m args below meth c n0 z0 H locs L C hn hz hR hS hL => lv_icmp_ne C.1 C.2.1 hd ht (fun q => (kt q).2 l K p e s m args below meth c n0 z0 H locs L C hn hz hR hS hL) (fun q => (kf q).2 l K p e s m args below meth c n0 z0 H locs L C hn hz hR hS hL)⟩
theorem x_if_lt {x : Int32} {off : Int} {tgt : Nat} (hd : decode M.2.1 pc = .ok (.ifCond .lt off, 3)) (ht : (pc : Int) + off = (tgt : Int)) (kt : x < 0 → AW S M tgt ls st h r h') (kf : ¬ x < 0 → AW S M (pc + 3) ls st h r h') : AW S M pc ls (.int x :: st) h r h' :=
  ⟨by by_cases q : x < 0
      · exact (kt q).1
      · exact (kf q).1, fun l K p e s m args below meth c n0 z0 H locs L C hn hz hR hS hL => lv_if_lt C.1 C.2.1 hd ht (fun q => (kt q).2 l K p e s m args below meth c n0 z0 H locs L C hn hz hR hS hL) (fun q => (kf q).2 l K p e s m args below meth c n0 z0 H locs L C hn hz hR hS hL)⟩
theorem x_icmp_lt {x y : Int32} {off : Int} {tgt : Nat} (hd : decode M.2.1 pc = .ok (.if_icmp .lt off, 3)) (ht : (pc : Int) + off = (tgt : Int)) (kt : x < y → AW S M tgt ls st h r h') (kf : ¬ x < y → AW S M (pc + 3) ls st h r h') : AW S M pc ls (.int y :: .int x :: st) h r h' :=
  ⟨by by_cases q : x < y
      · exact (kt q).1
      · exact (kf q).1, fun l K p e s m args below meth c n0 z0 H locs L C hn hz hR hS hL => lv_icmp_lt C.1 C.2.1 hd ht (fun q => (kt q).2 l K p e s m args below meth c n0 z0 H locs L C hn hz hR hS hL) (fun q => (kf q).2 l K p e s m args below meth c n0 z0 H locs L C hn hz hR hS hL)⟩
theorem x_if_ge {x : Int32} {off : Int} {tgt : Nat} (hd : decode M.2.1 pc = .ok (.ifCond .ge off, 3)) (ht : (pc : Int) + off = (tgt : Int)) (kt : 0 ≤ x → AW S M tgt ls st h r h') (kf : ¬ 0 ≤ x → AW S M (pc + 3) ls st h r h') : AW S M pc ls (.int x :: st) h r h' :=
  ⟨by by_cases q : 0 ≤ x
      · exact (kt q).1
      · exact (kf q).1, fun l K p e s m args below meth c n0 z0 H locs L C hn hz hR hS hL => lv_if_ge C.1 C.2.1 hd ht (fun q => (kt q).2 l K p e s m args below meth c n0 z0 H locs L C hn hz hR hS hL) (fun q => (kf q).2 l K p e s m args below meth c n0 z0 H locs L C hn hz hR hS hL)⟩
theorem x_icmp_ge {x y : Int32} {off : Int} {tgt : Nat} (hd : decode M.2.1 pc = .ok (.if_icmp .ge off, 3)) (ht : (pc : Int) + off = (tgt : Int)) (kt : y ≤ x → AW S M tgt ls st h r h') (kf : ¬ y ≤ x → AW S M (pc + 3) ls st h r h') : AW S M pc ls (.int y :: .int x :: st) h r h' :=
  ⟨by by_cases q : y ≤ x
      · exact (kt q).1
      · exact (kf q).1, fun l K p e s m args below meth c n0 z0 H locs L C hn hz hR hS hL => lv_icmp_ge C.1 C.2.1 hd ht (fun q => (kt q).2 l K p e s m args below meth c n0 z0 H locs L C hn hz hR hS hL) (fun q => (kf q).2 l K p e s m args below meth c n0 z0 H locs L C hn hz hR hS hL)⟩
theorem x_if_gt {x : Int32} {off : Int} {tgt : Nat} (hd : decode M.2.1 pc = .ok (.ifCond .gt off, 3)) (ht : (pc : Int) + off = (tgt : Int)) (kt : 0 < x → AW S M tgt ls st h r h') (kf : ¬ 0 < x → AW S M (pc + 3) ls st h r h') : AW S M pc ls (.int x :: st) h r h' :=
  ⟨by by_cases q : 0 < x
      · exact (kt q).1
      · exact (kf q).1, fun l K p e s m args below meth c n0 z0 H locs L C hn hz hR hS hL => lv_if_gt C.1 C.2.1 hd ht (fun q => (kt q).2 l K p e s m args below meth c n0 z0 H locs L C hn hz hR hS hL) (fun q => (kf q).2 l K p e s m args below meth c n0 z0 H locs L C hn hz hR hS hL)⟩
theorem x_icmp_gt {x y : Int32} {off : Int} {tgt : Nat} (hd : decode M.2.1 pc = .ok (.if_icmp .gt off, 3)) (ht : (pc : Int) + off = (tgt : Int)) (kt : y < x → AW S M tgt ls st h r h') (kf : ¬ y < x → AW S M (pc + 3) ls st h r h') : AW S M pc ls (.int y :: .int x :: st) h r h' :=
  ⟨by by_cases q : y < x
      · exact (kt q).1
      · exact (kf q).1, fun l K p e s m args below meth c n0 z0 H locs L C hn hz hR hS hL => lv_icmp_gt C.1 C.2.1 hd ht (fun q => (kt q).2 l K p e s m args below meth c n0 z0 H locs L C hn hz hR hS hL) (fun q => (kf q).2 l K p e s m args below meth c n0 z0 H locs L C hn hz hR hS hL)⟩
theorem x_if_le {x : Int32} {off : Int} {tgt : Nat} (hd : decode M.2.1 pc = .ok (.ifCond .le off, 3)) (ht : (pc : Int) + off = (tgt : Int)) (kt : x ≤ 0 → AW S M tgt ls st h r h') (kf : ¬ x ≤ 0 → AW S M (pc + 3) ls st h r h') : AW S M pc ls (.int x :: st) h r h' :=
  ⟨by by_cases q : x ≤ 0
      · exact (kt q).1
      · exact (kf q).1, fun l K p e s m args below meth c n0 z0 H locs L C hn hz hR hS hL => lv_if_le C.1 C.2.1 hd ht (fun q => (kt q).2 l K p e s m args below meth c n0 z0 H locs L C hn hz hR hS hL) (fun q => (kf q).2 l K p e s m args below meth c n0 z0 H locs L C hn hz hR hS hL)⟩
theorem x_icmp_le {x y : Int32} {off : Int} {tgt : Nat} (hd : decode M.2.1 pc = .ok (.if_icmp .le off, 3)) (ht : (pc : Int) + off = (tgt : Int)) (kt : x ≤ y → AW S M tgt ls st h r h') (kf : ¬ x ≤ y → AW S M (pc + 3) ls st h r h') : AW S M pc ls (.int y :: .int x :: st) h r h' :=
  ⟨by by_cases q : x ≤ y
      · exact (kt q).1
      · exact (kf q).1, fun l K p e s m args below meth c n0 z0 H locs L C hn hz hR hS hL => lv_icmp_le C.1 C.2.1 hd ht (fun q => (kt q).2 l K p e s m args below meth c n0 z0 H locs L C hn hz hR hS hL) (fun q => (kf q).2 l K p e s m args below meth c n0 z0 H locs L C hn hz hR hS hL)⟩
theorem x_goto {off : Int} {tgt : Nat} (hd : decode M.2.1 pc = .ok (.goto off, 3)) (ht : (pc : Int) + off = (tgt : Int)) (k : AW S M tgt ls st h r h') : AW S M pc ls st h r h' :=
  ⟨k.1, fun l K p e s m args below meth c n0 z0 H locs L C hn hz hR hS hL => lv_goto C.1 C.2.1 hd ht (k.2 l K p e s m args below meth c n0 z0 H locs L C hn hz hR hS hL)⟩
theorem x_ifnull {x : Nat} {off : Int} (hd : decode M.2.1 pc = .ok (.ifnull off, 3)) (k : AW S M (pc + 3) ls st h r h') : AW S M pc ls (.ref x :: st) h r h' :=
  ⟨k.1, fun l K p e s m args below meth c n0 z0 H locs L C hn hz hR hS hL => lv_ifnull C.1 C.2.1 hd (k.2 l K p e s m args below meth c n0 z0 H locs L C hn hz hR hS hL)⟩
theorem x_ifnullN {off : Int} {tgt : Nat} (hd : decode M.2.1 pc = .ok (.ifnull off, 3)) (ht : (pc : Int) + off = (tgt : Int)) (k : AW S M (tgt) ls st h r h') : AW S M pc ls (.null :: st) h r h' :=
  ⟨k.1, fun l K p e s m args below meth c n0 z0 H locs L C hn hz hR hS hL => lv_ifnullN C.1 C.2.1 hd ht (k.2 l K p e s m args below meth c n0 z0 H locs L C hn hz hR hS hL)⟩
theorem x_ifnonnull {x : Nat} {off : Int} {tgt : Nat} (hd : decode M.2.1 pc = .ok (.ifnonnull off, 3)) (ht : (pc : Int) + off = (tgt : Int)) (k : AW S M (tgt) ls st h r h') : AW S M pc ls (.ref x :: st) h r h' :=
  ⟨k.1, fun l K p e s m args below meth c n0 z0 H locs L C hn hz hR hS hL => lv_ifnonnull C.1 C.2.1 hd ht (k.2 l K p e s m args below meth c n0 z0 H locs L C hn hz hR hS hL)⟩
theorem x_ifnonnullN {off : Int} (hd : decode M.2.1 pc = .ok (.ifnonnull off, 3)) (k : AW S M (pc + 3) ls st h r h') : AW S M pc ls (.null :: st) h r h' :=
  ⟨k.1, fun l K p e s m args below meth c n0 z0 H locs L C hn hz hR hS hL => lv_ifnonnullN C.1 C.2.1 hd (k.2 l K p e s m args below meth c n0 z0 H locs L C hn hz hR hS hL)⟩
theorem x_tableOut {dflt lo hi : Int} {offs : Array Int} {len : Nat} {x : Int32} {tgt : Nat} (hd : decode M.2.1 pc = .ok (.tableswitch dflt lo hi offs, len)) (hx : x.toInt < lo ∨ hi < x.toInt) (ht : (pc : Int) + dflt = (tgt : Int)) (k : AW S M tgt ls st h r h') : AW S M pc ls (.int x :: st) h r h' :=
  ⟨k.1, fun l K p e s m args below meth c n0 z0 H locs L C hn hz hR hS hL => lv_tableOut C.1 C.2.1 hd hx ht (k.2 l K p e s m args below meth c n0 z0 H locs L C hn hz hR hS hL)⟩
theorem x_tableIn {dflt lo hi : Int} {offs : Array Int} {len : Nat} {x : Int32} {off : Int} {tgt : Nat} (hd : decode M.2.1 pc = .ok (.tableswitch dflt lo hi offs, len)) (h1 : ¬ x.toInt < lo) (h2 : ¬ hi < x.toInt) (ho : offs[(x.toInt - lo).toNat]? = some off) (ht : (pc : Int) + off = (tgt : Int)) (k : AW S M tgt ls st h r h') : AW S M pc ls (.int x :: st) h r h' :=
  ⟨k.1, fun l K p e s m args below meth c n0 z0 H locs L C hn hz hR hS hL => lv_tableIn C.1 C.2.1 hd h1 h2 ho ht (k.2 l K p e s m args below meth c n0 z0 H locs L C hn hz hR hS hL)⟩
theorem x_ldc {index : Nat} {v : Int32} (hd : decode M.2.1 pc = .ok (.ldc index, 2)) (hw : Cond.constant M.1.cls index v ∈ gtbl) (k : AW S M (pc + 2) ls (.int v :: st) h r h') : AW S M pc ls st h r h' :=
  ⟨k.1, fun l K p e s m args below meth c n0 z0 H locs L C hn hz hR hS hL => lv_ldc C.1 C.2.1 C.2.2.2.2.1 (C.2.2.2.2.2.1 _ hw) hd (k.2 l K p e s m args below meth c n0 z0 H locs L C hn hz hR hS hL)⟩
theorem x_ldcw {index : Nat} {v : Int32} (hd : decode M.2.1 pc = .ok (.ldc_w index, 3)) (hw : Cond.constant M.1.cls index v ∈ gtbl) (k : AW S M (pc + 3) ls (.int v :: st) h r h') : AW S M pc ls st h r h' :=
  ⟨k.1, fun l K p e s m args below meth c n0 z0 H locs L C hn hz hR hS hL => lv_ldcw C.1 C.2.1 C.2.2.2.2.1 (C.2.2.2.2.2.1 _ hw) hd (k.2 l K p e s m args below meth c n0 z0 H locs L C hn hz hR hS hL)⟩
theorem x_ldc2 {index : Nat} {v : Int64} (hd : decode M.2.1 pc = .ok (.ldc2_w index, 3)) (hw : Cond.constantLong M.1.cls index v ∈ gtbl) (k : AW S M (pc + 3) ls (.long v :: st) h r h') : AW S M pc ls st h r h' :=
  ⟨k.1, fun l K p e s m args below meth c n0 z0 H locs L C hn hz hR hS hL => lv_ldc2 C.1 C.2.1 C.2.2.2.2.1 (C.2.2.2.2.2.1 _ hw) hd (k.2 l K p e s m args below meth c n0 z0 H locs L C hn hz hR hS hL)⟩
theorem x_ldcS {index n : Nat} {tx : String} (hd : decode M.2.1 pc = .ok (.ldc index, 2)) (hw : (M.1.cls, index, tx, n) ∈ xstr) (k : AW S M (pc + 2) ls (.retAddr n :: st) h r h') : AW S M pc ls st h r h' :=
  ⟨k.1, fun l K p e s m args below meth c n0 z0 H locs L C hn hz hR hS hL => va_ldcS C.1 C.2.1 C.2.2.2.2.1 (C.2.2.2.2.2.2.2.2.1.2.2.1 _ hw) hd (k.2 l K p e s m args below meth c n0 z0 H locs L C hn hz hR hS hL)⟩
theorem x_iret {x : Int32} {ty : FieldType} (hd : decode M.2.1 pc = .ok (.ireturn, 1)) (hr : M.2.2.2.1 = some ty) (hn9 : narrow ty (.int x) = .int x) : AW S M pc ls [.int x] h (some (.int x)) h :=
  ⟨⟨Nat.le_refl _, Nat.le_refl _⟩, fun l K p e s m args below meth c n0 z0 H locs L C hn hz hR hS hL => W.zret C.1 C.2.1 (C.2.2.1.trans hr) hn9 (fun t ht hW => ⟨rfl, by rw [ht]; exact hR, hS.F ht⟩) hS.2.2 hd C.2.2.2.2.2.2.1⟩
theorem x_lret {x : Int64} (hd : decode M.2.1 pc = .ok (.lreturn, 1)) (hr : M.2.2.2.1 = some .long) : AW S M pc ls [.long x] h (some (.long x)) h :=
  ⟨⟨Nat.le_refl _, Nat.le_refl _⟩, fun l K p e s m args below meth c n0 z0 H locs L C hn hz hR hS hL => W.lret C.1 C.2.1 (C.2.2.1.trans hr) (fun t ht hW => ⟨rfl, by rw [ht]; exact hR, hS.F ht⟩) hS.2.2 hd C.2.2.2.2.2.2.1⟩
theorem x_vret (hd : decode M.2.1 pc = .ok (.return_, 1)) (hr : M.2.2.2.1 = none) : AW S M pc ls [] h none h :=
  ⟨⟨Nat.le_refl _, Nat.le_refl _⟩, fun l K p e s m args below meth c n0 z0 H locs L C hn hz hR hS hL => W.vret C.1 C.2.1 (C.2.2.1.trans hr) (fun t ht hW => ⟨rfl, by rw [ht]; exact hR, hS.F ht⟩) hS.2.2 hd C.2.2.2.2.2.2.1⟩
theorem x_aret {x : Nat} {C9 : String} (hd : decode M.2.1 pc = .ok (.areturn, 1)) (hr : M.2.2.2.1 = some (.object C9)) : AW S M pc ls [.ref x] h (some (.ref x)) h :=
  ⟨⟨Nat.le_refl _, Nat.le_refl _⟩, fun l K p e s m args below meth c n0 z0 H locs L C hn hz hR hS hL => W.aret C.1 C.2.1 (C.2.2.1.trans hr) (Or.inl ⟨_, rfl⟩) (Or.inr ⟨_, rfl⟩) (fun t ht hW => ⟨rfl, by rw [ht]; exact hR, hS.F ht⟩) hS.2.2 hd C.2.2.2.2.2.2.1⟩
theorem x_aretN {C9 : String} (hd : decode M.2.1 pc = .ok (.areturn, 1)) (hr : M.2.2.2.1 = some (.object C9)) : AW S M pc ls [.null] h (some .null) h :=
  ⟨⟨Nat.le_refl _, Nat.le_refl _⟩, fun l K p e s m args below meth c n0 z0 H locs L C hn hz hR hS hL => W.aret C.1 C.2.1 (C.2.2.1.trans hr) (Or.inl ⟨_, rfl⟩) (Or.inl rfl) (fun t ht hW => ⟨rfl, by rw [ht]; exact hR, hS.F ht⟩) hS.2.2 hd C.2.2.2.2.2.2.1⟩
end XRW
