/-! STRING CONSTANTS: older cells. .retAddr k (k < 7) the String, .retAddr (100 + k) its bytes. -/
section XST
variable {S : XS} {M : XM} {pc : Nat} {ls : List (Option Value)} {st : List Value} {h : XH} {r : Option Value} {h' : XH}
theorem x_sval {index k : Nat} (hd : decode M.2.1 pc = .ok (.getfield index, 3)) (hl : Cond.fieldLink M.1.cls index "java/lang/String" "value" "[B" ∈ gtbl) (hk : k < 7) (kk : AW S M (pc + 3) ls (.retAddr (100 + k) :: st) h r h') : AW S M pc ls (.retAddr k :: st) h r h' :=
  ⟨kk.1, fun l K p e s m args below meth c n0 z0 H locs L C hn hz hR hS hL => vk_getf C.1 C.2.1 (C.2.2.2.2.2.2.2.2.1.2.2.2.2.1.1 k hk).2.2.1 hS C.2.2.2.2.1 (C.2.2.2.2.2.1 _ hl) (fun _ q => q) hd (kk.2 l K p e s m args below meth c n0 z0 H locs L C hn hz hR hS hL)⟩
theorem x_scod {index k : Nat} (hd : decode M.2.1 pc = .ok (.getfield index, 3)) (hl : Cond.fieldLink M.1.cls index "java/lang/String" "coder" "B" ∈ gtbl) (hk : k < 7) (kk : AW S M (pc + 3) ls (.int 0 :: st) h r h') : AW S M pc ls (.retAddr k :: st) h r h' :=
  ⟨kk.1, fun l K p e s m args below meth c n0 z0 H locs L C hn hz hR hS hL => vk_getf C.1 C.2.1 (C.2.2.2.2.2.2.2.2.1.2.2.2.2.1.1 k hk).2.1 hS C.2.2.2.2.1 (C.2.2.2.2.2.1 _ hl) (fun _ q => q) hd (kk.2 l K p e s m args below meth c n0 z0 H locs L C hn hz hR hS hL)⟩
theorem x_scmp {index : Nat} (hd : decode M.2.1 pc = .ok (.getstatic index, 3)) (hl : Cond.fieldLink M.1.cls index "java/lang/String" "COMPACT_STRINGS" "Z" ∈ gtbl) (kk : AW S M (pc + 3) ls (.int 1 :: st) h r h') : AW S M pc ls st h r h' :=
  ⟨kk.1, fun l K p e s m args below meth c n0 z0 H locs L C hn hz hR hS hL => va_gets C.1 C.2.1 C.2.2.2.2.2.2.2.2.1.2.2.2.2.2.1.1 hS C.2.2.2.2.1 (C.2.2.2.2.2.1 _ hl) (fun _ q => q) hd (kk.2 l K p e s m args below meth c n0 z0 H locs L C hn hz hR hS hL)⟩
theorem x_sfmt {index : Nat} (hd : decode M.2.1 pc = .ok (.getstatic index, 3)) (hl : Cond.fieldLink M.1.cls index "jdk/internal/util/Preconditions" "SIOOBE_FORMATTER" "Ljava/util/function/BiFunction;" ∈ gtbl) (k1 : AW S M (pc + 3) ls (.null :: st) h r h') (k2 : AW S M (pc + 3) ls (.retAddr 98 :: st) h r h') : AW S M pc ls st h r h' := by
  refine ⟨k1.1, fun l K p e s m args below meth c n0 z0 H locs L C hn hz hR hS hL => ?_⟩
  rcases C.2.2.2.2.2.2.2.2.1.2.2.2.2.2.1.2 with z | z
  · exact va_gets C.1 C.2.1 z hS C.2.2.2.2.1 (C.2.2.2.2.2.1 _ hl) (fun _ q => q) hd (k1.2 l K p e s m args below meth c n0 z0 H locs L C hn hz hR hS hL)
  · exact va_gets C.1 C.2.1 z hS C.2.2.2.2.1 (C.2.2.2.2.2.1 _ hl) (fun _ q => q) hd (k2.2 l K p e s m args below meth c n0 z0 H locs L C hn hz hR hS hL)
theorem x_vlen {k : Nat} {v : Int32} (hd : decode M.2.1 pc = .ok (.arraylength, 1)) (hk : k < 7) (hv : Int32.ofNat (xlen.getD k 0) = v) (kk : AW S M (pc + 1) ls (.int v :: st) h r h') : AW S M pc ls (.retAddr (100 + k) :: st) h r h' :=
  ⟨kk.1, fun l K p e s m args below meth c n0 z0 H locs L C hn hz hR hS hL => va_tlen C.1 C.2.1 (C.2.2.2.2.2.2.2.2.1.2.2.2.2.1.1 k hk).2.2.2 hS hv hd (kk.2 l K p e s m args below meth c n0 z0 H locs L C hn hz hR hS hL)⟩
theorem x_vald {k : Nat} {i v : Int32} (hd : decode M.2.1 pc = .ok (.baload, 1)) (hk : k < 7) (hin : vp_in i (xlen.getD k 0)) (hv : (xbyt.getD k []).getD i.toNatClampNeg 0 = v) (kk : AW S M (pc + 1) ls (.int v :: st) h r h') : AW S M pc ls (.int i :: .retAddr (100 + k) :: st) h r h' :=
  ⟨kk.1, fun l K p e s m args below meth c n0 z0 H locs L C hn hz hR hS hL => va_tb C.1 C.2.1 (C.2.2.2.2.2.2.2.2.1.2.2.2.2.1.1 k hk).2.2.2 hS hin (v := .int v) (by rw [← hv]) hd (kk.2 l K p e s m args below meth c n0 z0 H locs L C hn hz hR hS hL)⟩
end XST
