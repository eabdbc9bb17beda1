/-! ROWS: Math.max, Math.min, of ints and longs. -/
section XMA
variable {S : XS} {M : XM} {pc : Nat} {ls : List (Option Value)} {st : List Value} {h : XH} {r : Option Value} {h' : XH} {Q : Option Value → XH → Prop}
def xMt (y : MethodName) (cd : ByteArray) (n : Nat) (t : FieldType) : Prop := Cond.static y ∈ gtbl ∧ Cond.initialized "java/lang/Math" ∈ gtbl ∧ Cond.code y cd n (some t) ∈ gtbl
theorem xM_max : xMt Lib.Math.max.name Lib.Math.max.code 2 .int := ⟨kS_Jm_maxI, kA_Jm_maxI.1, kA_Jm_maxI.2.1⟩
theorem xM_min : xMt Lib.Math.min.name Lib.Math.min.code 2 .int := ⟨kS_Jm_minI, kA_Jm_minI.1, kA_Jm_minI.2.1⟩
theorem xM_maxJ : xMt Lib.MathLoose.max_long.x Lib.MathLoose.max_long.code 4 .long := ⟨kS_Jm_maxJ, kA_Jm_maxJ.1, kA_Jm_maxJ.2.1⟩
theorem xM_minJ : xMt Lib.MathLoose.min_long.x Lib.MathLoose.min_long.code 4 .long := ⟨kS_Jm_minJ, kA_Jm_minJ.1, kA_Jm_minJ.2.1⟩
theorem b_maxI {index : Nat} {x y : Int32} (hd : decode M.2.1 pc = .ok (.invokestatic index, 3)) (hl : Cond.methodLink M.1.cls index m_Jm_maxI.1 ∈ gtbl) (hst : (st.map fun v => v.category).sum ≤ 8) (hrm : 1 ≤ M.2.2.2.2.1 ∧ 21 ≤ M.2.2.2.2.2) (kk : BW S M (pc + 3) ls (.int (if x < y then y else x) :: st) h Q) : BW S M pc ls (.int y :: .int x :: st) h Q := by
  obtain ⟨r, h9, q, w⟩ := kk
  refine ⟨r, h9, q, w.1, fun l K p e s m args below meth c n0 z0 H locs L C hn hz hR hS hL => ?_⟩
  have hts := C.2.2.2.2.2.1
  have w1 := w.1
  refine va_mmax (rest := st.map (xv K)) C.1 C.2.1 (C.2.2.2.1.trans hL.1.symm) C.2.2.2.2.1 (hts _ hl) (hts _ xM_max.1) (hts _ xM_max.2.1) (hts _ xM_max.2.2) hrm.1 ?_ ?_ ?_ hd (w.2 l K p e s m args below meth c n0 z0 H locs L C hn hz hR hS hL)
  · show ((st.map (xv K)).map fun v => v.category).sum + 13 ≤ M.2.2.2.2.2
    rw [xv_cats]; omega
  · show h.length - n0 ≤ h9.length - n0
    omega
  · show xsz h - z0 ≤ xsz h9 - z0
    omega
theorem b_minI {index : Nat} {x y : Int32} (hd : decode M.2.1 pc = .ok (.invokestatic index, 3)) (hl : Cond.methodLink M.1.cls index m_Jm_minI.1 ∈ gtbl) (hst : (st.map fun v => v.category).sum ≤ 8) (hrm : 1 ≤ M.2.2.2.2.1 ∧ 21 ≤ M.2.2.2.2.2) (kk : BW S M (pc + 3) ls (.int (if y < x then y else x) :: st) h Q) : BW S M pc ls (.int y :: .int x :: st) h Q := by
  obtain ⟨r, h9, q, w⟩ := kk
  refine ⟨r, h9, q, w.1, fun l K p e s m args below meth c n0 z0 H locs L C hn hz hR hS hL => ?_⟩
  have hts := C.2.2.2.2.2.1
  have w1 := w.1
  refine va_mmin (rest := st.map (xv K)) C.1 C.2.1 (C.2.2.2.1.trans hL.1.symm) C.2.2.2.2.1 (hts _ hl) (hts _ xM_min.1) (hts _ xM_min.2.1) (hts _ xM_min.2.2) hrm.1 ?_ ?_ ?_ hd (w.2 l K p e s m args below meth c n0 z0 H locs L C hn hz hR hS hL)
  · show ((st.map (xv K)).map fun v => v.category).sum + 13 ≤ M.2.2.2.2.2
    rw [xv_cats]; omega
  · show h.length - n0 ≤ h9.length - n0
    omega
  · show xsz h - z0 ≤ xsz h9 - z0
    omega
theorem b_maxJ {index : Nat} {x y : Int64} (hd : decode M.2.1 pc = .ok (.invokestatic index, 3)) (hl : Cond.methodLink M.1.cls index m_Jm_maxJ.1 ∈ gtbl) (hst : (st.map fun v => v.category).sum ≤ 8) (hrm : 1 ≤ M.2.2.2.2.1 ∧ 23 ≤ M.2.2.2.2.2) (kk : BW S M (pc + 3) ls (.long (if y < x then x else y) :: st) h Q) : BW S M pc ls (.long y :: .long x :: st) h Q := by
  obtain ⟨r, h9, q, w⟩ := kk
  refine ⟨r, h9, q, w.1, fun l K p e s m args below meth c n0 z0 H locs L C hn hz hR hS hL => ?_⟩
  have hts := C.2.2.2.2.2.1
  have w1 := w.1
  refine va_mmax_long (rest := st.map (xv K)) C.1 C.2.1 (C.2.2.2.1.trans hL.1.symm) C.2.2.2.2.1 (hts _ hl) (hts _ xM_maxJ.1) (hts _ xM_maxJ.2.1) (hts _ xM_maxJ.2.2) hrm.1 ?_ ?_ ?_ hd (w.2 l K p e s m args below meth c n0 z0 H locs L C hn hz hR hS hL)
  · show ((st.map (xv K)).map fun v => v.category).sum + 15 ≤ M.2.2.2.2.2
    rw [xv_cats]; omega
  · show h.length - n0 ≤ h9.length - n0
    omega
  · show xsz h - z0 ≤ xsz h9 - z0
    omega
theorem b_minJ {index : Nat} {x y : Int64} (hd : decode M.2.1 pc = .ok (.invokestatic index, 3)) (hl : Cond.methodLink M.1.cls index m_Jm_minJ.1 ∈ gtbl) (hst : (st.map fun v => v.category).sum ≤ 8) (hrm : 1 ≤ M.2.2.2.2.1 ∧ 23 ≤ M.2.2.2.2.2) (kk : BW S M (pc + 3) ls (.long (if y < x then y else x) :: st) h Q) : BW S M pc ls (.long y :: .long x :: st) h Q := by
  obtain ⟨r, h9, q, w⟩ := kk
  refine ⟨r, h9, q, w.1, fun l K p e s m args below meth c n0 z0 H locs L C hn hz hR hS hL => ?_⟩
  have hts := C.2.2.2.2.2.1
  have w1 := w.1
  refine va_mmin_long (rest := st.map (xv K)) C.1 C.2.1 (C.2.2.2.1.trans hL.1.symm) C.2.2.2.2.1 (hts _ hl) (hts _ xM_minJ.1) (hts _ xM_minJ.2.1) (hts _ xM_minJ.2.2) hrm.1 ?_ ?_ ?_ hd (w.2 l K p e s m args below meth c n0 z0 H locs L C hn hz hR hS hL)
  · show ((st.map (xv K)).map fun v => v.category).sum + 15 ≤ M.2.2.2.2.2
    rw [xv_cats]; omega
  · show h.length - n0 ≤ h9.length - n0
    omega
  · show xsz h - z0 ≤ xsz h9 - z0
    omega
end XMA
