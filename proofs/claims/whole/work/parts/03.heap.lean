/-! THE SMALL HEAP. A list of cells; a cell's place is its number; a reference is a number. An array bears its kind's number where va_E has a class. -/
abbrev XH : Type := List va_E
/-- the world's constants: where the world begins; class numbers and slots; array classes by kind; addresses of what is older (String constants, the script) -/
abbrev XK : Type := Nat × va_G × (Nat → ClassId) × (Nat → Nat)
def xv (K : XK) : Value → Value
  | .ref a => .ref (K.1 + a)
  | .retAddr k => .ref (K.2.2.2 k)
  | v => v
def xf (K : XK) (r : Option Nat) : Option Nat := r.map (fun a => K.1 + a)
def xa (K : XK) : ((Nat → Int32) ⊕ (Nat → Int64) ⊕ (Nat → UInt32) ⊕ (Nat → UInt64) ⊕ (Nat → Option Nat)) → ((Nat → Int32) ⊕ (Nat → Int64) ⊕ (Nat → UInt32) ⊕ (Nat → UInt64) ⊕ (Nat → Option Nat))
  | .inr (.inr (.inr (.inr f))) => .inr (.inr (.inr (.inr (fun i => xf K (f i)))))
  | a => a
def xe (K : XK) : va_E → va_E
  | .inl (t, n, a) => .inl (K.2.2.1 t, n, xa K a)
  | .inr (ci, fs) => .inr (ci, fs.map (xv K))
def xw (K : XK) (h : XH) : va_W := h.mapIdx (fun i e => (K.1 + i, xe K e))
def xs1 : va_E → Nat
  | .inl (_, n, _) => n
  | .inr (_, fs) => fs.length
def xsz (h : XH) : Nat := (h.map xs1).sum
theorem xv_cat (K : XK) (v : Value) : (xv K v).category = v.category := by cases v <;> rfl
theorem xv_cats (K : XK) (st : List Value) : ((st.map (xv K)).map fun v => v.category).sum = (st.map fun v => v.category).sum := by
  rw [List.map_map]
  congr 1
  apply List.map_congr_left
  intro v _
  exact xv_cat K v
theorem xw_get {K : XK} {h : XH} {i : Nat} {e : va_E} (hi : h[i]? = some e) : (xw K h)[i]? = some (K.1 + i, xe K e) := by
  simp [xw, List.getElem?_mapIdx, hi]
theorem xw_get' {K : XK} {h : XH} {i : Nat} {q : Nat × va_E} (hq : (xw K h)[i]? = some q) : q.1 = K.1 + i ∧ ∃ e, h[i]? = some e ∧ q.2 = xe K e := by
  simp only [xw, List.getElem?_mapIdx, Option.map_eq_some_iff] at hq
  obtain ⟨e, h1, h2⟩ := hq
  subst h2
  exact ⟨rfl, e, h1, rfl⟩
theorem xw_set {K : XK} {h : XH} (i : Nat) (e : va_E) : xw K (h.set i e) = (xw K h).set i (K.1 + i, xe K e) := by
  apply List.ext_getElem?
  intro j
  by_cases hj : i = j
  · subst hj
    by_cases hl : i < h.length
    · simp [xw, List.getElem?_mapIdx, List.getElem?_set_self, hl]
    · simp [xw, List.getElem?_mapIdx, List.getElem?_set, hl]
  · simp [xw, List.getElem?_mapIdx, List.getElem?_set_ne hj]
theorem xw_push {K : XK} {h : XH} (e : va_E) : xw K (h ++ [e]) = xw K h ++ [(K.1 + h.length, xe K e)] := by
  simp [xw, List.mapIdx_append]
theorem xw_D {K : XK} {h : XH} : va_D (fun q => K.1 ≤ q) (xw K h) := by
  refine ⟨fun i j p q hi hj e => ?_, fun k q hk => ?_⟩
  · have h1 := (xw_get' hi).1
    have h2 := (xw_get' hj).1
    omega
  · have h1 := (xw_get' hk).1
    show K.1 ≤ q.1
    omega
theorem xsz_set {h : XH} {i : Nat} {e e' : va_E} (hi : h[i]? = some e) (he : xs1 e' = xs1 e) : xsz (h.set i e') = xsz h := by
  unfold xsz
  rw [List.map_set]
  congr 1
  apply List.ext_getElem?
  intro j
  by_cases hj : i = j
  · subst hj
    have hl := (List.getElem?_eq_some_iff.mp hi).1
    rw [List.getElem?_set_self (by rw [List.length_map]; exact hl), List.getElem?_map, hi, he]
    rfl
  · rw [List.getElem?_set_ne hj]
theorem xsz_push {h : XH} (e : va_E) : xsz (h ++ [e]) = xsz h + xs1 e := by simp [xsz]
/-- the concrete heap holds the small one -/
def XR (K : XK) (h : XH) (H : Heap) : Prop := H.size = K.1 + h.length ∧ va_P K.2.1 xcl (xw K h) H
/-- a place of the locals: none where nothing is said -/
def lvX (K : XK) (L : Array Slot) (nL : Nat) (ls : List (Option Value)) : Prop := L.size = nL ∧ lv_wf L ∧ ∀ (i : Nat) (v : Value), ls[i]? = some (some v) → L[i]? = some (.val (xv K v))
/-- storing: what stood there goes, and a long one place ahead -/
def xk (ls : List (Option Value)) : Nat → List (Option Value)
  | 0 => ls
  | j + 1 => match ls[j]? with
    | some (some w) => if w.category = 2 then ls.set j none else ls
    | _ => ls
def xst (ls : List (Option Value)) (i : Nat) (v : Value) : List (Option Value) := (xk ls i).set i (some v)
def xst2 (ls : List (Option Value)) (i : Nat) (v : Value) : List (Option Value) := (xst ls i v).set (i + 1) none
theorem xst_get {ls : List (Option Value)} {i k : Nat} {v w : Value} (h : (xst ls i v)[k]? = some (some w)) : (k = i ∧ w = v) ∨ (k ≠ i ∧ ls[k]? = some (some w) ∧ ¬ (k + 1 = i ∧ w.category = 2)) := by
  unfold xst at h
  by_cases hk : k = i
  · subst hk
    by_cases hl : k < (xk ls k).length
    · rw [List.getElem?_set_self hl] at h
      cases h
      exact Or.inl ⟨rfl, rfl⟩
    · rw [List.getElem?_eq_none (by rw [List.length_set]; omega)] at h
      cases h
  · rw [List.getElem?_set_ne (fun e => hk e.symm)] at h
    refine Or.inr ⟨hk, ?_⟩
    cases i with
    | zero => exact ⟨h, fun q => by omega⟩
    | succ j =>
      simp only [xk] at h
      split at h
      · rename_i w0 hw0
        split at h
        · by_cases hkj : k = j
          · subst hkj
            by_cases hl : k < ls.length
            · rw [List.getElem?_set_self hl] at h
              cases h
            · rw [List.getElem?_eq_none (by rw [List.length_set]; omega)] at h
              cases h
          · rw [List.getElem?_set_ne (fun e => hkj e.symm)] at h
            exact ⟨h, fun q => hkj (by omega)⟩
        · rename_i hc
          refine ⟨h, fun q => ?_⟩
          have : k = j := by omega
          subst this
          rw [hw0] at h
          cases h
          exact hc q.2
      · rename_i hx
        refine ⟨h, fun q => ?_⟩
        have : k = j := by omega
        subst this
        exact hx _ h
theorem lvX_store1 {K : XK} {L : Array Slot} {nL : Nat} {ls : List (Option Value)} {i : Nat} {v : Value} (h : lvX K L nL ls) (hi : i < nL) (hc : v.category = 1) : ∃ L', storeLocals L i (xv K v) = some L' ∧ lvX K L' nL (xst ls i v) := by
  let all : List (Nat × Value) := (List.range nL).filterMap (fun k => match ls[k]? with | some (some w) => some (k, xv K w) | _ => none)
  have hh : lv_has L nL all := by
    refine ⟨h.1, h.2.1, fun q hq => ?_⟩
    obtain ⟨k, -, hk⟩ := List.mem_filterMap.mp hq
    split at hk
    · rename_i w hw
      cases hk
      exact h.2.2 k w hw
    · cases hk
  obtain ⟨L', h1, h2⟩ := lv_store1 (i := i) (v := xv K v) hh hi (by rw [xv_cat]; exact hc)
  refine ⟨L', h1, h2.1, h2.2.1, fun k w hk => ?_⟩
  rcases xst_get hk with ⟨rfl, rfl⟩ | ⟨g1, g2, g3⟩
  · exact h2.2.2 (k, xv K w) List.mem_cons_self
  · refine h2.2.2 (k, xv K w) (List.mem_cons_of_mem _ (List.mem_filter.mpr ⟨?_, ?_⟩))
    · refine List.mem_filterMap.mpr ⟨k, List.mem_range.mpr ?_, by simp [g2]⟩
      have := h.2.2 k w g2
      rw [← h.1]
      exact (Array.getElem?_eq_some_iff.mp this).1
    · rw [xv_cat]
      simp only [Bool.and_eq_true, Bool.not_eq_true', beq_eq_false_iff_ne, ne_eq, Bool.and_eq_false_iff]
      refine ⟨g1, ?_⟩
      by_cases q : k + 1 = i
      · exact Or.inr (fun z => g3 ⟨q, z⟩)
      · exact Or.inl q
theorem lvX_store2 {K : XK} {L : Array Slot} {nL : Nat} {ls : List (Option Value)} {i : Nat} {v : Value} (h : lvX K L nL ls) (hi : i + 1 < nL) (hc : v.category = 2) : ∃ L', storeLocals L i (xv K v) = some L' ∧ lvX K L' nL (xst2 ls i v) := by
  let all : List (Nat × Value) := (List.range nL).filterMap (fun k => match ls[k]? with | some (some w) => some (k, xv K w) | _ => none)
  have hh : lv_has L nL all := by
    refine ⟨h.1, h.2.1, fun q hq => ?_⟩
    obtain ⟨k, -, hk⟩ := List.mem_filterMap.mp hq
    split at hk
    · rename_i w hw
      cases hk
      exact h.2.2 k w hw
    · cases hk
  obtain ⟨L', h1, h2⟩ := lv_store2 (i := i) (v := xv K v) hh hi (by rw [xv_cat]; exact hc)
  refine ⟨L', h1, h2.1, h2.2.1, fun k w hk => ?_⟩
  have hk1 : k ≠ i + 1 ∧ (xst ls i v)[k]? = some (some w) := by
    unfold xst2 at hk
    by_cases q : k = i + 1
    · subst q
      by_cases hl : i + 1 < (xst ls i v).length
      · rw [List.getElem?_set_self hl] at hk
        cases hk
      · rw [List.getElem?_eq_none (by rw [List.length_set]; omega)] at hk
        cases hk
    · rw [List.getElem?_set_ne (fun e => q e.symm)] at hk
      exact ⟨q, hk⟩
  rcases xst_get hk1.2 with ⟨rfl, rfl⟩ | ⟨g1, g2, g3⟩
  · exact h2.2.2 (k, xv K w) List.mem_cons_self
  · refine h2.2.2 (k, xv K w) (List.mem_cons_of_mem _ (List.mem_filter.mpr ⟨?_, ?_⟩))
    · refine List.mem_filterMap.mpr ⟨k, List.mem_range.mpr ?_, by simp [g2]⟩
      have := h.2.2 k w g2
      rw [← h.1]
      exact (Array.getElem?_eq_some_iff.mp this).1
    · rw [xv_cat]
      simp only [Bool.and_eq_true, Bool.not_eq_true', beq_eq_false_iff_ne, ne_eq, Bool.and_eq_false_iff]
      refine ⟨g1, hk1.1, ?_⟩
      by_cases q : k + 1 = i
      · exact Or.inr (fun z => g3 ⟨q, z⟩)
      · exact Or.inl q
theorem lvX_at {K : XK} {L : Array Slot} {nL : Nat} {ls : List (Option Value)} (h : lvX K L nL ls) {i : Nat} {v : Value} (hi : ls[i]? = some (some v)) : L[i]? = some (.val (xv K v)) := h.2.2 i v hi
