/-! ROWS OF ARRAYS OF ARRAYS; OBJECTS THAT ARE MADE. -/
theorem xmid_get {α : Type} {A B : List α} {f : Nat → α} {n i a : Nat} (hA : A.length = a) (hi : i < n) : (A ++ ((List.range n).map f ++ B))[a + i]? = some (f i) := by
  subst hA
  rw [List.getElem?_append_right (Nat.le_add_right _ _), Nat.add_sub_cancel_left, List.getElem?_append_left (by simp [hi]), List.getElem?_map, List.getElem?_range hi]
  rfl
theorem xmap_set {α : Type} {f : Nat → α} {n i : Nat} {c : α} : ((List.range n).map f).set i c = (List.range n).map (fun j => if j = i then c else f j) := by
  apply List.ext_getElem?
  intro j
  by_cases hj : j < n
  · by_cases e : i = j
    · subst e
      rw [List.getElem?_set_self (by simp [hj]), List.getElem?_map, List.getElem?_range hj]
      simp
    · rw [List.getElem?_set_ne e, List.getElem?_map, List.getElem?_map, List.getElem?_range hj]
      simp [Ne.symm e]
  · rw [List.getElem?_eq_none (by simp; omega), List.getElem?_eq_none (by simp; omega)]
theorem xmid_set {α : Type} {A B : List α} {f : Nat → α} {n i a : Nat} {c : α} (hA : A.length = a) (hi : i < n) : (A ++ ((List.range n).map f ++ B)).set (a + i) c = A ++ ((List.range n).map (fun j => if j = i then c else f j) ++ B) := by
  subst hA
  rw [List.set_append_right _ _ (Nat.le_add_right _ _), Nat.add_sub_cancel_left, List.set_append_left _ _ (by simp [hi]), xmap_set]
def ep0 (σ : St) : XH := en0 σ
def eb0 (σ : St) : XH := en2 σ ++ (en3 σ ++ (en4 σ ++ (en5 σ ++ (en6 σ ++ (en7 σ ++ (en8 σ ++ (en9 σ ++ (en10 σ ++ ((List.range (gn σ)).map (fun i => gD σ (185 + i)))))))))))
set_option maxRecDepth 100000 in
theorem ea0 (σ : St) : enc σ = ep0 σ ++ ((List.range 20).map (fun i => (.inl (0, 30, .inl (gB σ 0 i)) : va_E)) ++ eb0 σ) := rfl
theorem er0 (σ : St) {i : Nat} (hi : i < 20) : (enc σ)[7 + i]? = some (.inl (0, 30, .inl (gB σ 0 i))) := by
  rw [ea0 σ]
  exact xmid_get (A := ep0 σ) (f := fun i => (.inl (0, 30, .inl (gB σ 0 i)) : va_E)) rfl hi
set_option maxRecDepth 100000 in
theorem et0 (σ : St) {i : Nat} (hi : i < 20) (f : Nat → Int32) : (enc σ).set (7 + i) (.inl (0, 30, .inl f)) = enc (sB σ 0 i f) := by
  rw [ea0 σ, ea0 (sB σ 0 i f), xmid_set (A := ep0 σ) (a := 7) (f := fun i => (.inl (0, 30, .inl (gB σ 0 i)) : va_E)) rfl hi]
  have e1 : ep0 (sB σ 0 i f) = ep0 σ := rfl
  have e2 : eb0 (sB σ 0 i f) = eb0 σ := rfl
  rw [e1, e2]
  congr 2
  apply List.map_congr_left
  intro j _
  show _ = (.inl (0, 30, .inl (va_up (gB σ 0) i f j)) : va_E)
  unfold va_up
  split <;> rfl
def ep1 (σ : St) : XH := en0 σ ++ (en1 σ ++ (en2 σ))
def eb1 (σ : St) : XH := en4 σ ++ (en5 σ ++ (en6 σ ++ (en7 σ ++ (en8 σ ++ (en9 σ ++ (en10 σ ++ ((List.range (gn σ)).map (fun i => gD σ (185 + i)))))))))
set_option maxRecDepth 100000 in
theorem ea1 (σ : St) : enc σ = ep1 σ ++ ((List.range 20).map (fun i => (.inl (0, 31, .inl (gB σ 1 i)) : va_E)) ++ eb1 σ) := rfl
theorem er1 (σ : St) {i : Nat} (hi : i < 20) : (enc σ)[28 + i]? = some (.inl (0, 31, .inl (gB σ 1 i))) := by
  rw [ea1 σ]
  exact xmid_get (A := ep1 σ) (f := fun i => (.inl (0, 31, .inl (gB σ 1 i)) : va_E)) rfl hi
set_option maxRecDepth 100000 in
theorem et1 (σ : St) {i : Nat} (hi : i < 20) (f : Nat → Int32) : (enc σ).set (28 + i) (.inl (0, 31, .inl f)) = enc (sB σ 1 i f) := by
  rw [ea1 σ, ea1 (sB σ 1 i f), xmid_set (A := ep1 σ) (a := 28) (f := fun i => (.inl (0, 31, .inl (gB σ 1 i)) : va_E)) rfl hi]
  have e1 : ep1 (sB σ 1 i f) = ep1 σ := rfl
  have e2 : eb1 (sB σ 1 i f) = eb1 σ := rfl
  rw [e1, e2]
  congr 2
  apply List.map_congr_left
  intro j _
  show _ = (.inl (0, 31, .inl (va_up (gB σ 1) i f j)) : va_E)
  unfold va_up
  split <;> rfl
def ep2 (σ : St) : XH := en0 σ ++ (en1 σ ++ (en2 σ ++ (en3 σ ++ (en4 σ))))
def eb2 (σ : St) : XH := en6 σ ++ (en7 σ ++ (en8 σ ++ (en9 σ ++ (en10 σ ++ ((List.range (gn σ)).map (fun i => gD σ (185 + i)))))))
set_option maxRecDepth 100000 in
theorem ea2 (σ : St) : enc σ = ep2 σ ++ ((List.range 31).map (fun i => (.inl (0, 31, .inl (gB σ 2 i)) : va_E)) ++ eb2 σ) := rfl
theorem er2 (σ : St) {i : Nat} (hi : i < 31) : (enc σ)[51 + i]? = some (.inl (0, 31, .inl (gB σ 2 i))) := by
  rw [ea2 σ]
  exact xmid_get (A := ep2 σ) (f := fun i => (.inl (0, 31, .inl (gB σ 2 i)) : va_E)) rfl hi
set_option maxRecDepth 100000 in
theorem et2 (σ : St) {i : Nat} (hi : i < 31) (f : Nat → Int32) : (enc σ).set (51 + i) (.inl (0, 31, .inl f)) = enc (sB σ 2 i f) := by
  rw [ea2 σ, ea2 (sB σ 2 i f), xmid_set (A := ep2 σ) (a := 51) (f := fun i => (.inl (0, 31, .inl (gB σ 2 i)) : va_E)) rfl hi]
  have e1 : ep2 (sB σ 2 i f) = ep2 σ := rfl
  have e2 : eb2 (sB σ 2 i f) = eb2 σ := rfl
  rw [e1, e2]
  congr 2
  apply List.map_congr_left
  intro j _
  show _ = (.inl (0, 31, .inl (va_up (gB σ 2) i f j)) : va_E)
  unfold va_up
  split <;> rfl
def ep3 (σ : St) : XH := en0 σ ++ (en1 σ ++ (en2 σ ++ (en3 σ ++ (en4 σ ++ (en5 σ ++ (en6 σ))))))
def eb3 (σ : St) : XH := en8 σ ++ (en9 σ ++ (en10 σ ++ ((List.range (gn σ)).map (fun i => gD σ (185 + i)))))
set_option maxRecDepth 100000 in
theorem ea3 (σ : St) : enc σ = ep3 σ ++ ((List.range 21).map (fun i => (.inl (0, 121, .inl (gB σ 3 i)) : va_E)) ++ eb3 σ) := rfl
theorem er3 (σ : St) {i : Nat} (hi : i < 21) : (enc σ)[84 + i]? = some (.inl (0, 121, .inl (gB σ 3 i))) := by
  rw [ea3 σ]
  exact xmid_get (A := ep3 σ) (f := fun i => (.inl (0, 121, .inl (gB σ 3 i)) : va_E)) rfl hi
set_option maxRecDepth 100000 in
theorem et3 (σ : St) {i : Nat} (hi : i < 21) (f : Nat → Int32) : (enc σ).set (84 + i) (.inl (0, 121, .inl f)) = enc (sB σ 3 i f) := by
  rw [ea3 σ, ea3 (sB σ 3 i f), xmid_set (A := ep3 σ) (a := 84) (f := fun i => (.inl (0, 121, .inl (gB σ 3 i)) : va_E)) rfl hi]
  have e1 : ep3 (sB σ 3 i f) = ep3 σ := rfl
  have e2 : eb3 (sB σ 3 i f) = eb3 σ := rfl
  rw [e1, e2]
  congr 2
  apply List.map_congr_left
  intro j _
  show _ = (.inl (0, 121, .inl (va_up (gB σ 3) i f j)) : va_E)
  unfold va_up
  split <;> rfl
def ep4 (σ : St) : XH := en0 σ ++ (en1 σ ++ (en2 σ ++ (en3 σ ++ (en4 σ ++ (en5 σ ++ (en6 σ ++ (en7 σ ++ (en8 σ))))))))
def eb4 (σ : St) : XH := en10 σ ++ ((List.range (gn σ)).map (fun i => gD σ (185 + i)))
set_option maxRecDepth 100000 in
theorem ea4 (σ : St) : enc σ = ep4 σ ++ ((List.range 20).map (fun i => (.inl (0, 4, .inl (gB σ 4 i)) : va_E)) ++ eb4 σ) := rfl
theorem er4 (σ : St) {i : Nat} (hi : i < 20) : (enc σ)[108 + i]? = some (.inl (0, 4, .inl (gB σ 4 i))) := by
  rw [ea4 σ]
  exact xmid_get (A := ep4 σ) (f := fun i => (.inl (0, 4, .inl (gB σ 4 i)) : va_E)) rfl hi
set_option maxRecDepth 100000 in
theorem et4 (σ : St) {i : Nat} (hi : i < 20) (f : Nat → Int32) : (enc σ).set (108 + i) (.inl (0, 4, .inl f)) = enc (sB σ 4 i f) := by
  rw [ea4 σ, ea4 (sB σ 4 i f), xmid_set (A := ep4 σ) (a := 108) (f := fun i => (.inl (0, 4, .inl (gB σ 4 i)) : va_E)) rfl hi]
  have e1 : ep4 (sB σ 4 i f) = ep4 σ := rfl
  have e2 : eb4 (sB σ 4 i f) = eb4 σ := rfl
  rw [e1, e2]
  congr 2
  apply List.map_congr_left
  intro j _
  show _ = (.inl (0, 4, .inl (va_up (gB σ 4) i f j)) : va_E)
  unfold va_up
  split <;> rfl
