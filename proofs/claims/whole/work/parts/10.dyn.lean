/-- the numbers of the objects that are made -/
def isd (σ : St) (q : Nat) : Prop := q = 138 ∨ q = 141 ∨ q = 142 ∨ q = 143 ∨ (185 ≤ q ∧ q < 185 + gn σ)
def ef (σ : St) : XH := en0 σ ++ (en1 σ ++ (en2 σ ++ (en3 σ ++ (en4 σ ++ (en5 σ ++ (en6 σ ++ (en7 σ ++ (en8 σ ++ (en9 σ ++ (en10 σ))))))))))
set_option maxRecDepth 100000 in
theorem ef_enc (σ : St) : enc σ = ef σ ++ ((List.range (gn σ)).map (fun i => gD σ (185 + i)) ++ []) := by
  rw [List.append_nil]
  rfl
set_option maxRecDepth 100000 in
theorem ef_len (σ : St) : (ef σ).length = 185 := rfl
theorem ed (σ : St) {q : Nat} (hq : isd σ q) : (enc σ)[q]? = some (gD σ q) := by
  unfold isd at hq
  rcases hq with rfl | rfl | rfl | rfl | ⟨h1, h2⟩
  · exact eg_138 σ
  · exact eg_141 σ
  · exact eg_142 σ
  · exact eg_143 σ
  · obtain ⟨i, rfl⟩ : ∃ i, q = 185 + i := ⟨q - 185, by omega⟩
    rw [ef_enc σ]
    exact xmid_get (f := fun i => gD σ (185 + i)) (ef_len σ) (by omega)
set_option maxRecDepth 100000 in
theorem et_138 (σ : St) (c : va_E) : (ef σ).set 138 c = ef (sD σ 138 c) := rfl
set_option maxRecDepth 100000 in
theorem et_141 (σ : St) (c : va_E) : (ef σ).set 141 c = ef (sD σ 141 c) := rfl
set_option maxRecDepth 100000 in
theorem et_142 (σ : St) (c : va_E) : (ef σ).set 142 c = ef (sD σ 142 c) := rfl
set_option maxRecDepth 100000 in
theorem et_143 (σ : St) (c : va_E) : (ef σ).set 143 c = ef (sD σ 143 c) := rfl
set_option maxRecDepth 100000 in
theorem ef_sD (σ : St) {q : Nat} (c : va_E) (h : 185 ≤ q) : ef (sD σ q c) = ef σ := by
  have e : ∀ d, d < 185 → gD (sD σ q c) d = gD σ d := fun d hd => by
    show va_up (gD σ) q c d = gD σ d
    unfold va_up
    rw [if_neg (by omega)]
  have h10 : en10 (sD σ q c) = en10 σ := by
    unfold en10
    rw [e 138 (by omega), e 141 (by omega), e 142 (by omega), e 143 (by omega)]
    rfl
  have h0 : en0 (sD σ q c) = en0 σ := rfl
  have h1 : en1 (sD σ q c) = en1 σ := rfl
  have h2 : en2 (sD σ q c) = en2 σ := rfl
  have h3 : en3 (sD σ q c) = en3 σ := rfl
  have h4 : en4 (sD σ q c) = en4 σ := rfl
  have h5 : en5 (sD σ q c) = en5 σ := rfl
  have h6 : en6 (sD σ q c) = en6 σ := rfl
  have h7 : en7 (sD σ q c) = en7 σ := rfl
  have h8 : en8 (sD σ q c) = en8 σ := rfl
  have h9 : en9 (sD σ q c) = en9 σ := rfl
  unfold ef
  rw [h0, h1, h2, h3, h4, h5, h6, h7, h8, h9, h10]
set_option maxRecDepth 100000 in
theorem esd (σ : St) {q : Nat} (hq : isd σ q) (c : va_E) : (enc σ).set q c = enc (sD σ q c) := by
  unfold isd at hq
  have key : ∀ d, d < 185 → (ef σ).set d c = ef (sD σ d c) → (enc σ).set d c = enc (sD σ d c) := fun d hd h => by
    rw [ef_enc σ, ef_enc (sD σ d c), List.set_append_left _ _ (by rw [ef_len]; exact hd), h]
    congr 2
    show _ = (List.range (gn σ)).map _
    apply List.map_congr_left
    intro j _
    show _ = va_up (gD σ) d c (185 + j)
    unfold va_up
    rw [if_neg (by omega)]
  rcases hq with rfl | rfl | rfl | rfl | ⟨h1, h2⟩
  · exact key 138 (by omega) (et_138 σ c)
  · exact key 141 (by omega) (et_141 σ c)
  · exact key 142 (by omega) (et_142 σ c)
  · exact key 143 (by omega) (et_143 σ c)
  · obtain ⟨i, rfl⟩ : ∃ i, q = 185 + i := ⟨q - 185, by omega⟩
    rw [ef_enc σ, ef_enc (sD σ (185 + i) c), xmid_set (f := fun i => gD σ (185 + i)) (ef_len σ) (by omega), ef_sD σ c (by omega)]
    congr 2
    show _ = (List.range (gn σ)).map _
    apply List.map_congr_left
    intro j _
    show _ = va_up (gD σ) (185 + i) c (185 + j)
    unfold va_up
    by_cases e : j = i
    · subst e; simp
    · rw [if_neg e, if_neg (by omega)]
set_option maxRecDepth 100000 in
theorem ef_same (σ τ : St) (h : (σ.1.1, σ.1.2.1, σ.1.2.2.1, σ.1.2.2.2.1, σ.1.2.2.2.2.1, σ.1.2.2.2.2.2.1, σ.1.2.2.2.2.2.2.1, σ.1.2.2.2.2.2.2.2.1, σ.1.2.2.2.2.2.2.2.2.1, σ.1.2.2.2.2.2.2.2.2.2.1, σ.2) = (τ.1.1, τ.1.2.1, τ.1.2.2.1, τ.1.2.2.2.1, τ.1.2.2.2.2.1, τ.1.2.2.2.2.2.1, τ.1.2.2.2.2.2.2.1, τ.1.2.2.2.2.2.2.2.1, τ.1.2.2.2.2.2.2.2.2.1, τ.1.2.2.2.2.2.2.2.2.2.1, τ.2)) : ef σ = ef τ := by
  obtain ⟨⟨a1, a2, a3, a4, a5, a6, a7, a8, a9, a10, a11⟩, b1⟩ := σ
  obtain ⟨⟨c1, c2, c3, c4, c5, c6, c7, c8, c9, c10, c11⟩, d1⟩ := τ
  simp only [Prod.mk.injEq] at h
  obtain ⟨rfl, rfl, rfl, rfl, rfl, rfl, rfl, rfl, rfl, rfl, rfl⟩ := h
  rfl
set_option maxRecDepth 100000 in
theorem esm (σ : St) (c : va_E) : enc σ ++ [c] = enc (sM σ c) := by
  have e1 : ef (sM σ c) = ef σ := by
    have h : ef (sM σ c) = ef (sD σ (185 + gn σ) c) := ef_same _ _ rfl
    rw [h, ef_sD σ c (by omega)]
  rw [ef_enc σ, ef_enc (sM σ c), e1, List.append_nil, List.append_nil, List.append_assoc]
  congr 1
  show _ = (List.range (gn σ + 1)).map _
  rw [List.range_succ, List.map_append]
  congr 1
  · apply List.map_congr_left
    intro j hj
    have := List.mem_range.mp hj
    show _ = va_up (gD σ) (185 + gn σ) c (185 + j)
    unfold va_up
    rw [if_neg (by omega)]
  · show _ = [va_up (gD σ) (185 + gn σ) c (185 + gn σ)]
    unfold va_up
    rw [if_pos rfl]
theorem enc_len (σ : St) : (enc σ).length = 185 + gn σ := by
  rw [ef_enc σ, List.length_append, ef_len, List.append_nil, List.length_map, List.length_range]
