/-! lemmas for operations -/
theorem vp_4 {x : Int32} (h1 : 0 ≤ x) (h2 : x < 4) : vp_in x 4 := vp_in_iff.mpr ⟨by have := Int32.le_iff_toInt_le.mp h1; simpa using this, by have := Int32.lt_iff_toInt_lt.mp h2; simpa using this⟩
theorem sw3 {x a b c : Int32} {A B C D : Prop} (h0 : x = a → A) (h1 : x = b → B) (h2 : x = c → C) (h3 : ¬ x = a → ¬ x = b → ¬ x = c → D) : (x = a → A) ∧ (x = b → B) ∧ (x = c → C) ∧ (¬ x = a → ¬ x = b → ¬ x = c → D) := ⟨h0, h1, h2, h3⟩
theorem sw4 {x a b c d : Int32} {A B C D E : Prop} (h0 : x = a → A) (h1 : x = b → B) (h2 : x = c → C) (h3 : x = d → D) (h4 : ¬ x = a → ¬ x = b → ¬ x = c → ¬ x = d → E) : (x = a → A) ∧ (x = b → B) ∧ (x = c → C) ∧ (x = d → D) ∧ (¬ x = a → ¬ x = b → ¬ x = c → ¬ x = d → E) := ⟨h0, h1, h2, h3, h4⟩
theorem N_lt {x y : Int32} (h : 0 ≤ x) (h2 : x < y) : x.toNatClampNeg < y.toNatClampNeg := by
  have h1 := ti_nonneg h
  have h3 := Int32.lt_iff_toInt_lt.mp h2
  rw [ti_N, ti_N]
  omega
theorem N_ltn {x : Int32} {n : Nat} (h : vp_in x n) : x.toNatClampNeg < n := vp_lt h
theorem N_0 : (0 : Int32).toNatClampNeg = 0 := rfl
theorem N_1 : (1 : Int32).toNatClampNeg = 1 := rfl
theorem N_2 : (2 : Int32).toNatClampNeg = 2 := rfl
theorem N_3 : (3 : Int32).toNatClampNeg = 3 := rfl
theorem ix_ab (a : Nat) {x y : Int32} {n m : Nat} (hx : vp_in x n) (hy : vp_in y m) (hb : a * n + m < 2 ^ 31) : (nI a * x + y).toNatClampNeg = a * x.toNatClampNeg + y.toNatClampNeg := by
  obtain ⟨h1, h2⟩ := vp_in_iff.mp hx
  obtain ⟨h3, h4⟩ := vp_in_iff.mp hy
  obtain ⟨i, hi, rfl, hi2⟩ := nI_ex h1 h2
  obtain ⟨j, hj, rfl, hj2⟩ := nI_ex h3 h4
  have : a * i ≤ a * n := Nat.mul_le_mul_left a (by omega)
  rw [hi2, hj2, nI_mul, nI_add, nI_clamp (by omega)]
theorem ix_abv (a : Nat) {x y : Int32} {n m N : Nat} (hx : vp_in x n) (hy : vp_in y m) (hb : a * (n - 1) + m ≤ N) (hN : N < 2 ^ 31) : vp_in (nI a * x + y) N := by
  obtain ⟨h1, h2⟩ := vp_in_iff.mp hx
  obtain ⟨h3, h4⟩ := vp_in_iff.mp hy
  obtain ⟨i, hi, rfl, hi2⟩ := nI_ex h1 h2
  obtain ⟨j, hj, rfl, hj2⟩ := nI_ex h3 h4
  have : a * i ≤ a * (n - 1) := Nat.mul_le_mul_left a (by omega)
  rw [nI_mul, nI_add]
  exact vp_in_nI (by omega) hN
section
variable {x4 x5 x6 x7 x8 y1 y2 y3 y4 y5 : Int32} {A1 A2 A3 C1 C2 C3 : Nat → Int32} {B0 B1 : Nat → Nat → Int32}
theorem M1.para (h : M1 x4 x5 x6 x7 x8 y1 y2 y3 y4 y5 A1 A2 A3 C1 C2 C3 B0 B1) {p : Nat} {v w : Int32} (hv : -1 ≤ v ∧ v ≤ 100000) (hw : x4 + 1 = w ∧ 0 ≤ w ∧ w ≤ 20) : M1 w x5 x6 x7 x8 (y1 + 1) y2 y3 y4 y5 (upd A1 p v) (upd A2 p 0) (upd A3 p 0) (upd C1 p v) (upd C2 p 0) C3 B0 B1 := by
  obtain ⟨h1, h2, h3, h4, h5, ⟨h6, h6b⟩, ⟨h7, h7b⟩, h8, h9, h10⟩ := h
  refine ⟨⟨by rw [← hw.1, h1.1], hw.2⟩, h2, h3, h4, h5, ⟨by rw [h6], fun q hq => ?_⟩, ⟨by rw [h7], fun q hq => ?_⟩, h8, fun q k hq hk => ?_, fun q hq hne => ?_⟩
  · unfold upd
    split
    · exact hv
    · exact h6b q hq
  · unfold upd
    split
    · decide
    · exact h7b q hq
  · unfold upd at hk
    by_cases e : q = p
    · rw [if_pos e] at hk
      exact absurd hk (Nat.not_lt_zero _)
    · rw [if_neg e] at hk
      exact h9 q k hq hk
  · unfold upd at hne ⊢
    by_cases e : q = p
    · rw [if_pos e] at hne
      exact absurd rfl hne
    · rw [if_neg e] at hne
      rw [if_neg e]
      exact h10 q hq hne
theorem M1.word (h : M1 x4 x5 x6 x7 x8 y1 y2 y3 y4 y5 A1 A2 A3 C1 C2 C3 B0 B1) {p k : Nat} {v w : Int32} (hp : p < 20) (hk : (A2 p).toNatClampNeg = k) (hk2 : k < 30) (hv : 1 ≤ v ∧ v ≤ 20) (hw : w.toNatClampNeg = k + 1 ∧ 0 ≤ w ∧ w ≤ 30) : M1 x4 x5 x6 x7 x8 y1 y2 y3 y4 y5 A1 (upd A2 p w) (upd A3 p 0) C1 (upd C2 p w) (upd C3 (30 * p + k) v) (va_up B0 p (upd (B0 p) k v)) B1 := by
  obtain ⟨h1, h2, h3, h4, h5, h6, ⟨h7, h7b⟩, h8, h9, h10⟩ := h
  refine ⟨h1, h2, h3, h4, h5, h6, ⟨by rw [h7], fun q hq => ?_⟩, fun q j hq hj => ?_, fun q j hq hj => ?_, fun q hq hne => ?_⟩
  · unfold upd
    split
    · exact hw.2
    · exact h7b q hq
  · by_cases e : q = p
    · subst e
      show upd C3 _ v _ = va_up B0 q _ q j
      unfold va_up
      rw [if_pos rfl]
      unfold upd
      by_cases e2 : j = k
      · rw [if_pos (by omega), if_pos e2]
      · rw [if_neg (by omega), if_neg e2]
        exact h8 q j hq hj
    · unfold va_up upd
      rw [if_neg e, if_neg (by omega)]
      exact h8 q j hq hj
  · by_cases e : q = p
    · subst e
      unfold upd at hj
      rw [if_pos rfl, hw.1] at hj
      show 1 ≤ va_up B0 q _ q j ∧ va_up B0 q _ q j ≤ 20
      unfold va_up
      rw [if_pos rfl]
      unfold upd
      by_cases e2 : j = k
      · rw [if_pos e2]
        exact hv
      · rw [if_neg e2]
        exact h9 q j hq (by omega)
    · unfold upd at hj
      rw [if_neg e] at hj
      unfold va_up
      rw [if_neg e]
      exact h9 q j hq hj
  · unfold upd at hne ⊢
    unfold va_up
    by_cases e : q = p
    · rw [if_pos e] at hne
      exact absurd rfl hne
    · rw [if_neg e] at hne
      rw [if_neg e, if_neg e]
      exact h10 q hq hne
end
