/-! LEAST COSTS: facts of numbers. -/
theorem FAR_i : FAR.toInt = 1000000000 := rfl
theorem nI_sub {a b : Nat} (h : b ≤ a) : nI a - nI b = nI (a - b) := by
  obtain ⟨k, rfl⟩ : ∃ k, a = b + k := ⟨a - b, by omega⟩
  rw [show b + k - b = k by omega, ← nI_add]
  first
    | (rw [Int32.add_comm, Int32.add_sub_cancel]; done)
    | grind
def okL (L : Nat → Int32) (m : Nat) : Prop := m ≤ 30 ∧ ∀ k, k < m → 1 ≤ (L k).toInt ∧ (L k).toInt ≤ 20
theorem ln_b {L : Nat → Int32} {m f : Nat} (h : okL L m) : ∀ k, f + k ≤ m → (ln L f k).toInt ≤ 21 * k - 1 ∧ 2 * k - 1 ≤ (ln L f k).toInt := by
  intro k
  induction k with
  | zero => intro _; exact ⟨(by decide : (-1 : Int32).toInt ≤ 21 * ((0 : Nat) : Int) - 1), (by decide : 2 * ((0 : Nat) : Int) - 1 ≤ (-1 : Int32).toInt)⟩
  | succ k ih =>
    intro hk
    have i := ih (by omega)
    have b := h.2 (f + k) (by omega)
    have hm := h.1
    have z1 : (1 : Int32).toInt = 1 := rfl
    have t1 := ti_add (x := 1) (y := L (f + k)) (by omega) (by omega)
    have t2 := ti_add (x := ln L f k) (y := 1 + L (f + k)) (by omega) (by omega)
    show (ln L f k + (1 + L (f + k))).toInt ≤ _ ∧ _ ≤ (ln L f k + (1 + L (f + k))).toInt
    omega
theorem ln_mono {L : Nat → Int32} {m f : Nat} (h : okL L m) : ∀ d k, f + k + d ≤ m → (ln L f k).toInt ≤ (ln L f (k + d)).toInt := by
  intro d
  induction d with
  | zero => intro k _; exact Int.le_refl _
  | succ d ih =>
    intro k hk
    have i := ih k (by omega)
    have b := h.2 (f + (k + d)) (by omega)
    have hm := h.1
    have l := ln_b h (k + d) (f := f) (by omega)
    have z1 : (1 : Int32).toInt = 1 := rfl
    have t1 := ti_add (x := 1) (y := L (f + (k + d))) (by omega) (by omega)
    have t2 := ti_add (x := ln L f (k + d)) (y := 1 + L (f + (k + d))) (by omega) (by omega)
    show _ ≤ (ln L f (k + d) + (1 + L (f + (k + d)))).toInt
    omega
/-- the square that a line lacks -/
theorem sq_b {W x : Int32} (h : 10 ≤ W.toInt ∧ W.toInt ≤ 60) (h1 : 0 ≤ x.toInt) (h2 : x.toInt ≤ W.toInt) : ((W - x) * (W - x)).toInt = (W.toInt - x.toInt) * (W.toInt - x.toInt) ∧ 0 ≤ ((W - x) * (W - x)).toInt ∧ ((W - x) * (W - x)).toInt ≤ 3600 := by
  have t := ti_sub (x := W) (y := x) (by omega) (by omega)
  have m := mulb (a := W.toInt - x.toInt) (b := W.toInt - x.toInt) (A := 60) (B := 60) (by omega) (by omega) (by omega) (by omega)
  have t2 := ti_mul (x := W - x) (y := W - x) (by rw [t]; omega) (by rw [t]; omega)
  rw [t] at t2
  exact ⟨t2, by omega, by omega⟩
theorem lm_le (g : Nat → Int32) (f : Nat) : ∀ k, (lm g f k).toInt ≤ 1000000000 := by
  intro k
  induction k with
  | zero => exact Int.le_refl _
  | succ k ih =>
    show (if g (f + k + 1) < lm g f k then g (f + k + 1) else lm g f k).toInt ≤ _
    by_cases y : g (f + k + 1) < lm g f k
    · rw [if_pos y]
      have := Int32.lt_iff_toInt_lt.mp y
      omega
    · rw [if_neg y]
      exact ih
theorem lm_pos {g : Nat → Int32} {f : Nat} : ∀ k, (∀ j, j < k → 0 ≤ (g (f + j + 1)).toInt) → 0 ≤ (lm g f k).toInt := by
  intro k
  induction k with
  | zero => intro _; exact (by decide : (0 : Int) ≤ FAR.toInt)
  | succ k ih =>
    intro h
    show 0 ≤ (if g (f + k + 1) < lm g f k then g (f + k + 1) else lm g f k).toInt
    split
    · exact h k (by omega)
    · exact ih (fun j hj => h j (by omega))
theorem lm_stop {g : Nat → Int32} {f : Nat} : ∀ d k, (∀ j, k ≤ j → j < k + d → g (f + j + 1) = FAR) → lm g f (k + d) = lm g f k := by
  intro d
  induction d with
  | zero => intro k _; rfl
  | succ d ih =>
    intro k h
    have i := ih k (fun j h1 h2 => h j h1 (by omega))
    show (if g (f + (k + d) + 1) < lm g f (k + d) then g (f + (k + d) + 1) else lm g f (k + d)) = _
    rw [h (k + d) (by omega) (by omega), i, if_neg]
    intro z
    have := Int32.lt_iff_toInt_lt.mp z
    have := lm_le g f k
    rw [FAR_i] at *
    omega
section
variable {L : Nat → Int32} {m : Nat} {W : Int32}
theorem lc_le : ∀ n f, (lc L m W n f).toInt ≤ 1000000000 := by
  intro n f
  rcases n with _ | n
  · show (if f = m then (0 : Int32) else FAR).toInt ≤ _
    split
    · decide
    · decide
  · exact lm_le _ _ _
theorem lc_pos (h : okL L m) (hW : 10 ≤ W.toInt ∧ W.toInt ≤ 60) : ∀ n f, f ≤ m → 0 ≤ (lc L m W n f).toInt := by
  intro n
  induction n with
  | zero =>
    intro f _
    show 0 ≤ (if f = m then (0 : Int32) else FAR).toInt
    split
    · decide
    · decide
  | succ n ih =>
    intro f hf
    refine lm_pos (m - f) (fun j hj => ?_)
    unfold cand
    split
    · decide
    · rename_i c1
      split
      · decide
      · rename_i c2
        have r := ih (f + j + 1) (by omega)
        have r2 := Int32.lt_iff_toInt_lt.mp (Int32.not_le.mp c2)
        rw [FAR_i] at r2
        have e : f + j + 1 - f = j + 1 := by omega
        rw [e] at c1 ⊢
        have b := ln_b h (f := f) (j + 1) (by omega)
        have s := sq_b hW (x := ln L f (j + 1)) (by omega) (Int32.le_iff_toInt_le.mp (Int32.not_lt.mp c1))
        split
        · rw [Int32.zero_add]
          exact r
        · rw [ti_add (by omega) (by omega)]
          omega
/-- no words are left, but lines; or fewer words than lines -/
theorem lc_far : ∀ n f, f ≤ m → m < f + n → lc L m W n f = FAR := by
  intro n
  induction n with
  | zero => intro f h1 h2; omega
  | succ n ih =>
    intro f h1 h2
    show lm (cand L m W (lc L m W n) f) f (m - f) = FAR
    have e := lm_stop (g := cand L m W (lc L m W n) f) (f := f) (m - f) 0 (fun j h3 h4 => by
      unfold cand
      by_cases y : W < ln L f (f + j + 1 - f)
      · rw [if_pos y]
      · rw [if_neg y, ih (f + j + 1) (by omega) (by omega), if_pos (Int32.le_refl _)])
    rw [Nat.zero_add] at e
    rw [e]
    rfl
end
/-! states whose rows are replaced at once -/
def sBB (σ : St) (k : Nat) (G : Nat → Nat → Int32) : St := ((σ.1.1, σ.1.2.1, va_up σ.1.2.2.1 k G, σ.1.2.2.2), σ.2)
theorem va_upg {α : Type} (f : Nat → α) (k : Nat) (v : α) : va_up f k v k = v := by unfold va_up; rw [if_pos rfl]
theorem va_upn {α : Type} (f : Nat → α) {k j : Nat} (v : α) (h : j ≠ k) : va_up f k v j = f j := by unfold va_up; rw [if_neg h]
theorem va_ups {α : Type} (f : Nat → α) (k : Nat) : va_up f k (f k) = f := by
  funext j
  unfold va_up
  by_cases h : j = k
  · rw [if_pos h, h]
  · rw [if_neg h]
theorem sB_sBB (σ : St) (k i : Nat) (G : Nat → Nat → Int32) (f : Nat → Int32) : sB (sBB σ k G) k i f = sBB σ k (va_up G i f) := by
  show ((σ.1.1, σ.1.2.1, va_up (va_up σ.1.2.2.1 k G) k (va_up (va_up σ.1.2.2.1 k G k) i f), σ.1.2.2.2), σ.2) = _
  rw [va_up2, va_upg]
  rfl
theorem gB_sBB (σ : St) (k : Nat) (G : Nat → Nat → Int32) : gB (sBB σ k G) k = G := va_upg _ _ _
theorem sBB_self (σ : St) (k : Nat) : sBB σ k (gB σ k) = σ := by
  show ((σ.1.1, σ.1.2.1, va_up σ.1.2.2.1 k (σ.1.2.2.1 k), σ.1.2.2.2), σ.2) = σ
  rw [va_ups]
def brs (σ : St) (p : Nat) (c W : Int32) (G : Nat → Nat → Int32) : St := sBB (sX (sX (sN σ (some p)) 9 c) 10 W) 2 G
section
variable (σ : St) (p : Nat) (c W : Int32) (G : Nat → Nat → Int32)
theorem brs_9 : gX (brs σ p c W G) 9 = c := rfl
theorem brs_10 : gX (brs σ p c W G) 10 = W := rfl
theorem brs_N : gN (brs σ p c W G) = some p := rfl
theorem brs_0 : gB (brs σ p c W G) 0 = gB σ 0 := rfl
theorem brs_2 : gB (brs σ p c W G) 2 = G := gB_sBB _ _ _
theorem brs_s (i : Nat) (f : Nat → Int32) : sB (brs σ p c W G) 2 i f = brs σ p c W (va_up G i f) := sB_sBB _ _ _ _ _
end
