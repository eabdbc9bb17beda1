/-! FILLING: the tables as numbers. -/
abbrev FPar := (Nat → Nat → Nat) × (Nat → Nat) × (Nat → Nat) × Nat × Nat × Nat × Nat × Nat
def pO (ψ : FPar) : Nat → Nat → Nat := ψ.1
def pK (ψ : FPar) : Nat → Nat := ψ.2.1
def pM (ψ : FPar) : Nat → Nat := ψ.2.2.1
def pG (ψ : FPar) : Nat := ψ.2.2.2.1
def pL (ψ : FPar) : Nat := ψ.2.2.2.2.1
def pW (ψ : FPar) : Nat := ψ.2.2.2.2.2.1
def pN (ψ : FPar) : Nat := ψ.2.2.2.2.2.2.1
def pC (ψ : FPar) : Nat := ψ.2.2.2.2.2.2.2
def BN (M x : Nat) : Prop := x ≤ M ∨ x = 1000000000
def OKP (ψ : FPar) : Prop := (∀ p n, BN 108000 (pO ψ p n)) ∧ (∀ p, BN 100000 (pK ψ p)) ∧ (∀ p, pM ψ p ≤ 30) ∧ (5 ≤ pG ψ ∧ pG ψ ≤ 40) ∧ pL ψ ≤ 100000 ∧ pW ψ ≤ 100000 ∧ (1 ≤ pN ψ ∧ pN ψ ≤ 120) ∧ pC ψ ≤ 20
def wdw (ψ : FPar) (b n : Nat) : Nat := if n < 2 then 0 else (if b % pG ψ = pG ψ - 1 then pW ψ else 0) + (if (b + n - 1) % pG ψ = 0 then pW ψ else 0)
/-- paragraph p behind l leads, n lines from b on, the others as mo says -/
def stP (ψ : FPar) (mo : Nat → Nat) (p l b n : Nat) : Nat := if b + n ≤ pN ψ ∧ pO ψ p n < 1000000000 ∧ mo (b + n) < 1000000000 then pO ψ p n + l * pL ψ + wdw ψ b n + mo (b + n) else 1000000000
def mnv (v : Nat) (g : Nat → Nat) : Nat → Nat
  | 0 => v
  | k + 1 => if g k < mnv v g k then g k else mnv v g k
def plN (a b : Nat) : Nat := if a < 1000000000 ∧ b < 1000000000 then a + b else 1000000000
def UCn (ψ : FPar) (mo : Nat → Nat) (p b : Nat) : Nat := mnv 1000000000 (stP ψ mo p 0 b) (min (pM ψ p) (pN ψ - b) + 1)
def ldv (ψ : FPar) (mo : Nat → Nat) (p line l v : Nat) : Nat := if line + l ≤ pN ψ then (if plN (l * pL ψ) (UCn ψ mo p (line + l)) < v then plN (l * pL ψ) (UCn ψ mo p (line + l)) else v) else v
def TT (ψ : FPar) : Nat → Nat → Nat → Nat
  | 0, line, _ => if line = pN ψ then 0 else 1000000000
  | d + 1, line, s =>
    if s = 0 then ldv ψ (fun x => TT ψ d x 1) (pC ψ - (d + 1)) line 0 (plN (pK ψ (pC ψ - (d + 1))) (TT ψ d line s))
    else ldv ψ (fun x => TT ψ d x 1) (pC ψ - (d + 1)) line 2 (ldv ψ (fun x => TT ψ d x 1) (pC ψ - (d + 1)) line 1 (ldv ψ (fun x => TT ψ d x 1) (pC ψ - (d + 1)) line 0 (plN (pK ψ (pC ψ - (d + 1))) (TT ψ d line s))))
theorem TT_s (ψ : FPar) (d line s : Nat) : TT ψ (d + 1) line s = if s = 0 then ldv ψ (fun x => TT ψ d x 1) (pC ψ - (d + 1)) line 0 (plN (pK ψ (pC ψ - (d + 1))) (TT ψ d line s))
    else ldv ψ (fun x => TT ψ d x 1) (pC ψ - (d + 1)) line 2 (ldv ψ (fun x => TT ψ d x 1) (pC ψ - (d + 1)) line 1 (ldv ψ (fun x => TT ψ d x 1) (pC ψ - (d + 1)) line 0 (plN (pK ψ (pC ψ - (d + 1))) (TT ψ d line s)))) := rfl
theorem mnv_v (v : Nat) (g : Nat → Nat) : ∀ k, mnv v g k ≤ v := by
  intro k
  induction k with
  | zero => exact Nat.le_refl _
  | succ k ih =>
    show (if g k < mnv v g k then g k else mnv v g k) ≤ v
    split <;> omega
theorem mnv_le {v : Nat} {g : Nat → Nat} {i : Nat} : ∀ k, i < k → mnv v g k ≤ g i := by
  intro k
  induction k with
  | zero => intro h; omega
  | succ k ih =>
    intro h
    show (if g k < mnv v g k then g k else mnv v g k) ≤ g i
    by_cases e : i = k
    · rw [e]; split <;> omega
    · have := ih (by omega)
      split <;> omega
theorem mnv_ex {v : Nat} {g : Nat → Nat} : ∀ k, mnv v g k = v ∨ ∃ i, i < k ∧ g i = mnv v g k := by
  intro k
  induction k with
  | zero => exact Or.inl rfl
  | succ k ih =>
    show (if g k < mnv v g k then g k else mnv v g k) = v ∨ ∃ i, i < k + 1 ∧ g i = (if g k < mnv v g k then g k else mnv v g k)
    by_cases e : g k < mnv v g k
    · rw [if_pos e]
      exact Or.inr ⟨k, by omega, rfl⟩
    · rw [if_neg e]
      rcases ih with h | ⟨i, h1, h2⟩
      · exact Or.inl h
      · exact Or.inr ⟨i, by omega, h2⟩
theorem mnv_min {v : Nat} {g : Nat → Nat} (hv : v ≤ 1000000000) : ∀ k, mnv v g k = if mnv 1000000000 g k < v then mnv 1000000000 g k else v := by
  intro k
  induction k with
  | zero =>
    show v = if 1000000000 < v then 1000000000 else v
    rw [if_neg (by omega)]
  | succ k ih =>
    show (if g k < mnv v g k then g k else mnv v g k) = if (if g k < mnv 1000000000 g k then g k else mnv 1000000000 g k) < v then (if g k < mnv 1000000000 g k then g k else mnv 1000000000 g k) else v
    rw [ih]
    generalize mnv 1000000000 g k = Y
    by_cases c1 : Y < v
    · rw [if_pos c1]
      by_cases c2 : g k < Y
      · rw [if_pos c2, if_pos (by omega)]
      · rw [if_neg c2, if_pos c1]
    · rw [if_neg c1]
      by_cases c2 : g k < Y
      · rw [if_pos c2]
      · rw [if_neg c2, if_neg c1, if_neg (by omega)]
theorem mnv_cong {v : Nat} {g h : Nat → Nat} : ∀ k, (∀ n, n < k → g n = h n) → mnv v g k = mnv v h k := by
  intro k
  induction k with
  | zero => intro _; rfl
  | succ k ih =>
    intro e
    show (if g k < mnv v g k then g k else mnv v g k) = (if h k < mnv v h k then h k else mnv v h k)
    rw [ih (fun n hn => e n (by omega)), e k (by omega)]
theorem mnv_cut {g : Nat → Nat} {K : Nat} : ∀ m, K ≤ m → (∀ n, K < n → n ≤ m → g n = 1000000000) → mnv 1000000000 g (m + 1) = mnv 1000000000 g (K + 1) := by
  intro m
  induction m with
  | zero =>
    intro h _
    obtain rfl : K = 0 := by omega
    rfl
  | succ m ih =>
    intro h e
    by_cases c : K = m + 1
    · rw [c]
    · rw [← ih (by omega) (fun n h1 h2 => e n h1 (by omega))]
      show (if g (m + 1) < mnv 1000000000 g (m + 1) then g (m + 1) else mnv 1000000000 g (m + 1)) = _
      have := mnv_v 1000000000 g (m + 1)
      rw [e (m + 1) (by omega) (by omega), if_neg (by omega)]
theorem mnv_b {M : Nat} {g : Nat → Nat} (h : ∀ n, BN M (g n)) (k : Nat) : BN M (mnv 1000000000 g k) := by
  rcases mnv_ex (v := 1000000000) (g := g) k with e | ⟨i, -, e⟩
  · exact Or.inr e
  · rw [← e]; exact h i
theorem plN_b {A B a b : Nat} (ha : BN A a) (hb : BN B b) : BN (A + B) (plN a b) := by
  unfold plN BN at *
  by_cases c : a < 1000000000 ∧ b < 1000000000
  · rw [if_pos c]; omega
  · rw [if_neg c]; omega
theorem mnv_pl {M c : Nat} {g : Nat → Nat} (h : ∀ n, BN M (g n)) (hc : c + M < 1000000000) : ∀ k, mnv 1000000000 (fun n => plN c (g n)) k = plN c (mnv 1000000000 g k) := by
  intro k
  induction k with
  | zero =>
    show 1000000000 = plN c 1000000000
    unfold plN
    rw [if_neg (by omega)]
  | succ k ih =>
    show (if plN c (g k) < mnv 1000000000 (fun n => plN c (g n)) k then plN c (g k) else mnv 1000000000 (fun n => plN c (g n)) k) = plN c (if g k < mnv 1000000000 g k then g k else mnv 1000000000 g k)
    rw [ih]
    have b1 := h k
    have b2 := mnv_b h k
    generalize mnv 1000000000 g k = Y at b2 ⊢
    generalize g k = X at b1 ⊢
    have P : ∀ x, x ≤ M → plN c x = c + x := fun x hx => if_pos ⟨by omega, by omega⟩
    have F : plN c 1000000000 = 1000000000 := if_neg (by omega)
    rcases b1 with b1 | b1
    · rcases b2 with b2 | b2
      · by_cases c3 : X < Y
        · rw [if_pos c3, P X b1, P Y b2, if_pos (by omega)]
        · rw [if_neg c3, P X b1, P Y b2, if_neg (by omega)]
      · rw [b2, F, P X b1, if_pos (by omega), if_pos (by omega), P X b1]
    · rcases b2 with b2 | b2
      · rw [b1, F, P Y b2, if_neg (by omega), if_neg (by omega), P Y b2]
      · rw [b1, b2, F, if_neg (by omega), F]
section
variable {ψ : FPar}
theorem wdw_b (h : OKP ψ) (b n : Nat) : wdw ψ b n ≤ 200000 := by
  have w := h.2.2.2.2.2.1
  unfold wdw
  split
  · omega
  · split <;> split <;> omega
theorem lp_b (h : OKP ψ) {l : Nat} (hl : l ≤ 2) : l * pL ψ ≤ 200000 := by
  have w := h.2.2.2.2.1
  rcases (show l = 0 ∨ l = 1 ∨ l = 2 by omega) with rfl | rfl | rfl <;> omega
theorem stP_b (h : OKP ψ) {mo : Nat → Nat} {M l p b n : Nat} (hm : ∀ x, BN M (mo x)) (hl : l ≤ 2) : BN (508000 + M) (stP ψ mo p l b n) := by
  have w1 := wdw_b h b n
  have w2 := lp_b h hl
  have w3 := h.1 p n
  have w4 := hm (b + n)
  unfold BN at w3 w4
  unfold stP
  by_cases c : b + n ≤ pN ψ ∧ pO ψ p n < 1000000000 ∧ mo (b + n) < 1000000000
  · rw [if_pos c]
    exact Or.inl (by omega)
  · rw [if_neg c]
    exact Or.inr rfl
theorem stP_0 (h : OKP ψ) {mo : Nat → Nat} {M p b n : Nat} (hm : ∀ x, BN M (mo x)) : BN (308000 + M) (stP ψ mo p 0 b n) := by
  have w1 := wdw_b h b n
  have w3 := h.1 p n
  have w4 := hm (b + n)
  unfold BN at w3 w4
  unfold stP
  by_cases c : b + n ≤ pN ψ ∧ pO ψ p n < 1000000000 ∧ mo (b + n) < 1000000000
  · rw [if_pos c]
    exact Or.inl (by omega)
  · rw [if_neg c]
    exact Or.inr rfl
theorem UC_b (h : OKP ψ) {mo : Nat → Nat} {M p b : Nat} (hm : ∀ x, BN M (mo x)) : BN (308000 + M) (UCn ψ mo p b) := mnv_b (fun n => stP_0 h hm) _
theorem stP_pl (h : OKP ψ) {mo : Nat → Nat} {M l p b n : Nat} (hm : ∀ x, BN M (mo x)) (hM : M ≤ 20000000) (hl : l ≤ 2) : stP ψ mo p l b n = plN (l * pL ψ) (stP ψ mo p 0 b n) := by
  have w1 := wdw_b h b n
  have w2 := lp_b h hl
  have w3 := h.1 p n
  have w4 := hm (b + n)
  unfold BN at w3 w4
  unfold stP plN
  by_cases c : b + n ≤ pN ψ ∧ pO ψ p n < 1000000000 ∧ mo (b + n) < 1000000000
  · rw [if_pos c, if_pos c, if_pos (by omega)]
    omega
  · rw [if_neg c, if_neg c, if_neg (by omega)]
theorem lead_A (h : OKP ψ) {mo : Nat → Nat} {M l p line : Nat} (hm : ∀ x, BN M (mo x)) (hM : M ≤ 20000000) (hl : l ≤ 2) (hb : line + l ≤ pN ψ) : mnv 1000000000 (stP ψ mo p l (line + l)) (pM ψ p + 1) = plN (l * pL ψ) (UCn ψ mo p (line + l)) := by
  have w2 := lp_b h hl
  rw [mnv_cong _ (fun n _ => stP_pl h hm hM hl), mnv_pl (fun n => stP_0 h hm) (by omega)]
  unfold UCn
  rw [mnv_cut (K := min (pM ψ p) (pN ψ - (line + l))) (pM ψ p) (by omega) (fun n h1 h2 => ?_)]
  unfold stP
  rw [if_neg (by omega)]
theorem lead_far {mo : Nat → Nat} {l p line : Nat} (hb : ¬ line + l ≤ pN ψ) (n : Nat) : stP ψ mo p l (line + l) n = 1000000000 := by
  unfold stP
  rw [if_neg (by omega)]
theorem lead_eq (h : OKP ψ) {mo : Nat → Nat} {M l p line v : Nat} (hm : ∀ x, BN M (mo x)) (hM : M ≤ 20000000) (hl : l ≤ 2) (hv : v ≤ 1000000000) : mnv v (stP ψ mo p l (line + l)) (pM ψ p + 1) = ldv ψ mo p line l v := by
  rw [mnv_min hv]
  unfold ldv
  by_cases hb : line + l ≤ pN ψ
  · rw [if_pos hb, lead_A h hm hM hl hb]
  · rw [if_neg hb]
    have e : mnv 1000000000 (stP ψ mo p l (line + l)) (pM ψ p + 1) = 1000000000 := by
      rcases mnv_ex (v := 1000000000) (g := stP ψ mo p l (line + l)) (pM ψ p + 1) with e | ⟨i, -, e⟩
      · exact e
      · rw [← e]; exact lead_far hb i
    rw [e, if_neg (by omega)]
theorem ldv_b (h : OKP ψ) {mo : Nat → Nat} {M l p line v : Nat} (hm : ∀ x, BN M (mo x)) (hl : l ≤ 2) (hv : BN (510000 + M) v) : BN (510000 + M) (ldv ψ mo p line l v) := by
  have w2 := lp_b h hl
  have u := plN_b (A := 200000) (a := l * pL ψ) (Or.inl w2) (UC_b h (p := p) (b := line + l) hm)
  unfold ldv
  split
  · split
    · unfold BN at u ⊢; omega
    · exact hv
  · exact hv
theorem TT_b (h : OKP ψ) : ∀ d line s, BN (d * 510000) (TT ψ d line s) := by
  intro d
  induction d with
  | zero =>
    intro line s
    show BN _ (if line = pN ψ then 0 else 1000000000)
    split
    · exact Or.inl (by omega)
    · exact Or.inr rfl
  | succ d ih =>
    intro line s
    have v0 : BN (510000 + d * 510000) (plN (pK ψ (pC ψ - (d + 1))) (TT ψ d line s)) := by
      have := plN_b (h.2.1 (pC ψ - (d + 1))) (ih line s)
      unfold BN at this ⊢; omega
    have e : (d + 1) * 510000 = 510000 + d * 510000 := by omega
    rw [e, TT_s]
    split
    · exact ldv_b h (fun x => ih x 1) (by omega) v0
    · exact ldv_b h (fun x => ih x 1) (by omega) (ldv_b h (fun x => ih x 1) (by omega) (ldv_b h (fun x => ih x 1) (by omega) v0))
end
def stR (ψ : FPar) (mo : Nat → Nat) (p line s l n : Nat) : Nat := if 0 < l ∧ s = 0 then 1000000000 else stP ψ mo p l (line + l) n
def rvv (ψ : FPar) (mo : Nat → Nat) (p line s l v : Nat) : Nat := mnv v (stR ψ mo p line s l) (pM ψ p + 1)
theorem BN_le {M x : Nat} (h : BN M x) (hM : M ≤ 1000000000) : x ≤ 1000000000 := by unfold BN at h; omega
theorem mnv_const {v : Nat} (hv : v ≤ 1000000000) (k : Nat) : mnv v (fun _ => 1000000000) k = v := by
  induction k with
  | zero => rfl
  | succ k ih =>
    show (if 1000000000 < mnv v (fun _ => 1000000000) k then 1000000000 else mnv v (fun _ => 1000000000) k) = v
    rw [ih, if_neg (by omega)]
section
variable {ψ : FPar}
theorem TT_ref (h : OKP ψ) {d line s : Nat} (hd : d < 20) : TT ψ (d + 1) line s = rvv ψ (fun x => TT ψ d x 1) (pC ψ - (d + 1)) line s 2 (rvv ψ (fun x => TT ψ d x 1) (pC ψ - (d + 1)) line s 1 (rvv ψ (fun x => TT ψ d x 1) (pC ψ - (d + 1)) line s 0 (plN (pK ψ (pC ψ - (d + 1))) (TT ψ d line s)))) := by
  have hm : ∀ x, BN (d * 510000) ((fun x => TT ψ d x 1) x) := fun x => TT_b h d x 1
  have hM : d * 510000 ≤ 20000000 := by omega
  have b0 : BN (510000 + d * 510000) (plN (pK ψ (pC ψ - (d + 1))) (TT ψ d line s)) := by
    have := plN_b (h.2.1 (pC ψ - (d + 1))) (TT_b h d line s)
    unfold BN at this ⊢; omega
  generalize hv0 : plN (pK ψ (pC ψ - (d + 1))) (TT ψ d line s) = v0 at b0
  have b1 := ldv_b h (p := pC ψ - (d + 1)) (line := line) (l := 0) hm (by omega) b0
  have b2 := ldv_b h (p := pC ψ - (d + 1)) (line := line) (l := 1) hm (by omega) b1
  have f0 : rvv ψ (fun x => TT ψ d x 1) (pC ψ - (d + 1)) line s 0 v0 = ldv ψ (fun x => TT ψ d x 1) (pC ψ - (d + 1)) line 0 v0 := by
    rw [← lead_eq h hm hM (by omega) (BN_le b0 (by omega))]
    exact mnv_cong _ (fun n _ => if_neg (by omega))
  rw [f0]
  rw [TT_s, hv0]
  by_cases c : s = 0
  · rw [if_pos c]
    have e : ∀ l, 0 < l → stR ψ (fun x => TT ψ d x 1) (pC ψ - (d + 1)) line s l = fun _ => 1000000000 := by
      intro l hl
      funext n
      exact if_pos ⟨hl, c⟩
    unfold rvv
    rw [e 1 (by omega), e 2 (by omega), mnv_const (BN_le b1 (by omega)), mnv_const (BN_le b1 (by omega))]
  · rw [if_neg c]
    have e : ∀ l, stR ψ (fun x => TT ψ d x 1) (pC ψ - (d + 1)) line s l = stP ψ (fun x => TT ψ d x 1) (pC ψ - (d + 1)) l (line + l) := by
      intro l
      funext n
      exact if_neg (fun k => c k.2)
    unfold rvv
    rw [e 1, e 2, lead_eq h hm hM (by omega) (BN_le b1 (by omega)), lead_eq h hm hM (by omega) (BN_le b2 (by omega))]
theorem ldv_v (mo : Nat → Nat) (p line l v : Nat) : ldv ψ mo p line l v ≤ v := by
  unfold ldv
  split
  · split <;> omega
  · exact Nat.le_refl _
theorem ldv_l {mo : Nat → Nat} {p line l v : Nat} (hb : line + l ≤ pN ψ) : ldv ψ mo p line l v ≤ plN (l * pL ψ) (UCn ψ mo p (line + l)) := by
  unfold ldv
  rw [if_pos hb]
  split <;> omega
theorem ldv_or (mo : Nat → Nat) (p line l v : Nat) : ldv ψ mo p line l v = v ∨ (line + l ≤ pN ψ ∧ ldv ψ mo p line l v = plN (l * pL ψ) (UCn ψ mo p (line + l))) := by
  unfold ldv
  split
  · split
    · exact Or.inr ⟨by assumption, rfl⟩
    · exact Or.inl rfl
  · exact Or.inl rfl
/-- the least is no more than a lead's -/
theorem TT_le {d line s l : Nat} (hs : l = 0 ∨ (s = 1 ∧ l ≤ 2)) (hb : line + l ≤ pN ψ) : TT ψ (d + 1) line s ≤ plN (l * pL ψ) (UCn ψ (fun x => TT ψ d x 1) (pC ψ - (d + 1)) (line + l)) := by
  rw [TT_s]
  split
  · obtain rfl : l = 0 := by omega
    exact ldv_l hb
  · rcases (show l = 0 ∨ l = 1 ∨ l = 2 by omega) with rfl | rfl | rfl
    · exact Nat.le_trans (ldv_v _ _ _ _ _) (Nat.le_trans (ldv_v _ _ _ _ _) (ldv_l hb))
    · exact Nat.le_trans (ldv_v _ _ _ _ _) (ldv_l hb)
    · exact ldv_l hb
theorem TT_or (d line s : Nat) (hs : s = 0 ∨ s = 1) : TT ψ (d + 1) line s = plN (pK ψ (pC ψ - (d + 1))) (TT ψ d line s) ∨ ∃ l, (l = 0 ∨ (s = 1 ∧ l ≤ 2)) ∧ line + l ≤ pN ψ ∧ TT ψ (d + 1) line s = plN (l * pL ψ) (UCn ψ (fun x => TT ψ d x 1) (pC ψ - (d + 1)) (line + l)) := by
  rw [TT_s]
  split
  · rcases ldv_or (ψ := ψ) (fun x => TT ψ d x 1) (pC ψ - (d + 1)) line 0 (plN (pK ψ (pC ψ - (d + 1))) (TT ψ d line s)) with e | ⟨e1, e2⟩
    · exact Or.inl e
    · exact Or.inr ⟨0, Or.inl rfl, e1, e2⟩
  · have hs1 : s = 1 := by omega
    rcases ldv_or (ψ := ψ) (fun x => TT ψ d x 1) (pC ψ - (d + 1)) line 2 (ldv ψ (fun x => TT ψ d x 1) (pC ψ - (d + 1)) line 1 (ldv ψ (fun x => TT ψ d x 1) (pC ψ - (d + 1)) line 0 (plN (pK ψ (pC ψ - (d + 1))) (TT ψ d line s)))) with e | ⟨e1, e2⟩
    · rw [e]
      rcases ldv_or (ψ := ψ) (fun x => TT ψ d x 1) (pC ψ - (d + 1)) line 1 (ldv ψ (fun x => TT ψ d x 1) (pC ψ - (d + 1)) line 0 (plN (pK ψ (pC ψ - (d + 1))) (TT ψ d line s))) with e | ⟨e1, e2⟩
      · rw [e]
        rcases ldv_or (ψ := ψ) (fun x => TT ψ d x 1) (pC ψ - (d + 1)) line 0 (plN (pK ψ (pC ψ - (d + 1))) (TT ψ d line s)) with e | ⟨e1, e2⟩
        · exact Or.inl e
        · exact Or.inr ⟨0, Or.inl rfl, e1, e2⟩
      · exact Or.inr ⟨1, Or.inr ⟨hs1, by omega⟩, e1, e2⟩
    · exact Or.inr ⟨2, Or.inr ⟨hs1, by omega⟩, e1, e2⟩
end
/-! the choice -/
def fnd (g : Nat → Nat) (v : Nat) : Nat → Nat → Nat
  | 0, i => i
  | e + 1, i => if g i = v then i else fnd g v e (i + 1)
theorem fnd_p {g : Nat → Nat} {v : Nat} : ∀ e i, i ≤ fnd g v e i ∧ fnd g v e i ≤ i + e ∧ (fnd g v e i < i + e → g (fnd g v e i) = v) ∧ ∀ j, i ≤ j → j < fnd g v e i → ¬ g j = v := by
  intro e
  induction e with
  | zero =>
    intro i
    exact ⟨Nat.le_refl _, Nat.le_refl _, fun k => absurd k (Nat.lt_irrefl _), fun j h1 h2 => absurd (Nat.lt_of_le_of_lt h1 h2) (Nat.lt_irrefl _)⟩
  | succ e ih =>
    intro i
    by_cases c : g i = v
    · have e1 : fnd g v (e + 1) i = i := if_pos c
      rw [e1]
      exact ⟨Nat.le_refl _, by omega, fun _ => c, fun j h1 h2 => by omega⟩
    · have e1 : fnd g v (e + 1) i = fnd g v e (i + 1) := if_neg c
      rw [e1]
      obtain ⟨a1, a2, a3, a4⟩ := ih (i + 1)
      refine ⟨by omega, by omega, fun k => a3 (by omega), fun j h1 h2 => ?_⟩
      by_cases ej : j = i
      · rw [ej]; exact c
      · exact a4 j (by omega) h2
theorem fnd_c {g : Nat → Nat} {v n k : Nat} (h1 : g n = v) (h2 : ∀ j, j < n → ¬ g j = v) (h3 : n < k) : fnd g v k 0 = n := by
  obtain ⟨a1, a2, a3, a4⟩ := fnd_p (g := g) (v := v) k 0
  by_cases c : fnd g v k 0 < n
  · exact absurd (a3 (by omega)) (h2 _ c)
  · by_cases c2 : n < fnd g v k 0
    · exact absurd h1 (a4 n (by omega) c2)
    · omega
theorem fnd_no {g : Nat → Nat} {v k : Nat} (h : ∀ j, j < k + 1 → ¬ g j = v) : ¬ fnd g v (k + 1) 0 ≤ k := by
  intro c
  obtain ⟨a1, a2, a3, a4⟩ := fnd_p (g := g) (v := v) (k + 1) 0
  exact h _ (by omega) (a3 (by omega))
section
variable {ψ : FPar}
theorem lead_ch (h : OKP ψ) {mo : Nat → Nat} {M l p line due : Nat} (hm : ∀ x, BN M (mo x)) (hM : M ≤ 20000000) (hl : l ≤ 2) (hb : line + l ≤ pN ψ) (hd : due < 1000000000) (hle : due ≤ plN (l * pL ψ) (UCn ψ mo p (line + l))) : plN (l * pL ψ) (UCn ψ mo p (line + l)) = due ↔ fnd (stP ψ mo p l (line + l)) due (pM ψ p + 1) 0 ≤ pM ψ p := by
  rw [← lead_A h hm hM hl hb] at hle ⊢
  constructor
  · intro e
    rcases mnv_ex (v := 1000000000) (g := stP ψ mo p l (line + l)) (pM ψ p + 1) with e2 | ⟨i, hi, e2⟩
    · omega
    · by_cases c : fnd (stP ψ mo p l (line + l)) due (pM ψ p + 1) 0 ≤ pM ψ p
      · exact c
      · obtain ⟨a1, a2, a3, a4⟩ := fnd_p (g := stP ψ mo p l (line + l)) (v := due) (pM ψ p + 1) 0
        exact absurd (e2.trans e) (a4 i (by omega) (by omega))
  · intro c
    obtain ⟨a1, a2, a3, a4⟩ := fnd_p (g := stP ψ mo p l (line + l)) (v := due) (pM ψ p + 1) 0
    have e := a3 (by omega)
    have := mnv_le (v := 1000000000) (g := stP ψ mo p l (line + l)) (i := fnd (stP ψ mo p l (line + l)) due (pM ψ p + 1) 0) (pM ψ p + 1) (by omega)
    omega
theorem lead_n (h : OKP ψ) {mo : Nat → Nat} {M l p b due : Nat} (hm : ∀ x, BN M (mo x)) (hM : M ≤ 20000000) (hl : l ≤ 2) (hd : due < 1000000000) (hf : fnd (stP ψ mo p l b) due (pM ψ p + 1) 0 ≤ pM ψ p) : fnd (stP ψ mo p 0 b) (due - l * pL ψ) (min (pM ψ p) (pN ψ - b) + 1) 0 = fnd (stP ψ mo p l b) due (pM ψ p + 1) 0 ∧ b + fnd (stP ψ mo p l b) due (pM ψ p + 1) 0 ≤ pN ψ ∧ mo (b + fnd (stP ψ mo p l b) due (pM ψ p + 1) 0) < 1000000000 ∧ pO ψ p (fnd (stP ψ mo p l b) due (pM ψ p + 1) 0) < 1000000000 ∧ l * pL ψ ≤ due := by
  obtain ⟨a1, a2, a3, a4⟩ := fnd_p (g := stP ψ mo p l b) (v := due) (pM ψ p + 1) 0
  have e := a3 (by omega)
  generalize fnd (stP ψ mo p l b) due (pM ψ p + 1) 0 = n at *
  have w2 := lp_b h hl
  have q : b + n ≤ pN ψ ∧ pO ψ p n < 1000000000 ∧ mo (b + n) < 1000000000 := by
    by_cases c : b + n ≤ pN ψ ∧ pO ψ p n < 1000000000 ∧ mo (b + n) < 1000000000
    · exact c
    · unfold stP at e
      rw [if_neg c] at e
      omega
  have key : ∀ j, stP ψ mo p 0 b j = due - l * pL ψ → l * pL ψ ≤ due → stP ψ mo p l b j = due := by
    intro j hj hlt
    rw [stP_pl h hm hM hl, hj]
    unfold plN
    rw [if_pos (by omega)]
    omega
  have e0 : stP ψ mo p 0 b n = due - l * pL ψ ∧ l * pL ψ ≤ due := by
    unfold stP at e ⊢
    rw [if_pos q] at e ⊢
    omega
  refine ⟨fnd_c e0.1 (fun j hj c => a4 j (by omega) hj (key j c e0.2)) (by omega), q.1, q.2.2, q.2.1, e0.2⟩
end
/-- the lead count that is chosen, if one is -/
def chl (ψ : FPar) (mo : Nat → Nat) (p line s due : Nat) : Nat → Nat → Option Nat
  | 0, _ => none
  | e + 1, l => if fnd (stR ψ mo p line s l) due (pM ψ p + 1) 0 ≤ pM ψ p then some l else chl ψ mo p line s due e (l + 1)
