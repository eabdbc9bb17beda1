/-! WHAT COPIES ARE WORTH. -/
theorem tl_add {x y : Int64} (h1 : -9223372036854775808 ≤ x.toInt + y.toInt) (h2 : x.toInt + y.toInt < 9223372036854775808) : (x + y).toInt = x.toInt + y.toInt := by
  rw [Int64.toInt_add]
  exact Int.bmod_eq_of_le (by omega) (by omega)
theorem tl_sub {x y : Int64} (h1 : -9223372036854775808 ≤ x.toInt - y.toInt) (h2 : x.toInt - y.toInt < 9223372036854775808) : (x - y).toInt = x.toInt - y.toInt := by
  rw [Int64.toInt_sub]
  exact Int.bmod_eq_of_le (by omega) (by omega)
theorem tl_mul {x y : Int64} (h1 : -9223372036854775808 ≤ x.toInt * y.toInt) (h2 : x.toInt * y.toInt < 9223372036854775808) : (x * y).toInt = x.toInt * y.toInt := by
  rw [Int64.toInt_mul]
  exact Int.bmod_eq_of_le (by omega) (by omega)
theorem tl_i (x : Int32) : x.toInt64.toInt = x.toInt := Int32.toInt_toInt64 x
theorem l_sub {a b : Int32} (h1 : 0 ≤ a.toInt) (h2 : 0 ≤ b.toInt) : (a - b).toInt64 = a.toInt64 - b.toInt64 := by
  have u1 := Int32.toInt_lt a
  have u2 := Int32.toInt_lt b
  apply Int64.toInt_inj.mp
  rw [tl_i, ti_sub (by omega) (by omega), tl_sub (by rw [tl_i, tl_i]; omega) (by rw [tl_i, tl_i]; omega), tl_i, tl_i]
theorem mulb {a b A B : Int} (h1 : 0 ≤ a) (h2 : a ≤ A) (h3 : 0 ≤ b) (h4 : b ≤ B) : 0 ≤ a * b ∧ a * b ≤ A * B :=
  ⟨Int.mul_nonneg h1 h3, Int.mul_le_mul h2 h4 h3 (Int.le_trans h1 h2)⟩
/-- paper and plates -/
theorem l_cost {p x q : Int32} (h1 : 0 ≤ p.toInt ∧ p.toInt ≤ 10000) (h2 : 0 ≤ x.toInt ∧ x.toInt ≤ 100000) (h3 : 0 ≤ q.toInt ∧ q.toInt ≤ 10000) : (p * x + q).toInt64 = x.toInt64 * p.toInt64 + q.toInt64 ∧ 0 ≤ (p * x + q).toInt ∧ (p * x + q).toInt ≤ 1000010000 := by
  have m := mulb h1.1 h1.2 h2.1 h2.2
  have t1 := ti_mul (x := p) (y := x) (by omega) (by omega)
  have t2 := ti_add (x := p * x) (y := q) (by omega) (by omega)
  refine ⟨?_, by omega, by omega⟩
  apply Int64.toInt_inj.mp
  have s1 : (x.toInt64 * p.toInt64).toInt = p.toInt * x.toInt := by
    rw [tl_mul (by rw [tl_i, tl_i, Int.mul_comm]; omega) (by rw [tl_i, tl_i, Int.mul_comm]; omega), tl_i, tl_i, Int.mul_comm]
  rw [tl_i, t2, t1, tl_add (by rw [s1, tl_i]; omega) (by rw [s1, tl_i]; omega), s1, tl_i]
def sdm (σ : St) (x : Int32) (k : Nat) : Int32 := if gA σ 18 k < x then gA σ 18 k else x
def wv (σ : St) (x : Int32) : Nat → Int64
  | 0 => 0
  | k + 1 => wv σ x k + (gA σ 19 k).toInt64 * ((gX σ 18).toInt64 * (sdm σ x k).toInt64 + (gX σ 21).toInt64 * (x - sdm σ x k).toInt64)
def wl (σ : St) : Nat → Int64
  | 0 => 0
  | k + 1 => wl σ k + (gA σ 19 k).toInt64
def pcf (σ : St) (s : Nat) (x : Int32) : Int32 := if x = 0 then 0 else if gA σ 17 s = 0 then gX σ 19 * x + gX σ 20 else gX σ 19 * x + 0
def wof (σ : St) (c s : Nat) (x : Int32) : Int64 := wv σ x c - wl σ c * (pcf σ s x).toInt64
theorem sdm_b {σ : St} (h7 : R7 σ) {x : Int32} (hx : 0 ≤ x.toInt ∧ x.toInt ≤ 100000) {k : Nat} (hk : k < 8) : 0 ≤ (sdm σ x k).toInt ∧ (sdm σ x k).toInt ≤ x.toInt := by
  have b := (h7.2.2.2 k hk).1
  have b1 := ti_nonneg b.1
  unfold sdm
  by_cases c : gA σ 18 k < x
  · rw [if_pos c]
    have := Int32.lt_iff_toInt_lt.mp c
    omega
  · rw [if_neg c]
    omega
theorem R7.lots {σ : St} (h7 : R7 σ) {k : Nat} (hk : k < 8) : 0 ≤ (gA σ 19 k).toInt ∧ (gA σ 19 k).toInt ≤ 99 := by
  have b := (h7.2.2.2 k hk).2
  have z : (99 : Int32).toInt = 99 := rfl
  have b1 := ti_nonneg b.1
  have b2 := Int32.le_iff_toInt_le.mp b.2
  omega
theorem R6.pr {n : Nat} {σ : St} (h : R6 n σ) : (0 ≤ (gX σ 18).toInt ∧ (gX σ 18).toInt ≤ 10000) ∧ (0 ≤ (gX σ 19).toInt ∧ (gX σ 19).toInt ≤ 10000) ∧ (0 ≤ (gX σ 20).toInt ∧ (gX σ 20).toInt ≤ 10000) ∧ (0 ≤ (gX σ 21).toInt ∧ (gX σ 21).toInt ≤ 10000) := by
  have z : (10000 : Int32).toInt = 10000 := rfl
  have a1 := ti_nonneg h.1.2.1
  have a2 := Int32.le_iff_toInt_le.mp h.1.2.2
  have b1 := ti_nonneg h.2.1.2.1
  have b2 := Int32.le_iff_toInt_le.mp h.2.1.2.2
  have c1 := ti_nonneg h.2.2.1.2.1
  have c2 := Int32.le_iff_toInt_le.mp h.2.2.1.2.2
  have d1 := ti_nonneg h.2.2.2.1.2.1
  have d2 := Int32.le_iff_toInt_le.mp h.2.2.2.1.2.2
  omega
theorem wv_b {n : Nat} {σ : St} (h6 : R6 n σ) (h7 : R7 σ) {x : Int32} (hx : 0 ≤ x.toInt ∧ x.toInt ≤ 100000) : ∀ k, k ≤ 8 → 0 ≤ (wv σ x k).toInt ∧ (wv σ x k).toInt ≤ 198000000000 * k := by
  obtain ⟨p1, p2, p3, p4⟩ := h6.pr
  intro k
  induction k with
  | zero => intro _; exact ⟨(by decide : (0 : Int) ≤ (0 : Int64).toInt), (by decide : (0 : Int64).toInt ≤ 198000000000 * ((0 : Nat) : Int))⟩
  | succ k ih =>
    intro hk
    have i := ih (by omega)
    have b := sdm_b h7 hx (k := k) (by omega)
    have l := h7.lots (k := k) (by omega)
    have e1 := ti_sub (x := x) (y := sdm σ x k) (by omega) (by omega)
    have m1 := mulb p1.1 p1.2 b.1 (Int.le_trans b.2 hx.2)
    have m2 := mulb (a := (gX σ 21).toInt) (b := (x - sdm σ x k).toInt) (A := 10000) (B := 100000) p4.1 p4.2 (by omega) (by omega)
    have t1 : ((gX σ 18).toInt64 * (sdm σ x k).toInt64).toInt = (gX σ 18).toInt * (sdm σ x k).toInt := by
      rw [tl_mul (by rw [tl_i, tl_i]; omega) (by rw [tl_i, tl_i]; omega), tl_i, tl_i]
    have t2 : ((gX σ 21).toInt64 * (x - sdm σ x k).toInt64).toInt = (gX σ 21).toInt * (x - sdm σ x k).toInt := by
      rw [tl_mul (by rw [tl_i, tl_i]; omega) (by rw [tl_i, tl_i]; omega), tl_i, tl_i]
    have t3 : ((gX σ 18).toInt64 * (sdm σ x k).toInt64 + (gX σ 21).toInt64 * (x - sdm σ x k).toInt64).toInt = (gX σ 18).toInt * (sdm σ x k).toInt + (gX σ 21).toInt * (x - sdm σ x k).toInt := by
      rw [tl_add (by rw [t1, t2]; omega) (by rw [t1, t2]; omega), t1, t2]
    have m3 := mulb (a := (gA σ 19 k).toInt) (b := (gX σ 18).toInt * (sdm σ x k).toInt + (gX σ 21).toInt * (x - sdm σ x k).toInt) (A := 99) (B := 2000000000) l.1 l.2 (by omega) (by omega)
    have t4 : ((gA σ 19 k).toInt64 * ((gX σ 18).toInt64 * (sdm σ x k).toInt64 + (gX σ 21).toInt64 * (x - sdm σ x k).toInt64)).toInt = (gA σ 19 k).toInt * ((gX σ 18).toInt * (sdm σ x k).toInt + (gX σ 21).toInt * (x - sdm σ x k).toInt) := by
      rw [tl_mul (by rw [tl_i, t3]; omega) (by rw [tl_i, t3]; omega), tl_i, t3]
    show 0 ≤ (wv σ x k + (gA σ 19 k).toInt64 * ((gX σ 18).toInt64 * (sdm σ x k).toInt64 + (gX σ 21).toInt64 * (x - sdm σ x k).toInt64)).toInt ∧ (wv σ x k + (gA σ 19 k).toInt64 * ((gX σ 18).toInt64 * (sdm σ x k).toInt64 + (gX σ 21).toInt64 * (x - sdm σ x k).toInt64)).toInt ≤ _
    rw [tl_add (by rw [t4]; omega) (by rw [t4]; omega), t4]
    omega
theorem wl_b {σ : St} (h7 : R7 σ) : ∀ k, k ≤ 8 → 0 ≤ (wl σ k).toInt ∧ (wl σ k).toInt ≤ 99 * k := by
  intro k
  induction k with
  | zero => intro _; exact ⟨(by decide : (0 : Int) ≤ (0 : Int64).toInt), (by decide : (0 : Int64).toInt ≤ 99 * ((0 : Nat) : Int))⟩
  | succ k ih =>
    intro hk
    have i := ih (by omega)
    have l := h7.lots (k := k) (by omega)
    show 0 ≤ (wl σ k + (gA σ 19 k).toInt64).toInt ∧ (wl σ k + (gA σ 19 k).toInt64).toInt ≤ _
    rw [tl_add (by rw [tl_i]; omega) (by rw [tl_i]; omega), tl_i]
    omega
theorem pcf_b {n : Nat} {σ : St} (h6 : R6 n σ) {s : Nat} {x : Int32} (hx : 0 ≤ x.toInt ∧ x.toInt ≤ 100000) : 0 ≤ (pcf σ s x).toInt ∧ (pcf σ s x).toInt ≤ 1000010000 := by
  obtain ⟨p1, p2, p3, p4⟩ := h6.pr
  have z : (0 : Int32).toInt = 0 := rfl
  unfold pcf
  by_cases c1 : x = 0
  · rw [if_pos c1, z]
    omega
  · rw [if_neg c1]
    by_cases c2 : gA σ 17 s = 0
    · rw [if_pos c2]
      exact (l_cost p2 hx p3).2
    · rw [if_neg c2]
      exact (l_cost p2 hx ⟨by rw [z]; omega, by rw [z]; omega⟩).2
theorem wof_b {n : Nat} {σ : St} (h6 : R6 n σ) (h7 : R7 σ) {c s : Nat} (hc : c ≤ 8) {x : Int32} (hx : 0 ≤ x.toInt ∧ x.toInt ≤ 100000) : -1000000000000000 ≤ (wof σ c s x).toInt ∧ (wof σ c s x).toInt ≤ 1000000000000000 := by
  have a := wv_b h6 h7 hx c hc
  have b := wl_b h7 c hc
  have d := pcf_b (s := s) h6 hx
  have m := mulb (a := (wl σ c).toInt) (b := (pcf σ s x).toInt) (A := 792) (B := 1000010000) b.1 (by omega) d.1 d.2
  have t : (wl σ c * (pcf σ s x).toInt64).toInt = (wl σ c).toInt * (pcf σ s x).toInt := by
    rw [tl_mul (by rw [tl_i]; omega) (by rw [tl_i]; omega), tl_i]
  unfold wof
  rw [tl_sub (by rw [t]; omega) (by rw [t]; omega), t]
  omega
section
variable {S : XS} {σ : St} {n : Nat}
theorem K_pcost {Q : Int32 → St → Prop} {s x : Int32} (h : vp_in s 96) (H : Q (pcf σ s.toNatClampNeg x) σ) : CM S m_Sh_printingCost [.ref 144, .int s, .int x] (enc σ) (qI Q) := by
  refine C_Sh_printingCost _ _ _ (B_Sh_printingCost_0 _ _ _ (K_isSlot h (bq_f (by decide) ?_)))
  unfold pcf at H
  by_cases c1 : x = 0
  · rw [if_pos c1] at H
    exact bq_tn c1 H
  · rw [if_neg c1] at H
    refine bq_fn c1 ⟨h, ?_⟩
    by_cases c2 : gA σ 17 s.toNatClampNeg = 0
    · rw [if_pos c2] at H
      exact bq_t c2 H
    · rw [if_neg c2] at H
      exact bq_f c2 H
theorem worthL {Q : Int64 → St → Prop} {s x : Int32} {c : Nat} (hc : gX σ 22 = nI c) (hc2 : c ≤ 8) (h : vp_in s 96) (H : Q (wof σ c s.toNatClampNeg x) σ) : ∀ d k, c - k = d → k ≤ c → BW S m_Fo_worthOf 9 [some (.ref 150), some (.ref 144), some (.int s), some (.int x), some (.long (wv σ x k)), none, some (.long (wl σ k)), none, some (.int (nI k)), none, none, none] [] (enc σ) (qL Q) := by
  intro d
  induction d with
  | zero =>
    intro k hd hk
    have : k = c := by omega
    subst this
    refine B_Fo_worthOf_9 _ _ _ _ _ _ ?_
    rw [hc]
    exact bq_t (nI_le (Nat.le_refl _) (by omega)) (K_pcost h H)
  | succ d ih =>
    intro k hd hk
    refine B_Fo_worthOf_9 _ _ _ _ _ _ ?_
    rw [hc]
    refine bq_f (nI_ge (by omega) (by omega)) ⟨vp_in_nI (by omega) (by decide), ?_⟩
    rw [nI_clamp (by omega), nI_1]
    exact ih (k + 1) (by omega) (by omega)
theorem K_worth {Q : Int64 → St → Prop} {s x : Int32} {c : Nat} (hc : gX σ 22 = nI c) (hc2 : c ≤ 8) (h : vp_in s 96) (H : Q (wof σ c s.toNatClampNeg x) σ) : CM S m_Fo_worthOf [.ref 150, .ref 144, .int s, .int x] (enc σ) (qL Q) :=
  C_Fo_worthOf _ _ _ (B_Fo_worthOf_0 _ _ _ (worthL hc hc2 h H c 0 (by omega) (by omega)))
/-- the reference's sum -/
theorem mworthL {Q : Int64 → St → Prop} {p e x : Int32} {c i j : Nat} (h6 : R6 n σ) (h7 : R7 σ) (hs : SLF σ p e i j) (hc : gY σ 19 = nI c) (hc2 : c ≤ 8) (hx : 0 ≤ x.toInt ∧ x.toInt ≤ 100000) (H : Q (wof σ c (4 * i + j) x) σ) : ∀ d k, c - k = d → k ≤ c → BW S m_Md_worth 39 [some (.ref 153), some (.int p), some (.int e), some (.int x), some (.long (wv σ x k)), none, some (.long (wl σ k)), none, some (.int (nI k)), none, none] [] (enc σ) (qL Q) := by
  have e15 : gY σ 15 = gX σ 18 := h6.1.1.symm
  have e16 : gY σ 16 = gX σ 19 := h6.2.1.1.symm
  have e17 : gY σ 17 = gX σ 20 := h6.2.2.1.1.symm
  have e18 : gY σ 18 = gX σ 21 := h6.2.2.2.1.1.symm
  have e29 : gC σ 29 = gA σ 18 := h7.2.1.symm
  have e30 : gC σ 30 = gA σ 19 := h7.2.2.1.symm
  obtain ⟨p1, p2, p3, p4⟩ := h6.pr
  have z : (0 : Int32).toInt = 0 := rfl
  obtain ⟨⟨hi, hj, w0, w1, w2, w3, w4, w5⟩, ⟨v0, v1, v2, v3, v4, v5⟩, -⟩ := hs
  obtain ⟨f0, f1, f2, f3, f4⟩ := h6.2.2.2.2.2.1 i j hi hj
  obtain ⟨c0, -⟩ := h6.2.2.2.2.2.2 (4 * i + j) (by omega)
  intro d
  induction d with
  | zero =>
    intro k hd hk
    have : k = c := by omega
    subst this
    refine B_Md_worth_39 _ _ _ _ _ _ _ ?_
    rw [hc]
    refine bq_t (nI_le (Nat.le_refl _) (by omega)) ?_
    unfold wof pcf at H
    by_cases y : x = 0
    · rw [if_pos y] at H
      have e0 : wl σ k * (0 : Int32).toInt64 = 0 := by
        show wl σ k * 0 = 0
        exact Int64.mul_zero
      rw [e0, Int64.sub_zero] at H
      exact bq_tn y H
    · rw [if_neg y] at H
      refine bq_fn y (K_row ⟨v5, ?_⟩)
      rw [w5, f4, e16, e17]
      rcases c0 with q | q
      · rw [if_pos q, (l_cost p2 hx p3).1] at H
        exact bq_fn (by rw [q]; decide) H
      · have ne : ¬ gA σ 17 (4 * i + j) = 0 := by rw [q]; decide
        rw [if_neg ne, (l_cost p2 hx ⟨by rw [z]; omega, by rw [z]; omega⟩).1] at H
        exact bq_tn q H
  | succ d ih =>
    intro k hd hk
    have q := ih (k + 1) (by omega) (by omega)
    have e1 : wv σ x (k + 1) = wv σ x k + (gA σ 19 k).toInt64 * ((gX σ 18).toInt64 * (sdm σ x k).toInt64 + (gX σ 21).toInt64 * (x - sdm σ x k).toInt64) := rfl
    have e2 : wl σ (k + 1) = wl σ k + (gA σ 19 k).toInt64 := rfl
    have b := sdm_b h7 hx (k := k) (by omega)
    rw [e1, e2, l_sub hx.1 b.1] at q
    refine B_Md_worth_39 _ _ _ _ _ _ _ ?_
    rw [hc]
    refine bq_f (nI_ge (by omega) (by omega)) ⟨vp_in_nI (by omega) (by decide), ?_⟩
    rw [nI_clamp (by omega), nI_1, e15, e18, e29, e30]
    unfold sdm at q
    by_cases y : gA σ 18 k < x
    · rw [if_pos y] at q
      exact bq_t (Int32.le_of_lt y) q
    · rw [if_neg y] at q
      by_cases y2 : gA σ 18 k ≤ x
      · have y3 : gA σ 18 k = x := by
          have a1 := Int32.le_iff_toInt_le.mp y2
          have a2 := Int32.le_iff_toInt_le.mp (Int32.not_lt.mp y)
          exact Int32.toInt_inj.mp (by omega)
        rw [y3]
        exact bq_t (Int32.le_refl x) q
      · exact bq_f y2 q
theorem K_mworth {Q : Int64 → St → Prop} {p e x : Int32} {c i j : Nat} (h6 : R6 n σ) (h7 : R7 σ) (hE : HE (gC σ 21) p e) (hs : SLF σ p e i j) (hc : gY σ 19 = nI c) (hc0 : 0 < c) (hc2 : c ≤ 8) (hx : 0 ≤ x ∧ x ≤ 100000) (H : Q (wof σ c (4 * i + j) x) σ) : CM S m_Md_worth [.ref 153, .int p, .int e, .int x] (enc σ) (qL Q) := by
  have z : (100000 : Int32).toInt = 100000 := rfl
  have a1 := ti_nonneg hx.1
  have a2 := Int32.le_iff_toInt_le.mp hx.2
  exact C_Md_worth _ _ _ _ (B_Md_worth_0 _ _ _ _ (K_isEdT hE (bq_f (by decide) (bq_f (by rw [hc]; exact nI_ne0 hc0 (by omega)) (K_isT hx (bq_fn (by decide) (mworthL h6 h7 hs hc hc2 ⟨a1, by omega⟩ H c 0 (by omega) (by omega))))))))
end
theorem R7.cnt {σ : St} (h : R7 σ) : ∃ c, c ≤ 8 ∧ gX σ 22 = nI c ∧ gY σ 19 = nI c := by
  have t1 := ti_nonneg h.1.2.1
  have t2 := Int32.le_iff_toInt_le.mp h.1.2.2
  have z : (8 : Int32).toInt = 8 := rfl
  obtain ⟨c, hc, e, e2⟩ := nI_ex (x := gX σ 22) (n := 9) t1 (by omega)
  exact ⟨c, by omega, e, by rw [← h.1.1, e]⟩
