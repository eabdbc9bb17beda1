/-! STAGES OF READING, the class. -/
abbrev PR := (Int32 × Int32) ⊕ Nat
def pc (z : Nat) (x : PR) (F : Int32 → Int32 → Prop) (G : Nat → Prop) : Prop := match x with
  | .inl e => ¬ e.1 ≤ 0 → F e.1 e.2
  | .inr a => a ≤ z → G a
def uC (δ : St) (a k p : Int32) : St := sX (sX (sX δ 1 a) 2 k) 3 p
theorem uC_1 (δ : St) (a k p b : Int32) : sX (uC δ a k p) 1 b = uC δ b k p := by
  show ((va_up (va_up (va_up (va_up δ.1.1 1 a) 2 k) 3 p) 1 b, δ.1.2), δ.2) = ((va_up (va_up (va_up δ.1.1 1 b) 2 k) 3 p, δ.1.2), δ.2)
  rw [va_upc _ (by decide : (3 : Nat) ≠ 1), va_upc _ (by decide : (2 : Nat) ≠ 1), va_up2]
theorem uC_23 (δ : St) (a k p k' p' : Int32) : sX (sX (uC δ a k p) 2 k') 3 p' = uC δ a k' p' := by
  show ((va_up (va_up (va_up (va_up (va_up δ.1.1 1 a) 2 k) 3 p) 2 k') 3 p', δ.1.2), δ.2) = ((va_up (va_up (va_up δ.1.1 1 a) 2 k') 3 p', δ.1.2), δ.2)
  rw [va_upc _ (by decide : (3 : Nat) ≠ 2), va_up2, va_up2]
theorem uC_g1 (δ : St) (a k p : Int32) : gX (uC δ a k p) 1 = a := rfl
theorem uC_g2 (δ : St) (a k p : Int32) : gX (uC δ a k p) 2 = k := rfl
theorem uC_g0 (δ : St) (a k p : Int32) : gX (uC δ a k p) 0 = gX δ 0 := rfl
def TCo (δ : St) (f : Nat → Int32) (z : Nat) : Prop := gA δ 0 = f ∧ gX δ 0 = nI z ∧ z ≤ 200
theorem TCo.t {δ : St} {f : Nat → Int32} {z a : Nat} {k p : Int32} (h : TCo δ f z) (ha : a ≤ z) : TC (uC δ (nI a) k p) f z a := ⟨h.1, h.2.1, uC_g1 _ _ _ _, h.2.2, by have := h.2.2; omega⟩
theorem skf_b {f : Nat → Int32} {z a : Nat} (h : a ≤ z) : a ≤ skf f z a ∧ skf f z a ≤ z := ⟨(skf_p _ a rfl).1, (skf_p _ a rfl).2.1 h⟩
theorem rnf_b {lo hi : Int32} {f : Nat → Int32} {z a : Nat} (h : a ≤ z) : a ≤ rnf lo hi f z a ∧ rnf lo hi f z a ≤ z := ⟨(rnf_p _ a rfl).1, (rnf_p _ a rfl).2.1 h⟩
def wrB (f : Nat → Int32) (a n t : Nat) : Bool := decide (n = xlen.getD t 0 ∧ ∀ i, i < n → f (a + i) = sch t i)
theorem wrB_t {f : Nat → Int32} {a n t : Nat} (h : wrd f a n t) : wrB f a n t = true := decide_eq_true h
theorem wrB_f {f : Nat → Int32} {a n t : Nat} (h : ¬ wrd f a n t) : wrB f a n t = false := decide_eq_false h
theorem wrB_0 {f : Nat → Int32} {a t : Nat} (ht : t < 7) : wrB f a 0 t = false := wrB_f (fun w => by have := (xlen_b t ht).2; have := w.1; omega)
def fwB (f : Nat → Int32) (a n : Nat) : Bool := wrB f a n 0 || (wrB f a n 1 || (wrB f a n 2 || wrB f a n 3))
def nmR (f : Nat → Int32) (z r : Nat) : PR :=
  if rnf 97 122 f z r = r ∨ fwB f r (rnf 97 122 f z r - r) = true then .inl (1, nI r)
  else if 10 < rnf 97 122 f z r - r then .inl (1, nI (r + 10)) else .inr (rnf 97 122 f z r)
def nmS (f : Nat → Int32) (z a : Nat) : PR := nmR f z (skf f z a)
/-- n digits from r on -/
def dv (f : Nat → Int32) (r : Nat) : Nat → Int32
  | 0 => 0
  | n + 1 => dv f r n * 10 + (f (r + n) - 48)
def nuR (lo hi : Int32) (f : Nat → Int32) (z r : Nat) : PR :=
  if rnf 48 57 f z r = r then .inl (1, nI r)
  else if 5 < rnf 48 57 f z r - r then .inl (1, nI (r + 5))
  else if dv f r (rnf 48 57 f z r - r) < lo ∨ hi < dv f r (rnf 48 57 f z r - r) then .inl (2, nI r) else .inr (rnf 48 57 f z r)
def nuS (lo hi : Int32) (f : Nat → Int32) (z a : Nat) : PR := nuR lo hi f z (skf f z a)
def wdR (t : Nat) (f : Nat → Int32) (z r : Nat) : PR := if wrB f r (rnf 97 122 f z r - r) t = true then .inr (rnf 97 122 f z r) else .inl (1, nI r)
def wdS (t : Nat) (f : Nat → Int32) (z a : Nat) : PR := wdR t f z (skf f z a)
def sgS (c : Int32) (f : Nat → Int32) (z a : Nat) : PR := if hvf f z (skf f z a) = c then .inr (skf f z a + 1) else .inl (1, nI (skf f z a))
def enS (f : Nat → Int32) (z a : Nat) : PR := if skf f z a < z then .inl (1, nI (skf f z a)) else .inr (skf f z a)
theorem k1p : ¬ (1 : Int32) ≤ 0 := by decide
theorem k0n {k : Int32} (hk : ¬ k ≤ 0) : ¬ k = 0 := fun e => hk (by rw [e]; decide)
theorem k2p : ¬ (2 : Int32) ≤ 0 := by decide
section
variable {S : XS} {δ : St} {f : Nat → Int32} {z a : Nat}
theorem K_fd0 {Q : Int32 → St → Prop} {b p : Int32} (H : Q 0 (uC δ b 0 p)) : CM S m_Tp_failed [.ref 1] (enc (uC δ b 0 p)) (qI Q) := C_Tp_failed _ (B_Tp_failed_0 _ (bq_t rfl H))
theorem K_fd1 {Q : Int32 → St → Prop} {b k p : Int32} (hk : ¬ k ≤ 0) (H : Q 1 (uC δ b k p)) : CM S m_Tp_failed [.ref 1] (enc (uC δ b k p)) (qI Q) := C_Tp_failed _ (B_Tp_failed_0 _ (bq_f (fun e => hk (by rw [← uC_g2 δ b k p, e]; decide)) H))
theorem K_fail0 {Q : St → Prop} {b p x y : Int32} (H : Q (uC δ b x y)) : CM S m_Tp_fail [.ref 1, .int x, .int y] (enc (uC δ b 0 p)) (qV Q) := by
  refine C_Tp_fail _ _ _ (B_Tp_fail_0 _ _ _ (K_fd0 (bq_tn rfl ?_)))
  rw [uC_23]
  exact H
theorem K_fail1 {Q : St → Prop} {b k p x y : Int32} (hk : ¬ k ≤ 0) (H : Q (uC δ b k p)) : CM S m_Tp_fail [.ref 1, .int x, .int y] (enc (uC δ b k p)) (qV Q) :=
  C_Tp_fail _ _ _ (B_Tp_fail_0 _ _ _ (K_fd1 hk (bq_fn (by decide) H)))
theorem K_skU {Q : St → Prop} {k p : Int32} (h : TCo δ f z) (ha : a ≤ z) (H : Q (uC δ (nI (skf f z a)) k p)) : CM S m_Tp_skipBlanks [.ref 1] (enc (uC δ (nI a) k p)) (qV Q) :=
  K_skip (h.t ha) (by rw [uC_1]; exact H)
theorem K_fn0 {Q : St → Prop} {p : Int32} (h : TCo δ f z) (ha : a ≤ z) (H : Q (uC δ (nI (skf f z a)) 1 (nI (skf f z a)))) : CM S m_Tp_failNext [.ref 1] (enc (uC δ (nI a) 0 p)) (qV Q) := by
  refine C_Tp_failNext _ (B_Tp_failNext_0 _ (K_skU h ha ?_))
  rw [uC_g1]
  exact K_fail0 H
theorem K_fn1 {Q : St → Prop} {k p : Int32} (hk : ¬ k ≤ 0) (h : TCo δ f z) (ha : a ≤ z) (H : Q (uC δ (nI (skf f z a)) k p)) : CM S m_Tp_failNext [.ref 1] (enc (uC δ (nI a) k p)) (qV Q) :=
  C_Tp_failNext _ (B_Tp_failNext_0 _ (K_skU h ha (K_fail1 hk H)))
theorem K_isFW {Q : Int32 → St → Prop} {σ : St} {n : Nat} (h : TC σ f z a) (hn : a + n ≤ z) (H1 : fwB f a n = true → Q 1 σ) (H0 : fwB f a n = false → Q 0 σ) : CM S m_Tp_isFactWord [.ref 1, .int (nI n)] (enc σ) (qI Q) := by
  refine C_Tp_isFactWord _ _ (B_Tp_isFactWord_0 _ _ ?_)
  refine K_isWord h (by decide) hn (fun w => bq_fn (by decide) (H1 ?_)) (fun w0 => bq_tn rfl ?_)
  · unfold fwB; rw [wrB_t w]; rfl
  refine K_isWord h (by decide) hn (fun w => bq_fn (by decide) (H1 ?_)) (fun w1 => bq_tn rfl ?_)
  · unfold fwB; rw [wrB_f w0, wrB_t w]; rfl
  refine K_isWord h (by decide) hn (fun w => bq_fn (by decide) (H1 ?_)) (fun w2 => bq_tn rfl ?_)
  · unfold fwB; rw [wrB_f w0, wrB_f w1, wrB_t w]; rfl
  refine K_isWord h (by decide) hn (fun w => bq_f (by decide) (H1 ?_)) (fun w3 => bq_t rfl (H0 ?_))
  · unfold fwB; rw [wrB_f w0, wrB_f w1, wrB_f w2, wrB_t w]; rfl
  · unfold fwB; rw [wrB_f w0, wrB_f w1, wrB_f w2, wrB_f w3]; rfl
theorem K_rn1 {Q : Int64 → St → Prop} {b k p : Int32} (hk : ¬ k ≤ 0) (H : Q 0 (uC δ b k p)) : CM S m_Tp_readName [.ref 1] (enc (uC δ b k p)) (qL Q) :=
  C_Tp_readName _ (B_Tp_readName_0 _ (K_fd1 hk (bq_f (by decide) H)))
theorem K_nu1 {Q : Int32 → St → Prop} {lo hi b k p : Int32} (hk : ¬ k ≤ 0) (H : Q 0 (uC δ b k p)) : CM S m_Tp_readNumber [.ref 1, .int lo, .int hi] (enc (uC δ b k p)) (qI Q) :=
  C_Tp_readNumber _ _ _ (B_Tp_readNumber_0 _ _ _ (K_fd1 hk (bq_f (by decide) H)))
theorem K_pw1 {Q : Int32 → St → Prop} {t : Nat} {b k p : Int32} (hk : ¬ k ≤ 0) (H : Q 0 (uC δ b k p)) : CM S m_Tp_passWord [.ref 1, .retAddr t] (enc (uC δ b k p)) (qI Q) :=
  C_Tp_passWord _ _ (B_Tp_passWord_0 _ _ (K_fd1 hk (bq_f (by decide) H)))
theorem K_rn0 {Q : Int64 → St → Prop} (h : TCo δ f z) (ha : a ≤ z) (H : pc z (nmS f z a) (fun k p => Q 0 (uC δ (nI (skf f z a)) k p)) (fun e => Q (nm (fun i => f (skf f z a + i)) (e - skf f z a)) (uC δ (nI e) 0 (-1)))) : CM S m_Tp_readName [.ref 1] (enc (uC δ (nI a) 0 (-1))) (qL Q) := by
  obtain ⟨b1, b2⟩ := skf_b (f := f) ha
  have hz := h.2.2
  refine C_Tp_readName _ (B_Tp_readName_0 _ (K_fd0 (bq_t rfl (K_letters (h.t ha) ?_))))
  unfold nmS at H
  rw [uC_1]
  generalize skf f z a = r at H b1 b2 ⊢
  obtain ⟨c1, c2⟩ := rnf_b (lo := 97) (hi := 122) (f := f) b2
  unfold nmR at H
  generalize rnf 97 122 f z r = e at H c1 c2 ⊢
  by_cases y : e = r
  · rw [if_pos (Or.inl y)] at H
    refine bq_t (by rw [y, Nat.sub_self]; rfl) ?_
    rw [uC_g1]
    exact K_fail0 (H k1p)
  · refine bq_f (nI_ne0 (by omega) (by omega)) (K_isFW (h.t b2) (by omega) (fun w => ?_) (fun w => ?_))
    · rw [if_pos (Or.inr w)] at H
      refine bq_f (by decide) ?_
      rw [uC_g1]
      exact K_fail0 (H k1p)
    · rw [if_neg (fun k => k.elim y (fun k2 => by rw [w] at k2; exact Bool.noConfusion k2))] at H
      refine bq_t rfl ?_
      by_cases y2 : 10 < e - r
      · rw [if_pos y2] at H
        refine bq_f (nI_ge (b := e - r) (a := 10) y2 (by omega)) ?_
        rw [uC_g1, show (10 : Int32) = nI 10 from rfl, nI_add]
        exact K_fail0 (H k1p)
      · rw [if_neg y2] at H
        refine bq_t (nI_le (b := 10) (by omega) (by decide)) ?_
        have H := H c2
        have L : ∀ d i, (e - r) - i = d → i ≤ e - r → BW S m_Tp_readName 62 [some (.ref 1), some (.int (nI (e - r))), some (.long (nm (fun i => f (r + i)) i)), none, some (.int (nI i))] [] (enc (uC δ (nI r) 0 (-1))) (qL Q) := by
          intro d
          induction d with
          | zero =>
            intro i hd hi
            obtain rfl : i = e - r := by omega
            refine B_Tp_readName_62 _ _ _ _ (bq_t (nI_le (Nat.le_refl _) (by omega)) ?_)
            rw [uC_g1, nI_add, uC_1, show r + (e - r) = e by omega]
            exact H
          | succ d ih =>
            intro i hd hi
            refine B_Tp_readName_62 _ _ _ _ (bq_f (nI_ge (by omega) (by omega)) ?_)
            rw [uC_g1, nI_add]
            refine K_byte (h.t b2) (by omega) ?_
            rw [nI_1]
            have eb : hvf f z (r + i) = f (r + i) := by unfold hvf; rw [if_pos (by omega)]
            rw [eb]
            exact ih (i + 1) (by omega) (by omega)
        exact L _ 0 rfl (by omega)
theorem K_nu0 {Q : Int32 → St → Prop} {lo hi : Int32} (h : TCo δ f z) (ha : a ≤ z) (H : pc z (nuS lo hi f z a) (fun k p => Q 0 (uC δ (nI (skf f z a)) k p)) (fun e => Q (dv f (skf f z a) (e - skf f z a)) (uC δ (nI e) 0 (-1)))) : CM S m_Tp_readNumber [.ref 1, .int lo, .int hi] (enc (uC δ (nI a) 0 (-1))) (qI Q) := by
  obtain ⟨b1, b2⟩ := skf_b (f := f) ha
  have hz := h.2.2
  refine C_Tp_readNumber _ _ _ (B_Tp_readNumber_0 _ _ _ (K_fd0 (bq_t rfl (K_digsA (h.t ha) ?_))))
  unfold nuS at H
  rw [uC_1]
  generalize skf f z a = r at H b1 b2 ⊢
  obtain ⟨c1, c2⟩ := rnf_b (lo := 48) (hi := 57) (f := f) b2
  unfold nuR at H
  generalize rnf 48 57 f z r = e at H c1 c2 ⊢
  by_cases y : e = r
  · rw [if_pos y] at H
    refine bq_tn (by rw [y, Nat.sub_self]; rfl) ?_
    rw [uC_g1]
    exact K_fail0 (H k1p)
  · rw [if_neg y] at H
    refine bq_fn (nI_ne0 (by omega) (by omega)) ?_
    by_cases y2 : 5 < e - r
    · rw [if_pos y2] at H
      refine bq_f (nI_ge (b := e - r) (a := 5) y2 (by omega)) ?_
      rw [uC_g1, show (5 : Int32) = nI 5 from rfl, nI_add]
      exact K_fail0 (H k1p)
    · rw [if_neg y2] at H
      refine bq_t (nI_le (b := 5) (by omega) (by decide)) ?_
      have L : ∀ d i, (e - r) - i = d → i ≤ e - r → BW S m_Tp_readNumber 53 [some (.ref 1), some (.int lo), some (.int hi), some (.int (nI (e - r))), some (.int (dv f r i)), some (.int (nI i))] [] (enc (uC δ (nI r) 0 (-1))) (qI Q) := by
        intro d
        induction d with
        | zero =>
          intro i hd hi'
          obtain rfl : i = e - r := by omega
          refine B_Tp_readNumber_53 _ _ _ _ _ _ (bq_t (nI_le (Nat.le_refl _) (by omega)) ?_)
          rw [uC_g1]
          by_cases y3 : dv f r (e - r) < lo
          · rw [if_pos (Or.inl y3)] at H
            exact bq_t y3 (K_fail0 (H k2p))
          · refine bq_f y3 ?_
            by_cases y4 : hi < dv f r (e - r)
            · rw [if_pos (Or.inr y4)] at H
              exact bq_f (Int32.not_le.mpr y4) (K_fail0 (H k2p))
            · rw [if_neg (fun k => k.elim y3 y4)] at H
              refine bq_t (Int32.not_lt.mp y4) ?_
              rw [nI_add, uC_1, show r + (e - r) = e by omega]
              exact H c2
        | succ d ih =>
          intro i hd hi'
          refine B_Tp_readNumber_53 _ _ _ _ _ _ (bq_f (nI_ge (by omega) (by omega)) ?_)
          rw [uC_g1, nI_add]
          refine K_byte (h.t b2) (by omega) ?_
          rw [nI_1]
          have eb : hvf f z (r + i) = f (r + i) := by unfold hvf; rw [if_pos (by omega)]
          rw [eb]
          exact ih (i + 1) (by omega) (by omega)
      exact L _ 0 rfl (by omega)
theorem K_pw0 {Q : Int32 → St → Prop} {t : Nat} {p : Int32} (h : TCo δ f z) (ha : a ≤ z) (ht : t < 7) (H1 : wrB f (skf f z a) (rnf 97 122 f z (skf f z a) - skf f z a) t = true → rnf 97 122 f z (skf f z a) ≤ z → Q 1 (uC δ (nI (rnf 97 122 f z (skf f z a))) 0 p)) (H0 : wrB f (skf f z a) (rnf 97 122 f z (skf f z a) - skf f z a) t = false → skf f z a ≤ z → Q 0 (uC δ (nI (skf f z a)) 0 p)) : CM S m_Tp_passWord [.ref 1, .retAddr t] (enc (uC δ (nI a) 0 p)) (qI Q) := by
  obtain ⟨b1, b2⟩ := skf_b (f := f) ha
  refine C_Tp_passWord _ _ (B_Tp_passWord_0 _ _ (K_fd0 (bq_t rfl (K_letters (h.t ha) ?_))))
  rw [uC_1]
  generalize skf f z a = r at H0 H1 b1 b2 ⊢
  obtain ⟨c1, c2⟩ := rnf_b (lo := 97) (hi := 122) (f := f) b2
  generalize rnf 97 122 f z r = e at H0 H1 c1 c2 ⊢
  refine K_isWord (h.t b2) ht (by omega) (fun w => bq_fn (by decide) ?_) (fun w => bq_tn rfl (H0 (wrB_f w) b2))
  rw [uC_g1, nI_add, uC_1, show r + (e - r) = e by omega]
  exact H1 (wrB_t w) c2
theorem K_nw0 {Q : St → Prop} {t : Nat} (h : TCo δ f z) (ha : a ≤ z) (ht : t < 7) (H : pc z (wdS t f z a) (fun k p => Q (uC δ (nI (skf f z a)) k p)) (fun e => Q (uC δ (nI e) 0 (-1)))) : CM S m_Tp_needWord [.ref 1, .retAddr t] (enc (uC δ (nI a) 0 (-1))) (qV Q) := by
  refine C_Tp_needWord _ _ (B_Tp_needWord_0 _ _ (K_pw0 h ha ht (fun w k => bq_fn (by decide) ?_) (fun w k => bq_tn rfl (K_fn0 h k ?_))))
  · unfold wdS wdR at H
    rw [if_pos w] at H
    exact H k
  · unfold wdS wdR at H
    rw [if_neg (by rw [w]; decide)] at H
    rw [skf_id]
    exact H k1p
theorem K_nw1 {Q : St → Prop} {t : Nat} {k p : Int32} (hk : ¬ k ≤ 0) (h : TCo δ f z) (ha : a ≤ z) (H : ∀ b, b ≤ z → Q (uC δ (nI b) k p)) : CM S m_Tp_needWord [.ref 1, .retAddr t] (enc (uC δ (nI a) k p)) (qV Q) :=
  C_Tp_needWord _ _ (B_Tp_needWord_0 _ _ (K_pw1 hk (bq_tn rfl (K_fn1 hk h ha (H _ (skf_b ha).2)))))
theorem K_sg0 {Q : St → Prop} {c : Int32} (h : TCo δ f z) (ha : a ≤ z) (hc : ¬ c = -1) (H : pc z (sgS c f z a) (fun k p => Q (uC δ (nI (skf f z a)) k p)) (fun e => Q (uC δ (nI e) 0 (-1)))) : CM S m_Tp_needSign [.ref 1, .int c] (enc (uC δ (nI a) 0 (-1))) (qV Q) := by
  obtain ⟨b1, b2⟩ := skf_b (f := f) ha
  have hz := h.2.2
  refine C_Tp_needSign _ _ (B_Tp_needSign_0 _ _ (K_skU h ha ?_))
  rw [uC_g1]
  refine K_byte (h.t b2) (by omega) ?_
  unfold sgS at H
  by_cases y : hvf f z (skf f z a) = c
  · rw [if_pos y] at H
    refine bq_tn y ?_
    rw [uC_g1, nI_1, uC_1]
    refine H ?_
    unfold hvf at y
    by_cases y2 : skf f z a < z
    · exact y2
    · rw [if_neg y2] at y
      exact absurd y.symm hc
  · rw [if_neg y] at H
    refine bq_fn y (K_fn0 h b2 ?_)
    rw [skf_id]
    exact H k1p
theorem K_sg1 {Q : St → Prop} {c k p : Int32} (hk : ¬ k ≤ 0) (h : TCo δ f z) (ha : a ≤ z) (hc : ¬ c = -1) (H : ∀ b, b ≤ z → Q (uC δ (nI b) k p)) : CM S m_Tp_needSign [.ref 1, .int c] (enc (uC δ (nI a) k p)) (qV Q) := by
  obtain ⟨b1, b2⟩ := skf_b (f := f) ha
  have hz := h.2.2
  refine C_Tp_needSign _ _ (B_Tp_needSign_0 _ _ (K_skU h ha ?_))
  rw [uC_g1]
  refine K_byte (h.t b2) (by omega) ?_
  by_cases y : hvf f z (skf f z a) = c
  · refine bq_tn y ?_
    rw [uC_g1, nI_1, uC_1]
    refine H _ ?_
    unfold hvf at y
    by_cases y2 : skf f z a < z
    · exact y2
    · rw [if_neg y2] at y
      exact absurd y.symm hc
  · exact bq_fn y (K_fn1 hk h b2 (H _ (skf_b b2).2))
theorem K_en0 {Q : St → Prop} (h : TCo δ f z) (ha : a ≤ z) (H : pc z (enS f z a) (fun k p => Q (uC δ (nI (skf f z a)) k p)) (fun e => Q (uC δ (nI e) 0 (-1)))) : CM S m_Tp_needEnd [.ref 1] (enc (uC δ (nI a) 0 (-1))) (qV Q) := by
  obtain ⟨b1, b2⟩ := skf_b (f := f) ha
  have hz := h.2.2
  refine C_Tp_needEnd _ (B_Tp_needEnd_0 _ (K_skU h ha ?_))
  rw [uC_g1, uC_g0, h.2.1]
  unfold enS at H
  by_cases y : skf f z a < z
  · rw [if_pos y] at H
    refine bq_f (nI_ge y (by omega)) (K_fn0 h b2 ?_)
    rw [skf_id]
    exact H k1p
  · rw [if_neg y] at H
    exact bq_t (nI_le (by omega) (by omega)) (H b2)
theorem K_en1 {Q : St → Prop} {k p : Int32} (hk : ¬ k ≤ 0) (h : TCo δ f z) (ha : a ≤ z) (H : ∀ b, b ≤ z → Q (uC δ (nI b) k p)) : CM S m_Tp_needEnd [.ref 1] (enc (uC δ (nI a) k p)) (qV Q) := by
  obtain ⟨b1, b2⟩ := skf_b (f := f) ha
  exact C_Tp_needEnd _ (B_Tp_needEnd_0 _ (K_skU h ha (bq_s (fun _ => H _ b2) (fun _ => K_fn1 hk h b2 (H _ (skf_b b2).2)))))
end
