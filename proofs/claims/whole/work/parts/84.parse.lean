/-! READING THE TAPE. -/
def skp (f : Nat → Int32) (z : Nat) : Nat → Nat → Nat
  | 0, a => a
  | d + 1, a => if a < z ∧ (f a = 10 ∨ f a = 32) then skp f z d (a + 1) else a
/-- where the blanks from a on end -/
def skf (f : Nat → Int32) (z a : Nat) : Nat := skp f z (z - a) a
theorem skf_t {f : Nat → Int32} {z a : Nat} (h : a < z) (hb : f a = 10 ∨ f a = 32) : skf f z a = skf f z (a + 1) := by
  unfold skf
  obtain ⟨d, hd⟩ : ∃ d, z - a = d + 1 := ⟨z - a - 1, by omega⟩
  rw [hd, show z - (a + 1) = d by omega]
  show (if a < z ∧ (f a = 10 ∨ f a = 32) then skp f z d (a + 1) else a) = _
  rw [if_pos ⟨h, hb⟩]
theorem skf_f {f : Nat → Int32} {z a : Nat} (h : ¬ (a < z ∧ (f a = 10 ∨ f a = 32))) : skf f z a = a := by
  unfold skf
  cases hd : z - a with
  | zero => rfl
  | succ d =>
    show (if a < z ∧ (f a = 10 ∨ f a = 32) then skp f z d (a + 1) else a) = _
    rw [if_neg h]
theorem skf_p {f : Nat → Int32} {z : Nat} : ∀ d a, z - a = d → a ≤ skf f z a ∧ (a ≤ z → skf f z a ≤ z) ∧ ¬ (skf f z a < z ∧ (f (skf f z a) = 10 ∨ f (skf f z a) = 32)) := by
  intro d
  induction d with
  | zero =>
    intro a hd
    have e : skf f z a = a := skf_f (fun h => by omega)
    rw [e]
    exact ⟨Nat.le_refl _, fun h => h, fun h => by omega⟩
  | succ d ih =>
    intro a hd
    by_cases y : a < z ∧ (f a = 10 ∨ f a = 32)
    · rw [skf_t y.1 y.2]
      obtain ⟨i1, i2, i3⟩ := ih (a + 1) (by omega)
      exact ⟨by omega, fun _ => i2 (by omega), i3⟩
    · rw [skf_f y]
      exact ⟨Nat.le_refl _, fun h => h, y⟩
theorem skf_id {f : Nat → Int32} {z a : Nat} : skf f z (skf f z a) = skf f z a := skf_f (skf_p (z - a) a rfl).2.2
theorem sX_sX (σ : St) (k : Nat) (u v : Int32) : sX (sX σ k u) k v = sX σ k v := by
  show ((va_up (va_up σ.1.1 k u) k v, σ.1.2), σ.2) = ((va_up σ.1.1 k v, σ.1.2), σ.2)
  rw [va_up2]
theorem sX_id (σ : St) (k : Nat) : sX σ k (gX σ k) = σ := by
  show ((va_up σ.1.1 k (σ.1.1 k), σ.1.2), σ.2) = σ
  rw [va_ups]
theorem sY_sY (σ : St) (k : Nat) (u v : Int32) : sY (sY σ k u) k v = sY σ k v := by
  show (σ.1, va_up (va_up σ.2.1 k u) k v, σ.2.2) = (σ.1, va_up σ.2.1 k v, σ.2.2)
  rw [va_up2]
theorem sY_id (σ : St) (k : Nat) : sY σ k (gY σ k) = σ := by
  show (σ.1, va_up σ.2.1 k (σ.2.1 k), σ.2.2) = σ
  rw [va_ups]
/-- runs of letters (97 .. 122) or digits (48 .. 57) -/
def rnp (lo hi : Int32) (f : Nat → Int32) (z : Nat) : Nat → Nat → Nat
  | 0, a => a
  | d + 1, a => if a < z ∧ (lo ≤ f a ∧ f a ≤ hi) then rnp lo hi f z d (a + 1) else a
def rnf (lo hi : Int32) (f : Nat → Int32) (z a : Nat) : Nat := rnp lo hi f z (z - a) a
theorem rnf_t {lo hi : Int32} {f : Nat → Int32} {z a : Nat} (h : a < z) (hb : lo ≤ f a ∧ f a ≤ hi) : rnf lo hi f z a = rnf lo hi f z (a + 1) := by
  unfold rnf
  obtain ⟨d, hd⟩ : ∃ d, z - a = d + 1 := ⟨z - a - 1, by omega⟩
  rw [hd, show z - (a + 1) = d by omega]
  show (if a < z ∧ (lo ≤ f a ∧ f a ≤ hi) then rnp lo hi f z d (a + 1) else a) = _
  rw [if_pos ⟨h, hb⟩]
theorem rnf_f {lo hi : Int32} {f : Nat → Int32} {z a : Nat} (h : ¬ (a < z ∧ (lo ≤ f a ∧ f a ≤ hi))) : rnf lo hi f z a = a := by
  unfold rnf
  cases hd : z - a with
  | zero => rfl
  | succ d =>
    show (if a < z ∧ (lo ≤ f a ∧ f a ≤ hi) then rnp lo hi f z d (a + 1) else a) = _
    rw [if_neg h]
theorem rnf_p {lo hi : Int32} {f : Nat → Int32} {z : Nat} : ∀ d a, z - a = d → a ≤ rnf lo hi f z a ∧ (a ≤ z → rnf lo hi f z a ≤ z) ∧ (∀ i, a ≤ i → i < rnf lo hi f z a → i < z ∧ lo ≤ f i ∧ f i ≤ hi) ∧ ¬ (rnf lo hi f z a < z ∧ (lo ≤ f (rnf lo hi f z a) ∧ f (rnf lo hi f z a) ≤ hi)) := by
  intro d
  induction d with
  | zero =>
    intro a hd
    have e : rnf lo hi f z a = a := rnf_f (fun h => by omega)
    rw [e]
    exact ⟨Nat.le_refl _, fun h => h, fun i h1 h2 => by omega, fun h => by omega⟩
  | succ d ih =>
    intro a hd
    by_cases y : a < z ∧ (lo ≤ f a ∧ f a ≤ hi)
    · rw [rnf_t y.1 y.2]
      obtain ⟨i1, i2, i3, i4⟩ := ih (a + 1) (by omega)
      refine ⟨by omega, fun _ => i2 (by omega), fun i h1 h2 => ?_, i4⟩
      by_cases e : i = a
      · rw [e]; exact y
      · exact i3 i (by omega) h2
    · rw [rnf_f y]
      exact ⟨Nat.le_refl _, fun h => h, fun i h1 h2 => by omega, y⟩
/-- the tape in the class: bytes f, size z, place a -/
def TC (σ : St) (f : Nat → Int32) (z a : Nat) : Prop := gA σ 0 = f ∧ gX σ 0 = nI z ∧ gX σ 1 = nI a ∧ z ≤ 200 ∧ a ≤ 1000
/-- the tape in the reference -/
def TM (σ : St) (f : Nat → Int32) (z a : Nat) : Prop := gC σ 0 = f ∧ gY σ 10 = nI z ∧ gY σ 9 = nI a ∧ z ≤ 200 ∧ a ≤ 1000
theorem TC.mv {σ : St} {f : Nat → Int32} {z a b : Nat} (h : TC σ f z a) (hb : b ≤ 1000) : TC (sX σ 1 (nI b)) f z b := ⟨h.1, h.2.1, by rw [gs_X_X, if_pos rfl], h.2.2.2.1, hb⟩
theorem TM.mv {σ : St} {f : Nat → Int32} {z a b : Nat} (h : TM σ f z a) (hb : b ≤ 1000) : TM (sY σ 9 (nI b)) f z b := ⟨h.1, h.2.1, by rw [gs_Y_Y, if_pos rfl], h.2.2.2.1, hb⟩
def hvf (f : Nat → Int32) (z a : Nat) : Int32 := if a < z then f a else -1
section
variable {S : XS} {σ : St} {f : Nat → Int32} {z a : Nat}
theorem K_skip {Q : St → Prop} (h : TC σ f z a) (H : Q (sX σ 1 (nI (skf f z a)))) : CM S m_Tp_skipBlanks [.ref 1] (enc σ) (qV Q) := by
  have L : ∀ d a, z - a = d → TC (sX σ 1 (nI a)) f z a → Q (sX σ 1 (nI (skf f z a))) → BW S m_Tp_skipBlanks 0 [some (.ref 1)] [] (enc (sX σ 1 (nI a))) (qV Q) := by
    intro d
    induction d with
    | zero =>
      intro a hd h H
      refine B_Tp_skipBlanks_0 _ ?_
      obtain ⟨h1, h2, h3, h4, h5⟩ := h
      rw [h2, h3]
      rw [skf_f (fun y => by omega)] at H
      exact bq_t (nI_le (by omega) (by omega)) H
    | succ d ih =>
      intro a hd h H
      obtain ⟨h1, h2, h3, h4, h5⟩ := id h
      refine B_Tp_skipBlanks_0 _ ?_
      rw [h2, h3, h1, nI_clamp (by omega), nI_1, sX_sX]
      refine bq_f (nI_ge (by omega) (by omega)) ⟨vp_in_nI (by omega) (by decide), ?_⟩
      have h6 : TC (sX σ 1 (nI (a + 1))) f z (a + 1) := ⟨h1, h2, by rw [gs_X_X, if_pos rfl], h4, by omega⟩
      by_cases y1 : f a = 10
      · rw [skf_t (by omega) (Or.inl y1)] at H
        exact bq_t y1 (ih (a + 1) (by omega) h6 H)
      · refine bq_f y1 ?_
        by_cases y2 : f a = 32
        · rw [skf_t (by omega) (Or.inr y2)] at H
          exact bq_tn y2 (ih (a + 1) (by omega) h6 H)
        · rw [skf_f (fun y => y.2.elim y1 y2)] at H
          exact bq_fn y2 H
  have e : sX σ 1 (nI a) = σ := by rw [← h.2.2.1]; exact sX_id σ 1
  have q := L (z - a) a rfl (by rw [e]; exact h) H
  rw [e] at q
  exact C_Tp_skipBlanks _ q
theorem K_here {Q : Int32 → St → Prop} (h : TM σ f z a) (H : Q (hvf f z (skf f z a)) (sY σ 9 (nI (skf f z a)))) : CM S m_Md_here [.ref 153] (enc σ) (qI Q) := by
  have L : ∀ d a, z - a = d → TM (sY σ 9 (nI a)) f z a → Q (hvf f z (skf f z a)) (sY σ 9 (nI (skf f z a))) → BW S m_Md_here 0 [some (.ref 153)] [] (enc (sY σ 9 (nI a))) (qI Q) := by
    intro d
    induction d with
    | zero =>
      intro a hd h H
      refine B_Md_here_0 _ ?_
      obtain ⟨h1, h2, h3, h4, h5⟩ := h
      rw [h2, h3]
      rw [skf_f (fun y => by omega)] at H
      unfold hvf at H
      rw [if_neg (by omega)] at H
      exact bq_t (nI_le (by omega) (by omega)) (bq_t (nI_le (by omega) (by omega)) H)
    | succ d ih =>
      intro a hd h H
      obtain ⟨h1, h2, h3, h4, h5⟩ := id h
      refine B_Md_here_0 _ ?_
      rw [h2, h3, h1, nI_clamp (by omega), nI_1, sY_sY]
      refine bq_f (nI_ge (by omega) (by omega)) ⟨vp_in_nI (by omega) (by decide), ?_⟩
      have h6 : TM (sY σ 9 (nI (a + 1))) f z (a + 1) := ⟨h1, h2, by rw [gs_Y_Y, if_pos rfl], h4, by omega⟩
      by_cases y1 : f a = 32
      · rw [skf_t (by omega) (Or.inr y1)] at H
        exact bq_t y1 (ih (a + 1) (by omega) h6 H)
      · refine bq_f y1 ?_
        by_cases y2 : f a = 10
        · rw [skf_t (by omega) (Or.inl y2)] at H
          exact bq_tn y2 (ih (a + 1) (by omega) h6 H)
        · rw [skf_f (fun y => y.2.elim y2 y1)] at H
          unfold hvf at H
          rw [if_pos (by omega)] at H
          exact bq_fn y2 (bq_f (nI_ge (by omega) (by omega)) H)
  have e : sY σ 9 (nI a) = σ := by rw [← h.2.2.1]; exact sY_id σ 9
  have q := L (z - a) a rfl (by rw [e]; exact h) H
  rw [e] at q
  exact C_Md_here _ q
theorem K_byte {Q : Int32 → St → Prop} {k : Nat} (h : TC σ f z a) (hk : k ≤ 2000) (H : Q (hvf f z k) σ) : CM S m_Tp_byteAt [.ref 1, .int (nI k)] (enc σ) (qI Q) := by
  obtain ⟨h1, h2, h3, h4, h5⟩ := h
  refine C_Tp_byteAt _ _ (B_Tp_byteAt_0 _ _ (bq_f (nI_pos (by omega)) ?_))
  rw [h2, h1, nI_clamp (by omega)]
  unfold hvf at H
  by_cases y : k < z
  · rw [if_pos y] at H
    exact bq_f (nI_ge y (by omega)) (bq_f (nI_ge (b := 200) (by omega) (by decide)) ⟨vp_in_nI (by omega) (by decide), H⟩)
  · rw [if_neg y] at H
    exact bq_t (nI_le (by omega) (by omega)) H
theorem K_letters {Q : Int32 → St → Prop} (h : TC σ f z a) (H : Q (nI (rnf 97 122 f z (skf f z a) - skf f z a)) (sX σ 1 (nI (skf f z a)))) : CM S m_Tp_lettersAhead [.ref 1] (enc σ) (qI Q) := by
  obtain ⟨p1, p2, p3⟩ := skf_p (f := f) (z := z) (z - a) a rfl
  have hz := h.2.2.2.1
  have ha := h.2.2.2.2
  have hr : skf f z a ≤ 1000 := by
    by_cases y : a ≤ z
    · have := p2 y; omega
    · rw [skf_f (fun w => by omega)]; exact ha
  refine C_Tp_lettersAhead _ (B_Tp_lettersAhead_0 _ (K_skip h ?_))
  have h2 := h.mv hr
  generalize hτ : sX σ 1 (nI (skf f z a)) = τ at h2 H ⊢
  generalize skf f z a = r at h2 H hr ⊢
  have L : ∀ d k, z - k = d → r ≤ k → k ≤ 1000 → rnf 97 122 f z k = rnf 97 122 f z r → BW S m_Tp_lettersAhead 9 [some (.ref 1), some (.int (nI k))] [] (enc τ) (qI Q) := by
    intro d
    induction d with
    | zero =>
      intro k hd h3 h4 h5
      refine B_Tp_lettersAhead_9 _ _ ?_
      rw [h2.2.1, h2.2.2.1, nI_sub h3]
      rw [← h5, rnf_f (fun y => by omega)] at H
      exact bq_t (nI_le (by omega) (by omega)) H
    | succ d ih =>
      intro k hd h3 h4 h5
      refine B_Tp_lettersAhead_9 _ _ ?_
      rw [h2.2.1, h2.2.2.1, nI_sub h3]
      have eb : hvf f z k = f k := by unfold hvf; rw [if_pos (by omega)]
      refine bq_f (nI_ge (by omega) (by omega)) (K_byte h2 (by omega) ?_)
      rw [eb]
      by_cases y1 : f k < 97
      · rw [← h5, rnf_f (fun y => Int32.not_le.mpr y1 y.2.1)] at H
        refine bq_t y1 ?_
        rw [h2.2.2.1, nI_sub h3]
        exact H
      · refine bq_f y1 (K_byte h2 (by omega) ?_)
        rw [eb]
        by_cases y2 : 122 < f k
        · rw [← h5, rnf_f (fun y => Int32.not_le.mpr y2 y.2.2)] at H
          refine bq_t y2 ?_
          rw [h2.2.2.1, nI_sub h3]
          exact H
        · refine bq_f y2 ?_
          rw [nI_1]
          exact ih (k + 1) (by omega) (by omega) (by omega) (by rw [← h5]; exact (rnf_t (by omega) ⟨Int32.not_lt.mp y1, Int32.not_lt.mp y2⟩).symm)
  have e9 : gX τ 1 = nI r := h2.2.2.1
  rw [e9]
  exact L (z - r) r rfl (Nat.le_refl _) hr rfl
end
