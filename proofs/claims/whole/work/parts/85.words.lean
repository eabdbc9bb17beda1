/-! WORDS AND NUMBERS ON THE TAPE. -/
section
variable {S : XS} {σ : St} {f : Nat → Int32} {z a : Nat}
theorem K_isLet {Q : Int32 → St → Prop} {x : Int32} (H1 : (97 ≤ x ∧ x ≤ 122) → Q 1 σ) (H0 : ¬ (97 ≤ x ∧ x ≤ 122) → Q 0 σ) : CM S m_Md_isLetter [.int x] (enc σ) (qI Q) :=
  C_Md_isLetter _ _ (B_Md_isLetter_0 _ _ (bq_s (fun k => H0 (fun y => Int32.not_le.mpr k y.1)) (fun k1 => bq_s (fun k => H0 (fun y => Int32.not_le.mpr k y.2)) (fun k2 => H1 ⟨Int32.not_lt.mp k1, Int32.not_lt.mp k2⟩))))
theorem K_isDig {Q : Int32 → St → Prop} {x : Int32} (H1 : (48 ≤ x ∧ x ≤ 57) → Q 1 σ) (H0 : ¬ (48 ≤ x ∧ x ≤ 57) → Q 0 σ) : CM S m_Md_isDigit [.int x] (enc σ) (qI Q) :=
  C_Md_isDigit _ _ (B_Md_isDigit_0 _ _ (bq_s (fun k => H0 (fun y => Int32.not_le.mpr k y.1)) (fun k1 => bq_s (fun k => H0 (fun y => Int32.not_le.mpr k y.2)) (fun k2 => H1 ⟨Int32.not_lt.mp k1, Int32.not_lt.mp k2⟩))))
theorem K_wordEnd {Q : Int32 → St → Prop} (h : TM σ f z a) (H : Q (nI (rnf 97 122 f z a)) σ) : CM S m_Md_wordEnd [.ref 153] (enc σ) (qI Q) := by
  obtain ⟨h1, h2, h3, h4, h5⟩ := h
  have L : ∀ d k, z - k = d → k ≤ 1000 → rnf 97 122 f z k = rnf 97 122 f z a → BW S m_Md_wordEnd 5 [some (.ref 153), some (.int (nI k))] [] (enc σ) (qI Q) := by
    intro d
    induction d with
    | zero =>
      intro k hd h6 h7
      refine B_Md_wordEnd_5 _ _ ?_
      rw [h2]
      rw [← h7, rnf_f (fun y => by omega)] at H
      exact bq_t (nI_le (by omega) (by omega)) H
    | succ d ih =>
      intro k hd h6 h7
      refine B_Md_wordEnd_5 _ _ ?_
      rw [h2, h1, nI_clamp (by omega), nI_1]
      refine bq_f (nI_ge (by omega) (by omega)) ⟨vp_in_nI (by omega) (by decide), K_isLet (fun y => bq_f (by decide) ?_) (fun y => bq_t rfl ?_)⟩
      · exact ih (k + 1) (by omega) (by omega) (by rw [← h7]; exact (rnf_t (by omega) y).symm)
      · rw [← h7, rnf_f (fun w => y w.2)] at H
        exact H
  refine C_Md_wordEnd _ (B_Md_wordEnd_0 _ ?_)
  rw [h3]
  exact L (z - a) a rfl h5 rfl
theorem K_digsA {Q : Int32 → St → Prop} (h : TC σ f z a) (H : Q (nI (rnf 48 57 f z (skf f z a) - skf f z a)) (sX σ 1 (nI (skf f z a)))) : CM S m_Tp_digitsAhead [.ref 1] (enc σ) (qI Q) := by
  obtain ⟨p1, p2, p3⟩ := skf_p (f := f) (z := z) (z - a) a rfl
  have hz := h.2.2.2.1
  have ha := h.2.2.2.2
  have hr : skf f z a ≤ 1000 := by
    by_cases y : a ≤ z
    · have := p2 y; omega
    · rw [skf_f (fun w => by omega)]; exact ha
  refine C_Tp_digitsAhead _ (B_Tp_digitsAhead_0 _ (K_skip h ?_))
  have h2 := h.mv hr
  generalize hτ : sX σ 1 (nI (skf f z a)) = τ at h2 H ⊢
  generalize skf f z a = r at h2 H hr ⊢
  have L : ∀ d k, z - k = d → r ≤ k → k ≤ 1000 → rnf 48 57 f z k = rnf 48 57 f z r → BW S m_Tp_digitsAhead 9 [some (.ref 1), some (.int (nI k))] [] (enc τ) (qI Q) := by
    intro d
    induction d with
    | zero =>
      intro k hd h3 h4 h5
      refine B_Tp_digitsAhead_9 _ _ ?_
      rw [h2.2.1, h2.2.2.1, nI_sub h3]
      rw [← h5, rnf_f (fun y => by omega)] at H
      exact bq_t (nI_le (by omega) (by omega)) H
    | succ d ih =>
      intro k hd h3 h4 h5
      refine B_Tp_digitsAhead_9 _ _ ?_
      rw [h2.2.1, h2.2.2.1, nI_sub h3]
      have eb : hvf f z k = f k := by unfold hvf; rw [if_pos (by omega)]
      refine bq_f (nI_ge (by omega) (by omega)) (K_byte h2 (by omega) ?_)
      rw [eb]
      by_cases y1 : f k < 48
      · rw [← h5, rnf_f (fun y => Int32.not_le.mpr y1 y.2.1)] at H
        refine bq_t y1 ?_
        rw [h2.2.2.1, nI_sub h3]
        exact H
      · refine bq_f y1 (K_byte h2 (by omega) ?_)
        rw [eb]
        by_cases y2 : 57 < f k
        · rw [← h5, rnf_f (fun y => Int32.not_le.mpr y2 y.2.2)] at H
          refine bq_t y2 ?_
          rw [h2.2.2.1, nI_sub h3]
          exact H
        · refine bq_f y2 ?_
          rw [nI_1]
          exact ih (k + 1) (by omega) (by omega) (by omega) (by rw [← h5]; exact (rnf_t (by omega) ⟨Int32.not_lt.mp y1, Int32.not_lt.mp y2⟩).symm)
  have e9 : gX τ 1 = nI r := h2.2.2.1
  rw [e9]
  exact L (z - r) r rfl (Nat.le_refl _) hr rfl
/-- the word t stands at a, n letters long -/
def wrd (f : Nat → Int32) (a n t : Nat) : Prop := n = xlen.getD t 0 ∧ ∀ i, i < n → f (a + i) = sch t i
theorem xlen_b : ∀ t, t < 7 → xlen.getD t 0 ≤ 7 ∧ 2 ≤ xlen.getD t 0 := by decide
theorem K_isWord {Q : Int32 → St → Prop} {t n : Nat} (h : TC σ f z a) (ht : t < 7) (hn : a + n ≤ z) (H1 : wrd f a n t → Q 1 σ) (H0 : ¬ wrd f a n t → Q 0 σ) : CM S m_Tp_isWord [.ref 1, .retAddr t, .int (nI n)] (enc σ) (qI Q) := by
  have hz := h.2.2.2.1
  have hx := xlen_b t ht
  refine C_Tp_isWord _ _ _ (B_Tp_isWord_0 _ _ _ ⟨ht, K_length σ ht ?_⟩)
  by_cases y : n = xlen.getD t 0
  · refine bq_t (by rw [y]) ?_
    have L : ∀ d k, n - k = d → k ≤ n → (∀ i, i < k → f (a + i) = sch t i) → BW S m_Tp_isWord 12 [some (.ref 1), some (.retAddr t), some (.int (nI n)), some (.int (nI k))] [] (enc σ) (qI Q) := by
      intro d
      induction d with
      | zero =>
        intro k hd hk hh
        have : k = n := by omega
        subst this
        exact B_Tp_isWord_12 _ _ _ _ (bq_t (nI_le (Nat.le_refl _) (by omega)) (H1 ⟨y, hh⟩))
      | succ d ih =>
        intro k hd hk hh
        refine B_Tp_isWord_12 _ _ _ _ (bq_f (nI_ge (by omega) (by omega)) ?_)
        rw [h.2.2.1, nI_add]
        refine K_byte h (by omega) ⟨ht, K_charAt σ ht (by omega) (by omega) ?_⟩
        have eb : hvf f z (a + k) = f (a + k) := by unfold hvf; rw [if_pos (by omega)]
        rw [eb, nI_1]
        by_cases c : f (a + k) = sch t k
        · refine bq_t c (ih (k + 1) (by omega) (by omega) (fun i hi => ?_))
          by_cases e : i = k
          · rw [e]; exact c
          · exact hh i (by omega)
        · exact bq_f c (H0 (fun w => c (w.2 k (by omega))))
    exact L n 0 (by omega) (by omega) (fun i hi => absurd hi (by omega))
  · exact bq_f (fun w => y ((nI_eq (by omega) (by omega)).mp w)) (H0 (fun w => y w.1))
def spW (t : Nat) : Int64 := ([1651470958, 1684365668, 26990, 28526, 31636739359862388, 1818326117, 29807] : List Int64).getD t 0
theorem spW_c : ∀ t, t < 7 → ∀ i, i < xlen.getD t 0 → ((spW t >>> ((8 * ((nI (xlen.getD t 0) - 1) - nI i)).toInt64 &&& 63)) &&& (255 : Int64)).toInt32 = sch t i := by decide +kernel
theorem K_spells {Q : Int32 → St → Prop} {t e : Nat} (h : TM σ f z a) (ht : t < 7) (hae : a ≤ e) (hez : e ≤ z) (H1 : wrd f a (e - a) t → Q 1 σ) (H0 : ¬ wrd f a (e - a) t → Q 0 σ) : CM S m_Md_spells [.ref 153, .int (nI e), .long (spW t), .int (nI (xlen.getD t 0))] (enc σ) (qI Q) := by
  obtain ⟨h1, h2, h3, h4, h5⟩ := h
  have hx := xlen_b t ht
  have hc := spW_c t ht
  generalize hn : xlen.getD t 0 = n at hx hc
  refine C_Md_spells _ _ _ _ (B_Md_spells_0 _ _ _ _ ?_)
  rw [h3, nI_sub hae]
  by_cases y : e - a = n
  · refine bq_t (by rw [y]) ?_
    have L0 : ¬ wrd f a (e - a) t → ∀ d k, n - k = d → k ≤ n → BW S m_Md_spells 19 [some (.ref 153), none, some (.long (spW t)), none, some (.int (nI n)), some (.int 0), some (.int (nI k))] [] (enc σ) (qI Q) := by
      intro hno d
      induction d with
      | zero =>
        intro k hd hk
        have : k = n := by omega
        subst this
        exact B_Md_spells_19 _ _ _ _ _ (bq_t (nI_le (Nat.le_refl _) (by omega)) ⟨lnb _ (Or.inl rfl), H0 hno⟩)
      | succ d ih =>
        intro k hd hk
        refine B_Md_spells_19 _ _ _ _ _ (bq_f (nI_ge (by omega) (by omega)) (bq_t rfl ?_))
        rw [nI_1]
        exact ih (k + 1) (by omega) (by omega)
    have L1 : ∀ d k, n - k = d → k ≤ n → (∀ i, i < k → f (a + i) = sch t i) → BW S m_Md_spells 19 [some (.ref 153), none, some (.long (spW t)), none, some (.int (nI n)), some (.int 1), some (.int (nI k))] [] (enc σ) (qI Q) := by
      intro d
      induction d with
      | zero =>
        intro k hd hk hh
        have : k = n := by omega
        subst this
        exact B_Md_spells_19 _ _ _ _ _ (bq_t (nI_le (Nat.le_refl _) (by omega)) ⟨lnb _ (Or.inr rfl), H1 ⟨by rw [hn]; exact y, fun i hi => hh i (by omega)⟩⟩)
      | succ d ih =>
        intro k hd hk hh
        refine B_Md_spells_19 _ _ _ _ _ (bq_f (nI_ge (by omega) (by omega)) (bq_f (by decide) ?_))
        rw [h3, h1, nI_add, nI_clamp (by omega), hc k (by omega), nI_1]
        refine ⟨vp_in_nI (by omega) (by decide), ?_⟩
        by_cases c : f (a + k) = sch t k
        · refine bq_tn c (ih (k + 1) (by omega) (by omega) (fun i hi => ?_))
          by_cases e2 : i = k
          · rw [e2]; exact c
          · exact hh i (by omega)
        · exact bq_fn c (L0 (fun w => c (w.2 k (by omega))) d (k + 1) (by omega) (by omega))
    exact L1 n 0 (by omega) (by omega) (fun i hi => absurd hi (by omega))
  · exact bq_f (fun w => y ((nI_eq (by omega) (by omega)).mp w)) (H0 (fun w => y (w.1.trans hn)))
end
