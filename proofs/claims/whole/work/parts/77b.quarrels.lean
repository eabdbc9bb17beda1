/-! an operation -/
def svf (ed e t s : Int32) : Int32 := if (if ed < e then ed else e) < t then 0 else if s = -1 then 1 else if s ≤ (if ed < e then ed else e) then 0 else 1
def SV (σ : St) (e : Int32) (i : Nat) : Int32 := svf (gA σ 9 (gC σ 18 i).toNatClampNeg) e (gC σ 19 i) (gC σ 20 i)
section
variable {S : XS} {σ : St} {Q : Int32 → St → Prop} {c : Nat} {e : Int32}
theorem K_stands (h : FQ σ c) {i : Nat} (hi : i < c) (H : Q (SV σ e i) σ) : CM S m_Fs_stands [.ref 134, .int (nI i), .int e, .ref 131] (enc σ) (qI Q) := by
  obtain ⟨⟨e1, e2, hc⟩, hf⟩ := h
  obtain ⟨q, a1, a2, n1⟩ := hf i hi
  obtain ⟨g1, g2, g3, g4, g5, g6, g7, g8, g9, g10⟩ := n1
  refine C_Fs_stands _ _ _ (B_Fs_stands_0 _ _ _ (K_numT e1 hc hi ⟨fun z => absurd (a1.symm.trans z) (by simp), fun q' z => ?_⟩))
  obtain rfl : q = q' := Option.some.inj (a1.symm.trans z)
  refine ⟨a2, ?_⟩
  rw [g6]
  refine C_Pa_lastEdition _ _ (B_Pa_lastEdition_0 _ _ (K_isPartT ⟨g7.1, g7.2⟩ (bq_f (by decide) ⟨vp_24 g7.1 g7.2, a2, C_Fa_standsIn _ _ _ (B_Fa_standsIn_0 _ _ _ ⟨a2, ?_⟩)⟩)))
  rw [g8, g10]
  unfold SV svf at H
  by_cases c1 : (if gA σ 9 (gC σ 18 i).toNatClampNeg < e then gA σ 9 (gC σ 18 i).toNatClampNeg else e) < gC σ 19 i
  · rw [if_pos c1] at H
    exact bq_t c1 (bq_t rfl H)
  · rw [if_neg c1] at H
    refine bq_f c1 ?_
    by_cases c2 : gC σ 20 i = -1
    · rw [if_pos c2] at H
      exact bq_t c2 (bq_f (by decide) H)
    · rw [if_neg c2] at H
      refine bq_f c2 ?_
      by_cases c3 : gC σ 20 i ≤ (if gA σ 9 (gC σ 18 i).toNatClampNeg < e then gA σ 9 (gC σ 18 i).toNatClampNeg else e)
      · rw [if_pos c3] at H
        exact bq_t c3 (bq_t rfl H)
      · rw [if_neg c3] at H
        exact bq_f c3 (bq_f (by decide) H)
theorem K_mstands (h : FQ σ c) (h9 : gC σ 21 = gA σ 9) {i : Nat} (hi : i < c) (H : Q (SV σ e i) σ) : CM S m_Md_stands2 [.ref 153, .int (nI i), .int e] (enc σ) (qI Q) := by
  obtain ⟨⟨e1, e2, hc⟩, hf⟩ := h
  obtain ⟨q, a1, a2, n1⟩ := hf i hi
  obtain ⟨g1, g2, g3, g4, g5, g6, g7, g8, g9, g10⟩ := n1
  refine C_Md_stands2 _ _ _ (B_Md_stands2_0 _ _ _ ⟨vp_in_nI (by omega) (by decide), ?_⟩)
  rw [nI_clamp (n := i) (by omega), h9]
  refine ⟨vp_24 g7.1 g7.2, ?_⟩
  have G : ∀ w, (if gA σ 9 (gC σ 18 i).toNatClampNeg < e then gA σ 9 (gC σ 18 i).toNatClampNeg else e) = w → ((w < gC σ 19 i → Q 0 σ) ∧ (¬ w < gC σ 19 i → ((gC σ 20 i = -1 → Q 1 σ) ∧ (¬ gC σ 20 i = -1 → ((gC σ 20 i ≤ w → Q 0 σ) ∧ (¬ gC σ 20 i ≤ w → Q 1 σ)))))) := by
    intro w hw
    unfold SV svf at H
    rw [hw] at H
    by_cases c1 : w < gC σ 19 i
    · rw [if_pos c1] at H
      exact bq_t c1 H
    · rw [if_neg c1] at H
      refine bq_f c1 ?_
      by_cases c2 : gC σ 20 i = -1
      · rw [if_pos c2] at H
        exact bq_t c2 H
      · rw [if_neg c2] at H
        refine bq_f c2 ?_
        by_cases c3 : gC σ 20 i ≤ w
        · rw [if_pos c3] at H
          exact bq_t c3 H
        · rw [if_neg c3] at H
          exact bq_f c3 H
  by_cases y : gA σ 9 (gC σ 18 i).toNatClampNeg ≤ e
  · refine bq_t y (G _ ?_)
    by_cases y2 : gA σ 9 (gC σ 18 i).toNatClampNeg < e
    · rw [if_pos y2]
    · rw [if_neg y2]
      have p1 := Int32.le_iff_toInt_le.mp y
      have p2 := Int32.le_iff_toInt_le.mp (Int32.not_lt.mp y2)
      exact Int32.toInt_inj.mp (by omega)
  · refine bq_f y (G _ ?_)
    rw [if_neg (fun z => y (Int32.le_of_lt z))]
end
/-- what was found: how many, the lesser ones, the others, the reference's row -/
abbrev QT : Type := Nat × (Nat → Int32) × (Nat → Int32) × (Nat → Int32)
def qadd (t : QT) (a b : Nat) : QT := (t.1 + 1, upd t.2.1 t.1 (nI a), upd t.2.2.1 t.1 (nI b), upd (upd t.2.2.2 (2 * t.1) (nI a)) (2 * t.1 + 1) (nI b))
def qin (P : Nat → Nat → Bool) (a : Nat) : Nat → Nat → QT → QT
  | 0, _, t => t
  | d + 1, b, t => qin P a d (b + 1) (if P a b = true then qadd t a b else t)
def qout (P : Nat → Nat → Bool) (c : Nat) : Nat → Nat → QT → QT
  | 0, _, t => t
  | d + 1, a, t => qout P c d (a + 1) (qin P a (c - (a + 1)) (a + 1) t)
theorem qin_none {P : Nat → Nat → Bool} {a : Nat} (h : ∀ b, P a b = false) : ∀ d b t, qin P a d b t = t := by
  intro d
  induction d with
  | zero => intro b t; rfl
  | succ d ih =>
    intro b t
    show qin P a d (b + 1) (if P a b = true then qadd t a b else t) = t
    rw [h b, if_neg (by decide), ih]
def tri : Nat → Nat
  | 0 => 0
  | m + 1 => m + tri m
theorem tri_le : ∀ m, m ≤ 60 → tri m ≤ 1770 := by decide
def QI (t : QT) : Prop := ∀ k, k < 1770 → t.2.2.2 (2 * k) = t.2.1 k ∧ t.2.2.2 (2 * k + 1) = t.2.2.1 k
theorem QI.add {t : QT} (h : QI t) (a b : Nat) : QI (qadd t a b) := by
  intro k hk
  have g := h k hk
  show upd (upd t.2.2.2 (2 * t.1) (nI a)) (2 * t.1 + 1) (nI b) (2 * k) = upd t.2.1 t.1 (nI a) k ∧ upd (upd t.2.2.2 (2 * t.1) (nI a)) (2 * t.1 + 1) (nI b) (2 * k + 1) = upd t.2.2.1 t.1 (nI b) k
  unfold upd
  by_cases y : k = t.1
  · rw [if_neg (by omega), if_pos (by omega), if_pos y, if_pos (by omega), if_pos y]
    exact ⟨rfl, rfl⟩
  · rw [if_neg (by omega), if_neg (by omega), if_neg y, if_neg (by omega), if_neg (by omega), if_neg y]
    exact g
theorem qin_p {P : Nat → Nat → Bool} {a : Nat} : ∀ d b t, QI t → QI (qin P a d b t) ∧ (qin P a d b t).1 ≤ t.1 + d := by
  intro d
  induction d with
  | zero => intro b t h; exact ⟨h, Nat.le_refl _⟩
  | succ d ih =>
    intro b t h
    show QI (qin P a d (b + 1) (if P a b = true then qadd t a b else t)) ∧ (qin P a d (b + 1) (if P a b = true then qadd t a b else t)).1 ≤ t.1 + (d + 1)
    by_cases y : P a b = true
    · rw [if_pos y]
      obtain ⟨i1, i2⟩ := ih (b + 1) (qadd t a b) (h.add a b)
      have e : (qadd t a b).1 = t.1 + 1 := rfl
      exact ⟨i1, by omega⟩
    · rw [if_neg y]
      obtain ⟨i1, i2⟩ := ih (b + 1) t h
      exact ⟨i1, by omega⟩
theorem qout_p {P : Nat → Nat → Bool} {c : Nat} : ∀ d a t, a + d = c → QI t → QI (qout P c d a t) ∧ (qout P c d a t).1 ≤ t.1 + tri d := by
  intro d
  induction d with
  | zero => intro a t _ h; exact ⟨h, Nat.le_refl _⟩
  | succ d ih =>
    intro a t hd h
    obtain ⟨j1, j2⟩ := qin_p (P := P) (a := a) (c - (a + 1)) (a + 1) t h
    obtain ⟨i1, i2⟩ := ih (a + 1) (qin P a (c - (a + 1)) (a + 1) t) (by omega) j1
    refine ⟨i1, ?_⟩
    show (qout P c d (a + 1) (qin P a (c - (a + 1)) (a + 1) t)).1 ≤ t.1 + (d + tri d)
    omega
noncomputable def PQ (σ : St) (e : Int32) (a b : Nat) : Bool := bo (¬ SV σ e a = 0 ∧ ¬ SV σ e b = 0 ∧ ¬ QV σ a b = 0)
def csq (σ : St) (t : QT) : St := sX (sA (sA σ 11 t.2.1) 12 t.2.2.1) 16 (nI t.1)
def msq (σ : St) (t : QT) : St := sY (sC σ 22 t.2.2.2) 12 (nI t.1)
theorem va_up2 {α : Type} (f : Nat → α) (k : Nat) (u v : α) : va_up (va_up f k u) k v = va_up f k v := by
  funext j
  unfold va_up
  by_cases h : j = k
  · rw [if_pos h, if_pos h]
  · rw [if_neg h, if_neg h, if_neg h]
theorem va_upc {α : Type} (f : Nat → α) {k l : Nat} (h : k ≠ l) (u v : α) : va_up (va_up f k u) l v = va_up (va_up f l v) k u := by
  funext j
  unfold va_up
  by_cases h1 : j = k
  · subst h1
    rw [if_neg h, if_pos rfl, if_pos rfl]
  · rw [if_neg h1, if_neg h1]
theorem csq_csq (σ : St) (t : QT) (A B : Nat → Int32) (v : Int32) : sX (sA (sA (csq σ t) 11 A) 12 B) 16 v = sX (sA (sA σ 11 A) 12 B) 16 v := by
  obtain ⟨⟨a1, a2, a3⟩, b⟩ := σ
  show ((va_up (va_up a1 16 (nI t.1)) 16 v, va_up (va_up (va_up (va_up a2 11 t.2.1) 12 t.2.2.1) 11 A) 12 B, a3), b) = ((va_up a1 16 v, va_up (va_up a2 11 A) 12 B, a3), b)
  rw [va_up2, va_upc (va_up a2 11 t.2.1) (by decide : (12 : Nat) ≠ 11) t.2.2.1 A, va_up2, va_up2]
theorem msq_msq (σ : St) (t : QT) (C : Nat → Int32) (v : Int32) : sY (sC (msq σ t) 22 C) 12 v = sY (sC σ 22 C) 12 v := by
  obtain ⟨a, b1, b2, b3⟩ := σ
  show (a, va_up (va_up b1 12 (nI t.1)) 12 v, va_up (va_up b2 22 t.2.2.2) 22 C, b3) = (a, va_up b1 12 v, va_up b2 22 C, b3)
  rw [va_up2, va_up2]
section
variable {S : XS} {σ : St} {c : Nat} {e : Int32}
theorem csL1 {Q : St → Prop} {a : Nat} (h : FQ σ c) (hsa : ¬ SV σ e a = 0) : ∀ d b t, c - b = d → a < b → b ≤ c → t.1 + d ≤ 1770 → Q (csq σ (qin (PQ σ e) a d b t)) → BW S m_Fs_findQuarrelsOf 5 [some (.ref 134), some (.int (nI a)), some (.int e), some (.ref 131), some (.int (nI b))] [] (enc (csq σ t)) (qV Q) := by
  intro d
  induction d with
  | zero =>
    intro b t hd hab hb ht H
    have hc := h.1.2.2
    refine B_Fs_findQuarrelsOf_5 _ _ _ _ ?_
    have e1 : gX (csq σ t) 15 = nI c := h.1.1
    rw [e1]
    exact bq_t (nI_le (by omega) (by omega)) H
  | succ d ih =>
    intro b t hd hab hb ht H
    have hc := h.1.2.2
    have hh : FQ (csq σ t) c := h
    have e1 : gX (csq σ t) 15 = nI c := h.1.1
    have e2 : gX (csq σ t) 16 = nI t.1 := by
      unfold csq
      rw [gs_X_X, if_pos rfl]
    refine B_Fs_findQuarrelsOf_5 _ _ _ _ ?_
    rw [e1]
    refine bq_f (nI_ge (by omega) (by omega)) (K_qOf hh (by omega) (by omega) (by omega) ?_)
    have eQ : QV (csq σ t) a b = QV σ a b := rfl
    have eS : SV (csq σ t) e b = SV σ e b := rfl
    rw [eQ, nI_1]
    have H2 : Q (csq σ (qin (PQ σ e) a d (b + 1) (if PQ σ e a b = true then qadd t a b else t))) := H
    by_cases y : QV σ a b = 0
    · have pf : ¬ PQ σ e a b = true := fun z => ((bo_t _).mpr z).2.2 y
      rw [if_neg pf] at H2
      exact bq_t (by rw [y]; decide) (ih (b + 1) t (by omega) (by omega) (by omega) (by omega) H2)
    · have y0 : ¬ QV σ a b ≤ 0 := by
        unfold QV at y ⊢
        intro z
        apply y
        revert z
        unfold qvf qlt
        repeat' split
        all_goals decide
      refine bq_f y0 (K_stands hh (by omega) ?_)
      rw [eS]
      by_cases y2 : SV σ e b = 0
      · have pf : ¬ PQ σ e a b = true := fun z => ((bo_t _).mpr z).2.1 y2
        rw [if_neg pf] at H2
        exact bq_t y2 (ih (b + 1) t (by omega) (by omega) (by omega) (by omega) H2)
      · have pt : PQ σ e a b = true := (bo_t _).mp ⟨hsa, y2, y⟩
        rw [if_pos pt] at H2
        refine bq_f y2 ?_
        rw [e2]
        refine bq_f (nI_ge (b := 1770) (by omega) (by decide)) ⟨vp_in_nI (by omega) (by decide), ?_⟩
        rw [nI_clamp (by omega), nI_1, csq_csq]
        have eA : gA (csq σ t) 11 = t.2.1 := rfl
        have eB : gA (csq σ t) 12 = t.2.2.1 := rfl
        rw [eA, eB]
        exact ih (b + 1) (qadd t a b) (by omega) (by omega) (by omega) (by show t.1 + 1 + d ≤ 1770; omega) H2
theorem csL2 {Q : Int32 → St → Prop} (h : FQ σ c) : ∀ d a t, a + d = c → QI t → t.1 + tri d ≤ 1770 → Q (nI (qout (PQ σ e) c d a t).1) (csq σ (qout (PQ σ e) c d a t)) → BW S m_Fs_findQuarrels 7 [some (.ref 134), some (.int e), some (.ref 131), some (.int (nI a))] [] (enc (csq σ t)) (qI Q) := by
  intro d
  induction d with
  | zero =>
    intro a t hd hQ ht H
    have hc := h.1.2.2
    refine B_Fs_findQuarrels_7 _ _ _ ?_
    have e1 : gX (csq σ t) 15 = nI c := h.1.1
    have e2 : gX (csq σ t) 16 = nI t.1 := by
      unfold csq
      rw [gs_X_X, if_pos rfl]
    rw [e1, e2]
    exact bq_t (nI_le (by omega) (by omega)) H
  | succ d ih =>
    intro a t hd hQ ht H
    have hc := h.1.2.2
    have ht2 : t.1 + (d + tri d) ≤ 1770 := ht
    have hh : FQ (csq σ t) c := h
    have e1 : gX (csq σ t) 15 = nI c := h.1.1
    obtain ⟨p1, p2⟩ := qin_p (P := PQ σ e) (a := a) (c - (a + 1)) (a + 1) t hQ
    refine B_Fs_findQuarrels_7 _ _ _ ?_
    rw [e1]
    refine bq_f (nI_ge (by omega) (by omega)) (K_stands hh (by omega) ?_)
    have eS : SV (csq σ t) e a = SV σ e a := rfl
    have H2 : Q (nI (qout (PQ σ e) c d (a + 1) (qin (PQ σ e) a (c - (a + 1)) (a + 1) t)).1) (csq σ (qout (PQ σ e) c d (a + 1) (qin (PQ σ e) a (c - (a + 1)) (a + 1) t))) := H
    rw [eS, nI_1]
    by_cases y : SV σ e a = 0
    · have pf : ∀ b, PQ σ e a b = false := fun b => by
        cases hP : PQ σ e a b with
        | false => rfl
        | true => exact absurd y ((bo_t _).mpr hP).1
      rw [qin_none pf] at H2
      exact bq_t y (ih (a + 1) t (by omega) hQ (by omega) H2)
    · refine bq_f y (C_Fs_findQuarrelsOf _ _ _ (B_Fs_findQuarrelsOf_0 _ _ _ ?_))
      rw [nI_1]
      exact csL1 h y (c - (a + 1)) (a + 1) t rfl (by omega) (by omega) (by omega) (ih (a + 1) _ (by omega) p1 (by omega) H2)
theorem msL1 {Q : Int32 → St → Prop} {a : Nat} (h : FQ σ c) (h9 : gC σ 21 = gA σ 9) (ha : a < c) : ∀ d b t, c - b = d → a < b → b ≤ c → t.1 + d ≤ 1770 → BW S m_Md_quarrels 18 [some (.ref 153), some (.int e), some (.int (nI (a + 1))), none] [] (enc (msq σ (qin (PQ σ e) a d b t))) (qI Q) → BW S m_Md_quarrels 30 [some (.ref 153), some (.int e), some (.int (nI a)), some (.int (nI b))] [] (enc (msq σ t)) (qI Q) := by
  intro d
  induction d with
  | zero =>
    intro b t hd hab hb ht H
    have hc := h.1.2.2
    refine B_Md_quarrels_30 _ _ _ _ ?_
    have e1 : gY (msq σ t) 11 = nI c := h.1.2.1
    rw [e1, nI_1]
    exact bq_t (nI_le (by omega) (by omega)) H
  | succ d ih =>
    intro b t hd hab hb ht H
    have hc := h.1.2.2
    have hh : FQ (msq σ t) c := h
    have h99 : gC (msq σ t) 21 = gA (msq σ t) 9 := h9
    have e1 : gY (msq σ t) 11 = nI c := h.1.2.1
    have e2 : gY (msq σ t) 12 = nI t.1 := by
      unfold msq
      rw [gs_Y_Y, if_pos rfl]
    have eQ : QV (msq σ t) a b = QV σ a b := rfl
    have eS : SV (msq σ t) e b = SV σ e b := rfl
    have eS2 : SV (msq σ t) e a = SV σ e a := rfl
    have H2 : BW S m_Md_quarrels 18 [some (.ref 153), some (.int e), some (.int (nI (a + 1))), none] [] (enc (msq σ (qin (PQ σ e) a d (b + 1) (if PQ σ e a b = true then qadd t a b else t)))) (qI Q) := H
    refine B_Md_quarrels_30 _ _ _ _ ?_
    rw [e1]
    refine bq_f (nI_ge (by omega) (by omega)) (K_mstands hh h99 (by omega) ?_)
    rw [eS2, nI_1]
    by_cases y1 : SV σ e a = 0
    · have pf : ¬ PQ σ e a b = true := fun z => ((bo_t _).mpr z).1 y1
      rw [if_neg pf] at H2
      exact bq_t y1 (ih (b + 1) t (by omega) (by omega) (by omega) (by omega) H2)
    · refine bq_f y1 (K_mstands hh h99 (by omega) ?_)
      rw [eS]
      by_cases y2 : SV σ e b = 0
      · have pf : ¬ PQ σ e a b = true := fun z => ((bo_t _).mpr z).2.1 y2
        rw [if_neg pf] at H2
        exact bq_t y2 (ih (b + 1) t (by omega) (by omega) (by omega) (by omega) H2)
      · refine bq_f y2 (K_mq0 hh (by omega) (by omega) (by omega) ?_)
        rw [eQ]
        by_cases y3 : QV σ a b = 0
        · have pf : ¬ PQ σ e a b = true := fun z => ((bo_t _).mpr z).2.2 y3
          rw [if_neg pf] at H2
          exact bq_tn y3 (ih (b + 1) t (by omega) (by omega) (by omega) (by omega) H2)
        · have pt : PQ σ e a b = true := (bo_t _).mp ⟨y1, y2, y3⟩
          rw [if_pos pt] at H2
          refine bq_fn y3 ?_
          rw [e2]
          have w0 : 2 * nI t.1 = nI (2 * t.1) := nI_mul 2 t.1
          have w1 : nI (2 * t.1) + 1 = nI (2 * t.1 + 1) := nI_1 _
          rw [w0, w1, nI_clamp (n := 2 * t.1) (by omega), nI_clamp (n := 2 * t.1 + 1) (by omega), nI_1, sC_sC, msq_msq]
          have eC : gC (msq σ t) 22 = t.2.2.2 := rfl
          rw [eC]
          exact ⟨vp_in_nI (by omega) (by decide), vp_in_nI (by omega) (by decide), ih (b + 1) (qadd t a b) (by omega) (by omega) (by omega) (by show t.1 + 1 + d ≤ 1770; omega) H2⟩
theorem msL2 {Q : Int32 → St → Prop} (h : FQ σ c) (h9 : gC σ 21 = gA σ 9) : ∀ d a t, a + d = c → QI t → t.1 + tri d ≤ 1770 → Q (nI (qout (PQ σ e) c d a t).1) (msq σ (qout (PQ σ e) c d a t)) → BW S m_Md_quarrels 18 [some (.ref 153), some (.int e), some (.int (nI a)), none] [] (enc (msq σ t)) (qI Q) := by
  intro d
  induction d with
  | zero =>
    intro a t hd hQ ht H
    have hc := h.1.2.2
    refine B_Md_quarrels_18 _ _ _ ?_
    have e1 : gY (msq σ t) 11 = nI c := h.1.2.1
    have e2 : gY (msq σ t) 12 = nI t.1 := by
      unfold msq
      rw [gs_Y_Y, if_pos rfl]
    rw [e1, e2]
    exact bq_t (nI_le (by omega) (by omega)) H
  | succ d ih =>
    intro a t hd hQ ht H
    have hc := h.1.2.2
    have ht2 : t.1 + (d + tri d) ≤ 1770 := ht
    have e1 : gY (msq σ t) 11 = nI c := h.1.2.1
    obtain ⟨p1, p2⟩ := qin_p (P := PQ σ e) (a := a) (c - (a + 1)) (a + 1) t hQ
    refine B_Md_quarrels_18 _ _ _ ?_
    rw [e1, nI_1]
    exact bq_f (nI_ge (by omega) (by omega)) (msL1 h h9 (by omega) (c - (a + 1)) (a + 1) t rfl (by omega) (by omega) (by omega) (ih (a + 1) _ (by omega) p1 (by omega) H))
end
set_option maxHeartbeats 2000000 in
theorem op_quarrels {S : XS} {n : Nat} {σ : St} (h : RR n σ) (e : Int32) : OPI S n σ m_TH_quarrels m_Md_quarrels [.int e] := by
  obtain ⟨r0, r1, r2, r3, r4, r5, r6, r7, r8⟩ := h
  unfold OPI
  obtain ⟨c, hq⟩ := r4.fq
  have hc := hq.1.2.2
  have a9 : gC σ 21 = gA σ 9 := r3.1.symm
  refine C_TH_quarrels _ _ (B_TH_quarrels_0 _ _ ?_)
  have NO : ¬ (0 ≤ e ∧ e ≤ 3) → CM S m_Md_quarrels [.ref 153, .int e] (enc σ) (qI fun w ρ => (-1 : Int32) = w ∧ RR (n + 1) ρ) := fun k => C_Md_quarrels _ _ (B_Md_quarrels_0 _ _ (K_isF k (bq_tn rfl ⟨rfl, ⟨r0, r1, r2, r3, r4, r5, r6.succ, r7, r8.succ⟩⟩)))
  refine bq_s (fun k => NO (fun z => Int32.not_le.mpr k z.1)) (fun k1 => ?_)
  have fin : ¬ 4 ≤ e → CM S m_Fs_findQuarrels [.ref 134, .int e, .ref 131] (enc σ) (qI fun v τ => CM S m_Md_quarrels [.ref 153, .int e] (enc τ) (qI fun w ρ => v = w ∧ RR (n + 1) ρ)) := by
    intro k2
    have ke : 0 ≤ e ∧ e ≤ 3 := ⟨Int32.not_lt.mp k1, by grind⟩
    refine C_Fs_findQuarrels _ _ (B_Fs_findQuarrels_0 _ _ ?_)
    have q0 : QI ((0, gA σ 11, gA σ 12, gC σ 22) : QT) := r4.2.2.1
    have tl := tri_le c hc
    have es : sX σ 16 0 = csq σ (0, gA σ 11, gA σ 12, gC σ 22) := by
      obtain ⟨⟨a1, a2, a3⟩, b⟩ := σ
      show ((va_up a1 16 0, a2, a3), b) = ((va_up a1 16 (nI 0), va_up (va_up a2 11 (a2 11)) 12 (a2 12), a3), b)
      have u : va_up (va_up a2 11 (a2 11)) 12 (a2 12) = a2 := by
        funext j
        unfold va_up
        by_cases h1 : j = 12
        · rw [if_pos h1, h1]
        · rw [if_neg h1]
          by_cases h2 : j = 11
          · rw [if_pos h2, h2]
          · rw [if_neg h2]
      rw [u, nI_0]
    rw [es]
    obtain ⟨p1, p2⟩ := qout_p (P := PQ σ e) (c := c) c 0 (0, gA σ 11, gA σ 12, gC σ 22) (by omega) q0
    have p3 : (qout (PQ σ e) c c 0 (0, gA σ 11, gA σ 12, gC σ 22)).1 ≤ 1770 := by
      have : ((0, gA σ 11, gA σ 12, gC σ 22) : QT).1 = 0 := rfl
      omega
    refine csL2 hq c 0 _ (by omega) q0 (by show 0 + tri c ≤ 1770; omega) ?_
    generalize hτ : csq σ (qout (PQ σ e) c c 0 (0, gA σ 11, gA σ 12, gC σ 22)) = τ
    refine C_Md_quarrels _ _ (B_Md_quarrels_0 _ _ (K_isT ke (bq_fn (by decide) ?_)))
    have et : sY τ 12 0 = msq τ (0, gA σ 11, gA σ 12, gC σ 22) := by
      rw [← hτ]
      obtain ⟨a, b1, b2, b3⟩ := σ
      show (_, va_up b1 12 0, b2, b3) = (_, va_up b1 12 (nI 0), va_up b2 22 (b2 22), b3)
      have u : va_up b2 22 (b2 22) = b2 := by
        funext j
        unfold va_up
        by_cases h1 : j = 22
        · rw [if_pos h1, h1]
        · rw [if_neg h1]
      rw [u, nI_0]
      rfl
    rw [et]
    have hqt : FQ τ c := by rw [← hτ]; exact hq
    have h9t : gC τ 21 = gA τ 9 := by rw [← hτ]; exact a9
    have ePQ : PQ τ e = PQ σ e := by rw [← hτ]; rfl
    refine msL2 hqt h9t c 0 _ (by omega) q0 (by show 0 + tri c ≤ 1770; omega) ?_
    rw [ePQ]
    refine ⟨rfl, ?_⟩
    subst hτ
    have m4 : R4 (msq (csq σ (qout (PQ σ e) c c 0 (0, gA σ 11, gA σ 12, gC σ 22))) (qout (PQ σ e) c c 0 (0, gA σ 11, gA σ 12, gC σ 22))) := by
      obtain ⟨h1, h2, h3, h4, h5, h6⟩ := id r4
      refine ⟨h1, ⟨?_, ?_, ?_⟩, p1, h4, h5, h6⟩
      · unfold msq csq
        rw [gs_X_Y, gs_X_C, gs_X_X, if_pos rfl, gs_Y_Y, if_pos rfl]
      · unfold msq csq
        rw [gs_X_Y, gs_X_C, gs_X_X, if_pos rfl]
        exact nI_pos' (by omega)
      · unfold msq csq
        rw [gs_X_Y, gs_X_C, gs_X_X, if_pos rfl]
        exact nI_le (b := 1770) p3 (by decide)
    exact ⟨r0, r1, r2, r3, m4, r5, r6.succ, r7, r8.succ⟩
  first
    | exact bq_s (fun k2 => NO (fun z => by grind)) (fun k2 => fin k2)
    | exact bq_s (fun k2 => fin (by grind)) (fun k2 => NO (fun z => by grind))
