/-! an operation -/
theorem sA_sA (σ : St) (k : Nat) (f g : Nat → Int32) : sA (sA σ k f) k g = sA σ k g := by
  obtain ⟨⟨a1, a2, a3⟩, b⟩ := σ
  have e : va_up (va_up a2 k f) k g = va_up a2 k g := by
    funext j
    unfold va_up
    by_cases h : j = k
    · rw [if_pos h, if_pos h]
    · rw [if_neg h, if_neg h, if_neg h]
  show ((a1, va_up (va_up a2 k f) k g, a3), b) = ((a1, va_up a2 k g, a3), b)
  rw [e]
theorem K_forget {S : XS} {Q : St → Prop} {σ : St} (H : ∀ g, (∀ j, j < 20 → g j = 0) → Q (sA σ 3 g)) : CM S m_Mn_forgetBreakCosts [.ref 3] (enc σ) (qV Q) := by
  have L : ∀ (d k : Nat) (f : Nat → Int32), 20 - k = d → k ≤ 20 → (∀ j, j < k → f j = 0) → BW S m_Mn_forgetBreakCosts 2 [some (.ref 3), some (.int (nI k))] [] (enc (sA σ 3 f)) (qV Q) := by
    intro d
    induction d with
    | zero =>
      intro k f hd hk hf
      have : k = 20 := by omega
      subst this
      exact B_Mn_forgetBreakCosts_2 _ _ (bq_t (by decide) (H f hf))
    | succ d ih =>
      intro k f hd hk hf
      refine B_Mn_forgetBreakCosts_2 _ _ (bq_f (nI_ge (b := 20) (by omega) (by decide)) ⟨vp_in_nI (by omega) (by decide), ?_⟩)
      rw [nI_clamp (by omega), nI_1, sA_sA]
      refine ih (k + 1) _ (by omega) (by omega) (fun j hj => ?_)
      show upd f k 0 j = 0
      unfold upd
      by_cases y : j = k
      · rw [if_pos y]
      · rw [if_neg y]
        exact hf j (by omega)
  refine C_Mn_forgetBreakCosts _ (B_Mn_forgetBreakCosts_0 _ ?_)
  have q := L 20 0 (gA σ 3) (by omega) (by omega) (fun j hj => absurd hj (by omega))
  have e : sA σ 3 (gA σ 3) = σ := by
    obtain ⟨⟨a1, a2, a3⟩, b⟩ := σ
    show ((a1, va_up a2 3 (a2 3), a3), b) = ((a1, a2, a3), b)
    congr 4
    funext j
    unfold va_up
    by_cases h : j = 3
    · rw [if_pos h, h]
    · rw [if_neg h]
  rw [e] at q
  exact q
section
variable {x4 x5 x6 x7 x8 y1 y2 y3 y4 y5 : Int32} {A1 A2 A3 C1 C2 C3 : Nat → Int32} {B0 B1 : Nat → Nat → Int32}
theorem M1.page (h : M1 x4 x5 x6 x7 x8 y1 y2 y3 y4 y5 A1 A2 A3 C1 C2 C3 B0 B1) {a b c d : Int32} {G : Nat → Int32} (h1 : 10 ≤ a ∧ a ≤ 60) (h2 : 5 ≤ b ∧ b ≤ 40) (h3 : 0 ≤ c ∧ c ≤ 100000) (h4 : 0 ≤ d ∧ d ≤ 100000) (hG : (a = x5 ∧ G = A3) ∨ ∀ j, j < 20 → G j = 0) : M1 x4 a b c d y1 a b c d A1 A2 G C1 C2 C3 B0 B1 := by
  obtain ⟨g1, g2, g3, g4, g5, g6, g7, g8, g9, g10⟩ := h
  refine ⟨g1, ⟨rfl, h1⟩, ⟨rfl, h2⟩, ⟨rfl, h3⟩, ⟨rfl, h4⟩, g6, g7, g8, g9, fun p hp hne => ?_⟩
  rcases hG with ⟨rfl, rfl⟩ | q
  · exact g10 p hp hne
  · exact absurd (q p hp) hne
end
theorem mpage {S : XS} {Q : Int32 → St → Prop} {τ : St} {a b c d : Int32} (H : ((10 ≤ a ∧ a ≤ 60) ∧ (5 ≤ b ∧ b ≤ 40) ∧ (0 ≤ c ∧ c ≤ 100000) ∧ (0 ≤ d ∧ d ≤ 100000) → Q 1 (sY (sY (sY (sY τ 2 a) 3 b) 4 c) 5 d)) ∧ (¬ ((10 ≤ a ∧ a ≤ 60) ∧ (5 ≤ b ∧ b ≤ 40) ∧ (0 ≤ c ∧ c ≤ 100000) ∧ (0 ≤ d ∧ d ≤ 100000)) → Q 0 τ)) : CM S m_Md_page [.ref 153, .int a, .int b, .int c, .int d] (enc τ) (qI Q) := by
  refine C_Md_page _ _ _ _ _ (B_Md_page_0 _ _ _ _ _ ?_)
  by_cases k1 : 10 ≤ a ∧ a ≤ 60
  · refine K_isT k1 (bq_f (by decide) ?_)
    by_cases k2 : 5 ≤ b ∧ b ≤ 40
    · refine K_isT k2 (bq_f (by decide) ?_)
      by_cases k3 : 0 ≤ c ∧ c ≤ 100000
      · refine K_isT k3 (bq_f (by decide) ?_)
        by_cases k4 : 0 ≤ d ∧ d ≤ 100000
        · exact K_isT k4 (bq_fn (by decide) (H.1 ⟨k1, k2, k3, k4⟩))
        · exact K_isF k4 (bq_tn rfl (H.2 (fun z => k4 z.2.2.2)))
      · exact K_isF k3 (bq_t rfl (H.2 (fun z => k3 z.2.2.1)))
    · exact K_isF k2 (bq_t rfl (H.2 (fun z => k2 z.2.1)))
  · exact K_isF k1 (bq_t rfl (H.2 (fun z => k1 z.1)))
set_option maxHeartbeats 2000000 in
theorem op_page {S : XS} {n : Nat} {σ : St} (h : RR n σ) (a : Int32) (b : Int32) (c : Int32) (d : Int32) : OPI S n σ m_TH_page m_Md_page [.int a, .int b, .int c, .int d] := by
  obtain ⟨r0, r1, r2, r3, r4, r5, r6, r7, r8⟩ := h
  unfold OPI
  refine C_TH_page _ _ _ _ _ (B_TH_page_0 _ _ _ _ _ (C_Mn_shape _ _ _ _ _ (B_Mn_shape_0 _ _ _ _ _ ?_)))
  have N : ¬ ((10 ≤ a ∧ a ≤ 60) ∧ (5 ≤ b ∧ b ≤ 40) ∧ (0 ≤ c ∧ c ≤ 100000) ∧ (0 ≤ d ∧ d ≤ 100000)) → narrow .boolean (.int 0) = .int 0 ∧ CM S m_Md_page [.ref 153, .int a, .int b, .int c, .int d] (enc σ) (qI fun w ρ => (0 : Int32) = w ∧ RR (n + 1) ρ) := fun k => ⟨rfl, mpage ⟨fun z => absurd z k, fun _ => ⟨rfl, ⟨r0, r1, r2, r3, r4, r5, r6.succ, r7, r8.succ⟩⟩⟩⟩
  refine bq_s (fun k => N (fun z => Int32.not_lt.mpr z.1.1 k)) (fun k1 => ?_)
  refine bq_s (fun k => N (fun z => Int32.not_lt.mpr z.1.2 k)) (fun k2 => ?_)
  refine bq_s (fun k => N (fun z => Int32.not_lt.mpr z.2.1.1 k)) (fun k3 => ?_)
  refine bq_s (fun k4 => ?_) (fun k => N (fun z => k z.2.1.2))
  refine bq_s (fun k => N (fun z => Int32.not_lt.mpr z.2.2.1.1 k)) (fun k5 => ?_)
  refine bq_s (fun k => N (fun z => Int32.not_lt.mpr z.2.2.1.2 k)) (fun k6 => ?_)
  refine bq_s (fun k => N (fun z => Int32.not_lt.mpr z.2.2.2.1 k)) (fun k7 => ?_)
  refine bq_s (fun k8 => ?_) (fun k => N (fun z => k z.2.2.2.2))
  have g1 : 10 ≤ a ∧ a ≤ 60 := ⟨Int32.not_lt.mp k1, Int32.not_lt.mp k2⟩
  have g2 : 5 ≤ b ∧ b ≤ 40 := ⟨Int32.not_lt.mp k3, k4⟩
  have g3 : 0 ≤ c ∧ c ≤ 100000 := ⟨Int32.not_lt.mp k5, Int32.not_lt.mp k6⟩
  have g4 : 0 ≤ d ∧ d ≤ 100000 := ⟨Int32.not_lt.mp k7, k8⟩
  refine bq_s (fun e => ?_) (fun e => ?_)
  · exact ⟨rfl, mpage ⟨fun _ => ⟨rfl, ⟨r0, M1.page r1 g1 g2 g3 g4 (Or.inl ⟨e, rfl⟩), r2, r3, r4, r5, r6.succ, r7, r8.succ⟩⟩, fun z => absurd ⟨g1, g2, g3, g4⟩ z⟩⟩
  · refine K_forget (fun g hg => ?_)
    exact ⟨rfl, mpage ⟨fun _ => ⟨rfl, ⟨r0, M1.page r1 g1 g2 g3 g4 (Or.inr hg), r2, r3, r4, r5, r6.succ, r7, r8.succ⟩⟩, fun z => absurd ⟨g1, g2, g3, g4⟩ z⟩⟩
