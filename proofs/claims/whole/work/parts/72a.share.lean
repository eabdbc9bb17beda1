/-! an operation -/
def sms (σ : St) (p : Nat) : Nat → Int64
  | 0 => 0
  | k + 1 => sms σ p k + (gA σ 14 (4 * p + k)).toInt64
theorem sms_b {n : Nat} {σ : St} (hn : n < 512) (h6 : R6 n σ) {p : Nat} (hp : p < 24) : ∀ k, k ≤ 4 → 0 ≤ (sms σ p k).toInt ∧ (sms σ p k).toInt ≤ 51200000 * k := by
  intro k
  induction k with
  | zero => intro _; exact ⟨(by decide : (0 : Int) ≤ (0 : Int64).toInt), (by decide : (0 : Int64).toInt ≤ 51200000 * ((0 : Nat) : Int))⟩
  | succ k ih =>
    intro hk
    have i := ih (by omega)
    obtain ⟨c0, c1, c2, c3, c4, c5⟩ := h6.2.2.2.2.2.2 (4 * p + k) (by omega)
    show 0 ≤ (sms σ p k + (gA σ 14 (4 * p + k)).toInt64).toInt ∧ (sms σ p k + (gA σ 14 (4 * p + k)).toInt64).toInt ≤ _
    rw [tl_add (by rw [tl_i]; omega) (by rw [tl_i]; omega), tl_i]
    omega
/-- where step k ends; what is paid before step k; the percents of all before step k -/
def shE (C : Nat → Int32) (a st : Nat) (cp : Int64) (k : Nat) : Int64 := if k + 1 < st ∧ (C (10 * a + 2 * k + 1)).toInt64 < cp then (C (10 * a + 2 * k + 1)).toInt64 else cp
def shP (C : Nat → Int32) (a st : Nat) (cp : Int64) : Nat → Int64
  | 0 => 0
  | k + 1 => shE C a st cp k
def shS (C : Nat → Int32) (a st : Nat) (cp : Int64) : Nat → Int64
  | 0 => 0
  | k + 1 => shS C a st cp k + (shE C a st cp k - shP C a st cp k) * (C (10 * a + 2 * k)).toInt64
theorem shP_le {C : Nat → Int32} {a st : Nat} {cp : Int64} (hcp : 0 ≤ cp.toInt) (h1 : ∀ k, k + 1 < st → 1 ≤ (C (10 * a + 2 * k + 1)).toInt) (h2 : ∀ k, k + 2 < st → (C (10 * a + 2 * k + 1)).toInt < (C (10 * a + 2 * k + 3)).toInt) {k : Nat} (hk : k < st) : (shP C a st cp k).toInt ≤ (shE C a st cp k).toInt := by
  unfold shE
  rcases k with _ | k
  · show (0 : Int64).toInt ≤ _
    have z : (0 : Int64).toInt = 0 := rfl
    rw [z]
    by_cases c : 0 + 1 < st ∧ (C (10 * a + 2 * 0 + 1)).toInt64 < cp
    · rw [if_pos c, tl_i]
      have := h1 0 c.1
      omega
    · rw [if_neg c]
      exact hcp
  · show (shE C a st cp k).toInt ≤ _
    unfold shE
    have e : 10 * a + 2 * (k + 1) + 1 = 10 * a + 2 * k + 3 := by omega
    rw [e]
    by_cases c1 : k + 1 < st ∧ (C (10 * a + 2 * k + 1)).toInt64 < cp
    · rw [if_pos c1, tl_i]
      have l1 := Int64.lt_iff_toInt_lt.mp c1.2
      rw [tl_i] at l1
      by_cases c2 : k + 1 + 1 < st ∧ (C (10 * a + 2 * k + 3)).toInt64 < cp
      · rw [if_pos c2, tl_i]
        have := h2 k (by omega)
        omega
      · rw [if_neg c2]
        omega
    · rw [if_neg c1]
      have l1 : cp.toInt ≤ (C (10 * a + 2 * k + 1)).toInt := by
        have := fun q => c1 ⟨hk, q⟩
        have := Int64.le_iff_toInt_le.mp (Int64.not_lt.mp this)
        rw [tl_i] at this
        exact this
      by_cases c2 : k + 1 + 1 < st ∧ (C (10 * a + 2 * k + 3)).toInt64 < cp
      · rw [if_pos c2, tl_i]
        have := h2 k (by omega)
        omega
      · rw [if_neg c2]
        exact Int.le_refl _
section
variable {S : XS} {σ : St} {n : Nat}
theorem soldL {Q : Int64 → St → Prop} {p : Nat} (hp : p < 24) (H : Q (sms σ p 4) σ) : ∀ d k, 4 - k = d → k ≤ 4 → BW S m_Sh_soldOfPart 5 [some (.ref 144), some (.int (nI p)), some (.long (sms σ p k)), none, some (.int (nI k)), none] [] (enc σ) (qL Q) := by
  intro d
  induction d with
  | zero =>
    intro k hd hk
    have : k = 4 := by omega
    subst this
    exact B_Sh_soldOfPart_5 _ _ _ _ (bq_t (by decide) H)
  | succ d ih =>
    intro k hd hk
    refine B_Sh_soldOfPart_5 _ _ _ _ (bq_f (nI_ge (b := 4) (by omega) (by decide)) (K_slot ?_))
    rw [slN]
    refine K_isSlot (vp_in_nI (by omega) (by decide)) (bq_f (by decide) ⟨vp_in_nI (by omega) (by decide), ?_⟩)
    rw [nI_clamp (by omega), nI_1]
    exact ih (k + 1) (by omega) (by omega)
theorem percL {Q : Int64 → St → Prop} {q a st : Nat} {cp : Int64} (hA : isAg σ q ∧ isA5 σ (q + 1) ∧ isA5 σ (q + 2)) (hs : fI σ q 2 = nI st) (h5 : st ≤ 5) (h1 : ∀ k, k < st → fA σ (q + 1) k = gC σ 23 (10 * a + 2 * k)) (h2 : ∀ k, k + 1 < st → fA σ (q + 2) k = gC σ 23 (10 * a + 2 * k + 1)) (H : Q (shS (gC σ 23) a st cp st) σ) : ∀ d k, st - k = d → k ≤ st → BW S m_Ag_percentsOf 8 [some (.ref q), some (.long cp), none, some (.long (shS (gC σ 23) a st cp k)), none, some (.long (shP (gC σ 23) a st cp k)), none, some (.int (nI k)), none, none, none] [] (enc σ) (qL Q) := by
  intro d
  induction d with
  | zero =>
    intro k hd hk
    have : k = st := by omega
    subst this
    refine B_Ag_percentsOf_8 _ _ _ _ _ _ ⟨hA.1, ?_⟩
    rw [hs]
    exact bq_t (nI_le (Nat.le_refl _) (by omega)) H
  | succ d ih =>
    intro k hd hk
    have i := ih (k + 1) (by omega) (by omega)
    have e1 : shS (gC σ 23) a st cp (k + 1) = shS (gC σ 23) a st cp k + (shE (gC σ 23) a st cp k - shP (gC σ 23) a st cp k) * (gC σ 23 (10 * a + 2 * k)).toInt64 := rfl
    have e2 : shP (gC σ 23) a st cp (k + 1) = shE (gC σ 23) a st cp k := rfl
    rw [e1, e2] at i
    unfold shE at i
    have v := vp_in_nI (n := k) (N := 5) (by omega) (by decide)
    refine B_Ag_percentsOf_8 _ _ _ _ _ _ ⟨hA.1, ?_⟩
    have e3 : nI st - 1 = nI (st - 1) := nI_sub1 (by omega)
    rw [hs, e3, nI_clamp (by omega), nI_1, h1 k (by omega)]
    refine bq_f (nI_ge (by omega) (by omega)) (bq_f (nI_ge (b := 5) (by omega) (by decide)) ?_)
    by_cases y : k + 1 < st
    · refine bq_fn (fun z => by have := (nI_eq (by omega) (by omega)).mp z; omega) (bq_t rfl ⟨hA.2.2, v, hA.2.1, ?_⟩)
      rw [h2 k y]
      by_cases y2 : (gC σ 23 (10 * a + 2 * k + 1)).toInt64 < cp
      · rw [if_pos ⟨y, y2⟩] at i
        rw [if_pos y2]
        exact i
      · rw [if_neg (fun z => y2 z.2)] at i
        rw [if_neg y2]
        exact i
    · rw [if_neg (fun z => y z.1)] at i
      have ek : k = st - 1 := by omega
      exact bq_tn (by rw [ek]) (bq_f (by decide) ⟨hA.2.1, v, i⟩)
theorem mshL1 {Q : Int64 → St → Prop} {p : Nat} {v : Int32} (h6 : R6 n σ) (hp : p < 24) (H : BW S m_Md_share 60 [some (.ref 153), some (.int (nI p)), some (.int v), some (.long (sms σ p 4)), none, some (.long (0 : Int64)), none, some (.long (0 : Int64)), none, some (.int 0), none, none] [] (enc σ) (qL Q)) : ∀ d k, 4 - k = d → k ≤ 4 → BW S m_Md_share 19 [some (.ref 153), some (.int (nI p)), some (.int v), some (.long (sms σ p k)), none, some (.int (nI k)), none, none, none, none, none, none] [] (enc σ) (qL Q) := by
  intro d
  induction d with
  | zero =>
    intro k hd hk
    have : k = 4 := by omega
    subst this
    exact B_Md_share_19 _ _ _ _ _ (bq_t (by decide) H)
  | succ d ih =>
    intro k hd hk
    have f1 := (h6.2.2.2.2.2.1 p k hp (by omega)).2.1
    have w : (20 * nI p + 5 * nI k + 1) = nI (20 * p + 5 * k + 1) := by
      rw [rwN]
      exact nI_add _ 1
    refine B_Md_share_19 _ _ _ _ _ (bq_f (nI_ge (b := 4) (by omega) (by decide)) ?_)
    rw [w, nI_clamp (by omega), nI_1, f1]
    exact ⟨vp_in_nI (by omega) (by decide), ih (k + 1) (by omega) (by omega)⟩
theorem lgc_ge (x y : Int64) : (0 ≤ lg_cmp x y) ↔ ¬ x < y := by
  rw [← lgc_lt]
  exact Int32.not_lt.symm
theorem mshL2 {Q : Int64 → St → Prop} {p a st : Nat} {cp : Int64} (ha : a < 12) (hst : gC σ 24 a = nI st) (h5 : st ≤ 5) (hcp : 0 ≤ cp.toInt) (h1 : ∀ k, k + 1 < st → 1 ≤ (gC σ 23 (10 * a + 2 * k + 1)).toInt) (h2 : ∀ k, k + 2 < st → (gC σ 23 (10 * a + 2 * k + 1)).toInt < (gC σ 23 (10 * a + 2 * k + 3)).toInt)
    (H : CM S m_Md_lateDays [.ref 153, .int (nI p)] (enc σ) (qI (fun v7 τ8 => ((0 ≤ lg_cmp ((shS (gC σ 23) a st cp st * (gY σ 15).toInt64) / (100 : Int64) - (gC σ 25 a).toInt64 * v7.toInt64) (0 : Int64) → Q ((shS (gC σ 23) a st cp st * (gY σ 15).toInt64) / (100 : Int64) - (gC σ 25 a).toInt64 * v7.toInt64) τ8) ∧ (¬ 0 ≤ lg_cmp ((shS (gC σ 23) a st cp st * (gY σ 15).toInt64) / (100 : Int64) - (gC σ 25 a).toInt64 * v7.toInt64) (0 : Int64) → Q (0 : Int64) τ8))))) :
    ∀ d k, st - k = d → k ≤ st → BW S m_Md_share 60 [some (.ref 153), some (.int (nI p)), some (.int (nI a)), some (.long cp), none, some (.long (shS (gC σ 23) a st cp k * (gY σ 15).toInt64)), none, some (.long (shP (gC σ 23) a st cp k)), none, some (.int (nI k)), none, none] [] (enc σ) (qL Q) := by
  intro d
  induction d with
  | zero =>
    intro k hd hk
    have : k = st := by omega
    subst this
    refine B_Md_share_60 _ _ _ _ _ _ _ ⟨vp_in_nI (by omega) (by decide), ?_⟩
    rw [nI_clamp (by omega), hst]
    exact bq_t (nI_le (Nat.le_refl _) (by omega)) H
  | succ d ih =>
    intro k hd hk
    have i := ih (k + 1) (by omega) (by omega)
    have e1 : shS (gC σ 23) a st cp (k + 1) = shS (gC σ 23) a st cp k + (shE (gC σ 23) a st cp k - shP (gC σ 23) a st cp k) * (gC σ 23 (10 * a + 2 * k)).toInt64 := rfl
    have e2 : shP (gC σ 23) a st cp (k + 1) = shE (gC σ 23) a st cp k := rfl
    rw [e1, e2, Int64.add_mul] at i
    have le := shP_le hcp h1 h2 (k := k) (by omega)
    have w0 : (10 * nI a + 2 * nI k) = nI (10 * a + 2 * k) := by
      show nI 10 * nI a + nI 2 * nI k = _
      rw [nI_mul, nI_mul, nI_add]
    have w1 : nI (10 * a + 2 * k) + 1 = nI (10 * a + 2 * k + 1) := nI_add _ 1
    have v0 := vp_in_nI (n := 10 * a + 2 * k) (N := 130) (by omega) (by decide)
    have v1 := vp_in_nI (n := 10 * a + 2 * k + 1) (N := 130) (by omega) (by decide)
    refine B_Md_share_60 _ _ _ _ _ _ _ ⟨vp_in_nI (by omega) (by decide), ?_⟩
    rw [w0, w1, nI_clamp (n := a) (by omega), nI_clamp (n := 10 * a + 2 * k) (by omega), nI_clamp (n := 10 * a + 2 * k + 1) (by omega), hst, nI_1]
    refine bq_f (nI_ge (by omega) (by omega)) ⟨v1, ?_⟩
    -- one step to t
    have T : ∀ t, shE (gC σ 23) a st cp k = t → ((0 < lg_cmp t (shP (gC σ 23) a st cp k) → vp_in (nI (10 * a + 2 * k)) 130 ∧ BW S m_Md_share 60 [some (.ref 153), some (.int (nI p)), some (.int (nI a)), some (.long cp), none, some (.long (shS (gC σ 23) a st cp k * (gY σ 15).toInt64 + (t - shP (gC σ 23) a st cp k) * (gC σ 23 (10 * a + 2 * k)).toInt64 * (gY σ 15).toInt64)), none, some (.long t), none, some (.int (nI (k + 1))), none, none] [] (enc σ) (qL Q)) ∧ (¬ 0 < lg_cmp t (shP (gC σ 23) a st cp k) → BW S m_Md_share 60 [some (.ref 153), some (.int (nI p)), some (.int (nI a)), some (.long cp), none, some (.long (shS (gC σ 23) a st cp k * (gY σ 15).toInt64)), none, some (.long (shP (gC σ 23) a st cp k)), none, some (.int (nI (k + 1))), none, none] [] (enc σ) (qL Q))) := by
      intro t ht
      rw [ht] at i le
      refine bq_s (fun _ => ⟨v0, i⟩) (fun y => ?_)
      have y2 : ¬ shP (gC σ 23) a st cp k < t := fun z => y ((lgc_gt _ _).mpr z)
      have y3 := Int64.le_iff_toInt_le.mp (Int64.not_lt.mp y2)
      have y4 : t = shP (gC σ 23) a st cp k := Int64.toInt_inj.mp (by omega)
      rw [y4, Int64.sub_self, Int64.zero_mul, Int64.zero_mul, Int64.add_zero] at i
      exact i
    by_cases y : (gC σ 23 (10 * a + 2 * k + 1)).toInt64 < cp
    · refine bq_f (fun z => (lgc_ge _ _).mp z y) ?_
      by_cases y2 : k + 1 < st
      · exact bq_f (nI_ge y2 (by omega)) (T _ (by unfold shE; rw [if_pos ⟨y2, y⟩]))
      · exact bq_t (nI_le (by omega) (by omega)) (T _ (by unfold shE; rw [if_neg (fun z => y2 z.1)]))
    · exact bq_t ((lgc_ge _ _).mpr y) (T _ (by unfold shE; rw [if_neg (fun z => y z.2)]))
end
set_option maxHeartbeats 2000000 in
theorem op_share {S : XS} {n : Nat} {σ : St} (h : RR n σ) (x : Int32) (hn : n < 512) : OPL S n σ m_TH_share m_Md_share [.int x] := by
  obtain ⟨r0, r1, r2, r3, r4, r5, r6, r7, r8⟩ := h
  unfold OPL
  obtain ⟨c, hc, e1, e2, e3⟩ := r5.cnt
  obtain ⟨hB, hC, hM⟩ := r3.days
  refine C_TH_share _ _ (B_TH_share_0 _ _ ?_)
  by_cases k : 0 ≤ x ∧ x < 24
  · have t := vp_in_iff.mp (vp_24 k.1 k.2)
    obtain ⟨p, hp, rfl, -⟩ := nI_ex (n := 24) t.1 t.2
    refine K_isPartT k (bq_fn (by decide) (K_latest r5 e1 hc ?_))
    rcases agf_b (C := gC σ 26) (x := nI p) c hc with z | ⟨a, ha, z⟩
    · rw [z]
      refine K_numAgF (by decide) ⟨fun _ => C_Md_share _ _ (B_Md_share_0 _ _ (K_magreed k e2 hc ?_)), fun q h => absurd h (by simp)⟩
      rw [z]
      exact bq_f (by decide) ⟨rfl, ⟨r0, r1, r2, r3, r4, r5, r6.succ, r7, r8.succ⟩⟩
    · rw [z]
      refine K_numAg e1 hc ha ?_
      obtain ⟨q, hq1, hq2, hq3, hq4⟩ := r5.2.2 a (by rw [e3]; exact ha)
      obtain ⟨n1, n2, n3, n4, n5, n6, n7, n8⟩ := hq4
      have z5 : (5 : Int32).toInt = 5 := rfl
      have z1 : (1 : Int32).toInt = 1 := rfl
      have u1 := Int32.le_iff_toInt_le.mp n2.1
      have u2 := Int32.le_iff_toInt_le.mp n2.2
      obtain ⟨st, hst, es, es2⟩ := nI_ex (x := gC σ 24 a) (n := 6) (by omega) (by omega)
      rw [es2] at n6 n7 n8
      refine ⟨fun h => absurd (hq1.symm.trans h) (by simp), fun q' h => ?_⟩
      obtain rfl : q = q' := Option.some.inj (hq1.symm.trans h)
      refine C_Sh_soldOfPart _ _ (B_Sh_soldOfPart_0 _ _ (soldL hp ?_ 4 0 (by omega) (by omega)))
      refine ⟨hq3.1, C_Ag_percentsOf _ _ _ (B_Ag_percentsOf_0 _ _ _ (percL (σ := σ) (a := a) (st := st) hq3 (n1.trans es) (by omega) (fun k hk => (n6 k hk).1) (fun k hk => (n7 k hk).1) ?_ st 0 (by omega) (by omega)))⟩
      refine ⟨hq3.1, K_daysLate hB hC hp ?_⟩
      have e15 : gY σ 15 = gX σ 18 := r6.1.1.symm
      have f3 : fI σ q 3 = gC σ 25 a := n3
      rw [f3]
      refine C_Md_share _ _ (B_Md_share_0 _ _ (K_magreed k e2 hc ?_))
      rw [z]
      refine bq_t (nI_pos' (by omega)) (mshL1 r6 hp ?_ 4 0 (by omega) (by omega))
      have b := sms_b hn r6 hp 4 (by omega)
      have M := mshL2 (S := S) (σ := σ) (p := p) (a := a) (st := st) (cp := sms σ p 4) (Q := fun w ρ => (if (shS (gC σ 23) a st (sms σ p 4) st * (gX σ 18).toInt64) / (100 : Int64) - (gC σ 25 a).toInt64 * (db (gA σ 10) (gX σ 13).toNatClampNeg p (dd (gA σ 10) (gX σ 13).toNatClampNeg (gX σ 14) p)).toInt64 < (0 : Int64) then (0 : Int64) else (shS (gC σ 23) a st (sms σ p 4) st * (gX σ 18).toInt64) / (100 : Int64) - (gC σ 25 a).toInt64 * (db (gA σ 10) (gX σ 13).toNatClampNeg p (dd (gA σ 10) (gX σ 13).toNatClampNeg (gX σ 14) p)).toInt64) = w ∧ RR (n + 1) ρ) (by omega) es (by omega) b.1 (fun k hk => by have := Int32.le_iff_toInt_le.mp (n7 k hk).2.1; omega) (fun k hk => Int32.lt_iff_toInt_lt.mp (n8 k hk)) ?_ st 0 (by omega) (by omega)
      · have m0 : shS (gC σ 23) a st (sms σ p 4) 0 * (gY σ 15).toInt64 = 0 := Int64.zero_mul
        rw [m0] at M
        exact M
      · refine K_lateDays hB hM hp ?_
        rw [e15]
        refine bq_s (fun y => ⟨?_, ⟨r0, r1, r2, r3, r4, r5, r6.succ, r7, r8.succ⟩⟩) (fun y => ⟨?_, ⟨r0, r1, r2, r3, r4, r5, r6.succ, r7, r8.succ⟩⟩)
        · rw [if_neg ((lgc_ge _ _).mp y)]
        · rw [if_pos (Decidable.not_not.mp (fun w => y ((lgc_ge _ _).mpr w)))]
  · refine K_isPartF k (bq_tn rfl (C_Md_share _ _ (B_Md_share_0 _ _ (K_magreedF k (bq_f (by decide) ⟨rfl, ⟨r0, r1, r2, r3, r4, r5, r6.succ, r7, r8.succ⟩⟩)))))
