/-! the reference's quarrels0 -/
section
variable {S : XS} {σ : St} {Q : Int32 → St → Prop}
set_option maxHeartbeats 4000000 in
theorem K_q0 {a b sa sb : Nat} {ka kb da db : Int32} {sp sl : Bool} (ha : a < 60) (hb : b < 60) (hab : a ≠ b) (h1 : gC σ 16 a = ka) (h2 : gC σ 16 b = kb) (h3 : gC σ 17 a = da) (h4 : gC σ 17 b = db) (ba : 0 ≤ ka ∧ ka ≤ 2) (bb : 0 ≤ kb ∧ kb ≤ 2) (hs : gC σ 15 (2 * a + 0) = nI sa) (hs2 : sa ≤ 10) (hsp : alk (gC σ 14) (gC σ 15) a b 0 ↔ sp = true) (hsl : ka = 2 → kb = 2 → (alk (gC σ 14) (gC σ 15) a b 1 ↔ sl = true) ∧ gC σ 15 (2 * a + 1) = nI sb ∧ sb ≤ 10) (H : Q (qvf ka kb da db sp sl) σ) : CM S m_Md_quarrels0 [.ref 153, .int (nI a), .int (nI b)] (enc σ) (qI Q) := by
  have va := vp_in_nI (n := a) (N := 61) (by omega) (by decide)
  have vb := vp_in_nI (n := b) (N := 61) (by omega) (by decide)
  have n1 : ¬ nI b = nI a := fun z => hab ((nI_eq (by omega) (by omega)).mp z).symm
  refine C_Md_quarrels0 _ _ _ (B_Md_quarrels0_0 _ _ _ (K_alike (w := 0) (by omega) (by omega) (by omega) hs hs2 (fun y => ?_) (fun y => ?_)))
  · have spt := hsp.mp y
    rw [nI_clamp (n := a) (by omega), nI_clamp (n := b) (by omega), h1, h2, h3, h4]
    refine bq_fn (by decide) ⟨va, vb, ?_⟩
    have AL : ∀ {Q' : Int32 → St → Prop}, ka = 2 → kb = 2 → (sl = true → Q' 1 σ) → (¬ sl = true → Q' 0 σ) → CM S m_Md_isAlike [.ref 153, .int (nI a), .int (nI b), .int 1] (enc σ) (qI Q') := by
      intro Q' z1 z2 p1 p0
      obtain ⟨q1, q2, q3⟩ := hsl z1 z2
      exact K_alike (w := 1) (by omega) (by omega) (by omega) q2 q3 (fun z => p1 (q1.mp z)) (fun z => p0 (fun w => z (q1.mpr w)))
    repeat' (first
      | refine bq_fn n1 ?_
      | refine bq_tn rfl ?_
      | refine bq_t rfl ?_
      | refine B_Md_quarrels0_187 _ ?_
      | refine B_Md_quarrels0_183 _ ?_
      | refine B_Md_quarrels0_126 _ ?_
      | refine bq_s (fun _ => ?_) (fun _ => ?_)
      | refine bq_sn (fun _ => ?_) (fun _ => ?_))
    all_goals first
    | (have e : qvf ka kb da db sp sl = 0 := by (unfold qvf qlt; grind)
       rw [e] at H
       exact H)
    | (have e : qvf ka kb da db sp sl = 1 := by (unfold qvf qlt; grind)
       rw [e] at H
       exact H)
    | (have e : qvf ka kb da db sp sl = 2 := by (unfold qvf qlt; grind)
       rw [e] at H
       exact H)
    | (have e : qvf ka kb da db sp sl = 3 := by (unfold qvf qlt; grind)
       rw [e] at H
       exact H)
    | (have e : qvf ka kb da db sp sl = 4 := by (unfold qvf qlt; grind)
       rw [e] at H
       exact H)
    | (refine AL (by grind) (by grind) (fun z => ?_) (fun z => ?_)
       · refine bq_fn (by decide) (B_Md_quarrels0_126 _ ?_)
         have e : qvf ka kb da db sp sl = 0 := by (unfold qvf qlt; grind)
         rw [e] at H
         exact H
       · refine bq_tn rfl ?_
         have e : qvf ka kb da db sp sl = 2 := by (unfold qvf qlt; grind)
         rw [e] at H
         exact H)
    | (exfalso; grind)
  · have spf : ¬ sp = true := fun z => y (hsp.mpr z)
    unfold qvf at H
    rw [if_neg spf] at H
    exact bq_tn rfl H
end
