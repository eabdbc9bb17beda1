/-! an operation -/
noncomputable def bo (p : Prop) : Bool := @decide p (Classical.propDecidable p)
theorem bo_t (p : Prop) : p ↔ bo p = true := by
  unfold bo
  exact (@decide_eq_true_iff p (Classical.propDecidable p)).symm
noncomputable def QV (σ : St) (i j : Nat) : Int32 := qvf (gC σ 16 i) (gC σ 16 j) (gC σ 17 i) (gC σ 17 j) (bo (alk (gC σ 14) (gC σ 15) i j 0)) (bo (alk (gC σ 14) (gC σ 15) i j 1))
/-- what is known of the facts told, whatever was found -/
def FQ (σ : St) (c : Nat) : Prop := (gX σ 15 = nI c ∧ gY σ 11 = nI c ∧ c ≤ 60) ∧ ∀ i, i < c → ∃ q, gF σ i = some q ∧ isFa σ q ∧ NF σ q i (gC σ 14) (gC σ 15) (gC σ 16) (gC σ 17) (gC σ 18) (gC σ 19) (gC σ 20)
theorem R4.fq {σ : St} (h : R4 σ) : ∃ c, FQ σ c := by
  obtain ⟨c, hc, e1, e2, e3⟩ := h.cnt
  refine ⟨c, ⟨e1, e2, hc⟩, fun i hi => ?_⟩
  obtain ⟨q, a1, a2, a3, a4⟩ := h.2.2.2.2.1 i (by rw [e3]; exact hi)
  exact ⟨q, a1, a3, a4⟩
section
variable {S : XS} {σ : St} {Q : Int32 → St → Prop} {c : Nat}
theorem K_qOf (h : FQ σ c) {i j : Nat} (hi : i < c) (hj : j < c) (hij : i ≠ j) (H : Q (QV σ i j) σ) : CM S m_Fs_quarrelOf [.ref 134, .int (nI i), .int (nI j)] (enc σ) (qI Q) := by
  obtain ⟨⟨e1, e2, hc⟩, hf⟩ := h
  obtain ⟨q, a1, a2, n1⟩ := hf i hi
  obtain ⟨r, b1, b2, n2⟩ := hf j hj
  refine C_Fs_quarrelOf _ _ _ (B_Fs_quarrelOf_0 _ _ _ (K_numT e1 hc hi ⟨fun z => absurd (a1.symm.trans z) (by simp), fun q' z => ?_⟩))
  obtain rfl : q = q' := Option.some.inj (a1.symm.trans z)
  refine K_numT e1 hc hj ⟨fun z => absurd (b1.symm.trans z) (by simp), fun r' z => ?_⟩
  obtain rfl : r = r' := Option.some.inj (b1.symm.trans z)
  refine bq_fn (fun z => hij ((nI_eq (by omega) (by omega)).mp z)) ⟨a2, ?_⟩
  have w0 : (fL σ q 0 = fL σ r 0) ↔ alk (gC σ 14) (gC σ 15) i j 0 := NN.inj (w := 0) n1.1 n2.1
  exact K_qwith a2 b2 n1.2.1 n2.2.1 n1.2.2.2.2.1 n2.2.2.2.2.1 n1.2.2.1.2 n2.2.2.1.2 (w0.trans (bo_t _)) (fun z1 z2 => (NN.inj (w := 1) (n1.2.2.2.1 z1) (n2.2.2.2.1 z2)).trans (bo_t _)) H
theorem K_mq0 (h : FQ σ c) {i j : Nat} (hi : i < c) (hj : j < c) (hij : i ≠ j) (H : Q (QV σ i j) σ) : CM S m_Md_quarrels0 [.ref 153, .int (nI i), .int (nI j)] (enc σ) (qI Q) := by
  obtain ⟨⟨e1, e2, hc⟩, hf⟩ := h
  obtain ⟨q, a1, a2, n1⟩ := hf i hi
  obtain ⟨r, b1, b2, n2⟩ := hf j hj
  have s1 := n1.1.b
  exact K_q0 (sa := (gC σ 15 (2 * i)).toNatClampNeg) (sb := (gC σ 15 (2 * i + 1)).toNatClampNeg) (by omega) (by omega) hij rfl rfl rfl rfl n1.2.2.1 n2.2.2.1 s1.2.2 s1.2.1 (bo_t _) (fun z1 z2 => ⟨bo_t _, (n1.2.2.2.1 z1).b.2.2, (n1.2.2.2.1 z1).b.2.1⟩) H
end
set_option maxHeartbeats 2000000 in
theorem op_quarrel {S : XS} {n : Nat} {σ : St} (h : RR n σ) (x : Int32) (y : Int32) : OPI S n σ m_TH_quarrel m_Md_quarrel [.int x, .int y] := by
  obtain ⟨r0, r1, r2, r3, r4, r5, r6, r7, r8⟩ := h
  unfold OPI
  obtain ⟨c, hq⟩ := r4.fq
  obtain ⟨⟨e1, e2, hc⟩, -⟩ := id hq
  have NO : (x < 0 ∨ nI c ≤ x) ∨ (y < 0 ∨ nI c ≤ y) ∨ x = y → CM S m_Md_quarrel [.ref 153, .int x, .int y] (enc σ) (qI fun w ρ => (-1 : Int32) = w ∧ RR (n + 1) ρ) := by
    intro h
    refine C_Md_quarrel _ _ _ (B_Md_quarrel_0 _ _ _ ?_)
    rw [e2]
    refine bq_s (fun _ => ⟨rfl, ⟨r0, r1, r2, r3, r4, r5, r6.succ, r7, r8.succ⟩⟩) (fun k1 => bq_s (fun _ => ⟨rfl, ⟨r0, r1, r2, r3, r4, r5, r6.succ, r7, r8.succ⟩⟩) (fun k2 => bq_s (fun _ => ⟨rfl, ⟨r0, r1, r2, r3, r4, r5, r6.succ, r7, r8.succ⟩⟩) (fun k3 => bq_s (fun _ => ⟨rfl, ⟨r0, r1, r2, r3, r4, r5, r6.succ, r7, r8.succ⟩⟩) (fun k4 => bq_tn ?_ ⟨rfl, ⟨r0, r1, r2, r3, r4, r5, r6.succ, r7, r8.succ⟩⟩))))
    rcases h with (h | h) | (h | h) | h
    · exact absurd h k1
    · exact absurd h k2
    · exact absurd h k3
    · exact absurd h k4
    · exact h
  refine C_TH_quarrel _ _ _ (B_TH_quarrel_0 _ _ _ ?_)
  rcases nI_dec x c hc with hx | ⟨i, hi, rfl⟩
  · refine C_Fs_quarrelOf _ _ _ (B_Fs_quarrelOf_0 _ _ _ (K_numF (by rw [e1]; exact hx) ⟨fun _ => ?_, fun q h => absurd h (by simp)⟩))
    rcases nI_dec y c hc with hy | ⟨j, hj, rfl⟩
    · exact K_numF (by rw [e1]; exact hy) ⟨fun _ => NO (Or.inl hx), fun q h => absurd h (by simp)⟩
    · exact K_numT e1 hc hj ⟨fun _ => NO (Or.inl hx), fun q h => NO (Or.inl hx)⟩
  · rcases nI_dec y c hc with hy | ⟨j, hj, rfl⟩
    · obtain ⟨q, a1, -⟩ := hq.2 i hi
      refine C_Fs_quarrelOf _ _ _ (B_Fs_quarrelOf_0 _ _ _ (K_numT e1 hc hi ⟨fun z => absurd (a1.symm.trans z) (by simp), fun q' z => ?_⟩))
      exact K_numF (by rw [e1]; exact hy) ⟨fun _ => NO (Or.inr (Or.inl hy)), fun q h => absurd h (by simp)⟩
    · by_cases hij : i = j
      · subst hij
        obtain ⟨q, a1, -⟩ := hq.2 i hi
        refine C_Fs_quarrelOf _ _ _ (B_Fs_quarrelOf_0 _ _ _ (K_numT e1 hc hi ⟨fun z => absurd (a1.symm.trans z) (by simp), fun q' z => ?_⟩))
        exact K_numT e1 hc hi ⟨fun z => absurd (a1.symm.trans z) (by simp), fun r z => bq_tn rfl (NO (Or.inr (Or.inr rfl)))⟩
      · refine K_qOf hq hi hj hij (C_Md_quarrel _ _ _ (B_Md_quarrel_0 _ _ _ ?_))
        rw [e2]
        exact bq_f (nI_pos (by omega)) (bq_f (nI_ge hi (by omega)) (bq_f (nI_pos (by omega)) (bq_f (nI_ge hj (by omega)) (bq_fn (fun z => hij ((nI_eq (by omega) (by omega)).mp z)) (K_mq0 hq hi hj hij ⟨rfl, ⟨r0, r1, r2, r3, r4, r5, r6.succ, r7, r8.succ⟩⟩)))))
