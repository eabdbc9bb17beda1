/-! ROWS: a store of an object; a call on a String constant. -/
section XM2
variable {S : XS} {M : XM} {pc : Nat} {ls : List (Option Value)} {st : List Value} {h h1 : XH} {r rv : Option Value} {h' : XH} {Q : Option Value → XH → Prop}
theorem b_st2 {st' : List Value} (e2 : st = st') (k : BW S M pc ls st' h Q) : BW S M pc ls st h Q := by subst e2; exact k
theorem x_aast {a t n cj v : Nat} {vs : List Value} {f : Nat → Option Nat} {i : Int32} (hd : decode M.2.1 pc = .ok (.aastore, 1)) (he : h[a]? = some (.inl (t, n, .inr (.inr (.inr (.inr f)))))) (hv : h[v]? = some (.inr (cj, vs))) (htc : (t = 3 ∧ cj = 3) ∨ (t = 4 ∧ cj = 0)) (hin : vp_in i n) (hh : h.set a (.inl (t, n, .inr (.inr (.inr (.inr (va_up f i.toNatClampNeg (some v))))))) = h1) (kk : AW S M (pc + 1) ls st h1 r h') : AW S M pc ls (.ref v :: .int i :: .ref a :: st) h r h' := by
  subst hh
  obtain ⟨e1, e2⟩ := xsa (y := .inr (.inr (.inr (.inr (va_up f i.toNatClampNeg (some v)))))) he
  refine ⟨by rw [← e1, ← e2]; exact kk.1, fun l K p e s m args below meth c n0 z0 H locs L C hn hz hR hS hL => ?_⟩
  have hlt : i.toNatClampNeg < n := Nat.not_le.mp fun q => hin (Or.inr q)
  have h0 : ¬ i < 0 := fun q => hin (Or.inl q)
  have hK := C.2.2.2.2.2.2.2.2.1.1
  obtain ⟨rc, hc, hty⟩ : ∃ rc : vw_C, xcl[cj]? = some rc ∧ (xtys K)[t]? = some (K.2.2.1 t, .object rc.1) := by
    rcases htc with ⟨rfl, rfl⟩ | ⟨rfl, rfl⟩
    · exact ⟨_, rfl, rfl⟩
    · exact ⟨_, rfl, rfl⟩
  obtain ⟨r', hr', cellV, g1, g2, g3, -⟩ := hR.2 v _ (xw_get hv)
  have hcls := (hK.1 cj rc hc).2
  obtain ⟨kA, comp, k1, k2, k3, -⟩ := (hK.2 t _ hty).2
  have hcomp : comp = K.2.1.1 cj := Option.some.inj (k3.symm.trans hcls.1)
  subst hcomp
  obtain ⟨kC, hkC, -⟩ := hcls.2
  refine W.aast (a := K.1 + a) (v := K.1 + v) C.1 C.2.1 (hR.2 a _ (xw_get he)) (fun q h => by cases h) (fun h => by cases h) k1 k2 rfl hkC ⟨h0, by show _ < (arrV _ _ _).slots.size; rw [arrV_size]; exact hlt⟩ g1 (fun q h => by rw [g3] at h; cases h) (by rw [g2]; exact hkC) (by rw [g2]; exact va_assign hcls) rfl rfl hd fun H1 w1 w2 w3 => ?_
  have hR1 : XR K (h.set a (.inl (t, n, .inr (.inr (.inr (.inr (va_up f i.toNatClampNeg (some v)))))))) H1 := by
    refine hR.set he w2 ?_ w3
    show H1[K.1 + a]? = some (vp_cell (K.2.2.1 t) (n, .inr (.inr (.inr (.inr (fun j => xf K (va_up f i.toNatClampNeg (some v) j)))))))
    rw [w1]
    show some ((vp_cell (K.2.2.1 t) (n, .inr (.inr (.inr (.inr (fun j => xf K (f j))))))).setSlot _ _) = _
    rw [vp_cell_q, vp_cell_q, arrV_store]
    congr 2
    funext q
    by_cases hq : q = i.toNatClampNeg
    · subst hq
      simp [updV, va_up, va_rf, xf]
    · simp [updV, va_up, hq]
  exact xgo kk e1 e2 C hn hz hR1 (hS.put w2 w3 (Nat.le_add_right _ _)) hL
theorem b_aast {a t n cj v : Nat} {vs : List Value} {f : Nat → Option Nat} {i : Int32} (hd : decode M.2.1 pc = .ok (.aastore, 1)) (he : h[a]? = some (.inl (t, n, .inr (.inr (.inr (.inr f)))))) (hv : h[v]? = some (.inr (cj, vs))) (htc : (t = 3 ∧ cj = 3) ∨ (t = 4 ∧ cj = 0)) (hin : vp_in i n) (hh : h.set a (.inl (t, n, .inr (.inr (.inr (.inr (va_up f i.toNatClampNeg (some v))))))) = h1) (kk : BW S M (pc + 1) ls st h1 Q) : BW S M pc ls (.ref v :: .int i :: .ref a :: st) h Q := by
  obtain ⟨r, h9, q, w⟩ := kk
  exact ⟨r, h9, q, x_aast hd he hv htc hin hh w⟩
def xLT (M Mc : XM) (index n : Nat) : Prop := xLk M Mc n ∧ Cond.methodLink M.1.cls index Mc.1 ∈ gtbl ∧ Cond.instanceMethod Mc.1 ∈ gtbl ∧ Cond.selects Mc.1.cls Mc.1 Mc.1 ∈ gtbl ∧ Mc.1.cls = "java/lang/String"
theorem x_callT {index b n : Nat} {Mc : XM} {As stk : List Value} (hd : decode M.2.1 pc = .ok (.invokevirtual index, 3)) (hl : xLT M Mc index n) (hb7 : b < 7) (hn9 : As.length = n) (hs9 : stk = As.reverse ++ .retAddr b :: st) (hst : (st.map fun v => v.category).sum ≤ 8) (hM : AM S Mc (.retAddr b :: As) h rv h1) (kk : AW S M (pc + 3) ls (rv.toList ++ st) h1 r h') : AW S M pc ls stk h r h' := by
  subst hs9
  refine ⟨⟨Nat.le_trans hM.1.1 kk.1.1, Nat.le_trans hM.1.2 kk.1.2⟩, fun l K p e s m args below meth c n0 z0 H locs L C hn hz hR hS hL => ?_⟩
  obtain ⟨⟨l1, l2, l3, l4⟩, l5, l6, l7, l8⟩ := hl
  have hts := C.2.2.2.2.2.1
  have k1 := kk.1
  have m1 := hM.1
  have hV := C.2.2.2.2.2.2.2.2.1.2.2.2.2.1
  refine xrun C hn hz hM.1 hS hL (va_runV (As := As.map (xv K)) (rest := st.map (xv K)) (b := K.2.2.2 b) (C := Mc.1.cls) ⟨C.1, C.2.1, C.2.2.2.1, C.2.2.2.2.1, hts⟩ (hM.2 l K) ⟨callB_of n hts (xGW l2) rfl rfl rfl (hts _ l1) (hts _ l5) l3 l4, hts _ l6, hts _ l7⟩ ⟨xP_blind, by rw [l8]; exact vk_recv hV hb7 hS, xP_at (l := l) (as := .retAddr b :: As) C hR hS⟩ rfl (by rw [List.length_map]; exact hn9) hL.1 ?_ (lv_room (by rw [xv_cats]; exact hst)) hd ⟨?_, ?_⟩) kk
  · show List.map (xv K) (As.reverse ++ .retAddr b :: st) = _
    rw [List.map_append, List.map_reverse]
    rfl
  · show h.length - n0 + (h1.length - h.length) ≤ h'.length - n0
    omega
  · show xsz h - z0 + (xsz h1 - xsz h) ≤ xsz h' - z0
    omega
theorem b_callTi {index b n : Nat} {Mc : XM} {As stk : List Value} {Qc : Int32 → St → Prop} (hd : decode M.2.1 pc = .ok (.invokevirtual index, 3)) (hl : xLT M Mc index n) (hb7 : b < 7) (hn9 : As.length = n) (hs9 : stk = As.reverse ++ .retAddr b :: st) (hst : (st.map fun v => v.category).sum ≤ 8) (hM : CM S Mc (.retAddr b :: As) h (qI Qc)) (kk : ∀ (v : Int32) (τ : St), Qc v τ → BW S M (pc + 3) ls (.int v :: st) (enc τ) Q) : BW S M pc ls stk h Q := by
  obtain ⟨r1, h2, qc0, w1⟩ := hM
  obtain ⟨v, τ, rfl, rfl, qc⟩ := qc0
  obtain ⟨r, h9, q, w⟩ := kk v τ qc
  exact ⟨r, h9, q, x_callT hd hl hb7 hn9 hs9 hst w1 w⟩
end XM2
set_option maxRecDepth 100000 in
theorem kT_Js_length : Cond.instanceMethod m_Js_length.1 ∈ gtbl ∧ Cond.selects m_Js_length.1.cls m_Js_length.1 m_Js_length.1 ∈ gtbl ∧ m_Js_length.1.cls = "java/lang/String" := ⟨gt_in 582 (by decide +kernel) rfl, gt_in 583 (by decide +kernel) rfl, rfl⟩
set_option maxRecDepth 100000 in
theorem kT_Js_charAt : Cond.instanceMethod m_Js_charAt.1 ∈ gtbl ∧ Cond.selects m_Js_charAt.1.cls m_Js_charAt.1 m_Js_charAt.1 ∈ gtbl ∧ m_Js_charAt.1.cls = "java/lang/String" := ⟨gt_in 592 (by decide +kernel) rfl, gt_in 593 (by decide +kernel) rfl, rfl⟩
