/-! THE JDK: Math, Arrays.fill. -/
theorem d_Ja_fill_0 : decode m_Ja_fill.2.1 0 = .ok (.iconst 0, 1) := by decide +kernel
theorem d_Ja_fill_1 : decode m_Ja_fill.2.1 1 = .ok (.istore_n 2, 1) := by decide +kernel
theorem d_Ja_fill_2 : decode m_Ja_fill.2.1 2 = .ok (.aload_n 0, 1) := by decide +kernel
theorem d_Ja_fill_3 : decode m_Ja_fill.2.1 3 = .ok (.arraylength, 1) := by decide +kernel
theorem d_Ja_fill_4 : decode m_Ja_fill.2.1 4 = .ok (.istore_n 3, 1) := by decide +kernel
theorem d_Ja_fill_5 : decode m_Ja_fill.2.1 5 = .ok (.iload_n 2, 1) := by decide +kernel
theorem d_Ja_fill_6 : decode m_Ja_fill.2.1 6 = .ok (.iload_n 3, 1) := by decide +kernel
theorem d_Ja_fill_7 : decode m_Ja_fill.2.1 7 = .ok (.if_icmp .ge 13, 3) := by decide +kernel
theorem d_Ja_fill_10 : decode m_Ja_fill.2.1 10 = .ok (.aload_n 0, 1) := by decide +kernel
theorem d_Ja_fill_11 : decode m_Ja_fill.2.1 11 = .ok (.iload_n 2, 1) := by decide +kernel
theorem d_Ja_fill_12 : decode m_Ja_fill.2.1 12 = .ok (.iload_n 1, 1) := by decide +kernel
theorem d_Ja_fill_13 : decode m_Ja_fill.2.1 13 = .ok (.iastore, 1) := by decide +kernel
theorem d_Ja_fill_14 : decode m_Ja_fill.2.1 14 = .ok (.iinc 2 1, 3) := by decide +kernel
theorem d_Ja_fill_17 : decode m_Ja_fill.2.1 17 = .ok (.goto (-12), 3) := by decide +kernel
theorem d_Ja_fill_20 : decode m_Ja_fill.2.1 20 = .ok (.return_, 1) := by decide +kernel
theorem lgc_lt (x y : Int64) : lg_cmp x y < 0 ↔ x < y := by
  unfold lg_cmp
  by_cases h1 : x > y
  · rw [if_pos h1]
    refine ⟨fun h => absurd h (by decide), fun h => ?_⟩
    have h1 := Int64.lt_iff_toInt_lt.mp h1
    have h := Int64.lt_iff_toInt_lt.mp h
    omega
  · rw [if_neg h1]
    by_cases h2 : x = y
    · rw [if_pos h2]
      subst h2
      refine ⟨fun h => absurd h (by decide), fun h => ?_⟩
      have h := Int64.lt_iff_toInt_lt.mp h
      omega
    · rw [if_neg h2]
      refine ⟨fun _ => ?_, fun _ => by decide⟩
      refine Int64.lt_iff_toInt_lt.mpr ?_
      have h3 : ¬ y.toInt < x.toInt := fun q => h1 (Int64.lt_iff_toInt_lt.mpr q)
      have h4 : ¬ x.toInt = y.toInt := fun q => h2 (Int64.toInt_inj.mp q)
      omega
theorem lgc_gt (x y : Int64) : 0 < lg_cmp x y ↔ y < x := by
  unfold lg_cmp
  by_cases h1 : x > y
  · rw [if_pos h1]
    exact ⟨fun _ => h1, fun _ => by decide⟩
  · rw [if_neg h1]
    by_cases h2 : x = y
    · rw [if_pos h2]
      exact ⟨fun h => absurd h (by decide), fun h => absurd h h1⟩
    · rw [if_neg h2]
      exact ⟨fun h => absurd h (by decide), fun h => absurd h h1⟩
theorem lgc_eq (x y : Int64) : lg_cmp x y = 0 ↔ x = y := by
  unfold lg_cmp
  by_cases h1 : x > y
  · rw [if_pos h1]
    refine ⟨fun h => absurd h (by decide), fun h => ?_⟩
    subst h
    have h1 := Int64.lt_iff_toInt_lt.mp h1
    omega
  · rw [if_neg h1]
    by_cases h2 : x = y
    · rw [if_pos h2]
      exact ⟨fun _ => h2, fun _ => rfl⟩
    · rw [if_neg h2]
      exact ⟨fun h => absurd h (by decide), fun h => absurd h h2⟩
theorem fill_loop {S : XS} {h : XH} {a n : Nat} {f : Nat → Int32} (v : Int32) (he : h[a]? = some (.inl (0, n, .inl f))) (hn : n < 2 ^ 31) : ∀ (d k : Nat) (g : Nat → Int32), n - k = d → k ≤ n → AW S m_Ja_fill 5 [some (.ref a), some (.int v), some (.int (nI k)), some (.int (nI n))] [] (h.set a (.inl (0, n, .inl g))) none (h.set a (.inl (0, n, .inl (fun j => if k ≤ j ∧ j < n then v else g j)))) := by
  have hl := (List.getElem?_eq_some_iff.mp he).1
  intro d
  induction d with
  | zero =>
    intro k g hd hk
    have hkn : k = n := by omega
    subst hkn
    have e : (fun j => if k ≤ j ∧ j < k then v else g j) = g := by
      funext j
      rw [if_neg (by omega)]
    rw [e]
    refine x_iload_n d_Ja_fill_5 rfl rfl ?_
    refine x_iload_n d_Ja_fill_6 rfl rfl ?_
    refine x_icmp_ge (tgt := 20) d_Ja_fill_7 (by decide) (fun c => ?_) (fun c => absurd (nI_le (Nat.le_refl k) hn) c)
    exact x_vret d_Ja_fill_20 rfl
  | succ d ih =>
    intro k g hd hk
    have hlt : k < n := by omega
    refine x_iload_n d_Ja_fill_5 rfl rfl ?_
    refine x_iload_n d_Ja_fill_6 rfl rfl ?_
    refine x_icmp_ge (tgt := 20) d_Ja_fill_7 (by decide) (fun c => absurd c (nI_ge hlt hn)) (fun c => ?_)
    refine x_aload_n d_Ja_fill_10 rfl rfl ?_
    refine x_iload_n d_Ja_fill_11 rfl rfl ?_
    refine x_iload_n d_Ja_fill_12 rfl rfl ?_
    have q := ih (k + 1) (upd g k v) (by omega) (by omega)
    have e : (fun j => if k + 1 ≤ j ∧ j < n then v else upd g k v j) = (fun j => if k ≤ j ∧ j < n then v else g j) := by
      funext j
      unfold upd
      by_cases h1 : j = k
      · subst h1
        simp [hlt]
      · by_cases h2 : k + 1 ≤ j ∧ j < n
        · rw [if_pos h2, if_pos (by omega)]
        · rw [if_neg h2, if_neg h1, if_neg (by omega)]
    rw [e] at q
    refine x_iast (h1 := h.set a (.inl (0, n, .inl (upd g k v)))) (f := g) d_Ja_fill_13 (by rw [List.getElem?_set_self hl]) (vp_in_nI hlt hn) (by rw [List.set_set, nI_clamp (by omega)]) ?_
    refine x_iinc (v := nI (k + 1)) (ls' := [some (.ref a), some (.int v), some (.int (nI (k + 1))), some (.int (nI n))]) d_Ja_fill_14 rfl (nI_1 k) (Nat.le_of_ble_eq_true rfl) rfl ?_
    exact x_goto (tgt := 5) d_Ja_fill_17 (by decide) q
theorem K_fill {S : XS} {h : XH} {a n : Nat} {f : Nat → Int32} (v : Int32) (he : h[a]? = some (.inl (0, n, .inl f))) (hn : n < 2 ^ 31) : AM S m_Ja_fill [.ref a, .int v] h none (h.set a (.inl (0, n, .inl (fun j => if j < n then v else f j)))) := by
  have q := fill_loop (S := S) v he hn n 0 f (by omega) (by omega)
  have hl := (List.getElem?_eq_some_iff.mp he).1
  have e0 : h.set a (.inl (0, n, .inl f)) = h := by
    apply List.ext_getElem?
    intro j
    by_cases hj : a = j
    · subst hj
      rw [List.getElem?_set_self hl, he]
    · rw [List.getElem?_set_ne hj]
  rw [e0] at q
  have e : (fun j => if 0 ≤ j ∧ j < n then v else f j) = (fun j => if j < n then v else f j) := by
    funext j
    simp
  rw [e] at q
  refine x_meth (ls := [some (.ref a), some (.int v), none, none]) (by decide) (Nat.le_of_ble_eq_true rfl) rfl ?_
  refine x_iconst (v := 0) d_Ja_fill_0 (by decide) ?_
  refine x_istore_n (ls' := [some (.ref a), some (.int v), some (.int 0), none]) d_Ja_fill_1 rfl (Nat.le_of_ble_eq_true rfl) rfl ?_
  refine x_aload_n d_Ja_fill_2 rfl rfl ?_
  refine x_alen (v := nI n) d_Ja_fill_3 he (by decide) rfl ?_
  refine x_istore_n (ls' := [some (.ref a), some (.int v), some (.int 0), some (.int (nI n))]) d_Ja_fill_4 rfl (Nat.le_of_ble_eq_true rfl) rfl ?_
  exact q
theorem K_fillA {S : XS} {Q : St → Prop} (σ τ : St) {a n : Nat} {f : Nat → Int32} (v : Int32) (he : (enc σ)[a]? = some (.inl (0, n, .inl f))) (hn : n < 2 ^ 31) (hs : (enc σ).set a (.inl (0, n, .inl (fun j => if j < n then v else f j))) = enc τ) (H : Q τ) : CM S m_Ja_fill [.ref a, .int v] (enc σ) (qV Q) := ⟨none, _, ⟨τ, rfl, rfl, H⟩, by rw [← hs]; exact K_fill v he hn⟩
