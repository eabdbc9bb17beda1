/-! THE LAW'S LOOP. -/
/-- what three operations still owe -/
def OPS3 (S : XS) : Prop := ∀ (n : Nat) (σ : St), n < 512 → RR n σ → (∀ a, OPI S n σ m_TH_fill m_Md_fill [.int a]) ∧ (∀ a b, OPI S n σ m_TH_fact m_Md_fact [.int a, .int b]) ∧ (∀ a, OPI S n σ m_TH_agree m_Md_agree [.int a])
set_option maxHeartbeats 4000000 in
set_option maxRecDepth 100000 in
theorem lawL {S : XS} (hS : S.1 ≤ 3072) (H3 : OPS3 S) : ∀ d n σ, S.1 / 6 - n = d → n ≤ S.1 / 6 → RR n σ → BW S m_Lw_law 18 [some (.retAddr 99), some (.ref 0), some (.ref 153), some (.int (nI (6 * n)))] [] (enc σ) (qI (fun v τ => v = 1 ∧ ∃ k, k ≤ 512 ∧ RR k τ)) := by
  have z6 : (6 : Int32).toInt = 6 := rfl
  have t0 : (nI S.1).toInt = (S.1 : Int) := nI_toInt (by omega)
  have t1 : (nI S.1 - 6).toInt = (S.1 : Int) - 6 := by rw [ti_sub (by omega) (by omega), t0, z6]
  intro d
  induction d with
  | zero =>
    intro n σ hd hn hR
    refine B_Lw_law_18 _ _ (bq_t ?_ ⟨rfl, n, by omega, hR⟩)
    show nI S.1 - 6 < nI (6 * n)
    refine Int32.lt_iff_toInt_lt.mpr ?_
    rw [t1, nI_toInt (by omega)]
    omega
  | succ d ih =>
    intro n σ hd hn hR
    have hlt : n < S.1 / 6 := by omega
    have h512 : n < 512 := by omega
    have h6 : 6 * n + 6 ≤ S.1 := by omega
    have o3 := H3 n σ h512 hR
    have v : ∀ k : Nat, k < 6 → vp_in (nI (6 * n) + nI k) S.1 := fun k hk => by
      rw [nI_add]
      exact vp_in_nI (by omega) (by omega)
    have v0 : vp_in (nI (6 * n)) S.1 := vp_in_nI (by omega) (by omega)
    have v1 : vp_in (nI (6 * n) + 1) S.1 := v 1 (by omega)
    have v2 : vp_in (nI (6 * n) + 2) S.1 := v 2 (by omega)
    have v3 : vp_in (nI (6 * n) + 3) S.1 := v 3 (by omega)
    have v4 : vp_in (nI (6 * n) + 4) S.1 := v 4 (by omega)
    have v5 : vp_in (nI (6 * n) + 5) S.1 := v 5 (by omega)
    have NX : ∀ ρ, RR (n + 1) ρ → BW S m_Lw_law 1305 [some (.retAddr 99), some (.ref 0), some (.ref 153), some (.int (nI (6 * n)))] [] (enc ρ) (qI (fun v τ => v = 1 ∧ ∃ k, k ≤ 512 ∧ RR k τ)) := by
      intro ρ hρ
      refine B_Lw_law_1305 _ _ ?_
      have e : nI (6 * n) + 6 = nI (6 * (n + 1)) := by
        show nI (6 * n) + nI 6 = _
        rw [nI_add, show 6 * n + 6 = 6 * (n + 1) by omega]
      rw [e]
      exact ih (n + 1) ρ (by omega) (by omega) hρ
    refine B_Lw_law_18 _ _ (bq_f ?_ ⟨v0, ?_⟩)
    · show ¬ nI S.1 - 6 < nI (6 * n)
      intro z
      have := Int32.lt_iff_toInt_lt.mp z
      rw [t1, nI_toInt (by omega)] at this
      omega
    refine ⟨fun _ => ?_, fun _ => ?_, fun _ => ?_, fun _ => ?_, fun _ => ?_, fun _ => ?_, fun _ => ?_, fun _ => ?_, fun _ => ?_, fun _ => ?_, fun _ => ?_, fun _ => ?_, fun _ => ?_, fun _ => ?_, fun _ => ?_, fun _ => ?_, fun _ => ?_, fun _ => ?_, fun _ => ?_, fun _ => ?_, fun _ => ?_, fun _ => ?_, fun _ => ?_, fun _ => ?_, fun _ => ?_, fun _ => ?_, fun _ => ?_, fun _ => ?_, fun _ => ?_, fun _ => ?_, fun _ => ?_, fun _ => ?_, fun _ => ?_, fun _ => ?_, fun _ _ _ _ _ _ _ _ _ _ _ _ _ _ _ _ _ _ _ _ _ _ _ _ _ _ _ _ _ _ _ _ _ _ => NX σ hR.succ⟩
    · exact ⟨v1, v2, v3, v4, v5, CM.monoI (op_feed hR _ _ _ _ _) (fun v τ hv => ⟨v1, v2, v3, v4, v5, CM.monoI hv (fun w ρ hw => ⟨fun _ => NX ρ hw.2, fun z => absurd hw.1 z⟩)⟩)⟩
    · exact ⟨v1, CM.monoI (op_end hR _) (fun v τ hv => ⟨v1, CM.monoI hv (fun w ρ hw => ⟨fun _ => NX ρ hw.2, fun z => absurd hw.1 z⟩)⟩)⟩
    · exact ⟨v1, CM.monoI (op_paragraph hR _) (fun v τ hv => ⟨v1, CM.monoI hv (fun w ρ hw => ⟨fun _ => NX ρ hw.2, fun z => absurd hw.1 z⟩)⟩)⟩
    · exact ⟨v1, CM.monoI (op_word hR _) (fun v τ hv => ⟨v1, CM.monoI hv (fun w ρ hw => ⟨fun _ => NX ρ hw.2, fun z => absurd hw.1 z⟩)⟩)⟩
    · exact CM.monoI (op_clear hR ) (fun v τ hv => CM.monoI hv (fun w ρ hw => ⟨fun _ => NX ρ hw.2, fun z => absurd hw.1 z⟩))
    · exact ⟨v1, v2, v3, v4, CM.monoI (op_page hR _ _ _ _) (fun v τ hv => ⟨v1, v2, v3, v4, CM.monoI hv (fun w ρ hw => ⟨fun _ => NX ρ hw.2, fun z => absurd hw.1 z⟩)⟩)⟩
    · exact ⟨v1, v2, CM.monoI (op_lines hR _ _) (fun v τ hv => ⟨v1, v2, CM.monoI hv (fun w ρ hw => ⟨fun _ => NX ρ hw.2, fun z => absurd hw.1 z⟩)⟩)⟩
    · exact ⟨v1, CM.monoI (o3.1 _) (fun v τ hv => ⟨v1, CM.monoI hv (fun w ρ hw => ⟨fun _ => NX ρ hw.2, fun z => absurd hw.1 z⟩)⟩)⟩
    · exact ⟨v1, v2, CM.monoI (op_set hR _ _) (fun v τ hv => ⟨v1, v2, CM.monoI hv (fun w ρ hw => ⟨fun _ => NX ρ hw.2, fun z => absurd hw.1 z⟩)⟩)⟩
    · exact ⟨v1, v2, CM.monoI (op_line hR _ _) (fun v τ hv => ⟨v1, v2, CM.monoI hv (fun w ρ hw => ⟨fun _ => NX ρ hw.2, fun z => absurd hw.1 z⟩)⟩)⟩
    · exact ⟨v1, v2, CM.monoI (o3.2.1 _ _) (fun v τ hv => ⟨v1, v2, CM.monoI hv (fun w ρ hw => ⟨fun _ => NX ρ hw.2, fun z => absurd hw.1 z⟩)⟩)⟩
    · exact ⟨v1, CM.monoI (op_fault hR _) (fun v τ hv => ⟨v1, CM.monoI hv (fun w ρ hw => ⟨fun _ => NX ρ hw.2, fun z => absurd hw.1 z⟩)⟩)⟩
    · exact ⟨v1, v2, CM.monoI (op_strike hR _ _) (fun v τ hv => ⟨v1, v2, CM.monoI hv (fun w ρ hw => ⟨fun _ => NX ρ hw.2, fun z => absurd hw.1 z⟩)⟩)⟩
    · exact ⟨v1, v2, CM.monoI (op_quarrel hR _ _) (fun v τ hv => ⟨v1, v2, CM.monoI hv (fun w ρ hw => ⟨fun _ => NX ρ hw.2, fun z => absurd hw.1 z⟩)⟩)⟩
    · exact ⟨v1, CM.monoI (op_quarrels hR _) (fun v τ hv => ⟨v1, CM.monoI hv (fun w ρ hw => ⟨fun _ => NX ρ hw.2, fun z => absurd hw.1 z⟩)⟩)⟩
    · exact ⟨v1, v2, CM.monoI (op_found hR _ _) (fun v τ hv => ⟨v1, v2, CM.monoI hv (fun w ρ hw => ⟨fun _ => NX ρ hw.2, fun z => absurd hw.1 z⟩)⟩)⟩
    · exact ⟨v1, CM.monoI (op_mend hR _) (fun v τ hv => ⟨v1, CM.monoI hv (fun w ρ hw => ⟨fun _ => NX ρ hw.2, fun z => absurd hw.1 z⟩)⟩)⟩
    · exact ⟨v1, CM.monoI (o3.2.2 _) (fun v τ hv => ⟨v1, CM.monoI hv (fun w ρ hw => ⟨fun _ => NX ρ hw.2, fun z => absurd hw.1 z⟩)⟩)⟩
    · exact ⟨v1, CM.monoI (op_agreed hR _) (fun v τ hv => ⟨v1, CM.monoI hv (fun w ρ hw => ⟨fun _ => NX ρ hw.2, fun z => absurd hw.1 z⟩)⟩)⟩
    · exact ⟨v1, CM.monoL (op_share hR _ h512) (fun v τ hv => ⟨v1, CM.monoL hv (fun w ρ hw => ⟨fun _ => NX ρ hw.2, fun z => absurd ((lgc_eq _ _).mpr hw.1) z⟩)⟩)⟩
    · exact ⟨v1, CM.monoI (op_start hR _) (fun v τ hv => ⟨v1, CM.monoI hv (fun w ρ hw => ⟨fun _ => NX ρ hw.2, fun z => absurd hw.1 z⟩)⟩)⟩
    · exact ⟨v1, v2, CM.monoI (op_came hR _ _) (fun v τ hv => ⟨v1, v2, CM.monoI hv (fun w ρ hw => ⟨fun _ => NX ρ hw.2, fun z => absurd hw.1 z⟩)⟩)⟩
    · exact ⟨v1, CM.monoI (op_due hR _) (fun v τ hv => ⟨v1, CM.monoI hv (fun w ρ hw => ⟨fun _ => NX ρ hw.2, fun z => absurd hw.1 z⟩)⟩)⟩
    · exact ⟨v1, v2, v3, v4, CM.monoI (op_prices hR _ _ _ _) (fun v τ hv => ⟨v1, v2, v3, v4, CM.monoI hv (fun w ρ hw => ⟨fun _ => NX ρ hw.2, fun z => absurd hw.1 z⟩)⟩)⟩
    · exact ⟨v1, v2, v3, ⟨fun y => CM.monoI (op_keep hR _ _ 0 (Or.inl rfl)) (fun v τ hv => ⟨v1, v2, v3, ⟨fun _ => CM.monoI hv (fun w ρ hw => ⟨fun _ => NX ρ hw.2, fun z => absurd hw.1 z⟩), fun z => absurd y z⟩⟩), fun y => CM.monoI (op_keep hR _ _ 1 (Or.inr rfl)) (fun v τ hv => ⟨v1, v2, v3, ⟨fun z => absurd z y, fun _ => CM.monoI hv (fun w ρ hw => ⟨fun _ => NX ρ hw.2, fun z => absurd hw.1 z⟩)⟩⟩)⟩⟩
    · exact ⟨v1, v2, v3, CM.monoI (op_print hR _ _ _ h512) (fun v τ hv => ⟨v1, v2, v3, CM.monoI hv (fun w ρ hw => ⟨fun _ => NX ρ hw.2, fun z => absurd hw.1 z⟩)⟩)⟩
    · exact ⟨v1, v2, v3, CM.monoI (op_sell hR _ _ _ h512) (fun v τ hv => ⟨v1, v2, v3, CM.monoI hv (fun w ρ hw => ⟨fun _ => NX ρ hw.2, fun z => absurd hw.1 z⟩)⟩)⟩
    · exact ⟨v1, v2, CM.monoI (op_pulp hR _ _ h512) (fun v τ hv => ⟨v1, v2, CM.monoI hv (fun w ρ hw => ⟨fun _ => NX ρ hw.2, fun z => absurd hw.1 z⟩)⟩)⟩
    · exact ⟨v1, v2, v3, CM.monoI (op_stock hR _ _ _) (fun v τ hv => ⟨v1, v2, v3, CM.monoI hv (fun w ρ hw => ⟨fun _ => NX ρ hw.2, fun z => absurd hw.1 z⟩)⟩)⟩
    · exact ⟨v1, v2, v3, v4, CM.monoI (op_volume hR _ _ _ _ h512) (fun v τ hv => ⟨v1, v2, v3, v4, CM.monoI hv (fun w ρ hw => ⟨fun _ => NX ρ hw.2, fun z => absurd hw.1 z⟩)⟩)⟩
    · exact ⟨v1, v2, CM.monoI (op_foretell hR _ _) (fun v τ hv => ⟨v1, v2, CM.monoI hv (fun w ρ hw => ⟨fun _ => NX ρ hw.2, fun z => absurd hw.1 z⟩)⟩)⟩
    · exact ⟨v1, v2, CM.monoI (op_best hR _ _) (fun v τ hv => ⟨v1, v2, CM.monoI hv (fun w ρ hw => ⟨fun _ => NX ρ hw.2, fun z => absurd hw.1 z⟩)⟩)⟩
    · exact ⟨v1, v2, v3, CM.monoL (op_worth hR _ _ _) (fun v τ hv => ⟨v1, v2, v3, CM.monoL hv (fun w ρ hw => ⟨fun _ => NX ρ hw.2, fun z => absurd ((lgc_eq _ _).mpr hw.1) z⟩)⟩)⟩
    · exact CM.monoL (op_purse hR ) (fun v τ hv => CM.monoL hv (fun w ρ hw => ⟨fun _ => NX ρ hw.2, fun z => absurd ((lgc_eq _ _).mpr hw.1) z⟩))
