/-! THE LAW'S CONTRACT GIVES THE CLAIM. -/
theorem mem_cases {P : va_E → Prop} {l1 l2 : List va_E} (h1 : ∀ e ∈ l1, P e) (h2 : ∀ e ∈ l2, P e) : ∀ e ∈ l1 ++ l2, P e := List.forall_mem_append.mpr ⟨h1, h2⟩
theorem mem_range {P : va_E → Prop} {n : Nat} {f : Nat → va_E} (h : ∀ i, P (f i)) : ∀ e ∈ (List.range n).map f, P e := by
  intro e he
  obtain ⟨i, -, rfl⟩ := List.mem_map.mp he
  exact h i
set_option maxRecDepth 100000 in
theorem enc_xs {σ : St} (h : ∀ q, xs1 (gD σ q) ≤ 7) : ∀ e ∈ enc σ, xs1 e ≤ 5082 := by
  have hd : ∀ q, xs1 (gD σ q) ≤ 5082 := fun q => Nat.le_trans (h q) (by decide)
  unfold enc
  refine mem_cases ?_ (mem_cases (mem_range fun _ => Nat.le_of_ble_eq_true rfl) (mem_cases ?_ (mem_cases (mem_range fun _ => Nat.le_of_ble_eq_true rfl) (mem_cases ?_ (mem_cases (mem_range fun _ => Nat.le_of_ble_eq_true rfl) (mem_cases ?_ (mem_cases (mem_range fun _ => Nat.le_of_ble_eq_true rfl) (mem_cases ?_ (mem_cases (mem_range fun _ => Nat.le_of_ble_eq_true rfl) (mem_cases ?_ (mem_range fun _ => hd _)))))))))))
  all_goals
    first | unfold en0 | unfold en2 | unfold en4 | unfold en6 | unfold en8 | unfold en10
    repeat' (first | exact List.forall_mem_nil _ | refine List.forall_mem_cons.mpr ⟨?_, ?_⟩)
    all_goals first | exact Nat.le_of_ble_eq_true rfl | exact hd _
theorem xsz_le {l : XH} (B : Nat) (h : ∀ e ∈ l, xs1 e ≤ B) : xsz l ≤ B * l.length := by
  induction l with
  | nil => exact Nat.le_refl 0
  | cons a l ih =>
    have h1 := h a List.mem_cons_self
    have h2 := ih (fun e he => h e (List.mem_cons_of_mem _ he))
    have e1 : xsz (a :: l) = xs1 a + xsz l := by simp [xsz]
    rw [e1, List.length_cons, Nat.mul_succ]
    omega
theorem xsz_enc {σ : St} (h : ∀ q, xs1 (gD σ q) ≤ 7) : xsz (enc σ) ≤ 940170 + 7 * gn σ := by
  have e : xsz (enc σ) = xsz (ef σ) + xsz ((List.range (gn σ)).map (fun i => gD σ (185 + i))) := by
    rw [ef_enc σ, List.append_nil]
    simp [xsz]
  have a := xsz_le 5082 (l := ef σ) (fun x hx => enc_xs h x (by rw [ef_enc σ]; exact List.mem_append_left _ hx))
  have b := xsz_le 7 (l := (List.range (gn σ)).map (fun i => gD σ (185 + i))) (mem_range fun i => h _)
  rw [ef_len] at a
  rw [List.length_map, List.length_range] at b
  omega
theorem room_le {s : State} {pl : Platform} {r r' : Room} (h : s.hasRoom pl r = true) (h1 : r'.frames ≤ r.frames) (h2 : r'.cells ≤ r.cells) (h3 : r'.slots ≤ r.slots) (h4 : r'.locals ≤ r.locals) : s.hasRoom pl r' = true := by
  simp only [State.hasRoom, Bool.and_eq_true, decide_eq_true_eq] at h ⊢
  obtain ⟨⟨⟨⟨g1, g2, g3, g4, g5, g6⟩, g7⟩, g8⟩, g9⟩ := h
  exact ⟨⟨⟨⟨by omega, by omega, by omega, by omega, by omega, g6⟩, by omega⟩, by omega⟩, g9⟩
set_option maxHeartbeats 2000000 in
set_option maxRecDepth 100000 in
theorem whole_open (H3 : ∀ S : XS, S.1 ≤ 3072 → OPS3 S) {p : Program} {e : Env} {s : State} {m : MethodId} {below : List Frame} {meth : Method} {c : Code} (l : Launch) {b L : Nat} {xs : Nat → Int32} (hL : L ≤ 3072) (C0 : lw_At p s m meth c b L xs) : W p l e room_1 s m #[Value.ref b] below meth c s.heap [] 0 0 (lw_Z below #[Value.ref b] s) (entryFrame m ([Value.ref b] : List Value).toArray 4) := by
  obtain ⟨K, k1, k2, hE⟩ := mk_E C0
  obtain ⟨c1, c2, c3, c4, c5, hts, hX, hbl, hlk, hnm, hg⟩ := C0
  obtain ⟨r, h', ⟨v, τ, rfl, rfl, rfl, k, hk, hR⟩, w⟩ := law0 (S := (L, xs)) hL (H3 _ hL)
  have h8 := hR.2.2.2.2.2.2.2.2
  have n1 : (enc τ).length ≤ 2000 := by
    rw [enc_len]
    have := h8.1
    omega
  have n2 := xsz_enc h8.2
  have n3 := h8.1
  have hC : xC K (L, xs) m_Lw_law p s m #[Value.ref b] meth c := ⟨c1, c2, c3, c4, c5, fun w hw => hts w (List.mem_filter.mp hw).1, hlk, hnm, hE, by rw [k1]; exact Nat.le_refl _⟩
  have hl := lv_entry ([Value.ref b] : List Value) (n := 4) (Nat.le_of_ble_eq_true rfl)
  rw [lg_entry_eq]
  generalize (lg_sl ([Value.ref b] : List Value) ++ List.replicate (4 - (lg_sl ([Value.ref b] : List Value)).length) Slot.unset).toArray = A at hl ⊢
  have hA : lvX K A 4 [some (.retAddr 99), none, none, none] := by
    refine ⟨hl.1, hl.2.1, fun i v hi => ?_⟩
    match i, hi with
    | 0, hi =>
      cases hi
      have q := hl.2.2 (0, .ref b) (by simp [lv_args])
      show A[0]? = some (.val (.ref (K.2.2.2 99)))
      rw [k2]
      exact q
    | 1, hi => cases hi
    | 2, hi => cases hi
    | 3, hi => cases hi
    | (i + 4), hi => exact absurd (List.getElem?_eq_some_iff.mp hi).1 (by show ¬ i + 4 < 4; omega)
  have W0 := w.2 l K p e s m #[Value.ref b] below meth c 0 0 s.heap [] A hC (Nat.zero_le _) (Nat.zero_le _) ⟨by rw [k1]; rfl, fun k q hq => by cases hq⟩ ⟨Nat.le_refl _, fun q _ _ => rfl, fun q hq => by cases hq⟩ hA
  intro T hT X
  have hrm : s.hasRoom e.platform (xrm m_Lw_law ((enc τ).length - 0) (xsz (enc τ) - 0)) = true := room_le X.room (show 11 ≤ 13 by decide) (show (enc τ).length - 0 ≤ 600000 by omega) (show xsz (enc τ) - 0 ≤ 7302250 by omega) (show 239 ≤ 480 by decide)
  have X2 : Stand p l e (xrm m_Lw_law ((enc τ).length - 0) (xsz (enc τ) - 0)) s m #[Value.ref b] below meth c T [] 0 0 := { X with room := hrm }
  obtain ⟨t, a, o, b1, b2, ⟨q1, q2, q3⟩, L', hF, hfr⟩ := W0 T hT X2
  refine ⟨t, a, o, b1, b2, q1, ?_⟩
  obtain ⟨f1, f2, f3⟩ := hF
  refine ⟨f1, f2, f3.weaken (fun y hy hlt => ?_) (by omega) (by omega)⟩
  have := hfr y hy
  have h9 : K.1 ≤ y.base := this
  rw [k1] at h9
  exact absurd hlt (Nat.not_lt.mpr h9)
