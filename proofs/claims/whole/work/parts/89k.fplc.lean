/-! FILLING: the class places. -/
def KP (τ : St) (g : Option Nat) (x9 x10 : Int32) (a6 a7 a8 : Nat → Int32) (b2 b4 : Nat → Nat → Int32) : St :=
  ((va_up (va_up τ.1.1 9 x9) 10 x10, va_up (va_up (va_up τ.1.2.1 6 a6) 7 a7) 8 a8, va_up (va_up τ.1.2.2.1 2 b2) 4 b4, τ.1.2.2.2.1, g, τ.1.2.2.2.2.2), τ.2)
section
variable (τ : St) (g : Option Nat) (x9 x10 : Int32) (a6 a7 a8 : Nat → Int32) (b2 b4 : Nat → Nat → Int32)
theorem KP_of : sA (sA (sA τ 6 a6) 7 a7) 8 a8 = KP τ (gN τ) (gX τ 9) (gX τ 10) a6 a7 a8 (gB τ 2) (gB τ 4) := by
  show ((τ.1.1, va_up (va_up (va_up τ.1.2.1 6 a6) 7 a7) 8 a8, τ.1.2.2.1, τ.1.2.2.2.1, τ.1.2.2.2.2.1, τ.1.2.2.2.2.2), τ.2) = ((va_up (va_up τ.1.1 9 (τ.1.1 9)) 10 (τ.1.1 10), va_up (va_up (va_up τ.1.2.1 6 a6) 7 a7) 8 a8, va_up (va_up τ.1.2.2.1 2 (τ.1.2.2.1 2)) 4 (τ.1.2.2.1 4), τ.1.2.2.2.1, τ.1.2.2.2.2.1, τ.1.2.2.2.2.2), τ.2)
  rw [va_ups, va_ups, va_ups, va_ups]
theorem brs_KP (p : Nat) (c W : Int32) (G : Nat → Nat → Int32) : brs (KP τ g x9 x10 a6 a7 a8 b2 b4) p c W G = KP τ (some p) c W a6 a7 a8 G b4 := by
  show ((va_up (va_up (va_up (va_up τ.1.1 9 x9) 10 x10) 9 c) 10 W, va_up (va_up (va_up τ.1.2.1 6 a6) 7 a7) 8 a8, va_up (va_up (va_up τ.1.2.2.1 2 b2) 4 b4) 2 G, τ.1.2.2.2.1, some p, τ.1.2.2.2.2.2), τ.2) = ((va_up (va_up τ.1.1 9 c) 10 W, va_up (va_up (va_up τ.1.2.1 6 a6) 7 a7) 8 a8, va_up (va_up τ.1.2.2.1 2 G) 4 b4, τ.1.2.2.2.1, some p, τ.1.2.2.2.2.2), τ.2)
  rw [va_upc _ (by decide : (10 : Nat) ≠ 9), va_up2, va_up2, va_upc _ (by decide : (4 : Nat) ≠ 2), va_up2]
theorem KP_6 (x : Nat → Int32) : sA (KP τ g x9 x10 a6 a7 a8 b2 b4) 6 x = KP τ g x9 x10 x a7 a8 b2 b4 := by
  show ((va_up (va_up τ.1.1 9 x9) 10 x10, va_up (va_up (va_up (va_up τ.1.2.1 6 a6) 7 a7) 8 a8) 6 x, va_up (va_up τ.1.2.2.1 2 b2) 4 b4, τ.1.2.2.2.1, g, τ.1.2.2.2.2.2), τ.2) = ((va_up (va_up τ.1.1 9 x9) 10 x10, va_up (va_up (va_up τ.1.2.1 6 x) 7 a7) 8 a8, va_up (va_up τ.1.2.2.1 2 b2) 4 b4, τ.1.2.2.2.1, g, τ.1.2.2.2.2.2), τ.2)
  rw [va_upc _ (by decide : (8 : Nat) ≠ 6), va_upc _ (by decide : (7 : Nat) ≠ 6), va_up2]
theorem KP_7 (x : Nat → Int32) : sA (KP τ g x9 x10 a6 a7 a8 b2 b4) 7 x = KP τ g x9 x10 a6 x a8 b2 b4 := by
  show ((va_up (va_up τ.1.1 9 x9) 10 x10, va_up (va_up (va_up (va_up τ.1.2.1 6 a6) 7 a7) 8 a8) 7 x, va_up (va_up τ.1.2.2.1 2 b2) 4 b4, τ.1.2.2.2.1, g, τ.1.2.2.2.2.2), τ.2) = ((va_up (va_up τ.1.1 9 x9) 10 x10, va_up (va_up (va_up τ.1.2.1 6 a6) 7 x) 8 a8, va_up (va_up τ.1.2.2.1 2 b2) 4 b4, τ.1.2.2.2.1, g, τ.1.2.2.2.2.2), τ.2)
  rw [va_upc _ (by decide : (8 : Nat) ≠ 7), va_up2]
theorem KP_8 (x : Nat → Int32) : sA (KP τ g x9 x10 a6 a7 a8 b2 b4) 8 x = KP τ g x9 x10 a6 a7 x b2 b4 := by
  show ((va_up (va_up τ.1.1 9 x9) 10 x10, va_up (va_up (va_up (va_up τ.1.2.1 6 a6) 7 a7) 8 a8) 8 x, va_up (va_up τ.1.2.2.1 2 b2) 4 b4, τ.1.2.2.2.1, g, τ.1.2.2.2.2.2), τ.2) = ((va_up (va_up τ.1.1 9 x9) 10 x10, va_up (va_up (va_up τ.1.2.1 6 a6) 7 a7) 8 x, va_up (va_up τ.1.2.2.1 2 b2) 4 b4, τ.1.2.2.2.1, g, τ.1.2.2.2.2.2), τ.2)
  rw [va_up2]
theorem KP_4 (p : Nat) (R : Nat → Int32) : sB (KP τ g x9 x10 a6 a7 a8 b2 b4) 4 p R = KP τ g x9 x10 a6 a7 a8 b2 (va_up b4 p R) := by
  show ((va_up (va_up τ.1.1 9 x9) 10 x10, va_up (va_up (va_up τ.1.2.1 6 a6) 7 a7) 8 a8, va_up (va_up (va_up τ.1.2.2.1 2 b2) 4 b4) 4 (va_up ((va_up (va_up τ.1.2.2.1 2 b2) 4 b4) 4) p R), τ.1.2.2.2.1, g, τ.1.2.2.2.2.2), τ.2) = ((va_up (va_up τ.1.1 9 x9) 10 x10, va_up (va_up (va_up τ.1.2.1 6 a6) 7 a7) 8 a8, va_up (va_up τ.1.2.2.1 2 b2) 4 (va_up b4 p R), τ.1.2.2.2.1, g, τ.1.2.2.2.2.2), τ.2)
  rw [va_upg, va_up2]
theorem KP_g6 : gA (KP τ g x9 x10 a6 a7 a8 b2 b4) 6 = a6 := rfl
theorem KP_g7 : gA (KP τ g x9 x10 a6 a7 a8 b2 b4) 7 = a7 := rfl
theorem KP_g8 : gA (KP τ g x9 x10 a6 a7 a8 b2 b4) 8 = a8 := rfl
theorem KP_gb : gB (KP τ g x9 x10 a6 a7 a8 b2 b4) 4 = b4 := rfl
end
def wfr (L : Nat → Int32) (m : Nat) (W : Int32) (n : Nat) : Nat → Nat
  | 0 => 0
  | k + 1 => wfr L m W n k + tkn L m W (n - k) (wfr L m W n k)
theorem wfr_p {L : Nat → Int32} {m : Nat} {W : Int32} {n : Nat} (hv : ¬ lc L m W n 0 = FAR) : ∀ k, k ≤ n → wfr L m W n k ≤ m ∧ ¬ lc L m W (n - k) (wfr L m W n k) = FAR := by
  intro k
  induction k with
  | zero => intro _; exact ⟨Nat.zero_le _, hv⟩
  | succ k ih =>
    intro hk
    obtain ⟨i1, i2⟩ := ih (by omega)
    obtain ⟨t1, t2, t3, t4⟩ := tkn_p (r := n - k) (by omega) i2
    refine ⟨?_, ?_⟩
    · show wfr L m W n k + tkn L m W (n - k) (wfr L m W n k) ≤ m
      omega
    · show ¬ lc L m W (n - (k + 1)) (wfr L m W n k + tkn L m W (n - k) (wfr L m W n k)) = FAR
      rw [show n - (k + 1) = n - k - 1 by omega]
      exact t4
section
variable {S : XS} {τ : St} {g : Option Nat} {x9 x10 : Int32} {a6 a7 a8 : Nat → Int32} {b2 b4 : Nat → Nat → Int32} {Q : St → Prop} {p m b n : Nat} {W : Int32}
theorem K_pl (hp : p < 20) (h4 : ¬ gX τ 4 ≤ nI p) (hW : gX τ 5 = W) (hm : gA τ 2 p = nI m) (hL : okL (gB τ 0 p) m) (hn : n ≤ m) (hv : ¬ lc (gB τ 0 p) m W n 0 = FAR) (hbn : b + n ≤ 120) (H : ∀ g x9 x10 b2, Q (KP τ g x9 x10 (layA a6 b (fun _ => nI p) n) (layA a7 b (fun k => nI (wfr (gB τ 0 p) m W n k)) n) (layA a8 b (fun k => nI (tkn (gB τ 0 p) m W (n - k) (wfr (gB τ 0 p) m W n k))) n) b2 b4)) : CM S m_Se_placeLines [.ref 82, .ref 3, .int (nI p), .int (nI b), .int (nI n)] (enc (KP τ g x9 x10 a6 a7 a8 b2 b4)) (qV Q) := by
  have hm30 := hL.1
  refine C_Se_placeLines _ _ _ _ (B_Se_placeLines_0 _ _ _ _ (C_Mn_breaksOf _ _ (B_Mn_breaksOf_0 _ _ (bq_f (nI_pos (by omega)) (bq_f h4 ⟨vp_in_nI (by omega) (by decide), ?_⟩)))))
  have f2 : gA (KP τ g x9 x10 a6 a7 a8 b2 b4) 2 p = nI m := hm
  have f5 : gX (KP τ g x9 x10 a6 a7 a8 b2 b4) 5 = W := hW
  rw [nI_clamp (n := p) (by omega), f2, f5]
  refine K_weigh (σ := KP τ g x9 x10 a6 a7 a8 b2 b4) hp hL (fun G hG => ⟨rfl, ?_⟩)
  rw [brs_KP]
  have L : ∀ e k, n - k = e → k ≤ n → BW S m_Se_placeLines 13 [some (.ref 82), none, some (.int (nI p)), some (.int (nI b)), some (.int (nI n)), some (.ref 49), some (.int (nI (wfr (gB τ 0 p) m W n k))), some (.int (nI k)), none] [] (enc (KP τ (some p) (nI m) W (layA a6 b (fun _ => nI p) k) (layA a7 b (fun k => nI (wfr (gB τ 0 p) m W n k)) k) (layA a8 b (fun k => nI (tkn (gB τ 0 p) m W (n - k) (wfr (gB τ 0 p) m W n k))) k) G b4)) (qV Q) := by
    intro e
    induction e with
    | zero =>
      intro k he hk
      obtain rfl : k = n := by omega
      exact B_Se_placeLines_13 _ _ _ _ _ _ (bq_t (nI_le (Nat.le_refl _) (by omega)) (H _ _ _ _))
    | succ e ih =>
      intro k he hk
      obtain ⟨w1, w2⟩ := wfr_p hv k (by omega)
      refine B_Se_placeLines_13 _ _ _ _ _ _ (bq_f (nI_ge (by omega) (by omega)) ?_)
      rw [nI_add, nI_sub (by omega)]
      refine bq_f (nI_ge (b := 120) (by omega) (by decide)) ?_
      have ih := ih (k + 1) (by omega) (by omega)
      generalize hA6 : layA a6 b (fun _ => nI p) k = A6 at ih ⊢
      generalize hA7 : layA a7 b (fun k => nI (wfr (gB τ 0 p) m W n k)) k = A7 at ih ⊢
      generalize hA8 : layA a8 b (fun k => nI (tkn (gB τ 0 p) m W (n - k) (wfr (gB τ 0 p) m W n k))) k = A8 at ih ⊢
      have eb := brs_KP τ (some p) (nI m) W A6 A7 A8 G b4 p (nI m) W G
      rw [← eb]
      refine K_wt (τ := KP τ (some p) (nI m) W A6 A7 A8 G b4) hp hL (by omega) (by omega) w1 hG w2 ?_
      rw [eb, KP_g6, KP_g7, KP_g8, KP_6, KP_7, KP_8, nI_add, nI_1, nI_clamp (n := b + k) (by omega)]
      refine ⟨vp_in_nI (by omega) (by decide), ?_⟩
      have l6 : layA a6 b (fun _ => nI p) (k + 1) = upd A6 (b + k) (nI p) := by rw [← hA6]; rfl
      have l7 : layA a7 b (fun k => nI (wfr (gB τ 0 p) m W n k)) (k + 1) = upd A7 (b + k) (nI (wfr (gB τ 0 p) m W n k)) := by rw [← hA7]; rfl
      have l8 : layA a8 b (fun k => nI (tkn (gB τ 0 p) m W (n - k) (wfr (gB τ 0 p) m W n k))) (k + 1) = upd A8 (b + k) (nI (tkn (gB τ 0 p) m W (n - k) (wfr (gB τ 0 p) m W n k))) := by rw [← hA8]; rfl
      rw [l6, l7, l8] at ih
      exact ih
  exact L n 0 rfl (Nat.zero_le _)
theorem K_note {x2 x3 x4 x5 : Int32} (hp : p < 20) (H : ∀ b4', (∀ q, q ≠ p → b4' q = b4 q) → (b4' p 0 = x2 ∧ b4' p 1 = x3 ∧ b4' p 2 = x4 ∧ b4' p 3 = x5) → Q (KP τ g x9 x10 a6 a7 a8 b2 b4')) : CM S m_Se_note [.ref 82, .int (nI p), .int x2, .int x3, .int x4, .int x5] (enc (KP τ g x9 x10 a6 a7 a8 b2 b4)) (qV Q) := by
  refine C_Se_note _ _ _ _ _ _ (B_Se_note_0 _ _ _ _ _ _ ⟨vp_in_nI hp (by decide), vp_4 (by decide) (by decide), vp_4 (by decide) (by decide), vp_4 (by decide) (by decide), vp_4 (by decide) (by decide), ?_⟩)
  rw [nI_clamp (n := p) (by omega), N_0, N_1, N_2, N_3, gB_sB, sB_sB, gB_sB, sB_sB, gB_sB, sB_sB, KP_4]
  refine H _ (fun q hq => va_upn _ _ hq) ?_
  rw [va_upg]
  refine ⟨?_, ?_, ?_, ?_⟩
  · rw [upd_ne _ _ (by decide), upd_ne _ _ (by decide), upd_ne _ _ (by decide), upd_at]
  · rw [upd_ne _ _ (by decide), upd_ne _ _ (by decide), upd_at]
  · rw [upd_ne _ _ (by decide), upd_at]
  · rw [upd_at]
end
def g6 : Nat → Nat → Nat → Int32 := fun p _ _ => nI p
def g7 (σ : St) (ψ : FPar) : Nat → Nat → Nat → Int32 := fun p n k => nI (wfr (gB σ 0 p) (pM ψ p) (gX σ 5) n k)
def g8n (σ : St) (ψ : FPar) : Nat → Nat → Nat → Int32 := fun p n k => nI (tkn (gB σ 0 p) (pM ψ p) (gX σ 5) (n - k) (wfr (gB σ 0 p) (pM ψ p) (gX σ 5) n k))
section
variable {S : XS} {τ : St} {ψ : FPar} {Q : St → Prop}
/-- what the class's tables say -/
def TB (ψ : FPar) (τ : St) : Prop := (∀ q, q ≤ pC ψ → (∀ x, x ≤ pN ψ → gB τ 3 q x = nI (TT ψ (pC ψ - q) x 1)) ∧ gA τ 4 q = nI (TT ψ (pC ψ - q) 0 0)) ∧ (∀ q, q < pC ψ → ∀ n, n ≤ 30 → gB τ 1 q n = nI (pO ψ q n)) ∧ (∀ q, q < pC ψ → okL (gB τ 0 q) (pM ψ q) ∧ ∀ n, n ≤ pM ψ q → pO ψ q n < 1000000000 → ¬ lc (gB τ 0 q) (pM ψ q) (gX τ 5) n 0 = FAR)
set_option maxHeartbeats 4000000 in
theorem K_pa (hF : FC ψ τ) (h : OKP ψ) (hT : TB ψ τ) (hlt : TT ψ (pC ψ) 0 0 < 1000000000) (H : ∀ g x9 x10 b2 b4, (∀ q, q < pC ψ → b4 q 0 = (rcd ψ q).1 ∧ b4 q 1 = (rcd ψ q).2.1 ∧ b4 q 2 = (rcd ψ q).2.2.1 ∧ b4 q 3 = (rcd ψ q).2.2.2) → Q (KP (sX (sX τ 11 (nI (pC ψ))) 12 (nI (pN ψ))) g x9 x10 (arrP ψ g6 (fun j => if j < 120 then -1 else gA τ 6 j) (pC ψ)) (arrP ψ (g7 τ ψ) (fun j => if j < 120 then -1 else gA τ 7 j) (pC ψ)) (arrP ψ (g8n τ ψ) (fun j => if j < 120 then -1 else gA τ 8 j) (pC ψ)) b2 b4)) : CM S m_Se_placeAll [.ref 82, .ref 3, .int (nI (pN ψ))] (enc τ) (qV Q) := by
  have hC := h.2.2.2.2.2.2.2
  have hN := h.2.2.2.2.2.2.1
  refine C_Se_placeAll _ _ (B_Se_placeAll_0 _ _ ?_)
  rw [hF.1]
  refine C_Se_forgetPlaces _ _ _ (B_Se_forgetPlaces_0 _ _ _ ?_)
  have hF0 : FC ψ (sX (sX τ 11 (nI (pC ψ))) 12 (nI (pN ψ))) := hF
  have hT0 : TB ψ (sX (sX τ 11 (nI (pC ψ))) 12 (nI (pN ψ))) := hT
  have h11 : gX (sX (sX τ 11 (nI (pC ψ))) 12 (nI (pN ψ))) 11 = nI (pC ψ) := by rw [gs_X_X, if_neg (by decide), gs_X_X, if_pos rfl]
  have h12 : gX (sX (sX τ 11 (nI (pC ψ))) 12 (nI (pN ψ))) 12 = nI (pN ψ) := by rw [gs_X_X, if_pos rfl]
  have k6 : gA (sX (sX τ 11 (nI (pC ψ))) 12 (nI (pN ψ))) 6 = gA τ 6 := rfl
  have k7 : gA (sX (sX τ 11 (nI (pC ψ))) 12 (nI (pN ψ))) 7 = gA τ 7 := rfl
  have k8 : gA (sX (sX τ 11 (nI (pC ψ))) 12 (nI (pN ψ))) 8 = gA τ 8 := rfl
  have k0 : gB (sX (sX τ 11 (nI (pC ψ))) 12 (nI (pN ψ))) 0 = gB τ 0 := rfl
  have k5 : gX (sX (sX τ 11 (nI (pC ψ))) 12 (nI (pN ψ))) 5 = gX τ 5 := rfl
  generalize sX (sX τ 11 (nI (pC ψ))) 12 (nI (pN ψ)) = ρ at *
  refine K_fillA ρ _ (-1) (eg_128 ρ) (by decide) (es_128 ρ _) (K_fillA _ _ (-1) (eg_129 _) (by decide) (es_129 _ _) (K_fillA _ _ (-1) (eg_130 _) (by decide) (es_130 _ _) ?_))
  have e7 : ∀ f, gA (sA ρ 6 f) 7 = gA τ 7 := fun _ => k7
  have e8 : ∀ f f', gA (sA (sA ρ 6 f) 7 f') 8 = gA τ 8 := fun _ _ => k8
  rw [e7, e8, k6, KP_of]
  have L : ∀ e p, pC ψ - p = e → p ≤ pC ψ → ∀ g x9 x10 b2 b4, (∀ q, q < p → b4 q 0 = (rcd ψ q).1 ∧ b4 q 1 = (rcd ψ q).2.1 ∧ b4 q 2 = (rcd ψ q).2.2.1 ∧ b4 q 3 = (rcd ψ q).2.2.2) → BW S m_Se_placeAll 17 [some (.ref 82), some (.ref 3), none, some (.int (nI (posP ψ p).1)), some (.int (nI (posP ψ p).2)), some (.int (nI p)), none, none, none] [] (enc (KP ρ g x9 x10 (arrP ψ g6 (fun j => if j < 120 then -1 else gA τ 6 j) p) (arrP ψ (g7 τ ψ) (fun j => if j < 120 then -1 else gA τ 7 j) p) (arrP ψ (g8n τ ψ) (fun j => if j < 120 then -1 else gA τ 8 j) p) b2 b4)) (qV Q) := by
    intro e
    induction e with
    | zero =>
      intro p he hp g x9 x10 b2 b4 hb
      obtain rfl : p = pC ψ := by omega
      refine B_Se_placeAll_17 _ _ _ _ ?_
      have f11 : ∀ a6 a7 a8, gX (KP ρ g x9 x10 a6 a7 a8 b2 b4) 11 = nI (pC ψ) := fun _ _ _ => h11
      rw [f11]
      exact bq_t (nI_le (Nat.le_refl _) (by omega)) (H _ _ _ _ _ hb)
    | succ e ih =>
      intro p he hp g x9 x10 b2 b4 hb
      have ok := pos_ok h hlt p hp
      have ih := ih (p + 1) (by omega) (by omega)
      have hm30 := h.2.2.1 p
      refine B_Se_placeAll_17 _ _ _ _ ?_
      have f11 : ∀ a6 a7 a8, gX (KP ρ g x9 x10 a6 a7 a8 b2 b4) 11 = nI (pC ψ) := fun _ _ _ => h11
      have f4 : ∀ a6 a7 a8, gA (KP ρ g x9 x10 a6 a7 a8 b2 b4) 4 = gA ρ 4 := fun _ _ _ => rfl
      have f3 : ∀ a6 a7 a8, gB (KP ρ g x9 x10 a6 a7 a8 b2 b4) 3 = gB ρ 3 := fun _ _ _ => rfl
      have fl := hT0.1 p (by omega)
      have fr : ∀ x, x ≤ pN ψ → gB ρ 3 (p + 1) x = nI (moF ψ p x) := fun x hx => (hT0.1 (p + 1) (by omega)).1 x hx
      have fb := hT0.2.1 p (by omega)
      obtain ⟨hL, hlc⟩ := hT0.2.2 p (by omega)
      have hm2 := (hF0.2.2.2.2 p (by omega)).1
      have h4 : ¬ gX ρ 4 ≤ nI p := by rw [hF0.1]; exact nI_ge (by omega) (by omega)
      rw [f11, f4, f3, nI_clamp (n := p) (by omega)]
      refine bq_f (nI_ge (by omega) (by omega)) ?_
      -- when nothing stands
      have CUT : chP ψ p (posP ψ p) = none → CM S m_Se_note [.ref 82, .int (nI p), .int 1, .int 0, .int (-1), .int 0] (enc (KP ρ g x9 x10 (arrP ψ g6 (fun j => if j < 120 then -1 else gA τ 6 j) p) (arrP ψ (g7 τ ψ) (fun j => if j < 120 then -1 else gA τ 7 j) p) (arrP ψ (g8n τ ψ) (fun j => if j < 120 then -1 else gA τ 8 j) p) b2 b4)) (qV (fun τ18 => BW S m_Se_placeAll 17 [some (.ref 82), some (.ref 3), none, some (.int (nI (posP ψ p).1)), some (.int (nI (posP ψ p).2)), some (.int (nI p + 1)), none, none, none] [] (enc τ18) (qV Q))) := by
        intro hc
        refine K_note (by omega) (fun b4' h1 h2 => ?_)
        have ih := ih g x9 x10 b2 b4' (fun q hq => ?_)
        · rw [arrP_n hc, arrP_n hc, arrP_n hc, posP_n hc] at ih
          rw [nI_1]
          exact ih
        · by_cases eq : q = p
          · rw [eq, rcd_n hc]; exact h2
          · rw [h1 q eq]; exact hb q (by omega)
      -- when it stands
      have PUT : ∀ l, chP ψ p (posP ψ p) = some l → CM S m_Se_fewestLines [.ref 82, .ref 3, .int (nI p), .int (nI (posP ψ p).1 + nI l), .int (nI (TT ψ (pC ψ - p) (posP ψ p).1 (posP ψ p).2) - nI l * nI (pL ψ))] (enc (KP ρ g x9 x10 (arrP ψ g6 (fun j => if j < 120 then -1 else gA τ 6 j) p) (arrP ψ (g7 τ ψ) (fun j => if j < 120 then -1 else gA τ 7 j) p) (arrP ψ (g8n τ ψ) (fun j => if j < 120 then -1 else gA τ 8 j) p) b2 b4)) (qI (fun v6 τ7 => ((¬ v6 = 0 → CM S m_Se_note [.ref 82, .int (nI p), .int 0, .int (nI l), .int (nI (posP ψ p).1 + nI l), .int v6] (enc τ7) (qV (fun τ9 => CM S m_Se_placeLines [.ref 82, .ref 3, .int (nI p), .int (nI (posP ψ p).1 + nI l), .int v6] (enc τ9) (qV (fun τ11 => BW S m_Se_placeAll 17 [some (.ref 82), some (.ref 3), none, some (.int ((nI (posP ψ p).1 + nI l) + v6)), some (.int 1), some (.int (nI p + 1)), none, none, none] [] (enc τ11) (qV Q)))))) ∧ (v6 = 0 → CM S m_Se_note [.ref 82, .int (nI p), .int 0, .int (nI l), .int (-1), .int v6] (enc τ7) (qV (fun τ13 => CM S m_Se_placeLines [.ref 82, .ref 3, .int (nI p), .int (nI (posP ψ p).1 + nI l), .int v6] (enc τ13) (qV (fun τ15 => BW S m_Se_placeAll 17 [some (.ref 82), some (.ref 3), none, some (.int ((nI (posP ψ p).1 + nI l) + v6)), some (.int 1), some (.int (nI p + 1)), none, none, none] [] (enc τ15) (qV Q))))))))) := by
        intro l hc
        obtain ⟨c1, c2, c3, c4, c5, c6, c7, c8, c9⟩ := ch_s h ok hc
        rw [nI_add, nI_mul, nI_sub c8]
        refine K_fnl hF0 h (by omega) fr fb h12 ok hc ?_
        have ih := fun g x9 x10 b2 b4 hb => ih g x9 x10 b2 b4 hb
        rw [arrP_s hc, arrP_s hc, arrP_s hc, posP_s hc] at ih
        have hr := rcd_s hc
        rw [nI_add, nI_1]
        generalize nP ψ p (posP ψ p) l = n at *
        have PL : ∀ b4', (∀ q, q ≠ p → b4' q = b4 q) → (b4' p 0 = 0 ∧ b4' p 1 = nI l ∧ b4' p 2 = (if n = 0 then -1 else nI ((posP ψ p).1 + l)) ∧ b4' p 3 = nI n) → CM S m_Se_placeLines [.ref 82, .ref 3, .int (nI p), .int (nI ((posP ψ p).1 + l)), .int (nI n)] (enc (KP ρ g x9 x10 (arrP ψ g6 (fun j => if j < 120 then -1 else gA τ 6 j) p) (arrP ψ (g7 τ ψ) (fun j => if j < 120 then -1 else gA τ 7 j) p) (arrP ψ (g8n τ ψ) (fun j => if j < 120 then -1 else gA τ 8 j) p) b2 b4')) (qV (fun τ11 => BW S m_Se_placeAll 17 [some (.ref 82), some (.ref 3), none, some (.int (nI ((posP ψ p).1 + l + n))), some (.int 1), some (.int (nI (p + 1))), none, none, none] [] (enc τ11) (qV Q))) := by
          intro b4' h1 h2
          refine K_pl (W := gX ρ 5) (m := pM ψ p) (by omega) h4 rfl hm2 hL c4 (hlc n c4 c7) (by omega) (fun g x9 x10 b2 => ?_)
          have ih := ih g x9 x10 b2 b4' (fun q hq => ?_)
          · rw [k0, k5]
            exact ih
          · by_cases eq : q = p
            · rw [eq, hr]; exact h2
            · rw [h1 q eq]; exact hb q (by omega)
        by_cases cn : n = 0
        · refine bq_tn (by rw [cn]; rfl) (K_note (by omega) (fun b4' h1 h2 => PL b4' h1 ?_))
          rw [if_pos cn]
          exact h2
        · refine bq_fn (nI_ne0 (by omega) (by omega)) (K_note (by omega) (fun b4' h1 h2 => PL b4' h1 ?_))
          rw [if_neg cn]
          exact h2
      have f7 : ∀ a6 a7 a8, gX (KP ρ g x9 x10 a6 a7 a8 b2 b4) 7 = nI (pL ψ) := fun _ _ _ => hF0.2.2.1
      by_cases cs : (posP ψ p).2 = 0
      · have cl := ok.2.2.1 cs
        have es : nI (posP ψ p).2 = 0 := by rw [cs]; rfl
        have ec : gA ρ 4 p = nI (TT ψ (pC ψ - p) (posP ψ p).1 (posP ψ p).2) := by rw [cs, cl]; exact fl.2
        refine bq_t es ⟨vp_in_nI (by omega) (by decide), bq_t es ?_⟩
        rw [ec]
        refine K_fl (most := 0) hF0 h (by omega) fr fb h12 ok (Or.inl ⟨cs, rfl⟩) (fun l hc => ?_) (fun hc => bq_tn rfl (CUT hc))
        have c1 := (ch_s h ok hc).1
        refine bq_fn (fun w => absurd w (by rcases (show l = 0 ∨ l = 1 ∨ l = 2 by omega) with rfl | rfl | rfl <;> decide)) ?_
        rw [f7]
        exact PUT l hc
      · have cs1 : (posP ψ p).2 = 1 := by have := ok.2.1; omega
        have es : ¬ nI (posP ψ p).2 = 0 := by rw [cs1]; decide
        have ec : gB ρ 3 p (posP ψ p).1 = nI (TT ψ (pC ψ - p) (posP ψ p).1 (posP ψ p).2) := by rw [cs1]; exact fl.1 _ ok.1
        refine bq_f es ⟨vp_in_nI (by omega) (by decide), vp_in_nI (by have := ok.1; omega) (by decide), bq_f es ?_⟩
        rw [nI_clamp (n := (posP ψ p).1) (by have := ok.1; omega), ec]
        refine K_fl (most := 2) hF0 h (by omega) fr fb h12 ok (Or.inr ⟨cs1, rfl⟩) (fun l hc => ?_) (fun hc => bq_tn rfl (CUT hc))
        have c1 := (ch_s h ok hc).1
        refine bq_fn (fun w => absurd w (by rcases (show l = 0 ∨ l = 1 ∨ l = 2 by omega) with rfl | rfl | rfl <;> decide)) ?_
        rw [f7]
        exact PUT l hc
  exact L _ 0 rfl (Nat.zero_le _) _ _ _ _ _ (fun q hq => absurd hq (by omega))
end
