/-! MORE ROWS: fewer locals; a row of an array of arrays; a switch; answers that are references. -/
def xmask : List Bool → List (Option Value) → List (Option Value)
  | true :: m, v :: l => v :: xmask m l
  | false :: m, _ :: l => none :: xmask m l
  | _, _ => []
theorem xmask_get : ∀ (m : List Bool) (l : List (Option Value)) (i : Nat) (v : Value), (xmask m l)[i]? = some (some v) → l[i]? = some (some v)
  | [], l, i, v, h => by simp [xmask] at h
  | true :: m, [], i, v, h => by simp [xmask] at h
  | false :: m, [], i, v, h => by simp [xmask] at h
  | true :: m, w :: l, 0, v, h => h
  | true :: m, w :: l, i + 1, v, h => xmask_get m l i v h
  | false :: m, w :: l, 0, v, h => by
    have h : some (none : Option Value) = some (some v) := h
    cases h
  | false :: m, w :: l, i + 1, v, h => xmask_get m l i v h
theorem vp_lt {i : Int32} {n : Nat} (h : vp_in i n) : i.toNatClampNeg < n := Nat.not_le.mp fun q => h (Or.inr q)
theorem xri_in {n b j : Nat} (h : j < n) : xri n b j = some (b + j) := if_pos h
theorem tabOut {x : Int32} (n : Nat) (h : ∀ k : Nat, k < n → ¬ x.toInt = (k : Int)) : x.toInt < 0 ∨ ((n : Int) - 1) < x.toInt := by
  by_cases h0 : x.toInt < 0
  · exact Or.inl h0
  · refine Or.inr ?_
    obtain ⟨k, hk⟩ := Int.eq_ofNat_of_zero_le (show 0 ≤ x.toInt by omega)
    have := h k
    by_cases hlt : k < n
    · exact absurd hk (h k hlt)
    · omega
section XMR
variable {S : XS} {M : XM} {pc : Nat} {ls : List (Option Value)} {st : List Value} {h h1 : XH} {Q : Option Value → XH → Prop}
theorem b_mask (m : List Bool) {ls' : List (Option Value)} (e : xmask m ls = ls') (k : BW S M pc ls' st h Q) : BW S M pc ls st h Q := by
  obtain ⟨r, h9, q, w⟩ := k
  refine ⟨r, h9, q, w.1, fun l K p e' s m' args below meth c n0 z0 H locs L C hn hz hR hS hL => w.2 l K p e' s m' args below meth c n0 z0 H locs L C hn hz hR hS ⟨hL.1, hL.2.1, fun i v hi => hL.2.2 i v (xmask_get m ls i v (by rw [e]; exact hi))⟩⟩
theorem b_rowld {a n b : Nat} {i : Int32} (hd : decode M.2.1 pc = .ok (.aaload, 1)) (he : h[a]? = some (.inl (2, n, .inr (.inr (.inr (.inr (xri n b))))))) (hin : vp_in i n) (kk : BW S M (pc + 1) ls (.ref (b + i.toNatClampNeg) :: st) h Q) : BW S M pc ls (.int i :: .ref a :: st) h Q := by
  refine b_aald hd he ⟨Nat.le_refl 2, by omega⟩ hin ?_
  rw [xri_in (vp_lt hin)]
  exact kk
theorem b_aretO {v : Option Nat} {C9 : String} (hd : decode M.2.1 pc = .ok (.areturn, 1)) (hr : M.2.2.2.1 = some (.object C9)) (q : Q (some (va_rf v)) h) : BW S M pc ls [va_rf v] h Q := by
  cases v with
  | none => exact b_aretN hd hr q
  | some x => exact b_aret hd hr q
theorem b_astore_nO {k0 : Fin 4} {i : Nat} {v : Option Nat} {ls' : List (Option Value)} (hd : decode M.2.1 pc = .ok (.astore_n k0, 1)) (hi : (k0 : Nat) = i) (hn9 : i < M.2.2.1) (hl : xst ls i (va_rf v) = ls') (k : BW S M (pc + 1) ls' st h Q) : BW S M pc ls (va_rf v :: st) h Q := by
  cases v with
  | none => exact b_astore_nN hd hi hn9 hl k
  | some x => exact b_astore_n hd hi hn9 hl k
theorem b_eq {h2 : XH} (e : h = h2) (k : BW S M pc ls st h2 Q) : BW S M pc ls st h Q := by subst e; exact k
end XMR
/-- the objects that are made: a Fact, an Agreement with its two arrays -/
def fL (σ : St) (q k : Nat) : Int64 := match gD σ q with
  | .inr (_, fs) => (match fs[k]? with | some (.long v) => v | _ => 0)
  | _ => 0
def fI (σ : St) (q k : Nat) : Int32 := match gD σ q with
  | .inr (_, fs) => (match fs[k]? with | some (.int v) => v | _ => 0)
  | _ => 0
def fA (σ : St) (q : Nat) : Nat → Int32 := match gD σ q with
  | .inl (_, _, .inl f) => f
  | _ => fun _ => 0
def isFa (σ : St) (q : Nat) : Prop := isd σ q ∧ gD σ q = .inr (3, [.long (fL σ q 0), .int (fI σ q 1), .long (fL σ q 2), .int (fI σ q 3), .int (fI σ q 4), .int (fI σ q 5), .int (fI σ q 6)])
def isAg (σ : St) (q : Nat) : Prop := isd σ q ∧ gD σ q = .inr (0, [.ref (q + 1), .ref (q + 2), .int (fI σ q 2), .int (fI σ q 3), .int (fI σ q 4)])
def isA5 (σ : St) (q : Nat) : Prop := isd σ q ∧ gD σ q = .inl (0, 5, .inl (fA σ q))
def stI (σ : St) (q k : Nat) (v : Int32) : St := sD σ q (match gD σ q with | .inr (c, fs) => .inr (c, fs.set k (.int v)) | e => e)
def stL (σ : St) (q k : Nat) (v : Int64) : St := sD σ q (match gD σ q with | .inr (c, fs) => .inr (c, fs.set k (.long v)) | e => e)
def stA (σ : St) (q : Nat) (f : Nat → Int32) : St := sD σ q (.inl (0, 5, .inl f))
theorem eF (σ : St) {q : Nat} (h : isFa σ q) : (enc σ)[q]? = some (.inr (3, [.long (fL σ q 0), .int (fI σ q 1), .long (fL σ q 2), .int (fI σ q 3), .int (fI σ q 4), .int (fI σ q 5), .int (fI σ q 6)])) := by rw [ed σ h.1, ← h.2]
theorem eA (σ : St) {q : Nat} (h : isAg σ q) : (enc σ)[q]? = some (.inr (0, [.ref (q + 1), .ref (q + 2), .int (fI σ q 2), .int (fI σ q 3), .int (fI σ q 4)])) := by rw [ed σ h.1, ← h.2]
theorem e5 (σ : St) {q : Nat} (h : isA5 σ q) : (enc σ)[q]? = some (.inl (0, 5, .inl (fA σ q))) := by rw [ed σ h.1, ← h.2]
theorem eFI (σ : St) {q : Nat} (h : isFa σ q) (k : Nat) (v : Int32) : (enc σ).set q (.inr (3, ([.long (fL σ q 0), .int (fI σ q 1), .long (fL σ q 2), .int (fI σ q 3), .int (fI σ q 4), .int (fI σ q 5), .int (fI σ q 6)] : List Value).set k (.int v))) = enc (stI σ q k v) := by
  rw [esd σ h.1, stI, h.2]
theorem eFL (σ : St) {q : Nat} (h : isFa σ q) (k : Nat) (v : Int64) : (enc σ).set q (.inr (3, ([.long (fL σ q 0), .int (fI σ q 1), .long (fL σ q 2), .int (fI σ q 3), .int (fI σ q 4), .int (fI σ q 5), .int (fI σ q 6)] : List Value).set k (.long v))) = enc (stL σ q k v) := by
  rw [esd σ h.1, stL, h.2]
theorem eAI (σ : St) {q : Nat} (h : isAg σ q) (k : Nat) (v : Int32) : (enc σ).set q (.inr (0, ([.ref (q + 1), .ref (q + 2), .int (fI σ q 2), .int (fI σ q 3), .int (fI σ q 4)] : List Value).set k (.int v))) = enc (stI σ q k v) := by
  rw [esd σ h.1, stI, h.2]
theorem eA5 (σ : St) {q : Nat} (h : isA5 σ q) (f : Nat → Int32) : (enc σ).set q (.inl (0, 5, .inl f)) = enc (stA σ q f) := by
  rw [esd σ h.1, stA]
