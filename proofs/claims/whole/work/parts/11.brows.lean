/-! THE SAME ROWS WITH AN END THAT IS ASKED FOR: Q of the answer and the last heap. -/
def BW (S : XS) (M : XM) (pc : Nat) (ls : List (Option Value)) (st : List Value) (h : XH) (Q : Option Value → XH → Prop) : Prop := ∃ (r : Option Value) (h' : XH), Q r h' ∧ AW S M pc ls st h r h'
def CM (S : XS) (M : XM) (as : List Value) (h : XH) (Q : Option Value → XH → Prop) : Prop := ∃ (r : Option Value) (h' : XH), Q r h' ∧ AM S M as h r h'
def qI (Q : Int32 → St → Prop) : Option Value → XH → Prop := fun r h' => ∃ (v : Int32) (τ : St), r = some (.int v) ∧ h' = enc τ ∧ Q v τ
def qL (Q : Int64 → St → Prop) : Option Value → XH → Prop := fun r h' => ∃ (v : Int64) (τ : St), r = some (.long v) ∧ h' = enc τ ∧ Q v τ
def qV (Q : St → Prop) : Option Value → XH → Prop := fun r h' => ∃ τ : St, r = none ∧ h' = enc τ ∧ Q τ
def qR (Q : Option Nat → St → Prop) : Option Value → XH → Prop := fun r h' => ∃ (v : Option Nat) (τ : St), r = some (va_rf v) ∧ h' = enc τ ∧ Q v τ
theorem CM.mono {S : XS} {M : XM} {as : List Value} {h : XH} {Q Q' : Option Value → XH → Prop} (c : CM S M as h Q) (hq : ∀ r h', Q r h' → Q' r h') : CM S M as h Q' := by
  obtain ⟨r, h', q, w⟩ := c
  exact ⟨r, h', hq _ _ q, w⟩
theorem CM.monoI {S : XS} {M : XM} {as : List Value} {h : XH} {Q Q' : Int32 → St → Prop} (c : CM S M as h (qI Q)) (hq : ∀ v τ, Q v τ → Q' v τ) : CM S M as h (qI Q') := c.mono (fun _ _ ⟨v, τ, e1, e2, q⟩ => ⟨v, τ, e1, e2, hq v τ q⟩)
theorem CM.monoL {S : XS} {M : XM} {as : List Value} {h : XH} {Q Q' : Int64 → St → Prop} (c : CM S M as h (qL Q)) (hq : ∀ v τ, Q v τ → Q' v τ) : CM S M as h (qL Q') := c.mono (fun _ _ ⟨v, τ, e1, e2, q⟩ => ⟨v, τ, e1, e2, hq v τ q⟩)
theorem CM.monoV {S : XS} {M : XM} {as : List Value} {h : XH} {Q Q' : St → Prop} (c : CM S M as h (qV Q)) (hq : ∀ τ, Q τ → Q' τ) : CM S M as h (qV Q') := c.mono (fun _ _ ⟨τ, e1, e2, q⟩ => ⟨τ, e1, e2, hq τ q⟩)
theorem CM.monoR {S : XS} {M : XM} {as : List Value} {h : XH} {Q Q' : Option Nat → St → Prop} (c : CM S M as h (qR Q)) (hq : ∀ v τ, Q v τ → Q' v τ) : CM S M as h (qR Q') := c.mono (fun _ _ ⟨v, τ, e1, e2, q⟩ => ⟨v, τ, e1, e2, hq v τ q⟩)
section XBW
variable {S : XS} {M : XM} {pc : Nat} {ls : List (Option Value)} {st : List Value} {h h1 : XH} {Q : Option Value → XH → Prop}
theorem b_iconst {n : Int} {v : Int32} (hd : decode M.2.1 pc = .ok (.iconst n, 1)) (hv : Int32.ofInt n = v) (k : BW S M (pc + 1) ls (.int v :: st) h Q) : BW S M pc ls (st) h Q := by
  obtain ⟨r, h9, q, w⟩ := k
  exact ⟨r, h9, q, x_iconst hd hv w⟩
theorem b_bipush {n : Int} {v : Int32} (hd : decode M.2.1 pc = .ok (.bipush n, 2)) (hv : (Int8.ofInt n).toInt32 = v) (k : BW S M (pc + 2) ls (.int v :: st) h Q) : BW S M pc ls (st) h Q := by
  obtain ⟨r, h9, q, w⟩ := k
  exact ⟨r, h9, q, x_bipush hd hv w⟩
theorem b_sipush {n : Int} {v : Int32} (hd : decode M.2.1 pc = .ok (.sipush n, 3)) (hv : (Int16.ofInt n).toInt32 = v) (k : BW S M (pc + 3) ls (.int v :: st) h Q) : BW S M pc ls (st) h Q := by
  obtain ⟨r, h9, q, w⟩ := k
  exact ⟨r, h9, q, x_sipush hd hv w⟩
theorem b_lconst {n : Fin 2} {v : Int64} (hd : decode M.2.1 pc = .ok (.lconst n, 1)) (hv : Int64.ofNat (n : Nat) = v) (k : BW S M (pc + 1) ls (.long v :: st) h Q) : BW S M pc ls (st) h Q := by
  obtain ⟨r, h9, q, w⟩ := k
  exact ⟨r, h9, q, x_lconst hd hv w⟩
theorem b_anull  (hd : decode M.2.1 pc = .ok (.aconst_null, 1))  (k : BW S M (pc + 1) ls (.null :: st) h Q) : BW S M pc ls (st) h Q := by
  obtain ⟨r, h9, q, w⟩ := k
  exact ⟨r, h9, q, x_anull hd w⟩
theorem b_iload_n {k0 : Fin 4} {i : Nat} {x : Int32} (hd : decode M.2.1 pc = .ok (.iload_n k0, 1)) (hi : (k0 : Nat) = i) (hl : ls[i]? = some (some (.int x))) (k : BW S M (pc + 1) ls (.int x :: st) h Q) : BW S M pc ls (st) h Q := by
  obtain ⟨r, h9, q, w⟩ := k
  exact ⟨r, h9, q, x_iload_n hd hi hl w⟩
theorem b_iload {i : Nat} {x : Int32} (hd : decode M.2.1 pc = .ok (.iload i, 2)) (hl : ls[i]? = some (some (.int x))) (k : BW S M (pc + 2) ls (.int x :: st) h Q) : BW S M pc ls (st) h Q := by
  obtain ⟨r, h9, q, w⟩ := k
  exact ⟨r, h9, q, x_iload hd hl w⟩
theorem b_lload_n {k0 : Fin 4} {i : Nat} {x : Int64} (hd : decode M.2.1 pc = .ok (.lload_n k0, 1)) (hi : (k0 : Nat) = i) (hl : ls[i]? = some (some (.long x))) (k : BW S M (pc + 1) ls (.long x :: st) h Q) : BW S M pc ls (st) h Q := by
  obtain ⟨r, h9, q, w⟩ := k
  exact ⟨r, h9, q, x_lload_n hd hi hl w⟩
theorem b_lload {i : Nat} {x : Int64} (hd : decode M.2.1 pc = .ok (.lload i, 2)) (hl : ls[i]? = some (some (.long x))) (k : BW S M (pc + 2) ls (.long x :: st) h Q) : BW S M pc ls (st) h Q := by
  obtain ⟨r, h9, q, w⟩ := k
  exact ⟨r, h9, q, x_lload hd hl w⟩
theorem b_aload_n {k0 : Fin 4} {i : Nat} {x : Nat} (hd : decode M.2.1 pc = .ok (.aload_n k0, 1)) (hi : (k0 : Nat) = i) (hl : ls[i]? = some (some (.ref x))) (k : BW S M (pc + 1) ls (.ref x :: st) h Q) : BW S M pc ls (st) h Q := by
  obtain ⟨r, h9, q, w⟩ := k
  exact ⟨r, h9, q, x_aload_n hd hi hl w⟩
theorem b_aload_nS {k0 : Fin 4} {i : Nat} {x : Nat} (hd : decode M.2.1 pc = .ok (.aload_n k0, 1)) (hi : (k0 : Nat) = i) (hl : ls[i]? = some (some (.retAddr x))) (k : BW S M (pc + 1) ls (.retAddr x :: st) h Q) : BW S M pc ls (st) h Q := by
  obtain ⟨r, h9, q, w⟩ := k
  exact ⟨r, h9, q, x_aload_nS hd hi hl w⟩
theorem b_aload_nN {k0 : Fin 4} {i : Nat} (hd : decode M.2.1 pc = .ok (.aload_n k0, 1)) (hi : (k0 : Nat) = i) (hl : ls[i]? = some (some .null)) (k : BW S M (pc + 1) ls (.null :: st) h Q) : BW S M pc ls (st) h Q := by
  obtain ⟨r, h9, q, w⟩ := k
  exact ⟨r, h9, q, x_aload_nN hd hi hl w⟩
theorem b_aload {i : Nat} {x : Nat} (hd : decode M.2.1 pc = .ok (.aload i, 2)) (hl : ls[i]? = some (some (.ref x))) (k : BW S M (pc + 2) ls (.ref x :: st) h Q) : BW S M pc ls (st) h Q := by
  obtain ⟨r, h9, q, w⟩ := k
  exact ⟨r, h9, q, x_aload hd hl w⟩
theorem b_aloadS {i : Nat} {x : Nat} (hd : decode M.2.1 pc = .ok (.aload i, 2)) (hl : ls[i]? = some (some (.retAddr x))) (k : BW S M (pc + 2) ls (.retAddr x :: st) h Q) : BW S M pc ls (st) h Q := by
  obtain ⟨r, h9, q, w⟩ := k
  exact ⟨r, h9, q, x_aloadS hd hl w⟩
theorem b_aloadN {i : Nat} (hd : decode M.2.1 pc = .ok (.aload i, 2)) (hl : ls[i]? = some (some .null)) (k : BW S M (pc + 2) ls (.null :: st) h Q) : BW S M pc ls (st) h Q := by
  obtain ⟨r, h9, q, w⟩ := k
  exact ⟨r, h9, q, x_aloadN hd hl w⟩
theorem b_iadd {x y : Int32} (hd : decode M.2.1 pc = .ok (.iadd, 1))  (k : BW S M (pc + 1) ls (.int (x + y) :: st) h Q) : BW S M pc ls (.int y :: .int x :: st) h Q := by
  obtain ⟨r, h9, q, w⟩ := k
  exact ⟨r, h9, q, x_iadd hd w⟩
theorem b_isub {x y : Int32} (hd : decode M.2.1 pc = .ok (.isub, 1))  (k : BW S M (pc + 1) ls (.int (x - y) :: st) h Q) : BW S M pc ls (.int y :: .int x :: st) h Q := by
  obtain ⟨r, h9, q, w⟩ := k
  exact ⟨r, h9, q, x_isub hd w⟩
theorem b_imul {x y : Int32} (hd : decode M.2.1 pc = .ok (.imul, 1))  (k : BW S M (pc + 1) ls (.int (x * y) :: st) h Q) : BW S M pc ls (.int y :: .int x :: st) h Q := by
  obtain ⟨r, h9, q, w⟩ := k
  exact ⟨r, h9, q, x_imul hd w⟩
theorem b_iand {x y : Int32} (hd : decode M.2.1 pc = .ok (.iand, 1))  (k : BW S M (pc + 1) ls (.int (x &&& y) :: st) h Q) : BW S M pc ls (.int y :: .int x :: st) h Q := by
  obtain ⟨r, h9, q, w⟩ := k
  exact ⟨r, h9, q, x_iand hd w⟩
theorem b_ishr {x y : Int32} (hd : decode M.2.1 pc = .ok (.ishr, 1))  (k : BW S M (pc + 1) ls (.int (x >>> (y &&& 31)) :: st) h Q) : BW S M pc ls (.int y :: .int x :: st) h Q := by
  obtain ⟨r, h9, q, w⟩ := k
  exact ⟨r, h9, q, x_ishr hd w⟩
theorem b_iushr {x y : Int32} (hd : decode M.2.1 pc = .ok (.iushr, 1))  (k : BW S M (pc + 1) ls (.int ((x.toUInt32 >>> (y.toUInt32 &&& Int32.toUInt32 31)).toInt32) :: st) h Q) : BW S M pc ls (.int y :: .int x :: st) h Q := by
  obtain ⟨r, h9, q, w⟩ := k
  exact ⟨r, h9, q, x_iushr hd w⟩
theorem b_idiv {x y : Int32} (hd : decode M.2.1 pc = .ok (.idiv, 1)) (hne : ¬ y = 0) (k : BW S M (pc + 1) ls (.int (x / y) :: st) h Q) : BW S M pc ls (.int y :: .int x :: st) h Q := by
  obtain ⟨r, h9, q, w⟩ := k
  exact ⟨r, h9, q, x_idiv hd hne w⟩
theorem b_irem {x y : Int32} (hd : decode M.2.1 pc = .ok (.irem, 1)) (hne : ¬ y = 0) (k : BW S M (pc + 1) ls (.int (x - x / y * y) :: st) h Q) : BW S M pc ls (.int y :: .int x :: st) h Q := by
  obtain ⟨r, h9, q, w⟩ := k
  exact ⟨r, h9, q, x_irem hd hne w⟩
theorem b_ladd {x y : Int64} (hd : decode M.2.1 pc = .ok (.ladd, 1))  (k : BW S M (pc + 1) ls (.long (x + y) :: st) h Q) : BW S M pc ls (.long y :: .long x :: st) h Q := by
  obtain ⟨r, h9, q, w⟩ := k
  exact ⟨r, h9, q, x_ladd hd w⟩
theorem b_lsub {x y : Int64} (hd : decode M.2.1 pc = .ok (.lsub, 1))  (k : BW S M (pc + 1) ls (.long (x - y) :: st) h Q) : BW S M pc ls (.long y :: .long x :: st) h Q := by
  obtain ⟨r, h9, q, w⟩ := k
  exact ⟨r, h9, q, x_lsub hd w⟩
theorem b_lmul {x y : Int64} (hd : decode M.2.1 pc = .ok (.lmul, 1))  (k : BW S M (pc + 1) ls (.long (x * y) :: st) h Q) : BW S M pc ls (.long y :: .long x :: st) h Q := by
  obtain ⟨r, h9, q, w⟩ := k
  exact ⟨r, h9, q, x_lmul hd w⟩
theorem b_land {x y : Int64} (hd : decode M.2.1 pc = .ok (.land, 1))  (k : BW S M (pc + 1) ls (.long (x &&& y) :: st) h Q) : BW S M pc ls (.long y :: .long x :: st) h Q := by
  obtain ⟨r, h9, q, w⟩ := k
  exact ⟨r, h9, q, x_land hd w⟩
theorem b_ldiv {x y : Int64} (hd : decode M.2.1 pc = .ok (.ldiv, 1)) (hne : ¬ y = 0) (k : BW S M (pc + 1) ls (.long (x / y) :: st) h Q) : BW S M pc ls (.long y :: .long x :: st) h Q := by
  obtain ⟨r, h9, q, w⟩ := k
  exact ⟨r, h9, q, x_ldiv hd hne w⟩
theorem b_lshr {x : Int64} {y : Int32} (hd : decode M.2.1 pc = .ok (.lshr, 1))  (k : BW S M (pc + 1) ls (.long (x >>> (y.toInt64 &&& 63)) :: st) h Q) : BW S M pc ls (.int y :: .long x :: st) h Q := by
  obtain ⟨r, h9, q, w⟩ := k
  exact ⟨r, h9, q, x_lshr hd w⟩
theorem b_i2l {x : Int32} (hd : decode M.2.1 pc = .ok (.i2l, 1))  (k : BW S M (pc + 1) ls (.long x.toInt64 :: st) h Q) : BW S M pc ls (.int x :: st) h Q := by
  obtain ⟨r, h9, q, w⟩ := k
  exact ⟨r, h9, q, x_i2l hd w⟩
theorem b_l2i {x : Int64} (hd : decode M.2.1 pc = .ok (.l2i, 1))  (k : BW S M (pc + 1) ls (.int x.toInt32 :: st) h Q) : BW S M pc ls (.long x :: st) h Q := by
  obtain ⟨r, h9, q, w⟩ := k
  exact ⟨r, h9, q, x_l2i hd w⟩
theorem b_lcmp {x y : Int64} (hd : decode M.2.1 pc = .ok (.lcmp, 1))  (k : BW S M (pc + 1) ls (.int (lg_cmp x y) :: st) h Q) : BW S M pc ls (.long y :: .long x :: st) h Q := by
  obtain ⟨r, h9, q, w⟩ := k
  exact ⟨r, h9, q, x_lcmp hd w⟩
theorem b_dup {v : Value} (hd : decode M.2.1 pc = .ok (.dup, 1)) (hv : v.category = 1) (k : BW S M (pc + 1) ls (v :: v :: st) h Q) : BW S M pc ls (v :: st) h Q := by
  obtain ⟨r, h9, q, w⟩ := k
  exact ⟨r, h9, q, x_dup hd hv w⟩
theorem b_pop {v : Value} (hd : decode M.2.1 pc = .ok (.pop, 1)) (hv : v.category = 1) (k : BW S M (pc + 1) ls (st) h Q) : BW S M pc ls (v :: st) h Q := by
  obtain ⟨r, h9, q, w⟩ := k
  exact ⟨r, h9, q, x_pop hd hv w⟩
theorem b_dup2 {v w : Value} (hd : decode M.2.1 pc = .ok (.dup2, 1)) (hv : v.category = 1) (hw : w.category = 1) (k : BW S M (pc + 1) ls (v :: w :: v :: w :: st) h Q) : BW S M pc ls (v :: w :: st) h Q := by
  obtain ⟨r, h9, q, w⟩ := k
  exact ⟨r, h9, q, x_dup2 hd hv hw w⟩
theorem b_istore_n {k0 : Fin 4} {i : Nat} {x : Int32} {ls' : List (Option Value)} (hd : decode M.2.1 pc = .ok (.istore_n k0, 1)) (hi : (k0 : Nat) = i) (hn9 : i < M.2.2.1) (hl : xst ls i (.int x) = ls') (k : BW S M (pc + 1) ls' st h Q) : BW S M pc ls (.int x :: st) h Q := by
  obtain ⟨r, h9, q, w⟩ := k
  exact ⟨r, h9, q, x_istore_n hd hi hn9 hl w⟩
theorem b_lstore_n {k0 : Fin 4} {i : Nat} {x : Int64} {ls' : List (Option Value)} (hd : decode M.2.1 pc = .ok (.lstore_n k0, 1)) (hi : (k0 : Nat) = i) (hn9 : i + 1 < M.2.2.1) (hl : xst2 ls i (.long x) = ls') (k : BW S M (pc + 1) ls' st h Q) : BW S M pc ls (.long x :: st) h Q := by
  obtain ⟨r, h9, q, w⟩ := k
  exact ⟨r, h9, q, x_lstore_n hd hi hn9 hl w⟩
theorem b_astore_n {k0 : Fin 4} {i : Nat} {x : Nat} {ls' : List (Option Value)} (hd : decode M.2.1 pc = .ok (.astore_n k0, 1)) (hi : (k0 : Nat) = i) (hn9 : i < M.2.2.1) (hl : xst ls i (.ref x) = ls') (k : BW S M (pc + 1) ls' st h Q) : BW S M pc ls (.ref x :: st) h Q := by
  obtain ⟨r, h9, q, w⟩ := k
  exact ⟨r, h9, q, x_astore_n hd hi hn9 hl w⟩
theorem b_astore_nN {k0 : Fin 4} {i : Nat} {ls' : List (Option Value)} (hd : decode M.2.1 pc = .ok (.astore_n k0, 1)) (hi : (k0 : Nat) = i) (hn9 : i < M.2.2.1) (hl : xst ls i (.null) = ls') (k : BW S M (pc + 1) ls' st h Q) : BW S M pc ls (.null :: st) h Q := by
  obtain ⟨r, h9, q, w⟩ := k
  exact ⟨r, h9, q, x_astore_nN hd hi hn9 hl w⟩
theorem b_istore {i : Nat} {x : Int32} {ls' : List (Option Value)} (hd : decode M.2.1 pc = .ok (.istore i, 2))  (hn9 : i < M.2.2.1) (hl : xst ls i (.int x) = ls') (k : BW S M (pc + 2) ls' st h Q) : BW S M pc ls (.int x :: st) h Q := by
  obtain ⟨r, h9, q, w⟩ := k
  exact ⟨r, h9, q, x_istore hd hn9 hl w⟩
theorem b_lstore {i : Nat} {x : Int64} {ls' : List (Option Value)} (hd : decode M.2.1 pc = .ok (.lstore i, 2))  (hn9 : i + 1 < M.2.2.1) (hl : xst2 ls i (.long x) = ls') (k : BW S M (pc + 2) ls' st h Q) : BW S M pc ls (.long x :: st) h Q := by
  obtain ⟨r, h9, q, w⟩ := k
  exact ⟨r, h9, q, x_lstore hd hn9 hl w⟩
theorem b_astore {i : Nat} {x : Nat} {ls' : List (Option Value)} (hd : decode M.2.1 pc = .ok (.astore i, 2))  (hn9 : i < M.2.2.1) (hl : xst ls i (.ref x) = ls') (k : BW S M (pc + 2) ls' st h Q) : BW S M pc ls (.ref x :: st) h Q := by
  obtain ⟨r, h9, q, w⟩ := k
  exact ⟨r, h9, q, x_astore hd hn9 hl w⟩
theorem b_astoreN {i : Nat} {ls' : List (Option Value)} (hd : decode M.2.1 pc = .ok (.astore i, 2))  (hn9 : i < M.2.2.1) (hl : xst ls i (.null) = ls') (k : BW S M (pc + 2) ls' st h Q) : BW S M pc ls (.null :: st) h Q := by
  obtain ⟨r, h9, q, w⟩ := k
  exact ⟨r, h9, q, x_astoreN hd hn9 hl w⟩
theorem b_iinc {i : Nat} {n : Int} {x v : Int32} {ls' : List (Option Value)} (hd : decode M.2.1 pc = .ok (.iinc i n, 3)) (hx0 : ls[i]? = some (some (.int x))) (hv : x + Int32.ofInt n = v) (hn9 : i < M.2.2.1) (hl : xst ls i (.int v) = ls') (k : BW S M (pc + 3) ls' st h Q) : BW S M pc ls st h Q := by
  obtain ⟨r, h9, q, w⟩ := k
  exact ⟨r, h9, q, x_iinc hd hx0 hv hn9 hl w⟩
theorem b_if_eq {x : Int32} {off : Int} {tgt : Nat} (hd : decode M.2.1 pc = .ok (.ifCond .eq off, 3)) (ht : (pc : Int) + off = (tgt : Int)) (kt : x = 0 → BW S M tgt ls st h Q) (kf : ¬ x = 0 → BW S M (pc + 3) ls st h Q) : BW S M pc ls (.int x :: st) h Q := by
  by_cases c9 : x = 0
  · obtain ⟨r, h9, q, w⟩ := kt c9
    exact ⟨r, h9, q, x_if_eq hd ht (fun _ => w) (fun z => absurd c9 z)⟩
  · obtain ⟨r, h9, q, w⟩ := kf c9
    exact ⟨r, h9, q, x_if_eq hd ht (fun z => absurd z c9) (fun _ => w)⟩
theorem b_icmp_eq {x y : Int32} {off : Int} {tgt : Nat} (hd : decode M.2.1 pc = .ok (.if_icmp .eq off, 3)) (ht : (pc : Int) + off = (tgt : Int)) (kt : x = y → BW S M tgt ls st h Q) (kf : ¬ x = y → BW S M (pc + 3) ls st h Q) : BW S M pc ls (.int y :: .int x :: st) h Q := by
  by_cases c9 : x = y
  · obtain ⟨r, h9, q, w⟩ := kt c9
    exact ⟨r, h9, q, x_icmp_eq hd ht (fun _ => w) (fun z => absurd c9 z)⟩
  · obtain ⟨r, h9, q, w⟩ := kf c9
    exact ⟨r, h9, q, x_icmp_eq hd ht (fun z => absurd z c9) (fun _ => w)⟩
theorem b_if_ne {x : Int32} {off : Int} {tgt : Nat} (hd : decode M.2.1 pc = .ok (.ifCond .ne off, 3)) (ht : (pc : Int) + off = (tgt : Int)) (kt : ¬ x = 0 → BW S M tgt ls st h Q) (kf : x = 0 → BW S M (pc + 3) ls st h Q) : BW S M pc ls (.int x :: st) h Q := by
  by_cases c9 : x = 0
  · obtain ⟨r, h9, q, w⟩ := kf c9
    exact ⟨r, h9, q, x_if_ne hd ht (fun z => absurd c9 z) (fun _ => w)⟩
  · obtain ⟨r, h9, q, w⟩ := kt c9
    exact ⟨r, h9, q, x_if_ne hd ht (fun _ => w) (fun z => absurd z c9)⟩
theorem b_icmp_ne {x y : Int32} {off : Int} {tgt : Nat} (hd : decode M.2.1 pc = .ok (.if_icmp .ne off, 3)) (ht : (pc : Int) + off = (tgt : Int)) (kt : ¬ x = y → BW S M tgt ls st h Q) (kf : x = y → BW S M (pc + 3) ls st h Q) : BW S M pc ls (.int y :: .int x :: st) h Q := by
  by_cases c9 : x = y
  · obtain ⟨r, h9, q, w⟩ := kf c9
    exact ⟨r, h9, q, x_icmp_ne hd ht (fun z => absurd c9 z) (fun _ => w)⟩
  · obtain ⟨r, h9, q, w⟩ := kt c9
    exact ⟨r, h9, q, x_icmp_ne hd ht (fun _ => w) (fun z => absurd z c9)⟩
theorem b_if_lt {x : Int32} {off : Int} {tgt : Nat} (hd : decode M.2.1 pc = .ok (.ifCond .lt off, 3)) (ht : (pc : Int) + off = (tgt : Int)) (kt : x < 0 → BW S M tgt ls st h Q) (kf : ¬ x < 0 → BW S M (pc + 3) ls st h Q) : BW S M pc ls (.int x :: st) h Q := by
  by_cases c9 : x < 0
  · obtain ⟨r, h9, q, w⟩ := kt c9
    exact ⟨r, h9, q, x_if_lt hd ht (fun _ => w) (fun z => absurd c9 z)⟩
  · obtain ⟨r, h9, q, w⟩ := kf c9
    exact ⟨r, h9, q, x_if_lt hd ht (fun z => absurd z c9) (fun _ => w)⟩
theorem b_icmp_lt {x y : Int32} {off : Int} {tgt : Nat} (hd : decode M.2.1 pc = .ok (.if_icmp .lt off, 3)) (ht : (pc : Int) + off = (tgt : Int)) (kt : x < y → BW S M tgt ls st h Q) (kf : ¬ x < y → BW S M (pc + 3) ls st h Q) : BW S M pc ls (.int y :: .int x :: st) h Q := by
  by_cases c9 : x < y
  · obtain ⟨r, h9, q, w⟩ := kt c9
    exact ⟨r, h9, q, x_icmp_lt hd ht (fun _ => w) (fun z => absurd c9 z)⟩
  · obtain ⟨r, h9, q, w⟩ := kf c9
    exact ⟨r, h9, q, x_icmp_lt hd ht (fun z => absurd z c9) (fun _ => w)⟩
theorem b_if_ge {x : Int32} {off : Int} {tgt : Nat} (hd : decode M.2.1 pc = .ok (.ifCond .ge off, 3)) (ht : (pc : Int) + off = (tgt : Int)) (kt : 0 ≤ x → BW S M tgt ls st h Q) (kf : ¬ 0 ≤ x → BW S M (pc + 3) ls st h Q) : BW S M pc ls (.int x :: st) h Q := by
  by_cases c9 : 0 ≤ x
  · obtain ⟨r, h9, q, w⟩ := kt c9
    exact ⟨r, h9, q, x_if_ge hd ht (fun _ => w) (fun z => absurd c9 z)⟩
  · obtain ⟨r, h9, q, w⟩ := kf c9
    exact ⟨r, h9, q, x_if_ge hd ht (fun z => absurd z c9) (fun _ => w)⟩
theorem b_icmp_ge {x y : Int32} {off : Int} {tgt : Nat} (hd : decode M.2.1 pc = .ok (.if_icmp .ge off, 3)) (ht : (pc : Int) + off = (tgt : Int)) (kt : y ≤ x → BW S M tgt ls st h Q) (kf : ¬ y ≤ x → BW S M (pc + 3) ls st h Q) : BW S M pc ls (.int y :: .int x :: st) h Q := by
  by_cases c9 : y ≤ x
  · obtain ⟨r, h9, q, w⟩ := kt c9
    exact ⟨r, h9, q, x_icmp_ge hd ht (fun _ => w) (fun z => absurd c9 z)⟩
  · obtain ⟨r, h9, q, w⟩ := kf c9
    exact ⟨r, h9, q, x_icmp_ge hd ht (fun z => absurd z c9) (fun _ => w)⟩
theorem b_if_gt {x : Int32} {off : Int} {tgt : Nat} (hd : decode M.2.1 pc = .ok (.ifCond .gt off, 3)) (ht : (pc : Int) + off = (tgt : Int)) (kt : 0 < x → BW S M tgt ls st h Q) (kf : ¬ 0 < x → BW S M (pc + 3) ls st h Q) : BW S M pc ls (.int x :: st) h Q := by
  by_cases c9 : 0 < x
  · obtain ⟨r, h9, q, w⟩ := kt c9
    exact ⟨r, h9, q, x_if_gt hd ht (fun _ => w) (fun z => absurd c9 z)⟩
  · obtain ⟨r, h9, q, w⟩ := kf c9
    exact ⟨r, h9, q, x_if_gt hd ht (fun z => absurd z c9) (fun _ => w)⟩
theorem b_icmp_gt {x y : Int32} {off : Int} {tgt : Nat} (hd : decode M.2.1 pc = .ok (.if_icmp .gt off, 3)) (ht : (pc : Int) + off = (tgt : Int)) (kt : y < x → BW S M tgt ls st h Q) (kf : ¬ y < x → BW S M (pc + 3) ls st h Q) : BW S M pc ls (.int y :: .int x :: st) h Q := by
  by_cases c9 : y < x
  · obtain ⟨r, h9, q, w⟩ := kt c9
    exact ⟨r, h9, q, x_icmp_gt hd ht (fun _ => w) (fun z => absurd c9 z)⟩
  · obtain ⟨r, h9, q, w⟩ := kf c9
    exact ⟨r, h9, q, x_icmp_gt hd ht (fun z => absurd z c9) (fun _ => w)⟩
theorem b_if_le {x : Int32} {off : Int} {tgt : Nat} (hd : decode M.2.1 pc = .ok (.ifCond .le off, 3)) (ht : (pc : Int) + off = (tgt : Int)) (kt : x ≤ 0 → BW S M tgt ls st h Q) (kf : ¬ x ≤ 0 → BW S M (pc + 3) ls st h Q) : BW S M pc ls (.int x :: st) h Q := by
  by_cases c9 : x ≤ 0
  · obtain ⟨r, h9, q, w⟩ := kt c9
    exact ⟨r, h9, q, x_if_le hd ht (fun _ => w) (fun z => absurd c9 z)⟩
  · obtain ⟨r, h9, q, w⟩ := kf c9
    exact ⟨r, h9, q, x_if_le hd ht (fun z => absurd z c9) (fun _ => w)⟩
theorem b_icmp_le {x y : Int32} {off : Int} {tgt : Nat} (hd : decode M.2.1 pc = .ok (.if_icmp .le off, 3)) (ht : (pc : Int) + off = (tgt : Int)) (kt : x ≤ y → BW S M tgt ls st h Q) (kf : ¬ x ≤ y → BW S M (pc + 3) ls st h Q) : BW S M pc ls (.int y :: .int x :: st) h Q := by
  by_cases c9 : x ≤ y
  · obtain ⟨r, h9, q, w⟩ := kt c9
    exact ⟨r, h9, q, x_icmp_le hd ht (fun _ => w) (fun z => absurd c9 z)⟩
  · obtain ⟨r, h9, q, w⟩ := kf c9
    exact ⟨r, h9, q, x_icmp_le hd ht (fun z => absurd z c9) (fun _ => w)⟩
theorem b_goto {off : Int} {tgt : Nat} (hd : decode M.2.1 pc = .ok (.goto off, 3)) (ht : (pc : Int) + off = (tgt : Int)) (k : BW S M tgt ls st h Q) : BW S M pc ls st h Q := by
  obtain ⟨r, h9, q, w⟩ := k
  exact ⟨r, h9, q, x_goto hd ht w⟩
theorem b_ifnull {x : Nat} {off : Int} (hd : decode M.2.1 pc = .ok (.ifnull off, 3)) (k : BW S M (pc + 3) ls st h Q) : BW S M pc ls (.ref x :: st) h Q := by
  obtain ⟨r, h9, q, w⟩ := k
  exact ⟨r, h9, q, x_ifnull hd w⟩
theorem b_ifnullN {off : Int} {tgt : Nat} (hd : decode M.2.1 pc = .ok (.ifnull off, 3)) (ht : (pc : Int) + off = (tgt : Int)) (k : BW S M (tgt) ls st h Q) : BW S M pc ls (.null :: st) h Q := by
  obtain ⟨r, h9, q, w⟩ := k
  exact ⟨r, h9, q, x_ifnullN hd ht w⟩
theorem b_ifnonnull {x : Nat} {off : Int} {tgt : Nat} (hd : decode M.2.1 pc = .ok (.ifnonnull off, 3)) (ht : (pc : Int) + off = (tgt : Int)) (k : BW S M (tgt) ls st h Q) : BW S M pc ls (.ref x :: st) h Q := by
  obtain ⟨r, h9, q, w⟩ := k
  exact ⟨r, h9, q, x_ifnonnull hd ht w⟩
theorem b_ifnonnullN {off : Int} (hd : decode M.2.1 pc = .ok (.ifnonnull off, 3)) (k : BW S M (pc + 3) ls st h Q) : BW S M pc ls (.null :: st) h Q := by
  obtain ⟨r, h9, q, w⟩ := k
  exact ⟨r, h9, q, x_ifnonnullN hd w⟩
theorem b_tableOut {dflt lo hi : Int} {offs : Array Int} {len : Nat} {x : Int32} {tgt : Nat} (hd : decode M.2.1 pc = .ok (.tableswitch dflt lo hi offs, len)) (hx : x.toInt < lo ∨ hi < x.toInt) (ht : (pc : Int) + dflt = (tgt : Int)) (k : BW S M tgt ls st h Q) : BW S M pc ls (.int x :: st) h Q := by
  obtain ⟨r, h9, q, w⟩ := k
  exact ⟨r, h9, q, x_tableOut hd hx ht w⟩
theorem b_tableIn {dflt lo hi : Int} {offs : Array Int} {len : Nat} {x : Int32} {off : Int} {tgt : Nat} (hd : decode M.2.1 pc = .ok (.tableswitch dflt lo hi offs, len)) (h1 : ¬ x.toInt < lo) (h2 : ¬ hi < x.toInt) (ho : offs[(x.toInt - lo).toNat]? = some off) (ht : (pc : Int) + off = (tgt : Int)) (k : BW S M tgt ls st h Q) : BW S M pc ls (.int x :: st) h Q := by
  obtain ⟨r, h9, q, w⟩ := k
  exact ⟨r, h9, q, x_tableIn hd h1 h2 ho ht w⟩
theorem b_ldc {index : Nat} {v : Int32} (hd : decode M.2.1 pc = .ok (.ldc index, 2)) (hw : Cond.constant M.1.cls index v ∈ gtbl) (k : BW S M (pc + 2) ls (.int v :: st) h Q) : BW S M pc ls st h Q := by
  obtain ⟨r, h9, q, w⟩ := k
  exact ⟨r, h9, q, x_ldc hd hw w⟩
theorem b_ldcw {index : Nat} {v : Int32} (hd : decode M.2.1 pc = .ok (.ldc_w index, 3)) (hw : Cond.constant M.1.cls index v ∈ gtbl) (k : BW S M (pc + 3) ls (.int v :: st) h Q) : BW S M pc ls st h Q := by
  obtain ⟨r, h9, q, w⟩ := k
  exact ⟨r, h9, q, x_ldcw hd hw w⟩
theorem b_ldc2 {index : Nat} {v : Int64} (hd : decode M.2.1 pc = .ok (.ldc2_w index, 3)) (hw : Cond.constantLong M.1.cls index v ∈ gtbl) (k : BW S M (pc + 3) ls (.long v :: st) h Q) : BW S M pc ls st h Q := by
  obtain ⟨r, h9, q, w⟩ := k
  exact ⟨r, h9, q, x_ldc2 hd hw w⟩
theorem b_ldcS {index n : Nat} {tx : String} (hd : decode M.2.1 pc = .ok (.ldc index, 2)) (hw : (M.1.cls, index, tx, n) ∈ xstr) (k : BW S M (pc + 2) ls (.retAddr n :: st) h Q) : BW S M pc ls st h Q := by
  obtain ⟨r, h9, q, w⟩ := k
  exact ⟨r, h9, q, x_ldcS hd hw w⟩
theorem b_iret {x : Int32} {ty : FieldType} (hd : decode M.2.1 pc = .ok (.ireturn, 1)) (hr : M.2.2.2.1 = some ty) (hn9 : narrow ty (.int x) = .int x) (q : Q (some (.int x)) h) : BW S M pc ls [.int x] h Q := ⟨_, _, q, x_iret hd hr hn9⟩
theorem b_lret {x : Int64} (hd : decode M.2.1 pc = .ok (.lreturn, 1)) (hr : M.2.2.2.1 = some .long) (q : Q (some (.long x)) h) : BW S M pc ls [.long x] h Q := ⟨_, _, q, x_lret hd hr⟩
theorem b_vret (hd : decode M.2.1 pc = .ok (.return_, 1)) (hr : M.2.2.2.1 = none) (q : Q none h) : BW S M pc ls [] h Q := ⟨_, _, q, x_vret hd hr⟩
theorem b_aret {x : Nat} {C9 : String} (hd : decode M.2.1 pc = .ok (.areturn, 1)) (hr : M.2.2.2.1 = some (.object C9)) (q : Q (some (.ref x)) h) : BW S M pc ls [.ref x] h Q := ⟨_, _, q, x_aret hd hr⟩
theorem b_aretN {C9 : String} (hd : decode M.2.1 pc = .ok (.areturn, 1)) (hr : M.2.2.2.1 = some (.object C9)) (q : Q (some .null) h) : BW S M pc ls [.null] h Q := ⟨_, _, q, x_aretN hd hr⟩
theorem b_getf {index ci k a : Nat} {fs : List Value} {v : Value} (hd : decode M.2.1 pc = .ok (.getfield index, 3)) (hf : xFL M.1.cls index ci k) (he : h[a]? = some (.inr (ci, fs))) (hv : fs[k]? = some v) (kk : BW S M (pc + 3) ls (v :: st) h Q) : BW S M pc ls (.ref a :: st) h Q := by
  obtain ⟨r, h9, q, w⟩ := kk
  exact ⟨r, h9, q, x_getf hd hf he hv w⟩
theorem b_getfN {index ci k a : Nat} {fs : List Value} {v : Value} (hd : decode M.2.1 pc = .ok (.getfield index, 3)) (hf : xFN M.1.cls index ci k) (he : h[a]? = some (.inr (ci, fs))) (hv : fs[k]? = some v) (kk : BW S M (pc + 3) ls (v :: st) h Q) : BW S M pc ls (.ref a :: st) h Q := by
  obtain ⟨r, h9, q, w⟩ := kk
  exact ⟨r, h9, q, x_getfN hd hf he hv w⟩
theorem b_putf {index ci k a : Nat} {fs : List Value} {v : Value} {ty : FieldType} (hd : decode M.2.1 pc = .ok (.putfield index, 3)) (hf : xFL M.1.cls index ci k) (ht : xFT ci k false ty) (hw : xfit ty v) (he : h[a]? = some (.inr (ci, fs))) (hkl : k < fs.length) (hh : h.set a (.inr (ci, fs.set k v)) = h1) (kk : BW S M (pc + 3) ls st h1 Q) : BW S M pc ls (v :: .ref a :: st) h Q := by
  obtain ⟨r, h9, q, w⟩ := kk
  exact ⟨r, h9, q, x_putf hd hf ht hw he hkl hh w⟩
theorem b_putfN {index ci k a : Nat} {fs : List Value} {v : Value} {ty : FieldType} (hd : decode M.2.1 pc = .ok (.putfield index, 3)) (hf : xFN M.1.cls index ci k) (ht : xFT ci k false ty) (hw : xfit ty v) (he : h[a]? = some (.inr (ci, fs))) (hkl : k < fs.length) (hh : h.set a (.inr (ci, fs.set k v)) = h1) (kk : BW S M (pc + 3) ls st h1 Q) : BW S M pc ls (v :: .ref a :: st) h Q := by
  obtain ⟨r, h9, q, w⟩ := kk
  exact ⟨r, h9, q, x_putfN hd hf ht hw he hkl hh w⟩
theorem b_putfF {index ci k a : Nat} {fs : List Value} {v : Value} {ty : FieldType} (hd : decode M.2.1 pc = .ok (.putfield index, 3)) (hf : xFL M.1.cls index ci k) (ht : xFT ci k true ty) (hini : M.1.name = "<init>") (hcl : M.1.cls = (xcl.getD ci ("", xT_Ag, 0)).1) (hdc : ∀ (C : String) (T : u_T) (N : Nat), xcl[ci]? = some (C, T, N) → (T k).1 = C) (hw : xfit ty v) (he : h[a]? = some (.inr (ci, fs))) (hkl : k < fs.length) (hh : h.set a (.inr (ci, fs.set k v)) = h1) (kk : BW S M (pc + 3) ls st h1 Q) : BW S M pc ls (v :: .ref a :: st) h Q := by
  obtain ⟨r, h9, q, w⟩ := kk
  exact ⟨r, h9, q, x_putfF hd hf ht hini hcl hdc hw he hkl hh w⟩
theorem b_iald {a n : Nat} {f : Nat → Int32} {i : Int32} (hd : decode M.2.1 pc = .ok (.iaload, 1)) (he : h[a]? = some (.inl (0, n, .inl f))) (hin : vp_in i n) (kk : BW S M (pc + 1) ls (.int (f i.toNatClampNeg) :: st) h Q) : BW S M pc ls (.int i :: .ref a :: st) h Q := by
  obtain ⟨r, h9, q, w⟩ := kk
  exact ⟨r, h9, q, x_iald hd he hin w⟩
theorem b_zald {a n : Nat} {f : Nat → Int32} {i : Int32} (hd : decode M.2.1 pc = .ok (.baload, 1)) (he : h[a]? = some (.inl (1, n, .inl f))) (hin : vp_in i n) (kk : BW S M (pc + 1) ls (.int (f i.toNatClampNeg) :: st) h Q) : BW S M pc ls (.int i :: .ref a :: st) h Q := by
  obtain ⟨r, h9, q, w⟩ := kk
  exact ⟨r, h9, q, x_zald hd he hin w⟩
theorem b_alen {a t n : Nat} {x : _} {v : Int32} (hd : decode M.2.1 pc = .ok (.arraylength, 1)) (he : h[a]? = some (.inl (t, n, x))) (ht : t < 5) (hv : Int32.ofNat n = v) (kk : BW S M (pc + 1) ls (.int v :: st) h Q) : BW S M pc ls (.ref a :: st) h Q := by
  obtain ⟨r, h9, q, w⟩ := kk
  exact ⟨r, h9, q, x_alen hd he ht hv w⟩
theorem b_aald {a t n : Nat} {f : Nat → Option Nat} {i : Int32} (hd : decode M.2.1 pc = .ok (.aaload, 1)) (he : h[a]? = some (.inl (t, n, .inr (.inr (.inr (.inr f)))))) (ht : 2 ≤ t ∧ t < 5) (hin : vp_in i n) (kk : BW S M (pc + 1) ls (va_rf (f i.toNatClampNeg) :: st) h Q) : BW S M pc ls (.int i :: .ref a :: st) h Q := by
  obtain ⟨r, h9, q, w⟩ := kk
  exact ⟨r, h9, q, x_aald hd he ht hin w⟩
theorem b_iast {a n : Nat} {f : Nat → Int32} {i x : Int32} (hd : decode M.2.1 pc = .ok (.iastore, 1)) (he : h[a]? = some (.inl (0, n, .inl f))) (hin : vp_in i n) (hh : h.set a (.inl (0, n, .inl (upd f i.toNatClampNeg x))) = h1) (kk : BW S M (pc + 1) ls st h1 Q) : BW S M pc ls (.int x :: .int i :: .ref a :: st) h Q := by
  obtain ⟨r, h9, q, w⟩ := kk
  exact ⟨r, h9, q, x_iast hd he hin hh w⟩
theorem b_zast {a n : Nat} {f : Nat → Int32} {i x y : Int32} (hd : decode M.2.1 pc = .ok (.bastore, 1)) (he : h[a]? = some (.inl (1, n, .inl f))) (hin : vp_in i n) (hxy : vp_nar .boolean x = y) (hh : h.set a (.inl (1, n, .inl (upd f i.toNatClampNeg y))) = h1) (kk : BW S M (pc + 1) ls st h1 Q) : BW S M pc ls (.int x :: .int i :: .ref a :: st) h Q := by
  obtain ⟨r, h9, q, w⟩ := kk
  exact ⟨r, h9, q, x_zast hd he hin hxy hh w⟩
theorem b_sald {i : Int32} (hd : decode M.2.1 pc = .ok (.iaload, 1)) (hin : vp_in i S.1) (kk : BW S M (pc + 1) ls (.int (S.2 i.toNatClampNeg) :: st) h Q) : BW S M pc ls (.int i :: .retAddr 99 :: st) h Q := by
  obtain ⟨r, h9, q, w⟩ := kk
  exact ⟨r, h9, q, x_sald hd hin w⟩
theorem b_slen (hd : decode M.2.1 pc = .ok (.arraylength, 1)) (kk : BW S M (pc + 1) ls (.int (Int32.ofNat S.1) :: st) h Q) : BW S M pc ls (.retAddr 99 :: st) h Q := by
  obtain ⟨r, h9, q, w⟩ := kk
  exact ⟨r, h9, q, x_slen hd w⟩
theorem b_oinit {index a : Nat} (hd : decode M.2.1 pc = .ok (.invokespecial index, 3)) (hl : Cond.methodLink M.1.cls index Lib.objectInit ∈ gtbl ∧ Cond.instanceMethod Lib.objectInit ∈ gtbl ∧ Cond.code Lib.objectInit ⟨#[0xb1]⟩ 1 none ∈ gtbl) (hst : (st.map fun v => v.category).sum ≤ 8) (hrm : 1 ≤ M.2.2.2.2.1 ∧ 20 ≤ M.2.2.2.2.2) (kk : BW S M (pc + 3) ls st h Q) : BW S M pc ls (.ref a :: st) h Q := by
  obtain ⟨r, h9, q, w⟩ := kk
  exact ⟨r, h9, q, x_oinit hd hl hst hrm w⟩
theorem b_callVi {index ci b n : Nat} {fs : List Value} {Mc : XM} {As stk : List Value} {Qc : Int32 → St → Prop} (hd : decode M.2.1 pc = .ok (.invokevirtual index, 3)) (hl : xLV M Mc index ci n) (he : h[b]? = some (.inr (ci, fs))) (hn9 : As.length = n) (hs9 : stk = As.reverse ++ .ref b :: st) (hst : (st.map fun v => v.category).sum ≤ 8) (hM : CM S Mc (.ref b :: As) h (qI Qc)) (kk : ∀ (v : Int32) (τ : St), Qc v τ → BW S M (pc + 3) ls (.int v :: st) (enc τ) Q) : BW S M pc ls stk h Q := by
  obtain ⟨r1, h2, qc0, w1⟩ := hM
  obtain ⟨v, τ, rfl, rfl, qc⟩ := qc0
  obtain ⟨r, h9, q, w⟩ := kk v τ qc
  exact ⟨r, h9, q, x_callV hd hl he hn9 hs9 hst w1 w⟩
theorem b_callVl {index ci b n : Nat} {fs : List Value} {Mc : XM} {As stk : List Value} {Qc : Int64 → St → Prop} (hd : decode M.2.1 pc = .ok (.invokevirtual index, 3)) (hl : xLV M Mc index ci n) (he : h[b]? = some (.inr (ci, fs))) (hn9 : As.length = n) (hs9 : stk = As.reverse ++ .ref b :: st) (hst : (st.map fun v => v.category).sum ≤ 8) (hM : CM S Mc (.ref b :: As) h (qL Qc)) (kk : ∀ (v : Int64) (τ : St), Qc v τ → BW S M (pc + 3) ls (.long v :: st) (enc τ) Q) : BW S M pc ls stk h Q := by
  obtain ⟨r1, h2, qc0, w1⟩ := hM
  obtain ⟨v, τ, rfl, rfl, qc⟩ := qc0
  obtain ⟨r, h9, q, w⟩ := kk v τ qc
  exact ⟨r, h9, q, x_callV hd hl he hn9 hs9 hst w1 w⟩
theorem b_callVv {index ci b n : Nat} {fs : List Value} {Mc : XM} {As stk : List Value} {Qc : St → Prop} (hd : decode M.2.1 pc = .ok (.invokevirtual index, 3)) (hl : xLV M Mc index ci n) (he : h[b]? = some (.inr (ci, fs))) (hn9 : As.length = n) (hs9 : stk = As.reverse ++ .ref b :: st) (hst : (st.map fun v => v.category).sum ≤ 8) (hM : CM S Mc (.ref b :: As) h (qV Qc)) (kk : ∀ (τ : St), Qc τ → BW S M (pc + 3) ls (st) (enc τ) Q) : BW S M pc ls stk h Q := by
  obtain ⟨r1, h2, qc0, w1⟩ := hM
  obtain ⟨τ, rfl, rfl, qc⟩ := qc0
  obtain ⟨r, h9, q, w⟩ := kk τ qc
  exact ⟨r, h9, q, x_callV hd hl he hn9 hs9 hst w1 w⟩
theorem b_callVr {index ci b n : Nat} {fs : List Value} {Mc : XM} {As stk : List Value} {Qc : Option Nat → St → Prop} (hd : decode M.2.1 pc = .ok (.invokevirtual index, 3)) (hl : xLV M Mc index ci n) (he : h[b]? = some (.inr (ci, fs))) (hn9 : As.length = n) (hs9 : stk = As.reverse ++ .ref b :: st) (hst : (st.map fun v => v.category).sum ≤ 8) (hM : CM S Mc (.ref b :: As) h (qR Qc)) (kk : ∀ (v : Option Nat) (τ : St), Qc v τ → BW S M (pc + 3) ls (va_rf v :: st) (enc τ) Q) : BW S M pc ls stk h Q := by
  obtain ⟨r1, h2, qc0, w1⟩ := hM
  obtain ⟨v, τ, rfl, rfl, qc⟩ := qc0
  obtain ⟨r, h9, q, w⟩ := kk v τ qc
  exact ⟨r, h9, q, x_callV hd hl he hn9 hs9 hst w1 w⟩
theorem b_callSi {index n : Nat} {Mc : XM} {As stk : List Value} {Qc : Int32 → St → Prop} (hd : decode M.2.1 pc = .ok (.invokestatic index, 3)) (hl : xLS M Mc index n) (hn9 : As.length = n) (hs9 : stk = As.reverse ++ st) (hst : (st.map fun v => v.category).sum ≤ 8) (hM : CM S Mc As h (qI Qc)) (kk : ∀ (v : Int32) (τ : St), Qc v τ → BW S M (pc + 3) ls (.int v :: st) (enc τ) Q) : BW S M pc ls stk h Q := by
  obtain ⟨r1, h2, qc0, w1⟩ := hM
  obtain ⟨v, τ, rfl, rfl, qc⟩ := qc0
  obtain ⟨r, h9, q, w⟩ := kk v τ qc
  exact ⟨r, h9, q, x_callS hd hl hn9 hs9 hst w1 w⟩
theorem b_callSl {index n : Nat} {Mc : XM} {As stk : List Value} {Qc : Int64 → St → Prop} (hd : decode M.2.1 pc = .ok (.invokestatic index, 3)) (hl : xLS M Mc index n) (hn9 : As.length = n) (hs9 : stk = As.reverse ++ st) (hst : (st.map fun v => v.category).sum ≤ 8) (hM : CM S Mc As h (qL Qc)) (kk : ∀ (v : Int64) (τ : St), Qc v τ → BW S M (pc + 3) ls (.long v :: st) (enc τ) Q) : BW S M pc ls stk h Q := by
  obtain ⟨r1, h2, qc0, w1⟩ := hM
  obtain ⟨v, τ, rfl, rfl, qc⟩ := qc0
  obtain ⟨r, h9, q, w⟩ := kk v τ qc
  exact ⟨r, h9, q, x_callS hd hl hn9 hs9 hst w1 w⟩
theorem b_callSv {index n : Nat} {Mc : XM} {As stk : List Value} {Qc : St → Prop} (hd : decode M.2.1 pc = .ok (.invokestatic index, 3)) (hl : xLS M Mc index n) (hn9 : As.length = n) (hs9 : stk = As.reverse ++ st) (hst : (st.map fun v => v.category).sum ≤ 8) (hM : CM S Mc As h (qV Qc)) (kk : ∀ (τ : St), Qc τ → BW S M (pc + 3) ls (st) (enc τ) Q) : BW S M pc ls stk h Q := by
  obtain ⟨r1, h2, qc0, w1⟩ := hM
  obtain ⟨τ, rfl, rfl, qc⟩ := qc0
  obtain ⟨r, h9, q, w⟩ := kk τ qc
  exact ⟨r, h9, q, x_callS hd hl hn9 hs9 hst w1 w⟩
theorem b_callSr {index n : Nat} {Mc : XM} {As stk : List Value} {Qc : Option Nat → St → Prop} (hd : decode M.2.1 pc = .ok (.invokestatic index, 3)) (hl : xLS M Mc index n) (hn9 : As.length = n) (hs9 : stk = As.reverse ++ st) (hst : (st.map fun v => v.category).sum ≤ 8) (hM : CM S Mc As h (qR Qc)) (kk : ∀ (v : Option Nat) (τ : St), Qc v τ → BW S M (pc + 3) ls (va_rf v :: st) (enc τ) Q) : BW S M pc ls stk h Q := by
  obtain ⟨r1, h2, qc0, w1⟩ := hM
  obtain ⟨v, τ, rfl, rfl, qc⟩ := qc0
  obtain ⟨r, h9, q, w⟩ := kk v τ qc
  exact ⟨r, h9, q, x_callS hd hl hn9 hs9 hst w1 w⟩
theorem b_callSNi {index n : Nat} {Mc : XM} {As stk : List Value} {Qc : Int32 → St → Prop} (hd : decode M.2.1 pc = .ok (.invokestatic index, 3)) (hl : xLSN M Mc index n) (hn9 : As.length = n) (hs9 : stk = As.reverse ++ st) (hst : (st.map fun v => v.category).sum ≤ 8) (hM : CM S Mc As h (qI Qc)) (kk : ∀ (v : Int32) (τ : St), Qc v τ → BW S M (pc + 3) ls (.int v :: st) (enc τ) Q) : BW S M pc ls stk h Q := by
  obtain ⟨r1, h2, qc0, w1⟩ := hM
  obtain ⟨v, τ, rfl, rfl, qc⟩ := qc0
  obtain ⟨r, h9, q, w⟩ := kk v τ qc
  exact ⟨r, h9, q, x_callSN hd hl hn9 hs9 hst w1 w⟩
theorem b_callSNl {index n : Nat} {Mc : XM} {As stk : List Value} {Qc : Int64 → St → Prop} (hd : decode M.2.1 pc = .ok (.invokestatic index, 3)) (hl : xLSN M Mc index n) (hn9 : As.length = n) (hs9 : stk = As.reverse ++ st) (hst : (st.map fun v => v.category).sum ≤ 8) (hM : CM S Mc As h (qL Qc)) (kk : ∀ (v : Int64) (τ : St), Qc v τ → BW S M (pc + 3) ls (.long v :: st) (enc τ) Q) : BW S M pc ls stk h Q := by
  obtain ⟨r1, h2, qc0, w1⟩ := hM
  obtain ⟨v, τ, rfl, rfl, qc⟩ := qc0
  obtain ⟨r, h9, q, w⟩ := kk v τ qc
  exact ⟨r, h9, q, x_callSN hd hl hn9 hs9 hst w1 w⟩
theorem b_callSNv {index n : Nat} {Mc : XM} {As stk : List Value} {Qc : St → Prop} (hd : decode M.2.1 pc = .ok (.invokestatic index, 3)) (hl : xLSN M Mc index n) (hn9 : As.length = n) (hs9 : stk = As.reverse ++ st) (hst : (st.map fun v => v.category).sum ≤ 8) (hM : CM S Mc As h (qV Qc)) (kk : ∀ (τ : St), Qc τ → BW S M (pc + 3) ls (st) (enc τ) Q) : BW S M pc ls stk h Q := by
  obtain ⟨r1, h2, qc0, w1⟩ := hM
  obtain ⟨τ, rfl, rfl, qc⟩ := qc0
  obtain ⟨r, h9, q, w⟩ := kk τ qc
  exact ⟨r, h9, q, x_callSN hd hl hn9 hs9 hst w1 w⟩
theorem b_callSNr {index n : Nat} {Mc : XM} {As stk : List Value} {Qc : Option Nat → St → Prop} (hd : decode M.2.1 pc = .ok (.invokestatic index, 3)) (hl : xLSN M Mc index n) (hn9 : As.length = n) (hs9 : stk = As.reverse ++ st) (hst : (st.map fun v => v.category).sum ≤ 8) (hM : CM S Mc As h (qR Qc)) (kk : ∀ (v : Option Nat) (τ : St), Qc v τ → BW S M (pc + 3) ls (va_rf v :: st) (enc τ) Q) : BW S M pc ls stk h Q := by
  obtain ⟨r1, h2, qc0, w1⟩ := hM
  obtain ⟨v, τ, rfl, rfl, qc⟩ := qc0
  obtain ⟨r, h9, q, w⟩ := kk v τ qc
  exact ⟨r, h9, q, x_callSN hd hl hn9 hs9 hst w1 w⟩
theorem b_callIi {index b n : Nat} {Mc : XM} {As stk : List Value} {Qc : Int32 → St → Prop} (hd : decode M.2.1 pc = .ok (.invokespecial index, 3)) (hl : xLI M Mc index n) (hn9 : As.length = n) (hs9 : stk = As.reverse ++ .ref b :: st) (hst : (st.map fun v => v.category).sum ≤ 8) (hM : CM S Mc (.ref b :: As) h (qI Qc)) (kk : ∀ (v : Int32) (τ : St), Qc v τ → BW S M (pc + 3) ls (.int v :: st) (enc τ) Q) : BW S M pc ls stk h Q := by
  obtain ⟨r1, h2, qc0, w1⟩ := hM
  obtain ⟨v, τ, rfl, rfl, qc⟩ := qc0
  obtain ⟨r, h9, q, w⟩ := kk v τ qc
  exact ⟨r, h9, q, x_callI hd hl hn9 hs9 hst w1 w⟩
theorem b_callIl {index b n : Nat} {Mc : XM} {As stk : List Value} {Qc : Int64 → St → Prop} (hd : decode M.2.1 pc = .ok (.invokespecial index, 3)) (hl : xLI M Mc index n) (hn9 : As.length = n) (hs9 : stk = As.reverse ++ .ref b :: st) (hst : (st.map fun v => v.category).sum ≤ 8) (hM : CM S Mc (.ref b :: As) h (qL Qc)) (kk : ∀ (v : Int64) (τ : St), Qc v τ → BW S M (pc + 3) ls (.long v :: st) (enc τ) Q) : BW S M pc ls stk h Q := by
  obtain ⟨r1, h2, qc0, w1⟩ := hM
  obtain ⟨v, τ, rfl, rfl, qc⟩ := qc0
  obtain ⟨r, h9, q, w⟩ := kk v τ qc
  exact ⟨r, h9, q, x_callI hd hl hn9 hs9 hst w1 w⟩
theorem b_callIv {index b n : Nat} {Mc : XM} {As stk : List Value} {Qc : St → Prop} (hd : decode M.2.1 pc = .ok (.invokespecial index, 3)) (hl : xLI M Mc index n) (hn9 : As.length = n) (hs9 : stk = As.reverse ++ .ref b :: st) (hst : (st.map fun v => v.category).sum ≤ 8) (hM : CM S Mc (.ref b :: As) h (qV Qc)) (kk : ∀ (τ : St), Qc τ → BW S M (pc + 3) ls (st) (enc τ) Q) : BW S M pc ls stk h Q := by
  obtain ⟨r1, h2, qc0, w1⟩ := hM
  obtain ⟨τ, rfl, rfl, qc⟩ := qc0
  obtain ⟨r, h9, q, w⟩ := kk τ qc
  exact ⟨r, h9, q, x_callI hd hl hn9 hs9 hst w1 w⟩
theorem b_callIr {index b n : Nat} {Mc : XM} {As stk : List Value} {Qc : Option Nat → St → Prop} (hd : decode M.2.1 pc = .ok (.invokespecial index, 3)) (hl : xLI M Mc index n) (hn9 : As.length = n) (hs9 : stk = As.reverse ++ .ref b :: st) (hst : (st.map fun v => v.category).sum ≤ 8) (hM : CM S Mc (.ref b :: As) h (qR Qc)) (kk : ∀ (v : Option Nat) (τ : St), Qc v τ → BW S M (pc + 3) ls (va_rf v :: st) (enc τ) Q) : BW S M pc ls stk h Q := by
  obtain ⟨r1, h2, qc0, w1⟩ := hM
  obtain ⟨v, τ, rfl, rfl, qc⟩ := qc0
  obtain ⟨r, h9, q, w⟩ := kk v τ qc
  exact ⟨r, h9, q, x_callI hd hl hn9 hs9 hst w1 w⟩
theorem b_callINi {index b n : Nat} {Mc : XM} {As stk : List Value} {Qc : Int32 → St → Prop} (hd : decode M.2.1 pc = .ok (.invokespecial index, 3)) (hl : xLIN M Mc index n) (hn9 : As.length = n) (hs9 : stk = As.reverse ++ .ref b :: st) (hst : (st.map fun v => v.category).sum ≤ 8) (hM : CM S Mc (.ref b :: As) h (qI Qc)) (kk : ∀ (v : Int32) (τ : St), Qc v τ → BW S M (pc + 3) ls (.int v :: st) (enc τ) Q) : BW S M pc ls stk h Q := by
  obtain ⟨r1, h2, qc0, w1⟩ := hM
  obtain ⟨v, τ, rfl, rfl, qc⟩ := qc0
  obtain ⟨r, h9, q, w⟩ := kk v τ qc
  exact ⟨r, h9, q, x_callIN hd hl hn9 hs9 hst w1 w⟩
theorem b_callINl {index b n : Nat} {Mc : XM} {As stk : List Value} {Qc : Int64 → St → Prop} (hd : decode M.2.1 pc = .ok (.invokespecial index, 3)) (hl : xLIN M Mc index n) (hn9 : As.length = n) (hs9 : stk = As.reverse ++ .ref b :: st) (hst : (st.map fun v => v.category).sum ≤ 8) (hM : CM S Mc (.ref b :: As) h (qL Qc)) (kk : ∀ (v : Int64) (τ : St), Qc v τ → BW S M (pc + 3) ls (.long v :: st) (enc τ) Q) : BW S M pc ls stk h Q := by
  obtain ⟨r1, h2, qc0, w1⟩ := hM
  obtain ⟨v, τ, rfl, rfl, qc⟩ := qc0
  obtain ⟨r, h9, q, w⟩ := kk v τ qc
  exact ⟨r, h9, q, x_callIN hd hl hn9 hs9 hst w1 w⟩
theorem b_callINv {index b n : Nat} {Mc : XM} {As stk : List Value} {Qc : St → Prop} (hd : decode M.2.1 pc = .ok (.invokespecial index, 3)) (hl : xLIN M Mc index n) (hn9 : As.length = n) (hs9 : stk = As.reverse ++ .ref b :: st) (hst : (st.map fun v => v.category).sum ≤ 8) (hM : CM S Mc (.ref b :: As) h (qV Qc)) (kk : ∀ (τ : St), Qc τ → BW S M (pc + 3) ls (st) (enc τ) Q) : BW S M pc ls stk h Q := by
  obtain ⟨r1, h2, qc0, w1⟩ := hM
  obtain ⟨τ, rfl, rfl, qc⟩ := qc0
  obtain ⟨r, h9, q, w⟩ := kk τ qc
  exact ⟨r, h9, q, x_callIN hd hl hn9 hs9 hst w1 w⟩
theorem b_callINr {index b n : Nat} {Mc : XM} {As stk : List Value} {Qc : Option Nat → St → Prop} (hd : decode M.2.1 pc = .ok (.invokespecial index, 3)) (hl : xLIN M Mc index n) (hn9 : As.length = n) (hs9 : stk = As.reverse ++ .ref b :: st) (hst : (st.map fun v => v.category).sum ≤ 8) (hM : CM S Mc (.ref b :: As) h (qR Qc)) (kk : ∀ (v : Option Nat) (τ : St), Qc v τ → BW S M (pc + 3) ls (va_rf v :: st) (enc τ) Q) : BW S M pc ls stk h Q := by
  obtain ⟨r1, h2, qc0, w1⟩ := hM
  obtain ⟨v, τ, rfl, rfl, qc⟩ := qc0
  obtain ⟨r, h9, q, w⟩ := kk v τ qc
  exact ⟨r, h9, q, x_callIN hd hl hn9 hs9 hst w1 w⟩
theorem b_meth {as : List Value} (hy : plainName M.1.cls = true) (hcat : (as.map fun v => v.category).sum ≤ M.2.2.1) (hls : xin M.2.2.1 as = ls) (k : BW S M 0 ls [] h Q) : CM S M as h Q := by
  obtain ⟨r, h9, q, w⟩ := k
  exact ⟨r, h9, q, x_meth hy hcat hls w⟩
theorem b_st {pc' : Nat} {ls' : List (Option Value)} {st' : List Value} (e1 : ls = ls') (e2 : st = st') (k : BW S M pc ls' st' h Q) : BW S M pc ls st h Q := by subst e1; subst e2; exact k
end XBW
