/-! String.charAt -/
theorem x_i2c {S : XS} {M : XM} {pc : Nat} {ls : List (Option Value)} {st : List Value} {h : XH} {r : Option Value} {h' : XH} {x v : Int32} (hd : decode M.2.1 pc = .ok (.i2c, 1)) (hv : (x.toUInt32 % 65536).toInt32 = v) (k : AW S M (pc + 1) ls (.int v :: st) h r h') : AW S M pc ls (.int x :: st) h r h' :=
  ⟨k.1, fun l K p e s m args below meth c n0 z0 H locs L C hn hz hR hS hL => lv_i2c C.1 C.2.1 hd hv (k.2 l K p e s m args below meth c n0 z0 H locs L C hn hz hR hS hL)⟩
/-- the char at j of String constant k -/
def sch (k j : Nat) : Int32 := (xbyt.getD k []).getD j 0 &&& 255
theorem A_lcharAt {S : XS} {h : XH} {k j : Nat} (hk : k < 7) (hj : j < xlen.getD k 0) (hl : xlen.getD k 0 < 2 ^ 31) : AM S m_Jl_charAt [.retAddr (100 + k), .int (nI j)] h (some (.int (sch k j))) h := by
  refine x_meth (ls := [some (.retAddr (100 + k)), some (.int (nI j))]) (by decide) (Nat.le_of_ble_eq_true rfl) rfl ?_
  refine x_iload_n d_Jl_charAt_0 rfl rfl ?_
  refine x_aload_nS d_Jl_charAt_1 rfl rfl ?_
  refine x_vlen d_Jl_charAt_2 hk rfl ?_
  refine x_callS (Mc := m_Js_checkIndex) (As := [.int (nI j), .int (Int32.ofNat (xlen.getD k 0))]) (st := []) d_Jl_charAt_3 ⟨⟨kA_Js_checkIndex.1, kA_Js_checkIndex.2.1, kA_Js_checkIndex.2.2, by decide⟩, ml_Jl_9, kS_Js_checkIndex⟩ rfl rfl (Nat.le_of_ble_eq_true rfl) (A_scheck (nI_pos (by omega)) (nI_lt hj hl)) ?_
  refine x_aload_nS d_Jl_charAt_6 rfl rfl ?_
  refine x_iload_n d_Jl_charAt_7 rfl rfl ?_
  refine x_vald (v := (xbyt.getD k []).getD j 0) d_Jl_charAt_8 hk (vp_in_nI hj hl) (by rw [nI_clamp (by omega)]) ?_
  refine x_sipush (v := 255) d_Jl_charAt_9 (by decide) ?_
  refine x_iand d_Jl_charAt_12 ?_
  refine x_i2c (v := sch k j) d_Jl_charAt_13 (sc_c2 _) ?_
  exact x_iret (ty := .char) d_Jl_charAt_14 rfl (sc_nar _)
theorem A_charAt {S : XS} {h : XH} {k j : Nat} (hk : k < 7) (hj : j < xlen.getD k 0) (hl : xlen.getD k 0 < 2 ^ 31) : AM S m_Js_charAt [.retAddr k, .int (nI j)] h (some (.int (sch k j))) h := by
  refine x_meth (ls := [some (.retAddr k), some (.int (nI j))]) (by decide) (Nat.le_of_ble_eq_true rfl) rfl ?_
  refine x_aload_nS d_Js_charAt_0 rfl rfl ?_
  refine x_callT (Mc := m_Js_isLatin1) (As := []) (st := []) d_Js_charAt_1 ⟨⟨kA_Js_isLatin1.1, kA_Js_isLatin1.2.1, kA_Js_isLatin1.2.2, by decide⟩, ml_Js_492, kT_Js_isLatin1⟩ hk rfl rfl (Nat.le_of_ble_eq_true rfl) (A_isLatin1 hk) ?_
  refine x_if_eq (tgt := 16) d_Js_charAt_4 (by decide) (fun c => absurd c (by decide)) (fun c => ?_)
  refine x_aload_nS d_Js_charAt_7 rfl rfl ?_
  refine x_sval d_Js_charAt_8 sl_9 hk ?_
  refine x_iload_n d_Js_charAt_11 rfl rfl ?_
  refine x_callS (Mc := m_Jl_charAt) (As := [.retAddr (100 + k), .int (nI j)]) (st := []) d_Js_charAt_12 ⟨⟨kA_Jl_charAt.1, kA_Jl_charAt.2.1, kA_Jl_charAt.2.2, by decide⟩, ml_Js_495, kS_Jl_charAt⟩ rfl rfl (Nat.le_of_ble_eq_true rfl) (A_lcharAt hk hj hl) ?_
  exact x_iret (ty := .char) d_Js_charAt_15 rfl (sc_nar _)
theorem K_length {S : XS} {Q : Int32 → St → Prop} (σ : St) {k : Nat} (hk : k < 7) (H : Q (nI (xlen.getD k 0)) σ) : CM S m_Js_length [.retAddr k] (enc σ) (qI Q) := ⟨_, _, ⟨_, σ, rfl, rfl, H⟩, A_length hk⟩
theorem K_charAt {S : XS} {Q : Int32 → St → Prop} (σ : St) {k j : Nat} (hk : k < 7) (hj : j < xlen.getD k 0) (hl : xlen.getD k 0 < 2 ^ 31) (H : Q (sch k j) σ) : CM S m_Js_charAt [.retAddr k, .int (nI j)] (enc σ) (qI Q) := ⟨_, _, ⟨_, σ, rfl, rfl, H⟩, A_charAt hk hj hl⟩
