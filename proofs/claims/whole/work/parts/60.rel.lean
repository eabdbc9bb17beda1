/-! TOOLS, AND THE RELATION between the class and the reference. -/
theorem gs_X_X (σ : St) (k : Nat) (v : Int32) (j : Nat) : gX (sX σ k v) j = if j = k then v else gX σ j := rfl
theorem gs_X_A (σ : St) (k : Nat) (f : Nat → Int32) (j : Nat) : gX (sA σ k f) j = gX σ j := rfl
theorem gs_X_B (σ : St) (k i : Nat) (f : Nat → Int32) (j : Nat) : gX (sB σ k i f) j = gX σ j := rfl
theorem gs_X_P (σ : St) (v : Int64) (j : Nat) : gX (sP σ v) j = gX σ j := rfl
theorem gs_X_N (σ : St) (v : Option Nat) (j : Nat) : gX (sN σ v) j = gX σ j := rfl
theorem gs_X_F (σ : St) (v : Nat → Option Nat) (j : Nat) : gX (sF σ v) j = gX σ j := rfl
theorem gs_X_G (σ : St) (v : Nat → Option Nat) (j : Nat) : gX (sG σ v) j = gX σ j := rfl
theorem gs_X_f (σ : St) (v : Nat) (j : Nat) : gX (sf σ v) j = gX σ j := rfl
theorem gs_X_g (σ : St) (v : Nat) (j : Nat) : gX (sg σ v) j = gX σ j := rfl
theorem gs_X_D (σ : St) (q : Nat) (c : va_E) (j : Nat) : gX (sD σ q c) j = gX σ j := rfl
theorem gs_X_M (σ : St) (c : va_E) (j : Nat) : gX (sM σ c) j = gX σ j := rfl
theorem gs_X_Y (σ : St) (k : Nat) (v : Int32) (j : Nat) : gX (sY σ k v) j = gX σ j := rfl
theorem gs_X_C (σ : St) (k : Nat) (f : Nat → Int32) (j : Nat) : gX (sC σ k f) j = gX σ j := rfl
theorem gs_X_Q (σ : St) (v : Int64) (j : Nat) : gX (sQ σ v) j = gX σ j := rfl
theorem gs_A_X (σ : St) (k : Nat) (v : Int32) (j : Nat) : gA (sX σ k v) j = gA σ j := rfl
theorem gs_A_A (σ : St) (k : Nat) (f : Nat → Int32) (j : Nat) : gA (sA σ k f) j = if j = k then f else gA σ j := rfl
theorem gs_A_B (σ : St) (k i : Nat) (f : Nat → Int32) (j : Nat) : gA (sB σ k i f) j = gA σ j := rfl
theorem gs_A_P (σ : St) (v : Int64) (j : Nat) : gA (sP σ v) j = gA σ j := rfl
theorem gs_A_N (σ : St) (v : Option Nat) (j : Nat) : gA (sN σ v) j = gA σ j := rfl
theorem gs_A_F (σ : St) (v : Nat → Option Nat) (j : Nat) : gA (sF σ v) j = gA σ j := rfl
theorem gs_A_G (σ : St) (v : Nat → Option Nat) (j : Nat) : gA (sG σ v) j = gA σ j := rfl
theorem gs_A_f (σ : St) (v : Nat) (j : Nat) : gA (sf σ v) j = gA σ j := rfl
theorem gs_A_g (σ : St) (v : Nat) (j : Nat) : gA (sg σ v) j = gA σ j := rfl
theorem gs_A_D (σ : St) (q : Nat) (c : va_E) (j : Nat) : gA (sD σ q c) j = gA σ j := rfl
theorem gs_A_M (σ : St) (c : va_E) (j : Nat) : gA (sM σ c) j = gA σ j := rfl
theorem gs_A_Y (σ : St) (k : Nat) (v : Int32) (j : Nat) : gA (sY σ k v) j = gA σ j := rfl
theorem gs_A_C (σ : St) (k : Nat) (f : Nat → Int32) (j : Nat) : gA (sC σ k f) j = gA σ j := rfl
theorem gs_A_Q (σ : St) (v : Int64) (j : Nat) : gA (sQ σ v) j = gA σ j := rfl
theorem gs_B_X (σ : St) (k : Nat) (v : Int32) (j : Nat) : gB (sX σ k v) j = gB σ j := rfl
theorem gs_B_A (σ : St) (k : Nat) (f : Nat → Int32) (j : Nat) : gB (sA σ k f) j = gB σ j := rfl
theorem gs_B_B (σ : St) (k i : Nat) (f : Nat → Int32) (j : Nat) : gB (sB σ k i f) j = if j = k then va_up (gB σ k) i f else gB σ j := by
  show va_up (fun a => gB σ a) k (va_up (gB σ k) i f) j = _
  rfl
theorem gs_B_P (σ : St) (v : Int64) (j : Nat) : gB (sP σ v) j = gB σ j := rfl
theorem gs_B_N (σ : St) (v : Option Nat) (j : Nat) : gB (sN σ v) j = gB σ j := rfl
theorem gs_B_F (σ : St) (v : Nat → Option Nat) (j : Nat) : gB (sF σ v) j = gB σ j := rfl
theorem gs_B_G (σ : St) (v : Nat → Option Nat) (j : Nat) : gB (sG σ v) j = gB σ j := rfl
theorem gs_B_f (σ : St) (v : Nat) (j : Nat) : gB (sf σ v) j = gB σ j := rfl
theorem gs_B_g (σ : St) (v : Nat) (j : Nat) : gB (sg σ v) j = gB σ j := rfl
theorem gs_B_D (σ : St) (q : Nat) (c : va_E) (j : Nat) : gB (sD σ q c) j = gB σ j := rfl
theorem gs_B_M (σ : St) (c : va_E) (j : Nat) : gB (sM σ c) j = gB σ j := rfl
theorem gs_B_Y (σ : St) (k : Nat) (v : Int32) (j : Nat) : gB (sY σ k v) j = gB σ j := rfl
theorem gs_B_C (σ : St) (k : Nat) (f : Nat → Int32) (j : Nat) : gB (sC σ k f) j = gB σ j := rfl
theorem gs_B_Q (σ : St) (v : Int64) (j : Nat) : gB (sQ σ v) j = gB σ j := rfl
theorem gs_P_X (σ : St) (k : Nat) (v : Int32) : gP (sX σ k v) = gP σ := rfl
theorem gs_P_A (σ : St) (k : Nat) (f : Nat → Int32) : gP (sA σ k f) = gP σ := rfl
theorem gs_P_B (σ : St) (k i : Nat) (f : Nat → Int32) : gP (sB σ k i f) = gP σ := rfl
theorem gs_P_P (σ : St) (v : Int64) : gP (sP σ v) = v := rfl
theorem gs_P_N (σ : St) (v : Option Nat) : gP (sN σ v) = gP σ := rfl
theorem gs_P_F (σ : St) (v : Nat → Option Nat) : gP (sF σ v) = gP σ := rfl
theorem gs_P_G (σ : St) (v : Nat → Option Nat) : gP (sG σ v) = gP σ := rfl
theorem gs_P_f (σ : St) (v : Nat) : gP (sf σ v) = gP σ := rfl
theorem gs_P_g (σ : St) (v : Nat) : gP (sg σ v) = gP σ := rfl
theorem gs_P_D (σ : St) (q : Nat) (c : va_E) : gP (sD σ q c) = gP σ := rfl
theorem gs_P_M (σ : St) (c : va_E) : gP (sM σ c) = gP σ := rfl
theorem gs_P_Y (σ : St) (k : Nat) (v : Int32) : gP (sY σ k v) = gP σ := rfl
theorem gs_P_C (σ : St) (k : Nat) (f : Nat → Int32) : gP (sC σ k f) = gP σ := rfl
theorem gs_P_Q (σ : St) (v : Int64) : gP (sQ σ v) = gP σ := rfl
theorem gs_N_X (σ : St) (k : Nat) (v : Int32) : gN (sX σ k v) = gN σ := rfl
theorem gs_N_A (σ : St) (k : Nat) (f : Nat → Int32) : gN (sA σ k f) = gN σ := rfl
theorem gs_N_B (σ : St) (k i : Nat) (f : Nat → Int32) : gN (sB σ k i f) = gN σ := rfl
theorem gs_N_P (σ : St) (v : Int64) : gN (sP σ v) = gN σ := rfl
theorem gs_N_N (σ : St) (v : Option Nat) : gN (sN σ v) = v := rfl
theorem gs_N_F (σ : St) (v : Nat → Option Nat) : gN (sF σ v) = gN σ := rfl
theorem gs_N_G (σ : St) (v : Nat → Option Nat) : gN (sG σ v) = gN σ := rfl
theorem gs_N_f (σ : St) (v : Nat) : gN (sf σ v) = gN σ := rfl
theorem gs_N_g (σ : St) (v : Nat) : gN (sg σ v) = gN σ := rfl
theorem gs_N_D (σ : St) (q : Nat) (c : va_E) : gN (sD σ q c) = gN σ := rfl
theorem gs_N_M (σ : St) (c : va_E) : gN (sM σ c) = gN σ := rfl
theorem gs_N_Y (σ : St) (k : Nat) (v : Int32) : gN (sY σ k v) = gN σ := rfl
theorem gs_N_C (σ : St) (k : Nat) (f : Nat → Int32) : gN (sC σ k f) = gN σ := rfl
theorem gs_N_Q (σ : St) (v : Int64) : gN (sQ σ v) = gN σ := rfl
theorem gs_F_X (σ : St) (k : Nat) (v : Int32) : gF (sX σ k v) = gF σ := rfl
theorem gs_F_A (σ : St) (k : Nat) (f : Nat → Int32) : gF (sA σ k f) = gF σ := rfl
theorem gs_F_B (σ : St) (k i : Nat) (f : Nat → Int32) : gF (sB σ k i f) = gF σ := rfl
theorem gs_F_P (σ : St) (v : Int64) : gF (sP σ v) = gF σ := rfl
theorem gs_F_N (σ : St) (v : Option Nat) : gF (sN σ v) = gF σ := rfl
theorem gs_F_F (σ : St) (v : Nat → Option Nat) : gF (sF σ v) = v := rfl
theorem gs_F_G (σ : St) (v : Nat → Option Nat) : gF (sG σ v) = gF σ := rfl
theorem gs_F_f (σ : St) (v : Nat) : gF (sf σ v) = gF σ := rfl
theorem gs_F_g (σ : St) (v : Nat) : gF (sg σ v) = gF σ := rfl
theorem gs_F_D (σ : St) (q : Nat) (c : va_E) : gF (sD σ q c) = gF σ := rfl
theorem gs_F_M (σ : St) (c : va_E) : gF (sM σ c) = gF σ := rfl
theorem gs_F_Y (σ : St) (k : Nat) (v : Int32) : gF (sY σ k v) = gF σ := rfl
theorem gs_F_C (σ : St) (k : Nat) (f : Nat → Int32) : gF (sC σ k f) = gF σ := rfl
theorem gs_F_Q (σ : St) (v : Int64) : gF (sQ σ v) = gF σ := rfl
theorem gs_G_X (σ : St) (k : Nat) (v : Int32) : gG (sX σ k v) = gG σ := rfl
theorem gs_G_A (σ : St) (k : Nat) (f : Nat → Int32) : gG (sA σ k f) = gG σ := rfl
theorem gs_G_B (σ : St) (k i : Nat) (f : Nat → Int32) : gG (sB σ k i f) = gG σ := rfl
theorem gs_G_P (σ : St) (v : Int64) : gG (sP σ v) = gG σ := rfl
theorem gs_G_N (σ : St) (v : Option Nat) : gG (sN σ v) = gG σ := rfl
theorem gs_G_F (σ : St) (v : Nat → Option Nat) : gG (sF σ v) = gG σ := rfl
theorem gs_G_G (σ : St) (v : Nat → Option Nat) : gG (sG σ v) = v := rfl
theorem gs_G_f (σ : St) (v : Nat) : gG (sf σ v) = gG σ := rfl
theorem gs_G_g (σ : St) (v : Nat) : gG (sg σ v) = gG σ := rfl
theorem gs_G_D (σ : St) (q : Nat) (c : va_E) : gG (sD σ q c) = gG σ := rfl
theorem gs_G_M (σ : St) (c : va_E) : gG (sM σ c) = gG σ := rfl
theorem gs_G_Y (σ : St) (k : Nat) (v : Int32) : gG (sY σ k v) = gG σ := rfl
theorem gs_G_C (σ : St) (k : Nat) (f : Nat → Int32) : gG (sC σ k f) = gG σ := rfl
theorem gs_G_Q (σ : St) (v : Int64) : gG (sQ σ v) = gG σ := rfl
theorem gs_f_X (σ : St) (k : Nat) (v : Int32) : gf (sX σ k v) = gf σ := rfl
theorem gs_f_A (σ : St) (k : Nat) (f : Nat → Int32) : gf (sA σ k f) = gf σ := rfl
theorem gs_f_B (σ : St) (k i : Nat) (f : Nat → Int32) : gf (sB σ k i f) = gf σ := rfl
theorem gs_f_P (σ : St) (v : Int64) : gf (sP σ v) = gf σ := rfl
theorem gs_f_N (σ : St) (v : Option Nat) : gf (sN σ v) = gf σ := rfl
theorem gs_f_F (σ : St) (v : Nat → Option Nat) : gf (sF σ v) = gf σ := rfl
theorem gs_f_G (σ : St) (v : Nat → Option Nat) : gf (sG σ v) = gf σ := rfl
theorem gs_f_f (σ : St) (v : Nat) : gf (sf σ v) = v := rfl
theorem gs_f_g (σ : St) (v : Nat) : gf (sg σ v) = gf σ := rfl
theorem gs_f_D (σ : St) (q : Nat) (c : va_E) : gf (sD σ q c) = gf σ := rfl
theorem gs_f_M (σ : St) (c : va_E) : gf (sM σ c) = gf σ := rfl
theorem gs_f_Y (σ : St) (k : Nat) (v : Int32) : gf (sY σ k v) = gf σ := rfl
theorem gs_f_C (σ : St) (k : Nat) (f : Nat → Int32) : gf (sC σ k f) = gf σ := rfl
theorem gs_f_Q (σ : St) (v : Int64) : gf (sQ σ v) = gf σ := rfl
theorem gs_g_X (σ : St) (k : Nat) (v : Int32) : gg (sX σ k v) = gg σ := rfl
theorem gs_g_A (σ : St) (k : Nat) (f : Nat → Int32) : gg (sA σ k f) = gg σ := rfl
theorem gs_g_B (σ : St) (k i : Nat) (f : Nat → Int32) : gg (sB σ k i f) = gg σ := rfl
theorem gs_g_P (σ : St) (v : Int64) : gg (sP σ v) = gg σ := rfl
theorem gs_g_N (σ : St) (v : Option Nat) : gg (sN σ v) = gg σ := rfl
theorem gs_g_F (σ : St) (v : Nat → Option Nat) : gg (sF σ v) = gg σ := rfl
theorem gs_g_G (σ : St) (v : Nat → Option Nat) : gg (sG σ v) = gg σ := rfl
theorem gs_g_f (σ : St) (v : Nat) : gg (sf σ v) = gg σ := rfl
theorem gs_g_g (σ : St) (v : Nat) : gg (sg σ v) = v := rfl
theorem gs_g_D (σ : St) (q : Nat) (c : va_E) : gg (sD σ q c) = gg σ := rfl
theorem gs_g_M (σ : St) (c : va_E) : gg (sM σ c) = gg σ := rfl
theorem gs_g_Y (σ : St) (k : Nat) (v : Int32) : gg (sY σ k v) = gg σ := rfl
theorem gs_g_C (σ : St) (k : Nat) (f : Nat → Int32) : gg (sC σ k f) = gg σ := rfl
theorem gs_g_Q (σ : St) (v : Int64) : gg (sQ σ v) = gg σ := rfl
theorem gs_D_X (σ : St) (k : Nat) (v : Int32) : gD (sX σ k v) = gD σ := rfl
theorem gs_D_A (σ : St) (k : Nat) (f : Nat → Int32) : gD (sA σ k f) = gD σ := rfl
theorem gs_D_B (σ : St) (k i : Nat) (f : Nat → Int32) : gD (sB σ k i f) = gD σ := rfl
theorem gs_D_P (σ : St) (v : Int64) : gD (sP σ v) = gD σ := rfl
theorem gs_D_N (σ : St) (v : Option Nat) : gD (sN σ v) = gD σ := rfl
theorem gs_D_F (σ : St) (v : Nat → Option Nat) : gD (sF σ v) = gD σ := rfl
theorem gs_D_G (σ : St) (v : Nat → Option Nat) : gD (sG σ v) = gD σ := rfl
theorem gs_D_f (σ : St) (v : Nat) : gD (sf σ v) = gD σ := rfl
theorem gs_D_g (σ : St) (v : Nat) : gD (sg σ v) = gD σ := rfl
theorem gs_D_D (σ : St) (q : Nat) (c : va_E) : gD (sD σ q c) = va_up (gD σ) q c := rfl
theorem gs_D_M (σ : St) (c : va_E) : gD (sM σ c) = va_up (gD σ) (185 + gn σ) c := rfl
theorem gs_D_Y (σ : St) (k : Nat) (v : Int32) : gD (sY σ k v) = gD σ := rfl
theorem gs_D_C (σ : St) (k : Nat) (f : Nat → Int32) : gD (sC σ k f) = gD σ := rfl
theorem gs_D_Q (σ : St) (v : Int64) : gD (sQ σ v) = gD σ := rfl
theorem gs_n_X (σ : St) (k : Nat) (v : Int32) : gn (sX σ k v) = gn σ := rfl
theorem gs_n_A (σ : St) (k : Nat) (f : Nat → Int32) : gn (sA σ k f) = gn σ := rfl
theorem gs_n_B (σ : St) (k i : Nat) (f : Nat → Int32) : gn (sB σ k i f) = gn σ := rfl
theorem gs_n_P (σ : St) (v : Int64) : gn (sP σ v) = gn σ := rfl
theorem gs_n_N (σ : St) (v : Option Nat) : gn (sN σ v) = gn σ := rfl
theorem gs_n_F (σ : St) (v : Nat → Option Nat) : gn (sF σ v) = gn σ := rfl
theorem gs_n_G (σ : St) (v : Nat → Option Nat) : gn (sG σ v) = gn σ := rfl
theorem gs_n_f (σ : St) (v : Nat) : gn (sf σ v) = gn σ := rfl
theorem gs_n_g (σ : St) (v : Nat) : gn (sg σ v) = gn σ := rfl
theorem gs_n_D (σ : St) (q : Nat) (c : va_E) : gn (sD σ q c) = gn σ := rfl
theorem gs_n_M (σ : St) (c : va_E) : gn (sM σ c) = gn σ + 1 := rfl
theorem gs_n_Y (σ : St) (k : Nat) (v : Int32) : gn (sY σ k v) = gn σ := rfl
theorem gs_n_C (σ : St) (k : Nat) (f : Nat → Int32) : gn (sC σ k f) = gn σ := rfl
theorem gs_n_Q (σ : St) (v : Int64) : gn (sQ σ v) = gn σ := rfl
theorem gs_Y_X (σ : St) (k : Nat) (v : Int32) (j : Nat) : gY (sX σ k v) j = gY σ j := rfl
theorem gs_Y_A (σ : St) (k : Nat) (f : Nat → Int32) (j : Nat) : gY (sA σ k f) j = gY σ j := rfl
theorem gs_Y_B (σ : St) (k i : Nat) (f : Nat → Int32) (j : Nat) : gY (sB σ k i f) j = gY σ j := rfl
theorem gs_Y_P (σ : St) (v : Int64) (j : Nat) : gY (sP σ v) j = gY σ j := rfl
theorem gs_Y_N (σ : St) (v : Option Nat) (j : Nat) : gY (sN σ v) j = gY σ j := rfl
theorem gs_Y_F (σ : St) (v : Nat → Option Nat) (j : Nat) : gY (sF σ v) j = gY σ j := rfl
theorem gs_Y_G (σ : St) (v : Nat → Option Nat) (j : Nat) : gY (sG σ v) j = gY σ j := rfl
theorem gs_Y_f (σ : St) (v : Nat) (j : Nat) : gY (sf σ v) j = gY σ j := rfl
theorem gs_Y_g (σ : St) (v : Nat) (j : Nat) : gY (sg σ v) j = gY σ j := rfl
theorem gs_Y_D (σ : St) (q : Nat) (c : va_E) (j : Nat) : gY (sD σ q c) j = gY σ j := rfl
theorem gs_Y_M (σ : St) (c : va_E) (j : Nat) : gY (sM σ c) j = gY σ j := rfl
theorem gs_Y_Y (σ : St) (k : Nat) (v : Int32) (j : Nat) : gY (sY σ k v) j = if j = k then v else gY σ j := rfl
theorem gs_Y_C (σ : St) (k : Nat) (f : Nat → Int32) (j : Nat) : gY (sC σ k f) j = gY σ j := rfl
theorem gs_Y_Q (σ : St) (v : Int64) (j : Nat) : gY (sQ σ v) j = gY σ j := rfl
theorem gs_C_X (σ : St) (k : Nat) (v : Int32) (j : Nat) : gC (sX σ k v) j = gC σ j := rfl
theorem gs_C_A (σ : St) (k : Nat) (f : Nat → Int32) (j : Nat) : gC (sA σ k f) j = gC σ j := rfl
theorem gs_C_B (σ : St) (k i : Nat) (f : Nat → Int32) (j : Nat) : gC (sB σ k i f) j = gC σ j := rfl
theorem gs_C_P (σ : St) (v : Int64) (j : Nat) : gC (sP σ v) j = gC σ j := rfl
theorem gs_C_N (σ : St) (v : Option Nat) (j : Nat) : gC (sN σ v) j = gC σ j := rfl
theorem gs_C_F (σ : St) (v : Nat → Option Nat) (j : Nat) : gC (sF σ v) j = gC σ j := rfl
theorem gs_C_G (σ : St) (v : Nat → Option Nat) (j : Nat) : gC (sG σ v) j = gC σ j := rfl
theorem gs_C_f (σ : St) (v : Nat) (j : Nat) : gC (sf σ v) j = gC σ j := rfl
theorem gs_C_g (σ : St) (v : Nat) (j : Nat) : gC (sg σ v) j = gC σ j := rfl
theorem gs_C_D (σ : St) (q : Nat) (c : va_E) (j : Nat) : gC (sD σ q c) j = gC σ j := rfl
theorem gs_C_M (σ : St) (c : va_E) (j : Nat) : gC (sM σ c) j = gC σ j := rfl
theorem gs_C_Y (σ : St) (k : Nat) (v : Int32) (j : Nat) : gC (sY σ k v) j = gC σ j := rfl
theorem gs_C_C (σ : St) (k : Nat) (f : Nat → Int32) (j : Nat) : gC (sC σ k f) j = if j = k then f else gC σ j := rfl
theorem gs_C_Q (σ : St) (v : Int64) (j : Nat) : gC (sQ σ v) j = gC σ j := rfl
theorem gs_Q_X (σ : St) (k : Nat) (v : Int32) : gQ (sX σ k v) = gQ σ := rfl
theorem gs_Q_A (σ : St) (k : Nat) (f : Nat → Int32) : gQ (sA σ k f) = gQ σ := rfl
theorem gs_Q_B (σ : St) (k i : Nat) (f : Nat → Int32) : gQ (sB σ k i f) = gQ σ := rfl
theorem gs_Q_P (σ : St) (v : Int64) : gQ (sP σ v) = gQ σ := rfl
theorem gs_Q_N (σ : St) (v : Option Nat) : gQ (sN σ v) = gQ σ := rfl
theorem gs_Q_F (σ : St) (v : Nat → Option Nat) : gQ (sF σ v) = gQ σ := rfl
theorem gs_Q_G (σ : St) (v : Nat → Option Nat) : gQ (sG σ v) = gQ σ := rfl
theorem gs_Q_f (σ : St) (v : Nat) : gQ (sf σ v) = gQ σ := rfl
theorem gs_Q_g (σ : St) (v : Nat) : gQ (sg σ v) = gQ σ := rfl
theorem gs_Q_D (σ : St) (q : Nat) (c : va_E) : gQ (sD σ q c) = gQ σ := rfl
theorem gs_Q_M (σ : St) (c : va_E) : gQ (sM σ c) = gQ σ := rfl
theorem gs_Q_Y (σ : St) (k : Nat) (v : Int32) : gQ (sY σ k v) = gQ σ := rfl
theorem gs_Q_C (σ : St) (k : Nat) (f : Nat → Int32) : gQ (sC σ k f) = gQ σ := rfl
theorem gs_Q_Q (σ : St) (v : Int64) : gQ (sQ σ v) = v := rfl
theorem vp_5 {x : Int32} (h1 : 0 ≤ x) (h2 : x < 5) : vp_in x 5 := vp_in_iff.mpr ⟨by have := Int32.le_iff_toInt_le.mp h1; simpa using this, by have := Int32.lt_iff_toInt_lt.mp h2; simpa using this⟩
theorem vp_8 {x : Int32} (h1 : 0 ≤ x) (h2 : x < 8) : vp_in x 8 := vp_in_iff.mpr ⟨by have := Int32.le_iff_toInt_le.mp h1; simpa using this, by have := Int32.lt_iff_toInt_lt.mp h2; simpa using this⟩
theorem vp_12 {x : Int32} (h1 : 0 ≤ x) (h2 : x < 12) : vp_in x 12 := vp_in_iff.mpr ⟨by have := Int32.le_iff_toInt_le.mp h1; simpa using this, by have := Int32.lt_iff_toInt_lt.mp h2; simpa using this⟩
theorem vp_13 {x : Int32} (h1 : 0 ≤ x) (h2 : x < 13) : vp_in x 13 := vp_in_iff.mpr ⟨by have := Int32.le_iff_toInt_le.mp h1; simpa using this, by have := Int32.lt_iff_toInt_lt.mp h2; simpa using this⟩
theorem vp_20 {x : Int32} (h1 : 0 ≤ x) (h2 : x < 20) : vp_in x 20 := vp_in_iff.mpr ⟨by have := Int32.le_iff_toInt_le.mp h1; simpa using this, by have := Int32.lt_iff_toInt_lt.mp h2; simpa using this⟩
theorem vp_21 {x : Int32} (h1 : 0 ≤ x) (h2 : x < 21) : vp_in x 21 := vp_in_iff.mpr ⟨by have := Int32.le_iff_toInt_le.mp h1; simpa using this, by have := Int32.lt_iff_toInt_lt.mp h2; simpa using this⟩
theorem vp_24 {x : Int32} (h1 : 0 ≤ x) (h2 : x < 24) : vp_in x 24 := vp_in_iff.mpr ⟨by have := Int32.le_iff_toInt_le.mp h1; simpa using this, by have := Int32.lt_iff_toInt_lt.mp h2; simpa using this⟩
theorem vp_30 {x : Int32} (h1 : 0 ≤ x) (h2 : x < 30) : vp_in x 30 := vp_in_iff.mpr ⟨by have := Int32.le_iff_toInt_le.mp h1; simpa using this, by have := Int32.lt_iff_toInt_lt.mp h2; simpa using this⟩
theorem vp_31 {x : Int32} (h1 : 0 ≤ x) (h2 : x < 31) : vp_in x 31 := vp_in_iff.mpr ⟨by have := Int32.le_iff_toInt_le.mp h1; simpa using this, by have := Int32.lt_iff_toInt_lt.mp h2; simpa using this⟩
theorem vp_60 {x : Int32} (h1 : 0 ≤ x) (h2 : x < 60) : vp_in x 60 := vp_in_iff.mpr ⟨by have := Int32.le_iff_toInt_le.mp h1; simpa using this, by have := Int32.lt_iff_toInt_lt.mp h2; simpa using this⟩
theorem vp_61 {x : Int32} (h1 : 0 ≤ x) (h2 : x < 61) : vp_in x 61 := vp_in_iff.mpr ⟨by have := Int32.le_iff_toInt_le.mp h1; simpa using this, by have := Int32.lt_iff_toInt_lt.mp h2; simpa using this⟩
theorem vp_96 {x : Int32} (h1 : 0 ≤ x) (h2 : x < 96) : vp_in x 96 := vp_in_iff.mpr ⟨by have := Int32.le_iff_toInt_le.mp h1; simpa using this, by have := Int32.lt_iff_toInt_lt.mp h2; simpa using this⟩
theorem vp_120 {x : Int32} (h1 : 0 ≤ x) (h2 : x < 120) : vp_in x 120 := vp_in_iff.mpr ⟨by have := Int32.le_iff_toInt_le.mp h1; simpa using this, by have := Int32.lt_iff_toInt_lt.mp h2; simpa using this⟩
theorem vp_121 {x : Int32} (h1 : 0 ≤ x) (h2 : x < 121) : vp_in x 121 := vp_in_iff.mpr ⟨by have := Int32.le_iff_toInt_le.mp h1; simpa using this, by have := Int32.lt_iff_toInt_lt.mp h2; simpa using this⟩
theorem vp_122 {x : Int32} (h1 : 0 ≤ x) (h2 : x < 122) : vp_in x 122 := vp_in_iff.mpr ⟨by have := Int32.le_iff_toInt_le.mp h1; simpa using this, by have := Int32.lt_iff_toInt_lt.mp h2; simpa using this⟩
theorem vp_130 {x : Int32} (h1 : 0 ≤ x) (h2 : x < 130) : vp_in x 130 := vp_in_iff.mpr ⟨by have := Int32.le_iff_toInt_le.mp h1; simpa using this, by have := Int32.lt_iff_toInt_lt.mp h2; simpa using this⟩
theorem vp_200 {x : Int32} (h1 : 0 ≤ x) (h2 : x < 200) : vp_in x 200 := vp_in_iff.mpr ⟨by have := Int32.le_iff_toInt_le.mp h1; simpa using this, by have := Int32.lt_iff_toInt_lt.mp h2; simpa using this⟩
theorem vp_480 {x : Int32} (h1 : 0 ≤ x) (h2 : x < 480) : vp_in x 480 := vp_in_iff.mpr ⟨by have := Int32.le_iff_toInt_le.mp h1; simpa using this, by have := Int32.lt_iff_toInt_lt.mp h2; simpa using this⟩
theorem vp_600 {x : Int32} (h1 : 0 ≤ x) (h2 : x < 600) : vp_in x 600 := vp_in_iff.mpr ⟨by have := Int32.le_iff_toInt_le.mp h1; simpa using this, by have := Int32.lt_iff_toInt_lt.mp h2; simpa using this⟩
theorem vp_620 {x : Int32} (h1 : 0 ≤ x) (h2 : x < 620) : vp_in x 620 := vp_in_iff.mpr ⟨by have := Int32.le_iff_toInt_le.mp h1; simpa using this, by have := Int32.lt_iff_toInt_lt.mp h2; simpa using this⟩
theorem vp_961 {x : Int32} (h1 : 0 ≤ x) (h2 : x < 961) : vp_in x 961 := vp_in_iff.mpr ⟨by have := Int32.le_iff_toInt_le.mp h1; simpa using this, by have := Int32.lt_iff_toInt_lt.mp h2; simpa using this⟩
theorem vp_1220 {x : Int32} (h1 : 0 ≤ x) (h2 : x < 1220) : vp_in x 1220 := vp_in_iff.mpr ⟨by have := Int32.le_iff_toInt_le.mp h1; simpa using this, by have := Int32.lt_iff_toInt_lt.mp h2; simpa using this⟩
theorem vp_1770 {x : Int32} (h1 : 0 ≤ x) (h2 : x < 1770) : vp_in x 1770 := vp_in_iff.mpr ⟨by have := Int32.le_iff_toInt_le.mp h1; simpa using this, by have := Int32.lt_iff_toInt_lt.mp h2; simpa using this⟩
theorem vp_3600 {x : Int32} (h1 : 0 ≤ x) (h2 : x < 3600) : vp_in x 3600 := vp_in_iff.mpr ⟨by have := Int32.le_iff_toInt_le.mp h1; simpa using this, by have := Int32.lt_iff_toInt_lt.mp h2; simpa using this⟩
theorem vp_5082 {x : Int32} (h1 : 0 ≤ x) (h2 : x < 5082) : vp_in x 5082 := vp_in_iff.mpr ⟨by have := Int32.le_iff_toInt_le.mp h1; simpa using this, by have := Int32.lt_iff_toInt_lt.mp h2; simpa using this⟩
theorem bq_t {c A B : Prop} (h : c) (k : A) : (c → A) ∧ (¬ c → B) := ⟨fun _ => k, fun n => absurd h n⟩
theorem bq_f {c A B : Prop} (h : ¬ c) (k : B) : (c → A) ∧ (¬ c → B) := ⟨fun n => absurd n h, fun _ => k⟩
theorem bq_tn {c A B : Prop} (h : c) (k : B) : (¬ c → A) ∧ (c → B) := ⟨fun n => absurd h n, fun _ => k⟩
theorem bq_fn {c A B : Prop} (h : ¬ c) (k : A) : (¬ c → A) ∧ (c → B) := ⟨fun _ => k, fun n => absurd n h⟩
theorem bq_s {c A B : Prop} (a : c → A) (b : ¬ c → B) : (c → A) ∧ (¬ c → B) := ⟨a, b⟩
theorem bq_sn {c A B : Prop} (a : ¬ c → A) (b : c → B) : (¬ c → A) ∧ (c → B) := ⟨a, b⟩
theorem ti_add {x y : Int32} (h1 : -2147483648 ≤ x.toInt + y.toInt) (h2 : x.toInt + y.toInt < 2147483648) : (x + y).toInt = x.toInt + y.toInt := by
  rw [Int32.toInt_add]
  exact Int.bmod_eq_of_le (by omega) (by omega)
theorem ti_sub {x y : Int32} (h1 : -2147483648 ≤ x.toInt - y.toInt) (h2 : x.toInt - y.toInt < 2147483648) : (x - y).toInt = x.toInt - y.toInt := by
  rw [Int32.toInt_sub]
  exact Int.bmod_eq_of_le (by omega) (by omega)
theorem ti_mul {x y : Int32} (h1 : -2147483648 ≤ x.toInt * y.toInt) (h2 : x.toInt * y.toInt < 2147483648) : (x * y).toInt = x.toInt * y.toInt := by
  rw [Int32.toInt_mul]
  exact Int.bmod_eq_of_le (by omega) (by omega)
theorem ti_N (x : Int32) : x.toNatClampNeg = x.toInt.toNat := rfl
theorem ti_nonneg {x : Int32} (h : 0 ≤ x) : 0 ≤ x.toInt := by have := Int32.le_iff_toInt_le.mp h; simpa using this
theorem nI_mul (a b : Nat) : nI a * nI b = nI (a * b) := (Int32.ofNat_mul a b).symm
theorem nI_ex {x : Int32} {n : Nat} (h1 : 0 ≤ x.toInt) (h2 : x.toInt < n) : ∃ k : Nat, k < n ∧ x = nI k ∧ x.toNatClampNeg = k := by
  refine ⟨x.toNatClampNeg, by rw [ti_N]; omega, ?_, rfl⟩
  apply Int32.toInt_inj.mp
  rw [nI_toInt (by rw [ti_N]; have := Int32.toInt_lt x; omega), ti_N]
  omega
/-! the relation -/
def FAR : Int32 := 1000000000
/-- the letters of words f .. f + k - 1 and of the gaps between them -/
def ln (L : Nat → Int32) (f : Nat) : Nat → Int32
  | 0 => -1
  | k + 1 => ln L f k + (1 + L (f + k))
/-- what it costs that the line from f ends before t, the others as r says -/
def cand (L : Nat → Int32) (m : Nat) (W : Int32) (r : Nat → Int32) (f t : Nat) : Int32 :=
  if W < ln L f (t - f) then FAR else if FAR ≤ r t then FAR else (if t = m then 0 else (W - ln L f (t - f)) * (W - ln L f (t - f))) + r t
/-- the least of g (f + 1) .. g (f + k) -/
def lm (g : Nat → Int32) (f : Nat) : Nat → Int32
  | 0 => FAR
  | k + 1 => if g (f + k + 1) < lm g f k then g (f + k + 1) else lm g f k
/-- the least cost of the words from f on, in n lines -/
def lc (L : Nat → Int32) (m : Nat) (W : Int32) : Nat → Nat → Int32
  | 0, f => if f = m then 0 else FAR
  | n + 1, f => lm (cand L m W (lc L m W n) f) f (m - f)
/-- a name as a number -/
def nm (g : Nat → Int32) : Nat → Int64
  | 0 => 0
  | k + 1 => nm g k * 27 + (g k - 97 + 1).toInt64
def dst (D : Nat → va_E) (g : Nat) : St := ((fun _ => 0, fun _ _ => 0, fun _ _ _ => 0, 0, none, fun _ => none, fun _ => none, 0, 0, D, g), (fun _ => 0, fun _ _ => 0, 0))
def M0 (A0 C0 : Nat → Int32) (x0 x2 x3 y0 y7 y8 : Int32) : Prop := A0 = C0 ∧ x0 = y0 ∧ (0 ≤ x0 ∧ x0 ≤ 200) ∧ x2 = y7 ∧ x3 = y8 ∧ ∀ i, ¬ A0 i = -1
def R0 (σ : St) : Prop := M0 (gA σ 0) (gC σ 0) (gX σ 0) (gX σ 2) (gX σ 3) (gY σ 0) (gY σ 7) (gY σ 8)
def M1 (x4 x5 x6 x7 x8 y1 y2 y3 y4 y5 : Int32) (A1 A2 A3 C1 C2 C3 : Nat → Int32) (B0 B1 : Nat → Nat → Int32) : Prop :=
  (x4 = y1 ∧ 0 ≤ x4 ∧ x4 ≤ 20) ∧ (x5 = y2 ∧ 10 ≤ x5 ∧ x5 ≤ 60) ∧ (x6 = y3 ∧ 5 ≤ x6 ∧ x6 ≤ 40) ∧ (x7 = y4 ∧ 0 ≤ x7 ∧ x7 ≤ 100000) ∧ (x8 = y5 ∧ 0 ≤ x8 ∧ x8 ≤ 100000) ∧
  (A1 = C1 ∧ ∀ p, p < 20 → -1 ≤ A1 p ∧ A1 p ≤ 100000) ∧ (A2 = C2 ∧ ∀ p, p < 20 → 0 ≤ A2 p ∧ A2 p ≤ 30) ∧
  (∀ p k, p < 20 → k < 30 → C3 (30 * p + k) = B0 p k) ∧ (∀ p k, p < 20 → k < (A2 p).toNatClampNeg → 1 ≤ B0 p k ∧ B0 p k ≤ 20) ∧
  (∀ p, p < 20 → ¬ A3 p = 0 → ∀ n, n ≤ 30 → B1 p n = if n ≤ (A2 p).toNatClampNeg then lc (B0 p) (A2 p).toNatClampNeg x5 n 0 else FAR)
def R1 (σ : St) : Prop := M1 (gX σ 4) (gX σ 5) (gX σ 6) (gX σ 7) (gX σ 8) (gY σ 1) (gY σ 2) (gY σ 3) (gY σ 4) (gY σ 5) (gA σ 1) (gA σ 2) (gA σ 3) (gC σ 1) (gC σ 2) (gC σ 3) (gB σ 0) (gB σ 1)
def M2 (x11 x12 y6 : Int32) (A6 A7 A8 C7 C8 C9 C10 C11 C12 C13 : Nat → Int32) (B4 : Nat → Nat → Int32) : Prop :=
  (x11 = y6 ∧ 0 ≤ x11 ∧ x11 ≤ 20) ∧ (0 ≤ x12 ∧ x12 ≤ 120) ∧
  (∀ p, p < x11.toNatClampNeg → B4 p 0 = C7 p ∧ (C7 p = 0 ∨ C7 p = 1) ∧ B4 p 1 = C8 p ∧ B4 p 2 = C9 p ∧ B4 p 3 = C10 p) ∧
  ((x11 = 0 ∧ x12 = 0) ∨ (¬ x11 = 0 ∧ ∀ i, i < 120 → (x12.toNatClampNeg ≤ i → C11 i = -1) ∧ (i < x12.toNatClampNeg → A6 i = C11 i ∧ (C11 i = -1 → A7 i = -1 ∧ A8 i = -1) ∧ (¬ C11 i = -1 → A7 i = C12 i ∧ A8 i = C13 i))))
def R2 (σ : St) : Prop := M2 (gX σ 11) (gX σ 12) (gY σ 6) (gA σ 6) (gA σ 7) (gA σ 8) (gC σ 7) (gC σ 8) (gC σ 9) (gC σ 10) (gC σ 11) (gC σ 12) (gC σ 13) (gB σ 4)
def M3 (A9 A10 C21 C27 : Nat → Int32) (x13 x14 y14 : Int32) : Prop :=
  A9 = C21 ∧ (∀ p, p < 24 → 0 ≤ A9 p ∧ A9 p ≤ 3) ∧ (0 ≤ x13 ∧ x13 ≤ 24) ∧ x14 = y14 ∧ (0 ≤ x14 ∧ x14 ≤ 20000) ∧
  (∀ p, p < 24 → (p < x13.toNatClampNeg → C27 p = A10 p ∧ 0 ≤ A10 p ∧ A10 p ≤ 30000) ∧ (x13.toNatClampNeg ≤ p → C27 p = -1))
def R3 (σ : St) : Prop := M3 (gA σ 9) (gA σ 10) (gC σ 21) (gC σ 27) (gX σ 13) (gX σ 14) (gY σ 14)
def NN (v : Int64) (g : Nat → Int32) (z : Int32) : Prop := v = nm g z.toNatClampNeg ∧ (1 ≤ z ∧ z ≤ 10) ∧ ∀ k, k < z.toNatClampNeg → 97 ≤ g k ∧ g k ≤ 122
def NF (δ : St) (q i : Nat) (C14 C15 C16 C17 C18 C19 C20 : Nat → Int32) : Prop :=
  NN (fL δ q 0) (fun k => C14 (20 * i + k)) (C15 (2 * i)) ∧ fI δ q 1 = C16 i ∧ (0 ≤ C16 i ∧ C16 i ≤ 2) ∧ (C16 i = 2 → NN (fL δ q 2) (fun k => C14 (20 * i + 10 + k)) (C15 (2 * i + 1))) ∧
  fI δ q 3 = C17 i ∧ fI δ q 4 = C18 i ∧ (0 ≤ C18 i ∧ C18 i < 24) ∧ fI δ q 5 = C19 i ∧ (0 ≤ C19 i ∧ C19 i ≤ 3) ∧ fI δ q 6 = C20 i
def M4 (x15 x16 y11 y12 : Int32) (A11 A12 C14 C15 C16 C17 C18 C19 C20 C22 : Nat → Int32) (F : Nat → Option Nat) (f0 : Nat) (δ : St) : Prop :=
  (x15 = y11 ∧ 0 ≤ x15 ∧ x15 ≤ 60) ∧ (x16 = y12 ∧ 0 ≤ x16 ∧ x16 ≤ 1770) ∧ (∀ k, k < 1770 → C22 (2 * k) = A11 k ∧ C22 (2 * k + 1) = A12 k) ∧
  (isFa δ f0 ∧ fI δ f0 6 = -1) ∧ (∀ i, i < x15.toNatClampNeg → ∃ q, F i = some q ∧ q ≠ f0 ∧ isFa δ q ∧ NF δ q i C14 C15 C16 C17 C18 C19 C20) ∧
  (∀ i j q, i < x15.toNatClampNeg → j < x15.toNatClampNeg → F i = some q → F j = some q → i = j)
def R4 (σ : St) : Prop := M4 (gX σ 15) (gX σ 16) (gY σ 11) (gY σ 12) (gA σ 11) (gA σ 12) (gC σ 14) (gC σ 15) (gC σ 16) (gC σ 17) (gC σ 18) (gC σ 19) (gC σ 20) (gC σ 22) (gF σ) (gf σ) (dst (gD σ) (gn σ))
def NA (δ : St) (q i : Nat) (C23 C24 C25 C26 : Nat → Int32) : Prop :=
  fI δ q 2 = C24 i ∧ (1 ≤ C24 i ∧ C24 i ≤ 5) ∧ fI δ q 3 = C25 i ∧ (0 ≤ C25 i ∧ C25 i ≤ 9999) ∧ fI δ q 4 = C26 i ∧
  (∀ k, k < (C24 i).toNatClampNeg → fA δ (q + 1) k = C23 (10 * i + 2 * k) ∧ 0 ≤ C23 (10 * i + 2 * k) ∧ C23 (10 * i + 2 * k) ≤ 100) ∧
  (∀ k, k + 1 < (C24 i).toNatClampNeg → fA δ (q + 2) k = C23 (10 * i + 2 * k + 1) ∧ 1 ≤ C23 (10 * i + 2 * k + 1) ∧ C23 (10 * i + 2 * k + 1) ≤ 99999) ∧
  (∀ k, k + 2 < (C24 i).toNatClampNeg → C23 (10 * i + 2 * k + 1) < C23 (10 * i + 2 * k + 3))
def M5 (x17 y13 : Int32) (C23 C24 C25 C26 : Nat → Int32) (G : Nat → Option Nat) (g0 : Nat) (δ : St) : Prop :=
  (x17 = y13 ∧ 0 ≤ x17 ∧ x17 ≤ 12) ∧ (isAg δ g0 ∧ isA5 δ (g0 + 1) ∧ isA5 δ (g0 + 2)) ∧
  (∀ i, i < x17.toNatClampNeg → ∃ q, G i = some q ∧ q ≠ g0 ∧ (isAg δ q ∧ isA5 δ (q + 1) ∧ isA5 δ (q + 2)) ∧ NA δ q i C23 C24 C25 C26)
def R5 (σ : St) : Prop := M5 (gX σ 17) (gY σ 13) (gC σ 23) (gC σ 24) (gC σ 25) (gC σ 26) (gG σ) (gg σ) (dst (gD σ) (gn σ))
def M6 (n : Nat) (x18 x19 x20 x21 y15 y16 y17 y18 : Int32) (P Q : Int64) (A13 A14 A15 A16 A17 C28 : Nat → Int32) : Prop :=
  (x18 = y15 ∧ 0 ≤ x18 ∧ x18 ≤ 10000) ∧ (x19 = y16 ∧ 0 ≤ x19 ∧ x19 ≤ 10000) ∧ (x20 = y17 ∧ 0 ≤ x20 ∧ x20 ≤ 10000) ∧ (x21 = y18 ∧ 0 ≤ x21 ∧ x21 ≤ x19) ∧ P = Q ∧
  (∀ p e, p < 24 → e < 4 → C28 (20 * p + 5 * e) = A13 (4 * p + e) ∧ C28 (20 * p + 5 * e + 1) = A14 (4 * p + e) ∧ C28 (20 * p + 5 * e + 2) = A15 (4 * p + e) ∧ C28 (20 * p + 5 * e + 3) = A16 (4 * p + e) ∧ C28 (20 * p + 5 * e + 4) = A17 (4 * p + e)) ∧
  (∀ s, s < 96 → (A17 s = 0 ∨ A17 s = 1) ∧ 0 ≤ (A14 s).toInt ∧ 0 ≤ (A15 s).toInt ∧ 0 ≤ (A16 s).toInt ∧ (A14 s).toInt + (A15 s).toInt + (A16 s).toInt ≤ (A13 s).toInt ∧ (A13 s).toInt ≤ 100000 * n)
def R6 (n : Nat) (σ : St) : Prop := M6 n (gX σ 18) (gX σ 19) (gX σ 20) (gX σ 21) (gY σ 15) (gY σ 16) (gY σ 17) (gY σ 18) (gP σ) (gQ σ) (gA σ 13) (gA σ 14) (gA σ 15) (gA σ 16) (gA σ 17) (gC σ 28)
def M7 (x22 y19 : Int32) (A18 A19 C29 C30 : Nat → Int32) : Prop :=
  (x22 = y19 ∧ 0 ≤ x22 ∧ x22 ≤ 8) ∧ A18 = C29 ∧ A19 = C30 ∧ (∀ k, k < 8 → (0 ≤ A18 k ∧ A18 k ≤ 100000) ∧ 0 ≤ A19 k ∧ A19 k ≤ 99)
def R7 (σ : St) : Prop := M7 (gX σ 22) (gY σ 19) (gA σ 18) (gA σ 19) (gC σ 29) (gC σ 30)
def R8 (n : Nat) (σ : St) : Prop := gn σ ≤ 3 * n ∧ ∀ q, xs1 (gD σ q) ≤ 7
/-- after n calls -/
def RR (n : Nat) (σ : St) : Prop := R0 σ ∧ R1 σ ∧ R2 σ ∧ R3 σ ∧ R4 σ ∧ R5 σ ∧ R6 n σ ∧ R7 σ ∧ R8 n σ
theorem M6.succ {n : Nat} {x18 x19 x20 x21 y15 y16 y17 y18 : Int32} {P Q : Int64} {A13 A14 A15 A16 A17 C28 : Nat → Int32} (h : M6 n x18 x19 x20 x21 y15 y16 y17 y18 P Q A13 A14 A15 A16 A17 C28) : M6 (n + 1) x18 x19 x20 x21 y15 y16 y17 y18 P Q A13 A14 A15 A16 A17 C28 := by
  obtain ⟨h1, h2, h3, h4, h5, h6, h7⟩ := h
  refine ⟨h1, h2, h3, h4, h5, h6, fun s hs => ?_⟩
  obtain ⟨a, b, c, d, e, f⟩ := h7 s hs
  exact ⟨a, b, c, d, e, by omega⟩
theorem R6.succ {n : Nat} {σ : St} (h : R6 n σ) : R6 (n + 1) σ := M6.succ h
theorem R8.succ {n : Nat} {σ : St} (h : R8 n σ) : R8 (n + 1) σ := ⟨by have := h.1; omega, h.2⟩
theorem RR.succ {n : Nat} {σ : St} (h : RR n σ) : RR (n + 1) σ := by
  obtain ⟨r0, r1, r2, r3, r4, r5, r6, r7, r8⟩ := h
  exact ⟨r0, r1, r2, r3, r4, r5, r6.succ, r7, r8.succ⟩
/-- an operation: both sides answer alike, and the relation stands -/
def OPI (S : XS) (n : Nat) (σ : St) (Ma Mb : XM) (as : List Value) : Prop := CM S Ma (.ref 0 :: as) (enc σ) (qI fun v τ => CM S Mb (.ref 153 :: as) (enc τ) (qI fun w ρ => v = w ∧ RR (n + 1) ρ))
def OPL (S : XS) (n : Nat) (σ : St) (Ma Mb : XM) (as : List Value) : Prop := CM S Ma (.ref 0 :: as) (enc σ) (qL fun v τ => CM S Mb (.ref 153 :: as) (enc τ) (qL fun w ρ => v = w ∧ RR (n + 1) ρ))
theorem lnb (v : Int32) (h : v = 0 ∨ v = 1) : narrow .boolean (.int v) = .int v := by rcases h with rfl | rfl <;> rfl
