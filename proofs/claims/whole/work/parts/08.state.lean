/-! THE STATE OF CLASS AND REFERENCE, AND ITS CELLS. -/
abbrev SX : Type := (Nat → Int32) × (Nat → Nat → Int32) × (Nat → Nat → Nat → Int32) × Int64 × Option Nat × (Nat → Option Nat) × (Nat → Option Nat) × Nat × Nat × (Nat → va_E) × Nat
abbrev SY : Type := (Nat → Int32) × (Nat → Nat → Int32) × Int64
abbrev St : Type := SX × SY
/-- the class: its numbers, its arrays, its arrays of arrays, the money, the row that is weighed, the two arrays of objects, the two drafts, the objects made, how many came behind the start -/
def gX (σ : St) (k : Nat) : Int32 := σ.1.1 k
def gA (σ : St) (k : Nat) : Nat → Int32 := σ.1.2.1 k
def gB (σ : St) (k i : Nat) : Nat → Int32 := σ.1.2.2.1 k i
def gP (σ : St) : Int64 := σ.1.2.2.2.1
def gN (σ : St) : Option Nat := σ.1.2.2.2.2.1
def gF (σ : St) : Nat → Option Nat := σ.1.2.2.2.2.2.1
def gG (σ : St) : Nat → Option Nat := σ.1.2.2.2.2.2.2.1
def gf (σ : St) : Nat := σ.1.2.2.2.2.2.2.2.1
def gg (σ : St) : Nat := σ.1.2.2.2.2.2.2.2.2.1
def gD (σ : St) : Nat → va_E := σ.1.2.2.2.2.2.2.2.2.2.1
def gn (σ : St) : Nat := σ.1.2.2.2.2.2.2.2.2.2.2
/-- the reference: its numbers, its arrays, its purse -/
def gY (σ : St) (k : Nat) : Int32 := σ.2.1 k
def gC (σ : St) (k : Nat) : Nat → Int32 := σ.2.2.1 k
def gQ (σ : St) : Int64 := σ.2.2.2
def sX (σ : St) (k : Nat) (v : Int32) : St := ((va_up σ.1.1 k v, σ.1.2), σ.2)
def sA (σ : St) (k : Nat) (f : Nat → Int32) : St := ((σ.1.1, va_up σ.1.2.1 k f, σ.1.2.2), σ.2)
def sB (σ : St) (k i : Nat) (f : Nat → Int32) : St := ((σ.1.1, σ.1.2.1, va_up σ.1.2.2.1 k (va_up (σ.1.2.2.1 k) i f), σ.1.2.2.2), σ.2)
def sP (σ : St) (v : Int64) : St := ((σ.1.1, σ.1.2.1, σ.1.2.2.1, v, σ.1.2.2.2.2), σ.2)
def sN (σ : St) (v : Option Nat) : St := ((σ.1.1, σ.1.2.1, σ.1.2.2.1, σ.1.2.2.2.1, v, σ.1.2.2.2.2.2), σ.2)
def sF (σ : St) (v : Nat → Option Nat) : St := ((σ.1.1, σ.1.2.1, σ.1.2.2.1, σ.1.2.2.2.1, σ.1.2.2.2.2.1, v, σ.1.2.2.2.2.2.2), σ.2)
def sG (σ : St) (v : Nat → Option Nat) : St := ((σ.1.1, σ.1.2.1, σ.1.2.2.1, σ.1.2.2.2.1, σ.1.2.2.2.2.1, σ.1.2.2.2.2.2.1, v, σ.1.2.2.2.2.2.2.2), σ.2)
def sf (σ : St) (v : Nat) : St := ((σ.1.1, σ.1.2.1, σ.1.2.2.1, σ.1.2.2.2.1, σ.1.2.2.2.2.1, σ.1.2.2.2.2.2.1, σ.1.2.2.2.2.2.2.1, v, σ.1.2.2.2.2.2.2.2.2), σ.2)
def sg (σ : St) (v : Nat) : St := ((σ.1.1, σ.1.2.1, σ.1.2.2.1, σ.1.2.2.2.1, σ.1.2.2.2.2.1, σ.1.2.2.2.2.2.1, σ.1.2.2.2.2.2.2.1, σ.1.2.2.2.2.2.2.2.1, v, σ.1.2.2.2.2.2.2.2.2.2), σ.2)
def sD (σ : St) (q : Nat) (c : va_E) : St := ((σ.1.1, σ.1.2.1, σ.1.2.2.1, σ.1.2.2.2.1, σ.1.2.2.2.2.1, σ.1.2.2.2.2.2.1, σ.1.2.2.2.2.2.2.1, σ.1.2.2.2.2.2.2.2.1, σ.1.2.2.2.2.2.2.2.2.1, va_up σ.1.2.2.2.2.2.2.2.2.2.1 q c, σ.1.2.2.2.2.2.2.2.2.2.2), σ.2)
/-- one cell more -/
def sM (σ : St) (c : va_E) : St := ((σ.1.1, σ.1.2.1, σ.1.2.2.1, σ.1.2.2.2.1, σ.1.2.2.2.2.1, σ.1.2.2.2.2.2.1, σ.1.2.2.2.2.2.2.1, σ.1.2.2.2.2.2.2.2.1, σ.1.2.2.2.2.2.2.2.2.1, va_up σ.1.2.2.2.2.2.2.2.2.2.1 (185 + gn σ) c, gn σ + 1), σ.2)
def sY (σ : St) (k : Nat) (v : Int32) : St := (σ.1, (va_up σ.2.1 k v, σ.2.2))
def sC (σ : St) (k : Nat) (f : Nat → Int32) : St := (σ.1, (σ.2.1, va_up σ.2.2.1 k f, σ.2.2.2))
def sQ (σ : St) (v : Int64) : St := (σ.1, (σ.2.1, σ.2.2.1, v))
/-- a row of an array of arrays; which row a reference is -/
def xri (n b : Nat) : Nat → Option Nat := fun i => if i < n then some (b + i) else none
def xrw (b : Nat) (r : Option Nat) : Option Nat := r.map (fun p => b + p)
def en0 (σ : St) : XH := [.inr (11, [.ref 1, .ref 3, .ref 82, .ref 131, .ref 134, .ref 139, .ref 144, .ref 150]), .inr (10, [.ref 2, .int (gX σ 0), .int (gX σ 1), .int (gX σ 2), .int (gX σ 3)]), .inl (0, 200, .inl (gA σ 0)), .inr (6, [.ref 4, .ref 5, .ref 6, .ref 27, .ref 48, .ref 49, .int (gX σ 4), .int (gX σ 5), .int (gX σ 6), .int (gX σ 7), .int (gX σ 8)]), .inl (0, 20, .inl (gA σ 1)), .inl (0, 20, .inl (gA σ 2)), .inl (2, 20, .inr (.inr (.inr (.inr (xri 20 7)))))]
def en1 (σ : St) : XH := (List.range 20).map (fun i => (.inl (0, 30, .inl (gB σ 0 i)) : va_E))
def en2 (σ : St) : XH := [.inl (2, 20, .inr (.inr (.inr (.inr (xri 20 28)))))]
def en3 (σ : St) : XH := (List.range 20).map (fun i => (.inl (0, 31, .inl (gB σ 1 i)) : va_E))
def en4 (σ : St) : XH := [.inl (1, 20, .inl (gA σ 3)), .inr (2, [.ref 50, va_rf (xrw 7 (gN σ)), .int (gX σ 9), .int (gX σ 10)]), .inl (2, 31, .inr (.inr (.inr (.inr (xri 31 51)))))]
def en5 (σ : St) : XH := (List.range 31).map (fun i => (.inl (0, 31, .inl (gB σ 2 i)) : va_E))
def en6 (σ : St) : XH := [.inr (8, [.ref 83, .ref 105, .ref 106, .ref 107, .ref 128, .ref 129, .ref 130, .int (gX σ 11), .int (gX σ 12)]), .inl (2, 21, .inr (.inr (.inr (.inr (xri 21 84)))))]
def en7 (σ : St) : XH := (List.range 21).map (fun i => (.inl (0, 121, .inl (gB σ 3 i)) : va_E))
def en8 (σ : St) : XH := [.inl (0, 21, .inl (gA σ 4)), .inl (0, 121, .inl (gA σ 5)), .inl (2, 20, .inr (.inr (.inr (.inr (xri 20 108)))))]
def en9 (σ : St) : XH := (List.range 20).map (fun i => (.inl (0, 4, .inl (gB σ 4 i)) : va_E))
def en10 (σ : St) : XH := [.inl (0, 120, .inl (gA σ 6)), .inl (0, 120, .inl (gA σ 7)), .inl (0, 120, .inl (gA σ 8)), .inr (7, [.ref 132, .ref 133, .int (gX σ 13), .int (gX σ 14)]), .inl (0, 24, .inl (gA σ 9)), .inl (0, 24, .inl (gA σ 10)), .inr (4, [.ref 135, .ref 136, .ref 137, .ref (gf σ), .int (gX σ 15), .int (gX σ 16)]), .inl (3, 60, .inr (.inr (.inr (.inr (gF σ))))), .inl (0, 1770, .inl (gA σ 11)), .inl (0, 1770, .inl (gA σ 12)), gD σ 138, .inr (1, [.ref 140, .ref (gg σ), .int (gX σ 17)]), .inl (4, 12, .inr (.inr (.inr (.inr (gG σ))))), gD σ 141, gD σ 142, gD σ 143, .inr (9, [.ref 145, .ref 146, .ref 147, .ref 148, .ref 149, .int (gX σ 18), .int (gX σ 19), .int (gX σ 20), .int (gX σ 21), .long (gP σ)]), .inl (0, 96, .inl (gA σ 13)), .inl (0, 96, .inl (gA σ 14)), .inl (0, 96, .inl (gA σ 15)), .inl (0, 96, .inl (gA σ 16)), .inl (1, 96, .inl (gA σ 17)), .inr (5, [.ref 151, .ref 152, .int (gX σ 22)]), .inl (0, 8, .inl (gA σ 18)), .inl (0, 8, .inl (gA σ 19)), .inr (12, [.ref 154, .int (gY σ 0), .int (gY σ 1), .ref 155, .ref 156, .ref 157, .int (gY σ 2), .int (gY σ 3), .int (gY σ 4), .int (gY σ 5), .ref 158, .ref 159, .ref 160, .int (gY σ 6), .ref 161, .ref 162, .ref 163, .ref 164, .ref 165, .ref 166, .ref 167, .int (gY σ 7), .int (gY σ 8), .int (gY σ 9), .int (gY σ 10), .int (gY σ 11), .ref 168, .ref 169, .ref 170, .ref 171, .ref 172, .ref 173, .ref 174, .ref 175, .ref 176, .int (gY σ 12), .int (gY σ 13), .ref 177, .ref 178, .ref 179, .ref 180, .int (gY σ 14), .ref 181, .ref 182, .int (gY σ 15), .int (gY σ 16), .int (gY σ 17), .int (gY σ 18), .long (gQ σ), .int (gY σ 19), .ref 183, .ref 184]), .inl (0, 200, .inl (gC σ 0)), .inl (0, 20, .inl (gC σ 1)), .inl (0, 20, .inl (gC σ 2)), .inl (0, 600, .inl (gC σ 3)), .inl (0, 961, .inl (gC σ 4)), .inl (0, 620, .inl (gC σ 5)), .inl (0, 5082, .inl (gC σ 6)), .inl (1, 20, .inl (gC σ 7)), .inl (0, 20, .inl (gC σ 8)), .inl (0, 20, .inl (gC σ 9)), .inl (0, 20, .inl (gC σ 10)), .inl (0, 120, .inl (gC σ 11)), .inl (0, 120, .inl (gC σ 12)), .inl (0, 120, .inl (gC σ 13)), .inl (0, 1220, .inl (gC σ 14)), .inl (0, 122, .inl (gC σ 15)), .inl (0, 61, .inl (gC σ 16)), .inl (0, 61, .inl (gC σ 17)), .inl (0, 61, .inl (gC σ 18)), .inl (0, 61, .inl (gC σ 19)), .inl (0, 61, .inl (gC σ 20)), .inl (0, 24, .inl (gC σ 21)), .inl (0, 3600, .inl (gC σ 22)), .inl (0, 130, .inl (gC σ 23)), .inl (0, 13, .inl (gC σ 24)), .inl (0, 13, .inl (gC σ 25)), .inl (0, 13, .inl (gC σ 26)), .inl (0, 24, .inl (gC σ 27)), .inl (0, 480, .inl (gC σ 28)), .inl (0, 8, .inl (gC σ 29)), .inl (0, 8, .inl (gC σ 30))]
def enc (σ : St) : XH := en0 σ ++ (en1 σ ++ (en2 σ ++ (en3 σ ++ (en4 σ ++ (en5 σ ++ (en6 σ ++ (en7 σ ++ (en8 σ ++ (en9 σ ++ (en10 σ ++ ((List.range (gn σ)).map (fun i => gD σ (185 + i)))))))))))))
set_option maxRecDepth 100000 in
theorem eg_0 (σ : St) : (enc σ)[0]? = some (.inr (11, [.ref 1, .ref 3, .ref 82, .ref 131, .ref 134, .ref 139, .ref 144, .ref 150])) := rfl
set_option maxRecDepth 100000 in
theorem eg_1 (σ : St) : (enc σ)[1]? = some (.inr (10, [.ref 2, .int (gX σ 0), .int (gX σ 1), .int (gX σ 2), .int (gX σ 3)])) := rfl
set_option maxRecDepth 100000 in
theorem eg_2 (σ : St) : (enc σ)[2]? = some (.inl (0, 200, .inl (gA σ 0))) := rfl
set_option maxRecDepth 100000 in
theorem eg_3 (σ : St) : (enc σ)[3]? = some (.inr (6, [.ref 4, .ref 5, .ref 6, .ref 27, .ref 48, .ref 49, .int (gX σ 4), .int (gX σ 5), .int (gX σ 6), .int (gX σ 7), .int (gX σ 8)])) := rfl
set_option maxRecDepth 100000 in
theorem eg_4 (σ : St) : (enc σ)[4]? = some (.inl (0, 20, .inl (gA σ 1))) := rfl
set_option maxRecDepth 100000 in
theorem eg_5 (σ : St) : (enc σ)[5]? = some (.inl (0, 20, .inl (gA σ 2))) := rfl
set_option maxRecDepth 100000 in
theorem eg_6 (σ : St) : (enc σ)[6]? = some (.inl (2, 20, .inr (.inr (.inr (.inr (xri 20 7)))))) := rfl
set_option maxRecDepth 100000 in
theorem eg_27 (σ : St) : (enc σ)[27]? = some (.inl (2, 20, .inr (.inr (.inr (.inr (xri 20 28)))))) := rfl
set_option maxRecDepth 100000 in
theorem eg_48 (σ : St) : (enc σ)[48]? = some (.inl (1, 20, .inl (gA σ 3))) := rfl
set_option maxRecDepth 100000 in
theorem eg_49 (σ : St) : (enc σ)[49]? = some (.inr (2, [.ref 50, va_rf (xrw 7 (gN σ)), .int (gX σ 9), .int (gX σ 10)])) := rfl
set_option maxRecDepth 100000 in
theorem eg_50 (σ : St) : (enc σ)[50]? = some (.inl (2, 31, .inr (.inr (.inr (.inr (xri 31 51)))))) := rfl
set_option maxRecDepth 100000 in
theorem eg_82 (σ : St) : (enc σ)[82]? = some (.inr (8, [.ref 83, .ref 105, .ref 106, .ref 107, .ref 128, .ref 129, .ref 130, .int (gX σ 11), .int (gX σ 12)])) := rfl
set_option maxRecDepth 100000 in
theorem eg_83 (σ : St) : (enc σ)[83]? = some (.inl (2, 21, .inr (.inr (.inr (.inr (xri 21 84)))))) := rfl
set_option maxRecDepth 100000 in
theorem eg_105 (σ : St) : (enc σ)[105]? = some (.inl (0, 21, .inl (gA σ 4))) := rfl
set_option maxRecDepth 100000 in
theorem eg_106 (σ : St) : (enc σ)[106]? = some (.inl (0, 121, .inl (gA σ 5))) := rfl
set_option maxRecDepth 100000 in
theorem eg_107 (σ : St) : (enc σ)[107]? = some (.inl (2, 20, .inr (.inr (.inr (.inr (xri 20 108)))))) := rfl
set_option maxRecDepth 100000 in
theorem eg_128 (σ : St) : (enc σ)[128]? = some (.inl (0, 120, .inl (gA σ 6))) := rfl
set_option maxRecDepth 100000 in
theorem eg_129 (σ : St) : (enc σ)[129]? = some (.inl (0, 120, .inl (gA σ 7))) := rfl
set_option maxRecDepth 100000 in
theorem eg_130 (σ : St) : (enc σ)[130]? = some (.inl (0, 120, .inl (gA σ 8))) := rfl
set_option maxRecDepth 100000 in
theorem eg_131 (σ : St) : (enc σ)[131]? = some (.inr (7, [.ref 132, .ref 133, .int (gX σ 13), .int (gX σ 14)])) := rfl
set_option maxRecDepth 100000 in
theorem eg_132 (σ : St) : (enc σ)[132]? = some (.inl (0, 24, .inl (gA σ 9))) := rfl
set_option maxRecDepth 100000 in
theorem eg_133 (σ : St) : (enc σ)[133]? = some (.inl (0, 24, .inl (gA σ 10))) := rfl
set_option maxRecDepth 100000 in
theorem eg_134 (σ : St) : (enc σ)[134]? = some (.inr (4, [.ref 135, .ref 136, .ref 137, .ref (gf σ), .int (gX σ 15), .int (gX σ 16)])) := rfl
set_option maxRecDepth 100000 in
theorem eg_135 (σ : St) : (enc σ)[135]? = some (.inl (3, 60, .inr (.inr (.inr (.inr (gF σ)))))) := rfl
set_option maxRecDepth 100000 in
theorem eg_136 (σ : St) : (enc σ)[136]? = some (.inl (0, 1770, .inl (gA σ 11))) := rfl
set_option maxRecDepth 100000 in
theorem eg_137 (σ : St) : (enc σ)[137]? = some (.inl (0, 1770, .inl (gA σ 12))) := rfl
set_option maxRecDepth 100000 in
theorem eg_138 (σ : St) : (enc σ)[138]? = some (gD σ 138) := rfl
set_option maxRecDepth 100000 in
theorem eg_139 (σ : St) : (enc σ)[139]? = some (.inr (1, [.ref 140, .ref (gg σ), .int (gX σ 17)])) := rfl
set_option maxRecDepth 100000 in
theorem eg_140 (σ : St) : (enc σ)[140]? = some (.inl (4, 12, .inr (.inr (.inr (.inr (gG σ)))))) := rfl
set_option maxRecDepth 100000 in
theorem eg_141 (σ : St) : (enc σ)[141]? = some (gD σ 141) := rfl
set_option maxRecDepth 100000 in
theorem eg_142 (σ : St) : (enc σ)[142]? = some (gD σ 142) := rfl
set_option maxRecDepth 100000 in
theorem eg_143 (σ : St) : (enc σ)[143]? = some (gD σ 143) := rfl
set_option maxRecDepth 100000 in
theorem eg_144 (σ : St) : (enc σ)[144]? = some (.inr (9, [.ref 145, .ref 146, .ref 147, .ref 148, .ref 149, .int (gX σ 18), .int (gX σ 19), .int (gX σ 20), .int (gX σ 21), .long (gP σ)])) := rfl
set_option maxRecDepth 100000 in
theorem eg_145 (σ : St) : (enc σ)[145]? = some (.inl (0, 96, .inl (gA σ 13))) := rfl
set_option maxRecDepth 100000 in
theorem eg_146 (σ : St) : (enc σ)[146]? = some (.inl (0, 96, .inl (gA σ 14))) := rfl
set_option maxRecDepth 100000 in
theorem eg_147 (σ : St) : (enc σ)[147]? = some (.inl (0, 96, .inl (gA σ 15))) := rfl
set_option maxRecDepth 100000 in
theorem eg_148 (σ : St) : (enc σ)[148]? = some (.inl (0, 96, .inl (gA σ 16))) := rfl
set_option maxRecDepth 100000 in
theorem eg_149 (σ : St) : (enc σ)[149]? = some (.inl (1, 96, .inl (gA σ 17))) := rfl
set_option maxRecDepth 100000 in
theorem eg_150 (σ : St) : (enc σ)[150]? = some (.inr (5, [.ref 151, .ref 152, .int (gX σ 22)])) := rfl
set_option maxRecDepth 100000 in
theorem eg_151 (σ : St) : (enc σ)[151]? = some (.inl (0, 8, .inl (gA σ 18))) := rfl
set_option maxRecDepth 100000 in
theorem eg_152 (σ : St) : (enc σ)[152]? = some (.inl (0, 8, .inl (gA σ 19))) := rfl
set_option maxRecDepth 100000 in
theorem eg_153 (σ : St) : (enc σ)[153]? = some (.inr (12, [.ref 154, .int (gY σ 0), .int (gY σ 1), .ref 155, .ref 156, .ref 157, .int (gY σ 2), .int (gY σ 3), .int (gY σ 4), .int (gY σ 5), .ref 158, .ref 159, .ref 160, .int (gY σ 6), .ref 161, .ref 162, .ref 163, .ref 164, .ref 165, .ref 166, .ref 167, .int (gY σ 7), .int (gY σ 8), .int (gY σ 9), .int (gY σ 10), .int (gY σ 11), .ref 168, .ref 169, .ref 170, .ref 171, .ref 172, .ref 173, .ref 174, .ref 175, .ref 176, .int (gY σ 12), .int (gY σ 13), .ref 177, .ref 178, .ref 179, .ref 180, .int (gY σ 14), .ref 181, .ref 182, .int (gY σ 15), .int (gY σ 16), .int (gY σ 17), .int (gY σ 18), .long (gQ σ), .int (gY σ 19), .ref 183, .ref 184])) := rfl
set_option maxRecDepth 100000 in
theorem eg_154 (σ : St) : (enc σ)[154]? = some (.inl (0, 200, .inl (gC σ 0))) := rfl
set_option maxRecDepth 100000 in
theorem eg_155 (σ : St) : (enc σ)[155]? = some (.inl (0, 20, .inl (gC σ 1))) := rfl
set_option maxRecDepth 100000 in
theorem eg_156 (σ : St) : (enc σ)[156]? = some (.inl (0, 20, .inl (gC σ 2))) := rfl
set_option maxRecDepth 100000 in
theorem eg_157 (σ : St) : (enc σ)[157]? = some (.inl (0, 600, .inl (gC σ 3))) := rfl
set_option maxRecDepth 100000 in
theorem eg_158 (σ : St) : (enc σ)[158]? = some (.inl (0, 961, .inl (gC σ 4))) := rfl
set_option maxRecDepth 100000 in
theorem eg_159 (σ : St) : (enc σ)[159]? = some (.inl (0, 620, .inl (gC σ 5))) := rfl
set_option maxRecDepth 100000 in
theorem eg_160 (σ : St) : (enc σ)[160]? = some (.inl (0, 5082, .inl (gC σ 6))) := rfl
set_option maxRecDepth 100000 in
theorem eg_161 (σ : St) : (enc σ)[161]? = some (.inl (1, 20, .inl (gC σ 7))) := rfl
set_option maxRecDepth 100000 in
theorem eg_162 (σ : St) : (enc σ)[162]? = some (.inl (0, 20, .inl (gC σ 8))) := rfl
set_option maxRecDepth 100000 in
theorem eg_163 (σ : St) : (enc σ)[163]? = some (.inl (0, 20, .inl (gC σ 9))) := rfl
set_option maxRecDepth 100000 in
theorem eg_164 (σ : St) : (enc σ)[164]? = some (.inl (0, 20, .inl (gC σ 10))) := rfl
set_option maxRecDepth 100000 in
theorem eg_165 (σ : St) : (enc σ)[165]? = some (.inl (0, 120, .inl (gC σ 11))) := rfl
set_option maxRecDepth 100000 in
theorem eg_166 (σ : St) : (enc σ)[166]? = some (.inl (0, 120, .inl (gC σ 12))) := rfl
set_option maxRecDepth 100000 in
theorem eg_167 (σ : St) : (enc σ)[167]? = some (.inl (0, 120, .inl (gC σ 13))) := rfl
set_option maxRecDepth 100000 in
theorem eg_168 (σ : St) : (enc σ)[168]? = some (.inl (0, 1220, .inl (gC σ 14))) := rfl
set_option maxRecDepth 100000 in
theorem eg_169 (σ : St) : (enc σ)[169]? = some (.inl (0, 122, .inl (gC σ 15))) := rfl
set_option maxRecDepth 100000 in
theorem eg_170 (σ : St) : (enc σ)[170]? = some (.inl (0, 61, .inl (gC σ 16))) := rfl
set_option maxRecDepth 100000 in
theorem eg_171 (σ : St) : (enc σ)[171]? = some (.inl (0, 61, .inl (gC σ 17))) := rfl
set_option maxRecDepth 100000 in
theorem eg_172 (σ : St) : (enc σ)[172]? = some (.inl (0, 61, .inl (gC σ 18))) := rfl
set_option maxRecDepth 100000 in
theorem eg_173 (σ : St) : (enc σ)[173]? = some (.inl (0, 61, .inl (gC σ 19))) := rfl
set_option maxRecDepth 100000 in
theorem eg_174 (σ : St) : (enc σ)[174]? = some (.inl (0, 61, .inl (gC σ 20))) := rfl
set_option maxRecDepth 100000 in
theorem eg_175 (σ : St) : (enc σ)[175]? = some (.inl (0, 24, .inl (gC σ 21))) := rfl
set_option maxRecDepth 100000 in
theorem eg_176 (σ : St) : (enc σ)[176]? = some (.inl (0, 3600, .inl (gC σ 22))) := rfl
set_option maxRecDepth 100000 in
theorem eg_177 (σ : St) : (enc σ)[177]? = some (.inl (0, 130, .inl (gC σ 23))) := rfl
set_option maxRecDepth 100000 in
theorem eg_178 (σ : St) : (enc σ)[178]? = some (.inl (0, 13, .inl (gC σ 24))) := rfl
set_option maxRecDepth 100000 in
theorem eg_179 (σ : St) : (enc σ)[179]? = some (.inl (0, 13, .inl (gC σ 25))) := rfl
set_option maxRecDepth 100000 in
theorem eg_180 (σ : St) : (enc σ)[180]? = some (.inl (0, 13, .inl (gC σ 26))) := rfl
set_option maxRecDepth 100000 in
theorem eg_181 (σ : St) : (enc σ)[181]? = some (.inl (0, 24, .inl (gC σ 27))) := rfl
set_option maxRecDepth 100000 in
theorem eg_182 (σ : St) : (enc σ)[182]? = some (.inl (0, 480, .inl (gC σ 28))) := rfl
set_option maxRecDepth 100000 in
theorem eg_183 (σ : St) : (enc σ)[183]? = some (.inl (0, 8, .inl (gC σ 29))) := rfl
set_option maxRecDepth 100000 in
theorem eg_184 (σ : St) : (enc σ)[184]? = some (.inl (0, 8, .inl (gC σ 30))) := rfl
set_option maxRecDepth 100000 in
theorem es_1_1 (σ : St) (v : Int32) : (enc σ).set 1 (.inr (10, [.ref 2, .int v, .int (gX σ 1), .int (gX σ 2), .int (gX σ 3)])) = enc (sX σ 0 v) := rfl
set_option maxRecDepth 100000 in
theorem es_1_2 (σ : St) (v : Int32) : (enc σ).set 1 (.inr (10, [.ref 2, .int (gX σ 0), .int v, .int (gX σ 2), .int (gX σ 3)])) = enc (sX σ 1 v) := rfl
set_option maxRecDepth 100000 in
theorem es_1_3 (σ : St) (v : Int32) : (enc σ).set 1 (.inr (10, [.ref 2, .int (gX σ 0), .int (gX σ 1), .int v, .int (gX σ 3)])) = enc (sX σ 2 v) := rfl
set_option maxRecDepth 100000 in
theorem es_1_4 (σ : St) (v : Int32) : (enc σ).set 1 (.inr (10, [.ref 2, .int (gX σ 0), .int (gX σ 1), .int (gX σ 2), .int v])) = enc (sX σ 3 v) := rfl
set_option maxRecDepth 100000 in
theorem es_2 (σ : St) (f : Nat → Int32) : (enc σ).set 2 (.inl (0, 200, .inl f)) = enc (sA σ 0 f) := rfl
set_option maxRecDepth 100000 in
theorem es_3_6 (σ : St) (v : Int32) : (enc σ).set 3 (.inr (6, [.ref 4, .ref 5, .ref 6, .ref 27, .ref 48, .ref 49, .int v, .int (gX σ 5), .int (gX σ 6), .int (gX σ 7), .int (gX σ 8)])) = enc (sX σ 4 v) := rfl
set_option maxRecDepth 100000 in
theorem es_3_7 (σ : St) (v : Int32) : (enc σ).set 3 (.inr (6, [.ref 4, .ref 5, .ref 6, .ref 27, .ref 48, .ref 49, .int (gX σ 4), .int v, .int (gX σ 6), .int (gX σ 7), .int (gX σ 8)])) = enc (sX σ 5 v) := rfl
set_option maxRecDepth 100000 in
theorem es_3_8 (σ : St) (v : Int32) : (enc σ).set 3 (.inr (6, [.ref 4, .ref 5, .ref 6, .ref 27, .ref 48, .ref 49, .int (gX σ 4), .int (gX σ 5), .int v, .int (gX σ 7), .int (gX σ 8)])) = enc (sX σ 6 v) := rfl
set_option maxRecDepth 100000 in
theorem es_3_9 (σ : St) (v : Int32) : (enc σ).set 3 (.inr (6, [.ref 4, .ref 5, .ref 6, .ref 27, .ref 48, .ref 49, .int (gX σ 4), .int (gX σ 5), .int (gX σ 6), .int v, .int (gX σ 8)])) = enc (sX σ 7 v) := rfl
set_option maxRecDepth 100000 in
theorem es_3_10 (σ : St) (v : Int32) : (enc σ).set 3 (.inr (6, [.ref 4, .ref 5, .ref 6, .ref 27, .ref 48, .ref 49, .int (gX σ 4), .int (gX σ 5), .int (gX σ 6), .int (gX σ 7), .int v])) = enc (sX σ 8 v) := rfl
set_option maxRecDepth 100000 in
theorem es_4 (σ : St) (f : Nat → Int32) : (enc σ).set 4 (.inl (0, 20, .inl f)) = enc (sA σ 1 f) := rfl
set_option maxRecDepth 100000 in
theorem es_5 (σ : St) (f : Nat → Int32) : (enc σ).set 5 (.inl (0, 20, .inl f)) = enc (sA σ 2 f) := rfl
set_option maxRecDepth 100000 in
theorem es_48 (σ : St) (f : Nat → Int32) : (enc σ).set 48 (.inl (1, 20, .inl f)) = enc (sA σ 3 f) := rfl
set_option maxRecDepth 100000 in
theorem es_49_1 (σ : St) (v : Option Nat) : (enc σ).set 49 (.inr (2, [.ref 50, va_rf (xrw 7 v), .int (gX σ 9), .int (gX σ 10)])) = enc (sN σ v) := rfl
set_option maxRecDepth 100000 in
theorem es_49_2 (σ : St) (v : Int32) : (enc σ).set 49 (.inr (2, [.ref 50, va_rf (xrw 7 (gN σ)), .int v, .int (gX σ 10)])) = enc (sX σ 9 v) := rfl
set_option maxRecDepth 100000 in
theorem es_49_3 (σ : St) (v : Int32) : (enc σ).set 49 (.inr (2, [.ref 50, va_rf (xrw 7 (gN σ)), .int (gX σ 9), .int v])) = enc (sX σ 10 v) := rfl
set_option maxRecDepth 100000 in
theorem es_82_7 (σ : St) (v : Int32) : (enc σ).set 82 (.inr (8, [.ref 83, .ref 105, .ref 106, .ref 107, .ref 128, .ref 129, .ref 130, .int v, .int (gX σ 12)])) = enc (sX σ 11 v) := rfl
set_option maxRecDepth 100000 in
theorem es_82_8 (σ : St) (v : Int32) : (enc σ).set 82 (.inr (8, [.ref 83, .ref 105, .ref 106, .ref 107, .ref 128, .ref 129, .ref 130, .int (gX σ 11), .int v])) = enc (sX σ 12 v) := rfl
set_option maxRecDepth 100000 in
theorem es_105 (σ : St) (f : Nat → Int32) : (enc σ).set 105 (.inl (0, 21, .inl f)) = enc (sA σ 4 f) := rfl
set_option maxRecDepth 100000 in
theorem es_106 (σ : St) (f : Nat → Int32) : (enc σ).set 106 (.inl (0, 121, .inl f)) = enc (sA σ 5 f) := rfl
set_option maxRecDepth 100000 in
theorem es_128 (σ : St) (f : Nat → Int32) : (enc σ).set 128 (.inl (0, 120, .inl f)) = enc (sA σ 6 f) := rfl
set_option maxRecDepth 100000 in
theorem es_129 (σ : St) (f : Nat → Int32) : (enc σ).set 129 (.inl (0, 120, .inl f)) = enc (sA σ 7 f) := rfl
set_option maxRecDepth 100000 in
theorem es_130 (σ : St) (f : Nat → Int32) : (enc σ).set 130 (.inl (0, 120, .inl f)) = enc (sA σ 8 f) := rfl
set_option maxRecDepth 100000 in
theorem es_131_2 (σ : St) (v : Int32) : (enc σ).set 131 (.inr (7, [.ref 132, .ref 133, .int v, .int (gX σ 14)])) = enc (sX σ 13 v) := rfl
set_option maxRecDepth 100000 in
theorem es_131_3 (σ : St) (v : Int32) : (enc σ).set 131 (.inr (7, [.ref 132, .ref 133, .int (gX σ 13), .int v])) = enc (sX σ 14 v) := rfl
set_option maxRecDepth 100000 in
theorem es_132 (σ : St) (f : Nat → Int32) : (enc σ).set 132 (.inl (0, 24, .inl f)) = enc (sA σ 9 f) := rfl
set_option maxRecDepth 100000 in
theorem es_133 (σ : St) (f : Nat → Int32) : (enc σ).set 133 (.inl (0, 24, .inl f)) = enc (sA σ 10 f) := rfl
set_option maxRecDepth 100000 in
theorem es_134_3 (σ : St) (v : Nat) : (enc σ).set 134 (.inr (4, [.ref 135, .ref 136, .ref 137, .ref v, .int (gX σ 15), .int (gX σ 16)])) = enc (sf σ v) := rfl
set_option maxRecDepth 100000 in
theorem es_134_4 (σ : St) (v : Int32) : (enc σ).set 134 (.inr (4, [.ref 135, .ref 136, .ref 137, .ref (gf σ), .int v, .int (gX σ 16)])) = enc (sX σ 15 v) := rfl
set_option maxRecDepth 100000 in
theorem es_134_5 (σ : St) (v : Int32) : (enc σ).set 134 (.inr (4, [.ref 135, .ref 136, .ref 137, .ref (gf σ), .int (gX σ 15), .int v])) = enc (sX σ 16 v) := rfl
set_option maxRecDepth 100000 in
theorem es_135 (σ : St) (f : Nat → Option Nat) : (enc σ).set 135 (.inl (3, 60, .inr (.inr (.inr (.inr f))))) = enc (sF σ f) := rfl
set_option maxRecDepth 100000 in
theorem es_136 (σ : St) (f : Nat → Int32) : (enc σ).set 136 (.inl (0, 1770, .inl f)) = enc (sA σ 11 f) := rfl
set_option maxRecDepth 100000 in
theorem es_137 (σ : St) (f : Nat → Int32) : (enc σ).set 137 (.inl (0, 1770, .inl f)) = enc (sA σ 12 f) := rfl
set_option maxRecDepth 100000 in
theorem es_139_1 (σ : St) (v : Nat) : (enc σ).set 139 (.inr (1, [.ref 140, .ref v, .int (gX σ 17)])) = enc (sg σ v) := rfl
set_option maxRecDepth 100000 in
theorem es_139_2 (σ : St) (v : Int32) : (enc σ).set 139 (.inr (1, [.ref 140, .ref (gg σ), .int v])) = enc (sX σ 17 v) := rfl
set_option maxRecDepth 100000 in
theorem es_140 (σ : St) (f : Nat → Option Nat) : (enc σ).set 140 (.inl (4, 12, .inr (.inr (.inr (.inr f))))) = enc (sG σ f) := rfl
set_option maxRecDepth 100000 in
theorem es_144_5 (σ : St) (v : Int32) : (enc σ).set 144 (.inr (9, [.ref 145, .ref 146, .ref 147, .ref 148, .ref 149, .int v, .int (gX σ 19), .int (gX σ 20), .int (gX σ 21), .long (gP σ)])) = enc (sX σ 18 v) := rfl
set_option maxRecDepth 100000 in
theorem es_144_6 (σ : St) (v : Int32) : (enc σ).set 144 (.inr (9, [.ref 145, .ref 146, .ref 147, .ref 148, .ref 149, .int (gX σ 18), .int v, .int (gX σ 20), .int (gX σ 21), .long (gP σ)])) = enc (sX σ 19 v) := rfl
set_option maxRecDepth 100000 in
theorem es_144_7 (σ : St) (v : Int32) : (enc σ).set 144 (.inr (9, [.ref 145, .ref 146, .ref 147, .ref 148, .ref 149, .int (gX σ 18), .int (gX σ 19), .int v, .int (gX σ 21), .long (gP σ)])) = enc (sX σ 20 v) := rfl
set_option maxRecDepth 100000 in
theorem es_144_8 (σ : St) (v : Int32) : (enc σ).set 144 (.inr (9, [.ref 145, .ref 146, .ref 147, .ref 148, .ref 149, .int (gX σ 18), .int (gX σ 19), .int (gX σ 20), .int v, .long (gP σ)])) = enc (sX σ 21 v) := rfl
set_option maxRecDepth 100000 in
theorem es_144_9 (σ : St) (v : Int64) : (enc σ).set 144 (.inr (9, [.ref 145, .ref 146, .ref 147, .ref 148, .ref 149, .int (gX σ 18), .int (gX σ 19), .int (gX σ 20), .int (gX σ 21), .long v])) = enc (sP σ v) := rfl
set_option maxRecDepth 100000 in
theorem es_145 (σ : St) (f : Nat → Int32) : (enc σ).set 145 (.inl (0, 96, .inl f)) = enc (sA σ 13 f) := rfl
set_option maxRecDepth 100000 in
theorem es_146 (σ : St) (f : Nat → Int32) : (enc σ).set 146 (.inl (0, 96, .inl f)) = enc (sA σ 14 f) := rfl
set_option maxRecDepth 100000 in
theorem es_147 (σ : St) (f : Nat → Int32) : (enc σ).set 147 (.inl (0, 96, .inl f)) = enc (sA σ 15 f) := rfl
set_option maxRecDepth 100000 in
theorem es_148 (σ : St) (f : Nat → Int32) : (enc σ).set 148 (.inl (0, 96, .inl f)) = enc (sA σ 16 f) := rfl
set_option maxRecDepth 100000 in
theorem es_149 (σ : St) (f : Nat → Int32) : (enc σ).set 149 (.inl (1, 96, .inl f)) = enc (sA σ 17 f) := rfl
set_option maxRecDepth 100000 in
theorem es_150_2 (σ : St) (v : Int32) : (enc σ).set 150 (.inr (5, [.ref 151, .ref 152, .int v])) = enc (sX σ 22 v) := rfl
set_option maxRecDepth 100000 in
theorem es_151 (σ : St) (f : Nat → Int32) : (enc σ).set 151 (.inl (0, 8, .inl f)) = enc (sA σ 18 f) := rfl
set_option maxRecDepth 100000 in
theorem es_152 (σ : St) (f : Nat → Int32) : (enc σ).set 152 (.inl (0, 8, .inl f)) = enc (sA σ 19 f) := rfl
set_option maxRecDepth 100000 in
theorem es_153_1 (σ : St) (v : Int32) : (enc σ).set 153 (.inr (12, [.ref 154, .int v, .int (gY σ 1), .ref 155, .ref 156, .ref 157, .int (gY σ 2), .int (gY σ 3), .int (gY σ 4), .int (gY σ 5), .ref 158, .ref 159, .ref 160, .int (gY σ 6), .ref 161, .ref 162, .ref 163, .ref 164, .ref 165, .ref 166, .ref 167, .int (gY σ 7), .int (gY σ 8), .int (gY σ 9), .int (gY σ 10), .int (gY σ 11), .ref 168, .ref 169, .ref 170, .ref 171, .ref 172, .ref 173, .ref 174, .ref 175, .ref 176, .int (gY σ 12), .int (gY σ 13), .ref 177, .ref 178, .ref 179, .ref 180, .int (gY σ 14), .ref 181, .ref 182, .int (gY σ 15), .int (gY σ 16), .int (gY σ 17), .int (gY σ 18), .long (gQ σ), .int (gY σ 19), .ref 183, .ref 184])) = enc (sY σ 0 v) := rfl
set_option maxRecDepth 100000 in
theorem es_153_2 (σ : St) (v : Int32) : (enc σ).set 153 (.inr (12, [.ref 154, .int (gY σ 0), .int v, .ref 155, .ref 156, .ref 157, .int (gY σ 2), .int (gY σ 3), .int (gY σ 4), .int (gY σ 5), .ref 158, .ref 159, .ref 160, .int (gY σ 6), .ref 161, .ref 162, .ref 163, .ref 164, .ref 165, .ref 166, .ref 167, .int (gY σ 7), .int (gY σ 8), .int (gY σ 9), .int (gY σ 10), .int (gY σ 11), .ref 168, .ref 169, .ref 170, .ref 171, .ref 172, .ref 173, .ref 174, .ref 175, .ref 176, .int (gY σ 12), .int (gY σ 13), .ref 177, .ref 178, .ref 179, .ref 180, .int (gY σ 14), .ref 181, .ref 182, .int (gY σ 15), .int (gY σ 16), .int (gY σ 17), .int (gY σ 18), .long (gQ σ), .int (gY σ 19), .ref 183, .ref 184])) = enc (sY σ 1 v) := rfl
set_option maxRecDepth 100000 in
theorem es_153_6 (σ : St) (v : Int32) : (enc σ).set 153 (.inr (12, [.ref 154, .int (gY σ 0), .int (gY σ 1), .ref 155, .ref 156, .ref 157, .int v, .int (gY σ 3), .int (gY σ 4), .int (gY σ 5), .ref 158, .ref 159, .ref 160, .int (gY σ 6), .ref 161, .ref 162, .ref 163, .ref 164, .ref 165, .ref 166, .ref 167, .int (gY σ 7), .int (gY σ 8), .int (gY σ 9), .int (gY σ 10), .int (gY σ 11), .ref 168, .ref 169, .ref 170, .ref 171, .ref 172, .ref 173, .ref 174, .ref 175, .ref 176, .int (gY σ 12), .int (gY σ 13), .ref 177, .ref 178, .ref 179, .ref 180, .int (gY σ 14), .ref 181, .ref 182, .int (gY σ 15), .int (gY σ 16), .int (gY σ 17), .int (gY σ 18), .long (gQ σ), .int (gY σ 19), .ref 183, .ref 184])) = enc (sY σ 2 v) := rfl
set_option maxRecDepth 100000 in
theorem es_153_7 (σ : St) (v : Int32) : (enc σ).set 153 (.inr (12, [.ref 154, .int (gY σ 0), .int (gY σ 1), .ref 155, .ref 156, .ref 157, .int (gY σ 2), .int v, .int (gY σ 4), .int (gY σ 5), .ref 158, .ref 159, .ref 160, .int (gY σ 6), .ref 161, .ref 162, .ref 163, .ref 164, .ref 165, .ref 166, .ref 167, .int (gY σ 7), .int (gY σ 8), .int (gY σ 9), .int (gY σ 10), .int (gY σ 11), .ref 168, .ref 169, .ref 170, .ref 171, .ref 172, .ref 173, .ref 174, .ref 175, .ref 176, .int (gY σ 12), .int (gY σ 13), .ref 177, .ref 178, .ref 179, .ref 180, .int (gY σ 14), .ref 181, .ref 182, .int (gY σ 15), .int (gY σ 16), .int (gY σ 17), .int (gY σ 18), .long (gQ σ), .int (gY σ 19), .ref 183, .ref 184])) = enc (sY σ 3 v) := rfl
set_option maxRecDepth 100000 in
theorem es_153_8 (σ : St) (v : Int32) : (enc σ).set 153 (.inr (12, [.ref 154, .int (gY σ 0), .int (gY σ 1), .ref 155, .ref 156, .ref 157, .int (gY σ 2), .int (gY σ 3), .int v, .int (gY σ 5), .ref 158, .ref 159, .ref 160, .int (gY σ 6), .ref 161, .ref 162, .ref 163, .ref 164, .ref 165, .ref 166, .ref 167, .int (gY σ 7), .int (gY σ 8), .int (gY σ 9), .int (gY σ 10), .int (gY σ 11), .ref 168, .ref 169, .ref 170, .ref 171, .ref 172, .ref 173, .ref 174, .ref 175, .ref 176, .int (gY σ 12), .int (gY σ 13), .ref 177, .ref 178, .ref 179, .ref 180, .int (gY σ 14), .ref 181, .ref 182, .int (gY σ 15), .int (gY σ 16), .int (gY σ 17), .int (gY σ 18), .long (gQ σ), .int (gY σ 19), .ref 183, .ref 184])) = enc (sY σ 4 v) := rfl
set_option maxRecDepth 100000 in
theorem es_153_9 (σ : St) (v : Int32) : (enc σ).set 153 (.inr (12, [.ref 154, .int (gY σ 0), .int (gY σ 1), .ref 155, .ref 156, .ref 157, .int (gY σ 2), .int (gY σ 3), .int (gY σ 4), .int v, .ref 158, .ref 159, .ref 160, .int (gY σ 6), .ref 161, .ref 162, .ref 163, .ref 164, .ref 165, .ref 166, .ref 167, .int (gY σ 7), .int (gY σ 8), .int (gY σ 9), .int (gY σ 10), .int (gY σ 11), .ref 168, .ref 169, .ref 170, .ref 171, .ref 172, .ref 173, .ref 174, .ref 175, .ref 176, .int (gY σ 12), .int (gY σ 13), .ref 177, .ref 178, .ref 179, .ref 180, .int (gY σ 14), .ref 181, .ref 182, .int (gY σ 15), .int (gY σ 16), .int (gY σ 17), .int (gY σ 18), .long (gQ σ), .int (gY σ 19), .ref 183, .ref 184])) = enc (sY σ 5 v) := rfl
set_option maxRecDepth 100000 in
theorem es_153_13 (σ : St) (v : Int32) : (enc σ).set 153 (.inr (12, [.ref 154, .int (gY σ 0), .int (gY σ 1), .ref 155, .ref 156, .ref 157, .int (gY σ 2), .int (gY σ 3), .int (gY σ 4), .int (gY σ 5), .ref 158, .ref 159, .ref 160, .int v, .ref 161, .ref 162, .ref 163, .ref 164, .ref 165, .ref 166, .ref 167, .int (gY σ 7), .int (gY σ 8), .int (gY σ 9), .int (gY σ 10), .int (gY σ 11), .ref 168, .ref 169, .ref 170, .ref 171, .ref 172, .ref 173, .ref 174, .ref 175, .ref 176, .int (gY σ 12), .int (gY σ 13), .ref 177, .ref 178, .ref 179, .ref 180, .int (gY σ 14), .ref 181, .ref 182, .int (gY σ 15), .int (gY σ 16), .int (gY σ 17), .int (gY σ 18), .long (gQ σ), .int (gY σ 19), .ref 183, .ref 184])) = enc (sY σ 6 v) := rfl
set_option maxRecDepth 100000 in
theorem es_153_21 (σ : St) (v : Int32) : (enc σ).set 153 (.inr (12, [.ref 154, .int (gY σ 0), .int (gY σ 1), .ref 155, .ref 156, .ref 157, .int (gY σ 2), .int (gY σ 3), .int (gY σ 4), .int (gY σ 5), .ref 158, .ref 159, .ref 160, .int (gY σ 6), .ref 161, .ref 162, .ref 163, .ref 164, .ref 165, .ref 166, .ref 167, .int v, .int (gY σ 8), .int (gY σ 9), .int (gY σ 10), .int (gY σ 11), .ref 168, .ref 169, .ref 170, .ref 171, .ref 172, .ref 173, .ref 174, .ref 175, .ref 176, .int (gY σ 12), .int (gY σ 13), .ref 177, .ref 178, .ref 179, .ref 180, .int (gY σ 14), .ref 181, .ref 182, .int (gY σ 15), .int (gY σ 16), .int (gY σ 17), .int (gY σ 18), .long (gQ σ), .int (gY σ 19), .ref 183, .ref 184])) = enc (sY σ 7 v) := rfl
set_option maxRecDepth 100000 in
theorem es_153_22 (σ : St) (v : Int32) : (enc σ).set 153 (.inr (12, [.ref 154, .int (gY σ 0), .int (gY σ 1), .ref 155, .ref 156, .ref 157, .int (gY σ 2), .int (gY σ 3), .int (gY σ 4), .int (gY σ 5), .ref 158, .ref 159, .ref 160, .int (gY σ 6), .ref 161, .ref 162, .ref 163, .ref 164, .ref 165, .ref 166, .ref 167, .int (gY σ 7), .int v, .int (gY σ 9), .int (gY σ 10), .int (gY σ 11), .ref 168, .ref 169, .ref 170, .ref 171, .ref 172, .ref 173, .ref 174, .ref 175, .ref 176, .int (gY σ 12), .int (gY σ 13), .ref 177, .ref 178, .ref 179, .ref 180, .int (gY σ 14), .ref 181, .ref 182, .int (gY σ 15), .int (gY σ 16), .int (gY σ 17), .int (gY σ 18), .long (gQ σ), .int (gY σ 19), .ref 183, .ref 184])) = enc (sY σ 8 v) := rfl
set_option maxRecDepth 100000 in
theorem es_153_23 (σ : St) (v : Int32) : (enc σ).set 153 (.inr (12, [.ref 154, .int (gY σ 0), .int (gY σ 1), .ref 155, .ref 156, .ref 157, .int (gY σ 2), .int (gY σ 3), .int (gY σ 4), .int (gY σ 5), .ref 158, .ref 159, .ref 160, .int (gY σ 6), .ref 161, .ref 162, .ref 163, .ref 164, .ref 165, .ref 166, .ref 167, .int (gY σ 7), .int (gY σ 8), .int v, .int (gY σ 10), .int (gY σ 11), .ref 168, .ref 169, .ref 170, .ref 171, .ref 172, .ref 173, .ref 174, .ref 175, .ref 176, .int (gY σ 12), .int (gY σ 13), .ref 177, .ref 178, .ref 179, .ref 180, .int (gY σ 14), .ref 181, .ref 182, .int (gY σ 15), .int (gY σ 16), .int (gY σ 17), .int (gY σ 18), .long (gQ σ), .int (gY σ 19), .ref 183, .ref 184])) = enc (sY σ 9 v) := rfl
set_option maxRecDepth 100000 in
theorem es_153_24 (σ : St) (v : Int32) : (enc σ).set 153 (.inr (12, [.ref 154, .int (gY σ 0), .int (gY σ 1), .ref 155, .ref 156, .ref 157, .int (gY σ 2), .int (gY σ 3), .int (gY σ 4), .int (gY σ 5), .ref 158, .ref 159, .ref 160, .int (gY σ 6), .ref 161, .ref 162, .ref 163, .ref 164, .ref 165, .ref 166, .ref 167, .int (gY σ 7), .int (gY σ 8), .int (gY σ 9), .int v, .int (gY σ 11), .ref 168, .ref 169, .ref 170, .ref 171, .ref 172, .ref 173, .ref 174, .ref 175, .ref 176, .int (gY σ 12), .int (gY σ 13), .ref 177, .ref 178, .ref 179, .ref 180, .int (gY σ 14), .ref 181, .ref 182, .int (gY σ 15), .int (gY σ 16), .int (gY σ 17), .int (gY σ 18), .long (gQ σ), .int (gY σ 19), .ref 183, .ref 184])) = enc (sY σ 10 v) := rfl
set_option maxRecDepth 100000 in
theorem es_153_25 (σ : St) (v : Int32) : (enc σ).set 153 (.inr (12, [.ref 154, .int (gY σ 0), .int (gY σ 1), .ref 155, .ref 156, .ref 157, .int (gY σ 2), .int (gY σ 3), .int (gY σ 4), .int (gY σ 5), .ref 158, .ref 159, .ref 160, .int (gY σ 6), .ref 161, .ref 162, .ref 163, .ref 164, .ref 165, .ref 166, .ref 167, .int (gY σ 7), .int (gY σ 8), .int (gY σ 9), .int (gY σ 10), .int v, .ref 168, .ref 169, .ref 170, .ref 171, .ref 172, .ref 173, .ref 174, .ref 175, .ref 176, .int (gY σ 12), .int (gY σ 13), .ref 177, .ref 178, .ref 179, .ref 180, .int (gY σ 14), .ref 181, .ref 182, .int (gY σ 15), .int (gY σ 16), .int (gY σ 17), .int (gY σ 18), .long (gQ σ), .int (gY σ 19), .ref 183, .ref 184])) = enc (sY σ 11 v) := rfl
set_option maxRecDepth 100000 in
theorem es_153_35 (σ : St) (v : Int32) : (enc σ).set 153 (.inr (12, [.ref 154, .int (gY σ 0), .int (gY σ 1), .ref 155, .ref 156, .ref 157, .int (gY σ 2), .int (gY σ 3), .int (gY σ 4), .int (gY σ 5), .ref 158, .ref 159, .ref 160, .int (gY σ 6), .ref 161, .ref 162, .ref 163, .ref 164, .ref 165, .ref 166, .ref 167, .int (gY σ 7), .int (gY σ 8), .int (gY σ 9), .int (gY σ 10), .int (gY σ 11), .ref 168, .ref 169, .ref 170, .ref 171, .ref 172, .ref 173, .ref 174, .ref 175, .ref 176, .int v, .int (gY σ 13), .ref 177, .ref 178, .ref 179, .ref 180, .int (gY σ 14), .ref 181, .ref 182, .int (gY σ 15), .int (gY σ 16), .int (gY σ 17), .int (gY σ 18), .long (gQ σ), .int (gY σ 19), .ref 183, .ref 184])) = enc (sY σ 12 v) := rfl
set_option maxRecDepth 100000 in
theorem es_153_36 (σ : St) (v : Int32) : (enc σ).set 153 (.inr (12, [.ref 154, .int (gY σ 0), .int (gY σ 1), .ref 155, .ref 156, .ref 157, .int (gY σ 2), .int (gY σ 3), .int (gY σ 4), .int (gY σ 5), .ref 158, .ref 159, .ref 160, .int (gY σ 6), .ref 161, .ref 162, .ref 163, .ref 164, .ref 165, .ref 166, .ref 167, .int (gY σ 7), .int (gY σ 8), .int (gY σ 9), .int (gY σ 10), .int (gY σ 11), .ref 168, .ref 169, .ref 170, .ref 171, .ref 172, .ref 173, .ref 174, .ref 175, .ref 176, .int (gY σ 12), .int v, .ref 177, .ref 178, .ref 179, .ref 180, .int (gY σ 14), .ref 181, .ref 182, .int (gY σ 15), .int (gY σ 16), .int (gY σ 17), .int (gY σ 18), .long (gQ σ), .int (gY σ 19), .ref 183, .ref 184])) = enc (sY σ 13 v) := rfl
set_option maxRecDepth 100000 in
theorem es_153_41 (σ : St) (v : Int32) : (enc σ).set 153 (.inr (12, [.ref 154, .int (gY σ 0), .int (gY σ 1), .ref 155, .ref 156, .ref 157, .int (gY σ 2), .int (gY σ 3), .int (gY σ 4), .int (gY σ 5), .ref 158, .ref 159, .ref 160, .int (gY σ 6), .ref 161, .ref 162, .ref 163, .ref 164, .ref 165, .ref 166, .ref 167, .int (gY σ 7), .int (gY σ 8), .int (gY σ 9), .int (gY σ 10), .int (gY σ 11), .ref 168, .ref 169, .ref 170, .ref 171, .ref 172, .ref 173, .ref 174, .ref 175, .ref 176, .int (gY σ 12), .int (gY σ 13), .ref 177, .ref 178, .ref 179, .ref 180, .int v, .ref 181, .ref 182, .int (gY σ 15), .int (gY σ 16), .int (gY σ 17), .int (gY σ 18), .long (gQ σ), .int (gY σ 19), .ref 183, .ref 184])) = enc (sY σ 14 v) := rfl
set_option maxRecDepth 100000 in
theorem es_153_44 (σ : St) (v : Int32) : (enc σ).set 153 (.inr (12, [.ref 154, .int (gY σ 0), .int (gY σ 1), .ref 155, .ref 156, .ref 157, .int (gY σ 2), .int (gY σ 3), .int (gY σ 4), .int (gY σ 5), .ref 158, .ref 159, .ref 160, .int (gY σ 6), .ref 161, .ref 162, .ref 163, .ref 164, .ref 165, .ref 166, .ref 167, .int (gY σ 7), .int (gY σ 8), .int (gY σ 9), .int (gY σ 10), .int (gY σ 11), .ref 168, .ref 169, .ref 170, .ref 171, .ref 172, .ref 173, .ref 174, .ref 175, .ref 176, .int (gY σ 12), .int (gY σ 13), .ref 177, .ref 178, .ref 179, .ref 180, .int (gY σ 14), .ref 181, .ref 182, .int v, .int (gY σ 16), .int (gY σ 17), .int (gY σ 18), .long (gQ σ), .int (gY σ 19), .ref 183, .ref 184])) = enc (sY σ 15 v) := rfl
set_option maxRecDepth 100000 in
theorem es_153_45 (σ : St) (v : Int32) : (enc σ).set 153 (.inr (12, [.ref 154, .int (gY σ 0), .int (gY σ 1), .ref 155, .ref 156, .ref 157, .int (gY σ 2), .int (gY σ 3), .int (gY σ 4), .int (gY σ 5), .ref 158, .ref 159, .ref 160, .int (gY σ 6), .ref 161, .ref 162, .ref 163, .ref 164, .ref 165, .ref 166, .ref 167, .int (gY σ 7), .int (gY σ 8), .int (gY σ 9), .int (gY σ 10), .int (gY σ 11), .ref 168, .ref 169, .ref 170, .ref 171, .ref 172, .ref 173, .ref 174, .ref 175, .ref 176, .int (gY σ 12), .int (gY σ 13), .ref 177, .ref 178, .ref 179, .ref 180, .int (gY σ 14), .ref 181, .ref 182, .int (gY σ 15), .int v, .int (gY σ 17), .int (gY σ 18), .long (gQ σ), .int (gY σ 19), .ref 183, .ref 184])) = enc (sY σ 16 v) := rfl
set_option maxRecDepth 100000 in
theorem es_153_46 (σ : St) (v : Int32) : (enc σ).set 153 (.inr (12, [.ref 154, .int (gY σ 0), .int (gY σ 1), .ref 155, .ref 156, .ref 157, .int (gY σ 2), .int (gY σ 3), .int (gY σ 4), .int (gY σ 5), .ref 158, .ref 159, .ref 160, .int (gY σ 6), .ref 161, .ref 162, .ref 163, .ref 164, .ref 165, .ref 166, .ref 167, .int (gY σ 7), .int (gY σ 8), .int (gY σ 9), .int (gY σ 10), .int (gY σ 11), .ref 168, .ref 169, .ref 170, .ref 171, .ref 172, .ref 173, .ref 174, .ref 175, .ref 176, .int (gY σ 12), .int (gY σ 13), .ref 177, .ref 178, .ref 179, .ref 180, .int (gY σ 14), .ref 181, .ref 182, .int (gY σ 15), .int (gY σ 16), .int v, .int (gY σ 18), .long (gQ σ), .int (gY σ 19), .ref 183, .ref 184])) = enc (sY σ 17 v) := rfl
set_option maxRecDepth 100000 in
theorem es_153_47 (σ : St) (v : Int32) : (enc σ).set 153 (.inr (12, [.ref 154, .int (gY σ 0), .int (gY σ 1), .ref 155, .ref 156, .ref 157, .int (gY σ 2), .int (gY σ 3), .int (gY σ 4), .int (gY σ 5), .ref 158, .ref 159, .ref 160, .int (gY σ 6), .ref 161, .ref 162, .ref 163, .ref 164, .ref 165, .ref 166, .ref 167, .int (gY σ 7), .int (gY σ 8), .int (gY σ 9), .int (gY σ 10), .int (gY σ 11), .ref 168, .ref 169, .ref 170, .ref 171, .ref 172, .ref 173, .ref 174, .ref 175, .ref 176, .int (gY σ 12), .int (gY σ 13), .ref 177, .ref 178, .ref 179, .ref 180, .int (gY σ 14), .ref 181, .ref 182, .int (gY σ 15), .int (gY σ 16), .int (gY σ 17), .int v, .long (gQ σ), .int (gY σ 19), .ref 183, .ref 184])) = enc (sY σ 18 v) := rfl
set_option maxRecDepth 100000 in
theorem es_153_48 (σ : St) (v : Int64) : (enc σ).set 153 (.inr (12, [.ref 154, .int (gY σ 0), .int (gY σ 1), .ref 155, .ref 156, .ref 157, .int (gY σ 2), .int (gY σ 3), .int (gY σ 4), .int (gY σ 5), .ref 158, .ref 159, .ref 160, .int (gY σ 6), .ref 161, .ref 162, .ref 163, .ref 164, .ref 165, .ref 166, .ref 167, .int (gY σ 7), .int (gY σ 8), .int (gY σ 9), .int (gY σ 10), .int (gY σ 11), .ref 168, .ref 169, .ref 170, .ref 171, .ref 172, .ref 173, .ref 174, .ref 175, .ref 176, .int (gY σ 12), .int (gY σ 13), .ref 177, .ref 178, .ref 179, .ref 180, .int (gY σ 14), .ref 181, .ref 182, .int (gY σ 15), .int (gY σ 16), .int (gY σ 17), .int (gY σ 18), .long v, .int (gY σ 19), .ref 183, .ref 184])) = enc (sQ σ v) := rfl
set_option maxRecDepth 100000 in
theorem es_153_49 (σ : St) (v : Int32) : (enc σ).set 153 (.inr (12, [.ref 154, .int (gY σ 0), .int (gY σ 1), .ref 155, .ref 156, .ref 157, .int (gY σ 2), .int (gY σ 3), .int (gY σ 4), .int (gY σ 5), .ref 158, .ref 159, .ref 160, .int (gY σ 6), .ref 161, .ref 162, .ref 163, .ref 164, .ref 165, .ref 166, .ref 167, .int (gY σ 7), .int (gY σ 8), .int (gY σ 9), .int (gY σ 10), .int (gY σ 11), .ref 168, .ref 169, .ref 170, .ref 171, .ref 172, .ref 173, .ref 174, .ref 175, .ref 176, .int (gY σ 12), .int (gY σ 13), .ref 177, .ref 178, .ref 179, .ref 180, .int (gY σ 14), .ref 181, .ref 182, .int (gY σ 15), .int (gY σ 16), .int (gY σ 17), .int (gY σ 18), .long (gQ σ), .int v, .ref 183, .ref 184])) = enc (sY σ 19 v) := rfl
set_option maxRecDepth 100000 in
theorem es_154 (σ : St) (f : Nat → Int32) : (enc σ).set 154 (.inl (0, 200, .inl f)) = enc (sC σ 0 f) := rfl
set_option maxRecDepth 100000 in
theorem es_155 (σ : St) (f : Nat → Int32) : (enc σ).set 155 (.inl (0, 20, .inl f)) = enc (sC σ 1 f) := rfl
set_option maxRecDepth 100000 in
theorem es_156 (σ : St) (f : Nat → Int32) : (enc σ).set 156 (.inl (0, 20, .inl f)) = enc (sC σ 2 f) := rfl
set_option maxRecDepth 100000 in
theorem es_157 (σ : St) (f : Nat → Int32) : (enc σ).set 157 (.inl (0, 600, .inl f)) = enc (sC σ 3 f) := rfl
set_option maxRecDepth 100000 in
theorem es_158 (σ : St) (f : Nat → Int32) : (enc σ).set 158 (.inl (0, 961, .inl f)) = enc (sC σ 4 f) := rfl
set_option maxRecDepth 100000 in
theorem es_159 (σ : St) (f : Nat → Int32) : (enc σ).set 159 (.inl (0, 620, .inl f)) = enc (sC σ 5 f) := rfl
set_option maxRecDepth 100000 in
theorem es_160 (σ : St) (f : Nat → Int32) : (enc σ).set 160 (.inl (0, 5082, .inl f)) = enc (sC σ 6 f) := rfl
set_option maxRecDepth 100000 in
theorem es_161 (σ : St) (f : Nat → Int32) : (enc σ).set 161 (.inl (1, 20, .inl f)) = enc (sC σ 7 f) := rfl
set_option maxRecDepth 100000 in
theorem es_162 (σ : St) (f : Nat → Int32) : (enc σ).set 162 (.inl (0, 20, .inl f)) = enc (sC σ 8 f) := rfl
set_option maxRecDepth 100000 in
theorem es_163 (σ : St) (f : Nat → Int32) : (enc σ).set 163 (.inl (0, 20, .inl f)) = enc (sC σ 9 f) := rfl
set_option maxRecDepth 100000 in
theorem es_164 (σ : St) (f : Nat → Int32) : (enc σ).set 164 (.inl (0, 20, .inl f)) = enc (sC σ 10 f) := rfl
set_option maxRecDepth 100000 in
theorem es_165 (σ : St) (f : Nat → Int32) : (enc σ).set 165 (.inl (0, 120, .inl f)) = enc (sC σ 11 f) := rfl
set_option maxRecDepth 100000 in
theorem es_166 (σ : St) (f : Nat → Int32) : (enc σ).set 166 (.inl (0, 120, .inl f)) = enc (sC σ 12 f) := rfl
set_option maxRecDepth 100000 in
theorem es_167 (σ : St) (f : Nat → Int32) : (enc σ).set 167 (.inl (0, 120, .inl f)) = enc (sC σ 13 f) := rfl
set_option maxRecDepth 100000 in
theorem es_168 (σ : St) (f : Nat → Int32) : (enc σ).set 168 (.inl (0, 1220, .inl f)) = enc (sC σ 14 f) := rfl
set_option maxRecDepth 100000 in
theorem es_169 (σ : St) (f : Nat → Int32) : (enc σ).set 169 (.inl (0, 122, .inl f)) = enc (sC σ 15 f) := rfl
set_option maxRecDepth 100000 in
theorem es_170 (σ : St) (f : Nat → Int32) : (enc σ).set 170 (.inl (0, 61, .inl f)) = enc (sC σ 16 f) := rfl
set_option maxRecDepth 100000 in
theorem es_171 (σ : St) (f : Nat → Int32) : (enc σ).set 171 (.inl (0, 61, .inl f)) = enc (sC σ 17 f) := rfl
set_option maxRecDepth 100000 in
theorem es_172 (σ : St) (f : Nat → Int32) : (enc σ).set 172 (.inl (0, 61, .inl f)) = enc (sC σ 18 f) := rfl
set_option maxRecDepth 100000 in
theorem es_173 (σ : St) (f : Nat → Int32) : (enc σ).set 173 (.inl (0, 61, .inl f)) = enc (sC σ 19 f) := rfl
set_option maxRecDepth 100000 in
theorem es_174 (σ : St) (f : Nat → Int32) : (enc σ).set 174 (.inl (0, 61, .inl f)) = enc (sC σ 20 f) := rfl
set_option maxRecDepth 100000 in
theorem es_175 (σ : St) (f : Nat → Int32) : (enc σ).set 175 (.inl (0, 24, .inl f)) = enc (sC σ 21 f) := rfl
set_option maxRecDepth 100000 in
theorem es_176 (σ : St) (f : Nat → Int32) : (enc σ).set 176 (.inl (0, 3600, .inl f)) = enc (sC σ 22 f) := rfl
set_option maxRecDepth 100000 in
theorem es_177 (σ : St) (f : Nat → Int32) : (enc σ).set 177 (.inl (0, 130, .inl f)) = enc (sC σ 23 f) := rfl
set_option maxRecDepth 100000 in
theorem es_178 (σ : St) (f : Nat → Int32) : (enc σ).set 178 (.inl (0, 13, .inl f)) = enc (sC σ 24 f) := rfl
set_option maxRecDepth 100000 in
theorem es_179 (σ : St) (f : Nat → Int32) : (enc σ).set 179 (.inl (0, 13, .inl f)) = enc (sC σ 25 f) := rfl
set_option maxRecDepth 100000 in
theorem es_180 (σ : St) (f : Nat → Int32) : (enc σ).set 180 (.inl (0, 13, .inl f)) = enc (sC σ 26 f) := rfl
set_option maxRecDepth 100000 in
theorem es_181 (σ : St) (f : Nat → Int32) : (enc σ).set 181 (.inl (0, 24, .inl f)) = enc (sC σ 27 f) := rfl
set_option maxRecDepth 100000 in
theorem es_182 (σ : St) (f : Nat → Int32) : (enc σ).set 182 (.inl (0, 480, .inl f)) = enc (sC σ 28 f) := rfl
set_option maxRecDepth 100000 in
theorem es_183 (σ : St) (f : Nat → Int32) : (enc σ).set 183 (.inl (0, 8, .inl f)) = enc (sC σ 29 f) := rfl
set_option maxRecDepth 100000 in
theorem es_184 (σ : St) (f : Nat → Int32) : (enc σ).set 184 (.inl (0, 8, .inl f)) = enc (sC σ 30 f) := rfl
