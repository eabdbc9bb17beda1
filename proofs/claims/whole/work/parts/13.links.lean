/-! WHAT A PROGRAM DECIDES OF THE TABLES: fields, calls, constants. -/
set_option maxRecDepth 100000 in
theorem ok_Ag : xok 0 xR_Ag xT_Ag 5 xY_Ag := ⟨by decide +kernel, by decide +kernel, by decide +kernel⟩
set_option maxRecDepth 100000 in
theorem ok_As : xok 1 xR_As xT_As 3 xY_As := ⟨by decide +kernel, by decide +kernel, by decide +kernel⟩
set_option maxRecDepth 100000 in
theorem ok_Br : xok 2 xR_Br xT_Br 4 xY_Br := ⟨by decide +kernel, by decide +kernel, by decide +kernel⟩
set_option maxRecDepth 100000 in
theorem ok_Fa : xok 3 xR_Fa xT_Fa 7 xY_Fa := ⟨by decide +kernel, by decide +kernel, by decide +kernel⟩
set_option maxRecDepth 100000 in
theorem ok_Fs : xok 4 xR_Fs xT_Fs 6 xY_Fs := ⟨by decide +kernel, by decide +kernel, by decide +kernel⟩
set_option maxRecDepth 100000 in
theorem ok_Fo : xok 5 xR_Fo xT_Fo 3 xY_Fo := ⟨by decide +kernel, by decide +kernel, by decide +kernel⟩
set_option maxRecDepth 100000 in
theorem ok_Mn : xok 6 xR_Mn xT_Mn 11 xY_Mn := ⟨by decide +kernel, by decide +kernel, by decide +kernel⟩
set_option maxRecDepth 100000 in
theorem ok_Pa : xok 7 xR_Pa xT_Pa 4 xY_Pa := ⟨by decide +kernel, by decide +kernel, by decide +kernel⟩
set_option maxRecDepth 100000 in
theorem ok_Se : xok 8 xR_Se xT_Se 9 xY_Se := ⟨by decide +kernel, by decide +kernel, by decide +kernel⟩
set_option maxRecDepth 100000 in
theorem ok_Sh : xok 9 xR_Sh xT_Sh 10 xY_Sh := ⟨by decide +kernel, by decide +kernel, by decide +kernel⟩
set_option maxRecDepth 100000 in
theorem ok_Tp : xok 10 xR_Tp xT_Tp 5 xY_Tp := ⟨by decide +kernel, by decide +kernel, by decide +kernel⟩
set_option maxRecDepth 100000 in
theorem ok_TH : xok 11 xR_TH xT_TH 8 xY_TH := ⟨by decide +kernel, by decide +kernel, by decide +kernel⟩
set_option maxRecDepth 100000 in
theorem ok_Md : xok 12 xR_Md xT_Md 52 xY_Md := ⟨by decide +kernel, by decide +kernel, by decide +kernel⟩
set_option maxRecDepth 100000 in
theorem fl_TH_10 : xFL "TaleHouse" 10 11 0 := ⟨xR_TH, xT_TH, 8, xY_TH, rfl, by decide, gt_in 328 (by decide +kernel) rfl, ok_TH⟩
set_option maxRecDepth 100000 in
theorem fl_TH_19 : xFL "TaleHouse" 19 11 1 := ⟨xR_TH, xT_TH, 8, xY_TH, rfl, by decide, gt_in 329 (by decide +kernel) rfl, ok_TH⟩
set_option maxRecDepth 100000 in
theorem fl_TH_26 : xFL "TaleHouse" 26 11 2 := ⟨xR_TH, xT_TH, 8, xY_TH, rfl, by decide, gt_in 330 (by decide +kernel) rfl, ok_TH⟩
set_option maxRecDepth 100000 in
theorem fl_TH_33 : xFL "TaleHouse" 33 11 3 := ⟨xR_TH, xT_TH, 8, xY_TH, rfl, by decide, gt_in 331 (by decide +kernel) rfl, ok_TH⟩
set_option maxRecDepth 100000 in
theorem fl_TH_40 : xFL "TaleHouse" 40 11 4 := ⟨xR_TH, xT_TH, 8, xY_TH, rfl, by decide, gt_in 332 (by decide +kernel) rfl, ok_TH⟩
set_option maxRecDepth 100000 in
theorem fl_TH_47 : xFL "TaleHouse" 47 11 5 := ⟨xR_TH, xT_TH, 8, xY_TH, rfl, by decide, gt_in 333 (by decide +kernel) rfl, ok_TH⟩
set_option maxRecDepth 100000 in
theorem fl_TH_54 : xFL "TaleHouse" 54 11 6 := ⟨xR_TH, xT_TH, 8, xY_TH, rfl, by decide, gt_in 334 (by decide +kernel) rfl, ok_TH⟩
set_option maxRecDepth 100000 in
theorem fl_TH_61 : xFL "TaleHouse" 61 11 7 := ⟨xR_TH, xT_TH, 8, xY_TH, rfl, by decide, gt_in 335 (by decide +kernel) rfl, ok_TH⟩
set_option maxRecDepth 100000 in
theorem fl_Ag_9 : xFL "TaleHouse$Agreement" 9 0 0 := ⟨xR_Ag, xT_Ag, 5, xY_Ag, rfl, by decide, gt_in 243 (by decide +kernel) rfl, ok_Ag⟩
set_option maxRecDepth 100000 in
theorem fl_Ag_13 : xFL "TaleHouse$Agreement" 13 0 1 := ⟨xR_Ag, xT_Ag, 5, xY_Ag, rfl, by decide, gt_in 244 (by decide +kernel) rfl, ok_Ag⟩
set_option maxRecDepth 100000 in
theorem fl_Ag_25 : xFL "TaleHouse$Agreement" 25 0 2 := ⟨xR_Ag, xT_Ag, 5, xY_Ag, rfl, by decide, gt_in 245 (by decide +kernel) rfl, ok_Ag⟩
set_option maxRecDepth 100000 in
theorem fl_Ag_45 : xFL "TaleHouse$Agreement" 45 0 3 := ⟨xR_Ag, xT_Ag, 5, xY_Ag, rfl, by decide, gt_in 246 (by decide +kernel) rfl, ok_Ag⟩
set_option maxRecDepth 100000 in
theorem fl_As_13 : xFL "TaleHouse$Agreements" 13 1 0 := ⟨xR_As, xT_As, 3, xY_As, rfl, by decide, gt_in 260 (by decide +kernel) rfl, ok_As⟩
set_option maxRecDepth 100000 in
theorem fl_As_18 : xFL "TaleHouse$Agreements" 18 1 1 := ⟨xR_As, xT_As, 3, xY_As, rfl, by decide, gt_in 261 (by decide +kernel) rfl, ok_As⟩
set_option maxRecDepth 100000 in
theorem fl_As_32 : xFL "TaleHouse$Agreements" 32 1 2 := ⟨xR_As, xT_As, 3, xY_As, rfl, by decide, gt_in 262 (by decide +kernel) rfl, ok_As⟩
set_option maxRecDepth 100000 in
theorem fl_Br_11 : xFL "TaleHouse$Breaks" 11 2 0 := ⟨xR_Br, xT_Br, 4, xY_Br, rfl, by decide, gt_in 69 (by decide +kernel) rfl, ok_Br⟩
set_option maxRecDepth 100000 in
theorem fl_Br_16 : xFL "TaleHouse$Breaks" 16 2 1 := ⟨xR_Br, xT_Br, 4, xY_Br, rfl, by decide, gt_in 70 (by decide +kernel) rfl, ok_Br⟩
set_option maxRecDepth 100000 in
theorem fl_Br_20 : xFL "TaleHouse$Breaks" 20 2 2 := ⟨xR_Br, xT_Br, 4, xY_Br, rfl, by decide, gt_in 71 (by decide +kernel) rfl, ok_Br⟩
set_option maxRecDepth 100000 in
theorem fl_Br_24 : xFL "TaleHouse$Breaks" 24 2 3 := ⟨xR_Br, xT_Br, 4, xY_Br, rfl, by decide, gt_in 72 (by decide +kernel) rfl, ok_Br⟩
set_option maxRecDepth 100000 in
theorem fl_Fa_9 : xFL "TaleHouse$Fact" 9 3 6 := ⟨xR_Fa, xT_Fa, 7, xY_Fa, rfl, by decide, gt_in 194 (by decide +kernel) rfl, ok_Fa⟩
set_option maxRecDepth 100000 in
theorem fl_Fa_24 : xFL "TaleHouse$Fact" 24 3 0 := ⟨xR_Fa, xT_Fa, 7, xY_Fa, rfl, by decide, gt_in 187 (by decide +kernel) rfl, ok_Fa⟩
set_option maxRecDepth 100000 in
theorem fl_Fa_28 : xFL "TaleHouse$Fact" 28 3 2 := ⟨xR_Fa, xT_Fa, 7, xY_Fa, rfl, by decide, gt_in 189 (by decide +kernel) rfl, ok_Fa⟩
set_option maxRecDepth 100000 in
theorem fl_Fa_37 : xFL "TaleHouse$Fact" 37 3 1 := ⟨xR_Fa, xT_Fa, 7, xY_Fa, rfl, by decide, gt_in 188 (by decide +kernel) rfl, ok_Fa⟩
set_option maxRecDepth 100000 in
theorem fl_Fa_55 : xFL "TaleHouse$Fact" 55 3 3 := ⟨xR_Fa, xT_Fa, 7, xY_Fa, rfl, by decide, gt_in 190 (by decide +kernel) rfl, ok_Fa⟩
set_option maxRecDepth 100000 in
theorem fl_Fa_65 : xFL "TaleHouse$Fact" 65 3 5 := ⟨xR_Fa, xT_Fa, 7, xY_Fa, rfl, by decide, gt_in 192 (by decide +kernel) rfl, ok_Fa⟩
set_option maxRecDepth 100000 in
theorem fl_Fs_13 : xFL "TaleHouse$Facts" 13 4 0 := ⟨xR_Fs, xT_Fs, 6, xY_Fs, rfl, by decide, gt_in 211 (by decide +kernel) rfl, ok_Fs⟩
set_option maxRecDepth 100000 in
theorem fl_Fs_17 : xFL "TaleHouse$Facts" 17 4 1 := ⟨xR_Fs, xT_Fs, 6, xY_Fs, rfl, by decide, gt_in 212 (by decide +kernel) rfl, ok_Fs⟩
set_option maxRecDepth 100000 in
theorem fl_Fs_21 : xFL "TaleHouse$Facts" 21 4 2 := ⟨xR_Fs, xT_Fs, 6, xY_Fs, rfl, by decide, gt_in 213 (by decide +kernel) rfl, ok_Fs⟩
set_option maxRecDepth 100000 in
theorem fl_Fs_25 : xFL "TaleHouse$Facts" 25 4 3 := ⟨xR_Fs, xT_Fs, 6, xY_Fs, rfl, by decide, gt_in 214 (by decide +kernel) rfl, ok_Fs⟩
set_option maxRecDepth 100000 in
theorem fl_Fs_39 : xFL "TaleHouse$Facts" 39 4 4 := ⟨xR_Fs, xT_Fs, 6, xY_Fs, rfl, by decide, gt_in 215 (by decide +kernel) rfl, ok_Fs⟩
set_option maxRecDepth 100000 in
theorem fl_Fs_66 : xFL "TaleHouse$Facts" 66 4 5 := ⟨xR_Fs, xT_Fs, 6, xY_Fs, rfl, by decide, gt_in 216 (by decide +kernel) rfl, ok_Fs⟩
set_option maxRecDepth 100000 in
theorem fl_Fo_11 : xFL "TaleHouse$Foretelling" 11 5 0 := ⟨xR_Fo, xT_Fo, 3, xY_Fo, rfl, by decide, gt_in 317 (by decide +kernel) rfl, ok_Fo⟩
set_option maxRecDepth 100000 in
theorem fl_Fo_15 : xFL "TaleHouse$Foretelling" 15 5 1 := ⟨xR_Fo, xT_Fo, 3, xY_Fo, rfl, by decide, gt_in 318 (by decide +kernel) rfl, ok_Fo⟩
set_option maxRecDepth 100000 in
theorem fl_Fo_18 : xFL "TaleHouse$Foretelling" 18 5 2 := ⟨xR_Fo, xT_Fo, 3, xY_Fo, rfl, by decide, gt_in 319 (by decide +kernel) rfl, ok_Fo⟩
set_option maxRecDepth 100000 in
theorem fl_Mn_9 : xFL "TaleHouse$Manuscript" 9 6 0 := ⟨xR_Mn, xT_Mn, 11, xY_Mn, rfl, by decide, gt_in 83 (by decide +kernel) rfl, ok_Mn⟩
set_option maxRecDepth 100000 in
theorem fl_Mn_15 : xFL "TaleHouse$Manuscript" 15 6 1 := ⟨xR_Mn, xT_Mn, 11, xY_Mn, rfl, by decide, gt_in 84 (by decide +kernel) rfl, ok_Mn⟩
set_option maxRecDepth 100000 in
theorem fl_Mn_20 : xFL "TaleHouse$Manuscript" 20 6 2 := ⟨xR_Mn, xT_Mn, 11, xY_Mn, rfl, by decide, gt_in 85 (by decide +kernel) rfl, ok_Mn⟩
set_option maxRecDepth 100000 in
theorem fl_Mn_23 : xFL "TaleHouse$Manuscript" 23 6 3 := ⟨xR_Mn, xT_Mn, 11, xY_Mn, rfl, by decide, gt_in 86 (by decide +kernel) rfl, ok_Mn⟩
set_option maxRecDepth 100000 in
theorem fl_Mn_26 : xFL "TaleHouse$Manuscript" 26 6 4 := ⟨xR_Mn, xT_Mn, 11, xY_Mn, rfl, by decide, gt_in 87 (by decide +kernel) rfl, ok_Mn⟩
set_option maxRecDepth 100000 in
theorem fl_Mn_33 : xFL "TaleHouse$Manuscript" 33 6 5 := ⟨xR_Mn, xT_Mn, 11, xY_Mn, rfl, by decide, gt_in 88 (by decide +kernel) rfl, ok_Mn⟩
set_option maxRecDepth 100000 in
theorem fl_Mn_37 : xFL "TaleHouse$Manuscript" 37 6 7 := ⟨xR_Mn, xT_Mn, 11, xY_Mn, rfl, by decide, gt_in 92 (by decide +kernel) rfl, ok_Mn⟩
set_option maxRecDepth 100000 in
theorem fl_Mn_41 : xFL "TaleHouse$Manuscript" 41 6 8 := ⟨xR_Mn, xT_Mn, 11, xY_Mn, rfl, by decide, gt_in 93 (by decide +kernel) rfl, ok_Mn⟩
set_option maxRecDepth 100000 in
theorem fl_Mn_44 : xFL "TaleHouse$Manuscript" 44 6 9 := ⟨xR_Mn, xT_Mn, 11, xY_Mn, rfl, by decide, gt_in 94 (by decide +kernel) rfl, ok_Mn⟩
set_option maxRecDepth 100000 in
theorem fl_Mn_47 : xFL "TaleHouse$Manuscript" 47 6 10 := ⟨xR_Mn, xT_Mn, 11, xY_Mn, rfl, by decide, gt_in 96 (by decide +kernel) rfl, ok_Mn⟩
set_option maxRecDepth 100000 in
theorem fl_Mn_51 : xFL "TaleHouse$Manuscript" 51 6 6 := ⟨xR_Mn, xT_Mn, 11, xY_Mn, rfl, by decide, gt_in 89 (by decide +kernel) rfl, ok_Mn⟩
set_option maxRecDepth 100000 in
theorem fl_Pa_9 : xFL "TaleHouse$Parts" 9 7 0 := ⟨xR_Pa, xT_Pa, 4, xY_Pa, rfl, by decide, gt_in 161 (by decide +kernel) rfl, ok_Pa⟩
set_option maxRecDepth 100000 in
theorem fl_Pa_15 : xFL "TaleHouse$Parts" 15 7 1 := ⟨xR_Pa, xT_Pa, 4, xY_Pa, rfl, by decide, gt_in 162 (by decide +kernel) rfl, ok_Pa⟩
set_option maxRecDepth 100000 in
theorem fl_Pa_26 : xFL "TaleHouse$Parts" 26 7 2 := ⟨xR_Pa, xT_Pa, 4, xY_Pa, rfl, by decide, gt_in 163 (by decide +kernel) rfl, ok_Pa⟩
set_option maxRecDepth 100000 in
theorem fl_Pa_30 : xFL "TaleHouse$Parts" 30 7 3 := ⟨xR_Pa, xT_Pa, 4, xY_Pa, rfl, by decide, gt_in 164 (by decide +kernel) rfl, ok_Pa⟩
set_option maxRecDepth 100000 in
theorem fl_Se_11 : xFL "TaleHouse$Setting" 11 8 0 := ⟨xR_Se, xT_Se, 9, xY_Se, rfl, by decide, gt_in 127 (by decide +kernel) rfl, ok_Se⟩
set_option maxRecDepth 100000 in
theorem fl_Se_16 : xFL "TaleHouse$Setting" 16 8 1 := ⟨xR_Se, xT_Se, 9, xY_Se, rfl, by decide, gt_in 128 (by decide +kernel) rfl, ok_Se⟩
set_option maxRecDepth 100000 in
theorem fl_Se_20 : xFL "TaleHouse$Setting" 20 8 2 := ⟨xR_Se, xT_Se, 9, xY_Se, rfl, by decide, gt_in 129 (by decide +kernel) rfl, ok_Se⟩
set_option maxRecDepth 100000 in
theorem fl_Se_23 : xFL "TaleHouse$Setting" 23 8 3 := ⟨xR_Se, xT_Se, 9, xY_Se, rfl, by decide, gt_in 130 (by decide +kernel) rfl, ok_Se⟩
set_option maxRecDepth 100000 in
theorem fl_Se_26 : xFL "TaleHouse$Setting" 26 8 4 := ⟨xR_Se, xT_Se, 9, xY_Se, rfl, by decide, gt_in 131 (by decide +kernel) rfl, ok_Se⟩
set_option maxRecDepth 100000 in
theorem fl_Se_29 : xFL "TaleHouse$Setting" 29 8 5 := ⟨xR_Se, xT_Se, 9, xY_Se, rfl, by decide, gt_in 132 (by decide +kernel) rfl, ok_Se⟩
set_option maxRecDepth 100000 in
theorem fl_Se_32 : xFL "TaleHouse$Setting" 32 8 6 := ⟨xR_Se, xT_Se, 9, xY_Se, rfl, by decide, gt_in 133 (by decide +kernel) rfl, ok_Se⟩
set_option maxRecDepth 100000 in
theorem fl_Se_60 : xFL "TaleHouse$Setting" 60 8 7 := ⟨xR_Se, xT_Se, 9, xY_Se, rfl, by decide, gt_in 134 (by decide +kernel) rfl, ok_Se⟩
set_option maxRecDepth 100000 in
theorem fl_Se_82 : xFL "TaleHouse$Setting" 82 8 8 := ⟨xR_Se, xT_Se, 9, xY_Se, rfl, by decide, gt_in 135 (by decide +kernel) rfl, ok_Se⟩
set_option maxRecDepth 100000 in
theorem fl_Sh_11 : xFL "TaleHouse$Shelf" 11 9 0 := ⟨xR_Sh, xT_Sh, 10, xY_Sh, rfl, by decide, gt_in 276 (by decide +kernel) rfl, ok_Sh⟩
set_option maxRecDepth 100000 in
theorem fl_Sh_15 : xFL "TaleHouse$Shelf" 15 9 1 := ⟨xR_Sh, xT_Sh, 10, xY_Sh, rfl, by decide, gt_in 277 (by decide +kernel) rfl, ok_Sh⟩
set_option maxRecDepth 100000 in
theorem fl_Sh_18 : xFL "TaleHouse$Shelf" 18 9 2 := ⟨xR_Sh, xT_Sh, 10, xY_Sh, rfl, by decide, gt_in 278 (by decide +kernel) rfl, ok_Sh⟩
set_option maxRecDepth 100000 in
theorem fl_Sh_21 : xFL "TaleHouse$Shelf" 21 9 3 := ⟨xR_Sh, xT_Sh, 10, xY_Sh, rfl, by decide, gt_in 279 (by decide +kernel) rfl, ok_Sh⟩
set_option maxRecDepth 100000 in
theorem fl_Sh_24 : xFL "TaleHouse$Shelf" 24 9 4 := ⟨xR_Sh, xT_Sh, 10, xY_Sh, rfl, by decide, gt_in 280 (by decide +kernel) rfl, ok_Sh⟩
set_option maxRecDepth 100000 in
theorem fl_Sh_28 : xFL "TaleHouse$Shelf" 28 9 5 := ⟨xR_Sh, xT_Sh, 10, xY_Sh, rfl, by decide, gt_in 281 (by decide +kernel) rfl, ok_Sh⟩
set_option maxRecDepth 100000 in
theorem fl_Sh_32 : xFL "TaleHouse$Shelf" 32 9 6 := ⟨xR_Sh, xT_Sh, 10, xY_Sh, rfl, by decide, gt_in 284 (by decide +kernel) rfl, ok_Sh⟩
set_option maxRecDepth 100000 in
theorem fl_Sh_35 : xFL "TaleHouse$Shelf" 35 9 7 := ⟨xR_Sh, xT_Sh, 10, xY_Sh, rfl, by decide, gt_in 285 (by decide +kernel) rfl, ok_Sh⟩
set_option maxRecDepth 100000 in
theorem fl_Sh_38 : xFL "TaleHouse$Shelf" 38 9 8 := ⟨xR_Sh, xT_Sh, 10, xY_Sh, rfl, by decide, gt_in 286 (by decide +kernel) rfl, ok_Sh⟩
set_option maxRecDepth 100000 in
theorem fl_Sh_49 : xFL "TaleHouse$Shelf" 49 9 9 := ⟨xR_Sh, xT_Sh, 10, xY_Sh, rfl, by decide, gt_in 288 (by decide +kernel) rfl, ok_Sh⟩
set_option maxRecDepth 100000 in
theorem fl_Tp_11 : xFL "TaleHouse$Tape" 11 10 0 := ⟨xR_Tp, xT_Tp, 5, xY_Tp, rfl, by decide, gt_in 34 (by decide +kernel) rfl, ok_Tp⟩
set_option maxRecDepth 100000 in
theorem fl_Tp_15 : xFL "TaleHouse$Tape" 15 10 4 := ⟨xR_Tp, xT_Tp, 5, xY_Tp, rfl, by decide, gt_in 40 (by decide +kernel) rfl, ok_Tp⟩
set_option maxRecDepth 100000 in
theorem fl_Tp_19 : xFL "TaleHouse$Tape" 19 10 1 := ⟨xR_Tp, xT_Tp, 5, xY_Tp, rfl, by decide, gt_in 35 (by decide +kernel) rfl, ok_Tp⟩
set_option maxRecDepth 100000 in
theorem fl_Tp_22 : xFL "TaleHouse$Tape" 22 10 2 := ⟨xR_Tp, xT_Tp, 5, xY_Tp, rfl, by decide, gt_in 37 (by decide +kernel) rfl, ok_Tp⟩
set_option maxRecDepth 100000 in
theorem fl_Tp_25 : xFL "TaleHouse$Tape" 25 10 3 := ⟨xR_Tp, xT_Tp, 5, xY_Tp, rfl, by decide, gt_in 38 (by decide +kernel) rfl, ok_Tp⟩
set_option maxRecDepth 100000 in
theorem fl_Md_1 : xFL "TaleHouseModel" 1 12 0 := ⟨xR_Md, xT_Md, 52, xY_Md, rfl, by decide, gt_in 990 (by decide +kernel) rfl, ok_Md⟩
set_option maxRecDepth 100000 in
theorem fl_Md_7 : xFL "TaleHouseModel" 7 12 1 := ⟨xR_Md, xT_Md, 52, xY_Md, rfl, by decide, gt_in 991 (by decide +kernel) rfl, ok_Md⟩
set_option maxRecDepth 100000 in
theorem fl_Md_17 : xFL "TaleHouseModel" 17 12 2 := ⟨xR_Md, xT_Md, 52, xY_Md, rfl, by decide, gt_in 992 (by decide +kernel) rfl, ok_Md⟩
set_option maxRecDepth 100000 in
theorem fl_Md_20 : xFL "TaleHouseModel" 20 12 3 := ⟨xR_Md, xT_Md, 52, xY_Md, rfl, by decide, gt_in 993 (by decide +kernel) rfl, ok_Md⟩
set_option maxRecDepth 100000 in
theorem fl_Md_23 : xFL "TaleHouseModel" 23 12 4 := ⟨xR_Md, xT_Md, 52, xY_Md, rfl, by decide, gt_in 994 (by decide +kernel) rfl, ok_Md⟩
set_option maxRecDepth 100000 in
theorem fl_Md_26 : xFL "TaleHouseModel" 26 12 5 := ⟨xR_Md, xT_Md, 52, xY_Md, rfl, by decide, gt_in 995 (by decide +kernel) rfl, ok_Md⟩
set_option maxRecDepth 100000 in
theorem fl_Md_29 : xFL "TaleHouseModel" 29 12 6 := ⟨xR_Md, xT_Md, 52, xY_Md, rfl, by decide, gt_in 996 (by decide +kernel) rfl, ok_Md⟩
set_option maxRecDepth 100000 in
theorem fl_Md_32 : xFL "TaleHouseModel" 32 12 7 := ⟨xR_Md, xT_Md, 52, xY_Md, rfl, by decide, gt_in 997 (by decide +kernel) rfl, ok_Md⟩
set_option maxRecDepth 100000 in
theorem fl_Md_35 : xFL "TaleHouseModel" 35 12 8 := ⟨xR_Md, xT_Md, 52, xY_Md, rfl, by decide, gt_in 998 (by decide +kernel) rfl, ok_Md⟩
set_option maxRecDepth 100000 in
theorem fl_Md_38 : xFL "TaleHouseModel" 38 12 9 := ⟨xR_Md, xT_Md, 52, xY_Md, rfl, by decide, gt_in 999 (by decide +kernel) rfl, ok_Md⟩
set_option maxRecDepth 100000 in
theorem fl_Md_41 : xFL "TaleHouseModel" 41 12 10 := ⟨xR_Md, xT_Md, 52, xY_Md, rfl, by decide, gt_in 1000 (by decide +kernel) rfl, ok_Md⟩
set_option maxRecDepth 100000 in
theorem fl_Md_44 : xFL "TaleHouseModel" 44 12 11 := ⟨xR_Md, xT_Md, 52, xY_Md, rfl, by decide, gt_in 1001 (by decide +kernel) rfl, ok_Md⟩
set_option maxRecDepth 100000 in
theorem fl_Md_47 : xFL "TaleHouseModel" 47 12 12 := ⟨xR_Md, xT_Md, 52, xY_Md, rfl, by decide, gt_in 1002 (by decide +kernel) rfl, ok_Md⟩
set_option maxRecDepth 100000 in
theorem fl_Md_50 : xFL "TaleHouseModel" 50 12 13 := ⟨xR_Md, xT_Md, 52, xY_Md, rfl, by decide, gt_in 1003 (by decide +kernel) rfl, ok_Md⟩
set_option maxRecDepth 100000 in
theorem fl_Md_53 : xFL "TaleHouseModel" 53 12 14 := ⟨xR_Md, xT_Md, 52, xY_Md, rfl, by decide, gt_in 1004 (by decide +kernel) rfl, ok_Md⟩
set_option maxRecDepth 100000 in
theorem fl_Md_57 : xFL "TaleHouseModel" 57 12 15 := ⟨xR_Md, xT_Md, 52, xY_Md, rfl, by decide, gt_in 1005 (by decide +kernel) rfl, ok_Md⟩
set_option maxRecDepth 100000 in
theorem fl_Md_60 : xFL "TaleHouseModel" 60 12 16 := ⟨xR_Md, xT_Md, 52, xY_Md, rfl, by decide, gt_in 1006 (by decide +kernel) rfl, ok_Md⟩
set_option maxRecDepth 100000 in
theorem fl_Md_63 : xFL "TaleHouseModel" 63 12 17 := ⟨xR_Md, xT_Md, 52, xY_Md, rfl, by decide, gt_in 1007 (by decide +kernel) rfl, ok_Md⟩
set_option maxRecDepth 100000 in
theorem fl_Md_66 : xFL "TaleHouseModel" 66 12 18 := ⟨xR_Md, xT_Md, 52, xY_Md, rfl, by decide, gt_in 1008 (by decide +kernel) rfl, ok_Md⟩
set_option maxRecDepth 100000 in
theorem fl_Md_69 : xFL "TaleHouseModel" 69 12 19 := ⟨xR_Md, xT_Md, 52, xY_Md, rfl, by decide, gt_in 1009 (by decide +kernel) rfl, ok_Md⟩
set_option maxRecDepth 100000 in
theorem fl_Md_72 : xFL "TaleHouseModel" 72 12 20 := ⟨xR_Md, xT_Md, 52, xY_Md, rfl, by decide, gt_in 1010 (by decide +kernel) rfl, ok_Md⟩
set_option maxRecDepth 100000 in
theorem fl_Md_75 : xFL "TaleHouseModel" 75 12 21 := ⟨xR_Md, xT_Md, 52, xY_Md, rfl, by decide, gt_in 1011 (by decide +kernel) rfl, ok_Md⟩
set_option maxRecDepth 100000 in
theorem fl_Md_78 : xFL "TaleHouseModel" 78 12 22 := ⟨xR_Md, xT_Md, 52, xY_Md, rfl, by decide, gt_in 1012 (by decide +kernel) rfl, ok_Md⟩
set_option maxRecDepth 100000 in
theorem fl_Md_81 : xFL "TaleHouseModel" 81 12 23 := ⟨xR_Md, xT_Md, 52, xY_Md, rfl, by decide, gt_in 1013 (by decide +kernel) rfl, ok_Md⟩
set_option maxRecDepth 100000 in
theorem fl_Md_84 : xFL "TaleHouseModel" 84 12 24 := ⟨xR_Md, xT_Md, 52, xY_Md, rfl, by decide, gt_in 1014 (by decide +kernel) rfl, ok_Md⟩
set_option maxRecDepth 100000 in
theorem fl_Md_87 : xFL "TaleHouseModel" 87 12 25 := ⟨xR_Md, xT_Md, 52, xY_Md, rfl, by decide, gt_in 1015 (by decide +kernel) rfl, ok_Md⟩
set_option maxRecDepth 100000 in
theorem fl_Md_90 : xFL "TaleHouseModel" 90 12 26 := ⟨xR_Md, xT_Md, 52, xY_Md, rfl, by decide, gt_in 1016 (by decide +kernel) rfl, ok_Md⟩
set_option maxRecDepth 100000 in
theorem fl_Md_93 : xFL "TaleHouseModel" 93 12 27 := ⟨xR_Md, xT_Md, 52, xY_Md, rfl, by decide, gt_in 1017 (by decide +kernel) rfl, ok_Md⟩
set_option maxRecDepth 100000 in
theorem fl_Md_96 : xFL "TaleHouseModel" 96 12 28 := ⟨xR_Md, xT_Md, 52, xY_Md, rfl, by decide, gt_in 1018 (by decide +kernel) rfl, ok_Md⟩
set_option maxRecDepth 100000 in
theorem fl_Md_99 : xFL "TaleHouseModel" 99 12 29 := ⟨xR_Md, xT_Md, 52, xY_Md, rfl, by decide, gt_in 1019 (by decide +kernel) rfl, ok_Md⟩
set_option maxRecDepth 100000 in
theorem fl_Md_102 : xFL "TaleHouseModel" 102 12 30 := ⟨xR_Md, xT_Md, 52, xY_Md, rfl, by decide, gt_in 1020 (by decide +kernel) rfl, ok_Md⟩
set_option maxRecDepth 100000 in
theorem fl_Md_105 : xFL "TaleHouseModel" 105 12 31 := ⟨xR_Md, xT_Md, 52, xY_Md, rfl, by decide, gt_in 1021 (by decide +kernel) rfl, ok_Md⟩
set_option maxRecDepth 100000 in
theorem fl_Md_108 : xFL "TaleHouseModel" 108 12 32 := ⟨xR_Md, xT_Md, 52, xY_Md, rfl, by decide, gt_in 1022 (by decide +kernel) rfl, ok_Md⟩
set_option maxRecDepth 100000 in
theorem fl_Md_111 : xFL "TaleHouseModel" 111 12 33 := ⟨xR_Md, xT_Md, 52, xY_Md, rfl, by decide, gt_in 1023 (by decide +kernel) rfl, ok_Md⟩
set_option maxRecDepth 100000 in
theorem fl_Md_114 : xFL "TaleHouseModel" 114 12 34 := ⟨xR_Md, xT_Md, 52, xY_Md, rfl, by decide, gt_in 1024 (by decide +kernel) rfl, ok_Md⟩
set_option maxRecDepth 100000 in
theorem fl_Md_117 : xFL "TaleHouseModel" 117 12 35 := ⟨xR_Md, xT_Md, 52, xY_Md, rfl, by decide, gt_in 1025 (by decide +kernel) rfl, ok_Md⟩
set_option maxRecDepth 100000 in
theorem fl_Md_120 : xFL "TaleHouseModel" 120 12 36 := ⟨xR_Md, xT_Md, 52, xY_Md, rfl, by decide, gt_in 1026 (by decide +kernel) rfl, ok_Md⟩
set_option maxRecDepth 100000 in
theorem fl_Md_123 : xFL "TaleHouseModel" 123 12 37 := ⟨xR_Md, xT_Md, 52, xY_Md, rfl, by decide, gt_in 1027 (by decide +kernel) rfl, ok_Md⟩
set_option maxRecDepth 100000 in
theorem fl_Md_126 : xFL "TaleHouseModel" 126 12 38 := ⟨xR_Md, xT_Md, 52, xY_Md, rfl, by decide, gt_in 1028 (by decide +kernel) rfl, ok_Md⟩
set_option maxRecDepth 100000 in
theorem fl_Md_129 : xFL "TaleHouseModel" 129 12 39 := ⟨xR_Md, xT_Md, 52, xY_Md, rfl, by decide, gt_in 1029 (by decide +kernel) rfl, ok_Md⟩
set_option maxRecDepth 100000 in
theorem fl_Md_132 : xFL "TaleHouseModel" 132 12 40 := ⟨xR_Md, xT_Md, 52, xY_Md, rfl, by decide, gt_in 1030 (by decide +kernel) rfl, ok_Md⟩
set_option maxRecDepth 100000 in
theorem fl_Md_135 : xFL "TaleHouseModel" 135 12 41 := ⟨xR_Md, xT_Md, 52, xY_Md, rfl, by decide, gt_in 1031 (by decide +kernel) rfl, ok_Md⟩
set_option maxRecDepth 100000 in
theorem fl_Md_138 : xFL "TaleHouseModel" 138 12 42 := ⟨xR_Md, xT_Md, 52, xY_Md, rfl, by decide, gt_in 1032 (by decide +kernel) rfl, ok_Md⟩
set_option maxRecDepth 100000 in
theorem fl_Md_141 : xFL "TaleHouseModel" 141 12 43 := ⟨xR_Md, xT_Md, 52, xY_Md, rfl, by decide, gt_in 1033 (by decide +kernel) rfl, ok_Md⟩
set_option maxRecDepth 100000 in
theorem fl_Md_144 : xFL "TaleHouseModel" 144 12 44 := ⟨xR_Md, xT_Md, 52, xY_Md, rfl, by decide, gt_in 1034 (by decide +kernel) rfl, ok_Md⟩
set_option maxRecDepth 100000 in
theorem fl_Md_147 : xFL "TaleHouseModel" 147 12 45 := ⟨xR_Md, xT_Md, 52, xY_Md, rfl, by decide, gt_in 1035 (by decide +kernel) rfl, ok_Md⟩
set_option maxRecDepth 100000 in
theorem fl_Md_150 : xFL "TaleHouseModel" 150 12 46 := ⟨xR_Md, xT_Md, 52, xY_Md, rfl, by decide, gt_in 1036 (by decide +kernel) rfl, ok_Md⟩
set_option maxRecDepth 100000 in
theorem fl_Md_153 : xFL "TaleHouseModel" 153 12 47 := ⟨xR_Md, xT_Md, 52, xY_Md, rfl, by decide, gt_in 1037 (by decide +kernel) rfl, ok_Md⟩
set_option maxRecDepth 100000 in
theorem fl_Md_156 : xFL "TaleHouseModel" 156 12 48 := ⟨xR_Md, xT_Md, 52, xY_Md, rfl, by decide, gt_in 1038 (by decide +kernel) rfl, ok_Md⟩
set_option maxRecDepth 100000 in
theorem fl_Md_160 : xFL "TaleHouseModel" 160 12 49 := ⟨xR_Md, xT_Md, 52, xY_Md, rfl, by decide, gt_in 1039 (by decide +kernel) rfl, ok_Md⟩
set_option maxRecDepth 100000 in
theorem fl_Md_163 : xFL "TaleHouseModel" 163 12 50 := ⟨xR_Md, xT_Md, 52, xY_Md, rfl, by decide, gt_in 1040 (by decide +kernel) rfl, ok_Md⟩
set_option maxRecDepth 100000 in
theorem fl_Md_166 : xFL "TaleHouseModel" 166 12 51 := ⟨xR_Md, xT_Md, 52, xY_Md, rfl, by decide, gt_in 1041 (by decide +kernel) rfl, ok_Md⟩
set_option maxRecDepth 100000 in
theorem fn_TH_73 : xFN "TaleHouse" 73 10 1 := ⟨xR_Tp, xT_Tp, 5, xY_Tp, "TaleHouse", rfl, by decide, List.mem_of_getElem? (i := 36) (by decide +kernel), ok_Tp⟩
set_option maxRecDepth 100000 in
theorem fn_TH_96 : xFN "TaleHouse" 96 6 6 := ⟨xR_Mn, xT_Mn, 11, xY_Mn, "TaleHouse", rfl, by decide, List.mem_of_getElem? (i := 91) (by decide +kernel), ok_Mn⟩
set_option maxRecDepth 100000 in
theorem fn_TH_135 : xFN "TaleHouse" 135 10 3 := ⟨xR_Tp, xT_Tp, 5, xY_Tp, "TaleHouse", rfl, by decide, List.mem_of_getElem? (i := 39) (by decide +kernel), ok_Tp⟩
set_option maxRecDepth 100000 in
theorem fn_TH_138 : xFN "TaleHouse" 138 10 4 := ⟨xR_Tp, xT_Tp, 5, xY_Tp, "TaleHouse", rfl, by decide, List.mem_of_getElem? (i := 41) (by decide +kernel), ok_Tp⟩
set_option maxRecDepth 100000 in
theorem fn_TH_183 : xFN "TaleHouse" 183 9 5 := ⟨xR_Sh, xT_Sh, 10, xY_Sh, "TaleHouse", rfl, by decide, List.mem_of_getElem? (i := 283) (by decide +kernel), ok_Sh⟩
set_option maxRecDepth 100000 in
theorem fn_TH_188 : xFN "TaleHouse" 188 0 3 := ⟨xR_Ag, xT_Ag, 5, xY_Ag, "TaleHouse", rfl, by decide, List.mem_of_getElem? (i := 247) (by decide +kernel), ok_Ag⟩
set_option maxRecDepth 100000 in
theorem fn_TH_250 : xFN "TaleHouse" 250 5 2 := ⟨xR_Fo, xT_Fo, 3, xY_Fo, "TaleHouse", rfl, by decide, List.mem_of_getElem? (i := 320) (by decide +kernel), ok_Fo⟩
set_option maxRecDepth 100000 in
theorem fn_TH_261 : xFN "TaleHouse" 261 9 9 := ⟨xR_Sh, xT_Sh, 10, xY_Sh, "TaleHouse", rfl, by decide, List.mem_of_getElem? (i := 289) (by decide +kernel), ok_Sh⟩
set_option maxRecDepth 100000 in
theorem fn_As_36 : xFN "TaleHouse$Agreements" 36 0 4 := ⟨xR_Ag, xT_Ag, 5, xY_Ag, "TaleHouse", rfl, by decide, List.mem_of_getElem? (i := 248) (by decide +kernel), ok_Ag⟩
set_option maxRecDepth 100000 in
theorem fn_Fs_43 : xFN "TaleHouse$Facts" 43 3 4 := ⟨xR_Fa, xT_Fa, 7, xY_Fa, "TaleHouse", rfl, by decide, List.mem_of_getElem? (i := 191) (by decide +kernel), ok_Fa⟩
set_option maxRecDepth 100000 in
theorem fn_Fs_46 : xFN "TaleHouse$Facts" 46 3 5 := ⟨xR_Fa, xT_Fa, 7, xY_Fa, "TaleHouse", rfl, by decide, List.mem_of_getElem? (i := 193) (by decide +kernel), ok_Fa⟩
set_option maxRecDepth 100000 in
theorem fn_Fs_53 : xFN "TaleHouse$Facts" 53 3 6 := ⟨xR_Fa, xT_Fa, 7, xY_Fa, "TaleHouse", rfl, by decide, List.mem_of_getElem? (i := 195) (by decide +kernel), ok_Fa⟩
set_option maxRecDepth 100000 in
theorem fn_Fo_29 : xFN "TaleHouse$Foretelling" 29 9 5 := ⟨xR_Sh, xT_Sh, 10, xY_Sh, "TaleHouse", rfl, by decide, List.mem_of_getElem? (i := 282) (by decide +kernel), ok_Sh⟩
set_option maxRecDepth 100000 in
theorem fn_Fo_34 : xFN "TaleHouse$Foretelling" 34 9 8 := ⟨xR_Sh, xT_Sh, 10, xY_Sh, "TaleHouse", rfl, by decide, List.mem_of_getElem? (i := 287) (by decide +kernel), ok_Sh⟩
set_option maxRecDepth 100000 in
theorem fn_Se_36 : xFN "TaleHouse$Setting" 36 6 6 := ⟨xR_Mn, xT_Mn, 11, xY_Mn, "TaleHouse", rfl, by decide, List.mem_of_getElem? (i := 90) (by decide +kernel), ok_Mn⟩
set_option maxRecDepth 100000 in
theorem fn_Se_71 : xFN "TaleHouse$Setting" 71 6 9 := ⟨xR_Mn, xT_Mn, 11, xY_Mn, "TaleHouse", rfl, by decide, List.mem_of_getElem? (i := 95) (by decide +kernel), ok_Mn⟩
theorem ft_0_0 : xFT 0 0 true (.array .int) := ⟨xR_Ag, xT_Ag, 5, rfl, rfl, by decide +kernel⟩
theorem ft_0_1 : xFT 0 1 true (.array .int) := ⟨xR_Ag, xT_Ag, 5, rfl, rfl, by decide +kernel⟩
theorem ft_0_2 : xFT 0 2 false .int := ⟨xR_Ag, xT_Ag, 5, rfl, rfl, by decide +kernel⟩
theorem ft_0_3 : xFT 0 3 false .int := ⟨xR_Ag, xT_Ag, 5, rfl, rfl, by decide +kernel⟩
theorem ft_0_4 : xFT 0 4 false .int := ⟨xR_Ag, xT_Ag, 5, rfl, rfl, by decide +kernel⟩
theorem ft_1_0 : xFT 1 0 true (.array (.object "TaleHouse$Agreement")) := ⟨xR_As, xT_As, 3, rfl, rfl, by decide +kernel⟩
theorem ft_1_1 : xFT 1 1 false (.object "TaleHouse$Agreement") := ⟨xR_As, xT_As, 3, rfl, rfl, by decide +kernel⟩
theorem ft_1_2 : xFT 1 2 false .int := ⟨xR_As, xT_As, 3, rfl, rfl, by decide +kernel⟩
theorem ft_2_0 : xFT 2 0 true (.array (.array .int)) := ⟨xR_Br, xT_Br, 4, rfl, rfl, by decide +kernel⟩
theorem ft_2_1 : xFT 2 1 false (.array .int) := ⟨xR_Br, xT_Br, 4, rfl, rfl, by decide +kernel⟩
theorem ft_2_2 : xFT 2 2 false .int := ⟨xR_Br, xT_Br, 4, rfl, rfl, by decide +kernel⟩
theorem ft_2_3 : xFT 2 3 false .int := ⟨xR_Br, xT_Br, 4, rfl, rfl, by decide +kernel⟩
theorem ft_3_0 : xFT 3 0 false .long := ⟨xR_Fa, xT_Fa, 7, rfl, rfl, by decide +kernel⟩
theorem ft_3_1 : xFT 3 1 false .int := ⟨xR_Fa, xT_Fa, 7, rfl, rfl, by decide +kernel⟩
theorem ft_3_2 : xFT 3 2 false .long := ⟨xR_Fa, xT_Fa, 7, rfl, rfl, by decide +kernel⟩
theorem ft_3_3 : xFT 3 3 false .int := ⟨xR_Fa, xT_Fa, 7, rfl, rfl, by decide +kernel⟩
theorem ft_3_4 : xFT 3 4 false .int := ⟨xR_Fa, xT_Fa, 7, rfl, rfl, by decide +kernel⟩
theorem ft_3_5 : xFT 3 5 false .int := ⟨xR_Fa, xT_Fa, 7, rfl, rfl, by decide +kernel⟩
theorem ft_3_6 : xFT 3 6 false .int := ⟨xR_Fa, xT_Fa, 7, rfl, rfl, by decide +kernel⟩
theorem ft_4_0 : xFT 4 0 true (.array (.object "TaleHouse$Fact")) := ⟨xR_Fs, xT_Fs, 6, rfl, rfl, by decide +kernel⟩
theorem ft_4_1 : xFT 4 1 true (.array .int) := ⟨xR_Fs, xT_Fs, 6, rfl, rfl, by decide +kernel⟩
theorem ft_4_2 : xFT 4 2 true (.array .int) := ⟨xR_Fs, xT_Fs, 6, rfl, rfl, by decide +kernel⟩
theorem ft_4_3 : xFT 4 3 false (.object "TaleHouse$Fact") := ⟨xR_Fs, xT_Fs, 6, rfl, rfl, by decide +kernel⟩
theorem ft_4_4 : xFT 4 4 false .int := ⟨xR_Fs, xT_Fs, 6, rfl, rfl, by decide +kernel⟩
theorem ft_4_5 : xFT 4 5 false .int := ⟨xR_Fs, xT_Fs, 6, rfl, rfl, by decide +kernel⟩
theorem ft_5_0 : xFT 5 0 true (.array .int) := ⟨xR_Fo, xT_Fo, 3, rfl, rfl, by decide +kernel⟩
theorem ft_5_1 : xFT 5 1 true (.array .int) := ⟨xR_Fo, xT_Fo, 3, rfl, rfl, by decide +kernel⟩
theorem ft_5_2 : xFT 5 2 false .int := ⟨xR_Fo, xT_Fo, 3, rfl, rfl, by decide +kernel⟩
theorem ft_6_0 : xFT 6 0 true (.array .int) := ⟨xR_Mn, xT_Mn, 11, rfl, rfl, by decide +kernel⟩
theorem ft_6_1 : xFT 6 1 true (.array .int) := ⟨xR_Mn, xT_Mn, 11, rfl, rfl, by decide +kernel⟩
theorem ft_6_2 : xFT 6 2 true (.array (.array .int)) := ⟨xR_Mn, xT_Mn, 11, rfl, rfl, by decide +kernel⟩
theorem ft_6_3 : xFT 6 3 true (.array (.array .int)) := ⟨xR_Mn, xT_Mn, 11, rfl, rfl, by decide +kernel⟩
theorem ft_6_4 : xFT 6 4 true (.array .boolean) := ⟨xR_Mn, xT_Mn, 11, rfl, rfl, by decide +kernel⟩
theorem ft_6_5 : xFT 6 5 true (.object "TaleHouse$Breaks") := ⟨xR_Mn, xT_Mn, 11, rfl, rfl, by decide +kernel⟩
theorem ft_6_6 : xFT 6 6 false .int := ⟨xR_Mn, xT_Mn, 11, rfl, rfl, by decide +kernel⟩
theorem ft_6_7 : xFT 6 7 false .int := ⟨xR_Mn, xT_Mn, 11, rfl, rfl, by decide +kernel⟩
theorem ft_6_8 : xFT 6 8 false .int := ⟨xR_Mn, xT_Mn, 11, rfl, rfl, by decide +kernel⟩
theorem ft_6_9 : xFT 6 9 false .int := ⟨xR_Mn, xT_Mn, 11, rfl, rfl, by decide +kernel⟩
theorem ft_6_10 : xFT 6 10 false .int := ⟨xR_Mn, xT_Mn, 11, rfl, rfl, by decide +kernel⟩
theorem ft_7_0 : xFT 7 0 true (.array .int) := ⟨xR_Pa, xT_Pa, 4, rfl, rfl, by decide +kernel⟩
theorem ft_7_1 : xFT 7 1 true (.array .int) := ⟨xR_Pa, xT_Pa, 4, rfl, rfl, by decide +kernel⟩
theorem ft_7_2 : xFT 7 2 false .int := ⟨xR_Pa, xT_Pa, 4, rfl, rfl, by decide +kernel⟩
theorem ft_7_3 : xFT 7 3 false .int := ⟨xR_Pa, xT_Pa, 4, rfl, rfl, by decide +kernel⟩
theorem ft_8_0 : xFT 8 0 true (.array (.array .int)) := ⟨xR_Se, xT_Se, 9, rfl, rfl, by decide +kernel⟩
theorem ft_8_1 : xFT 8 1 true (.array .int) := ⟨xR_Se, xT_Se, 9, rfl, rfl, by decide +kernel⟩
theorem ft_8_2 : xFT 8 2 true (.array .int) := ⟨xR_Se, xT_Se, 9, rfl, rfl, by decide +kernel⟩
theorem ft_8_3 : xFT 8 3 true (.array (.array .int)) := ⟨xR_Se, xT_Se, 9, rfl, rfl, by decide +kernel⟩
theorem ft_8_4 : xFT 8 4 true (.array .int) := ⟨xR_Se, xT_Se, 9, rfl, rfl, by decide +kernel⟩
theorem ft_8_5 : xFT 8 5 true (.array .int) := ⟨xR_Se, xT_Se, 9, rfl, rfl, by decide +kernel⟩
theorem ft_8_6 : xFT 8 6 true (.array .int) := ⟨xR_Se, xT_Se, 9, rfl, rfl, by decide +kernel⟩
theorem ft_8_7 : xFT 8 7 false .int := ⟨xR_Se, xT_Se, 9, rfl, rfl, by decide +kernel⟩
theorem ft_8_8 : xFT 8 8 false .int := ⟨xR_Se, xT_Se, 9, rfl, rfl, by decide +kernel⟩
theorem ft_9_0 : xFT 9 0 true (.array .int) := ⟨xR_Sh, xT_Sh, 10, rfl, rfl, by decide +kernel⟩
theorem ft_9_1 : xFT 9 1 true (.array .int) := ⟨xR_Sh, xT_Sh, 10, rfl, rfl, by decide +kernel⟩
theorem ft_9_2 : xFT 9 2 true (.array .int) := ⟨xR_Sh, xT_Sh, 10, rfl, rfl, by decide +kernel⟩
theorem ft_9_3 : xFT 9 3 true (.array .int) := ⟨xR_Sh, xT_Sh, 10, rfl, rfl, by decide +kernel⟩
theorem ft_9_4 : xFT 9 4 true (.array .boolean) := ⟨xR_Sh, xT_Sh, 10, rfl, rfl, by decide +kernel⟩
theorem ft_9_5 : xFT 9 5 false .int := ⟨xR_Sh, xT_Sh, 10, rfl, rfl, by decide +kernel⟩
theorem ft_9_6 : xFT 9 6 false .int := ⟨xR_Sh, xT_Sh, 10, rfl, rfl, by decide +kernel⟩
theorem ft_9_7 : xFT 9 7 false .int := ⟨xR_Sh, xT_Sh, 10, rfl, rfl, by decide +kernel⟩
theorem ft_9_8 : xFT 9 8 false .int := ⟨xR_Sh, xT_Sh, 10, rfl, rfl, by decide +kernel⟩
theorem ft_9_9 : xFT 9 9 false .long := ⟨xR_Sh, xT_Sh, 10, rfl, rfl, by decide +kernel⟩
theorem ft_10_0 : xFT 10 0 true (.array .int) := ⟨xR_Tp, xT_Tp, 5, rfl, rfl, by decide +kernel⟩
theorem ft_10_1 : xFT 10 1 false .int := ⟨xR_Tp, xT_Tp, 5, rfl, rfl, by decide +kernel⟩
theorem ft_10_2 : xFT 10 2 false .int := ⟨xR_Tp, xT_Tp, 5, rfl, rfl, by decide +kernel⟩
theorem ft_10_3 : xFT 10 3 false .int := ⟨xR_Tp, xT_Tp, 5, rfl, rfl, by decide +kernel⟩
theorem ft_10_4 : xFT 10 4 false .int := ⟨xR_Tp, xT_Tp, 5, rfl, rfl, by decide +kernel⟩
theorem ft_11_0 : xFT 11 0 true (.object "TaleHouse$Tape") := ⟨xR_TH, xT_TH, 8, rfl, rfl, by decide +kernel⟩
theorem ft_11_1 : xFT 11 1 true (.object "TaleHouse$Manuscript") := ⟨xR_TH, xT_TH, 8, rfl, rfl, by decide +kernel⟩
theorem ft_11_2 : xFT 11 2 true (.object "TaleHouse$Setting") := ⟨xR_TH, xT_TH, 8, rfl, rfl, by decide +kernel⟩
theorem ft_11_3 : xFT 11 3 true (.object "TaleHouse$Parts") := ⟨xR_TH, xT_TH, 8, rfl, rfl, by decide +kernel⟩
theorem ft_11_4 : xFT 11 4 true (.object "TaleHouse$Facts") := ⟨xR_TH, xT_TH, 8, rfl, rfl, by decide +kernel⟩
theorem ft_11_5 : xFT 11 5 true (.object "TaleHouse$Agreements") := ⟨xR_TH, xT_TH, 8, rfl, rfl, by decide +kernel⟩
theorem ft_11_6 : xFT 11 6 true (.object "TaleHouse$Shelf") := ⟨xR_TH, xT_TH, 8, rfl, rfl, by decide +kernel⟩
theorem ft_11_7 : xFT 11 7 true (.object "TaleHouse$Foretelling") := ⟨xR_TH, xT_TH, 8, rfl, rfl, by decide +kernel⟩
theorem ft_12_0 : xFT 12 0 true (.array .int) := ⟨xR_Md, xT_Md, 52, rfl, rfl, by decide +kernel⟩
theorem ft_12_1 : xFT 12 1 false .int := ⟨xR_Md, xT_Md, 52, rfl, rfl, by decide +kernel⟩
theorem ft_12_2 : xFT 12 2 false .int := ⟨xR_Md, xT_Md, 52, rfl, rfl, by decide +kernel⟩
theorem ft_12_3 : xFT 12 3 true (.array .int) := ⟨xR_Md, xT_Md, 52, rfl, rfl, by decide +kernel⟩
theorem ft_12_4 : xFT 12 4 true (.array .int) := ⟨xR_Md, xT_Md, 52, rfl, rfl, by decide +kernel⟩
theorem ft_12_5 : xFT 12 5 true (.array .int) := ⟨xR_Md, xT_Md, 52, rfl, rfl, by decide +kernel⟩
theorem ft_12_6 : xFT 12 6 false .int := ⟨xR_Md, xT_Md, 52, rfl, rfl, by decide +kernel⟩
theorem ft_12_7 : xFT 12 7 false .int := ⟨xR_Md, xT_Md, 52, rfl, rfl, by decide +kernel⟩
theorem ft_12_8 : xFT 12 8 false .int := ⟨xR_Md, xT_Md, 52, rfl, rfl, by decide +kernel⟩
theorem ft_12_9 : xFT 12 9 false .int := ⟨xR_Md, xT_Md, 52, rfl, rfl, by decide +kernel⟩
theorem ft_12_10 : xFT 12 10 true (.array .int) := ⟨xR_Md, xT_Md, 52, rfl, rfl, by decide +kernel⟩
theorem ft_12_11 : xFT 12 11 true (.array .int) := ⟨xR_Md, xT_Md, 52, rfl, rfl, by decide +kernel⟩
theorem ft_12_12 : xFT 12 12 true (.array .int) := ⟨xR_Md, xT_Md, 52, rfl, rfl, by decide +kernel⟩
theorem ft_12_13 : xFT 12 13 false .int := ⟨xR_Md, xT_Md, 52, rfl, rfl, by decide +kernel⟩
theorem ft_12_14 : xFT 12 14 true (.array .boolean) := ⟨xR_Md, xT_Md, 52, rfl, rfl, by decide +kernel⟩
theorem ft_12_15 : xFT 12 15 true (.array .int) := ⟨xR_Md, xT_Md, 52, rfl, rfl, by decide +kernel⟩
theorem ft_12_16 : xFT 12 16 true (.array .int) := ⟨xR_Md, xT_Md, 52, rfl, rfl, by decide +kernel⟩
theorem ft_12_17 : xFT 12 17 true (.array .int) := ⟨xR_Md, xT_Md, 52, rfl, rfl, by decide +kernel⟩
theorem ft_12_18 : xFT 12 18 true (.array .int) := ⟨xR_Md, xT_Md, 52, rfl, rfl, by decide +kernel⟩
theorem ft_12_19 : xFT 12 19 true (.array .int) := ⟨xR_Md, xT_Md, 52, rfl, rfl, by decide +kernel⟩
theorem ft_12_20 : xFT 12 20 true (.array .int) := ⟨xR_Md, xT_Md, 52, rfl, rfl, by decide +kernel⟩
theorem ft_12_21 : xFT 12 21 false .int := ⟨xR_Md, xT_Md, 52, rfl, rfl, by decide +kernel⟩
theorem ft_12_22 : xFT 12 22 false .int := ⟨xR_Md, xT_Md, 52, rfl, rfl, by decide +kernel⟩
theorem ft_12_23 : xFT 12 23 false .int := ⟨xR_Md, xT_Md, 52, rfl, rfl, by decide +kernel⟩
theorem ft_12_24 : xFT 12 24 false .int := ⟨xR_Md, xT_Md, 52, rfl, rfl, by decide +kernel⟩
theorem ft_12_25 : xFT 12 25 false .int := ⟨xR_Md, xT_Md, 52, rfl, rfl, by decide +kernel⟩
theorem ft_12_26 : xFT 12 26 true (.array .int) := ⟨xR_Md, xT_Md, 52, rfl, rfl, by decide +kernel⟩
theorem ft_12_27 : xFT 12 27 true (.array .int) := ⟨xR_Md, xT_Md, 52, rfl, rfl, by decide +kernel⟩
theorem ft_12_28 : xFT 12 28 true (.array .int) := ⟨xR_Md, xT_Md, 52, rfl, rfl, by decide +kernel⟩
theorem ft_12_29 : xFT 12 29 true (.array .int) := ⟨xR_Md, xT_Md, 52, rfl, rfl, by decide +kernel⟩
theorem ft_12_30 : xFT 12 30 true (.array .int) := ⟨xR_Md, xT_Md, 52, rfl, rfl, by decide +kernel⟩
theorem ft_12_31 : xFT 12 31 true (.array .int) := ⟨xR_Md, xT_Md, 52, rfl, rfl, by decide +kernel⟩
theorem ft_12_32 : xFT 12 32 true (.array .int) := ⟨xR_Md, xT_Md, 52, rfl, rfl, by decide +kernel⟩
theorem ft_12_33 : xFT 12 33 true (.array .int) := ⟨xR_Md, xT_Md, 52, rfl, rfl, by decide +kernel⟩
theorem ft_12_34 : xFT 12 34 true (.array .int) := ⟨xR_Md, xT_Md, 52, rfl, rfl, by decide +kernel⟩
theorem ft_12_35 : xFT 12 35 false .int := ⟨xR_Md, xT_Md, 52, rfl, rfl, by decide +kernel⟩
theorem ft_12_36 : xFT 12 36 false .int := ⟨xR_Md, xT_Md, 52, rfl, rfl, by decide +kernel⟩
theorem ft_12_37 : xFT 12 37 true (.array .int) := ⟨xR_Md, xT_Md, 52, rfl, rfl, by decide +kernel⟩
theorem ft_12_38 : xFT 12 38 true (.array .int) := ⟨xR_Md, xT_Md, 52, rfl, rfl, by decide +kernel⟩
theorem ft_12_39 : xFT 12 39 true (.array .int) := ⟨xR_Md, xT_Md, 52, rfl, rfl, by decide +kernel⟩
theorem ft_12_40 : xFT 12 40 true (.array .int) := ⟨xR_Md, xT_Md, 52, rfl, rfl, by decide +kernel⟩
theorem ft_12_41 : xFT 12 41 false .int := ⟨xR_Md, xT_Md, 52, rfl, rfl, by decide +kernel⟩
theorem ft_12_42 : xFT 12 42 true (.array .int) := ⟨xR_Md, xT_Md, 52, rfl, rfl, by decide +kernel⟩
theorem ft_12_43 : xFT 12 43 true (.array .int) := ⟨xR_Md, xT_Md, 52, rfl, rfl, by decide +kernel⟩
theorem ft_12_44 : xFT 12 44 false .int := ⟨xR_Md, xT_Md, 52, rfl, rfl, by decide +kernel⟩
theorem ft_12_45 : xFT 12 45 false .int := ⟨xR_Md, xT_Md, 52, rfl, rfl, by decide +kernel⟩
theorem ft_12_46 : xFT 12 46 false .int := ⟨xR_Md, xT_Md, 52, rfl, rfl, by decide +kernel⟩
theorem ft_12_47 : xFT 12 47 false .int := ⟨xR_Md, xT_Md, 52, rfl, rfl, by decide +kernel⟩
theorem ft_12_48 : xFT 12 48 false .long := ⟨xR_Md, xT_Md, 52, rfl, rfl, by decide +kernel⟩
theorem ft_12_49 : xFT 12 49 false .int := ⟨xR_Md, xT_Md, 52, rfl, rfl, by decide +kernel⟩
theorem ft_12_50 : xFT 12 50 true (.array .int) := ⟨xR_Md, xT_Md, 52, rfl, rfl, by decide +kernel⟩
theorem ft_12_51 : xFT 12 51 true (.array .int) := ⟨xR_Md, xT_Md, 52, rfl, rfl, by decide +kernel⟩
set_option maxRecDepth 100000 in
theorem cn_TH_106 : Cond.constant "TaleHouse" 106 (1000000000) ∈ gtbl := gt_in 450 (by decide +kernel) rfl
set_option maxRecDepth 100000 in
theorem cn_TH_167 : Cond.constantLong "TaleHouse" 167 (-1) ∈ gtbl := gt_in 809 (by decide +kernel) rfl
set_option maxRecDepth 100000 in
theorem cn_TH_186 : Cond.constantLong "TaleHouse" 186 (100) ∈ gtbl := gt_in 828 (by decide +kernel) rfl
set_option maxRecDepth 100000 in
theorem cn_TH_222 : Cond.constant "TaleHouse" 222 (100000) ∈ gtbl := gt_in 895 (by decide +kernel) rfl
set_option maxRecDepth 100000 in
theorem cn_TH_255 : Cond.constantLong "TaleHouse" 255 (-9000000000000000000) ∈ gtbl := gt_in 978 (by decide +kernel) rfl
set_option maxRecDepth 100000 in
theorem cn_Ag_56 : Cond.constant "TaleHouse$Agreement" 56 (99999) ∈ gtbl := gt_in 785 (by decide +kernel) rfl
set_option maxRecDepth 100000 in
theorem cn_Br_27 : Cond.constant "TaleHouse$Breaks" 27 (1000000000) ∈ gtbl := gt_in 426 (by decide +kernel) rfl
set_option maxRecDepth 100000 in
theorem cn_Fa_50 : Cond.constant "TaleHouse$Fact" 50 (99999) ∈ gtbl := gt_in 654 (by decide +kernel) rfl
set_option maxRecDepth 100000 in
theorem cn_Fo_22 : Cond.constant "TaleHouse$Foretelling" 22 (100000) ∈ gtbl := gt_in 959 (by decide +kernel) rfl
set_option maxRecDepth 100000 in
theorem cn_Mn_50 : Cond.constant "TaleHouse$Manuscript" 50 (100000) ∈ gtbl := gt_in 381 (by decide +kernel) rfl
set_option maxRecDepth 100000 in
theorem cn_Mn_57 : Cond.constant "TaleHouse$Manuscript" 57 (1000000000) ∈ gtbl := gt_in 449 (by decide +kernel) rfl
set_option maxRecDepth 100000 in
theorem cn_Se_35 : Cond.constant "TaleHouse$Setting" 35 (1000000000) ∈ gtbl := gt_in 459 (by decide +kernel) rfl
set_option maxRecDepth 100000 in
theorem cn_Sh_62 : Cond.constant "TaleHouse$Shelf" 62 (2147483647) ∈ gtbl := gt_in 945 (by decide +kernel) rfl
set_option maxRecDepth 100000 in
theorem cn_Tp_44 : Cond.constantLong "TaleHouse$Tape" 44 (27) ∈ gtbl := gt_in 636 (by decide +kernel) rfl
set_option maxRecDepth 100000 in
theorem cn_Md_173 : Cond.constant "TaleHouseModel" 173 (100000) ∈ gtbl := gt_in 1163 (by decide +kernel) rfl
set_option maxRecDepth 100000 in
theorem cn_Md_178 : Cond.constant "TaleHouseModel" 178 (1000000000) ∈ gtbl := gt_in 1187 (by decide +kernel) rfl
set_option maxRecDepth 100000 in
theorem cn_Md_216 : Cond.constantLong "TaleHouseModel" 216 (255) ∈ gtbl := gt_in 1263 (by decide +kernel) rfl
set_option maxRecDepth 100000 in
theorem cn_Md_237 : Cond.constantLong "TaleHouseModel" 237 (1651470958) ∈ gtbl := gt_in 1258 (by decide +kernel) rfl
set_option maxRecDepth 100000 in
theorem cn_Md_239 : Cond.constantLong "TaleHouseModel" 239 (1684365668) ∈ gtbl := gt_in 1264 (by decide +kernel) rfl
set_option maxRecDepth 100000 in
theorem cn_Md_241 : Cond.constantLong "TaleHouseModel" 241 (26990) ∈ gtbl := gt_in 1265 (by decide +kernel) rfl
set_option maxRecDepth 100000 in
theorem cn_Md_243 : Cond.constantLong "TaleHouseModel" 243 (28526) ∈ gtbl := gt_in 1266 (by decide +kernel) rfl
set_option maxRecDepth 100000 in
theorem cn_Md_274 : Cond.constantLong "TaleHouseModel" 274 (31636739359862388) ∈ gtbl := gt_in 1333 (by decide +kernel) rfl
set_option maxRecDepth 100000 in
theorem cn_Md_276 : Cond.constantLong "TaleHouseModel" 276 (29807) ∈ gtbl := gt_in 1334 (by decide +kernel) rfl
set_option maxRecDepth 100000 in
theorem cn_Md_278 : Cond.constant "TaleHouseModel" 278 (99999) ∈ gtbl := gt_in 1335 (by decide +kernel) rfl
set_option maxRecDepth 100000 in
theorem cn_Md_279 : Cond.constantLong "TaleHouseModel" 279 (1818326117) ∈ gtbl := gt_in 1336 (by decide +kernel) rfl
set_option maxRecDepth 100000 in
theorem cn_Md_285 : Cond.constantLong "TaleHouseModel" 285 (-1) ∈ gtbl := gt_in 1346 (by decide +kernel) rfl
set_option maxRecDepth 100000 in
theorem cn_Md_287 : Cond.constantLong "TaleHouseModel" 287 (100) ∈ gtbl := gt_in 1347 (by decide +kernel) rfl
set_option maxRecDepth 100000 in
theorem cn_Md_301 : Cond.constantLong "TaleHouseModel" 301 (-9000000000000000000) ∈ gtbl := gt_in 1408 (by decide +kernel) rfl
