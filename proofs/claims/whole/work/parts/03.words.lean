/-- the words that methods stand on: the tables' good ones -/
def tt : List Cond := lw_tbl.filter goodWord
theorem tt_good : ∀ w ∈ tt, w ∈ lw_tbl ∧ ((w.onTables && w.keeps) = true ∨ ∃ ty, w = .arrayClass ty) := fun w h => ⟨(List.mem_filter.mp h).1, good_of_word (List.mem_filter.mp h).2⟩
theorem tt_0 {w : Cond} (h : w ∈ k2_sels lw_privs) (g : goodWord w = true) : w ∈ tt := List.mem_filter.mpr ⟨List.mem_append_left _ h, g⟩
theorem tt_1 {w : Cond} (h : w ∈ tables_1_1) (g : goodWord w = true) : w ∈ tt := List.mem_filter.mpr ⟨List.mem_append_right _ (List.mem_append_left _ h), g⟩
theorem tt_2 {w : Cond} (h : w ∈ tables_1_2) (g : goodWord w = true) : w ∈ tt := List.mem_filter.mpr ⟨List.mem_append_right _ (List.mem_append_right _ (List.mem_append_left _ h)), g⟩
theorem tt_3 {w : Cond} (h : w ∈ tables_1_3) (g : goodWord w = true) : w ∈ tt := List.mem_filter.mpr ⟨List.mem_append_right _ (List.mem_append_right _ (List.mem_append_right _ h)), g⟩
theorem tt_in {ws : List Cond} (ps : List Nat) (hp : ws = ps.filterMap (fun i => tables_1[i]?)) (hg : ws.all goodWord = true) : ∀ w ∈ ws, w ∈ tt := by
  intro w hw
  have h1 := List.all_eq_true.mp hg w hw
  rw [hp] at hw
  obtain ⟨i, -, hi⟩ := List.mem_filterMap.mp hw
  exact List.mem_filter.mpr ⟨List.mem_append_right _ (List.mem_of_getElem? hi), h1⟩
theorem wm_0 : Cond.classLink RL 7 RX4 ∈ tt := tt_1 (List.mem_of_getElem? (i := 8) rfl) rfl
theorem wm_1 : Cond.instantiable RX4 12 ∈ tt := tt_1 (List.mem_of_getElem? (i := 9) rfl) rfl
theorem wm_2 : Cond.initialized RX4 ∈ tt := tt_1 (List.mem_of_getElem? (i := 1) rfl) rfl
theorem wm_3 : Cond.classLink RL 10 RX5 ∈ tt := tt_2 (List.mem_of_getElem? (i := 171) rfl) rfl
theorem wm_4 : Cond.instantiable RX5 36 ∈ tt := tt_2 (List.mem_of_getElem? (i := 172) rfl) rfl
theorem wm_5 : Cond.initialized RX5 ∈ tt := tt_1 (List.mem_of_getElem? (i := 3) rfl) rfl
theorem wm_6 : Cond.methodLink RL 9 yX4_init ∈ tt := tt_1 (List.mem_of_getElem? (i := 10) rfl) rfl
theorem wm_7 : Cond.instanceMethod yX4_init ∈ tt := tt_1 (List.mem_of_getElem? (i := 11) rfl) rfl
theorem wm_8 : Cond.code yX4_init cX4_init 1 none ∈ tt := tt_1 (List.mem_of_getElem? (i := 12) rfl) rfl
theorem wm_9 : Cond.methodLink RX4 3 objectInit ∈ tt := tt_1 (List.mem_of_getElem? (i := 13) rfl) rfl
theorem wm_10 : Cond.instanceMethod objectInit ∈ tt := tt_1 (List.mem_of_getElem? (i := 14) rfl) rfl
theorem wm_11 : Cond.code objectInit ⟨#[0xb1]⟩ 1 none ∈ tt := tt_1 (List.mem_of_getElem? (i := 15) rfl) rfl
theorem wm_12 : Cond.arrayClass .int ∈ tt := tt_1 (List.mem_of_getElem? (i := 56) rfl) rfl
theorem wm_13 : Cond.fieldLink RX4 9 "CurveTies" "widths" "[I" ∈ tt := tt_1 (List.mem_of_getElem? (i := 61) rfl) rfl
theorem wm_14 : Cond.classLink RX4 13 RX2 ∈ tt := tt_1 (List.mem_of_getElem? (i := 16) rfl) rfl
theorem wm_15 : Cond.fieldLink RX4 15 "CurveTies" "notes" "[LCurveTies$Note;" ∈ tt := tt_1 (List.mem_of_getElem? (i := 62) rfl) rfl
theorem wm_16 : Cond.classLink RX4 19 RX1 ∈ tt := tt_1 (List.mem_of_getElem? (i := 18) rfl) rfl
theorem wm_17 : Cond.fieldLink RX4 21 "CurveTies" "bars" "[LCurveTies$Figure;" ∈ tt := tt_1 (List.mem_of_getElem? (i := 63) rfl) rfl
theorem wm_18 : Cond.classLink RX4 25 RX0 ∈ tt := tt_1 (List.mem_of_getElem? (i := 20) rfl) rfl
theorem wm_19 : Cond.fieldLink RX4 27 "CurveTies" "curves" "[LCurveTies$Curve;" ∈ tt := tt_1 (List.mem_of_getElem? (i := 64) rfl) rfl
theorem wm_20 : Cond.classLink RX4 31 RX3 ∈ tt := tt_1 (List.mem_of_getElem? (i := 22) rfl) rfl
theorem wm_21 : Cond.fieldLink RX4 33 "CurveTies" "parts" "[LCurveTies$Part;" ∈ tt := tt_1 (List.mem_of_getElem? (i := 65) rfl) rfl
theorem wm_22 : Cond.fieldLink RX4 41 "CurveTies" "trial" "LCurveTies$Figure;" ∈ tt := tt_1 (List.mem_of_getElem? (i := 66) rfl) rfl
theorem wm_23 : Cond.methodLink RX4 37 yX1_hullOn ∈ tt := tt_1 (List.mem_of_getElem? (i := 24) rfl) rfl
theorem wm_24 : Cond.static yX1_hullOn ∈ tt := tt_1 (List.mem_of_getElem? (i := 25) rfl) rfl
theorem wm_25 : Cond.initialized RX1 ∈ tt := tt_1 (List.mem_of_getElem? (i := 2) rfl) rfl
theorem wm_26 : Cond.code yX1_hullOn cX1_hullOn 1 (some (.object "CurveTies$Figure")) ∈ tt := tt_1 (List.mem_of_getElem? (i := 26) rfl) rfl
theorem wm_27 : Cond.classLink RX1 8 RX1 ∈ tt := tt_1 (List.mem_of_getElem? (i := 27) rfl) rfl
theorem wm_28 : Cond.instantiable RX1 7 ∈ tt := tt_1 (List.mem_of_getElem? (i := 28) rfl) rfl
theorem wm_29 : Cond.methodLink RX1 20 yX1_init ∈ tt := tt_1 (List.mem_of_getElem? (i := 29) rfl) rfl
theorem wm_30 : Cond.instanceMethod yX1_init ∈ tt := tt_1 (List.mem_of_getElem? (i := 30) rfl) rfl
theorem wm_31 : Cond.code yX1_init cX1_init 3 none ∈ tt := tt_1 (List.mem_of_getElem? (i := 31) rfl) rfl
theorem wm_32 : Cond.methodLink RX1 1 objectInit ∈ tt := tt_1 (List.mem_of_getElem? (i := 32) rfl) rfl
theorem wm_33 : Cond.fieldLink RX1 7 "CurveTies$Figure" "line" "I" ∈ tt := tt_1 (List.mem_of_getElem? (i := 33) rfl) rfl
theorem wm_34 : Cond.fieldLink RX1 13 "CurveTies$Figure" "xs" "[I" ∈ tt := tt_1 (List.mem_of_getElem? (i := 35) rfl) rfl
theorem wm_35 : Cond.fieldLink RX1 17 "CurveTies$Figure" "ys" "[I" ∈ tt := tt_1 (List.mem_of_getElem? (i := 36) rfl) rfl
theorem wm_36 : Cond.methodLink RX4 45 yX4_forgetAll ∈ tt := tt_1 (List.mem_of_getElem? (i := 57) rfl) rfl
theorem wm_37 : Cond.instanceMethod yX4_forgetAll ∈ tt := tt_1 (List.mem_of_getElem? (i := 59) rfl) rfl
theorem wm_38 : Cond.selects RX4 yX4_forgetAll yX4_forgetAll ∈ tt := tt_0 (List.mem_of_getElem? (i := 0) rfl) rfl
theorem wm_39 : Cond.code yX4_forgetAll cX4_forgetAll 1 none ∈ tt := tt_1 (List.mem_of_getElem? (i := 60) rfl) rfl
theorem wm_40 : Cond.fieldLink RX4 52 "CurveTies" "lineCount" "I" ∈ tt := tt_1 (List.mem_of_getElem? (i := 67) rfl) rfl
theorem wm_41 : Cond.fieldLink RX4 60 "CurveTies" "noteCount" "I" ∈ tt := tt_1 (List.mem_of_getElem? (i := 68) rfl) rfl
theorem wm_42 : Cond.fieldLink RX4 69 "CurveTies" "markCount" "I" ∈ tt := tt_1 (List.mem_of_getElem? (i := 69) rfl) rfl
theorem wm_43 : Cond.fieldLink RX4 72 "CurveTies" "wedgeCount" "I" ∈ tt := tt_1 (List.mem_of_getElem? (i := 70) rfl) rfl
theorem wm_44 : Cond.fieldLink RX4 169 "CurveTies" "curveCount" "I" ∈ tt := tt_1 (List.mem_of_getElem? (i := 71) rfl) rfl
theorem wm_45 : Cond.fieldLink RX4 86 "CurveTies" "partCount" "I" ∈ tt := tt_1 (List.mem_of_getElem? (i := 72) rfl) rfl
theorem wm_46 : Cond.methodLink RL 12 yX5_init ∈ tt := tt_2 (List.mem_of_getElem? (i := 173) rfl) rfl
theorem wm_47 : Cond.instanceMethod yX5_init ∈ tt := tt_2 (List.mem_of_getElem? (i := 174) rfl) rfl
theorem wm_48 : Cond.code yX5_init cX5_init 1 none ∈ tt := tt_2 (List.mem_of_getElem? (i := 175) rfl) rfl
theorem wm_49 : Cond.methodLink RX5 1 objectInit ∈ tt := tt_2 (List.mem_of_getElem? (i := 176) rfl) rfl
theorem wm_50 : Cond.fieldLink RX5 7 "CurveTiesModel" "widths" "[I" ∈ tt := tt_2 (List.mem_of_getElem? (i := 178) rfl) rfl
theorem wm_51 : Cond.fieldLink RX5 13 "CurveTiesModel" "noteLine" "[I" ∈ tt := tt_2 (List.mem_of_getElem? (i := 180) rfl) rfl
theorem wm_52 : Cond.fieldLink RX5 16 "CurveTiesModel" "noteX" "[I" ∈ tt := tt_2 (List.mem_of_getElem? (i := 181) rfl) rfl
theorem wm_53 : Cond.fieldLink RX5 19 "CurveTiesModel" "noteY" "[I" ∈ tt := tt_2 (List.mem_of_getElem? (i := 182) rfl) rfl
theorem wm_54 : Cond.arrayClass .boolean ∈ tt := tt_3 (List.mem_of_getElem? (i := 46) rfl) rfl
theorem wm_55 : Cond.fieldLink RX5 22 "CurveTiesModel" "noteUp" "[Z" ∈ tt := tt_2 (List.mem_of_getElem? (i := 183) rfl) rfl
theorem wm_56 : Cond.fieldLink RX5 26 "CurveTiesModel" "markLine" "[I" ∈ tt := tt_2 (List.mem_of_getElem? (i := 185) rfl) rfl
theorem wm_57 : Cond.fieldLink RX5 29 "CurveTiesModel" "markX" "[I" ∈ tt := tt_2 (List.mem_of_getElem? (i := 186) rfl) rfl
theorem wm_58 : Cond.fieldLink RX5 32 "CurveTiesModel" "markY" "[I" ∈ tt := tt_2 (List.mem_of_getElem? (i := 187) rfl) rfl
theorem wm_59 : Cond.fieldLink RX5 35 "CurveTiesModel" "markW" "[I" ∈ tt := tt_2 (List.mem_of_getElem? (i := 188) rfl) rfl
theorem wm_60 : Cond.fieldLink RX5 38 "CurveTiesModel" "markL" "[I" ∈ tt := tt_2 (List.mem_of_getElem? (i := 189) rfl) rfl
theorem wm_61 : Cond.fieldLink RX5 41 "CurveTiesModel" "wedgeLine" "[I" ∈ tt := tt_2 (List.mem_of_getElem? (i := 191) rfl) rfl
theorem wm_62 : Cond.fieldLink RX5 44 "CurveTiesModel" "wedgeFrom" "[I" ∈ tt := tt_2 (List.mem_of_getElem? (i := 192) rfl) rfl
theorem wm_63 : Cond.fieldLink RX5 47 "CurveTiesModel" "wedgeTo" "[I" ∈ tt := tt_2 (List.mem_of_getElem? (i := 193) rfl) rfl
theorem wm_64 : Cond.fieldLink RX5 50 "CurveTiesModel" "wedgeY" "[I" ∈ tt := tt_2 (List.mem_of_getElem? (i := 194) rfl) rfl
theorem wm_65 : Cond.fieldLink RX5 53 "CurveTiesModel" "wedgeO" "[I" ∈ tt := tt_2 (List.mem_of_getElem? (i := 195) rfl) rfl
theorem wm_66 : Cond.fieldLink RX5 56 "CurveTiesModel" "firsts" "[I" ∈ tt := tt_2 (List.mem_of_getElem? (i := 197) rfl) rfl
theorem wm_67 : Cond.fieldLink RX5 59 "CurveTiesModel" "seconds" "[I" ∈ tt := tt_2 (List.mem_of_getElem? (i := 198) rfl) rfl
theorem wm_68 : Cond.fieldLink RX5 62 "CurveTiesModel" "ties" "[Z" ∈ tt := tt_2 (List.mem_of_getElem? (i := 199) rfl) rfl
theorem wm_69 : Cond.fieldLink RX5 65 "CurveTiesModel" "sides" "[I" ∈ tt := tt_2 (List.mem_of_getElem? (i := 200) rfl) rfl
theorem wm_70 : Cond.fieldLink RX5 68 "CurveTiesModel" "partMany" "[I" ∈ tt := tt_2 (List.mem_of_getElem? (i := 201) rfl) rfl
theorem wm_71 : Cond.fieldLink RX5 71 "CurveTiesModel" "partLine" "[I" ∈ tt := tt_2 (List.mem_of_getElem? (i := 202) rfl) rfl
theorem wm_72 : Cond.fieldLink RX5 74 "CurveTiesModel" "x0" "[I" ∈ tt := tt_2 (List.mem_of_getElem? (i := 203) rfl) rfl
theorem wm_73 : Cond.fieldLink RX5 77 "CurveTiesModel" "y0" "[I" ∈ tt := tt_2 (List.mem_of_getElem? (i := 204) rfl) rfl
theorem wm_74 : Cond.fieldLink RX5 80 "CurveTiesModel" "x1" "[I" ∈ tt := tt_2 (List.mem_of_getElem? (i := 205) rfl) rfl
theorem wm_75 : Cond.fieldLink RX5 83 "CurveTiesModel" "y1" "[I" ∈ tt := tt_2 (List.mem_of_getElem? (i := 206) rfl) rfl
theorem wm_76 : Cond.fieldLink RX5 86 "CurveTiesModel" "chosen" "[I" ∈ tt := tt_2 (List.mem_of_getElem? (i := 207) rfl) rfl
theorem wm_77 : Cond.fieldLink RX5 89 "CurveTiesModel" "collides" "[I" ∈ tt := tt_2 (List.mem_of_getElem? (i := 208) rfl) rfl
theorem wm_78 : Cond.arrayClass .long ∈ tt := tt_3 (List.mem_of_getElem? (i := 47) rfl) rfl
theorem wm_79 : Cond.fieldLink RX5 92 "CurveTiesModel" "ax" "[J" ∈ tt := tt_2 (List.mem_of_getElem? (i := 209) rfl) rfl
theorem wm_80 : Cond.fieldLink RX5 96 "CurveTiesModel" "ay" "[J" ∈ tt := tt_2 (List.mem_of_getElem? (i := 210) rfl) rfl
theorem wm_81 : Cond.fieldLink RX5 99 "CurveTiesModel" "bx" "[J" ∈ tt := tt_2 (List.mem_of_getElem? (i := 211) rfl) rfl
theorem wm_82 : Cond.fieldLink RX5 102 "CurveTiesModel" "by" "[J" ∈ tt := tt_2 (List.mem_of_getElem? (i := 212) rfl) rfl
theorem wm_83 : Cond.methodLink RL 13 yX4_line ∈ tt := tt_1 (List.mem_of_getElem? (i := 98) rfl) rfl
theorem wm_84 : Cond.instanceMethod yX4_line ∈ tt := tt_1 (List.mem_of_getElem? (i := 99) rfl) rfl
theorem wm_85 : Cond.selects RX4 yX4_line yX4_line ∈ tt := tt_1 (List.mem_of_getElem? (i := 100) rfl) rfl
theorem wm_86 : Cond.code yX4_line cX4_line 2 (some .int) ∈ tt := tt_1 (List.mem_of_getElem? (i := 101) rfl) rfl
theorem wm_87 : Cond.methodLink RX4 48 yX4_isFrom ∈ tt := tt_1 (List.mem_of_getElem? (i := 102) rfl) rfl
theorem wm_88 : Cond.static yX4_isFrom ∈ tt := tt_1 (List.mem_of_getElem? (i := 103) rfl) rfl
theorem wm_89 : Cond.code yX4_isFrom cX4_isFrom 3 (some .boolean) ∈ tt := tt_1 (List.mem_of_getElem? (i := 104) rfl) rfl
theorem wm_90 : Cond.methodLink RL 17 yX5_line ∈ tt := tt_3 (List.mem_of_getElem? (i := 48) rfl) rfl
theorem wm_91 : Cond.instanceMethod yX5_line ∈ tt := tt_3 (List.mem_of_getElem? (i := 49) rfl) rfl
theorem wm_92 : Cond.selects RX5 yX5_line yX5_line ∈ tt := tt_3 (List.mem_of_getElem? (i := 50) rfl) rfl
theorem wm_93 : Cond.code yX5_line cX5_line 2 (some .int) ∈ tt := tt_3 (List.mem_of_getElem? (i := 51) rfl) rfl
theorem wm_94 : Cond.fieldLink RX5 105 "CurveTiesModel" "lines" "I" ∈ tt := tt_2 (List.mem_of_getElem? (i := 177) rfl) rfl
theorem wm_95 : Cond.methodLink RX5 109 yX5_in ∈ tt := tt_3 (List.mem_of_getElem? (i := 52) rfl) rfl
theorem wm_96 : Cond.static yX5_in ∈ tt := tt_3 (List.mem_of_getElem? (i := 53) rfl) rfl
theorem wm_97 : Cond.code yX5_in cX5_in 3 (some .boolean) ∈ tt := tt_3 (List.mem_of_getElem? (i := 54) rfl) rfl
theorem wm_98 : Cond.methodLink RL 18 yX4_note ∈ tt := tt_1 (List.mem_of_getElem? (i := 105) rfl) rfl
theorem wm_99 : Cond.instanceMethod yX4_note ∈ tt := tt_1 (List.mem_of_getElem? (i := 106) rfl) rfl
theorem wm_100 : Cond.selects RX4 yX4_note yX4_note ∈ tt := tt_1 (List.mem_of_getElem? (i := 107) rfl) rfl
theorem wm_101 : Cond.code yX4_note cX4_note 5 (some .int) ∈ tt := tt_1 (List.mem_of_getElem? (i := 108) rfl) rfl
theorem wm_102 : Cond.instantiable RX2 5 ∈ tt := tt_1 (List.mem_of_getElem? (i := 113) rfl) rfl
theorem wm_103 : Cond.initialized RX2 ∈ tt := tt_1 (List.mem_of_getElem? (i := 4) rfl) rfl
theorem wm_104 : Cond.methodLink RX4 56 yX4_isLine ∈ tt := tt_1 (List.mem_of_getElem? (i := 109) rfl) rfl
theorem wm_105 : Cond.instanceMethod yX4_isLine ∈ tt := tt_1 (List.mem_of_getElem? (i := 111) rfl) rfl
theorem wm_106 : Cond.selects RX4 yX4_isLine yX4_isLine ∈ tt := tt_0 (List.mem_of_getElem? (i := 1) rfl) rfl
theorem wm_107 : Cond.code yX4_isLine cX4_isLine 2 (some .boolean) ∈ tt := tt_1 (List.mem_of_getElem? (i := 112) rfl) rfl
theorem wm_108 : Cond.methodLink RX4 63 yX2_init ∈ tt := tt_1 (List.mem_of_getElem? (i := 114) rfl) rfl
theorem wm_109 : Cond.instanceMethod yX2_init ∈ tt := tt_1 (List.mem_of_getElem? (i := 115) rfl) rfl
theorem wm_110 : Cond.code yX2_init cX2_init 6 none ∈ tt := tt_1 (List.mem_of_getElem? (i := 116) rfl) rfl
theorem wm_111 : Cond.methodLink RX2 3 objectInit ∈ tt := tt_1 (List.mem_of_getElem? (i := 117) rfl) rfl
theorem wm_112 : Cond.fieldLink RX2 9 "CurveTies$Note" "number" "I" ∈ tt := tt_1 (List.mem_of_getElem? (i := 118) rfl) rfl
theorem wm_113 : Cond.fieldLink RX2 15 "CurveTies$Note" "line" "I" ∈ tt := tt_1 (List.mem_of_getElem? (i := 120) rfl) rfl
theorem wm_114 : Cond.fieldLink RX2 18 "CurveTies$Note" "x" "I" ∈ tt := tt_1 (List.mem_of_getElem? (i := 123) rfl) rfl
theorem wm_115 : Cond.fieldLink RX2 21 "CurveTies$Note" "y" "I" ∈ tt := tt_1 (List.mem_of_getElem? (i := 126) rfl) rfl
theorem wm_116 : Cond.fieldLink RX2 24 "CurveTies$Note" "up" "Z" ∈ tt := tt_1 (List.mem_of_getElem? (i := 129) rfl) rfl
theorem wm_117 : Cond.methodLink RL 22 yX5_note ∈ tt := tt_3 (List.mem_of_getElem? (i := 55) rfl) rfl
theorem wm_118 : Cond.instanceMethod yX5_note ∈ tt := tt_3 (List.mem_of_getElem? (i := 56) rfl) rfl
theorem wm_119 : Cond.selects RX5 yX5_note yX5_note ∈ tt := tt_3 (List.mem_of_getElem? (i := 57) rfl) rfl
theorem wm_120 : Cond.code yX5_note cX5_note 5 (some .int) ∈ tt := tt_3 (List.mem_of_getElem? (i := 58) rfl) rfl
theorem wm_121 : Cond.fieldLink RX5 113 "CurveTiesModel" "notes" "I" ∈ tt := tt_2 (List.mem_of_getElem? (i := 179) rfl) rfl
theorem wm_122 : Cond.methodLink RX5 116 yX5_isLine ∈ tt := tt_3 (List.mem_of_getElem? (i := 59) rfl) rfl
theorem wm_123 : Cond.instanceMethod yX5_isLine ∈ tt := tt_3 (List.mem_of_getElem? (i := 61) rfl) rfl
theorem wm_124 : Cond.selects RX5 yX5_isLine yX5_isLine ∈ tt := tt_0 (List.mem_of_getElem? (i := 18) rfl) rfl
theorem wm_125 : Cond.code yX5_isLine cX5_isLine 2 (some .boolean) ∈ tt := tt_3 (List.mem_of_getElem? (i := 62) rfl) rfl
theorem wm_126 : Cond.methodLink RL 23 yX4_mark ∈ tt := tt_1 (List.mem_of_getElem? (i := 142) rfl) rfl
theorem wm_127 : Cond.instanceMethod yX4_mark ∈ tt := tt_1 (List.mem_of_getElem? (i := 143) rfl) rfl
theorem wm_128 : Cond.selects RX4 yX4_mark yX4_mark ∈ tt := tt_1 (List.mem_of_getElem? (i := 144) rfl) rfl
theorem wm_129 : Cond.code yX4_mark cX4_mark 6 (some .int) ∈ tt := tt_1 (List.mem_of_getElem? (i := 145) rfl) rfl
theorem wm_130 : Cond.methodLink RX4 66 yX4_isBarPlace ∈ tt := tt_1 (List.mem_of_getElem? (i := 146) rfl) rfl
theorem wm_131 : Cond.instanceMethod yX4_isBarPlace ∈ tt := tt_1 (List.mem_of_getElem? (i := 148) rfl) rfl
theorem wm_132 : Cond.selects RX4 yX4_isBarPlace yX4_isBarPlace ∈ tt := tt_0 (List.mem_of_getElem? (i := 2) rfl) rfl
theorem wm_133 : Cond.code yX4_isBarPlace cX4_isBarPlace 4 (some .boolean) ∈ tt := tt_1 (List.mem_of_getElem? (i := 149) rfl) rfl
theorem wm_134 : Cond.methodLink RX4 75 yX1_rectangle ∈ tt := tt_1 (List.mem_of_getElem? (i := 150) rfl) rfl
theorem wm_135 : Cond.static yX1_rectangle ∈ tt := tt_1 (List.mem_of_getElem? (i := 151) rfl) rfl
theorem wm_136 : Cond.code yX1_rectangle cX1_rectangle 6 (some (.object "CurveTies$Figure")) ∈ tt := tt_1 (List.mem_of_getElem? (i := 152) rfl) rfl
theorem wm_137 : Cond.methodLink RX1 23 yX1_setCorner ∈ tt := tt_1 (List.mem_of_getElem? (i := 153) rfl) rfl
theorem wm_138 : Cond.instanceMethod yX1_setCorner ∈ tt := tt_1 (List.mem_of_getElem? (i := 154) rfl) rfl
theorem wm_139 : Cond.selects RX1 yX1_setCorner yX1_setCorner ∈ tt := tt_1 (List.mem_of_getElem? (i := 155) rfl) rfl
theorem wm_140 : Cond.code yX1_setCorner cX1_setCorner 4 none ∈ tt := tt_1 (List.mem_of_getElem? (i := 156) rfl) rfl
theorem wm_141 : Cond.methodLink RX1 27 yX1_setFrame ∈ tt := tt_1 (List.mem_of_getElem? (i := 157) rfl) rfl
theorem wm_142 : Cond.instanceMethod yX1_setFrame ∈ tt := tt_1 (List.mem_of_getElem? (i := 158) rfl) rfl
theorem wm_143 : Cond.selects RX1 yX1_setFrame yX1_setFrame ∈ tt := tt_1 (List.mem_of_getElem? (i := 159) rfl) rfl
theorem wm_144 : Cond.code yX1_setFrame cX1_setFrame 2 none ∈ tt := tt_1 (List.mem_of_getElem? (i := 160) rfl) rfl
theorem wm_145 : Cond.fieldLink RX1 30 "CurveTies$Figure" "left" "I" ∈ tt := tt_1 (List.mem_of_getElem? (i := 37) rfl) rfl
theorem wm_146 : Cond.fieldLink RX1 33 "CurveTies$Figure" "right" "I" ∈ tt := tt_1 (List.mem_of_getElem? (i := 38) rfl) rfl
theorem wm_147 : Cond.fieldLink RX1 36 "CurveTies$Figure" "bottom" "I" ∈ tt := tt_1 (List.mem_of_getElem? (i := 39) rfl) rfl
theorem wm_148 : Cond.fieldLink RX1 39 "CurveTies$Figure" "top" "I" ∈ tt := tt_1 (List.mem_of_getElem? (i := 40) rfl) rfl
theorem wm_149 : Cond.methodLink RX1 42 Lib.Math.min.name ∈ tt := tt_1 (List.mem_of_getElem? (i := 161) rfl) rfl
theorem wm_150 : Cond.static Lib.Math.min.name ∈ tt := tt_1 (List.mem_of_getElem? (i := 162) rfl) rfl
theorem wm_151 : Cond.initialized "java/lang/Math" ∈ tt := tt_1 (List.mem_of_getElem? (i := 5) rfl) rfl
theorem wm_152 : Cond.code Lib.Math.min.name Lib.Math.min.code 2 (some .int) ∈ tt := tt_1 (List.mem_of_getElem? (i := 163) rfl) rfl
theorem wm_153 : Cond.methodLink RX1 48 Lib.Math.max.name ∈ tt := tt_1 (List.mem_of_getElem? (i := 164) rfl) rfl
theorem wm_154 : Cond.static Lib.Math.max.name ∈ tt := tt_1 (List.mem_of_getElem? (i := 165) rfl) rfl
theorem wm_155 : Cond.code Lib.Math.max.name Lib.Math.max.code 2 (some .int) ∈ tt := tt_1 (List.mem_of_getElem? (i := 166) rfl) rfl
theorem wm_156 : Cond.methodLink RL 27 yX5_mark ∈ tt := tt_3 (List.mem_of_getElem? (i := 63) rfl) rfl
theorem wm_157 : Cond.instanceMethod yX5_mark ∈ tt := tt_3 (List.mem_of_getElem? (i := 64) rfl) rfl
theorem wm_158 : Cond.selects RX5 yX5_mark yX5_mark ∈ tt := tt_3 (List.mem_of_getElem? (i := 65) rfl) rfl
theorem wm_159 : Cond.code yX5_mark cX5_mark 6 (some .int) ∈ tt := tt_3 (List.mem_of_getElem? (i := 66) rfl) rfl
theorem wm_160 : Cond.fieldLink RX5 120 "CurveTiesModel" "marks" "I" ∈ tt := tt_2 (List.mem_of_getElem? (i := 184) rfl) rfl
theorem wm_161 : Cond.methodLink RL 28 yX4_wedge ∈ tt := tt_1 (List.mem_of_getElem? (i := 167) rfl) rfl
theorem wm_162 : Cond.instanceMethod yX4_wedge ∈ tt := tt_1 (List.mem_of_getElem? (i := 168) rfl) rfl
theorem wm_163 : Cond.selects RX4 yX4_wedge yX4_wedge ∈ tt := tt_1 (List.mem_of_getElem? (i := 169) rfl) rfl
theorem wm_164 : Cond.code yX4_wedge cX4_wedge 6 (some .int) ∈ tt := tt_1 (List.mem_of_getElem? (i := 170) rfl) rfl
theorem wm_165 : Cond.methodLink RX4 79 yX1_triangle ∈ tt := tt_1 (List.mem_of_getElem? (i := 171) rfl) rfl
theorem wm_166 : Cond.static yX1_triangle ∈ tt := tt_1 (List.mem_of_getElem? (i := 172) rfl) rfl
theorem wm_167 : Cond.code yX1_triangle cX1_triangle 6 (some (.object "CurveTies$Figure")) ∈ tt := tt_1 (List.mem_of_getElem? (i := 173) rfl) rfl
theorem wm_168 : Cond.methodLink RL 31 yX5_wedge ∈ tt := tt_3 (List.mem_of_getElem? (i := 67) rfl) rfl
theorem wm_169 : Cond.instanceMethod yX5_wedge ∈ tt := tt_3 (List.mem_of_getElem? (i := 68) rfl) rfl
theorem wm_170 : Cond.selects RX5 yX5_wedge yX5_wedge ∈ tt := tt_3 (List.mem_of_getElem? (i := 69) rfl) rfl
theorem wm_171 : Cond.code yX5_wedge cX5_wedge 6 (some .int) ∈ tt := tt_3 (List.mem_of_getElem? (i := 70) rfl) rfl
theorem wm_172 : Cond.fieldLink RX5 123 "CurveTiesModel" "wedges" "I" ∈ tt := tt_2 (List.mem_of_getElem? (i := 190) rfl) rfl
theorem wm_173 : Cond.methodLink RL 32 yX4_tie ∈ tt := tt_1 (List.mem_of_getElem? (i := 174) rfl) rfl
theorem wm_174 : Cond.instanceMethod yX4_tie ∈ tt := tt_1 (List.mem_of_getElem? (i := 175) rfl) rfl
theorem wm_175 : Cond.selects RX4 yX4_tie yX4_tie ∈ tt := tt_1 (List.mem_of_getElem? (i := 176) rfl) rfl
theorem wm_176 : Cond.code yX4_tie cX4_tie 3 (some .int) ∈ tt := tt_1 (List.mem_of_getElem? (i := 177) rfl) rfl
theorem wm_177 : Cond.methodLink RX4 82 yX4_addCurve ∈ tt := tt_1 (List.mem_of_getElem? (i := 178) rfl) rfl
theorem wm_178 : Cond.instanceMethod yX4_addCurve ∈ tt := tt_1 (List.mem_of_getElem? (i := 180) rfl) rfl
theorem wm_179 : Cond.selects RX4 yX4_addCurve yX4_addCurve ∈ tt := tt_0 (List.mem_of_getElem? (i := 3) rfl) rfl
theorem wm_180 : Cond.code yX4_addCurve cX4_addCurve 9 (some .int) ∈ tt := tt_1 (List.mem_of_getElem? (i := 181) rfl) rfl
theorem wm_181 : Cond.fieldLink RX4 185 "CurveTies$Note" "y" "I" ∈ tt := tt_1 (List.mem_of_getElem? (i := 128) rfl) rfl
theorem wm_182 : Cond.instantiable RX0 6 ∈ tt := tt_1 (List.mem_of_getElem? (i := 210) rfl) rfl
theorem wm_183 : Cond.initialized RX0 ∈ tt := tt_1 (List.mem_of_getElem? (i := 6) rfl) rfl
theorem wm_184 : Cond.fieldLink RX4 175 "CurveTies$Curve" "firstPart" "I" ∈ tt := tt_1 (List.mem_of_getElem? (i := 228) rfl) rfl
theorem wm_185 : Cond.methodLink RX4 178 yX4_isNote ∈ tt := tt_1 (List.mem_of_getElem? (i := 182) rfl) rfl
theorem wm_186 : Cond.instanceMethod yX4_isNote ∈ tt := tt_1 (List.mem_of_getElem? (i := 184) rfl) rfl
theorem wm_187 : Cond.selects RX4 yX4_isNote yX4_isNote ∈ tt := tt_0 (List.mem_of_getElem? (i := 4) rfl) rfl
theorem wm_188 : Cond.code yX4_isNote cX4_isNote 2 (some .boolean) ∈ tt := tt_1 (List.mem_of_getElem? (i := 185) rfl) rfl
theorem wm_189 : Cond.methodLink RX4 181 yX4_canBeJoined ∈ tt := tt_1 (List.mem_of_getElem? (i := 186) rfl) rfl
theorem wm_190 : Cond.instanceMethod yX4_canBeJoined ∈ tt := tt_1 (List.mem_of_getElem? (i := 188) rfl) rfl
theorem wm_191 : Cond.selects RX4 yX4_canBeJoined yX4_canBeJoined ∈ tt := tt_0 (List.mem_of_getElem? (i := 5) rfl) rfl
theorem wm_192 : Cond.code yX4_canBeJoined cX4_canBeJoined 3 (some .boolean) ∈ tt := tt_1 (List.mem_of_getElem? (i := 189) rfl) rfl
theorem wm_193 : Cond.fieldLink RX4 207 "CurveTies$Note" "line" "I" ∈ tt := tt_1 (List.mem_of_getElem? (i := 122) rfl) rfl
theorem wm_194 : Cond.fieldLink RX4 208 "CurveTies$Note" "x" "I" ∈ tt := tt_1 (List.mem_of_getElem? (i := 125) rfl) rfl
theorem wm_195 : Cond.methodLink RX4 203 yX2_isBefore ∈ tt := tt_1 (List.mem_of_getElem? (i := 190) rfl) rfl
theorem wm_196 : Cond.instanceMethod yX2_isBefore ∈ tt := tt_1 (List.mem_of_getElem? (i := 191) rfl) rfl
theorem wm_197 : Cond.selects RX2 yX2_isBefore yX2_isBefore ∈ tt := tt_1 (List.mem_of_getElem? (i := 192) rfl) rfl
theorem wm_198 : Cond.code yX2_isBefore cX2_isBefore 2 (some .boolean) ∈ tt := tt_1 (List.mem_of_getElem? (i := 193) rfl) rfl
theorem wm_199 : Cond.methodLink RX4 188 yX4_tieSide ∈ tt := tt_1 (List.mem_of_getElem? (i := 194) rfl) rfl
theorem wm_200 : Cond.instanceMethod yX4_tieSide ∈ tt := tt_1 (List.mem_of_getElem? (i := 196) rfl) rfl
theorem wm_201 : Cond.selects RX4 yX4_tieSide yX4_tieSide ∈ tt := tt_0 (List.mem_of_getElem? (i := 6) rfl) rfl
theorem wm_202 : Cond.code yX4_tieSide cX4_tieSide 5 (some .int) ∈ tt := tt_1 (List.mem_of_getElem? (i := 197) rfl) rfl
theorem wm_203 : Cond.methodLink RX4 211 yX2_isInChordOf ∈ tt := tt_1 (List.mem_of_getElem? (i := 198) rfl) rfl
theorem wm_204 : Cond.instanceMethod yX2_isInChordOf ∈ tt := tt_1 (List.mem_of_getElem? (i := 199) rfl) rfl
theorem wm_205 : Cond.selects RX2 yX2_isInChordOf yX2_isInChordOf ∈ tt := tt_1 (List.mem_of_getElem? (i := 200) rfl) rfl
theorem wm_206 : Cond.code yX2_isInChordOf cX2_isInChordOf 2 (some .boolean) ∈ tt := tt_1 (List.mem_of_getElem? (i := 201) rfl) rfl
theorem wm_207 : Cond.methodLink RX4 214 yX2_stemSide ∈ tt := tt_1 (List.mem_of_getElem? (i := 202) rfl) rfl
theorem wm_208 : Cond.instanceMethod yX2_stemSide ∈ tt := tt_1 (List.mem_of_getElem? (i := 203) rfl) rfl
theorem wm_209 : Cond.selects RX2 yX2_stemSide yX2_stemSide ∈ tt := tt_1 (List.mem_of_getElem? (i := 204) rfl) rfl
theorem wm_210 : Cond.code yX2_stemSide cX2_stemSide 1 (some .int) ∈ tt := tt_1 (List.mem_of_getElem? (i := 205) rfl) rfl
theorem wm_211 : Cond.methodLink RX4 192 yX4_slurSide ∈ tt := tt_1 (List.mem_of_getElem? (i := 206) rfl) rfl
theorem wm_212 : Cond.instanceMethod yX4_slurSide ∈ tt := tt_1 (List.mem_of_getElem? (i := 208) rfl) rfl
theorem wm_213 : Cond.selects RX4 yX4_slurSide yX4_slurSide ∈ tt := tt_0 (List.mem_of_getElem? (i := 7) rfl) rfl
theorem wm_214 : Cond.code yX4_slurSide cX4_slurSide 5 (some .int) ∈ tt := tt_1 (List.mem_of_getElem? (i := 209) rfl) rfl
theorem wm_215 : Cond.fieldLink RX4 217 "CurveTies$Note" "up" "Z" ∈ tt := tt_1 (List.mem_of_getElem? (i := 130) rfl) rfl
theorem wm_216 : Cond.methodLink RX4 196 yX0_init ∈ tt := tt_1 (List.mem_of_getElem? (i := 211) rfl) rfl
theorem wm_217 : Cond.instanceMethod yX0_init ∈ tt := tt_1 (List.mem_of_getElem? (i := 212) rfl) rfl
theorem wm_218 : Cond.code yX0_init cX0_init 7 none ∈ tt := tt_1 (List.mem_of_getElem? (i := 213) rfl) rfl
theorem wm_219 : Cond.methodLink RX0 1 objectInit ∈ tt := tt_1 (List.mem_of_getElem? (i := 214) rfl) rfl
theorem wm_220 : Cond.fieldLink RX0 7 "CurveTies$Curve" "number" "I" ∈ tt := tt_1 (List.mem_of_getElem? (i := 215) rfl) rfl
theorem wm_221 : Cond.fieldLink RX0 13 "CurveTies$Curve" "first" "LCurveTies$Note;" ∈ tt := tt_1 (List.mem_of_getElem? (i := 217) rfl) rfl
theorem wm_222 : Cond.fieldLink RX0 17 "CurveTies$Curve" "second" "LCurveTies$Note;" ∈ tt := tt_1 (List.mem_of_getElem? (i := 219) rfl) rfl
theorem wm_223 : Cond.fieldLink RX0 20 "CurveTies$Curve" "isTie" "Z" ∈ tt := tt_1 (List.mem_of_getElem? (i := 221) rfl) rfl
theorem wm_224 : Cond.fieldLink RX0 24 "CurveTies$Curve" "side" "I" ∈ tt := tt_1 (List.mem_of_getElem? (i := 224) rfl) rfl
theorem wm_225 : Cond.fieldLink RX0 27 "CurveTies$Curve" "firstPart" "I" ∈ tt := tt_1 (List.mem_of_getElem? (i := 227) rfl) rfl
theorem wm_226 : Cond.methodLink RX4 199 yX4_addParts ∈ tt := tt_2 (List.mem_of_getElem? (i := 2) rfl) rfl
theorem wm_227 : Cond.instanceMethod yX4_addParts ∈ tt := tt_2 (List.mem_of_getElem? (i := 4) rfl) rfl
theorem wm_228 : Cond.selects RX4 yX4_addParts yX4_addParts ∈ tt := tt_0 (List.mem_of_getElem? (i := 8) rfl) rfl
theorem wm_229 : Cond.code yX4_addParts cX4_addParts 6 none ∈ tt := tt_2 (List.mem_of_getElem? (i := 5) rfl) rfl
theorem wm_230 : Cond.fieldLink RX4 99 "CurveTies$Curve" "first" "LCurveTies$Note;" ∈ tt := tt_1 (List.mem_of_getElem? (i := 218) rfl) rfl
theorem wm_231 : Cond.fieldLink RX4 106 "CurveTies$Curve" "second" "LCurveTies$Note;" ∈ tt := tt_1 (List.mem_of_getElem? (i := 220) rfl) rfl
theorem wm_232 : Cond.instantiable RX3 10 ∈ tt := tt_2 (List.mem_of_getElem? (i := 23) rfl) rfl
theorem wm_233 : Cond.initialized RX3 ∈ tt := tt_1 (List.mem_of_getElem? (i := 7) rfl) rfl
theorem wm_234 : Cond.methodLink RX4 220 yX0_firstX ∈ tt := tt_2 (List.mem_of_getElem? (i := 6) rfl) rfl
theorem wm_235 : Cond.instanceMethod yX0_firstX ∈ tt := tt_2 (List.mem_of_getElem? (i := 7) rfl) rfl
theorem wm_236 : Cond.selects RX0 yX0_firstX yX0_firstX ∈ tt := tt_2 (List.mem_of_getElem? (i := 8) rfl) rfl
theorem wm_237 : Cond.code yX0_firstX cX0_firstX 1 (some .int) ∈ tt := tt_2 (List.mem_of_getElem? (i := 9) rfl) rfl
theorem wm_238 : Cond.fieldLink RX0 35 "CurveTies$Note" "x" "I" ∈ tt := tt_1 (List.mem_of_getElem? (i := 124) rfl) rfl
theorem wm_239 : Cond.methodLink RX4 223 yX0_endHeight ∈ tt := tt_2 (List.mem_of_getElem? (i := 10) rfl) rfl
theorem wm_240 : Cond.instanceMethod yX0_endHeight ∈ tt := tt_2 (List.mem_of_getElem? (i := 11) rfl) rfl
theorem wm_241 : Cond.selects RX0 yX0_endHeight yX0_endHeight ∈ tt := tt_2 (List.mem_of_getElem? (i := 12) rfl) rfl
theorem wm_242 : Cond.code yX0_endHeight cX0_endHeight 3 (some .int) ∈ tt := tt_2 (List.mem_of_getElem? (i := 13) rfl) rfl
theorem wm_243 : Cond.fieldLink RX0 38 "CurveTies$Note" "y" "I" ∈ tt := tt_1 (List.mem_of_getElem? (i := 127) rfl) rfl
theorem wm_244 : Cond.methodLink RX0 41 yX2_stemSide ∈ tt := tt_2 (List.mem_of_getElem? (i := 14) rfl) rfl
theorem wm_245 : Cond.methodLink RX4 226 yX0_secondX ∈ tt := tt_2 (List.mem_of_getElem? (i := 15) rfl) rfl
theorem wm_246 : Cond.instanceMethod yX0_secondX ∈ tt := tt_2 (List.mem_of_getElem? (i := 16) rfl) rfl
theorem wm_247 : Cond.selects RX0 yX0_secondX yX0_secondX ∈ tt := tt_2 (List.mem_of_getElem? (i := 17) rfl) rfl
theorem wm_248 : Cond.code yX0_secondX cX0_secondX 1 (some .int) ∈ tt := tt_2 (List.mem_of_getElem? (i := 18) rfl) rfl
theorem wm_249 : Cond.methodLink RX4 112 yX0_partCount ∈ tt := tt_2 (List.mem_of_getElem? (i := 19) rfl) rfl
theorem wm_250 : Cond.instanceMethod yX0_partCount ∈ tt := tt_2 (List.mem_of_getElem? (i := 20) rfl) rfl
theorem wm_251 : Cond.selects RX0 yX0_partCount yX0_partCount ∈ tt := tt_2 (List.mem_of_getElem? (i := 21) rfl) rfl
theorem wm_252 : Cond.code yX0_partCount cX0_partCount 1 (some .int) ∈ tt := tt_2 (List.mem_of_getElem? (i := 22) rfl) rfl
theorem wm_253 : Cond.fieldLink RX0 30 "CurveTies$Note" "line" "I" ∈ tt := tt_1 (List.mem_of_getElem? (i := 121) rfl) rfl
theorem wm_254 : Cond.methodLink RX4 229 yX3_init ∈ tt := tt_2 (List.mem_of_getElem? (i := 24) rfl) rfl
theorem wm_255 : Cond.instanceMethod yX3_init ∈ tt := tt_2 (List.mem_of_getElem? (i := 25) rfl) rfl
theorem wm_256 : Cond.code yX3_init cX3_init 7 none ∈ tt := tt_2 (List.mem_of_getElem? (i := 26) rfl) rfl
theorem wm_257 : Cond.methodLink RX3 1 objectInit ∈ tt := tt_2 (List.mem_of_getElem? (i := 27) rfl) rfl
theorem wm_258 : Cond.fieldLink RX3 9 "CurveTies$Part" "chosen" "I" ∈ tt := tt_2 (List.mem_of_getElem? (i := 41) rfl) rfl
theorem wm_259 : Cond.fieldLink RX3 13 "CurveTies$Part" "curve" "LCurveTies$Curve;" ∈ tt := tt_2 (List.mem_of_getElem? (i := 30) rfl) rfl
theorem wm_260 : Cond.fieldLink RX3 17 "CurveTies$Part" "line" "I" ∈ tt := tt_2 (List.mem_of_getElem? (i := 31) rfl) rfl
theorem wm_261 : Cond.fieldLink RX3 20 "CurveTies$Part" "fromX" "I" ∈ tt := tt_2 (List.mem_of_getElem? (i := 33) rfl) rfl
theorem wm_262 : Cond.fieldLink RX3 23 "CurveTies$Part" "fromY" "I" ∈ tt := tt_2 (List.mem_of_getElem? (i := 34) rfl) rfl
theorem wm_263 : Cond.fieldLink RX3 26 "CurveTies$Part" "toX" "I" ∈ tt := tt_2 (List.mem_of_getElem? (i := 35) rfl) rfl
theorem wm_264 : Cond.fieldLink RX3 29 "CurveTies$Part" "toY" "I" ∈ tt := tt_2 (List.mem_of_getElem? (i := 36) rfl) rfl
theorem wm_265 : Cond.methodLink RX3 32 Lib.Math.min.name ∈ tt := tt_2 (List.mem_of_getElem? (i := 28) rfl) rfl
theorem wm_266 : Cond.fieldLink RX3 38 "CurveTies$Part" "arch" "I" ∈ tt := tt_2 (List.mem_of_getElem? (i := 37) rfl) rfl
theorem wm_267 : Cond.fieldLink RX3 47 "CurveTies$Part" "hull" "LCurveTies$Figure;" ∈ tt := tt_2 (List.mem_of_getElem? (i := 39) rfl) rfl
theorem wm_268 : Cond.methodLink RX3 41 yX1_hullOn ∈ tt := tt_2 (List.mem_of_getElem? (i := 29) rfl) rfl
theorem wm_269 : Cond.methodLink RX4 232 yX4_addPart ∈ tt := tt_2 (List.mem_of_getElem? (i := 65) rfl) rfl
theorem wm_270 : Cond.instanceMethod yX4_addPart ∈ tt := tt_2 (List.mem_of_getElem? (i := 67) rfl) rfl
theorem wm_271 : Cond.selects RX4 yX4_addPart yX4_addPart ∈ tt := tt_0 (List.mem_of_getElem? (i := 9) rfl) rfl
theorem wm_272 : Cond.code yX4_addPart cX4_addPart 2 none ∈ tt := tt_2 (List.mem_of_getElem? (i := 68) rfl) rfl
theorem wm_273 : Cond.methodLink RX4 92 yX4_choose ∈ tt := tt_2 (List.mem_of_getElem? (i := 69) rfl) rfl
theorem wm_274 : Cond.instanceMethod yX4_choose ∈ tt := tt_2 (List.mem_of_getElem? (i := 71) rfl) rfl
theorem wm_275 : Cond.selects RX4 yX4_choose yX4_choose ∈ tt := tt_0 (List.mem_of_getElem? (i := 10) rfl) rfl
theorem wm_276 : Cond.code yX4_choose cX4_choose 4 none ∈ tt := tt_2 (List.mem_of_getElem? (i := 72) rfl) rfl
theorem wm_277 : Cond.fieldLink RX4 130 "CurveTies$Part" "collides" "Z" ∈ tt := tt_2 (List.mem_of_getElem? (i := 43) rfl) rfl
theorem wm_278 : Cond.fieldLink RX4 89 "CurveTies$Part" "chosen" "I" ∈ tt := tt_2 (List.mem_of_getElem? (i := 42) rfl) rfl
theorem wm_279 : Cond.fieldLink RX4 139 "CurveTies$Part" "hull" "LCurveTies$Figure;" ∈ tt := tt_2 (List.mem_of_getElem? (i := 40) rfl) rfl
theorem wm_280 : Cond.methodLink RX4 136 yX3_candidateCount ∈ tt := tt_2 (List.mem_of_getElem? (i := 73) rfl) rfl
theorem wm_281 : Cond.instanceMethod yX3_candidateCount ∈ tt := tt_2 (List.mem_of_getElem? (i := 74) rfl) rfl
theorem wm_282 : Cond.selects RX3 yX3_candidateCount yX3_candidateCount ∈ tt := tt_2 (List.mem_of_getElem? (i := 75) rfl) rfl
theorem wm_283 : Cond.code yX3_candidateCount cX3_candidateCount 1 (some .int) ∈ tt := tt_2 (List.mem_of_getElem? (i := 76) rfl) rfl
theorem wm_284 : Cond.fieldLink RX3 51 "CurveTies$Curve" "isTie" "Z" ∈ tt := tt_1 (List.mem_of_getElem? (i := 222) rfl) rfl
theorem wm_285 : Cond.methodLink RX4 126 yX3_badness ∈ tt := tt_2 (List.mem_of_getElem? (i := 77) rfl) rfl
theorem wm_286 : Cond.instanceMethod yX3_badness ∈ tt := tt_2 (List.mem_of_getElem? (i := 78) rfl) rfl
theorem wm_287 : Cond.selects RX3 yX3_badness yX3_badness ∈ tt := tt_2 (List.mem_of_getElem? (i := 79) rfl) rfl
theorem wm_288 : Cond.code yX3_badness cX3_badness 4 (some .int) ∈ tt := tt_2 (List.mem_of_getElem? (i := 80) rfl) rfl
theorem wm_289 : Cond.methodLink RX4 146 yX3_draw ∈ tt := tt_2 (List.mem_of_getElem? (i := 81) rfl) rfl
theorem wm_290 : Cond.instanceMethod yX3_draw ∈ tt := tt_2 (List.mem_of_getElem? (i := 82) rfl) rfl
theorem wm_291 : Cond.selects RX3 yX3_draw yX3_draw ∈ tt := tt_2 (List.mem_of_getElem? (i := 83) rfl) rfl
theorem wm_292 : Cond.code yX3_draw cX3_draw 8 none ∈ tt := tt_2 (List.mem_of_getElem? (i := 84) rfl) rfl
theorem wm_293 : Cond.fieldLink RX3 60 "CurveTies$Curve" "side" "I" ∈ tt := tt_1 (List.mem_of_getElem? (i := 225) rfl) rfl
theorem wm_294 : Cond.fieldLink RX3 63 "CurveTies$Figure" "line" "I" ∈ tt := tt_1 (List.mem_of_getElem? (i := 34) rfl) rfl
theorem wm_295 : Cond.methodLink RX3 64 yX1_setCorner ∈ tt := tt_2 (List.mem_of_getElem? (i := 85) rfl) rfl
theorem wm_296 : Cond.methodLink RX3 68 yX1_setFrame ∈ tt := tt_2 (List.mem_of_getElem? (i := 86) rfl) rfl
theorem wm_297 : Cond.methodLink RX4 150 yX4_barsMet ∈ tt := tt_2 (List.mem_of_getElem? (i := 87) rfl) rfl
theorem wm_298 : Cond.instanceMethod yX4_barsMet ∈ tt := tt_2 (List.mem_of_getElem? (i := 89) rfl) rfl
theorem wm_299 : Cond.selects RX4 yX4_barsMet yX4_barsMet ∈ tt := tt_0 (List.mem_of_getElem? (i := 11) rfl) rfl
theorem wm_300 : Cond.code yX4_barsMet cX4_barsMet 4 (some .int) ∈ tt := tt_2 (List.mem_of_getElem? (i := 90) rfl) rfl
theorem wm_301 : Cond.methodLink RX4 235 yX1_meets ∈ tt := tt_2 (List.mem_of_getElem? (i := 91) rfl) rfl
theorem wm_302 : Cond.instanceMethod yX1_meets ∈ tt := tt_2 (List.mem_of_getElem? (i := 92) rfl) rfl
theorem wm_303 : Cond.selects RX1 yX1_meets yX1_meets ∈ tt := tt_2 (List.mem_of_getElem? (i := 93) rfl) rfl
theorem wm_304 : Cond.code yX1_meets cX1_meets 2 (some .boolean) ∈ tt := tt_2 (List.mem_of_getElem? (i := 94) rfl) rfl
theorem wm_305 : Cond.methodLink RX1 51 yX1_hasEdgeBefore ∈ tt := tt_2 (List.mem_of_getElem? (i := 95) rfl) rfl
theorem wm_306 : Cond.instanceMethod yX1_hasEdgeBefore ∈ tt := tt_2 (List.mem_of_getElem? (i := 97) rfl) rfl
theorem wm_307 : Cond.selects RX1 yX1_hasEdgeBefore yX1_hasEdgeBefore ∈ tt := tt_0 (List.mem_of_getElem? (i := 12) rfl) rfl
theorem wm_308 : Cond.code yX1_hasEdgeBefore cX1_hasEdgeBefore 4 (some .boolean) ∈ tt := tt_2 (List.mem_of_getElem? (i := 98) rfl) rfl
theorem wm_309 : Cond.methodLink RX1 55 yX1_separates ∈ tt := tt_2 (List.mem_of_getElem? (i := 99) rfl) rfl
theorem wm_310 : Cond.instanceMethod yX1_separates ∈ tt := tt_2 (List.mem_of_getElem? (i := 101) rfl) rfl
theorem wm_311 : Cond.selects RX1 yX1_separates yX1_separates ∈ tt := tt_0 (List.mem_of_getElem? (i := 13) rfl) rfl
theorem wm_312 : Cond.code yX1_separates cX1_separates 11 (some .boolean) ∈ tt := tt_2 (List.mem_of_getElem? (i := 102) rfl) rfl
theorem wm_313 : Cond.methodLink RX4 153 yX4_hullsMet ∈ tt := tt_2 (List.mem_of_getElem? (i := 103) rfl) rfl
theorem wm_314 : Cond.instanceMethod yX4_hullsMet ∈ tt := tt_2 (List.mem_of_getElem? (i := 105) rfl) rfl
theorem wm_315 : Cond.selects RX4 yX4_hullsMet yX4_hullsMet ∈ tt := tt_0 (List.mem_of_getElem? (i := 14) rfl) rfl
theorem wm_316 : Cond.code yX4_hullsMet cX4_hullsMet 5 (some .int) ∈ tt := tt_2 (List.mem_of_getElem? (i := 106) rfl) rfl
theorem wm_317 : Cond.methodLink RX4 165 yX3_liesWithin ∈ tt := tt_2 (List.mem_of_getElem? (i := 107) rfl) rfl
theorem wm_318 : Cond.instanceMethod yX3_liesWithin ∈ tt := tt_2 (List.mem_of_getElem? (i := 108) rfl) rfl
theorem wm_319 : Cond.selects RX3 yX3_liesWithin yX3_liesWithin ∈ tt := tt_2 (List.mem_of_getElem? (i := 109) rfl) rfl
theorem wm_320 : Cond.code yX3_liesWithin cX3_liesWithin 2 (some .boolean) ∈ tt := tt_2 (List.mem_of_getElem? (i := 110) rfl) rfl
theorem wm_321 : Cond.fieldLink RX3 57 "CurveTies$Curve" "number" "I" ∈ tt := tt_1 (List.mem_of_getElem? (i := 216) rfl) rfl
theorem wm_322 : Cond.methodLink RL 36 yX5_tie ∈ tt := tt_3 (List.mem_of_getElem? (i := 71) rfl) rfl
theorem wm_323 : Cond.instanceMethod yX5_tie ∈ tt := tt_3 (List.mem_of_getElem? (i := 72) rfl) rfl
theorem wm_324 : Cond.selects RX5 yX5_tie yX5_tie ∈ tt := tt_3 (List.mem_of_getElem? (i := 73) rfl) rfl
theorem wm_325 : Cond.code yX5_tie cX5_tie 3 (some .int) ∈ tt := tt_3 (List.mem_of_getElem? (i := 74) rfl) rfl
theorem wm_326 : Cond.methodLink RX5 147 yX5_comes ∈ tt := tt_3 (List.mem_of_getElem? (i := 75) rfl) rfl
theorem wm_327 : Cond.instanceMethod yX5_comes ∈ tt := tt_3 (List.mem_of_getElem? (i := 77) rfl) rfl
theorem wm_328 : Cond.selects RX5 yX5_comes yX5_comes ∈ tt := tt_0 (List.mem_of_getElem? (i := 19) rfl) rfl
theorem wm_329 : Cond.code yX5_comes cX5_comes 6 (some .int) ∈ tt := tt_3 (List.mem_of_getElem? (i := 78) rfl) rfl
theorem wm_330 : Cond.fieldLink RX5 136 "CurveTiesModel" "curves" "I" ∈ tt := tt_2 (List.mem_of_getElem? (i := 196) rfl) rfl
theorem wm_331 : Cond.methodLink RX5 130 yX5_isNote ∈ tt := tt_3 (List.mem_of_getElem? (i := 79) rfl) rfl
theorem wm_332 : Cond.instanceMethod yX5_isNote ∈ tt := tt_3 (List.mem_of_getElem? (i := 81) rfl) rfl
theorem wm_333 : Cond.selects RX5 yX5_isNote yX5_isNote ∈ tt := tt_0 (List.mem_of_getElem? (i := 20) rfl) rfl
theorem wm_334 : Cond.code yX5_isNote cX5_isNote 2 (some .boolean) ∈ tt := tt_3 (List.mem_of_getElem? (i := 82) rfl) rfl
theorem wm_335 : Cond.methodLink RX5 133 yX5_mayBe ∈ tt := tt_3 (List.mem_of_getElem? (i := 83) rfl) rfl
theorem wm_336 : Cond.instanceMethod yX5_mayBe ∈ tt := tt_3 (List.mem_of_getElem? (i := 85) rfl) rfl
theorem wm_337 : Cond.selects RX5 yX5_mayBe yX5_mayBe ∈ tt := tt_0 (List.mem_of_getElem? (i := 21) rfl) rfl
theorem wm_338 : Cond.code yX5_mayBe cX5_mayBe 3 (some .boolean) ∈ tt := tt_3 (List.mem_of_getElem? (i := 86) rfl) rfl
theorem wm_339 : Cond.methodLink RX5 126 yX5_isBefore ∈ tt := tt_3 (List.mem_of_getElem? (i := 87) rfl) rfl
theorem wm_340 : Cond.instanceMethod yX5_isBefore ∈ tt := tt_3 (List.mem_of_getElem? (i := 89) rfl) rfl
theorem wm_341 : Cond.selects RX5 yX5_isBefore yX5_isBefore ∈ tt := tt_0 (List.mem_of_getElem? (i := 22) rfl) rfl
theorem wm_342 : Cond.code yX5_isBefore cX5_isBefore 3 (some .boolean) ∈ tt := tt_3 (List.mem_of_getElem? (i := 90) rfl) rfl
theorem wm_343 : Cond.methodLink RX5 139 yX5_layOut ∈ tt := tt_3 (List.mem_of_getElem? (i := 91) rfl) rfl
theorem wm_344 : Cond.instanceMethod yX5_layOut ∈ tt := tt_3 (List.mem_of_getElem? (i := 93) rfl) rfl
theorem wm_345 : Cond.selects RX5 yX5_layOut yX5_layOut ∈ tt := tt_0 (List.mem_of_getElem? (i := 23) rfl) rfl
theorem wm_346 : Cond.code yX5_layOut cX5_layOut 8 none ∈ tt := tt_3 (List.mem_of_getElem? (i := 94) rfl) rfl
theorem wm_347 : Cond.methodLink RX5 151 yX5_sideOfTie ∈ tt := tt_3 (List.mem_of_getElem? (i := 95) rfl) rfl
theorem wm_348 : Cond.instanceMethod yX5_sideOfTie ∈ tt := tt_3 (List.mem_of_getElem? (i := 97) rfl) rfl
theorem wm_349 : Cond.selects RX5 yX5_sideOfTie yX5_sideOfTie ∈ tt := tt_0 (List.mem_of_getElem? (i := 24) rfl) rfl
theorem wm_350 : Cond.code yX5_sideOfTie cX5_sideOfTie 5 (some .int) ∈ tt := tt_3 (List.mem_of_getElem? (i := 98) rfl) rfl
theorem wm_351 : Cond.methodLink RX5 155 yX5_sideOfSlur ∈ tt := tt_3 (List.mem_of_getElem? (i := 99) rfl) rfl
theorem wm_352 : Cond.instanceMethod yX5_sideOfSlur ∈ tt := tt_3 (List.mem_of_getElem? (i := 101) rfl) rfl
theorem wm_353 : Cond.selects RX5 yX5_sideOfSlur yX5_sideOfSlur ∈ tt := tt_0 (List.mem_of_getElem? (i := 25) rfl) rfl
theorem wm_354 : Cond.code yX5_sideOfSlur cX5_sideOfSlur 6 (some .int) ∈ tt := tt_3 (List.mem_of_getElem? (i := 102) rfl) rfl
theorem wm_355 : Cond.methodLink RX5 159 yX5_endOf ∈ tt := tt_3 (List.mem_of_getElem? (i := 103) rfl) rfl
theorem wm_356 : Cond.instanceMethod yX5_endOf ∈ tt := tt_3 (List.mem_of_getElem? (i := 105) rfl) rfl
theorem wm_357 : Cond.selects RX5 yX5_endOf yX5_endOf ∈ tt := tt_0 (List.mem_of_getElem? (i := 26) rfl) rfl
theorem wm_358 : Cond.code yX5_endOf cX5_endOf 3 (some .int) ∈ tt := tt_3 (List.mem_of_getElem? (i := 106) rfl) rfl
theorem wm_359 : Cond.methodLink RX5 162 yX5_lay ∈ tt := tt_3 (List.mem_of_getElem? (i := 107) rfl) rfl
theorem wm_360 : Cond.instanceMethod yX5_lay ∈ tt := tt_3 (List.mem_of_getElem? (i := 109) rfl) rfl
theorem wm_361 : Cond.selects RX5 yX5_lay yX5_lay ∈ tt := tt_0 (List.mem_of_getElem? (i := 27) rfl) rfl
theorem wm_362 : Cond.code yX5_lay cX5_lay 7 none ∈ tt := tt_3 (List.mem_of_getElem? (i := 110) rfl) rfl
theorem wm_363 : Cond.methodLink RX5 143 yX5_choose ∈ tt := tt_3 (List.mem_of_getElem? (i := 111) rfl) rfl
theorem wm_364 : Cond.instanceMethod yX5_choose ∈ tt := tt_3 (List.mem_of_getElem? (i := 113) rfl) rfl
theorem wm_365 : Cond.selects RX5 yX5_choose yX5_choose ∈ tt := tt_0 (List.mem_of_getElem? (i := 28) rfl) rfl
theorem wm_366 : Cond.code yX5_choose cX5_choose 7 none ∈ tt := tt_3 (List.mem_of_getElem? (i := 114) rfl) rfl
theorem wm_367 : Cond.methodLink RX5 212 yX5_candidates ∈ tt := tt_3 (List.mem_of_getElem? (i := 115) rfl) rfl
theorem wm_368 : Cond.instanceMethod yX5_candidates ∈ tt := tt_3 (List.mem_of_getElem? (i := 117) rfl) rfl
theorem wm_369 : Cond.selects RX5 yX5_candidates yX5_candidates ∈ tt := tt_0 (List.mem_of_getElem? (i := 29) rfl) rfl
theorem wm_370 : Cond.code yX5_candidates cX5_candidates 2 (some .int) ∈ tt := tt_3 (List.mem_of_getElem? (i := 118) rfl) rfl
theorem wm_371 : Cond.methodLink RX5 215 yX5_badnessOf ∈ tt := tt_3 (List.mem_of_getElem? (i := 119) rfl) rfl
theorem wm_372 : Cond.static yX5_badnessOf ∈ tt := tt_3 (List.mem_of_getElem? (i := 120) rfl) rfl
theorem wm_373 : Cond.code yX5_badnessOf cX5_badnessOf 3 (some .int) ∈ tt := tt_3 (List.mem_of_getElem? (i := 121) rfl) rfl
theorem wm_374 : Cond.methodLink RX5 218 yX5_bars ∈ tt := tt_3 (List.mem_of_getElem? (i := 122) rfl) rfl
theorem wm_375 : Cond.instanceMethod yX5_bars ∈ tt := tt_3 (List.mem_of_getElem? (i := 124) rfl) rfl
theorem wm_376 : Cond.selects RX5 yX5_bars yX5_bars ∈ tt := tt_0 (List.mem_of_getElem? (i := 30) rfl) rfl
theorem wm_377 : Cond.code yX5_bars cX5_bars 5 (some .int) ∈ tt := tt_3 (List.mem_of_getElem? (i := 125) rfl) rfl
theorem wm_378 : Cond.methodLink RX5 198 yX5_ask ∈ tt := tt_3 (List.mem_of_getElem? (i := 126) rfl) rfl
theorem wm_379 : Cond.instanceMethod yX5_ask ∈ tt := tt_3 (List.mem_of_getElem? (i := 128) rfl) rfl
theorem wm_380 : Cond.selects RX5 yX5_ask yX5_ask ∈ tt := tt_0 (List.mem_of_getElem? (i := 31) rfl) rfl
theorem wm_381 : Cond.code yX5_ask cX5_ask 4 none ∈ tt := tt_3 (List.mem_of_getElem? (i := 129) rfl) rfl
theorem wm_382 : Cond.methodLink RX5 191 yX5_px ∈ tt := tt_3 (List.mem_of_getElem? (i := 130) rfl) rfl
theorem wm_383 : Cond.instanceMethod yX5_px ∈ tt := tt_3 (List.mem_of_getElem? (i := 132) rfl) rfl
theorem wm_384 : Cond.selects RX5 yX5_px yX5_px ∈ tt := tt_0 (List.mem_of_getElem? (i := 32) rfl) rfl
theorem wm_385 : Cond.code yX5_px cX5_px 4 (some .int) ∈ tt := tt_3 (List.mem_of_getElem? (i := 133) rfl) rfl
theorem wm_386 : Cond.methodLink RX5 194 yX5_py ∈ tt := tt_3 (List.mem_of_getElem? (i := 134) rfl) rfl
theorem wm_387 : Cond.instanceMethod yX5_py ∈ tt := tt_3 (List.mem_of_getElem? (i := 136) rfl) rfl
theorem wm_388 : Cond.selects RX5 yX5_py yX5_py ∈ tt := tt_0 (List.mem_of_getElem? (i := 33) rfl) rfl
theorem wm_389 : Cond.code yX5_py cX5_py 9 (some .int) ∈ tt := tt_3 (List.mem_of_getElem? (i := 137) rfl) rfl
theorem wm_390 : Cond.methodLink RX5 166 yX5_arch ∈ tt := tt_3 (List.mem_of_getElem? (i := 138) rfl) rfl
theorem wm_391 : Cond.instanceMethod yX5_arch ∈ tt := tt_3 (List.mem_of_getElem? (i := 140) rfl) rfl
theorem wm_392 : Cond.selects RX5 yX5_arch yX5_arch ∈ tt := tt_0 (List.mem_of_getElem? (i := 34) rfl) rfl
theorem wm_393 : Cond.code yX5_arch cX5_arch 3 (some .int) ∈ tt := tt_3 (List.mem_of_getElem? (i := 141) rfl) rfl
theorem wm_394 : Cond.methodLink RX5 201 yX5_other ∈ tt := tt_3 (List.mem_of_getElem? (i := 142) rfl) rfl
theorem wm_395 : Cond.instanceMethod yX5_other ∈ tt := tt_3 (List.mem_of_getElem? (i := 144) rfl) rfl
theorem wm_396 : Cond.selects RX5 yX5_other yX5_other ∈ tt := tt_0 (List.mem_of_getElem? (i := 35) rfl) rfl
theorem wm_397 : Cond.code yX5_other cX5_other 6 none ∈ tt := tt_3 (List.mem_of_getElem? (i := 145) rfl) rfl
theorem wm_398 : Cond.methodLink RX5 205 yX5_meets ∈ tt := tt_3 (List.mem_of_getElem? (i := 146) rfl) rfl
theorem wm_399 : Cond.instanceMethod yX5_meets ∈ tt := tt_3 (List.mem_of_getElem? (i := 148) rfl) rfl
theorem wm_400 : Cond.selects RX5 yX5_meets yX5_meets ∈ tt := tt_0 (List.mem_of_getElem? (i := 36) rfl) rfl
theorem wm_401 : Cond.code yX5_meets cX5_meets 6 (some .boolean) ∈ tt := tt_3 (List.mem_of_getElem? (i := 149) rfl) rfl
theorem wm_402 : Cond.methodLink RX5 183 yX5_isWithin ∈ tt := tt_3 (List.mem_of_getElem? (i := 150) rfl) rfl
theorem wm_403 : Cond.static yX5_isWithin ∈ tt := tt_3 (List.mem_of_getElem? (i := 151) rfl) rfl
theorem wm_404 : Cond.code yX5_isWithin cX5_isWithin 18 (some .boolean) ∈ tt := tt_3 (List.mem_of_getElem? (i := 152) rfl) rfl
theorem wm_405 : Cond.methodLink RX5 175 yX5_turn ∈ tt := tt_3 (List.mem_of_getElem? (i := 153) rfl) rfl
theorem wm_406 : Cond.static yX5_turn ∈ tt := tt_3 (List.mem_of_getElem? (i := 154) rfl) rfl
theorem wm_407 : Cond.code yX5_turn cX5_turn 14 (some .long) ∈ tt := tt_3 (List.mem_of_getElem? (i := 155) rfl) rfl
theorem wm_408 : Cond.constantLong RX5 169 (-1) ∈ tt := tt_3 (List.mem_of_getElem? (i := 156) rfl) rfl
theorem wm_409 : Cond.methodLink RX5 187 yX5_cross ∈ tt := tt_3 (List.mem_of_getElem? (i := 157) rfl) rfl
theorem wm_410 : Cond.instanceMethod yX5_cross ∈ tt := tt_3 (List.mem_of_getElem? (i := 159) rfl) rfl
theorem wm_411 : Cond.selects RX5 yX5_cross yX5_cross ∈ tt := tt_0 (List.mem_of_getElem? (i := 37) rfl) rfl
theorem wm_412 : Cond.code yX5_cross cX5_cross 13 (some .boolean) ∈ tt := tt_3 (List.mem_of_getElem? (i := 160) rfl) rfl
theorem wm_413 : Cond.methodLink RX5 179 yX5_isOn ∈ tt := tt_3 (List.mem_of_getElem? (i := 161) rfl) rfl
theorem wm_414 : Cond.static yX5_isOn ∈ tt := tt_3 (List.mem_of_getElem? (i := 162) rfl) rfl
theorem wm_415 : Cond.code yX5_isOn cX5_isOn 12 (some .boolean) ∈ tt := tt_3 (List.mem_of_getElem? (i := 163) rfl) rfl
theorem wm_416 : Cond.methodLink RX5 171 yX5_between ∈ tt := tt_3 (List.mem_of_getElem? (i := 164) rfl) rfl
theorem wm_417 : Cond.static yX5_between ∈ tt := tt_3 (List.mem_of_getElem? (i := 165) rfl) rfl
theorem wm_418 : Cond.code yX5_between cX5_between 6 (some .boolean) ∈ tt := tt_3 (List.mem_of_getElem? (i := 166) rfl) rfl
theorem wm_419 : Cond.methodLink RX5 221 yX5_hulls ∈ tt := tt_3 (List.mem_of_getElem? (i := 167) rfl) rfl
theorem wm_420 : Cond.instanceMethod yX5_hulls ∈ tt := tt_3 (List.mem_of_getElem? (i := 169) rfl) rfl
theorem wm_421 : Cond.selects RX5 yX5_hulls yX5_hulls ∈ tt := tt_0 (List.mem_of_getElem? (i := 38) rfl) rfl
theorem wm_422 : Cond.code yX5_hulls cX5_hulls 6 (some .int) ∈ tt := tt_3 (List.mem_of_getElem? (i := 170) rfl) rfl
theorem wm_423 : Cond.methodLink RX5 209 yX5_isIn ∈ tt := tt_3 (List.mem_of_getElem? (i := 171) rfl) rfl
theorem wm_424 : Cond.instanceMethod yX5_isIn ∈ tt := tt_3 (List.mem_of_getElem? (i := 173) rfl) rfl
theorem wm_425 : Cond.selects RX5 yX5_isIn yX5_isIn ∈ tt := tt_0 (List.mem_of_getElem? (i := 39) rfl) rfl
theorem wm_426 : Cond.code yX5_isIn cX5_isIn 3 (some .boolean) ∈ tt := tt_3 (List.mem_of_getElem? (i := 174) rfl) rfl
theorem wm_427 : Cond.methodLink RL 37 yX4_slur ∈ tt := tt_2 (List.mem_of_getElem? (i := 111) rfl) rfl
theorem wm_428 : Cond.instanceMethod yX4_slur ∈ tt := tt_2 (List.mem_of_getElem? (i := 112) rfl) rfl
theorem wm_429 : Cond.selects RX4 yX4_slur yX4_slur ∈ tt := tt_2 (List.mem_of_getElem? (i := 113) rfl) rfl
theorem wm_430 : Cond.code yX4_slur cX4_slur 3 (some .int) ∈ tt := tt_2 (List.mem_of_getElem? (i := 114) rfl) rfl
theorem wm_431 : Cond.methodLink RL 40 yX5_slur ∈ tt := tt_3 (List.mem_of_getElem? (i := 175) rfl) rfl
theorem wm_432 : Cond.instanceMethod yX5_slur ∈ tt := tt_3 (List.mem_of_getElem? (i := 176) rfl) rfl
theorem wm_433 : Cond.selects RX5 yX5_slur yX5_slur ∈ tt := tt_3 (List.mem_of_getElem? (i := 177) rfl) rfl
theorem wm_434 : Cond.code yX5_slur cX5_slur 3 (some .int) ∈ tt := tt_3 (List.mem_of_getElem? (i := 178) rfl) rfl
theorem wm_435 : Cond.methodLink RL 41 yX4_again ∈ tt := tt_2 (List.mem_of_getElem? (i := 115) rfl) rfl
theorem wm_436 : Cond.instanceMethod yX4_again ∈ tt := tt_2 (List.mem_of_getElem? (i := 116) rfl) rfl
theorem wm_437 : Cond.selects RX4 yX4_again yX4_again ∈ tt := tt_2 (List.mem_of_getElem? (i := 117) rfl) rfl
theorem wm_438 : Cond.code yX4_again cX4_again 4 (some .int) ∈ tt := tt_2 (List.mem_of_getElem? (i := 118) rfl) rfl
theorem wm_439 : Cond.methodLink RL 45 yX5_again ∈ tt := tt_3 (List.mem_of_getElem? (i := 179) rfl) rfl
theorem wm_440 : Cond.instanceMethod yX5_again ∈ tt := tt_3 (List.mem_of_getElem? (i := 180) rfl) rfl
theorem wm_441 : Cond.selects RX5 yX5_again yX5_again ∈ tt := tt_3 (List.mem_of_getElem? (i := 181) rfl) rfl
theorem wm_442 : Cond.code yX5_again cX5_again 5 (some .int) ∈ tt := tt_3 (List.mem_of_getElem? (i := 182) rfl) rfl
theorem wm_443 : Cond.methodLink RL 46 yX4_curve ∈ tt := tt_2 (List.mem_of_getElem? (i := 119) rfl) rfl
theorem wm_444 : Cond.instanceMethod yX4_curve ∈ tt := tt_2 (List.mem_of_getElem? (i := 120) rfl) rfl
theorem wm_445 : Cond.selects RX4 yX4_curve yX4_curve ∈ tt := tt_2 (List.mem_of_getElem? (i := 121) rfl) rfl
theorem wm_446 : Cond.code yX4_curve cX4_curve 4 (some .int) ∈ tt := tt_2 (List.mem_of_getElem? (i := 122) rfl) rfl
theorem wm_447 : Cond.fieldLink RX4 103 "CurveTies$Note" "number" "I" ∈ tt := tt_1 (List.mem_of_getElem? (i := 119) rfl) rfl
theorem wm_448 : Cond.fieldLink RX4 109 "CurveTies$Curve" "side" "I" ∈ tt := tt_1 (List.mem_of_getElem? (i := 226) rfl) rfl
theorem wm_449 : Cond.fieldLink RX4 115 "CurveTies$Curve" "isTie" "Z" ∈ tt := tt_1 (List.mem_of_getElem? (i := 223) rfl) rfl
theorem wm_450 : Cond.methodLink RX4 96 yX4_isCurve ∈ tt := tt_2 (List.mem_of_getElem? (i := 123) rfl) rfl
theorem wm_451 : Cond.instanceMethod yX4_isCurve ∈ tt := tt_2 (List.mem_of_getElem? (i := 125) rfl) rfl
theorem wm_452 : Cond.selects RX4 yX4_isCurve yX4_isCurve ∈ tt := tt_0 (List.mem_of_getElem? (i := 15) rfl) rfl
theorem wm_453 : Cond.code yX4_isCurve cX4_isCurve 2 (some .boolean) ∈ tt := tt_2 (List.mem_of_getElem? (i := 126) rfl) rfl
theorem wm_454 : Cond.methodLink RL 49 yX5_curve ∈ tt := tt_3 (List.mem_of_getElem? (i := 183) rfl) rfl
theorem wm_455 : Cond.instanceMethod yX5_curve ∈ tt := tt_3 (List.mem_of_getElem? (i := 184) rfl) rfl
theorem wm_456 : Cond.selects RX5 yX5_curve yX5_curve ∈ tt := tt_3 (List.mem_of_getElem? (i := 185) rfl) rfl
theorem wm_457 : Cond.code yX5_curve cX5_curve 3 (some .int) ∈ tt := tt_3 (List.mem_of_getElem? (i := 186) rfl) rfl
theorem wm_458 : Cond.methodLink RX5 224 yX5_isCurve ∈ tt := tt_3 (List.mem_of_getElem? (i := 187) rfl) rfl
theorem wm_459 : Cond.instanceMethod yX5_isCurve ∈ tt := tt_3 (List.mem_of_getElem? (i := 189) rfl) rfl
theorem wm_460 : Cond.selects RX5 yX5_isCurve yX5_isCurve ∈ tt := tt_0 (List.mem_of_getElem? (i := 40) rfl) rfl
theorem wm_461 : Cond.code yX5_isCurve cX5_isCurve 2 (some .boolean) ∈ tt := tt_3 (List.mem_of_getElem? (i := 190) rfl) rfl
theorem wm_462 : Cond.methodLink RL 50 yX4_part ∈ tt := tt_2 (List.mem_of_getElem? (i := 127) rfl) rfl
theorem wm_463 : Cond.instanceMethod yX4_part ∈ tt := tt_2 (List.mem_of_getElem? (i := 128) rfl) rfl
theorem wm_464 : Cond.selects RX4 yX4_part yX4_part ∈ tt := tt_2 (List.mem_of_getElem? (i := 129) rfl) rfl
theorem wm_465 : Cond.code yX4_part cX4_part 5 (some .int) ∈ tt := tt_2 (List.mem_of_getElem? (i := 130) rfl) rfl
theorem wm_466 : Cond.fieldLink RX4 123 "CurveTies$Part" "line" "I" ∈ tt := tt_2 (List.mem_of_getElem? (i := 32) rfl) rfl
theorem wm_467 : Cond.fieldLink RX4 133 "CurveTies$Part" "arch" "I" ∈ tt := tt_2 (List.mem_of_getElem? (i := 38) rfl) rfl
theorem wm_468 : Cond.methodLink RX4 119 yX4_findPart ∈ tt := tt_2 (List.mem_of_getElem? (i := 131) rfl) rfl
theorem wm_469 : Cond.instanceMethod yX4_findPart ∈ tt := tt_2 (List.mem_of_getElem? (i := 133) rfl) rfl
theorem wm_470 : Cond.selects RX4 yX4_findPart yX4_findPart ∈ tt := tt_0 (List.mem_of_getElem? (i := 16) rfl) rfl
theorem wm_471 : Cond.code yX4_findPart cX4_findPart 3 (some (.object "CurveTies$Part")) ∈ tt := tt_2 (List.mem_of_getElem? (i := 134) rfl) rfl
theorem wm_472 : Cond.methodLink RL 54 yX5_part ∈ tt := tt_3 (List.mem_of_getElem? (i := 191) rfl) rfl
theorem wm_473 : Cond.instanceMethod yX5_part ∈ tt := tt_3 (List.mem_of_getElem? (i := 192) rfl) rfl
theorem wm_474 : Cond.selects RX5 yX5_part yX5_part ∈ tt := tt_3 (List.mem_of_getElem? (i := 193) rfl) rfl
theorem wm_475 : Cond.code yX5_part cX5_part 5 (some .int) ∈ tt := tt_3 (List.mem_of_getElem? (i := 194) rfl) rfl
theorem wm_476 : Cond.methodLink RX5 227 yX5_isPart ∈ tt := tt_3 (List.mem_of_getElem? (i := 195) rfl) rfl
theorem wm_477 : Cond.instanceMethod yX5_isPart ∈ tt := tt_3 (List.mem_of_getElem? (i := 197) rfl) rfl
theorem wm_478 : Cond.selects RX5 yX5_isPart yX5_isPart ∈ tt := tt_0 (List.mem_of_getElem? (i := 41) rfl) rfl
theorem wm_479 : Cond.code yX5_isPart cX5_isPart 3 (some .boolean) ∈ tt := tt_3 (List.mem_of_getElem? (i := 198) rfl) rfl
theorem wm_480 : Cond.methodLink RL 55 yX4_point ∈ tt := tt_2 (List.mem_of_getElem? (i := 135) rfl) rfl
theorem wm_481 : Cond.instanceMethod yX4_point ∈ tt := tt_2 (List.mem_of_getElem? (i := 136) rfl) rfl
theorem wm_482 : Cond.selects RX4 yX4_point yX4_point ∈ tt := tt_2 (List.mem_of_getElem? (i := 137) rfl) rfl
theorem wm_483 : Cond.code yX4_point cX4_point 6 (some .int) ∈ tt := tt_2 (List.mem_of_getElem? (i := 138) rfl) rfl
theorem wm_484 : Cond.methodLink RX4 142 yX1_row ∈ tt := tt_2 (List.mem_of_getElem? (i := 139) rfl) rfl
theorem wm_485 : Cond.instanceMethod yX1_row ∈ tt := tt_2 (List.mem_of_getElem? (i := 140) rfl) rfl
theorem wm_486 : Cond.selects RX1 yX1_row yX1_row ∈ tt := tt_2 (List.mem_of_getElem? (i := 141) rfl) rfl
theorem wm_487 : Cond.code yX1_row cX1_row 2 (some (.array .int)) ∈ tt := tt_2 (List.mem_of_getElem? (i := 142) rfl) rfl
theorem wm_488 : Cond.methodLink RL 59 yX5_point ∈ tt := tt_3 (List.mem_of_getElem? (i := 199) rfl) rfl
theorem wm_489 : Cond.instanceMethod yX5_point ∈ tt := tt_3 (List.mem_of_getElem? (i := 200) rfl) rfl
theorem wm_490 : Cond.selects RX5 yX5_point yX5_point ∈ tt := tt_3 (List.mem_of_getElem? (i := 201) rfl) rfl
theorem wm_491 : Cond.code yX5_point cX5_point 6 (some .int) ∈ tt := tt_3 (List.mem_of_getElem? (i := 202) rfl) rfl
theorem wm_492 : Cond.methodLink RL 60 yX4_candidate ∈ tt := tt_2 (List.mem_of_getElem? (i := 143) rfl) rfl
theorem wm_493 : Cond.instanceMethod yX4_candidate ∈ tt := tt_2 (List.mem_of_getElem? (i := 144) rfl) rfl
theorem wm_494 : Cond.selects RX4 yX4_candidate yX4_candidate ∈ tt := tt_2 (List.mem_of_getElem? (i := 145) rfl) rfl
theorem wm_495 : Cond.code yX4_candidate cX4_candidate 6 (some .int) ∈ tt := tt_2 (List.mem_of_getElem? (i := 146) rfl) rfl
theorem wm_496 : Cond.methodLink RL 63 yX5_candidate ∈ tt := tt_3 (List.mem_of_getElem? (i := 203) rfl) rfl
theorem wm_497 : Cond.instanceMethod yX5_candidate ∈ tt := tt_3 (List.mem_of_getElem? (i := 204) rfl) rfl
theorem wm_498 : Cond.selects RX5 yX5_candidate yX5_candidate ∈ tt := tt_3 (List.mem_of_getElem? (i := 205) rfl) rfl
theorem wm_499 : Cond.code yX5_candidate cX5_candidate 6 (some .int) ∈ tt := tt_3 (List.mem_of_getElem? (i := 206) rfl) rfl
theorem wm_500 : Cond.methodLink RL 64 yX4_along ∈ tt := tt_2 (List.mem_of_getElem? (i := 147) rfl) rfl
theorem wm_501 : Cond.instanceMethod yX4_along ∈ tt := tt_2 (List.mem_of_getElem? (i := 148) rfl) rfl
theorem wm_502 : Cond.selects RX4 yX4_along yX4_along ∈ tt := tt_2 (List.mem_of_getElem? (i := 149) rfl) rfl
theorem wm_503 : Cond.code yX4_along cX4_along 11 (some .long) ∈ tt := tt_2 (List.mem_of_getElem? (i := 150) rfl) rfl
theorem wm_504 : Cond.constantLong RX4 157 (-9000000000001) ∈ tt := tt_2 (List.mem_of_getElem? (i := 151) rfl) rfl
theorem wm_505 : Cond.constantLong RX4 159 (-9000000000002) ∈ tt := tt_2 (List.mem_of_getElem? (i := 152) rfl) rfl
theorem wm_506 : Cond.constantLong RX4 161 (64) ∈ tt := tt_2 (List.mem_of_getElem? (i := 153) rfl) rfl
theorem wm_507 : Cond.constantLong RX4 163 (3) ∈ tt := tt_2 (List.mem_of_getElem? (i := 154) rfl) rfl
theorem wm_508 : Cond.methodLink RL 68 yX5_along ∈ tt := tt_3 (List.mem_of_getElem? (i := 207) rfl) rfl
theorem wm_509 : Cond.instanceMethod yX5_along ∈ tt := tt_3 (List.mem_of_getElem? (i := 208) rfl) rfl
theorem wm_510 : Cond.selects RX5 yX5_along yX5_along ∈ tt := tt_3 (List.mem_of_getElem? (i := 209) rfl) rfl
theorem wm_511 : Cond.code yX5_along cX5_along 13 (some .long) ∈ tt := tt_3 (List.mem_of_getElem? (i := 210) rfl) rfl
theorem wm_512 : Cond.constantLong RX5 230 (-9000000000001) ∈ tt := tt_3 (List.mem_of_getElem? (i := 211) rfl) rfl
theorem wm_513 : Cond.constantLong RX5 232 (-9000000000002) ∈ tt := tt_3 (List.mem_of_getElem? (i := 212) rfl) rfl
theorem wm_514 : Cond.constantLong RX5 234 (3) ∈ tt := tt_3 (List.mem_of_getElem? (i := 213) rfl) rfl
theorem wm_515 : Cond.methodLink RL 69 yX4_within ∈ tt := tt_2 (List.mem_of_getElem? (i := 155) rfl) rfl
theorem wm_516 : Cond.instanceMethod yX4_within ∈ tt := tt_2 (List.mem_of_getElem? (i := 156) rfl) rfl
theorem wm_517 : Cond.selects RX4 yX4_within yX4_within ∈ tt := tt_2 (List.mem_of_getElem? (i := 157) rfl) rfl
theorem wm_518 : Cond.code yX4_within cX4_within 7 (some .int) ∈ tt := tt_2 (List.mem_of_getElem? (i := 158) rfl) rfl
theorem wm_519 : Cond.methodLink RL 72 yX5_within ∈ tt := tt_3 (List.mem_of_getElem? (i := 214) rfl) rfl
theorem wm_520 : Cond.instanceMethod yX5_within ∈ tt := tt_3 (List.mem_of_getElem? (i := 215) rfl) rfl
theorem wm_521 : Cond.selects RX5 yX5_within yX5_within ∈ tt := tt_3 (List.mem_of_getElem? (i := 216) rfl) rfl
theorem wm_522 : Cond.code yX5_within cX5_within 5 (some .int) ∈ tt := tt_3 (List.mem_of_getElem? (i := 217) rfl) rfl
theorem wm_523 : Cond.methodLink RL 73 yX4_count ∈ tt := tt_2 (List.mem_of_getElem? (i := 159) rfl) rfl
theorem wm_524 : Cond.instanceMethod yX4_count ∈ tt := tt_2 (List.mem_of_getElem? (i := 160) rfl) rfl
theorem wm_525 : Cond.selects RX4 yX4_count yX4_count ∈ tt := tt_2 (List.mem_of_getElem? (i := 161) rfl) rfl
theorem wm_526 : Cond.code yX4_count cX4_count 2 (some .int) ∈ tt := tt_2 (List.mem_of_getElem? (i := 162) rfl) rfl
theorem wm_527 : Cond.methodLink RX4 172 yX4_collidingParts ∈ tt := tt_2 (List.mem_of_getElem? (i := 163) rfl) rfl
theorem wm_528 : Cond.instanceMethod yX4_collidingParts ∈ tt := tt_2 (List.mem_of_getElem? (i := 165) rfl) rfl
theorem wm_529 : Cond.selects RX4 yX4_collidingParts yX4_collidingParts ∈ tt := tt_0 (List.mem_of_getElem? (i := 17) rfl) rfl
theorem wm_530 : Cond.code yX4_collidingParts cX4_collidingParts 3 (some .int) ∈ tt := tt_2 (List.mem_of_getElem? (i := 166) rfl) rfl
theorem wm_531 : Cond.methodLink RL 76 yX5_count ∈ tt := tt_3 (List.mem_of_getElem? (i := 218) rfl) rfl
theorem wm_532 : Cond.instanceMethod yX5_count ∈ tt := tt_3 (List.mem_of_getElem? (i := 219) rfl) rfl
theorem wm_533 : Cond.selects RX5 yX5_count yX5_count ∈ tt := tt_3 (List.mem_of_getElem? (i := 220) rfl) rfl
theorem wm_534 : Cond.code yX5_count cX5_count 4 (some .int) ∈ tt := tt_3 (List.mem_of_getElem? (i := 221) rfl) rfl
theorem wm_535 : Cond.methodLink RL 77 yX4_clear ∈ tt := tt_2 (List.mem_of_getElem? (i := 167) rfl) rfl
theorem wm_536 : Cond.instanceMethod yX4_clear ∈ tt := tt_2 (List.mem_of_getElem? (i := 168) rfl) rfl
theorem wm_537 : Cond.selects RX4 yX4_clear yX4_clear ∈ tt := tt_2 (List.mem_of_getElem? (i := 169) rfl) rfl
theorem wm_538 : Cond.code yX4_clear cX4_clear 2 (some .int) ∈ tt := tt_2 (List.mem_of_getElem? (i := 170) rfl) rfl
theorem wm_539 : Cond.methodLink RL 80 yX5_clear ∈ tt := tt_3 (List.mem_of_getElem? (i := 222) rfl) rfl
theorem wm_540 : Cond.instanceMethod yX5_clear ∈ tt := tt_3 (List.mem_of_getElem? (i := 223) rfl) rfl
theorem wm_541 : Cond.selects RX5 yX5_clear yX5_clear ∈ tt := tt_3 (List.mem_of_getElem? (i := 224) rfl) rfl
theorem wm_542 : Cond.code yX5_clear cX5_clear 2 (some .int) ∈ tt := tt_3 (List.mem_of_getElem? (i := 225) rfl) rfl
theorem inX0 : ∀ w ∈ u_ws RX0 TX0 6, w ∈ tt := tt_in [229, 231, 233, 235, 237, 239] (by decide +kernel) (by decide +kernel)
theorem inX1 : ∀ w ∈ u_ws RX1 TX1 7, w ∈ tt := tt_in [41, 43, 45, 47, 49, 51, 53] (by decide +kernel) (by decide +kernel)
theorem inX2 : ∀ w ∈ u_ws RX2 TX2 5, w ∈ tt := tt_in [131, 133, 135, 137, 139] (by decide +kernel) (by decide +kernel)
theorem inX3 : ∀ w ∈ u_ws RX3 TX3 10, w ∈ tt := tt_in [284, 286, 288, 290, 292, 294, 296, 298, 300, 302] (by decide +kernel) (by decide +kernel)
theorem inX4 : ∀ w ∈ u_ws RX4 TX4 12, w ∈ tt := tt_in [73, 75, 77, 79, 81, 83, 85, 87, 89, 91, 93, 95] (by decide +kernel) (by decide +kernel)
theorem inX5 : ∀ w ∈ u_ws RX5 TX5 36, w ∈ tt := tt_in [453, 455, 457, 459, 461, 463, 465, 467, 469, 471, 473, 475, 477, 479, 481, 483, 485, 487, 489, 491, 493, 495, 497, 499, 501, 503, 505, 507, 509, 511, 513, 515, 517, 519, 521, 523] (by decide +kernel) (by decide +kernel)
