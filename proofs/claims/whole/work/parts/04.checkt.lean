/-- the tables of handlers as the class files have them -/
def ky_hw : List (List (Nat × Nat × Nat × Nat)) := [[], [], [], [], [], [], [], [], [], [], [], [], [], [], [], [], [], [], [], [], [], [], [], [], [], [], [], [], [], [], [], [], [], [], [], [], [], [], [], [], [], [], [], [], [], [], [], [], [], [], [], [], [], [], [], [], [], [], [], [], [], [], [], [], [], [], [], [], [], [], [], [], [], [], [], [], [], [], [], [], [], [], [], [], [], [], [], [], [], [], [], [], [], [], [], [], [], [], [], [], [], [], [], [], [], [], [], [], [], [], [], [], [], [], [], [], [], [], [], [], [], [], [], [], [], [], [], [], [], [], [], [], [], [], [], [], [], [], [], [], [], [], [], [], [], [], [], [], [], [], [], [], [], [], [], [], [], [], [], [], [], [], [], [], [], [], [], [], [], [], [], [], [], [], [], [], [], [], [], [], [], [], [], [], [], [], [], [], [], [], [], [], [], [], [], [], [], [], [], [], [], [], [], [], [], [], [], [], [], [], [], [], [], [], [], [], [], [], [], [], [], [], [], [], [], [], [], [], [], [], [], [], [], [], [], [], [], [], [], [], [], [], [], [], [], [], [], [], [], [], [], [], [], [], [], [], [], [], [], [], [], [], [], [], [], [], [], [], [], [], [], [], [], [], [], [], [], [], [], [], [], [], [], [], [], [], [], [], [], [], [], [], [], [], [], [], [], [], [], [(0, 16, 19, 13)], [(0, 9, 12, 19)], [(0, 10, 13, 25), (0, 10, 17, 19)], [(0, 10, 13, 25)], [(0, 10, 13, 25)], [(0, 10, 13, 25), (0, 10, 17, 19)], [(0, 10, 13, 25), (0, 10, 17, 39)], [(0, 10, 13, 25)], [(0, 9, 12, 19)], [(0, 12, 15, 25), (0, 12, 19, 19)], [(0, 12, 15, 25), (0, 12, 19, 19)], [(0, 10, 13, 25)], [(0, 9, 12, 25)], [(0, 12, 15, 25), (0, 12, 19, 19)], [(0, 9, 12, 25)], [(0, 9, 12, 25)], [(0, 12, 15, 25), (0, 12, 19, 19)], [(0, 9, 12, 25)], [(0, 9, 12, 25)], [(0, 10, 13, 25)], [(0, 9, 12, 25)], [(0, 10, 13, 25), (0, 10, 17, 19)], [(0, 10, 13, 25)], [(0, 12, 15, 25), (0, 12, 19, 19)], [(0, 12, 15, 25)], [(0, 9, 12, 25)], [(0, 8, 11, 13)], [(0, 9, 12, 25)], [(0, 9, 12, 25), (0, 9, 15, 13)], []]
/-- the law's class: entry of an exception, which one, word -/
def ky_lx : List (Nat × Nat × Nat) := [(13, 0, 896), (19, 1, 979), (25, 2, 1026), (39, 3, 1105)]
def ky_hh (m : Nat) : List (Nat × Nat × Nat × Nat) := ky_hw.getD m []

/-! THE TABLES OF LINKS: each names words of the Statement's own tables. -/
def ky_mwd (m : Nat) : Nat × Nat × Nat × Nat := ky_mw.getD m (0, 0, 0, 0)
noncomputable def ky_mkc (y : Nat × Nat × Nat × Nat × Nat) : Bool :=
  let t := y.2.2.2.1
  let p := y.2.2.2.2
  let own := ky_R y.1
  let w := ky_mwd t
  match y.2.2.1 with
  | 0 => ky_at p (.methodLink own y.2.1 (ky_y t)) && ky_at w.2.1 (.instanceMethod (ky_y t)) && ky_at w.2.2.1 (.selects (ky_y t).cls (ky_y t) (ky_y t)) && ky_at w.2.2.2 (.initialized (ky_y t).cls)
  | 1 => ky_at p (.methodLink own y.2.1 (ky_y t)) && ky_at w.2.1 (.static (ky_y t)) && ky_at w.2.2.2 (.initialized (ky_y t).cls)
  | 8 => ky_at p (.methodLink own y.2.1 (ky_y t)) && ky_at w.2.1 (.static (ky_y t)) && ky_at w.2.2.2 (.initialized (ky_y t).cls)
  | 2 => ky_at p (.methodLinkNest own y.2.1 (ky_y t) RX8) && ky_at w.2.1 (.static (ky_y t)) && ky_at w.2.2.2 (.initialized (ky_y t).cls)
  | 3 => ky_at p (.methodLink own y.2.1 (ky_y t)) && ky_at w.2.1 (.instanceMethod (ky_y t)) && ky_at w.2.2.2 (.initialized (ky_y t).cls) && decide ((ky_y t).name = "<init>")
  | 4 => ky_at p (.methodLinkNest own y.2.1 (ky_y t) RX8) && ky_at w.2.1 (.instanceMethod (ky_y t)) && ky_at w.2.2.2 (.initialized (ky_y t).cls) && decide ((ky_y t).name = "<init>")
  | 5 => ky_at p (.methodLink own y.2.1 Lib.objectInit)
  | 6 => if t = 1 then ky_at p (.methodLink own y.2.1 Lib.Math.max.name) else ky_at p (.methodLink own y.2.1 Lib.Math.min.name)
  | 7 => if t = 3 then ky_at p (.methodLink own y.2.1 yJ0_length_8abf5) else ky_at p (.methodLink own y.2.1 yJ0_charAt_5068e)
  | _ => false
noncomputable def ky_flc (y : Nat × Nat × Nat × Nat × Nat) : Bool :=
  decide (y.2.2.1 < 10 ∧ y.2.2.2.1 < (ky_vc y.2.2.1).2.2) && ky_at y.2.2.2.2 (.fieldLink (ky_R y.1) y.2.1 ((ky_vc y.2.2.1).2.1 y.2.2.2.1).1 ((ky_vc y.2.2.1).2.1 y.2.2.2.1).2.1 ((ky_vc y.2.2.1).2.1 y.2.2.2.1).2.2.1)
noncomputable def ky_nkc (y : Nat × Nat × Nat × Nat) : Bool := decide (y.2.2.1 < 10) && ky_at y.2.2.2 (.classLink (ky_R y.1) y.2.1 (ky_vc y.2.2.1).1)
def ky_xup : List String := ["java/lang/RuntimeException", "java/lang/Exception"]
noncomputable def ky_xkc (y : Nat × Nat × Nat × Nat × Nat × Nat × Nat × Nat) : Bool :=
  decide (y.2.2.1 < 4) && ky_at y.2.2.2.2.2.2.1 (.classLink (ky_R y.1) y.2.1 (ky_xn y.2.2.1)) && decide (.initialized (ky_xn y.2.2.1) ∈ lw_tbl) && goodWord (.initialized (ky_xn y.2.2.1))
    && (vx_atS (ky_R y.1) y.2.2.2.2.2.1 (ky_xn y.2.2.1) ky_xup).all (fun w => decide (w ∈ lw_tbl) && goodWord w)
set_option maxRecDepth 100000 in
theorem ky_fl_ok : ky_fl.all ky_flc = true := by decide +kernel
set_option maxRecDepth 100000 in
theorem ky_mk_ok : ky_mk.all ky_mkc = true := by decide +kernel
set_option maxRecDepth 100000 in
theorem ky_nk_ok : ky_nk.all ky_nkc = true := by decide +kernel
set_option maxRecDepth 100000 in
theorem ky_xk_ok : ky_xk.all ky_xkc = true := by decide +kernel
set_option maxRecDepth 100000 in
theorem ky_cw_ok : ∀ a, a < 10 → (ky_at (ky_cw.getD a (0, 0)).1 (.instantiable (ky_vc a).1 (ky_vc a).2.2) && ky_at (ky_cw.getD a (0, 0)).2 (.initialized (ky_vc a).1)) = true := by decide +kernel
set_option maxRecDepth 100000 in
theorem ky_in_ok : ∀ a, a < 10 → (u_ws (ky_vc a).1 (ky_vc a).2.1 (ky_vc a).2.2).all (fun w => decide (w ∈ lw_tbl) && goodWord w) = true := by decide +kernel
set_option maxRecDepth 100000 in
theorem ky_ty_ok : ∀ a, a < 10 → ∀ k, k < (ky_vc a).2.2 → parseFieldDescriptor ((ky_vc a).2.1 k).2.2.1 = some (ky_fy a k) := by decide +kernel
set_option maxRecDepth 100000 in
theorem ky_nm_ok : ∀ i, i < 10 → ∀ a, a < (ky_vc i).2.2 → ∀ b, b < (ky_vc i).2.2 → a ≠ b → ((ky_vc i).2.1 a).2.1 ≠ ((ky_vc i).2.1 b).2.1 := by decide +kernel
set_option maxRecDepth 100000 in
theorem ky_own_ok : ∀ a, a < 10 → ∀ k, k < (ky_vc a).2.2 → ((ky_vc a).2.1 k).1 = ky_R a := by decide +kernel
set_option maxRecDepth 100000 in
theorem ky_df_ok : ∀ a, a < 10 → (ky_df.getD a []).length = (ky_vc a).2.2 ∧ ∀ k, k < (ky_vc a).2.2 → defaultValue (ky_fy a k) = (ky_df.getD a []).getD k .null := by decide +kernel
set_option maxRecDepth 100000 in
theorem ky_cls_ok : ∀ m, m < 329 → (ky_y m).cls = ky_R (ky_ow m) := by decide +kernel
set_option maxRecDepth 100000 in
theorem ky_R_ok : ∀ o, o < 12 → plainName (ky_R o) = true ∧ ky_R o ≠ "java/lang/invoke/MethodHandle" ∧ ky_R o ≠ "java/lang/invoke/VarHandle" := by decide +kernel
set_option maxRecDepth 100000 in
theorem ky_ow_ok : ∀ m, m < 329 → ky_ow m < 12 := by decide +kernel
set_option maxRecDepth 100000 in
theorem ky_vR : ∀ a, a < 10 → (ky_vc a).1 = ky_R a := by decide +kernel
/-- a method's code among the tables' words -/
noncomputable def ky_cwd (m : Nat) : Cond := if ky_hh m = [] then .code (ky_y m) (ky_by m) (ky_ml m) (ky_rt m) else .codeWith (ky_y m) (ky_by m) (ky_ml m) (ky_rt m) (ky_hh m)

theorem kw_0 : lw_tbl[258]? = some (ky_cwd 0) := rfl
theorem kw_1 : lw_tbl[572]? = some (ky_cwd 1) := rfl
theorem kw_2 : lw_tbl[846]? = some (ky_cwd 2) := rfl
theorem kw_3 : lw_tbl[431]? = some (ky_cwd 3) := rfl
theorem kw_4 : lw_tbl[862]? = some (ky_cwd 4) := rfl
theorem kw_5 : lw_tbl[239]? = some (ky_cwd 5) := rfl
theorem kw_6 : lw_tbl[677]? = some (ky_cwd 6) := rfl
theorem kw_7 : lw_tbl[1308]? = some (ky_cwd 7) := rfl
theorem kw_8 : lw_tbl[588]? = some (ky_cwd 8) := rfl
theorem kw_9 : lw_tbl[214]? = some (ky_cwd 9) := rfl
theorem kw_10 : lw_tbl[783]? = some (ky_cwd 10) := rfl
theorem kw_11 : lw_tbl[788]? = some (ky_cwd 11) := rfl
theorem kw_12 : lw_tbl[820]? = some (ky_cwd 12) := rfl
theorem kw_13 : lw_tbl[817]? = some (ky_cwd 13) := rfl
theorem kw_14 : lw_tbl[813]? = some (ky_cwd 14) := rfl
theorem kw_15 : lw_tbl[1003]? = some (ky_cwd 15) := rfl
theorem kw_16 : lw_tbl[1006]? = some (ky_cwd 16) := rfl
theorem kw_17 : lw_tbl[824]? = some (ky_cwd 17) := rfl
theorem kw_18 : lw_tbl[842]? = some (ky_cwd 18) := rfl
theorem kw_19 : lw_tbl[827]? = some (ky_cwd 19) := rfl
theorem kw_20 : lw_tbl[830]? = some (ky_cwd 20) := rfl
theorem kw_21 : lw_tbl[833]? = some (ky_cwd 21) := rfl
theorem kw_22 : lw_tbl[836]? = some (ky_cwd 22) := rfl
theorem kw_23 : lw_tbl[839]? = some (ky_cwd 23) := rfl
theorem kw_24 : lw_tbl[158]? = some (ky_cwd 24) := rfl
theorem kw_25 : lw_tbl[539]? = some (ky_cwd 25) := rfl
theorem kw_26 : lw_tbl[763]? = some (ky_cwd 26) := rfl
theorem kw_27 : lw_tbl[465]? = some (ky_cwd 27) := rfl
theorem kw_28 : lw_tbl[801]? = some (ky_cwd 28) := rfl
theorem kw_29 : lw_tbl[733]? = some (ky_cwd 29) := rfl
theorem kw_30 : lw_tbl[1170]? = some (ky_cwd 30) := rfl
theorem kw_31 : lw_tbl[1054]? = some (ky_cwd 31) := rfl
theorem kw_32 : lw_tbl[652]? = some (ky_cwd 32) := rfl
theorem kw_33 : lw_tbl[662]? = some (ky_cwd 33) := rfl
theorem kw_34 : lw_tbl[883]? = some (ky_cwd 34) := rfl
theorem kw_35 : lw_tbl[991]? = some (ky_cwd 35) := rfl
theorem kw_36 : lw_tbl[715]? = some (ky_cwd 36) := rfl
theorem kw_37 : lw_tbl[737]? = some (ky_cwd 37) := rfl
theorem kw_38 : lw_tbl[751]? = some (ky_cwd 38) := rfl
theorem kw_39 : lw_tbl[742]? = some (ky_cwd 39) := rfl
theorem kw_40 : lw_tbl[759]? = some (ky_cwd 40) := rfl
theorem kw_41 : lw_tbl[692]? = some (ky_cwd 41) := rfl
theorem kw_42 : lw_tbl[657]? = some (ky_cwd 42) := rfl
theorem kw_43 : lw_tbl[340]? = some (ky_cwd 43) := rfl
theorem kw_44 : lw_tbl[576]? = some (ky_cwd 44) := rfl
theorem kw_45 : lw_tbl[535]? = some (ky_cwd 45) := rfl
theorem kw_46 : lw_tbl[544]? = some (ky_cwd 46) := rfl
theorem kw_47 : lw_tbl[702]? = some (ky_cwd 47) := rfl
theorem kw_48 : lw_tbl[470]? = some (ky_cwd 48) := rfl
theorem kw_49 : lw_tbl[584]? = some (ky_cwd 49) := rfl
theorem kw_50 : lw_tbl[698]? = some (ky_cwd 50) := rfl
theorem kw_51 : lw_tbl[687]? = some (ky_cwd 51) := rfl
theorem kw_52 : lw_tbl[305]? = some (ky_cwd 52) := rfl
theorem kw_53 : lw_tbl[418]? = some (ky_cwd 53) := rfl
theorem kw_54 : lw_tbl[461]? = some (ky_cwd 54) := rfl
theorem kw_55 : lw_tbl[552]? = some (ky_cwd 55) := rfl
theorem kw_56 : lw_tbl[315]? = some (ky_cwd 56) := rfl
theorem kw_57 : lw_tbl[627]? = some (ky_cwd 57) := rfl
theorem kw_58 : lw_tbl[636]? = some (ky_cwd 58) := rfl
theorem kw_59 : lw_tbl[623]? = some (ky_cwd 59) := rfl
theorem kw_60 : lw_tbl[631]? = some (ky_cwd 60) := rfl
theorem kw_61 : lw_tbl[640]? = some (ky_cwd 61) := rfl
theorem kw_62 : lw_tbl[596]? = some (ky_cwd 62) := rfl
theorem kw_63 : lw_tbl[601]? = some (ky_cwd 63) := rfl
theorem kw_64 : lw_tbl[609]? = some (ky_cwd 64) := rfl
theorem kw_65 : lw_tbl[614]? = some (ky_cwd 65) := rfl
theorem kw_66 : lw_tbl[164]? = some (ky_cwd 66) := rfl
theorem kw_67 : lw_tbl[344]? = some (ky_cwd 67) := rfl
theorem kw_68 : lw_tbl[580]? = some (ky_cwd 68) := rfl
theorem kw_69 : lw_tbl[348]? = some (ky_cwd 69) := rfl
theorem kw_70 : lw_tbl[355]? = some (ky_cwd 70) := rfl
theorem kw_71 : lw_tbl[797]? = some (ky_cwd 71) := rfl
theorem kw_72 : lw_tbl[805]? = some (ky_cwd 72) := rfl
theorem kw_73 : lw_tbl[809]? = some (ky_cwd 73) := rfl
theorem kw_74 : lw_tbl[793]? = some (ky_cwd 74) := rfl
theorem kw_75 : lw_tbl[274]? = some (ky_cwd 75) := rfl
theorem kw_76 : lw_tbl[423]? = some (ky_cwd 76) := rfl
theorem kw_77 : lw_tbl[427]? = some (ky_cwd 77) := rfl
theorem kw_78 : lw_tbl[441]? = some (ky_cwd 78) := rfl
theorem kw_79 : lw_tbl[451]? = some (ky_cwd 79) := rfl
theorem kw_80 : lw_tbl[457]? = some (ky_cwd 80) := rfl
theorem kw_81 : lw_tbl[434]? = some (ky_cwd 81) := rfl
theorem kw_82 : lw_tbl[447]? = some (ky_cwd 82) := rfl
theorem kw_83 : lw_tbl[479]? = some (ky_cwd 83) := rfl
theorem kw_84 : lw_tbl[483]? = some (ky_cwd 84) := rfl
theorem kw_85 : lw_tbl[557]? = some (ky_cwd 85) := rfl
theorem kw_86 : lw_tbl[548]? = some (ky_cwd 86) := rfl
theorem kw_87 : lw_tbl[475]? = some (ky_cwd 87) := rfl
theorem kw_88 : lw_tbl[150]? = some (ky_cwd 88) := rfl
theorem kw_89 : lw_tbl[900]? = some (ky_cwd 89) := rfl
theorem kw_90 : lw_tbl[414]? = some (ky_cwd 90) := rfl
theorem kw_91 : lw_tbl[592]? = some (ky_cwd 91) := rfl
theorem kw_92 : lw_tbl[767]? = some (ky_cwd 92) := rfl
theorem kw_93 : lw_tbl[771]? = some (ky_cwd 93) := rfl
theorem kw_94 : lw_tbl[775]? = some (ky_cwd 94) := rfl
theorem kw_95 : lw_tbl[983]? = some (ky_cwd 95) := rfl
theorem kw_96 : lw_tbl[1030]? = some (ky_cwd 96) := rfl
theorem kw_97 : lw_tbl[1076]? = some (ky_cwd 97) := rfl
theorem kw_98 : lw_tbl[1083]? = some (ky_cwd 98) := rfl
theorem kw_99 : lw_tbl[1091]? = some (ky_cwd 99) := rfl
theorem kw_100 : lw_tbl[1109]? = some (ky_cwd 100) := rfl
theorem kw_101 : lw_tbl[1136]? = some (ky_cwd 101) := rfl
theorem kw_102 : lw_tbl[867]? = some (ky_cwd 102) := rfl
theorem kw_103 : lw_tbl[871]? = some (ky_cwd 103) := rfl
theorem kw_104 : lw_tbl[1143]? = some (ky_cwd 104) := rfl
theorem kw_105 : lw_tbl[875]? = some (ky_cwd 105) := rfl
theorem kw_106 : lw_tbl[879]? = some (ky_cwd 106) := rfl
theorem kw_107 : lw_tbl[1151]? = some (ky_cwd 107) := rfl
theorem kw_108 : lw_tbl[1162]? = some (ky_cwd 108) := rfl
theorem kw_109 : lw_tbl[1177]? = some (ky_cwd 109) := rfl
theorem kw_110 : lw_tbl[1189]? = some (ky_cwd 110) := rfl
theorem kw_111 : lw_tbl[1196]? = some (ky_cwd 111) := rfl
theorem kw_112 : lw_tbl[1215]? = some (ky_cwd 112) := rfl
theorem kw_113 : lw_tbl[1222]? = some (ky_cwd 113) := rfl
theorem kw_114 : lw_tbl[1229]? = some (ky_cwd 114) := rfl
theorem kw_115 : lw_tbl[1236]? = some (ky_cwd 115) := rfl
theorem kw_116 : lw_tbl[1243]? = some (ky_cwd 116) := rfl
theorem kw_117 : lw_tbl[1250]? = some (ky_cwd 117) := rfl
theorem kw_118 : lw_tbl[1257]? = some (ky_cwd 118) := rfl
theorem kw_119 : lw_tbl[1264]? = some (ky_cwd 119) := rfl
theorem kw_120 : lw_tbl[1271]? = some (ky_cwd 120) := rfl
theorem kw_121 : lw_tbl[1279]? = some (ky_cwd 121) := rfl
theorem kw_122 : lw_tbl[1287]? = some (ky_cwd 122) := rfl
theorem kw_123 : lw_tbl[887]? = some (ky_cwd 123) := rfl
theorem kw_124 : lw_tbl[1295]? = some (ky_cwd 124) := rfl
theorem kw_125 : lw_tbl[1303]? = some (ky_cwd 125) := rfl
theorem kw_126 : lw_tbl[1315]? = some (ky_cwd 126) := rfl
theorem kw_127 : lw_tbl[1326]? = some (ky_cwd 127) := rfl
theorem kw_128 : lw_tbl[1034]? = some (ky_cwd 128) := rfl
theorem kw_129 : lw_tbl[1113]? = some (ky_cwd 129) := rfl
theorem kw_130 : lw_tbl[1094]? = some (ky_cwd 130) := rfl
theorem kw_131 : lw_tbl[1318]? = some (ky_cwd 131) := rfl
theorem kw_132 : lw_tbl[1154]? = some (ky_cwd 132) := rfl
theorem kw_133 : lw_tbl[351]? = some (ky_cwd 133) := rfl
theorem kw_134 : lw_tbl[444]? = some (ky_cwd 134) := rfl
theorem kw_135 : lw_tbl[857]? = some (ky_cwd 135) := rfl
theorem kw_136 : lw_tbl[854]? = some (ky_cwd 136) := rfl
theorem kw_137 : lw_tbl[437]? = some (ky_cwd 137) := rfl
theorem kw_138 : lw_tbl[903]? = some (ky_cwd 138) := rfl
theorem kw_139 : lw_tbl[975]? = some (ky_cwd 139) := rfl
theorem kw_140 : lw_tbl[1200]? = some (ky_cwd 140) := rfl
theorem kw_141 : lw_tbl[779]? = some (ky_cwd 141) := rfl
theorem kw_142 : lw_tbl[568]? = some (ky_cwd 142) := rfl
theorem kw_143 : lw_tbl[619]? = some (ky_cwd 143) := rfl
theorem kw_144 : lw_tbl[850]? = some (ky_cwd 144) := rfl
theorem kw_145 : lw_tbl[891]? = some (ky_cwd 145) := rfl
theorem kw_146 : lw_tbl[1063]? = some (ky_cwd 146) := rfl
theorem kw_147 : lw_tbl[1068]? = some (ky_cwd 147) := rfl
theorem kw_148 : lw_tbl[987]? = some (ky_cwd 148) := rfl
theorem kw_149 : lw_tbl[995]? = some (ky_cwd 149) := rfl
theorem kw_150 : lw_tbl[999]? = some (ky_cwd 150) := rfl
theorem kw_151 : lw_tbl[1059]? = some (ky_cwd 151) := rfl
theorem kw_152 : lw_tbl[648]? = some (ky_cwd 152) := rfl
theorem kw_153 : lw_tbl[1181]? = some (ky_cwd 153) := rfl
theorem kw_154 : lw_tbl[1166]? = some (ky_cwd 154) := rfl
theorem kw_155 : lw_tbl[669]? = some (ky_cwd 155) := rfl
theorem kw_156 : lw_tbl[673]? = some (ky_cwd 156) := rfl
theorem kw_157 : lw_tbl[1207]? = some (ky_cwd 157) := rfl
theorem kw_158 : lw_tbl[719]? = some (ky_cwd 158) := rfl
theorem kw_159 : lw_tbl[725]? = some (ky_cwd 159) := rfl
theorem kw_160 : lw_tbl[644]? = some (ky_cwd 160) := rfl
theorem kw_161 : lw_tbl[706]? = some (ky_cwd 161) := rfl
theorem kw_162 : lw_tbl[711]? = some (ky_cwd 162) := rfl
theorem kw_163 : lw_tbl[729]? = some (ky_cwd 163) := rfl
theorem kw_164 : lw_tbl[747]? = some (ky_cwd 164) := rfl
theorem kw_165 : lw_tbl[755]? = some (ky_cwd 165) := rfl
theorem kw_166 : lw_tbl[1332]? = some (ky_cwd 166) := rfl
theorem kw_167 : lw_tbl[1428]? = some (ky_cwd 167) := rfl
theorem kw_168 : lw_tbl[1336]? = some (ky_cwd 168) := rfl
theorem kw_169 : lw_tbl[1473]? = some (ky_cwd 169) := rfl
theorem kw_170 : lw_tbl[1439]? = some (ky_cwd 170) := rfl
theorem kw_171 : lw_tbl[1530]? = some (ky_cwd 171) := rfl
theorem kw_172 : lw_tbl[1534]? = some (ky_cwd 172) := rfl
theorem kw_173 : lw_tbl[1590]? = some (ky_cwd 173) := rfl
theorem kw_174 : lw_tbl[1619]? = some (ky_cwd 174) := rfl
theorem kw_175 : lw_tbl[1586]? = some (ky_cwd 175) := rfl
theorem kw_176 : lw_tbl[1723]? = some (ky_cwd 176) := rfl
theorem kw_177 : lw_tbl[1582]? = some (ky_cwd 177) := rfl
theorem kw_178 : lw_tbl[1671]? = some (ky_cwd 178) := rfl
theorem kw_179 : lw_tbl[1594]? = some (ky_cwd 179) := rfl
theorem kw_180 : lw_tbl[1643]? = some (ky_cwd 180) := rfl
theorem kw_181 : lw_tbl[1699]? = some (ky_cwd 181) := rfl
theorem kw_182 : lw_tbl[1659]? = some (ky_cwd 182) := rfl
theorem kw_183 : lw_tbl[1667]? = some (ky_cwd 183) := rfl
theorem kw_184 : lw_tbl[1663]? = some (ky_cwd 184) := rfl
theorem kw_185 : lw_tbl[1719]? = some (ky_cwd 185) := rfl
theorem kw_186 : lw_tbl[1771]? = some (ky_cwd 186) := rfl
theorem kw_187 : lw_tbl[1715]? = some (ky_cwd 187) := rfl
theorem kw_188 : lw_tbl[1727]? = some (ky_cwd 188) := rfl
theorem kw_189 : lw_tbl[1735]? = some (ky_cwd 189) := rfl
theorem kw_190 : lw_tbl[1739]? = some (ky_cwd 190) := rfl
theorem kw_191 : lw_tbl[1747]? = some (ky_cwd 191) := rfl
theorem kw_192 : lw_tbl[1743]? = some (ky_cwd 192) := rfl
theorem kw_193 : lw_tbl[1731]? = some (ky_cwd 193) := rfl
theorem kw_194 : lw_tbl[1711]? = some (ky_cwd 194) := rfl
theorem kw_195 : lw_tbl[1707]? = some (ky_cwd 195) := rfl
theorem kw_196 : lw_tbl[1794]? = some (ky_cwd 196) := rfl
theorem kw_197 : lw_tbl[1435]? = some (ky_cwd 197) := rfl
theorem kw_198 : lw_tbl[1432]? = some (ky_cwd 198) := rfl
theorem kw_199 : lw_tbl[1443]? = some (ky_cwd 199) := rfl
theorem kw_200 : lw_tbl[1467]? = some (ky_cwd 200) := rfl
theorem kw_201 : lw_tbl[1470]? = some (ky_cwd 201) := rfl
theorem kw_202 : lw_tbl[1476]? = some (ky_cwd 202) := rfl
theorem kw_203 : lw_tbl[1463]? = some (ky_cwd 203) := rfl
theorem kw_204 : lw_tbl[1498]? = some (ky_cwd 204) := rfl
theorem kw_205 : lw_tbl[1494]? = some (ky_cwd 205) := rfl
theorem kw_206 : lw_tbl[1485]? = some (ky_cwd 206) := rfl
theorem kw_207 : lw_tbl[1510]? = some (ky_cwd 207) := rfl
theorem kw_208 : lw_tbl[1527]? = some (ky_cwd 208) := rfl
theorem kw_209 : lw_tbl[1459]? = some (ky_cwd 209) := rfl
theorem kw_210 : lw_tbl[1447]? = some (ky_cwd 210) := rfl
theorem kw_211 : lw_tbl[1451]? = some (ky_cwd 211) := rfl
theorem kw_212 : lw_tbl[1489]? = some (ky_cwd 212) := rfl
theorem kw_213 : lw_tbl[1763]? = some (ky_cwd 213) := rfl
theorem kw_214 : lw_tbl[1759]? = some (ky_cwd 214) := rfl
theorem kw_215 : lw_tbl[1481]? = some (ky_cwd 215) := rfl
theorem kw_216 : lw_tbl[1514]? = some (ky_cwd 216) := rfl
theorem kw_217 : lw_tbl[1505]? = some (ky_cwd 217) := rfl
theorem kw_218 : lw_tbl[1455]? = some (ky_cwd 218) := rfl
theorem kw_219 : lw_tbl[1546]? = some (ky_cwd 219) := rfl
theorem kw_220 : lw_tbl[1558]? = some (ky_cwd 220) := rfl
theorem kw_221 : lw_tbl[1542]? = some (ky_cwd 221) := rfl
theorem kw_222 : lw_tbl[1570]? = some (ky_cwd 222) := rfl
theorem kw_223 : lw_tbl[1566]? = some (ky_cwd 223) := rfl
theorem kw_224 : lw_tbl[1538]? = some (ky_cwd 224) := rfl
theorem kw_225 : lw_tbl[1755]? = some (ky_cwd 225) := rfl
theorem kw_226 : lw_tbl[1751]? = some (ky_cwd 226) := rfl
theorem kw_227 : lw_tbl[1703]? = some (ky_cwd 227) := rfl
theorem kw_228 : lw_tbl[1775]? = some (ky_cwd 228) := rfl
theorem kw_229 : lw_tbl[1779]? = some (ky_cwd 229) := rfl
theorem kw_230 : lw_tbl[1783]? = some (ky_cwd 230) := rfl
theorem kw_231 : lw_tbl[1791]? = some (ky_cwd 231) := rfl
theorem kw_232 : lw_tbl[1787]? = some (ky_cwd 232) := rfl
theorem kw_233 : lw_tbl[1767]? = some (ky_cwd 233) := rfl
theorem kw_234 : lw_tbl[1802]? = some (ky_cwd 234) := rfl
theorem kw_235 : lw_tbl[1806]? = some (ky_cwd 235) := rfl
theorem kw_236 : lw_tbl[1798]? = some (ky_cwd 236) := rfl
theorem kw_237 : lw_tbl[1810]? = some (ky_cwd 237) := rfl
theorem kw_238 : lw_tbl[1814]? = some (ky_cwd 238) := rfl
theorem kw_239 : lw_tbl[1822]? = some (ky_cwd 239) := rfl
theorem kw_240 : lw_tbl[1818]? = some (ky_cwd 240) := rfl
theorem kw_241 : lw_tbl[1691]? = some (ky_cwd 241) := rfl
theorem kw_242 : lw_tbl[1683]? = some (ky_cwd 242) := rfl
theorem kw_243 : lw_tbl[1687]? = some (ky_cwd 243) := rfl
theorem kw_244 : lw_tbl[1826]? = some (ky_cwd 244) := rfl
theorem kw_245 : lw_tbl[1830]? = some (ky_cwd 245) := rfl
theorem kw_246 : lw_tbl[1835]? = some (ky_cwd 246) := rfl
theorem kw_247 : lw_tbl[1839]? = some (ky_cwd 247) := rfl
theorem kw_248 : lw_tbl[1843]? = some (ky_cwd 248) := rfl
theorem kw_249 : lw_tbl[1847]? = some (ky_cwd 249) := rfl
theorem kw_250 : lw_tbl[1851]? = some (ky_cwd 250) := rfl
theorem kw_251 : lw_tbl[1599]? = some (ky_cwd 251) := rfl
theorem kw_252 : lw_tbl[1578]? = some (ky_cwd 252) := rfl
theorem kw_253 : lw_tbl[1615]? = some (ky_cwd 253) := rfl
theorem kw_254 : lw_tbl[1627]? = some (ky_cwd 254) := rfl
theorem kw_255 : lw_tbl[1623]? = some (ky_cwd 255) := rfl
theorem kw_256 : lw_tbl[1611]? = some (ky_cwd 256) := rfl
theorem kw_257 : lw_tbl[1859]? = some (ky_cwd 257) := rfl
theorem kw_258 : lw_tbl[1855]? = some (ky_cwd 258) := rfl
theorem kw_259 : lw_tbl[1871]? = some (ky_cwd 259) := rfl
theorem kw_260 : lw_tbl[1867]? = some (ky_cwd 260) := rfl
theorem kw_261 : lw_tbl[1863]? = some (ky_cwd 261) := rfl
theorem kw_262 : lw_tbl[1875]? = some (ky_cwd 262) := rfl
theorem kw_263 : lw_tbl[1879]? = some (ky_cwd 263) := rfl
theorem kw_264 : lw_tbl[1607]? = some (ky_cwd 264) := rfl
theorem kw_265 : lw_tbl[1603]? = some (ky_cwd 265) := rfl
theorem kw_266 : lw_tbl[1887]? = some (ky_cwd 266) := rfl
theorem kw_267 : lw_tbl[1891]? = some (ky_cwd 267) := rfl
theorem kw_268 : lw_tbl[1883]? = some (ky_cwd 268) := rfl
theorem kw_269 : lw_tbl[1647]? = some (ky_cwd 269) := rfl
theorem kw_270 : lw_tbl[1895]? = some (ky_cwd 270) := rfl
theorem kw_271 : lw_tbl[1635]? = some (ky_cwd 271) := rfl
theorem kw_272 : lw_tbl[1651]? = some (ky_cwd 272) := rfl
theorem kw_273 : lw_tbl[1899]? = some (ky_cwd 273) := rfl
theorem kw_274 : lw_tbl[1574]? = some (ky_cwd 274) := rfl
theorem kw_275 : lw_tbl[1903]? = some (ky_cwd 275) := rfl
theorem kw_276 : lw_tbl[1631]? = some (ky_cwd 276) := rfl
theorem kw_277 : lw_tbl[1907]? = some (ky_cwd 277) := rfl
theorem kw_278 : lw_tbl[1639]? = some (ky_cwd 278) := rfl
theorem kw_279 : lw_tbl[1911]? = some (ky_cwd 279) := rfl
theorem kw_280 : lw_tbl[1655]? = some (ky_cwd 280) := rfl
theorem kw_281 : lw_tbl[1915]? = some (ky_cwd 281) := rfl
theorem kw_282 : lw_tbl[1919]? = some (ky_cwd 282) := rfl
theorem kw_283 : lw_tbl[1695]? = some (ky_cwd 283) := rfl
theorem kw_284 : lw_tbl[1679]? = some (ky_cwd 284) := rfl
theorem kw_285 : lw_tbl[1675]? = some (ky_cwd 285) := rfl
theorem kw_286 : lw_tbl[1923]? = some (ky_cwd 286) := rfl
theorem kw_287 : lw_tbl[1927]? = some (ky_cwd 287) := rfl
theorem kw_288 : lw_tbl[1931]? = some (ky_cwd 288) := rfl
theorem kw_289 : lw_tbl[1935]? = some (ky_cwd 289) := rfl
theorem kw_290 : lw_tbl[1947]? = some (ky_cwd 290) := rfl
theorem kw_291 : lw_tbl[1943]? = some (ky_cwd 291) := rfl
theorem kw_292 : lw_tbl[1939]? = some (ky_cwd 292) := rfl
theorem kw_293 : lw_tbl[1951]? = some (ky_cwd 293) := rfl
theorem kw_294 : lw_tbl[1955]? = some (ky_cwd 294) := rfl
theorem kw_295 : lw_tbl[1963]? = some (ky_cwd 295) := rfl
theorem kw_296 : lw_tbl[1959]? = some (ky_cwd 296) := rfl
theorem kw_297 : lw_tbl[1967]? = some (ky_cwd 297) := rfl
theorem kw_298 : lw_tbl[680]? = some (ky_cwd 298) := rfl
theorem kw_299 : lw_tbl[895]? = some (ky_cwd 299) := rfl
theorem kw_300 : lw_tbl[978]? = some (ky_cwd 300) := rfl
theorem kw_301 : lw_tbl[1025]? = some (ky_cwd 301) := rfl
theorem kw_302 : lw_tbl[1072]? = some (ky_cwd 302) := rfl
theorem kw_303 : lw_tbl[1079]? = some (ky_cwd 303) := rfl
theorem kw_304 : lw_tbl[1087]? = some (ky_cwd 304) := rfl
theorem kw_305 : lw_tbl[1104]? = some (ky_cwd 305) := rfl
theorem kw_306 : lw_tbl[1132]? = some (ky_cwd 306) := rfl
theorem kw_307 : lw_tbl[1139]? = some (ky_cwd 307) := rfl
theorem kw_308 : lw_tbl[1147]? = some (ky_cwd 308) := rfl
theorem kw_309 : lw_tbl[1158]? = some (ky_cwd 309) := rfl
theorem kw_310 : lw_tbl[1173]? = some (ky_cwd 310) := rfl
theorem kw_311 : lw_tbl[1185]? = some (ky_cwd 311) := rfl
theorem kw_312 : lw_tbl[1192]? = some (ky_cwd 312) := rfl
theorem kw_313 : lw_tbl[1211]? = some (ky_cwd 313) := rfl
theorem kw_314 : lw_tbl[1218]? = some (ky_cwd 314) := rfl
theorem kw_315 : lw_tbl[1225]? = some (ky_cwd 315) := rfl
theorem kw_316 : lw_tbl[1232]? = some (ky_cwd 316) := rfl
theorem kw_317 : lw_tbl[1239]? = some (ky_cwd 317) := rfl
theorem kw_318 : lw_tbl[1246]? = some (ky_cwd 318) := rfl
theorem kw_319 : lw_tbl[1253]? = some (ky_cwd 319) := rfl
theorem kw_320 : lw_tbl[1260]? = some (ky_cwd 320) := rfl
theorem kw_321 : lw_tbl[1267]? = some (ky_cwd 321) := rfl
theorem kw_322 : lw_tbl[1275]? = some (ky_cwd 322) := rfl
theorem kw_323 : lw_tbl[1283]? = some (ky_cwd 323) := rfl
theorem kw_324 : lw_tbl[1291]? = some (ky_cwd 324) := rfl
theorem kw_325 : lw_tbl[1299]? = some (ky_cwd 325) := rfl
theorem kw_326 : lw_tbl[1311]? = some (ky_cwd 326) := rfl
theorem kw_327 : lw_tbl[1322]? = some (ky_cwd 327) := rfl
def ky_wa : Nat → Nat → Prop
  | 0, _ => True
  | k + 1, m => (∃ p : Nat, lw_tbl[p]? = some (ky_cwd m)) ∧ ky_wa k (m + 1)
set_option maxRecDepth 100000 in
theorem ky_wa_all : ky_wa 328 0 := ⟨⟨_, kw_0⟩, ⟨_, kw_1⟩, ⟨_, kw_2⟩, ⟨_, kw_3⟩, ⟨_, kw_4⟩, ⟨_, kw_5⟩, ⟨_, kw_6⟩, ⟨_, kw_7⟩, ⟨_, kw_8⟩, ⟨_, kw_9⟩, ⟨_, kw_10⟩, ⟨_, kw_11⟩, ⟨_, kw_12⟩, ⟨_, kw_13⟩, ⟨_, kw_14⟩, ⟨_, kw_15⟩, ⟨_, kw_16⟩, ⟨_, kw_17⟩, ⟨_, kw_18⟩, ⟨_, kw_19⟩, ⟨_, kw_20⟩, ⟨_, kw_21⟩, ⟨_, kw_22⟩, ⟨_, kw_23⟩, ⟨_, kw_24⟩, ⟨_, kw_25⟩, ⟨_, kw_26⟩, ⟨_, kw_27⟩, ⟨_, kw_28⟩, ⟨_, kw_29⟩, ⟨_, kw_30⟩, ⟨_, kw_31⟩, ⟨_, kw_32⟩, ⟨_, kw_33⟩, ⟨_, kw_34⟩, ⟨_, kw_35⟩, ⟨_, kw_36⟩, ⟨_, kw_37⟩, ⟨_, kw_38⟩, ⟨_, kw_39⟩, ⟨_, kw_40⟩, ⟨_, kw_41⟩, ⟨_, kw_42⟩, ⟨_, kw_43⟩, ⟨_, kw_44⟩, ⟨_, kw_45⟩, ⟨_, kw_46⟩, ⟨_, kw_47⟩, ⟨_, kw_48⟩, ⟨_, kw_49⟩, ⟨_, kw_50⟩, ⟨_, kw_51⟩, ⟨_, kw_52⟩, ⟨_, kw_53⟩, ⟨_, kw_54⟩, ⟨_, kw_55⟩, ⟨_, kw_56⟩, ⟨_, kw_57⟩, ⟨_, kw_58⟩, ⟨_, kw_59⟩, ⟨_, kw_60⟩, ⟨_, kw_61⟩, ⟨_, kw_62⟩, ⟨_, kw_63⟩, ⟨_, kw_64⟩, ⟨_, kw_65⟩, ⟨_, kw_66⟩, ⟨_, kw_67⟩, ⟨_, kw_68⟩, ⟨_, kw_69⟩, ⟨_, kw_70⟩, ⟨_, kw_71⟩, ⟨_, kw_72⟩, ⟨_, kw_73⟩, ⟨_, kw_74⟩, ⟨_, kw_75⟩, ⟨_, kw_76⟩, ⟨_, kw_77⟩, ⟨_, kw_78⟩, ⟨_, kw_79⟩, ⟨_, kw_80⟩, ⟨_, kw_81⟩, ⟨_, kw_82⟩, ⟨_, kw_83⟩, ⟨_, kw_84⟩, ⟨_, kw_85⟩, ⟨_, kw_86⟩, ⟨_, kw_87⟩, ⟨_, kw_88⟩, ⟨_, kw_89⟩, ⟨_, kw_90⟩, ⟨_, kw_91⟩, ⟨_, kw_92⟩, ⟨_, kw_93⟩, ⟨_, kw_94⟩, ⟨_, kw_95⟩, ⟨_, kw_96⟩, ⟨_, kw_97⟩, ⟨_, kw_98⟩, ⟨_, kw_99⟩, ⟨_, kw_100⟩, ⟨_, kw_101⟩, ⟨_, kw_102⟩, ⟨_, kw_103⟩, ⟨_, kw_104⟩, ⟨_, kw_105⟩, ⟨_, kw_106⟩, ⟨_, kw_107⟩, ⟨_, kw_108⟩, ⟨_, kw_109⟩, ⟨_, kw_110⟩, ⟨_, kw_111⟩, ⟨_, kw_112⟩, ⟨_, kw_113⟩, ⟨_, kw_114⟩, ⟨_, kw_115⟩, ⟨_, kw_116⟩, ⟨_, kw_117⟩, ⟨_, kw_118⟩, ⟨_, kw_119⟩, ⟨_, kw_120⟩, ⟨_, kw_121⟩, ⟨_, kw_122⟩, ⟨_, kw_123⟩, ⟨_, kw_124⟩, ⟨_, kw_125⟩, ⟨_, kw_126⟩, ⟨_, kw_127⟩, ⟨_, kw_128⟩, ⟨_, kw_129⟩, ⟨_, kw_130⟩, ⟨_, kw_131⟩, ⟨_, kw_132⟩, ⟨_, kw_133⟩, ⟨_, kw_134⟩, ⟨_, kw_135⟩, ⟨_, kw_136⟩, ⟨_, kw_137⟩, ⟨_, kw_138⟩, ⟨_, kw_139⟩, ⟨_, kw_140⟩, ⟨_, kw_141⟩, ⟨_, kw_142⟩, ⟨_, kw_143⟩, ⟨_, kw_144⟩, ⟨_, kw_145⟩, ⟨_, kw_146⟩, ⟨_, kw_147⟩, ⟨_, kw_148⟩, ⟨_, kw_149⟩, ⟨_, kw_150⟩, ⟨_, kw_151⟩, ⟨_, kw_152⟩, ⟨_, kw_153⟩, ⟨_, kw_154⟩, ⟨_, kw_155⟩, ⟨_, kw_156⟩, ⟨_, kw_157⟩, ⟨_, kw_158⟩, ⟨_, kw_159⟩, ⟨_, kw_160⟩, ⟨_, kw_161⟩, ⟨_, kw_162⟩, ⟨_, kw_163⟩, ⟨_, kw_164⟩, ⟨_, kw_165⟩, ⟨_, kw_166⟩, ⟨_, kw_167⟩, ⟨_, kw_168⟩, ⟨_, kw_169⟩, ⟨_, kw_170⟩, ⟨_, kw_171⟩, ⟨_, kw_172⟩, ⟨_, kw_173⟩, ⟨_, kw_174⟩, ⟨_, kw_175⟩, ⟨_, kw_176⟩, ⟨_, kw_177⟩, ⟨_, kw_178⟩, ⟨_, kw_179⟩, ⟨_, kw_180⟩, ⟨_, kw_181⟩, ⟨_, kw_182⟩, ⟨_, kw_183⟩, ⟨_, kw_184⟩, ⟨_, kw_185⟩, ⟨_, kw_186⟩, ⟨_, kw_187⟩, ⟨_, kw_188⟩, ⟨_, kw_189⟩, ⟨_, kw_190⟩, ⟨_, kw_191⟩, ⟨_, kw_192⟩, ⟨_, kw_193⟩, ⟨_, kw_194⟩, ⟨_, kw_195⟩, ⟨_, kw_196⟩, ⟨_, kw_197⟩, ⟨_, kw_198⟩, ⟨_, kw_199⟩, ⟨_, kw_200⟩, ⟨_, kw_201⟩, ⟨_, kw_202⟩, ⟨_, kw_203⟩, ⟨_, kw_204⟩, ⟨_, kw_205⟩, ⟨_, kw_206⟩, ⟨_, kw_207⟩, ⟨_, kw_208⟩, ⟨_, kw_209⟩, ⟨_, kw_210⟩, ⟨_, kw_211⟩, ⟨_, kw_212⟩, ⟨_, kw_213⟩, ⟨_, kw_214⟩, ⟨_, kw_215⟩, ⟨_, kw_216⟩, ⟨_, kw_217⟩, ⟨_, kw_218⟩, ⟨_, kw_219⟩, ⟨_, kw_220⟩, ⟨_, kw_221⟩, ⟨_, kw_222⟩, ⟨_, kw_223⟩, ⟨_, kw_224⟩, ⟨_, kw_225⟩, ⟨_, kw_226⟩, ⟨_, kw_227⟩, ⟨_, kw_228⟩, ⟨_, kw_229⟩, ⟨_, kw_230⟩, ⟨_, kw_231⟩, ⟨_, kw_232⟩, ⟨_, kw_233⟩, ⟨_, kw_234⟩, ⟨_, kw_235⟩, ⟨_, kw_236⟩, ⟨_, kw_237⟩, ⟨_, kw_238⟩, ⟨_, kw_239⟩, ⟨_, kw_240⟩, ⟨_, kw_241⟩, ⟨_, kw_242⟩, ⟨_, kw_243⟩, ⟨_, kw_244⟩, ⟨_, kw_245⟩, ⟨_, kw_246⟩, ⟨_, kw_247⟩, ⟨_, kw_248⟩, ⟨_, kw_249⟩, ⟨_, kw_250⟩, ⟨_, kw_251⟩, ⟨_, kw_252⟩, ⟨_, kw_253⟩, ⟨_, kw_254⟩, ⟨_, kw_255⟩, ⟨_, kw_256⟩, ⟨_, kw_257⟩, ⟨_, kw_258⟩, ⟨_, kw_259⟩, ⟨_, kw_260⟩, ⟨_, kw_261⟩, ⟨_, kw_262⟩, ⟨_, kw_263⟩, ⟨_, kw_264⟩, ⟨_, kw_265⟩, ⟨_, kw_266⟩, ⟨_, kw_267⟩, ⟨_, kw_268⟩, ⟨_, kw_269⟩, ⟨_, kw_270⟩, ⟨_, kw_271⟩, ⟨_, kw_272⟩, ⟨_, kw_273⟩, ⟨_, kw_274⟩, ⟨_, kw_275⟩, ⟨_, kw_276⟩, ⟨_, kw_277⟩, ⟨_, kw_278⟩, ⟨_, kw_279⟩, ⟨_, kw_280⟩, ⟨_, kw_281⟩, ⟨_, kw_282⟩, ⟨_, kw_283⟩, ⟨_, kw_284⟩, ⟨_, kw_285⟩, ⟨_, kw_286⟩, ⟨_, kw_287⟩, ⟨_, kw_288⟩, ⟨_, kw_289⟩, ⟨_, kw_290⟩, ⟨_, kw_291⟩, ⟨_, kw_292⟩, ⟨_, kw_293⟩, ⟨_, kw_294⟩, ⟨_, kw_295⟩, ⟨_, kw_296⟩, ⟨_, kw_297⟩, ⟨_, kw_298⟩, ⟨_, kw_299⟩, ⟨_, kw_300⟩, ⟨_, kw_301⟩, ⟨_, kw_302⟩, ⟨_, kw_303⟩, ⟨_, kw_304⟩, ⟨_, kw_305⟩, ⟨_, kw_306⟩, ⟨_, kw_307⟩, ⟨_, kw_308⟩, ⟨_, kw_309⟩, ⟨_, kw_310⟩, ⟨_, kw_311⟩, ⟨_, kw_312⟩, ⟨_, kw_313⟩, ⟨_, kw_314⟩, ⟨_, kw_315⟩, ⟨_, kw_316⟩, ⟨_, kw_317⟩, ⟨_, kw_318⟩, ⟨_, kw_319⟩, ⟨_, kw_320⟩, ⟨_, kw_321⟩, ⟨_, kw_322⟩, ⟨_, kw_323⟩, ⟨_, kw_324⟩, ⟨_, kw_325⟩, ⟨_, kw_326⟩, ⟨_, kw_327⟩, trivial⟩
theorem ky_wa_get : ∀ (k m j : Nat), ky_wa k m → j < k → ∃ p : Nat, lw_tbl[p]? = some (ky_cwd (m + j))
  | 0, _, _, _, h => absurd h (Nat.not_lt_zero _)
  | _ + 1, _, 0, h, _ => h.1
  | k + 1, m, j + 1, h, hj => by
    have h2 := ky_wa_get k (m + 1) j h.2 (Nat.lt_of_succ_lt_succ hj)
    rw [show m + 1 + j = m + (j + 1) by omega] at h2
    exact h2
theorem ky_code_ok (m : Nat) (hm : m < 328) : ky_cwd m ∈ ky_WS := by
  obtain ⟨p, hp⟩ := ky_wa_get 328 0 m ky_wa_all hm
  rw [Nat.zero_add] at hp
  refine List.mem_filter.mpr ⟨List.mem_of_getElem? hp, ?_⟩
  unfold ky_cwd
  split <;> rfl
