set_option maxRecDepth 100000 in
theorem kw_82 : lw_tbl[447]? = some (ky_cwd 82) := by decide +kernel
set_option maxRecDepth 100000 in
theorem kw_83 : lw_tbl[479]? = some (ky_cwd 83) := by decide +kernel
set_option maxRecDepth 100000 in
theorem kw_84 : lw_tbl[483]? = some (ky_cwd 84) := by decide +kernel
set_option maxRecDepth 100000 in
theorem kw_85 : lw_tbl[557]? = some (ky_cwd 85) := by decide +kernel
set_option maxRecDepth 100000 in
theorem kw_86 : lw_tbl[548]? = some (ky_cwd 86) := by decide +kernel
set_option maxRecDepth 100000 in
theorem kw_87 : lw_tbl[475]? = some (ky_cwd 87) := by decide +kernel
set_option maxRecDepth 100000 in
theorem kw_88 : lw_tbl[150]? = some (ky_cwd 88) := by decide +kernel
set_option maxRecDepth 100000 in
theorem kw_89 : lw_tbl[900]? = some (ky_cwd 89) := by decide +kernel
set_option maxRecDepth 100000 in
theorem kw_90 : lw_tbl[414]? = some (ky_cwd 90) := by decide +kernel
set_option maxRecDepth 100000 in
theorem kw_91 : lw_tbl[592]? = some (ky_cwd 91) := by decide +kernel
set_option maxRecDepth 100000 in
theorem kw_92 : lw_tbl[767]? = some (ky_cwd 92) := by decide +kernel
set_option maxRecDepth 100000 in
theorem kw_93 : lw_tbl[771]? = some (ky_cwd 93) := by decide +kernel
set_option maxRecDepth 100000 in
theorem kw_94 : lw_tbl[775]? = some (ky_cwd 94) := by decide +kernel
set_option maxRecDepth 100000 in
theorem kw_95 : lw_tbl[983]? = some (ky_cwd 95) := by decide +kernel
set_option maxRecDepth 100000 in
theorem kw_96 : lw_tbl[1030]? = some (ky_cwd 96) := by decide +kernel
set_option maxRecDepth 100000 in
theorem kw_97 : lw_tbl[1076]? = some (ky_cwd 97) := by decide +kernel
set_option maxRecDepth 100000 in
theorem kw_98 : lw_tbl[1083]? = some (ky_cwd 98) := by decide +kernel
set_option maxRecDepth 100000 in
theorem kw_99 : lw_tbl[1091]? = some (ky_cwd 99) := by decide +kernel
set_option maxRecDepth 100000 in
theorem kw_100 : lw_tbl[1109]? = some (ky_cwd 100) := by decide +kernel
set_option maxRecDepth 100000 in
theorem kw_101 : lw_tbl[1136]? = some (ky_cwd 101) := by decide +kernel
set_option maxRecDepth 100000 in
theorem kw_102 : lw_tbl[867]? = some (ky_cwd 102) := by decide +kernel
set_option maxRecDepth 100000 in
theorem kw_103 : lw_tbl[871]? = some (ky_cwd 103) := by decide +kernel
set_option maxRecDepth 100000 in
theorem kw_104 : lw_tbl[1143]? = some (ky_cwd 104) := by decide +kernel
set_option maxRecDepth 100000 in
theorem kw_105 : lw_tbl[875]? = some (ky_cwd 105) := by decide +kernel
set_option maxRecDepth 100000 in
theorem kw_106 : lw_tbl[879]? = some (ky_cwd 106) := by decide +kernel
set_option maxRecDepth 100000 in
theorem kw_107 : lw_tbl[1151]? = some (ky_cwd 107) := by decide +kernel
set_option maxRecDepth 100000 in
theorem kw_108 : lw_tbl[1162]? = some (ky_cwd 108) := by decide +kernel
set_option maxRecDepth 100000 in
theorem kw_109 : lw_tbl[1177]? = some (ky_cwd 109) := by decide +kernel
set_option maxRecDepth 100000 in
theorem kw_110 : lw_tbl[1189]? = some (ky_cwd 110) := by decide +kernel
set_option maxRecDepth 100000 in
theorem kw_111 : lw_tbl[1196]? = some (ky_cwd 111) := by decide +kernel
set_option maxRecDepth 100000 in
theorem kw_112 : lw_tbl[1215]? = some (ky_cwd 112) := by decide +kernel
set_option maxRecDepth 100000 in
theorem kw_113 : lw_tbl[1222]? = some (ky_cwd 113) := by decide +kernel
set_option maxRecDepth 100000 in
theorem kw_114 : lw_tbl[1229]? = some (ky_cwd 114) := by decide +kernel
set_option maxRecDepth 100000 in
theorem kw_115 : lw_tbl[1236]? = some (ky_cwd 115) := by decide +kernel
set_option maxRecDepth 100000 in
theorem kw_116 : lw_tbl[1243]? = some (ky_cwd 116) := by decide +kernel
set_option maxRecDepth 100000 in
theorem kw_117 : lw_tbl[1250]? = some (ky_cwd 117) := by decide +kernel
set_option maxRecDepth 100000 in
theorem kw_118 : lw_tbl[1257]? = some (ky_cwd 118) := by decide +kernel
set_option maxRecDepth 100000 in
theorem kw_119 : lw_tbl[1264]? = some (ky_cwd 119) := by decide +kernel
set_option maxRecDepth 100000 in
theorem kw_120 : lw_tbl[1271]? = some (ky_cwd 120) := by decide +kernel
set_option maxRecDepth 100000 in
theorem kw_121 : lw_tbl[1279]? = some (ky_cwd 121) := by decide +kernel
set_option maxRecDepth 100000 in
theorem kw_122 : lw_tbl[1287]? = some (ky_cwd 122) := by decide +kernel
set_option maxRecDepth 100000 in
theorem kw_123 : lw_tbl[887]? = some (ky_cwd 123) := by decide +kernel
set_option maxRecDepth 100000 in
theorem kw_124 : lw_tbl[1295]? = some (ky_cwd 124) := by decide +kernel
set_option maxRecDepth 100000 in
theorem kw_125 : lw_tbl[1303]? = some (ky_cwd 125) := by decide +kernel
set_option maxRecDepth 100000 in
theorem kw_126 : lw_tbl[1315]? = some (ky_cwd 126) := by decide +kernel
set_option maxRecDepth 100000 in
theorem kw_127 : lw_tbl[1326]? = some (ky_cwd 127) := by decide +kernel
set_option maxRecDepth 100000 in
theorem kw_128 : lw_tbl[1034]? = some (ky_cwd 128) := by decide +kernel
set_option maxRecDepth 100000 in
theorem kw_129 : lw_tbl[1113]? = some (ky_cwd 129) := by decide +kernel
set_option maxRecDepth 100000 in
theorem kw_130 : lw_tbl[1094]? = some (ky_cwd 130) := by decide +kernel
set_option maxRecDepth 100000 in
theorem kw_131 : lw_tbl[1318]? = some (ky_cwd 131) := by decide +kernel
set_option maxRecDepth 100000 in
theorem kw_132 : lw_tbl[1154]? = some (ky_cwd 132) := by decide +kernel
set_option maxRecDepth 100000 in
theorem kw_133 : lw_tbl[351]? = some (ky_cwd 133) := by decide +kernel
set_option maxRecDepth 100000 in
theorem kw_134 : lw_tbl[444]? = some (ky_cwd 134) := by decide +kernel
set_option maxRecDepth 100000 in
theorem kw_135 : lw_tbl[857]? = some (ky_cwd 135) := by decide +kernel
set_option maxRecDepth 100000 in
theorem kw_136 : lw_tbl[854]? = some (ky_cwd 136) := by decide +kernel
set_option maxRecDepth 100000 in
theorem kw_137 : lw_tbl[437]? = some (ky_cwd 137) := by decide +kernel
set_option maxRecDepth 100000 in
theorem kw_138 : lw_tbl[903]? = some (ky_cwd 138) := by decide +kernel
set_option maxRecDepth 100000 in
theorem kw_139 : lw_tbl[975]? = some (ky_cwd 139) := by decide +kernel
set_option maxRecDepth 100000 in
theorem kw_140 : lw_tbl[1200]? = some (ky_cwd 140) := by decide +kernel
set_option maxRecDepth 100000 in
theorem kw_141 : lw_tbl[779]? = some (ky_cwd 141) := by decide +kernel
set_option maxRecDepth 100000 in
theorem kw_142 : lw_tbl[568]? = some (ky_cwd 142) := by decide +kernel
set_option maxRecDepth 100000 in
theorem kw_143 : lw_tbl[619]? = some (ky_cwd 143) := by decide +kernel
set_option maxRecDepth 100000 in
theorem kw_144 : lw_tbl[850]? = some (ky_cwd 144) := by decide +kernel
set_option maxRecDepth 100000 in
theorem kw_145 : lw_tbl[891]? = some (ky_cwd 145) := by decide +kernel
set_option maxRecDepth 100000 in
theorem kw_146 : lw_tbl[1063]? = some (ky_cwd 146) := by decide +kernel
set_option maxRecDepth 100000 in
theorem kw_147 : lw_tbl[1068]? = some (ky_cwd 147) := by decide +kernel
set_option maxRecDepth 100000 in
theorem kw_148 : lw_tbl[987]? = some (ky_cwd 148) := by decide +kernel
set_option maxRecDepth 100000 in
theorem kw_149 : lw_tbl[995]? = some (ky_cwd 149) := by decide +kernel
set_option maxRecDepth 100000 in
theorem kw_150 : lw_tbl[999]? = some (ky_cwd 150) := by decide +kernel
set_option maxRecDepth 100000 in
theorem kw_151 : lw_tbl[1059]? = some (ky_cwd 151) := by decide +kernel
set_option maxRecDepth 100000 in
theorem kw_152 : lw_tbl[648]? = some (ky_cwd 152) := by decide +kernel
set_option maxRecDepth 100000 in
theorem kw_153 : lw_tbl[1181]? = some (ky_cwd 153) := by decide +kernel
set_option maxRecDepth 100000 in
theorem kw_154 : lw_tbl[1166]? = some (ky_cwd 154) := by decide +kernel
set_option maxRecDepth 100000 in
theorem kw_155 : lw_tbl[669]? = some (ky_cwd 155) := by decide +kernel
set_option maxRecDepth 100000 in
theorem kw_156 : lw_tbl[673]? = some (ky_cwd 156) := by decide +kernel
set_option maxRecDepth 100000 in
theorem kw_157 : lw_tbl[1207]? = some (ky_cwd 157) := by decide +kernel
set_option maxRecDepth 100000 in
theorem kw_158 : lw_tbl[719]? = some (ky_cwd 158) := by decide +kernel
set_option maxRecDepth 100000 in
theorem kw_159 : lw_tbl[725]? = some (ky_cwd 159) := by decide +kernel
set_option maxRecDepth 100000 in
theorem kw_160 : lw_tbl[644]? = some (ky_cwd 160) := by decide +kernel
set_option maxRecDepth 100000 in
theorem kw_161 : lw_tbl[706]? = some (ky_cwd 161) := by decide +kernel
set_option maxRecDepth 100000 in
theorem kw_162 : lw_tbl[711]? = some (ky_cwd 162) := by decide +kernel
set_option maxRecDepth 100000 in
theorem kw_163 : lw_tbl[729]? = some (ky_cwd 163) := by decide +kernel
