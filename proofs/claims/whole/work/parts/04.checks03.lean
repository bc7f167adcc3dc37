set_option maxRecDepth 100000 in
theorem kv_110 : kl_110.all (ky_ck 110) = true := by decide +kernel
set_option maxRecDepth 100000 in
theorem kv_111 : kl_111.all (ky_ck 111) = true := by decide +kernel
set_option maxRecDepth 100000 in
theorem kv_112 : kl_112.all (ky_ck 112) = true := by decide +kernel
set_option maxRecDepth 100000 in
theorem kv_113 : kl_113.all (ky_ck 113) = true := by decide +kernel
set_option maxRecDepth 100000 in
theorem kv_114 : kl_114.all (ky_ck 114) = true := by decide +kernel
set_option maxRecDepth 100000 in
theorem kv_115 : kl_115.all (ky_ck 115) = true := by decide +kernel
set_option maxRecDepth 100000 in
theorem kv_116 : kl_116.all (ky_ck 116) = true := by decide +kernel
set_option maxRecDepth 100000 in
theorem kv_117 : kl_117.all (ky_ck 117) = true := by decide +kernel
set_option maxRecDepth 100000 in
theorem kv_118 : kl_118.all (ky_ck 118) = true := by decide +kernel
set_option maxRecDepth 100000 in
theorem kv_119 : kl_119.all (ky_ck 119) = true := by decide +kernel
set_option maxRecDepth 100000 in
theorem kv_120 : kl_120.all (ky_ck 120) = true := by decide +kernel
set_option maxRecDepth 100000 in
theorem kv_121 : kl_121.all (ky_ck 121) = true := by decide +kernel
set_option maxRecDepth 100000 in
theorem kv_122 : kl_122.all (ky_ck 122) = true := by decide +kernel
set_option maxRecDepth 100000 in
theorem kv_123 : kl_123.all (ky_ck 123) = true := by decide +kernel
set_option maxRecDepth 100000 in
theorem kv_124 : kl_124.all (ky_ck 124) = true := by decide +kernel
set_option maxRecDepth 100000 in
theorem kv_125 : kl_125.all (ky_ck 125) = true := by decide +kernel
set_option maxRecDepth 100000 in
theorem kv_126 : kl_126.all (ky_ck 126) = true := by decide +kernel
set_option maxRecDepth 100000 in
theorem kv_127 : kl_127.all (ky_ck 127) = true := by decide +kernel
set_option maxRecDepth 100000 in
theorem kv_128 : kl_128.all (ky_ck 128) = true := by decide +kernel
set_option maxRecDepth 100000 in
theorem kv_129 : kl_129.all (ky_ck 129) = true := by decide +kernel
set_option maxRecDepth 100000 in
theorem kv_130 : kl_130.all (ky_ck 130) = true := by decide +kernel
set_option maxRecDepth 100000 in
theorem kv_131 : kl_131.all (ky_ck 131) = true := by decide +kernel
set_option maxRecDepth 100000 in
theorem kv_132 : kl_132.all (ky_ck 132) = true := by decide +kernel
set_option maxRecDepth 100000 in
theorem kv_133 : kl_133.all (ky_ck 133) = true := by decide +kernel
set_option maxRecDepth 100000 in
theorem kv_134 : kl_134.all (ky_ck 134) = true := by decide +kernel
set_option maxRecDepth 100000 in
theorem kv_135 : kl_135.all (ky_ck 135) = true := by decide +kernel
set_option maxRecDepth 100000 in
theorem kv_136 : kl_136.all (ky_ck 136) = true := by decide +kernel
set_option maxRecDepth 100000 in
theorem kv_137 : kl_137.all (ky_ck 137) = true := by decide +kernel
set_option maxRecDepth 100000 in
theorem kv_138 : kl_138.all (ky_ck 138) = true := by decide +kernel
set_option maxRecDepth 100000 in
theorem kv_139 : kl_139.all (ky_ck 139) = true := by decide +kernel
set_option maxRecDepth 100000 in
theorem kv_140 : kl_140.all (ky_ck 140) = true := by decide +kernel
set_option maxRecDepth 100000 in
theorem kv_141 : kl_141.all (ky_ck 141) = true := by decide +kernel
set_option maxRecDepth 100000 in
theorem kv_142 : kl_142.all (ky_ck 142) = true := by decide +kernel
set_option maxRecDepth 100000 in
theorem kv_143 : kl_143.all (ky_ck 143) = true := by decide +kernel
set_option maxRecDepth 100000 in
theorem kv_144 : kl_144.all (ky_ck 144) = true := by decide +kernel
set_option maxRecDepth 100000 in
theorem kv_145 : kl_145.all (ky_ck 145) = true := by decide +kernel
set_option maxRecDepth 100000 in
theorem kv_146 : kl_146.all (ky_ck 146) = true := by decide +kernel
set_option maxRecDepth 100000 in
theorem kv_147 : kl_147.all (ky_ck 147) = true := by decide +kernel
set_option maxRecDepth 100000 in
theorem kv_148 : kl_148.all (ky_ck 148) = true := by decide +kernel
set_option maxRecDepth 100000 in
theorem kv_149 : kl_149.all (ky_ck 149) = true := by decide +kernel
set_option maxRecDepth 100000 in
theorem kv_150 : kl_150.all (ky_ck 150) = true := by decide +kernel
set_option maxRecDepth 100000 in
theorem kv_151 : kl_151.all (ky_ck 151) = true := by decide +kernel
set_option maxRecDepth 100000 in
theorem kv_152 : kl_152.all (ky_ck 152) = true := by decide +kernel
set_option maxRecDepth 100000 in
theorem kv_153 : kl_153.all (ky_ck 153) = true := by decide +kernel
set_option maxRecDepth 100000 in
theorem kv_154 : kl_154.all (ky_ck 154) = true := by decide +kernel
set_option maxRecDepth 100000 in
theorem kv_155 : kl_155.all (ky_ck 155) = true := by decide +kernel
set_option maxRecDepth 100000 in
theorem kv_156 : kl_156.all (ky_ck 156) = true := by decide +kernel
set_option maxRecDepth 100000 in
theorem kv_157 : kl_157.all (ky_ck 157) = true := by decide +kernel
set_option maxRecDepth 100000 in
theorem kv_158 : kl_158.all (ky_ck 158) = true := by decide +kernel
set_option maxRecDepth 100000 in
theorem kv_159 : kl_159.all (ky_ck 159) = true := by decide +kernel
set_option maxRecDepth 100000 in
theorem kv_160 : kl_160.all (ky_ck 160) = true := by decide +kernel
set_option maxRecDepth 100000 in
theorem kv_161 : kl_161.all (ky_ck 161) = true := by decide +kernel
set_option maxRecDepth 100000 in
theorem kv_162 : kl_162.all (ky_ck 162) = true := by decide +kernel
set_option maxRecDepth 100000 in
theorem kv_163 : kl_163.all (ky_ck 163) = true := by decide +kernel
set_option maxRecDepth 100000 in
theorem kv_164 : kl_164.all (ky_ck 164) = true := by decide +kernel
