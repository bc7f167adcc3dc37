set_option maxRecDepth 100000 in
theorem kv_165 : kl_165.all (ky_ck 165) = true := by decide +kernel
set_option maxRecDepth 100000 in
theorem kv_166 : kl_166.all (ky_ck 166) = true := by decide +kernel
set_option maxRecDepth 100000 in
theorem kv_167 : kl_167.all (ky_ck 167) = true := by decide +kernel
set_option maxRecDepth 100000 in
theorem kv_168 : kl_168.all (ky_ck 168) = true := by decide +kernel
set_option maxRecDepth 100000 in
theorem kv_169 : kl_169.all (ky_ck 169) = true := by decide +kernel
set_option maxRecDepth 100000 in
theorem kv_170 : kl_170.all (ky_ck 170) = true := by decide +kernel
set_option maxRecDepth 100000 in
theorem kv_171 : kl_171.all (ky_ck 171) = true := by decide +kernel
set_option maxRecDepth 100000 in
theorem kv_172 : kl_172.all (ky_ck 172) = true := by decide +kernel
set_option maxRecDepth 100000 in
theorem kv_173 : kl_173.all (ky_ck 173) = true := by decide +kernel
set_option maxRecDepth 100000 in
theorem kv_174 : kl_174.all (ky_ck 174) = true := by decide +kernel
set_option maxRecDepth 100000 in
theorem kv_175 : kl_175.all (ky_ck 175) = true := by decide +kernel
set_option maxRecDepth 100000 in
theorem kv_176 : kl_176.all (ky_ck 176) = true := by decide +kernel
set_option maxRecDepth 100000 in
theorem kv_177 : kl_177.all (ky_ck 177) = true := by decide +kernel
set_option maxRecDepth 100000 in
theorem kv_178 : kl_178.all (ky_ck 178) = true := by decide +kernel
set_option maxRecDepth 100000 in
theorem kv_179 : kl_179.all (ky_ck 179) = true := by decide +kernel
set_option maxRecDepth 100000 in
theorem kv_180 : kl_180.all (ky_ck 180) = true := by decide +kernel
set_option maxRecDepth 100000 in
theorem kv_181 : kl_181.all (ky_ck 181) = true := by decide +kernel
set_option maxRecDepth 100000 in
theorem kv_182 : kl_182.all (ky_ck 182) = true := by decide +kernel
set_option maxRecDepth 100000 in
theorem kv_183 : kl_183.all (ky_ck 183) = true := by decide +kernel
set_option maxRecDepth 100000 in
theorem kv_184 : kl_184.all (ky_ck 184) = true := by decide +kernel
set_option maxRecDepth 100000 in
theorem kv_185 : kl_185.all (ky_ck 185) = true := by decide +kernel
set_option maxRecDepth 100000 in
theorem kv_186 : kl_186.all (ky_ck 186) = true := by decide +kernel
set_option maxRecDepth 100000 in
theorem kv_187 : kl_187.all (ky_ck 187) = true := by decide +kernel
set_option maxRecDepth 100000 in
theorem kv_188 : kl_188.all (ky_ck 188) = true := by decide +kernel
set_option maxRecDepth 100000 in
theorem kv_189 : kl_189.all (ky_ck 189) = true := by decide +kernel
set_option maxRecDepth 100000 in
theorem kv_190 : kl_190.all (ky_ck 190) = true := by decide +kernel
set_option maxRecDepth 100000 in
theorem kv_191 : kl_191.all (ky_ck 191) = true := by decide +kernel
set_option maxRecDepth 100000 in
theorem kv_192 : kl_192.all (ky_ck 192) = true := by decide +kernel
set_option maxRecDepth 100000 in
theorem kv_193 : kl_193.all (ky_ck 193) = true := by decide +kernel
set_option maxRecDepth 100000 in
theorem kv_194 : kl_194.all (ky_ck 194) = true := by decide +kernel
set_option maxRecDepth 100000 in
theorem kv_195 : kl_195.all (ky_ck 195) = true := by decide +kernel
set_option maxRecDepth 100000 in
theorem kv_196 : kl_196.all (ky_ck 196) = true := by decide +kernel
set_option maxRecDepth 100000 in
theorem kv_197 : kl_197.all (ky_ck 197) = true := by decide +kernel
set_option maxRecDepth 100000 in
theorem kv_198 : kl_198.all (ky_ck 198) = true := by decide +kernel
set_option maxRecDepth 100000 in
theorem kv_199 : kl_199.all (ky_ck 199) = true := by decide +kernel
set_option maxRecDepth 100000 in
theorem kv_200 : kl_200.all (ky_ck 200) = true := by decide +kernel
set_option maxRecDepth 100000 in
theorem kv_201 : kl_201.all (ky_ck 201) = true := by decide +kernel
set_option maxRecDepth 100000 in
theorem kv_202 : kl_202.all (ky_ck 202) = true := by decide +kernel
set_option maxRecDepth 100000 in
theorem kv_203 : kl_203.all (ky_ck 203) = true := by decide +kernel
set_option maxRecDepth 100000 in
theorem kv_204 : kl_204.all (ky_ck 204) = true := by decide +kernel
set_option maxRecDepth 100000 in
theorem kv_205 : kl_205.all (ky_ck 205) = true := by decide +kernel
set_option maxRecDepth 100000 in
theorem kv_206 : kl_206.all (ky_ck 206) = true := by decide +kernel
set_option maxRecDepth 100000 in
theorem kv_207 : kl_207.all (ky_ck 207) = true := by decide +kernel
set_option maxRecDepth 100000 in
theorem kv_208 : kl_208.all (ky_ck 208) = true := by decide +kernel
set_option maxRecDepth 100000 in
theorem kv_209 : kl_209.all (ky_ck 209) = true := by decide +kernel
set_option maxRecDepth 100000 in
theorem kv_210 : kl_210.all (ky_ck 210) = true := by decide +kernel
set_option maxRecDepth 100000 in
theorem kv_211 : kl_211.all (ky_ck 211) = true := by decide +kernel
set_option maxRecDepth 100000 in
theorem kv_212 : kl_212.all (ky_ck 212) = true := by decide +kernel
set_option maxRecDepth 100000 in
theorem kv_213 : kl_213.all (ky_ck 213) = true := by decide +kernel
set_option maxRecDepth 100000 in
theorem kv_214 : kl_214.all (ky_ck 214) = true := by decide +kernel
set_option maxRecDepth 100000 in
theorem kv_215 : kl_215.all (ky_ck 215) = true := by decide +kernel
set_option maxRecDepth 100000 in
theorem kv_216 : kl_216.all (ky_ck 216) = true := by decide +kernel
set_option maxRecDepth 100000 in
theorem kv_217 : kl_217.all (ky_ck 217) = true := by decide +kernel
set_option maxRecDepth 100000 in
theorem kv_218 : kl_218.all (ky_ck 218) = true := by decide +kernel
set_option maxRecDepth 100000 in
theorem kv_219 : kl_219.all (ky_ck 219) = true := by decide +kernel
