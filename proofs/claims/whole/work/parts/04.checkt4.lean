set_option maxRecDepth 100000 in
theorem kw_164 : lw_tbl[747]? = some (ky_cwd 164) := by decide +kernel
set_option maxRecDepth 100000 in
theorem kw_165 : lw_tbl[755]? = some (ky_cwd 165) := by decide +kernel
set_option maxRecDepth 100000 in
theorem kw_166 : lw_tbl[1332]? = some (ky_cwd 166) := by decide +kernel
set_option maxRecDepth 100000 in
theorem kw_167 : lw_tbl[1428]? = some (ky_cwd 167) := by decide +kernel
set_option maxRecDepth 100000 in
theorem kw_168 : lw_tbl[1336]? = some (ky_cwd 168) := by decide +kernel
set_option maxRecDepth 100000 in
theorem kw_169 : lw_tbl[1473]? = some (ky_cwd 169) := by decide +kernel
set_option maxRecDepth 100000 in
theorem kw_170 : lw_tbl[1439]? = some (ky_cwd 170) := by decide +kernel
set_option maxRecDepth 100000 in
theorem kw_171 : lw_tbl[1530]? = some (ky_cwd 171) := by decide +kernel
set_option maxRecDepth 100000 in
theorem kw_172 : lw_tbl[1534]? = some (ky_cwd 172) := by decide +kernel
set_option maxRecDepth 100000 in
theorem kw_173 : lw_tbl[1590]? = some (ky_cwd 173) := by decide +kernel
set_option maxRecDepth 100000 in
theorem kw_174 : lw_tbl[1619]? = some (ky_cwd 174) := by decide +kernel
set_option maxRecDepth 100000 in
theorem kw_175 : lw_tbl[1586]? = some (ky_cwd 175) := by decide +kernel
set_option maxRecDepth 100000 in
theorem kw_176 : lw_tbl[1723]? = some (ky_cwd 176) := by decide +kernel
set_option maxRecDepth 100000 in
theorem kw_177 : lw_tbl[1582]? = some (ky_cwd 177) := by decide +kernel
set_option maxRecDepth 100000 in
theorem kw_178 : lw_tbl[1671]? = some (ky_cwd 178) := by decide +kernel
set_option maxRecDepth 100000 in
theorem kw_179 : lw_tbl[1594]? = some (ky_cwd 179) := by decide +kernel
set_option maxRecDepth 100000 in
theorem kw_180 : lw_tbl[1643]? = some (ky_cwd 180) := by decide +kernel
set_option maxRecDepth 100000 in
theorem kw_181 : lw_tbl[1699]? = some (ky_cwd 181) := by decide +kernel
set_option maxRecDepth 100000 in
theorem kw_182 : lw_tbl[1659]? = some (ky_cwd 182) := by decide +kernel
set_option maxRecDepth 100000 in
theorem kw_183 : lw_tbl[1667]? = some (ky_cwd 183) := by decide +kernel
set_option maxRecDepth 100000 in
theorem kw_184 : lw_tbl[1663]? = some (ky_cwd 184) := by decide +kernel
set_option maxRecDepth 100000 in
theorem kw_185 : lw_tbl[1719]? = some (ky_cwd 185) := by decide +kernel
set_option maxRecDepth 100000 in
theorem kw_186 : lw_tbl[1771]? = some (ky_cwd 186) := by decide +kernel
set_option maxRecDepth 100000 in
theorem kw_187 : lw_tbl[1715]? = some (ky_cwd 187) := by decide +kernel
set_option maxRecDepth 100000 in
theorem kw_188 : lw_tbl[1727]? = some (ky_cwd 188) := by decide +kernel
set_option maxRecDepth 100000 in
theorem kw_189 : lw_tbl[1735]? = some (ky_cwd 189) := by decide +kernel
set_option maxRecDepth 100000 in
theorem kw_190 : lw_tbl[1739]? = some (ky_cwd 190) := by decide +kernel
set_option maxRecDepth 100000 in
theorem kw_191 : lw_tbl[1747]? = some (ky_cwd 191) := by decide +kernel
set_option maxRecDepth 100000 in
theorem kw_192 : lw_tbl[1743]? = some (ky_cwd 192) := by decide +kernel
set_option maxRecDepth 100000 in
theorem kw_193 : lw_tbl[1731]? = some (ky_cwd 193) := by decide +kernel
set_option maxRecDepth 100000 in
theorem kw_194 : lw_tbl[1711]? = some (ky_cwd 194) := by decide +kernel
set_option maxRecDepth 100000 in
theorem kw_195 : lw_tbl[1707]? = some (ky_cwd 195) := by decide +kernel
set_option maxRecDepth 100000 in
theorem kw_196 : lw_tbl[1794]? = some (ky_cwd 196) := by decide +kernel
set_option maxRecDepth 100000 in
theorem kw_197 : lw_tbl[1435]? = some (ky_cwd 197) := by decide +kernel
set_option maxRecDepth 100000 in
theorem kw_198 : lw_tbl[1432]? = some (ky_cwd 198) := by decide +kernel
set_option maxRecDepth 100000 in
theorem kw_199 : lw_tbl[1443]? = some (ky_cwd 199) := by decide +kernel
set_option maxRecDepth 100000 in
theorem kw_200 : lw_tbl[1467]? = some (ky_cwd 200) := by decide +kernel
set_option maxRecDepth 100000 in
theorem kw_201 : lw_tbl[1470]? = some (ky_cwd 201) := by decide +kernel
set_option maxRecDepth 100000 in
theorem kw_202 : lw_tbl[1476]? = some (ky_cwd 202) := by decide +kernel
set_option maxRecDepth 100000 in
theorem kw_203 : lw_tbl[1463]? = some (ky_cwd 203) := by decide +kernel
set_option maxRecDepth 100000 in
theorem kw_204 : lw_tbl[1498]? = some (ky_cwd 204) := by decide +kernel
set_option maxRecDepth 100000 in
theorem kw_205 : lw_tbl[1494]? = some (ky_cwd 205) := by decide +kernel
set_option maxRecDepth 100000 in
theorem kw_206 : lw_tbl[1485]? = some (ky_cwd 206) := by decide +kernel
set_option maxRecDepth 100000 in
theorem kw_207 : lw_tbl[1510]? = some (ky_cwd 207) := by decide +kernel
set_option maxRecDepth 100000 in
theorem kw_208 : lw_tbl[1527]? = some (ky_cwd 208) := by decide +kernel
set_option maxRecDepth 100000 in
theorem kw_209 : lw_tbl[1459]? = some (ky_cwd 209) := by decide +kernel
set_option maxRecDepth 100000 in
theorem kw_210 : lw_tbl[1447]? = some (ky_cwd 210) := by decide +kernel
set_option maxRecDepth 100000 in
theorem kw_211 : lw_tbl[1451]? = some (ky_cwd 211) := by decide +kernel
set_option maxRecDepth 100000 in
theorem kw_212 : lw_tbl[1489]? = some (ky_cwd 212) := by decide +kernel
set_option maxRecDepth 100000 in
theorem kw_213 : lw_tbl[1763]? = some (ky_cwd 213) := by decide +kernel
set_option maxRecDepth 100000 in
theorem kw_214 : lw_tbl[1759]? = some (ky_cwd 214) := by decide +kernel
set_option maxRecDepth 100000 in
theorem kw_215 : lw_tbl[1481]? = some (ky_cwd 215) := by decide +kernel
set_option maxRecDepth 100000 in
theorem kw_216 : lw_tbl[1514]? = some (ky_cwd 216) := by decide +kernel
set_option maxRecDepth 100000 in
theorem kw_217 : lw_tbl[1505]? = some (ky_cwd 217) := by decide +kernel
set_option maxRecDepth 100000 in
theorem kw_218 : lw_tbl[1455]? = some (ky_cwd 218) := by decide +kernel
set_option maxRecDepth 100000 in
theorem kw_219 : lw_tbl[1546]? = some (ky_cwd 219) := by decide +kernel
set_option maxRecDepth 100000 in
theorem kw_220 : lw_tbl[1558]? = some (ky_cwd 220) := by decide +kernel
set_option maxRecDepth 100000 in
theorem kw_221 : lw_tbl[1542]? = some (ky_cwd 221) := by decide +kernel
set_option maxRecDepth 100000 in
theorem kw_222 : lw_tbl[1570]? = some (ky_cwd 222) := by decide +kernel
set_option maxRecDepth 100000 in
theorem kw_223 : lw_tbl[1566]? = some (ky_cwd 223) := by decide +kernel
set_option maxRecDepth 100000 in
theorem kw_224 : lw_tbl[1538]? = some (ky_cwd 224) := by decide +kernel
set_option maxRecDepth 100000 in
theorem kw_225 : lw_tbl[1755]? = some (ky_cwd 225) := by decide +kernel
set_option maxRecDepth 100000 in
theorem kw_226 : lw_tbl[1751]? = some (ky_cwd 226) := by decide +kernel
set_option maxRecDepth 100000 in
theorem kw_227 : lw_tbl[1703]? = some (ky_cwd 227) := by decide +kernel
set_option maxRecDepth 100000 in
theorem kw_228 : lw_tbl[1775]? = some (ky_cwd 228) := by decide +kernel
set_option maxRecDepth 100000 in
theorem kw_229 : lw_tbl[1779]? = some (ky_cwd 229) := by decide +kernel
set_option maxRecDepth 100000 in
theorem kw_230 : lw_tbl[1783]? = some (ky_cwd 230) := by decide +kernel
set_option maxRecDepth 100000 in
theorem kw_231 : lw_tbl[1791]? = some (ky_cwd 231) := by decide +kernel
set_option maxRecDepth 100000 in
theorem kw_232 : lw_tbl[1787]? = some (ky_cwd 232) := by decide +kernel
set_option maxRecDepth 100000 in
theorem kw_233 : lw_tbl[1767]? = some (ky_cwd 233) := by decide +kernel
set_option maxRecDepth 100000 in
theorem kw_234 : lw_tbl[1802]? = some (ky_cwd 234) := by decide +kernel
set_option maxRecDepth 100000 in
theorem kw_235 : lw_tbl[1806]? = some (ky_cwd 235) := by decide +kernel
set_option maxRecDepth 100000 in
theorem kw_236 : lw_tbl[1798]? = some (ky_cwd 236) := by decide +kernel
set_option maxRecDepth 100000 in
theorem kw_237 : lw_tbl[1810]? = some (ky_cwd 237) := by decide +kernel
set_option maxRecDepth 100000 in
theorem kw_238 : lw_tbl[1814]? = some (ky_cwd 238) := by decide +kernel
set_option maxRecDepth 100000 in
theorem kw_239 : lw_tbl[1822]? = some (ky_cwd 239) := by decide +kernel
set_option maxRecDepth 100000 in
theorem kw_240 : lw_tbl[1818]? = some (ky_cwd 240) := by decide +kernel
set_option maxRecDepth 100000 in
theorem kw_241 : lw_tbl[1691]? = some (ky_cwd 241) := by decide +kernel
set_option maxRecDepth 100000 in
theorem kw_242 : lw_tbl[1683]? = some (ky_cwd 242) := by decide +kernel
set_option maxRecDepth 100000 in
theorem kw_243 : lw_tbl[1687]? = some (ky_cwd 243) := by decide +kernel
set_option maxRecDepth 100000 in
theorem kw_244 : lw_tbl[1826]? = some (ky_cwd 244) := by decide +kernel
set_option maxRecDepth 100000 in
theorem kw_245 : lw_tbl[1830]? = some (ky_cwd 245) := by decide +kernel
