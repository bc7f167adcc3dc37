set_option maxRecDepth 100000 in
theorem kw_246 : lw_tbl[1835]? = some (ky_cwd 246) := by decide +kernel
set_option maxRecDepth 100000 in
theorem kw_247 : lw_tbl[1839]? = some (ky_cwd 247) := by decide +kernel
set_option maxRecDepth 100000 in
theorem kw_248 : lw_tbl[1843]? = some (ky_cwd 248) := by decide +kernel
set_option maxRecDepth 100000 in
theorem kw_249 : lw_tbl[1847]? = some (ky_cwd 249) := by decide +kernel
set_option maxRecDepth 100000 in
theorem kw_250 : lw_tbl[1851]? = some (ky_cwd 250) := by decide +kernel
set_option maxRecDepth 100000 in
theorem kw_251 : lw_tbl[1599]? = some (ky_cwd 251) := by decide +kernel
set_option maxRecDepth 100000 in
theorem kw_252 : lw_tbl[1578]? = some (ky_cwd 252) := by decide +kernel
set_option maxRecDepth 100000 in
theorem kw_253 : lw_tbl[1615]? = some (ky_cwd 253) := by decide +kernel
set_option maxRecDepth 100000 in
theorem kw_254 : lw_tbl[1627]? = some (ky_cwd 254) := by decide +kernel
set_option maxRecDepth 100000 in
theorem kw_255 : lw_tbl[1623]? = some (ky_cwd 255) := by decide +kernel
set_option maxRecDepth 100000 in
theorem kw_256 : lw_tbl[1611]? = some (ky_cwd 256) := by decide +kernel
set_option maxRecDepth 100000 in
theorem kw_257 : lw_tbl[1859]? = some (ky_cwd 257) := by decide +kernel
set_option maxRecDepth 100000 in
theorem kw_258 : lw_tbl[1855]? = some (ky_cwd 258) := by decide +kernel
set_option maxRecDepth 100000 in
theorem kw_259 : lw_tbl[1871]? = some (ky_cwd 259) := by decide +kernel
set_option maxRecDepth 100000 in
theorem kw_260 : lw_tbl[1867]? = some (ky_cwd 260) := by decide +kernel
set_option maxRecDepth 100000 in
theorem kw_261 : lw_tbl[1863]? = some (ky_cwd 261) := by decide +kernel
set_option maxRecDepth 100000 in
theorem kw_262 : lw_tbl[1875]? = some (ky_cwd 262) := by decide +kernel
set_option maxRecDepth 100000 in
theorem kw_263 : lw_tbl[1879]? = some (ky_cwd 263) := by decide +kernel
set_option maxRecDepth 100000 in
theorem kw_264 : lw_tbl[1607]? = some (ky_cwd 264) := by decide +kernel
set_option maxRecDepth 100000 in
theorem kw_265 : lw_tbl[1603]? = some (ky_cwd 265) := by decide +kernel
set_option maxRecDepth 100000 in
theorem kw_266 : lw_tbl[1887]? = some (ky_cwd 266) := by decide +kernel
set_option maxRecDepth 100000 in
theorem kw_267 : lw_tbl[1891]? = some (ky_cwd 267) := by decide +kernel
set_option maxRecDepth 100000 in
theorem kw_268 : lw_tbl[1883]? = some (ky_cwd 268) := by decide +kernel
set_option maxRecDepth 100000 in
theorem kw_269 : lw_tbl[1647]? = some (ky_cwd 269) := by decide +kernel
set_option maxRecDepth 100000 in
theorem kw_270 : lw_tbl[1895]? = some (ky_cwd 270) := by decide +kernel
set_option maxRecDepth 100000 in
theorem kw_271 : lw_tbl[1635]? = some (ky_cwd 271) := by decide +kernel
set_option maxRecDepth 100000 in
theorem kw_272 : lw_tbl[1651]? = some (ky_cwd 272) := by decide +kernel
set_option maxRecDepth 100000 in
theorem kw_273 : lw_tbl[1899]? = some (ky_cwd 273) := by decide +kernel
set_option maxRecDepth 100000 in
theorem kw_274 : lw_tbl[1574]? = some (ky_cwd 274) := by decide +kernel
set_option maxRecDepth 100000 in
theorem kw_275 : lw_tbl[1903]? = some (ky_cwd 275) := by decide +kernel
set_option maxRecDepth 100000 in
theorem kw_276 : lw_tbl[1631]? = some (ky_cwd 276) := by decide +kernel
set_option maxRecDepth 100000 in
theorem kw_277 : lw_tbl[1907]? = some (ky_cwd 277) := by decide +kernel
set_option maxRecDepth 100000 in
theorem kw_278 : lw_tbl[1639]? = some (ky_cwd 278) := by decide +kernel
set_option maxRecDepth 100000 in
theorem kw_279 : lw_tbl[1911]? = some (ky_cwd 279) := by decide +kernel
set_option maxRecDepth 100000 in
theorem kw_280 : lw_tbl[1655]? = some (ky_cwd 280) := by decide +kernel
set_option maxRecDepth 100000 in
theorem kw_281 : lw_tbl[1915]? = some (ky_cwd 281) := by decide +kernel
set_option maxRecDepth 100000 in
theorem kw_282 : lw_tbl[1919]? = some (ky_cwd 282) := by decide +kernel
set_option maxRecDepth 100000 in
theorem kw_283 : lw_tbl[1695]? = some (ky_cwd 283) := by decide +kernel
set_option maxRecDepth 100000 in
theorem kw_284 : lw_tbl[1679]? = some (ky_cwd 284) := by decide +kernel
set_option maxRecDepth 100000 in
theorem kw_285 : lw_tbl[1675]? = some (ky_cwd 285) := by decide +kernel
set_option maxRecDepth 100000 in
theorem kw_286 : lw_tbl[1923]? = some (ky_cwd 286) := by decide +kernel
set_option maxRecDepth 100000 in
theorem kw_287 : lw_tbl[1927]? = some (ky_cwd 287) := by decide +kernel
set_option maxRecDepth 100000 in
theorem kw_288 : lw_tbl[1931]? = some (ky_cwd 288) := by decide +kernel
set_option maxRecDepth 100000 in
theorem kw_289 : lw_tbl[1935]? = some (ky_cwd 289) := by decide +kernel
set_option maxRecDepth 100000 in
theorem kw_290 : lw_tbl[1947]? = some (ky_cwd 290) := by decide +kernel
set_option maxRecDepth 100000 in
theorem kw_291 : lw_tbl[1943]? = some (ky_cwd 291) := by decide +kernel
set_option maxRecDepth 100000 in
theorem kw_292 : lw_tbl[1939]? = some (ky_cwd 292) := by decide +kernel
set_option maxRecDepth 100000 in
theorem kw_293 : lw_tbl[1951]? = some (ky_cwd 293) := by decide +kernel
set_option maxRecDepth 100000 in
theorem kw_294 : lw_tbl[1955]? = some (ky_cwd 294) := by decide +kernel
set_option maxRecDepth 100000 in
theorem kw_295 : lw_tbl[1963]? = some (ky_cwd 295) := by decide +kernel
set_option maxRecDepth 100000 in
theorem kw_296 : lw_tbl[1959]? = some (ky_cwd 296) := by decide +kernel
set_option maxRecDepth 100000 in
theorem kw_297 : lw_tbl[1967]? = some (ky_cwd 297) := by decide +kernel
set_option maxRecDepth 100000 in
theorem kw_298 : lw_tbl[895]? = some (ky_cwd 298) := by decide +kernel
set_option maxRecDepth 100000 in
theorem kw_299 : lw_tbl[978]? = some (ky_cwd 299) := by decide +kernel
set_option maxRecDepth 100000 in
theorem kw_300 : lw_tbl[1025]? = some (ky_cwd 300) := by decide +kernel
set_option maxRecDepth 100000 in
theorem kw_301 : lw_tbl[1072]? = some (ky_cwd 301) := by decide +kernel
set_option maxRecDepth 100000 in
theorem kw_302 : lw_tbl[1079]? = some (ky_cwd 302) := by decide +kernel
set_option maxRecDepth 100000 in
theorem kw_303 : lw_tbl[1087]? = some (ky_cwd 303) := by decide +kernel
set_option maxRecDepth 100000 in
theorem kw_304 : lw_tbl[1104]? = some (ky_cwd 304) := by decide +kernel
set_option maxRecDepth 100000 in
theorem kw_305 : lw_tbl[1132]? = some (ky_cwd 305) := by decide +kernel
set_option maxRecDepth 100000 in
theorem kw_306 : lw_tbl[1139]? = some (ky_cwd 306) := by decide +kernel
set_option maxRecDepth 100000 in
theorem kw_307 : lw_tbl[1147]? = some (ky_cwd 307) := by decide +kernel
set_option maxRecDepth 100000 in
theorem kw_308 : lw_tbl[1158]? = some (ky_cwd 308) := by decide +kernel
set_option maxRecDepth 100000 in
theorem kw_309 : lw_tbl[1173]? = some (ky_cwd 309) := by decide +kernel
set_option maxRecDepth 100000 in
theorem kw_310 : lw_tbl[1185]? = some (ky_cwd 310) := by decide +kernel
set_option maxRecDepth 100000 in
theorem kw_311 : lw_tbl[1192]? = some (ky_cwd 311) := by decide +kernel
set_option maxRecDepth 100000 in
theorem kw_312 : lw_tbl[1211]? = some (ky_cwd 312) := by decide +kernel
set_option maxRecDepth 100000 in
theorem kw_313 : lw_tbl[1218]? = some (ky_cwd 313) := by decide +kernel
set_option maxRecDepth 100000 in
theorem kw_314 : lw_tbl[1225]? = some (ky_cwd 314) := by decide +kernel
set_option maxRecDepth 100000 in
theorem kw_315 : lw_tbl[1232]? = some (ky_cwd 315) := by decide +kernel
set_option maxRecDepth 100000 in
theorem kw_316 : lw_tbl[1239]? = some (ky_cwd 316) := by decide +kernel
set_option maxRecDepth 100000 in
theorem kw_317 : lw_tbl[1246]? = some (ky_cwd 317) := by decide +kernel
set_option maxRecDepth 100000 in
theorem kw_318 : lw_tbl[1253]? = some (ky_cwd 318) := by decide +kernel
set_option maxRecDepth 100000 in
theorem kw_319 : lw_tbl[1260]? = some (ky_cwd 319) := by decide +kernel
set_option maxRecDepth 100000 in
theorem kw_320 : lw_tbl[1267]? = some (ky_cwd 320) := by decide +kernel
set_option maxRecDepth 100000 in
theorem kw_321 : lw_tbl[1275]? = some (ky_cwd 321) := by decide +kernel
set_option maxRecDepth 100000 in
theorem kw_322 : lw_tbl[1283]? = some (ky_cwd 322) := by decide +kernel
set_option maxRecDepth 100000 in
theorem kw_323 : lw_tbl[1291]? = some (ky_cwd 323) := by decide +kernel
set_option maxRecDepth 100000 in
theorem kw_324 : lw_tbl[1299]? = some (ky_cwd 324) := by decide +kernel
set_option maxRecDepth 100000 in
theorem kw_325 : lw_tbl[1311]? = some (ky_cwd 325) := by decide +kernel
set_option maxRecDepth 100000 in
theorem kw_326 : lw_tbl[1322]? = some (ky_cwd 326) := by decide +kernel
def ky_wa : Nat → Nat → Prop
  | 0, _ => True
  | k + 1, m => (∃ p : Nat, lw_tbl[p]? = some (ky_cwd m)) ∧ ky_wa k (m + 1)
set_option maxRecDepth 100000 in
theorem ky_wa_all : ky_wa 327 0 := ⟨⟨_, kw_0⟩, ⟨_, kw_1⟩, ⟨_, kw_2⟩, ⟨_, kw_3⟩, ⟨_, kw_4⟩, ⟨_, kw_5⟩, ⟨_, kw_6⟩, ⟨_, kw_7⟩, ⟨_, kw_8⟩, ⟨_, kw_9⟩, ⟨_, kw_10⟩, ⟨_, kw_11⟩, ⟨_, kw_12⟩, ⟨_, kw_13⟩, ⟨_, kw_14⟩, ⟨_, kw_15⟩, ⟨_, kw_16⟩, ⟨_, kw_17⟩, ⟨_, kw_18⟩, ⟨_, kw_19⟩, ⟨_, kw_20⟩, ⟨_, kw_21⟩, ⟨_, kw_22⟩, ⟨_, kw_23⟩, ⟨_, kw_24⟩, ⟨_, kw_25⟩, ⟨_, kw_26⟩, ⟨_, kw_27⟩, ⟨_, kw_28⟩, ⟨_, kw_29⟩, ⟨_, kw_30⟩, ⟨_, kw_31⟩, ⟨_, kw_32⟩, ⟨_, kw_33⟩, ⟨_, kw_34⟩, ⟨_, kw_35⟩, ⟨_, kw_36⟩, ⟨_, kw_37⟩, ⟨_, kw_38⟩, ⟨_, kw_39⟩, ⟨_, kw_40⟩, ⟨_, kw_41⟩, ⟨_, kw_42⟩, ⟨_, kw_43⟩, ⟨_, kw_44⟩, ⟨_, kw_45⟩, ⟨_, kw_46⟩, ⟨_, kw_47⟩, ⟨_, kw_48⟩, ⟨_, kw_49⟩, ⟨_, kw_50⟩, ⟨_, kw_51⟩, ⟨_, kw_52⟩, ⟨_, kw_53⟩, ⟨_, kw_54⟩, ⟨_, kw_55⟩, ⟨_, kw_56⟩, ⟨_, kw_57⟩, ⟨_, kw_58⟩, ⟨_, kw_59⟩, ⟨_, kw_60⟩, ⟨_, kw_61⟩, ⟨_, kw_62⟩, ⟨_, kw_63⟩, ⟨_, kw_64⟩, ⟨_, kw_65⟩, ⟨_, kw_66⟩, ⟨_, kw_67⟩, ⟨_, kw_68⟩, ⟨_, kw_69⟩, ⟨_, kw_70⟩, ⟨_, kw_71⟩, ⟨_, kw_72⟩, ⟨_, kw_73⟩, ⟨_, kw_74⟩, ⟨_, kw_75⟩, ⟨_, kw_76⟩, ⟨_, kw_77⟩, ⟨_, kw_78⟩, ⟨_, kw_79⟩, ⟨_, kw_80⟩, ⟨_, kw_81⟩, ⟨_, kw_82⟩, ⟨_, kw_83⟩, ⟨_, kw_84⟩, ⟨_, kw_85⟩, ⟨_, kw_86⟩, ⟨_, kw_87⟩, ⟨_, kw_88⟩, ⟨_, kw_89⟩, ⟨_, kw_90⟩, ⟨_, kw_91⟩, ⟨_, kw_92⟩, ⟨_, kw_93⟩, ⟨_, kw_94⟩, ⟨_, kw_95⟩, ⟨_, kw_96⟩, ⟨_, kw_97⟩, ⟨_, kw_98⟩, ⟨_, kw_99⟩, ⟨_, kw_100⟩, ⟨_, kw_101⟩, ⟨_, kw_102⟩, ⟨_, kw_103⟩, ⟨_, kw_104⟩, ⟨_, kw_105⟩, ⟨_, kw_106⟩, ⟨_, kw_107⟩, ⟨_, kw_108⟩, ⟨_, kw_109⟩, ⟨_, kw_110⟩, ⟨_, kw_111⟩, ⟨_, kw_112⟩, ⟨_, kw_113⟩, ⟨_, kw_114⟩, ⟨_, kw_115⟩, ⟨_, kw_116⟩, ⟨_, kw_117⟩, ⟨_, kw_118⟩, ⟨_, kw_119⟩, ⟨_, kw_120⟩, ⟨_, kw_121⟩, ⟨_, kw_122⟩, ⟨_, kw_123⟩, ⟨_, kw_124⟩, ⟨_, kw_125⟩, ⟨_, kw_126⟩, ⟨_, kw_127⟩, ⟨_, kw_128⟩, ⟨_, kw_129⟩, ⟨_, kw_130⟩, ⟨_, kw_131⟩, ⟨_, kw_132⟩, ⟨_, kw_133⟩, ⟨_, kw_134⟩, ⟨_, kw_135⟩, ⟨_, kw_136⟩, ⟨_, kw_137⟩, ⟨_, kw_138⟩, ⟨_, kw_139⟩, ⟨_, kw_140⟩, ⟨_, kw_141⟩, ⟨_, kw_142⟩, ⟨_, kw_143⟩, ⟨_, kw_144⟩, ⟨_, kw_145⟩, ⟨_, kw_146⟩, ⟨_, kw_147⟩, ⟨_, kw_148⟩, ⟨_, kw_149⟩, ⟨_, kw_150⟩, ⟨_, kw_151⟩, ⟨_, kw_152⟩, ⟨_, kw_153⟩, ⟨_, kw_154⟩, ⟨_, kw_155⟩, ⟨_, kw_156⟩, ⟨_, kw_157⟩, ⟨_, kw_158⟩, ⟨_, kw_159⟩, ⟨_, kw_160⟩, ⟨_, kw_161⟩, ⟨_, kw_162⟩, ⟨_, kw_163⟩, ⟨_, kw_164⟩, ⟨_, kw_165⟩, ⟨_, kw_166⟩, ⟨_, kw_167⟩, ⟨_, kw_168⟩, ⟨_, kw_169⟩, ⟨_, kw_170⟩, ⟨_, kw_171⟩, ⟨_, kw_172⟩, ⟨_, kw_173⟩, ⟨_, kw_174⟩, ⟨_, kw_175⟩, ⟨_, kw_176⟩, ⟨_, kw_177⟩, ⟨_, kw_178⟩, ⟨_, kw_179⟩, ⟨_, kw_180⟩, ⟨_, kw_181⟩, ⟨_, kw_182⟩, ⟨_, kw_183⟩, ⟨_, kw_184⟩, ⟨_, kw_185⟩, ⟨_, kw_186⟩, ⟨_, kw_187⟩, ⟨_, kw_188⟩, ⟨_, kw_189⟩, ⟨_, kw_190⟩, ⟨_, kw_191⟩, ⟨_, kw_192⟩, ⟨_, kw_193⟩, ⟨_, kw_194⟩, ⟨_, kw_195⟩, ⟨_, kw_196⟩, ⟨_, kw_197⟩, ⟨_, kw_198⟩, ⟨_, kw_199⟩, ⟨_, kw_200⟩, ⟨_, kw_201⟩, ⟨_, kw_202⟩, ⟨_, kw_203⟩, ⟨_, kw_204⟩, ⟨_, kw_205⟩, ⟨_, kw_206⟩, ⟨_, kw_207⟩, ⟨_, kw_208⟩, ⟨_, kw_209⟩, ⟨_, kw_210⟩, ⟨_, kw_211⟩, ⟨_, kw_212⟩, ⟨_, kw_213⟩, ⟨_, kw_214⟩, ⟨_, kw_215⟩, ⟨_, kw_216⟩, ⟨_, kw_217⟩, ⟨_, kw_218⟩, ⟨_, kw_219⟩, ⟨_, kw_220⟩, ⟨_, kw_221⟩, ⟨_, kw_222⟩, ⟨_, kw_223⟩, ⟨_, kw_224⟩, ⟨_, kw_225⟩, ⟨_, kw_226⟩, ⟨_, kw_227⟩, ⟨_, kw_228⟩, ⟨_, kw_229⟩, ⟨_, kw_230⟩, ⟨_, kw_231⟩, ⟨_, kw_232⟩, ⟨_, kw_233⟩, ⟨_, kw_234⟩, ⟨_, kw_235⟩, ⟨_, kw_236⟩, ⟨_, kw_237⟩, ⟨_, kw_238⟩, ⟨_, kw_239⟩, ⟨_, kw_240⟩, ⟨_, kw_241⟩, ⟨_, kw_242⟩, ⟨_, kw_243⟩, ⟨_, kw_244⟩, ⟨_, kw_245⟩, ⟨_, kw_246⟩, ⟨_, kw_247⟩, ⟨_, kw_248⟩, ⟨_, kw_249⟩, ⟨_, kw_250⟩, ⟨_, kw_251⟩, ⟨_, kw_252⟩, ⟨_, kw_253⟩, ⟨_, kw_254⟩, ⟨_, kw_255⟩, ⟨_, kw_256⟩, ⟨_, kw_257⟩, ⟨_, kw_258⟩, ⟨_, kw_259⟩, ⟨_, kw_260⟩, ⟨_, kw_261⟩, ⟨_, kw_262⟩, ⟨_, kw_263⟩, ⟨_, kw_264⟩, ⟨_, kw_265⟩, ⟨_, kw_266⟩, ⟨_, kw_267⟩, ⟨_, kw_268⟩, ⟨_, kw_269⟩, ⟨_, kw_270⟩, ⟨_, kw_271⟩, ⟨_, kw_272⟩, ⟨_, kw_273⟩, ⟨_, kw_274⟩, ⟨_, kw_275⟩, ⟨_, kw_276⟩, ⟨_, kw_277⟩, ⟨_, kw_278⟩, ⟨_, kw_279⟩, ⟨_, kw_280⟩, ⟨_, kw_281⟩, ⟨_, kw_282⟩, ⟨_, kw_283⟩, ⟨_, kw_284⟩, ⟨_, kw_285⟩, ⟨_, kw_286⟩, ⟨_, kw_287⟩, ⟨_, kw_288⟩, ⟨_, kw_289⟩, ⟨_, kw_290⟩, ⟨_, kw_291⟩, ⟨_, kw_292⟩, ⟨_, kw_293⟩, ⟨_, kw_294⟩, ⟨_, kw_295⟩, ⟨_, kw_296⟩, ⟨_, kw_297⟩, ⟨_, kw_298⟩, ⟨_, kw_299⟩, ⟨_, kw_300⟩, ⟨_, kw_301⟩, ⟨_, kw_302⟩, ⟨_, kw_303⟩, ⟨_, kw_304⟩, ⟨_, kw_305⟩, ⟨_, kw_306⟩, ⟨_, kw_307⟩, ⟨_, kw_308⟩, ⟨_, kw_309⟩, ⟨_, kw_310⟩, ⟨_, kw_311⟩, ⟨_, kw_312⟩, ⟨_, kw_313⟩, ⟨_, kw_314⟩, ⟨_, kw_315⟩, ⟨_, kw_316⟩, ⟨_, kw_317⟩, ⟨_, kw_318⟩, ⟨_, kw_319⟩, ⟨_, kw_320⟩, ⟨_, kw_321⟩, ⟨_, kw_322⟩, ⟨_, kw_323⟩, ⟨_, kw_324⟩, ⟨_, kw_325⟩, ⟨_, kw_326⟩, trivial⟩
theorem ky_wa_get : ∀ (k m j : Nat), ky_wa k m → j < k → ∃ p : Nat, lw_tbl[p]? = some (ky_cwd (m + j))
  | 0, _, _, _, h => absurd h (Nat.not_lt_zero _)
  | _ + 1, _, 0, h, _ => h.1
  | k + 1, m, j + 1, h, hj => by
    have h2 := ky_wa_get k (m + 1) j h.2 (Nat.lt_of_succ_lt_succ hj)
    rw [show m + 1 + j = m + (j + 1) by omega] at h2
    exact h2
theorem ky_code_ok (m : Nat) (hm : m < 327) : ky_cwd m ∈ ky_WS := by
  obtain ⟨p, hp⟩ := ky_wa_get 327 0 m ky_wa_all hm
  rw [Nat.zero_add] at hp
  refine List.mem_filter.mpr ⟨List.mem_of_getElem? hp, ?_⟩
  unfold ky_cwd
  split <;> rfl
