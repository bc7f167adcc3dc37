set_option maxRecDepth 100000 in
theorem kv_275 : kl_275.all (ky_ck 275) = true := by decide +kernel
set_option maxRecDepth 100000 in
theorem kv_276 : kl_276.all (ky_ck 276) = true := by decide +kernel
set_option maxRecDepth 100000 in
theorem kv_277 : kl_277.all (ky_ck 277) = true := by decide +kernel
set_option maxRecDepth 100000 in
theorem kv_278 : kl_278.all (ky_ck 278) = true := by decide +kernel
set_option maxRecDepth 100000 in
theorem kv_279 : kl_279.all (ky_ck 279) = true := by decide +kernel
set_option maxRecDepth 100000 in
theorem kv_280 : kl_280.all (ky_ck 280) = true := by decide +kernel
set_option maxRecDepth 100000 in
theorem kv_281 : kl_281.all (ky_ck 281) = true := by decide +kernel
set_option maxRecDepth 100000 in
theorem kv_282 : kl_282.all (ky_ck 282) = true := by decide +kernel
set_option maxRecDepth 100000 in
theorem kv_283 : kl_283.all (ky_ck 283) = true := by decide +kernel
set_option maxRecDepth 100000 in
theorem kv_284 : kl_284.all (ky_ck 284) = true := by decide +kernel
set_option maxRecDepth 100000 in
theorem kv_285 : kl_285.all (ky_ck 285) = true := by decide +kernel
set_option maxRecDepth 100000 in
theorem kv_286 : kl_286.all (ky_ck 286) = true := by decide +kernel
set_option maxRecDepth 100000 in
theorem kv_287 : kl_287.all (ky_ck 287) = true := by decide +kernel
set_option maxRecDepth 100000 in
theorem kv_288 : kl_288.all (ky_ck 288) = true := by decide +kernel
set_option maxRecDepth 100000 in
theorem kv_289 : kl_289.all (ky_ck 289) = true := by decide +kernel
set_option maxRecDepth 100000 in
theorem kv_290 : kl_290.all (ky_ck 290) = true := by decide +kernel
set_option maxRecDepth 100000 in
theorem kv_291 : kl_291.all (ky_ck 291) = true := by decide +kernel
set_option maxRecDepth 100000 in
theorem kv_292 : kl_292.all (ky_ck 292) = true := by decide +kernel
set_option maxRecDepth 100000 in
theorem kv_293 : kl_293.all (ky_ck 293) = true := by decide +kernel
set_option maxRecDepth 100000 in
theorem kv_294 : kl_294.all (ky_ck 294) = true := by decide +kernel
set_option maxRecDepth 100000 in
theorem kv_295 : kl_295.all (ky_ck 295) = true := by decide +kernel
set_option maxRecDepth 100000 in
theorem kv_296 : kl_296.all (ky_ck 296) = true := by decide +kernel
set_option maxRecDepth 100000 in
theorem kv_297 : kl_297.all (ky_ck 297) = true := by decide +kernel
set_option maxRecDepth 100000 in
theorem kv_298 : kl_298.all (ky_ck 298) = true := by decide +kernel
set_option maxRecDepth 100000 in
theorem kv_299 : kl_299.all (ky_ck 299) = true := by decide +kernel
set_option maxRecDepth 100000 in
theorem kv_300 : kl_300.all (ky_ck 300) = true := by decide +kernel
set_option maxRecDepth 100000 in
theorem kv_301 : kl_301.all (ky_ck 301) = true := by decide +kernel
set_option maxRecDepth 100000 in
theorem kv_302 : kl_302.all (ky_ck 302) = true := by decide +kernel
set_option maxRecDepth 100000 in
theorem kv_303 : kl_303.all (ky_ck 303) = true := by decide +kernel
set_option maxRecDepth 100000 in
theorem kv_304 : kl_304.all (ky_ck 304) = true := by decide +kernel
set_option maxRecDepth 100000 in
theorem kv_305 : kl_305.all (ky_ck 305) = true := by decide +kernel
set_option maxRecDepth 100000 in
theorem kv_306 : kl_306.all (ky_ck 306) = true := by decide +kernel
set_option maxRecDepth 100000 in
theorem kv_307 : kl_307.all (ky_ck 307) = true := by decide +kernel
set_option maxRecDepth 100000 in
theorem kv_308 : kl_308.all (ky_ck 308) = true := by decide +kernel
set_option maxRecDepth 100000 in
theorem kv_309 : kl_309.all (ky_ck 309) = true := by decide +kernel
set_option maxRecDepth 100000 in
theorem kv_310 : kl_310.all (ky_ck 310) = true := by decide +kernel
set_option maxRecDepth 100000 in
theorem kv_311 : kl_311.all (ky_ck 311) = true := by decide +kernel
set_option maxRecDepth 100000 in
theorem kv_312 : kl_312.all (ky_ck 312) = true := by decide +kernel
set_option maxRecDepth 100000 in
theorem kv_313 : kl_313.all (ky_ck 313) = true := by decide +kernel
set_option maxRecDepth 100000 in
theorem kv_314 : kl_314.all (ky_ck 314) = true := by decide +kernel
set_option maxRecDepth 100000 in
theorem kv_315 : kl_315.all (ky_ck 315) = true := by decide +kernel
set_option maxRecDepth 100000 in
theorem kv_316 : kl_316.all (ky_ck 316) = true := by decide +kernel
set_option maxRecDepth 100000 in
theorem kv_317 : kl_317.all (ky_ck 317) = true := by decide +kernel
set_option maxRecDepth 100000 in
theorem kv_318 : kl_318.all (ky_ck 318) = true := by decide +kernel
set_option maxRecDepth 100000 in
theorem kv_319 : kl_319.all (ky_ck 319) = true := by decide +kernel
set_option maxRecDepth 100000 in
theorem kv_320 : kl_320.all (ky_ck 320) = true := by decide +kernel
set_option maxRecDepth 100000 in
theorem kv_321 : kl_321.all (ky_ck 321) = true := by decide +kernel
set_option maxRecDepth 100000 in
theorem kv_322 : kl_322.all (ky_ck 322) = true := by decide +kernel
set_option maxRecDepth 100000 in
theorem kv_323 : kl_323.all (ky_ck 323) = true := by decide +kernel
set_option maxRecDepth 100000 in
theorem kv_324 : kl_324.all (ky_ck 324) = true := by decide +kernel
set_option maxRecDepth 100000 in
theorem kv_325 : kl_325.all (ky_ck 325) = true := by decide +kernel
set_option maxRecDepth 100000 in
theorem kv_326 : kl_326.all (ky_ck 326) = true := by decide +kernel
