set_option maxRecDepth 100000 in
theorem kv_220 : kl_220.all (ky_ck 220) = true := by decide +kernel
set_option maxRecDepth 100000 in
theorem kv_221 : kl_221.all (ky_ck 221) = true := by decide +kernel
set_option maxRecDepth 100000 in
theorem kv_222 : kl_222.all (ky_ck 222) = true := by decide +kernel
set_option maxRecDepth 100000 in
theorem kv_223 : kl_223.all (ky_ck 223) = true := by decide +kernel
set_option maxRecDepth 100000 in
theorem kv_224 : kl_224.all (ky_ck 224) = true := by decide +kernel
set_option maxRecDepth 100000 in
theorem kv_225 : kl_225.all (ky_ck 225) = true := by decide +kernel
set_option maxRecDepth 100000 in
theorem kv_226 : kl_226.all (ky_ck 226) = true := by decide +kernel
set_option maxRecDepth 100000 in
theorem kv_227 : kl_227.all (ky_ck 227) = true := by decide +kernel
set_option maxRecDepth 100000 in
theorem kv_228 : kl_228.all (ky_ck 228) = true := by decide +kernel
set_option maxRecDepth 100000 in
theorem kv_229 : kl_229.all (ky_ck 229) = true := by decide +kernel
set_option maxRecDepth 100000 in
theorem kv_230 : kl_230.all (ky_ck 230) = true := by decide +kernel
set_option maxRecDepth 100000 in
theorem kv_231 : kl_231.all (ky_ck 231) = true := by decide +kernel
set_option maxRecDepth 100000 in
theorem kv_232 : kl_232.all (ky_ck 232) = true := by decide +kernel
set_option maxRecDepth 100000 in
theorem kv_233 : kl_233.all (ky_ck 233) = true := by decide +kernel
set_option maxRecDepth 100000 in
theorem kv_234 : kl_234.all (ky_ck 234) = true := by decide +kernel
set_option maxRecDepth 100000 in
theorem kv_235 : kl_235.all (ky_ck 235) = true := by decide +kernel
set_option maxRecDepth 100000 in
theorem kv_236 : kl_236.all (ky_ck 236) = true := by decide +kernel
set_option maxRecDepth 100000 in
theorem kv_237 : kl_237.all (ky_ck 237) = true := by decide +kernel
set_option maxRecDepth 100000 in
theorem kv_238 : kl_238.all (ky_ck 238) = true := by decide +kernel
set_option maxRecDepth 100000 in
theorem kv_239 : kl_239.all (ky_ck 239) = true := by decide +kernel
set_option maxRecDepth 100000 in
theorem kv_240 : kl_240.all (ky_ck 240) = true := by decide +kernel
set_option maxRecDepth 100000 in
theorem kv_241 : kl_241.all (ky_ck 241) = true := by decide +kernel
set_option maxRecDepth 100000 in
theorem kv_242 : kl_242.all (ky_ck 242) = true := by decide +kernel
set_option maxRecDepth 100000 in
theorem kv_243 : kl_243.all (ky_ck 243) = true := by decide +kernel
set_option maxRecDepth 100000 in
theorem kv_244 : kl_244.all (ky_ck 244) = true := by decide +kernel
set_option maxRecDepth 100000 in
theorem kv_245 : kl_245.all (ky_ck 245) = true := by decide +kernel
set_option maxRecDepth 100000 in
theorem kv_246 : kl_246.all (ky_ck 246) = true := by decide +kernel
set_option maxRecDepth 100000 in
theorem kv_247 : kl_247.all (ky_ck 247) = true := by decide +kernel
set_option maxRecDepth 100000 in
theorem kv_248 : kl_248.all (ky_ck 248) = true := by decide +kernel
set_option maxRecDepth 100000 in
theorem kv_249 : kl_249.all (ky_ck 249) = true := by decide +kernel
set_option maxRecDepth 100000 in
theorem kv_250 : kl_250.all (ky_ck 250) = true := by decide +kernel
set_option maxRecDepth 100000 in
theorem kv_251 : kl_251.all (ky_ck 251) = true := by decide +kernel
set_option maxRecDepth 100000 in
theorem kv_252 : kl_252.all (ky_ck 252) = true := by decide +kernel
set_option maxRecDepth 100000 in
theorem kv_253 : kl_253.all (ky_ck 253) = true := by decide +kernel
set_option maxRecDepth 100000 in
theorem kv_254 : kl_254.all (ky_ck 254) = true := by decide +kernel
set_option maxRecDepth 100000 in
theorem kv_255 : kl_255.all (ky_ck 255) = true := by decide +kernel
set_option maxRecDepth 100000 in
theorem kv_256 : kl_256.all (ky_ck 256) = true := by decide +kernel
set_option maxRecDepth 100000 in
theorem kv_257 : kl_257.all (ky_ck 257) = true := by decide +kernel
set_option maxRecDepth 100000 in
theorem kv_258 : kl_258.all (ky_ck 258) = true := by decide +kernel
set_option maxRecDepth 100000 in
theorem kv_259 : kl_259.all (ky_ck 259) = true := by decide +kernel
set_option maxRecDepth 100000 in
theorem kv_260 : kl_260.all (ky_ck 260) = true := by decide +kernel
set_option maxRecDepth 100000 in
theorem kv_261 : kl_261.all (ky_ck 261) = true := by decide +kernel
set_option maxRecDepth 100000 in
theorem kv_262 : kl_262.all (ky_ck 262) = true := by decide +kernel
set_option maxRecDepth 100000 in
theorem kv_263 : kl_263.all (ky_ck 263) = true := by decide +kernel
set_option maxRecDepth 100000 in
theorem kv_264 : kl_264.all (ky_ck 264) = true := by decide +kernel
set_option maxRecDepth 100000 in
theorem kv_265 : kl_265.all (ky_ck 265) = true := by decide +kernel
set_option maxRecDepth 100000 in
theorem kv_266 : kl_266.all (ky_ck 266) = true := by decide +kernel
set_option maxRecDepth 100000 in
theorem kv_267 : kl_267.all (ky_ck 267) = true := by decide +kernel
set_option maxRecDepth 100000 in
theorem kv_268 : kl_268.all (ky_ck 268) = true := by decide +kernel
set_option maxRecDepth 100000 in
theorem kv_269 : kl_269.all (ky_ck 269) = true := by decide +kernel
set_option maxRecDepth 100000 in
theorem kv_270 : kl_270.all (ky_ck 270) = true := by decide +kernel
set_option maxRecDepth 100000 in
theorem kv_271 : kl_271.all (ky_ck 271) = true := by decide +kernel
set_option maxRecDepth 100000 in
theorem kv_272 : kl_272.all (ky_ck 272) = true := by decide +kernel
set_option maxRecDepth 100000 in
theorem kv_273 : kl_273.all (ky_ck 273) = true := by decide +kernel
set_option maxRecDepth 100000 in
theorem kv_274 : kl_274.all (ky_ck 274) = true := by decide +kernel
