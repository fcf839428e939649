abbrev cX11_holds : ByteArray := prog_13_method_127_code
def yX11_holds : MethodName := ⟨RX11, "holds", "(II)Z"⟩
theorem t2058 : Cond.code yX11_holds cX11_holds 8 (some .boolean) ∈ GW := gw_mem 2172 (by decide +kernel) (by decide +kernel)
abbrev O_m_holds_0 (cy : Nat → ClassId) (vnh : Nat → Int32) (vo : Nat) (voth : Int32) (vmt : Nat) (votp : Int32) (vosz : Int32) (volm : Int32) (voto : Int32) (vofr : Int32) (vokd : Int32) (vonu : Int32) (vosg : Int32) (vofa : Int32) (vopl : Int32) (vowd : Int64) (votd : Int32) (vmn : Nat) (vmr : Nat) (vmk : Nat) (vms : Nat) (vma : Nat) (vmm : Nat) (vmrn : Nat) (vmkn : Nat) (vmik : Nat) (vmon : Nat) (vosm : Int32) (vohp : Int32) (vmw : Nat) (vmf : Nat) (vmb : Nat) (vomb : Int32) (vmd : Nat) (vmc : Nat) (vocm : Int32) (voct : Int32) (vocy : Int32) (vmx : Nat) (votx : Int32) (vose : Int32) (vml : Nat) (vmwr : Nat) (voln : Int32) (vohw : Int32) (vmno : Nat) (vond : Int32) (voon : Int32) (vowi : Int32) (votop : Int32) (vmnf : Nat → Int32) (vk : Int32) (vp : Int32) (u : Int32) : va_W := [(vo, .inr (12, [.int u, .ref vmt, .int votp, .int vosz, .int volm, .int voto, .int vofr, .int vokd, .int vonu, .int vosg, .int vofa, .int vopl, .long vowd, .int votd, .ref vmn, .ref vmr, .ref vmk, .ref vms, .ref vma, .ref vmm, .ref vmrn, .ref vmkn, .ref vmik, .ref vmon, .int vosm, .int vohp, .ref vmw, .ref vmf, .ref vmb, .int vomb, .ref vmd, .ref vmc, .int vocm, .int voct, .int vocy, .ref vmx, .int votx, .int vose, .ref vml, .ref vmwr, .int voln, .int vohw, .ref vmno, .int vond, .int voon, .int vowi, .int votop])), (vmn, .inl (cy 0, 575, .inl vmnf))]
theorem dX11_holds_0 : decode cX11_holds 0 = .ok (.sipush 335, 3) := by decide +kernel
theorem dX11_holds_3 : decode cX11_holds 3 = .ok (.iconst 4, 1) := by decide +kernel
theorem dX11_holds_4 : decode cX11_holds 4 = .ok (.iload_n 1, 1) := by decide +kernel
theorem dX11_holds_5 : decode cX11_holds 5 = .ok (.imul, 1) := by decide +kernel
theorem dX11_holds_6 : decode cX11_holds 6 = .ok (.iadd, 1) := by decide +kernel
theorem dX11_holds_7 : decode cX11_holds 7 = .ok (.istore_n 3, 1) := by decide +kernel
theorem dX11_holds_8 : decode cX11_holds 8 = .ok (.aload_n 0, 1) := by decide +kernel
theorem dX11_holds_9 : decode cX11_holds 9 = .ok (.getfield 98, 3) := by decide +kernel
theorem dX11_holds_12 : decode cX11_holds 12 = .ok (.iload_n 3, 1) := by decide +kernel
theorem dX11_holds_13 : decode cX11_holds 13 = .ok (.iconst 1, 1) := by decide +kernel
theorem dX11_holds_14 : decode cX11_holds 14 = .ok (.iadd, 1) := by decide +kernel
theorem dX11_holds_15 : decode cX11_holds 15 = .ok (.iaload, 1) := by decide +kernel
theorem dX11_holds_16 : decode cX11_holds 16 = .ok (.istore 4, 2) := by decide +kernel
theorem dX11_holds_18 : decode cX11_holds 18 = .ok (.aload_n 0, 1) := by decide +kernel
theorem dX11_holds_19 : decode cX11_holds 19 = .ok (.getfield 98, 3) := by decide +kernel
theorem dX11_holds_22 : decode cX11_holds 22 = .ok (.iload_n 3, 1) := by decide +kernel
theorem dX11_holds_23 : decode cX11_holds 23 = .ok (.iconst 2, 1) := by decide +kernel
theorem dX11_holds_24 : decode cX11_holds 24 = .ok (.iadd, 1) := by decide +kernel
theorem dX11_holds_25 : decode cX11_holds 25 = .ok (.iaload, 1) := by decide +kernel
theorem dX11_holds_26 : decode cX11_holds 26 = .ok (.istore 5, 2) := by decide +kernel
theorem dX11_holds_28 : decode cX11_holds 28 = .ok (.aload_n 0, 1) := by decide +kernel
theorem dX11_holds_29 : decode cX11_holds 29 = .ok (.getfield 98, 3) := by decide +kernel
theorem dX11_holds_32 : decode cX11_holds 32 = .ok (.iload_n 3, 1) := by decide +kernel
theorem dX11_holds_33 : decode cX11_holds 33 = .ok (.iaload, 1) := by decide +kernel
theorem dX11_holds_34 : decode cX11_holds 34 = .ok (.lookupswitch 254 #[(1, 90), (2, 106), (3, 132), (68, 158), (69, 173), (70, 187), (71, 202), (72, 221), (73, 227), (74, 243)], 90) := by decide +kernel
theorem dX11_holds_192 : decode cX11_holds 192 = .ok (.aload_n 0, 1) := by decide +kernel
theorem dX11_holds_193 : decode cX11_holds 193 = .ok (.iload_n 2, 1) := by decide +kernel
theorem dX11_holds_194 : decode cX11_holds 194 = .ok (.invokevirtual 256, 3) := by decide +kernel
theorem dX11_holds_197 : decode cX11_holds 197 = .ok (.iconst 1, 1) := by decide +kernel
theorem dX11_holds_198 : decode cX11_holds 198 = .ok (.if_icmp .ne 7, 3) := by decide +kernel
theorem dX11_holds_205 : decode cX11_holds 205 = .ok (.iconst 0, 1) := by decide +kernel
theorem dX11_holds_206 : decode cX11_holds 206 = .ok (.ireturn, 1) := by decide +kernel
theorem dX11_holds_201 : decode cX11_holds 201 = .ok (.iconst 1, 1) := by decide +kernel
theorem dX11_holds_202 : decode cX11_holds 202 = .ok (.goto 4, 3) := by decide +kernel
theorem dX11_holds_207 : decode cX11_holds 207 = .ok (.aload_n 0, 1) := by decide +kernel
theorem dX11_holds_208 : decode cX11_holds 208 = .ok (.iload_n 2, 1) := by decide +kernel
theorem dX11_holds_209 : decode cX11_holds 209 = .ok (.invokevirtual 256, 3) := by decide +kernel
theorem dX11_holds_212 : decode cX11_holds 212 = .ok (.ifCond .ne 7, 3) := by decide +kernel
theorem dX11_holds_219 : decode cX11_holds 219 = .ok (.iconst 0, 1) := by decide +kernel
theorem dX11_holds_220 : decode cX11_holds 220 = .ok (.ireturn, 1) := by decide +kernel
theorem dX11_holds_215 : decode cX11_holds 215 = .ok (.iconst 1, 1) := by decide +kernel
theorem dX11_holds_216 : decode cX11_holds 216 = .ok (.goto 4, 3) := by decide +kernel
theorem dX11_holds_221 : decode cX11_holds 221 = .ok (.aload_n 0, 1) := by decide +kernel
theorem dX11_holds_222 : decode cX11_holds 222 = .ok (.iload_n 2, 1) := by decide +kernel
theorem dX11_holds_223 : decode cX11_holds 223 = .ok (.invokevirtual 256, 3) := by decide +kernel
theorem dX11_holds_226 : decode cX11_holds 226 = .ok (.iconst 2, 1) := by decide +kernel
theorem dX11_holds_227 : decode cX11_holds 227 = .ok (.if_icmp .ne 7, 3) := by decide +kernel
theorem dX11_holds_234 : decode cX11_holds 234 = .ok (.iconst 0, 1) := by decide +kernel
theorem dX11_holds_235 : decode cX11_holds 235 = .ok (.ireturn, 1) := by decide +kernel
theorem dX11_holds_230 : decode cX11_holds 230 = .ok (.iconst 1, 1) := by decide +kernel
theorem dX11_holds_231 : decode cX11_holds 231 = .ok (.goto 4, 3) := by decide +kernel
theorem dX11_holds_236 : decode cX11_holds 236 = .ok (.aload_n 0, 1) := by decide +kernel
theorem dX11_holds_237 : decode cX11_holds 237 = .ok (.getfield 98, 3) := by decide +kernel
theorem dX11_holds_240 : decode cX11_holds 240 = .ok (.sipush 298, 3) := by decide +kernel
theorem dX11_holds_243 : decode cX11_holds 243 = .ok (.iload_n 2, 1) := by decide +kernel
theorem dX11_holds_244 : decode cX11_holds 244 = .ok (.iadd, 1) := by decide +kernel
theorem dX11_holds_245 : decode cX11_holds 245 = .ok (.iaload, 1) := by decide +kernel
theorem dX11_holds_246 : decode cX11_holds 246 = .ok (.ifCond .le 7, 3) := by decide +kernel
theorem dX11_holds_253 : decode cX11_holds 253 = .ok (.iconst 0, 1) := by decide +kernel
theorem dX11_holds_254 : decode cX11_holds 254 = .ok (.ireturn, 1) := by decide +kernel
theorem dX11_holds_249 : decode cX11_holds 249 = .ok (.iconst 1, 1) := by decide +kernel
theorem dX11_holds_250 : decode cX11_holds 250 = .ok (.goto 4, 3) := by decide +kernel
theorem dX11_holds_255 : decode cX11_holds 255 = .ok (.aload_n 0, 1) := by decide +kernel
theorem dX11_holds_256 : decode cX11_holds 256 = .ok (.iload_n 2, 1) := by decide +kernel
theorem dX11_holds_257 : decode cX11_holds 257 = .ok (.invokevirtual 265, 3) := by decide +kernel
theorem dX11_holds_260 : decode cX11_holds 260 = .ok (.ireturn, 1) := by decide +kernel
theorem dX11_holds_261 : decode cX11_holds 261 = .ok (.aload_n 0, 1) := by decide +kernel
theorem dX11_holds_262 : decode cX11_holds 262 = .ok (.iload_n 2, 1) := by decide +kernel
theorem dX11_holds_263 : decode cX11_holds 263 = .ok (.iload 4, 2) := by decide +kernel
theorem dX11_holds_265 : decode cX11_holds 265 = .ok (.invokevirtual 228, 3) := by decide +kernel
theorem dX11_holds_268 : decode cX11_holds 268 = .ok (.ifCond .le 7, 3) := by decide +kernel
theorem dX11_holds_275 : decode cX11_holds 275 = .ok (.iconst 0, 1) := by decide +kernel
theorem dX11_holds_276 : decode cX11_holds 276 = .ok (.ireturn, 1) := by decide +kernel
theorem dX11_holds_271 : decode cX11_holds 271 = .ok (.iconst 1, 1) := by decide +kernel
theorem dX11_holds_272 : decode cX11_holds 272 = .ok (.goto 4, 3) := by decide +kernel
theorem dX11_holds_277 : decode cX11_holds 277 = .ok (.aload_n 0, 1) := by decide +kernel
theorem dX11_holds_278 : decode cX11_holds 278 = .ok (.iload 4, 2) := by decide +kernel
theorem dX11_holds_280 : decode cX11_holds 280 = .ok (.invokevirtual 441, 3) := by decide +kernel
theorem t2059 : Cond.methodLink RX11 441 yX11_family ∈ GW := gw_mem 2173 (by decide +kernel) (by decide +kernel)
theorem t1855 : Cond.instanceMethod yX11_family ∈ GW := gw_mem 1969 (by decide +kernel) (by decide +kernel)
theorem t1856 : Cond.selects RX11 yX11_family yX11_family ∈ GW := gw_mem 1970 (by decide +kernel) (by decide +kernel)
theorem cw_X11_441 {R : Room} {s : State} {args : Array Value} {rm : Room} {mc ms : Nat} (hts : ∀ w ∈ GW, w.before args s = true) (hrc : rm.cells = mc) (hrs : rm.slots = ms) (hR : rm.frames + 1 ≤ R.frames ∧ 8 + (5 + 11) + rm.locals ≤ R.locals) : CallW R s args RX11 RX11 441 yX11_family cX11_family 5 (some .int) (wl yX11_family cX11_family 5 (some .int)) rm mc ms 1 := cwV 1 hts (gi_V t2059 t1855 t1856 t18 t1857) rfl hrc hrs (by decide +kernel) hR
theorem dX11_holds_283 : decode cX11_holds 283 = .ok (.iload_n 2, 1) := by decide +kernel
theorem dX11_holds_284 : decode cX11_holds 284 = .ok (.invokestatic 194, 3) := by decide +kernel
theorem dX11_holds_287 : decode cX11_holds 287 = .ok (.ireturn, 1) := by decide +kernel
theorem dX11_holds_288 : decode cX11_holds 288 = .ok (.aload_n 0, 1) := by decide +kernel
theorem dX11_holds_289 : decode cX11_holds 289 = .ok (.getfield 98, 3) := by decide +kernel
theorem dX11_holds_292 : decode cX11_holds 292 = .ok (.iload_n 3, 1) := by decide +kernel
theorem dX11_holds_293 : decode cX11_holds 293 = .ok (.iaload, 1) := by decide +kernel
theorem dX11_holds_294 : decode cX11_holds 294 = .ok (.bipush 50, 2) := by decide +kernel
theorem dX11_holds_296 : decode cX11_holds 296 = .ok (.isub, 1) := by decide +kernel
theorem dX11_holds_297 : decode cX11_holds 297 = .ok (.istore 6, 2) := by decide +kernel
theorem dX11_holds_299 : decode cX11_holds 299 = .ok (.iload 6, 2) := by decide +kernel
theorem dX11_holds_301 : decode cX11_holds 301 = .ok (.bipush 25, 2) := by decide +kernel
theorem dX11_holds_303 : decode cX11_holds 303 = .ok (.if_icmp .ne 11, 3) := by decide +kernel
theorem dX11_holds_314 : decode cX11_holds 314 = .ok (.iload 6, 2) := by decide +kernel
theorem dX11_holds_316 : decode cX11_holds 316 = .ok (.bipush 26, 2) := by decide +kernel
theorem dX11_holds_318 : decode cX11_holds 318 = .ok (.if_icmp .ne 11, 3) := by decide +kernel
theorem dX11_holds_329 : decode cX11_holds 329 = .ok (.iload 6, 2) := by decide +kernel
theorem dX11_holds_331 : decode cX11_holds 331 = .ok (.bipush 27, 2) := by decide +kernel
theorem dX11_holds_333 : decode cX11_holds 333 = .ok (.if_icmp .ne 16, 3) := by decide +kernel
theorem dX11_holds_349 : decode cX11_holds 349 = .ok (.iload_n 2, 1) := by decide +kernel
theorem dX11_holds_350 : decode cX11_holds 350 = .ok (.istore 7, 2) := by decide +kernel
theorem dX11_holds_352 : decode cX11_holds 352 = .ok (.aload_n 0, 1) := by decide +kernel
theorem dX11_holds_353 : decode cX11_holds 353 = .ok (.getfield 98, 3) := by decide +kernel
theorem dX11_holds_356 : decode cX11_holds 356 = .ok (.iload_n 3, 1) := by decide +kernel
theorem dX11_holds_357 : decode cX11_holds 357 = .ok (.iconst 3, 1) := by decide +kernel
theorem dX11_holds_358 : decode cX11_holds 358 = .ok (.iadd, 1) := by decide +kernel
theorem dX11_holds_359 : decode cX11_holds 359 = .ok (.iaload, 1) := by decide +kernel
theorem dX11_holds_360 : decode cX11_holds 360 = .ok (.bipush 60, 2) := by decide +kernel
theorem dX11_holds_362 : decode cX11_holds 362 = .ok (.if_icmp .ne 18, 3) := by decide +kernel
theorem dX11_holds_380 : decode cX11_holds 380 = .ok (.aload_n 0, 1) := by decide +kernel
theorem dX11_holds_381 : decode cX11_holds 381 = .ok (.getfield 98, 3) := by decide +kernel
theorem dX11_holds_384 : decode cX11_holds 384 = .ok (.iload_n 3, 1) := by decide +kernel
theorem dX11_holds_385 : decode cX11_holds 385 = .ok (.iconst 3, 1) := by decide +kernel
theorem dX11_holds_386 : decode cX11_holds 386 = .ok (.iadd, 1) := by decide +kernel
theorem dX11_holds_387 : decode cX11_holds 387 = .ok (.iaload, 1) := by decide +kernel
theorem dX11_holds_388 : decode cX11_holds 388 = .ok (.bipush 61, 2) := by decide +kernel
theorem dX11_holds_390 : decode cX11_holds 390 = .ok (.if_icmp .ne 18, 3) := by decide +kernel
theorem dX11_holds_408 : decode cX11_holds 408 = .ok (.iload 7, 2) := by decide +kernel
theorem dX11_holds_410 : decode cX11_holds 410 = .ok (.iload 5, 2) := by decide +kernel
theorem dX11_holds_412 : decode cX11_holds 412 = .ok (.if_icmp .le 7, 3) := by decide +kernel
theorem dX11_holds_419 : decode cX11_holds 419 = .ok (.iconst 0, 1) := by decide +kernel
theorem dX11_holds_420 : decode cX11_holds 420 = .ok (.ireturn, 1) := by decide +kernel
theorem dX11_holds_415 : decode cX11_holds 415 = .ok (.iconst 1, 1) := by decide +kernel
theorem dX11_holds_416 : decode cX11_holds 416 = .ok (.goto 4, 3) := by decide +kernel
theorem dX11_holds_393 : decode cX11_holds 393 = .ok (.iload 7, 2) := by decide +kernel
theorem dX11_holds_395 : decode cX11_holds 395 = .ok (.iload 5, 2) := by decide +kernel
theorem dX11_holds_397 : decode cX11_holds 397 = .ok (.if_icmp .ne 7, 3) := by decide +kernel
theorem dX11_holds_404 : decode cX11_holds 404 = .ok (.iconst 0, 1) := by decide +kernel
theorem dX11_holds_405 : decode cX11_holds 405 = .ok (.goto 15, 3) := by decide +kernel
theorem dX11_holds_400 : decode cX11_holds 400 = .ok (.iconst 1, 1) := by decide +kernel
theorem dX11_holds_401 : decode cX11_holds 401 = .ok (.goto 19, 3) := by decide +kernel
theorem dX11_holds_365 : decode cX11_holds 365 = .ok (.iload 7, 2) := by decide +kernel
theorem dX11_holds_367 : decode cX11_holds 367 = .ok (.iload 5, 2) := by decide +kernel
theorem dX11_holds_369 : decode cX11_holds 369 = .ok (.if_icmp .ge 7, 3) := by decide +kernel
theorem dX11_holds_376 : decode cX11_holds 376 = .ok (.iconst 0, 1) := by decide +kernel
theorem dX11_holds_377 : decode cX11_holds 377 = .ok (.goto 43, 3) := by decide +kernel
theorem dX11_holds_372 : decode cX11_holds 372 = .ok (.iconst 1, 1) := by decide +kernel
theorem dX11_holds_373 : decode cX11_holds 373 = .ok (.goto 47, 3) := by decide +kernel
theorem dX11_holds_336 : decode cX11_holds 336 = .ok (.aload_n 0, 1) := by decide +kernel
theorem dX11_holds_337 : decode cX11_holds 337 = .ok (.getfield 98, 3) := by decide +kernel
theorem dX11_holds_340 : decode cX11_holds 340 = .ok (.sipush 158, 3) := by decide +kernel
theorem dX11_holds_343 : decode cX11_holds 343 = .ok (.iload_n 2, 1) := by decide +kernel
theorem dX11_holds_344 : decode cX11_holds 344 = .ok (.iadd, 1) := by decide +kernel
theorem dX11_holds_345 : decode cX11_holds 345 = .ok (.iaload, 1) := by decide +kernel
theorem dX11_holds_346 : decode cX11_holds 346 = .ok (.goto 4, 3) := by decide +kernel
theorem dX11_holds_321 : decode cX11_holds 321 = .ok (.aload_n 0, 1) := by decide +kernel
theorem dX11_holds_322 : decode cX11_holds 322 = .ok (.iload_n 2, 1) := by decide +kernel
theorem dX11_holds_323 : decode cX11_holds 323 = .ok (.invokevirtual 244, 3) := by decide +kernel
theorem dX11_holds_326 : decode cX11_holds 326 = .ok (.goto 24, 3) := by decide +kernel
theorem dX11_holds_306 : decode cX11_holds 306 = .ok (.aload_n 0, 1) := by decide +kernel
theorem dX11_holds_307 : decode cX11_holds 307 = .ok (.iload_n 2, 1) := by decide +kernel
theorem dX11_holds_308 : decode cX11_holds 308 = .ok (.invokevirtual 241, 3) := by decide +kernel
theorem dX11_holds_311 : decode cX11_holds 311 = .ok (.goto 39, 3) := by decide +kernel
set_option maxHeartbeats 4000000 in
set_option maxRecDepth 100000 in
theorem m_holds_0 (l : Launch) (dC : Nat → ClassId) (dI : Nat → Nat → Nat) (cy : Nat → ClassId) (sz : Nat) (vnh : Nat → Int32) (vo : Nat) (voth : Int32) (vmt : Nat) (votp : Int32) (vosz : Int32) (volm : Int32) (voto : Int32) (vofr : Int32) (vokd : Int32) (vonu : Int32) (vosg : Int32) (vofa : Int32) (vopl : Int32) (vowd : Int64) (votd : Int32) (vmn : Nat) (vmr : Nat) (vmk : Nat) (vms : Nat) (vma : Nat) (vmm : Nat) (vmrn : Nat) (vmkn : Nat) (vmik : Nat) (vmon : Nat) (vosm : Int32) (vohp : Int32) (vmw : Nat) (vmf : Nat) (vmb : Nat) (vomb : Int32) (vmd : Nat) (vmc : Nat) (vocm : Int32) (voct : Int32) (vocy : Int32) (vmx : Nat) (votx : Int32) (vose : Int32) (vml : Nat) (vmwr : Nat) (voln : Int32) (vohw : Int32) (vmno : Nat) (vond : Int32) (voon : Int32) (vowi : Int32) (votop : Int32) (vmnf : Nat → Int32) (vk : Int32) (vp : Int32) (r_vk : 0 ≤ (vk : Int32).toInt ∧ (vk : Int32).toInt ≤ 0) (r_vp : 0 ≤ (vp : Int32).toInt ∧ (vp : Int32).toInt ≤ 6) (p_vmnf : NW vnh vmnf) : Met l yX11_holds (wl yX11_holds cX11_holds 8 (some .boolean)) ({ frames := 6, cells := 0, slots := 0, locals := 384 }) (Pw (dC, dI) vwCl cy [(vo, .inr (12, [.int voth, .ref vmt, .int votp, .int vosz, .int volm, .int voto, .int vofr, .int vokd, .int vonu, .int vosg, .int vofa, .int vopl, .long vowd, .int votd, .ref vmn, .ref vmr, .ref vmk, .ref vms, .ref vma, .ref vmm, .ref vmrn, .ref vmkn, .ref vmik, .ref vmon, .int vosm, .int vohp, .ref vmw, .ref vmf, .ref vmb, .int vomb, .ref vmd, .ref vmc, .int vocm, .int voct, .int vocy, .ref vmx, .int votx, .int vose, .ref vml, .ref vmwr, .int voln, .int vohw, .ref vmno, .int vond, .int voon, .int vowi, .int votop])), (vmn, .inl (cy 0, 575, .inl vmnf))] sz [.ref vo, .int vk, .int vp] nE) (Qi (dC, dI) vwCl (fun (r : Int32) (u : Int32) => ((r = 0) ∨ (r = 1))) (O_m_holds_0 cy vnh vo voth vmt votp vosz volm voto vofr vokd vonu vosg vofa vopl vowd votd vmn vmr vmk vms vma vmm vmrn vmkn vmik vmon vosm vohp vmw vmf vmb vomb vmd vmc vocm voct vocy vmx votx vose vml vmwr voln vohw vmno vond voon vowi votop vmnf vk vp) (va_A [(vo, .inr (12, [.int voth, .ref vmt, .int votp, .int vosz, .int volm, .int voto, .int vofr, .int vokd, .int vonu, .int vosg, .int vofa, .int vopl, .long vowd, .int votd, .ref vmn, .ref vmr, .ref vmk, .ref vms, .ref vma, .ref vmm, .ref vmrn, .ref vmkn, .ref vmik, .ref vmon, .int vosm, .int vohp, .ref vmw, .ref vmf, .ref vmb, .int vomb, .ref vmd, .ref vmc, .int vocm, .int voct, .int vocy, .ref vmx, .int votx, .int vose, .ref vml, .ref vmwr, .int voln, .int vohw, .ref vmno, .int vond, .int voon, .int vowi, .int votop])), (vmn, .inl (cy 0, 575, .inl vmnf))] sz)) 0 0 (va_A [(vo, .inr (12, [.int voth, .ref vmt, .int votp, .int vosz, .int volm, .int voto, .int vofr, .int vokd, .int vonu, .int vosg, .int vofa, .int vopl, .long vowd, .int votd, .ref vmn, .ref vmr, .ref vmk, .ref vms, .ref vma, .ref vmm, .ref vmrn, .ref vmkn, .ref vmik, .ref vmon, .int vosm, .int vohp, .ref vmw, .ref vmf, .ref vmb, .int vomb, .ref vmd, .ref vmc, .int vocm, .int voct, .int vocy, .ref vmx, .int votx, .int vose, .ref vml, .ref vmwr, .int voln, .int vohw, .ref vmno, .int vond, .int voon, .int vowi, .int votop])), (vmn, .inl (cy 0, 575, .inl vmnf))] sz) := by
  refine mw (Qc := Qi (dC, dI) vwCl (fun (r : Int32) (u : Int32) => ((r = 0) ∨ (r = 1))) (O_m_holds_0 cy vnh vo voth vmt votp vosz volm voto vofr vokd vonu vosg vofa vopl vowd votd vmn vmr vmk vms vma vmm vmrn vmkn vmik vmon vosm vohp vmw vmf vmb vomb vmd vmc vocm voct vocy vmx votx vose vml vmwr voln vohw vmno vond voon vowi votop vmnf vk vp)) RX11 rfl (by decide +kernel) (Nat.le_of_ble_eq_true rfl) ?_
  intro p e s m below meth c A hx hb hr hlocks av9 hav hts hown hnm hml hK hP hD hA hS hE hAe Q9 hQ9 ls hl
  have hl : lv_has ls 8 [(0, .ref vo), (1, .int vk), (2, .int vp)] := hl
  refine lv_sipush (v := 335) hx hb dX11_holds_0 (by decide) ?_
  refine lv_iconst (v := 4) hx hb dX11_holds_3 (by decide) ?_
  refine lv_iload_n hx hb dX11_holds_4 rfl (lv_at hl 1 rfl) ?_
  refine lv_imul hx hb dX11_holds_5 ?_
  refine lv_topi (fun z_1 ez_1 => ?_)
  have k_4 : (4 : Int32).toInt = 4 := by decide
  have bz_1 : z_1.toInt = vk.toInt * 4 := i_cmul k_4 ez_1 (by omega) (by omega)
  refine lv_iadd hx hb dX11_holds_6 ?_
  refine lv_topi (fun z_2 ez_2 => ?_)
  have k_335 : (335 : Int32).toInt = 335 := by decide
  have bz_2 : z_2.toInt = (335 : Int32).toInt + z_1.toInt := i_add ez_2 (by omega) (by omega)
  refine lv_istore_n (lv' := [(3, .int z_2), (0, .ref vo), (1, .int vk), (2, .int vp)]) hx hb dX11_holds_7 rfl hl (by decide) rfl (fun ls hl => ?_)
  refine lv_aload_n hx hb dX11_holds_8 rfl (lv_at hl 1 rfl) ?_
  refine gf_X11_98 hx hb hts hown hK hP 0 rfl rfl dX11_holds_9 ?_
  refine lv_iload_n hx hb dX11_holds_12 rfl (lv_at hl 0 rfl) ?_
  refine lv_iconst (v := 1) hx hb dX11_holds_13 (by decide) ?_
  refine lv_iadd hx hb dX11_holds_14 ?_
  refine lv_topi (fun z_3 ez_3 => ?_)
  have k_1 : (1 : Int32).toInt = 1 := by decide
  have bz_3 : z_3.toInt = z_2.toInt + (1 : Int32).toInt := i_add ez_3 (by omega) (by omega)
  have hin_4 : vp_in z_3 575 := vp_in_iff.mpr ⟨by omega, by omega⟩
  refine va_iald hx hb hK hP 1 0 rfl rfl hin_4 dX11_holds_15 ?_
  refine lv_topi (fun z_5 ez_5 => ?_)
  refine lv_istore (lv' := [(4, .int z_5), (3, .int z_2), (0, .ref vo), (1, .int vk), (2, .int vp)]) hx hb dX11_holds_16 hl (by decide) rfl (fun ls hl => ?_)
  refine lv_aload_n hx hb dX11_holds_18 rfl (lv_at hl 2 rfl) ?_
  refine gf_X11_98 hx hb hts hown hK hP 0 rfl rfl dX11_holds_19 ?_
  refine lv_iload_n hx hb dX11_holds_22 rfl (lv_at hl 1 rfl) ?_
  refine lv_iconst (v := 2) hx hb dX11_holds_23 (by decide) ?_
  refine lv_iadd hx hb dX11_holds_24 ?_
  refine lv_topi (fun z_6 ez_6 => ?_)
  have k_2 : (2 : Int32).toInt = 2 := by decide
  have bz_6 : z_6.toInt = z_2.toInt + (2 : Int32).toInt := i_add ez_6 (by omega) (by omega)
  have hin_7 : vp_in z_6 575 := vp_in_iff.mpr ⟨by omega, by omega⟩
  refine va_iald hx hb hK hP 1 0 rfl rfl hin_7 dX11_holds_25 ?_
  refine lv_topi (fun z_8 ez_8 => ?_)
  refine lv_istore (lv' := [(5, .int z_8), (4, .int z_5), (3, .int z_2), (0, .ref vo), (1, .int vk), (2, .int vp)]) hx hb dX11_holds_26 hl (by decide) rfl (fun ls hl => ?_)
  refine lv_aload_n hx hb dX11_holds_28 rfl (lv_at hl 3 rfl) ?_
  refine gf_X11_98 hx hb hts hown hK hP 0 rfl rfl dX11_holds_29 ?_
  refine lv_iload_n hx hb dX11_holds_32 rfl (lv_at hl 2 rfl) ?_
  have hin_9 : vp_in z_2 575 := vp_in_iff.mpr ⟨by omega, by omega⟩
  refine va_iald hx hb hK hP 1 0 rfl rfl hin_9 dX11_holds_33 ?_
  refine lv_topi (fun z_10 ez_10 => ?_)
  obtain ⟨hA1, hA2, hA3, hA4⟩ := NW.node p_vmnf (k := vk) ⟨by omega, by omega⟩ (i1 := z_3) (by omega) ez_5 (i2 := z_6) (by omega) ez_8 (i0 := z_2) (by omega) ez_10
  have k_3 : (3 : Int32).toInt = 3 := by decide
  have k_68 : (68 : Int32).toInt = 68 := by decide
  have k_69 : (69 : Int32).toInt = 69 := by decide
  have k_70 : (70 : Int32).toInt = 70 := by decide
  have k_71 : (71 : Int32).toInt = 71 := by decide
  have k_72 : (72 : Int32).toInt = 72 := by decide
  have k_73 : (73 : Int32).toInt = 73 := by decide
  have k_74 : (74 : Int32).toInt = 74 := by decide
  by_cases sw_11_1 : z_10.toInt = 1
  · refine as_i 1 (i_eq.mpr (sw_11_1.trans k_1.symm)) ?_
    refine lv_lookup (off := 90) (tgt := 124) hx hb dX11_holds_34 (by decide) (by decide) (by decide) ?_
    have hB := hA1 (by omega)
    exfalso; omega
  by_cases sw_11_2 : z_10.toInt = 2
  · refine as_i 2 (i_eq.mpr (sw_11_2.trans k_2.symm)) ?_
    refine lv_lookup (off := 106) (tgt := 140) hx hb dX11_holds_34 (by decide) (by decide) (by decide) ?_
    have hB := hA2 (by omega)
    exfalso; omega
  by_cases sw_11_3 : z_10.toInt = 3
  · refine as_i 3 (i_eq.mpr (sw_11_3.trans k_3.symm)) ?_
    refine lv_lookup (off := 132) (tgt := 166) hx hb dX11_holds_34 (by decide) (by decide) (by decide) ?_
    have hB := hA3 (by omega)
    exfalso; omega
  by_cases sw_11_68 : z_10.toInt = 68
  · refine as_i 68 (i_eq.mpr (sw_11_68.trans k_68.symm)) ?_
    refine lv_lookup (off := 158) (tgt := 192) hx hb dX11_holds_34 (by decide) (by decide) (by decide) ?_
    refine lv_aload_n hx hb dX11_holds_192 rfl (lv_at hl 3 rfl) ?_
    refine lv_iload_n hx hb dX11_holds_193 rfl (lv_at hl 5 rfl) ?_
    refine jr_i (rVr (As := [.int vp]) (rest := []) (ci := 12) ⟨hx, hb, hml, hown, hts⟩ (m_howOf l dC dI cy vnh vo voth vmt votp vosz volm voto vofr vokd vonu vosg vofa vopl vowd votd vmn vmr vmk vms vma vmm vmrn vmkn vmik vmon vosm vohp vmw vmf vmb vomb vmd vmc vocm voct vocy vmx votx vose vml vmwr voln vohw vmno vond voon vowi votop vmnf vp ⟨by omega, by omega⟩ p_vmnf) (cw_X11_256 hts rfl rfl ⟨Nat.le_of_ble_eq_true rfl, Nat.le_of_ble_eq_true rfl⟩) hP hK [0, 1] rfl rfl rfl rfl hl.1 rfl (Nat.le_of_ble_eq_true rfl) dX11_holds_194 ⟨Nat.le_of_ble_eq_true rfl, Nat.le_of_ble_eq_true rfl⟩) hP hS (fun r_12 H locs hp_13 hP hS => ?_)
    have hp_13 : (0 ≤ (r_12 : Int32).toInt ∧ (r_12 : Int32).toInt ≤ 2) := hp_13
    have q_14 := hp_13
    refine lv_iconst (v := 1) hx hb dX11_holds_197 (by decide) ?_
    refine lv_icmp_ne (tgt := 205) hx hb dX11_holds_198 (by decide) (fun c_15 => ?_) (fun c_15 => ?_)
    · skip
      have c_15 : ¬ (r_12.toInt = (1 : Int32).toInt) := fun h9 => c_15 (i_eq.mpr h9)
      refine lv_iconst (v := 0) hx hb dX11_holds_205 (by decide) ?_
      have k_0 : (0 : Int32).toInt = 0 := by decide
      rw [hQ9]
      exact re_z voth hx hb hr hlocks (Or.inl rfl) (show ((0 : Int32) = 0) ∨ ((0 : Int32) = 1) from (Or.inl rfl)) (hP.sub [0, 1] rfl) (hD.sub [0, 1] rfl rfl) hS dX11_holds_206
    · skip
      have c_15 : r_12.toInt = (1 : Int32).toInt := i_eq.mp c_15
      refine lv_iconst (v := 1) hx hb dX11_holds_201 (by decide) ?_
      refine lv_goto (tgt := 206) hx hb dX11_holds_202 (by decide) ?_
      rw [hQ9]
      exact re_z voth hx hb hr hlocks (Or.inr rfl) (show ((1 : Int32) = 0) ∨ ((1 : Int32) = 1) from (Or.inr (rfl))) (hP.sub [0, 1] rfl) (hD.sub [0, 1] rfl rfl) hS dX11_holds_206
  by_cases sw_11_69 : z_10.toInt = 69
  · refine as_i 69 (i_eq.mpr (sw_11_69.trans k_69.symm)) ?_
    refine lv_lookup (off := 173) (tgt := 207) hx hb dX11_holds_34 (by decide) (by decide) (by decide) ?_
    refine lv_aload_n hx hb dX11_holds_207 rfl (lv_at hl 3 rfl) ?_
    refine lv_iload_n hx hb dX11_holds_208 rfl (lv_at hl 5 rfl) ?_
    refine jr_i (rVr (As := [.int vp]) (rest := []) (ci := 12) ⟨hx, hb, hml, hown, hts⟩ (m_howOf l dC dI cy vnh vo voth vmt votp vosz volm voto vofr vokd vonu vosg vofa vopl vowd votd vmn vmr vmk vms vma vmm vmrn vmkn vmik vmon vosm vohp vmw vmf vmb vomb vmd vmc vocm voct vocy vmx votx vose vml vmwr voln vohw vmno vond voon vowi votop vmnf vp ⟨by omega, by omega⟩ p_vmnf) (cw_X11_256 hts rfl rfl ⟨Nat.le_of_ble_eq_true rfl, Nat.le_of_ble_eq_true rfl⟩) hP hK [0, 1] rfl rfl rfl rfl hl.1 rfl (Nat.le_of_ble_eq_true rfl) dX11_holds_209 ⟨Nat.le_of_ble_eq_true rfl, Nat.le_of_ble_eq_true rfl⟩) hP hS (fun r_16 H locs hp_17 hP hS => ?_)
    have hp_17 : (0 ≤ (r_16 : Int32).toInt ∧ (r_16 : Int32).toInt ≤ 2) := hp_17
    have q_18 := hp_17
    have k_0 : (0 : Int32).toInt = 0 := by decide
    refine lv_if_ne (tgt := 219) hx hb dX11_holds_212 (by decide) (fun c_19 => ?_) (fun c_19 => ?_)
    · skip
      have c_19 : ¬ (r_16.toInt = (0 : Int32).toInt) := fun h9 => c_19 (i_eq.mpr h9)
      refine lv_iconst (v := 0) hx hb dX11_holds_219 (by decide) ?_
      rw [hQ9]
      exact re_z voth hx hb hr hlocks (Or.inl rfl) (show ((0 : Int32) = 0) ∨ ((0 : Int32) = 1) from (Or.inl rfl)) (hP.sub [0, 1] rfl) (hD.sub [0, 1] rfl rfl) hS dX11_holds_220
    · skip
      have c_19 : r_16.toInt = (0 : Int32).toInt := i_eq.mp c_19
      refine lv_iconst (v := 1) hx hb dX11_holds_215 (by decide) ?_
      refine lv_goto (tgt := 220) hx hb dX11_holds_216 (by decide) ?_
      rw [hQ9]
      exact re_z voth hx hb hr hlocks (Or.inr rfl) (show ((1 : Int32) = 0) ∨ ((1 : Int32) = 1) from (Or.inr (rfl))) (hP.sub [0, 1] rfl) (hD.sub [0, 1] rfl rfl) hS dX11_holds_220
  by_cases sw_11_70 : z_10.toInt = 70
  · refine as_i 70 (i_eq.mpr (sw_11_70.trans k_70.symm)) ?_
    refine lv_lookup (off := 187) (tgt := 221) hx hb dX11_holds_34 (by decide) (by decide) (by decide) ?_
    refine lv_aload_n hx hb dX11_holds_221 rfl (lv_at hl 3 rfl) ?_
    refine lv_iload_n hx hb dX11_holds_222 rfl (lv_at hl 5 rfl) ?_
    refine jr_i (rVr (As := [.int vp]) (rest := []) (ci := 12) ⟨hx, hb, hml, hown, hts⟩ (m_howOf l dC dI cy vnh vo voth vmt votp vosz volm voto vofr vokd vonu vosg vofa vopl vowd votd vmn vmr vmk vms vma vmm vmrn vmkn vmik vmon vosm vohp vmw vmf vmb vomb vmd vmc vocm voct vocy vmx votx vose vml vmwr voln vohw vmno vond voon vowi votop vmnf vp ⟨by omega, by omega⟩ p_vmnf) (cw_X11_256 hts rfl rfl ⟨Nat.le_of_ble_eq_true rfl, Nat.le_of_ble_eq_true rfl⟩) hP hK [0, 1] rfl rfl rfl rfl hl.1 rfl (Nat.le_of_ble_eq_true rfl) dX11_holds_223 ⟨Nat.le_of_ble_eq_true rfl, Nat.le_of_ble_eq_true rfl⟩) hP hS (fun r_20 H locs hp_21 hP hS => ?_)
    have hp_21 : (0 ≤ (r_20 : Int32).toInt ∧ (r_20 : Int32).toInt ≤ 2) := hp_21
    have q_22 := hp_21
    refine lv_iconst (v := 2) hx hb dX11_holds_226 (by decide) ?_
    refine lv_icmp_ne (tgt := 234) hx hb dX11_holds_227 (by decide) (fun c_23 => ?_) (fun c_23 => ?_)
    · skip
      have c_23 : ¬ (r_20.toInt = (2 : Int32).toInt) := fun h9 => c_23 (i_eq.mpr h9)
      refine lv_iconst (v := 0) hx hb dX11_holds_234 (by decide) ?_
      have k_0 : (0 : Int32).toInt = 0 := by decide
      rw [hQ9]
      exact re_z voth hx hb hr hlocks (Or.inl rfl) (show ((0 : Int32) = 0) ∨ ((0 : Int32) = 1) from (Or.inl rfl)) (hP.sub [0, 1] rfl) (hD.sub [0, 1] rfl rfl) hS dX11_holds_235
    · skip
      have c_23 : r_20.toInt = (2 : Int32).toInt := i_eq.mp c_23
      refine lv_iconst (v := 1) hx hb dX11_holds_230 (by decide) ?_
      refine lv_goto (tgt := 235) hx hb dX11_holds_231 (by decide) ?_
      rw [hQ9]
      exact re_z voth hx hb hr hlocks (Or.inr rfl) (show ((1 : Int32) = 0) ∨ ((1 : Int32) = 1) from (Or.inr (rfl))) (hP.sub [0, 1] rfl) (hD.sub [0, 1] rfl rfl) hS dX11_holds_235
  by_cases sw_11_71 : z_10.toInt = 71
  · refine as_i 71 (i_eq.mpr (sw_11_71.trans k_71.symm)) ?_
    refine lv_lookup (off := 202) (tgt := 236) hx hb dX11_holds_34 (by decide) (by decide) (by decide) ?_
    refine lv_aload_n hx hb dX11_holds_236 rfl (lv_at hl 3 rfl) ?_
    refine gf_X11_98 hx hb hts hown hK hP 0 rfl rfl dX11_holds_237 ?_
    refine lv_sipush (v := 298) hx hb dX11_holds_240 (by decide) ?_
    refine lv_iload_n hx hb dX11_holds_243 rfl (lv_at hl 5 rfl) ?_
    refine lv_iadd hx hb dX11_holds_244 ?_
    refine lv_topi (fun z_24 ez_24 => ?_)
    have k_298 : (298 : Int32).toInt = 298 := by decide
    have bz_24 : z_24.toInt = (298 : Int32).toInt + vp.toInt := i_add ez_24 (by omega) (by omega)
    have hin_25 : vp_in z_24 575 := vp_in_iff.mpr ⟨by omega, by omega⟩
    refine va_iald hx hb hK hP 1 0 rfl rfl hin_25 dX11_holds_245 ?_
    refine lv_topi (fun z_26 ez_26 => ?_)
    have k_0 : (0 : Int32).toInt = 0 := by decide
    refine lv_if_le (tgt := 253) hx hb dX11_holds_246 (by decide) (fun c_27 => ?_) (fun c_27 => ?_)
    · skip
      have c_27 : z_26.toInt ≤ (0 : Int32).toInt := i_le.mp c_27
      refine lv_iconst (v := 0) hx hb dX11_holds_253 (by decide) ?_
      rw [hQ9]
      exact re_z voth hx hb hr hlocks (Or.inl rfl) (show ((0 : Int32) = 0) ∨ ((0 : Int32) = 1) from (Or.inl rfl)) (hP.sub [0, 1] rfl) (hD.sub [0, 1] rfl rfl) hS dX11_holds_254
    · skip
      have c_27 : ¬ (z_26.toInt ≤ (0 : Int32).toInt) := fun h9 => c_27 (i_le.mpr h9)
      refine lv_iconst (v := 1) hx hb dX11_holds_249 (by decide) ?_
      refine lv_goto (tgt := 254) hx hb dX11_holds_250 (by decide) ?_
      rw [hQ9]
      exact re_z voth hx hb hr hlocks (Or.inr rfl) (show ((1 : Int32) = 0) ∨ ((1 : Int32) = 1) from (Or.inr (rfl))) (hP.sub [0, 1] rfl) (hD.sub [0, 1] rfl rfl) hS dX11_holds_254
  by_cases sw_11_72 : z_10.toInt = 72
  · refine as_i 72 (i_eq.mpr (sw_11_72.trans k_72.symm)) ?_
    refine lv_lookup (off := 221) (tgt := 255) hx hb dX11_holds_34 (by decide) (by decide) (by decide) ?_
    refine lv_aload_n hx hb dX11_holds_255 rfl (lv_at hl 3 rfl) ?_
    refine lv_iload_n hx hb dX11_holds_256 rfl (lv_at hl 5 rfl) ?_
    refine jr_i (rVr (As := [.int vp]) (rest := []) (ci := 12) ⟨hx, hb, hml, hown, hts⟩ (m_lends l dC dI cy vnh vo voth vmt votp vosz volm voto vofr vokd vonu vosg vofa vopl vowd votd vmn vmr vmk vms vma vmm vmrn vmkn vmik vmon vosm vohp vmw vmf vmb vomb vmd vmc vocm voct vocy vmx votx vose vml vmwr voln vohw vmno vond voon vowi votop vmnf vp ⟨by omega, by omega⟩ p_vmnf) (cw_X11_265 hts rfl rfl ⟨Nat.le_of_ble_eq_true rfl, Nat.le_of_ble_eq_true rfl⟩) hP hK [0, 1] rfl rfl rfl rfl hl.1 rfl (Nat.le_of_ble_eq_true rfl) dX11_holds_257 ⟨Nat.le_of_ble_eq_true rfl, Nat.le_of_ble_eq_true rfl⟩) hP hS (fun r_28 H locs hp_29 hP hS => ?_)
    have hp_29 : ((r_28 = 0) ∨ (r_28 = 1)) := hp_29
    have q_30 := hp_29
    rcases q_30 with aq_30 | aq_30
    · skip
      refine as_i 0 aq_30 ?_
      have k_0 : (0 : Int32).toInt = 0 := by decide
      rw [hQ9]
      exact re_z voth hx hb hr hlocks (Or.inl rfl) (show ((0 : Int32) = 0) ∨ ((0 : Int32) = 1) from (Or.inl rfl)) (hP.sub [0, 1] rfl) (hD.sub [0, 1] rfl rfl) hS dX11_holds_260
    · skip
      refine as_i 1 aq_30 ?_
      rw [hQ9]
      exact re_z voth hx hb hr hlocks (Or.inr rfl) (show ((1 : Int32) = 0) ∨ ((1 : Int32) = 1) from (Or.inr (rfl))) (hP.sub [0, 1] rfl) (hD.sub [0, 1] rfl rfl) hS dX11_holds_260
  by_cases sw_11_73 : z_10.toInt = 73
  · refine as_i 73 (i_eq.mpr (sw_11_73.trans k_73.symm)) ?_
    refine lv_lookup (off := 227) (tgt := 261) hx hb dX11_holds_34 (by decide) (by decide) (by decide) ?_
    have hB := hA4 (by omega)
    refine lv_aload_n hx hb dX11_holds_261 rfl (lv_at hl 3 rfl) ?_
    refine lv_iload_n hx hb dX11_holds_262 rfl (lv_at hl 5 rfl) ?_
    refine lv_iload hx hb dX11_holds_263 (lv_at hl 1 rfl) ?_
    refine jr_i (rVr (As := [.int vp, .int z_5]) (rest := []) (ci := 12) ⟨hx, hb, hml, hown, hts⟩ (m_didOf l dC dI cy vnh vo voth vmt votp vosz volm voto vofr vokd vonu vosg vofa vopl vowd votd vmn vmr vmk vms vma vmm vmrn vmkn vmik vmon vosm vohp vmw vmf vmb vomb vmd vmc vocm voct vocy vmx votx vose vml vmwr voln vohw vmno vond voon vowi votop vmnf vp z_5 ⟨by omega, by omega⟩ ⟨by omega, by omega⟩ p_vmnf) (cw_X11_228 hts rfl rfl ⟨Nat.le_of_ble_eq_true rfl, Nat.le_of_ble_eq_true rfl⟩) hP hK [0, 1] rfl rfl rfl rfl hl.1 rfl (Nat.le_of_ble_eq_true rfl) dX11_holds_265 ⟨Nat.le_of_ble_eq_true rfl, Nat.le_of_ble_eq_true rfl⟩) hP hS (fun r_31 H locs hp_32 hP hS => ?_)
    have k_0 : (0 : Int32).toInt = 0 := by decide
    refine lv_if_le (tgt := 275) hx hb dX11_holds_268 (by decide) (fun c_33 => ?_) (fun c_33 => ?_)
    · skip
      have c_33 : r_31.toInt ≤ (0 : Int32).toInt := i_le.mp c_33
      refine lv_iconst (v := 0) hx hb dX11_holds_275 (by decide) ?_
      rw [hQ9]
      exact re_z voth hx hb hr hlocks (Or.inl rfl) (show ((0 : Int32) = 0) ∨ ((0 : Int32) = 1) from (Or.inl rfl)) (hP.sub [0, 1] rfl) (hD.sub [0, 1] rfl rfl) hS dX11_holds_276
    · skip
      have c_33 : ¬ (r_31.toInt ≤ (0 : Int32).toInt) := fun h9 => c_33 (i_le.mpr h9)
      refine lv_iconst (v := 1) hx hb dX11_holds_271 (by decide) ?_
      refine lv_goto (tgt := 276) hx hb dX11_holds_272 (by decide) ?_
      rw [hQ9]
      exact re_z voth hx hb hr hlocks (Or.inr rfl) (show ((1 : Int32) = 0) ∨ ((1 : Int32) = 1) from (Or.inr (rfl))) (hP.sub [0, 1] rfl) (hD.sub [0, 1] rfl rfl) hS dX11_holds_276
  by_cases sw_11_74 : z_10.toInt = 74
  · refine as_i 74 (i_eq.mpr (sw_11_74.trans k_74.symm)) ?_
    refine lv_lookup (off := 243) (tgt := 277) hx hb dX11_holds_34 (by decide) (by decide) (by decide) ?_
    refine lv_aload_n hx hb dX11_holds_277 rfl (lv_at hl 3 rfl) ?_
    refine lv_iload hx hb dX11_holds_278 (lv_at hl 1 rfl) ?_
    refine jn_i (wr := []) (rV (As := [.int z_5]) (rest := []) (ci := 12) ⟨hx, hb, hml, hown, hts⟩ (m_family l dC dI cy _ vnh vo voth vmt votp vosz volm voto vofr vokd vonu vosg vofa vopl vowd votd vmn vmr vmk vms vma vmm vmrn vmkn vmik vmon vosm vohp vmw vmf vmb vomb vmd vmc vocm voct vocy vmx votx vose vml vmwr voln vohw vmno vond voon vowi votop vmnf z_5 p_vmnf) (cw_X11_441 hts rfl rfl ⟨Nat.le_of_ble_eq_true rfl, Nat.le_of_ble_eq_true rfl⟩) hP hD hK [0, 1] rfl rfl rfl rfl bl0 e0 rfl hl.1 rfl (Nat.le_of_ble_eq_true rfl) dX11_holds_280 ⟨Nat.le_of_ble_eq_true rfl, Nat.le_of_ble_eq_true rfl⟩) hP hD hS hA [0, 1] [] rfl rfl rfl (by decide) (fun r_34 u_36 H locs hp_35 hP hD hS => ?_)
    obtain ⟨voth_37, rfl⟩ : ∃ z, z = u_36 := ⟨_, rfl⟩
    have hP : va_P (dC, dI) vwCl [(vo, .inr (12, [.int voth_37, .ref vmt, .int votp, .int vosz, .int volm, .int voto, .int vofr, .int vokd, .int vonu, .int vosg, .int vofa, .int vopl, .long vowd, .int votd, .ref vmn, .ref vmr, .ref vmk, .ref vms, .ref vma, .ref vmm, .ref vmrn, .ref vmkn, .ref vmik, .ref vmon, .int vosm, .int vohp, .ref vmw, .ref vmf, .ref vmb, .int vomb, .ref vmd, .ref vmc, .int vocm, .int voct, .int vocy, .ref vmx, .int votx, .int vose, .ref vml, .ref vmwr, .int voln, .int vohw, .ref vmno, .int vond, .int voon, .int vowi, .int votop])), (vmn, .inl (cy 0, 575, .inl vmnf))] H := hP
    have hD : va_D A [(vo, .inr (12, [.int voth_37, .ref vmt, .int votp, .int vosz, .int volm, .int voto, .int vofr, .int vokd, .int vonu, .int vosg, .int vofa, .int vopl, .long vowd, .int votd, .ref vmn, .ref vmr, .ref vmk, .ref vms, .ref vma, .ref vmm, .ref vmrn, .ref vmkn, .ref vmik, .ref vmon, .int vosm, .int vohp, .ref vmw, .ref vmf, .ref vmb, .int vomb, .ref vmd, .ref vmc, .int vocm, .int voct, .int vocy, .ref vmx, .int votx, .int vose, .ref vml, .ref vmwr, .int voln, .int vohw, .ref vmno, .int vond, .int voon, .int vowi, .int votop])), (vmn, .inl (cy 0, 575, .inl vmnf))] := hD
    refine lv_iload_n hx hb dX11_holds_283 rfl (lv_at hl 5 rfl) ?_
    refine jr_i (rSr (As := [.int r_34, .int vp]) (rest := []) ⟨hx, hb, hml, hown, hts⟩ (m_has l dC dI cy r_34 vp ) (cw_X11_194 hts rfl rfl ⟨Nat.le_of_ble_eq_true rfl, Nat.le_of_ble_eq_true rfl⟩) hP hK [] rfl rfl hl.1 rfl (Nat.le_of_ble_eq_true rfl) dX11_holds_284 ⟨Nat.le_of_ble_eq_true rfl, Nat.le_of_ble_eq_true rfl⟩) hP hS (fun r_38 H locs hp_39 hP hS => ?_)
    have hp_39 : ((r_38 = 0) ∨ (r_38 = 1)) := hp_39
    have q_40 := hp_39
    rcases q_40 with aq_40 | aq_40
    · skip
      refine as_i 0 aq_40 ?_
      have k_0 : (0 : Int32).toInt = 0 := by decide
      rw [hQ9]
      exact re_z voth_37 hx hb hr hlocks (Or.inl rfl) (show ((0 : Int32) = 0) ∨ ((0 : Int32) = 1) from (Or.inl rfl)) (hP.sub [0, 1] rfl) (hD.sub [0, 1] rfl rfl) hS dX11_holds_287
    · skip
      refine as_i 1 aq_40 ?_
      rw [hQ9]
      exact re_z voth_37 hx hb hr hlocks (Or.inr rfl) (show ((1 : Int32) = 0) ∨ ((1 : Int32) = 1) from (Or.inr (rfl))) (hP.sub [0, 1] rfl) (hD.sub [0, 1] rfl rfl) hS dX11_holds_287
  have nsw_11_1 : ¬ ((1 : Int) = z_10.toInt) := by omega
  have nsw_11_2 : ¬ ((2 : Int) = z_10.toInt) := by omega
  have nsw_11_3 : ¬ ((3 : Int) = z_10.toInt) := by omega
  have nsw_11_68 : ¬ ((68 : Int) = z_10.toInt) := by omega
  have nsw_11_69 : ¬ ((69 : Int) = z_10.toInt) := by omega
  have nsw_11_70 : ¬ ((70 : Int) = z_10.toInt) := by omega
  have nsw_11_71 : ¬ ((71 : Int) = z_10.toInt) := by omega
  have nsw_11_72 : ¬ ((72 : Int) = z_10.toInt) := by omega
  have nsw_11_73 : ¬ ((73 : Int) = z_10.toInt) := by omega
  have nsw_11_74 : ¬ ((74 : Int) = z_10.toInt) := by omega
  refine lv_lookup (off := 254) (tgt := 288) hx hb dX11_holds_34 (by decide) (by simp only [Op.lookupswitch.offset, if_neg nsw_11_1, if_neg nsw_11_2, if_neg nsw_11_3, if_neg nsw_11_68, if_neg nsw_11_69, if_neg nsw_11_70, if_neg nsw_11_71, if_neg nsw_11_72, if_neg nsw_11_73, if_neg nsw_11_74]) (by decide) ?_
  refine lv_aload_n hx hb dX11_holds_288 rfl (lv_at hl 3 rfl) ?_
  refine gf_X11_98 hx hb hts hown hK hP 0 rfl rfl dX11_holds_289 ?_
  refine lv_iload_n hx hb dX11_holds_292 rfl (lv_at hl 2 rfl) ?_
  have hin_41 : vp_in z_2 575 := vp_in_iff.mpr ⟨by omega, by omega⟩
  refine va_iald hx hb hK hP 1 0 rfl rfl hin_41 dX11_holds_293 ?_
  refine lv_topi (fun z_42 ez_42 => ?_)
  refine lv_bipush (v := 50) hx hb dX11_holds_294 (by decide) ?_
  refine lv_isub hx hb dX11_holds_296 ?_
  refine lv_topi (fun z_43 ez_43 => ?_)
  refine lv_istore (lv' := [(6, .int z_43), (5, .int z_8), (4, .int z_5), (3, .int z_2), (0, .ref vo), (1, .int vk), (2, .int vp)]) hx hb dX11_holds_297 hl (by decide) rfl (fun ls hl => ?_)
  refine lv_iload hx hb dX11_holds_299 (lv_at hl 0 rfl) ?_
  refine lv_bipush (v := 25) hx hb dX11_holds_301 (by decide) ?_
  have k_25 : (25 : Int32).toInt = 25 := by decide
  refine lv_icmp_ne (tgt := 314) hx hb dX11_holds_303 (by decide) (fun c_44 => ?_) (fun c_44 => ?_)
  · skip
    have c_44 : ¬ (z_43.toInt = (25 : Int32).toInt) := fun h9 => c_44 (i_eq.mpr h9)
    refine lv_iload hx hb dX11_holds_314 (lv_at hl 0 rfl) ?_
    refine lv_bipush (v := 26) hx hb dX11_holds_316 (by decide) ?_
    have k_26 : (26 : Int32).toInt = 26 := by decide
    refine lv_icmp_ne (tgt := 329) hx hb dX11_holds_318 (by decide) (fun c_45 => ?_) (fun c_45 => ?_)
    · skip
      have c_45 : ¬ (z_43.toInt = (26 : Int32).toInt) := fun h9 => c_45 (i_eq.mpr h9)
      refine lv_iload hx hb dX11_holds_329 (lv_at hl 0 rfl) ?_
      refine lv_bipush (v := 27) hx hb dX11_holds_331 (by decide) ?_
      have k_27 : (27 : Int32).toInt = 27 := by decide
      refine lv_icmp_ne (tgt := 349) hx hb dX11_holds_333 (by decide) (fun c_46 => ?_) (fun c_46 => ?_)
      · skip
        have c_46 : ¬ (z_43.toInt = (27 : Int32).toInt) := fun h9 => c_46 (i_eq.mpr h9)
        refine lv_iload_n hx hb dX11_holds_349 rfl (lv_at hl 6 rfl) ?_
        refine lv_istore (lv' := [(7, .int vp), (6, .int z_43), (5, .int z_8), (4, .int z_5), (3, .int z_2), (0, .ref vo), (1, .int vk), (2, .int vp)]) hx hb dX11_holds_350 hl (by decide) rfl (fun ls hl => ?_)
        refine lv_aload_n hx hb dX11_holds_352 rfl (lv_at hl 5 rfl) ?_
        refine gf_X11_98 hx hb hts hown hK hP 0 rfl rfl dX11_holds_353 ?_
        refine lv_iload_n hx hb dX11_holds_356 rfl (lv_at hl 4 rfl) ?_
        refine lv_iconst (v := 3) hx hb dX11_holds_357 (by decide) ?_
        refine lv_iadd hx hb dX11_holds_358 ?_
        refine lv_topi (fun z_47 ez_47 => ?_)
        have bz_47 : z_47.toInt = z_2.toInt + (3 : Int32).toInt := i_add ez_47 (by omega) (by omega)
        have hin_48 : vp_in z_47 575 := vp_in_iff.mpr ⟨by omega, by omega⟩
        refine va_iald hx hb hK hP 1 0 rfl rfl hin_48 dX11_holds_359 ?_
        refine lv_topi (fun z_49 ez_49 => ?_)
        refine lv_bipush (v := 60) hx hb dX11_holds_360 (by decide) ?_
        have k_60 : (60 : Int32).toInt = 60 := by decide
        refine lv_icmp_ne (tgt := 380) hx hb dX11_holds_362 (by decide) (fun c_50 => ?_) (fun c_50 => ?_)
        · skip
          have c_50 : ¬ (z_49.toInt = (60 : Int32).toInt) := fun h9 => c_50 (i_eq.mpr h9)
          refine lv_aload_n hx hb dX11_holds_380 rfl (lv_at hl 5 rfl) ?_
          refine gf_X11_98 hx hb hts hown hK hP 0 rfl rfl dX11_holds_381 ?_
          refine lv_iload_n hx hb dX11_holds_384 rfl (lv_at hl 4 rfl) ?_
          refine lv_iconst (v := 3) hx hb dX11_holds_385 (by decide) ?_
          refine lv_iadd hx hb dX11_holds_386 ?_
          refine lv_topi (fun z_51 ez_51 => ?_)
          have bz_51 : z_51.toInt = z_2.toInt + (3 : Int32).toInt := i_add ez_51 (by omega) (by omega)
          have hin_52 : vp_in z_51 575 := vp_in_iff.mpr ⟨by omega, by omega⟩
          refine va_iald hx hb hK hP 1 0 rfl rfl hin_52 dX11_holds_387 ?_
          refine lv_topi (fun z_53 ez_53 => ?_)
          refine lv_bipush (v := 61) hx hb dX11_holds_388 (by decide) ?_
          have k_61 : (61 : Int32).toInt = 61 := by decide
          refine lv_icmp_ne (tgt := 408) hx hb dX11_holds_390 (by decide) (fun c_54 => ?_) (fun c_54 => ?_)
          · skip
            have c_54 : ¬ (z_53.toInt = (61 : Int32).toInt) := fun h9 => c_54 (i_eq.mpr h9)
            refine lv_iload hx hb dX11_holds_408 (lv_at hl 0 rfl) ?_
            refine lv_iload hx hb dX11_holds_410 (lv_at hl 2 rfl) ?_
            refine lv_icmp_le (tgt := 419) hx hb dX11_holds_412 (by decide) (fun c_55 => ?_) (fun c_55 => ?_)
            · skip
              have c_55 : vp.toInt ≤ z_8.toInt := i_le.mp c_55
              refine lv_iconst (v := 0) hx hb dX11_holds_419 (by decide) ?_
              have k_0 : (0 : Int32).toInt = 0 := by decide
              rw [hQ9]
              exact re_z voth hx hb hr hlocks (Or.inl rfl) (show ((0 : Int32) = 0) ∨ ((0 : Int32) = 1) from (Or.inl rfl)) (hP.sub [0, 1] rfl) (hD.sub [0, 1] rfl rfl) hS dX11_holds_420
            · skip
              have c_55 : ¬ (vp.toInt ≤ z_8.toInt) := fun h9 => c_55 (i_le.mpr h9)
              refine lv_iconst (v := 1) hx hb dX11_holds_415 (by decide) ?_
              refine lv_goto (tgt := 420) hx hb dX11_holds_416 (by decide) ?_
              rw [hQ9]
              exact re_z voth hx hb hr hlocks (Or.inr rfl) (show ((1 : Int32) = 0) ∨ ((1 : Int32) = 1) from (Or.inr (rfl))) (hP.sub [0, 1] rfl) (hD.sub [0, 1] rfl rfl) hS dX11_holds_420
          · skip
            have c_54 : z_53.toInt = (61 : Int32).toInt := i_eq.mp c_54
            refine lv_iload hx hb dX11_holds_393 (lv_at hl 0 rfl) ?_
            refine lv_iload hx hb dX11_holds_395 (lv_at hl 2 rfl) ?_
            refine lv_icmp_ne (tgt := 404) hx hb dX11_holds_397 (by decide) (fun c_56 => ?_) (fun c_56 => ?_)
            · skip
              have c_56 : ¬ (vp.toInt = z_8.toInt) := fun h9 => c_56 (i_eq.mpr h9)
              refine lv_iconst (v := 0) hx hb dX11_holds_404 (by decide) ?_
              refine lv_goto (tgt := 420) hx hb dX11_holds_405 (by decide) ?_
              have k_0 : (0 : Int32).toInt = 0 := by decide
              rw [hQ9]
              exact re_z voth hx hb hr hlocks (Or.inl rfl) (show ((0 : Int32) = 0) ∨ ((0 : Int32) = 1) from (Or.inl rfl)) (hP.sub [0, 1] rfl) (hD.sub [0, 1] rfl rfl) hS dX11_holds_420
            · skip
              have c_56 : vp.toInt = z_8.toInt := i_eq.mp c_56
              refine lv_iconst (v := 1) hx hb dX11_holds_400 (by decide) ?_
              refine lv_goto (tgt := 420) hx hb dX11_holds_401 (by decide) ?_
              rw [hQ9]
              exact re_z voth hx hb hr hlocks (Or.inr rfl) (show ((1 : Int32) = 0) ∨ ((1 : Int32) = 1) from (Or.inr (rfl))) (hP.sub [0, 1] rfl) (hD.sub [0, 1] rfl rfl) hS dX11_holds_420
        · skip
          have c_50 : z_49.toInt = (60 : Int32).toInt := i_eq.mp c_50
          refine lv_iload hx hb dX11_holds_365 (lv_at hl 0 rfl) ?_
          refine lv_iload hx hb dX11_holds_367 (lv_at hl 2 rfl) ?_
          refine lv_icmp_ge (tgt := 376) hx hb dX11_holds_369 (by decide) (fun c_57 => ?_) (fun c_57 => ?_)
          · skip
            have c_57 : z_8.toInt ≤ vp.toInt := i_le.mp c_57
            refine lv_iconst (v := 0) hx hb dX11_holds_376 (by decide) ?_
            refine lv_goto (tgt := 420) hx hb dX11_holds_377 (by decide) ?_
            have k_0 : (0 : Int32).toInt = 0 := by decide
            rw [hQ9]
            exact re_z voth hx hb hr hlocks (Or.inl rfl) (show ((0 : Int32) = 0) ∨ ((0 : Int32) = 1) from (Or.inl rfl)) (hP.sub [0, 1] rfl) (hD.sub [0, 1] rfl rfl) hS dX11_holds_420
          · skip
            have c_57 : ¬ (z_8.toInt ≤ vp.toInt) := fun h9 => c_57 (i_le.mpr h9)
            refine lv_iconst (v := 1) hx hb dX11_holds_372 (by decide) ?_
            refine lv_goto (tgt := 420) hx hb dX11_holds_373 (by decide) ?_
            rw [hQ9]
            exact re_z voth hx hb hr hlocks (Or.inr rfl) (show ((1 : Int32) = 0) ∨ ((1 : Int32) = 1) from (Or.inr (rfl))) (hP.sub [0, 1] rfl) (hD.sub [0, 1] rfl rfl) hS dX11_holds_420
      · skip
        have c_46 : z_43.toInt = (27 : Int32).toInt := i_eq.mp c_46
        refine lv_aload_n hx hb dX11_holds_336 rfl (lv_at hl 4 rfl) ?_
        refine gf_X11_98 hx hb hts hown hK hP 0 rfl rfl dX11_holds_337 ?_
        refine lv_sipush (v := 158) hx hb dX11_holds_340 (by decide) ?_
        refine lv_iload_n hx hb dX11_holds_343 rfl (lv_at hl 6 rfl) ?_
        refine lv_iadd hx hb dX11_holds_344 ?_
        refine lv_topi (fun z_58 ez_58 => ?_)
        have k_158 : (158 : Int32).toInt = 158 := by decide
        have bz_58 : z_58.toInt = (158 : Int32).toInt + vp.toInt := i_add ez_58 (by omega) (by omega)
        have hin_59 : vp_in z_58 575 := vp_in_iff.mpr ⟨by omega, by omega⟩
        refine va_iald hx hb hK hP 1 0 rfl rfl hin_59 dX11_holds_345 ?_
        refine lv_topi (fun z_60 ez_60 => ?_)
        refine lv_goto (tgt := 350) hx hb dX11_holds_346 (by decide) ?_
        refine lv_istore (lv' := [(7, .int z_60), (6, .int z_43), (5, .int z_8), (4, .int z_5), (3, .int z_2), (0, .ref vo), (1, .int vk), (2, .int vp)]) hx hb dX11_holds_350 hl (by decide) rfl (fun ls hl => ?_)
        refine lv_aload_n hx hb dX11_holds_352 rfl (lv_at hl 5 rfl) ?_
        refine gf_X11_98 hx hb hts hown hK hP 0 rfl rfl dX11_holds_353 ?_
        refine lv_iload_n hx hb dX11_holds_356 rfl (lv_at hl 4 rfl) ?_
        refine lv_iconst (v := 3) hx hb dX11_holds_357 (by decide) ?_
        refine lv_iadd hx hb dX11_holds_358 ?_
        refine lv_topi (fun z_61 ez_61 => ?_)
        have bz_61 : z_61.toInt = z_2.toInt + (3 : Int32).toInt := i_add ez_61 (by omega) (by omega)
        have hin_62 : vp_in z_61 575 := vp_in_iff.mpr ⟨by omega, by omega⟩
        refine va_iald hx hb hK hP 1 0 rfl rfl hin_62 dX11_holds_359 ?_
        refine lv_topi (fun z_63 ez_63 => ?_)
        refine lv_bipush (v := 60) hx hb dX11_holds_360 (by decide) ?_
        have k_60 : (60 : Int32).toInt = 60 := by decide
        refine lv_icmp_ne (tgt := 380) hx hb dX11_holds_362 (by decide) (fun c_64 => ?_) (fun c_64 => ?_)
        · skip
          have c_64 : ¬ (z_63.toInt = (60 : Int32).toInt) := fun h9 => c_64 (i_eq.mpr h9)
          refine lv_aload_n hx hb dX11_holds_380 rfl (lv_at hl 5 rfl) ?_
          refine gf_X11_98 hx hb hts hown hK hP 0 rfl rfl dX11_holds_381 ?_
          refine lv_iload_n hx hb dX11_holds_384 rfl (lv_at hl 4 rfl) ?_
          refine lv_iconst (v := 3) hx hb dX11_holds_385 (by decide) ?_
          refine lv_iadd hx hb dX11_holds_386 ?_
          refine lv_topi (fun z_65 ez_65 => ?_)
          have bz_65 : z_65.toInt = z_2.toInt + (3 : Int32).toInt := i_add ez_65 (by omega) (by omega)
          have hin_66 : vp_in z_65 575 := vp_in_iff.mpr ⟨by omega, by omega⟩
          refine va_iald hx hb hK hP 1 0 rfl rfl hin_66 dX11_holds_387 ?_
          refine lv_topi (fun z_67 ez_67 => ?_)
          refine lv_bipush (v := 61) hx hb dX11_holds_388 (by decide) ?_
          have k_61 : (61 : Int32).toInt = 61 := by decide
          refine lv_icmp_ne (tgt := 408) hx hb dX11_holds_390 (by decide) (fun c_68 => ?_) (fun c_68 => ?_)
          · skip
            have c_68 : ¬ (z_67.toInt = (61 : Int32).toInt) := fun h9 => c_68 (i_eq.mpr h9)
            refine lv_iload hx hb dX11_holds_408 (lv_at hl 0 rfl) ?_
            refine lv_iload hx hb dX11_holds_410 (lv_at hl 2 rfl) ?_
            refine lv_icmp_le (tgt := 419) hx hb dX11_holds_412 (by decide) (fun c_69 => ?_) (fun c_69 => ?_)
            · skip
              have c_69 : z_60.toInt ≤ z_8.toInt := i_le.mp c_69
              refine lv_iconst (v := 0) hx hb dX11_holds_419 (by decide) ?_
              have k_0 : (0 : Int32).toInt = 0 := by decide
              rw [hQ9]
              exact re_z voth hx hb hr hlocks (Or.inl rfl) (show ((0 : Int32) = 0) ∨ ((0 : Int32) = 1) from (Or.inl rfl)) (hP.sub [0, 1] rfl) (hD.sub [0, 1] rfl rfl) hS dX11_holds_420
            · skip
              have c_69 : ¬ (z_60.toInt ≤ z_8.toInt) := fun h9 => c_69 (i_le.mpr h9)
              refine lv_iconst (v := 1) hx hb dX11_holds_415 (by decide) ?_
              refine lv_goto (tgt := 420) hx hb dX11_holds_416 (by decide) ?_
              rw [hQ9]
              exact re_z voth hx hb hr hlocks (Or.inr rfl) (show ((1 : Int32) = 0) ∨ ((1 : Int32) = 1) from (Or.inr (rfl))) (hP.sub [0, 1] rfl) (hD.sub [0, 1] rfl rfl) hS dX11_holds_420
          · skip
            have c_68 : z_67.toInt = (61 : Int32).toInt := i_eq.mp c_68
            refine lv_iload hx hb dX11_holds_393 (lv_at hl 0 rfl) ?_
            refine lv_iload hx hb dX11_holds_395 (lv_at hl 2 rfl) ?_
            refine lv_icmp_ne (tgt := 404) hx hb dX11_holds_397 (by decide) (fun c_70 => ?_) (fun c_70 => ?_)
            · skip
              have c_70 : ¬ (z_60.toInt = z_8.toInt) := fun h9 => c_70 (i_eq.mpr h9)
              refine lv_iconst (v := 0) hx hb dX11_holds_404 (by decide) ?_
              refine lv_goto (tgt := 420) hx hb dX11_holds_405 (by decide) ?_
              have k_0 : (0 : Int32).toInt = 0 := by decide
              rw [hQ9]
              exact re_z voth hx hb hr hlocks (Or.inl rfl) (show ((0 : Int32) = 0) ∨ ((0 : Int32) = 1) from (Or.inl rfl)) (hP.sub [0, 1] rfl) (hD.sub [0, 1] rfl rfl) hS dX11_holds_420
            · skip
              have c_70 : z_60.toInt = z_8.toInt := i_eq.mp c_70
              refine lv_iconst (v := 1) hx hb dX11_holds_400 (by decide) ?_
              refine lv_goto (tgt := 420) hx hb dX11_holds_401 (by decide) ?_
              rw [hQ9]
              exact re_z voth hx hb hr hlocks (Or.inr rfl) (show ((1 : Int32) = 0) ∨ ((1 : Int32) = 1) from (Or.inr (rfl))) (hP.sub [0, 1] rfl) (hD.sub [0, 1] rfl rfl) hS dX11_holds_420
        · skip
          have c_64 : z_63.toInt = (60 : Int32).toInt := i_eq.mp c_64
          refine lv_iload hx hb dX11_holds_365 (lv_at hl 0 rfl) ?_
          refine lv_iload hx hb dX11_holds_367 (lv_at hl 2 rfl) ?_
          refine lv_icmp_ge (tgt := 376) hx hb dX11_holds_369 (by decide) (fun c_71 => ?_) (fun c_71 => ?_)
          · skip
            have c_71 : z_8.toInt ≤ z_60.toInt := i_le.mp c_71
            refine lv_iconst (v := 0) hx hb dX11_holds_376 (by decide) ?_
            refine lv_goto (tgt := 420) hx hb dX11_holds_377 (by decide) ?_
            have k_0 : (0 : Int32).toInt = 0 := by decide
            rw [hQ9]
            exact re_z voth hx hb hr hlocks (Or.inl rfl) (show ((0 : Int32) = 0) ∨ ((0 : Int32) = 1) from (Or.inl rfl)) (hP.sub [0, 1] rfl) (hD.sub [0, 1] rfl rfl) hS dX11_holds_420
          · skip
            have c_71 : ¬ (z_8.toInt ≤ z_60.toInt) := fun h9 => c_71 (i_le.mpr h9)
            refine lv_iconst (v := 1) hx hb dX11_holds_372 (by decide) ?_
            refine lv_goto (tgt := 420) hx hb dX11_holds_373 (by decide) ?_
            rw [hQ9]
            exact re_z voth hx hb hr hlocks (Or.inr rfl) (show ((1 : Int32) = 0) ∨ ((1 : Int32) = 1) from (Or.inr (rfl))) (hP.sub [0, 1] rfl) (hD.sub [0, 1] rfl rfl) hS dX11_holds_420
    · skip
      have c_45 : z_43.toInt = (26 : Int32).toInt := i_eq.mp c_45
      refine lv_aload_n hx hb dX11_holds_321 rfl (lv_at hl 4 rfl) ?_
      refine lv_iload_n hx hb dX11_holds_322 rfl (lv_at hl 6 rfl) ?_
      refine jr_i (rVr (As := [.int vp]) (rest := []) (ci := 12) ⟨hx, hb, hml, hown, hts⟩ (m_darkOf l dC dI cy vnh vo voth vmt votp vosz volm voto vofr vokd vonu vosg vofa vopl vowd votd vmn vmr vmk vms vma vmm vmrn vmkn vmik vmon vosm vohp vmw vmf vmb vomb vmd vmc vocm voct vocy vmx votx vose vml vmwr voln vohw vmno vond voon vowi votop vmnf vp ⟨by omega, by omega⟩ p_vmnf) (cw_X11_244 hts rfl rfl ⟨Nat.le_of_ble_eq_true rfl, Nat.le_of_ble_eq_true rfl⟩) hP hK [0, 1] rfl rfl rfl rfl hl.1 rfl (Nat.le_of_ble_eq_true rfl) dX11_holds_323 ⟨Nat.le_of_ble_eq_true rfl, Nat.le_of_ble_eq_true rfl⟩) hP hS (fun r_72 H locs hp_73 hP hS => ?_)
      refine lv_goto (tgt := 350) hx hb dX11_holds_326 (by decide) ?_
      refine lv_istore (lv' := [(7, .int r_72), (6, .int z_43), (5, .int z_8), (4, .int z_5), (3, .int z_2), (0, .ref vo), (1, .int vk), (2, .int vp)]) hx hb dX11_holds_350 hl (by decide) rfl (fun ls hl => ?_)
      refine lv_aload_n hx hb dX11_holds_352 rfl (lv_at hl 5 rfl) ?_
      refine gf_X11_98 hx hb hts hown hK hP 0 rfl rfl dX11_holds_353 ?_
      refine lv_iload_n hx hb dX11_holds_356 rfl (lv_at hl 4 rfl) ?_
      refine lv_iconst (v := 3) hx hb dX11_holds_357 (by decide) ?_
      refine lv_iadd hx hb dX11_holds_358 ?_
      refine lv_topi (fun z_74 ez_74 => ?_)
      have bz_74 : z_74.toInt = z_2.toInt + (3 : Int32).toInt := i_add ez_74 (by omega) (by omega)
      have hin_75 : vp_in z_74 575 := vp_in_iff.mpr ⟨by omega, by omega⟩
      refine va_iald hx hb hK hP 1 0 rfl rfl hin_75 dX11_holds_359 ?_
      refine lv_topi (fun z_76 ez_76 => ?_)
      refine lv_bipush (v := 60) hx hb dX11_holds_360 (by decide) ?_
      have k_60 : (60 : Int32).toInt = 60 := by decide
      refine lv_icmp_ne (tgt := 380) hx hb dX11_holds_362 (by decide) (fun c_77 => ?_) (fun c_77 => ?_)
      · skip
        have c_77 : ¬ (z_76.toInt = (60 : Int32).toInt) := fun h9 => c_77 (i_eq.mpr h9)
        refine lv_aload_n hx hb dX11_holds_380 rfl (lv_at hl 5 rfl) ?_
        refine gf_X11_98 hx hb hts hown hK hP 0 rfl rfl dX11_holds_381 ?_
        refine lv_iload_n hx hb dX11_holds_384 rfl (lv_at hl 4 rfl) ?_
        refine lv_iconst (v := 3) hx hb dX11_holds_385 (by decide) ?_
        refine lv_iadd hx hb dX11_holds_386 ?_
        refine lv_topi (fun z_78 ez_78 => ?_)
        have bz_78 : z_78.toInt = z_2.toInt + (3 : Int32).toInt := i_add ez_78 (by omega) (by omega)
        have hin_79 : vp_in z_78 575 := vp_in_iff.mpr ⟨by omega, by omega⟩
        refine va_iald hx hb hK hP 1 0 rfl rfl hin_79 dX11_holds_387 ?_
        refine lv_topi (fun z_80 ez_80 => ?_)
        refine lv_bipush (v := 61) hx hb dX11_holds_388 (by decide) ?_
        have k_61 : (61 : Int32).toInt = 61 := by decide
        refine lv_icmp_ne (tgt := 408) hx hb dX11_holds_390 (by decide) (fun c_81 => ?_) (fun c_81 => ?_)
        · skip
          have c_81 : ¬ (z_80.toInt = (61 : Int32).toInt) := fun h9 => c_81 (i_eq.mpr h9)
          refine lv_iload hx hb dX11_holds_408 (lv_at hl 0 rfl) ?_
          refine lv_iload hx hb dX11_holds_410 (lv_at hl 2 rfl) ?_
          refine lv_icmp_le (tgt := 419) hx hb dX11_holds_412 (by decide) (fun c_82 => ?_) (fun c_82 => ?_)
          · skip
            have c_82 : r_72.toInt ≤ z_8.toInt := i_le.mp c_82
            refine lv_iconst (v := 0) hx hb dX11_holds_419 (by decide) ?_
            have k_0 : (0 : Int32).toInt = 0 := by decide
            rw [hQ9]
            exact re_z voth hx hb hr hlocks (Or.inl rfl) (show ((0 : Int32) = 0) ∨ ((0 : Int32) = 1) from (Or.inl rfl)) (hP.sub [0, 1] rfl) (hD.sub [0, 1] rfl rfl) hS dX11_holds_420
          · skip
            have c_82 : ¬ (r_72.toInt ≤ z_8.toInt) := fun h9 => c_82 (i_le.mpr h9)
            refine lv_iconst (v := 1) hx hb dX11_holds_415 (by decide) ?_
            refine lv_goto (tgt := 420) hx hb dX11_holds_416 (by decide) ?_
            rw [hQ9]
            exact re_z voth hx hb hr hlocks (Or.inr rfl) (show ((1 : Int32) = 0) ∨ ((1 : Int32) = 1) from (Or.inr (rfl))) (hP.sub [0, 1] rfl) (hD.sub [0, 1] rfl rfl) hS dX11_holds_420
        · skip
          have c_81 : z_80.toInt = (61 : Int32).toInt := i_eq.mp c_81
          refine lv_iload hx hb dX11_holds_393 (lv_at hl 0 rfl) ?_
          refine lv_iload hx hb dX11_holds_395 (lv_at hl 2 rfl) ?_
          refine lv_icmp_ne (tgt := 404) hx hb dX11_holds_397 (by decide) (fun c_83 => ?_) (fun c_83 => ?_)
          · skip
            have c_83 : ¬ (r_72.toInt = z_8.toInt) := fun h9 => c_83 (i_eq.mpr h9)
            refine lv_iconst (v := 0) hx hb dX11_holds_404 (by decide) ?_
            refine lv_goto (tgt := 420) hx hb dX11_holds_405 (by decide) ?_
            have k_0 : (0 : Int32).toInt = 0 := by decide
            rw [hQ9]
            exact re_z voth hx hb hr hlocks (Or.inl rfl) (show ((0 : Int32) = 0) ∨ ((0 : Int32) = 1) from (Or.inl rfl)) (hP.sub [0, 1] rfl) (hD.sub [0, 1] rfl rfl) hS dX11_holds_420
          · skip
            have c_83 : r_72.toInt = z_8.toInt := i_eq.mp c_83
            refine lv_iconst (v := 1) hx hb dX11_holds_400 (by decide) ?_
            refine lv_goto (tgt := 420) hx hb dX11_holds_401 (by decide) ?_
            rw [hQ9]
            exact re_z voth hx hb hr hlocks (Or.inr rfl) (show ((1 : Int32) = 0) ∨ ((1 : Int32) = 1) from (Or.inr (rfl))) (hP.sub [0, 1] rfl) (hD.sub [0, 1] rfl rfl) hS dX11_holds_420
      · skip
        have c_77 : z_76.toInt = (60 : Int32).toInt := i_eq.mp c_77
        refine lv_iload hx hb dX11_holds_365 (lv_at hl 0 rfl) ?_
        refine lv_iload hx hb dX11_holds_367 (lv_at hl 2 rfl) ?_
        refine lv_icmp_ge (tgt := 376) hx hb dX11_holds_369 (by decide) (fun c_84 => ?_) (fun c_84 => ?_)
        · skip
          have c_84 : z_8.toInt ≤ r_72.toInt := i_le.mp c_84
          refine lv_iconst (v := 0) hx hb dX11_holds_376 (by decide) ?_
          refine lv_goto (tgt := 420) hx hb dX11_holds_377 (by decide) ?_
          have k_0 : (0 : Int32).toInt = 0 := by decide
          rw [hQ9]
          exact re_z voth hx hb hr hlocks (Or.inl rfl) (show ((0 : Int32) = 0) ∨ ((0 : Int32) = 1) from (Or.inl rfl)) (hP.sub [0, 1] rfl) (hD.sub [0, 1] rfl rfl) hS dX11_holds_420
        · skip
          have c_84 : ¬ (z_8.toInt ≤ r_72.toInt) := fun h9 => c_84 (i_le.mpr h9)
          refine lv_iconst (v := 1) hx hb dX11_holds_372 (by decide) ?_
          refine lv_goto (tgt := 420) hx hb dX11_holds_373 (by decide) ?_
          rw [hQ9]
          exact re_z voth hx hb hr hlocks (Or.inr rfl) (show ((1 : Int32) = 0) ∨ ((1 : Int32) = 1) from (Or.inr (rfl))) (hP.sub [0, 1] rfl) (hD.sub [0, 1] rfl rfl) hS dX11_holds_420
  · skip
    have c_44 : z_43.toInt = (25 : Int32).toInt := i_eq.mp c_44
    refine lv_aload_n hx hb dX11_holds_306 rfl (lv_at hl 4 rfl) ?_
    refine lv_iload_n hx hb dX11_holds_307 rfl (lv_at hl 6 rfl) ?_
    refine jr_i (rVr (As := [.int vp]) (rest := []) (ci := 12) ⟨hx, hb, hml, hown, hts⟩ (m_whiteOf l dC dI cy vnh vo voth vmt votp vosz volm voto vofr vokd vonu vosg vofa vopl vowd votd vmn vmr vmk vms vma vmm vmrn vmkn vmik vmon vosm vohp vmw vmf vmb vomb vmd vmc vocm voct vocy vmx votx vose vml vmwr voln vohw vmno vond voon vowi votop vmnf vp ⟨by omega, by omega⟩ p_vmnf) (cw_X11_241 hts rfl rfl ⟨Nat.le_of_ble_eq_true rfl, Nat.le_of_ble_eq_true rfl⟩) hP hK [0, 1] rfl rfl rfl rfl hl.1 rfl (Nat.le_of_ble_eq_true rfl) dX11_holds_308 ⟨Nat.le_of_ble_eq_true rfl, Nat.le_of_ble_eq_true rfl⟩) hP hS (fun r_85 H locs hp_86 hP hS => ?_)
    refine lv_goto (tgt := 350) hx hb dX11_holds_311 (by decide) ?_
    refine lv_istore (lv' := [(7, .int r_85), (6, .int z_43), (5, .int z_8), (4, .int z_5), (3, .int z_2), (0, .ref vo), (1, .int vk), (2, .int vp)]) hx hb dX11_holds_350 hl (by decide) rfl (fun ls hl => ?_)
    refine lv_aload_n hx hb dX11_holds_352 rfl (lv_at hl 5 rfl) ?_
    refine gf_X11_98 hx hb hts hown hK hP 0 rfl rfl dX11_holds_353 ?_
    refine lv_iload_n hx hb dX11_holds_356 rfl (lv_at hl 4 rfl) ?_
    refine lv_iconst (v := 3) hx hb dX11_holds_357 (by decide) ?_
    refine lv_iadd hx hb dX11_holds_358 ?_
    refine lv_topi (fun z_87 ez_87 => ?_)
    have bz_87 : z_87.toInt = z_2.toInt + (3 : Int32).toInt := i_add ez_87 (by omega) (by omega)
    have hin_88 : vp_in z_87 575 := vp_in_iff.mpr ⟨by omega, by omega⟩
    refine va_iald hx hb hK hP 1 0 rfl rfl hin_88 dX11_holds_359 ?_
    refine lv_topi (fun z_89 ez_89 => ?_)
    refine lv_bipush (v := 60) hx hb dX11_holds_360 (by decide) ?_
    have k_60 : (60 : Int32).toInt = 60 := by decide
    refine lv_icmp_ne (tgt := 380) hx hb dX11_holds_362 (by decide) (fun c_90 => ?_) (fun c_90 => ?_)
    · skip
      have c_90 : ¬ (z_89.toInt = (60 : Int32).toInt) := fun h9 => c_90 (i_eq.mpr h9)
      refine lv_aload_n hx hb dX11_holds_380 rfl (lv_at hl 5 rfl) ?_
      refine gf_X11_98 hx hb hts hown hK hP 0 rfl rfl dX11_holds_381 ?_
      refine lv_iload_n hx hb dX11_holds_384 rfl (lv_at hl 4 rfl) ?_
      refine lv_iconst (v := 3) hx hb dX11_holds_385 (by decide) ?_
      refine lv_iadd hx hb dX11_holds_386 ?_
      refine lv_topi (fun z_91 ez_91 => ?_)
      have bz_91 : z_91.toInt = z_2.toInt + (3 : Int32).toInt := i_add ez_91 (by omega) (by omega)
      have hin_92 : vp_in z_91 575 := vp_in_iff.mpr ⟨by omega, by omega⟩
      refine va_iald hx hb hK hP 1 0 rfl rfl hin_92 dX11_holds_387 ?_
      refine lv_topi (fun z_93 ez_93 => ?_)
      refine lv_bipush (v := 61) hx hb dX11_holds_388 (by decide) ?_
      have k_61 : (61 : Int32).toInt = 61 := by decide
      refine lv_icmp_ne (tgt := 408) hx hb dX11_holds_390 (by decide) (fun c_94 => ?_) (fun c_94 => ?_)
      · skip
        have c_94 : ¬ (z_93.toInt = (61 : Int32).toInt) := fun h9 => c_94 (i_eq.mpr h9)
        refine lv_iload hx hb dX11_holds_408 (lv_at hl 0 rfl) ?_
        refine lv_iload hx hb dX11_holds_410 (lv_at hl 2 rfl) ?_
        refine lv_icmp_le (tgt := 419) hx hb dX11_holds_412 (by decide) (fun c_95 => ?_) (fun c_95 => ?_)
        · skip
          have c_95 : r_85.toInt ≤ z_8.toInt := i_le.mp c_95
          refine lv_iconst (v := 0) hx hb dX11_holds_419 (by decide) ?_
          have k_0 : (0 : Int32).toInt = 0 := by decide
          rw [hQ9]
          exact re_z voth hx hb hr hlocks (Or.inl rfl) (show ((0 : Int32) = 0) ∨ ((0 : Int32) = 1) from (Or.inl rfl)) (hP.sub [0, 1] rfl) (hD.sub [0, 1] rfl rfl) hS dX11_holds_420
        · skip
          have c_95 : ¬ (r_85.toInt ≤ z_8.toInt) := fun h9 => c_95 (i_le.mpr h9)
          refine lv_iconst (v := 1) hx hb dX11_holds_415 (by decide) ?_
          refine lv_goto (tgt := 420) hx hb dX11_holds_416 (by decide) ?_
          rw [hQ9]
          exact re_z voth hx hb hr hlocks (Or.inr rfl) (show ((1 : Int32) = 0) ∨ ((1 : Int32) = 1) from (Or.inr (rfl))) (hP.sub [0, 1] rfl) (hD.sub [0, 1] rfl rfl) hS dX11_holds_420
      · skip
        have c_94 : z_93.toInt = (61 : Int32).toInt := i_eq.mp c_94
        refine lv_iload hx hb dX11_holds_393 (lv_at hl 0 rfl) ?_
        refine lv_iload hx hb dX11_holds_395 (lv_at hl 2 rfl) ?_
        refine lv_icmp_ne (tgt := 404) hx hb dX11_holds_397 (by decide) (fun c_96 => ?_) (fun c_96 => ?_)
        · skip
          have c_96 : ¬ (r_85.toInt = z_8.toInt) := fun h9 => c_96 (i_eq.mpr h9)
          refine lv_iconst (v := 0) hx hb dX11_holds_404 (by decide) ?_
          refine lv_goto (tgt := 420) hx hb dX11_holds_405 (by decide) ?_
          have k_0 : (0 : Int32).toInt = 0 := by decide
          rw [hQ9]
          exact re_z voth hx hb hr hlocks (Or.inl rfl) (show ((0 : Int32) = 0) ∨ ((0 : Int32) = 1) from (Or.inl rfl)) (hP.sub [0, 1] rfl) (hD.sub [0, 1] rfl rfl) hS dX11_holds_420
        · skip
          have c_96 : r_85.toInt = z_8.toInt := i_eq.mp c_96
          refine lv_iconst (v := 1) hx hb dX11_holds_400 (by decide) ?_
          refine lv_goto (tgt := 420) hx hb dX11_holds_401 (by decide) ?_
          rw [hQ9]
          exact re_z voth hx hb hr hlocks (Or.inr rfl) (show ((1 : Int32) = 0) ∨ ((1 : Int32) = 1) from (Or.inr (rfl))) (hP.sub [0, 1] rfl) (hD.sub [0, 1] rfl rfl) hS dX11_holds_420
    · skip
      have c_90 : z_89.toInt = (60 : Int32).toInt := i_eq.mp c_90
      refine lv_iload hx hb dX11_holds_365 (lv_at hl 0 rfl) ?_
      refine lv_iload hx hb dX11_holds_367 (lv_at hl 2 rfl) ?_
      refine lv_icmp_ge (tgt := 376) hx hb dX11_holds_369 (by decide) (fun c_97 => ?_) (fun c_97 => ?_)
      · skip
        have c_97 : z_8.toInt ≤ r_85.toInt := i_le.mp c_97
        refine lv_iconst (v := 0) hx hb dX11_holds_376 (by decide) ?_
        refine lv_goto (tgt := 420) hx hb dX11_holds_377 (by decide) ?_
        have k_0 : (0 : Int32).toInt = 0 := by decide
        rw [hQ9]
        exact re_z voth hx hb hr hlocks (Or.inl rfl) (show ((0 : Int32) = 0) ∨ ((0 : Int32) = 1) from (Or.inl rfl)) (hP.sub [0, 1] rfl) (hD.sub [0, 1] rfl rfl) hS dX11_holds_420
      · skip
        have c_97 : ¬ (z_8.toInt ≤ r_85.toInt) := fun h9 => c_97 (i_le.mpr h9)
        refine lv_iconst (v := 1) hx hb dX11_holds_372 (by decide) ?_
        refine lv_goto (tgt := 420) hx hb dX11_holds_373 (by decide) ?_
        rw [hQ9]
        exact re_z voth hx hb hr hlocks (Or.inr rfl) (show ((1 : Int32) = 0) ∨ ((1 : Int32) = 1) from (Or.inr (rfl))) (hP.sub [0, 1] rfl) (hD.sub [0, 1] rfl rfl) hS dX11_holds_420
abbrev O_m_holds_1 (cy : Nat → ClassId) (vnh : Nat → Int32) (vo : Nat) (voth : Int32) (vmt : Nat) (votp : Int32) (vosz : Int32) (volm : Int32) (voto : Int32) (vofr : Int32) (vokd : Int32) (vonu : Int32) (vosg : Int32) (vofa : Int32) (vopl : Int32) (vowd : Int64) (votd : Int32) (vmn : Nat) (vmr : Nat) (vmk : Nat) (vms : Nat) (vma : Nat) (vmm : Nat) (vmrn : Nat) (vmkn : Nat) (vmik : Nat) (vmon : Nat) (vosm : Int32) (vohp : Int32) (vmw : Nat) (vmf : Nat) (vmb : Nat) (vomb : Int32) (vmd : Nat) (vmc : Nat) (vocm : Int32) (voct : Int32) (vocy : Int32) (vmx : Nat) (votx : Int32) (vose : Int32) (vml : Nat) (vmwr : Nat) (voln : Int32) (vohw : Int32) (vmno : Nat) (vond : Int32) (voon : Int32) (vowi : Int32) (votop : Int32) (vmnf : Nat → Int32) (vk : Int32) (vp : Int32) (u : Int32) : va_W := [(vo, .inr (12, [.int u, .ref vmt, .int votp, .int vosz, .int volm, .int voto, .int vofr, .int vokd, .int vonu, .int vosg, .int vofa, .int vopl, .long vowd, .int votd, .ref vmn, .ref vmr, .ref vmk, .ref vms, .ref vma, .ref vmm, .ref vmrn, .ref vmkn, .ref vmik, .ref vmon, .int vosm, .int vohp, .ref vmw, .ref vmf, .ref vmb, .int vomb, .ref vmd, .ref vmc, .int vocm, .int voct, .int vocy, .ref vmx, .int votx, .int vose, .ref vml, .ref vmwr, .int voln, .int vohw, .ref vmno, .int vond, .int voon, .int vowi, .int votop])), (vmn, .inl (cy 0, 575, .inl vmnf))]
theorem dX11_holds_124 : decode cX11_holds 124 = .ok (.aload_n 0, 1) := by decide +kernel
theorem dX11_holds_125 : decode cX11_holds 125 = .ok (.iload 4, 2) := by decide +kernel
theorem dX11_holds_127 : decode cX11_holds 127 = .ok (.iload_n 2, 1) := by decide +kernel
theorem dX11_holds_128 : decode cX11_holds 128 = .ok (.invokevirtual 438, 3) := by decide +kernel
theorem t2055 : Cond.methodLink RX11 438 yX11_holds ∈ GW := gw_mem 2169 (by decide +kernel) (by decide +kernel)
theorem t2057 : Cond.instanceMethod yX11_holds ∈ GW := gw_mem 2171 (by decide +kernel) (by decide +kernel)
theorem s113 : Cond.selects RX11 yX11_holds yX11_holds ∈ GW := gw_mem 113 (by decide +kernel) (by decide +kernel)
theorem cw_X11_438 {R : Room} {s : State} {args : Array Value} {rm : Room} {mc ms : Nat} (hts : ∀ w ∈ GW, w.before args s = true) (hrc : rm.cells = mc) (hrs : rm.slots = ms) (hR : rm.frames + 1 ≤ R.frames ∧ 8 + (8 + 11) + rm.locals ≤ R.locals) : CallW R s args RX11 RX11 438 yX11_holds cX11_holds 8 (some .boolean) (wl yX11_holds cX11_holds 8 (some .boolean)) rm mc ms 2 := cwV 2 hts (gi_V t2055 t2057 s113 t18 t2058) rfl hrc hrs (by decide +kernel) hR
theorem dX11_holds_131 : decode cX11_holds 131 = .ok (.ifCond .ne 7, 3) := by decide +kernel
theorem dX11_holds_134 : decode cX11_holds 134 = .ok (.iconst 1, 1) := by decide +kernel
theorem dX11_holds_135 : decode cX11_holds 135 = .ok (.goto 4, 3) := by decide +kernel
theorem dX11_holds_139 : decode cX11_holds 139 = .ok (.ireturn, 1) := by decide +kernel
theorem dX11_holds_138 : decode cX11_holds 138 = .ok (.iconst 0, 1) := by decide +kernel
theorem dX11_holds_140 : decode cX11_holds 140 = .ok (.aload_n 0, 1) := by decide +kernel
theorem dX11_holds_141 : decode cX11_holds 141 = .ok (.iload 4, 2) := by decide +kernel
theorem dX11_holds_143 : decode cX11_holds 143 = .ok (.iload_n 2, 1) := by decide +kernel
theorem dX11_holds_144 : decode cX11_holds 144 = .ok (.invokevirtual 438, 3) := by decide +kernel
theorem dX11_holds_147 : decode cX11_holds 147 = .ok (.ifCond .eq 17, 3) := by decide +kernel
theorem dX11_holds_164 : decode cX11_holds 164 = .ok (.iconst 0, 1) := by decide +kernel
theorem dX11_holds_165 : decode cX11_holds 165 = .ok (.ireturn, 1) := by decide +kernel
theorem dX11_holds_150 : decode cX11_holds 150 = .ok (.aload_n 0, 1) := by decide +kernel
theorem dX11_holds_151 : decode cX11_holds 151 = .ok (.iload 5, 2) := by decide +kernel
theorem dX11_holds_153 : decode cX11_holds 153 = .ok (.iload_n 2, 1) := by decide +kernel
theorem dX11_holds_154 : decode cX11_holds 154 = .ok (.invokevirtual 438, 3) := by decide +kernel
theorem dX11_holds_157 : decode cX11_holds 157 = .ok (.ifCond .eq 7, 3) := by decide +kernel
theorem dX11_holds_160 : decode cX11_holds 160 = .ok (.iconst 1, 1) := by decide +kernel
theorem dX11_holds_161 : decode cX11_holds 161 = .ok (.goto 4, 3) := by decide +kernel
theorem dX11_holds_166 : decode cX11_holds 166 = .ok (.aload_n 0, 1) := by decide +kernel
theorem dX11_holds_167 : decode cX11_holds 167 = .ok (.iload 4, 2) := by decide +kernel
theorem dX11_holds_169 : decode cX11_holds 169 = .ok (.iload_n 2, 1) := by decide +kernel
theorem dX11_holds_170 : decode cX11_holds 170 = .ok (.invokevirtual 438, 3) := by decide +kernel
theorem dX11_holds_173 : decode cX11_holds 173 = .ok (.ifCond .ne 13, 3) := by decide +kernel
theorem dX11_holds_176 : decode cX11_holds 176 = .ok (.aload_n 0, 1) := by decide +kernel
theorem dX11_holds_177 : decode cX11_holds 177 = .ok (.iload 5, 2) := by decide +kernel
theorem dX11_holds_179 : decode cX11_holds 179 = .ok (.iload_n 2, 1) := by decide +kernel
theorem dX11_holds_180 : decode cX11_holds 180 = .ok (.invokevirtual 438, 3) := by decide +kernel
theorem dX11_holds_183 : decode cX11_holds 183 = .ok (.ifCond .eq 7, 3) := by decide +kernel
theorem dX11_holds_190 : decode cX11_holds 190 = .ok (.iconst 0, 1) := by decide +kernel
theorem dX11_holds_191 : decode cX11_holds 191 = .ok (.ireturn, 1) := by decide +kernel
theorem dX11_holds_186 : decode cX11_holds 186 = .ok (.iconst 1, 1) := by decide +kernel
theorem dX11_holds_187 : decode cX11_holds 187 = .ok (.goto 4, 3) := by decide +kernel
set_option maxHeartbeats 4000000 in
set_option maxRecDepth 100000 in
theorem m_holds_1 (l : Launch) (dC : Nat → ClassId) (dI : Nat → Nat → Nat) (cy : Nat → ClassId) (sz : Nat) (vnh : Nat → Int32) (vo : Nat) (voth : Int32) (vmt : Nat) (votp : Int32) (vosz : Int32) (volm : Int32) (voto : Int32) (vofr : Int32) (vokd : Int32) (vonu : Int32) (vosg : Int32) (vofa : Int32) (vopl : Int32) (vowd : Int64) (votd : Int32) (vmn : Nat) (vmr : Nat) (vmk : Nat) (vms : Nat) (vma : Nat) (vmm : Nat) (vmrn : Nat) (vmkn : Nat) (vmik : Nat) (vmon : Nat) (vosm : Int32) (vohp : Int32) (vmw : Nat) (vmf : Nat) (vmb : Nat) (vomb : Int32) (vmd : Nat) (vmc : Nat) (vocm : Int32) (voct : Int32) (vocy : Int32) (vmx : Nat) (votx : Int32) (vose : Int32) (vml : Nat) (vmwr : Nat) (voln : Int32) (vohw : Int32) (vmno : Nat) (vond : Int32) (voon : Int32) (vowi : Int32) (votop : Int32) (vmnf : Nat → Int32) (vk : Int32) (vp : Int32) (r_vk : 0 ≤ (vk : Int32).toInt ∧ (vk : Int32).toInt ≤ 1) (r_vp : 0 ≤ (vp : Int32).toInt ∧ (vp : Int32).toInt ≤ 6) (p_vmnf : NW vnh vmnf) : Met l yX11_holds (wl yX11_holds cX11_holds 8 (some .boolean)) ({ frames := 7, cells := 0, slots := 0, locals := 448 }) (Pw (dC, dI) vwCl cy [(vo, .inr (12, [.int voth, .ref vmt, .int votp, .int vosz, .int volm, .int voto, .int vofr, .int vokd, .int vonu, .int vosg, .int vofa, .int vopl, .long vowd, .int votd, .ref vmn, .ref vmr, .ref vmk, .ref vms, .ref vma, .ref vmm, .ref vmrn, .ref vmkn, .ref vmik, .ref vmon, .int vosm, .int vohp, .ref vmw, .ref vmf, .ref vmb, .int vomb, .ref vmd, .ref vmc, .int vocm, .int voct, .int vocy, .ref vmx, .int votx, .int vose, .ref vml, .ref vmwr, .int voln, .int vohw, .ref vmno, .int vond, .int voon, .int vowi, .int votop])), (vmn, .inl (cy 0, 575, .inl vmnf))] sz [.ref vo, .int vk, .int vp] nE) (Qi (dC, dI) vwCl (fun (r : Int32) (u : Int32) => ((r = 0) ∨ (r = 1))) (O_m_holds_1 cy vnh vo voth vmt votp vosz volm voto vofr vokd vonu vosg vofa vopl vowd votd vmn vmr vmk vms vma vmm vmrn vmkn vmik vmon vosm vohp vmw vmf vmb vomb vmd vmc vocm voct vocy vmx votx vose vml vmwr voln vohw vmno vond voon vowi votop vmnf vk vp) (va_A [(vo, .inr (12, [.int voth, .ref vmt, .int votp, .int vosz, .int volm, .int voto, .int vofr, .int vokd, .int vonu, .int vosg, .int vofa, .int vopl, .long vowd, .int votd, .ref vmn, .ref vmr, .ref vmk, .ref vms, .ref vma, .ref vmm, .ref vmrn, .ref vmkn, .ref vmik, .ref vmon, .int vosm, .int vohp, .ref vmw, .ref vmf, .ref vmb, .int vomb, .ref vmd, .ref vmc, .int vocm, .int voct, .int vocy, .ref vmx, .int votx, .int vose, .ref vml, .ref vmwr, .int voln, .int vohw, .ref vmno, .int vond, .int voon, .int vowi, .int votop])), (vmn, .inl (cy 0, 575, .inl vmnf))] sz)) 0 0 (va_A [(vo, .inr (12, [.int voth, .ref vmt, .int votp, .int vosz, .int volm, .int voto, .int vofr, .int vokd, .int vonu, .int vosg, .int vofa, .int vopl, .long vowd, .int votd, .ref vmn, .ref vmr, .ref vmk, .ref vms, .ref vma, .ref vmm, .ref vmrn, .ref vmkn, .ref vmik, .ref vmon, .int vosm, .int vohp, .ref vmw, .ref vmf, .ref vmb, .int vomb, .ref vmd, .ref vmc, .int vocm, .int voct, .int vocy, .ref vmx, .int votx, .int vose, .ref vml, .ref vmwr, .int voln, .int vohw, .ref vmno, .int vond, .int voon, .int vowi, .int votop])), (vmn, .inl (cy 0, 575, .inl vmnf))] sz) := by
  refine mw (Qc := Qi (dC, dI) vwCl (fun (r : Int32) (u : Int32) => ((r = 0) ∨ (r = 1))) (O_m_holds_1 cy vnh vo voth vmt votp vosz volm voto vofr vokd vonu vosg vofa vopl vowd votd vmn vmr vmk vms vma vmm vmrn vmkn vmik vmon vosm vohp vmw vmf vmb vomb vmd vmc vocm voct vocy vmx votx vose vml vmwr voln vohw vmno vond voon vowi votop vmnf vk vp)) RX11 rfl (by decide +kernel) (Nat.le_of_ble_eq_true rfl) ?_
  intro p e s m below meth c A hx hb hr hlocks av9 hav hts hown hnm hml hK hP hD hA hS hE hAe Q9 hQ9 ls hl
  have hl : lv_has ls 8 [(0, .ref vo), (1, .int vk), (2, .int vp)] := hl
  refine lv_sipush (v := 335) hx hb dX11_holds_0 (by decide) ?_
  refine lv_iconst (v := 4) hx hb dX11_holds_3 (by decide) ?_
  refine lv_iload_n hx hb dX11_holds_4 rfl (lv_at hl 1 rfl) ?_
  refine lv_imul hx hb dX11_holds_5 ?_
  refine lv_topi (fun z_1 ez_1 => ?_)
  have k_4 : (4 : Int32).toInt = 4 := by decide
  have bz_1 : z_1.toInt = vk.toInt * 4 := i_cmul k_4 ez_1 (by omega) (by omega)
  refine lv_iadd hx hb dX11_holds_6 ?_
  refine lv_topi (fun z_2 ez_2 => ?_)
  have k_335 : (335 : Int32).toInt = 335 := by decide
  have bz_2 : z_2.toInt = (335 : Int32).toInt + z_1.toInt := i_add ez_2 (by omega) (by omega)
  refine lv_istore_n (lv' := [(3, .int z_2), (0, .ref vo), (1, .int vk), (2, .int vp)]) hx hb dX11_holds_7 rfl hl (by decide) rfl (fun ls hl => ?_)
  refine lv_aload_n hx hb dX11_holds_8 rfl (lv_at hl 1 rfl) ?_
  refine gf_X11_98 hx hb hts hown hK hP 0 rfl rfl dX11_holds_9 ?_
  refine lv_iload_n hx hb dX11_holds_12 rfl (lv_at hl 0 rfl) ?_
  refine lv_iconst (v := 1) hx hb dX11_holds_13 (by decide) ?_
  refine lv_iadd hx hb dX11_holds_14 ?_
  refine lv_topi (fun z_3 ez_3 => ?_)
  have k_1 : (1 : Int32).toInt = 1 := by decide
  have bz_3 : z_3.toInt = z_2.toInt + (1 : Int32).toInt := i_add ez_3 (by omega) (by omega)
  have hin_4 : vp_in z_3 575 := vp_in_iff.mpr ⟨by omega, by omega⟩
  refine va_iald hx hb hK hP 1 0 rfl rfl hin_4 dX11_holds_15 ?_
  refine lv_topi (fun z_5 ez_5 => ?_)
  refine lv_istore (lv' := [(4, .int z_5), (3, .int z_2), (0, .ref vo), (1, .int vk), (2, .int vp)]) hx hb dX11_holds_16 hl (by decide) rfl (fun ls hl => ?_)
  refine lv_aload_n hx hb dX11_holds_18 rfl (lv_at hl 2 rfl) ?_
  refine gf_X11_98 hx hb hts hown hK hP 0 rfl rfl dX11_holds_19 ?_
  refine lv_iload_n hx hb dX11_holds_22 rfl (lv_at hl 1 rfl) ?_
  refine lv_iconst (v := 2) hx hb dX11_holds_23 (by decide) ?_
  refine lv_iadd hx hb dX11_holds_24 ?_
  refine lv_topi (fun z_6 ez_6 => ?_)
  have k_2 : (2 : Int32).toInt = 2 := by decide
  have bz_6 : z_6.toInt = z_2.toInt + (2 : Int32).toInt := i_add ez_6 (by omega) (by omega)
  have hin_7 : vp_in z_6 575 := vp_in_iff.mpr ⟨by omega, by omega⟩
  refine va_iald hx hb hK hP 1 0 rfl rfl hin_7 dX11_holds_25 ?_
  refine lv_topi (fun z_8 ez_8 => ?_)
  refine lv_istore (lv' := [(5, .int z_8), (4, .int z_5), (3, .int z_2), (0, .ref vo), (1, .int vk), (2, .int vp)]) hx hb dX11_holds_26 hl (by decide) rfl (fun ls hl => ?_)
  refine lv_aload_n hx hb dX11_holds_28 rfl (lv_at hl 3 rfl) ?_
  refine gf_X11_98 hx hb hts hown hK hP 0 rfl rfl dX11_holds_29 ?_
  refine lv_iload_n hx hb dX11_holds_32 rfl (lv_at hl 2 rfl) ?_
  have hin_9 : vp_in z_2 575 := vp_in_iff.mpr ⟨by omega, by omega⟩
  refine va_iald hx hb hK hP 1 0 rfl rfl hin_9 dX11_holds_33 ?_
  refine lv_topi (fun z_10 ez_10 => ?_)
  obtain ⟨hA1, hA2, hA3, hA4⟩ := NW.node p_vmnf (k := vk) ⟨by omega, by omega⟩ (i1 := z_3) (by omega) ez_5 (i2 := z_6) (by omega) ez_8 (i0 := z_2) (by omega) ez_10
  have k_3 : (3 : Int32).toInt = 3 := by decide
  have k_68 : (68 : Int32).toInt = 68 := by decide
  have k_69 : (69 : Int32).toInt = 69 := by decide
  have k_70 : (70 : Int32).toInt = 70 := by decide
  have k_71 : (71 : Int32).toInt = 71 := by decide
  have k_72 : (72 : Int32).toInt = 72 := by decide
  have k_73 : (73 : Int32).toInt = 73 := by decide
  have k_74 : (74 : Int32).toInt = 74 := by decide
  by_cases sw_11_1 : z_10.toInt = 1
  · refine as_i 1 (i_eq.mpr (sw_11_1.trans k_1.symm)) ?_
    refine lv_lookup (off := 90) (tgt := 124) hx hb dX11_holds_34 (by decide) (by decide) (by decide) ?_
    have hB := hA1 (by omega)
    refine lv_aload_n hx hb dX11_holds_124 rfl (lv_at hl 3 rfl) ?_
    refine lv_iload hx hb dX11_holds_125 (lv_at hl 1 rfl) ?_
    refine lv_iload_n hx hb dX11_holds_127 rfl (lv_at hl 5 rfl) ?_
    refine jn_i (wr := []) (rV (As := [.int z_5, .int vp]) (rest := []) (ci := 12) ⟨hx, hb, hml, hown, hts⟩ (m_holds_0 l dC dI cy _ vnh vo voth vmt votp vosz volm voto vofr vokd vonu vosg vofa vopl vowd votd vmn vmr vmk vms vma vmm vmrn vmkn vmik vmon vosm vohp vmw vmf vmb vomb vmd vmc vocm voct vocy vmx votx vose vml vmwr voln vohw vmno vond voon vowi votop vmnf z_5 vp ⟨by omega, by omega⟩ r_vp p_vmnf) (cw_X11_438 hts rfl rfl ⟨Nat.le_of_ble_eq_true rfl, Nat.le_of_ble_eq_true rfl⟩) hP hD hK [0, 1] rfl rfl rfl rfl bl0 e0 rfl hl.1 rfl (Nat.le_of_ble_eq_true rfl) dX11_holds_128 ⟨Nat.le_of_ble_eq_true rfl, Nat.le_of_ble_eq_true rfl⟩) hP hD hS hA [0, 1] [] rfl rfl rfl (by decide) (fun r_12 u_14 H locs hp_13 hP hD hS => ?_)
    obtain ⟨voth_15, rfl⟩ : ∃ z, z = u_14 := ⟨_, rfl⟩
    have hp_13 : ((r_12 = 0) ∨ (r_12 = 1)) := hp_13
    have q_16 := hp_13
    have hP : va_P (dC, dI) vwCl [(vo, .inr (12, [.int voth_15, .ref vmt, .int votp, .int vosz, .int volm, .int voto, .int vofr, .int vokd, .int vonu, .int vosg, .int vofa, .int vopl, .long vowd, .int votd, .ref vmn, .ref vmr, .ref vmk, .ref vms, .ref vma, .ref vmm, .ref vmrn, .ref vmkn, .ref vmik, .ref vmon, .int vosm, .int vohp, .ref vmw, .ref vmf, .ref vmb, .int vomb, .ref vmd, .ref vmc, .int vocm, .int voct, .int vocy, .ref vmx, .int votx, .int vose, .ref vml, .ref vmwr, .int voln, .int vohw, .ref vmno, .int vond, .int voon, .int vowi, .int votop])), (vmn, .inl (cy 0, 575, .inl vmnf))] H := hP
    have hD : va_D A [(vo, .inr (12, [.int voth_15, .ref vmt, .int votp, .int vosz, .int volm, .int voto, .int vofr, .int vokd, .int vonu, .int vosg, .int vofa, .int vopl, .long vowd, .int votd, .ref vmn, .ref vmr, .ref vmk, .ref vms, .ref vma, .ref vmm, .ref vmrn, .ref vmkn, .ref vmik, .ref vmon, .int vosm, .int vohp, .ref vmw, .ref vmf, .ref vmb, .int vomb, .ref vmd, .ref vmc, .int vocm, .int voct, .int vocy, .ref vmx, .int votx, .int vose, .ref vml, .ref vmwr, .int voln, .int vohw, .ref vmno, .int vond, .int voon, .int vowi, .int votop])), (vmn, .inl (cy 0, 575, .inl vmnf))] := hD
    rcases q_16 with aq_16 | aq_16
    · skip
      refine as_i 0 aq_16 ?_
      refine lv_if_ne (tgt := 138) hx hb dX11_holds_131 (by decide) (fun c9 => absurd c9 (by decide)) (fun _ => ?_)
      refine lv_iconst (v := 1) hx hb dX11_holds_134 (by decide) ?_
      refine lv_goto (tgt := 139) hx hb dX11_holds_135 (by decide) ?_
      rw [hQ9]
      exact re_z voth_15 hx hb hr hlocks (Or.inr rfl) (show ((1 : Int32) = 0) ∨ ((1 : Int32) = 1) from (Or.inr (rfl))) (hP.sub [0, 1] rfl) (hD.sub [0, 1] rfl rfl) hS dX11_holds_139
    · skip
      refine as_i 1 aq_16 ?_
      refine lv_if_ne (tgt := 138) hx hb dX11_holds_131 (by decide) (fun _ => ?_) (fun c9 => absurd c9 (by decide))
      refine lv_iconst (v := 0) hx hb dX11_holds_138 (by decide) ?_
      have k_0 : (0 : Int32).toInt = 0 := by decide
      rw [hQ9]
      exact re_z voth_15 hx hb hr hlocks (Or.inl rfl) (show ((0 : Int32) = 0) ∨ ((0 : Int32) = 1) from (Or.inl rfl)) (hP.sub [0, 1] rfl) (hD.sub [0, 1] rfl rfl) hS dX11_holds_139
  by_cases sw_11_2 : z_10.toInt = 2
  · refine as_i 2 (i_eq.mpr (sw_11_2.trans k_2.symm)) ?_
    refine lv_lookup (off := 106) (tgt := 140) hx hb dX11_holds_34 (by decide) (by decide) (by decide) ?_
    have hB := hA2 (by omega)
    refine lv_aload_n hx hb dX11_holds_140 rfl (lv_at hl 3 rfl) ?_
    refine lv_iload hx hb dX11_holds_141 (lv_at hl 1 rfl) ?_
    refine lv_iload_n hx hb dX11_holds_143 rfl (lv_at hl 5 rfl) ?_
    refine jn_i (wr := []) (rV (As := [.int z_5, .int vp]) (rest := []) (ci := 12) ⟨hx, hb, hml, hown, hts⟩ (m_holds_0 l dC dI cy _ vnh vo voth vmt votp vosz volm voto vofr vokd vonu vosg vofa vopl vowd votd vmn vmr vmk vms vma vmm vmrn vmkn vmik vmon vosm vohp vmw vmf vmb vomb vmd vmc vocm voct vocy vmx votx vose vml vmwr voln vohw vmno vond voon vowi votop vmnf z_5 vp ⟨by omega, by omega⟩ r_vp p_vmnf) (cw_X11_438 hts rfl rfl ⟨Nat.le_of_ble_eq_true rfl, Nat.le_of_ble_eq_true rfl⟩) hP hD hK [0, 1] rfl rfl rfl rfl bl0 e0 rfl hl.1 rfl (Nat.le_of_ble_eq_true rfl) dX11_holds_144 ⟨Nat.le_of_ble_eq_true rfl, Nat.le_of_ble_eq_true rfl⟩) hP hD hS hA [0, 1] [] rfl rfl rfl (by decide) (fun r_17 u_19 H locs hp_18 hP hD hS => ?_)
    obtain ⟨voth_20, rfl⟩ : ∃ z, z = u_19 := ⟨_, rfl⟩
    have hp_18 : ((r_17 = 0) ∨ (r_17 = 1)) := hp_18
    have q_21 := hp_18
    have hP : va_P (dC, dI) vwCl [(vo, .inr (12, [.int voth_20, .ref vmt, .int votp, .int vosz, .int volm, .int voto, .int vofr, .int vokd, .int vonu, .int vosg, .int vofa, .int vopl, .long vowd, .int votd, .ref vmn, .ref vmr, .ref vmk, .ref vms, .ref vma, .ref vmm, .ref vmrn, .ref vmkn, .ref vmik, .ref vmon, .int vosm, .int vohp, .ref vmw, .ref vmf, .ref vmb, .int vomb, .ref vmd, .ref vmc, .int vocm, .int voct, .int vocy, .ref vmx, .int votx, .int vose, .ref vml, .ref vmwr, .int voln, .int vohw, .ref vmno, .int vond, .int voon, .int vowi, .int votop])), (vmn, .inl (cy 0, 575, .inl vmnf))] H := hP
    have hD : va_D A [(vo, .inr (12, [.int voth_20, .ref vmt, .int votp, .int vosz, .int volm, .int voto, .int vofr, .int vokd, .int vonu, .int vosg, .int vofa, .int vopl, .long vowd, .int votd, .ref vmn, .ref vmr, .ref vmk, .ref vms, .ref vma, .ref vmm, .ref vmrn, .ref vmkn, .ref vmik, .ref vmon, .int vosm, .int vohp, .ref vmw, .ref vmf, .ref vmb, .int vomb, .ref vmd, .ref vmc, .int vocm, .int voct, .int vocy, .ref vmx, .int votx, .int vose, .ref vml, .ref vmwr, .int voln, .int vohw, .ref vmno, .int vond, .int voon, .int vowi, .int votop])), (vmn, .inl (cy 0, 575, .inl vmnf))] := hD
    rcases q_21 with aq_21 | aq_21
    · skip
      refine as_i 0 aq_21 ?_
      refine lv_if_eq (tgt := 164) hx hb dX11_holds_147 (by decide) (fun _ => ?_) (fun c9 => absurd (by decide) c9)
      refine lv_iconst (v := 0) hx hb dX11_holds_164 (by decide) ?_
      have k_0 : (0 : Int32).toInt = 0 := by decide
      rw [hQ9]
      exact re_z voth_20 hx hb hr hlocks (Or.inl rfl) (show ((0 : Int32) = 0) ∨ ((0 : Int32) = 1) from (Or.inl rfl)) (hP.sub [0, 1] rfl) (hD.sub [0, 1] rfl rfl) hS dX11_holds_165
    · skip
      refine as_i 1 aq_21 ?_
      refine lv_if_eq (tgt := 164) hx hb dX11_holds_147 (by decide) (fun c9 => absurd c9 (by decide)) (fun _ => ?_)
      refine lv_aload_n hx hb dX11_holds_150 rfl (lv_at hl 3 rfl) ?_
      refine lv_iload hx hb dX11_holds_151 (lv_at hl 0 rfl) ?_
      refine lv_iload_n hx hb dX11_holds_153 rfl (lv_at hl 5 rfl) ?_
      refine jn_i (wr := []) (rV (As := [.int z_8, .int vp]) (rest := []) (ci := 12) ⟨hx, hb, hml, hown, hts⟩ (m_holds_0 l dC dI cy _ vnh vo voth_20 vmt votp vosz volm voto vofr vokd vonu vosg vofa vopl vowd votd vmn vmr vmk vms vma vmm vmrn vmkn vmik vmon vosm vohp vmw vmf vmb vomb vmd vmc vocm voct vocy vmx votx vose vml vmwr voln vohw vmno vond voon vowi votop vmnf z_8 vp ⟨by omega, by omega⟩ r_vp p_vmnf) (cw_X11_438 hts rfl rfl ⟨Nat.le_of_ble_eq_true rfl, Nat.le_of_ble_eq_true rfl⟩) hP hD hK [0, 1] rfl rfl rfl rfl bl0 e0 rfl hl.1 rfl (Nat.le_of_ble_eq_true rfl) dX11_holds_154 ⟨Nat.le_of_ble_eq_true rfl, Nat.le_of_ble_eq_true rfl⟩) hP hD hS hA [0, 1] [] rfl rfl rfl (by decide) (fun r_22 u_24 H locs hp_23 hP hD hS => ?_)
      obtain ⟨voth_25, rfl⟩ : ∃ z, z = u_24 := ⟨_, rfl⟩
      have hp_23 : ((r_22 = 0) ∨ (r_22 = 1)) := hp_23
      have q_26 := hp_23
      have hP : va_P (dC, dI) vwCl [(vo, .inr (12, [.int voth_25, .ref vmt, .int votp, .int vosz, .int volm, .int voto, .int vofr, .int vokd, .int vonu, .int vosg, .int vofa, .int vopl, .long vowd, .int votd, .ref vmn, .ref vmr, .ref vmk, .ref vms, .ref vma, .ref vmm, .ref vmrn, .ref vmkn, .ref vmik, .ref vmon, .int vosm, .int vohp, .ref vmw, .ref vmf, .ref vmb, .int vomb, .ref vmd, .ref vmc, .int vocm, .int voct, .int vocy, .ref vmx, .int votx, .int vose, .ref vml, .ref vmwr, .int voln, .int vohw, .ref vmno, .int vond, .int voon, .int vowi, .int votop])), (vmn, .inl (cy 0, 575, .inl vmnf))] H := hP
      have hD : va_D A [(vo, .inr (12, [.int voth_25, .ref vmt, .int votp, .int vosz, .int volm, .int voto, .int vofr, .int vokd, .int vonu, .int vosg, .int vofa, .int vopl, .long vowd, .int votd, .ref vmn, .ref vmr, .ref vmk, .ref vms, .ref vma, .ref vmm, .ref vmrn, .ref vmkn, .ref vmik, .ref vmon, .int vosm, .int vohp, .ref vmw, .ref vmf, .ref vmb, .int vomb, .ref vmd, .ref vmc, .int vocm, .int voct, .int vocy, .ref vmx, .int votx, .int vose, .ref vml, .ref vmwr, .int voln, .int vohw, .ref vmno, .int vond, .int voon, .int vowi, .int votop])), (vmn, .inl (cy 0, 575, .inl vmnf))] := hD
      rcases q_26 with aq_26 | aq_26
      · skip
        refine as_i 0 aq_26 ?_
        refine lv_if_eq (tgt := 164) hx hb dX11_holds_157 (by decide) (fun _ => ?_) (fun c9 => absurd (by decide) c9)
        refine lv_iconst (v := 0) hx hb dX11_holds_164 (by decide) ?_
        have k_0 : (0 : Int32).toInt = 0 := by decide
        rw [hQ9]
        exact re_z voth_25 hx hb hr hlocks (Or.inl rfl) (show ((0 : Int32) = 0) ∨ ((0 : Int32) = 1) from (Or.inl rfl)) (hP.sub [0, 1] rfl) (hD.sub [0, 1] rfl rfl) hS dX11_holds_165
      · skip
        refine as_i 1 aq_26 ?_
        refine lv_if_eq (tgt := 164) hx hb dX11_holds_157 (by decide) (fun c9 => absurd c9 (by decide)) (fun _ => ?_)
        refine lv_iconst (v := 1) hx hb dX11_holds_160 (by decide) ?_
        refine lv_goto (tgt := 165) hx hb dX11_holds_161 (by decide) ?_
        rw [hQ9]
        exact re_z voth_25 hx hb hr hlocks (Or.inr rfl) (show ((1 : Int32) = 0) ∨ ((1 : Int32) = 1) from (Or.inr (rfl))) (hP.sub [0, 1] rfl) (hD.sub [0, 1] rfl rfl) hS dX11_holds_165
  by_cases sw_11_3 : z_10.toInt = 3
  · refine as_i 3 (i_eq.mpr (sw_11_3.trans k_3.symm)) ?_
    refine lv_lookup (off := 132) (tgt := 166) hx hb dX11_holds_34 (by decide) (by decide) (by decide) ?_
    have hB := hA3 (by omega)
    refine lv_aload_n hx hb dX11_holds_166 rfl (lv_at hl 3 rfl) ?_
    refine lv_iload hx hb dX11_holds_167 (lv_at hl 1 rfl) ?_
    refine lv_iload_n hx hb dX11_holds_169 rfl (lv_at hl 5 rfl) ?_
    refine jn_i (wr := []) (rV (As := [.int z_5, .int vp]) (rest := []) (ci := 12) ⟨hx, hb, hml, hown, hts⟩ (m_holds_0 l dC dI cy _ vnh vo voth vmt votp vosz volm voto vofr vokd vonu vosg vofa vopl vowd votd vmn vmr vmk vms vma vmm vmrn vmkn vmik vmon vosm vohp vmw vmf vmb vomb vmd vmc vocm voct vocy vmx votx vose vml vmwr voln vohw vmno vond voon vowi votop vmnf z_5 vp ⟨by omega, by omega⟩ r_vp p_vmnf) (cw_X11_438 hts rfl rfl ⟨Nat.le_of_ble_eq_true rfl, Nat.le_of_ble_eq_true rfl⟩) hP hD hK [0, 1] rfl rfl rfl rfl bl0 e0 rfl hl.1 rfl (Nat.le_of_ble_eq_true rfl) dX11_holds_170 ⟨Nat.le_of_ble_eq_true rfl, Nat.le_of_ble_eq_true rfl⟩) hP hD hS hA [0, 1] [] rfl rfl rfl (by decide) (fun r_27 u_29 H locs hp_28 hP hD hS => ?_)
    obtain ⟨voth_30, rfl⟩ : ∃ z, z = u_29 := ⟨_, rfl⟩
    have hp_28 : ((r_27 = 0) ∨ (r_27 = 1)) := hp_28
    have q_31 := hp_28
    have hP : va_P (dC, dI) vwCl [(vo, .inr (12, [.int voth_30, .ref vmt, .int votp, .int vosz, .int volm, .int voto, .int vofr, .int vokd, .int vonu, .int vosg, .int vofa, .int vopl, .long vowd, .int votd, .ref vmn, .ref vmr, .ref vmk, .ref vms, .ref vma, .ref vmm, .ref vmrn, .ref vmkn, .ref vmik, .ref vmon, .int vosm, .int vohp, .ref vmw, .ref vmf, .ref vmb, .int vomb, .ref vmd, .ref vmc, .int vocm, .int voct, .int vocy, .ref vmx, .int votx, .int vose, .ref vml, .ref vmwr, .int voln, .int vohw, .ref vmno, .int vond, .int voon, .int vowi, .int votop])), (vmn, .inl (cy 0, 575, .inl vmnf))] H := hP
    have hD : va_D A [(vo, .inr (12, [.int voth_30, .ref vmt, .int votp, .int vosz, .int volm, .int voto, .int vofr, .int vokd, .int vonu, .int vosg, .int vofa, .int vopl, .long vowd, .int votd, .ref vmn, .ref vmr, .ref vmk, .ref vms, .ref vma, .ref vmm, .ref vmrn, .ref vmkn, .ref vmik, .ref vmon, .int vosm, .int vohp, .ref vmw, .ref vmf, .ref vmb, .int vomb, .ref vmd, .ref vmc, .int vocm, .int voct, .int vocy, .ref vmx, .int votx, .int vose, .ref vml, .ref vmwr, .int voln, .int vohw, .ref vmno, .int vond, .int voon, .int vowi, .int votop])), (vmn, .inl (cy 0, 575, .inl vmnf))] := hD
    rcases q_31 with aq_31 | aq_31
    · skip
      refine as_i 0 aq_31 ?_
      refine lv_if_ne (tgt := 186) hx hb dX11_holds_173 (by decide) (fun c9 => absurd c9 (by decide)) (fun _ => ?_)
      refine lv_aload_n hx hb dX11_holds_176 rfl (lv_at hl 3 rfl) ?_
      refine lv_iload hx hb dX11_holds_177 (lv_at hl 0 rfl) ?_
      refine lv_iload_n hx hb dX11_holds_179 rfl (lv_at hl 5 rfl) ?_
      refine jn_i (wr := []) (rV (As := [.int z_8, .int vp]) (rest := []) (ci := 12) ⟨hx, hb, hml, hown, hts⟩ (m_holds_0 l dC dI cy _ vnh vo voth_30 vmt votp vosz volm voto vofr vokd vonu vosg vofa vopl vowd votd vmn vmr vmk vms vma vmm vmrn vmkn vmik vmon vosm vohp vmw vmf vmb vomb vmd vmc vocm voct vocy vmx votx vose vml vmwr voln vohw vmno vond voon vowi votop vmnf z_8 vp ⟨by omega, by omega⟩ r_vp p_vmnf) (cw_X11_438 hts rfl rfl ⟨Nat.le_of_ble_eq_true rfl, Nat.le_of_ble_eq_true rfl⟩) hP hD hK [0, 1] rfl rfl rfl rfl bl0 e0 rfl hl.1 rfl (Nat.le_of_ble_eq_true rfl) dX11_holds_180 ⟨Nat.le_of_ble_eq_true rfl, Nat.le_of_ble_eq_true rfl⟩) hP hD hS hA [0, 1] [] rfl rfl rfl (by decide) (fun r_32 u_34 H locs hp_33 hP hD hS => ?_)
      obtain ⟨voth_35, rfl⟩ : ∃ z, z = u_34 := ⟨_, rfl⟩
      have hp_33 : ((r_32 = 0) ∨ (r_32 = 1)) := hp_33
      have q_36 := hp_33
      have hP : va_P (dC, dI) vwCl [(vo, .inr (12, [.int voth_35, .ref vmt, .int votp, .int vosz, .int volm, .int voto, .int vofr, .int vokd, .int vonu, .int vosg, .int vofa, .int vopl, .long vowd, .int votd, .ref vmn, .ref vmr, .ref vmk, .ref vms, .ref vma, .ref vmm, .ref vmrn, .ref vmkn, .ref vmik, .ref vmon, .int vosm, .int vohp, .ref vmw, .ref vmf, .ref vmb, .int vomb, .ref vmd, .ref vmc, .int vocm, .int voct, .int vocy, .ref vmx, .int votx, .int vose, .ref vml, .ref vmwr, .int voln, .int vohw, .ref vmno, .int vond, .int voon, .int vowi, .int votop])), (vmn, .inl (cy 0, 575, .inl vmnf))] H := hP
      have hD : va_D A [(vo, .inr (12, [.int voth_35, .ref vmt, .int votp, .int vosz, .int volm, .int voto, .int vofr, .int vokd, .int vonu, .int vosg, .int vofa, .int vopl, .long vowd, .int votd, .ref vmn, .ref vmr, .ref vmk, .ref vms, .ref vma, .ref vmm, .ref vmrn, .ref vmkn, .ref vmik, .ref vmon, .int vosm, .int vohp, .ref vmw, .ref vmf, .ref vmb, .int vomb, .ref vmd, .ref vmc, .int vocm, .int voct, .int vocy, .ref vmx, .int votx, .int vose, .ref vml, .ref vmwr, .int voln, .int vohw, .ref vmno, .int vond, .int voon, .int vowi, .int votop])), (vmn, .inl (cy 0, 575, .inl vmnf))] := hD
      rcases q_36 with aq_36 | aq_36
      · skip
        refine as_i 0 aq_36 ?_
        refine lv_if_eq (tgt := 190) hx hb dX11_holds_183 (by decide) (fun _ => ?_) (fun c9 => absurd (by decide) c9)
        refine lv_iconst (v := 0) hx hb dX11_holds_190 (by decide) ?_
        have k_0 : (0 : Int32).toInt = 0 := by decide
        rw [hQ9]
        exact re_z voth_35 hx hb hr hlocks (Or.inl rfl) (show ((0 : Int32) = 0) ∨ ((0 : Int32) = 1) from (Or.inl rfl)) (hP.sub [0, 1] rfl) (hD.sub [0, 1] rfl rfl) hS dX11_holds_191
      · skip
        refine as_i 1 aq_36 ?_
        refine lv_if_eq (tgt := 190) hx hb dX11_holds_183 (by decide) (fun c9 => absurd c9 (by decide)) (fun _ => ?_)
        refine lv_iconst (v := 1) hx hb dX11_holds_186 (by decide) ?_
        refine lv_goto (tgt := 191) hx hb dX11_holds_187 (by decide) ?_
        rw [hQ9]
        exact re_z voth_35 hx hb hr hlocks (Or.inr rfl) (show ((1 : Int32) = 0) ∨ ((1 : Int32) = 1) from (Or.inr (rfl))) (hP.sub [0, 1] rfl) (hD.sub [0, 1] rfl rfl) hS dX11_holds_191
    · skip
      refine as_i 1 aq_31 ?_
      refine lv_if_ne (tgt := 186) hx hb dX11_holds_173 (by decide) (fun _ => ?_) (fun c9 => absurd c9 (by decide))
      refine lv_iconst (v := 1) hx hb dX11_holds_186 (by decide) ?_
      refine lv_goto (tgt := 191) hx hb dX11_holds_187 (by decide) ?_
      rw [hQ9]
      exact re_z voth_30 hx hb hr hlocks (Or.inr rfl) (show ((1 : Int32) = 0) ∨ ((1 : Int32) = 1) from (Or.inr (rfl))) (hP.sub [0, 1] rfl) (hD.sub [0, 1] rfl rfl) hS dX11_holds_191
  by_cases sw_11_68 : z_10.toInt = 68
  · refine as_i 68 (i_eq.mpr (sw_11_68.trans k_68.symm)) ?_
    refine lv_lookup (off := 158) (tgt := 192) hx hb dX11_holds_34 (by decide) (by decide) (by decide) ?_
    refine lv_aload_n hx hb dX11_holds_192 rfl (lv_at hl 3 rfl) ?_
    refine lv_iload_n hx hb dX11_holds_193 rfl (lv_at hl 5 rfl) ?_
    refine jr_i (rVr (As := [.int vp]) (rest := []) (ci := 12) ⟨hx, hb, hml, hown, hts⟩ (m_howOf l dC dI cy vnh vo voth vmt votp vosz volm voto vofr vokd vonu vosg vofa vopl vowd votd vmn vmr vmk vms vma vmm vmrn vmkn vmik vmon vosm vohp vmw vmf vmb vomb vmd vmc vocm voct vocy vmx votx vose vml vmwr voln vohw vmno vond voon vowi votop vmnf vp ⟨by omega, by omega⟩ p_vmnf) (cw_X11_256 hts rfl rfl ⟨Nat.le_of_ble_eq_true rfl, Nat.le_of_ble_eq_true rfl⟩) hP hK [0, 1] rfl rfl rfl rfl hl.1 rfl (Nat.le_of_ble_eq_true rfl) dX11_holds_194 ⟨Nat.le_of_ble_eq_true rfl, Nat.le_of_ble_eq_true rfl⟩) hP hS (fun r_37 H locs hp_38 hP hS => ?_)
    have hp_38 : (0 ≤ (r_37 : Int32).toInt ∧ (r_37 : Int32).toInt ≤ 2) := hp_38
    have q_39 := hp_38
    refine lv_iconst (v := 1) hx hb dX11_holds_197 (by decide) ?_
    refine lv_icmp_ne (tgt := 205) hx hb dX11_holds_198 (by decide) (fun c_40 => ?_) (fun c_40 => ?_)
    · skip
      have c_40 : ¬ (r_37.toInt = (1 : Int32).toInt) := fun h9 => c_40 (i_eq.mpr h9)
      refine lv_iconst (v := 0) hx hb dX11_holds_205 (by decide) ?_
      have k_0 : (0 : Int32).toInt = 0 := by decide
      rw [hQ9]
      exact re_z voth hx hb hr hlocks (Or.inl rfl) (show ((0 : Int32) = 0) ∨ ((0 : Int32) = 1) from (Or.inl rfl)) (hP.sub [0, 1] rfl) (hD.sub [0, 1] rfl rfl) hS dX11_holds_206
    · skip
      have c_40 : r_37.toInt = (1 : Int32).toInt := i_eq.mp c_40
      refine lv_iconst (v := 1) hx hb dX11_holds_201 (by decide) ?_
      refine lv_goto (tgt := 206) hx hb dX11_holds_202 (by decide) ?_
      rw [hQ9]
      exact re_z voth hx hb hr hlocks (Or.inr rfl) (show ((1 : Int32) = 0) ∨ ((1 : Int32) = 1) from (Or.inr (rfl))) (hP.sub [0, 1] rfl) (hD.sub [0, 1] rfl rfl) hS dX11_holds_206
  by_cases sw_11_69 : z_10.toInt = 69
  · refine as_i 69 (i_eq.mpr (sw_11_69.trans k_69.symm)) ?_
    refine lv_lookup (off := 173) (tgt := 207) hx hb dX11_holds_34 (by decide) (by decide) (by decide) ?_
    refine lv_aload_n hx hb dX11_holds_207 rfl (lv_at hl 3 rfl) ?_
    refine lv_iload_n hx hb dX11_holds_208 rfl (lv_at hl 5 rfl) ?_
    refine jr_i (rVr (As := [.int vp]) (rest := []) (ci := 12) ⟨hx, hb, hml, hown, hts⟩ (m_howOf l dC dI cy vnh vo voth vmt votp vosz volm voto vofr vokd vonu vosg vofa vopl vowd votd vmn vmr vmk vms vma vmm vmrn vmkn vmik vmon vosm vohp vmw vmf vmb vomb vmd vmc vocm voct vocy vmx votx vose vml vmwr voln vohw vmno vond voon vowi votop vmnf vp ⟨by omega, by omega⟩ p_vmnf) (cw_X11_256 hts rfl rfl ⟨Nat.le_of_ble_eq_true rfl, Nat.le_of_ble_eq_true rfl⟩) hP hK [0, 1] rfl rfl rfl rfl hl.1 rfl (Nat.le_of_ble_eq_true rfl) dX11_holds_209 ⟨Nat.le_of_ble_eq_true rfl, Nat.le_of_ble_eq_true rfl⟩) hP hS (fun r_41 H locs hp_42 hP hS => ?_)
    have hp_42 : (0 ≤ (r_41 : Int32).toInt ∧ (r_41 : Int32).toInt ≤ 2) := hp_42
    have q_43 := hp_42
    have k_0 : (0 : Int32).toInt = 0 := by decide
    refine lv_if_ne (tgt := 219) hx hb dX11_holds_212 (by decide) (fun c_44 => ?_) (fun c_44 => ?_)
    · skip
      have c_44 : ¬ (r_41.toInt = (0 : Int32).toInt) := fun h9 => c_44 (i_eq.mpr h9)
      refine lv_iconst (v := 0) hx hb dX11_holds_219 (by decide) ?_
      rw [hQ9]
      exact re_z voth hx hb hr hlocks (Or.inl rfl) (show ((0 : Int32) = 0) ∨ ((0 : Int32) = 1) from (Or.inl rfl)) (hP.sub [0, 1] rfl) (hD.sub [0, 1] rfl rfl) hS dX11_holds_220
    · skip
      have c_44 : r_41.toInt = (0 : Int32).toInt := i_eq.mp c_44
      refine lv_iconst (v := 1) hx hb dX11_holds_215 (by decide) ?_
      refine lv_goto (tgt := 220) hx hb dX11_holds_216 (by decide) ?_
      rw [hQ9]
      exact re_z voth hx hb hr hlocks (Or.inr rfl) (show ((1 : Int32) = 0) ∨ ((1 : Int32) = 1) from (Or.inr (rfl))) (hP.sub [0, 1] rfl) (hD.sub [0, 1] rfl rfl) hS dX11_holds_220
  by_cases sw_11_70 : z_10.toInt = 70
  · refine as_i 70 (i_eq.mpr (sw_11_70.trans k_70.symm)) ?_
    refine lv_lookup (off := 187) (tgt := 221) hx hb dX11_holds_34 (by decide) (by decide) (by decide) ?_
    refine lv_aload_n hx hb dX11_holds_221 rfl (lv_at hl 3 rfl) ?_
    refine lv_iload_n hx hb dX11_holds_222 rfl (lv_at hl 5 rfl) ?_
    refine jr_i (rVr (As := [.int vp]) (rest := []) (ci := 12) ⟨hx, hb, hml, hown, hts⟩ (m_howOf l dC dI cy vnh vo voth vmt votp vosz volm voto vofr vokd vonu vosg vofa vopl vowd votd vmn vmr vmk vms vma vmm vmrn vmkn vmik vmon vosm vohp vmw vmf vmb vomb vmd vmc vocm voct vocy vmx votx vose vml vmwr voln vohw vmno vond voon vowi votop vmnf vp ⟨by omega, by omega⟩ p_vmnf) (cw_X11_256 hts rfl rfl ⟨Nat.le_of_ble_eq_true rfl, Nat.le_of_ble_eq_true rfl⟩) hP hK [0, 1] rfl rfl rfl rfl hl.1 rfl (Nat.le_of_ble_eq_true rfl) dX11_holds_223 ⟨Nat.le_of_ble_eq_true rfl, Nat.le_of_ble_eq_true rfl⟩) hP hS (fun r_45 H locs hp_46 hP hS => ?_)
    have hp_46 : (0 ≤ (r_45 : Int32).toInt ∧ (r_45 : Int32).toInt ≤ 2) := hp_46
    have q_47 := hp_46
    refine lv_iconst (v := 2) hx hb dX11_holds_226 (by decide) ?_
    refine lv_icmp_ne (tgt := 234) hx hb dX11_holds_227 (by decide) (fun c_48 => ?_) (fun c_48 => ?_)
    · skip
      have c_48 : ¬ (r_45.toInt = (2 : Int32).toInt) := fun h9 => c_48 (i_eq.mpr h9)
      refine lv_iconst (v := 0) hx hb dX11_holds_234 (by decide) ?_
      have k_0 : (0 : Int32).toInt = 0 := by decide
      rw [hQ9]
      exact re_z voth hx hb hr hlocks (Or.inl rfl) (show ((0 : Int32) = 0) ∨ ((0 : Int32) = 1) from (Or.inl rfl)) (hP.sub [0, 1] rfl) (hD.sub [0, 1] rfl rfl) hS dX11_holds_235
    · skip
      have c_48 : r_45.toInt = (2 : Int32).toInt := i_eq.mp c_48
      refine lv_iconst (v := 1) hx hb dX11_holds_230 (by decide) ?_
      refine lv_goto (tgt := 235) hx hb dX11_holds_231 (by decide) ?_
      rw [hQ9]
      exact re_z voth hx hb hr hlocks (Or.inr rfl) (show ((1 : Int32) = 0) ∨ ((1 : Int32) = 1) from (Or.inr (rfl))) (hP.sub [0, 1] rfl) (hD.sub [0, 1] rfl rfl) hS dX11_holds_235
  by_cases sw_11_71 : z_10.toInt = 71
  · refine as_i 71 (i_eq.mpr (sw_11_71.trans k_71.symm)) ?_
    refine lv_lookup (off := 202) (tgt := 236) hx hb dX11_holds_34 (by decide) (by decide) (by decide) ?_
    refine lv_aload_n hx hb dX11_holds_236 rfl (lv_at hl 3 rfl) ?_
    refine gf_X11_98 hx hb hts hown hK hP 0 rfl rfl dX11_holds_237 ?_
    refine lv_sipush (v := 298) hx hb dX11_holds_240 (by decide) ?_
    refine lv_iload_n hx hb dX11_holds_243 rfl (lv_at hl 5 rfl) ?_
    refine lv_iadd hx hb dX11_holds_244 ?_
    refine lv_topi (fun z_49 ez_49 => ?_)
    have k_298 : (298 : Int32).toInt = 298 := by decide
    have bz_49 : z_49.toInt = (298 : Int32).toInt + vp.toInt := i_add ez_49 (by omega) (by omega)
    have hin_50 : vp_in z_49 575 := vp_in_iff.mpr ⟨by omega, by omega⟩
    refine va_iald hx hb hK hP 1 0 rfl rfl hin_50 dX11_holds_245 ?_
    refine lv_topi (fun z_51 ez_51 => ?_)
    have k_0 : (0 : Int32).toInt = 0 := by decide
    refine lv_if_le (tgt := 253) hx hb dX11_holds_246 (by decide) (fun c_52 => ?_) (fun c_52 => ?_)
    · skip
      have c_52 : z_51.toInt ≤ (0 : Int32).toInt := i_le.mp c_52
      refine lv_iconst (v := 0) hx hb dX11_holds_253 (by decide) ?_
      rw [hQ9]
      exact re_z voth hx hb hr hlocks (Or.inl rfl) (show ((0 : Int32) = 0) ∨ ((0 : Int32) = 1) from (Or.inl rfl)) (hP.sub [0, 1] rfl) (hD.sub [0, 1] rfl rfl) hS dX11_holds_254
    · skip
      have c_52 : ¬ (z_51.toInt ≤ (0 : Int32).toInt) := fun h9 => c_52 (i_le.mpr h9)
      refine lv_iconst (v := 1) hx hb dX11_holds_249 (by decide) ?_
      refine lv_goto (tgt := 254) hx hb dX11_holds_250 (by decide) ?_
      rw [hQ9]
      exact re_z voth hx hb hr hlocks (Or.inr rfl) (show ((1 : Int32) = 0) ∨ ((1 : Int32) = 1) from (Or.inr (rfl))) (hP.sub [0, 1] rfl) (hD.sub [0, 1] rfl rfl) hS dX11_holds_254
  by_cases sw_11_72 : z_10.toInt = 72
  · refine as_i 72 (i_eq.mpr (sw_11_72.trans k_72.symm)) ?_
    refine lv_lookup (off := 221) (tgt := 255) hx hb dX11_holds_34 (by decide) (by decide) (by decide) ?_
    refine lv_aload_n hx hb dX11_holds_255 rfl (lv_at hl 3 rfl) ?_
    refine lv_iload_n hx hb dX11_holds_256 rfl (lv_at hl 5 rfl) ?_
    refine jr_i (rVr (As := [.int vp]) (rest := []) (ci := 12) ⟨hx, hb, hml, hown, hts⟩ (m_lends l dC dI cy vnh vo voth vmt votp vosz volm voto vofr vokd vonu vosg vofa vopl vowd votd vmn vmr vmk vms vma vmm vmrn vmkn vmik vmon vosm vohp vmw vmf vmb vomb vmd vmc vocm voct vocy vmx votx vose vml vmwr voln vohw vmno vond voon vowi votop vmnf vp ⟨by omega, by omega⟩ p_vmnf) (cw_X11_265 hts rfl rfl ⟨Nat.le_of_ble_eq_true rfl, Nat.le_of_ble_eq_true rfl⟩) hP hK [0, 1] rfl rfl rfl rfl hl.1 rfl (Nat.le_of_ble_eq_true rfl) dX11_holds_257 ⟨Nat.le_of_ble_eq_true rfl, Nat.le_of_ble_eq_true rfl⟩) hP hS (fun r_53 H locs hp_54 hP hS => ?_)
    have hp_54 : ((r_53 = 0) ∨ (r_53 = 1)) := hp_54
    have q_55 := hp_54
    rcases q_55 with aq_55 | aq_55
    · skip
      refine as_i 0 aq_55 ?_
      have k_0 : (0 : Int32).toInt = 0 := by decide
      rw [hQ9]
      exact re_z voth hx hb hr hlocks (Or.inl rfl) (show ((0 : Int32) = 0) ∨ ((0 : Int32) = 1) from (Or.inl rfl)) (hP.sub [0, 1] rfl) (hD.sub [0, 1] rfl rfl) hS dX11_holds_260
    · skip
      refine as_i 1 aq_55 ?_
      rw [hQ9]
      exact re_z voth hx hb hr hlocks (Or.inr rfl) (show ((1 : Int32) = 0) ∨ ((1 : Int32) = 1) from (Or.inr (rfl))) (hP.sub [0, 1] rfl) (hD.sub [0, 1] rfl rfl) hS dX11_holds_260
  by_cases sw_11_73 : z_10.toInt = 73
  · refine as_i 73 (i_eq.mpr (sw_11_73.trans k_73.symm)) ?_
    refine lv_lookup (off := 227) (tgt := 261) hx hb dX11_holds_34 (by decide) (by decide) (by decide) ?_
    have hB := hA4 (by omega)
    refine lv_aload_n hx hb dX11_holds_261 rfl (lv_at hl 3 rfl) ?_
    refine lv_iload_n hx hb dX11_holds_262 rfl (lv_at hl 5 rfl) ?_
    refine lv_iload hx hb dX11_holds_263 (lv_at hl 1 rfl) ?_
    refine jr_i (rVr (As := [.int vp, .int z_5]) (rest := []) (ci := 12) ⟨hx, hb, hml, hown, hts⟩ (m_didOf l dC dI cy vnh vo voth vmt votp vosz volm voto vofr vokd vonu vosg vofa vopl vowd votd vmn vmr vmk vms vma vmm vmrn vmkn vmik vmon vosm vohp vmw vmf vmb vomb vmd vmc vocm voct vocy vmx votx vose vml vmwr voln vohw vmno vond voon vowi votop vmnf vp z_5 ⟨by omega, by omega⟩ ⟨by omega, by omega⟩ p_vmnf) (cw_X11_228 hts rfl rfl ⟨Nat.le_of_ble_eq_true rfl, Nat.le_of_ble_eq_true rfl⟩) hP hK [0, 1] rfl rfl rfl rfl hl.1 rfl (Nat.le_of_ble_eq_true rfl) dX11_holds_265 ⟨Nat.le_of_ble_eq_true rfl, Nat.le_of_ble_eq_true rfl⟩) hP hS (fun r_56 H locs hp_57 hP hS => ?_)
    have k_0 : (0 : Int32).toInt = 0 := by decide
    refine lv_if_le (tgt := 275) hx hb dX11_holds_268 (by decide) (fun c_58 => ?_) (fun c_58 => ?_)
    · skip
      have c_58 : r_56.toInt ≤ (0 : Int32).toInt := i_le.mp c_58
      refine lv_iconst (v := 0) hx hb dX11_holds_275 (by decide) ?_
      rw [hQ9]
      exact re_z voth hx hb hr hlocks (Or.inl rfl) (show ((0 : Int32) = 0) ∨ ((0 : Int32) = 1) from (Or.inl rfl)) (hP.sub [0, 1] rfl) (hD.sub [0, 1] rfl rfl) hS dX11_holds_276
    · skip
      have c_58 : ¬ (r_56.toInt ≤ (0 : Int32).toInt) := fun h9 => c_58 (i_le.mpr h9)
      refine lv_iconst (v := 1) hx hb dX11_holds_271 (by decide) ?_
      refine lv_goto (tgt := 276) hx hb dX11_holds_272 (by decide) ?_
      rw [hQ9]
      exact re_z voth hx hb hr hlocks (Or.inr rfl) (show ((1 : Int32) = 0) ∨ ((1 : Int32) = 1) from (Or.inr (rfl))) (hP.sub [0, 1] rfl) (hD.sub [0, 1] rfl rfl) hS dX11_holds_276
  by_cases sw_11_74 : z_10.toInt = 74
  · refine as_i 74 (i_eq.mpr (sw_11_74.trans k_74.symm)) ?_
    refine lv_lookup (off := 243) (tgt := 277) hx hb dX11_holds_34 (by decide) (by decide) (by decide) ?_
    refine lv_aload_n hx hb dX11_holds_277 rfl (lv_at hl 3 rfl) ?_
    refine lv_iload hx hb dX11_holds_278 (lv_at hl 1 rfl) ?_
    refine jn_i (wr := []) (rV (As := [.int z_5]) (rest := []) (ci := 12) ⟨hx, hb, hml, hown, hts⟩ (m_family l dC dI cy _ vnh vo voth vmt votp vosz volm voto vofr vokd vonu vosg vofa vopl vowd votd vmn vmr vmk vms vma vmm vmrn vmkn vmik vmon vosm vohp vmw vmf vmb vomb vmd vmc vocm voct vocy vmx votx vose vml vmwr voln vohw vmno vond voon vowi votop vmnf z_5 p_vmnf) (cw_X11_441 hts rfl rfl ⟨Nat.le_of_ble_eq_true rfl, Nat.le_of_ble_eq_true rfl⟩) hP hD hK [0, 1] rfl rfl rfl rfl bl0 e0 rfl hl.1 rfl (Nat.le_of_ble_eq_true rfl) dX11_holds_280 ⟨Nat.le_of_ble_eq_true rfl, Nat.le_of_ble_eq_true rfl⟩) hP hD hS hA [0, 1] [] rfl rfl rfl (by decide) (fun r_59 u_61 H locs hp_60 hP hD hS => ?_)
    obtain ⟨voth_62, rfl⟩ : ∃ z, z = u_61 := ⟨_, rfl⟩
    have hP : va_P (dC, dI) vwCl [(vo, .inr (12, [.int voth_62, .ref vmt, .int votp, .int vosz, .int volm, .int voto, .int vofr, .int vokd, .int vonu, .int vosg, .int vofa, .int vopl, .long vowd, .int votd, .ref vmn, .ref vmr, .ref vmk, .ref vms, .ref vma, .ref vmm, .ref vmrn, .ref vmkn, .ref vmik, .ref vmon, .int vosm, .int vohp, .ref vmw, .ref vmf, .ref vmb, .int vomb, .ref vmd, .ref vmc, .int vocm, .int voct, .int vocy, .ref vmx, .int votx, .int vose, .ref vml, .ref vmwr, .int voln, .int vohw, .ref vmno, .int vond, .int voon, .int vowi, .int votop])), (vmn, .inl (cy 0, 575, .inl vmnf))] H := hP
    have hD : va_D A [(vo, .inr (12, [.int voth_62, .ref vmt, .int votp, .int vosz, .int volm, .int voto, .int vofr, .int vokd, .int vonu, .int vosg, .int vofa, .int vopl, .long vowd, .int votd, .ref vmn, .ref vmr, .ref vmk, .ref vms, .ref vma, .ref vmm, .ref vmrn, .ref vmkn, .ref vmik, .ref vmon, .int vosm, .int vohp, .ref vmw, .ref vmf, .ref vmb, .int vomb, .ref vmd, .ref vmc, .int vocm, .int voct, .int vocy, .ref vmx, .int votx, .int vose, .ref vml, .ref vmwr, .int voln, .int vohw, .ref vmno, .int vond, .int voon, .int vowi, .int votop])), (vmn, .inl (cy 0, 575, .inl vmnf))] := hD
    refine lv_iload_n hx hb dX11_holds_283 rfl (lv_at hl 5 rfl) ?_
    refine jr_i (rSr (As := [.int r_59, .int vp]) (rest := []) ⟨hx, hb, hml, hown, hts⟩ (m_has l dC dI cy r_59 vp ) (cw_X11_194 hts rfl rfl ⟨Nat.le_of_ble_eq_true rfl, Nat.le_of_ble_eq_true rfl⟩) hP hK [] rfl rfl hl.1 rfl (Nat.le_of_ble_eq_true rfl) dX11_holds_284 ⟨Nat.le_of_ble_eq_true rfl, Nat.le_of_ble_eq_true rfl⟩) hP hS (fun r_63 H locs hp_64 hP hS => ?_)
    have hp_64 : ((r_63 = 0) ∨ (r_63 = 1)) := hp_64
    have q_65 := hp_64
    rcases q_65 with aq_65 | aq_65
    · skip
      refine as_i 0 aq_65 ?_
      have k_0 : (0 : Int32).toInt = 0 := by decide
      rw [hQ9]
      exact re_z voth_62 hx hb hr hlocks (Or.inl rfl) (show ((0 : Int32) = 0) ∨ ((0 : Int32) = 1) from (Or.inl rfl)) (hP.sub [0, 1] rfl) (hD.sub [0, 1] rfl rfl) hS dX11_holds_287
    · skip
      refine as_i 1 aq_65 ?_
      rw [hQ9]
      exact re_z voth_62 hx hb hr hlocks (Or.inr rfl) (show ((1 : Int32) = 0) ∨ ((1 : Int32) = 1) from (Or.inr (rfl))) (hP.sub [0, 1] rfl) (hD.sub [0, 1] rfl rfl) hS dX11_holds_287
  have nsw_11_1 : ¬ ((1 : Int) = z_10.toInt) := by omega
  have nsw_11_2 : ¬ ((2 : Int) = z_10.toInt) := by omega
  have nsw_11_3 : ¬ ((3 : Int) = z_10.toInt) := by omega
  have nsw_11_68 : ¬ ((68 : Int) = z_10.toInt) := by omega
  have nsw_11_69 : ¬ ((69 : Int) = z_10.toInt) := by omega
  have nsw_11_70 : ¬ ((70 : Int) = z_10.toInt) := by omega
  have nsw_11_71 : ¬ ((71 : Int) = z_10.toInt) := by omega
  have nsw_11_72 : ¬ ((72 : Int) = z_10.toInt) := by omega
  have nsw_11_73 : ¬ ((73 : Int) = z_10.toInt) := by omega
  have nsw_11_74 : ¬ ((74 : Int) = z_10.toInt) := by omega
  refine lv_lookup (off := 254) (tgt := 288) hx hb dX11_holds_34 (by decide) (by simp only [Op.lookupswitch.offset, if_neg nsw_11_1, if_neg nsw_11_2, if_neg nsw_11_3, if_neg nsw_11_68, if_neg nsw_11_69, if_neg nsw_11_70, if_neg nsw_11_71, if_neg nsw_11_72, if_neg nsw_11_73, if_neg nsw_11_74]) (by decide) ?_
  refine lv_aload_n hx hb dX11_holds_288 rfl (lv_at hl 3 rfl) ?_
  refine gf_X11_98 hx hb hts hown hK hP 0 rfl rfl dX11_holds_289 ?_
  refine lv_iload_n hx hb dX11_holds_292 rfl (lv_at hl 2 rfl) ?_
  have hin_66 : vp_in z_2 575 := vp_in_iff.mpr ⟨by omega, by omega⟩
  refine va_iald hx hb hK hP 1 0 rfl rfl hin_66 dX11_holds_293 ?_
  refine lv_topi (fun z_67 ez_67 => ?_)
  refine lv_bipush (v := 50) hx hb dX11_holds_294 (by decide) ?_
  refine lv_isub hx hb dX11_holds_296 ?_
  refine lv_topi (fun z_68 ez_68 => ?_)
  refine lv_istore (lv' := [(6, .int z_68), (5, .int z_8), (4, .int z_5), (3, .int z_2), (0, .ref vo), (1, .int vk), (2, .int vp)]) hx hb dX11_holds_297 hl (by decide) rfl (fun ls hl => ?_)
  refine lv_iload hx hb dX11_holds_299 (lv_at hl 0 rfl) ?_
  refine lv_bipush (v := 25) hx hb dX11_holds_301 (by decide) ?_
  have k_25 : (25 : Int32).toInt = 25 := by decide
  refine lv_icmp_ne (tgt := 314) hx hb dX11_holds_303 (by decide) (fun c_69 => ?_) (fun c_69 => ?_)
  · skip
    have c_69 : ¬ (z_68.toInt = (25 : Int32).toInt) := fun h9 => c_69 (i_eq.mpr h9)
    refine lv_iload hx hb dX11_holds_314 (lv_at hl 0 rfl) ?_
    refine lv_bipush (v := 26) hx hb dX11_holds_316 (by decide) ?_
    have k_26 : (26 : Int32).toInt = 26 := by decide
    refine lv_icmp_ne (tgt := 329) hx hb dX11_holds_318 (by decide) (fun c_70 => ?_) (fun c_70 => ?_)
    · skip
      have c_70 : ¬ (z_68.toInt = (26 : Int32).toInt) := fun h9 => c_70 (i_eq.mpr h9)
      refine lv_iload hx hb dX11_holds_329 (lv_at hl 0 rfl) ?_
      refine lv_bipush (v := 27) hx hb dX11_holds_331 (by decide) ?_
      have k_27 : (27 : Int32).toInt = 27 := by decide
      refine lv_icmp_ne (tgt := 349) hx hb dX11_holds_333 (by decide) (fun c_71 => ?_) (fun c_71 => ?_)
      · skip
        have c_71 : ¬ (z_68.toInt = (27 : Int32).toInt) := fun h9 => c_71 (i_eq.mpr h9)
        refine lv_iload_n hx hb dX11_holds_349 rfl (lv_at hl 6 rfl) ?_
        refine lv_istore (lv' := [(7, .int vp), (6, .int z_68), (5, .int z_8), (4, .int z_5), (3, .int z_2), (0, .ref vo), (1, .int vk), (2, .int vp)]) hx hb dX11_holds_350 hl (by decide) rfl (fun ls hl => ?_)
        refine lv_aload_n hx hb dX11_holds_352 rfl (lv_at hl 5 rfl) ?_
        refine gf_X11_98 hx hb hts hown hK hP 0 rfl rfl dX11_holds_353 ?_
        refine lv_iload_n hx hb dX11_holds_356 rfl (lv_at hl 4 rfl) ?_
        refine lv_iconst (v := 3) hx hb dX11_holds_357 (by decide) ?_
        refine lv_iadd hx hb dX11_holds_358 ?_
        refine lv_topi (fun z_72 ez_72 => ?_)
        have bz_72 : z_72.toInt = z_2.toInt + (3 : Int32).toInt := i_add ez_72 (by omega) (by omega)
        have hin_73 : vp_in z_72 575 := vp_in_iff.mpr ⟨by omega, by omega⟩
        refine va_iald hx hb hK hP 1 0 rfl rfl hin_73 dX11_holds_359 ?_
        refine lv_topi (fun z_74 ez_74 => ?_)
        refine lv_bipush (v := 60) hx hb dX11_holds_360 (by decide) ?_
        have k_60 : (60 : Int32).toInt = 60 := by decide
        refine lv_icmp_ne (tgt := 380) hx hb dX11_holds_362 (by decide) (fun c_75 => ?_) (fun c_75 => ?_)
        · skip
          have c_75 : ¬ (z_74.toInt = (60 : Int32).toInt) := fun h9 => c_75 (i_eq.mpr h9)
          refine lv_aload_n hx hb dX11_holds_380 rfl (lv_at hl 5 rfl) ?_
          refine gf_X11_98 hx hb hts hown hK hP 0 rfl rfl dX11_holds_381 ?_
          refine lv_iload_n hx hb dX11_holds_384 rfl (lv_at hl 4 rfl) ?_
          refine lv_iconst (v := 3) hx hb dX11_holds_385 (by decide) ?_
          refine lv_iadd hx hb dX11_holds_386 ?_
          refine lv_topi (fun z_76 ez_76 => ?_)
          have bz_76 : z_76.toInt = z_2.toInt + (3 : Int32).toInt := i_add ez_76 (by omega) (by omega)
          have hin_77 : vp_in z_76 575 := vp_in_iff.mpr ⟨by omega, by omega⟩
          refine va_iald hx hb hK hP 1 0 rfl rfl hin_77 dX11_holds_387 ?_
          refine lv_topi (fun z_78 ez_78 => ?_)
          refine lv_bipush (v := 61) hx hb dX11_holds_388 (by decide) ?_
          have k_61 : (61 : Int32).toInt = 61 := by decide
          refine lv_icmp_ne (tgt := 408) hx hb dX11_holds_390 (by decide) (fun c_79 => ?_) (fun c_79 => ?_)
          · skip
            have c_79 : ¬ (z_78.toInt = (61 : Int32).toInt) := fun h9 => c_79 (i_eq.mpr h9)
            refine lv_iload hx hb dX11_holds_408 (lv_at hl 0 rfl) ?_
            refine lv_iload hx hb dX11_holds_410 (lv_at hl 2 rfl) ?_
            refine lv_icmp_le (tgt := 419) hx hb dX11_holds_412 (by decide) (fun c_80 => ?_) (fun c_80 => ?_)
            · skip
              have c_80 : vp.toInt ≤ z_8.toInt := i_le.mp c_80
              refine lv_iconst (v := 0) hx hb dX11_holds_419 (by decide) ?_
              have k_0 : (0 : Int32).toInt = 0 := by decide
              rw [hQ9]
              exact re_z voth hx hb hr hlocks (Or.inl rfl) (show ((0 : Int32) = 0) ∨ ((0 : Int32) = 1) from (Or.inl rfl)) (hP.sub [0, 1] rfl) (hD.sub [0, 1] rfl rfl) hS dX11_holds_420
            · skip
              have c_80 : ¬ (vp.toInt ≤ z_8.toInt) := fun h9 => c_80 (i_le.mpr h9)
              refine lv_iconst (v := 1) hx hb dX11_holds_415 (by decide) ?_
              refine lv_goto (tgt := 420) hx hb dX11_holds_416 (by decide) ?_
              rw [hQ9]
              exact re_z voth hx hb hr hlocks (Or.inr rfl) (show ((1 : Int32) = 0) ∨ ((1 : Int32) = 1) from (Or.inr (rfl))) (hP.sub [0, 1] rfl) (hD.sub [0, 1] rfl rfl) hS dX11_holds_420
          · skip
            have c_79 : z_78.toInt = (61 : Int32).toInt := i_eq.mp c_79
            refine lv_iload hx hb dX11_holds_393 (lv_at hl 0 rfl) ?_
            refine lv_iload hx hb dX11_holds_395 (lv_at hl 2 rfl) ?_
            refine lv_icmp_ne (tgt := 404) hx hb dX11_holds_397 (by decide) (fun c_81 => ?_) (fun c_81 => ?_)
            · skip
              have c_81 : ¬ (vp.toInt = z_8.toInt) := fun h9 => c_81 (i_eq.mpr h9)
              refine lv_iconst (v := 0) hx hb dX11_holds_404 (by decide) ?_
              refine lv_goto (tgt := 420) hx hb dX11_holds_405 (by decide) ?_
              have k_0 : (0 : Int32).toInt = 0 := by decide
              rw [hQ9]
              exact re_z voth hx hb hr hlocks (Or.inl rfl) (show ((0 : Int32) = 0) ∨ ((0 : Int32) = 1) from (Or.inl rfl)) (hP.sub [0, 1] rfl) (hD.sub [0, 1] rfl rfl) hS dX11_holds_420
            · skip
              have c_81 : vp.toInt = z_8.toInt := i_eq.mp c_81
              refine lv_iconst (v := 1) hx hb dX11_holds_400 (by decide) ?_
              refine lv_goto (tgt := 420) hx hb dX11_holds_401 (by decide) ?_
              rw [hQ9]
              exact re_z voth hx hb hr hlocks (Or.inr rfl) (show ((1 : Int32) = 0) ∨ ((1 : Int32) = 1) from (Or.inr (rfl))) (hP.sub [0, 1] rfl) (hD.sub [0, 1] rfl rfl) hS dX11_holds_420
        · skip
          have c_75 : z_74.toInt = (60 : Int32).toInt := i_eq.mp c_75
          refine lv_iload hx hb dX11_holds_365 (lv_at hl 0 rfl) ?_
          refine lv_iload hx hb dX11_holds_367 (lv_at hl 2 rfl) ?_
          refine lv_icmp_ge (tgt := 376) hx hb dX11_holds_369 (by decide) (fun c_82 => ?_) (fun c_82 => ?_)
          · skip
            have c_82 : z_8.toInt ≤ vp.toInt := i_le.mp c_82
            refine lv_iconst (v := 0) hx hb dX11_holds_376 (by decide) ?_
            refine lv_goto (tgt := 420) hx hb dX11_holds_377 (by decide) ?_
            have k_0 : (0 : Int32).toInt = 0 := by decide
            rw [hQ9]
            exact re_z voth hx hb hr hlocks (Or.inl rfl) (show ((0 : Int32) = 0) ∨ ((0 : Int32) = 1) from (Or.inl rfl)) (hP.sub [0, 1] rfl) (hD.sub [0, 1] rfl rfl) hS dX11_holds_420
          · skip
            have c_82 : ¬ (z_8.toInt ≤ vp.toInt) := fun h9 => c_82 (i_le.mpr h9)
            refine lv_iconst (v := 1) hx hb dX11_holds_372 (by decide) ?_
            refine lv_goto (tgt := 420) hx hb dX11_holds_373 (by decide) ?_
            rw [hQ9]
            exact re_z voth hx hb hr hlocks (Or.inr rfl) (show ((1 : Int32) = 0) ∨ ((1 : Int32) = 1) from (Or.inr (rfl))) (hP.sub [0, 1] rfl) (hD.sub [0, 1] rfl rfl) hS dX11_holds_420
      · skip
        have c_71 : z_68.toInt = (27 : Int32).toInt := i_eq.mp c_71
        refine lv_aload_n hx hb dX11_holds_336 rfl (lv_at hl 4 rfl) ?_
        refine gf_X11_98 hx hb hts hown hK hP 0 rfl rfl dX11_holds_337 ?_
        refine lv_sipush (v := 158) hx hb dX11_holds_340 (by decide) ?_
        refine lv_iload_n hx hb dX11_holds_343 rfl (lv_at hl 6 rfl) ?_
        refine lv_iadd hx hb dX11_holds_344 ?_
        refine lv_topi (fun z_83 ez_83 => ?_)
        have k_158 : (158 : Int32).toInt = 158 := by decide
        have bz_83 : z_83.toInt = (158 : Int32).toInt + vp.toInt := i_add ez_83 (by omega) (by omega)
        have hin_84 : vp_in z_83 575 := vp_in_iff.mpr ⟨by omega, by omega⟩
        refine va_iald hx hb hK hP 1 0 rfl rfl hin_84 dX11_holds_345 ?_
        refine lv_topi (fun z_85 ez_85 => ?_)
        refine lv_goto (tgt := 350) hx hb dX11_holds_346 (by decide) ?_
        refine lv_istore (lv' := [(7, .int z_85), (6, .int z_68), (5, .int z_8), (4, .int z_5), (3, .int z_2), (0, .ref vo), (1, .int vk), (2, .int vp)]) hx hb dX11_holds_350 hl (by decide) rfl (fun ls hl => ?_)
        refine lv_aload_n hx hb dX11_holds_352 rfl (lv_at hl 5 rfl) ?_
        refine gf_X11_98 hx hb hts hown hK hP 0 rfl rfl dX11_holds_353 ?_
        refine lv_iload_n hx hb dX11_holds_356 rfl (lv_at hl 4 rfl) ?_
        refine lv_iconst (v := 3) hx hb dX11_holds_357 (by decide) ?_
        refine lv_iadd hx hb dX11_holds_358 ?_
        refine lv_topi (fun z_86 ez_86 => ?_)
        have bz_86 : z_86.toInt = z_2.toInt + (3 : Int32).toInt := i_add ez_86 (by omega) (by omega)
        have hin_87 : vp_in z_86 575 := vp_in_iff.mpr ⟨by omega, by omega⟩
        refine va_iald hx hb hK hP 1 0 rfl rfl hin_87 dX11_holds_359 ?_
        refine lv_topi (fun z_88 ez_88 => ?_)
        refine lv_bipush (v := 60) hx hb dX11_holds_360 (by decide) ?_
        have k_60 : (60 : Int32).toInt = 60 := by decide
        refine lv_icmp_ne (tgt := 380) hx hb dX11_holds_362 (by decide) (fun c_89 => ?_) (fun c_89 => ?_)
        · skip
          have c_89 : ¬ (z_88.toInt = (60 : Int32).toInt) := fun h9 => c_89 (i_eq.mpr h9)
          refine lv_aload_n hx hb dX11_holds_380 rfl (lv_at hl 5 rfl) ?_
          refine gf_X11_98 hx hb hts hown hK hP 0 rfl rfl dX11_holds_381 ?_
          refine lv_iload_n hx hb dX11_holds_384 rfl (lv_at hl 4 rfl) ?_
          refine lv_iconst (v := 3) hx hb dX11_holds_385 (by decide) ?_
          refine lv_iadd hx hb dX11_holds_386 ?_
          refine lv_topi (fun z_90 ez_90 => ?_)
          have bz_90 : z_90.toInt = z_2.toInt + (3 : Int32).toInt := i_add ez_90 (by omega) (by omega)
          have hin_91 : vp_in z_90 575 := vp_in_iff.mpr ⟨by omega, by omega⟩
          refine va_iald hx hb hK hP 1 0 rfl rfl hin_91 dX11_holds_387 ?_
          refine lv_topi (fun z_92 ez_92 => ?_)
          refine lv_bipush (v := 61) hx hb dX11_holds_388 (by decide) ?_
          have k_61 : (61 : Int32).toInt = 61 := by decide
          refine lv_icmp_ne (tgt := 408) hx hb dX11_holds_390 (by decide) (fun c_93 => ?_) (fun c_93 => ?_)
          · skip
            have c_93 : ¬ (z_92.toInt = (61 : Int32).toInt) := fun h9 => c_93 (i_eq.mpr h9)
            refine lv_iload hx hb dX11_holds_408 (lv_at hl 0 rfl) ?_
            refine lv_iload hx hb dX11_holds_410 (lv_at hl 2 rfl) ?_
            refine lv_icmp_le (tgt := 419) hx hb dX11_holds_412 (by decide) (fun c_94 => ?_) (fun c_94 => ?_)
            · skip
              have c_94 : z_85.toInt ≤ z_8.toInt := i_le.mp c_94
              refine lv_iconst (v := 0) hx hb dX11_holds_419 (by decide) ?_
              have k_0 : (0 : Int32).toInt = 0 := by decide
              rw [hQ9]
              exact re_z voth hx hb hr hlocks (Or.inl rfl) (show ((0 : Int32) = 0) ∨ ((0 : Int32) = 1) from (Or.inl rfl)) (hP.sub [0, 1] rfl) (hD.sub [0, 1] rfl rfl) hS dX11_holds_420
            · skip
              have c_94 : ¬ (z_85.toInt ≤ z_8.toInt) := fun h9 => c_94 (i_le.mpr h9)
              refine lv_iconst (v := 1) hx hb dX11_holds_415 (by decide) ?_
              refine lv_goto (tgt := 420) hx hb dX11_holds_416 (by decide) ?_
              rw [hQ9]
              exact re_z voth hx hb hr hlocks (Or.inr rfl) (show ((1 : Int32) = 0) ∨ ((1 : Int32) = 1) from (Or.inr (rfl))) (hP.sub [0, 1] rfl) (hD.sub [0, 1] rfl rfl) hS dX11_holds_420
          · skip
            have c_93 : z_92.toInt = (61 : Int32).toInt := i_eq.mp c_93
            refine lv_iload hx hb dX11_holds_393 (lv_at hl 0 rfl) ?_
            refine lv_iload hx hb dX11_holds_395 (lv_at hl 2 rfl) ?_
            refine lv_icmp_ne (tgt := 404) hx hb dX11_holds_397 (by decide) (fun c_95 => ?_) (fun c_95 => ?_)
            · skip
              have c_95 : ¬ (z_85.toInt = z_8.toInt) := fun h9 => c_95 (i_eq.mpr h9)
              refine lv_iconst (v := 0) hx hb dX11_holds_404 (by decide) ?_
              refine lv_goto (tgt := 420) hx hb dX11_holds_405 (by decide) ?_
              have k_0 : (0 : Int32).toInt = 0 := by decide
              rw [hQ9]
              exact re_z voth hx hb hr hlocks (Or.inl rfl) (show ((0 : Int32) = 0) ∨ ((0 : Int32) = 1) from (Or.inl rfl)) (hP.sub [0, 1] rfl) (hD.sub [0, 1] rfl rfl) hS dX11_holds_420
            · skip
              have c_95 : z_85.toInt = z_8.toInt := i_eq.mp c_95
              refine lv_iconst (v := 1) hx hb dX11_holds_400 (by decide) ?_
              refine lv_goto (tgt := 420) hx hb dX11_holds_401 (by decide) ?_
              rw [hQ9]
              exact re_z voth hx hb hr hlocks (Or.inr rfl) (show ((1 : Int32) = 0) ∨ ((1 : Int32) = 1) from (Or.inr (rfl))) (hP.sub [0, 1] rfl) (hD.sub [0, 1] rfl rfl) hS dX11_holds_420
        · skip
          have c_89 : z_88.toInt = (60 : Int32).toInt := i_eq.mp c_89
          refine lv_iload hx hb dX11_holds_365 (lv_at hl 0 rfl) ?_
          refine lv_iload hx hb dX11_holds_367 (lv_at hl 2 rfl) ?_
          refine lv_icmp_ge (tgt := 376) hx hb dX11_holds_369 (by decide) (fun c_96 => ?_) (fun c_96 => ?_)
          · skip
            have c_96 : z_8.toInt ≤ z_85.toInt := i_le.mp c_96
            refine lv_iconst (v := 0) hx hb dX11_holds_376 (by decide) ?_
            refine lv_goto (tgt := 420) hx hb dX11_holds_377 (by decide) ?_
            have k_0 : (0 : Int32).toInt = 0 := by decide
            rw [hQ9]
            exact re_z voth hx hb hr hlocks (Or.inl rfl) (show ((0 : Int32) = 0) ∨ ((0 : Int32) = 1) from (Or.inl rfl)) (hP.sub [0, 1] rfl) (hD.sub [0, 1] rfl rfl) hS dX11_holds_420
          · skip
            have c_96 : ¬ (z_8.toInt ≤ z_85.toInt) := fun h9 => c_96 (i_le.mpr h9)
            refine lv_iconst (v := 1) hx hb dX11_holds_372 (by decide) ?_
            refine lv_goto (tgt := 420) hx hb dX11_holds_373 (by decide) ?_
            rw [hQ9]
            exact re_z voth hx hb hr hlocks (Or.inr rfl) (show ((1 : Int32) = 0) ∨ ((1 : Int32) = 1) from (Or.inr (rfl))) (hP.sub [0, 1] rfl) (hD.sub [0, 1] rfl rfl) hS dX11_holds_420
    · skip
      have c_70 : z_68.toInt = (26 : Int32).toInt := i_eq.mp c_70
      refine lv_aload_n hx hb dX11_holds_321 rfl (lv_at hl 4 rfl) ?_
      refine lv_iload_n hx hb dX11_holds_322 rfl (lv_at hl 6 rfl) ?_
      refine jr_i (rVr (As := [.int vp]) (rest := []) (ci := 12) ⟨hx, hb, hml, hown, hts⟩ (m_darkOf l dC dI cy vnh vo voth vmt votp vosz volm voto vofr vokd vonu vosg vofa vopl vowd votd vmn vmr vmk vms vma vmm vmrn vmkn vmik vmon vosm vohp vmw vmf vmb vomb vmd vmc vocm voct vocy vmx votx vose vml vmwr voln vohw vmno vond voon vowi votop vmnf vp ⟨by omega, by omega⟩ p_vmnf) (cw_X11_244 hts rfl rfl ⟨Nat.le_of_ble_eq_true rfl, Nat.le_of_ble_eq_true rfl⟩) hP hK [0, 1] rfl rfl rfl rfl hl.1 rfl (Nat.le_of_ble_eq_true rfl) dX11_holds_323 ⟨Nat.le_of_ble_eq_true rfl, Nat.le_of_ble_eq_true rfl⟩) hP hS (fun r_97 H locs hp_98 hP hS => ?_)
      refine lv_goto (tgt := 350) hx hb dX11_holds_326 (by decide) ?_
      refine lv_istore (lv' := [(7, .int r_97), (6, .int z_68), (5, .int z_8), (4, .int z_5), (3, .int z_2), (0, .ref vo), (1, .int vk), (2, .int vp)]) hx hb dX11_holds_350 hl (by decide) rfl (fun ls hl => ?_)
      refine lv_aload_n hx hb dX11_holds_352 rfl (lv_at hl 5 rfl) ?_
      refine gf_X11_98 hx hb hts hown hK hP 0 rfl rfl dX11_holds_353 ?_
      refine lv_iload_n hx hb dX11_holds_356 rfl (lv_at hl 4 rfl) ?_
      refine lv_iconst (v := 3) hx hb dX11_holds_357 (by decide) ?_
      refine lv_iadd hx hb dX11_holds_358 ?_
      refine lv_topi (fun z_99 ez_99 => ?_)
      have bz_99 : z_99.toInt = z_2.toInt + (3 : Int32).toInt := i_add ez_99 (by omega) (by omega)
      have hin_100 : vp_in z_99 575 := vp_in_iff.mpr ⟨by omega, by omega⟩
      refine va_iald hx hb hK hP 1 0 rfl rfl hin_100 dX11_holds_359 ?_
      refine lv_topi (fun z_101 ez_101 => ?_)
      refine lv_bipush (v := 60) hx hb dX11_holds_360 (by decide) ?_
      have k_60 : (60 : Int32).toInt = 60 := by decide
      refine lv_icmp_ne (tgt := 380) hx hb dX11_holds_362 (by decide) (fun c_102 => ?_) (fun c_102 => ?_)
      · skip
        have c_102 : ¬ (z_101.toInt = (60 : Int32).toInt) := fun h9 => c_102 (i_eq.mpr h9)
        refine lv_aload_n hx hb dX11_holds_380 rfl (lv_at hl 5 rfl) ?_
        refine gf_X11_98 hx hb hts hown hK hP 0 rfl rfl dX11_holds_381 ?_
        refine lv_iload_n hx hb dX11_holds_384 rfl (lv_at hl 4 rfl) ?_
        refine lv_iconst (v := 3) hx hb dX11_holds_385 (by decide) ?_
        refine lv_iadd hx hb dX11_holds_386 ?_
        refine lv_topi (fun z_103 ez_103 => ?_)
        have bz_103 : z_103.toInt = z_2.toInt + (3 : Int32).toInt := i_add ez_103 (by omega) (by omega)
        have hin_104 : vp_in z_103 575 := vp_in_iff.mpr ⟨by omega, by omega⟩
        refine va_iald hx hb hK hP 1 0 rfl rfl hin_104 dX11_holds_387 ?_
        refine lv_topi (fun z_105 ez_105 => ?_)
        refine lv_bipush (v := 61) hx hb dX11_holds_388 (by decide) ?_
        have k_61 : (61 : Int32).toInt = 61 := by decide
        refine lv_icmp_ne (tgt := 408) hx hb dX11_holds_390 (by decide) (fun c_106 => ?_) (fun c_106 => ?_)
        · skip
          have c_106 : ¬ (z_105.toInt = (61 : Int32).toInt) := fun h9 => c_106 (i_eq.mpr h9)
          refine lv_iload hx hb dX11_holds_408 (lv_at hl 0 rfl) ?_
          refine lv_iload hx hb dX11_holds_410 (lv_at hl 2 rfl) ?_
          refine lv_icmp_le (tgt := 419) hx hb dX11_holds_412 (by decide) (fun c_107 => ?_) (fun c_107 => ?_)
          · skip
            have c_107 : r_97.toInt ≤ z_8.toInt := i_le.mp c_107
            refine lv_iconst (v := 0) hx hb dX11_holds_419 (by decide) ?_
            have k_0 : (0 : Int32).toInt = 0 := by decide
            rw [hQ9]
            exact re_z voth hx hb hr hlocks (Or.inl rfl) (show ((0 : Int32) = 0) ∨ ((0 : Int32) = 1) from (Or.inl rfl)) (hP.sub [0, 1] rfl) (hD.sub [0, 1] rfl rfl) hS dX11_holds_420
          · skip
            have c_107 : ¬ (r_97.toInt ≤ z_8.toInt) := fun h9 => c_107 (i_le.mpr h9)
            refine lv_iconst (v := 1) hx hb dX11_holds_415 (by decide) ?_
            refine lv_goto (tgt := 420) hx hb dX11_holds_416 (by decide) ?_
            rw [hQ9]
            exact re_z voth hx hb hr hlocks (Or.inr rfl) (show ((1 : Int32) = 0) ∨ ((1 : Int32) = 1) from (Or.inr (rfl))) (hP.sub [0, 1] rfl) (hD.sub [0, 1] rfl rfl) hS dX11_holds_420
        · skip
          have c_106 : z_105.toInt = (61 : Int32).toInt := i_eq.mp c_106
          refine lv_iload hx hb dX11_holds_393 (lv_at hl 0 rfl) ?_
          refine lv_iload hx hb dX11_holds_395 (lv_at hl 2 rfl) ?_
          refine lv_icmp_ne (tgt := 404) hx hb dX11_holds_397 (by decide) (fun c_108 => ?_) (fun c_108 => ?_)
          · skip
            have c_108 : ¬ (r_97.toInt = z_8.toInt) := fun h9 => c_108 (i_eq.mpr h9)
            refine lv_iconst (v := 0) hx hb dX11_holds_404 (by decide) ?_
            refine lv_goto (tgt := 420) hx hb dX11_holds_405 (by decide) ?_
            have k_0 : (0 : Int32).toInt = 0 := by decide
            rw [hQ9]
            exact re_z voth hx hb hr hlocks (Or.inl rfl) (show ((0 : Int32) = 0) ∨ ((0 : Int32) = 1) from (Or.inl rfl)) (hP.sub [0, 1] rfl) (hD.sub [0, 1] rfl rfl) hS dX11_holds_420
          · skip
            have c_108 : r_97.toInt = z_8.toInt := i_eq.mp c_108
            refine lv_iconst (v := 1) hx hb dX11_holds_400 (by decide) ?_
            refine lv_goto (tgt := 420) hx hb dX11_holds_401 (by decide) ?_
            rw [hQ9]
            exact re_z voth hx hb hr hlocks (Or.inr rfl) (show ((1 : Int32) = 0) ∨ ((1 : Int32) = 1) from (Or.inr (rfl))) (hP.sub [0, 1] rfl) (hD.sub [0, 1] rfl rfl) hS dX11_holds_420
      · skip
        have c_102 : z_101.toInt = (60 : Int32).toInt := i_eq.mp c_102
        refine lv_iload hx hb dX11_holds_365 (lv_at hl 0 rfl) ?_
        refine lv_iload hx hb dX11_holds_367 (lv_at hl 2 rfl) ?_
        refine lv_icmp_ge (tgt := 376) hx hb dX11_holds_369 (by decide) (fun c_109 => ?_) (fun c_109 => ?_)
        · skip
          have c_109 : z_8.toInt ≤ r_97.toInt := i_le.mp c_109
          refine lv_iconst (v := 0) hx hb dX11_holds_376 (by decide) ?_
          refine lv_goto (tgt := 420) hx hb dX11_holds_377 (by decide) ?_
          have k_0 : (0 : Int32).toInt = 0 := by decide
          rw [hQ9]
          exact re_z voth hx hb hr hlocks (Or.inl rfl) (show ((0 : Int32) = 0) ∨ ((0 : Int32) = 1) from (Or.inl rfl)) (hP.sub [0, 1] rfl) (hD.sub [0, 1] rfl rfl) hS dX11_holds_420
        · skip
          have c_109 : ¬ (z_8.toInt ≤ r_97.toInt) := fun h9 => c_109 (i_le.mpr h9)
          refine lv_iconst (v := 1) hx hb dX11_holds_372 (by decide) ?_
          refine lv_goto (tgt := 420) hx hb dX11_holds_373 (by decide) ?_
          rw [hQ9]
          exact re_z voth hx hb hr hlocks (Or.inr rfl) (show ((1 : Int32) = 0) ∨ ((1 : Int32) = 1) from (Or.inr (rfl))) (hP.sub [0, 1] rfl) (hD.sub [0, 1] rfl rfl) hS dX11_holds_420
  · skip
    have c_69 : z_68.toInt = (25 : Int32).toInt := i_eq.mp c_69
    refine lv_aload_n hx hb dX11_holds_306 rfl (lv_at hl 4 rfl) ?_
    refine lv_iload_n hx hb dX11_holds_307 rfl (lv_at hl 6 rfl) ?_
    refine jr_i (rVr (As := [.int vp]) (rest := []) (ci := 12) ⟨hx, hb, hml, hown, hts⟩ (m_whiteOf l dC dI cy vnh vo voth vmt votp vosz volm voto vofr vokd vonu vosg vofa vopl vowd votd vmn vmr vmk vms vma vmm vmrn vmkn vmik vmon vosm vohp vmw vmf vmb vomb vmd vmc vocm voct vocy vmx votx vose vml vmwr voln vohw vmno vond voon vowi votop vmnf vp ⟨by omega, by omega⟩ p_vmnf) (cw_X11_241 hts rfl rfl ⟨Nat.le_of_ble_eq_true rfl, Nat.le_of_ble_eq_true rfl⟩) hP hK [0, 1] rfl rfl rfl rfl hl.1 rfl (Nat.le_of_ble_eq_true rfl) dX11_holds_308 ⟨Nat.le_of_ble_eq_true rfl, Nat.le_of_ble_eq_true rfl⟩) hP hS (fun r_110 H locs hp_111 hP hS => ?_)
    refine lv_goto (tgt := 350) hx hb dX11_holds_311 (by decide) ?_
    refine lv_istore (lv' := [(7, .int r_110), (6, .int z_68), (5, .int z_8), (4, .int z_5), (3, .int z_2), (0, .ref vo), (1, .int vk), (2, .int vp)]) hx hb dX11_holds_350 hl (by decide) rfl (fun ls hl => ?_)
    refine lv_aload_n hx hb dX11_holds_352 rfl (lv_at hl 5 rfl) ?_
    refine gf_X11_98 hx hb hts hown hK hP 0 rfl rfl dX11_holds_353 ?_
    refine lv_iload_n hx hb dX11_holds_356 rfl (lv_at hl 4 rfl) ?_
    refine lv_iconst (v := 3) hx hb dX11_holds_357 (by decide) ?_
    refine lv_iadd hx hb dX11_holds_358 ?_
    refine lv_topi (fun z_112 ez_112 => ?_)
    have bz_112 : z_112.toInt = z_2.toInt + (3 : Int32).toInt := i_add ez_112 (by omega) (by omega)
    have hin_113 : vp_in z_112 575 := vp_in_iff.mpr ⟨by omega, by omega⟩
    refine va_iald hx hb hK hP 1 0 rfl rfl hin_113 dX11_holds_359 ?_
    refine lv_topi (fun z_114 ez_114 => ?_)
    refine lv_bipush (v := 60) hx hb dX11_holds_360 (by decide) ?_
    have k_60 : (60 : Int32).toInt = 60 := by decide
    refine lv_icmp_ne (tgt := 380) hx hb dX11_holds_362 (by decide) (fun c_115 => ?_) (fun c_115 => ?_)
    · skip
      have c_115 : ¬ (z_114.toInt = (60 : Int32).toInt) := fun h9 => c_115 (i_eq.mpr h9)
      refine lv_aload_n hx hb dX11_holds_380 rfl (lv_at hl 5 rfl) ?_
      refine gf_X11_98 hx hb hts hown hK hP 0 rfl rfl dX11_holds_381 ?_
      refine lv_iload_n hx hb dX11_holds_384 rfl (lv_at hl 4 rfl) ?_
      refine lv_iconst (v := 3) hx hb dX11_holds_385 (by decide) ?_
      refine lv_iadd hx hb dX11_holds_386 ?_
      refine lv_topi (fun z_116 ez_116 => ?_)
      have bz_116 : z_116.toInt = z_2.toInt + (3 : Int32).toInt := i_add ez_116 (by omega) (by omega)
      have hin_117 : vp_in z_116 575 := vp_in_iff.mpr ⟨by omega, by omega⟩
      refine va_iald hx hb hK hP 1 0 rfl rfl hin_117 dX11_holds_387 ?_
      refine lv_topi (fun z_118 ez_118 => ?_)
      refine lv_bipush (v := 61) hx hb dX11_holds_388 (by decide) ?_
      have k_61 : (61 : Int32).toInt = 61 := by decide
      refine lv_icmp_ne (tgt := 408) hx hb dX11_holds_390 (by decide) (fun c_119 => ?_) (fun c_119 => ?_)
      · skip
        have c_119 : ¬ (z_118.toInt = (61 : Int32).toInt) := fun h9 => c_119 (i_eq.mpr h9)
        refine lv_iload hx hb dX11_holds_408 (lv_at hl 0 rfl) ?_
        refine lv_iload hx hb dX11_holds_410 (lv_at hl 2 rfl) ?_
        refine lv_icmp_le (tgt := 419) hx hb dX11_holds_412 (by decide) (fun c_120 => ?_) (fun c_120 => ?_)
        · skip
          have c_120 : r_110.toInt ≤ z_8.toInt := i_le.mp c_120
          refine lv_iconst (v := 0) hx hb dX11_holds_419 (by decide) ?_
          have k_0 : (0 : Int32).toInt = 0 := by decide
          rw [hQ9]
          exact re_z voth hx hb hr hlocks (Or.inl rfl) (show ((0 : Int32) = 0) ∨ ((0 : Int32) = 1) from (Or.inl rfl)) (hP.sub [0, 1] rfl) (hD.sub [0, 1] rfl rfl) hS dX11_holds_420
        · skip
          have c_120 : ¬ (r_110.toInt ≤ z_8.toInt) := fun h9 => c_120 (i_le.mpr h9)
          refine lv_iconst (v := 1) hx hb dX11_holds_415 (by decide) ?_
          refine lv_goto (tgt := 420) hx hb dX11_holds_416 (by decide) ?_
          rw [hQ9]
          exact re_z voth hx hb hr hlocks (Or.inr rfl) (show ((1 : Int32) = 0) ∨ ((1 : Int32) = 1) from (Or.inr (rfl))) (hP.sub [0, 1] rfl) (hD.sub [0, 1] rfl rfl) hS dX11_holds_420
      · skip
        have c_119 : z_118.toInt = (61 : Int32).toInt := i_eq.mp c_119
        refine lv_iload hx hb dX11_holds_393 (lv_at hl 0 rfl) ?_
        refine lv_iload hx hb dX11_holds_395 (lv_at hl 2 rfl) ?_
        refine lv_icmp_ne (tgt := 404) hx hb dX11_holds_397 (by decide) (fun c_121 => ?_) (fun c_121 => ?_)
        · skip
          have c_121 : ¬ (r_110.toInt = z_8.toInt) := fun h9 => c_121 (i_eq.mpr h9)
          refine lv_iconst (v := 0) hx hb dX11_holds_404 (by decide) ?_
          refine lv_goto (tgt := 420) hx hb dX11_holds_405 (by decide) ?_
          have k_0 : (0 : Int32).toInt = 0 := by decide
          rw [hQ9]
          exact re_z voth hx hb hr hlocks (Or.inl rfl) (show ((0 : Int32) = 0) ∨ ((0 : Int32) = 1) from (Or.inl rfl)) (hP.sub [0, 1] rfl) (hD.sub [0, 1] rfl rfl) hS dX11_holds_420
        · skip
          have c_121 : r_110.toInt = z_8.toInt := i_eq.mp c_121
          refine lv_iconst (v := 1) hx hb dX11_holds_400 (by decide) ?_
          refine lv_goto (tgt := 420) hx hb dX11_holds_401 (by decide) ?_
          rw [hQ9]
          exact re_z voth hx hb hr hlocks (Or.inr rfl) (show ((1 : Int32) = 0) ∨ ((1 : Int32) = 1) from (Or.inr (rfl))) (hP.sub [0, 1] rfl) (hD.sub [0, 1] rfl rfl) hS dX11_holds_420
    · skip
      have c_115 : z_114.toInt = (60 : Int32).toInt := i_eq.mp c_115
      refine lv_iload hx hb dX11_holds_365 (lv_at hl 0 rfl) ?_
      refine lv_iload hx hb dX11_holds_367 (lv_at hl 2 rfl) ?_
      refine lv_icmp_ge (tgt := 376) hx hb dX11_holds_369 (by decide) (fun c_122 => ?_) (fun c_122 => ?_)
      · skip
        have c_122 : z_8.toInt ≤ r_110.toInt := i_le.mp c_122
        refine lv_iconst (v := 0) hx hb dX11_holds_376 (by decide) ?_
        refine lv_goto (tgt := 420) hx hb dX11_holds_377 (by decide) ?_
        have k_0 : (0 : Int32).toInt = 0 := by decide
        rw [hQ9]
        exact re_z voth hx hb hr hlocks (Or.inl rfl) (show ((0 : Int32) = 0) ∨ ((0 : Int32) = 1) from (Or.inl rfl)) (hP.sub [0, 1] rfl) (hD.sub [0, 1] rfl rfl) hS dX11_holds_420
      · skip
        have c_122 : ¬ (z_8.toInt ≤ r_110.toInt) := fun h9 => c_122 (i_le.mpr h9)
        refine lv_iconst (v := 1) hx hb dX11_holds_372 (by decide) ?_
        refine lv_goto (tgt := 420) hx hb dX11_holds_373 (by decide) ?_
        rw [hQ9]
        exact re_z voth hx hb hr hlocks (Or.inr rfl) (show ((1 : Int32) = 0) ∨ ((1 : Int32) = 1) from (Or.inr (rfl))) (hP.sub [0, 1] rfl) (hD.sub [0, 1] rfl rfl) hS dX11_holds_420
abbrev O_m_holds_2 (cy : Nat → ClassId) (vnh : Nat → Int32) (vo : Nat) (voth : Int32) (vmt : Nat) (votp : Int32) (vosz : Int32) (volm : Int32) (voto : Int32) (vofr : Int32) (vokd : Int32) (vonu : Int32) (vosg : Int32) (vofa : Int32) (vopl : Int32) (vowd : Int64) (votd : Int32) (vmn : Nat) (vmr : Nat) (vmk : Nat) (vms : Nat) (vma : Nat) (vmm : Nat) (vmrn : Nat) (vmkn : Nat) (vmik : Nat) (vmon : Nat) (vosm : Int32) (vohp : Int32) (vmw : Nat) (vmf : Nat) (vmb : Nat) (vomb : Int32) (vmd : Nat) (vmc : Nat) (vocm : Int32) (voct : Int32) (vocy : Int32) (vmx : Nat) (votx : Int32) (vose : Int32) (vml : Nat) (vmwr : Nat) (voln : Int32) (vohw : Int32) (vmno : Nat) (vond : Int32) (voon : Int32) (vowi : Int32) (votop : Int32) (vmnf : Nat → Int32) (vk : Int32) (vp : Int32) (u : Int32) : va_W := [(vo, .inr (12, [.int u, .ref vmt, .int votp, .int vosz, .int volm, .int voto, .int vofr, .int vokd, .int vonu, .int vosg, .int vofa, .int vopl, .long vowd, .int votd, .ref vmn, .ref vmr, .ref vmk, .ref vms, .ref vma, .ref vmm, .ref vmrn, .ref vmkn, .ref vmik, .ref vmon, .int vosm, .int vohp, .ref vmw, .ref vmf, .ref vmb, .int vomb, .ref vmd, .ref vmc, .int vocm, .int voct, .int vocy, .ref vmx, .int votx, .int vose, .ref vml, .ref vmwr, .int voln, .int vohw, .ref vmno, .int vond, .int voon, .int vowi, .int votop])), (vmn, .inl (cy 0, 575, .inl vmnf))]
set_option maxHeartbeats 4000000 in
set_option maxRecDepth 100000 in
theorem m_holds_2 (l : Launch) (dC : Nat → ClassId) (dI : Nat → Nat → Nat) (cy : Nat → ClassId) (sz : Nat) (vnh : Nat → Int32) (vo : Nat) (voth : Int32) (vmt : Nat) (votp : Int32) (vosz : Int32) (volm : Int32) (voto : Int32) (vofr : Int32) (vokd : Int32) (vonu : Int32) (vosg : Int32) (vofa : Int32) (vopl : Int32) (vowd : Int64) (votd : Int32) (vmn : Nat) (vmr : Nat) (vmk : Nat) (vms : Nat) (vma : Nat) (vmm : Nat) (vmrn : Nat) (vmkn : Nat) (vmik : Nat) (vmon : Nat) (vosm : Int32) (vohp : Int32) (vmw : Nat) (vmf : Nat) (vmb : Nat) (vomb : Int32) (vmd : Nat) (vmc : Nat) (vocm : Int32) (voct : Int32) (vocy : Int32) (vmx : Nat) (votx : Int32) (vose : Int32) (vml : Nat) (vmwr : Nat) (voln : Int32) (vohw : Int32) (vmno : Nat) (vond : Int32) (voon : Int32) (vowi : Int32) (votop : Int32) (vmnf : Nat → Int32) (vk : Int32) (vp : Int32) (r_vk : 0 ≤ (vk : Int32).toInt ∧ (vk : Int32).toInt ≤ 2) (r_vp : 0 ≤ (vp : Int32).toInt ∧ (vp : Int32).toInt ≤ 6) (p_vmnf : NW vnh vmnf) : Met l yX11_holds (wl yX11_holds cX11_holds 8 (some .boolean)) ({ frames := 8, cells := 0, slots := 0, locals := 512 }) (Pw (dC, dI) vwCl cy [(vo, .inr (12, [.int voth, .ref vmt, .int votp, .int vosz, .int volm, .int voto, .int vofr, .int vokd, .int vonu, .int vosg, .int vofa, .int vopl, .long vowd, .int votd, .ref vmn, .ref vmr, .ref vmk, .ref vms, .ref vma, .ref vmm, .ref vmrn, .ref vmkn, .ref vmik, .ref vmon, .int vosm, .int vohp, .ref vmw, .ref vmf, .ref vmb, .int vomb, .ref vmd, .ref vmc, .int vocm, .int voct, .int vocy, .ref vmx, .int votx, .int vose, .ref vml, .ref vmwr, .int voln, .int vohw, .ref vmno, .int vond, .int voon, .int vowi, .int votop])), (vmn, .inl (cy 0, 575, .inl vmnf))] sz [.ref vo, .int vk, .int vp] nE) (Qi (dC, dI) vwCl (fun (r : Int32) (u : Int32) => ((r = 0) ∨ (r = 1))) (O_m_holds_2 cy vnh vo voth vmt votp vosz volm voto vofr vokd vonu vosg vofa vopl vowd votd vmn vmr vmk vms vma vmm vmrn vmkn vmik vmon vosm vohp vmw vmf vmb vomb vmd vmc vocm voct vocy vmx votx vose vml vmwr voln vohw vmno vond voon vowi votop vmnf vk vp) (va_A [(vo, .inr (12, [.int voth, .ref vmt, .int votp, .int vosz, .int volm, .int voto, .int vofr, .int vokd, .int vonu, .int vosg, .int vofa, .int vopl, .long vowd, .int votd, .ref vmn, .ref vmr, .ref vmk, .ref vms, .ref vma, .ref vmm, .ref vmrn, .ref vmkn, .ref vmik, .ref vmon, .int vosm, .int vohp, .ref vmw, .ref vmf, .ref vmb, .int vomb, .ref vmd, .ref vmc, .int vocm, .int voct, .int vocy, .ref vmx, .int votx, .int vose, .ref vml, .ref vmwr, .int voln, .int vohw, .ref vmno, .int vond, .int voon, .int vowi, .int votop])), (vmn, .inl (cy 0, 575, .inl vmnf))] sz)) 0 0 (va_A [(vo, .inr (12, [.int voth, .ref vmt, .int votp, .int vosz, .int volm, .int voto, .int vofr, .int vokd, .int vonu, .int vosg, .int vofa, .int vopl, .long vowd, .int votd, .ref vmn, .ref vmr, .ref vmk, .ref vms, .ref vma, .ref vmm, .ref vmrn, .ref vmkn, .ref vmik, .ref vmon, .int vosm, .int vohp, .ref vmw, .ref vmf, .ref vmb, .int vomb, .ref vmd, .ref vmc, .int vocm, .int voct, .int vocy, .ref vmx, .int votx, .int vose, .ref vml, .ref vmwr, .int voln, .int vohw, .ref vmno, .int vond, .int voon, .int vowi, .int votop])), (vmn, .inl (cy 0, 575, .inl vmnf))] sz) := by
  refine mw (Qc := Qi (dC, dI) vwCl (fun (r : Int32) (u : Int32) => ((r = 0) ∨ (r = 1))) (O_m_holds_2 cy vnh vo voth vmt votp vosz volm voto vofr vokd vonu vosg vofa vopl vowd votd vmn vmr vmk vms vma vmm vmrn vmkn vmik vmon vosm vohp vmw vmf vmb vomb vmd vmc vocm voct vocy vmx votx vose vml vmwr voln vohw vmno vond voon vowi votop vmnf vk vp)) RX11 rfl (by decide +kernel) (Nat.le_of_ble_eq_true rfl) ?_
  intro p e s m below meth c A hx hb hr hlocks av9 hav hts hown hnm hml hK hP hD hA hS hE hAe Q9 hQ9 ls hl
  have hl : lv_has ls 8 [(0, .ref vo), (1, .int vk), (2, .int vp)] := hl
  refine lv_sipush (v := 335) hx hb dX11_holds_0 (by decide) ?_
  refine lv_iconst (v := 4) hx hb dX11_holds_3 (by decide) ?_
  refine lv_iload_n hx hb dX11_holds_4 rfl (lv_at hl 1 rfl) ?_
  refine lv_imul hx hb dX11_holds_5 ?_
  refine lv_topi (fun z_1 ez_1 => ?_)
  have k_4 : (4 : Int32).toInt = 4 := by decide
  have bz_1 : z_1.toInt = vk.toInt * 4 := i_cmul k_4 ez_1 (by omega) (by omega)
  refine lv_iadd hx hb dX11_holds_6 ?_
  refine lv_topi (fun z_2 ez_2 => ?_)
  have k_335 : (335 : Int32).toInt = 335 := by decide
  have bz_2 : z_2.toInt = (335 : Int32).toInt + z_1.toInt := i_add ez_2 (by omega) (by omega)
  refine lv_istore_n (lv' := [(3, .int z_2), (0, .ref vo), (1, .int vk), (2, .int vp)]) hx hb dX11_holds_7 rfl hl (by decide) rfl (fun ls hl => ?_)
  refine lv_aload_n hx hb dX11_holds_8 rfl (lv_at hl 1 rfl) ?_
  refine gf_X11_98 hx hb hts hown hK hP 0 rfl rfl dX11_holds_9 ?_
  refine lv_iload_n hx hb dX11_holds_12 rfl (lv_at hl 0 rfl) ?_
  refine lv_iconst (v := 1) hx hb dX11_holds_13 (by decide) ?_
  refine lv_iadd hx hb dX11_holds_14 ?_
  refine lv_topi (fun z_3 ez_3 => ?_)
  have k_1 : (1 : Int32).toInt = 1 := by decide
  have bz_3 : z_3.toInt = z_2.toInt + (1 : Int32).toInt := i_add ez_3 (by omega) (by omega)
  have hin_4 : vp_in z_3 575 := vp_in_iff.mpr ⟨by omega, by omega⟩
  refine va_iald hx hb hK hP 1 0 rfl rfl hin_4 dX11_holds_15 ?_
  refine lv_topi (fun z_5 ez_5 => ?_)
  refine lv_istore (lv' := [(4, .int z_5), (3, .int z_2), (0, .ref vo), (1, .int vk), (2, .int vp)]) hx hb dX11_holds_16 hl (by decide) rfl (fun ls hl => ?_)
  refine lv_aload_n hx hb dX11_holds_18 rfl (lv_at hl 2 rfl) ?_
  refine gf_X11_98 hx hb hts hown hK hP 0 rfl rfl dX11_holds_19 ?_
  refine lv_iload_n hx hb dX11_holds_22 rfl (lv_at hl 1 rfl) ?_
  refine lv_iconst (v := 2) hx hb dX11_holds_23 (by decide) ?_
  refine lv_iadd hx hb dX11_holds_24 ?_
  refine lv_topi (fun z_6 ez_6 => ?_)
  have k_2 : (2 : Int32).toInt = 2 := by decide
  have bz_6 : z_6.toInt = z_2.toInt + (2 : Int32).toInt := i_add ez_6 (by omega) (by omega)
  have hin_7 : vp_in z_6 575 := vp_in_iff.mpr ⟨by omega, by omega⟩
  refine va_iald hx hb hK hP 1 0 rfl rfl hin_7 dX11_holds_25 ?_
  refine lv_topi (fun z_8 ez_8 => ?_)
  refine lv_istore (lv' := [(5, .int z_8), (4, .int z_5), (3, .int z_2), (0, .ref vo), (1, .int vk), (2, .int vp)]) hx hb dX11_holds_26 hl (by decide) rfl (fun ls hl => ?_)
  refine lv_aload_n hx hb dX11_holds_28 rfl (lv_at hl 3 rfl) ?_
  refine gf_X11_98 hx hb hts hown hK hP 0 rfl rfl dX11_holds_29 ?_
  refine lv_iload_n hx hb dX11_holds_32 rfl (lv_at hl 2 rfl) ?_
  have hin_9 : vp_in z_2 575 := vp_in_iff.mpr ⟨by omega, by omega⟩
  refine va_iald hx hb hK hP 1 0 rfl rfl hin_9 dX11_holds_33 ?_
  refine lv_topi (fun z_10 ez_10 => ?_)
  obtain ⟨hA1, hA2, hA3, hA4⟩ := NW.node p_vmnf (k := vk) ⟨by omega, by omega⟩ (i1 := z_3) (by omega) ez_5 (i2 := z_6) (by omega) ez_8 (i0 := z_2) (by omega) ez_10
  have k_3 : (3 : Int32).toInt = 3 := by decide
  have k_68 : (68 : Int32).toInt = 68 := by decide
  have k_69 : (69 : Int32).toInt = 69 := by decide
  have k_70 : (70 : Int32).toInt = 70 := by decide
  have k_71 : (71 : Int32).toInt = 71 := by decide
  have k_72 : (72 : Int32).toInt = 72 := by decide
  have k_73 : (73 : Int32).toInt = 73 := by decide
  have k_74 : (74 : Int32).toInt = 74 := by decide
  by_cases sw_11_1 : z_10.toInt = 1
  · refine as_i 1 (i_eq.mpr (sw_11_1.trans k_1.symm)) ?_
    refine lv_lookup (off := 90) (tgt := 124) hx hb dX11_holds_34 (by decide) (by decide) (by decide) ?_
    have hB := hA1 (by omega)
    refine lv_aload_n hx hb dX11_holds_124 rfl (lv_at hl 3 rfl) ?_
    refine lv_iload hx hb dX11_holds_125 (lv_at hl 1 rfl) ?_
    refine lv_iload_n hx hb dX11_holds_127 rfl (lv_at hl 5 rfl) ?_
    refine jn_i (wr := []) (rV (As := [.int z_5, .int vp]) (rest := []) (ci := 12) ⟨hx, hb, hml, hown, hts⟩ (m_holds_1 l dC dI cy _ vnh vo voth vmt votp vosz volm voto vofr vokd vonu vosg vofa vopl vowd votd vmn vmr vmk vms vma vmm vmrn vmkn vmik vmon vosm vohp vmw vmf vmb vomb vmd vmc vocm voct vocy vmx votx vose vml vmwr voln vohw vmno vond voon vowi votop vmnf z_5 vp ⟨by omega, by omega⟩ r_vp p_vmnf) (cw_X11_438 hts rfl rfl ⟨Nat.le_of_ble_eq_true rfl, Nat.le_of_ble_eq_true rfl⟩) hP hD hK [0, 1] rfl rfl rfl rfl bl0 e0 rfl hl.1 rfl (Nat.le_of_ble_eq_true rfl) dX11_holds_128 ⟨Nat.le_of_ble_eq_true rfl, Nat.le_of_ble_eq_true rfl⟩) hP hD hS hA [0, 1] [] rfl rfl rfl (by decide) (fun r_12 u_14 H locs hp_13 hP hD hS => ?_)
    obtain ⟨voth_15, rfl⟩ : ∃ z, z = u_14 := ⟨_, rfl⟩
    have hp_13 : ((r_12 = 0) ∨ (r_12 = 1)) := hp_13
    have q_16 := hp_13
    have hP : va_P (dC, dI) vwCl [(vo, .inr (12, [.int voth_15, .ref vmt, .int votp, .int vosz, .int volm, .int voto, .int vofr, .int vokd, .int vonu, .int vosg, .int vofa, .int vopl, .long vowd, .int votd, .ref vmn, .ref vmr, .ref vmk, .ref vms, .ref vma, .ref vmm, .ref vmrn, .ref vmkn, .ref vmik, .ref vmon, .int vosm, .int vohp, .ref vmw, .ref vmf, .ref vmb, .int vomb, .ref vmd, .ref vmc, .int vocm, .int voct, .int vocy, .ref vmx, .int votx, .int vose, .ref vml, .ref vmwr, .int voln, .int vohw, .ref vmno, .int vond, .int voon, .int vowi, .int votop])), (vmn, .inl (cy 0, 575, .inl vmnf))] H := hP
    have hD : va_D A [(vo, .inr (12, [.int voth_15, .ref vmt, .int votp, .int vosz, .int volm, .int voto, .int vofr, .int vokd, .int vonu, .int vosg, .int vofa, .int vopl, .long vowd, .int votd, .ref vmn, .ref vmr, .ref vmk, .ref vms, .ref vma, .ref vmm, .ref vmrn, .ref vmkn, .ref vmik, .ref vmon, .int vosm, .int vohp, .ref vmw, .ref vmf, .ref vmb, .int vomb, .ref vmd, .ref vmc, .int vocm, .int voct, .int vocy, .ref vmx, .int votx, .int vose, .ref vml, .ref vmwr, .int voln, .int vohw, .ref vmno, .int vond, .int voon, .int vowi, .int votop])), (vmn, .inl (cy 0, 575, .inl vmnf))] := hD
    rcases q_16 with aq_16 | aq_16
    · skip
      refine as_i 0 aq_16 ?_
      refine lv_if_ne (tgt := 138) hx hb dX11_holds_131 (by decide) (fun c9 => absurd c9 (by decide)) (fun _ => ?_)
      refine lv_iconst (v := 1) hx hb dX11_holds_134 (by decide) ?_
      refine lv_goto (tgt := 139) hx hb dX11_holds_135 (by decide) ?_
      rw [hQ9]
      exact re_z voth_15 hx hb hr hlocks (Or.inr rfl) (show ((1 : Int32) = 0) ∨ ((1 : Int32) = 1) from (Or.inr (rfl))) (hP.sub [0, 1] rfl) (hD.sub [0, 1] rfl rfl) hS dX11_holds_139
    · skip
      refine as_i 1 aq_16 ?_
      refine lv_if_ne (tgt := 138) hx hb dX11_holds_131 (by decide) (fun _ => ?_) (fun c9 => absurd c9 (by decide))
      refine lv_iconst (v := 0) hx hb dX11_holds_138 (by decide) ?_
      have k_0 : (0 : Int32).toInt = 0 := by decide
      rw [hQ9]
      exact re_z voth_15 hx hb hr hlocks (Or.inl rfl) (show ((0 : Int32) = 0) ∨ ((0 : Int32) = 1) from (Or.inl rfl)) (hP.sub [0, 1] rfl) (hD.sub [0, 1] rfl rfl) hS dX11_holds_139
  by_cases sw_11_2 : z_10.toInt = 2
  · refine as_i 2 (i_eq.mpr (sw_11_2.trans k_2.symm)) ?_
    refine lv_lookup (off := 106) (tgt := 140) hx hb dX11_holds_34 (by decide) (by decide) (by decide) ?_
    have hB := hA2 (by omega)
    refine lv_aload_n hx hb dX11_holds_140 rfl (lv_at hl 3 rfl) ?_
    refine lv_iload hx hb dX11_holds_141 (lv_at hl 1 rfl) ?_
    refine lv_iload_n hx hb dX11_holds_143 rfl (lv_at hl 5 rfl) ?_
    refine jn_i (wr := []) (rV (As := [.int z_5, .int vp]) (rest := []) (ci := 12) ⟨hx, hb, hml, hown, hts⟩ (m_holds_1 l dC dI cy _ vnh vo voth vmt votp vosz volm voto vofr vokd vonu vosg vofa vopl vowd votd vmn vmr vmk vms vma vmm vmrn vmkn vmik vmon vosm vohp vmw vmf vmb vomb vmd vmc vocm voct vocy vmx votx vose vml vmwr voln vohw vmno vond voon vowi votop vmnf z_5 vp ⟨by omega, by omega⟩ r_vp p_vmnf) (cw_X11_438 hts rfl rfl ⟨Nat.le_of_ble_eq_true rfl, Nat.le_of_ble_eq_true rfl⟩) hP hD hK [0, 1] rfl rfl rfl rfl bl0 e0 rfl hl.1 rfl (Nat.le_of_ble_eq_true rfl) dX11_holds_144 ⟨Nat.le_of_ble_eq_true rfl, Nat.le_of_ble_eq_true rfl⟩) hP hD hS hA [0, 1] [] rfl rfl rfl (by decide) (fun r_17 u_19 H locs hp_18 hP hD hS => ?_)
    obtain ⟨voth_20, rfl⟩ : ∃ z, z = u_19 := ⟨_, rfl⟩
    have hp_18 : ((r_17 = 0) ∨ (r_17 = 1)) := hp_18
    have q_21 := hp_18
    have hP : va_P (dC, dI) vwCl [(vo, .inr (12, [.int voth_20, .ref vmt, .int votp, .int vosz, .int volm, .int voto, .int vofr, .int vokd, .int vonu, .int vosg, .int vofa, .int vopl, .long vowd, .int votd, .ref vmn, .ref vmr, .ref vmk, .ref vms, .ref vma, .ref vmm, .ref vmrn, .ref vmkn, .ref vmik, .ref vmon, .int vosm, .int vohp, .ref vmw, .ref vmf, .ref vmb, .int vomb, .ref vmd, .ref vmc, .int vocm, .int voct, .int vocy, .ref vmx, .int votx, .int vose, .ref vml, .ref vmwr, .int voln, .int vohw, .ref vmno, .int vond, .int voon, .int vowi, .int votop])), (vmn, .inl (cy 0, 575, .inl vmnf))] H := hP
    have hD : va_D A [(vo, .inr (12, [.int voth_20, .ref vmt, .int votp, .int vosz, .int volm, .int voto, .int vofr, .int vokd, .int vonu, .int vosg, .int vofa, .int vopl, .long vowd, .int votd, .ref vmn, .ref vmr, .ref vmk, .ref vms, .ref vma, .ref vmm, .ref vmrn, .ref vmkn, .ref vmik, .ref vmon, .int vosm, .int vohp, .ref vmw, .ref vmf, .ref vmb, .int vomb, .ref vmd, .ref vmc, .int vocm, .int voct, .int vocy, .ref vmx, .int votx, .int vose, .ref vml, .ref vmwr, .int voln, .int vohw, .ref vmno, .int vond, .int voon, .int vowi, .int votop])), (vmn, .inl (cy 0, 575, .inl vmnf))] := hD
    rcases q_21 with aq_21 | aq_21
    · skip
      refine as_i 0 aq_21 ?_
      refine lv_if_eq (tgt := 164) hx hb dX11_holds_147 (by decide) (fun _ => ?_) (fun c9 => absurd (by decide) c9)
      refine lv_iconst (v := 0) hx hb dX11_holds_164 (by decide) ?_
      have k_0 : (0 : Int32).toInt = 0 := by decide
      rw [hQ9]
      exact re_z voth_20 hx hb hr hlocks (Or.inl rfl) (show ((0 : Int32) = 0) ∨ ((0 : Int32) = 1) from (Or.inl rfl)) (hP.sub [0, 1] rfl) (hD.sub [0, 1] rfl rfl) hS dX11_holds_165
    · skip
      refine as_i 1 aq_21 ?_
      refine lv_if_eq (tgt := 164) hx hb dX11_holds_147 (by decide) (fun c9 => absurd c9 (by decide)) (fun _ => ?_)
      refine lv_aload_n hx hb dX11_holds_150 rfl (lv_at hl 3 rfl) ?_
      refine lv_iload hx hb dX11_holds_151 (lv_at hl 0 rfl) ?_
      refine lv_iload_n hx hb dX11_holds_153 rfl (lv_at hl 5 rfl) ?_
      refine jn_i (wr := []) (rV (As := [.int z_8, .int vp]) (rest := []) (ci := 12) ⟨hx, hb, hml, hown, hts⟩ (m_holds_1 l dC dI cy _ vnh vo voth_20 vmt votp vosz volm voto vofr vokd vonu vosg vofa vopl vowd votd vmn vmr vmk vms vma vmm vmrn vmkn vmik vmon vosm vohp vmw vmf vmb vomb vmd vmc vocm voct vocy vmx votx vose vml vmwr voln vohw vmno vond voon vowi votop vmnf z_8 vp ⟨by omega, by omega⟩ r_vp p_vmnf) (cw_X11_438 hts rfl rfl ⟨Nat.le_of_ble_eq_true rfl, Nat.le_of_ble_eq_true rfl⟩) hP hD hK [0, 1] rfl rfl rfl rfl bl0 e0 rfl hl.1 rfl (Nat.le_of_ble_eq_true rfl) dX11_holds_154 ⟨Nat.le_of_ble_eq_true rfl, Nat.le_of_ble_eq_true rfl⟩) hP hD hS hA [0, 1] [] rfl rfl rfl (by decide) (fun r_22 u_24 H locs hp_23 hP hD hS => ?_)
      obtain ⟨voth_25, rfl⟩ : ∃ z, z = u_24 := ⟨_, rfl⟩
      have hp_23 : ((r_22 = 0) ∨ (r_22 = 1)) := hp_23
      have q_26 := hp_23
      have hP : va_P (dC, dI) vwCl [(vo, .inr (12, [.int voth_25, .ref vmt, .int votp, .int vosz, .int volm, .int voto, .int vofr, .int vokd, .int vonu, .int vosg, .int vofa, .int vopl, .long vowd, .int votd, .ref vmn, .ref vmr, .ref vmk, .ref vms, .ref vma, .ref vmm, .ref vmrn, .ref vmkn, .ref vmik, .ref vmon, .int vosm, .int vohp, .ref vmw, .ref vmf, .ref vmb, .int vomb, .ref vmd, .ref vmc, .int vocm, .int voct, .int vocy, .ref vmx, .int votx, .int vose, .ref vml, .ref vmwr, .int voln, .int vohw, .ref vmno, .int vond, .int voon, .int vowi, .int votop])), (vmn, .inl (cy 0, 575, .inl vmnf))] H := hP
      have hD : va_D A [(vo, .inr (12, [.int voth_25, .ref vmt, .int votp, .int vosz, .int volm, .int voto, .int vofr, .int vokd, .int vonu, .int vosg, .int vofa, .int vopl, .long vowd, .int votd, .ref vmn, .ref vmr, .ref vmk, .ref vms, .ref vma, .ref vmm, .ref vmrn, .ref vmkn, .ref vmik, .ref vmon, .int vosm, .int vohp, .ref vmw, .ref vmf, .ref vmb, .int vomb, .ref vmd, .ref vmc, .int vocm, .int voct, .int vocy, .ref vmx, .int votx, .int vose, .ref vml, .ref vmwr, .int voln, .int vohw, .ref vmno, .int vond, .int voon, .int vowi, .int votop])), (vmn, .inl (cy 0, 575, .inl vmnf))] := hD
      rcases q_26 with aq_26 | aq_26
      · skip
        refine as_i 0 aq_26 ?_
        refine lv_if_eq (tgt := 164) hx hb dX11_holds_157 (by decide) (fun _ => ?_) (fun c9 => absurd (by decide) c9)
        refine lv_iconst (v := 0) hx hb dX11_holds_164 (by decide) ?_
        have k_0 : (0 : Int32).toInt = 0 := by decide
        rw [hQ9]
        exact re_z voth_25 hx hb hr hlocks (Or.inl rfl) (show ((0 : Int32) = 0) ∨ ((0 : Int32) = 1) from (Or.inl rfl)) (hP.sub [0, 1] rfl) (hD.sub [0, 1] rfl rfl) hS dX11_holds_165
      · skip
        refine as_i 1 aq_26 ?_
        refine lv_if_eq (tgt := 164) hx hb dX11_holds_157 (by decide) (fun c9 => absurd c9 (by decide)) (fun _ => ?_)
        refine lv_iconst (v := 1) hx hb dX11_holds_160 (by decide) ?_
        refine lv_goto (tgt := 165) hx hb dX11_holds_161 (by decide) ?_
        rw [hQ9]
        exact re_z voth_25 hx hb hr hlocks (Or.inr rfl) (show ((1 : Int32) = 0) ∨ ((1 : Int32) = 1) from (Or.inr (rfl))) (hP.sub [0, 1] rfl) (hD.sub [0, 1] rfl rfl) hS dX11_holds_165
  by_cases sw_11_3 : z_10.toInt = 3
  · refine as_i 3 (i_eq.mpr (sw_11_3.trans k_3.symm)) ?_
    refine lv_lookup (off := 132) (tgt := 166) hx hb dX11_holds_34 (by decide) (by decide) (by decide) ?_
    have hB := hA3 (by omega)
    refine lv_aload_n hx hb dX11_holds_166 rfl (lv_at hl 3 rfl) ?_
    refine lv_iload hx hb dX11_holds_167 (lv_at hl 1 rfl) ?_
    refine lv_iload_n hx hb dX11_holds_169 rfl (lv_at hl 5 rfl) ?_
    refine jn_i (wr := []) (rV (As := [.int z_5, .int vp]) (rest := []) (ci := 12) ⟨hx, hb, hml, hown, hts⟩ (m_holds_1 l dC dI cy _ vnh vo voth vmt votp vosz volm voto vofr vokd vonu vosg vofa vopl vowd votd vmn vmr vmk vms vma vmm vmrn vmkn vmik vmon vosm vohp vmw vmf vmb vomb vmd vmc vocm voct vocy vmx votx vose vml vmwr voln vohw vmno vond voon vowi votop vmnf z_5 vp ⟨by omega, by omega⟩ r_vp p_vmnf) (cw_X11_438 hts rfl rfl ⟨Nat.le_of_ble_eq_true rfl, Nat.le_of_ble_eq_true rfl⟩) hP hD hK [0, 1] rfl rfl rfl rfl bl0 e0 rfl hl.1 rfl (Nat.le_of_ble_eq_true rfl) dX11_holds_170 ⟨Nat.le_of_ble_eq_true rfl, Nat.le_of_ble_eq_true rfl⟩) hP hD hS hA [0, 1] [] rfl rfl rfl (by decide) (fun r_27 u_29 H locs hp_28 hP hD hS => ?_)
    obtain ⟨voth_30, rfl⟩ : ∃ z, z = u_29 := ⟨_, rfl⟩
    have hp_28 : ((r_27 = 0) ∨ (r_27 = 1)) := hp_28
    have q_31 := hp_28
    have hP : va_P (dC, dI) vwCl [(vo, .inr (12, [.int voth_30, .ref vmt, .int votp, .int vosz, .int volm, .int voto, .int vofr, .int vokd, .int vonu, .int vosg, .int vofa, .int vopl, .long vowd, .int votd, .ref vmn, .ref vmr, .ref vmk, .ref vms, .ref vma, .ref vmm, .ref vmrn, .ref vmkn, .ref vmik, .ref vmon, .int vosm, .int vohp, .ref vmw, .ref vmf, .ref vmb, .int vomb, .ref vmd, .ref vmc, .int vocm, .int voct, .int vocy, .ref vmx, .int votx, .int vose, .ref vml, .ref vmwr, .int voln, .int vohw, .ref vmno, .int vond, .int voon, .int vowi, .int votop])), (vmn, .inl (cy 0, 575, .inl vmnf))] H := hP
    have hD : va_D A [(vo, .inr (12, [.int voth_30, .ref vmt, .int votp, .int vosz, .int volm, .int voto, .int vofr, .int vokd, .int vonu, .int vosg, .int vofa, .int vopl, .long vowd, .int votd, .ref vmn, .ref vmr, .ref vmk, .ref vms, .ref vma, .ref vmm, .ref vmrn, .ref vmkn, .ref vmik, .ref vmon, .int vosm, .int vohp, .ref vmw, .ref vmf, .ref vmb, .int vomb, .ref vmd, .ref vmc, .int vocm, .int voct, .int vocy, .ref vmx, .int votx, .int vose, .ref vml, .ref vmwr, .int voln, .int vohw, .ref vmno, .int vond, .int voon, .int vowi, .int votop])), (vmn, .inl (cy 0, 575, .inl vmnf))] := hD
    rcases q_31 with aq_31 | aq_31
    · skip
      refine as_i 0 aq_31 ?_
      refine lv_if_ne (tgt := 186) hx hb dX11_holds_173 (by decide) (fun c9 => absurd c9 (by decide)) (fun _ => ?_)
      refine lv_aload_n hx hb dX11_holds_176 rfl (lv_at hl 3 rfl) ?_
      refine lv_iload hx hb dX11_holds_177 (lv_at hl 0 rfl) ?_
      refine lv_iload_n hx hb dX11_holds_179 rfl (lv_at hl 5 rfl) ?_
      refine jn_i (wr := []) (rV (As := [.int z_8, .int vp]) (rest := []) (ci := 12) ⟨hx, hb, hml, hown, hts⟩ (m_holds_1 l dC dI cy _ vnh vo voth_30 vmt votp vosz volm voto vofr vokd vonu vosg vofa vopl vowd votd vmn vmr vmk vms vma vmm vmrn vmkn vmik vmon vosm vohp vmw vmf vmb vomb vmd vmc vocm voct vocy vmx votx vose vml vmwr voln vohw vmno vond voon vowi votop vmnf z_8 vp ⟨by omega, by omega⟩ r_vp p_vmnf) (cw_X11_438 hts rfl rfl ⟨Nat.le_of_ble_eq_true rfl, Nat.le_of_ble_eq_true rfl⟩) hP hD hK [0, 1] rfl rfl rfl rfl bl0 e0 rfl hl.1 rfl (Nat.le_of_ble_eq_true rfl) dX11_holds_180 ⟨Nat.le_of_ble_eq_true rfl, Nat.le_of_ble_eq_true rfl⟩) hP hD hS hA [0, 1] [] rfl rfl rfl (by decide) (fun r_32 u_34 H locs hp_33 hP hD hS => ?_)
      obtain ⟨voth_35, rfl⟩ : ∃ z, z = u_34 := ⟨_, rfl⟩
      have hp_33 : ((r_32 = 0) ∨ (r_32 = 1)) := hp_33
      have q_36 := hp_33
      have hP : va_P (dC, dI) vwCl [(vo, .inr (12, [.int voth_35, .ref vmt, .int votp, .int vosz, .int volm, .int voto, .int vofr, .int vokd, .int vonu, .int vosg, .int vofa, .int vopl, .long vowd, .int votd, .ref vmn, .ref vmr, .ref vmk, .ref vms, .ref vma, .ref vmm, .ref vmrn, .ref vmkn, .ref vmik, .ref vmon, .int vosm, .int vohp, .ref vmw, .ref vmf, .ref vmb, .int vomb, .ref vmd, .ref vmc, .int vocm, .int voct, .int vocy, .ref vmx, .int votx, .int vose, .ref vml, .ref vmwr, .int voln, .int vohw, .ref vmno, .int vond, .int voon, .int vowi, .int votop])), (vmn, .inl (cy 0, 575, .inl vmnf))] H := hP
      have hD : va_D A [(vo, .inr (12, [.int voth_35, .ref vmt, .int votp, .int vosz, .int volm, .int voto, .int vofr, .int vokd, .int vonu, .int vosg, .int vofa, .int vopl, .long vowd, .int votd, .ref vmn, .ref vmr, .ref vmk, .ref vms, .ref vma, .ref vmm, .ref vmrn, .ref vmkn, .ref vmik, .ref vmon, .int vosm, .int vohp, .ref vmw, .ref vmf, .ref vmb, .int vomb, .ref vmd, .ref vmc, .int vocm, .int voct, .int vocy, .ref vmx, .int votx, .int vose, .ref vml, .ref vmwr, .int voln, .int vohw, .ref vmno, .int vond, .int voon, .int vowi, .int votop])), (vmn, .inl (cy 0, 575, .inl vmnf))] := hD
      rcases q_36 with aq_36 | aq_36
      · skip
        refine as_i 0 aq_36 ?_
        refine lv_if_eq (tgt := 190) hx hb dX11_holds_183 (by decide) (fun _ => ?_) (fun c9 => absurd (by decide) c9)
        refine lv_iconst (v := 0) hx hb dX11_holds_190 (by decide) ?_
        have k_0 : (0 : Int32).toInt = 0 := by decide
        rw [hQ9]
        exact re_z voth_35 hx hb hr hlocks (Or.inl rfl) (show ((0 : Int32) = 0) ∨ ((0 : Int32) = 1) from (Or.inl rfl)) (hP.sub [0, 1] rfl) (hD.sub [0, 1] rfl rfl) hS dX11_holds_191
      · skip
        refine as_i 1 aq_36 ?_
        refine lv_if_eq (tgt := 190) hx hb dX11_holds_183 (by decide) (fun c9 => absurd c9 (by decide)) (fun _ => ?_)
        refine lv_iconst (v := 1) hx hb dX11_holds_186 (by decide) ?_
        refine lv_goto (tgt := 191) hx hb dX11_holds_187 (by decide) ?_
        rw [hQ9]
        exact re_z voth_35 hx hb hr hlocks (Or.inr rfl) (show ((1 : Int32) = 0) ∨ ((1 : Int32) = 1) from (Or.inr (rfl))) (hP.sub [0, 1] rfl) (hD.sub [0, 1] rfl rfl) hS dX11_holds_191
    · skip
      refine as_i 1 aq_31 ?_
      refine lv_if_ne (tgt := 186) hx hb dX11_holds_173 (by decide) (fun _ => ?_) (fun c9 => absurd c9 (by decide))
      refine lv_iconst (v := 1) hx hb dX11_holds_186 (by decide) ?_
      refine lv_goto (tgt := 191) hx hb dX11_holds_187 (by decide) ?_
      rw [hQ9]
      exact re_z voth_30 hx hb hr hlocks (Or.inr rfl) (show ((1 : Int32) = 0) ∨ ((1 : Int32) = 1) from (Or.inr (rfl))) (hP.sub [0, 1] rfl) (hD.sub [0, 1] rfl rfl) hS dX11_holds_191
  by_cases sw_11_68 : z_10.toInt = 68
  · refine as_i 68 (i_eq.mpr (sw_11_68.trans k_68.symm)) ?_
    refine lv_lookup (off := 158) (tgt := 192) hx hb dX11_holds_34 (by decide) (by decide) (by decide) ?_
    refine lv_aload_n hx hb dX11_holds_192 rfl (lv_at hl 3 rfl) ?_
    refine lv_iload_n hx hb dX11_holds_193 rfl (lv_at hl 5 rfl) ?_
    refine jr_i (rVr (As := [.int vp]) (rest := []) (ci := 12) ⟨hx, hb, hml, hown, hts⟩ (m_howOf l dC dI cy vnh vo voth vmt votp vosz volm voto vofr vokd vonu vosg vofa vopl vowd votd vmn vmr vmk vms vma vmm vmrn vmkn vmik vmon vosm vohp vmw vmf vmb vomb vmd vmc vocm voct vocy vmx votx vose vml vmwr voln vohw vmno vond voon vowi votop vmnf vp ⟨by omega, by omega⟩ p_vmnf) (cw_X11_256 hts rfl rfl ⟨Nat.le_of_ble_eq_true rfl, Nat.le_of_ble_eq_true rfl⟩) hP hK [0, 1] rfl rfl rfl rfl hl.1 rfl (Nat.le_of_ble_eq_true rfl) dX11_holds_194 ⟨Nat.le_of_ble_eq_true rfl, Nat.le_of_ble_eq_true rfl⟩) hP hS (fun r_37 H locs hp_38 hP hS => ?_)
    have hp_38 : (0 ≤ (r_37 : Int32).toInt ∧ (r_37 : Int32).toInt ≤ 2) := hp_38
    have q_39 := hp_38
    refine lv_iconst (v := 1) hx hb dX11_holds_197 (by decide) ?_
    refine lv_icmp_ne (tgt := 205) hx hb dX11_holds_198 (by decide) (fun c_40 => ?_) (fun c_40 => ?_)
    · skip
      have c_40 : ¬ (r_37.toInt = (1 : Int32).toInt) := fun h9 => c_40 (i_eq.mpr h9)
      refine lv_iconst (v := 0) hx hb dX11_holds_205 (by decide) ?_
      have k_0 : (0 : Int32).toInt = 0 := by decide
      rw [hQ9]
      exact re_z voth hx hb hr hlocks (Or.inl rfl) (show ((0 : Int32) = 0) ∨ ((0 : Int32) = 1) from (Or.inl rfl)) (hP.sub [0, 1] rfl) (hD.sub [0, 1] rfl rfl) hS dX11_holds_206
    · skip
      have c_40 : r_37.toInt = (1 : Int32).toInt := i_eq.mp c_40
      refine lv_iconst (v := 1) hx hb dX11_holds_201 (by decide) ?_
      refine lv_goto (tgt := 206) hx hb dX11_holds_202 (by decide) ?_
      rw [hQ9]
      exact re_z voth hx hb hr hlocks (Or.inr rfl) (show ((1 : Int32) = 0) ∨ ((1 : Int32) = 1) from (Or.inr (rfl))) (hP.sub [0, 1] rfl) (hD.sub [0, 1] rfl rfl) hS dX11_holds_206
  by_cases sw_11_69 : z_10.toInt = 69
  · refine as_i 69 (i_eq.mpr (sw_11_69.trans k_69.symm)) ?_
    refine lv_lookup (off := 173) (tgt := 207) hx hb dX11_holds_34 (by decide) (by decide) (by decide) ?_
    refine lv_aload_n hx hb dX11_holds_207 rfl (lv_at hl 3 rfl) ?_
    refine lv_iload_n hx hb dX11_holds_208 rfl (lv_at hl 5 rfl) ?_
    refine jr_i (rVr (As := [.int vp]) (rest := []) (ci := 12) ⟨hx, hb, hml, hown, hts⟩ (m_howOf l dC dI cy vnh vo voth vmt votp vosz volm voto vofr vokd vonu vosg vofa vopl vowd votd vmn vmr vmk vms vma vmm vmrn vmkn vmik vmon vosm vohp vmw vmf vmb vomb vmd vmc vocm voct vocy vmx votx vose vml vmwr voln vohw vmno vond voon vowi votop vmnf vp ⟨by omega, by omega⟩ p_vmnf) (cw_X11_256 hts rfl rfl ⟨Nat.le_of_ble_eq_true rfl, Nat.le_of_ble_eq_true rfl⟩) hP hK [0, 1] rfl rfl rfl rfl hl.1 rfl (Nat.le_of_ble_eq_true rfl) dX11_holds_209 ⟨Nat.le_of_ble_eq_true rfl, Nat.le_of_ble_eq_true rfl⟩) hP hS (fun r_41 H locs hp_42 hP hS => ?_)
    have hp_42 : (0 ≤ (r_41 : Int32).toInt ∧ (r_41 : Int32).toInt ≤ 2) := hp_42
    have q_43 := hp_42
    have k_0 : (0 : Int32).toInt = 0 := by decide
    refine lv_if_ne (tgt := 219) hx hb dX11_holds_212 (by decide) (fun c_44 => ?_) (fun c_44 => ?_)
    · skip
      have c_44 : ¬ (r_41.toInt = (0 : Int32).toInt) := fun h9 => c_44 (i_eq.mpr h9)
      refine lv_iconst (v := 0) hx hb dX11_holds_219 (by decide) ?_
      rw [hQ9]
      exact re_z voth hx hb hr hlocks (Or.inl rfl) (show ((0 : Int32) = 0) ∨ ((0 : Int32) = 1) from (Or.inl rfl)) (hP.sub [0, 1] rfl) (hD.sub [0, 1] rfl rfl) hS dX11_holds_220
    · skip
      have c_44 : r_41.toInt = (0 : Int32).toInt := i_eq.mp c_44
      refine lv_iconst (v := 1) hx hb dX11_holds_215 (by decide) ?_
      refine lv_goto (tgt := 220) hx hb dX11_holds_216 (by decide) ?_
      rw [hQ9]
      exact re_z voth hx hb hr hlocks (Or.inr rfl) (show ((1 : Int32) = 0) ∨ ((1 : Int32) = 1) from (Or.inr (rfl))) (hP.sub [0, 1] rfl) (hD.sub [0, 1] rfl rfl) hS dX11_holds_220
  by_cases sw_11_70 : z_10.toInt = 70
  · refine as_i 70 (i_eq.mpr (sw_11_70.trans k_70.symm)) ?_
    refine lv_lookup (off := 187) (tgt := 221) hx hb dX11_holds_34 (by decide) (by decide) (by decide) ?_
    refine lv_aload_n hx hb dX11_holds_221 rfl (lv_at hl 3 rfl) ?_
    refine lv_iload_n hx hb dX11_holds_222 rfl (lv_at hl 5 rfl) ?_
    refine jr_i (rVr (As := [.int vp]) (rest := []) (ci := 12) ⟨hx, hb, hml, hown, hts⟩ (m_howOf l dC dI cy vnh vo voth vmt votp vosz volm voto vofr vokd vonu vosg vofa vopl vowd votd vmn vmr vmk vms vma vmm vmrn vmkn vmik vmon vosm vohp vmw vmf vmb vomb vmd vmc vocm voct vocy vmx votx vose vml vmwr voln vohw vmno vond voon vowi votop vmnf vp ⟨by omega, by omega⟩ p_vmnf) (cw_X11_256 hts rfl rfl ⟨Nat.le_of_ble_eq_true rfl, Nat.le_of_ble_eq_true rfl⟩) hP hK [0, 1] rfl rfl rfl rfl hl.1 rfl (Nat.le_of_ble_eq_true rfl) dX11_holds_223 ⟨Nat.le_of_ble_eq_true rfl, Nat.le_of_ble_eq_true rfl⟩) hP hS (fun r_45 H locs hp_46 hP hS => ?_)
    have hp_46 : (0 ≤ (r_45 : Int32).toInt ∧ (r_45 : Int32).toInt ≤ 2) := hp_46
    have q_47 := hp_46
    refine lv_iconst (v := 2) hx hb dX11_holds_226 (by decide) ?_
    refine lv_icmp_ne (tgt := 234) hx hb dX11_holds_227 (by decide) (fun c_48 => ?_) (fun c_48 => ?_)
    · skip
      have c_48 : ¬ (r_45.toInt = (2 : Int32).toInt) := fun h9 => c_48 (i_eq.mpr h9)
      refine lv_iconst (v := 0) hx hb dX11_holds_234 (by decide) ?_
      have k_0 : (0 : Int32).toInt = 0 := by decide
      rw [hQ9]
      exact re_z voth hx hb hr hlocks (Or.inl rfl) (show ((0 : Int32) = 0) ∨ ((0 : Int32) = 1) from (Or.inl rfl)) (hP.sub [0, 1] rfl) (hD.sub [0, 1] rfl rfl) hS dX11_holds_235
    · skip
      have c_48 : r_45.toInt = (2 : Int32).toInt := i_eq.mp c_48
      refine lv_iconst (v := 1) hx hb dX11_holds_230 (by decide) ?_
      refine lv_goto (tgt := 235) hx hb dX11_holds_231 (by decide) ?_
      rw [hQ9]
      exact re_z voth hx hb hr hlocks (Or.inr rfl) (show ((1 : Int32) = 0) ∨ ((1 : Int32) = 1) from (Or.inr (rfl))) (hP.sub [0, 1] rfl) (hD.sub [0, 1] rfl rfl) hS dX11_holds_235
  by_cases sw_11_71 : z_10.toInt = 71
  · refine as_i 71 (i_eq.mpr (sw_11_71.trans k_71.symm)) ?_
    refine lv_lookup (off := 202) (tgt := 236) hx hb dX11_holds_34 (by decide) (by decide) (by decide) ?_
    refine lv_aload_n hx hb dX11_holds_236 rfl (lv_at hl 3 rfl) ?_
    refine gf_X11_98 hx hb hts hown hK hP 0 rfl rfl dX11_holds_237 ?_
    refine lv_sipush (v := 298) hx hb dX11_holds_240 (by decide) ?_
    refine lv_iload_n hx hb dX11_holds_243 rfl (lv_at hl 5 rfl) ?_
    refine lv_iadd hx hb dX11_holds_244 ?_
    refine lv_topi (fun z_49 ez_49 => ?_)
    have k_298 : (298 : Int32).toInt = 298 := by decide
    have bz_49 : z_49.toInt = (298 : Int32).toInt + vp.toInt := i_add ez_49 (by omega) (by omega)
    have hin_50 : vp_in z_49 575 := vp_in_iff.mpr ⟨by omega, by omega⟩
    refine va_iald hx hb hK hP 1 0 rfl rfl hin_50 dX11_holds_245 ?_
    refine lv_topi (fun z_51 ez_51 => ?_)
    have k_0 : (0 : Int32).toInt = 0 := by decide
    refine lv_if_le (tgt := 253) hx hb dX11_holds_246 (by decide) (fun c_52 => ?_) (fun c_52 => ?_)
    · skip
      have c_52 : z_51.toInt ≤ (0 : Int32).toInt := i_le.mp c_52
      refine lv_iconst (v := 0) hx hb dX11_holds_253 (by decide) ?_
      rw [hQ9]
      exact re_z voth hx hb hr hlocks (Or.inl rfl) (show ((0 : Int32) = 0) ∨ ((0 : Int32) = 1) from (Or.inl rfl)) (hP.sub [0, 1] rfl) (hD.sub [0, 1] rfl rfl) hS dX11_holds_254
    · skip
      have c_52 : ¬ (z_51.toInt ≤ (0 : Int32).toInt) := fun h9 => c_52 (i_le.mpr h9)
      refine lv_iconst (v := 1) hx hb dX11_holds_249 (by decide) ?_
      refine lv_goto (tgt := 254) hx hb dX11_holds_250 (by decide) ?_
      rw [hQ9]
      exact re_z voth hx hb hr hlocks (Or.inr rfl) (show ((1 : Int32) = 0) ∨ ((1 : Int32) = 1) from (Or.inr (rfl))) (hP.sub [0, 1] rfl) (hD.sub [0, 1] rfl rfl) hS dX11_holds_254
  by_cases sw_11_72 : z_10.toInt = 72
  · refine as_i 72 (i_eq.mpr (sw_11_72.trans k_72.symm)) ?_
    refine lv_lookup (off := 221) (tgt := 255) hx hb dX11_holds_34 (by decide) (by decide) (by decide) ?_
    refine lv_aload_n hx hb dX11_holds_255 rfl (lv_at hl 3 rfl) ?_
    refine lv_iload_n hx hb dX11_holds_256 rfl (lv_at hl 5 rfl) ?_
    refine jr_i (rVr (As := [.int vp]) (rest := []) (ci := 12) ⟨hx, hb, hml, hown, hts⟩ (m_lends l dC dI cy vnh vo voth vmt votp vosz volm voto vofr vokd vonu vosg vofa vopl vowd votd vmn vmr vmk vms vma vmm vmrn vmkn vmik vmon vosm vohp vmw vmf vmb vomb vmd vmc vocm voct vocy vmx votx vose vml vmwr voln vohw vmno vond voon vowi votop vmnf vp ⟨by omega, by omega⟩ p_vmnf) (cw_X11_265 hts rfl rfl ⟨Nat.le_of_ble_eq_true rfl, Nat.le_of_ble_eq_true rfl⟩) hP hK [0, 1] rfl rfl rfl rfl hl.1 rfl (Nat.le_of_ble_eq_true rfl) dX11_holds_257 ⟨Nat.le_of_ble_eq_true rfl, Nat.le_of_ble_eq_true rfl⟩) hP hS (fun r_53 H locs hp_54 hP hS => ?_)
    have hp_54 : ((r_53 = 0) ∨ (r_53 = 1)) := hp_54
    have q_55 := hp_54
    rcases q_55 with aq_55 | aq_55
    · skip
      refine as_i 0 aq_55 ?_
      have k_0 : (0 : Int32).toInt = 0 := by decide
      rw [hQ9]
      exact re_z voth hx hb hr hlocks (Or.inl rfl) (show ((0 : Int32) = 0) ∨ ((0 : Int32) = 1) from (Or.inl rfl)) (hP.sub [0, 1] rfl) (hD.sub [0, 1] rfl rfl) hS dX11_holds_260
    · skip
      refine as_i 1 aq_55 ?_
      rw [hQ9]
      exact re_z voth hx hb hr hlocks (Or.inr rfl) (show ((1 : Int32) = 0) ∨ ((1 : Int32) = 1) from (Or.inr (rfl))) (hP.sub [0, 1] rfl) (hD.sub [0, 1] rfl rfl) hS dX11_holds_260
  by_cases sw_11_73 : z_10.toInt = 73
  · refine as_i 73 (i_eq.mpr (sw_11_73.trans k_73.symm)) ?_
    refine lv_lookup (off := 227) (tgt := 261) hx hb dX11_holds_34 (by decide) (by decide) (by decide) ?_
    have hB := hA4 (by omega)
    refine lv_aload_n hx hb dX11_holds_261 rfl (lv_at hl 3 rfl) ?_
    refine lv_iload_n hx hb dX11_holds_262 rfl (lv_at hl 5 rfl) ?_
    refine lv_iload hx hb dX11_holds_263 (lv_at hl 1 rfl) ?_
    refine jr_i (rVr (As := [.int vp, .int z_5]) (rest := []) (ci := 12) ⟨hx, hb, hml, hown, hts⟩ (m_didOf l dC dI cy vnh vo voth vmt votp vosz volm voto vofr vokd vonu vosg vofa vopl vowd votd vmn vmr vmk vms vma vmm vmrn vmkn vmik vmon vosm vohp vmw vmf vmb vomb vmd vmc vocm voct vocy vmx votx vose vml vmwr voln vohw vmno vond voon vowi votop vmnf vp z_5 ⟨by omega, by omega⟩ ⟨by omega, by omega⟩ p_vmnf) (cw_X11_228 hts rfl rfl ⟨Nat.le_of_ble_eq_true rfl, Nat.le_of_ble_eq_true rfl⟩) hP hK [0, 1] rfl rfl rfl rfl hl.1 rfl (Nat.le_of_ble_eq_true rfl) dX11_holds_265 ⟨Nat.le_of_ble_eq_true rfl, Nat.le_of_ble_eq_true rfl⟩) hP hS (fun r_56 H locs hp_57 hP hS => ?_)
    have k_0 : (0 : Int32).toInt = 0 := by decide
    refine lv_if_le (tgt := 275) hx hb dX11_holds_268 (by decide) (fun c_58 => ?_) (fun c_58 => ?_)
    · skip
      have c_58 : r_56.toInt ≤ (0 : Int32).toInt := i_le.mp c_58
      refine lv_iconst (v := 0) hx hb dX11_holds_275 (by decide) ?_
      rw [hQ9]
      exact re_z voth hx hb hr hlocks (Or.inl rfl) (show ((0 : Int32) = 0) ∨ ((0 : Int32) = 1) from (Or.inl rfl)) (hP.sub [0, 1] rfl) (hD.sub [0, 1] rfl rfl) hS dX11_holds_276
    · skip
      have c_58 : ¬ (r_56.toInt ≤ (0 : Int32).toInt) := fun h9 => c_58 (i_le.mpr h9)
      refine lv_iconst (v := 1) hx hb dX11_holds_271 (by decide) ?_
      refine lv_goto (tgt := 276) hx hb dX11_holds_272 (by decide) ?_
      rw [hQ9]
      exact re_z voth hx hb hr hlocks (Or.inr rfl) (show ((1 : Int32) = 0) ∨ ((1 : Int32) = 1) from (Or.inr (rfl))) (hP.sub [0, 1] rfl) (hD.sub [0, 1] rfl rfl) hS dX11_holds_276
  by_cases sw_11_74 : z_10.toInt = 74
  · refine as_i 74 (i_eq.mpr (sw_11_74.trans k_74.symm)) ?_
    refine lv_lookup (off := 243) (tgt := 277) hx hb dX11_holds_34 (by decide) (by decide) (by decide) ?_
    refine lv_aload_n hx hb dX11_holds_277 rfl (lv_at hl 3 rfl) ?_
    refine lv_iload hx hb dX11_holds_278 (lv_at hl 1 rfl) ?_
    refine jn_i (wr := []) (rV (As := [.int z_5]) (rest := []) (ci := 12) ⟨hx, hb, hml, hown, hts⟩ (m_family l dC dI cy _ vnh vo voth vmt votp vosz volm voto vofr vokd vonu vosg vofa vopl vowd votd vmn vmr vmk vms vma vmm vmrn vmkn vmik vmon vosm vohp vmw vmf vmb vomb vmd vmc vocm voct vocy vmx votx vose vml vmwr voln vohw vmno vond voon vowi votop vmnf z_5 p_vmnf) (cw_X11_441 hts rfl rfl ⟨Nat.le_of_ble_eq_true rfl, Nat.le_of_ble_eq_true rfl⟩) hP hD hK [0, 1] rfl rfl rfl rfl bl0 e0 rfl hl.1 rfl (Nat.le_of_ble_eq_true rfl) dX11_holds_280 ⟨Nat.le_of_ble_eq_true rfl, Nat.le_of_ble_eq_true rfl⟩) hP hD hS hA [0, 1] [] rfl rfl rfl (by decide) (fun r_59 u_61 H locs hp_60 hP hD hS => ?_)
    obtain ⟨voth_62, rfl⟩ : ∃ z, z = u_61 := ⟨_, rfl⟩
    have hP : va_P (dC, dI) vwCl [(vo, .inr (12, [.int voth_62, .ref vmt, .int votp, .int vosz, .int volm, .int voto, .int vofr, .int vokd, .int vonu, .int vosg, .int vofa, .int vopl, .long vowd, .int votd, .ref vmn, .ref vmr, .ref vmk, .ref vms, .ref vma, .ref vmm, .ref vmrn, .ref vmkn, .ref vmik, .ref vmon, .int vosm, .int vohp, .ref vmw, .ref vmf, .ref vmb, .int vomb, .ref vmd, .ref vmc, .int vocm, .int voct, .int vocy, .ref vmx, .int votx, .int vose, .ref vml, .ref vmwr, .int voln, .int vohw, .ref vmno, .int vond, .int voon, .int vowi, .int votop])), (vmn, .inl (cy 0, 575, .inl vmnf))] H := hP
    have hD : va_D A [(vo, .inr (12, [.int voth_62, .ref vmt, .int votp, .int vosz, .int volm, .int voto, .int vofr, .int vokd, .int vonu, .int vosg, .int vofa, .int vopl, .long vowd, .int votd, .ref vmn, .ref vmr, .ref vmk, .ref vms, .ref vma, .ref vmm, .ref vmrn, .ref vmkn, .ref vmik, .ref vmon, .int vosm, .int vohp, .ref vmw, .ref vmf, .ref vmb, .int vomb, .ref vmd, .ref vmc, .int vocm, .int voct, .int vocy, .ref vmx, .int votx, .int vose, .ref vml, .ref vmwr, .int voln, .int vohw, .ref vmno, .int vond, .int voon, .int vowi, .int votop])), (vmn, .inl (cy 0, 575, .inl vmnf))] := hD
    refine lv_iload_n hx hb dX11_holds_283 rfl (lv_at hl 5 rfl) ?_
    refine jr_i (rSr (As := [.int r_59, .int vp]) (rest := []) ⟨hx, hb, hml, hown, hts⟩ (m_has l dC dI cy r_59 vp ) (cw_X11_194 hts rfl rfl ⟨Nat.le_of_ble_eq_true rfl, Nat.le_of_ble_eq_true rfl⟩) hP hK [] rfl rfl hl.1 rfl (Nat.le_of_ble_eq_true rfl) dX11_holds_284 ⟨Nat.le_of_ble_eq_true rfl, Nat.le_of_ble_eq_true rfl⟩) hP hS (fun r_63 H locs hp_64 hP hS => ?_)
    have hp_64 : ((r_63 = 0) ∨ (r_63 = 1)) := hp_64
    have q_65 := hp_64
    rcases q_65 with aq_65 | aq_65
    · skip
      refine as_i 0 aq_65 ?_
      have k_0 : (0 : Int32).toInt = 0 := by decide
      rw [hQ9]
      exact re_z voth_62 hx hb hr hlocks (Or.inl rfl) (show ((0 : Int32) = 0) ∨ ((0 : Int32) = 1) from (Or.inl rfl)) (hP.sub [0, 1] rfl) (hD.sub [0, 1] rfl rfl) hS dX11_holds_287
    · skip
      refine as_i 1 aq_65 ?_
      rw [hQ9]
      exact re_z voth_62 hx hb hr hlocks (Or.inr rfl) (show ((1 : Int32) = 0) ∨ ((1 : Int32) = 1) from (Or.inr (rfl))) (hP.sub [0, 1] rfl) (hD.sub [0, 1] rfl rfl) hS dX11_holds_287
  have nsw_11_1 : ¬ ((1 : Int) = z_10.toInt) := by omega
  have nsw_11_2 : ¬ ((2 : Int) = z_10.toInt) := by omega
  have nsw_11_3 : ¬ ((3 : Int) = z_10.toInt) := by omega
  have nsw_11_68 : ¬ ((68 : Int) = z_10.toInt) := by omega
  have nsw_11_69 : ¬ ((69 : Int) = z_10.toInt) := by omega
  have nsw_11_70 : ¬ ((70 : Int) = z_10.toInt) := by omega
  have nsw_11_71 : ¬ ((71 : Int) = z_10.toInt) := by omega
  have nsw_11_72 : ¬ ((72 : Int) = z_10.toInt) := by omega
  have nsw_11_73 : ¬ ((73 : Int) = z_10.toInt) := by omega
  have nsw_11_74 : ¬ ((74 : Int) = z_10.toInt) := by omega
  refine lv_lookup (off := 254) (tgt := 288) hx hb dX11_holds_34 (by decide) (by simp only [Op.lookupswitch.offset, if_neg nsw_11_1, if_neg nsw_11_2, if_neg nsw_11_3, if_neg nsw_11_68, if_neg nsw_11_69, if_neg nsw_11_70, if_neg nsw_11_71, if_neg nsw_11_72, if_neg nsw_11_73, if_neg nsw_11_74]) (by decide) ?_
  refine lv_aload_n hx hb dX11_holds_288 rfl (lv_at hl 3 rfl) ?_
  refine gf_X11_98 hx hb hts hown hK hP 0 rfl rfl dX11_holds_289 ?_
  refine lv_iload_n hx hb dX11_holds_292 rfl (lv_at hl 2 rfl) ?_
  have hin_66 : vp_in z_2 575 := vp_in_iff.mpr ⟨by omega, by omega⟩
  refine va_iald hx hb hK hP 1 0 rfl rfl hin_66 dX11_holds_293 ?_
  refine lv_topi (fun z_67 ez_67 => ?_)
  refine lv_bipush (v := 50) hx hb dX11_holds_294 (by decide) ?_
  refine lv_isub hx hb dX11_holds_296 ?_
  refine lv_topi (fun z_68 ez_68 => ?_)
  refine lv_istore (lv' := [(6, .int z_68), (5, .int z_8), (4, .int z_5), (3, .int z_2), (0, .ref vo), (1, .int vk), (2, .int vp)]) hx hb dX11_holds_297 hl (by decide) rfl (fun ls hl => ?_)
  refine lv_iload hx hb dX11_holds_299 (lv_at hl 0 rfl) ?_
  refine lv_bipush (v := 25) hx hb dX11_holds_301 (by decide) ?_
  have k_25 : (25 : Int32).toInt = 25 := by decide
  refine lv_icmp_ne (tgt := 314) hx hb dX11_holds_303 (by decide) (fun c_69 => ?_) (fun c_69 => ?_)
  · skip
    have c_69 : ¬ (z_68.toInt = (25 : Int32).toInt) := fun h9 => c_69 (i_eq.mpr h9)
    refine lv_iload hx hb dX11_holds_314 (lv_at hl 0 rfl) ?_
    refine lv_bipush (v := 26) hx hb dX11_holds_316 (by decide) ?_
    have k_26 : (26 : Int32).toInt = 26 := by decide
    refine lv_icmp_ne (tgt := 329) hx hb dX11_holds_318 (by decide) (fun c_70 => ?_) (fun c_70 => ?_)
    · skip
      have c_70 : ¬ (z_68.toInt = (26 : Int32).toInt) := fun h9 => c_70 (i_eq.mpr h9)
      refine lv_iload hx hb dX11_holds_329 (lv_at hl 0 rfl) ?_
      refine lv_bipush (v := 27) hx hb dX11_holds_331 (by decide) ?_
      have k_27 : (27 : Int32).toInt = 27 := by decide
      refine lv_icmp_ne (tgt := 349) hx hb dX11_holds_333 (by decide) (fun c_71 => ?_) (fun c_71 => ?_)
      · skip
        have c_71 : ¬ (z_68.toInt = (27 : Int32).toInt) := fun h9 => c_71 (i_eq.mpr h9)
        refine lv_iload_n hx hb dX11_holds_349 rfl (lv_at hl 6 rfl) ?_
        refine lv_istore (lv' := [(7, .int vp), (6, .int z_68), (5, .int z_8), (4, .int z_5), (3, .int z_2), (0, .ref vo), (1, .int vk), (2, .int vp)]) hx hb dX11_holds_350 hl (by decide) rfl (fun ls hl => ?_)
        refine lv_aload_n hx hb dX11_holds_352 rfl (lv_at hl 5 rfl) ?_
        refine gf_X11_98 hx hb hts hown hK hP 0 rfl rfl dX11_holds_353 ?_
        refine lv_iload_n hx hb dX11_holds_356 rfl (lv_at hl 4 rfl) ?_
        refine lv_iconst (v := 3) hx hb dX11_holds_357 (by decide) ?_
        refine lv_iadd hx hb dX11_holds_358 ?_
        refine lv_topi (fun z_72 ez_72 => ?_)
        have bz_72 : z_72.toInt = z_2.toInt + (3 : Int32).toInt := i_add ez_72 (by omega) (by omega)
        have hin_73 : vp_in z_72 575 := vp_in_iff.mpr ⟨by omega, by omega⟩
        refine va_iald hx hb hK hP 1 0 rfl rfl hin_73 dX11_holds_359 ?_
        refine lv_topi (fun z_74 ez_74 => ?_)
        refine lv_bipush (v := 60) hx hb dX11_holds_360 (by decide) ?_
        have k_60 : (60 : Int32).toInt = 60 := by decide
        refine lv_icmp_ne (tgt := 380) hx hb dX11_holds_362 (by decide) (fun c_75 => ?_) (fun c_75 => ?_)
        · skip
          have c_75 : ¬ (z_74.toInt = (60 : Int32).toInt) := fun h9 => c_75 (i_eq.mpr h9)
          refine lv_aload_n hx hb dX11_holds_380 rfl (lv_at hl 5 rfl) ?_
          refine gf_X11_98 hx hb hts hown hK hP 0 rfl rfl dX11_holds_381 ?_
          refine lv_iload_n hx hb dX11_holds_384 rfl (lv_at hl 4 rfl) ?_
          refine lv_iconst (v := 3) hx hb dX11_holds_385 (by decide) ?_
          refine lv_iadd hx hb dX11_holds_386 ?_
          refine lv_topi (fun z_76 ez_76 => ?_)
          have bz_76 : z_76.toInt = z_2.toInt + (3 : Int32).toInt := i_add ez_76 (by omega) (by omega)
          have hin_77 : vp_in z_76 575 := vp_in_iff.mpr ⟨by omega, by omega⟩
          refine va_iald hx hb hK hP 1 0 rfl rfl hin_77 dX11_holds_387 ?_
          refine lv_topi (fun z_78 ez_78 => ?_)
          refine lv_bipush (v := 61) hx hb dX11_holds_388 (by decide) ?_
          have k_61 : (61 : Int32).toInt = 61 := by decide
          refine lv_icmp_ne (tgt := 408) hx hb dX11_holds_390 (by decide) (fun c_79 => ?_) (fun c_79 => ?_)
          · skip
            have c_79 : ¬ (z_78.toInt = (61 : Int32).toInt) := fun h9 => c_79 (i_eq.mpr h9)
            refine lv_iload hx hb dX11_holds_408 (lv_at hl 0 rfl) ?_
            refine lv_iload hx hb dX11_holds_410 (lv_at hl 2 rfl) ?_
            refine lv_icmp_le (tgt := 419) hx hb dX11_holds_412 (by decide) (fun c_80 => ?_) (fun c_80 => ?_)
            · skip
              have c_80 : vp.toInt ≤ z_8.toInt := i_le.mp c_80
              refine lv_iconst (v := 0) hx hb dX11_holds_419 (by decide) ?_
              have k_0 : (0 : Int32).toInt = 0 := by decide
              rw [hQ9]
              exact re_z voth hx hb hr hlocks (Or.inl rfl) (show ((0 : Int32) = 0) ∨ ((0 : Int32) = 1) from (Or.inl rfl)) (hP.sub [0, 1] rfl) (hD.sub [0, 1] rfl rfl) hS dX11_holds_420
            · skip
              have c_80 : ¬ (vp.toInt ≤ z_8.toInt) := fun h9 => c_80 (i_le.mpr h9)
              refine lv_iconst (v := 1) hx hb dX11_holds_415 (by decide) ?_
              refine lv_goto (tgt := 420) hx hb dX11_holds_416 (by decide) ?_
              rw [hQ9]
              exact re_z voth hx hb hr hlocks (Or.inr rfl) (show ((1 : Int32) = 0) ∨ ((1 : Int32) = 1) from (Or.inr (rfl))) (hP.sub [0, 1] rfl) (hD.sub [0, 1] rfl rfl) hS dX11_holds_420
          · skip
            have c_79 : z_78.toInt = (61 : Int32).toInt := i_eq.mp c_79
            refine lv_iload hx hb dX11_holds_393 (lv_at hl 0 rfl) ?_
            refine lv_iload hx hb dX11_holds_395 (lv_at hl 2 rfl) ?_
            refine lv_icmp_ne (tgt := 404) hx hb dX11_holds_397 (by decide) (fun c_81 => ?_) (fun c_81 => ?_)
            · skip
              have c_81 : ¬ (vp.toInt = z_8.toInt) := fun h9 => c_81 (i_eq.mpr h9)
              refine lv_iconst (v := 0) hx hb dX11_holds_404 (by decide) ?_
              refine lv_goto (tgt := 420) hx hb dX11_holds_405 (by decide) ?_
              have k_0 : (0 : Int32).toInt = 0 := by decide
              rw [hQ9]
              exact re_z voth hx hb hr hlocks (Or.inl rfl) (show ((0 : Int32) = 0) ∨ ((0 : Int32) = 1) from (Or.inl rfl)) (hP.sub [0, 1] rfl) (hD.sub [0, 1] rfl rfl) hS dX11_holds_420
            · skip
              have c_81 : vp.toInt = z_8.toInt := i_eq.mp c_81
              refine lv_iconst (v := 1) hx hb dX11_holds_400 (by decide) ?_
              refine lv_goto (tgt := 420) hx hb dX11_holds_401 (by decide) ?_
              rw [hQ9]
              exact re_z voth hx hb hr hlocks (Or.inr rfl) (show ((1 : Int32) = 0) ∨ ((1 : Int32) = 1) from (Or.inr (rfl))) (hP.sub [0, 1] rfl) (hD.sub [0, 1] rfl rfl) hS dX11_holds_420
        · skip
          have c_75 : z_74.toInt = (60 : Int32).toInt := i_eq.mp c_75
          refine lv_iload hx hb dX11_holds_365 (lv_at hl 0 rfl) ?_
          refine lv_iload hx hb dX11_holds_367 (lv_at hl 2 rfl) ?_
          refine lv_icmp_ge (tgt := 376) hx hb dX11_holds_369 (by decide) (fun c_82 => ?_) (fun c_82 => ?_)
          · skip
            have c_82 : z_8.toInt ≤ vp.toInt := i_le.mp c_82
            refine lv_iconst (v := 0) hx hb dX11_holds_376 (by decide) ?_
            refine lv_goto (tgt := 420) hx hb dX11_holds_377 (by decide) ?_
            have k_0 : (0 : Int32).toInt = 0 := by decide
            rw [hQ9]
            exact re_z voth hx hb hr hlocks (Or.inl rfl) (show ((0 : Int32) = 0) ∨ ((0 : Int32) = 1) from (Or.inl rfl)) (hP.sub [0, 1] rfl) (hD.sub [0, 1] rfl rfl) hS dX11_holds_420
          · skip
            have c_82 : ¬ (z_8.toInt ≤ vp.toInt) := fun h9 => c_82 (i_le.mpr h9)
            refine lv_iconst (v := 1) hx hb dX11_holds_372 (by decide) ?_
            refine lv_goto (tgt := 420) hx hb dX11_holds_373 (by decide) ?_
            rw [hQ9]
            exact re_z voth hx hb hr hlocks (Or.inr rfl) (show ((1 : Int32) = 0) ∨ ((1 : Int32) = 1) from (Or.inr (rfl))) (hP.sub [0, 1] rfl) (hD.sub [0, 1] rfl rfl) hS dX11_holds_420
      · skip
        have c_71 : z_68.toInt = (27 : Int32).toInt := i_eq.mp c_71
        refine lv_aload_n hx hb dX11_holds_336 rfl (lv_at hl 4 rfl) ?_
        refine gf_X11_98 hx hb hts hown hK hP 0 rfl rfl dX11_holds_337 ?_
        refine lv_sipush (v := 158) hx hb dX11_holds_340 (by decide) ?_
        refine lv_iload_n hx hb dX11_holds_343 rfl (lv_at hl 6 rfl) ?_
        refine lv_iadd hx hb dX11_holds_344 ?_
        refine lv_topi (fun z_83 ez_83 => ?_)
        have k_158 : (158 : Int32).toInt = 158 := by decide
        have bz_83 : z_83.toInt = (158 : Int32).toInt + vp.toInt := i_add ez_83 (by omega) (by omega)
        have hin_84 : vp_in z_83 575 := vp_in_iff.mpr ⟨by omega, by omega⟩
        refine va_iald hx hb hK hP 1 0 rfl rfl hin_84 dX11_holds_345 ?_
        refine lv_topi (fun z_85 ez_85 => ?_)
        refine lv_goto (tgt := 350) hx hb dX11_holds_346 (by decide) ?_
        refine lv_istore (lv' := [(7, .int z_85), (6, .int z_68), (5, .int z_8), (4, .int z_5), (3, .int z_2), (0, .ref vo), (1, .int vk), (2, .int vp)]) hx hb dX11_holds_350 hl (by decide) rfl (fun ls hl => ?_)
        refine lv_aload_n hx hb dX11_holds_352 rfl (lv_at hl 5 rfl) ?_
        refine gf_X11_98 hx hb hts hown hK hP 0 rfl rfl dX11_holds_353 ?_
        refine lv_iload_n hx hb dX11_holds_356 rfl (lv_at hl 4 rfl) ?_
        refine lv_iconst (v := 3) hx hb dX11_holds_357 (by decide) ?_
        refine lv_iadd hx hb dX11_holds_358 ?_
        refine lv_topi (fun z_86 ez_86 => ?_)
        have bz_86 : z_86.toInt = z_2.toInt + (3 : Int32).toInt := i_add ez_86 (by omega) (by omega)
        have hin_87 : vp_in z_86 575 := vp_in_iff.mpr ⟨by omega, by omega⟩
        refine va_iald hx hb hK hP 1 0 rfl rfl hin_87 dX11_holds_359 ?_
        refine lv_topi (fun z_88 ez_88 => ?_)
        refine lv_bipush (v := 60) hx hb dX11_holds_360 (by decide) ?_
        have k_60 : (60 : Int32).toInt = 60 := by decide
        refine lv_icmp_ne (tgt := 380) hx hb dX11_holds_362 (by decide) (fun c_89 => ?_) (fun c_89 => ?_)
        · skip
          have c_89 : ¬ (z_88.toInt = (60 : Int32).toInt) := fun h9 => c_89 (i_eq.mpr h9)
          refine lv_aload_n hx hb dX11_holds_380 rfl (lv_at hl 5 rfl) ?_
          refine gf_X11_98 hx hb hts hown hK hP 0 rfl rfl dX11_holds_381 ?_
          refine lv_iload_n hx hb dX11_holds_384 rfl (lv_at hl 4 rfl) ?_
          refine lv_iconst (v := 3) hx hb dX11_holds_385 (by decide) ?_
          refine lv_iadd hx hb dX11_holds_386 ?_
          refine lv_topi (fun z_90 ez_90 => ?_)
          have bz_90 : z_90.toInt = z_2.toInt + (3 : Int32).toInt := i_add ez_90 (by omega) (by omega)
          have hin_91 : vp_in z_90 575 := vp_in_iff.mpr ⟨by omega, by omega⟩
          refine va_iald hx hb hK hP 1 0 rfl rfl hin_91 dX11_holds_387 ?_
          refine lv_topi (fun z_92 ez_92 => ?_)
          refine lv_bipush (v := 61) hx hb dX11_holds_388 (by decide) ?_
          have k_61 : (61 : Int32).toInt = 61 := by decide
          refine lv_icmp_ne (tgt := 408) hx hb dX11_holds_390 (by decide) (fun c_93 => ?_) (fun c_93 => ?_)
          · skip
            have c_93 : ¬ (z_92.toInt = (61 : Int32).toInt) := fun h9 => c_93 (i_eq.mpr h9)
            refine lv_iload hx hb dX11_holds_408 (lv_at hl 0 rfl) ?_
            refine lv_iload hx hb dX11_holds_410 (lv_at hl 2 rfl) ?_
            refine lv_icmp_le (tgt := 419) hx hb dX11_holds_412 (by decide) (fun c_94 => ?_) (fun c_94 => ?_)
            · skip
              have c_94 : z_85.toInt ≤ z_8.toInt := i_le.mp c_94
              refine lv_iconst (v := 0) hx hb dX11_holds_419 (by decide) ?_
              have k_0 : (0 : Int32).toInt = 0 := by decide
              rw [hQ9]
              exact re_z voth hx hb hr hlocks (Or.inl rfl) (show ((0 : Int32) = 0) ∨ ((0 : Int32) = 1) from (Or.inl rfl)) (hP.sub [0, 1] rfl) (hD.sub [0, 1] rfl rfl) hS dX11_holds_420
            · skip
              have c_94 : ¬ (z_85.toInt ≤ z_8.toInt) := fun h9 => c_94 (i_le.mpr h9)
              refine lv_iconst (v := 1) hx hb dX11_holds_415 (by decide) ?_
              refine lv_goto (tgt := 420) hx hb dX11_holds_416 (by decide) ?_
              rw [hQ9]
              exact re_z voth hx hb hr hlocks (Or.inr rfl) (show ((1 : Int32) = 0) ∨ ((1 : Int32) = 1) from (Or.inr (rfl))) (hP.sub [0, 1] rfl) (hD.sub [0, 1] rfl rfl) hS dX11_holds_420
          · skip
            have c_93 : z_92.toInt = (61 : Int32).toInt := i_eq.mp c_93
            refine lv_iload hx hb dX11_holds_393 (lv_at hl 0 rfl) ?_
            refine lv_iload hx hb dX11_holds_395 (lv_at hl 2 rfl) ?_
            refine lv_icmp_ne (tgt := 404) hx hb dX11_holds_397 (by decide) (fun c_95 => ?_) (fun c_95 => ?_)
            · skip
              have c_95 : ¬ (z_85.toInt = z_8.toInt) := fun h9 => c_95 (i_eq.mpr h9)
              refine lv_iconst (v := 0) hx hb dX11_holds_404 (by decide) ?_
              refine lv_goto (tgt := 420) hx hb dX11_holds_405 (by decide) ?_
              have k_0 : (0 : Int32).toInt = 0 := by decide
              rw [hQ9]
              exact re_z voth hx hb hr hlocks (Or.inl rfl) (show ((0 : Int32) = 0) ∨ ((0 : Int32) = 1) from (Or.inl rfl)) (hP.sub [0, 1] rfl) (hD.sub [0, 1] rfl rfl) hS dX11_holds_420
            · skip
              have c_95 : z_85.toInt = z_8.toInt := i_eq.mp c_95
              refine lv_iconst (v := 1) hx hb dX11_holds_400 (by decide) ?_
              refine lv_goto (tgt := 420) hx hb dX11_holds_401 (by decide) ?_
              rw [hQ9]
              exact re_z voth hx hb hr hlocks (Or.inr rfl) (show ((1 : Int32) = 0) ∨ ((1 : Int32) = 1) from (Or.inr (rfl))) (hP.sub [0, 1] rfl) (hD.sub [0, 1] rfl rfl) hS dX11_holds_420
        · skip
          have c_89 : z_88.toInt = (60 : Int32).toInt := i_eq.mp c_89
          refine lv_iload hx hb dX11_holds_365 (lv_at hl 0 rfl) ?_
          refine lv_iload hx hb dX11_holds_367 (lv_at hl 2 rfl) ?_
          refine lv_icmp_ge (tgt := 376) hx hb dX11_holds_369 (by decide) (fun c_96 => ?_) (fun c_96 => ?_)
          · skip
            have c_96 : z_8.toInt ≤ z_85.toInt := i_le.mp c_96
            refine lv_iconst (v := 0) hx hb dX11_holds_376 (by decide) ?_
            refine lv_goto (tgt := 420) hx hb dX11_holds_377 (by decide) ?_
            have k_0 : (0 : Int32).toInt = 0 := by decide
            rw [hQ9]
            exact re_z voth hx hb hr hlocks (Or.inl rfl) (show ((0 : Int32) = 0) ∨ ((0 : Int32) = 1) from (Or.inl rfl)) (hP.sub [0, 1] rfl) (hD.sub [0, 1] rfl rfl) hS dX11_holds_420
          · skip
            have c_96 : ¬ (z_8.toInt ≤ z_85.toInt) := fun h9 => c_96 (i_le.mpr h9)
            refine lv_iconst (v := 1) hx hb dX11_holds_372 (by decide) ?_
            refine lv_goto (tgt := 420) hx hb dX11_holds_373 (by decide) ?_
            rw [hQ9]
            exact re_z voth hx hb hr hlocks (Or.inr rfl) (show ((1 : Int32) = 0) ∨ ((1 : Int32) = 1) from (Or.inr (rfl))) (hP.sub [0, 1] rfl) (hD.sub [0, 1] rfl rfl) hS dX11_holds_420
    · skip
      have c_70 : z_68.toInt = (26 : Int32).toInt := i_eq.mp c_70
      refine lv_aload_n hx hb dX11_holds_321 rfl (lv_at hl 4 rfl) ?_
      refine lv_iload_n hx hb dX11_holds_322 rfl (lv_at hl 6 rfl) ?_
      refine jr_i (rVr (As := [.int vp]) (rest := []) (ci := 12) ⟨hx, hb, hml, hown, hts⟩ (m_darkOf l dC dI cy vnh vo voth vmt votp vosz volm voto vofr vokd vonu vosg vofa vopl vowd votd vmn vmr vmk vms vma vmm vmrn vmkn vmik vmon vosm vohp vmw vmf vmb vomb vmd vmc vocm voct vocy vmx votx vose vml vmwr voln vohw vmno vond voon vowi votop vmnf vp ⟨by omega, by omega⟩ p_vmnf) (cw_X11_244 hts rfl rfl ⟨Nat.le_of_ble_eq_true rfl, Nat.le_of_ble_eq_true rfl⟩) hP hK [0, 1] rfl rfl rfl rfl hl.1 rfl (Nat.le_of_ble_eq_true rfl) dX11_holds_323 ⟨Nat.le_of_ble_eq_true rfl, Nat.le_of_ble_eq_true rfl⟩) hP hS (fun r_97 H locs hp_98 hP hS => ?_)
      refine lv_goto (tgt := 350) hx hb dX11_holds_326 (by decide) ?_
      refine lv_istore (lv' := [(7, .int r_97), (6, .int z_68), (5, .int z_8), (4, .int z_5), (3, .int z_2), (0, .ref vo), (1, .int vk), (2, .int vp)]) hx hb dX11_holds_350 hl (by decide) rfl (fun ls hl => ?_)
      refine lv_aload_n hx hb dX11_holds_352 rfl (lv_at hl 5 rfl) ?_
      refine gf_X11_98 hx hb hts hown hK hP 0 rfl rfl dX11_holds_353 ?_
      refine lv_iload_n hx hb dX11_holds_356 rfl (lv_at hl 4 rfl) ?_
      refine lv_iconst (v := 3) hx hb dX11_holds_357 (by decide) ?_
      refine lv_iadd hx hb dX11_holds_358 ?_
      refine lv_topi (fun z_99 ez_99 => ?_)
      have bz_99 : z_99.toInt = z_2.toInt + (3 : Int32).toInt := i_add ez_99 (by omega) (by omega)
      have hin_100 : vp_in z_99 575 := vp_in_iff.mpr ⟨by omega, by omega⟩
      refine va_iald hx hb hK hP 1 0 rfl rfl hin_100 dX11_holds_359 ?_
      refine lv_topi (fun z_101 ez_101 => ?_)
      refine lv_bipush (v := 60) hx hb dX11_holds_360 (by decide) ?_
      have k_60 : (60 : Int32).toInt = 60 := by decide
      refine lv_icmp_ne (tgt := 380) hx hb dX11_holds_362 (by decide) (fun c_102 => ?_) (fun c_102 => ?_)
      · skip
        have c_102 : ¬ (z_101.toInt = (60 : Int32).toInt) := fun h9 => c_102 (i_eq.mpr h9)
        refine lv_aload_n hx hb dX11_holds_380 rfl (lv_at hl 5 rfl) ?_
        refine gf_X11_98 hx hb hts hown hK hP 0 rfl rfl dX11_holds_381 ?_
        refine lv_iload_n hx hb dX11_holds_384 rfl (lv_at hl 4 rfl) ?_
        refine lv_iconst (v := 3) hx hb dX11_holds_385 (by decide) ?_
        refine lv_iadd hx hb dX11_holds_386 ?_
        refine lv_topi (fun z_103 ez_103 => ?_)
        have bz_103 : z_103.toInt = z_2.toInt + (3 : Int32).toInt := i_add ez_103 (by omega) (by omega)
        have hin_104 : vp_in z_103 575 := vp_in_iff.mpr ⟨by omega, by omega⟩
        refine va_iald hx hb hK hP 1 0 rfl rfl hin_104 dX11_holds_387 ?_
        refine lv_topi (fun z_105 ez_105 => ?_)
        refine lv_bipush (v := 61) hx hb dX11_holds_388 (by decide) ?_
        have k_61 : (61 : Int32).toInt = 61 := by decide
        refine lv_icmp_ne (tgt := 408) hx hb dX11_holds_390 (by decide) (fun c_106 => ?_) (fun c_106 => ?_)
        · skip
          have c_106 : ¬ (z_105.toInt = (61 : Int32).toInt) := fun h9 => c_106 (i_eq.mpr h9)
          refine lv_iload hx hb dX11_holds_408 (lv_at hl 0 rfl) ?_
          refine lv_iload hx hb dX11_holds_410 (lv_at hl 2 rfl) ?_
          refine lv_icmp_le (tgt := 419) hx hb dX11_holds_412 (by decide) (fun c_107 => ?_) (fun c_107 => ?_)
          · skip
            have c_107 : r_97.toInt ≤ z_8.toInt := i_le.mp c_107
            refine lv_iconst (v := 0) hx hb dX11_holds_419 (by decide) ?_
            have k_0 : (0 : Int32).toInt = 0 := by decide
            rw [hQ9]
            exact re_z voth hx hb hr hlocks (Or.inl rfl) (show ((0 : Int32) = 0) ∨ ((0 : Int32) = 1) from (Or.inl rfl)) (hP.sub [0, 1] rfl) (hD.sub [0, 1] rfl rfl) hS dX11_holds_420
          · skip
            have c_107 : ¬ (r_97.toInt ≤ z_8.toInt) := fun h9 => c_107 (i_le.mpr h9)
            refine lv_iconst (v := 1) hx hb dX11_holds_415 (by decide) ?_
            refine lv_goto (tgt := 420) hx hb dX11_holds_416 (by decide) ?_
            rw [hQ9]
            exact re_z voth hx hb hr hlocks (Or.inr rfl) (show ((1 : Int32) = 0) ∨ ((1 : Int32) = 1) from (Or.inr (rfl))) (hP.sub [0, 1] rfl) (hD.sub [0, 1] rfl rfl) hS dX11_holds_420
        · skip
          have c_106 : z_105.toInt = (61 : Int32).toInt := i_eq.mp c_106
          refine lv_iload hx hb dX11_holds_393 (lv_at hl 0 rfl) ?_
          refine lv_iload hx hb dX11_holds_395 (lv_at hl 2 rfl) ?_
          refine lv_icmp_ne (tgt := 404) hx hb dX11_holds_397 (by decide) (fun c_108 => ?_) (fun c_108 => ?_)
          · skip
            have c_108 : ¬ (r_97.toInt = z_8.toInt) := fun h9 => c_108 (i_eq.mpr h9)
            refine lv_iconst (v := 0) hx hb dX11_holds_404 (by decide) ?_
            refine lv_goto (tgt := 420) hx hb dX11_holds_405 (by decide) ?_
            have k_0 : (0 : Int32).toInt = 0 := by decide
            rw [hQ9]
            exact re_z voth hx hb hr hlocks (Or.inl rfl) (show ((0 : Int32) = 0) ∨ ((0 : Int32) = 1) from (Or.inl rfl)) (hP.sub [0, 1] rfl) (hD.sub [0, 1] rfl rfl) hS dX11_holds_420
          · skip
            have c_108 : r_97.toInt = z_8.toInt := i_eq.mp c_108
            refine lv_iconst (v := 1) hx hb dX11_holds_400 (by decide) ?_
            refine lv_goto (tgt := 420) hx hb dX11_holds_401 (by decide) ?_
            rw [hQ9]
            exact re_z voth hx hb hr hlocks (Or.inr rfl) (show ((1 : Int32) = 0) ∨ ((1 : Int32) = 1) from (Or.inr (rfl))) (hP.sub [0, 1] rfl) (hD.sub [0, 1] rfl rfl) hS dX11_holds_420
      · skip
        have c_102 : z_101.toInt = (60 : Int32).toInt := i_eq.mp c_102
        refine lv_iload hx hb dX11_holds_365 (lv_at hl 0 rfl) ?_
        refine lv_iload hx hb dX11_holds_367 (lv_at hl 2 rfl) ?_
        refine lv_icmp_ge (tgt := 376) hx hb dX11_holds_369 (by decide) (fun c_109 => ?_) (fun c_109 => ?_)
        · skip
          have c_109 : z_8.toInt ≤ r_97.toInt := i_le.mp c_109
          refine lv_iconst (v := 0) hx hb dX11_holds_376 (by decide) ?_
          refine lv_goto (tgt := 420) hx hb dX11_holds_377 (by decide) ?_
          have k_0 : (0 : Int32).toInt = 0 := by decide
          rw [hQ9]
          exact re_z voth hx hb hr hlocks (Or.inl rfl) (show ((0 : Int32) = 0) ∨ ((0 : Int32) = 1) from (Or.inl rfl)) (hP.sub [0, 1] rfl) (hD.sub [0, 1] rfl rfl) hS dX11_holds_420
        · skip
          have c_109 : ¬ (z_8.toInt ≤ r_97.toInt) := fun h9 => c_109 (i_le.mpr h9)
          refine lv_iconst (v := 1) hx hb dX11_holds_372 (by decide) ?_
          refine lv_goto (tgt := 420) hx hb dX11_holds_373 (by decide) ?_
          rw [hQ9]
          exact re_z voth hx hb hr hlocks (Or.inr rfl) (show ((1 : Int32) = 0) ∨ ((1 : Int32) = 1) from (Or.inr (rfl))) (hP.sub [0, 1] rfl) (hD.sub [0, 1] rfl rfl) hS dX11_holds_420
  · skip
    have c_69 : z_68.toInt = (25 : Int32).toInt := i_eq.mp c_69
    refine lv_aload_n hx hb dX11_holds_306 rfl (lv_at hl 4 rfl) ?_
    refine lv_iload_n hx hb dX11_holds_307 rfl (lv_at hl 6 rfl) ?_
    refine jr_i (rVr (As := [.int vp]) (rest := []) (ci := 12) ⟨hx, hb, hml, hown, hts⟩ (m_whiteOf l dC dI cy vnh vo voth vmt votp vosz volm voto vofr vokd vonu vosg vofa vopl vowd votd vmn vmr vmk vms vma vmm vmrn vmkn vmik vmon vosm vohp vmw vmf vmb vomb vmd vmc vocm voct vocy vmx votx vose vml vmwr voln vohw vmno vond voon vowi votop vmnf vp ⟨by omega, by omega⟩ p_vmnf) (cw_X11_241 hts rfl rfl ⟨Nat.le_of_ble_eq_true rfl, Nat.le_of_ble_eq_true rfl⟩) hP hK [0, 1] rfl rfl rfl rfl hl.1 rfl (Nat.le_of_ble_eq_true rfl) dX11_holds_308 ⟨Nat.le_of_ble_eq_true rfl, Nat.le_of_ble_eq_true rfl⟩) hP hS (fun r_110 H locs hp_111 hP hS => ?_)
    refine lv_goto (tgt := 350) hx hb dX11_holds_311 (by decide) ?_
    refine lv_istore (lv' := [(7, .int r_110), (6, .int z_68), (5, .int z_8), (4, .int z_5), (3, .int z_2), (0, .ref vo), (1, .int vk), (2, .int vp)]) hx hb dX11_holds_350 hl (by decide) rfl (fun ls hl => ?_)
    refine lv_aload_n hx hb dX11_holds_352 rfl (lv_at hl 5 rfl) ?_
    refine gf_X11_98 hx hb hts hown hK hP 0 rfl rfl dX11_holds_353 ?_
    refine lv_iload_n hx hb dX11_holds_356 rfl (lv_at hl 4 rfl) ?_
    refine lv_iconst (v := 3) hx hb dX11_holds_357 (by decide) ?_
    refine lv_iadd hx hb dX11_holds_358 ?_
    refine lv_topi (fun z_112 ez_112 => ?_)
    have bz_112 : z_112.toInt = z_2.toInt + (3 : Int32).toInt := i_add ez_112 (by omega) (by omega)
    have hin_113 : vp_in z_112 575 := vp_in_iff.mpr ⟨by omega, by omega⟩
    refine va_iald hx hb hK hP 1 0 rfl rfl hin_113 dX11_holds_359 ?_
    refine lv_topi (fun z_114 ez_114 => ?_)
    refine lv_bipush (v := 60) hx hb dX11_holds_360 (by decide) ?_
    have k_60 : (60 : Int32).toInt = 60 := by decide
    refine lv_icmp_ne (tgt := 380) hx hb dX11_holds_362 (by decide) (fun c_115 => ?_) (fun c_115 => ?_)
    · skip
      have c_115 : ¬ (z_114.toInt = (60 : Int32).toInt) := fun h9 => c_115 (i_eq.mpr h9)
      refine lv_aload_n hx hb dX11_holds_380 rfl (lv_at hl 5 rfl) ?_
      refine gf_X11_98 hx hb hts hown hK hP 0 rfl rfl dX11_holds_381 ?_
      refine lv_iload_n hx hb dX11_holds_384 rfl (lv_at hl 4 rfl) ?_
      refine lv_iconst (v := 3) hx hb dX11_holds_385 (by decide) ?_
      refine lv_iadd hx hb dX11_holds_386 ?_
      refine lv_topi (fun z_116 ez_116 => ?_)
      have bz_116 : z_116.toInt = z_2.toInt + (3 : Int32).toInt := i_add ez_116 (by omega) (by omega)
      have hin_117 : vp_in z_116 575 := vp_in_iff.mpr ⟨by omega, by omega⟩
      refine va_iald hx hb hK hP 1 0 rfl rfl hin_117 dX11_holds_387 ?_
      refine lv_topi (fun z_118 ez_118 => ?_)
      refine lv_bipush (v := 61) hx hb dX11_holds_388 (by decide) ?_
      have k_61 : (61 : Int32).toInt = 61 := by decide
      refine lv_icmp_ne (tgt := 408) hx hb dX11_holds_390 (by decide) (fun c_119 => ?_) (fun c_119 => ?_)
      · skip
        have c_119 : ¬ (z_118.toInt = (61 : Int32).toInt) := fun h9 => c_119 (i_eq.mpr h9)
        refine lv_iload hx hb dX11_holds_408 (lv_at hl 0 rfl) ?_
        refine lv_iload hx hb dX11_holds_410 (lv_at hl 2 rfl) ?_
        refine lv_icmp_le (tgt := 419) hx hb dX11_holds_412 (by decide) (fun c_120 => ?_) (fun c_120 => ?_)
        · skip
          have c_120 : r_110.toInt ≤ z_8.toInt := i_le.mp c_120
          refine lv_iconst (v := 0) hx hb dX11_holds_419 (by decide) ?_
          have k_0 : (0 : Int32).toInt = 0 := by decide
          rw [hQ9]
          exact re_z voth hx hb hr hlocks (Or.inl rfl) (show ((0 : Int32) = 0) ∨ ((0 : Int32) = 1) from (Or.inl rfl)) (hP.sub [0, 1] rfl) (hD.sub [0, 1] rfl rfl) hS dX11_holds_420
        · skip
          have c_120 : ¬ (r_110.toInt ≤ z_8.toInt) := fun h9 => c_120 (i_le.mpr h9)
          refine lv_iconst (v := 1) hx hb dX11_holds_415 (by decide) ?_
          refine lv_goto (tgt := 420) hx hb dX11_holds_416 (by decide) ?_
          rw [hQ9]
          exact re_z voth hx hb hr hlocks (Or.inr rfl) (show ((1 : Int32) = 0) ∨ ((1 : Int32) = 1) from (Or.inr (rfl))) (hP.sub [0, 1] rfl) (hD.sub [0, 1] rfl rfl) hS dX11_holds_420
      · skip
        have c_119 : z_118.toInt = (61 : Int32).toInt := i_eq.mp c_119
        refine lv_iload hx hb dX11_holds_393 (lv_at hl 0 rfl) ?_
        refine lv_iload hx hb dX11_holds_395 (lv_at hl 2 rfl) ?_
        refine lv_icmp_ne (tgt := 404) hx hb dX11_holds_397 (by decide) (fun c_121 => ?_) (fun c_121 => ?_)
        · skip
          have c_121 : ¬ (r_110.toInt = z_8.toInt) := fun h9 => c_121 (i_eq.mpr h9)
          refine lv_iconst (v := 0) hx hb dX11_holds_404 (by decide) ?_
          refine lv_goto (tgt := 420) hx hb dX11_holds_405 (by decide) ?_
          have k_0 : (0 : Int32).toInt = 0 := by decide
          rw [hQ9]
          exact re_z voth hx hb hr hlocks (Or.inl rfl) (show ((0 : Int32) = 0) ∨ ((0 : Int32) = 1) from (Or.inl rfl)) (hP.sub [0, 1] rfl) (hD.sub [0, 1] rfl rfl) hS dX11_holds_420
        · skip
          have c_121 : r_110.toInt = z_8.toInt := i_eq.mp c_121
          refine lv_iconst (v := 1) hx hb dX11_holds_400 (by decide) ?_
          refine lv_goto (tgt := 420) hx hb dX11_holds_401 (by decide) ?_
          rw [hQ9]
          exact re_z voth hx hb hr hlocks (Or.inr rfl) (show ((1 : Int32) = 0) ∨ ((1 : Int32) = 1) from (Or.inr (rfl))) (hP.sub [0, 1] rfl) (hD.sub [0, 1] rfl rfl) hS dX11_holds_420
    · skip
      have c_115 : z_114.toInt = (60 : Int32).toInt := i_eq.mp c_115
      refine lv_iload hx hb dX11_holds_365 (lv_at hl 0 rfl) ?_
      refine lv_iload hx hb dX11_holds_367 (lv_at hl 2 rfl) ?_
      refine lv_icmp_ge (tgt := 376) hx hb dX11_holds_369 (by decide) (fun c_122 => ?_) (fun c_122 => ?_)
      · skip
        have c_122 : z_8.toInt ≤ r_110.toInt := i_le.mp c_122
        refine lv_iconst (v := 0) hx hb dX11_holds_376 (by decide) ?_
        refine lv_goto (tgt := 420) hx hb dX11_holds_377 (by decide) ?_
        have k_0 : (0 : Int32).toInt = 0 := by decide
        rw [hQ9]
        exact re_z voth hx hb hr hlocks (Or.inl rfl) (show ((0 : Int32) = 0) ∨ ((0 : Int32) = 1) from (Or.inl rfl)) (hP.sub [0, 1] rfl) (hD.sub [0, 1] rfl rfl) hS dX11_holds_420
      · skip
        have c_122 : ¬ (z_8.toInt ≤ r_110.toInt) := fun h9 => c_122 (i_le.mpr h9)
        refine lv_iconst (v := 1) hx hb dX11_holds_372 (by decide) ?_
        refine lv_goto (tgt := 420) hx hb dX11_holds_373 (by decide) ?_
        rw [hQ9]
        exact re_z voth hx hb hr hlocks (Or.inr rfl) (show ((1 : Int32) = 0) ∨ ((1 : Int32) = 1) from (Or.inr (rfl))) (hP.sub [0, 1] rfl) (hD.sub [0, 1] rfl rfl) hS dX11_holds_420
abbrev O_m_holds_3 (cy : Nat → ClassId) (vnh : Nat → Int32) (vo : Nat) (voth : Int32) (vmt : Nat) (votp : Int32) (vosz : Int32) (volm : Int32) (voto : Int32) (vofr : Int32) (vokd : Int32) (vonu : Int32) (vosg : Int32) (vofa : Int32) (vopl : Int32) (vowd : Int64) (votd : Int32) (vmn : Nat) (vmr : Nat) (vmk : Nat) (vms : Nat) (vma : Nat) (vmm : Nat) (vmrn : Nat) (vmkn : Nat) (vmik : Nat) (vmon : Nat) (vosm : Int32) (vohp : Int32) (vmw : Nat) (vmf : Nat) (vmb : Nat) (vomb : Int32) (vmd : Nat) (vmc : Nat) (vocm : Int32) (voct : Int32) (vocy : Int32) (vmx : Nat) (votx : Int32) (vose : Int32) (vml : Nat) (vmwr : Nat) (voln : Int32) (vohw : Int32) (vmno : Nat) (vond : Int32) (voon : Int32) (vowi : Int32) (votop : Int32) (vmnf : Nat → Int32) (vk : Int32) (vp : Int32) (u : Int32) : va_W := [(vo, .inr (12, [.int u, .ref vmt, .int votp, .int vosz, .int volm, .int voto, .int vofr, .int vokd, .int vonu, .int vosg, .int vofa, .int vopl, .long vowd, .int votd, .ref vmn, .ref vmr, .ref vmk, .ref vms, .ref vma, .ref vmm, .ref vmrn, .ref vmkn, .ref vmik, .ref vmon, .int vosm, .int vohp, .ref vmw, .ref vmf, .ref vmb, .int vomb, .ref vmd, .ref vmc, .int vocm, .int voct, .int vocy, .ref vmx, .int votx, .int vose, .ref vml, .ref vmwr, .int voln, .int vohw, .ref vmno, .int vond, .int voon, .int vowi, .int votop])), (vmn, .inl (cy 0, 575, .inl vmnf))]
set_option maxHeartbeats 4000000 in
set_option maxRecDepth 100000 in
theorem m_holds_3 (l : Launch) (dC : Nat → ClassId) (dI : Nat → Nat → Nat) (cy : Nat → ClassId) (sz : Nat) (vnh : Nat → Int32) (vo : Nat) (voth : Int32) (vmt : Nat) (votp : Int32) (vosz : Int32) (volm : Int32) (voto : Int32) (vofr : Int32) (vokd : Int32) (vonu : Int32) (vosg : Int32) (vofa : Int32) (vopl : Int32) (vowd : Int64) (votd : Int32) (vmn : Nat) (vmr : Nat) (vmk : Nat) (vms : Nat) (vma : Nat) (vmm : Nat) (vmrn : Nat) (vmkn : Nat) (vmik : Nat) (vmon : Nat) (vosm : Int32) (vohp : Int32) (vmw : Nat) (vmf : Nat) (vmb : Nat) (vomb : Int32) (vmd : Nat) (vmc : Nat) (vocm : Int32) (voct : Int32) (vocy : Int32) (vmx : Nat) (votx : Int32) (vose : Int32) (vml : Nat) (vmwr : Nat) (voln : Int32) (vohw : Int32) (vmno : Nat) (vond : Int32) (voon : Int32) (vowi : Int32) (votop : Int32) (vmnf : Nat → Int32) (vk : Int32) (vp : Int32) (r_vk : 0 ≤ (vk : Int32).toInt ∧ (vk : Int32).toInt ≤ 3) (r_vp : 0 ≤ (vp : Int32).toInt ∧ (vp : Int32).toInt ≤ 6) (p_vmnf : NW vnh vmnf) : Met l yX11_holds (wl yX11_holds cX11_holds 8 (some .boolean)) ({ frames := 9, cells := 0, slots := 0, locals := 576 }) (Pw (dC, dI) vwCl cy [(vo, .inr (12, [.int voth, .ref vmt, .int votp, .int vosz, .int volm, .int voto, .int vofr, .int vokd, .int vonu, .int vosg, .int vofa, .int vopl, .long vowd, .int votd, .ref vmn, .ref vmr, .ref vmk, .ref vms, .ref vma, .ref vmm, .ref vmrn, .ref vmkn, .ref vmik, .ref vmon, .int vosm, .int vohp, .ref vmw, .ref vmf, .ref vmb, .int vomb, .ref vmd, .ref vmc, .int vocm, .int voct, .int vocy, .ref vmx, .int votx, .int vose, .ref vml, .ref vmwr, .int voln, .int vohw, .ref vmno, .int vond, .int voon, .int vowi, .int votop])), (vmn, .inl (cy 0, 575, .inl vmnf))] sz [.ref vo, .int vk, .int vp] nE) (Qi (dC, dI) vwCl (fun (r : Int32) (u : Int32) => ((r = 0) ∨ (r = 1))) (O_m_holds_3 cy vnh vo voth vmt votp vosz volm voto vofr vokd vonu vosg vofa vopl vowd votd vmn vmr vmk vms vma vmm vmrn vmkn vmik vmon vosm vohp vmw vmf vmb vomb vmd vmc vocm voct vocy vmx votx vose vml vmwr voln vohw vmno vond voon vowi votop vmnf vk vp) (va_A [(vo, .inr (12, [.int voth, .ref vmt, .int votp, .int vosz, .int volm, .int voto, .int vofr, .int vokd, .int vonu, .int vosg, .int vofa, .int vopl, .long vowd, .int votd, .ref vmn, .ref vmr, .ref vmk, .ref vms, .ref vma, .ref vmm, .ref vmrn, .ref vmkn, .ref vmik, .ref vmon, .int vosm, .int vohp, .ref vmw, .ref vmf, .ref vmb, .int vomb, .ref vmd, .ref vmc, .int vocm, .int voct, .int vocy, .ref vmx, .int votx, .int vose, .ref vml, .ref vmwr, .int voln, .int vohw, .ref vmno, .int vond, .int voon, .int vowi, .int votop])), (vmn, .inl (cy 0, 575, .inl vmnf))] sz)) 0 0 (va_A [(vo, .inr (12, [.int voth, .ref vmt, .int votp, .int vosz, .int volm, .int voto, .int vofr, .int vokd, .int vonu, .int vosg, .int vofa, .int vopl, .long vowd, .int votd, .ref vmn, .ref vmr, .ref vmk, .ref vms, .ref vma, .ref vmm, .ref vmrn, .ref vmkn, .ref vmik, .ref vmon, .int vosm, .int vohp, .ref vmw, .ref vmf, .ref vmb, .int vomb, .ref vmd, .ref vmc, .int vocm, .int voct, .int vocy, .ref vmx, .int votx, .int vose, .ref vml, .ref vmwr, .int voln, .int vohw, .ref vmno, .int vond, .int voon, .int vowi, .int votop])), (vmn, .inl (cy 0, 575, .inl vmnf))] sz) := by
  refine mw (Qc := Qi (dC, dI) vwCl (fun (r : Int32) (u : Int32) => ((r = 0) ∨ (r = 1))) (O_m_holds_3 cy vnh vo voth vmt votp vosz volm voto vofr vokd vonu vosg vofa vopl vowd votd vmn vmr vmk vms vma vmm vmrn vmkn vmik vmon vosm vohp vmw vmf vmb vomb vmd vmc vocm voct vocy vmx votx vose vml vmwr voln vohw vmno vond voon vowi votop vmnf vk vp)) RX11 rfl (by decide +kernel) (Nat.le_of_ble_eq_true rfl) ?_
  intro p e s m below meth c A hx hb hr hlocks av9 hav hts hown hnm hml hK hP hD hA hS hE hAe Q9 hQ9 ls hl
  have hl : lv_has ls 8 [(0, .ref vo), (1, .int vk), (2, .int vp)] := hl
  refine lv_sipush (v := 335) hx hb dX11_holds_0 (by decide) ?_
  refine lv_iconst (v := 4) hx hb dX11_holds_3 (by decide) ?_
  refine lv_iload_n hx hb dX11_holds_4 rfl (lv_at hl 1 rfl) ?_
  refine lv_imul hx hb dX11_holds_5 ?_
  refine lv_topi (fun z_1 ez_1 => ?_)
  have k_4 : (4 : Int32).toInt = 4 := by decide
  have bz_1 : z_1.toInt = vk.toInt * 4 := i_cmul k_4 ez_1 (by omega) (by omega)
  refine lv_iadd hx hb dX11_holds_6 ?_
  refine lv_topi (fun z_2 ez_2 => ?_)
  have k_335 : (335 : Int32).toInt = 335 := by decide
  have bz_2 : z_2.toInt = (335 : Int32).toInt + z_1.toInt := i_add ez_2 (by omega) (by omega)
  refine lv_istore_n (lv' := [(3, .int z_2), (0, .ref vo), (1, .int vk), (2, .int vp)]) hx hb dX11_holds_7 rfl hl (by decide) rfl (fun ls hl => ?_)
  refine lv_aload_n hx hb dX11_holds_8 rfl (lv_at hl 1 rfl) ?_
  refine gf_X11_98 hx hb hts hown hK hP 0 rfl rfl dX11_holds_9 ?_
  refine lv_iload_n hx hb dX11_holds_12 rfl (lv_at hl 0 rfl) ?_
  refine lv_iconst (v := 1) hx hb dX11_holds_13 (by decide) ?_
  refine lv_iadd hx hb dX11_holds_14 ?_
  refine lv_topi (fun z_3 ez_3 => ?_)
  have k_1 : (1 : Int32).toInt = 1 := by decide
  have bz_3 : z_3.toInt = z_2.toInt + (1 : Int32).toInt := i_add ez_3 (by omega) (by omega)
  have hin_4 : vp_in z_3 575 := vp_in_iff.mpr ⟨by omega, by omega⟩
  refine va_iald hx hb hK hP 1 0 rfl rfl hin_4 dX11_holds_15 ?_
  refine lv_topi (fun z_5 ez_5 => ?_)
  refine lv_istore (lv' := [(4, .int z_5), (3, .int z_2), (0, .ref vo), (1, .int vk), (2, .int vp)]) hx hb dX11_holds_16 hl (by decide) rfl (fun ls hl => ?_)
  refine lv_aload_n hx hb dX11_holds_18 rfl (lv_at hl 2 rfl) ?_
  refine gf_X11_98 hx hb hts hown hK hP 0 rfl rfl dX11_holds_19 ?_
  refine lv_iload_n hx hb dX11_holds_22 rfl (lv_at hl 1 rfl) ?_
  refine lv_iconst (v := 2) hx hb dX11_holds_23 (by decide) ?_
  refine lv_iadd hx hb dX11_holds_24 ?_
  refine lv_topi (fun z_6 ez_6 => ?_)
  have k_2 : (2 : Int32).toInt = 2 := by decide
  have bz_6 : z_6.toInt = z_2.toInt + (2 : Int32).toInt := i_add ez_6 (by omega) (by omega)
  have hin_7 : vp_in z_6 575 := vp_in_iff.mpr ⟨by omega, by omega⟩
  refine va_iald hx hb hK hP 1 0 rfl rfl hin_7 dX11_holds_25 ?_
  refine lv_topi (fun z_8 ez_8 => ?_)
  refine lv_istore (lv' := [(5, .int z_8), (4, .int z_5), (3, .int z_2), (0, .ref vo), (1, .int vk), (2, .int vp)]) hx hb dX11_holds_26 hl (by decide) rfl (fun ls hl => ?_)
  refine lv_aload_n hx hb dX11_holds_28 rfl (lv_at hl 3 rfl) ?_
  refine gf_X11_98 hx hb hts hown hK hP 0 rfl rfl dX11_holds_29 ?_
  refine lv_iload_n hx hb dX11_holds_32 rfl (lv_at hl 2 rfl) ?_
  have hin_9 : vp_in z_2 575 := vp_in_iff.mpr ⟨by omega, by omega⟩
  refine va_iald hx hb hK hP 1 0 rfl rfl hin_9 dX11_holds_33 ?_
  refine lv_topi (fun z_10 ez_10 => ?_)
  obtain ⟨hA1, hA2, hA3, hA4⟩ := NW.node p_vmnf (k := vk) ⟨by omega, by omega⟩ (i1 := z_3) (by omega) ez_5 (i2 := z_6) (by omega) ez_8 (i0 := z_2) (by omega) ez_10
  have k_3 : (3 : Int32).toInt = 3 := by decide
  have k_68 : (68 : Int32).toInt = 68 := by decide
  have k_69 : (69 : Int32).toInt = 69 := by decide
  have k_70 : (70 : Int32).toInt = 70 := by decide
  have k_71 : (71 : Int32).toInt = 71 := by decide
  have k_72 : (72 : Int32).toInt = 72 := by decide
  have k_73 : (73 : Int32).toInt = 73 := by decide
  have k_74 : (74 : Int32).toInt = 74 := by decide
  by_cases sw_11_1 : z_10.toInt = 1
  · refine as_i 1 (i_eq.mpr (sw_11_1.trans k_1.symm)) ?_
    refine lv_lookup (off := 90) (tgt := 124) hx hb dX11_holds_34 (by decide) (by decide) (by decide) ?_
    have hB := hA1 (by omega)
    refine lv_aload_n hx hb dX11_holds_124 rfl (lv_at hl 3 rfl) ?_
    refine lv_iload hx hb dX11_holds_125 (lv_at hl 1 rfl) ?_
    refine lv_iload_n hx hb dX11_holds_127 rfl (lv_at hl 5 rfl) ?_
    refine jn_i (wr := []) (rV (As := [.int z_5, .int vp]) (rest := []) (ci := 12) ⟨hx, hb, hml, hown, hts⟩ (m_holds_2 l dC dI cy _ vnh vo voth vmt votp vosz volm voto vofr vokd vonu vosg vofa vopl vowd votd vmn vmr vmk vms vma vmm vmrn vmkn vmik vmon vosm vohp vmw vmf vmb vomb vmd vmc vocm voct vocy vmx votx vose vml vmwr voln vohw vmno vond voon vowi votop vmnf z_5 vp ⟨by omega, by omega⟩ r_vp p_vmnf) (cw_X11_438 hts rfl rfl ⟨Nat.le_of_ble_eq_true rfl, Nat.le_of_ble_eq_true rfl⟩) hP hD hK [0, 1] rfl rfl rfl rfl bl0 e0 rfl hl.1 rfl (Nat.le_of_ble_eq_true rfl) dX11_holds_128 ⟨Nat.le_of_ble_eq_true rfl, Nat.le_of_ble_eq_true rfl⟩) hP hD hS hA [0, 1] [] rfl rfl rfl (by decide) (fun r_12 u_14 H locs hp_13 hP hD hS => ?_)
    obtain ⟨voth_15, rfl⟩ : ∃ z, z = u_14 := ⟨_, rfl⟩
    have hp_13 : ((r_12 = 0) ∨ (r_12 = 1)) := hp_13
    have q_16 := hp_13
    have hP : va_P (dC, dI) vwCl [(vo, .inr (12, [.int voth_15, .ref vmt, .int votp, .int vosz, .int volm, .int voto, .int vofr, .int vokd, .int vonu, .int vosg, .int vofa, .int vopl, .long vowd, .int votd, .ref vmn, .ref vmr, .ref vmk, .ref vms, .ref vma, .ref vmm, .ref vmrn, .ref vmkn, .ref vmik, .ref vmon, .int vosm, .int vohp, .ref vmw, .ref vmf, .ref vmb, .int vomb, .ref vmd, .ref vmc, .int vocm, .int voct, .int vocy, .ref vmx, .int votx, .int vose, .ref vml, .ref vmwr, .int voln, .int vohw, .ref vmno, .int vond, .int voon, .int vowi, .int votop])), (vmn, .inl (cy 0, 575, .inl vmnf))] H := hP
    have hD : va_D A [(vo, .inr (12, [.int voth_15, .ref vmt, .int votp, .int vosz, .int volm, .int voto, .int vofr, .int vokd, .int vonu, .int vosg, .int vofa, .int vopl, .long vowd, .int votd, .ref vmn, .ref vmr, .ref vmk, .ref vms, .ref vma, .ref vmm, .ref vmrn, .ref vmkn, .ref vmik, .ref vmon, .int vosm, .int vohp, .ref vmw, .ref vmf, .ref vmb, .int vomb, .ref vmd, .ref vmc, .int vocm, .int voct, .int vocy, .ref vmx, .int votx, .int vose, .ref vml, .ref vmwr, .int voln, .int vohw, .ref vmno, .int vond, .int voon, .int vowi, .int votop])), (vmn, .inl (cy 0, 575, .inl vmnf))] := hD
    rcases q_16 with aq_16 | aq_16
    · skip
      refine as_i 0 aq_16 ?_
      refine lv_if_ne (tgt := 138) hx hb dX11_holds_131 (by decide) (fun c9 => absurd c9 (by decide)) (fun _ => ?_)
      refine lv_iconst (v := 1) hx hb dX11_holds_134 (by decide) ?_
      refine lv_goto (tgt := 139) hx hb dX11_holds_135 (by decide) ?_
      rw [hQ9]
      exact re_z voth_15 hx hb hr hlocks (Or.inr rfl) (show ((1 : Int32) = 0) ∨ ((1 : Int32) = 1) from (Or.inr (rfl))) (hP.sub [0, 1] rfl) (hD.sub [0, 1] rfl rfl) hS dX11_holds_139
    · skip
      refine as_i 1 aq_16 ?_
      refine lv_if_ne (tgt := 138) hx hb dX11_holds_131 (by decide) (fun _ => ?_) (fun c9 => absurd c9 (by decide))
      refine lv_iconst (v := 0) hx hb dX11_holds_138 (by decide) ?_
      have k_0 : (0 : Int32).toInt = 0 := by decide
      rw [hQ9]
      exact re_z voth_15 hx hb hr hlocks (Or.inl rfl) (show ((0 : Int32) = 0) ∨ ((0 : Int32) = 1) from (Or.inl rfl)) (hP.sub [0, 1] rfl) (hD.sub [0, 1] rfl rfl) hS dX11_holds_139
  by_cases sw_11_2 : z_10.toInt = 2
  · refine as_i 2 (i_eq.mpr (sw_11_2.trans k_2.symm)) ?_
    refine lv_lookup (off := 106) (tgt := 140) hx hb dX11_holds_34 (by decide) (by decide) (by decide) ?_
    have hB := hA2 (by omega)
    refine lv_aload_n hx hb dX11_holds_140 rfl (lv_at hl 3 rfl) ?_
    refine lv_iload hx hb dX11_holds_141 (lv_at hl 1 rfl) ?_
    refine lv_iload_n hx hb dX11_holds_143 rfl (lv_at hl 5 rfl) ?_
    refine jn_i (wr := []) (rV (As := [.int z_5, .int vp]) (rest := []) (ci := 12) ⟨hx, hb, hml, hown, hts⟩ (m_holds_2 l dC dI cy _ vnh vo voth vmt votp vosz volm voto vofr vokd vonu vosg vofa vopl vowd votd vmn vmr vmk vms vma vmm vmrn vmkn vmik vmon vosm vohp vmw vmf vmb vomb vmd vmc vocm voct vocy vmx votx vose vml vmwr voln vohw vmno vond voon vowi votop vmnf z_5 vp ⟨by omega, by omega⟩ r_vp p_vmnf) (cw_X11_438 hts rfl rfl ⟨Nat.le_of_ble_eq_true rfl, Nat.le_of_ble_eq_true rfl⟩) hP hD hK [0, 1] rfl rfl rfl rfl bl0 e0 rfl hl.1 rfl (Nat.le_of_ble_eq_true rfl) dX11_holds_144 ⟨Nat.le_of_ble_eq_true rfl, Nat.le_of_ble_eq_true rfl⟩) hP hD hS hA [0, 1] [] rfl rfl rfl (by decide) (fun r_17 u_19 H locs hp_18 hP hD hS => ?_)
    obtain ⟨voth_20, rfl⟩ : ∃ z, z = u_19 := ⟨_, rfl⟩
    have hp_18 : ((r_17 = 0) ∨ (r_17 = 1)) := hp_18
    have q_21 := hp_18
    have hP : va_P (dC, dI) vwCl [(vo, .inr (12, [.int voth_20, .ref vmt, .int votp, .int vosz, .int volm, .int voto, .int vofr, .int vokd, .int vonu, .int vosg, .int vofa, .int vopl, .long vowd, .int votd, .ref vmn, .ref vmr, .ref vmk, .ref vms, .ref vma, .ref vmm, .ref vmrn, .ref vmkn, .ref vmik, .ref vmon, .int vosm, .int vohp, .ref vmw, .ref vmf, .ref vmb, .int vomb, .ref vmd, .ref vmc, .int vocm, .int voct, .int vocy, .ref vmx, .int votx, .int vose, .ref vml, .ref vmwr, .int voln, .int vohw, .ref vmno, .int vond, .int voon, .int vowi, .int votop])), (vmn, .inl (cy 0, 575, .inl vmnf))] H := hP
    have hD : va_D A [(vo, .inr (12, [.int voth_20, .ref vmt, .int votp, .int vosz, .int volm, .int voto, .int vofr, .int vokd, .int vonu, .int vosg, .int vofa, .int vopl, .long vowd, .int votd, .ref vmn, .ref vmr, .ref vmk, .ref vms, .ref vma, .ref vmm, .ref vmrn, .ref vmkn, .ref vmik, .ref vmon, .int vosm, .int vohp, .ref vmw, .ref vmf, .ref vmb, .int vomb, .ref vmd, .ref vmc, .int vocm, .int voct, .int vocy, .ref vmx, .int votx, .int vose, .ref vml, .ref vmwr, .int voln, .int vohw, .ref vmno, .int vond, .int voon, .int vowi, .int votop])), (vmn, .inl (cy 0, 575, .inl vmnf))] := hD
    rcases q_21 with aq_21 | aq_21
    · skip
      refine as_i 0 aq_21 ?_
      refine lv_if_eq (tgt := 164) hx hb dX11_holds_147 (by decide) (fun _ => ?_) (fun c9 => absurd (by decide) c9)
      refine lv_iconst (v := 0) hx hb dX11_holds_164 (by decide) ?_
      have k_0 : (0 : Int32).toInt = 0 := by decide
      rw [hQ9]
      exact re_z voth_20 hx hb hr hlocks (Or.inl rfl) (show ((0 : Int32) = 0) ∨ ((0 : Int32) = 1) from (Or.inl rfl)) (hP.sub [0, 1] rfl) (hD.sub [0, 1] rfl rfl) hS dX11_holds_165
    · skip
      refine as_i 1 aq_21 ?_
      refine lv_if_eq (tgt := 164) hx hb dX11_holds_147 (by decide) (fun c9 => absurd c9 (by decide)) (fun _ => ?_)
      refine lv_aload_n hx hb dX11_holds_150 rfl (lv_at hl 3 rfl) ?_
      refine lv_iload hx hb dX11_holds_151 (lv_at hl 0 rfl) ?_
      refine lv_iload_n hx hb dX11_holds_153 rfl (lv_at hl 5 rfl) ?_
      refine jn_i (wr := []) (rV (As := [.int z_8, .int vp]) (rest := []) (ci := 12) ⟨hx, hb, hml, hown, hts⟩ (m_holds_2 l dC dI cy _ vnh vo voth_20 vmt votp vosz volm voto vofr vokd vonu vosg vofa vopl vowd votd vmn vmr vmk vms vma vmm vmrn vmkn vmik vmon vosm vohp vmw vmf vmb vomb vmd vmc vocm voct vocy vmx votx vose vml vmwr voln vohw vmno vond voon vowi votop vmnf z_8 vp ⟨by omega, by omega⟩ r_vp p_vmnf) (cw_X11_438 hts rfl rfl ⟨Nat.le_of_ble_eq_true rfl, Nat.le_of_ble_eq_true rfl⟩) hP hD hK [0, 1] rfl rfl rfl rfl bl0 e0 rfl hl.1 rfl (Nat.le_of_ble_eq_true rfl) dX11_holds_154 ⟨Nat.le_of_ble_eq_true rfl, Nat.le_of_ble_eq_true rfl⟩) hP hD hS hA [0, 1] [] rfl rfl rfl (by decide) (fun r_22 u_24 H locs hp_23 hP hD hS => ?_)
      obtain ⟨voth_25, rfl⟩ : ∃ z, z = u_24 := ⟨_, rfl⟩
      have hp_23 : ((r_22 = 0) ∨ (r_22 = 1)) := hp_23
      have q_26 := hp_23
      have hP : va_P (dC, dI) vwCl [(vo, .inr (12, [.int voth_25, .ref vmt, .int votp, .int vosz, .int volm, .int voto, .int vofr, .int vokd, .int vonu, .int vosg, .int vofa, .int vopl, .long vowd, .int votd, .ref vmn, .ref vmr, .ref vmk, .ref vms, .ref vma, .ref vmm, .ref vmrn, .ref vmkn, .ref vmik, .ref vmon, .int vosm, .int vohp, .ref vmw, .ref vmf, .ref vmb, .int vomb, .ref vmd, .ref vmc, .int vocm, .int voct, .int vocy, .ref vmx, .int votx, .int vose, .ref vml, .ref vmwr, .int voln, .int vohw, .ref vmno, .int vond, .int voon, .int vowi, .int votop])), (vmn, .inl (cy 0, 575, .inl vmnf))] H := hP
      have hD : va_D A [(vo, .inr (12, [.int voth_25, .ref vmt, .int votp, .int vosz, .int volm, .int voto, .int vofr, .int vokd, .int vonu, .int vosg, .int vofa, .int vopl, .long vowd, .int votd, .ref vmn, .ref vmr, .ref vmk, .ref vms, .ref vma, .ref vmm, .ref vmrn, .ref vmkn, .ref vmik, .ref vmon, .int vosm, .int vohp, .ref vmw, .ref vmf, .ref vmb, .int vomb, .ref vmd, .ref vmc, .int vocm, .int voct, .int vocy, .ref vmx, .int votx, .int vose, .ref vml, .ref vmwr, .int voln, .int vohw, .ref vmno, .int vond, .int voon, .int vowi, .int votop])), (vmn, .inl (cy 0, 575, .inl vmnf))] := hD
      rcases q_26 with aq_26 | aq_26
      · skip
        refine as_i 0 aq_26 ?_
        refine lv_if_eq (tgt := 164) hx hb dX11_holds_157 (by decide) (fun _ => ?_) (fun c9 => absurd (by decide) c9)
        refine lv_iconst (v := 0) hx hb dX11_holds_164 (by decide) ?_
        have k_0 : (0 : Int32).toInt = 0 := by decide
        rw [hQ9]
        exact re_z voth_25 hx hb hr hlocks (Or.inl rfl) (show ((0 : Int32) = 0) ∨ ((0 : Int32) = 1) from (Or.inl rfl)) (hP.sub [0, 1] rfl) (hD.sub [0, 1] rfl rfl) hS dX11_holds_165
      · skip
        refine as_i 1 aq_26 ?_
        refine lv_if_eq (tgt := 164) hx hb dX11_holds_157 (by decide) (fun c9 => absurd c9 (by decide)) (fun _ => ?_)
        refine lv_iconst (v := 1) hx hb dX11_holds_160 (by decide) ?_
        refine lv_goto (tgt := 165) hx hb dX11_holds_161 (by decide) ?_
        rw [hQ9]
        exact re_z voth_25 hx hb hr hlocks (Or.inr rfl) (show ((1 : Int32) = 0) ∨ ((1 : Int32) = 1) from (Or.inr (rfl))) (hP.sub [0, 1] rfl) (hD.sub [0, 1] rfl rfl) hS dX11_holds_165
  by_cases sw_11_3 : z_10.toInt = 3
  · refine as_i 3 (i_eq.mpr (sw_11_3.trans k_3.symm)) ?_
    refine lv_lookup (off := 132) (tgt := 166) hx hb dX11_holds_34 (by decide) (by decide) (by decide) ?_
    have hB := hA3 (by omega)
    refine lv_aload_n hx hb dX11_holds_166 rfl (lv_at hl 3 rfl) ?_
    refine lv_iload hx hb dX11_holds_167 (lv_at hl 1 rfl) ?_
    refine lv_iload_n hx hb dX11_holds_169 rfl (lv_at hl 5 rfl) ?_
    refine jn_i (wr := []) (rV (As := [.int z_5, .int vp]) (rest := []) (ci := 12) ⟨hx, hb, hml, hown, hts⟩ (m_holds_2 l dC dI cy _ vnh vo voth vmt votp vosz volm voto vofr vokd vonu vosg vofa vopl vowd votd vmn vmr vmk vms vma vmm vmrn vmkn vmik vmon vosm vohp vmw vmf vmb vomb vmd vmc vocm voct vocy vmx votx vose vml vmwr voln vohw vmno vond voon vowi votop vmnf z_5 vp ⟨by omega, by omega⟩ r_vp p_vmnf) (cw_X11_438 hts rfl rfl ⟨Nat.le_of_ble_eq_true rfl, Nat.le_of_ble_eq_true rfl⟩) hP hD hK [0, 1] rfl rfl rfl rfl bl0 e0 rfl hl.1 rfl (Nat.le_of_ble_eq_true rfl) dX11_holds_170 ⟨Nat.le_of_ble_eq_true rfl, Nat.le_of_ble_eq_true rfl⟩) hP hD hS hA [0, 1] [] rfl rfl rfl (by decide) (fun r_27 u_29 H locs hp_28 hP hD hS => ?_)
    obtain ⟨voth_30, rfl⟩ : ∃ z, z = u_29 := ⟨_, rfl⟩
    have hp_28 : ((r_27 = 0) ∨ (r_27 = 1)) := hp_28
    have q_31 := hp_28
    have hP : va_P (dC, dI) vwCl [(vo, .inr (12, [.int voth_30, .ref vmt, .int votp, .int vosz, .int volm, .int voto, .int vofr, .int vokd, .int vonu, .int vosg, .int vofa, .int vopl, .long vowd, .int votd, .ref vmn, .ref vmr, .ref vmk, .ref vms, .ref vma, .ref vmm, .ref vmrn, .ref vmkn, .ref vmik, .ref vmon, .int vosm, .int vohp, .ref vmw, .ref vmf, .ref vmb, .int vomb, .ref vmd, .ref vmc, .int vocm, .int voct, .int vocy, .ref vmx, .int votx, .int vose, .ref vml, .ref vmwr, .int voln, .int vohw, .ref vmno, .int vond, .int voon, .int vowi, .int votop])), (vmn, .inl (cy 0, 575, .inl vmnf))] H := hP
    have hD : va_D A [(vo, .inr (12, [.int voth_30, .ref vmt, .int votp, .int vosz, .int volm, .int voto, .int vofr, .int vokd, .int vonu, .int vosg, .int vofa, .int vopl, .long vowd, .int votd, .ref vmn, .ref vmr, .ref vmk, .ref vms, .ref vma, .ref vmm, .ref vmrn, .ref vmkn, .ref vmik, .ref vmon, .int vosm, .int vohp, .ref vmw, .ref vmf, .ref vmb, .int vomb, .ref vmd, .ref vmc, .int vocm, .int voct, .int vocy, .ref vmx, .int votx, .int vose, .ref vml, .ref vmwr, .int voln, .int vohw, .ref vmno, .int vond, .int voon, .int vowi, .int votop])), (vmn, .inl (cy 0, 575, .inl vmnf))] := hD
    rcases q_31 with aq_31 | aq_31
    · skip
      refine as_i 0 aq_31 ?_
      refine lv_if_ne (tgt := 186) hx hb dX11_holds_173 (by decide) (fun c9 => absurd c9 (by decide)) (fun _ => ?_)
      refine lv_aload_n hx hb dX11_holds_176 rfl (lv_at hl 3 rfl) ?_
      refine lv_iload hx hb dX11_holds_177 (lv_at hl 0 rfl) ?_
      refine lv_iload_n hx hb dX11_holds_179 rfl (lv_at hl 5 rfl) ?_
      refine jn_i (wr := []) (rV (As := [.int z_8, .int vp]) (rest := []) (ci := 12) ⟨hx, hb, hml, hown, hts⟩ (m_holds_2 l dC dI cy _ vnh vo voth_30 vmt votp vosz volm voto vofr vokd vonu vosg vofa vopl vowd votd vmn vmr vmk vms vma vmm vmrn vmkn vmik vmon vosm vohp vmw vmf vmb vomb vmd vmc vocm voct vocy vmx votx vose vml vmwr voln vohw vmno vond voon vowi votop vmnf z_8 vp ⟨by omega, by omega⟩ r_vp p_vmnf) (cw_X11_438 hts rfl rfl ⟨Nat.le_of_ble_eq_true rfl, Nat.le_of_ble_eq_true rfl⟩) hP hD hK [0, 1] rfl rfl rfl rfl bl0 e0 rfl hl.1 rfl (Nat.le_of_ble_eq_true rfl) dX11_holds_180 ⟨Nat.le_of_ble_eq_true rfl, Nat.le_of_ble_eq_true rfl⟩) hP hD hS hA [0, 1] [] rfl rfl rfl (by decide) (fun r_32 u_34 H locs hp_33 hP hD hS => ?_)
      obtain ⟨voth_35, rfl⟩ : ∃ z, z = u_34 := ⟨_, rfl⟩
      have hp_33 : ((r_32 = 0) ∨ (r_32 = 1)) := hp_33
      have q_36 := hp_33
      have hP : va_P (dC, dI) vwCl [(vo, .inr (12, [.int voth_35, .ref vmt, .int votp, .int vosz, .int volm, .int voto, .int vofr, .int vokd, .int vonu, .int vosg, .int vofa, .int vopl, .long vowd, .int votd, .ref vmn, .ref vmr, .ref vmk, .ref vms, .ref vma, .ref vmm, .ref vmrn, .ref vmkn, .ref vmik, .ref vmon, .int vosm, .int vohp, .ref vmw, .ref vmf, .ref vmb, .int vomb, .ref vmd, .ref vmc, .int vocm, .int voct, .int vocy, .ref vmx, .int votx, .int vose, .ref vml, .ref vmwr, .int voln, .int vohw, .ref vmno, .int vond, .int voon, .int vowi, .int votop])), (vmn, .inl (cy 0, 575, .inl vmnf))] H := hP
      have hD : va_D A [(vo, .inr (12, [.int voth_35, .ref vmt, .int votp, .int vosz, .int volm, .int voto, .int vofr, .int vokd, .int vonu, .int vosg, .int vofa, .int vopl, .long vowd, .int votd, .ref vmn, .ref vmr, .ref vmk, .ref vms, .ref vma, .ref vmm, .ref vmrn, .ref vmkn, .ref vmik, .ref vmon, .int vosm, .int vohp, .ref vmw, .ref vmf, .ref vmb, .int vomb, .ref vmd, .ref vmc, .int vocm, .int voct, .int vocy, .ref vmx, .int votx, .int vose, .ref vml, .ref vmwr, .int voln, .int vohw, .ref vmno, .int vond, .int voon, .int vowi, .int votop])), (vmn, .inl (cy 0, 575, .inl vmnf))] := hD
      rcases q_36 with aq_36 | aq_36
      · skip
        refine as_i 0 aq_36 ?_
        refine lv_if_eq (tgt := 190) hx hb dX11_holds_183 (by decide) (fun _ => ?_) (fun c9 => absurd (by decide) c9)
        refine lv_iconst (v := 0) hx hb dX11_holds_190 (by decide) ?_
        have k_0 : (0 : Int32).toInt = 0 := by decide
        rw [hQ9]
        exact re_z voth_35 hx hb hr hlocks (Or.inl rfl) (show ((0 : Int32) = 0) ∨ ((0 : Int32) = 1) from (Or.inl rfl)) (hP.sub [0, 1] rfl) (hD.sub [0, 1] rfl rfl) hS dX11_holds_191
      · skip
        refine as_i 1 aq_36 ?_
        refine lv_if_eq (tgt := 190) hx hb dX11_holds_183 (by decide) (fun c9 => absurd c9 (by decide)) (fun _ => ?_)
        refine lv_iconst (v := 1) hx hb dX11_holds_186 (by decide) ?_
        refine lv_goto (tgt := 191) hx hb dX11_holds_187 (by decide) ?_
        rw [hQ9]
        exact re_z voth_35 hx hb hr hlocks (Or.inr rfl) (show ((1 : Int32) = 0) ∨ ((1 : Int32) = 1) from (Or.inr (rfl))) (hP.sub [0, 1] rfl) (hD.sub [0, 1] rfl rfl) hS dX11_holds_191
    · skip
      refine as_i 1 aq_31 ?_
      refine lv_if_ne (tgt := 186) hx hb dX11_holds_173 (by decide) (fun _ => ?_) (fun c9 => absurd c9 (by decide))
      refine lv_iconst (v := 1) hx hb dX11_holds_186 (by decide) ?_
      refine lv_goto (tgt := 191) hx hb dX11_holds_187 (by decide) ?_
      rw [hQ9]
      exact re_z voth_30 hx hb hr hlocks (Or.inr rfl) (show ((1 : Int32) = 0) ∨ ((1 : Int32) = 1) from (Or.inr (rfl))) (hP.sub [0, 1] rfl) (hD.sub [0, 1] rfl rfl) hS dX11_holds_191
  by_cases sw_11_68 : z_10.toInt = 68
  · refine as_i 68 (i_eq.mpr (sw_11_68.trans k_68.symm)) ?_
    refine lv_lookup (off := 158) (tgt := 192) hx hb dX11_holds_34 (by decide) (by decide) (by decide) ?_
    refine lv_aload_n hx hb dX11_holds_192 rfl (lv_at hl 3 rfl) ?_
    refine lv_iload_n hx hb dX11_holds_193 rfl (lv_at hl 5 rfl) ?_
    refine jr_i (rVr (As := [.int vp]) (rest := []) (ci := 12) ⟨hx, hb, hml, hown, hts⟩ (m_howOf l dC dI cy vnh vo voth vmt votp vosz volm voto vofr vokd vonu vosg vofa vopl vowd votd vmn vmr vmk vms vma vmm vmrn vmkn vmik vmon vosm vohp vmw vmf vmb vomb vmd vmc vocm voct vocy vmx votx vose vml vmwr voln vohw vmno vond voon vowi votop vmnf vp ⟨by omega, by omega⟩ p_vmnf) (cw_X11_256 hts rfl rfl ⟨Nat.le_of_ble_eq_true rfl, Nat.le_of_ble_eq_true rfl⟩) hP hK [0, 1] rfl rfl rfl rfl hl.1 rfl (Nat.le_of_ble_eq_true rfl) dX11_holds_194 ⟨Nat.le_of_ble_eq_true rfl, Nat.le_of_ble_eq_true rfl⟩) hP hS (fun r_37 H locs hp_38 hP hS => ?_)
    have hp_38 : (0 ≤ (r_37 : Int32).toInt ∧ (r_37 : Int32).toInt ≤ 2) := hp_38
    have q_39 := hp_38
    refine lv_iconst (v := 1) hx hb dX11_holds_197 (by decide) ?_
    refine lv_icmp_ne (tgt := 205) hx hb dX11_holds_198 (by decide) (fun c_40 => ?_) (fun c_40 => ?_)
    · skip
      have c_40 : ¬ (r_37.toInt = (1 : Int32).toInt) := fun h9 => c_40 (i_eq.mpr h9)
      refine lv_iconst (v := 0) hx hb dX11_holds_205 (by decide) ?_
      have k_0 : (0 : Int32).toInt = 0 := by decide
      rw [hQ9]
      exact re_z voth hx hb hr hlocks (Or.inl rfl) (show ((0 : Int32) = 0) ∨ ((0 : Int32) = 1) from (Or.inl rfl)) (hP.sub [0, 1] rfl) (hD.sub [0, 1] rfl rfl) hS dX11_holds_206
    · skip
      have c_40 : r_37.toInt = (1 : Int32).toInt := i_eq.mp c_40
      refine lv_iconst (v := 1) hx hb dX11_holds_201 (by decide) ?_
      refine lv_goto (tgt := 206) hx hb dX11_holds_202 (by decide) ?_
      rw [hQ9]
      exact re_z voth hx hb hr hlocks (Or.inr rfl) (show ((1 : Int32) = 0) ∨ ((1 : Int32) = 1) from (Or.inr (rfl))) (hP.sub [0, 1] rfl) (hD.sub [0, 1] rfl rfl) hS dX11_holds_206
  by_cases sw_11_69 : z_10.toInt = 69
  · refine as_i 69 (i_eq.mpr (sw_11_69.trans k_69.symm)) ?_
    refine lv_lookup (off := 173) (tgt := 207) hx hb dX11_holds_34 (by decide) (by decide) (by decide) ?_
    refine lv_aload_n hx hb dX11_holds_207 rfl (lv_at hl 3 rfl) ?_
    refine lv_iload_n hx hb dX11_holds_208 rfl (lv_at hl 5 rfl) ?_
    refine jr_i (rVr (As := [.int vp]) (rest := []) (ci := 12) ⟨hx, hb, hml, hown, hts⟩ (m_howOf l dC dI cy vnh vo voth vmt votp vosz volm voto vofr vokd vonu vosg vofa vopl vowd votd vmn vmr vmk vms vma vmm vmrn vmkn vmik vmon vosm vohp vmw vmf vmb vomb vmd vmc vocm voct vocy vmx votx vose vml vmwr voln vohw vmno vond voon vowi votop vmnf vp ⟨by omega, by omega⟩ p_vmnf) (cw_X11_256 hts rfl rfl ⟨Nat.le_of_ble_eq_true rfl, Nat.le_of_ble_eq_true rfl⟩) hP hK [0, 1] rfl rfl rfl rfl hl.1 rfl (Nat.le_of_ble_eq_true rfl) dX11_holds_209 ⟨Nat.le_of_ble_eq_true rfl, Nat.le_of_ble_eq_true rfl⟩) hP hS (fun r_41 H locs hp_42 hP hS => ?_)
    have hp_42 : (0 ≤ (r_41 : Int32).toInt ∧ (r_41 : Int32).toInt ≤ 2) := hp_42
    have q_43 := hp_42
    have k_0 : (0 : Int32).toInt = 0 := by decide
    refine lv_if_ne (tgt := 219) hx hb dX11_holds_212 (by decide) (fun c_44 => ?_) (fun c_44 => ?_)
    · skip
      have c_44 : ¬ (r_41.toInt = (0 : Int32).toInt) := fun h9 => c_44 (i_eq.mpr h9)
      refine lv_iconst (v := 0) hx hb dX11_holds_219 (by decide) ?_
      rw [hQ9]
      exact re_z voth hx hb hr hlocks (Or.inl rfl) (show ((0 : Int32) = 0) ∨ ((0 : Int32) = 1) from (Or.inl rfl)) (hP.sub [0, 1] rfl) (hD.sub [0, 1] rfl rfl) hS dX11_holds_220
    · skip
      have c_44 : r_41.toInt = (0 : Int32).toInt := i_eq.mp c_44
      refine lv_iconst (v := 1) hx hb dX11_holds_215 (by decide) ?_
      refine lv_goto (tgt := 220) hx hb dX11_holds_216 (by decide) ?_
      rw [hQ9]
      exact re_z voth hx hb hr hlocks (Or.inr rfl) (show ((1 : Int32) = 0) ∨ ((1 : Int32) = 1) from (Or.inr (rfl))) (hP.sub [0, 1] rfl) (hD.sub [0, 1] rfl rfl) hS dX11_holds_220
  by_cases sw_11_70 : z_10.toInt = 70
  · refine as_i 70 (i_eq.mpr (sw_11_70.trans k_70.symm)) ?_
    refine lv_lookup (off := 187) (tgt := 221) hx hb dX11_holds_34 (by decide) (by decide) (by decide) ?_
    refine lv_aload_n hx hb dX11_holds_221 rfl (lv_at hl 3 rfl) ?_
    refine lv_iload_n hx hb dX11_holds_222 rfl (lv_at hl 5 rfl) ?_
    refine jr_i (rVr (As := [.int vp]) (rest := []) (ci := 12) ⟨hx, hb, hml, hown, hts⟩ (m_howOf l dC dI cy vnh vo voth vmt votp vosz volm voto vofr vokd vonu vosg vofa vopl vowd votd vmn vmr vmk vms vma vmm vmrn vmkn vmik vmon vosm vohp vmw vmf vmb vomb vmd vmc vocm voct vocy vmx votx vose vml vmwr voln vohw vmno vond voon vowi votop vmnf vp ⟨by omega, by omega⟩ p_vmnf) (cw_X11_256 hts rfl rfl ⟨Nat.le_of_ble_eq_true rfl, Nat.le_of_ble_eq_true rfl⟩) hP hK [0, 1] rfl rfl rfl rfl hl.1 rfl (Nat.le_of_ble_eq_true rfl) dX11_holds_223 ⟨Nat.le_of_ble_eq_true rfl, Nat.le_of_ble_eq_true rfl⟩) hP hS (fun r_45 H locs hp_46 hP hS => ?_)
    have hp_46 : (0 ≤ (r_45 : Int32).toInt ∧ (r_45 : Int32).toInt ≤ 2) := hp_46
    have q_47 := hp_46
    refine lv_iconst (v := 2) hx hb dX11_holds_226 (by decide) ?_
    refine lv_icmp_ne (tgt := 234) hx hb dX11_holds_227 (by decide) (fun c_48 => ?_) (fun c_48 => ?_)
    · skip
      have c_48 : ¬ (r_45.toInt = (2 : Int32).toInt) := fun h9 => c_48 (i_eq.mpr h9)
      refine lv_iconst (v := 0) hx hb dX11_holds_234 (by decide) ?_
      have k_0 : (0 : Int32).toInt = 0 := by decide
      rw [hQ9]
      exact re_z voth hx hb hr hlocks (Or.inl rfl) (show ((0 : Int32) = 0) ∨ ((0 : Int32) = 1) from (Or.inl rfl)) (hP.sub [0, 1] rfl) (hD.sub [0, 1] rfl rfl) hS dX11_holds_235
    · skip
      have c_48 : r_45.toInt = (2 : Int32).toInt := i_eq.mp c_48
      refine lv_iconst (v := 1) hx hb dX11_holds_230 (by decide) ?_
      refine lv_goto (tgt := 235) hx hb dX11_holds_231 (by decide) ?_
      rw [hQ9]
      exact re_z voth hx hb hr hlocks (Or.inr rfl) (show ((1 : Int32) = 0) ∨ ((1 : Int32) = 1) from (Or.inr (rfl))) (hP.sub [0, 1] rfl) (hD.sub [0, 1] rfl rfl) hS dX11_holds_235
  by_cases sw_11_71 : z_10.toInt = 71
  · refine as_i 71 (i_eq.mpr (sw_11_71.trans k_71.symm)) ?_
    refine lv_lookup (off := 202) (tgt := 236) hx hb dX11_holds_34 (by decide) (by decide) (by decide) ?_
    refine lv_aload_n hx hb dX11_holds_236 rfl (lv_at hl 3 rfl) ?_
    refine gf_X11_98 hx hb hts hown hK hP 0 rfl rfl dX11_holds_237 ?_
    refine lv_sipush (v := 298) hx hb dX11_holds_240 (by decide) ?_
    refine lv_iload_n hx hb dX11_holds_243 rfl (lv_at hl 5 rfl) ?_
    refine lv_iadd hx hb dX11_holds_244 ?_
    refine lv_topi (fun z_49 ez_49 => ?_)
    have k_298 : (298 : Int32).toInt = 298 := by decide
    have bz_49 : z_49.toInt = (298 : Int32).toInt + vp.toInt := i_add ez_49 (by omega) (by omega)
    have hin_50 : vp_in z_49 575 := vp_in_iff.mpr ⟨by omega, by omega⟩
    refine va_iald hx hb hK hP 1 0 rfl rfl hin_50 dX11_holds_245 ?_
    refine lv_topi (fun z_51 ez_51 => ?_)
    have k_0 : (0 : Int32).toInt = 0 := by decide
    refine lv_if_le (tgt := 253) hx hb dX11_holds_246 (by decide) (fun c_52 => ?_) (fun c_52 => ?_)
    · skip
      have c_52 : z_51.toInt ≤ (0 : Int32).toInt := i_le.mp c_52
      refine lv_iconst (v := 0) hx hb dX11_holds_253 (by decide) ?_
      rw [hQ9]
      exact re_z voth hx hb hr hlocks (Or.inl rfl) (show ((0 : Int32) = 0) ∨ ((0 : Int32) = 1) from (Or.inl rfl)) (hP.sub [0, 1] rfl) (hD.sub [0, 1] rfl rfl) hS dX11_holds_254
    · skip
      have c_52 : ¬ (z_51.toInt ≤ (0 : Int32).toInt) := fun h9 => c_52 (i_le.mpr h9)
      refine lv_iconst (v := 1) hx hb dX11_holds_249 (by decide) ?_
      refine lv_goto (tgt := 254) hx hb dX11_holds_250 (by decide) ?_
      rw [hQ9]
      exact re_z voth hx hb hr hlocks (Or.inr rfl) (show ((1 : Int32) = 0) ∨ ((1 : Int32) = 1) from (Or.inr (rfl))) (hP.sub [0, 1] rfl) (hD.sub [0, 1] rfl rfl) hS dX11_holds_254
  by_cases sw_11_72 : z_10.toInt = 72
  · refine as_i 72 (i_eq.mpr (sw_11_72.trans k_72.symm)) ?_
    refine lv_lookup (off := 221) (tgt := 255) hx hb dX11_holds_34 (by decide) (by decide) (by decide) ?_
    refine lv_aload_n hx hb dX11_holds_255 rfl (lv_at hl 3 rfl) ?_
    refine lv_iload_n hx hb dX11_holds_256 rfl (lv_at hl 5 rfl) ?_
    refine jr_i (rVr (As := [.int vp]) (rest := []) (ci := 12) ⟨hx, hb, hml, hown, hts⟩ (m_lends l dC dI cy vnh vo voth vmt votp vosz volm voto vofr vokd vonu vosg vofa vopl vowd votd vmn vmr vmk vms vma vmm vmrn vmkn vmik vmon vosm vohp vmw vmf vmb vomb vmd vmc vocm voct vocy vmx votx vose vml vmwr voln vohw vmno vond voon vowi votop vmnf vp ⟨by omega, by omega⟩ p_vmnf) (cw_X11_265 hts rfl rfl ⟨Nat.le_of_ble_eq_true rfl, Nat.le_of_ble_eq_true rfl⟩) hP hK [0, 1] rfl rfl rfl rfl hl.1 rfl (Nat.le_of_ble_eq_true rfl) dX11_holds_257 ⟨Nat.le_of_ble_eq_true rfl, Nat.le_of_ble_eq_true rfl⟩) hP hS (fun r_53 H locs hp_54 hP hS => ?_)
    have hp_54 : ((r_53 = 0) ∨ (r_53 = 1)) := hp_54
    have q_55 := hp_54
    rcases q_55 with aq_55 | aq_55
    · skip
      refine as_i 0 aq_55 ?_
      have k_0 : (0 : Int32).toInt = 0 := by decide
      rw [hQ9]
      exact re_z voth hx hb hr hlocks (Or.inl rfl) (show ((0 : Int32) = 0) ∨ ((0 : Int32) = 1) from (Or.inl rfl)) (hP.sub [0, 1] rfl) (hD.sub [0, 1] rfl rfl) hS dX11_holds_260
    · skip
      refine as_i 1 aq_55 ?_
      rw [hQ9]
      exact re_z voth hx hb hr hlocks (Or.inr rfl) (show ((1 : Int32) = 0) ∨ ((1 : Int32) = 1) from (Or.inr (rfl))) (hP.sub [0, 1] rfl) (hD.sub [0, 1] rfl rfl) hS dX11_holds_260
  by_cases sw_11_73 : z_10.toInt = 73
  · refine as_i 73 (i_eq.mpr (sw_11_73.trans k_73.symm)) ?_
    refine lv_lookup (off := 227) (tgt := 261) hx hb dX11_holds_34 (by decide) (by decide) (by decide) ?_
    have hB := hA4 (by omega)
    refine lv_aload_n hx hb dX11_holds_261 rfl (lv_at hl 3 rfl) ?_
    refine lv_iload_n hx hb dX11_holds_262 rfl (lv_at hl 5 rfl) ?_
    refine lv_iload hx hb dX11_holds_263 (lv_at hl 1 rfl) ?_
    refine jr_i (rVr (As := [.int vp, .int z_5]) (rest := []) (ci := 12) ⟨hx, hb, hml, hown, hts⟩ (m_didOf l dC dI cy vnh vo voth vmt votp vosz volm voto vofr vokd vonu vosg vofa vopl vowd votd vmn vmr vmk vms vma vmm vmrn vmkn vmik vmon vosm vohp vmw vmf vmb vomb vmd vmc vocm voct vocy vmx votx vose vml vmwr voln vohw vmno vond voon vowi votop vmnf vp z_5 ⟨by omega, by omega⟩ ⟨by omega, by omega⟩ p_vmnf) (cw_X11_228 hts rfl rfl ⟨Nat.le_of_ble_eq_true rfl, Nat.le_of_ble_eq_true rfl⟩) hP hK [0, 1] rfl rfl rfl rfl hl.1 rfl (Nat.le_of_ble_eq_true rfl) dX11_holds_265 ⟨Nat.le_of_ble_eq_true rfl, Nat.le_of_ble_eq_true rfl⟩) hP hS (fun r_56 H locs hp_57 hP hS => ?_)
    have k_0 : (0 : Int32).toInt = 0 := by decide
    refine lv_if_le (tgt := 275) hx hb dX11_holds_268 (by decide) (fun c_58 => ?_) (fun c_58 => ?_)
    · skip
      have c_58 : r_56.toInt ≤ (0 : Int32).toInt := i_le.mp c_58
      refine lv_iconst (v := 0) hx hb dX11_holds_275 (by decide) ?_
      rw [hQ9]
      exact re_z voth hx hb hr hlocks (Or.inl rfl) (show ((0 : Int32) = 0) ∨ ((0 : Int32) = 1) from (Or.inl rfl)) (hP.sub [0, 1] rfl) (hD.sub [0, 1] rfl rfl) hS dX11_holds_276
    · skip
      have c_58 : ¬ (r_56.toInt ≤ (0 : Int32).toInt) := fun h9 => c_58 (i_le.mpr h9)
      refine lv_iconst (v := 1) hx hb dX11_holds_271 (by decide) ?_
      refine lv_goto (tgt := 276) hx hb dX11_holds_272 (by decide) ?_
      rw [hQ9]
      exact re_z voth hx hb hr hlocks (Or.inr rfl) (show ((1 : Int32) = 0) ∨ ((1 : Int32) = 1) from (Or.inr (rfl))) (hP.sub [0, 1] rfl) (hD.sub [0, 1] rfl rfl) hS dX11_holds_276
  by_cases sw_11_74 : z_10.toInt = 74
  · refine as_i 74 (i_eq.mpr (sw_11_74.trans k_74.symm)) ?_
    refine lv_lookup (off := 243) (tgt := 277) hx hb dX11_holds_34 (by decide) (by decide) (by decide) ?_
    refine lv_aload_n hx hb dX11_holds_277 rfl (lv_at hl 3 rfl) ?_
    refine lv_iload hx hb dX11_holds_278 (lv_at hl 1 rfl) ?_
    refine jn_i (wr := []) (rV (As := [.int z_5]) (rest := []) (ci := 12) ⟨hx, hb, hml, hown, hts⟩ (m_family l dC dI cy _ vnh vo voth vmt votp vosz volm voto vofr vokd vonu vosg vofa vopl vowd votd vmn vmr vmk vms vma vmm vmrn vmkn vmik vmon vosm vohp vmw vmf vmb vomb vmd vmc vocm voct vocy vmx votx vose vml vmwr voln vohw vmno vond voon vowi votop vmnf z_5 p_vmnf) (cw_X11_441 hts rfl rfl ⟨Nat.le_of_ble_eq_true rfl, Nat.le_of_ble_eq_true rfl⟩) hP hD hK [0, 1] rfl rfl rfl rfl bl0 e0 rfl hl.1 rfl (Nat.le_of_ble_eq_true rfl) dX11_holds_280 ⟨Nat.le_of_ble_eq_true rfl, Nat.le_of_ble_eq_true rfl⟩) hP hD hS hA [0, 1] [] rfl rfl rfl (by decide) (fun r_59 u_61 H locs hp_60 hP hD hS => ?_)
    obtain ⟨voth_62, rfl⟩ : ∃ z, z = u_61 := ⟨_, rfl⟩
    have hP : va_P (dC, dI) vwCl [(vo, .inr (12, [.int voth_62, .ref vmt, .int votp, .int vosz, .int volm, .int voto, .int vofr, .int vokd, .int vonu, .int vosg, .int vofa, .int vopl, .long vowd, .int votd, .ref vmn, .ref vmr, .ref vmk, .ref vms, .ref vma, .ref vmm, .ref vmrn, .ref vmkn, .ref vmik, .ref vmon, .int vosm, .int vohp, .ref vmw, .ref vmf, .ref vmb, .int vomb, .ref vmd, .ref vmc, .int vocm, .int voct, .int vocy, .ref vmx, .int votx, .int vose, .ref vml, .ref vmwr, .int voln, .int vohw, .ref vmno, .int vond, .int voon, .int vowi, .int votop])), (vmn, .inl (cy 0, 575, .inl vmnf))] H := hP
    have hD : va_D A [(vo, .inr (12, [.int voth_62, .ref vmt, .int votp, .int vosz, .int volm, .int voto, .int vofr, .int vokd, .int vonu, .int vosg, .int vofa, .int vopl, .long vowd, .int votd, .ref vmn, .ref vmr, .ref vmk, .ref vms, .ref vma, .ref vmm, .ref vmrn, .ref vmkn, .ref vmik, .ref vmon, .int vosm, .int vohp, .ref vmw, .ref vmf, .ref vmb, .int vomb, .ref vmd, .ref vmc, .int vocm, .int voct, .int vocy, .ref vmx, .int votx, .int vose, .ref vml, .ref vmwr, .int voln, .int vohw, .ref vmno, .int vond, .int voon, .int vowi, .int votop])), (vmn, .inl (cy 0, 575, .inl vmnf))] := hD
    refine lv_iload_n hx hb dX11_holds_283 rfl (lv_at hl 5 rfl) ?_
    refine jr_i (rSr (As := [.int r_59, .int vp]) (rest := []) ⟨hx, hb, hml, hown, hts⟩ (m_has l dC dI cy r_59 vp ) (cw_X11_194 hts rfl rfl ⟨Nat.le_of_ble_eq_true rfl, Nat.le_of_ble_eq_true rfl⟩) hP hK [] rfl rfl hl.1 rfl (Nat.le_of_ble_eq_true rfl) dX11_holds_284 ⟨Nat.le_of_ble_eq_true rfl, Nat.le_of_ble_eq_true rfl⟩) hP hS (fun r_63 H locs hp_64 hP hS => ?_)
    have hp_64 : ((r_63 = 0) ∨ (r_63 = 1)) := hp_64
    have q_65 := hp_64
    rcases q_65 with aq_65 | aq_65
    · skip
      refine as_i 0 aq_65 ?_
      have k_0 : (0 : Int32).toInt = 0 := by decide
      rw [hQ9]
      exact re_z voth_62 hx hb hr hlocks (Or.inl rfl) (show ((0 : Int32) = 0) ∨ ((0 : Int32) = 1) from (Or.inl rfl)) (hP.sub [0, 1] rfl) (hD.sub [0, 1] rfl rfl) hS dX11_holds_287
    · skip
      refine as_i 1 aq_65 ?_
      rw [hQ9]
      exact re_z voth_62 hx hb hr hlocks (Or.inr rfl) (show ((1 : Int32) = 0) ∨ ((1 : Int32) = 1) from (Or.inr (rfl))) (hP.sub [0, 1] rfl) (hD.sub [0, 1] rfl rfl) hS dX11_holds_287
  have nsw_11_1 : ¬ ((1 : Int) = z_10.toInt) := by omega
  have nsw_11_2 : ¬ ((2 : Int) = z_10.toInt) := by omega
  have nsw_11_3 : ¬ ((3 : Int) = z_10.toInt) := by omega
  have nsw_11_68 : ¬ ((68 : Int) = z_10.toInt) := by omega
  have nsw_11_69 : ¬ ((69 : Int) = z_10.toInt) := by omega
  have nsw_11_70 : ¬ ((70 : Int) = z_10.toInt) := by omega
  have nsw_11_71 : ¬ ((71 : Int) = z_10.toInt) := by omega
  have nsw_11_72 : ¬ ((72 : Int) = z_10.toInt) := by omega
  have nsw_11_73 : ¬ ((73 : Int) = z_10.toInt) := by omega
  have nsw_11_74 : ¬ ((74 : Int) = z_10.toInt) := by omega
  refine lv_lookup (off := 254) (tgt := 288) hx hb dX11_holds_34 (by decide) (by simp only [Op.lookupswitch.offset, if_neg nsw_11_1, if_neg nsw_11_2, if_neg nsw_11_3, if_neg nsw_11_68, if_neg nsw_11_69, if_neg nsw_11_70, if_neg nsw_11_71, if_neg nsw_11_72, if_neg nsw_11_73, if_neg nsw_11_74]) (by decide) ?_
  refine lv_aload_n hx hb dX11_holds_288 rfl (lv_at hl 3 rfl) ?_
  refine gf_X11_98 hx hb hts hown hK hP 0 rfl rfl dX11_holds_289 ?_
  refine lv_iload_n hx hb dX11_holds_292 rfl (lv_at hl 2 rfl) ?_
  have hin_66 : vp_in z_2 575 := vp_in_iff.mpr ⟨by omega, by omega⟩
  refine va_iald hx hb hK hP 1 0 rfl rfl hin_66 dX11_holds_293 ?_
  refine lv_topi (fun z_67 ez_67 => ?_)
  refine lv_bipush (v := 50) hx hb dX11_holds_294 (by decide) ?_
  refine lv_isub hx hb dX11_holds_296 ?_
  refine lv_topi (fun z_68 ez_68 => ?_)
  refine lv_istore (lv' := [(6, .int z_68), (5, .int z_8), (4, .int z_5), (3, .int z_2), (0, .ref vo), (1, .int vk), (2, .int vp)]) hx hb dX11_holds_297 hl (by decide) rfl (fun ls hl => ?_)
  refine lv_iload hx hb dX11_holds_299 (lv_at hl 0 rfl) ?_
  refine lv_bipush (v := 25) hx hb dX11_holds_301 (by decide) ?_
  have k_25 : (25 : Int32).toInt = 25 := by decide
  refine lv_icmp_ne (tgt := 314) hx hb dX11_holds_303 (by decide) (fun c_69 => ?_) (fun c_69 => ?_)
  · skip
    have c_69 : ¬ (z_68.toInt = (25 : Int32).toInt) := fun h9 => c_69 (i_eq.mpr h9)
    refine lv_iload hx hb dX11_holds_314 (lv_at hl 0 rfl) ?_
    refine lv_bipush (v := 26) hx hb dX11_holds_316 (by decide) ?_
    have k_26 : (26 : Int32).toInt = 26 := by decide
    refine lv_icmp_ne (tgt := 329) hx hb dX11_holds_318 (by decide) (fun c_70 => ?_) (fun c_70 => ?_)
    · skip
      have c_70 : ¬ (z_68.toInt = (26 : Int32).toInt) := fun h9 => c_70 (i_eq.mpr h9)
      refine lv_iload hx hb dX11_holds_329 (lv_at hl 0 rfl) ?_
      refine lv_bipush (v := 27) hx hb dX11_holds_331 (by decide) ?_
      have k_27 : (27 : Int32).toInt = 27 := by decide
      refine lv_icmp_ne (tgt := 349) hx hb dX11_holds_333 (by decide) (fun c_71 => ?_) (fun c_71 => ?_)
      · skip
        have c_71 : ¬ (z_68.toInt = (27 : Int32).toInt) := fun h9 => c_71 (i_eq.mpr h9)
        refine lv_iload_n hx hb dX11_holds_349 rfl (lv_at hl 6 rfl) ?_
        refine lv_istore (lv' := [(7, .int vp), (6, .int z_68), (5, .int z_8), (4, .int z_5), (3, .int z_2), (0, .ref vo), (1, .int vk), (2, .int vp)]) hx hb dX11_holds_350 hl (by decide) rfl (fun ls hl => ?_)
        refine lv_aload_n hx hb dX11_holds_352 rfl (lv_at hl 5 rfl) ?_
        refine gf_X11_98 hx hb hts hown hK hP 0 rfl rfl dX11_holds_353 ?_
        refine lv_iload_n hx hb dX11_holds_356 rfl (lv_at hl 4 rfl) ?_
        refine lv_iconst (v := 3) hx hb dX11_holds_357 (by decide) ?_
        refine lv_iadd hx hb dX11_holds_358 ?_
        refine lv_topi (fun z_72 ez_72 => ?_)
        have bz_72 : z_72.toInt = z_2.toInt + (3 : Int32).toInt := i_add ez_72 (by omega) (by omega)
        have hin_73 : vp_in z_72 575 := vp_in_iff.mpr ⟨by omega, by omega⟩
        refine va_iald hx hb hK hP 1 0 rfl rfl hin_73 dX11_holds_359 ?_
        refine lv_topi (fun z_74 ez_74 => ?_)
        refine lv_bipush (v := 60) hx hb dX11_holds_360 (by decide) ?_
        have k_60 : (60 : Int32).toInt = 60 := by decide
        refine lv_icmp_ne (tgt := 380) hx hb dX11_holds_362 (by decide) (fun c_75 => ?_) (fun c_75 => ?_)
        · skip
          have c_75 : ¬ (z_74.toInt = (60 : Int32).toInt) := fun h9 => c_75 (i_eq.mpr h9)
          refine lv_aload_n hx hb dX11_holds_380 rfl (lv_at hl 5 rfl) ?_
          refine gf_X11_98 hx hb hts hown hK hP 0 rfl rfl dX11_holds_381 ?_
          refine lv_iload_n hx hb dX11_holds_384 rfl (lv_at hl 4 rfl) ?_
          refine lv_iconst (v := 3) hx hb dX11_holds_385 (by decide) ?_
          refine lv_iadd hx hb dX11_holds_386 ?_
          refine lv_topi (fun z_76 ez_76 => ?_)
          have bz_76 : z_76.toInt = z_2.toInt + (3 : Int32).toInt := i_add ez_76 (by omega) (by omega)
          have hin_77 : vp_in z_76 575 := vp_in_iff.mpr ⟨by omega, by omega⟩
          refine va_iald hx hb hK hP 1 0 rfl rfl hin_77 dX11_holds_387 ?_
          refine lv_topi (fun z_78 ez_78 => ?_)
          refine lv_bipush (v := 61) hx hb dX11_holds_388 (by decide) ?_
          have k_61 : (61 : Int32).toInt = 61 := by decide
          refine lv_icmp_ne (tgt := 408) hx hb dX11_holds_390 (by decide) (fun c_79 => ?_) (fun c_79 => ?_)
          · skip
            have c_79 : ¬ (z_78.toInt = (61 : Int32).toInt) := fun h9 => c_79 (i_eq.mpr h9)
            refine lv_iload hx hb dX11_holds_408 (lv_at hl 0 rfl) ?_
            refine lv_iload hx hb dX11_holds_410 (lv_at hl 2 rfl) ?_
            refine lv_icmp_le (tgt := 419) hx hb dX11_holds_412 (by decide) (fun c_80 => ?_) (fun c_80 => ?_)
            · skip
              have c_80 : vp.toInt ≤ z_8.toInt := i_le.mp c_80
              refine lv_iconst (v := 0) hx hb dX11_holds_419 (by decide) ?_
              have k_0 : (0 : Int32).toInt = 0 := by decide
              rw [hQ9]
              exact re_z voth hx hb hr hlocks (Or.inl rfl) (show ((0 : Int32) = 0) ∨ ((0 : Int32) = 1) from (Or.inl rfl)) (hP.sub [0, 1] rfl) (hD.sub [0, 1] rfl rfl) hS dX11_holds_420
            · skip
              have c_80 : ¬ (vp.toInt ≤ z_8.toInt) := fun h9 => c_80 (i_le.mpr h9)
              refine lv_iconst (v := 1) hx hb dX11_holds_415 (by decide) ?_
              refine lv_goto (tgt := 420) hx hb dX11_holds_416 (by decide) ?_
              rw [hQ9]
              exact re_z voth hx hb hr hlocks (Or.inr rfl) (show ((1 : Int32) = 0) ∨ ((1 : Int32) = 1) from (Or.inr (rfl))) (hP.sub [0, 1] rfl) (hD.sub [0, 1] rfl rfl) hS dX11_holds_420
          · skip
            have c_79 : z_78.toInt = (61 : Int32).toInt := i_eq.mp c_79
            refine lv_iload hx hb dX11_holds_393 (lv_at hl 0 rfl) ?_
            refine lv_iload hx hb dX11_holds_395 (lv_at hl 2 rfl) ?_
            refine lv_icmp_ne (tgt := 404) hx hb dX11_holds_397 (by decide) (fun c_81 => ?_) (fun c_81 => ?_)
            · skip
              have c_81 : ¬ (vp.toInt = z_8.toInt) := fun h9 => c_81 (i_eq.mpr h9)
              refine lv_iconst (v := 0) hx hb dX11_holds_404 (by decide) ?_
              refine lv_goto (tgt := 420) hx hb dX11_holds_405 (by decide) ?_
              have k_0 : (0 : Int32).toInt = 0 := by decide
              rw [hQ9]
              exact re_z voth hx hb hr hlocks (Or.inl rfl) (show ((0 : Int32) = 0) ∨ ((0 : Int32) = 1) from (Or.inl rfl)) (hP.sub [0, 1] rfl) (hD.sub [0, 1] rfl rfl) hS dX11_holds_420
            · skip
              have c_81 : vp.toInt = z_8.toInt := i_eq.mp c_81
              refine lv_iconst (v := 1) hx hb dX11_holds_400 (by decide) ?_
              refine lv_goto (tgt := 420) hx hb dX11_holds_401 (by decide) ?_
              rw [hQ9]
              exact re_z voth hx hb hr hlocks (Or.inr rfl) (show ((1 : Int32) = 0) ∨ ((1 : Int32) = 1) from (Or.inr (rfl))) (hP.sub [0, 1] rfl) (hD.sub [0, 1] rfl rfl) hS dX11_holds_420
        · skip
          have c_75 : z_74.toInt = (60 : Int32).toInt := i_eq.mp c_75
          refine lv_iload hx hb dX11_holds_365 (lv_at hl 0 rfl) ?_
          refine lv_iload hx hb dX11_holds_367 (lv_at hl 2 rfl) ?_
          refine lv_icmp_ge (tgt := 376) hx hb dX11_holds_369 (by decide) (fun c_82 => ?_) (fun c_82 => ?_)
          · skip
            have c_82 : z_8.toInt ≤ vp.toInt := i_le.mp c_82
            refine lv_iconst (v := 0) hx hb dX11_holds_376 (by decide) ?_
            refine lv_goto (tgt := 420) hx hb dX11_holds_377 (by decide) ?_
            have k_0 : (0 : Int32).toInt = 0 := by decide
            rw [hQ9]
            exact re_z voth hx hb hr hlocks (Or.inl rfl) (show ((0 : Int32) = 0) ∨ ((0 : Int32) = 1) from (Or.inl rfl)) (hP.sub [0, 1] rfl) (hD.sub [0, 1] rfl rfl) hS dX11_holds_420
          · skip
            have c_82 : ¬ (z_8.toInt ≤ vp.toInt) := fun h9 => c_82 (i_le.mpr h9)
            refine lv_iconst (v := 1) hx hb dX11_holds_372 (by decide) ?_
            refine lv_goto (tgt := 420) hx hb dX11_holds_373 (by decide) ?_
            rw [hQ9]
            exact re_z voth hx hb hr hlocks (Or.inr rfl) (show ((1 : Int32) = 0) ∨ ((1 : Int32) = 1) from (Or.inr (rfl))) (hP.sub [0, 1] rfl) (hD.sub [0, 1] rfl rfl) hS dX11_holds_420
      · skip
        have c_71 : z_68.toInt = (27 : Int32).toInt := i_eq.mp c_71
        refine lv_aload_n hx hb dX11_holds_336 rfl (lv_at hl 4 rfl) ?_
        refine gf_X11_98 hx hb hts hown hK hP 0 rfl rfl dX11_holds_337 ?_
        refine lv_sipush (v := 158) hx hb dX11_holds_340 (by decide) ?_
        refine lv_iload_n hx hb dX11_holds_343 rfl (lv_at hl 6 rfl) ?_
        refine lv_iadd hx hb dX11_holds_344 ?_
        refine lv_topi (fun z_83 ez_83 => ?_)
        have k_158 : (158 : Int32).toInt = 158 := by decide
        have bz_83 : z_83.toInt = (158 : Int32).toInt + vp.toInt := i_add ez_83 (by omega) (by omega)
        have hin_84 : vp_in z_83 575 := vp_in_iff.mpr ⟨by omega, by omega⟩
        refine va_iald hx hb hK hP 1 0 rfl rfl hin_84 dX11_holds_345 ?_
        refine lv_topi (fun z_85 ez_85 => ?_)
        refine lv_goto (tgt := 350) hx hb dX11_holds_346 (by decide) ?_
        refine lv_istore (lv' := [(7, .int z_85), (6, .int z_68), (5, .int z_8), (4, .int z_5), (3, .int z_2), (0, .ref vo), (1, .int vk), (2, .int vp)]) hx hb dX11_holds_350 hl (by decide) rfl (fun ls hl => ?_)
        refine lv_aload_n hx hb dX11_holds_352 rfl (lv_at hl 5 rfl) ?_
        refine gf_X11_98 hx hb hts hown hK hP 0 rfl rfl dX11_holds_353 ?_
        refine lv_iload_n hx hb dX11_holds_356 rfl (lv_at hl 4 rfl) ?_
        refine lv_iconst (v := 3) hx hb dX11_holds_357 (by decide) ?_
        refine lv_iadd hx hb dX11_holds_358 ?_
        refine lv_topi (fun z_86 ez_86 => ?_)
        have bz_86 : z_86.toInt = z_2.toInt + (3 : Int32).toInt := i_add ez_86 (by omega) (by omega)
        have hin_87 : vp_in z_86 575 := vp_in_iff.mpr ⟨by omega, by omega⟩
        refine va_iald hx hb hK hP 1 0 rfl rfl hin_87 dX11_holds_359 ?_
        refine lv_topi (fun z_88 ez_88 => ?_)
        refine lv_bipush (v := 60) hx hb dX11_holds_360 (by decide) ?_
        have k_60 : (60 : Int32).toInt = 60 := by decide
        refine lv_icmp_ne (tgt := 380) hx hb dX11_holds_362 (by decide) (fun c_89 => ?_) (fun c_89 => ?_)
        · skip
          have c_89 : ¬ (z_88.toInt = (60 : Int32).toInt) := fun h9 => c_89 (i_eq.mpr h9)
          refine lv_aload_n hx hb dX11_holds_380 rfl (lv_at hl 5 rfl) ?_
          refine gf_X11_98 hx hb hts hown hK hP 0 rfl rfl dX11_holds_381 ?_
          refine lv_iload_n hx hb dX11_holds_384 rfl (lv_at hl 4 rfl) ?_
          refine lv_iconst (v := 3) hx hb dX11_holds_385 (by decide) ?_
          refine lv_iadd hx hb dX11_holds_386 ?_
          refine lv_topi (fun z_90 ez_90 => ?_)
          have bz_90 : z_90.toInt = z_2.toInt + (3 : Int32).toInt := i_add ez_90 (by omega) (by omega)
          have hin_91 : vp_in z_90 575 := vp_in_iff.mpr ⟨by omega, by omega⟩
          refine va_iald hx hb hK hP 1 0 rfl rfl hin_91 dX11_holds_387 ?_
          refine lv_topi (fun z_92 ez_92 => ?_)
          refine lv_bipush (v := 61) hx hb dX11_holds_388 (by decide) ?_
          have k_61 : (61 : Int32).toInt = 61 := by decide
          refine lv_icmp_ne (tgt := 408) hx hb dX11_holds_390 (by decide) (fun c_93 => ?_) (fun c_93 => ?_)
          · skip
            have c_93 : ¬ (z_92.toInt = (61 : Int32).toInt) := fun h9 => c_93 (i_eq.mpr h9)
            refine lv_iload hx hb dX11_holds_408 (lv_at hl 0 rfl) ?_
            refine lv_iload hx hb dX11_holds_410 (lv_at hl 2 rfl) ?_
            refine lv_icmp_le (tgt := 419) hx hb dX11_holds_412 (by decide) (fun c_94 => ?_) (fun c_94 => ?_)
            · skip
              have c_94 : z_85.toInt ≤ z_8.toInt := i_le.mp c_94
              refine lv_iconst (v := 0) hx hb dX11_holds_419 (by decide) ?_
              have k_0 : (0 : Int32).toInt = 0 := by decide
              rw [hQ9]
              exact re_z voth hx hb hr hlocks (Or.inl rfl) (show ((0 : Int32) = 0) ∨ ((0 : Int32) = 1) from (Or.inl rfl)) (hP.sub [0, 1] rfl) (hD.sub [0, 1] rfl rfl) hS dX11_holds_420
            · skip
              have c_94 : ¬ (z_85.toInt ≤ z_8.toInt) := fun h9 => c_94 (i_le.mpr h9)
              refine lv_iconst (v := 1) hx hb dX11_holds_415 (by decide) ?_
              refine lv_goto (tgt := 420) hx hb dX11_holds_416 (by decide) ?_
              rw [hQ9]
              exact re_z voth hx hb hr hlocks (Or.inr rfl) (show ((1 : Int32) = 0) ∨ ((1 : Int32) = 1) from (Or.inr (rfl))) (hP.sub [0, 1] rfl) (hD.sub [0, 1] rfl rfl) hS dX11_holds_420
          · skip
            have c_93 : z_92.toInt = (61 : Int32).toInt := i_eq.mp c_93
            refine lv_iload hx hb dX11_holds_393 (lv_at hl 0 rfl) ?_
            refine lv_iload hx hb dX11_holds_395 (lv_at hl 2 rfl) ?_
            refine lv_icmp_ne (tgt := 404) hx hb dX11_holds_397 (by decide) (fun c_95 => ?_) (fun c_95 => ?_)
            · skip
              have c_95 : ¬ (z_85.toInt = z_8.toInt) := fun h9 => c_95 (i_eq.mpr h9)
              refine lv_iconst (v := 0) hx hb dX11_holds_404 (by decide) ?_
              refine lv_goto (tgt := 420) hx hb dX11_holds_405 (by decide) ?_
              have k_0 : (0 : Int32).toInt = 0 := by decide
              rw [hQ9]
              exact re_z voth hx hb hr hlocks (Or.inl rfl) (show ((0 : Int32) = 0) ∨ ((0 : Int32) = 1) from (Or.inl rfl)) (hP.sub [0, 1] rfl) (hD.sub [0, 1] rfl rfl) hS dX11_holds_420
            · skip
              have c_95 : z_85.toInt = z_8.toInt := i_eq.mp c_95
              refine lv_iconst (v := 1) hx hb dX11_holds_400 (by decide) ?_
              refine lv_goto (tgt := 420) hx hb dX11_holds_401 (by decide) ?_
              rw [hQ9]
              exact re_z voth hx hb hr hlocks (Or.inr rfl) (show ((1 : Int32) = 0) ∨ ((1 : Int32) = 1) from (Or.inr (rfl))) (hP.sub [0, 1] rfl) (hD.sub [0, 1] rfl rfl) hS dX11_holds_420
        · skip
          have c_89 : z_88.toInt = (60 : Int32).toInt := i_eq.mp c_89
          refine lv_iload hx hb dX11_holds_365 (lv_at hl 0 rfl) ?_
          refine lv_iload hx hb dX11_holds_367 (lv_at hl 2 rfl) ?_
          refine lv_icmp_ge (tgt := 376) hx hb dX11_holds_369 (by decide) (fun c_96 => ?_) (fun c_96 => ?_)
          · skip
            have c_96 : z_8.toInt ≤ z_85.toInt := i_le.mp c_96
            refine lv_iconst (v := 0) hx hb dX11_holds_376 (by decide) ?_
            refine lv_goto (tgt := 420) hx hb dX11_holds_377 (by decide) ?_
            have k_0 : (0 : Int32).toInt = 0 := by decide
            rw [hQ9]
            exact re_z voth hx hb hr hlocks (Or.inl rfl) (show ((0 : Int32) = 0) ∨ ((0 : Int32) = 1) from (Or.inl rfl)) (hP.sub [0, 1] rfl) (hD.sub [0, 1] rfl rfl) hS dX11_holds_420
          · skip
            have c_96 : ¬ (z_8.toInt ≤ z_85.toInt) := fun h9 => c_96 (i_le.mpr h9)
            refine lv_iconst (v := 1) hx hb dX11_holds_372 (by decide) ?_
            refine lv_goto (tgt := 420) hx hb dX11_holds_373 (by decide) ?_
            rw [hQ9]
            exact re_z voth hx hb hr hlocks (Or.inr rfl) (show ((1 : Int32) = 0) ∨ ((1 : Int32) = 1) from (Or.inr (rfl))) (hP.sub [0, 1] rfl) (hD.sub [0, 1] rfl rfl) hS dX11_holds_420
    · skip
      have c_70 : z_68.toInt = (26 : Int32).toInt := i_eq.mp c_70
      refine lv_aload_n hx hb dX11_holds_321 rfl (lv_at hl 4 rfl) ?_
      refine lv_iload_n hx hb dX11_holds_322 rfl (lv_at hl 6 rfl) ?_
      refine jr_i (rVr (As := [.int vp]) (rest := []) (ci := 12) ⟨hx, hb, hml, hown, hts⟩ (m_darkOf l dC dI cy vnh vo voth vmt votp vosz volm voto vofr vokd vonu vosg vofa vopl vowd votd vmn vmr vmk vms vma vmm vmrn vmkn vmik vmon vosm vohp vmw vmf vmb vomb vmd vmc vocm voct vocy vmx votx vose vml vmwr voln vohw vmno vond voon vowi votop vmnf vp ⟨by omega, by omega⟩ p_vmnf) (cw_X11_244 hts rfl rfl ⟨Nat.le_of_ble_eq_true rfl, Nat.le_of_ble_eq_true rfl⟩) hP hK [0, 1] rfl rfl rfl rfl hl.1 rfl (Nat.le_of_ble_eq_true rfl) dX11_holds_323 ⟨Nat.le_of_ble_eq_true rfl, Nat.le_of_ble_eq_true rfl⟩) hP hS (fun r_97 H locs hp_98 hP hS => ?_)
      refine lv_goto (tgt := 350) hx hb dX11_holds_326 (by decide) ?_
      refine lv_istore (lv' := [(7, .int r_97), (6, .int z_68), (5, .int z_8), (4, .int z_5), (3, .int z_2), (0, .ref vo), (1, .int vk), (2, .int vp)]) hx hb dX11_holds_350 hl (by decide) rfl (fun ls hl => ?_)
      refine lv_aload_n hx hb dX11_holds_352 rfl (lv_at hl 5 rfl) ?_
      refine gf_X11_98 hx hb hts hown hK hP 0 rfl rfl dX11_holds_353 ?_
      refine lv_iload_n hx hb dX11_holds_356 rfl (lv_at hl 4 rfl) ?_
      refine lv_iconst (v := 3) hx hb dX11_holds_357 (by decide) ?_
      refine lv_iadd hx hb dX11_holds_358 ?_
      refine lv_topi (fun z_99 ez_99 => ?_)
      have bz_99 : z_99.toInt = z_2.toInt + (3 : Int32).toInt := i_add ez_99 (by omega) (by omega)
      have hin_100 : vp_in z_99 575 := vp_in_iff.mpr ⟨by omega, by omega⟩
      refine va_iald hx hb hK hP 1 0 rfl rfl hin_100 dX11_holds_359 ?_
      refine lv_topi (fun z_101 ez_101 => ?_)
      refine lv_bipush (v := 60) hx hb dX11_holds_360 (by decide) ?_
      have k_60 : (60 : Int32).toInt = 60 := by decide
      refine lv_icmp_ne (tgt := 380) hx hb dX11_holds_362 (by decide) (fun c_102 => ?_) (fun c_102 => ?_)
      · skip
        have c_102 : ¬ (z_101.toInt = (60 : Int32).toInt) := fun h9 => c_102 (i_eq.mpr h9)
        refine lv_aload_n hx hb dX11_holds_380 rfl (lv_at hl 5 rfl) ?_
        refine gf_X11_98 hx hb hts hown hK hP 0 rfl rfl dX11_holds_381 ?_
        refine lv_iload_n hx hb dX11_holds_384 rfl (lv_at hl 4 rfl) ?_
        refine lv_iconst (v := 3) hx hb dX11_holds_385 (by decide) ?_
        refine lv_iadd hx hb dX11_holds_386 ?_
        refine lv_topi (fun z_103 ez_103 => ?_)
        have bz_103 : z_103.toInt = z_2.toInt + (3 : Int32).toInt := i_add ez_103 (by omega) (by omega)
        have hin_104 : vp_in z_103 575 := vp_in_iff.mpr ⟨by omega, by omega⟩
        refine va_iald hx hb hK hP 1 0 rfl rfl hin_104 dX11_holds_387 ?_
        refine lv_topi (fun z_105 ez_105 => ?_)
        refine lv_bipush (v := 61) hx hb dX11_holds_388 (by decide) ?_
        have k_61 : (61 : Int32).toInt = 61 := by decide
        refine lv_icmp_ne (tgt := 408) hx hb dX11_holds_390 (by decide) (fun c_106 => ?_) (fun c_106 => ?_)
        · skip
          have c_106 : ¬ (z_105.toInt = (61 : Int32).toInt) := fun h9 => c_106 (i_eq.mpr h9)
          refine lv_iload hx hb dX11_holds_408 (lv_at hl 0 rfl) ?_
          refine lv_iload hx hb dX11_holds_410 (lv_at hl 2 rfl) ?_
          refine lv_icmp_le (tgt := 419) hx hb dX11_holds_412 (by decide) (fun c_107 => ?_) (fun c_107 => ?_)
          · skip
            have c_107 : r_97.toInt ≤ z_8.toInt := i_le.mp c_107
            refine lv_iconst (v := 0) hx hb dX11_holds_419 (by decide) ?_
            have k_0 : (0 : Int32).toInt = 0 := by decide
            rw [hQ9]
            exact re_z voth hx hb hr hlocks (Or.inl rfl) (show ((0 : Int32) = 0) ∨ ((0 : Int32) = 1) from (Or.inl rfl)) (hP.sub [0, 1] rfl) (hD.sub [0, 1] rfl rfl) hS dX11_holds_420
          · skip
            have c_107 : ¬ (r_97.toInt ≤ z_8.toInt) := fun h9 => c_107 (i_le.mpr h9)
            refine lv_iconst (v := 1) hx hb dX11_holds_415 (by decide) ?_
            refine lv_goto (tgt := 420) hx hb dX11_holds_416 (by decide) ?_
            rw [hQ9]
            exact re_z voth hx hb hr hlocks (Or.inr rfl) (show ((1 : Int32) = 0) ∨ ((1 : Int32) = 1) from (Or.inr (rfl))) (hP.sub [0, 1] rfl) (hD.sub [0, 1] rfl rfl) hS dX11_holds_420
        · skip
          have c_106 : z_105.toInt = (61 : Int32).toInt := i_eq.mp c_106
          refine lv_iload hx hb dX11_holds_393 (lv_at hl 0 rfl) ?_
          refine lv_iload hx hb dX11_holds_395 (lv_at hl 2 rfl) ?_
          refine lv_icmp_ne (tgt := 404) hx hb dX11_holds_397 (by decide) (fun c_108 => ?_) (fun c_108 => ?_)
          · skip
            have c_108 : ¬ (r_97.toInt = z_8.toInt) := fun h9 => c_108 (i_eq.mpr h9)
            refine lv_iconst (v := 0) hx hb dX11_holds_404 (by decide) ?_
            refine lv_goto (tgt := 420) hx hb dX11_holds_405 (by decide) ?_
            have k_0 : (0 : Int32).toInt = 0 := by decide
            rw [hQ9]
            exact re_z voth hx hb hr hlocks (Or.inl rfl) (show ((0 : Int32) = 0) ∨ ((0 : Int32) = 1) from (Or.inl rfl)) (hP.sub [0, 1] rfl) (hD.sub [0, 1] rfl rfl) hS dX11_holds_420
          · skip
            have c_108 : r_97.toInt = z_8.toInt := i_eq.mp c_108
            refine lv_iconst (v := 1) hx hb dX11_holds_400 (by decide) ?_
            refine lv_goto (tgt := 420) hx hb dX11_holds_401 (by decide) ?_
            rw [hQ9]
            exact re_z voth hx hb hr hlocks (Or.inr rfl) (show ((1 : Int32) = 0) ∨ ((1 : Int32) = 1) from (Or.inr (rfl))) (hP.sub [0, 1] rfl) (hD.sub [0, 1] rfl rfl) hS dX11_holds_420
      · skip
        have c_102 : z_101.toInt = (60 : Int32).toInt := i_eq.mp c_102
        refine lv_iload hx hb dX11_holds_365 (lv_at hl 0 rfl) ?_
        refine lv_iload hx hb dX11_holds_367 (lv_at hl 2 rfl) ?_
        refine lv_icmp_ge (tgt := 376) hx hb dX11_holds_369 (by decide) (fun c_109 => ?_) (fun c_109 => ?_)
        · skip
          have c_109 : z_8.toInt ≤ r_97.toInt := i_le.mp c_109
          refine lv_iconst (v := 0) hx hb dX11_holds_376 (by decide) ?_
          refine lv_goto (tgt := 420) hx hb dX11_holds_377 (by decide) ?_
          have k_0 : (0 : Int32).toInt = 0 := by decide
          rw [hQ9]
          exact re_z voth hx hb hr hlocks (Or.inl rfl) (show ((0 : Int32) = 0) ∨ ((0 : Int32) = 1) from (Or.inl rfl)) (hP.sub [0, 1] rfl) (hD.sub [0, 1] rfl rfl) hS dX11_holds_420
        · skip
          have c_109 : ¬ (z_8.toInt ≤ r_97.toInt) := fun h9 => c_109 (i_le.mpr h9)
          refine lv_iconst (v := 1) hx hb dX11_holds_372 (by decide) ?_
          refine lv_goto (tgt := 420) hx hb dX11_holds_373 (by decide) ?_
          rw [hQ9]
          exact re_z voth hx hb hr hlocks (Or.inr rfl) (show ((1 : Int32) = 0) ∨ ((1 : Int32) = 1) from (Or.inr (rfl))) (hP.sub [0, 1] rfl) (hD.sub [0, 1] rfl rfl) hS dX11_holds_420
  · skip
    have c_69 : z_68.toInt = (25 : Int32).toInt := i_eq.mp c_69
    refine lv_aload_n hx hb dX11_holds_306 rfl (lv_at hl 4 rfl) ?_
    refine lv_iload_n hx hb dX11_holds_307 rfl (lv_at hl 6 rfl) ?_
    refine jr_i (rVr (As := [.int vp]) (rest := []) (ci := 12) ⟨hx, hb, hml, hown, hts⟩ (m_whiteOf l dC dI cy vnh vo voth vmt votp vosz volm voto vofr vokd vonu vosg vofa vopl vowd votd vmn vmr vmk vms vma vmm vmrn vmkn vmik vmon vosm vohp vmw vmf vmb vomb vmd vmc vocm voct vocy vmx votx vose vml vmwr voln vohw vmno vond voon vowi votop vmnf vp ⟨by omega, by omega⟩ p_vmnf) (cw_X11_241 hts rfl rfl ⟨Nat.le_of_ble_eq_true rfl, Nat.le_of_ble_eq_true rfl⟩) hP hK [0, 1] rfl rfl rfl rfl hl.1 rfl (Nat.le_of_ble_eq_true rfl) dX11_holds_308 ⟨Nat.le_of_ble_eq_true rfl, Nat.le_of_ble_eq_true rfl⟩) hP hS (fun r_110 H locs hp_111 hP hS => ?_)
    refine lv_goto (tgt := 350) hx hb dX11_holds_311 (by decide) ?_
    refine lv_istore (lv' := [(7, .int r_110), (6, .int z_68), (5, .int z_8), (4, .int z_5), (3, .int z_2), (0, .ref vo), (1, .int vk), (2, .int vp)]) hx hb dX11_holds_350 hl (by decide) rfl (fun ls hl => ?_)
    refine lv_aload_n hx hb dX11_holds_352 rfl (lv_at hl 5 rfl) ?_
    refine gf_X11_98 hx hb hts hown hK hP 0 rfl rfl dX11_holds_353 ?_
    refine lv_iload_n hx hb dX11_holds_356 rfl (lv_at hl 4 rfl) ?_
    refine lv_iconst (v := 3) hx hb dX11_holds_357 (by decide) ?_
    refine lv_iadd hx hb dX11_holds_358 ?_
    refine lv_topi (fun z_112 ez_112 => ?_)
    have bz_112 : z_112.toInt = z_2.toInt + (3 : Int32).toInt := i_add ez_112 (by omega) (by omega)
    have hin_113 : vp_in z_112 575 := vp_in_iff.mpr ⟨by omega, by omega⟩
    refine va_iald hx hb hK hP 1 0 rfl rfl hin_113 dX11_holds_359 ?_
    refine lv_topi (fun z_114 ez_114 => ?_)
    refine lv_bipush (v := 60) hx hb dX11_holds_360 (by decide) ?_
    have k_60 : (60 : Int32).toInt = 60 := by decide
    refine lv_icmp_ne (tgt := 380) hx hb dX11_holds_362 (by decide) (fun c_115 => ?_) (fun c_115 => ?_)
    · skip
      have c_115 : ¬ (z_114.toInt = (60 : Int32).toInt) := fun h9 => c_115 (i_eq.mpr h9)
      refine lv_aload_n hx hb dX11_holds_380 rfl (lv_at hl 5 rfl) ?_
      refine gf_X11_98 hx hb hts hown hK hP 0 rfl rfl dX11_holds_381 ?_
      refine lv_iload_n hx hb dX11_holds_384 rfl (lv_at hl 4 rfl) ?_
      refine lv_iconst (v := 3) hx hb dX11_holds_385 (by decide) ?_
      refine lv_iadd hx hb dX11_holds_386 ?_
      refine lv_topi (fun z_116 ez_116 => ?_)
      have bz_116 : z_116.toInt = z_2.toInt + (3 : Int32).toInt := i_add ez_116 (by omega) (by omega)
      have hin_117 : vp_in z_116 575 := vp_in_iff.mpr ⟨by omega, by omega⟩
      refine va_iald hx hb hK hP 1 0 rfl rfl hin_117 dX11_holds_387 ?_
      refine lv_topi (fun z_118 ez_118 => ?_)
      refine lv_bipush (v := 61) hx hb dX11_holds_388 (by decide) ?_
      have k_61 : (61 : Int32).toInt = 61 := by decide
      refine lv_icmp_ne (tgt := 408) hx hb dX11_holds_390 (by decide) (fun c_119 => ?_) (fun c_119 => ?_)
      · skip
        have c_119 : ¬ (z_118.toInt = (61 : Int32).toInt) := fun h9 => c_119 (i_eq.mpr h9)
        refine lv_iload hx hb dX11_holds_408 (lv_at hl 0 rfl) ?_
        refine lv_iload hx hb dX11_holds_410 (lv_at hl 2 rfl) ?_
        refine lv_icmp_le (tgt := 419) hx hb dX11_holds_412 (by decide) (fun c_120 => ?_) (fun c_120 => ?_)
        · skip
          have c_120 : r_110.toInt ≤ z_8.toInt := i_le.mp c_120
          refine lv_iconst (v := 0) hx hb dX11_holds_419 (by decide) ?_
          have k_0 : (0 : Int32).toInt = 0 := by decide
          rw [hQ9]
          exact re_z voth hx hb hr hlocks (Or.inl rfl) (show ((0 : Int32) = 0) ∨ ((0 : Int32) = 1) from (Or.inl rfl)) (hP.sub [0, 1] rfl) (hD.sub [0, 1] rfl rfl) hS dX11_holds_420
        · skip
          have c_120 : ¬ (r_110.toInt ≤ z_8.toInt) := fun h9 => c_120 (i_le.mpr h9)
          refine lv_iconst (v := 1) hx hb dX11_holds_415 (by decide) ?_
          refine lv_goto (tgt := 420) hx hb dX11_holds_416 (by decide) ?_
          rw [hQ9]
          exact re_z voth hx hb hr hlocks (Or.inr rfl) (show ((1 : Int32) = 0) ∨ ((1 : Int32) = 1) from (Or.inr (rfl))) (hP.sub [0, 1] rfl) (hD.sub [0, 1] rfl rfl) hS dX11_holds_420
      · skip
        have c_119 : z_118.toInt = (61 : Int32).toInt := i_eq.mp c_119
        refine lv_iload hx hb dX11_holds_393 (lv_at hl 0 rfl) ?_
        refine lv_iload hx hb dX11_holds_395 (lv_at hl 2 rfl) ?_
        refine lv_icmp_ne (tgt := 404) hx hb dX11_holds_397 (by decide) (fun c_121 => ?_) (fun c_121 => ?_)
        · skip
          have c_121 : ¬ (r_110.toInt = z_8.toInt) := fun h9 => c_121 (i_eq.mpr h9)
          refine lv_iconst (v := 0) hx hb dX11_holds_404 (by decide) ?_
          refine lv_goto (tgt := 420) hx hb dX11_holds_405 (by decide) ?_
          have k_0 : (0 : Int32).toInt = 0 := by decide
          rw [hQ9]
          exact re_z voth hx hb hr hlocks (Or.inl rfl) (show ((0 : Int32) = 0) ∨ ((0 : Int32) = 1) from (Or.inl rfl)) (hP.sub [0, 1] rfl) (hD.sub [0, 1] rfl rfl) hS dX11_holds_420
        · skip
          have c_121 : r_110.toInt = z_8.toInt := i_eq.mp c_121
          refine lv_iconst (v := 1) hx hb dX11_holds_400 (by decide) ?_
          refine lv_goto (tgt := 420) hx hb dX11_holds_401 (by decide) ?_
          rw [hQ9]
          exact re_z voth hx hb hr hlocks (Or.inr rfl) (show ((1 : Int32) = 0) ∨ ((1 : Int32) = 1) from (Or.inr (rfl))) (hP.sub [0, 1] rfl) (hD.sub [0, 1] rfl rfl) hS dX11_holds_420
    · skip
      have c_115 : z_114.toInt = (60 : Int32).toInt := i_eq.mp c_115
      refine lv_iload hx hb dX11_holds_365 (lv_at hl 0 rfl) ?_
      refine lv_iload hx hb dX11_holds_367 (lv_at hl 2 rfl) ?_
      refine lv_icmp_ge (tgt := 376) hx hb dX11_holds_369 (by decide) (fun c_122 => ?_) (fun c_122 => ?_)
      · skip
        have c_122 : z_8.toInt ≤ r_110.toInt := i_le.mp c_122
        refine lv_iconst (v := 0) hx hb dX11_holds_376 (by decide) ?_
        refine lv_goto (tgt := 420) hx hb dX11_holds_377 (by decide) ?_
        have k_0 : (0 : Int32).toInt = 0 := by decide
        rw [hQ9]
        exact re_z voth hx hb hr hlocks (Or.inl rfl) (show ((0 : Int32) = 0) ∨ ((0 : Int32) = 1) from (Or.inl rfl)) (hP.sub [0, 1] rfl) (hD.sub [0, 1] rfl rfl) hS dX11_holds_420
      · skip
        have c_122 : ¬ (z_8.toInt ≤ r_110.toInt) := fun h9 => c_122 (i_le.mpr h9)
        refine lv_iconst (v := 1) hx hb dX11_holds_372 (by decide) ?_
        refine lv_goto (tgt := 420) hx hb dX11_holds_373 (by decide) ?_
        rw [hQ9]
        exact re_z voth hx hb hr hlocks (Or.inr rfl) (show ((1 : Int32) = 0) ∨ ((1 : Int32) = 1) from (Or.inr (rfl))) (hP.sub [0, 1] rfl) (hD.sub [0, 1] rfl rfl) hS dX11_holds_420
abbrev O_m_holds_4 (cy : Nat → ClassId) (vnh : Nat → Int32) (vo : Nat) (voth : Int32) (vmt : Nat) (votp : Int32) (vosz : Int32) (volm : Int32) (voto : Int32) (vofr : Int32) (vokd : Int32) (vonu : Int32) (vosg : Int32) (vofa : Int32) (vopl : Int32) (vowd : Int64) (votd : Int32) (vmn : Nat) (vmr : Nat) (vmk : Nat) (vms : Nat) (vma : Nat) (vmm : Nat) (vmrn : Nat) (vmkn : Nat) (vmik : Nat) (vmon : Nat) (vosm : Int32) (vohp : Int32) (vmw : Nat) (vmf : Nat) (vmb : Nat) (vomb : Int32) (vmd : Nat) (vmc : Nat) (vocm : Int32) (voct : Int32) (vocy : Int32) (vmx : Nat) (votx : Int32) (vose : Int32) (vml : Nat) (vmwr : Nat) (voln : Int32) (vohw : Int32) (vmno : Nat) (vond : Int32) (voon : Int32) (vowi : Int32) (votop : Int32) (vmnf : Nat → Int32) (vk : Int32) (vp : Int32) (u : Int32) : va_W := [(vo, .inr (12, [.int u, .ref vmt, .int votp, .int vosz, .int volm, .int voto, .int vofr, .int vokd, .int vonu, .int vosg, .int vofa, .int vopl, .long vowd, .int votd, .ref vmn, .ref vmr, .ref vmk, .ref vms, .ref vma, .ref vmm, .ref vmrn, .ref vmkn, .ref vmik, .ref vmon, .int vosm, .int vohp, .ref vmw, .ref vmf, .ref vmb, .int vomb, .ref vmd, .ref vmc, .int vocm, .int voct, .int vocy, .ref vmx, .int votx, .int vose, .ref vml, .ref vmwr, .int voln, .int vohw, .ref vmno, .int vond, .int voon, .int vowi, .int votop])), (vmn, .inl (cy 0, 575, .inl vmnf))]
set_option maxHeartbeats 4000000 in
set_option maxRecDepth 100000 in
theorem m_holds_4 (l : Launch) (dC : Nat → ClassId) (dI : Nat → Nat → Nat) (cy : Nat → ClassId) (sz : Nat) (vnh : Nat → Int32) (vo : Nat) (voth : Int32) (vmt : Nat) (votp : Int32) (vosz : Int32) (volm : Int32) (voto : Int32) (vofr : Int32) (vokd : Int32) (vonu : Int32) (vosg : Int32) (vofa : Int32) (vopl : Int32) (vowd : Int64) (votd : Int32) (vmn : Nat) (vmr : Nat) (vmk : Nat) (vms : Nat) (vma : Nat) (vmm : Nat) (vmrn : Nat) (vmkn : Nat) (vmik : Nat) (vmon : Nat) (vosm : Int32) (vohp : Int32) (vmw : Nat) (vmf : Nat) (vmb : Nat) (vomb : Int32) (vmd : Nat) (vmc : Nat) (vocm : Int32) (voct : Int32) (vocy : Int32) (vmx : Nat) (votx : Int32) (vose : Int32) (vml : Nat) (vmwr : Nat) (voln : Int32) (vohw : Int32) (vmno : Nat) (vond : Int32) (voon : Int32) (vowi : Int32) (votop : Int32) (vmnf : Nat → Int32) (vk : Int32) (vp : Int32) (r_vk : 0 ≤ (vk : Int32).toInt ∧ (vk : Int32).toInt ≤ 4) (r_vp : 0 ≤ (vp : Int32).toInt ∧ (vp : Int32).toInt ≤ 6) (p_vmnf : NW vnh vmnf) : Met l yX11_holds (wl yX11_holds cX11_holds 8 (some .boolean)) ({ frames := 10, cells := 0, slots := 0, locals := 640 }) (Pw (dC, dI) vwCl cy [(vo, .inr (12, [.int voth, .ref vmt, .int votp, .int vosz, .int volm, .int voto, .int vofr, .int vokd, .int vonu, .int vosg, .int vofa, .int vopl, .long vowd, .int votd, .ref vmn, .ref vmr, .ref vmk, .ref vms, .ref vma, .ref vmm, .ref vmrn, .ref vmkn, .ref vmik, .ref vmon, .int vosm, .int vohp, .ref vmw, .ref vmf, .ref vmb, .int vomb, .ref vmd, .ref vmc, .int vocm, .int voct, .int vocy, .ref vmx, .int votx, .int vose, .ref vml, .ref vmwr, .int voln, .int vohw, .ref vmno, .int vond, .int voon, .int vowi, .int votop])), (vmn, .inl (cy 0, 575, .inl vmnf))] sz [.ref vo, .int vk, .int vp] nE) (Qi (dC, dI) vwCl (fun (r : Int32) (u : Int32) => ((r = 0) ∨ (r = 1))) (O_m_holds_4 cy vnh vo voth vmt votp vosz volm voto vofr vokd vonu vosg vofa vopl vowd votd vmn vmr vmk vms vma vmm vmrn vmkn vmik vmon vosm vohp vmw vmf vmb vomb vmd vmc vocm voct vocy vmx votx vose vml vmwr voln vohw vmno vond voon vowi votop vmnf vk vp) (va_A [(vo, .inr (12, [.int voth, .ref vmt, .int votp, .int vosz, .int volm, .int voto, .int vofr, .int vokd, .int vonu, .int vosg, .int vofa, .int vopl, .long vowd, .int votd, .ref vmn, .ref vmr, .ref vmk, .ref vms, .ref vma, .ref vmm, .ref vmrn, .ref vmkn, .ref vmik, .ref vmon, .int vosm, .int vohp, .ref vmw, .ref vmf, .ref vmb, .int vomb, .ref vmd, .ref vmc, .int vocm, .int voct, .int vocy, .ref vmx, .int votx, .int vose, .ref vml, .ref vmwr, .int voln, .int vohw, .ref vmno, .int vond, .int voon, .int vowi, .int votop])), (vmn, .inl (cy 0, 575, .inl vmnf))] sz)) 0 0 (va_A [(vo, .inr (12, [.int voth, .ref vmt, .int votp, .int vosz, .int volm, .int voto, .int vofr, .int vokd, .int vonu, .int vosg, .int vofa, .int vopl, .long vowd, .int votd, .ref vmn, .ref vmr, .ref vmk, .ref vms, .ref vma, .ref vmm, .ref vmrn, .ref vmkn, .ref vmik, .ref vmon, .int vosm, .int vohp, .ref vmw, .ref vmf, .ref vmb, .int vomb, .ref vmd, .ref vmc, .int vocm, .int voct, .int vocy, .ref vmx, .int votx, .int vose, .ref vml, .ref vmwr, .int voln, .int vohw, .ref vmno, .int vond, .int voon, .int vowi, .int votop])), (vmn, .inl (cy 0, 575, .inl vmnf))] sz) := by
  refine mw (Qc := Qi (dC, dI) vwCl (fun (r : Int32) (u : Int32) => ((r = 0) ∨ (r = 1))) (O_m_holds_4 cy vnh vo voth vmt votp vosz volm voto vofr vokd vonu vosg vofa vopl vowd votd vmn vmr vmk vms vma vmm vmrn vmkn vmik vmon vosm vohp vmw vmf vmb vomb vmd vmc vocm voct vocy vmx votx vose vml vmwr voln vohw vmno vond voon vowi votop vmnf vk vp)) RX11 rfl (by decide +kernel) (Nat.le_of_ble_eq_true rfl) ?_
  intro p e s m below meth c A hx hb hr hlocks av9 hav hts hown hnm hml hK hP hD hA hS hE hAe Q9 hQ9 ls hl
  have hl : lv_has ls 8 [(0, .ref vo), (1, .int vk), (2, .int vp)] := hl
  refine lv_sipush (v := 335) hx hb dX11_holds_0 (by decide) ?_
  refine lv_iconst (v := 4) hx hb dX11_holds_3 (by decide) ?_
  refine lv_iload_n hx hb dX11_holds_4 rfl (lv_at hl 1 rfl) ?_
  refine lv_imul hx hb dX11_holds_5 ?_
  refine lv_topi (fun z_1 ez_1 => ?_)
  have k_4 : (4 : Int32).toInt = 4 := by decide
  have bz_1 : z_1.toInt = vk.toInt * 4 := i_cmul k_4 ez_1 (by omega) (by omega)
  refine lv_iadd hx hb dX11_holds_6 ?_
  refine lv_topi (fun z_2 ez_2 => ?_)
  have k_335 : (335 : Int32).toInt = 335 := by decide
  have bz_2 : z_2.toInt = (335 : Int32).toInt + z_1.toInt := i_add ez_2 (by omega) (by omega)
  refine lv_istore_n (lv' := [(3, .int z_2), (0, .ref vo), (1, .int vk), (2, .int vp)]) hx hb dX11_holds_7 rfl hl (by decide) rfl (fun ls hl => ?_)
  refine lv_aload_n hx hb dX11_holds_8 rfl (lv_at hl 1 rfl) ?_
  refine gf_X11_98 hx hb hts hown hK hP 0 rfl rfl dX11_holds_9 ?_
  refine lv_iload_n hx hb dX11_holds_12 rfl (lv_at hl 0 rfl) ?_
  refine lv_iconst (v := 1) hx hb dX11_holds_13 (by decide) ?_
  refine lv_iadd hx hb dX11_holds_14 ?_
  refine lv_topi (fun z_3 ez_3 => ?_)
  have k_1 : (1 : Int32).toInt = 1 := by decide
  have bz_3 : z_3.toInt = z_2.toInt + (1 : Int32).toInt := i_add ez_3 (by omega) (by omega)
  have hin_4 : vp_in z_3 575 := vp_in_iff.mpr ⟨by omega, by omega⟩
  refine va_iald hx hb hK hP 1 0 rfl rfl hin_4 dX11_holds_15 ?_
  refine lv_topi (fun z_5 ez_5 => ?_)
  refine lv_istore (lv' := [(4, .int z_5), (3, .int z_2), (0, .ref vo), (1, .int vk), (2, .int vp)]) hx hb dX11_holds_16 hl (by decide) rfl (fun ls hl => ?_)
  refine lv_aload_n hx hb dX11_holds_18 rfl (lv_at hl 2 rfl) ?_
  refine gf_X11_98 hx hb hts hown hK hP 0 rfl rfl dX11_holds_19 ?_
  refine lv_iload_n hx hb dX11_holds_22 rfl (lv_at hl 1 rfl) ?_
  refine lv_iconst (v := 2) hx hb dX11_holds_23 (by decide) ?_
  refine lv_iadd hx hb dX11_holds_24 ?_
  refine lv_topi (fun z_6 ez_6 => ?_)
  have k_2 : (2 : Int32).toInt = 2 := by decide
  have bz_6 : z_6.toInt = z_2.toInt + (2 : Int32).toInt := i_add ez_6 (by omega) (by omega)
  have hin_7 : vp_in z_6 575 := vp_in_iff.mpr ⟨by omega, by omega⟩
  refine va_iald hx hb hK hP 1 0 rfl rfl hin_7 dX11_holds_25 ?_
  refine lv_topi (fun z_8 ez_8 => ?_)
  refine lv_istore (lv' := [(5, .int z_8), (4, .int z_5), (3, .int z_2), (0, .ref vo), (1, .int vk), (2, .int vp)]) hx hb dX11_holds_26 hl (by decide) rfl (fun ls hl => ?_)
  refine lv_aload_n hx hb dX11_holds_28 rfl (lv_at hl 3 rfl) ?_
  refine gf_X11_98 hx hb hts hown hK hP 0 rfl rfl dX11_holds_29 ?_
  refine lv_iload_n hx hb dX11_holds_32 rfl (lv_at hl 2 rfl) ?_
  have hin_9 : vp_in z_2 575 := vp_in_iff.mpr ⟨by omega, by omega⟩
  refine va_iald hx hb hK hP 1 0 rfl rfl hin_9 dX11_holds_33 ?_
  refine lv_topi (fun z_10 ez_10 => ?_)
  obtain ⟨hA1, hA2, hA3, hA4⟩ := NW.node p_vmnf (k := vk) ⟨by omega, by omega⟩ (i1 := z_3) (by omega) ez_5 (i2 := z_6) (by omega) ez_8 (i0 := z_2) (by omega) ez_10
  have k_3 : (3 : Int32).toInt = 3 := by decide
  have k_68 : (68 : Int32).toInt = 68 := by decide
  have k_69 : (69 : Int32).toInt = 69 := by decide
  have k_70 : (70 : Int32).toInt = 70 := by decide
  have k_71 : (71 : Int32).toInt = 71 := by decide
  have k_72 : (72 : Int32).toInt = 72 := by decide
  have k_73 : (73 : Int32).toInt = 73 := by decide
  have k_74 : (74 : Int32).toInt = 74 := by decide
  by_cases sw_11_1 : z_10.toInt = 1
  · refine as_i 1 (i_eq.mpr (sw_11_1.trans k_1.symm)) ?_
    refine lv_lookup (off := 90) (tgt := 124) hx hb dX11_holds_34 (by decide) (by decide) (by decide) ?_
    have hB := hA1 (by omega)
    refine lv_aload_n hx hb dX11_holds_124 rfl (lv_at hl 3 rfl) ?_
    refine lv_iload hx hb dX11_holds_125 (lv_at hl 1 rfl) ?_
    refine lv_iload_n hx hb dX11_holds_127 rfl (lv_at hl 5 rfl) ?_
    refine jn_i (wr := []) (rV (As := [.int z_5, .int vp]) (rest := []) (ci := 12) ⟨hx, hb, hml, hown, hts⟩ (m_holds_3 l dC dI cy _ vnh vo voth vmt votp vosz volm voto vofr vokd vonu vosg vofa vopl vowd votd vmn vmr vmk vms vma vmm vmrn vmkn vmik vmon vosm vohp vmw vmf vmb vomb vmd vmc vocm voct vocy vmx votx vose vml vmwr voln vohw vmno vond voon vowi votop vmnf z_5 vp ⟨by omega, by omega⟩ r_vp p_vmnf) (cw_X11_438 hts rfl rfl ⟨Nat.le_of_ble_eq_true rfl, Nat.le_of_ble_eq_true rfl⟩) hP hD hK [0, 1] rfl rfl rfl rfl bl0 e0 rfl hl.1 rfl (Nat.le_of_ble_eq_true rfl) dX11_holds_128 ⟨Nat.le_of_ble_eq_true rfl, Nat.le_of_ble_eq_true rfl⟩) hP hD hS hA [0, 1] [] rfl rfl rfl (by decide) (fun r_12 u_14 H locs hp_13 hP hD hS => ?_)
    obtain ⟨voth_15, rfl⟩ : ∃ z, z = u_14 := ⟨_, rfl⟩
    have hp_13 : ((r_12 = 0) ∨ (r_12 = 1)) := hp_13
    have q_16 := hp_13
    have hP : va_P (dC, dI) vwCl [(vo, .inr (12, [.int voth_15, .ref vmt, .int votp, .int vosz, .int volm, .int voto, .int vofr, .int vokd, .int vonu, .int vosg, .int vofa, .int vopl, .long vowd, .int votd, .ref vmn, .ref vmr, .ref vmk, .ref vms, .ref vma, .ref vmm, .ref vmrn, .ref vmkn, .ref vmik, .ref vmon, .int vosm, .int vohp, .ref vmw, .ref vmf, .ref vmb, .int vomb, .ref vmd, .ref vmc, .int vocm, .int voct, .int vocy, .ref vmx, .int votx, .int vose, .ref vml, .ref vmwr, .int voln, .int vohw, .ref vmno, .int vond, .int voon, .int vowi, .int votop])), (vmn, .inl (cy 0, 575, .inl vmnf))] H := hP
    have hD : va_D A [(vo, .inr (12, [.int voth_15, .ref vmt, .int votp, .int vosz, .int volm, .int voto, .int vofr, .int vokd, .int vonu, .int vosg, .int vofa, .int vopl, .long vowd, .int votd, .ref vmn, .ref vmr, .ref vmk, .ref vms, .ref vma, .ref vmm, .ref vmrn, .ref vmkn, .ref vmik, .ref vmon, .int vosm, .int vohp, .ref vmw, .ref vmf, .ref vmb, .int vomb, .ref vmd, .ref vmc, .int vocm, .int voct, .int vocy, .ref vmx, .int votx, .int vose, .ref vml, .ref vmwr, .int voln, .int vohw, .ref vmno, .int vond, .int voon, .int vowi, .int votop])), (vmn, .inl (cy 0, 575, .inl vmnf))] := hD
    rcases q_16 with aq_16 | aq_16
    · skip
      refine as_i 0 aq_16 ?_
      refine lv_if_ne (tgt := 138) hx hb dX11_holds_131 (by decide) (fun c9 => absurd c9 (by decide)) (fun _ => ?_)
      refine lv_iconst (v := 1) hx hb dX11_holds_134 (by decide) ?_
      refine lv_goto (tgt := 139) hx hb dX11_holds_135 (by decide) ?_
      rw [hQ9]
      exact re_z voth_15 hx hb hr hlocks (Or.inr rfl) (show ((1 : Int32) = 0) ∨ ((1 : Int32) = 1) from (Or.inr (rfl))) (hP.sub [0, 1] rfl) (hD.sub [0, 1] rfl rfl) hS dX11_holds_139
    · skip
      refine as_i 1 aq_16 ?_
      refine lv_if_ne (tgt := 138) hx hb dX11_holds_131 (by decide) (fun _ => ?_) (fun c9 => absurd c9 (by decide))
      refine lv_iconst (v := 0) hx hb dX11_holds_138 (by decide) ?_
      have k_0 : (0 : Int32).toInt = 0 := by decide
      rw [hQ9]
      exact re_z voth_15 hx hb hr hlocks (Or.inl rfl) (show ((0 : Int32) = 0) ∨ ((0 : Int32) = 1) from (Or.inl rfl)) (hP.sub [0, 1] rfl) (hD.sub [0, 1] rfl rfl) hS dX11_holds_139
  by_cases sw_11_2 : z_10.toInt = 2
  · refine as_i 2 (i_eq.mpr (sw_11_2.trans k_2.symm)) ?_
    refine lv_lookup (off := 106) (tgt := 140) hx hb dX11_holds_34 (by decide) (by decide) (by decide) ?_
    have hB := hA2 (by omega)
    refine lv_aload_n hx hb dX11_holds_140 rfl (lv_at hl 3 rfl) ?_
    refine lv_iload hx hb dX11_holds_141 (lv_at hl 1 rfl) ?_
    refine lv_iload_n hx hb dX11_holds_143 rfl (lv_at hl 5 rfl) ?_
    refine jn_i (wr := []) (rV (As := [.int z_5, .int vp]) (rest := []) (ci := 12) ⟨hx, hb, hml, hown, hts⟩ (m_holds_3 l dC dI cy _ vnh vo voth vmt votp vosz volm voto vofr vokd vonu vosg vofa vopl vowd votd vmn vmr vmk vms vma vmm vmrn vmkn vmik vmon vosm vohp vmw vmf vmb vomb vmd vmc vocm voct vocy vmx votx vose vml vmwr voln vohw vmno vond voon vowi votop vmnf z_5 vp ⟨by omega, by omega⟩ r_vp p_vmnf) (cw_X11_438 hts rfl rfl ⟨Nat.le_of_ble_eq_true rfl, Nat.le_of_ble_eq_true rfl⟩) hP hD hK [0, 1] rfl rfl rfl rfl bl0 e0 rfl hl.1 rfl (Nat.le_of_ble_eq_true rfl) dX11_holds_144 ⟨Nat.le_of_ble_eq_true rfl, Nat.le_of_ble_eq_true rfl⟩) hP hD hS hA [0, 1] [] rfl rfl rfl (by decide) (fun r_17 u_19 H locs hp_18 hP hD hS => ?_)
    obtain ⟨voth_20, rfl⟩ : ∃ z, z = u_19 := ⟨_, rfl⟩
    have hp_18 : ((r_17 = 0) ∨ (r_17 = 1)) := hp_18
    have q_21 := hp_18
    have hP : va_P (dC, dI) vwCl [(vo, .inr (12, [.int voth_20, .ref vmt, .int votp, .int vosz, .int volm, .int voto, .int vofr, .int vokd, .int vonu, .int vosg, .int vofa, .int vopl, .long vowd, .int votd, .ref vmn, .ref vmr, .ref vmk, .ref vms, .ref vma, .ref vmm, .ref vmrn, .ref vmkn, .ref vmik, .ref vmon, .int vosm, .int vohp, .ref vmw, .ref vmf, .ref vmb, .int vomb, .ref vmd, .ref vmc, .int vocm, .int voct, .int vocy, .ref vmx, .int votx, .int vose, .ref vml, .ref vmwr, .int voln, .int vohw, .ref vmno, .int vond, .int voon, .int vowi, .int votop])), (vmn, .inl (cy 0, 575, .inl vmnf))] H := hP
    have hD : va_D A [(vo, .inr (12, [.int voth_20, .ref vmt, .int votp, .int vosz, .int volm, .int voto, .int vofr, .int vokd, .int vonu, .int vosg, .int vofa, .int vopl, .long vowd, .int votd, .ref vmn, .ref vmr, .ref vmk, .ref vms, .ref vma, .ref vmm, .ref vmrn, .ref vmkn, .ref vmik, .ref vmon, .int vosm, .int vohp, .ref vmw, .ref vmf, .ref vmb, .int vomb, .ref vmd, .ref vmc, .int vocm, .int voct, .int vocy, .ref vmx, .int votx, .int vose, .ref vml, .ref vmwr, .int voln, .int vohw, .ref vmno, .int vond, .int voon, .int vowi, .int votop])), (vmn, .inl (cy 0, 575, .inl vmnf))] := hD
    rcases q_21 with aq_21 | aq_21
    · skip
      refine as_i 0 aq_21 ?_
      refine lv_if_eq (tgt := 164) hx hb dX11_holds_147 (by decide) (fun _ => ?_) (fun c9 => absurd (by decide) c9)
      refine lv_iconst (v := 0) hx hb dX11_holds_164 (by decide) ?_
      have k_0 : (0 : Int32).toInt = 0 := by decide
      rw [hQ9]
      exact re_z voth_20 hx hb hr hlocks (Or.inl rfl) (show ((0 : Int32) = 0) ∨ ((0 : Int32) = 1) from (Or.inl rfl)) (hP.sub [0, 1] rfl) (hD.sub [0, 1] rfl rfl) hS dX11_holds_165
    · skip
      refine as_i 1 aq_21 ?_
      refine lv_if_eq (tgt := 164) hx hb dX11_holds_147 (by decide) (fun c9 => absurd c9 (by decide)) (fun _ => ?_)
      refine lv_aload_n hx hb dX11_holds_150 rfl (lv_at hl 3 rfl) ?_
      refine lv_iload hx hb dX11_holds_151 (lv_at hl 0 rfl) ?_
      refine lv_iload_n hx hb dX11_holds_153 rfl (lv_at hl 5 rfl) ?_
      refine jn_i (wr := []) (rV (As := [.int z_8, .int vp]) (rest := []) (ci := 12) ⟨hx, hb, hml, hown, hts⟩ (m_holds_3 l dC dI cy _ vnh vo voth_20 vmt votp vosz volm voto vofr vokd vonu vosg vofa vopl vowd votd vmn vmr vmk vms vma vmm vmrn vmkn vmik vmon vosm vohp vmw vmf vmb vomb vmd vmc vocm voct vocy vmx votx vose vml vmwr voln vohw vmno vond voon vowi votop vmnf z_8 vp ⟨by omega, by omega⟩ r_vp p_vmnf) (cw_X11_438 hts rfl rfl ⟨Nat.le_of_ble_eq_true rfl, Nat.le_of_ble_eq_true rfl⟩) hP hD hK [0, 1] rfl rfl rfl rfl bl0 e0 rfl hl.1 rfl (Nat.le_of_ble_eq_true rfl) dX11_holds_154 ⟨Nat.le_of_ble_eq_true rfl, Nat.le_of_ble_eq_true rfl⟩) hP hD hS hA [0, 1] [] rfl rfl rfl (by decide) (fun r_22 u_24 H locs hp_23 hP hD hS => ?_)
      obtain ⟨voth_25, rfl⟩ : ∃ z, z = u_24 := ⟨_, rfl⟩
      have hp_23 : ((r_22 = 0) ∨ (r_22 = 1)) := hp_23
      have q_26 := hp_23
      have hP : va_P (dC, dI) vwCl [(vo, .inr (12, [.int voth_25, .ref vmt, .int votp, .int vosz, .int volm, .int voto, .int vofr, .int vokd, .int vonu, .int vosg, .int vofa, .int vopl, .long vowd, .int votd, .ref vmn, .ref vmr, .ref vmk, .ref vms, .ref vma, .ref vmm, .ref vmrn, .ref vmkn, .ref vmik, .ref vmon, .int vosm, .int vohp, .ref vmw, .ref vmf, .ref vmb, .int vomb, .ref vmd, .ref vmc, .int vocm, .int voct, .int vocy, .ref vmx, .int votx, .int vose, .ref vml, .ref vmwr, .int voln, .int vohw, .ref vmno, .int vond, .int voon, .int vowi, .int votop])), (vmn, .inl (cy 0, 575, .inl vmnf))] H := hP
      have hD : va_D A [(vo, .inr (12, [.int voth_25, .ref vmt, .int votp, .int vosz, .int volm, .int voto, .int vofr, .int vokd, .int vonu, .int vosg, .int vofa, .int vopl, .long vowd, .int votd, .ref vmn, .ref vmr, .ref vmk, .ref vms, .ref vma, .ref vmm, .ref vmrn, .ref vmkn, .ref vmik, .ref vmon, .int vosm, .int vohp, .ref vmw, .ref vmf, .ref vmb, .int vomb, .ref vmd, .ref vmc, .int vocm, .int voct, .int vocy, .ref vmx, .int votx, .int vose, .ref vml, .ref vmwr, .int voln, .int vohw, .ref vmno, .int vond, .int voon, .int vowi, .int votop])), (vmn, .inl (cy 0, 575, .inl vmnf))] := hD
      rcases q_26 with aq_26 | aq_26
      · skip
        refine as_i 0 aq_26 ?_
        refine lv_if_eq (tgt := 164) hx hb dX11_holds_157 (by decide) (fun _ => ?_) (fun c9 => absurd (by decide) c9)
        refine lv_iconst (v := 0) hx hb dX11_holds_164 (by decide) ?_
        have k_0 : (0 : Int32).toInt = 0 := by decide
        rw [hQ9]
        exact re_z voth_25 hx hb hr hlocks (Or.inl rfl) (show ((0 : Int32) = 0) ∨ ((0 : Int32) = 1) from (Or.inl rfl)) (hP.sub [0, 1] rfl) (hD.sub [0, 1] rfl rfl) hS dX11_holds_165
      · skip
        refine as_i 1 aq_26 ?_
        refine lv_if_eq (tgt := 164) hx hb dX11_holds_157 (by decide) (fun c9 => absurd c9 (by decide)) (fun _ => ?_)
        refine lv_iconst (v := 1) hx hb dX11_holds_160 (by decide) ?_
        refine lv_goto (tgt := 165) hx hb dX11_holds_161 (by decide) ?_
        rw [hQ9]
        exact re_z voth_25 hx hb hr hlocks (Or.inr rfl) (show ((1 : Int32) = 0) ∨ ((1 : Int32) = 1) from (Or.inr (rfl))) (hP.sub [0, 1] rfl) (hD.sub [0, 1] rfl rfl) hS dX11_holds_165
  by_cases sw_11_3 : z_10.toInt = 3
  · refine as_i 3 (i_eq.mpr (sw_11_3.trans k_3.symm)) ?_
    refine lv_lookup (off := 132) (tgt := 166) hx hb dX11_holds_34 (by decide) (by decide) (by decide) ?_
    have hB := hA3 (by omega)
    refine lv_aload_n hx hb dX11_holds_166 rfl (lv_at hl 3 rfl) ?_
    refine lv_iload hx hb dX11_holds_167 (lv_at hl 1 rfl) ?_
    refine lv_iload_n hx hb dX11_holds_169 rfl (lv_at hl 5 rfl) ?_
    refine jn_i (wr := []) (rV (As := [.int z_5, .int vp]) (rest := []) (ci := 12) ⟨hx, hb, hml, hown, hts⟩ (m_holds_3 l dC dI cy _ vnh vo voth vmt votp vosz volm voto vofr vokd vonu vosg vofa vopl vowd votd vmn vmr vmk vms vma vmm vmrn vmkn vmik vmon vosm vohp vmw vmf vmb vomb vmd vmc vocm voct vocy vmx votx vose vml vmwr voln vohw vmno vond voon vowi votop vmnf z_5 vp ⟨by omega, by omega⟩ r_vp p_vmnf) (cw_X11_438 hts rfl rfl ⟨Nat.le_of_ble_eq_true rfl, Nat.le_of_ble_eq_true rfl⟩) hP hD hK [0, 1] rfl rfl rfl rfl bl0 e0 rfl hl.1 rfl (Nat.le_of_ble_eq_true rfl) dX11_holds_170 ⟨Nat.le_of_ble_eq_true rfl, Nat.le_of_ble_eq_true rfl⟩) hP hD hS hA [0, 1] [] rfl rfl rfl (by decide) (fun r_27 u_29 H locs hp_28 hP hD hS => ?_)
    obtain ⟨voth_30, rfl⟩ : ∃ z, z = u_29 := ⟨_, rfl⟩
    have hp_28 : ((r_27 = 0) ∨ (r_27 = 1)) := hp_28
    have q_31 := hp_28
    have hP : va_P (dC, dI) vwCl [(vo, .inr (12, [.int voth_30, .ref vmt, .int votp, .int vosz, .int volm, .int voto, .int vofr, .int vokd, .int vonu, .int vosg, .int vofa, .int vopl, .long vowd, .int votd, .ref vmn, .ref vmr, .ref vmk, .ref vms, .ref vma, .ref vmm, .ref vmrn, .ref vmkn, .ref vmik, .ref vmon, .int vosm, .int vohp, .ref vmw, .ref vmf, .ref vmb, .int vomb, .ref vmd, .ref vmc, .int vocm, .int voct, .int vocy, .ref vmx, .int votx, .int vose, .ref vml, .ref vmwr, .int voln, .int vohw, .ref vmno, .int vond, .int voon, .int vowi, .int votop])), (vmn, .inl (cy 0, 575, .inl vmnf))] H := hP
    have hD : va_D A [(vo, .inr (12, [.int voth_30, .ref vmt, .int votp, .int vosz, .int volm, .int voto, .int vofr, .int vokd, .int vonu, .int vosg, .int vofa, .int vopl, .long vowd, .int votd, .ref vmn, .ref vmr, .ref vmk, .ref vms, .ref vma, .ref vmm, .ref vmrn, .ref vmkn, .ref vmik, .ref vmon, .int vosm, .int vohp, .ref vmw, .ref vmf, .ref vmb, .int vomb, .ref vmd, .ref vmc, .int vocm, .int voct, .int vocy, .ref vmx, .int votx, .int vose, .ref vml, .ref vmwr, .int voln, .int vohw, .ref vmno, .int vond, .int voon, .int vowi, .int votop])), (vmn, .inl (cy 0, 575, .inl vmnf))] := hD
    rcases q_31 with aq_31 | aq_31
    · skip
      refine as_i 0 aq_31 ?_
      refine lv_if_ne (tgt := 186) hx hb dX11_holds_173 (by decide) (fun c9 => absurd c9 (by decide)) (fun _ => ?_)
      refine lv_aload_n hx hb dX11_holds_176 rfl (lv_at hl 3 rfl) ?_
      refine lv_iload hx hb dX11_holds_177 (lv_at hl 0 rfl) ?_
      refine lv_iload_n hx hb dX11_holds_179 rfl (lv_at hl 5 rfl) ?_
      refine jn_i (wr := []) (rV (As := [.int z_8, .int vp]) (rest := []) (ci := 12) ⟨hx, hb, hml, hown, hts⟩ (m_holds_3 l dC dI cy _ vnh vo voth_30 vmt votp vosz volm voto vofr vokd vonu vosg vofa vopl vowd votd vmn vmr vmk vms vma vmm vmrn vmkn vmik vmon vosm vohp vmw vmf vmb vomb vmd vmc vocm voct vocy vmx votx vose vml vmwr voln vohw vmno vond voon vowi votop vmnf z_8 vp ⟨by omega, by omega⟩ r_vp p_vmnf) (cw_X11_438 hts rfl rfl ⟨Nat.le_of_ble_eq_true rfl, Nat.le_of_ble_eq_true rfl⟩) hP hD hK [0, 1] rfl rfl rfl rfl bl0 e0 rfl hl.1 rfl (Nat.le_of_ble_eq_true rfl) dX11_holds_180 ⟨Nat.le_of_ble_eq_true rfl, Nat.le_of_ble_eq_true rfl⟩) hP hD hS hA [0, 1] [] rfl rfl rfl (by decide) (fun r_32 u_34 H locs hp_33 hP hD hS => ?_)
      obtain ⟨voth_35, rfl⟩ : ∃ z, z = u_34 := ⟨_, rfl⟩
      have hp_33 : ((r_32 = 0) ∨ (r_32 = 1)) := hp_33
      have q_36 := hp_33
      have hP : va_P (dC, dI) vwCl [(vo, .inr (12, [.int voth_35, .ref vmt, .int votp, .int vosz, .int volm, .int voto, .int vofr, .int vokd, .int vonu, .int vosg, .int vofa, .int vopl, .long vowd, .int votd, .ref vmn, .ref vmr, .ref vmk, .ref vms, .ref vma, .ref vmm, .ref vmrn, .ref vmkn, .ref vmik, .ref vmon, .int vosm, .int vohp, .ref vmw, .ref vmf, .ref vmb, .int vomb, .ref vmd, .ref vmc, .int vocm, .int voct, .int vocy, .ref vmx, .int votx, .int vose, .ref vml, .ref vmwr, .int voln, .int vohw, .ref vmno, .int vond, .int voon, .int vowi, .int votop])), (vmn, .inl (cy 0, 575, .inl vmnf))] H := hP
      have hD : va_D A [(vo, .inr (12, [.int voth_35, .ref vmt, .int votp, .int vosz, .int volm, .int voto, .int vofr, .int vokd, .int vonu, .int vosg, .int vofa, .int vopl, .long vowd, .int votd, .ref vmn, .ref vmr, .ref vmk, .ref vms, .ref vma, .ref vmm, .ref vmrn, .ref vmkn, .ref vmik, .ref vmon, .int vosm, .int vohp, .ref vmw, .ref vmf, .ref vmb, .int vomb, .ref vmd, .ref vmc, .int vocm, .int voct, .int vocy, .ref vmx, .int votx, .int vose, .ref vml, .ref vmwr, .int voln, .int vohw, .ref vmno, .int vond, .int voon, .int vowi, .int votop])), (vmn, .inl (cy 0, 575, .inl vmnf))] := hD
      rcases q_36 with aq_36 | aq_36
      · skip
        refine as_i 0 aq_36 ?_
        refine lv_if_eq (tgt := 190) hx hb dX11_holds_183 (by decide) (fun _ => ?_) (fun c9 => absurd (by decide) c9)
        refine lv_iconst (v := 0) hx hb dX11_holds_190 (by decide) ?_
        have k_0 : (0 : Int32).toInt = 0 := by decide
        rw [hQ9]
        exact re_z voth_35 hx hb hr hlocks (Or.inl rfl) (show ((0 : Int32) = 0) ∨ ((0 : Int32) = 1) from (Or.inl rfl)) (hP.sub [0, 1] rfl) (hD.sub [0, 1] rfl rfl) hS dX11_holds_191
      · skip
        refine as_i 1 aq_36 ?_
        refine lv_if_eq (tgt := 190) hx hb dX11_holds_183 (by decide) (fun c9 => absurd c9 (by decide)) (fun _ => ?_)
        refine lv_iconst (v := 1) hx hb dX11_holds_186 (by decide) ?_
        refine lv_goto (tgt := 191) hx hb dX11_holds_187 (by decide) ?_
        rw [hQ9]
        exact re_z voth_35 hx hb hr hlocks (Or.inr rfl) (show ((1 : Int32) = 0) ∨ ((1 : Int32) = 1) from (Or.inr (rfl))) (hP.sub [0, 1] rfl) (hD.sub [0, 1] rfl rfl) hS dX11_holds_191
    · skip
      refine as_i 1 aq_31 ?_
      refine lv_if_ne (tgt := 186) hx hb dX11_holds_173 (by decide) (fun _ => ?_) (fun c9 => absurd c9 (by decide))
      refine lv_iconst (v := 1) hx hb dX11_holds_186 (by decide) ?_
      refine lv_goto (tgt := 191) hx hb dX11_holds_187 (by decide) ?_
      rw [hQ9]
      exact re_z voth_30 hx hb hr hlocks (Or.inr rfl) (show ((1 : Int32) = 0) ∨ ((1 : Int32) = 1) from (Or.inr (rfl))) (hP.sub [0, 1] rfl) (hD.sub [0, 1] rfl rfl) hS dX11_holds_191
  by_cases sw_11_68 : z_10.toInt = 68
  · refine as_i 68 (i_eq.mpr (sw_11_68.trans k_68.symm)) ?_
    refine lv_lookup (off := 158) (tgt := 192) hx hb dX11_holds_34 (by decide) (by decide) (by decide) ?_
    refine lv_aload_n hx hb dX11_holds_192 rfl (lv_at hl 3 rfl) ?_
    refine lv_iload_n hx hb dX11_holds_193 rfl (lv_at hl 5 rfl) ?_
    refine jr_i (rVr (As := [.int vp]) (rest := []) (ci := 12) ⟨hx, hb, hml, hown, hts⟩ (m_howOf l dC dI cy vnh vo voth vmt votp vosz volm voto vofr vokd vonu vosg vofa vopl vowd votd vmn vmr vmk vms vma vmm vmrn vmkn vmik vmon vosm vohp vmw vmf vmb vomb vmd vmc vocm voct vocy vmx votx vose vml vmwr voln vohw vmno vond voon vowi votop vmnf vp ⟨by omega, by omega⟩ p_vmnf) (cw_X11_256 hts rfl rfl ⟨Nat.le_of_ble_eq_true rfl, Nat.le_of_ble_eq_true rfl⟩) hP hK [0, 1] rfl rfl rfl rfl hl.1 rfl (Nat.le_of_ble_eq_true rfl) dX11_holds_194 ⟨Nat.le_of_ble_eq_true rfl, Nat.le_of_ble_eq_true rfl⟩) hP hS (fun r_37 H locs hp_38 hP hS => ?_)
    have hp_38 : (0 ≤ (r_37 : Int32).toInt ∧ (r_37 : Int32).toInt ≤ 2) := hp_38
    have q_39 := hp_38
    refine lv_iconst (v := 1) hx hb dX11_holds_197 (by decide) ?_
    refine lv_icmp_ne (tgt := 205) hx hb dX11_holds_198 (by decide) (fun c_40 => ?_) (fun c_40 => ?_)
    · skip
      have c_40 : ¬ (r_37.toInt = (1 : Int32).toInt) := fun h9 => c_40 (i_eq.mpr h9)
      refine lv_iconst (v := 0) hx hb dX11_holds_205 (by decide) ?_
      have k_0 : (0 : Int32).toInt = 0 := by decide
      rw [hQ9]
      exact re_z voth hx hb hr hlocks (Or.inl rfl) (show ((0 : Int32) = 0) ∨ ((0 : Int32) = 1) from (Or.inl rfl)) (hP.sub [0, 1] rfl) (hD.sub [0, 1] rfl rfl) hS dX11_holds_206
    · skip
      have c_40 : r_37.toInt = (1 : Int32).toInt := i_eq.mp c_40
      refine lv_iconst (v := 1) hx hb dX11_holds_201 (by decide) ?_
      refine lv_goto (tgt := 206) hx hb dX11_holds_202 (by decide) ?_
      rw [hQ9]
      exact re_z voth hx hb hr hlocks (Or.inr rfl) (show ((1 : Int32) = 0) ∨ ((1 : Int32) = 1) from (Or.inr (rfl))) (hP.sub [0, 1] rfl) (hD.sub [0, 1] rfl rfl) hS dX11_holds_206
  by_cases sw_11_69 : z_10.toInt = 69
  · refine as_i 69 (i_eq.mpr (sw_11_69.trans k_69.symm)) ?_
    refine lv_lookup (off := 173) (tgt := 207) hx hb dX11_holds_34 (by decide) (by decide) (by decide) ?_
    refine lv_aload_n hx hb dX11_holds_207 rfl (lv_at hl 3 rfl) ?_
    refine lv_iload_n hx hb dX11_holds_208 rfl (lv_at hl 5 rfl) ?_
    refine jr_i (rVr (As := [.int vp]) (rest := []) (ci := 12) ⟨hx, hb, hml, hown, hts⟩ (m_howOf l dC dI cy vnh vo voth vmt votp vosz volm voto vofr vokd vonu vosg vofa vopl vowd votd vmn vmr vmk vms vma vmm vmrn vmkn vmik vmon vosm vohp vmw vmf vmb vomb vmd vmc vocm voct vocy vmx votx vose vml vmwr voln vohw vmno vond voon vowi votop vmnf vp ⟨by omega, by omega⟩ p_vmnf) (cw_X11_256 hts rfl rfl ⟨Nat.le_of_ble_eq_true rfl, Nat.le_of_ble_eq_true rfl⟩) hP hK [0, 1] rfl rfl rfl rfl hl.1 rfl (Nat.le_of_ble_eq_true rfl) dX11_holds_209 ⟨Nat.le_of_ble_eq_true rfl, Nat.le_of_ble_eq_true rfl⟩) hP hS (fun r_41 H locs hp_42 hP hS => ?_)
    have hp_42 : (0 ≤ (r_41 : Int32).toInt ∧ (r_41 : Int32).toInt ≤ 2) := hp_42
    have q_43 := hp_42
    have k_0 : (0 : Int32).toInt = 0 := by decide
    refine lv_if_ne (tgt := 219) hx hb dX11_holds_212 (by decide) (fun c_44 => ?_) (fun c_44 => ?_)
    · skip
      have c_44 : ¬ (r_41.toInt = (0 : Int32).toInt) := fun h9 => c_44 (i_eq.mpr h9)
      refine lv_iconst (v := 0) hx hb dX11_holds_219 (by decide) ?_
      rw [hQ9]
      exact re_z voth hx hb hr hlocks (Or.inl rfl) (show ((0 : Int32) = 0) ∨ ((0 : Int32) = 1) from (Or.inl rfl)) (hP.sub [0, 1] rfl) (hD.sub [0, 1] rfl rfl) hS dX11_holds_220
    · skip
      have c_44 : r_41.toInt = (0 : Int32).toInt := i_eq.mp c_44
      refine lv_iconst (v := 1) hx hb dX11_holds_215 (by decide) ?_
      refine lv_goto (tgt := 220) hx hb dX11_holds_216 (by decide) ?_
      rw [hQ9]
      exact re_z voth hx hb hr hlocks (Or.inr rfl) (show ((1 : Int32) = 0) ∨ ((1 : Int32) = 1) from (Or.inr (rfl))) (hP.sub [0, 1] rfl) (hD.sub [0, 1] rfl rfl) hS dX11_holds_220
  by_cases sw_11_70 : z_10.toInt = 70
  · refine as_i 70 (i_eq.mpr (sw_11_70.trans k_70.symm)) ?_
    refine lv_lookup (off := 187) (tgt := 221) hx hb dX11_holds_34 (by decide) (by decide) (by decide) ?_
    refine lv_aload_n hx hb dX11_holds_221 rfl (lv_at hl 3 rfl) ?_
    refine lv_iload_n hx hb dX11_holds_222 rfl (lv_at hl 5 rfl) ?_
    refine jr_i (rVr (As := [.int vp]) (rest := []) (ci := 12) ⟨hx, hb, hml, hown, hts⟩ (m_howOf l dC dI cy vnh vo voth vmt votp vosz volm voto vofr vokd vonu vosg vofa vopl vowd votd vmn vmr vmk vms vma vmm vmrn vmkn vmik vmon vosm vohp vmw vmf vmb vomb vmd vmc vocm voct vocy vmx votx vose vml vmwr voln vohw vmno vond voon vowi votop vmnf vp ⟨by omega, by omega⟩ p_vmnf) (cw_X11_256 hts rfl rfl ⟨Nat.le_of_ble_eq_true rfl, Nat.le_of_ble_eq_true rfl⟩) hP hK [0, 1] rfl rfl rfl rfl hl.1 rfl (Nat.le_of_ble_eq_true rfl) dX11_holds_223 ⟨Nat.le_of_ble_eq_true rfl, Nat.le_of_ble_eq_true rfl⟩) hP hS (fun r_45 H locs hp_46 hP hS => ?_)
    have hp_46 : (0 ≤ (r_45 : Int32).toInt ∧ (r_45 : Int32).toInt ≤ 2) := hp_46
    have q_47 := hp_46
    refine lv_iconst (v := 2) hx hb dX11_holds_226 (by decide) ?_
    refine lv_icmp_ne (tgt := 234) hx hb dX11_holds_227 (by decide) (fun c_48 => ?_) (fun c_48 => ?_)
    · skip
      have c_48 : ¬ (r_45.toInt = (2 : Int32).toInt) := fun h9 => c_48 (i_eq.mpr h9)
      refine lv_iconst (v := 0) hx hb dX11_holds_234 (by decide) ?_
      have k_0 : (0 : Int32).toInt = 0 := by decide
      rw [hQ9]
      exact re_z voth hx hb hr hlocks (Or.inl rfl) (show ((0 : Int32) = 0) ∨ ((0 : Int32) = 1) from (Or.inl rfl)) (hP.sub [0, 1] rfl) (hD.sub [0, 1] rfl rfl) hS dX11_holds_235
    · skip
      have c_48 : r_45.toInt = (2 : Int32).toInt := i_eq.mp c_48
      refine lv_iconst (v := 1) hx hb dX11_holds_230 (by decide) ?_
      refine lv_goto (tgt := 235) hx hb dX11_holds_231 (by decide) ?_
      rw [hQ9]
      exact re_z voth hx hb hr hlocks (Or.inr rfl) (show ((1 : Int32) = 0) ∨ ((1 : Int32) = 1) from (Or.inr (rfl))) (hP.sub [0, 1] rfl) (hD.sub [0, 1] rfl rfl) hS dX11_holds_235
  by_cases sw_11_71 : z_10.toInt = 71
  · refine as_i 71 (i_eq.mpr (sw_11_71.trans k_71.symm)) ?_
    refine lv_lookup (off := 202) (tgt := 236) hx hb dX11_holds_34 (by decide) (by decide) (by decide) ?_
    refine lv_aload_n hx hb dX11_holds_236 rfl (lv_at hl 3 rfl) ?_
    refine gf_X11_98 hx hb hts hown hK hP 0 rfl rfl dX11_holds_237 ?_
    refine lv_sipush (v := 298) hx hb dX11_holds_240 (by decide) ?_
    refine lv_iload_n hx hb dX11_holds_243 rfl (lv_at hl 5 rfl) ?_
    refine lv_iadd hx hb dX11_holds_244 ?_
    refine lv_topi (fun z_49 ez_49 => ?_)
    have k_298 : (298 : Int32).toInt = 298 := by decide
    have bz_49 : z_49.toInt = (298 : Int32).toInt + vp.toInt := i_add ez_49 (by omega) (by omega)
    have hin_50 : vp_in z_49 575 := vp_in_iff.mpr ⟨by omega, by omega⟩
    refine va_iald hx hb hK hP 1 0 rfl rfl hin_50 dX11_holds_245 ?_
    refine lv_topi (fun z_51 ez_51 => ?_)
    have k_0 : (0 : Int32).toInt = 0 := by decide
    refine lv_if_le (tgt := 253) hx hb dX11_holds_246 (by decide) (fun c_52 => ?_) (fun c_52 => ?_)
    · skip
      have c_52 : z_51.toInt ≤ (0 : Int32).toInt := i_le.mp c_52
      refine lv_iconst (v := 0) hx hb dX11_holds_253 (by decide) ?_
      rw [hQ9]
      exact re_z voth hx hb hr hlocks (Or.inl rfl) (show ((0 : Int32) = 0) ∨ ((0 : Int32) = 1) from (Or.inl rfl)) (hP.sub [0, 1] rfl) (hD.sub [0, 1] rfl rfl) hS dX11_holds_254
    · skip
      have c_52 : ¬ (z_51.toInt ≤ (0 : Int32).toInt) := fun h9 => c_52 (i_le.mpr h9)
      refine lv_iconst (v := 1) hx hb dX11_holds_249 (by decide) ?_
      refine lv_goto (tgt := 254) hx hb dX11_holds_250 (by decide) ?_
      rw [hQ9]
      exact re_z voth hx hb hr hlocks (Or.inr rfl) (show ((1 : Int32) = 0) ∨ ((1 : Int32) = 1) from (Or.inr (rfl))) (hP.sub [0, 1] rfl) (hD.sub [0, 1] rfl rfl) hS dX11_holds_254
  by_cases sw_11_72 : z_10.toInt = 72
  · refine as_i 72 (i_eq.mpr (sw_11_72.trans k_72.symm)) ?_
    refine lv_lookup (off := 221) (tgt := 255) hx hb dX11_holds_34 (by decide) (by decide) (by decide) ?_
    refine lv_aload_n hx hb dX11_holds_255 rfl (lv_at hl 3 rfl) ?_
    refine lv_iload_n hx hb dX11_holds_256 rfl (lv_at hl 5 rfl) ?_
    refine jr_i (rVr (As := [.int vp]) (rest := []) (ci := 12) ⟨hx, hb, hml, hown, hts⟩ (m_lends l dC dI cy vnh vo voth vmt votp vosz volm voto vofr vokd vonu vosg vofa vopl vowd votd vmn vmr vmk vms vma vmm vmrn vmkn vmik vmon vosm vohp vmw vmf vmb vomb vmd vmc vocm voct vocy vmx votx vose vml vmwr voln vohw vmno vond voon vowi votop vmnf vp ⟨by omega, by omega⟩ p_vmnf) (cw_X11_265 hts rfl rfl ⟨Nat.le_of_ble_eq_true rfl, Nat.le_of_ble_eq_true rfl⟩) hP hK [0, 1] rfl rfl rfl rfl hl.1 rfl (Nat.le_of_ble_eq_true rfl) dX11_holds_257 ⟨Nat.le_of_ble_eq_true rfl, Nat.le_of_ble_eq_true rfl⟩) hP hS (fun r_53 H locs hp_54 hP hS => ?_)
    have hp_54 : ((r_53 = 0) ∨ (r_53 = 1)) := hp_54
    have q_55 := hp_54
    rcases q_55 with aq_55 | aq_55
    · skip
      refine as_i 0 aq_55 ?_
      have k_0 : (0 : Int32).toInt = 0 := by decide
      rw [hQ9]
      exact re_z voth hx hb hr hlocks (Or.inl rfl) (show ((0 : Int32) = 0) ∨ ((0 : Int32) = 1) from (Or.inl rfl)) (hP.sub [0, 1] rfl) (hD.sub [0, 1] rfl rfl) hS dX11_holds_260
    · skip
      refine as_i 1 aq_55 ?_
      rw [hQ9]
      exact re_z voth hx hb hr hlocks (Or.inr rfl) (show ((1 : Int32) = 0) ∨ ((1 : Int32) = 1) from (Or.inr (rfl))) (hP.sub [0, 1] rfl) (hD.sub [0, 1] rfl rfl) hS dX11_holds_260
  by_cases sw_11_73 : z_10.toInt = 73
  · refine as_i 73 (i_eq.mpr (sw_11_73.trans k_73.symm)) ?_
    refine lv_lookup (off := 227) (tgt := 261) hx hb dX11_holds_34 (by decide) (by decide) (by decide) ?_
    have hB := hA4 (by omega)
    refine lv_aload_n hx hb dX11_holds_261 rfl (lv_at hl 3 rfl) ?_
    refine lv_iload_n hx hb dX11_holds_262 rfl (lv_at hl 5 rfl) ?_
    refine lv_iload hx hb dX11_holds_263 (lv_at hl 1 rfl) ?_
    refine jr_i (rVr (As := [.int vp, .int z_5]) (rest := []) (ci := 12) ⟨hx, hb, hml, hown, hts⟩ (m_didOf l dC dI cy vnh vo voth vmt votp vosz volm voto vofr vokd vonu vosg vofa vopl vowd votd vmn vmr vmk vms vma vmm vmrn vmkn vmik vmon vosm vohp vmw vmf vmb vomb vmd vmc vocm voct vocy vmx votx vose vml vmwr voln vohw vmno vond voon vowi votop vmnf vp z_5 ⟨by omega, by omega⟩ ⟨by omega, by omega⟩ p_vmnf) (cw_X11_228 hts rfl rfl ⟨Nat.le_of_ble_eq_true rfl, Nat.le_of_ble_eq_true rfl⟩) hP hK [0, 1] rfl rfl rfl rfl hl.1 rfl (Nat.le_of_ble_eq_true rfl) dX11_holds_265 ⟨Nat.le_of_ble_eq_true rfl, Nat.le_of_ble_eq_true rfl⟩) hP hS (fun r_56 H locs hp_57 hP hS => ?_)
    have k_0 : (0 : Int32).toInt = 0 := by decide
    refine lv_if_le (tgt := 275) hx hb dX11_holds_268 (by decide) (fun c_58 => ?_) (fun c_58 => ?_)
    · skip
      have c_58 : r_56.toInt ≤ (0 : Int32).toInt := i_le.mp c_58
      refine lv_iconst (v := 0) hx hb dX11_holds_275 (by decide) ?_
      rw [hQ9]
      exact re_z voth hx hb hr hlocks (Or.inl rfl) (show ((0 : Int32) = 0) ∨ ((0 : Int32) = 1) from (Or.inl rfl)) (hP.sub [0, 1] rfl) (hD.sub [0, 1] rfl rfl) hS dX11_holds_276
    · skip
      have c_58 : ¬ (r_56.toInt ≤ (0 : Int32).toInt) := fun h9 => c_58 (i_le.mpr h9)
      refine lv_iconst (v := 1) hx hb dX11_holds_271 (by decide) ?_
      refine lv_goto (tgt := 276) hx hb dX11_holds_272 (by decide) ?_
      rw [hQ9]
      exact re_z voth hx hb hr hlocks (Or.inr rfl) (show ((1 : Int32) = 0) ∨ ((1 : Int32) = 1) from (Or.inr (rfl))) (hP.sub [0, 1] rfl) (hD.sub [0, 1] rfl rfl) hS dX11_holds_276
  by_cases sw_11_74 : z_10.toInt = 74
  · refine as_i 74 (i_eq.mpr (sw_11_74.trans k_74.symm)) ?_
    refine lv_lookup (off := 243) (tgt := 277) hx hb dX11_holds_34 (by decide) (by decide) (by decide) ?_
    refine lv_aload_n hx hb dX11_holds_277 rfl (lv_at hl 3 rfl) ?_
    refine lv_iload hx hb dX11_holds_278 (lv_at hl 1 rfl) ?_
    refine jn_i (wr := []) (rV (As := [.int z_5]) (rest := []) (ci := 12) ⟨hx, hb, hml, hown, hts⟩ (m_family l dC dI cy _ vnh vo voth vmt votp vosz volm voto vofr vokd vonu vosg vofa vopl vowd votd vmn vmr vmk vms vma vmm vmrn vmkn vmik vmon vosm vohp vmw vmf vmb vomb vmd vmc vocm voct vocy vmx votx vose vml vmwr voln vohw vmno vond voon vowi votop vmnf z_5 p_vmnf) (cw_X11_441 hts rfl rfl ⟨Nat.le_of_ble_eq_true rfl, Nat.le_of_ble_eq_true rfl⟩) hP hD hK [0, 1] rfl rfl rfl rfl bl0 e0 rfl hl.1 rfl (Nat.le_of_ble_eq_true rfl) dX11_holds_280 ⟨Nat.le_of_ble_eq_true rfl, Nat.le_of_ble_eq_true rfl⟩) hP hD hS hA [0, 1] [] rfl rfl rfl (by decide) (fun r_59 u_61 H locs hp_60 hP hD hS => ?_)
    obtain ⟨voth_62, rfl⟩ : ∃ z, z = u_61 := ⟨_, rfl⟩
    have hP : va_P (dC, dI) vwCl [(vo, .inr (12, [.int voth_62, .ref vmt, .int votp, .int vosz, .int volm, .int voto, .int vofr, .int vokd, .int vonu, .int vosg, .int vofa, .int vopl, .long vowd, .int votd, .ref vmn, .ref vmr, .ref vmk, .ref vms, .ref vma, .ref vmm, .ref vmrn, .ref vmkn, .ref vmik, .ref vmon, .int vosm, .int vohp, .ref vmw, .ref vmf, .ref vmb, .int vomb, .ref vmd, .ref vmc, .int vocm, .int voct, .int vocy, .ref vmx, .int votx, .int vose, .ref vml, .ref vmwr, .int voln, .int vohw, .ref vmno, .int vond, .int voon, .int vowi, .int votop])), (vmn, .inl (cy 0, 575, .inl vmnf))] H := hP
    have hD : va_D A [(vo, .inr (12, [.int voth_62, .ref vmt, .int votp, .int vosz, .int volm, .int voto, .int vofr, .int vokd, .int vonu, .int vosg, .int vofa, .int vopl, .long vowd, .int votd, .ref vmn, .ref vmr, .ref vmk, .ref vms, .ref vma, .ref vmm, .ref vmrn, .ref vmkn, .ref vmik, .ref vmon, .int vosm, .int vohp, .ref vmw, .ref vmf, .ref vmb, .int vomb, .ref vmd, .ref vmc, .int vocm, .int voct, .int vocy, .ref vmx, .int votx, .int vose, .ref vml, .ref vmwr, .int voln, .int vohw, .ref vmno, .int vond, .int voon, .int vowi, .int votop])), (vmn, .inl (cy 0, 575, .inl vmnf))] := hD
    refine lv_iload_n hx hb dX11_holds_283 rfl (lv_at hl 5 rfl) ?_
    refine jr_i (rSr (As := [.int r_59, .int vp]) (rest := []) ⟨hx, hb, hml, hown, hts⟩ (m_has l dC dI cy r_59 vp ) (cw_X11_194 hts rfl rfl ⟨Nat.le_of_ble_eq_true rfl, Nat.le_of_ble_eq_true rfl⟩) hP hK [] rfl rfl hl.1 rfl (Nat.le_of_ble_eq_true rfl) dX11_holds_284 ⟨Nat.le_of_ble_eq_true rfl, Nat.le_of_ble_eq_true rfl⟩) hP hS (fun r_63 H locs hp_64 hP hS => ?_)
    have hp_64 : ((r_63 = 0) ∨ (r_63 = 1)) := hp_64
    have q_65 := hp_64
    rcases q_65 with aq_65 | aq_65
    · skip
      refine as_i 0 aq_65 ?_
      have k_0 : (0 : Int32).toInt = 0 := by decide
      rw [hQ9]
      exact re_z voth_62 hx hb hr hlocks (Or.inl rfl) (show ((0 : Int32) = 0) ∨ ((0 : Int32) = 1) from (Or.inl rfl)) (hP.sub [0, 1] rfl) (hD.sub [0, 1] rfl rfl) hS dX11_holds_287
    · skip
      refine as_i 1 aq_65 ?_
      rw [hQ9]
      exact re_z voth_62 hx hb hr hlocks (Or.inr rfl) (show ((1 : Int32) = 0) ∨ ((1 : Int32) = 1) from (Or.inr (rfl))) (hP.sub [0, 1] rfl) (hD.sub [0, 1] rfl rfl) hS dX11_holds_287
  have nsw_11_1 : ¬ ((1 : Int) = z_10.toInt) := by omega
  have nsw_11_2 : ¬ ((2 : Int) = z_10.toInt) := by omega
  have nsw_11_3 : ¬ ((3 : Int) = z_10.toInt) := by omega
  have nsw_11_68 : ¬ ((68 : Int) = z_10.toInt) := by omega
  have nsw_11_69 : ¬ ((69 : Int) = z_10.toInt) := by omega
  have nsw_11_70 : ¬ ((70 : Int) = z_10.toInt) := by omega
  have nsw_11_71 : ¬ ((71 : Int) = z_10.toInt) := by omega
  have nsw_11_72 : ¬ ((72 : Int) = z_10.toInt) := by omega
  have nsw_11_73 : ¬ ((73 : Int) = z_10.toInt) := by omega
  have nsw_11_74 : ¬ ((74 : Int) = z_10.toInt) := by omega
  refine lv_lookup (off := 254) (tgt := 288) hx hb dX11_holds_34 (by decide) (by simp only [Op.lookupswitch.offset, if_neg nsw_11_1, if_neg nsw_11_2, if_neg nsw_11_3, if_neg nsw_11_68, if_neg nsw_11_69, if_neg nsw_11_70, if_neg nsw_11_71, if_neg nsw_11_72, if_neg nsw_11_73, if_neg nsw_11_74]) (by decide) ?_
  refine lv_aload_n hx hb dX11_holds_288 rfl (lv_at hl 3 rfl) ?_
  refine gf_X11_98 hx hb hts hown hK hP 0 rfl rfl dX11_holds_289 ?_
  refine lv_iload_n hx hb dX11_holds_292 rfl (lv_at hl 2 rfl) ?_
  have hin_66 : vp_in z_2 575 := vp_in_iff.mpr ⟨by omega, by omega⟩
  refine va_iald hx hb hK hP 1 0 rfl rfl hin_66 dX11_holds_293 ?_
  refine lv_topi (fun z_67 ez_67 => ?_)
  refine lv_bipush (v := 50) hx hb dX11_holds_294 (by decide) ?_
  refine lv_isub hx hb dX11_holds_296 ?_
  refine lv_topi (fun z_68 ez_68 => ?_)
  refine lv_istore (lv' := [(6, .int z_68), (5, .int z_8), (4, .int z_5), (3, .int z_2), (0, .ref vo), (1, .int vk), (2, .int vp)]) hx hb dX11_holds_297 hl (by decide) rfl (fun ls hl => ?_)
  refine lv_iload hx hb dX11_holds_299 (lv_at hl 0 rfl) ?_
  refine lv_bipush (v := 25) hx hb dX11_holds_301 (by decide) ?_
  have k_25 : (25 : Int32).toInt = 25 := by decide
  refine lv_icmp_ne (tgt := 314) hx hb dX11_holds_303 (by decide) (fun c_69 => ?_) (fun c_69 => ?_)
  · skip
    have c_69 : ¬ (z_68.toInt = (25 : Int32).toInt) := fun h9 => c_69 (i_eq.mpr h9)
    refine lv_iload hx hb dX11_holds_314 (lv_at hl 0 rfl) ?_
    refine lv_bipush (v := 26) hx hb dX11_holds_316 (by decide) ?_
    have k_26 : (26 : Int32).toInt = 26 := by decide
    refine lv_icmp_ne (tgt := 329) hx hb dX11_holds_318 (by decide) (fun c_70 => ?_) (fun c_70 => ?_)
    · skip
      have c_70 : ¬ (z_68.toInt = (26 : Int32).toInt) := fun h9 => c_70 (i_eq.mpr h9)
      refine lv_iload hx hb dX11_holds_329 (lv_at hl 0 rfl) ?_
      refine lv_bipush (v := 27) hx hb dX11_holds_331 (by decide) ?_
      have k_27 : (27 : Int32).toInt = 27 := by decide
      refine lv_icmp_ne (tgt := 349) hx hb dX11_holds_333 (by decide) (fun c_71 => ?_) (fun c_71 => ?_)
      · skip
        have c_71 : ¬ (z_68.toInt = (27 : Int32).toInt) := fun h9 => c_71 (i_eq.mpr h9)
        refine lv_iload_n hx hb dX11_holds_349 rfl (lv_at hl 6 rfl) ?_
        refine lv_istore (lv' := [(7, .int vp), (6, .int z_68), (5, .int z_8), (4, .int z_5), (3, .int z_2), (0, .ref vo), (1, .int vk), (2, .int vp)]) hx hb dX11_holds_350 hl (by decide) rfl (fun ls hl => ?_)
        refine lv_aload_n hx hb dX11_holds_352 rfl (lv_at hl 5 rfl) ?_
        refine gf_X11_98 hx hb hts hown hK hP 0 rfl rfl dX11_holds_353 ?_
        refine lv_iload_n hx hb dX11_holds_356 rfl (lv_at hl 4 rfl) ?_
        refine lv_iconst (v := 3) hx hb dX11_holds_357 (by decide) ?_
        refine lv_iadd hx hb dX11_holds_358 ?_
        refine lv_topi (fun z_72 ez_72 => ?_)
        have bz_72 : z_72.toInt = z_2.toInt + (3 : Int32).toInt := i_add ez_72 (by omega) (by omega)
        have hin_73 : vp_in z_72 575 := vp_in_iff.mpr ⟨by omega, by omega⟩
        refine va_iald hx hb hK hP 1 0 rfl rfl hin_73 dX11_holds_359 ?_
        refine lv_topi (fun z_74 ez_74 => ?_)
        refine lv_bipush (v := 60) hx hb dX11_holds_360 (by decide) ?_
        have k_60 : (60 : Int32).toInt = 60 := by decide
        refine lv_icmp_ne (tgt := 380) hx hb dX11_holds_362 (by decide) (fun c_75 => ?_) (fun c_75 => ?_)
        · skip
          have c_75 : ¬ (z_74.toInt = (60 : Int32).toInt) := fun h9 => c_75 (i_eq.mpr h9)
          refine lv_aload_n hx hb dX11_holds_380 rfl (lv_at hl 5 rfl) ?_
          refine gf_X11_98 hx hb hts hown hK hP 0 rfl rfl dX11_holds_381 ?_
          refine lv_iload_n hx hb dX11_holds_384 rfl (lv_at hl 4 rfl) ?_
          refine lv_iconst (v := 3) hx hb dX11_holds_385 (by decide) ?_
          refine lv_iadd hx hb dX11_holds_386 ?_
          refine lv_topi (fun z_76 ez_76 => ?_)
          have bz_76 : z_76.toInt = z_2.toInt + (3 : Int32).toInt := i_add ez_76 (by omega) (by omega)
          have hin_77 : vp_in z_76 575 := vp_in_iff.mpr ⟨by omega, by omega⟩
          refine va_iald hx hb hK hP 1 0 rfl rfl hin_77 dX11_holds_387 ?_
          refine lv_topi (fun z_78 ez_78 => ?_)
          refine lv_bipush (v := 61) hx hb dX11_holds_388 (by decide) ?_
          have k_61 : (61 : Int32).toInt = 61 := by decide
          refine lv_icmp_ne (tgt := 408) hx hb dX11_holds_390 (by decide) (fun c_79 => ?_) (fun c_79 => ?_)
          · skip
            have c_79 : ¬ (z_78.toInt = (61 : Int32).toInt) := fun h9 => c_79 (i_eq.mpr h9)
            refine lv_iload hx hb dX11_holds_408 (lv_at hl 0 rfl) ?_
            refine lv_iload hx hb dX11_holds_410 (lv_at hl 2 rfl) ?_
            refine lv_icmp_le (tgt := 419) hx hb dX11_holds_412 (by decide) (fun c_80 => ?_) (fun c_80 => ?_)
            · skip
              have c_80 : vp.toInt ≤ z_8.toInt := i_le.mp c_80
              refine lv_iconst (v := 0) hx hb dX11_holds_419 (by decide) ?_
              have k_0 : (0 : Int32).toInt = 0 := by decide
              rw [hQ9]
              exact re_z voth hx hb hr hlocks (Or.inl rfl) (show ((0 : Int32) = 0) ∨ ((0 : Int32) = 1) from (Or.inl rfl)) (hP.sub [0, 1] rfl) (hD.sub [0, 1] rfl rfl) hS dX11_holds_420
            · skip
              have c_80 : ¬ (vp.toInt ≤ z_8.toInt) := fun h9 => c_80 (i_le.mpr h9)
              refine lv_iconst (v := 1) hx hb dX11_holds_415 (by decide) ?_
              refine lv_goto (tgt := 420) hx hb dX11_holds_416 (by decide) ?_
              rw [hQ9]
              exact re_z voth hx hb hr hlocks (Or.inr rfl) (show ((1 : Int32) = 0) ∨ ((1 : Int32) = 1) from (Or.inr (rfl))) (hP.sub [0, 1] rfl) (hD.sub [0, 1] rfl rfl) hS dX11_holds_420
          · skip
            have c_79 : z_78.toInt = (61 : Int32).toInt := i_eq.mp c_79
            refine lv_iload hx hb dX11_holds_393 (lv_at hl 0 rfl) ?_
            refine lv_iload hx hb dX11_holds_395 (lv_at hl 2 rfl) ?_
            refine lv_icmp_ne (tgt := 404) hx hb dX11_holds_397 (by decide) (fun c_81 => ?_) (fun c_81 => ?_)
            · skip
              have c_81 : ¬ (vp.toInt = z_8.toInt) := fun h9 => c_81 (i_eq.mpr h9)
              refine lv_iconst (v := 0) hx hb dX11_holds_404 (by decide) ?_
              refine lv_goto (tgt := 420) hx hb dX11_holds_405 (by decide) ?_
              have k_0 : (0 : Int32).toInt = 0 := by decide
              rw [hQ9]
              exact re_z voth hx hb hr hlocks (Or.inl rfl) (show ((0 : Int32) = 0) ∨ ((0 : Int32) = 1) from (Or.inl rfl)) (hP.sub [0, 1] rfl) (hD.sub [0, 1] rfl rfl) hS dX11_holds_420
            · skip
              have c_81 : vp.toInt = z_8.toInt := i_eq.mp c_81
              refine lv_iconst (v := 1) hx hb dX11_holds_400 (by decide) ?_
              refine lv_goto (tgt := 420) hx hb dX11_holds_401 (by decide) ?_
              rw [hQ9]
              exact re_z voth hx hb hr hlocks (Or.inr rfl) (show ((1 : Int32) = 0) ∨ ((1 : Int32) = 1) from (Or.inr (rfl))) (hP.sub [0, 1] rfl) (hD.sub [0, 1] rfl rfl) hS dX11_holds_420
        · skip
          have c_75 : z_74.toInt = (60 : Int32).toInt := i_eq.mp c_75
          refine lv_iload hx hb dX11_holds_365 (lv_at hl 0 rfl) ?_
          refine lv_iload hx hb dX11_holds_367 (lv_at hl 2 rfl) ?_
          refine lv_icmp_ge (tgt := 376) hx hb dX11_holds_369 (by decide) (fun c_82 => ?_) (fun c_82 => ?_)
          · skip
            have c_82 : z_8.toInt ≤ vp.toInt := i_le.mp c_82
            refine lv_iconst (v := 0) hx hb dX11_holds_376 (by decide) ?_
            refine lv_goto (tgt := 420) hx hb dX11_holds_377 (by decide) ?_
            have k_0 : (0 : Int32).toInt = 0 := by decide
            rw [hQ9]
            exact re_z voth hx hb hr hlocks (Or.inl rfl) (show ((0 : Int32) = 0) ∨ ((0 : Int32) = 1) from (Or.inl rfl)) (hP.sub [0, 1] rfl) (hD.sub [0, 1] rfl rfl) hS dX11_holds_420
          · skip
            have c_82 : ¬ (z_8.toInt ≤ vp.toInt) := fun h9 => c_82 (i_le.mpr h9)
            refine lv_iconst (v := 1) hx hb dX11_holds_372 (by decide) ?_
            refine lv_goto (tgt := 420) hx hb dX11_holds_373 (by decide) ?_
            rw [hQ9]
            exact re_z voth hx hb hr hlocks (Or.inr rfl) (show ((1 : Int32) = 0) ∨ ((1 : Int32) = 1) from (Or.inr (rfl))) (hP.sub [0, 1] rfl) (hD.sub [0, 1] rfl rfl) hS dX11_holds_420
      · skip
        have c_71 : z_68.toInt = (27 : Int32).toInt := i_eq.mp c_71
        refine lv_aload_n hx hb dX11_holds_336 rfl (lv_at hl 4 rfl) ?_
        refine gf_X11_98 hx hb hts hown hK hP 0 rfl rfl dX11_holds_337 ?_
        refine lv_sipush (v := 158) hx hb dX11_holds_340 (by decide) ?_
        refine lv_iload_n hx hb dX11_holds_343 rfl (lv_at hl 6 rfl) ?_
        refine lv_iadd hx hb dX11_holds_344 ?_
        refine lv_topi (fun z_83 ez_83 => ?_)
        have k_158 : (158 : Int32).toInt = 158 := by decide
        have bz_83 : z_83.toInt = (158 : Int32).toInt + vp.toInt := i_add ez_83 (by omega) (by omega)
        have hin_84 : vp_in z_83 575 := vp_in_iff.mpr ⟨by omega, by omega⟩
        refine va_iald hx hb hK hP 1 0 rfl rfl hin_84 dX11_holds_345 ?_
        refine lv_topi (fun z_85 ez_85 => ?_)
        refine lv_goto (tgt := 350) hx hb dX11_holds_346 (by decide) ?_
        refine lv_istore (lv' := [(7, .int z_85), (6, .int z_68), (5, .int z_8), (4, .int z_5), (3, .int z_2), (0, .ref vo), (1, .int vk), (2, .int vp)]) hx hb dX11_holds_350 hl (by decide) rfl (fun ls hl => ?_)
        refine lv_aload_n hx hb dX11_holds_352 rfl (lv_at hl 5 rfl) ?_
        refine gf_X11_98 hx hb hts hown hK hP 0 rfl rfl dX11_holds_353 ?_
        refine lv_iload_n hx hb dX11_holds_356 rfl (lv_at hl 4 rfl) ?_
        refine lv_iconst (v := 3) hx hb dX11_holds_357 (by decide) ?_
        refine lv_iadd hx hb dX11_holds_358 ?_
        refine lv_topi (fun z_86 ez_86 => ?_)
        have bz_86 : z_86.toInt = z_2.toInt + (3 : Int32).toInt := i_add ez_86 (by omega) (by omega)
        have hin_87 : vp_in z_86 575 := vp_in_iff.mpr ⟨by omega, by omega⟩
        refine va_iald hx hb hK hP 1 0 rfl rfl hin_87 dX11_holds_359 ?_
        refine lv_topi (fun z_88 ez_88 => ?_)
        refine lv_bipush (v := 60) hx hb dX11_holds_360 (by decide) ?_
        have k_60 : (60 : Int32).toInt = 60 := by decide
        refine lv_icmp_ne (tgt := 380) hx hb dX11_holds_362 (by decide) (fun c_89 => ?_) (fun c_89 => ?_)
        · skip
          have c_89 : ¬ (z_88.toInt = (60 : Int32).toInt) := fun h9 => c_89 (i_eq.mpr h9)
          refine lv_aload_n hx hb dX11_holds_380 rfl (lv_at hl 5 rfl) ?_
          refine gf_X11_98 hx hb hts hown hK hP 0 rfl rfl dX11_holds_381 ?_
          refine lv_iload_n hx hb dX11_holds_384 rfl (lv_at hl 4 rfl) ?_
          refine lv_iconst (v := 3) hx hb dX11_holds_385 (by decide) ?_
          refine lv_iadd hx hb dX11_holds_386 ?_
          refine lv_topi (fun z_90 ez_90 => ?_)
          have bz_90 : z_90.toInt = z_2.toInt + (3 : Int32).toInt := i_add ez_90 (by omega) (by omega)
          have hin_91 : vp_in z_90 575 := vp_in_iff.mpr ⟨by omega, by omega⟩
          refine va_iald hx hb hK hP 1 0 rfl rfl hin_91 dX11_holds_387 ?_
          refine lv_topi (fun z_92 ez_92 => ?_)
          refine lv_bipush (v := 61) hx hb dX11_holds_388 (by decide) ?_
          have k_61 : (61 : Int32).toInt = 61 := by decide
          refine lv_icmp_ne (tgt := 408) hx hb dX11_holds_390 (by decide) (fun c_93 => ?_) (fun c_93 => ?_)
          · skip
            have c_93 : ¬ (z_92.toInt = (61 : Int32).toInt) := fun h9 => c_93 (i_eq.mpr h9)
            refine lv_iload hx hb dX11_holds_408 (lv_at hl 0 rfl) ?_
            refine lv_iload hx hb dX11_holds_410 (lv_at hl 2 rfl) ?_
            refine lv_icmp_le (tgt := 419) hx hb dX11_holds_412 (by decide) (fun c_94 => ?_) (fun c_94 => ?_)
            · skip
              have c_94 : z_85.toInt ≤ z_8.toInt := i_le.mp c_94
              refine lv_iconst (v := 0) hx hb dX11_holds_419 (by decide) ?_
              have k_0 : (0 : Int32).toInt = 0 := by decide
              rw [hQ9]
              exact re_z voth hx hb hr hlocks (Or.inl rfl) (show ((0 : Int32) = 0) ∨ ((0 : Int32) = 1) from (Or.inl rfl)) (hP.sub [0, 1] rfl) (hD.sub [0, 1] rfl rfl) hS dX11_holds_420
            · skip
              have c_94 : ¬ (z_85.toInt ≤ z_8.toInt) := fun h9 => c_94 (i_le.mpr h9)
              refine lv_iconst (v := 1) hx hb dX11_holds_415 (by decide) ?_
              refine lv_goto (tgt := 420) hx hb dX11_holds_416 (by decide) ?_
              rw [hQ9]
              exact re_z voth hx hb hr hlocks (Or.inr rfl) (show ((1 : Int32) = 0) ∨ ((1 : Int32) = 1) from (Or.inr (rfl))) (hP.sub [0, 1] rfl) (hD.sub [0, 1] rfl rfl) hS dX11_holds_420
          · skip
            have c_93 : z_92.toInt = (61 : Int32).toInt := i_eq.mp c_93
            refine lv_iload hx hb dX11_holds_393 (lv_at hl 0 rfl) ?_
            refine lv_iload hx hb dX11_holds_395 (lv_at hl 2 rfl) ?_
            refine lv_icmp_ne (tgt := 404) hx hb dX11_holds_397 (by decide) (fun c_95 => ?_) (fun c_95 => ?_)
            · skip
              have c_95 : ¬ (z_85.toInt = z_8.toInt) := fun h9 => c_95 (i_eq.mpr h9)
              refine lv_iconst (v := 0) hx hb dX11_holds_404 (by decide) ?_
              refine lv_goto (tgt := 420) hx hb dX11_holds_405 (by decide) ?_
              have k_0 : (0 : Int32).toInt = 0 := by decide
              rw [hQ9]
              exact re_z voth hx hb hr hlocks (Or.inl rfl) (show ((0 : Int32) = 0) ∨ ((0 : Int32) = 1) from (Or.inl rfl)) (hP.sub [0, 1] rfl) (hD.sub [0, 1] rfl rfl) hS dX11_holds_420
            · skip
              have c_95 : z_85.toInt = z_8.toInt := i_eq.mp c_95
              refine lv_iconst (v := 1) hx hb dX11_holds_400 (by decide) ?_
              refine lv_goto (tgt := 420) hx hb dX11_holds_401 (by decide) ?_
              rw [hQ9]
              exact re_z voth hx hb hr hlocks (Or.inr rfl) (show ((1 : Int32) = 0) ∨ ((1 : Int32) = 1) from (Or.inr (rfl))) (hP.sub [0, 1] rfl) (hD.sub [0, 1] rfl rfl) hS dX11_holds_420
        · skip
          have c_89 : z_88.toInt = (60 : Int32).toInt := i_eq.mp c_89
          refine lv_iload hx hb dX11_holds_365 (lv_at hl 0 rfl) ?_
          refine lv_iload hx hb dX11_holds_367 (lv_at hl 2 rfl) ?_
          refine lv_icmp_ge (tgt := 376) hx hb dX11_holds_369 (by decide) (fun c_96 => ?_) (fun c_96 => ?_)
          · skip
            have c_96 : z_8.toInt ≤ z_85.toInt := i_le.mp c_96
            refine lv_iconst (v := 0) hx hb dX11_holds_376 (by decide) ?_
            refine lv_goto (tgt := 420) hx hb dX11_holds_377 (by decide) ?_
            have k_0 : (0 : Int32).toInt = 0 := by decide
            rw [hQ9]
            exact re_z voth hx hb hr hlocks (Or.inl rfl) (show ((0 : Int32) = 0) ∨ ((0 : Int32) = 1) from (Or.inl rfl)) (hP.sub [0, 1] rfl) (hD.sub [0, 1] rfl rfl) hS dX11_holds_420
          · skip
            have c_96 : ¬ (z_8.toInt ≤ z_85.toInt) := fun h9 => c_96 (i_le.mpr h9)
            refine lv_iconst (v := 1) hx hb dX11_holds_372 (by decide) ?_
            refine lv_goto (tgt := 420) hx hb dX11_holds_373 (by decide) ?_
            rw [hQ9]
            exact re_z voth hx hb hr hlocks (Or.inr rfl) (show ((1 : Int32) = 0) ∨ ((1 : Int32) = 1) from (Or.inr (rfl))) (hP.sub [0, 1] rfl) (hD.sub [0, 1] rfl rfl) hS dX11_holds_420
    · skip
      have c_70 : z_68.toInt = (26 : Int32).toInt := i_eq.mp c_70
      refine lv_aload_n hx hb dX11_holds_321 rfl (lv_at hl 4 rfl) ?_
      refine lv_iload_n hx hb dX11_holds_322 rfl (lv_at hl 6 rfl) ?_
      refine jr_i (rVr (As := [.int vp]) (rest := []) (ci := 12) ⟨hx, hb, hml, hown, hts⟩ (m_darkOf l dC dI cy vnh vo voth vmt votp vosz volm voto vofr vokd vonu vosg vofa vopl vowd votd vmn vmr vmk vms vma vmm vmrn vmkn vmik vmon vosm vohp vmw vmf vmb vomb vmd vmc vocm voct vocy vmx votx vose vml vmwr voln vohw vmno vond voon vowi votop vmnf vp ⟨by omega, by omega⟩ p_vmnf) (cw_X11_244 hts rfl rfl ⟨Nat.le_of_ble_eq_true rfl, Nat.le_of_ble_eq_true rfl⟩) hP hK [0, 1] rfl rfl rfl rfl hl.1 rfl (Nat.le_of_ble_eq_true rfl) dX11_holds_323 ⟨Nat.le_of_ble_eq_true rfl, Nat.le_of_ble_eq_true rfl⟩) hP hS (fun r_97 H locs hp_98 hP hS => ?_)
      refine lv_goto (tgt := 350) hx hb dX11_holds_326 (by decide) ?_
      refine lv_istore (lv' := [(7, .int r_97), (6, .int z_68), (5, .int z_8), (4, .int z_5), (3, .int z_2), (0, .ref vo), (1, .int vk), (2, .int vp)]) hx hb dX11_holds_350 hl (by decide) rfl (fun ls hl => ?_)
      refine lv_aload_n hx hb dX11_holds_352 rfl (lv_at hl 5 rfl) ?_
      refine gf_X11_98 hx hb hts hown hK hP 0 rfl rfl dX11_holds_353 ?_
      refine lv_iload_n hx hb dX11_holds_356 rfl (lv_at hl 4 rfl) ?_
      refine lv_iconst (v := 3) hx hb dX11_holds_357 (by decide) ?_
      refine lv_iadd hx hb dX11_holds_358 ?_
      refine lv_topi (fun z_99 ez_99 => ?_)
      have bz_99 : z_99.toInt = z_2.toInt + (3 : Int32).toInt := i_add ez_99 (by omega) (by omega)
      have hin_100 : vp_in z_99 575 := vp_in_iff.mpr ⟨by omega, by omega⟩
      refine va_iald hx hb hK hP 1 0 rfl rfl hin_100 dX11_holds_359 ?_
      refine lv_topi (fun z_101 ez_101 => ?_)
      refine lv_bipush (v := 60) hx hb dX11_holds_360 (by decide) ?_
      have k_60 : (60 : Int32).toInt = 60 := by decide
      refine lv_icmp_ne (tgt := 380) hx hb dX11_holds_362 (by decide) (fun c_102 => ?_) (fun c_102 => ?_)
      · skip
        have c_102 : ¬ (z_101.toInt = (60 : Int32).toInt) := fun h9 => c_102 (i_eq.mpr h9)
        refine lv_aload_n hx hb dX11_holds_380 rfl (lv_at hl 5 rfl) ?_
        refine gf_X11_98 hx hb hts hown hK hP 0 rfl rfl dX11_holds_381 ?_
        refine lv_iload_n hx hb dX11_holds_384 rfl (lv_at hl 4 rfl) ?_
        refine lv_iconst (v := 3) hx hb dX11_holds_385 (by decide) ?_
        refine lv_iadd hx hb dX11_holds_386 ?_
        refine lv_topi (fun z_103 ez_103 => ?_)
        have bz_103 : z_103.toInt = z_2.toInt + (3 : Int32).toInt := i_add ez_103 (by omega) (by omega)
        have hin_104 : vp_in z_103 575 := vp_in_iff.mpr ⟨by omega, by omega⟩
        refine va_iald hx hb hK hP 1 0 rfl rfl hin_104 dX11_holds_387 ?_
        refine lv_topi (fun z_105 ez_105 => ?_)
        refine lv_bipush (v := 61) hx hb dX11_holds_388 (by decide) ?_
        have k_61 : (61 : Int32).toInt = 61 := by decide
        refine lv_icmp_ne (tgt := 408) hx hb dX11_holds_390 (by decide) (fun c_106 => ?_) (fun c_106 => ?_)
        · skip
          have c_106 : ¬ (z_105.toInt = (61 : Int32).toInt) := fun h9 => c_106 (i_eq.mpr h9)
          refine lv_iload hx hb dX11_holds_408 (lv_at hl 0 rfl) ?_
          refine lv_iload hx hb dX11_holds_410 (lv_at hl 2 rfl) ?_
          refine lv_icmp_le (tgt := 419) hx hb dX11_holds_412 (by decide) (fun c_107 => ?_) (fun c_107 => ?_)
          · skip
            have c_107 : r_97.toInt ≤ z_8.toInt := i_le.mp c_107
            refine lv_iconst (v := 0) hx hb dX11_holds_419 (by decide) ?_
            have k_0 : (0 : Int32).toInt = 0 := by decide
            rw [hQ9]
            exact re_z voth hx hb hr hlocks (Or.inl rfl) (show ((0 : Int32) = 0) ∨ ((0 : Int32) = 1) from (Or.inl rfl)) (hP.sub [0, 1] rfl) (hD.sub [0, 1] rfl rfl) hS dX11_holds_420
          · skip
            have c_107 : ¬ (r_97.toInt ≤ z_8.toInt) := fun h9 => c_107 (i_le.mpr h9)
            refine lv_iconst (v := 1) hx hb dX11_holds_415 (by decide) ?_
            refine lv_goto (tgt := 420) hx hb dX11_holds_416 (by decide) ?_
            rw [hQ9]
            exact re_z voth hx hb hr hlocks (Or.inr rfl) (show ((1 : Int32) = 0) ∨ ((1 : Int32) = 1) from (Or.inr (rfl))) (hP.sub [0, 1] rfl) (hD.sub [0, 1] rfl rfl) hS dX11_holds_420
        · skip
          have c_106 : z_105.toInt = (61 : Int32).toInt := i_eq.mp c_106
          refine lv_iload hx hb dX11_holds_393 (lv_at hl 0 rfl) ?_
          refine lv_iload hx hb dX11_holds_395 (lv_at hl 2 rfl) ?_
          refine lv_icmp_ne (tgt := 404) hx hb dX11_holds_397 (by decide) (fun c_108 => ?_) (fun c_108 => ?_)
          · skip
            have c_108 : ¬ (r_97.toInt = z_8.toInt) := fun h9 => c_108 (i_eq.mpr h9)
            refine lv_iconst (v := 0) hx hb dX11_holds_404 (by decide) ?_
            refine lv_goto (tgt := 420) hx hb dX11_holds_405 (by decide) ?_
            have k_0 : (0 : Int32).toInt = 0 := by decide
            rw [hQ9]
            exact re_z voth hx hb hr hlocks (Or.inl rfl) (show ((0 : Int32) = 0) ∨ ((0 : Int32) = 1) from (Or.inl rfl)) (hP.sub [0, 1] rfl) (hD.sub [0, 1] rfl rfl) hS dX11_holds_420
          · skip
            have c_108 : r_97.toInt = z_8.toInt := i_eq.mp c_108
            refine lv_iconst (v := 1) hx hb dX11_holds_400 (by decide) ?_
            refine lv_goto (tgt := 420) hx hb dX11_holds_401 (by decide) ?_
            rw [hQ9]
            exact re_z voth hx hb hr hlocks (Or.inr rfl) (show ((1 : Int32) = 0) ∨ ((1 : Int32) = 1) from (Or.inr (rfl))) (hP.sub [0, 1] rfl) (hD.sub [0, 1] rfl rfl) hS dX11_holds_420
      · skip
        have c_102 : z_101.toInt = (60 : Int32).toInt := i_eq.mp c_102
        refine lv_iload hx hb dX11_holds_365 (lv_at hl 0 rfl) ?_
        refine lv_iload hx hb dX11_holds_367 (lv_at hl 2 rfl) ?_
        refine lv_icmp_ge (tgt := 376) hx hb dX11_holds_369 (by decide) (fun c_109 => ?_) (fun c_109 => ?_)
        · skip
          have c_109 : z_8.toInt ≤ r_97.toInt := i_le.mp c_109
          refine lv_iconst (v := 0) hx hb dX11_holds_376 (by decide) ?_
          refine lv_goto (tgt := 420) hx hb dX11_holds_377 (by decide) ?_
          have k_0 : (0 : Int32).toInt = 0 := by decide
          rw [hQ9]
          exact re_z voth hx hb hr hlocks (Or.inl rfl) (show ((0 : Int32) = 0) ∨ ((0 : Int32) = 1) from (Or.inl rfl)) (hP.sub [0, 1] rfl) (hD.sub [0, 1] rfl rfl) hS dX11_holds_420
        · skip
          have c_109 : ¬ (z_8.toInt ≤ r_97.toInt) := fun h9 => c_109 (i_le.mpr h9)
          refine lv_iconst (v := 1) hx hb dX11_holds_372 (by decide) ?_
          refine lv_goto (tgt := 420) hx hb dX11_holds_373 (by decide) ?_
          rw [hQ9]
          exact re_z voth hx hb hr hlocks (Or.inr rfl) (show ((1 : Int32) = 0) ∨ ((1 : Int32) = 1) from (Or.inr (rfl))) (hP.sub [0, 1] rfl) (hD.sub [0, 1] rfl rfl) hS dX11_holds_420
  · skip
    have c_69 : z_68.toInt = (25 : Int32).toInt := i_eq.mp c_69
    refine lv_aload_n hx hb dX11_holds_306 rfl (lv_at hl 4 rfl) ?_
    refine lv_iload_n hx hb dX11_holds_307 rfl (lv_at hl 6 rfl) ?_
    refine jr_i (rVr (As := [.int vp]) (rest := []) (ci := 12) ⟨hx, hb, hml, hown, hts⟩ (m_whiteOf l dC dI cy vnh vo voth vmt votp vosz volm voto vofr vokd vonu vosg vofa vopl vowd votd vmn vmr vmk vms vma vmm vmrn vmkn vmik vmon vosm vohp vmw vmf vmb vomb vmd vmc vocm voct vocy vmx votx vose vml vmwr voln vohw vmno vond voon vowi votop vmnf vp ⟨by omega, by omega⟩ p_vmnf) (cw_X11_241 hts rfl rfl ⟨Nat.le_of_ble_eq_true rfl, Nat.le_of_ble_eq_true rfl⟩) hP hK [0, 1] rfl rfl rfl rfl hl.1 rfl (Nat.le_of_ble_eq_true rfl) dX11_holds_308 ⟨Nat.le_of_ble_eq_true rfl, Nat.le_of_ble_eq_true rfl⟩) hP hS (fun r_110 H locs hp_111 hP hS => ?_)
    refine lv_goto (tgt := 350) hx hb dX11_holds_311 (by decide) ?_
    refine lv_istore (lv' := [(7, .int r_110), (6, .int z_68), (5, .int z_8), (4, .int z_5), (3, .int z_2), (0, .ref vo), (1, .int vk), (2, .int vp)]) hx hb dX11_holds_350 hl (by decide) rfl (fun ls hl => ?_)
    refine lv_aload_n hx hb dX11_holds_352 rfl (lv_at hl 5 rfl) ?_
    refine gf_X11_98 hx hb hts hown hK hP 0 rfl rfl dX11_holds_353 ?_
    refine lv_iload_n hx hb dX11_holds_356 rfl (lv_at hl 4 rfl) ?_
    refine lv_iconst (v := 3) hx hb dX11_holds_357 (by decide) ?_
    refine lv_iadd hx hb dX11_holds_358 ?_
    refine lv_topi (fun z_112 ez_112 => ?_)
    have bz_112 : z_112.toInt = z_2.toInt + (3 : Int32).toInt := i_add ez_112 (by omega) (by omega)
    have hin_113 : vp_in z_112 575 := vp_in_iff.mpr ⟨by omega, by omega⟩
    refine va_iald hx hb hK hP 1 0 rfl rfl hin_113 dX11_holds_359 ?_
    refine lv_topi (fun z_114 ez_114 => ?_)
    refine lv_bipush (v := 60) hx hb dX11_holds_360 (by decide) ?_
    have k_60 : (60 : Int32).toInt = 60 := by decide
    refine lv_icmp_ne (tgt := 380) hx hb dX11_holds_362 (by decide) (fun c_115 => ?_) (fun c_115 => ?_)
    · skip
      have c_115 : ¬ (z_114.toInt = (60 : Int32).toInt) := fun h9 => c_115 (i_eq.mpr h9)
      refine lv_aload_n hx hb dX11_holds_380 rfl (lv_at hl 5 rfl) ?_
      refine gf_X11_98 hx hb hts hown hK hP 0 rfl rfl dX11_holds_381 ?_
      refine lv_iload_n hx hb dX11_holds_384 rfl (lv_at hl 4 rfl) ?_
      refine lv_iconst (v := 3) hx hb dX11_holds_385 (by decide) ?_
      refine lv_iadd hx hb dX11_holds_386 ?_
      refine lv_topi (fun z_116 ez_116 => ?_)
      have bz_116 : z_116.toInt = z_2.toInt + (3 : Int32).toInt := i_add ez_116 (by omega) (by omega)
      have hin_117 : vp_in z_116 575 := vp_in_iff.mpr ⟨by omega, by omega⟩
      refine va_iald hx hb hK hP 1 0 rfl rfl hin_117 dX11_holds_387 ?_
      refine lv_topi (fun z_118 ez_118 => ?_)
      refine lv_bipush (v := 61) hx hb dX11_holds_388 (by decide) ?_
      have k_61 : (61 : Int32).toInt = 61 := by decide
      refine lv_icmp_ne (tgt := 408) hx hb dX11_holds_390 (by decide) (fun c_119 => ?_) (fun c_119 => ?_)
      · skip
        have c_119 : ¬ (z_118.toInt = (61 : Int32).toInt) := fun h9 => c_119 (i_eq.mpr h9)
        refine lv_iload hx hb dX11_holds_408 (lv_at hl 0 rfl) ?_
        refine lv_iload hx hb dX11_holds_410 (lv_at hl 2 rfl) ?_
        refine lv_icmp_le (tgt := 419) hx hb dX11_holds_412 (by decide) (fun c_120 => ?_) (fun c_120 => ?_)
        · skip
          have c_120 : r_110.toInt ≤ z_8.toInt := i_le.mp c_120
          refine lv_iconst (v := 0) hx hb dX11_holds_419 (by decide) ?_
          have k_0 : (0 : Int32).toInt = 0 := by decide
          rw [hQ9]
          exact re_z voth hx hb hr hlocks (Or.inl rfl) (show ((0 : Int32) = 0) ∨ ((0 : Int32) = 1) from (Or.inl rfl)) (hP.sub [0, 1] rfl) (hD.sub [0, 1] rfl rfl) hS dX11_holds_420
        · skip
          have c_120 : ¬ (r_110.toInt ≤ z_8.toInt) := fun h9 => c_120 (i_le.mpr h9)
          refine lv_iconst (v := 1) hx hb dX11_holds_415 (by decide) ?_
          refine lv_goto (tgt := 420) hx hb dX11_holds_416 (by decide) ?_
          rw [hQ9]
          exact re_z voth hx hb hr hlocks (Or.inr rfl) (show ((1 : Int32) = 0) ∨ ((1 : Int32) = 1) from (Or.inr (rfl))) (hP.sub [0, 1] rfl) (hD.sub [0, 1] rfl rfl) hS dX11_holds_420
      · skip
        have c_119 : z_118.toInt = (61 : Int32).toInt := i_eq.mp c_119
        refine lv_iload hx hb dX11_holds_393 (lv_at hl 0 rfl) ?_
        refine lv_iload hx hb dX11_holds_395 (lv_at hl 2 rfl) ?_
        refine lv_icmp_ne (tgt := 404) hx hb dX11_holds_397 (by decide) (fun c_121 => ?_) (fun c_121 => ?_)
        · skip
          have c_121 : ¬ (r_110.toInt = z_8.toInt) := fun h9 => c_121 (i_eq.mpr h9)
          refine lv_iconst (v := 0) hx hb dX11_holds_404 (by decide) ?_
          refine lv_goto (tgt := 420) hx hb dX11_holds_405 (by decide) ?_
          have k_0 : (0 : Int32).toInt = 0 := by decide
          rw [hQ9]
          exact re_z voth hx hb hr hlocks (Or.inl rfl) (show ((0 : Int32) = 0) ∨ ((0 : Int32) = 1) from (Or.inl rfl)) (hP.sub [0, 1] rfl) (hD.sub [0, 1] rfl rfl) hS dX11_holds_420
        · skip
          have c_121 : r_110.toInt = z_8.toInt := i_eq.mp c_121
          refine lv_iconst (v := 1) hx hb dX11_holds_400 (by decide) ?_
          refine lv_goto (tgt := 420) hx hb dX11_holds_401 (by decide) ?_
          rw [hQ9]
          exact re_z voth hx hb hr hlocks (Or.inr rfl) (show ((1 : Int32) = 0) ∨ ((1 : Int32) = 1) from (Or.inr (rfl))) (hP.sub [0, 1] rfl) (hD.sub [0, 1] rfl rfl) hS dX11_holds_420
    · skip
      have c_115 : z_114.toInt = (60 : Int32).toInt := i_eq.mp c_115
      refine lv_iload hx hb dX11_holds_365 (lv_at hl 0 rfl) ?_
      refine lv_iload hx hb dX11_holds_367 (lv_at hl 2 rfl) ?_
      refine lv_icmp_ge (tgt := 376) hx hb dX11_holds_369 (by decide) (fun c_122 => ?_) (fun c_122 => ?_)
      · skip
        have c_122 : z_8.toInt ≤ r_110.toInt := i_le.mp c_122
        refine lv_iconst (v := 0) hx hb dX11_holds_376 (by decide) ?_
        refine lv_goto (tgt := 420) hx hb dX11_holds_377 (by decide) ?_
        have k_0 : (0 : Int32).toInt = 0 := by decide
        rw [hQ9]
        exact re_z voth hx hb hr hlocks (Or.inl rfl) (show ((0 : Int32) = 0) ∨ ((0 : Int32) = 1) from (Or.inl rfl)) (hP.sub [0, 1] rfl) (hD.sub [0, 1] rfl rfl) hS dX11_holds_420
      · skip
        have c_122 : ¬ (z_8.toInt ≤ r_110.toInt) := fun h9 => c_122 (i_le.mpr h9)
        refine lv_iconst (v := 1) hx hb dX11_holds_372 (by decide) ?_
        refine lv_goto (tgt := 420) hx hb dX11_holds_373 (by decide) ?_
        rw [hQ9]
        exact re_z voth hx hb hr hlocks (Or.inr rfl) (show ((1 : Int32) = 0) ∨ ((1 : Int32) = 1) from (Or.inr (rfl))) (hP.sub [0, 1] rfl) (hD.sub [0, 1] rfl rfl) hS dX11_holds_420
abbrev O_m_holds_5 (cy : Nat → ClassId) (vnh : Nat → Int32) (vo : Nat) (voth : Int32) (vmt : Nat) (votp : Int32) (vosz : Int32) (volm : Int32) (voto : Int32) (vofr : Int32) (vokd : Int32) (vonu : Int32) (vosg : Int32) (vofa : Int32) (vopl : Int32) (vowd : Int64) (votd : Int32) (vmn : Nat) (vmr : Nat) (vmk : Nat) (vms : Nat) (vma : Nat) (vmm : Nat) (vmrn : Nat) (vmkn : Nat) (vmik : Nat) (vmon : Nat) (vosm : Int32) (vohp : Int32) (vmw : Nat) (vmf : Nat) (vmb : Nat) (vomb : Int32) (vmd : Nat) (vmc : Nat) (vocm : Int32) (voct : Int32) (vocy : Int32) (vmx : Nat) (votx : Int32) (vose : Int32) (vml : Nat) (vmwr : Nat) (voln : Int32) (vohw : Int32) (vmno : Nat) (vond : Int32) (voon : Int32) (vowi : Int32) (votop : Int32) (vmnf : Nat → Int32) (vk : Int32) (vp : Int32) (u : Int32) : va_W := [(vo, .inr (12, [.int u, .ref vmt, .int votp, .int vosz, .int volm, .int voto, .int vofr, .int vokd, .int vonu, .int vosg, .int vofa, .int vopl, .long vowd, .int votd, .ref vmn, .ref vmr, .ref vmk, .ref vms, .ref vma, .ref vmm, .ref vmrn, .ref vmkn, .ref vmik, .ref vmon, .int vosm, .int vohp, .ref vmw, .ref vmf, .ref vmb, .int vomb, .ref vmd, .ref vmc, .int vocm, .int voct, .int vocy, .ref vmx, .int votx, .int vose, .ref vml, .ref vmwr, .int voln, .int vohw, .ref vmno, .int vond, .int voon, .int vowi, .int votop])), (vmn, .inl (cy 0, 575, .inl vmnf))]
set_option maxHeartbeats 4000000 in
set_option maxRecDepth 100000 in
theorem m_holds_5 (l : Launch) (dC : Nat → ClassId) (dI : Nat → Nat → Nat) (cy : Nat → ClassId) (sz : Nat) (vnh : Nat → Int32) (vo : Nat) (voth : Int32) (vmt : Nat) (votp : Int32) (vosz : Int32) (volm : Int32) (voto : Int32) (vofr : Int32) (vokd : Int32) (vonu : Int32) (vosg : Int32) (vofa : Int32) (vopl : Int32) (vowd : Int64) (votd : Int32) (vmn : Nat) (vmr : Nat) (vmk : Nat) (vms : Nat) (vma : Nat) (vmm : Nat) (vmrn : Nat) (vmkn : Nat) (vmik : Nat) (vmon : Nat) (vosm : Int32) (vohp : Int32) (vmw : Nat) (vmf : Nat) (vmb : Nat) (vomb : Int32) (vmd : Nat) (vmc : Nat) (vocm : Int32) (voct : Int32) (vocy : Int32) (vmx : Nat) (votx : Int32) (vose : Int32) (vml : Nat) (vmwr : Nat) (voln : Int32) (vohw : Int32) (vmno : Nat) (vond : Int32) (voon : Int32) (vowi : Int32) (votop : Int32) (vmnf : Nat → Int32) (vk : Int32) (vp : Int32) (r_vk : 0 ≤ (vk : Int32).toInt ∧ (vk : Int32).toInt ≤ 5) (r_vp : 0 ≤ (vp : Int32).toInt ∧ (vp : Int32).toInt ≤ 6) (p_vmnf : NW vnh vmnf) : Met l yX11_holds (wl yX11_holds cX11_holds 8 (some .boolean)) ({ frames := 11, cells := 0, slots := 0, locals := 704 }) (Pw (dC, dI) vwCl cy [(vo, .inr (12, [.int voth, .ref vmt, .int votp, .int vosz, .int volm, .int voto, .int vofr, .int vokd, .int vonu, .int vosg, .int vofa, .int vopl, .long vowd, .int votd, .ref vmn, .ref vmr, .ref vmk, .ref vms, .ref vma, .ref vmm, .ref vmrn, .ref vmkn, .ref vmik, .ref vmon, .int vosm, .int vohp, .ref vmw, .ref vmf, .ref vmb, .int vomb, .ref vmd, .ref vmc, .int vocm, .int voct, .int vocy, .ref vmx, .int votx, .int vose, .ref vml, .ref vmwr, .int voln, .int vohw, .ref vmno, .int vond, .int voon, .int vowi, .int votop])), (vmn, .inl (cy 0, 575, .inl vmnf))] sz [.ref vo, .int vk, .int vp] nE) (Qi (dC, dI) vwCl (fun (r : Int32) (u : Int32) => ((r = 0) ∨ (r = 1))) (O_m_holds_5 cy vnh vo voth vmt votp vosz volm voto vofr vokd vonu vosg vofa vopl vowd votd vmn vmr vmk vms vma vmm vmrn vmkn vmik vmon vosm vohp vmw vmf vmb vomb vmd vmc vocm voct vocy vmx votx vose vml vmwr voln vohw vmno vond voon vowi votop vmnf vk vp) (va_A [(vo, .inr (12, [.int voth, .ref vmt, .int votp, .int vosz, .int volm, .int voto, .int vofr, .int vokd, .int vonu, .int vosg, .int vofa, .int vopl, .long vowd, .int votd, .ref vmn, .ref vmr, .ref vmk, .ref vms, .ref vma, .ref vmm, .ref vmrn, .ref vmkn, .ref vmik, .ref vmon, .int vosm, .int vohp, .ref vmw, .ref vmf, .ref vmb, .int vomb, .ref vmd, .ref vmc, .int vocm, .int voct, .int vocy, .ref vmx, .int votx, .int vose, .ref vml, .ref vmwr, .int voln, .int vohw, .ref vmno, .int vond, .int voon, .int vowi, .int votop])), (vmn, .inl (cy 0, 575, .inl vmnf))] sz)) 0 0 (va_A [(vo, .inr (12, [.int voth, .ref vmt, .int votp, .int vosz, .int volm, .int voto, .int vofr, .int vokd, .int vonu, .int vosg, .int vofa, .int vopl, .long vowd, .int votd, .ref vmn, .ref vmr, .ref vmk, .ref vms, .ref vma, .ref vmm, .ref vmrn, .ref vmkn, .ref vmik, .ref vmon, .int vosm, .int vohp, .ref vmw, .ref vmf, .ref vmb, .int vomb, .ref vmd, .ref vmc, .int vocm, .int voct, .int vocy, .ref vmx, .int votx, .int vose, .ref vml, .ref vmwr, .int voln, .int vohw, .ref vmno, .int vond, .int voon, .int vowi, .int votop])), (vmn, .inl (cy 0, 575, .inl vmnf))] sz) := by
  refine mw (Qc := Qi (dC, dI) vwCl (fun (r : Int32) (u : Int32) => ((r = 0) ∨ (r = 1))) (O_m_holds_5 cy vnh vo voth vmt votp vosz volm voto vofr vokd vonu vosg vofa vopl vowd votd vmn vmr vmk vms vma vmm vmrn vmkn vmik vmon vosm vohp vmw vmf vmb vomb vmd vmc vocm voct vocy vmx votx vose vml vmwr voln vohw vmno vond voon vowi votop vmnf vk vp)) RX11 rfl (by decide +kernel) (Nat.le_of_ble_eq_true rfl) ?_
  intro p e s m below meth c A hx hb hr hlocks av9 hav hts hown hnm hml hK hP hD hA hS hE hAe Q9 hQ9 ls hl
  have hl : lv_has ls 8 [(0, .ref vo), (1, .int vk), (2, .int vp)] := hl
  refine lv_sipush (v := 335) hx hb dX11_holds_0 (by decide) ?_
  refine lv_iconst (v := 4) hx hb dX11_holds_3 (by decide) ?_
  refine lv_iload_n hx hb dX11_holds_4 rfl (lv_at hl 1 rfl) ?_
  refine lv_imul hx hb dX11_holds_5 ?_
  refine lv_topi (fun z_1 ez_1 => ?_)
  have k_4 : (4 : Int32).toInt = 4 := by decide
  have bz_1 : z_1.toInt = vk.toInt * 4 := i_cmul k_4 ez_1 (by omega) (by omega)
  refine lv_iadd hx hb dX11_holds_6 ?_
  refine lv_topi (fun z_2 ez_2 => ?_)
  have k_335 : (335 : Int32).toInt = 335 := by decide
  have bz_2 : z_2.toInt = (335 : Int32).toInt + z_1.toInt := i_add ez_2 (by omega) (by omega)
  refine lv_istore_n (lv' := [(3, .int z_2), (0, .ref vo), (1, .int vk), (2, .int vp)]) hx hb dX11_holds_7 rfl hl (by decide) rfl (fun ls hl => ?_)
  refine lv_aload_n hx hb dX11_holds_8 rfl (lv_at hl 1 rfl) ?_
  refine gf_X11_98 hx hb hts hown hK hP 0 rfl rfl dX11_holds_9 ?_
  refine lv_iload_n hx hb dX11_holds_12 rfl (lv_at hl 0 rfl) ?_
  refine lv_iconst (v := 1) hx hb dX11_holds_13 (by decide) ?_
  refine lv_iadd hx hb dX11_holds_14 ?_
  refine lv_topi (fun z_3 ez_3 => ?_)
  have k_1 : (1 : Int32).toInt = 1 := by decide
  have bz_3 : z_3.toInt = z_2.toInt + (1 : Int32).toInt := i_add ez_3 (by omega) (by omega)
  have hin_4 : vp_in z_3 575 := vp_in_iff.mpr ⟨by omega, by omega⟩
  refine va_iald hx hb hK hP 1 0 rfl rfl hin_4 dX11_holds_15 ?_
  refine lv_topi (fun z_5 ez_5 => ?_)
  refine lv_istore (lv' := [(4, .int z_5), (3, .int z_2), (0, .ref vo), (1, .int vk), (2, .int vp)]) hx hb dX11_holds_16 hl (by decide) rfl (fun ls hl => ?_)
  refine lv_aload_n hx hb dX11_holds_18 rfl (lv_at hl 2 rfl) ?_
  refine gf_X11_98 hx hb hts hown hK hP 0 rfl rfl dX11_holds_19 ?_
  refine lv_iload_n hx hb dX11_holds_22 rfl (lv_at hl 1 rfl) ?_
  refine lv_iconst (v := 2) hx hb dX11_holds_23 (by decide) ?_
  refine lv_iadd hx hb dX11_holds_24 ?_
  refine lv_topi (fun z_6 ez_6 => ?_)
  have k_2 : (2 : Int32).toInt = 2 := by decide
  have bz_6 : z_6.toInt = z_2.toInt + (2 : Int32).toInt := i_add ez_6 (by omega) (by omega)
  have hin_7 : vp_in z_6 575 := vp_in_iff.mpr ⟨by omega, by omega⟩
  refine va_iald hx hb hK hP 1 0 rfl rfl hin_7 dX11_holds_25 ?_
  refine lv_topi (fun z_8 ez_8 => ?_)
  refine lv_istore (lv' := [(5, .int z_8), (4, .int z_5), (3, .int z_2), (0, .ref vo), (1, .int vk), (2, .int vp)]) hx hb dX11_holds_26 hl (by decide) rfl (fun ls hl => ?_)
  refine lv_aload_n hx hb dX11_holds_28 rfl (lv_at hl 3 rfl) ?_
  refine gf_X11_98 hx hb hts hown hK hP 0 rfl rfl dX11_holds_29 ?_
  refine lv_iload_n hx hb dX11_holds_32 rfl (lv_at hl 2 rfl) ?_
  have hin_9 : vp_in z_2 575 := vp_in_iff.mpr ⟨by omega, by omega⟩
  refine va_iald hx hb hK hP 1 0 rfl rfl hin_9 dX11_holds_33 ?_
  refine lv_topi (fun z_10 ez_10 => ?_)
  obtain ⟨hA1, hA2, hA3, hA4⟩ := NW.node p_vmnf (k := vk) ⟨by omega, by omega⟩ (i1 := z_3) (by omega) ez_5 (i2 := z_6) (by omega) ez_8 (i0 := z_2) (by omega) ez_10
  have k_3 : (3 : Int32).toInt = 3 := by decide
  have k_68 : (68 : Int32).toInt = 68 := by decide
  have k_69 : (69 : Int32).toInt = 69 := by decide
  have k_70 : (70 : Int32).toInt = 70 := by decide
  have k_71 : (71 : Int32).toInt = 71 := by decide
  have k_72 : (72 : Int32).toInt = 72 := by decide
  have k_73 : (73 : Int32).toInt = 73 := by decide
  have k_74 : (74 : Int32).toInt = 74 := by decide
  by_cases sw_11_1 : z_10.toInt = 1
  · refine as_i 1 (i_eq.mpr (sw_11_1.trans k_1.symm)) ?_
    refine lv_lookup (off := 90) (tgt := 124) hx hb dX11_holds_34 (by decide) (by decide) (by decide) ?_
    have hB := hA1 (by omega)
    refine lv_aload_n hx hb dX11_holds_124 rfl (lv_at hl 3 rfl) ?_
    refine lv_iload hx hb dX11_holds_125 (lv_at hl 1 rfl) ?_
    refine lv_iload_n hx hb dX11_holds_127 rfl (lv_at hl 5 rfl) ?_
    refine jn_i (wr := []) (rV (As := [.int z_5, .int vp]) (rest := []) (ci := 12) ⟨hx, hb, hml, hown, hts⟩ (m_holds_4 l dC dI cy _ vnh vo voth vmt votp vosz volm voto vofr vokd vonu vosg vofa vopl vowd votd vmn vmr vmk vms vma vmm vmrn vmkn vmik vmon vosm vohp vmw vmf vmb vomb vmd vmc vocm voct vocy vmx votx vose vml vmwr voln vohw vmno vond voon vowi votop vmnf z_5 vp ⟨by omega, by omega⟩ r_vp p_vmnf) (cw_X11_438 hts rfl rfl ⟨Nat.le_of_ble_eq_true rfl, Nat.le_of_ble_eq_true rfl⟩) hP hD hK [0, 1] rfl rfl rfl rfl bl0 e0 rfl hl.1 rfl (Nat.le_of_ble_eq_true rfl) dX11_holds_128 ⟨Nat.le_of_ble_eq_true rfl, Nat.le_of_ble_eq_true rfl⟩) hP hD hS hA [0, 1] [] rfl rfl rfl (by decide) (fun r_12 u_14 H locs hp_13 hP hD hS => ?_)
    obtain ⟨voth_15, rfl⟩ : ∃ z, z = u_14 := ⟨_, rfl⟩
    have hp_13 : ((r_12 = 0) ∨ (r_12 = 1)) := hp_13
    have q_16 := hp_13
    have hP : va_P (dC, dI) vwCl [(vo, .inr (12, [.int voth_15, .ref vmt, .int votp, .int vosz, .int volm, .int voto, .int vofr, .int vokd, .int vonu, .int vosg, .int vofa, .int vopl, .long vowd, .int votd, .ref vmn, .ref vmr, .ref vmk, .ref vms, .ref vma, .ref vmm, .ref vmrn, .ref vmkn, .ref vmik, .ref vmon, .int vosm, .int vohp, .ref vmw, .ref vmf, .ref vmb, .int vomb, .ref vmd, .ref vmc, .int vocm, .int voct, .int vocy, .ref vmx, .int votx, .int vose, .ref vml, .ref vmwr, .int voln, .int vohw, .ref vmno, .int vond, .int voon, .int vowi, .int votop])), (vmn, .inl (cy 0, 575, .inl vmnf))] H := hP
    have hD : va_D A [(vo, .inr (12, [.int voth_15, .ref vmt, .int votp, .int vosz, .int volm, .int voto, .int vofr, .int vokd, .int vonu, .int vosg, .int vofa, .int vopl, .long vowd, .int votd, .ref vmn, .ref vmr, .ref vmk, .ref vms, .ref vma, .ref vmm, .ref vmrn, .ref vmkn, .ref vmik, .ref vmon, .int vosm, .int vohp, .ref vmw, .ref vmf, .ref vmb, .int vomb, .ref vmd, .ref vmc, .int vocm, .int voct, .int vocy, .ref vmx, .int votx, .int vose, .ref vml, .ref vmwr, .int voln, .int vohw, .ref vmno, .int vond, .int voon, .int vowi, .int votop])), (vmn, .inl (cy 0, 575, .inl vmnf))] := hD
    rcases q_16 with aq_16 | aq_16
    · skip
      refine as_i 0 aq_16 ?_
      refine lv_if_ne (tgt := 138) hx hb dX11_holds_131 (by decide) (fun c9 => absurd c9 (by decide)) (fun _ => ?_)
      refine lv_iconst (v := 1) hx hb dX11_holds_134 (by decide) ?_
      refine lv_goto (tgt := 139) hx hb dX11_holds_135 (by decide) ?_
      rw [hQ9]
      exact re_z voth_15 hx hb hr hlocks (Or.inr rfl) (show ((1 : Int32) = 0) ∨ ((1 : Int32) = 1) from (Or.inr (rfl))) (hP.sub [0, 1] rfl) (hD.sub [0, 1] rfl rfl) hS dX11_holds_139
    · skip
      refine as_i 1 aq_16 ?_
      refine lv_if_ne (tgt := 138) hx hb dX11_holds_131 (by decide) (fun _ => ?_) (fun c9 => absurd c9 (by decide))
      refine lv_iconst (v := 0) hx hb dX11_holds_138 (by decide) ?_
      have k_0 : (0 : Int32).toInt = 0 := by decide
      rw [hQ9]
      exact re_z voth_15 hx hb hr hlocks (Or.inl rfl) (show ((0 : Int32) = 0) ∨ ((0 : Int32) = 1) from (Or.inl rfl)) (hP.sub [0, 1] rfl) (hD.sub [0, 1] rfl rfl) hS dX11_holds_139
  by_cases sw_11_2 : z_10.toInt = 2
  · refine as_i 2 (i_eq.mpr (sw_11_2.trans k_2.symm)) ?_
    refine lv_lookup (off := 106) (tgt := 140) hx hb dX11_holds_34 (by decide) (by decide) (by decide) ?_
    have hB := hA2 (by omega)
    refine lv_aload_n hx hb dX11_holds_140 rfl (lv_at hl 3 rfl) ?_
    refine lv_iload hx hb dX11_holds_141 (lv_at hl 1 rfl) ?_
    refine lv_iload_n hx hb dX11_holds_143 rfl (lv_at hl 5 rfl) ?_
    refine jn_i (wr := []) (rV (As := [.int z_5, .int vp]) (rest := []) (ci := 12) ⟨hx, hb, hml, hown, hts⟩ (m_holds_4 l dC dI cy _ vnh vo voth vmt votp vosz volm voto vofr vokd vonu vosg vofa vopl vowd votd vmn vmr vmk vms vma vmm vmrn vmkn vmik vmon vosm vohp vmw vmf vmb vomb vmd vmc vocm voct vocy vmx votx vose vml vmwr voln vohw vmno vond voon vowi votop vmnf z_5 vp ⟨by omega, by omega⟩ r_vp p_vmnf) (cw_X11_438 hts rfl rfl ⟨Nat.le_of_ble_eq_true rfl, Nat.le_of_ble_eq_true rfl⟩) hP hD hK [0, 1] rfl rfl rfl rfl bl0 e0 rfl hl.1 rfl (Nat.le_of_ble_eq_true rfl) dX11_holds_144 ⟨Nat.le_of_ble_eq_true rfl, Nat.le_of_ble_eq_true rfl⟩) hP hD hS hA [0, 1] [] rfl rfl rfl (by decide) (fun r_17 u_19 H locs hp_18 hP hD hS => ?_)
    obtain ⟨voth_20, rfl⟩ : ∃ z, z = u_19 := ⟨_, rfl⟩
    have hp_18 : ((r_17 = 0) ∨ (r_17 = 1)) := hp_18
    have q_21 := hp_18
    have hP : va_P (dC, dI) vwCl [(vo, .inr (12, [.int voth_20, .ref vmt, .int votp, .int vosz, .int volm, .int voto, .int vofr, .int vokd, .int vonu, .int vosg, .int vofa, .int vopl, .long vowd, .int votd, .ref vmn, .ref vmr, .ref vmk, .ref vms, .ref vma, .ref vmm, .ref vmrn, .ref vmkn, .ref vmik, .ref vmon, .int vosm, .int vohp, .ref vmw, .ref vmf, .ref vmb, .int vomb, .ref vmd, .ref vmc, .int vocm, .int voct, .int vocy, .ref vmx, .int votx, .int vose, .ref vml, .ref vmwr, .int voln, .int vohw, .ref vmno, .int vond, .int voon, .int vowi, .int votop])), (vmn, .inl (cy 0, 575, .inl vmnf))] H := hP
    have hD : va_D A [(vo, .inr (12, [.int voth_20, .ref vmt, .int votp, .int vosz, .int volm, .int voto, .int vofr, .int vokd, .int vonu, .int vosg, .int vofa, .int vopl, .long vowd, .int votd, .ref vmn, .ref vmr, .ref vmk, .ref vms, .ref vma, .ref vmm, .ref vmrn, .ref vmkn, .ref vmik, .ref vmon, .int vosm, .int vohp, .ref vmw, .ref vmf, .ref vmb, .int vomb, .ref vmd, .ref vmc, .int vocm, .int voct, .int vocy, .ref vmx, .int votx, .int vose, .ref vml, .ref vmwr, .int voln, .int vohw, .ref vmno, .int vond, .int voon, .int vowi, .int votop])), (vmn, .inl (cy 0, 575, .inl vmnf))] := hD
    rcases q_21 with aq_21 | aq_21
    · skip
      refine as_i 0 aq_21 ?_
      refine lv_if_eq (tgt := 164) hx hb dX11_holds_147 (by decide) (fun _ => ?_) (fun c9 => absurd (by decide) c9)
      refine lv_iconst (v := 0) hx hb dX11_holds_164 (by decide) ?_
      have k_0 : (0 : Int32).toInt = 0 := by decide
      rw [hQ9]
      exact re_z voth_20 hx hb hr hlocks (Or.inl rfl) (show ((0 : Int32) = 0) ∨ ((0 : Int32) = 1) from (Or.inl rfl)) (hP.sub [0, 1] rfl) (hD.sub [0, 1] rfl rfl) hS dX11_holds_165
    · skip
      refine as_i 1 aq_21 ?_
      refine lv_if_eq (tgt := 164) hx hb dX11_holds_147 (by decide) (fun c9 => absurd c9 (by decide)) (fun _ => ?_)
      refine lv_aload_n hx hb dX11_holds_150 rfl (lv_at hl 3 rfl) ?_
      refine lv_iload hx hb dX11_holds_151 (lv_at hl 0 rfl) ?_
      refine lv_iload_n hx hb dX11_holds_153 rfl (lv_at hl 5 rfl) ?_
      refine jn_i (wr := []) (rV (As := [.int z_8, .int vp]) (rest := []) (ci := 12) ⟨hx, hb, hml, hown, hts⟩ (m_holds_4 l dC dI cy _ vnh vo voth_20 vmt votp vosz volm voto vofr vokd vonu vosg vofa vopl vowd votd vmn vmr vmk vms vma vmm vmrn vmkn vmik vmon vosm vohp vmw vmf vmb vomb vmd vmc vocm voct vocy vmx votx vose vml vmwr voln vohw vmno vond voon vowi votop vmnf z_8 vp ⟨by omega, by omega⟩ r_vp p_vmnf) (cw_X11_438 hts rfl rfl ⟨Nat.le_of_ble_eq_true rfl, Nat.le_of_ble_eq_true rfl⟩) hP hD hK [0, 1] rfl rfl rfl rfl bl0 e0 rfl hl.1 rfl (Nat.le_of_ble_eq_true rfl) dX11_holds_154 ⟨Nat.le_of_ble_eq_true rfl, Nat.le_of_ble_eq_true rfl⟩) hP hD hS hA [0, 1] [] rfl rfl rfl (by decide) (fun r_22 u_24 H locs hp_23 hP hD hS => ?_)
      obtain ⟨voth_25, rfl⟩ : ∃ z, z = u_24 := ⟨_, rfl⟩
      have hp_23 : ((r_22 = 0) ∨ (r_22 = 1)) := hp_23
      have q_26 := hp_23
      have hP : va_P (dC, dI) vwCl [(vo, .inr (12, [.int voth_25, .ref vmt, .int votp, .int vosz, .int volm, .int voto, .int vofr, .int vokd, .int vonu, .int vosg, .int vofa, .int vopl, .long vowd, .int votd, .ref vmn, .ref vmr, .ref vmk, .ref vms, .ref vma, .ref vmm, .ref vmrn, .ref vmkn, .ref vmik, .ref vmon, .int vosm, .int vohp, .ref vmw, .ref vmf, .ref vmb, .int vomb, .ref vmd, .ref vmc, .int vocm, .int voct, .int vocy, .ref vmx, .int votx, .int vose, .ref vml, .ref vmwr, .int voln, .int vohw, .ref vmno, .int vond, .int voon, .int vowi, .int votop])), (vmn, .inl (cy 0, 575, .inl vmnf))] H := hP
      have hD : va_D A [(vo, .inr (12, [.int voth_25, .ref vmt, .int votp, .int vosz, .int volm, .int voto, .int vofr, .int vokd, .int vonu, .int vosg, .int vofa, .int vopl, .long vowd, .int votd, .ref vmn, .ref vmr, .ref vmk, .ref vms, .ref vma, .ref vmm, .ref vmrn, .ref vmkn, .ref vmik, .ref vmon, .int vosm, .int vohp, .ref vmw, .ref vmf, .ref vmb, .int vomb, .ref vmd, .ref vmc, .int vocm, .int voct, .int vocy, .ref vmx, .int votx, .int vose, .ref vml, .ref vmwr, .int voln, .int vohw, .ref vmno, .int vond, .int voon, .int vowi, .int votop])), (vmn, .inl (cy 0, 575, .inl vmnf))] := hD
      rcases q_26 with aq_26 | aq_26
      · skip
        refine as_i 0 aq_26 ?_
        refine lv_if_eq (tgt := 164) hx hb dX11_holds_157 (by decide) (fun _ => ?_) (fun c9 => absurd (by decide) c9)
        refine lv_iconst (v := 0) hx hb dX11_holds_164 (by decide) ?_
        have k_0 : (0 : Int32).toInt = 0 := by decide
        rw [hQ9]
        exact re_z voth_25 hx hb hr hlocks (Or.inl rfl) (show ((0 : Int32) = 0) ∨ ((0 : Int32) = 1) from (Or.inl rfl)) (hP.sub [0, 1] rfl) (hD.sub [0, 1] rfl rfl) hS dX11_holds_165
      · skip
        refine as_i 1 aq_26 ?_
        refine lv_if_eq (tgt := 164) hx hb dX11_holds_157 (by decide) (fun c9 => absurd c9 (by decide)) (fun _ => ?_)
        refine lv_iconst (v := 1) hx hb dX11_holds_160 (by decide) ?_
        refine lv_goto (tgt := 165) hx hb dX11_holds_161 (by decide) ?_
        rw [hQ9]
        exact re_z voth_25 hx hb hr hlocks (Or.inr rfl) (show ((1 : Int32) = 0) ∨ ((1 : Int32) = 1) from (Or.inr (rfl))) (hP.sub [0, 1] rfl) (hD.sub [0, 1] rfl rfl) hS dX11_holds_165
  by_cases sw_11_3 : z_10.toInt = 3
  · refine as_i 3 (i_eq.mpr (sw_11_3.trans k_3.symm)) ?_
    refine lv_lookup (off := 132) (tgt := 166) hx hb dX11_holds_34 (by decide) (by decide) (by decide) ?_
    have hB := hA3 (by omega)
    refine lv_aload_n hx hb dX11_holds_166 rfl (lv_at hl 3 rfl) ?_
    refine lv_iload hx hb dX11_holds_167 (lv_at hl 1 rfl) ?_
    refine lv_iload_n hx hb dX11_holds_169 rfl (lv_at hl 5 rfl) ?_
    refine jn_i (wr := []) (rV (As := [.int z_5, .int vp]) (rest := []) (ci := 12) ⟨hx, hb, hml, hown, hts⟩ (m_holds_4 l dC dI cy _ vnh vo voth vmt votp vosz volm voto vofr vokd vonu vosg vofa vopl vowd votd vmn vmr vmk vms vma vmm vmrn vmkn vmik vmon vosm vohp vmw vmf vmb vomb vmd vmc vocm voct vocy vmx votx vose vml vmwr voln vohw vmno vond voon vowi votop vmnf z_5 vp ⟨by omega, by omega⟩ r_vp p_vmnf) (cw_X11_438 hts rfl rfl ⟨Nat.le_of_ble_eq_true rfl, Nat.le_of_ble_eq_true rfl⟩) hP hD hK [0, 1] rfl rfl rfl rfl bl0 e0 rfl hl.1 rfl (Nat.le_of_ble_eq_true rfl) dX11_holds_170 ⟨Nat.le_of_ble_eq_true rfl, Nat.le_of_ble_eq_true rfl⟩) hP hD hS hA [0, 1] [] rfl rfl rfl (by decide) (fun r_27 u_29 H locs hp_28 hP hD hS => ?_)
    obtain ⟨voth_30, rfl⟩ : ∃ z, z = u_29 := ⟨_, rfl⟩
    have hp_28 : ((r_27 = 0) ∨ (r_27 = 1)) := hp_28
    have q_31 := hp_28
    have hP : va_P (dC, dI) vwCl [(vo, .inr (12, [.int voth_30, .ref vmt, .int votp, .int vosz, .int volm, .int voto, .int vofr, .int vokd, .int vonu, .int vosg, .int vofa, .int vopl, .long vowd, .int votd, .ref vmn, .ref vmr, .ref vmk, .ref vms, .ref vma, .ref vmm, .ref vmrn, .ref vmkn, .ref vmik, .ref vmon, .int vosm, .int vohp, .ref vmw, .ref vmf, .ref vmb, .int vomb, .ref vmd, .ref vmc, .int vocm, .int voct, .int vocy, .ref vmx, .int votx, .int vose, .ref vml, .ref vmwr, .int voln, .int vohw, .ref vmno, .int vond, .int voon, .int vowi, .int votop])), (vmn, .inl (cy 0, 575, .inl vmnf))] H := hP
    have hD : va_D A [(vo, .inr (12, [.int voth_30, .ref vmt, .int votp, .int vosz, .int volm, .int voto, .int vofr, .int vokd, .int vonu, .int vosg, .int vofa, .int vopl, .long vowd, .int votd, .ref vmn, .ref vmr, .ref vmk, .ref vms, .ref vma, .ref vmm, .ref vmrn, .ref vmkn, .ref vmik, .ref vmon, .int vosm, .int vohp, .ref vmw, .ref vmf, .ref vmb, .int vomb, .ref vmd, .ref vmc, .int vocm, .int voct, .int vocy, .ref vmx, .int votx, .int vose, .ref vml, .ref vmwr, .int voln, .int vohw, .ref vmno, .int vond, .int voon, .int vowi, .int votop])), (vmn, .inl (cy 0, 575, .inl vmnf))] := hD
    rcases q_31 with aq_31 | aq_31
    · skip
      refine as_i 0 aq_31 ?_
      refine lv_if_ne (tgt := 186) hx hb dX11_holds_173 (by decide) (fun c9 => absurd c9 (by decide)) (fun _ => ?_)
      refine lv_aload_n hx hb dX11_holds_176 rfl (lv_at hl 3 rfl) ?_
      refine lv_iload hx hb dX11_holds_177 (lv_at hl 0 rfl) ?_
      refine lv_iload_n hx hb dX11_holds_179 rfl (lv_at hl 5 rfl) ?_
      refine jn_i (wr := []) (rV (As := [.int z_8, .int vp]) (rest := []) (ci := 12) ⟨hx, hb, hml, hown, hts⟩ (m_holds_4 l dC dI cy _ vnh vo voth_30 vmt votp vosz volm voto vofr vokd vonu vosg vofa vopl vowd votd vmn vmr vmk vms vma vmm vmrn vmkn vmik vmon vosm vohp vmw vmf vmb vomb vmd vmc vocm voct vocy vmx votx vose vml vmwr voln vohw vmno vond voon vowi votop vmnf z_8 vp ⟨by omega, by omega⟩ r_vp p_vmnf) (cw_X11_438 hts rfl rfl ⟨Nat.le_of_ble_eq_true rfl, Nat.le_of_ble_eq_true rfl⟩) hP hD hK [0, 1] rfl rfl rfl rfl bl0 e0 rfl hl.1 rfl (Nat.le_of_ble_eq_true rfl) dX11_holds_180 ⟨Nat.le_of_ble_eq_true rfl, Nat.le_of_ble_eq_true rfl⟩) hP hD hS hA [0, 1] [] rfl rfl rfl (by decide) (fun r_32 u_34 H locs hp_33 hP hD hS => ?_)
      obtain ⟨voth_35, rfl⟩ : ∃ z, z = u_34 := ⟨_, rfl⟩
      have hp_33 : ((r_32 = 0) ∨ (r_32 = 1)) := hp_33
      have q_36 := hp_33
      have hP : va_P (dC, dI) vwCl [(vo, .inr (12, [.int voth_35, .ref vmt, .int votp, .int vosz, .int volm, .int voto, .int vofr, .int vokd, .int vonu, .int vosg, .int vofa, .int vopl, .long vowd, .int votd, .ref vmn, .ref vmr, .ref vmk, .ref vms, .ref vma, .ref vmm, .ref vmrn, .ref vmkn, .ref vmik, .ref vmon, .int vosm, .int vohp, .ref vmw, .ref vmf, .ref vmb, .int vomb, .ref vmd, .ref vmc, .int vocm, .int voct, .int vocy, .ref vmx, .int votx, .int vose, .ref vml, .ref vmwr, .int voln, .int vohw, .ref vmno, .int vond, .int voon, .int vowi, .int votop])), (vmn, .inl (cy 0, 575, .inl vmnf))] H := hP
      have hD : va_D A [(vo, .inr (12, [.int voth_35, .ref vmt, .int votp, .int vosz, .int volm, .int voto, .int vofr, .int vokd, .int vonu, .int vosg, .int vofa, .int vopl, .long vowd, .int votd, .ref vmn, .ref vmr, .ref vmk, .ref vms, .ref vma, .ref vmm, .ref vmrn, .ref vmkn, .ref vmik, .ref vmon, .int vosm, .int vohp, .ref vmw, .ref vmf, .ref vmb, .int vomb, .ref vmd, .ref vmc, .int vocm, .int voct, .int vocy, .ref vmx, .int votx, .int vose, .ref vml, .ref vmwr, .int voln, .int vohw, .ref vmno, .int vond, .int voon, .int vowi, .int votop])), (vmn, .inl (cy 0, 575, .inl vmnf))] := hD
      rcases q_36 with aq_36 | aq_36
      · skip
        refine as_i 0 aq_36 ?_
        refine lv_if_eq (tgt := 190) hx hb dX11_holds_183 (by decide) (fun _ => ?_) (fun c9 => absurd (by decide) c9)
        refine lv_iconst (v := 0) hx hb dX11_holds_190 (by decide) ?_
        have k_0 : (0 : Int32).toInt = 0 := by decide
        rw [hQ9]
        exact re_z voth_35 hx hb hr hlocks (Or.inl rfl) (show ((0 : Int32) = 0) ∨ ((0 : Int32) = 1) from (Or.inl rfl)) (hP.sub [0, 1] rfl) (hD.sub [0, 1] rfl rfl) hS dX11_holds_191
      · skip
        refine as_i 1 aq_36 ?_
        refine lv_if_eq (tgt := 190) hx hb dX11_holds_183 (by decide) (fun c9 => absurd c9 (by decide)) (fun _ => ?_)
        refine lv_iconst (v := 1) hx hb dX11_holds_186 (by decide) ?_
        refine lv_goto (tgt := 191) hx hb dX11_holds_187 (by decide) ?_
        rw [hQ9]
        exact re_z voth_35 hx hb hr hlocks (Or.inr rfl) (show ((1 : Int32) = 0) ∨ ((1 : Int32) = 1) from (Or.inr (rfl))) (hP.sub [0, 1] rfl) (hD.sub [0, 1] rfl rfl) hS dX11_holds_191
    · skip
      refine as_i 1 aq_31 ?_
      refine lv_if_ne (tgt := 186) hx hb dX11_holds_173 (by decide) (fun _ => ?_) (fun c9 => absurd c9 (by decide))
      refine lv_iconst (v := 1) hx hb dX11_holds_186 (by decide) ?_
      refine lv_goto (tgt := 191) hx hb dX11_holds_187 (by decide) ?_
      rw [hQ9]
      exact re_z voth_30 hx hb hr hlocks (Or.inr rfl) (show ((1 : Int32) = 0) ∨ ((1 : Int32) = 1) from (Or.inr (rfl))) (hP.sub [0, 1] rfl) (hD.sub [0, 1] rfl rfl) hS dX11_holds_191
  by_cases sw_11_68 : z_10.toInt = 68
  · refine as_i 68 (i_eq.mpr (sw_11_68.trans k_68.symm)) ?_
    refine lv_lookup (off := 158) (tgt := 192) hx hb dX11_holds_34 (by decide) (by decide) (by decide) ?_
    refine lv_aload_n hx hb dX11_holds_192 rfl (lv_at hl 3 rfl) ?_
    refine lv_iload_n hx hb dX11_holds_193 rfl (lv_at hl 5 rfl) ?_
    refine jr_i (rVr (As := [.int vp]) (rest := []) (ci := 12) ⟨hx, hb, hml, hown, hts⟩ (m_howOf l dC dI cy vnh vo voth vmt votp vosz volm voto vofr vokd vonu vosg vofa vopl vowd votd vmn vmr vmk vms vma vmm vmrn vmkn vmik vmon vosm vohp vmw vmf vmb vomb vmd vmc vocm voct vocy vmx votx vose vml vmwr voln vohw vmno vond voon vowi votop vmnf vp ⟨by omega, by omega⟩ p_vmnf) (cw_X11_256 hts rfl rfl ⟨Nat.le_of_ble_eq_true rfl, Nat.le_of_ble_eq_true rfl⟩) hP hK [0, 1] rfl rfl rfl rfl hl.1 rfl (Nat.le_of_ble_eq_true rfl) dX11_holds_194 ⟨Nat.le_of_ble_eq_true rfl, Nat.le_of_ble_eq_true rfl⟩) hP hS (fun r_37 H locs hp_38 hP hS => ?_)
    have hp_38 : (0 ≤ (r_37 : Int32).toInt ∧ (r_37 : Int32).toInt ≤ 2) := hp_38
    have q_39 := hp_38
    refine lv_iconst (v := 1) hx hb dX11_holds_197 (by decide) ?_
    refine lv_icmp_ne (tgt := 205) hx hb dX11_holds_198 (by decide) (fun c_40 => ?_) (fun c_40 => ?_)
    · skip
      have c_40 : ¬ (r_37.toInt = (1 : Int32).toInt) := fun h9 => c_40 (i_eq.mpr h9)
      refine lv_iconst (v := 0) hx hb dX11_holds_205 (by decide) ?_
      have k_0 : (0 : Int32).toInt = 0 := by decide
      rw [hQ9]
      exact re_z voth hx hb hr hlocks (Or.inl rfl) (show ((0 : Int32) = 0) ∨ ((0 : Int32) = 1) from (Or.inl rfl)) (hP.sub [0, 1] rfl) (hD.sub [0, 1] rfl rfl) hS dX11_holds_206
    · skip
      have c_40 : r_37.toInt = (1 : Int32).toInt := i_eq.mp c_40
      refine lv_iconst (v := 1) hx hb dX11_holds_201 (by decide) ?_
      refine lv_goto (tgt := 206) hx hb dX11_holds_202 (by decide) ?_
      rw [hQ9]
      exact re_z voth hx hb hr hlocks (Or.inr rfl) (show ((1 : Int32) = 0) ∨ ((1 : Int32) = 1) from (Or.inr (rfl))) (hP.sub [0, 1] rfl) (hD.sub [0, 1] rfl rfl) hS dX11_holds_206
  by_cases sw_11_69 : z_10.toInt = 69
  · refine as_i 69 (i_eq.mpr (sw_11_69.trans k_69.symm)) ?_
    refine lv_lookup (off := 173) (tgt := 207) hx hb dX11_holds_34 (by decide) (by decide) (by decide) ?_
    refine lv_aload_n hx hb dX11_holds_207 rfl (lv_at hl 3 rfl) ?_
    refine lv_iload_n hx hb dX11_holds_208 rfl (lv_at hl 5 rfl) ?_
    refine jr_i (rVr (As := [.int vp]) (rest := []) (ci := 12) ⟨hx, hb, hml, hown, hts⟩ (m_howOf l dC dI cy vnh vo voth vmt votp vosz volm voto vofr vokd vonu vosg vofa vopl vowd votd vmn vmr vmk vms vma vmm vmrn vmkn vmik vmon vosm vohp vmw vmf vmb vomb vmd vmc vocm voct vocy vmx votx vose vml vmwr voln vohw vmno vond voon vowi votop vmnf vp ⟨by omega, by omega⟩ p_vmnf) (cw_X11_256 hts rfl rfl ⟨Nat.le_of_ble_eq_true rfl, Nat.le_of_ble_eq_true rfl⟩) hP hK [0, 1] rfl rfl rfl rfl hl.1 rfl (Nat.le_of_ble_eq_true rfl) dX11_holds_209 ⟨Nat.le_of_ble_eq_true rfl, Nat.le_of_ble_eq_true rfl⟩) hP hS (fun r_41 H locs hp_42 hP hS => ?_)
    have hp_42 : (0 ≤ (r_41 : Int32).toInt ∧ (r_41 : Int32).toInt ≤ 2) := hp_42
    have q_43 := hp_42
    have k_0 : (0 : Int32).toInt = 0 := by decide
    refine lv_if_ne (tgt := 219) hx hb dX11_holds_212 (by decide) (fun c_44 => ?_) (fun c_44 => ?_)
    · skip
      have c_44 : ¬ (r_41.toInt = (0 : Int32).toInt) := fun h9 => c_44 (i_eq.mpr h9)
      refine lv_iconst (v := 0) hx hb dX11_holds_219 (by decide) ?_
      rw [hQ9]
      exact re_z voth hx hb hr hlocks (Or.inl rfl) (show ((0 : Int32) = 0) ∨ ((0 : Int32) = 1) from (Or.inl rfl)) (hP.sub [0, 1] rfl) (hD.sub [0, 1] rfl rfl) hS dX11_holds_220
    · skip
      have c_44 : r_41.toInt = (0 : Int32).toInt := i_eq.mp c_44
      refine lv_iconst (v := 1) hx hb dX11_holds_215 (by decide) ?_
      refine lv_goto (tgt := 220) hx hb dX11_holds_216 (by decide) ?_
      rw [hQ9]
      exact re_z voth hx hb hr hlocks (Or.inr rfl) (show ((1 : Int32) = 0) ∨ ((1 : Int32) = 1) from (Or.inr (rfl))) (hP.sub [0, 1] rfl) (hD.sub [0, 1] rfl rfl) hS dX11_holds_220
  by_cases sw_11_70 : z_10.toInt = 70
  · refine as_i 70 (i_eq.mpr (sw_11_70.trans k_70.symm)) ?_
    refine lv_lookup (off := 187) (tgt := 221) hx hb dX11_holds_34 (by decide) (by decide) (by decide) ?_
    refine lv_aload_n hx hb dX11_holds_221 rfl (lv_at hl 3 rfl) ?_
    refine lv_iload_n hx hb dX11_holds_222 rfl (lv_at hl 5 rfl) ?_
    refine jr_i (rVr (As := [.int vp]) (rest := []) (ci := 12) ⟨hx, hb, hml, hown, hts⟩ (m_howOf l dC dI cy vnh vo voth vmt votp vosz volm voto vofr vokd vonu vosg vofa vopl vowd votd vmn vmr vmk vms vma vmm vmrn vmkn vmik vmon vosm vohp vmw vmf vmb vomb vmd vmc vocm voct vocy vmx votx vose vml vmwr voln vohw vmno vond voon vowi votop vmnf vp ⟨by omega, by omega⟩ p_vmnf) (cw_X11_256 hts rfl rfl ⟨Nat.le_of_ble_eq_true rfl, Nat.le_of_ble_eq_true rfl⟩) hP hK [0, 1] rfl rfl rfl rfl hl.1 rfl (Nat.le_of_ble_eq_true rfl) dX11_holds_223 ⟨Nat.le_of_ble_eq_true rfl, Nat.le_of_ble_eq_true rfl⟩) hP hS (fun r_45 H locs hp_46 hP hS => ?_)
    have hp_46 : (0 ≤ (r_45 : Int32).toInt ∧ (r_45 : Int32).toInt ≤ 2) := hp_46
    have q_47 := hp_46
    refine lv_iconst (v := 2) hx hb dX11_holds_226 (by decide) ?_
    refine lv_icmp_ne (tgt := 234) hx hb dX11_holds_227 (by decide) (fun c_48 => ?_) (fun c_48 => ?_)
    · skip
      have c_48 : ¬ (r_45.toInt = (2 : Int32).toInt) := fun h9 => c_48 (i_eq.mpr h9)
      refine lv_iconst (v := 0) hx hb dX11_holds_234 (by decide) ?_
      have k_0 : (0 : Int32).toInt = 0 := by decide
      rw [hQ9]
      exact re_z voth hx hb hr hlocks (Or.inl rfl) (show ((0 : Int32) = 0) ∨ ((0 : Int32) = 1) from (Or.inl rfl)) (hP.sub [0, 1] rfl) (hD.sub [0, 1] rfl rfl) hS dX11_holds_235
    · skip
      have c_48 : r_45.toInt = (2 : Int32).toInt := i_eq.mp c_48
      refine lv_iconst (v := 1) hx hb dX11_holds_230 (by decide) ?_
      refine lv_goto (tgt := 235) hx hb dX11_holds_231 (by decide) ?_
      rw [hQ9]
      exact re_z voth hx hb hr hlocks (Or.inr rfl) (show ((1 : Int32) = 0) ∨ ((1 : Int32) = 1) from (Or.inr (rfl))) (hP.sub [0, 1] rfl) (hD.sub [0, 1] rfl rfl) hS dX11_holds_235
  by_cases sw_11_71 : z_10.toInt = 71
  · refine as_i 71 (i_eq.mpr (sw_11_71.trans k_71.symm)) ?_
    refine lv_lookup (off := 202) (tgt := 236) hx hb dX11_holds_34 (by decide) (by decide) (by decide) ?_
    refine lv_aload_n hx hb dX11_holds_236 rfl (lv_at hl 3 rfl) ?_
    refine gf_X11_98 hx hb hts hown hK hP 0 rfl rfl dX11_holds_237 ?_
    refine lv_sipush (v := 298) hx hb dX11_holds_240 (by decide) ?_
    refine lv_iload_n hx hb dX11_holds_243 rfl (lv_at hl 5 rfl) ?_
    refine lv_iadd hx hb dX11_holds_244 ?_
    refine lv_topi (fun z_49 ez_49 => ?_)
    have k_298 : (298 : Int32).toInt = 298 := by decide
    have bz_49 : z_49.toInt = (298 : Int32).toInt + vp.toInt := i_add ez_49 (by omega) (by omega)
    have hin_50 : vp_in z_49 575 := vp_in_iff.mpr ⟨by omega, by omega⟩
    refine va_iald hx hb hK hP 1 0 rfl rfl hin_50 dX11_holds_245 ?_
    refine lv_topi (fun z_51 ez_51 => ?_)
    have k_0 : (0 : Int32).toInt = 0 := by decide
    refine lv_if_le (tgt := 253) hx hb dX11_holds_246 (by decide) (fun c_52 => ?_) (fun c_52 => ?_)
    · skip
      have c_52 : z_51.toInt ≤ (0 : Int32).toInt := i_le.mp c_52
      refine lv_iconst (v := 0) hx hb dX11_holds_253 (by decide) ?_
      rw [hQ9]
      exact re_z voth hx hb hr hlocks (Or.inl rfl) (show ((0 : Int32) = 0) ∨ ((0 : Int32) = 1) from (Or.inl rfl)) (hP.sub [0, 1] rfl) (hD.sub [0, 1] rfl rfl) hS dX11_holds_254
    · skip
      have c_52 : ¬ (z_51.toInt ≤ (0 : Int32).toInt) := fun h9 => c_52 (i_le.mpr h9)
      refine lv_iconst (v := 1) hx hb dX11_holds_249 (by decide) ?_
      refine lv_goto (tgt := 254) hx hb dX11_holds_250 (by decide) ?_
      rw [hQ9]
      exact re_z voth hx hb hr hlocks (Or.inr rfl) (show ((1 : Int32) = 0) ∨ ((1 : Int32) = 1) from (Or.inr (rfl))) (hP.sub [0, 1] rfl) (hD.sub [0, 1] rfl rfl) hS dX11_holds_254
  by_cases sw_11_72 : z_10.toInt = 72
  · refine as_i 72 (i_eq.mpr (sw_11_72.trans k_72.symm)) ?_
    refine lv_lookup (off := 221) (tgt := 255) hx hb dX11_holds_34 (by decide) (by decide) (by decide) ?_
    refine lv_aload_n hx hb dX11_holds_255 rfl (lv_at hl 3 rfl) ?_
    refine lv_iload_n hx hb dX11_holds_256 rfl (lv_at hl 5 rfl) ?_
    refine jr_i (rVr (As := [.int vp]) (rest := []) (ci := 12) ⟨hx, hb, hml, hown, hts⟩ (m_lends l dC dI cy vnh vo voth vmt votp vosz volm voto vofr vokd vonu vosg vofa vopl vowd votd vmn vmr vmk vms vma vmm vmrn vmkn vmik vmon vosm vohp vmw vmf vmb vomb vmd vmc vocm voct vocy vmx votx vose vml vmwr voln vohw vmno vond voon vowi votop vmnf vp ⟨by omega, by omega⟩ p_vmnf) (cw_X11_265 hts rfl rfl ⟨Nat.le_of_ble_eq_true rfl, Nat.le_of_ble_eq_true rfl⟩) hP hK [0, 1] rfl rfl rfl rfl hl.1 rfl (Nat.le_of_ble_eq_true rfl) dX11_holds_257 ⟨Nat.le_of_ble_eq_true rfl, Nat.le_of_ble_eq_true rfl⟩) hP hS (fun r_53 H locs hp_54 hP hS => ?_)
    have hp_54 : ((r_53 = 0) ∨ (r_53 = 1)) := hp_54
    have q_55 := hp_54
    rcases q_55 with aq_55 | aq_55
    · skip
      refine as_i 0 aq_55 ?_
      have k_0 : (0 : Int32).toInt = 0 := by decide
      rw [hQ9]
      exact re_z voth hx hb hr hlocks (Or.inl rfl) (show ((0 : Int32) = 0) ∨ ((0 : Int32) = 1) from (Or.inl rfl)) (hP.sub [0, 1] rfl) (hD.sub [0, 1] rfl rfl) hS dX11_holds_260
    · skip
      refine as_i 1 aq_55 ?_
      rw [hQ9]
      exact re_z voth hx hb hr hlocks (Or.inr rfl) (show ((1 : Int32) = 0) ∨ ((1 : Int32) = 1) from (Or.inr (rfl))) (hP.sub [0, 1] rfl) (hD.sub [0, 1] rfl rfl) hS dX11_holds_260
  by_cases sw_11_73 : z_10.toInt = 73
  · refine as_i 73 (i_eq.mpr (sw_11_73.trans k_73.symm)) ?_
    refine lv_lookup (off := 227) (tgt := 261) hx hb dX11_holds_34 (by decide) (by decide) (by decide) ?_
    have hB := hA4 (by omega)
    refine lv_aload_n hx hb dX11_holds_261 rfl (lv_at hl 3 rfl) ?_
    refine lv_iload_n hx hb dX11_holds_262 rfl (lv_at hl 5 rfl) ?_
    refine lv_iload hx hb dX11_holds_263 (lv_at hl 1 rfl) ?_
    refine jr_i (rVr (As := [.int vp, .int z_5]) (rest := []) (ci := 12) ⟨hx, hb, hml, hown, hts⟩ (m_didOf l dC dI cy vnh vo voth vmt votp vosz volm voto vofr vokd vonu vosg vofa vopl vowd votd vmn vmr vmk vms vma vmm vmrn vmkn vmik vmon vosm vohp vmw vmf vmb vomb vmd vmc vocm voct vocy vmx votx vose vml vmwr voln vohw vmno vond voon vowi votop vmnf vp z_5 ⟨by omega, by omega⟩ ⟨by omega, by omega⟩ p_vmnf) (cw_X11_228 hts rfl rfl ⟨Nat.le_of_ble_eq_true rfl, Nat.le_of_ble_eq_true rfl⟩) hP hK [0, 1] rfl rfl rfl rfl hl.1 rfl (Nat.le_of_ble_eq_true rfl) dX11_holds_265 ⟨Nat.le_of_ble_eq_true rfl, Nat.le_of_ble_eq_true rfl⟩) hP hS (fun r_56 H locs hp_57 hP hS => ?_)
    have k_0 : (0 : Int32).toInt = 0 := by decide
    refine lv_if_le (tgt := 275) hx hb dX11_holds_268 (by decide) (fun c_58 => ?_) (fun c_58 => ?_)
    · skip
      have c_58 : r_56.toInt ≤ (0 : Int32).toInt := i_le.mp c_58
      refine lv_iconst (v := 0) hx hb dX11_holds_275 (by decide) ?_
      rw [hQ9]
      exact re_z voth hx hb hr hlocks (Or.inl rfl) (show ((0 : Int32) = 0) ∨ ((0 : Int32) = 1) from (Or.inl rfl)) (hP.sub [0, 1] rfl) (hD.sub [0, 1] rfl rfl) hS dX11_holds_276
    · skip
      have c_58 : ¬ (r_56.toInt ≤ (0 : Int32).toInt) := fun h9 => c_58 (i_le.mpr h9)
      refine lv_iconst (v := 1) hx hb dX11_holds_271 (by decide) ?_
      refine lv_goto (tgt := 276) hx hb dX11_holds_272 (by decide) ?_
      rw [hQ9]
      exact re_z voth hx hb hr hlocks (Or.inr rfl) (show ((1 : Int32) = 0) ∨ ((1 : Int32) = 1) from (Or.inr (rfl))) (hP.sub [0, 1] rfl) (hD.sub [0, 1] rfl rfl) hS dX11_holds_276
  by_cases sw_11_74 : z_10.toInt = 74
  · refine as_i 74 (i_eq.mpr (sw_11_74.trans k_74.symm)) ?_
    refine lv_lookup (off := 243) (tgt := 277) hx hb dX11_holds_34 (by decide) (by decide) (by decide) ?_
    refine lv_aload_n hx hb dX11_holds_277 rfl (lv_at hl 3 rfl) ?_
    refine lv_iload hx hb dX11_holds_278 (lv_at hl 1 rfl) ?_
    refine jn_i (wr := []) (rV (As := [.int z_5]) (rest := []) (ci := 12) ⟨hx, hb, hml, hown, hts⟩ (m_family l dC dI cy _ vnh vo voth vmt votp vosz volm voto vofr vokd vonu vosg vofa vopl vowd votd vmn vmr vmk vms vma vmm vmrn vmkn vmik vmon vosm vohp vmw vmf vmb vomb vmd vmc vocm voct vocy vmx votx vose vml vmwr voln vohw vmno vond voon vowi votop vmnf z_5 p_vmnf) (cw_X11_441 hts rfl rfl ⟨Nat.le_of_ble_eq_true rfl, Nat.le_of_ble_eq_true rfl⟩) hP hD hK [0, 1] rfl rfl rfl rfl bl0 e0 rfl hl.1 rfl (Nat.le_of_ble_eq_true rfl) dX11_holds_280 ⟨Nat.le_of_ble_eq_true rfl, Nat.le_of_ble_eq_true rfl⟩) hP hD hS hA [0, 1] [] rfl rfl rfl (by decide) (fun r_59 u_61 H locs hp_60 hP hD hS => ?_)
    obtain ⟨voth_62, rfl⟩ : ∃ z, z = u_61 := ⟨_, rfl⟩
    have hP : va_P (dC, dI) vwCl [(vo, .inr (12, [.int voth_62, .ref vmt, .int votp, .int vosz, .int volm, .int voto, .int vofr, .int vokd, .int vonu, .int vosg, .int vofa, .int vopl, .long vowd, .int votd, .ref vmn, .ref vmr, .ref vmk, .ref vms, .ref vma, .ref vmm, .ref vmrn, .ref vmkn, .ref vmik, .ref vmon, .int vosm, .int vohp, .ref vmw, .ref vmf, .ref vmb, .int vomb, .ref vmd, .ref vmc, .int vocm, .int voct, .int vocy, .ref vmx, .int votx, .int vose, .ref vml, .ref vmwr, .int voln, .int vohw, .ref vmno, .int vond, .int voon, .int vowi, .int votop])), (vmn, .inl (cy 0, 575, .inl vmnf))] H := hP
    have hD : va_D A [(vo, .inr (12, [.int voth_62, .ref vmt, .int votp, .int vosz, .int volm, .int voto, .int vofr, .int vokd, .int vonu, .int vosg, .int vofa, .int vopl, .long vowd, .int votd, .ref vmn, .ref vmr, .ref vmk, .ref vms, .ref vma, .ref vmm, .ref vmrn, .ref vmkn, .ref vmik, .ref vmon, .int vosm, .int vohp, .ref vmw, .ref vmf, .ref vmb, .int vomb, .ref vmd, .ref vmc, .int vocm, .int voct, .int vocy, .ref vmx, .int votx, .int vose, .ref vml, .ref vmwr, .int voln, .int vohw, .ref vmno, .int vond, .int voon, .int vowi, .int votop])), (vmn, .inl (cy 0, 575, .inl vmnf))] := hD
    refine lv_iload_n hx hb dX11_holds_283 rfl (lv_at hl 5 rfl) ?_
    refine jr_i (rSr (As := [.int r_59, .int vp]) (rest := []) ⟨hx, hb, hml, hown, hts⟩ (m_has l dC dI cy r_59 vp ) (cw_X11_194 hts rfl rfl ⟨Nat.le_of_ble_eq_true rfl, Nat.le_of_ble_eq_true rfl⟩) hP hK [] rfl rfl hl.1 rfl (Nat.le_of_ble_eq_true rfl) dX11_holds_284 ⟨Nat.le_of_ble_eq_true rfl, Nat.le_of_ble_eq_true rfl⟩) hP hS (fun r_63 H locs hp_64 hP hS => ?_)
    have hp_64 : ((r_63 = 0) ∨ (r_63 = 1)) := hp_64
    have q_65 := hp_64
    rcases q_65 with aq_65 | aq_65
    · skip
      refine as_i 0 aq_65 ?_
      have k_0 : (0 : Int32).toInt = 0 := by decide
      rw [hQ9]
      exact re_z voth_62 hx hb hr hlocks (Or.inl rfl) (show ((0 : Int32) = 0) ∨ ((0 : Int32) = 1) from (Or.inl rfl)) (hP.sub [0, 1] rfl) (hD.sub [0, 1] rfl rfl) hS dX11_holds_287
    · skip
      refine as_i 1 aq_65 ?_
      rw [hQ9]
      exact re_z voth_62 hx hb hr hlocks (Or.inr rfl) (show ((1 : Int32) = 0) ∨ ((1 : Int32) = 1) from (Or.inr (rfl))) (hP.sub [0, 1] rfl) (hD.sub [0, 1] rfl rfl) hS dX11_holds_287
  have nsw_11_1 : ¬ ((1 : Int) = z_10.toInt) := by omega
  have nsw_11_2 : ¬ ((2 : Int) = z_10.toInt) := by omega
  have nsw_11_3 : ¬ ((3 : Int) = z_10.toInt) := by omega
  have nsw_11_68 : ¬ ((68 : Int) = z_10.toInt) := by omega
  have nsw_11_69 : ¬ ((69 : Int) = z_10.toInt) := by omega
  have nsw_11_70 : ¬ ((70 : Int) = z_10.toInt) := by omega
  have nsw_11_71 : ¬ ((71 : Int) = z_10.toInt) := by omega
  have nsw_11_72 : ¬ ((72 : Int) = z_10.toInt) := by omega
  have nsw_11_73 : ¬ ((73 : Int) = z_10.toInt) := by omega
  have nsw_11_74 : ¬ ((74 : Int) = z_10.toInt) := by omega
  refine lv_lookup (off := 254) (tgt := 288) hx hb dX11_holds_34 (by decide) (by simp only [Op.lookupswitch.offset, if_neg nsw_11_1, if_neg nsw_11_2, if_neg nsw_11_3, if_neg nsw_11_68, if_neg nsw_11_69, if_neg nsw_11_70, if_neg nsw_11_71, if_neg nsw_11_72, if_neg nsw_11_73, if_neg nsw_11_74]) (by decide) ?_
  refine lv_aload_n hx hb dX11_holds_288 rfl (lv_at hl 3 rfl) ?_
  refine gf_X11_98 hx hb hts hown hK hP 0 rfl rfl dX11_holds_289 ?_
  refine lv_iload_n hx hb dX11_holds_292 rfl (lv_at hl 2 rfl) ?_
  have hin_66 : vp_in z_2 575 := vp_in_iff.mpr ⟨by omega, by omega⟩
  refine va_iald hx hb hK hP 1 0 rfl rfl hin_66 dX11_holds_293 ?_
  refine lv_topi (fun z_67 ez_67 => ?_)
  refine lv_bipush (v := 50) hx hb dX11_holds_294 (by decide) ?_
  refine lv_isub hx hb dX11_holds_296 ?_
  refine lv_topi (fun z_68 ez_68 => ?_)
  refine lv_istore (lv' := [(6, .int z_68), (5, .int z_8), (4, .int z_5), (3, .int z_2), (0, .ref vo), (1, .int vk), (2, .int vp)]) hx hb dX11_holds_297 hl (by decide) rfl (fun ls hl => ?_)
  refine lv_iload hx hb dX11_holds_299 (lv_at hl 0 rfl) ?_
  refine lv_bipush (v := 25) hx hb dX11_holds_301 (by decide) ?_
  have k_25 : (25 : Int32).toInt = 25 := by decide
  refine lv_icmp_ne (tgt := 314) hx hb dX11_holds_303 (by decide) (fun c_69 => ?_) (fun c_69 => ?_)
  · skip
    have c_69 : ¬ (z_68.toInt = (25 : Int32).toInt) := fun h9 => c_69 (i_eq.mpr h9)
    refine lv_iload hx hb dX11_holds_314 (lv_at hl 0 rfl) ?_
    refine lv_bipush (v := 26) hx hb dX11_holds_316 (by decide) ?_
    have k_26 : (26 : Int32).toInt = 26 := by decide
    refine lv_icmp_ne (tgt := 329) hx hb dX11_holds_318 (by decide) (fun c_70 => ?_) (fun c_70 => ?_)
    · skip
      have c_70 : ¬ (z_68.toInt = (26 : Int32).toInt) := fun h9 => c_70 (i_eq.mpr h9)
      refine lv_iload hx hb dX11_holds_329 (lv_at hl 0 rfl) ?_
      refine lv_bipush (v := 27) hx hb dX11_holds_331 (by decide) ?_
      have k_27 : (27 : Int32).toInt = 27 := by decide
      refine lv_icmp_ne (tgt := 349) hx hb dX11_holds_333 (by decide) (fun c_71 => ?_) (fun c_71 => ?_)
      · skip
        have c_71 : ¬ (z_68.toInt = (27 : Int32).toInt) := fun h9 => c_71 (i_eq.mpr h9)
        refine lv_iload_n hx hb dX11_holds_349 rfl (lv_at hl 6 rfl) ?_
        refine lv_istore (lv' := [(7, .int vp), (6, .int z_68), (5, .int z_8), (4, .int z_5), (3, .int z_2), (0, .ref vo), (1, .int vk), (2, .int vp)]) hx hb dX11_holds_350 hl (by decide) rfl (fun ls hl => ?_)
        refine lv_aload_n hx hb dX11_holds_352 rfl (lv_at hl 5 rfl) ?_
        refine gf_X11_98 hx hb hts hown hK hP 0 rfl rfl dX11_holds_353 ?_
        refine lv_iload_n hx hb dX11_holds_356 rfl (lv_at hl 4 rfl) ?_
        refine lv_iconst (v := 3) hx hb dX11_holds_357 (by decide) ?_
        refine lv_iadd hx hb dX11_holds_358 ?_
        refine lv_topi (fun z_72 ez_72 => ?_)
        have bz_72 : z_72.toInt = z_2.toInt + (3 : Int32).toInt := i_add ez_72 (by omega) (by omega)
        have hin_73 : vp_in z_72 575 := vp_in_iff.mpr ⟨by omega, by omega⟩
        refine va_iald hx hb hK hP 1 0 rfl rfl hin_73 dX11_holds_359 ?_
        refine lv_topi (fun z_74 ez_74 => ?_)
        refine lv_bipush (v := 60) hx hb dX11_holds_360 (by decide) ?_
        have k_60 : (60 : Int32).toInt = 60 := by decide
        refine lv_icmp_ne (tgt := 380) hx hb dX11_holds_362 (by decide) (fun c_75 => ?_) (fun c_75 => ?_)
        · skip
          have c_75 : ¬ (z_74.toInt = (60 : Int32).toInt) := fun h9 => c_75 (i_eq.mpr h9)
          refine lv_aload_n hx hb dX11_holds_380 rfl (lv_at hl 5 rfl) ?_
          refine gf_X11_98 hx hb hts hown hK hP 0 rfl rfl dX11_holds_381 ?_
          refine lv_iload_n hx hb dX11_holds_384 rfl (lv_at hl 4 rfl) ?_
          refine lv_iconst (v := 3) hx hb dX11_holds_385 (by decide) ?_
          refine lv_iadd hx hb dX11_holds_386 ?_
          refine lv_topi (fun z_76 ez_76 => ?_)
          have bz_76 : z_76.toInt = z_2.toInt + (3 : Int32).toInt := i_add ez_76 (by omega) (by omega)
          have hin_77 : vp_in z_76 575 := vp_in_iff.mpr ⟨by omega, by omega⟩
          refine va_iald hx hb hK hP 1 0 rfl rfl hin_77 dX11_holds_387 ?_
          refine lv_topi (fun z_78 ez_78 => ?_)
          refine lv_bipush (v := 61) hx hb dX11_holds_388 (by decide) ?_
          have k_61 : (61 : Int32).toInt = 61 := by decide
          refine lv_icmp_ne (tgt := 408) hx hb dX11_holds_390 (by decide) (fun c_79 => ?_) (fun c_79 => ?_)
          · skip
            have c_79 : ¬ (z_78.toInt = (61 : Int32).toInt) := fun h9 => c_79 (i_eq.mpr h9)
            refine lv_iload hx hb dX11_holds_408 (lv_at hl 0 rfl) ?_
            refine lv_iload hx hb dX11_holds_410 (lv_at hl 2 rfl) ?_
            refine lv_icmp_le (tgt := 419) hx hb dX11_holds_412 (by decide) (fun c_80 => ?_) (fun c_80 => ?_)
            · skip
              have c_80 : vp.toInt ≤ z_8.toInt := i_le.mp c_80
              refine lv_iconst (v := 0) hx hb dX11_holds_419 (by decide) ?_
              have k_0 : (0 : Int32).toInt = 0 := by decide
              rw [hQ9]
              exact re_z voth hx hb hr hlocks (Or.inl rfl) (show ((0 : Int32) = 0) ∨ ((0 : Int32) = 1) from (Or.inl rfl)) (hP.sub [0, 1] rfl) (hD.sub [0, 1] rfl rfl) hS dX11_holds_420
            · skip
              have c_80 : ¬ (vp.toInt ≤ z_8.toInt) := fun h9 => c_80 (i_le.mpr h9)
              refine lv_iconst (v := 1) hx hb dX11_holds_415 (by decide) ?_
              refine lv_goto (tgt := 420) hx hb dX11_holds_416 (by decide) ?_
              rw [hQ9]
              exact re_z voth hx hb hr hlocks (Or.inr rfl) (show ((1 : Int32) = 0) ∨ ((1 : Int32) = 1) from (Or.inr (rfl))) (hP.sub [0, 1] rfl) (hD.sub [0, 1] rfl rfl) hS dX11_holds_420
          · skip
            have c_79 : z_78.toInt = (61 : Int32).toInt := i_eq.mp c_79
            refine lv_iload hx hb dX11_holds_393 (lv_at hl 0 rfl) ?_
            refine lv_iload hx hb dX11_holds_395 (lv_at hl 2 rfl) ?_
            refine lv_icmp_ne (tgt := 404) hx hb dX11_holds_397 (by decide) (fun c_81 => ?_) (fun c_81 => ?_)
            · skip
              have c_81 : ¬ (vp.toInt = z_8.toInt) := fun h9 => c_81 (i_eq.mpr h9)
              refine lv_iconst (v := 0) hx hb dX11_holds_404 (by decide) ?_
              refine lv_goto (tgt := 420) hx hb dX11_holds_405 (by decide) ?_
              have k_0 : (0 : Int32).toInt = 0 := by decide
              rw [hQ9]
              exact re_z voth hx hb hr hlocks (Or.inl rfl) (show ((0 : Int32) = 0) ∨ ((0 : Int32) = 1) from (Or.inl rfl)) (hP.sub [0, 1] rfl) (hD.sub [0, 1] rfl rfl) hS dX11_holds_420
            · skip
              have c_81 : vp.toInt = z_8.toInt := i_eq.mp c_81
              refine lv_iconst (v := 1) hx hb dX11_holds_400 (by decide) ?_
              refine lv_goto (tgt := 420) hx hb dX11_holds_401 (by decide) ?_
              rw [hQ9]
              exact re_z voth hx hb hr hlocks (Or.inr rfl) (show ((1 : Int32) = 0) ∨ ((1 : Int32) = 1) from (Or.inr (rfl))) (hP.sub [0, 1] rfl) (hD.sub [0, 1] rfl rfl) hS dX11_holds_420
        · skip
          have c_75 : z_74.toInt = (60 : Int32).toInt := i_eq.mp c_75
          refine lv_iload hx hb dX11_holds_365 (lv_at hl 0 rfl) ?_
          refine lv_iload hx hb dX11_holds_367 (lv_at hl 2 rfl) ?_
          refine lv_icmp_ge (tgt := 376) hx hb dX11_holds_369 (by decide) (fun c_82 => ?_) (fun c_82 => ?_)
          · skip
            have c_82 : z_8.toInt ≤ vp.toInt := i_le.mp c_82
            refine lv_iconst (v := 0) hx hb dX11_holds_376 (by decide) ?_
            refine lv_goto (tgt := 420) hx hb dX11_holds_377 (by decide) ?_
            have k_0 : (0 : Int32).toInt = 0 := by decide
            rw [hQ9]
            exact re_z voth hx hb hr hlocks (Or.inl rfl) (show ((0 : Int32) = 0) ∨ ((0 : Int32) = 1) from (Or.inl rfl)) (hP.sub [0, 1] rfl) (hD.sub [0, 1] rfl rfl) hS dX11_holds_420
          · skip
            have c_82 : ¬ (z_8.toInt ≤ vp.toInt) := fun h9 => c_82 (i_le.mpr h9)
            refine lv_iconst (v := 1) hx hb dX11_holds_372 (by decide) ?_
            refine lv_goto (tgt := 420) hx hb dX11_holds_373 (by decide) ?_
            rw [hQ9]
            exact re_z voth hx hb hr hlocks (Or.inr rfl) (show ((1 : Int32) = 0) ∨ ((1 : Int32) = 1) from (Or.inr (rfl))) (hP.sub [0, 1] rfl) (hD.sub [0, 1] rfl rfl) hS dX11_holds_420
      · skip
        have c_71 : z_68.toInt = (27 : Int32).toInt := i_eq.mp c_71
        refine lv_aload_n hx hb dX11_holds_336 rfl (lv_at hl 4 rfl) ?_
        refine gf_X11_98 hx hb hts hown hK hP 0 rfl rfl dX11_holds_337 ?_
        refine lv_sipush (v := 158) hx hb dX11_holds_340 (by decide) ?_
        refine lv_iload_n hx hb dX11_holds_343 rfl (lv_at hl 6 rfl) ?_
        refine lv_iadd hx hb dX11_holds_344 ?_
        refine lv_topi (fun z_83 ez_83 => ?_)
        have k_158 : (158 : Int32).toInt = 158 := by decide
        have bz_83 : z_83.toInt = (158 : Int32).toInt + vp.toInt := i_add ez_83 (by omega) (by omega)
        have hin_84 : vp_in z_83 575 := vp_in_iff.mpr ⟨by omega, by omega⟩
        refine va_iald hx hb hK hP 1 0 rfl rfl hin_84 dX11_holds_345 ?_
        refine lv_topi (fun z_85 ez_85 => ?_)
        refine lv_goto (tgt := 350) hx hb dX11_holds_346 (by decide) ?_
        refine lv_istore (lv' := [(7, .int z_85), (6, .int z_68), (5, .int z_8), (4, .int z_5), (3, .int z_2), (0, .ref vo), (1, .int vk), (2, .int vp)]) hx hb dX11_holds_350 hl (by decide) rfl (fun ls hl => ?_)
        refine lv_aload_n hx hb dX11_holds_352 rfl (lv_at hl 5 rfl) ?_
        refine gf_X11_98 hx hb hts hown hK hP 0 rfl rfl dX11_holds_353 ?_
        refine lv_iload_n hx hb dX11_holds_356 rfl (lv_at hl 4 rfl) ?_
        refine lv_iconst (v := 3) hx hb dX11_holds_357 (by decide) ?_
        refine lv_iadd hx hb dX11_holds_358 ?_
        refine lv_topi (fun z_86 ez_86 => ?_)
        have bz_86 : z_86.toInt = z_2.toInt + (3 : Int32).toInt := i_add ez_86 (by omega) (by omega)
        have hin_87 : vp_in z_86 575 := vp_in_iff.mpr ⟨by omega, by omega⟩
        refine va_iald hx hb hK hP 1 0 rfl rfl hin_87 dX11_holds_359 ?_
        refine lv_topi (fun z_88 ez_88 => ?_)
        refine lv_bipush (v := 60) hx hb dX11_holds_360 (by decide) ?_
        have k_60 : (60 : Int32).toInt = 60 := by decide
        refine lv_icmp_ne (tgt := 380) hx hb dX11_holds_362 (by decide) (fun c_89 => ?_) (fun c_89 => ?_)
        · skip
          have c_89 : ¬ (z_88.toInt = (60 : Int32).toInt) := fun h9 => c_89 (i_eq.mpr h9)
          refine lv_aload_n hx hb dX11_holds_380 rfl (lv_at hl 5 rfl) ?_
          refine gf_X11_98 hx hb hts hown hK hP 0 rfl rfl dX11_holds_381 ?_
          refine lv_iload_n hx hb dX11_holds_384 rfl (lv_at hl 4 rfl) ?_
          refine lv_iconst (v := 3) hx hb dX11_holds_385 (by decide) ?_
          refine lv_iadd hx hb dX11_holds_386 ?_
          refine lv_topi (fun z_90 ez_90 => ?_)
          have bz_90 : z_90.toInt = z_2.toInt + (3 : Int32).toInt := i_add ez_90 (by omega) (by omega)
          have hin_91 : vp_in z_90 575 := vp_in_iff.mpr ⟨by omega, by omega⟩
          refine va_iald hx hb hK hP 1 0 rfl rfl hin_91 dX11_holds_387 ?_
          refine lv_topi (fun z_92 ez_92 => ?_)
          refine lv_bipush (v := 61) hx hb dX11_holds_388 (by decide) ?_
          have k_61 : (61 : Int32).toInt = 61 := by decide
          refine lv_icmp_ne (tgt := 408) hx hb dX11_holds_390 (by decide) (fun c_93 => ?_) (fun c_93 => ?_)
          · skip
            have c_93 : ¬ (z_92.toInt = (61 : Int32).toInt) := fun h9 => c_93 (i_eq.mpr h9)
            refine lv_iload hx hb dX11_holds_408 (lv_at hl 0 rfl) ?_
            refine lv_iload hx hb dX11_holds_410 (lv_at hl 2 rfl) ?_
            refine lv_icmp_le (tgt := 419) hx hb dX11_holds_412 (by decide) (fun c_94 => ?_) (fun c_94 => ?_)
            · skip
              have c_94 : z_85.toInt ≤ z_8.toInt := i_le.mp c_94
              refine lv_iconst (v := 0) hx hb dX11_holds_419 (by decide) ?_
              have k_0 : (0 : Int32).toInt = 0 := by decide
              rw [hQ9]
              exact re_z voth hx hb hr hlocks (Or.inl rfl) (show ((0 : Int32) = 0) ∨ ((0 : Int32) = 1) from (Or.inl rfl)) (hP.sub [0, 1] rfl) (hD.sub [0, 1] rfl rfl) hS dX11_holds_420
            · skip
              have c_94 : ¬ (z_85.toInt ≤ z_8.toInt) := fun h9 => c_94 (i_le.mpr h9)
              refine lv_iconst (v := 1) hx hb dX11_holds_415 (by decide) ?_
              refine lv_goto (tgt := 420) hx hb dX11_holds_416 (by decide) ?_
              rw [hQ9]
              exact re_z voth hx hb hr hlocks (Or.inr rfl) (show ((1 : Int32) = 0) ∨ ((1 : Int32) = 1) from (Or.inr (rfl))) (hP.sub [0, 1] rfl) (hD.sub [0, 1] rfl rfl) hS dX11_holds_420
          · skip
            have c_93 : z_92.toInt = (61 : Int32).toInt := i_eq.mp c_93
            refine lv_iload hx hb dX11_holds_393 (lv_at hl 0 rfl) ?_
            refine lv_iload hx hb dX11_holds_395 (lv_at hl 2 rfl) ?_
            refine lv_icmp_ne (tgt := 404) hx hb dX11_holds_397 (by decide) (fun c_95 => ?_) (fun c_95 => ?_)
            · skip
              have c_95 : ¬ (z_85.toInt = z_8.toInt) := fun h9 => c_95 (i_eq.mpr h9)
              refine lv_iconst (v := 0) hx hb dX11_holds_404 (by decide) ?_
              refine lv_goto (tgt := 420) hx hb dX11_holds_405 (by decide) ?_
              have k_0 : (0 : Int32).toInt = 0 := by decide
              rw [hQ9]
              exact re_z voth hx hb hr hlocks (Or.inl rfl) (show ((0 : Int32) = 0) ∨ ((0 : Int32) = 1) from (Or.inl rfl)) (hP.sub [0, 1] rfl) (hD.sub [0, 1] rfl rfl) hS dX11_holds_420
            · skip
              have c_95 : z_85.toInt = z_8.toInt := i_eq.mp c_95
              refine lv_iconst (v := 1) hx hb dX11_holds_400 (by decide) ?_
              refine lv_goto (tgt := 420) hx hb dX11_holds_401 (by decide) ?_
              rw [hQ9]
              exact re_z voth hx hb hr hlocks (Or.inr rfl) (show ((1 : Int32) = 0) ∨ ((1 : Int32) = 1) from (Or.inr (rfl))) (hP.sub [0, 1] rfl) (hD.sub [0, 1] rfl rfl) hS dX11_holds_420
        · skip
          have c_89 : z_88.toInt = (60 : Int32).toInt := i_eq.mp c_89
          refine lv_iload hx hb dX11_holds_365 (lv_at hl 0 rfl) ?_
          refine lv_iload hx hb dX11_holds_367 (lv_at hl 2 rfl) ?_
          refine lv_icmp_ge (tgt := 376) hx hb dX11_holds_369 (by decide) (fun c_96 => ?_) (fun c_96 => ?_)
          · skip
            have c_96 : z_8.toInt ≤ z_85.toInt := i_le.mp c_96
            refine lv_iconst (v := 0) hx hb dX11_holds_376 (by decide) ?_
            refine lv_goto (tgt := 420) hx hb dX11_holds_377 (by decide) ?_
            have k_0 : (0 : Int32).toInt = 0 := by decide
            rw [hQ9]
            exact re_z voth hx hb hr hlocks (Or.inl rfl) (show ((0 : Int32) = 0) ∨ ((0 : Int32) = 1) from (Or.inl rfl)) (hP.sub [0, 1] rfl) (hD.sub [0, 1] rfl rfl) hS dX11_holds_420
          · skip
            have c_96 : ¬ (z_8.toInt ≤ z_85.toInt) := fun h9 => c_96 (i_le.mpr h9)
            refine lv_iconst (v := 1) hx hb dX11_holds_372 (by decide) ?_
            refine lv_goto (tgt := 420) hx hb dX11_holds_373 (by decide) ?_
            rw [hQ9]
            exact re_z voth hx hb hr hlocks (Or.inr rfl) (show ((1 : Int32) = 0) ∨ ((1 : Int32) = 1) from (Or.inr (rfl))) (hP.sub [0, 1] rfl) (hD.sub [0, 1] rfl rfl) hS dX11_holds_420
    · skip
      have c_70 : z_68.toInt = (26 : Int32).toInt := i_eq.mp c_70
      refine lv_aload_n hx hb dX11_holds_321 rfl (lv_at hl 4 rfl) ?_
      refine lv_iload_n hx hb dX11_holds_322 rfl (lv_at hl 6 rfl) ?_
      refine jr_i (rVr (As := [.int vp]) (rest := []) (ci := 12) ⟨hx, hb, hml, hown, hts⟩ (m_darkOf l dC dI cy vnh vo voth vmt votp vosz volm voto vofr vokd vonu vosg vofa vopl vowd votd vmn vmr vmk vms vma vmm vmrn vmkn vmik vmon vosm vohp vmw vmf vmb vomb vmd vmc vocm voct vocy vmx votx vose vml vmwr voln vohw vmno vond voon vowi votop vmnf vp ⟨by omega, by omega⟩ p_vmnf) (cw_X11_244 hts rfl rfl ⟨Nat.le_of_ble_eq_true rfl, Nat.le_of_ble_eq_true rfl⟩) hP hK [0, 1] rfl rfl rfl rfl hl.1 rfl (Nat.le_of_ble_eq_true rfl) dX11_holds_323 ⟨Nat.le_of_ble_eq_true rfl, Nat.le_of_ble_eq_true rfl⟩) hP hS (fun r_97 H locs hp_98 hP hS => ?_)
      refine lv_goto (tgt := 350) hx hb dX11_holds_326 (by decide) ?_
      refine lv_istore (lv' := [(7, .int r_97), (6, .int z_68), (5, .int z_8), (4, .int z_5), (3, .int z_2), (0, .ref vo), (1, .int vk), (2, .int vp)]) hx hb dX11_holds_350 hl (by decide) rfl (fun ls hl => ?_)
      refine lv_aload_n hx hb dX11_holds_352 rfl (lv_at hl 5 rfl) ?_
      refine gf_X11_98 hx hb hts hown hK hP 0 rfl rfl dX11_holds_353 ?_
      refine lv_iload_n hx hb dX11_holds_356 rfl (lv_at hl 4 rfl) ?_
      refine lv_iconst (v := 3) hx hb dX11_holds_357 (by decide) ?_
      refine lv_iadd hx hb dX11_holds_358 ?_
      refine lv_topi (fun z_99 ez_99 => ?_)
      have bz_99 : z_99.toInt = z_2.toInt + (3 : Int32).toInt := i_add ez_99 (by omega) (by omega)
      have hin_100 : vp_in z_99 575 := vp_in_iff.mpr ⟨by omega, by omega⟩
      refine va_iald hx hb hK hP 1 0 rfl rfl hin_100 dX11_holds_359 ?_
      refine lv_topi (fun z_101 ez_101 => ?_)
      refine lv_bipush (v := 60) hx hb dX11_holds_360 (by decide) ?_
      have k_60 : (60 : Int32).toInt = 60 := by decide
      refine lv_icmp_ne (tgt := 380) hx hb dX11_holds_362 (by decide) (fun c_102 => ?_) (fun c_102 => ?_)
      · skip
        have c_102 : ¬ (z_101.toInt = (60 : Int32).toInt) := fun h9 => c_102 (i_eq.mpr h9)
        refine lv_aload_n hx hb dX11_holds_380 rfl (lv_at hl 5 rfl) ?_
        refine gf_X11_98 hx hb hts hown hK hP 0 rfl rfl dX11_holds_381 ?_
        refine lv_iload_n hx hb dX11_holds_384 rfl (lv_at hl 4 rfl) ?_
        refine lv_iconst (v := 3) hx hb dX11_holds_385 (by decide) ?_
        refine lv_iadd hx hb dX11_holds_386 ?_
        refine lv_topi (fun z_103 ez_103 => ?_)
        have bz_103 : z_103.toInt = z_2.toInt + (3 : Int32).toInt := i_add ez_103 (by omega) (by omega)
        have hin_104 : vp_in z_103 575 := vp_in_iff.mpr ⟨by omega, by omega⟩
        refine va_iald hx hb hK hP 1 0 rfl rfl hin_104 dX11_holds_387 ?_
        refine lv_topi (fun z_105 ez_105 => ?_)
        refine lv_bipush (v := 61) hx hb dX11_holds_388 (by decide) ?_
        have k_61 : (61 : Int32).toInt = 61 := by decide
        refine lv_icmp_ne (tgt := 408) hx hb dX11_holds_390 (by decide) (fun c_106 => ?_) (fun c_106 => ?_)
        · skip
          have c_106 : ¬ (z_105.toInt = (61 : Int32).toInt) := fun h9 => c_106 (i_eq.mpr h9)
          refine lv_iload hx hb dX11_holds_408 (lv_at hl 0 rfl) ?_
          refine lv_iload hx hb dX11_holds_410 (lv_at hl 2 rfl) ?_
          refine lv_icmp_le (tgt := 419) hx hb dX11_holds_412 (by decide) (fun c_107 => ?_) (fun c_107 => ?_)
          · skip
            have c_107 : r_97.toInt ≤ z_8.toInt := i_le.mp c_107
            refine lv_iconst (v := 0) hx hb dX11_holds_419 (by decide) ?_
            have k_0 : (0 : Int32).toInt = 0 := by decide
            rw [hQ9]
            exact re_z voth hx hb hr hlocks (Or.inl rfl) (show ((0 : Int32) = 0) ∨ ((0 : Int32) = 1) from (Or.inl rfl)) (hP.sub [0, 1] rfl) (hD.sub [0, 1] rfl rfl) hS dX11_holds_420
          · skip
            have c_107 : ¬ (r_97.toInt ≤ z_8.toInt) := fun h9 => c_107 (i_le.mpr h9)
            refine lv_iconst (v := 1) hx hb dX11_holds_415 (by decide) ?_
            refine lv_goto (tgt := 420) hx hb dX11_holds_416 (by decide) ?_
            rw [hQ9]
            exact re_z voth hx hb hr hlocks (Or.inr rfl) (show ((1 : Int32) = 0) ∨ ((1 : Int32) = 1) from (Or.inr (rfl))) (hP.sub [0, 1] rfl) (hD.sub [0, 1] rfl rfl) hS dX11_holds_420
        · skip
          have c_106 : z_105.toInt = (61 : Int32).toInt := i_eq.mp c_106
          refine lv_iload hx hb dX11_holds_393 (lv_at hl 0 rfl) ?_
          refine lv_iload hx hb dX11_holds_395 (lv_at hl 2 rfl) ?_
          refine lv_icmp_ne (tgt := 404) hx hb dX11_holds_397 (by decide) (fun c_108 => ?_) (fun c_108 => ?_)
          · skip
            have c_108 : ¬ (r_97.toInt = z_8.toInt) := fun h9 => c_108 (i_eq.mpr h9)
            refine lv_iconst (v := 0) hx hb dX11_holds_404 (by decide) ?_
            refine lv_goto (tgt := 420) hx hb dX11_holds_405 (by decide) ?_
            have k_0 : (0 : Int32).toInt = 0 := by decide
            rw [hQ9]
            exact re_z voth hx hb hr hlocks (Or.inl rfl) (show ((0 : Int32) = 0) ∨ ((0 : Int32) = 1) from (Or.inl rfl)) (hP.sub [0, 1] rfl) (hD.sub [0, 1] rfl rfl) hS dX11_holds_420
          · skip
            have c_108 : r_97.toInt = z_8.toInt := i_eq.mp c_108
            refine lv_iconst (v := 1) hx hb dX11_holds_400 (by decide) ?_
            refine lv_goto (tgt := 420) hx hb dX11_holds_401 (by decide) ?_
            rw [hQ9]
            exact re_z voth hx hb hr hlocks (Or.inr rfl) (show ((1 : Int32) = 0) ∨ ((1 : Int32) = 1) from (Or.inr (rfl))) (hP.sub [0, 1] rfl) (hD.sub [0, 1] rfl rfl) hS dX11_holds_420
      · skip
        have c_102 : z_101.toInt = (60 : Int32).toInt := i_eq.mp c_102
        refine lv_iload hx hb dX11_holds_365 (lv_at hl 0 rfl) ?_
        refine lv_iload hx hb dX11_holds_367 (lv_at hl 2 rfl) ?_
        refine lv_icmp_ge (tgt := 376) hx hb dX11_holds_369 (by decide) (fun c_109 => ?_) (fun c_109 => ?_)
        · skip
          have c_109 : z_8.toInt ≤ r_97.toInt := i_le.mp c_109
          refine lv_iconst (v := 0) hx hb dX11_holds_376 (by decide) ?_
          refine lv_goto (tgt := 420) hx hb dX11_holds_377 (by decide) ?_
          have k_0 : (0 : Int32).toInt = 0 := by decide
          rw [hQ9]
          exact re_z voth hx hb hr hlocks (Or.inl rfl) (show ((0 : Int32) = 0) ∨ ((0 : Int32) = 1) from (Or.inl rfl)) (hP.sub [0, 1] rfl) (hD.sub [0, 1] rfl rfl) hS dX11_holds_420
        · skip
          have c_109 : ¬ (z_8.toInt ≤ r_97.toInt) := fun h9 => c_109 (i_le.mpr h9)
          refine lv_iconst (v := 1) hx hb dX11_holds_372 (by decide) ?_
          refine lv_goto (tgt := 420) hx hb dX11_holds_373 (by decide) ?_
          rw [hQ9]
          exact re_z voth hx hb hr hlocks (Or.inr rfl) (show ((1 : Int32) = 0) ∨ ((1 : Int32) = 1) from (Or.inr (rfl))) (hP.sub [0, 1] rfl) (hD.sub [0, 1] rfl rfl) hS dX11_holds_420
  · skip
    have c_69 : z_68.toInt = (25 : Int32).toInt := i_eq.mp c_69
    refine lv_aload_n hx hb dX11_holds_306 rfl (lv_at hl 4 rfl) ?_
    refine lv_iload_n hx hb dX11_holds_307 rfl (lv_at hl 6 rfl) ?_
    refine jr_i (rVr (As := [.int vp]) (rest := []) (ci := 12) ⟨hx, hb, hml, hown, hts⟩ (m_whiteOf l dC dI cy vnh vo voth vmt votp vosz volm voto vofr vokd vonu vosg vofa vopl vowd votd vmn vmr vmk vms vma vmm vmrn vmkn vmik vmon vosm vohp vmw vmf vmb vomb vmd vmc vocm voct vocy vmx votx vose vml vmwr voln vohw vmno vond voon vowi votop vmnf vp ⟨by omega, by omega⟩ p_vmnf) (cw_X11_241 hts rfl rfl ⟨Nat.le_of_ble_eq_true rfl, Nat.le_of_ble_eq_true rfl⟩) hP hK [0, 1] rfl rfl rfl rfl hl.1 rfl (Nat.le_of_ble_eq_true rfl) dX11_holds_308 ⟨Nat.le_of_ble_eq_true rfl, Nat.le_of_ble_eq_true rfl⟩) hP hS (fun r_110 H locs hp_111 hP hS => ?_)
    refine lv_goto (tgt := 350) hx hb dX11_holds_311 (by decide) ?_
    refine lv_istore (lv' := [(7, .int r_110), (6, .int z_68), (5, .int z_8), (4, .int z_5), (3, .int z_2), (0, .ref vo), (1, .int vk), (2, .int vp)]) hx hb dX11_holds_350 hl (by decide) rfl (fun ls hl => ?_)
    refine lv_aload_n hx hb dX11_holds_352 rfl (lv_at hl 5 rfl) ?_
    refine gf_X11_98 hx hb hts hown hK hP 0 rfl rfl dX11_holds_353 ?_
    refine lv_iload_n hx hb dX11_holds_356 rfl (lv_at hl 4 rfl) ?_
    refine lv_iconst (v := 3) hx hb dX11_holds_357 (by decide) ?_
    refine lv_iadd hx hb dX11_holds_358 ?_
    refine lv_topi (fun z_112 ez_112 => ?_)
    have bz_112 : z_112.toInt = z_2.toInt + (3 : Int32).toInt := i_add ez_112 (by omega) (by omega)
    have hin_113 : vp_in z_112 575 := vp_in_iff.mpr ⟨by omega, by omega⟩
    refine va_iald hx hb hK hP 1 0 rfl rfl hin_113 dX11_holds_359 ?_
    refine lv_topi (fun z_114 ez_114 => ?_)
    refine lv_bipush (v := 60) hx hb dX11_holds_360 (by decide) ?_
    have k_60 : (60 : Int32).toInt = 60 := by decide
    refine lv_icmp_ne (tgt := 380) hx hb dX11_holds_362 (by decide) (fun c_115 => ?_) (fun c_115 => ?_)
    · skip
      have c_115 : ¬ (z_114.toInt = (60 : Int32).toInt) := fun h9 => c_115 (i_eq.mpr h9)
      refine lv_aload_n hx hb dX11_holds_380 rfl (lv_at hl 5 rfl) ?_
      refine gf_X11_98 hx hb hts hown hK hP 0 rfl rfl dX11_holds_381 ?_
      refine lv_iload_n hx hb dX11_holds_384 rfl (lv_at hl 4 rfl) ?_
      refine lv_iconst (v := 3) hx hb dX11_holds_385 (by decide) ?_
      refine lv_iadd hx hb dX11_holds_386 ?_
      refine lv_topi (fun z_116 ez_116 => ?_)
      have bz_116 : z_116.toInt = z_2.toInt + (3 : Int32).toInt := i_add ez_116 (by omega) (by omega)
      have hin_117 : vp_in z_116 575 := vp_in_iff.mpr ⟨by omega, by omega⟩
      refine va_iald hx hb hK hP 1 0 rfl rfl hin_117 dX11_holds_387 ?_
      refine lv_topi (fun z_118 ez_118 => ?_)
      refine lv_bipush (v := 61) hx hb dX11_holds_388 (by decide) ?_
      have k_61 : (61 : Int32).toInt = 61 := by decide
      refine lv_icmp_ne (tgt := 408) hx hb dX11_holds_390 (by decide) (fun c_119 => ?_) (fun c_119 => ?_)
      · skip
        have c_119 : ¬ (z_118.toInt = (61 : Int32).toInt) := fun h9 => c_119 (i_eq.mpr h9)
        refine lv_iload hx hb dX11_holds_408 (lv_at hl 0 rfl) ?_
        refine lv_iload hx hb dX11_holds_410 (lv_at hl 2 rfl) ?_
        refine lv_icmp_le (tgt := 419) hx hb dX11_holds_412 (by decide) (fun c_120 => ?_) (fun c_120 => ?_)
        · skip
          have c_120 : r_110.toInt ≤ z_8.toInt := i_le.mp c_120
          refine lv_iconst (v := 0) hx hb dX11_holds_419 (by decide) ?_
          have k_0 : (0 : Int32).toInt = 0 := by decide
          rw [hQ9]
          exact re_z voth hx hb hr hlocks (Or.inl rfl) (show ((0 : Int32) = 0) ∨ ((0 : Int32) = 1) from (Or.inl rfl)) (hP.sub [0, 1] rfl) (hD.sub [0, 1] rfl rfl) hS dX11_holds_420
        · skip
          have c_120 : ¬ (r_110.toInt ≤ z_8.toInt) := fun h9 => c_120 (i_le.mpr h9)
          refine lv_iconst (v := 1) hx hb dX11_holds_415 (by decide) ?_
          refine lv_goto (tgt := 420) hx hb dX11_holds_416 (by decide) ?_
          rw [hQ9]
          exact re_z voth hx hb hr hlocks (Or.inr rfl) (show ((1 : Int32) = 0) ∨ ((1 : Int32) = 1) from (Or.inr (rfl))) (hP.sub [0, 1] rfl) (hD.sub [0, 1] rfl rfl) hS dX11_holds_420
      · skip
        have c_119 : z_118.toInt = (61 : Int32).toInt := i_eq.mp c_119
        refine lv_iload hx hb dX11_holds_393 (lv_at hl 0 rfl) ?_
        refine lv_iload hx hb dX11_holds_395 (lv_at hl 2 rfl) ?_
        refine lv_icmp_ne (tgt := 404) hx hb dX11_holds_397 (by decide) (fun c_121 => ?_) (fun c_121 => ?_)
        · skip
          have c_121 : ¬ (r_110.toInt = z_8.toInt) := fun h9 => c_121 (i_eq.mpr h9)
          refine lv_iconst (v := 0) hx hb dX11_holds_404 (by decide) ?_
          refine lv_goto (tgt := 420) hx hb dX11_holds_405 (by decide) ?_
          have k_0 : (0 : Int32).toInt = 0 := by decide
          rw [hQ9]
          exact re_z voth hx hb hr hlocks (Or.inl rfl) (show ((0 : Int32) = 0) ∨ ((0 : Int32) = 1) from (Or.inl rfl)) (hP.sub [0, 1] rfl) (hD.sub [0, 1] rfl rfl) hS dX11_holds_420
        · skip
          have c_121 : r_110.toInt = z_8.toInt := i_eq.mp c_121
          refine lv_iconst (v := 1) hx hb dX11_holds_400 (by decide) ?_
          refine lv_goto (tgt := 420) hx hb dX11_holds_401 (by decide) ?_
          rw [hQ9]
          exact re_z voth hx hb hr hlocks (Or.inr rfl) (show ((1 : Int32) = 0) ∨ ((1 : Int32) = 1) from (Or.inr (rfl))) (hP.sub [0, 1] rfl) (hD.sub [0, 1] rfl rfl) hS dX11_holds_420
    · skip
      have c_115 : z_114.toInt = (60 : Int32).toInt := i_eq.mp c_115
      refine lv_iload hx hb dX11_holds_365 (lv_at hl 0 rfl) ?_
      refine lv_iload hx hb dX11_holds_367 (lv_at hl 2 rfl) ?_
      refine lv_icmp_ge (tgt := 376) hx hb dX11_holds_369 (by decide) (fun c_122 => ?_) (fun c_122 => ?_)
      · skip
        have c_122 : z_8.toInt ≤ r_110.toInt := i_le.mp c_122
        refine lv_iconst (v := 0) hx hb dX11_holds_376 (by decide) ?_
        refine lv_goto (tgt := 420) hx hb dX11_holds_377 (by decide) ?_
        have k_0 : (0 : Int32).toInt = 0 := by decide
        rw [hQ9]
        exact re_z voth hx hb hr hlocks (Or.inl rfl) (show ((0 : Int32) = 0) ∨ ((0 : Int32) = 1) from (Or.inl rfl)) (hP.sub [0, 1] rfl) (hD.sub [0, 1] rfl rfl) hS dX11_holds_420
      · skip
        have c_122 : ¬ (z_8.toInt ≤ r_110.toInt) := fun h9 => c_122 (i_le.mpr h9)
        refine lv_iconst (v := 1) hx hb dX11_holds_372 (by decide) ?_
        refine lv_goto (tgt := 420) hx hb dX11_holds_373 (by decide) ?_
        rw [hQ9]
        exact re_z voth hx hb hr hlocks (Or.inr rfl) (show ((1 : Int32) = 0) ∨ ((1 : Int32) = 1) from (Or.inr (rfl))) (hP.sub [0, 1] rfl) (hD.sub [0, 1] rfl rfl) hS dX11_holds_420
abbrev O_m_holds_6 (cy : Nat → ClassId) (vnh : Nat → Int32) (vo : Nat) (voth : Int32) (vmt : Nat) (votp : Int32) (vosz : Int32) (volm : Int32) (voto : Int32) (vofr : Int32) (vokd : Int32) (vonu : Int32) (vosg : Int32) (vofa : Int32) (vopl : Int32) (vowd : Int64) (votd : Int32) (vmn : Nat) (vmr : Nat) (vmk : Nat) (vms : Nat) (vma : Nat) (vmm : Nat) (vmrn : Nat) (vmkn : Nat) (vmik : Nat) (vmon : Nat) (vosm : Int32) (vohp : Int32) (vmw : Nat) (vmf : Nat) (vmb : Nat) (vomb : Int32) (vmd : Nat) (vmc : Nat) (vocm : Int32) (voct : Int32) (vocy : Int32) (vmx : Nat) (votx : Int32) (vose : Int32) (vml : Nat) (vmwr : Nat) (voln : Int32) (vohw : Int32) (vmno : Nat) (vond : Int32) (voon : Int32) (vowi : Int32) (votop : Int32) (vmnf : Nat → Int32) (vk : Int32) (vp : Int32) (u : Int32) : va_W := [(vo, .inr (12, [.int u, .ref vmt, .int votp, .int vosz, .int volm, .int voto, .int vofr, .int vokd, .int vonu, .int vosg, .int vofa, .int vopl, .long vowd, .int votd, .ref vmn, .ref vmr, .ref vmk, .ref vms, .ref vma, .ref vmm, .ref vmrn, .ref vmkn, .ref vmik, .ref vmon, .int vosm, .int vohp, .ref vmw, .ref vmf, .ref vmb, .int vomb, .ref vmd, .ref vmc, .int vocm, .int voct, .int vocy, .ref vmx, .int votx, .int vose, .ref vml, .ref vmwr, .int voln, .int vohw, .ref vmno, .int vond, .int voon, .int vowi, .int votop])), (vmn, .inl (cy 0, 575, .inl vmnf))]
set_option maxHeartbeats 4000000 in
set_option maxRecDepth 100000 in
theorem m_holds_6 (l : Launch) (dC : Nat → ClassId) (dI : Nat → Nat → Nat) (cy : Nat → ClassId) (sz : Nat) (vnh : Nat → Int32) (vo : Nat) (voth : Int32) (vmt : Nat) (votp : Int32) (vosz : Int32) (volm : Int32) (voto : Int32) (vofr : Int32) (vokd : Int32) (vonu : Int32) (vosg : Int32) (vofa : Int32) (vopl : Int32) (vowd : Int64) (votd : Int32) (vmn : Nat) (vmr : Nat) (vmk : Nat) (vms : Nat) (vma : Nat) (vmm : Nat) (vmrn : Nat) (vmkn : Nat) (vmik : Nat) (vmon : Nat) (vosm : Int32) (vohp : Int32) (vmw : Nat) (vmf : Nat) (vmb : Nat) (vomb : Int32) (vmd : Nat) (vmc : Nat) (vocm : Int32) (voct : Int32) (vocy : Int32) (vmx : Nat) (votx : Int32) (vose : Int32) (vml : Nat) (vmwr : Nat) (voln : Int32) (vohw : Int32) (vmno : Nat) (vond : Int32) (voon : Int32) (vowi : Int32) (votop : Int32) (vmnf : Nat → Int32) (vk : Int32) (vp : Int32) (r_vk : 0 ≤ (vk : Int32).toInt ∧ (vk : Int32).toInt ≤ 6) (r_vp : 0 ≤ (vp : Int32).toInt ∧ (vp : Int32).toInt ≤ 6) (p_vmnf : NW vnh vmnf) : Met l yX11_holds (wl yX11_holds cX11_holds 8 (some .boolean)) ({ frames := 12, cells := 0, slots := 0, locals := 768 }) (Pw (dC, dI) vwCl cy [(vo, .inr (12, [.int voth, .ref vmt, .int votp, .int vosz, .int volm, .int voto, .int vofr, .int vokd, .int vonu, .int vosg, .int vofa, .int vopl, .long vowd, .int votd, .ref vmn, .ref vmr, .ref vmk, .ref vms, .ref vma, .ref vmm, .ref vmrn, .ref vmkn, .ref vmik, .ref vmon, .int vosm, .int vohp, .ref vmw, .ref vmf, .ref vmb, .int vomb, .ref vmd, .ref vmc, .int vocm, .int voct, .int vocy, .ref vmx, .int votx, .int vose, .ref vml, .ref vmwr, .int voln, .int vohw, .ref vmno, .int vond, .int voon, .int vowi, .int votop])), (vmn, .inl (cy 0, 575, .inl vmnf))] sz [.ref vo, .int vk, .int vp] nE) (Qi (dC, dI) vwCl (fun (r : Int32) (u : Int32) => ((r = 0) ∨ (r = 1))) (O_m_holds_6 cy vnh vo voth vmt votp vosz volm voto vofr vokd vonu vosg vofa vopl vowd votd vmn vmr vmk vms vma vmm vmrn vmkn vmik vmon vosm vohp vmw vmf vmb vomb vmd vmc vocm voct vocy vmx votx vose vml vmwr voln vohw vmno vond voon vowi votop vmnf vk vp) (va_A [(vo, .inr (12, [.int voth, .ref vmt, .int votp, .int vosz, .int volm, .int voto, .int vofr, .int vokd, .int vonu, .int vosg, .int vofa, .int vopl, .long vowd, .int votd, .ref vmn, .ref vmr, .ref vmk, .ref vms, .ref vma, .ref vmm, .ref vmrn, .ref vmkn, .ref vmik, .ref vmon, .int vosm, .int vohp, .ref vmw, .ref vmf, .ref vmb, .int vomb, .ref vmd, .ref vmc, .int vocm, .int voct, .int vocy, .ref vmx, .int votx, .int vose, .ref vml, .ref vmwr, .int voln, .int vohw, .ref vmno, .int vond, .int voon, .int vowi, .int votop])), (vmn, .inl (cy 0, 575, .inl vmnf))] sz)) 0 0 (va_A [(vo, .inr (12, [.int voth, .ref vmt, .int votp, .int vosz, .int volm, .int voto, .int vofr, .int vokd, .int vonu, .int vosg, .int vofa, .int vopl, .long vowd, .int votd, .ref vmn, .ref vmr, .ref vmk, .ref vms, .ref vma, .ref vmm, .ref vmrn, .ref vmkn, .ref vmik, .ref vmon, .int vosm, .int vohp, .ref vmw, .ref vmf, .ref vmb, .int vomb, .ref vmd, .ref vmc, .int vocm, .int voct, .int vocy, .ref vmx, .int votx, .int vose, .ref vml, .ref vmwr, .int voln, .int vohw, .ref vmno, .int vond, .int voon, .int vowi, .int votop])), (vmn, .inl (cy 0, 575, .inl vmnf))] sz) := by
  refine mw (Qc := Qi (dC, dI) vwCl (fun (r : Int32) (u : Int32) => ((r = 0) ∨ (r = 1))) (O_m_holds_6 cy vnh vo voth vmt votp vosz volm voto vofr vokd vonu vosg vofa vopl vowd votd vmn vmr vmk vms vma vmm vmrn vmkn vmik vmon vosm vohp vmw vmf vmb vomb vmd vmc vocm voct vocy vmx votx vose vml vmwr voln vohw vmno vond voon vowi votop vmnf vk vp)) RX11 rfl (by decide +kernel) (Nat.le_of_ble_eq_true rfl) ?_
  intro p e s m below meth c A hx hb hr hlocks av9 hav hts hown hnm hml hK hP hD hA hS hE hAe Q9 hQ9 ls hl
  have hl : lv_has ls 8 [(0, .ref vo), (1, .int vk), (2, .int vp)] := hl
  refine lv_sipush (v := 335) hx hb dX11_holds_0 (by decide) ?_
  refine lv_iconst (v := 4) hx hb dX11_holds_3 (by decide) ?_
  refine lv_iload_n hx hb dX11_holds_4 rfl (lv_at hl 1 rfl) ?_
  refine lv_imul hx hb dX11_holds_5 ?_
  refine lv_topi (fun z_1 ez_1 => ?_)
  have k_4 : (4 : Int32).toInt = 4 := by decide
  have bz_1 : z_1.toInt = vk.toInt * 4 := i_cmul k_4 ez_1 (by omega) (by omega)
  refine lv_iadd hx hb dX11_holds_6 ?_
  refine lv_topi (fun z_2 ez_2 => ?_)
  have k_335 : (335 : Int32).toInt = 335 := by decide
  have bz_2 : z_2.toInt = (335 : Int32).toInt + z_1.toInt := i_add ez_2 (by omega) (by omega)
  refine lv_istore_n (lv' := [(3, .int z_2), (0, .ref vo), (1, .int vk), (2, .int vp)]) hx hb dX11_holds_7 rfl hl (by decide) rfl (fun ls hl => ?_)
  refine lv_aload_n hx hb dX11_holds_8 rfl (lv_at hl 1 rfl) ?_
  refine gf_X11_98 hx hb hts hown hK hP 0 rfl rfl dX11_holds_9 ?_
  refine lv_iload_n hx hb dX11_holds_12 rfl (lv_at hl 0 rfl) ?_
  refine lv_iconst (v := 1) hx hb dX11_holds_13 (by decide) ?_
  refine lv_iadd hx hb dX11_holds_14 ?_
  refine lv_topi (fun z_3 ez_3 => ?_)
  have k_1 : (1 : Int32).toInt = 1 := by decide
  have bz_3 : z_3.toInt = z_2.toInt + (1 : Int32).toInt := i_add ez_3 (by omega) (by omega)
  have hin_4 : vp_in z_3 575 := vp_in_iff.mpr ⟨by omega, by omega⟩
  refine va_iald hx hb hK hP 1 0 rfl rfl hin_4 dX11_holds_15 ?_
  refine lv_topi (fun z_5 ez_5 => ?_)
  refine lv_istore (lv' := [(4, .int z_5), (3, .int z_2), (0, .ref vo), (1, .int vk), (2, .int vp)]) hx hb dX11_holds_16 hl (by decide) rfl (fun ls hl => ?_)
  refine lv_aload_n hx hb dX11_holds_18 rfl (lv_at hl 2 rfl) ?_
  refine gf_X11_98 hx hb hts hown hK hP 0 rfl rfl dX11_holds_19 ?_
  refine lv_iload_n hx hb dX11_holds_22 rfl (lv_at hl 1 rfl) ?_
  refine lv_iconst (v := 2) hx hb dX11_holds_23 (by decide) ?_
  refine lv_iadd hx hb dX11_holds_24 ?_
  refine lv_topi (fun z_6 ez_6 => ?_)
  have k_2 : (2 : Int32).toInt = 2 := by decide
  have bz_6 : z_6.toInt = z_2.toInt + (2 : Int32).toInt := i_add ez_6 (by omega) (by omega)
  have hin_7 : vp_in z_6 575 := vp_in_iff.mpr ⟨by omega, by omega⟩
  refine va_iald hx hb hK hP 1 0 rfl rfl hin_7 dX11_holds_25 ?_
  refine lv_topi (fun z_8 ez_8 => ?_)
  refine lv_istore (lv' := [(5, .int z_8), (4, .int z_5), (3, .int z_2), (0, .ref vo), (1, .int vk), (2, .int vp)]) hx hb dX11_holds_26 hl (by decide) rfl (fun ls hl => ?_)
  refine lv_aload_n hx hb dX11_holds_28 rfl (lv_at hl 3 rfl) ?_
  refine gf_X11_98 hx hb hts hown hK hP 0 rfl rfl dX11_holds_29 ?_
  refine lv_iload_n hx hb dX11_holds_32 rfl (lv_at hl 2 rfl) ?_
  have hin_9 : vp_in z_2 575 := vp_in_iff.mpr ⟨by omega, by omega⟩
  refine va_iald hx hb hK hP 1 0 rfl rfl hin_9 dX11_holds_33 ?_
  refine lv_topi (fun z_10 ez_10 => ?_)
  obtain ⟨hA1, hA2, hA3, hA4⟩ := NW.node p_vmnf (k := vk) ⟨by omega, by omega⟩ (i1 := z_3) (by omega) ez_5 (i2 := z_6) (by omega) ez_8 (i0 := z_2) (by omega) ez_10
  have k_3 : (3 : Int32).toInt = 3 := by decide
  have k_68 : (68 : Int32).toInt = 68 := by decide
  have k_69 : (69 : Int32).toInt = 69 := by decide
  have k_70 : (70 : Int32).toInt = 70 := by decide
  have k_71 : (71 : Int32).toInt = 71 := by decide
  have k_72 : (72 : Int32).toInt = 72 := by decide
  have k_73 : (73 : Int32).toInt = 73 := by decide
  have k_74 : (74 : Int32).toInt = 74 := by decide
  by_cases sw_11_1 : z_10.toInt = 1
  · refine as_i 1 (i_eq.mpr (sw_11_1.trans k_1.symm)) ?_
    refine lv_lookup (off := 90) (tgt := 124) hx hb dX11_holds_34 (by decide) (by decide) (by decide) ?_
    have hB := hA1 (by omega)
    refine lv_aload_n hx hb dX11_holds_124 rfl (lv_at hl 3 rfl) ?_
    refine lv_iload hx hb dX11_holds_125 (lv_at hl 1 rfl) ?_
    refine lv_iload_n hx hb dX11_holds_127 rfl (lv_at hl 5 rfl) ?_
    refine jn_i (wr := []) (rV (As := [.int z_5, .int vp]) (rest := []) (ci := 12) ⟨hx, hb, hml, hown, hts⟩ (m_holds_5 l dC dI cy _ vnh vo voth vmt votp vosz volm voto vofr vokd vonu vosg vofa vopl vowd votd vmn vmr vmk vms vma vmm vmrn vmkn vmik vmon vosm vohp vmw vmf vmb vomb vmd vmc vocm voct vocy vmx votx vose vml vmwr voln vohw vmno vond voon vowi votop vmnf z_5 vp ⟨by omega, by omega⟩ r_vp p_vmnf) (cw_X11_438 hts rfl rfl ⟨Nat.le_of_ble_eq_true rfl, Nat.le_of_ble_eq_true rfl⟩) hP hD hK [0, 1] rfl rfl rfl rfl bl0 e0 rfl hl.1 rfl (Nat.le_of_ble_eq_true rfl) dX11_holds_128 ⟨Nat.le_of_ble_eq_true rfl, Nat.le_of_ble_eq_true rfl⟩) hP hD hS hA [0, 1] [] rfl rfl rfl (by decide) (fun r_12 u_14 H locs hp_13 hP hD hS => ?_)
    obtain ⟨voth_15, rfl⟩ : ∃ z, z = u_14 := ⟨_, rfl⟩
    have hp_13 : ((r_12 = 0) ∨ (r_12 = 1)) := hp_13
    have q_16 := hp_13
    have hP : va_P (dC, dI) vwCl [(vo, .inr (12, [.int voth_15, .ref vmt, .int votp, .int vosz, .int volm, .int voto, .int vofr, .int vokd, .int vonu, .int vosg, .int vofa, .int vopl, .long vowd, .int votd, .ref vmn, .ref vmr, .ref vmk, .ref vms, .ref vma, .ref vmm, .ref vmrn, .ref vmkn, .ref vmik, .ref vmon, .int vosm, .int vohp, .ref vmw, .ref vmf, .ref vmb, .int vomb, .ref vmd, .ref vmc, .int vocm, .int voct, .int vocy, .ref vmx, .int votx, .int vose, .ref vml, .ref vmwr, .int voln, .int vohw, .ref vmno, .int vond, .int voon, .int vowi, .int votop])), (vmn, .inl (cy 0, 575, .inl vmnf))] H := hP
    have hD : va_D A [(vo, .inr (12, [.int voth_15, .ref vmt, .int votp, .int vosz, .int volm, .int voto, .int vofr, .int vokd, .int vonu, .int vosg, .int vofa, .int vopl, .long vowd, .int votd, .ref vmn, .ref vmr, .ref vmk, .ref vms, .ref vma, .ref vmm, .ref vmrn, .ref vmkn, .ref vmik, .ref vmon, .int vosm, .int vohp, .ref vmw, .ref vmf, .ref vmb, .int vomb, .ref vmd, .ref vmc, .int vocm, .int voct, .int vocy, .ref vmx, .int votx, .int vose, .ref vml, .ref vmwr, .int voln, .int vohw, .ref vmno, .int vond, .int voon, .int vowi, .int votop])), (vmn, .inl (cy 0, 575, .inl vmnf))] := hD
    rcases q_16 with aq_16 | aq_16
    · skip
      refine as_i 0 aq_16 ?_
      refine lv_if_ne (tgt := 138) hx hb dX11_holds_131 (by decide) (fun c9 => absurd c9 (by decide)) (fun _ => ?_)
      refine lv_iconst (v := 1) hx hb dX11_holds_134 (by decide) ?_
      refine lv_goto (tgt := 139) hx hb dX11_holds_135 (by decide) ?_
      rw [hQ9]
      exact re_z voth_15 hx hb hr hlocks (Or.inr rfl) (show ((1 : Int32) = 0) ∨ ((1 : Int32) = 1) from (Or.inr (rfl))) (hP.sub [0, 1] rfl) (hD.sub [0, 1] rfl rfl) hS dX11_holds_139
    · skip
      refine as_i 1 aq_16 ?_
      refine lv_if_ne (tgt := 138) hx hb dX11_holds_131 (by decide) (fun _ => ?_) (fun c9 => absurd c9 (by decide))
      refine lv_iconst (v := 0) hx hb dX11_holds_138 (by decide) ?_
      have k_0 : (0 : Int32).toInt = 0 := by decide
      rw [hQ9]
      exact re_z voth_15 hx hb hr hlocks (Or.inl rfl) (show ((0 : Int32) = 0) ∨ ((0 : Int32) = 1) from (Or.inl rfl)) (hP.sub [0, 1] rfl) (hD.sub [0, 1] rfl rfl) hS dX11_holds_139
  by_cases sw_11_2 : z_10.toInt = 2
  · refine as_i 2 (i_eq.mpr (sw_11_2.trans k_2.symm)) ?_
    refine lv_lookup (off := 106) (tgt := 140) hx hb dX11_holds_34 (by decide) (by decide) (by decide) ?_
    have hB := hA2 (by omega)
    refine lv_aload_n hx hb dX11_holds_140 rfl (lv_at hl 3 rfl) ?_
    refine lv_iload hx hb dX11_holds_141 (lv_at hl 1 rfl) ?_
    refine lv_iload_n hx hb dX11_holds_143 rfl (lv_at hl 5 rfl) ?_
    refine jn_i (wr := []) (rV (As := [.int z_5, .int vp]) (rest := []) (ci := 12) ⟨hx, hb, hml, hown, hts⟩ (m_holds_5 l dC dI cy _ vnh vo voth vmt votp vosz volm voto vofr vokd vonu vosg vofa vopl vowd votd vmn vmr vmk vms vma vmm vmrn vmkn vmik vmon vosm vohp vmw vmf vmb vomb vmd vmc vocm voct vocy vmx votx vose vml vmwr voln vohw vmno vond voon vowi votop vmnf z_5 vp ⟨by omega, by omega⟩ r_vp p_vmnf) (cw_X11_438 hts rfl rfl ⟨Nat.le_of_ble_eq_true rfl, Nat.le_of_ble_eq_true rfl⟩) hP hD hK [0, 1] rfl rfl rfl rfl bl0 e0 rfl hl.1 rfl (Nat.le_of_ble_eq_true rfl) dX11_holds_144 ⟨Nat.le_of_ble_eq_true rfl, Nat.le_of_ble_eq_true rfl⟩) hP hD hS hA [0, 1] [] rfl rfl rfl (by decide) (fun r_17 u_19 H locs hp_18 hP hD hS => ?_)
    obtain ⟨voth_20, rfl⟩ : ∃ z, z = u_19 := ⟨_, rfl⟩
    have hp_18 : ((r_17 = 0) ∨ (r_17 = 1)) := hp_18
    have q_21 := hp_18
    have hP : va_P (dC, dI) vwCl [(vo, .inr (12, [.int voth_20, .ref vmt, .int votp, .int vosz, .int volm, .int voto, .int vofr, .int vokd, .int vonu, .int vosg, .int vofa, .int vopl, .long vowd, .int votd, .ref vmn, .ref vmr, .ref vmk, .ref vms, .ref vma, .ref vmm, .ref vmrn, .ref vmkn, .ref vmik, .ref vmon, .int vosm, .int vohp, .ref vmw, .ref vmf, .ref vmb, .int vomb, .ref vmd, .ref vmc, .int vocm, .int voct, .int vocy, .ref vmx, .int votx, .int vose, .ref vml, .ref vmwr, .int voln, .int vohw, .ref vmno, .int vond, .int voon, .int vowi, .int votop])), (vmn, .inl (cy 0, 575, .inl vmnf))] H := hP
    have hD : va_D A [(vo, .inr (12, [.int voth_20, .ref vmt, .int votp, .int vosz, .int volm, .int voto, .int vofr, .int vokd, .int vonu, .int vosg, .int vofa, .int vopl, .long vowd, .int votd, .ref vmn, .ref vmr, .ref vmk, .ref vms, .ref vma, .ref vmm, .ref vmrn, .ref vmkn, .ref vmik, .ref vmon, .int vosm, .int vohp, .ref vmw, .ref vmf, .ref vmb, .int vomb, .ref vmd, .ref vmc, .int vocm, .int voct, .int vocy, .ref vmx, .int votx, .int vose, .ref vml, .ref vmwr, .int voln, .int vohw, .ref vmno, .int vond, .int voon, .int vowi, .int votop])), (vmn, .inl (cy 0, 575, .inl vmnf))] := hD
    rcases q_21 with aq_21 | aq_21
    · skip
      refine as_i 0 aq_21 ?_
      refine lv_if_eq (tgt := 164) hx hb dX11_holds_147 (by decide) (fun _ => ?_) (fun c9 => absurd (by decide) c9)
      refine lv_iconst (v := 0) hx hb dX11_holds_164 (by decide) ?_
      have k_0 : (0 : Int32).toInt = 0 := by decide
      rw [hQ9]
      exact re_z voth_20 hx hb hr hlocks (Or.inl rfl) (show ((0 : Int32) = 0) ∨ ((0 : Int32) = 1) from (Or.inl rfl)) (hP.sub [0, 1] rfl) (hD.sub [0, 1] rfl rfl) hS dX11_holds_165
    · skip
      refine as_i 1 aq_21 ?_
      refine lv_if_eq (tgt := 164) hx hb dX11_holds_147 (by decide) (fun c9 => absurd c9 (by decide)) (fun _ => ?_)
      refine lv_aload_n hx hb dX11_holds_150 rfl (lv_at hl 3 rfl) ?_
      refine lv_iload hx hb dX11_holds_151 (lv_at hl 0 rfl) ?_
      refine lv_iload_n hx hb dX11_holds_153 rfl (lv_at hl 5 rfl) ?_
      refine jn_i (wr := []) (rV (As := [.int z_8, .int vp]) (rest := []) (ci := 12) ⟨hx, hb, hml, hown, hts⟩ (m_holds_5 l dC dI cy _ vnh vo voth_20 vmt votp vosz volm voto vofr vokd vonu vosg vofa vopl vowd votd vmn vmr vmk vms vma vmm vmrn vmkn vmik vmon vosm vohp vmw vmf vmb vomb vmd vmc vocm voct vocy vmx votx vose vml vmwr voln vohw vmno vond voon vowi votop vmnf z_8 vp ⟨by omega, by omega⟩ r_vp p_vmnf) (cw_X11_438 hts rfl rfl ⟨Nat.le_of_ble_eq_true rfl, Nat.le_of_ble_eq_true rfl⟩) hP hD hK [0, 1] rfl rfl rfl rfl bl0 e0 rfl hl.1 rfl (Nat.le_of_ble_eq_true rfl) dX11_holds_154 ⟨Nat.le_of_ble_eq_true rfl, Nat.le_of_ble_eq_true rfl⟩) hP hD hS hA [0, 1] [] rfl rfl rfl (by decide) (fun r_22 u_24 H locs hp_23 hP hD hS => ?_)
      obtain ⟨voth_25, rfl⟩ : ∃ z, z = u_24 := ⟨_, rfl⟩
      have hp_23 : ((r_22 = 0) ∨ (r_22 = 1)) := hp_23
      have q_26 := hp_23
      have hP : va_P (dC, dI) vwCl [(vo, .inr (12, [.int voth_25, .ref vmt, .int votp, .int vosz, .int volm, .int voto, .int vofr, .int vokd, .int vonu, .int vosg, .int vofa, .int vopl, .long vowd, .int votd, .ref vmn, .ref vmr, .ref vmk, .ref vms, .ref vma, .ref vmm, .ref vmrn, .ref vmkn, .ref vmik, .ref vmon, .int vosm, .int vohp, .ref vmw, .ref vmf, .ref vmb, .int vomb, .ref vmd, .ref vmc, .int vocm, .int voct, .int vocy, .ref vmx, .int votx, .int vose, .ref vml, .ref vmwr, .int voln, .int vohw, .ref vmno, .int vond, .int voon, .int vowi, .int votop])), (vmn, .inl (cy 0, 575, .inl vmnf))] H := hP
      have hD : va_D A [(vo, .inr (12, [.int voth_25, .ref vmt, .int votp, .int vosz, .int volm, .int voto, .int vofr, .int vokd, .int vonu, .int vosg, .int vofa, .int vopl, .long vowd, .int votd, .ref vmn, .ref vmr, .ref vmk, .ref vms, .ref vma, .ref vmm, .ref vmrn, .ref vmkn, .ref vmik, .ref vmon, .int vosm, .int vohp, .ref vmw, .ref vmf, .ref vmb, .int vomb, .ref vmd, .ref vmc, .int vocm, .int voct, .int vocy, .ref vmx, .int votx, .int vose, .ref vml, .ref vmwr, .int voln, .int vohw, .ref vmno, .int vond, .int voon, .int vowi, .int votop])), (vmn, .inl (cy 0, 575, .inl vmnf))] := hD
      rcases q_26 with aq_26 | aq_26
      · skip
        refine as_i 0 aq_26 ?_
        refine lv_if_eq (tgt := 164) hx hb dX11_holds_157 (by decide) (fun _ => ?_) (fun c9 => absurd (by decide) c9)
        refine lv_iconst (v := 0) hx hb dX11_holds_164 (by decide) ?_
        have k_0 : (0 : Int32).toInt = 0 := by decide
        rw [hQ9]
        exact re_z voth_25 hx hb hr hlocks (Or.inl rfl) (show ((0 : Int32) = 0) ∨ ((0 : Int32) = 1) from (Or.inl rfl)) (hP.sub [0, 1] rfl) (hD.sub [0, 1] rfl rfl) hS dX11_holds_165
      · skip
        refine as_i 1 aq_26 ?_
        refine lv_if_eq (tgt := 164) hx hb dX11_holds_157 (by decide) (fun c9 => absurd c9 (by decide)) (fun _ => ?_)
        refine lv_iconst (v := 1) hx hb dX11_holds_160 (by decide) ?_
        refine lv_goto (tgt := 165) hx hb dX11_holds_161 (by decide) ?_
        rw [hQ9]
        exact re_z voth_25 hx hb hr hlocks (Or.inr rfl) (show ((1 : Int32) = 0) ∨ ((1 : Int32) = 1) from (Or.inr (rfl))) (hP.sub [0, 1] rfl) (hD.sub [0, 1] rfl rfl) hS dX11_holds_165
  by_cases sw_11_3 : z_10.toInt = 3
  · refine as_i 3 (i_eq.mpr (sw_11_3.trans k_3.symm)) ?_
    refine lv_lookup (off := 132) (tgt := 166) hx hb dX11_holds_34 (by decide) (by decide) (by decide) ?_
    have hB := hA3 (by omega)
    refine lv_aload_n hx hb dX11_holds_166 rfl (lv_at hl 3 rfl) ?_
    refine lv_iload hx hb dX11_holds_167 (lv_at hl 1 rfl) ?_
    refine lv_iload_n hx hb dX11_holds_169 rfl (lv_at hl 5 rfl) ?_
    refine jn_i (wr := []) (rV (As := [.int z_5, .int vp]) (rest := []) (ci := 12) ⟨hx, hb, hml, hown, hts⟩ (m_holds_5 l dC dI cy _ vnh vo voth vmt votp vosz volm voto vofr vokd vonu vosg vofa vopl vowd votd vmn vmr vmk vms vma vmm vmrn vmkn vmik vmon vosm vohp vmw vmf vmb vomb vmd vmc vocm voct vocy vmx votx vose vml vmwr voln vohw vmno vond voon vowi votop vmnf z_5 vp ⟨by omega, by omega⟩ r_vp p_vmnf) (cw_X11_438 hts rfl rfl ⟨Nat.le_of_ble_eq_true rfl, Nat.le_of_ble_eq_true rfl⟩) hP hD hK [0, 1] rfl rfl rfl rfl bl0 e0 rfl hl.1 rfl (Nat.le_of_ble_eq_true rfl) dX11_holds_170 ⟨Nat.le_of_ble_eq_true rfl, Nat.le_of_ble_eq_true rfl⟩) hP hD hS hA [0, 1] [] rfl rfl rfl (by decide) (fun r_27 u_29 H locs hp_28 hP hD hS => ?_)
    obtain ⟨voth_30, rfl⟩ : ∃ z, z = u_29 := ⟨_, rfl⟩
    have hp_28 : ((r_27 = 0) ∨ (r_27 = 1)) := hp_28
    have q_31 := hp_28
    have hP : va_P (dC, dI) vwCl [(vo, .inr (12, [.int voth_30, .ref vmt, .int votp, .int vosz, .int volm, .int voto, .int vofr, .int vokd, .int vonu, .int vosg, .int vofa, .int vopl, .long vowd, .int votd, .ref vmn, .ref vmr, .ref vmk, .ref vms, .ref vma, .ref vmm, .ref vmrn, .ref vmkn, .ref vmik, .ref vmon, .int vosm, .int vohp, .ref vmw, .ref vmf, .ref vmb, .int vomb, .ref vmd, .ref vmc, .int vocm, .int voct, .int vocy, .ref vmx, .int votx, .int vose, .ref vml, .ref vmwr, .int voln, .int vohw, .ref vmno, .int vond, .int voon, .int vowi, .int votop])), (vmn, .inl (cy 0, 575, .inl vmnf))] H := hP
    have hD : va_D A [(vo, .inr (12, [.int voth_30, .ref vmt, .int votp, .int vosz, .int volm, .int voto, .int vofr, .int vokd, .int vonu, .int vosg, .int vofa, .int vopl, .long vowd, .int votd, .ref vmn, .ref vmr, .ref vmk, .ref vms, .ref vma, .ref vmm, .ref vmrn, .ref vmkn, .ref vmik, .ref vmon, .int vosm, .int vohp, .ref vmw, .ref vmf, .ref vmb, .int vomb, .ref vmd, .ref vmc, .int vocm, .int voct, .int vocy, .ref vmx, .int votx, .int vose, .ref vml, .ref vmwr, .int voln, .int vohw, .ref vmno, .int vond, .int voon, .int vowi, .int votop])), (vmn, .inl (cy 0, 575, .inl vmnf))] := hD
    rcases q_31 with aq_31 | aq_31
    · skip
      refine as_i 0 aq_31 ?_
      refine lv_if_ne (tgt := 186) hx hb dX11_holds_173 (by decide) (fun c9 => absurd c9 (by decide)) (fun _ => ?_)
      refine lv_aload_n hx hb dX11_holds_176 rfl (lv_at hl 3 rfl) ?_
      refine lv_iload hx hb dX11_holds_177 (lv_at hl 0 rfl) ?_
      refine lv_iload_n hx hb dX11_holds_179 rfl (lv_at hl 5 rfl) ?_
      refine jn_i (wr := []) (rV (As := [.int z_8, .int vp]) (rest := []) (ci := 12) ⟨hx, hb, hml, hown, hts⟩ (m_holds_5 l dC dI cy _ vnh vo voth_30 vmt votp vosz volm voto vofr vokd vonu vosg vofa vopl vowd votd vmn vmr vmk vms vma vmm vmrn vmkn vmik vmon vosm vohp vmw vmf vmb vomb vmd vmc vocm voct vocy vmx votx vose vml vmwr voln vohw vmno vond voon vowi votop vmnf z_8 vp ⟨by omega, by omega⟩ r_vp p_vmnf) (cw_X11_438 hts rfl rfl ⟨Nat.le_of_ble_eq_true rfl, Nat.le_of_ble_eq_true rfl⟩) hP hD hK [0, 1] rfl rfl rfl rfl bl0 e0 rfl hl.1 rfl (Nat.le_of_ble_eq_true rfl) dX11_holds_180 ⟨Nat.le_of_ble_eq_true rfl, Nat.le_of_ble_eq_true rfl⟩) hP hD hS hA [0, 1] [] rfl rfl rfl (by decide) (fun r_32 u_34 H locs hp_33 hP hD hS => ?_)
      obtain ⟨voth_35, rfl⟩ : ∃ z, z = u_34 := ⟨_, rfl⟩
      have hp_33 : ((r_32 = 0) ∨ (r_32 = 1)) := hp_33
      have q_36 := hp_33
      have hP : va_P (dC, dI) vwCl [(vo, .inr (12, [.int voth_35, .ref vmt, .int votp, .int vosz, .int volm, .int voto, .int vofr, .int vokd, .int vonu, .int vosg, .int vofa, .int vopl, .long vowd, .int votd, .ref vmn, .ref vmr, .ref vmk, .ref vms, .ref vma, .ref vmm, .ref vmrn, .ref vmkn, .ref vmik, .ref vmon, .int vosm, .int vohp, .ref vmw, .ref vmf, .ref vmb, .int vomb, .ref vmd, .ref vmc, .int vocm, .int voct, .int vocy, .ref vmx, .int votx, .int vose, .ref vml, .ref vmwr, .int voln, .int vohw, .ref vmno, .int vond, .int voon, .int vowi, .int votop])), (vmn, .inl (cy 0, 575, .inl vmnf))] H := hP
      have hD : va_D A [(vo, .inr (12, [.int voth_35, .ref vmt, .int votp, .int vosz, .int volm, .int voto, .int vofr, .int vokd, .int vonu, .int vosg, .int vofa, .int vopl, .long vowd, .int votd, .ref vmn, .ref vmr, .ref vmk, .ref vms, .ref vma, .ref vmm, .ref vmrn, .ref vmkn, .ref vmik, .ref vmon, .int vosm, .int vohp, .ref vmw, .ref vmf, .ref vmb, .int vomb, .ref vmd, .ref vmc, .int vocm, .int voct, .int vocy, .ref vmx, .int votx, .int vose, .ref vml, .ref vmwr, .int voln, .int vohw, .ref vmno, .int vond, .int voon, .int vowi, .int votop])), (vmn, .inl (cy 0, 575, .inl vmnf))] := hD
      rcases q_36 with aq_36 | aq_36
      · skip
        refine as_i 0 aq_36 ?_
        refine lv_if_eq (tgt := 190) hx hb dX11_holds_183 (by decide) (fun _ => ?_) (fun c9 => absurd (by decide) c9)
        refine lv_iconst (v := 0) hx hb dX11_holds_190 (by decide) ?_
        have k_0 : (0 : Int32).toInt = 0 := by decide
        rw [hQ9]
        exact re_z voth_35 hx hb hr hlocks (Or.inl rfl) (show ((0 : Int32) = 0) ∨ ((0 : Int32) = 1) from (Or.inl rfl)) (hP.sub [0, 1] rfl) (hD.sub [0, 1] rfl rfl) hS dX11_holds_191
      · skip
        refine as_i 1 aq_36 ?_
        refine lv_if_eq (tgt := 190) hx hb dX11_holds_183 (by decide) (fun c9 => absurd c9 (by decide)) (fun _ => ?_)
        refine lv_iconst (v := 1) hx hb dX11_holds_186 (by decide) ?_
        refine lv_goto (tgt := 191) hx hb dX11_holds_187 (by decide) ?_
        rw [hQ9]
        exact re_z voth_35 hx hb hr hlocks (Or.inr rfl) (show ((1 : Int32) = 0) ∨ ((1 : Int32) = 1) from (Or.inr (rfl))) (hP.sub [0, 1] rfl) (hD.sub [0, 1] rfl rfl) hS dX11_holds_191
    · skip
      refine as_i 1 aq_31 ?_
      refine lv_if_ne (tgt := 186) hx hb dX11_holds_173 (by decide) (fun _ => ?_) (fun c9 => absurd c9 (by decide))
      refine lv_iconst (v := 1) hx hb dX11_holds_186 (by decide) ?_
      refine lv_goto (tgt := 191) hx hb dX11_holds_187 (by decide) ?_
      rw [hQ9]
      exact re_z voth_30 hx hb hr hlocks (Or.inr rfl) (show ((1 : Int32) = 0) ∨ ((1 : Int32) = 1) from (Or.inr (rfl))) (hP.sub [0, 1] rfl) (hD.sub [0, 1] rfl rfl) hS dX11_holds_191
  by_cases sw_11_68 : z_10.toInt = 68
  · refine as_i 68 (i_eq.mpr (sw_11_68.trans k_68.symm)) ?_
    refine lv_lookup (off := 158) (tgt := 192) hx hb dX11_holds_34 (by decide) (by decide) (by decide) ?_
    refine lv_aload_n hx hb dX11_holds_192 rfl (lv_at hl 3 rfl) ?_
    refine lv_iload_n hx hb dX11_holds_193 rfl (lv_at hl 5 rfl) ?_
    refine jr_i (rVr (As := [.int vp]) (rest := []) (ci := 12) ⟨hx, hb, hml, hown, hts⟩ (m_howOf l dC dI cy vnh vo voth vmt votp vosz volm voto vofr vokd vonu vosg vofa vopl vowd votd vmn vmr vmk vms vma vmm vmrn vmkn vmik vmon vosm vohp vmw vmf vmb vomb vmd vmc vocm voct vocy vmx votx vose vml vmwr voln vohw vmno vond voon vowi votop vmnf vp ⟨by omega, by omega⟩ p_vmnf) (cw_X11_256 hts rfl rfl ⟨Nat.le_of_ble_eq_true rfl, Nat.le_of_ble_eq_true rfl⟩) hP hK [0, 1] rfl rfl rfl rfl hl.1 rfl (Nat.le_of_ble_eq_true rfl) dX11_holds_194 ⟨Nat.le_of_ble_eq_true rfl, Nat.le_of_ble_eq_true rfl⟩) hP hS (fun r_37 H locs hp_38 hP hS => ?_)
    have hp_38 : (0 ≤ (r_37 : Int32).toInt ∧ (r_37 : Int32).toInt ≤ 2) := hp_38
    have q_39 := hp_38
    refine lv_iconst (v := 1) hx hb dX11_holds_197 (by decide) ?_
    refine lv_icmp_ne (tgt := 205) hx hb dX11_holds_198 (by decide) (fun c_40 => ?_) (fun c_40 => ?_)
    · skip
      have c_40 : ¬ (r_37.toInt = (1 : Int32).toInt) := fun h9 => c_40 (i_eq.mpr h9)
      refine lv_iconst (v := 0) hx hb dX11_holds_205 (by decide) ?_
      have k_0 : (0 : Int32).toInt = 0 := by decide
      rw [hQ9]
      exact re_z voth hx hb hr hlocks (Or.inl rfl) (show ((0 : Int32) = 0) ∨ ((0 : Int32) = 1) from (Or.inl rfl)) (hP.sub [0, 1] rfl) (hD.sub [0, 1] rfl rfl) hS dX11_holds_206
    · skip
      have c_40 : r_37.toInt = (1 : Int32).toInt := i_eq.mp c_40
      refine lv_iconst (v := 1) hx hb dX11_holds_201 (by decide) ?_
      refine lv_goto (tgt := 206) hx hb dX11_holds_202 (by decide) ?_
      rw [hQ9]
      exact re_z voth hx hb hr hlocks (Or.inr rfl) (show ((1 : Int32) = 0) ∨ ((1 : Int32) = 1) from (Or.inr (rfl))) (hP.sub [0, 1] rfl) (hD.sub [0, 1] rfl rfl) hS dX11_holds_206
  by_cases sw_11_69 : z_10.toInt = 69
  · refine as_i 69 (i_eq.mpr (sw_11_69.trans k_69.symm)) ?_
    refine lv_lookup (off := 173) (tgt := 207) hx hb dX11_holds_34 (by decide) (by decide) (by decide) ?_
    refine lv_aload_n hx hb dX11_holds_207 rfl (lv_at hl 3 rfl) ?_
    refine lv_iload_n hx hb dX11_holds_208 rfl (lv_at hl 5 rfl) ?_
    refine jr_i (rVr (As := [.int vp]) (rest := []) (ci := 12) ⟨hx, hb, hml, hown, hts⟩ (m_howOf l dC dI cy vnh vo voth vmt votp vosz volm voto vofr vokd vonu vosg vofa vopl vowd votd vmn vmr vmk vms vma vmm vmrn vmkn vmik vmon vosm vohp vmw vmf vmb vomb vmd vmc vocm voct vocy vmx votx vose vml vmwr voln vohw vmno vond voon vowi votop vmnf vp ⟨by omega, by omega⟩ p_vmnf) (cw_X11_256 hts rfl rfl ⟨Nat.le_of_ble_eq_true rfl, Nat.le_of_ble_eq_true rfl⟩) hP hK [0, 1] rfl rfl rfl rfl hl.1 rfl (Nat.le_of_ble_eq_true rfl) dX11_holds_209 ⟨Nat.le_of_ble_eq_true rfl, Nat.le_of_ble_eq_true rfl⟩) hP hS (fun r_41 H locs hp_42 hP hS => ?_)
    have hp_42 : (0 ≤ (r_41 : Int32).toInt ∧ (r_41 : Int32).toInt ≤ 2) := hp_42
    have q_43 := hp_42
    have k_0 : (0 : Int32).toInt = 0 := by decide
    refine lv_if_ne (tgt := 219) hx hb dX11_holds_212 (by decide) (fun c_44 => ?_) (fun c_44 => ?_)
    · skip
      have c_44 : ¬ (r_41.toInt = (0 : Int32).toInt) := fun h9 => c_44 (i_eq.mpr h9)
      refine lv_iconst (v := 0) hx hb dX11_holds_219 (by decide) ?_
      rw [hQ9]
      exact re_z voth hx hb hr hlocks (Or.inl rfl) (show ((0 : Int32) = 0) ∨ ((0 : Int32) = 1) from (Or.inl rfl)) (hP.sub [0, 1] rfl) (hD.sub [0, 1] rfl rfl) hS dX11_holds_220
    · skip
      have c_44 : r_41.toInt = (0 : Int32).toInt := i_eq.mp c_44
      refine lv_iconst (v := 1) hx hb dX11_holds_215 (by decide) ?_
      refine lv_goto (tgt := 220) hx hb dX11_holds_216 (by decide) ?_
      rw [hQ9]
      exact re_z voth hx hb hr hlocks (Or.inr rfl) (show ((1 : Int32) = 0) ∨ ((1 : Int32) = 1) from (Or.inr (rfl))) (hP.sub [0, 1] rfl) (hD.sub [0, 1] rfl rfl) hS dX11_holds_220
  by_cases sw_11_70 : z_10.toInt = 70
  · refine as_i 70 (i_eq.mpr (sw_11_70.trans k_70.symm)) ?_
    refine lv_lookup (off := 187) (tgt := 221) hx hb dX11_holds_34 (by decide) (by decide) (by decide) ?_
    refine lv_aload_n hx hb dX11_holds_221 rfl (lv_at hl 3 rfl) ?_
    refine lv_iload_n hx hb dX11_holds_222 rfl (lv_at hl 5 rfl) ?_
    refine jr_i (rVr (As := [.int vp]) (rest := []) (ci := 12) ⟨hx, hb, hml, hown, hts⟩ (m_howOf l dC dI cy vnh vo voth vmt votp vosz volm voto vofr vokd vonu vosg vofa vopl vowd votd vmn vmr vmk vms vma vmm vmrn vmkn vmik vmon vosm vohp vmw vmf vmb vomb vmd vmc vocm voct vocy vmx votx vose vml vmwr voln vohw vmno vond voon vowi votop vmnf vp ⟨by omega, by omega⟩ p_vmnf) (cw_X11_256 hts rfl rfl ⟨Nat.le_of_ble_eq_true rfl, Nat.le_of_ble_eq_true rfl⟩) hP hK [0, 1] rfl rfl rfl rfl hl.1 rfl (Nat.le_of_ble_eq_true rfl) dX11_holds_223 ⟨Nat.le_of_ble_eq_true rfl, Nat.le_of_ble_eq_true rfl⟩) hP hS (fun r_45 H locs hp_46 hP hS => ?_)
    have hp_46 : (0 ≤ (r_45 : Int32).toInt ∧ (r_45 : Int32).toInt ≤ 2) := hp_46
    have q_47 := hp_46
    refine lv_iconst (v := 2) hx hb dX11_holds_226 (by decide) ?_
    refine lv_icmp_ne (tgt := 234) hx hb dX11_holds_227 (by decide) (fun c_48 => ?_) (fun c_48 => ?_)
    · skip
      have c_48 : ¬ (r_45.toInt = (2 : Int32).toInt) := fun h9 => c_48 (i_eq.mpr h9)
      refine lv_iconst (v := 0) hx hb dX11_holds_234 (by decide) ?_
      have k_0 : (0 : Int32).toInt = 0 := by decide
      rw [hQ9]
      exact re_z voth hx hb hr hlocks (Or.inl rfl) (show ((0 : Int32) = 0) ∨ ((0 : Int32) = 1) from (Or.inl rfl)) (hP.sub [0, 1] rfl) (hD.sub [0, 1] rfl rfl) hS dX11_holds_235
    · skip
      have c_48 : r_45.toInt = (2 : Int32).toInt := i_eq.mp c_48
      refine lv_iconst (v := 1) hx hb dX11_holds_230 (by decide) ?_
      refine lv_goto (tgt := 235) hx hb dX11_holds_231 (by decide) ?_
      rw [hQ9]
      exact re_z voth hx hb hr hlocks (Or.inr rfl) (show ((1 : Int32) = 0) ∨ ((1 : Int32) = 1) from (Or.inr (rfl))) (hP.sub [0, 1] rfl) (hD.sub [0, 1] rfl rfl) hS dX11_holds_235
  by_cases sw_11_71 : z_10.toInt = 71
  · refine as_i 71 (i_eq.mpr (sw_11_71.trans k_71.symm)) ?_
    refine lv_lookup (off := 202) (tgt := 236) hx hb dX11_holds_34 (by decide) (by decide) (by decide) ?_
    refine lv_aload_n hx hb dX11_holds_236 rfl (lv_at hl 3 rfl) ?_
    refine gf_X11_98 hx hb hts hown hK hP 0 rfl rfl dX11_holds_237 ?_
    refine lv_sipush (v := 298) hx hb dX11_holds_240 (by decide) ?_
    refine lv_iload_n hx hb dX11_holds_243 rfl (lv_at hl 5 rfl) ?_
    refine lv_iadd hx hb dX11_holds_244 ?_
    refine lv_topi (fun z_49 ez_49 => ?_)
    have k_298 : (298 : Int32).toInt = 298 := by decide
    have bz_49 : z_49.toInt = (298 : Int32).toInt + vp.toInt := i_add ez_49 (by omega) (by omega)
    have hin_50 : vp_in z_49 575 := vp_in_iff.mpr ⟨by omega, by omega⟩
    refine va_iald hx hb hK hP 1 0 rfl rfl hin_50 dX11_holds_245 ?_
    refine lv_topi (fun z_51 ez_51 => ?_)
    have k_0 : (0 : Int32).toInt = 0 := by decide
    refine lv_if_le (tgt := 253) hx hb dX11_holds_246 (by decide) (fun c_52 => ?_) (fun c_52 => ?_)
    · skip
      have c_52 : z_51.toInt ≤ (0 : Int32).toInt := i_le.mp c_52
      refine lv_iconst (v := 0) hx hb dX11_holds_253 (by decide) ?_
      rw [hQ9]
      exact re_z voth hx hb hr hlocks (Or.inl rfl) (show ((0 : Int32) = 0) ∨ ((0 : Int32) = 1) from (Or.inl rfl)) (hP.sub [0, 1] rfl) (hD.sub [0, 1] rfl rfl) hS dX11_holds_254
    · skip
      have c_52 : ¬ (z_51.toInt ≤ (0 : Int32).toInt) := fun h9 => c_52 (i_le.mpr h9)
      refine lv_iconst (v := 1) hx hb dX11_holds_249 (by decide) ?_
      refine lv_goto (tgt := 254) hx hb dX11_holds_250 (by decide) ?_
      rw [hQ9]
      exact re_z voth hx hb hr hlocks (Or.inr rfl) (show ((1 : Int32) = 0) ∨ ((1 : Int32) = 1) from (Or.inr (rfl))) (hP.sub [0, 1] rfl) (hD.sub [0, 1] rfl rfl) hS dX11_holds_254
  by_cases sw_11_72 : z_10.toInt = 72
  · refine as_i 72 (i_eq.mpr (sw_11_72.trans k_72.symm)) ?_
    refine lv_lookup (off := 221) (tgt := 255) hx hb dX11_holds_34 (by decide) (by decide) (by decide) ?_
    refine lv_aload_n hx hb dX11_holds_255 rfl (lv_at hl 3 rfl) ?_
    refine lv_iload_n hx hb dX11_holds_256 rfl (lv_at hl 5 rfl) ?_
    refine jr_i (rVr (As := [.int vp]) (rest := []) (ci := 12) ⟨hx, hb, hml, hown, hts⟩ (m_lends l dC dI cy vnh vo voth vmt votp vosz volm voto vofr vokd vonu vosg vofa vopl vowd votd vmn vmr vmk vms vma vmm vmrn vmkn vmik vmon vosm vohp vmw vmf vmb vomb vmd vmc vocm voct vocy vmx votx vose vml vmwr voln vohw vmno vond voon vowi votop vmnf vp ⟨by omega, by omega⟩ p_vmnf) (cw_X11_265 hts rfl rfl ⟨Nat.le_of_ble_eq_true rfl, Nat.le_of_ble_eq_true rfl⟩) hP hK [0, 1] rfl rfl rfl rfl hl.1 rfl (Nat.le_of_ble_eq_true rfl) dX11_holds_257 ⟨Nat.le_of_ble_eq_true rfl, Nat.le_of_ble_eq_true rfl⟩) hP hS (fun r_53 H locs hp_54 hP hS => ?_)
    have hp_54 : ((r_53 = 0) ∨ (r_53 = 1)) := hp_54
    have q_55 := hp_54
    rcases q_55 with aq_55 | aq_55
    · skip
      refine as_i 0 aq_55 ?_
      have k_0 : (0 : Int32).toInt = 0 := by decide
      rw [hQ9]
      exact re_z voth hx hb hr hlocks (Or.inl rfl) (show ((0 : Int32) = 0) ∨ ((0 : Int32) = 1) from (Or.inl rfl)) (hP.sub [0, 1] rfl) (hD.sub [0, 1] rfl rfl) hS dX11_holds_260
    · skip
      refine as_i 1 aq_55 ?_
      rw [hQ9]
      exact re_z voth hx hb hr hlocks (Or.inr rfl) (show ((1 : Int32) = 0) ∨ ((1 : Int32) = 1) from (Or.inr (rfl))) (hP.sub [0, 1] rfl) (hD.sub [0, 1] rfl rfl) hS dX11_holds_260
  by_cases sw_11_73 : z_10.toInt = 73
  · refine as_i 73 (i_eq.mpr (sw_11_73.trans k_73.symm)) ?_
    refine lv_lookup (off := 227) (tgt := 261) hx hb dX11_holds_34 (by decide) (by decide) (by decide) ?_
    have hB := hA4 (by omega)
    refine lv_aload_n hx hb dX11_holds_261 rfl (lv_at hl 3 rfl) ?_
    refine lv_iload_n hx hb dX11_holds_262 rfl (lv_at hl 5 rfl) ?_
    refine lv_iload hx hb dX11_holds_263 (lv_at hl 1 rfl) ?_
    refine jr_i (rVr (As := [.int vp, .int z_5]) (rest := []) (ci := 12) ⟨hx, hb, hml, hown, hts⟩ (m_didOf l dC dI cy vnh vo voth vmt votp vosz volm voto vofr vokd vonu vosg vofa vopl vowd votd vmn vmr vmk vms vma vmm vmrn vmkn vmik vmon vosm vohp vmw vmf vmb vomb vmd vmc vocm voct vocy vmx votx vose vml vmwr voln vohw vmno vond voon vowi votop vmnf vp z_5 ⟨by omega, by omega⟩ ⟨by omega, by omega⟩ p_vmnf) (cw_X11_228 hts rfl rfl ⟨Nat.le_of_ble_eq_true rfl, Nat.le_of_ble_eq_true rfl⟩) hP hK [0, 1] rfl rfl rfl rfl hl.1 rfl (Nat.le_of_ble_eq_true rfl) dX11_holds_265 ⟨Nat.le_of_ble_eq_true rfl, Nat.le_of_ble_eq_true rfl⟩) hP hS (fun r_56 H locs hp_57 hP hS => ?_)
    have k_0 : (0 : Int32).toInt = 0 := by decide
    refine lv_if_le (tgt := 275) hx hb dX11_holds_268 (by decide) (fun c_58 => ?_) (fun c_58 => ?_)
    · skip
      have c_58 : r_56.toInt ≤ (0 : Int32).toInt := i_le.mp c_58
      refine lv_iconst (v := 0) hx hb dX11_holds_275 (by decide) ?_
      rw [hQ9]
      exact re_z voth hx hb hr hlocks (Or.inl rfl) (show ((0 : Int32) = 0) ∨ ((0 : Int32) = 1) from (Or.inl rfl)) (hP.sub [0, 1] rfl) (hD.sub [0, 1] rfl rfl) hS dX11_holds_276
    · skip
      have c_58 : ¬ (r_56.toInt ≤ (0 : Int32).toInt) := fun h9 => c_58 (i_le.mpr h9)
      refine lv_iconst (v := 1) hx hb dX11_holds_271 (by decide) ?_
      refine lv_goto (tgt := 276) hx hb dX11_holds_272 (by decide) ?_
      rw [hQ9]
      exact re_z voth hx hb hr hlocks (Or.inr rfl) (show ((1 : Int32) = 0) ∨ ((1 : Int32) = 1) from (Or.inr (rfl))) (hP.sub [0, 1] rfl) (hD.sub [0, 1] rfl rfl) hS dX11_holds_276
  by_cases sw_11_74 : z_10.toInt = 74
  · refine as_i 74 (i_eq.mpr (sw_11_74.trans k_74.symm)) ?_
    refine lv_lookup (off := 243) (tgt := 277) hx hb dX11_holds_34 (by decide) (by decide) (by decide) ?_
    refine lv_aload_n hx hb dX11_holds_277 rfl (lv_at hl 3 rfl) ?_
    refine lv_iload hx hb dX11_holds_278 (lv_at hl 1 rfl) ?_
    refine jn_i (wr := []) (rV (As := [.int z_5]) (rest := []) (ci := 12) ⟨hx, hb, hml, hown, hts⟩ (m_family l dC dI cy _ vnh vo voth vmt votp vosz volm voto vofr vokd vonu vosg vofa vopl vowd votd vmn vmr vmk vms vma vmm vmrn vmkn vmik vmon vosm vohp vmw vmf vmb vomb vmd vmc vocm voct vocy vmx votx vose vml vmwr voln vohw vmno vond voon vowi votop vmnf z_5 p_vmnf) (cw_X11_441 hts rfl rfl ⟨Nat.le_of_ble_eq_true rfl, Nat.le_of_ble_eq_true rfl⟩) hP hD hK [0, 1] rfl rfl rfl rfl bl0 e0 rfl hl.1 rfl (Nat.le_of_ble_eq_true rfl) dX11_holds_280 ⟨Nat.le_of_ble_eq_true rfl, Nat.le_of_ble_eq_true rfl⟩) hP hD hS hA [0, 1] [] rfl rfl rfl (by decide) (fun r_59 u_61 H locs hp_60 hP hD hS => ?_)
    obtain ⟨voth_62, rfl⟩ : ∃ z, z = u_61 := ⟨_, rfl⟩
    have hP : va_P (dC, dI) vwCl [(vo, .inr (12, [.int voth_62, .ref vmt, .int votp, .int vosz, .int volm, .int voto, .int vofr, .int vokd, .int vonu, .int vosg, .int vofa, .int vopl, .long vowd, .int votd, .ref vmn, .ref vmr, .ref vmk, .ref vms, .ref vma, .ref vmm, .ref vmrn, .ref vmkn, .ref vmik, .ref vmon, .int vosm, .int vohp, .ref vmw, .ref vmf, .ref vmb, .int vomb, .ref vmd, .ref vmc, .int vocm, .int voct, .int vocy, .ref vmx, .int votx, .int vose, .ref vml, .ref vmwr, .int voln, .int vohw, .ref vmno, .int vond, .int voon, .int vowi, .int votop])), (vmn, .inl (cy 0, 575, .inl vmnf))] H := hP
    have hD : va_D A [(vo, .inr (12, [.int voth_62, .ref vmt, .int votp, .int vosz, .int volm, .int voto, .int vofr, .int vokd, .int vonu, .int vosg, .int vofa, .int vopl, .long vowd, .int votd, .ref vmn, .ref vmr, .ref vmk, .ref vms, .ref vma, .ref vmm, .ref vmrn, .ref vmkn, .ref vmik, .ref vmon, .int vosm, .int vohp, .ref vmw, .ref vmf, .ref vmb, .int vomb, .ref vmd, .ref vmc, .int vocm, .int voct, .int vocy, .ref vmx, .int votx, .int vose, .ref vml, .ref vmwr, .int voln, .int vohw, .ref vmno, .int vond, .int voon, .int vowi, .int votop])), (vmn, .inl (cy 0, 575, .inl vmnf))] := hD
    refine lv_iload_n hx hb dX11_holds_283 rfl (lv_at hl 5 rfl) ?_
    refine jr_i (rSr (As := [.int r_59, .int vp]) (rest := []) ⟨hx, hb, hml, hown, hts⟩ (m_has l dC dI cy r_59 vp ) (cw_X11_194 hts rfl rfl ⟨Nat.le_of_ble_eq_true rfl, Nat.le_of_ble_eq_true rfl⟩) hP hK [] rfl rfl hl.1 rfl (Nat.le_of_ble_eq_true rfl) dX11_holds_284 ⟨Nat.le_of_ble_eq_true rfl, Nat.le_of_ble_eq_true rfl⟩) hP hS (fun r_63 H locs hp_64 hP hS => ?_)
    have hp_64 : ((r_63 = 0) ∨ (r_63 = 1)) := hp_64
    have q_65 := hp_64
    rcases q_65 with aq_65 | aq_65
    · skip
      refine as_i 0 aq_65 ?_
      have k_0 : (0 : Int32).toInt = 0 := by decide
      rw [hQ9]
      exact re_z voth_62 hx hb hr hlocks (Or.inl rfl) (show ((0 : Int32) = 0) ∨ ((0 : Int32) = 1) from (Or.inl rfl)) (hP.sub [0, 1] rfl) (hD.sub [0, 1] rfl rfl) hS dX11_holds_287
    · skip
      refine as_i 1 aq_65 ?_
      rw [hQ9]
      exact re_z voth_62 hx hb hr hlocks (Or.inr rfl) (show ((1 : Int32) = 0) ∨ ((1 : Int32) = 1) from (Or.inr (rfl))) (hP.sub [0, 1] rfl) (hD.sub [0, 1] rfl rfl) hS dX11_holds_287
  have nsw_11_1 : ¬ ((1 : Int) = z_10.toInt) := by omega
  have nsw_11_2 : ¬ ((2 : Int) = z_10.toInt) := by omega
  have nsw_11_3 : ¬ ((3 : Int) = z_10.toInt) := by omega
  have nsw_11_68 : ¬ ((68 : Int) = z_10.toInt) := by omega
  have nsw_11_69 : ¬ ((69 : Int) = z_10.toInt) := by omega
  have nsw_11_70 : ¬ ((70 : Int) = z_10.toInt) := by omega
  have nsw_11_71 : ¬ ((71 : Int) = z_10.toInt) := by omega
  have nsw_11_72 : ¬ ((72 : Int) = z_10.toInt) := by omega
  have nsw_11_73 : ¬ ((73 : Int) = z_10.toInt) := by omega
  have nsw_11_74 : ¬ ((74 : Int) = z_10.toInt) := by omega
  refine lv_lookup (off := 254) (tgt := 288) hx hb dX11_holds_34 (by decide) (by simp only [Op.lookupswitch.offset, if_neg nsw_11_1, if_neg nsw_11_2, if_neg nsw_11_3, if_neg nsw_11_68, if_neg nsw_11_69, if_neg nsw_11_70, if_neg nsw_11_71, if_neg nsw_11_72, if_neg nsw_11_73, if_neg nsw_11_74]) (by decide) ?_
  refine lv_aload_n hx hb dX11_holds_288 rfl (lv_at hl 3 rfl) ?_
  refine gf_X11_98 hx hb hts hown hK hP 0 rfl rfl dX11_holds_289 ?_
  refine lv_iload_n hx hb dX11_holds_292 rfl (lv_at hl 2 rfl) ?_
  have hin_66 : vp_in z_2 575 := vp_in_iff.mpr ⟨by omega, by omega⟩
  refine va_iald hx hb hK hP 1 0 rfl rfl hin_66 dX11_holds_293 ?_
  refine lv_topi (fun z_67 ez_67 => ?_)
  refine lv_bipush (v := 50) hx hb dX11_holds_294 (by decide) ?_
  refine lv_isub hx hb dX11_holds_296 ?_
  refine lv_topi (fun z_68 ez_68 => ?_)
  refine lv_istore (lv' := [(6, .int z_68), (5, .int z_8), (4, .int z_5), (3, .int z_2), (0, .ref vo), (1, .int vk), (2, .int vp)]) hx hb dX11_holds_297 hl (by decide) rfl (fun ls hl => ?_)
  refine lv_iload hx hb dX11_holds_299 (lv_at hl 0 rfl) ?_
  refine lv_bipush (v := 25) hx hb dX11_holds_301 (by decide) ?_
  have k_25 : (25 : Int32).toInt = 25 := by decide
  refine lv_icmp_ne (tgt := 314) hx hb dX11_holds_303 (by decide) (fun c_69 => ?_) (fun c_69 => ?_)
  · skip
    have c_69 : ¬ (z_68.toInt = (25 : Int32).toInt) := fun h9 => c_69 (i_eq.mpr h9)
    refine lv_iload hx hb dX11_holds_314 (lv_at hl 0 rfl) ?_
    refine lv_bipush (v := 26) hx hb dX11_holds_316 (by decide) ?_
    have k_26 : (26 : Int32).toInt = 26 := by decide
    refine lv_icmp_ne (tgt := 329) hx hb dX11_holds_318 (by decide) (fun c_70 => ?_) (fun c_70 => ?_)
    · skip
      have c_70 : ¬ (z_68.toInt = (26 : Int32).toInt) := fun h9 => c_70 (i_eq.mpr h9)
      refine lv_iload hx hb dX11_holds_329 (lv_at hl 0 rfl) ?_
      refine lv_bipush (v := 27) hx hb dX11_holds_331 (by decide) ?_
      have k_27 : (27 : Int32).toInt = 27 := by decide
      refine lv_icmp_ne (tgt := 349) hx hb dX11_holds_333 (by decide) (fun c_71 => ?_) (fun c_71 => ?_)
      · skip
        have c_71 : ¬ (z_68.toInt = (27 : Int32).toInt) := fun h9 => c_71 (i_eq.mpr h9)
        refine lv_iload_n hx hb dX11_holds_349 rfl (lv_at hl 6 rfl) ?_
        refine lv_istore (lv' := [(7, .int vp), (6, .int z_68), (5, .int z_8), (4, .int z_5), (3, .int z_2), (0, .ref vo), (1, .int vk), (2, .int vp)]) hx hb dX11_holds_350 hl (by decide) rfl (fun ls hl => ?_)
        refine lv_aload_n hx hb dX11_holds_352 rfl (lv_at hl 5 rfl) ?_
        refine gf_X11_98 hx hb hts hown hK hP 0 rfl rfl dX11_holds_353 ?_
        refine lv_iload_n hx hb dX11_holds_356 rfl (lv_at hl 4 rfl) ?_
        refine lv_iconst (v := 3) hx hb dX11_holds_357 (by decide) ?_
        refine lv_iadd hx hb dX11_holds_358 ?_
        refine lv_topi (fun z_72 ez_72 => ?_)
        have bz_72 : z_72.toInt = z_2.toInt + (3 : Int32).toInt := i_add ez_72 (by omega) (by omega)
        have hin_73 : vp_in z_72 575 := vp_in_iff.mpr ⟨by omega, by omega⟩
        refine va_iald hx hb hK hP 1 0 rfl rfl hin_73 dX11_holds_359 ?_
        refine lv_topi (fun z_74 ez_74 => ?_)
        refine lv_bipush (v := 60) hx hb dX11_holds_360 (by decide) ?_
        have k_60 : (60 : Int32).toInt = 60 := by decide
        refine lv_icmp_ne (tgt := 380) hx hb dX11_holds_362 (by decide) (fun c_75 => ?_) (fun c_75 => ?_)
        · skip
          have c_75 : ¬ (z_74.toInt = (60 : Int32).toInt) := fun h9 => c_75 (i_eq.mpr h9)
          refine lv_aload_n hx hb dX11_holds_380 rfl (lv_at hl 5 rfl) ?_
          refine gf_X11_98 hx hb hts hown hK hP 0 rfl rfl dX11_holds_381 ?_
          refine lv_iload_n hx hb dX11_holds_384 rfl (lv_at hl 4 rfl) ?_
          refine lv_iconst (v := 3) hx hb dX11_holds_385 (by decide) ?_
          refine lv_iadd hx hb dX11_holds_386 ?_
          refine lv_topi (fun z_76 ez_76 => ?_)
          have bz_76 : z_76.toInt = z_2.toInt + (3 : Int32).toInt := i_add ez_76 (by omega) (by omega)
          have hin_77 : vp_in z_76 575 := vp_in_iff.mpr ⟨by omega, by omega⟩
          refine va_iald hx hb hK hP 1 0 rfl rfl hin_77 dX11_holds_387 ?_
          refine lv_topi (fun z_78 ez_78 => ?_)
          refine lv_bipush (v := 61) hx hb dX11_holds_388 (by decide) ?_
          have k_61 : (61 : Int32).toInt = 61 := by decide
          refine lv_icmp_ne (tgt := 408) hx hb dX11_holds_390 (by decide) (fun c_79 => ?_) (fun c_79 => ?_)
          · skip
            have c_79 : ¬ (z_78.toInt = (61 : Int32).toInt) := fun h9 => c_79 (i_eq.mpr h9)
            refine lv_iload hx hb dX11_holds_408 (lv_at hl 0 rfl) ?_
            refine lv_iload hx hb dX11_holds_410 (lv_at hl 2 rfl) ?_
            refine lv_icmp_le (tgt := 419) hx hb dX11_holds_412 (by decide) (fun c_80 => ?_) (fun c_80 => ?_)
            · skip
              have c_80 : vp.toInt ≤ z_8.toInt := i_le.mp c_80
              refine lv_iconst (v := 0) hx hb dX11_holds_419 (by decide) ?_
              have k_0 : (0 : Int32).toInt = 0 := by decide
              rw [hQ9]
              exact re_z voth hx hb hr hlocks (Or.inl rfl) (show ((0 : Int32) = 0) ∨ ((0 : Int32) = 1) from (Or.inl rfl)) (hP.sub [0, 1] rfl) (hD.sub [0, 1] rfl rfl) hS dX11_holds_420
            · skip
              have c_80 : ¬ (vp.toInt ≤ z_8.toInt) := fun h9 => c_80 (i_le.mpr h9)
              refine lv_iconst (v := 1) hx hb dX11_holds_415 (by decide) ?_
              refine lv_goto (tgt := 420) hx hb dX11_holds_416 (by decide) ?_
              rw [hQ9]
              exact re_z voth hx hb hr hlocks (Or.inr rfl) (show ((1 : Int32) = 0) ∨ ((1 : Int32) = 1) from (Or.inr (rfl))) (hP.sub [0, 1] rfl) (hD.sub [0, 1] rfl rfl) hS dX11_holds_420
          · skip
            have c_79 : z_78.toInt = (61 : Int32).toInt := i_eq.mp c_79
            refine lv_iload hx hb dX11_holds_393 (lv_at hl 0 rfl) ?_
            refine lv_iload hx hb dX11_holds_395 (lv_at hl 2 rfl) ?_
            refine lv_icmp_ne (tgt := 404) hx hb dX11_holds_397 (by decide) (fun c_81 => ?_) (fun c_81 => ?_)
            · skip
              have c_81 : ¬ (vp.toInt = z_8.toInt) := fun h9 => c_81 (i_eq.mpr h9)
              refine lv_iconst (v := 0) hx hb dX11_holds_404 (by decide) ?_
              refine lv_goto (tgt := 420) hx hb dX11_holds_405 (by decide) ?_
              have k_0 : (0 : Int32).toInt = 0 := by decide
              rw [hQ9]
              exact re_z voth hx hb hr hlocks (Or.inl rfl) (show ((0 : Int32) = 0) ∨ ((0 : Int32) = 1) from (Or.inl rfl)) (hP.sub [0, 1] rfl) (hD.sub [0, 1] rfl rfl) hS dX11_holds_420
            · skip
              have c_81 : vp.toInt = z_8.toInt := i_eq.mp c_81
              refine lv_iconst (v := 1) hx hb dX11_holds_400 (by decide) ?_
              refine lv_goto (tgt := 420) hx hb dX11_holds_401 (by decide) ?_
              rw [hQ9]
              exact re_z voth hx hb hr hlocks (Or.inr rfl) (show ((1 : Int32) = 0) ∨ ((1 : Int32) = 1) from (Or.inr (rfl))) (hP.sub [0, 1] rfl) (hD.sub [0, 1] rfl rfl) hS dX11_holds_420
        · skip
          have c_75 : z_74.toInt = (60 : Int32).toInt := i_eq.mp c_75
          refine lv_iload hx hb dX11_holds_365 (lv_at hl 0 rfl) ?_
          refine lv_iload hx hb dX11_holds_367 (lv_at hl 2 rfl) ?_
          refine lv_icmp_ge (tgt := 376) hx hb dX11_holds_369 (by decide) (fun c_82 => ?_) (fun c_82 => ?_)
          · skip
            have c_82 : z_8.toInt ≤ vp.toInt := i_le.mp c_82
            refine lv_iconst (v := 0) hx hb dX11_holds_376 (by decide) ?_
            refine lv_goto (tgt := 420) hx hb dX11_holds_377 (by decide) ?_
            have k_0 : (0 : Int32).toInt = 0 := by decide
            rw [hQ9]
            exact re_z voth hx hb hr hlocks (Or.inl rfl) (show ((0 : Int32) = 0) ∨ ((0 : Int32) = 1) from (Or.inl rfl)) (hP.sub [0, 1] rfl) (hD.sub [0, 1] rfl rfl) hS dX11_holds_420
          · skip
            have c_82 : ¬ (z_8.toInt ≤ vp.toInt) := fun h9 => c_82 (i_le.mpr h9)
            refine lv_iconst (v := 1) hx hb dX11_holds_372 (by decide) ?_
            refine lv_goto (tgt := 420) hx hb dX11_holds_373 (by decide) ?_
            rw [hQ9]
            exact re_z voth hx hb hr hlocks (Or.inr rfl) (show ((1 : Int32) = 0) ∨ ((1 : Int32) = 1) from (Or.inr (rfl))) (hP.sub [0, 1] rfl) (hD.sub [0, 1] rfl rfl) hS dX11_holds_420
      · skip
        have c_71 : z_68.toInt = (27 : Int32).toInt := i_eq.mp c_71
        refine lv_aload_n hx hb dX11_holds_336 rfl (lv_at hl 4 rfl) ?_
        refine gf_X11_98 hx hb hts hown hK hP 0 rfl rfl dX11_holds_337 ?_
        refine lv_sipush (v := 158) hx hb dX11_holds_340 (by decide) ?_
        refine lv_iload_n hx hb dX11_holds_343 rfl (lv_at hl 6 rfl) ?_
        refine lv_iadd hx hb dX11_holds_344 ?_
        refine lv_topi (fun z_83 ez_83 => ?_)
        have k_158 : (158 : Int32).toInt = 158 := by decide
        have bz_83 : z_83.toInt = (158 : Int32).toInt + vp.toInt := i_add ez_83 (by omega) (by omega)
        have hin_84 : vp_in z_83 575 := vp_in_iff.mpr ⟨by omega, by omega⟩
        refine va_iald hx hb hK hP 1 0 rfl rfl hin_84 dX11_holds_345 ?_
        refine lv_topi (fun z_85 ez_85 => ?_)
        refine lv_goto (tgt := 350) hx hb dX11_holds_346 (by decide) ?_
        refine lv_istore (lv' := [(7, .int z_85), (6, .int z_68), (5, .int z_8), (4, .int z_5), (3, .int z_2), (0, .ref vo), (1, .int vk), (2, .int vp)]) hx hb dX11_holds_350 hl (by decide) rfl (fun ls hl => ?_)
        refine lv_aload_n hx hb dX11_holds_352 rfl (lv_at hl 5 rfl) ?_
        refine gf_X11_98 hx hb hts hown hK hP 0 rfl rfl dX11_holds_353 ?_
        refine lv_iload_n hx hb dX11_holds_356 rfl (lv_at hl 4 rfl) ?_
        refine lv_iconst (v := 3) hx hb dX11_holds_357 (by decide) ?_
        refine lv_iadd hx hb dX11_holds_358 ?_
        refine lv_topi (fun z_86 ez_86 => ?_)
        have bz_86 : z_86.toInt = z_2.toInt + (3 : Int32).toInt := i_add ez_86 (by omega) (by omega)
        have hin_87 : vp_in z_86 575 := vp_in_iff.mpr ⟨by omega, by omega⟩
        refine va_iald hx hb hK hP 1 0 rfl rfl hin_87 dX11_holds_359 ?_
        refine lv_topi (fun z_88 ez_88 => ?_)
        refine lv_bipush (v := 60) hx hb dX11_holds_360 (by decide) ?_
        have k_60 : (60 : Int32).toInt = 60 := by decide
        refine lv_icmp_ne (tgt := 380) hx hb dX11_holds_362 (by decide) (fun c_89 => ?_) (fun c_89 => ?_)
        · skip
          have c_89 : ¬ (z_88.toInt = (60 : Int32).toInt) := fun h9 => c_89 (i_eq.mpr h9)
          refine lv_aload_n hx hb dX11_holds_380 rfl (lv_at hl 5 rfl) ?_
          refine gf_X11_98 hx hb hts hown hK hP 0 rfl rfl dX11_holds_381 ?_
          refine lv_iload_n hx hb dX11_holds_384 rfl (lv_at hl 4 rfl) ?_
          refine lv_iconst (v := 3) hx hb dX11_holds_385 (by decide) ?_
          refine lv_iadd hx hb dX11_holds_386 ?_
          refine lv_topi (fun z_90 ez_90 => ?_)
          have bz_90 : z_90.toInt = z_2.toInt + (3 : Int32).toInt := i_add ez_90 (by omega) (by omega)
          have hin_91 : vp_in z_90 575 := vp_in_iff.mpr ⟨by omega, by omega⟩
          refine va_iald hx hb hK hP 1 0 rfl rfl hin_91 dX11_holds_387 ?_
          refine lv_topi (fun z_92 ez_92 => ?_)
          refine lv_bipush (v := 61) hx hb dX11_holds_388 (by decide) ?_
          have k_61 : (61 : Int32).toInt = 61 := by decide
          refine lv_icmp_ne (tgt := 408) hx hb dX11_holds_390 (by decide) (fun c_93 => ?_) (fun c_93 => ?_)
          · skip
            have c_93 : ¬ (z_92.toInt = (61 : Int32).toInt) := fun h9 => c_93 (i_eq.mpr h9)
            refine lv_iload hx hb dX11_holds_408 (lv_at hl 0 rfl) ?_
            refine lv_iload hx hb dX11_holds_410 (lv_at hl 2 rfl) ?_
            refine lv_icmp_le (tgt := 419) hx hb dX11_holds_412 (by decide) (fun c_94 => ?_) (fun c_94 => ?_)
            · skip
              have c_94 : z_85.toInt ≤ z_8.toInt := i_le.mp c_94
              refine lv_iconst (v := 0) hx hb dX11_holds_419 (by decide) ?_
              have k_0 : (0 : Int32).toInt = 0 := by decide
              rw [hQ9]
              exact re_z voth hx hb hr hlocks (Or.inl rfl) (show ((0 : Int32) = 0) ∨ ((0 : Int32) = 1) from (Or.inl rfl)) (hP.sub [0, 1] rfl) (hD.sub [0, 1] rfl rfl) hS dX11_holds_420
            · skip
              have c_94 : ¬ (z_85.toInt ≤ z_8.toInt) := fun h9 => c_94 (i_le.mpr h9)
              refine lv_iconst (v := 1) hx hb dX11_holds_415 (by decide) ?_
              refine lv_goto (tgt := 420) hx hb dX11_holds_416 (by decide) ?_
              rw [hQ9]
              exact re_z voth hx hb hr hlocks (Or.inr rfl) (show ((1 : Int32) = 0) ∨ ((1 : Int32) = 1) from (Or.inr (rfl))) (hP.sub [0, 1] rfl) (hD.sub [0, 1] rfl rfl) hS dX11_holds_420
          · skip
            have c_93 : z_92.toInt = (61 : Int32).toInt := i_eq.mp c_93
            refine lv_iload hx hb dX11_holds_393 (lv_at hl 0 rfl) ?_
            refine lv_iload hx hb dX11_holds_395 (lv_at hl 2 rfl) ?_
            refine lv_icmp_ne (tgt := 404) hx hb dX11_holds_397 (by decide) (fun c_95 => ?_) (fun c_95 => ?_)
            · skip
              have c_95 : ¬ (z_85.toInt = z_8.toInt) := fun h9 => c_95 (i_eq.mpr h9)
              refine lv_iconst (v := 0) hx hb dX11_holds_404 (by decide) ?_
              refine lv_goto (tgt := 420) hx hb dX11_holds_405 (by decide) ?_
              have k_0 : (0 : Int32).toInt = 0 := by decide
              rw [hQ9]
              exact re_z voth hx hb hr hlocks (Or.inl rfl) (show ((0 : Int32) = 0) ∨ ((0 : Int32) = 1) from (Or.inl rfl)) (hP.sub [0, 1] rfl) (hD.sub [0, 1] rfl rfl) hS dX11_holds_420
            · skip
              have c_95 : z_85.toInt = z_8.toInt := i_eq.mp c_95
              refine lv_iconst (v := 1) hx hb dX11_holds_400 (by decide) ?_
              refine lv_goto (tgt := 420) hx hb dX11_holds_401 (by decide) ?_
              rw [hQ9]
              exact re_z voth hx hb hr hlocks (Or.inr rfl) (show ((1 : Int32) = 0) ∨ ((1 : Int32) = 1) from (Or.inr (rfl))) (hP.sub [0, 1] rfl) (hD.sub [0, 1] rfl rfl) hS dX11_holds_420
        · skip
          have c_89 : z_88.toInt = (60 : Int32).toInt := i_eq.mp c_89
          refine lv_iload hx hb dX11_holds_365 (lv_at hl 0 rfl) ?_
          refine lv_iload hx hb dX11_holds_367 (lv_at hl 2 rfl) ?_
          refine lv_icmp_ge (tgt := 376) hx hb dX11_holds_369 (by decide) (fun c_96 => ?_) (fun c_96 => ?_)
          · skip
            have c_96 : z_8.toInt ≤ z_85.toInt := i_le.mp c_96
            refine lv_iconst (v := 0) hx hb dX11_holds_376 (by decide) ?_
            refine lv_goto (tgt := 420) hx hb dX11_holds_377 (by decide) ?_
            have k_0 : (0 : Int32).toInt = 0 := by decide
            rw [hQ9]
            exact re_z voth hx hb hr hlocks (Or.inl rfl) (show ((0 : Int32) = 0) ∨ ((0 : Int32) = 1) from (Or.inl rfl)) (hP.sub [0, 1] rfl) (hD.sub [0, 1] rfl rfl) hS dX11_holds_420
          · skip
            have c_96 : ¬ (z_8.toInt ≤ z_85.toInt) := fun h9 => c_96 (i_le.mpr h9)
            refine lv_iconst (v := 1) hx hb dX11_holds_372 (by decide) ?_
            refine lv_goto (tgt := 420) hx hb dX11_holds_373 (by decide) ?_
            rw [hQ9]
            exact re_z voth hx hb hr hlocks (Or.inr rfl) (show ((1 : Int32) = 0) ∨ ((1 : Int32) = 1) from (Or.inr (rfl))) (hP.sub [0, 1] rfl) (hD.sub [0, 1] rfl rfl) hS dX11_holds_420
    · skip
      have c_70 : z_68.toInt = (26 : Int32).toInt := i_eq.mp c_70
      refine lv_aload_n hx hb dX11_holds_321 rfl (lv_at hl 4 rfl) ?_
      refine lv_iload_n hx hb dX11_holds_322 rfl (lv_at hl 6 rfl) ?_
      refine jr_i (rVr (As := [.int vp]) (rest := []) (ci := 12) ⟨hx, hb, hml, hown, hts⟩ (m_darkOf l dC dI cy vnh vo voth vmt votp vosz volm voto vofr vokd vonu vosg vofa vopl vowd votd vmn vmr vmk vms vma vmm vmrn vmkn vmik vmon vosm vohp vmw vmf vmb vomb vmd vmc vocm voct vocy vmx votx vose vml vmwr voln vohw vmno vond voon vowi votop vmnf vp ⟨by omega, by omega⟩ p_vmnf) (cw_X11_244 hts rfl rfl ⟨Nat.le_of_ble_eq_true rfl, Nat.le_of_ble_eq_true rfl⟩) hP hK [0, 1] rfl rfl rfl rfl hl.1 rfl (Nat.le_of_ble_eq_true rfl) dX11_holds_323 ⟨Nat.le_of_ble_eq_true rfl, Nat.le_of_ble_eq_true rfl⟩) hP hS (fun r_97 H locs hp_98 hP hS => ?_)
      refine lv_goto (tgt := 350) hx hb dX11_holds_326 (by decide) ?_
      refine lv_istore (lv' := [(7, .int r_97), (6, .int z_68), (5, .int z_8), (4, .int z_5), (3, .int z_2), (0, .ref vo), (1, .int vk), (2, .int vp)]) hx hb dX11_holds_350 hl (by decide) rfl (fun ls hl => ?_)
      refine lv_aload_n hx hb dX11_holds_352 rfl (lv_at hl 5 rfl) ?_
      refine gf_X11_98 hx hb hts hown hK hP 0 rfl rfl dX11_holds_353 ?_
      refine lv_iload_n hx hb dX11_holds_356 rfl (lv_at hl 4 rfl) ?_
      refine lv_iconst (v := 3) hx hb dX11_holds_357 (by decide) ?_
      refine lv_iadd hx hb dX11_holds_358 ?_
      refine lv_topi (fun z_99 ez_99 => ?_)
      have bz_99 : z_99.toInt = z_2.toInt + (3 : Int32).toInt := i_add ez_99 (by omega) (by omega)
      have hin_100 : vp_in z_99 575 := vp_in_iff.mpr ⟨by omega, by omega⟩
      refine va_iald hx hb hK hP 1 0 rfl rfl hin_100 dX11_holds_359 ?_
      refine lv_topi (fun z_101 ez_101 => ?_)
      refine lv_bipush (v := 60) hx hb dX11_holds_360 (by decide) ?_
      have k_60 : (60 : Int32).toInt = 60 := by decide
      refine lv_icmp_ne (tgt := 380) hx hb dX11_holds_362 (by decide) (fun c_102 => ?_) (fun c_102 => ?_)
      · skip
        have c_102 : ¬ (z_101.toInt = (60 : Int32).toInt) := fun h9 => c_102 (i_eq.mpr h9)
        refine lv_aload_n hx hb dX11_holds_380 rfl (lv_at hl 5 rfl) ?_
        refine gf_X11_98 hx hb hts hown hK hP 0 rfl rfl dX11_holds_381 ?_
        refine lv_iload_n hx hb dX11_holds_384 rfl (lv_at hl 4 rfl) ?_
        refine lv_iconst (v := 3) hx hb dX11_holds_385 (by decide) ?_
        refine lv_iadd hx hb dX11_holds_386 ?_
        refine lv_topi (fun z_103 ez_103 => ?_)
        have bz_103 : z_103.toInt = z_2.toInt + (3 : Int32).toInt := i_add ez_103 (by omega) (by omega)
        have hin_104 : vp_in z_103 575 := vp_in_iff.mpr ⟨by omega, by omega⟩
        refine va_iald hx hb hK hP 1 0 rfl rfl hin_104 dX11_holds_387 ?_
        refine lv_topi (fun z_105 ez_105 => ?_)
        refine lv_bipush (v := 61) hx hb dX11_holds_388 (by decide) ?_
        have k_61 : (61 : Int32).toInt = 61 := by decide
        refine lv_icmp_ne (tgt := 408) hx hb dX11_holds_390 (by decide) (fun c_106 => ?_) (fun c_106 => ?_)
        · skip
          have c_106 : ¬ (z_105.toInt = (61 : Int32).toInt) := fun h9 => c_106 (i_eq.mpr h9)
          refine lv_iload hx hb dX11_holds_408 (lv_at hl 0 rfl) ?_
          refine lv_iload hx hb dX11_holds_410 (lv_at hl 2 rfl) ?_
          refine lv_icmp_le (tgt := 419) hx hb dX11_holds_412 (by decide) (fun c_107 => ?_) (fun c_107 => ?_)
          · skip
            have c_107 : r_97.toInt ≤ z_8.toInt := i_le.mp c_107
            refine lv_iconst (v := 0) hx hb dX11_holds_419 (by decide) ?_
            have k_0 : (0 : Int32).toInt = 0 := by decide
            rw [hQ9]
            exact re_z voth hx hb hr hlocks (Or.inl rfl) (show ((0 : Int32) = 0) ∨ ((0 : Int32) = 1) from (Or.inl rfl)) (hP.sub [0, 1] rfl) (hD.sub [0, 1] rfl rfl) hS dX11_holds_420
          · skip
            have c_107 : ¬ (r_97.toInt ≤ z_8.toInt) := fun h9 => c_107 (i_le.mpr h9)
            refine lv_iconst (v := 1) hx hb dX11_holds_415 (by decide) ?_
            refine lv_goto (tgt := 420) hx hb dX11_holds_416 (by decide) ?_
            rw [hQ9]
            exact re_z voth hx hb hr hlocks (Or.inr rfl) (show ((1 : Int32) = 0) ∨ ((1 : Int32) = 1) from (Or.inr (rfl))) (hP.sub [0, 1] rfl) (hD.sub [0, 1] rfl rfl) hS dX11_holds_420
        · skip
          have c_106 : z_105.toInt = (61 : Int32).toInt := i_eq.mp c_106
          refine lv_iload hx hb dX11_holds_393 (lv_at hl 0 rfl) ?_
          refine lv_iload hx hb dX11_holds_395 (lv_at hl 2 rfl) ?_
          refine lv_icmp_ne (tgt := 404) hx hb dX11_holds_397 (by decide) (fun c_108 => ?_) (fun c_108 => ?_)
          · skip
            have c_108 : ¬ (r_97.toInt = z_8.toInt) := fun h9 => c_108 (i_eq.mpr h9)
            refine lv_iconst (v := 0) hx hb dX11_holds_404 (by decide) ?_
            refine lv_goto (tgt := 420) hx hb dX11_holds_405 (by decide) ?_
            have k_0 : (0 : Int32).toInt = 0 := by decide
            rw [hQ9]
            exact re_z voth hx hb hr hlocks (Or.inl rfl) (show ((0 : Int32) = 0) ∨ ((0 : Int32) = 1) from (Or.inl rfl)) (hP.sub [0, 1] rfl) (hD.sub [0, 1] rfl rfl) hS dX11_holds_420
          · skip
            have c_108 : r_97.toInt = z_8.toInt := i_eq.mp c_108
            refine lv_iconst (v := 1) hx hb dX11_holds_400 (by decide) ?_
            refine lv_goto (tgt := 420) hx hb dX11_holds_401 (by decide) ?_
            rw [hQ9]
            exact re_z voth hx hb hr hlocks (Or.inr rfl) (show ((1 : Int32) = 0) ∨ ((1 : Int32) = 1) from (Or.inr (rfl))) (hP.sub [0, 1] rfl) (hD.sub [0, 1] rfl rfl) hS dX11_holds_420
      · skip
        have c_102 : z_101.toInt = (60 : Int32).toInt := i_eq.mp c_102
        refine lv_iload hx hb dX11_holds_365 (lv_at hl 0 rfl) ?_
        refine lv_iload hx hb dX11_holds_367 (lv_at hl 2 rfl) ?_
        refine lv_icmp_ge (tgt := 376) hx hb dX11_holds_369 (by decide) (fun c_109 => ?_) (fun c_109 => ?_)
        · skip
          have c_109 : z_8.toInt ≤ r_97.toInt := i_le.mp c_109
          refine lv_iconst (v := 0) hx hb dX11_holds_376 (by decide) ?_
          refine lv_goto (tgt := 420) hx hb dX11_holds_377 (by decide) ?_
          have k_0 : (0 : Int32).toInt = 0 := by decide
          rw [hQ9]
          exact re_z voth hx hb hr hlocks (Or.inl rfl) (show ((0 : Int32) = 0) ∨ ((0 : Int32) = 1) from (Or.inl rfl)) (hP.sub [0, 1] rfl) (hD.sub [0, 1] rfl rfl) hS dX11_holds_420
        · skip
          have c_109 : ¬ (z_8.toInt ≤ r_97.toInt) := fun h9 => c_109 (i_le.mpr h9)
          refine lv_iconst (v := 1) hx hb dX11_holds_372 (by decide) ?_
          refine lv_goto (tgt := 420) hx hb dX11_holds_373 (by decide) ?_
          rw [hQ9]
          exact re_z voth hx hb hr hlocks (Or.inr rfl) (show ((1 : Int32) = 0) ∨ ((1 : Int32) = 1) from (Or.inr (rfl))) (hP.sub [0, 1] rfl) (hD.sub [0, 1] rfl rfl) hS dX11_holds_420
  · skip
    have c_69 : z_68.toInt = (25 : Int32).toInt := i_eq.mp c_69
    refine lv_aload_n hx hb dX11_holds_306 rfl (lv_at hl 4 rfl) ?_
    refine lv_iload_n hx hb dX11_holds_307 rfl (lv_at hl 6 rfl) ?_
    refine jr_i (rVr (As := [.int vp]) (rest := []) (ci := 12) ⟨hx, hb, hml, hown, hts⟩ (m_whiteOf l dC dI cy vnh vo voth vmt votp vosz volm voto vofr vokd vonu vosg vofa vopl vowd votd vmn vmr vmk vms vma vmm vmrn vmkn vmik vmon vosm vohp vmw vmf vmb vomb vmd vmc vocm voct vocy vmx votx vose vml vmwr voln vohw vmno vond voon vowi votop vmnf vp ⟨by omega, by omega⟩ p_vmnf) (cw_X11_241 hts rfl rfl ⟨Nat.le_of_ble_eq_true rfl, Nat.le_of_ble_eq_true rfl⟩) hP hK [0, 1] rfl rfl rfl rfl hl.1 rfl (Nat.le_of_ble_eq_true rfl) dX11_holds_308 ⟨Nat.le_of_ble_eq_true rfl, Nat.le_of_ble_eq_true rfl⟩) hP hS (fun r_110 H locs hp_111 hP hS => ?_)
    refine lv_goto (tgt := 350) hx hb dX11_holds_311 (by decide) ?_
    refine lv_istore (lv' := [(7, .int r_110), (6, .int z_68), (5, .int z_8), (4, .int z_5), (3, .int z_2), (0, .ref vo), (1, .int vk), (2, .int vp)]) hx hb dX11_holds_350 hl (by decide) rfl (fun ls hl => ?_)
    refine lv_aload_n hx hb dX11_holds_352 rfl (lv_at hl 5 rfl) ?_
    refine gf_X11_98 hx hb hts hown hK hP 0 rfl rfl dX11_holds_353 ?_
    refine lv_iload_n hx hb dX11_holds_356 rfl (lv_at hl 4 rfl) ?_
    refine lv_iconst (v := 3) hx hb dX11_holds_357 (by decide) ?_
    refine lv_iadd hx hb dX11_holds_358 ?_
    refine lv_topi (fun z_112 ez_112 => ?_)
    have bz_112 : z_112.toInt = z_2.toInt + (3 : Int32).toInt := i_add ez_112 (by omega) (by omega)
    have hin_113 : vp_in z_112 575 := vp_in_iff.mpr ⟨by omega, by omega⟩
    refine va_iald hx hb hK hP 1 0 rfl rfl hin_113 dX11_holds_359 ?_
    refine lv_topi (fun z_114 ez_114 => ?_)
    refine lv_bipush (v := 60) hx hb dX11_holds_360 (by decide) ?_
    have k_60 : (60 : Int32).toInt = 60 := by decide
    refine lv_icmp_ne (tgt := 380) hx hb dX11_holds_362 (by decide) (fun c_115 => ?_) (fun c_115 => ?_)
    · skip
      have c_115 : ¬ (z_114.toInt = (60 : Int32).toInt) := fun h9 => c_115 (i_eq.mpr h9)
      refine lv_aload_n hx hb dX11_holds_380 rfl (lv_at hl 5 rfl) ?_
      refine gf_X11_98 hx hb hts hown hK hP 0 rfl rfl dX11_holds_381 ?_
      refine lv_iload_n hx hb dX11_holds_384 rfl (lv_at hl 4 rfl) ?_
      refine lv_iconst (v := 3) hx hb dX11_holds_385 (by decide) ?_
      refine lv_iadd hx hb dX11_holds_386 ?_
      refine lv_topi (fun z_116 ez_116 => ?_)
      have bz_116 : z_116.toInt = z_2.toInt + (3 : Int32).toInt := i_add ez_116 (by omega) (by omega)
      have hin_117 : vp_in z_116 575 := vp_in_iff.mpr ⟨by omega, by omega⟩
      refine va_iald hx hb hK hP 1 0 rfl rfl hin_117 dX11_holds_387 ?_
      refine lv_topi (fun z_118 ez_118 => ?_)
      refine lv_bipush (v := 61) hx hb dX11_holds_388 (by decide) ?_
      have k_61 : (61 : Int32).toInt = 61 := by decide
      refine lv_icmp_ne (tgt := 408) hx hb dX11_holds_390 (by decide) (fun c_119 => ?_) (fun c_119 => ?_)
      · skip
        have c_119 : ¬ (z_118.toInt = (61 : Int32).toInt) := fun h9 => c_119 (i_eq.mpr h9)
        refine lv_iload hx hb dX11_holds_408 (lv_at hl 0 rfl) ?_
        refine lv_iload hx hb dX11_holds_410 (lv_at hl 2 rfl) ?_
        refine lv_icmp_le (tgt := 419) hx hb dX11_holds_412 (by decide) (fun c_120 => ?_) (fun c_120 => ?_)
        · skip
          have c_120 : r_110.toInt ≤ z_8.toInt := i_le.mp c_120
          refine lv_iconst (v := 0) hx hb dX11_holds_419 (by decide) ?_
          have k_0 : (0 : Int32).toInt = 0 := by decide
          rw [hQ9]
          exact re_z voth hx hb hr hlocks (Or.inl rfl) (show ((0 : Int32) = 0) ∨ ((0 : Int32) = 1) from (Or.inl rfl)) (hP.sub [0, 1] rfl) (hD.sub [0, 1] rfl rfl) hS dX11_holds_420
        · skip
          have c_120 : ¬ (r_110.toInt ≤ z_8.toInt) := fun h9 => c_120 (i_le.mpr h9)
          refine lv_iconst (v := 1) hx hb dX11_holds_415 (by decide) ?_
          refine lv_goto (tgt := 420) hx hb dX11_holds_416 (by decide) ?_
          rw [hQ9]
          exact re_z voth hx hb hr hlocks (Or.inr rfl) (show ((1 : Int32) = 0) ∨ ((1 : Int32) = 1) from (Or.inr (rfl))) (hP.sub [0, 1] rfl) (hD.sub [0, 1] rfl rfl) hS dX11_holds_420
      · skip
        have c_119 : z_118.toInt = (61 : Int32).toInt := i_eq.mp c_119
        refine lv_iload hx hb dX11_holds_393 (lv_at hl 0 rfl) ?_
        refine lv_iload hx hb dX11_holds_395 (lv_at hl 2 rfl) ?_
        refine lv_icmp_ne (tgt := 404) hx hb dX11_holds_397 (by decide) (fun c_121 => ?_) (fun c_121 => ?_)
        · skip
          have c_121 : ¬ (r_110.toInt = z_8.toInt) := fun h9 => c_121 (i_eq.mpr h9)
          refine lv_iconst (v := 0) hx hb dX11_holds_404 (by decide) ?_
          refine lv_goto (tgt := 420) hx hb dX11_holds_405 (by decide) ?_
          have k_0 : (0 : Int32).toInt = 0 := by decide
          rw [hQ9]
          exact re_z voth hx hb hr hlocks (Or.inl rfl) (show ((0 : Int32) = 0) ∨ ((0 : Int32) = 1) from (Or.inl rfl)) (hP.sub [0, 1] rfl) (hD.sub [0, 1] rfl rfl) hS dX11_holds_420
        · skip
          have c_121 : r_110.toInt = z_8.toInt := i_eq.mp c_121
          refine lv_iconst (v := 1) hx hb dX11_holds_400 (by decide) ?_
          refine lv_goto (tgt := 420) hx hb dX11_holds_401 (by decide) ?_
          rw [hQ9]
          exact re_z voth hx hb hr hlocks (Or.inr rfl) (show ((1 : Int32) = 0) ∨ ((1 : Int32) = 1) from (Or.inr (rfl))) (hP.sub [0, 1] rfl) (hD.sub [0, 1] rfl rfl) hS dX11_holds_420
    · skip
      have c_115 : z_114.toInt = (60 : Int32).toInt := i_eq.mp c_115
      refine lv_iload hx hb dX11_holds_365 (lv_at hl 0 rfl) ?_
      refine lv_iload hx hb dX11_holds_367 (lv_at hl 2 rfl) ?_
      refine lv_icmp_ge (tgt := 376) hx hb dX11_holds_369 (by decide) (fun c_122 => ?_) (fun c_122 => ?_)
      · skip
        have c_122 : z_8.toInt ≤ r_110.toInt := i_le.mp c_122
        refine lv_iconst (v := 0) hx hb dX11_holds_376 (by decide) ?_
        refine lv_goto (tgt := 420) hx hb dX11_holds_377 (by decide) ?_
        have k_0 : (0 : Int32).toInt = 0 := by decide
        rw [hQ9]
        exact re_z voth hx hb hr hlocks (Or.inl rfl) (show ((0 : Int32) = 0) ∨ ((0 : Int32) = 1) from (Or.inl rfl)) (hP.sub [0, 1] rfl) (hD.sub [0, 1] rfl rfl) hS dX11_holds_420
      · skip
        have c_122 : ¬ (z_8.toInt ≤ r_110.toInt) := fun h9 => c_122 (i_le.mpr h9)
        refine lv_iconst (v := 1) hx hb dX11_holds_372 (by decide) ?_
        refine lv_goto (tgt := 420) hx hb dX11_holds_373 (by decide) ?_
        rw [hQ9]
        exact re_z voth hx hb hr hlocks (Or.inr rfl) (show ((1 : Int32) = 0) ∨ ((1 : Int32) = 1) from (Or.inr (rfl))) (hP.sub [0, 1] rfl) (hD.sub [0, 1] rfl rfl) hS dX11_holds_420
abbrev O_m_holds_7 (cy : Nat → ClassId) (vnh : Nat → Int32) (vo : Nat) (voth : Int32) (vmt : Nat) (votp : Int32) (vosz : Int32) (volm : Int32) (voto : Int32) (vofr : Int32) (vokd : Int32) (vonu : Int32) (vosg : Int32) (vofa : Int32) (vopl : Int32) (vowd : Int64) (votd : Int32) (vmn : Nat) (vmr : Nat) (vmk : Nat) (vms : Nat) (vma : Nat) (vmm : Nat) (vmrn : Nat) (vmkn : Nat) (vmik : Nat) (vmon : Nat) (vosm : Int32) (vohp : Int32) (vmw : Nat) (vmf : Nat) (vmb : Nat) (vomb : Int32) (vmd : Nat) (vmc : Nat) (vocm : Int32) (voct : Int32) (vocy : Int32) (vmx : Nat) (votx : Int32) (vose : Int32) (vml : Nat) (vmwr : Nat) (voln : Int32) (vohw : Int32) (vmno : Nat) (vond : Int32) (voon : Int32) (vowi : Int32) (votop : Int32) (vmnf : Nat → Int32) (vk : Int32) (vp : Int32) (u : Int32) : va_W := [(vo, .inr (12, [.int u, .ref vmt, .int votp, .int vosz, .int volm, .int voto, .int vofr, .int vokd, .int vonu, .int vosg, .int vofa, .int vopl, .long vowd, .int votd, .ref vmn, .ref vmr, .ref vmk, .ref vms, .ref vma, .ref vmm, .ref vmrn, .ref vmkn, .ref vmik, .ref vmon, .int vosm, .int vohp, .ref vmw, .ref vmf, .ref vmb, .int vomb, .ref vmd, .ref vmc, .int vocm, .int voct, .int vocy, .ref vmx, .int votx, .int vose, .ref vml, .ref vmwr, .int voln, .int vohw, .ref vmno, .int vond, .int voon, .int vowi, .int votop])), (vmn, .inl (cy 0, 575, .inl vmnf))]
set_option maxHeartbeats 4000000 in
set_option maxRecDepth 100000 in
theorem m_holds_7 (l : Launch) (dC : Nat → ClassId) (dI : Nat → Nat → Nat) (cy : Nat → ClassId) (sz : Nat) (vnh : Nat → Int32) (vo : Nat) (voth : Int32) (vmt : Nat) (votp : Int32) (vosz : Int32) (volm : Int32) (voto : Int32) (vofr : Int32) (vokd : Int32) (vonu : Int32) (vosg : Int32) (vofa : Int32) (vopl : Int32) (vowd : Int64) (votd : Int32) (vmn : Nat) (vmr : Nat) (vmk : Nat) (vms : Nat) (vma : Nat) (vmm : Nat) (vmrn : Nat) (vmkn : Nat) (vmik : Nat) (vmon : Nat) (vosm : Int32) (vohp : Int32) (vmw : Nat) (vmf : Nat) (vmb : Nat) (vomb : Int32) (vmd : Nat) (vmc : Nat) (vocm : Int32) (voct : Int32) (vocy : Int32) (vmx : Nat) (votx : Int32) (vose : Int32) (vml : Nat) (vmwr : Nat) (voln : Int32) (vohw : Int32) (vmno : Nat) (vond : Int32) (voon : Int32) (vowi : Int32) (votop : Int32) (vmnf : Nat → Int32) (vk : Int32) (vp : Int32) (r_vk : 0 ≤ (vk : Int32).toInt ∧ (vk : Int32).toInt ≤ 7) (r_vp : 0 ≤ (vp : Int32).toInt ∧ (vp : Int32).toInt ≤ 6) (p_vmnf : NW vnh vmnf) : Met l yX11_holds (wl yX11_holds cX11_holds 8 (some .boolean)) ({ frames := 13, cells := 0, slots := 0, locals := 832 }) (Pw (dC, dI) vwCl cy [(vo, .inr (12, [.int voth, .ref vmt, .int votp, .int vosz, .int volm, .int voto, .int vofr, .int vokd, .int vonu, .int vosg, .int vofa, .int vopl, .long vowd, .int votd, .ref vmn, .ref vmr, .ref vmk, .ref vms, .ref vma, .ref vmm, .ref vmrn, .ref vmkn, .ref vmik, .ref vmon, .int vosm, .int vohp, .ref vmw, .ref vmf, .ref vmb, .int vomb, .ref vmd, .ref vmc, .int vocm, .int voct, .int vocy, .ref vmx, .int votx, .int vose, .ref vml, .ref vmwr, .int voln, .int vohw, .ref vmno, .int vond, .int voon, .int vowi, .int votop])), (vmn, .inl (cy 0, 575, .inl vmnf))] sz [.ref vo, .int vk, .int vp] nE) (Qi (dC, dI) vwCl (fun (r : Int32) (u : Int32) => ((r = 0) ∨ (r = 1))) (O_m_holds_7 cy vnh vo voth vmt votp vosz volm voto vofr vokd vonu vosg vofa vopl vowd votd vmn vmr vmk vms vma vmm vmrn vmkn vmik vmon vosm vohp vmw vmf vmb vomb vmd vmc vocm voct vocy vmx votx vose vml vmwr voln vohw vmno vond voon vowi votop vmnf vk vp) (va_A [(vo, .inr (12, [.int voth, .ref vmt, .int votp, .int vosz, .int volm, .int voto, .int vofr, .int vokd, .int vonu, .int vosg, .int vofa, .int vopl, .long vowd, .int votd, .ref vmn, .ref vmr, .ref vmk, .ref vms, .ref vma, .ref vmm, .ref vmrn, .ref vmkn, .ref vmik, .ref vmon, .int vosm, .int vohp, .ref vmw, .ref vmf, .ref vmb, .int vomb, .ref vmd, .ref vmc, .int vocm, .int voct, .int vocy, .ref vmx, .int votx, .int vose, .ref vml, .ref vmwr, .int voln, .int vohw, .ref vmno, .int vond, .int voon, .int vowi, .int votop])), (vmn, .inl (cy 0, 575, .inl vmnf))] sz)) 0 0 (va_A [(vo, .inr (12, [.int voth, .ref vmt, .int votp, .int vosz, .int volm, .int voto, .int vofr, .int vokd, .int vonu, .int vosg, .int vofa, .int vopl, .long vowd, .int votd, .ref vmn, .ref vmr, .ref vmk, .ref vms, .ref vma, .ref vmm, .ref vmrn, .ref vmkn, .ref vmik, .ref vmon, .int vosm, .int vohp, .ref vmw, .ref vmf, .ref vmb, .int vomb, .ref vmd, .ref vmc, .int vocm, .int voct, .int vocy, .ref vmx, .int votx, .int vose, .ref vml, .ref vmwr, .int voln, .int vohw, .ref vmno, .int vond, .int voon, .int vowi, .int votop])), (vmn, .inl (cy 0, 575, .inl vmnf))] sz) := by
  refine mw (Qc := Qi (dC, dI) vwCl (fun (r : Int32) (u : Int32) => ((r = 0) ∨ (r = 1))) (O_m_holds_7 cy vnh vo voth vmt votp vosz volm voto vofr vokd vonu vosg vofa vopl vowd votd vmn vmr vmk vms vma vmm vmrn vmkn vmik vmon vosm vohp vmw vmf vmb vomb vmd vmc vocm voct vocy vmx votx vose vml vmwr voln vohw vmno vond voon vowi votop vmnf vk vp)) RX11 rfl (by decide +kernel) (Nat.le_of_ble_eq_true rfl) ?_
  intro p e s m below meth c A hx hb hr hlocks av9 hav hts hown hnm hml hK hP hD hA hS hE hAe Q9 hQ9 ls hl
  have hl : lv_has ls 8 [(0, .ref vo), (1, .int vk), (2, .int vp)] := hl
  refine lv_sipush (v := 335) hx hb dX11_holds_0 (by decide) ?_
  refine lv_iconst (v := 4) hx hb dX11_holds_3 (by decide) ?_
  refine lv_iload_n hx hb dX11_holds_4 rfl (lv_at hl 1 rfl) ?_
  refine lv_imul hx hb dX11_holds_5 ?_
  refine lv_topi (fun z_1 ez_1 => ?_)
  have k_4 : (4 : Int32).toInt = 4 := by decide
  have bz_1 : z_1.toInt = vk.toInt * 4 := i_cmul k_4 ez_1 (by omega) (by omega)
  refine lv_iadd hx hb dX11_holds_6 ?_
  refine lv_topi (fun z_2 ez_2 => ?_)
  have k_335 : (335 : Int32).toInt = 335 := by decide
  have bz_2 : z_2.toInt = (335 : Int32).toInt + z_1.toInt := i_add ez_2 (by omega) (by omega)
  refine lv_istore_n (lv' := [(3, .int z_2), (0, .ref vo), (1, .int vk), (2, .int vp)]) hx hb dX11_holds_7 rfl hl (by decide) rfl (fun ls hl => ?_)
  refine lv_aload_n hx hb dX11_holds_8 rfl (lv_at hl 1 rfl) ?_
  refine gf_X11_98 hx hb hts hown hK hP 0 rfl rfl dX11_holds_9 ?_
  refine lv_iload_n hx hb dX11_holds_12 rfl (lv_at hl 0 rfl) ?_
  refine lv_iconst (v := 1) hx hb dX11_holds_13 (by decide) ?_
  refine lv_iadd hx hb dX11_holds_14 ?_
  refine lv_topi (fun z_3 ez_3 => ?_)
  have k_1 : (1 : Int32).toInt = 1 := by decide
  have bz_3 : z_3.toInt = z_2.toInt + (1 : Int32).toInt := i_add ez_3 (by omega) (by omega)
  have hin_4 : vp_in z_3 575 := vp_in_iff.mpr ⟨by omega, by omega⟩
  refine va_iald hx hb hK hP 1 0 rfl rfl hin_4 dX11_holds_15 ?_
  refine lv_topi (fun z_5 ez_5 => ?_)
  refine lv_istore (lv' := [(4, .int z_5), (3, .int z_2), (0, .ref vo), (1, .int vk), (2, .int vp)]) hx hb dX11_holds_16 hl (by decide) rfl (fun ls hl => ?_)
  refine lv_aload_n hx hb dX11_holds_18 rfl (lv_at hl 2 rfl) ?_
  refine gf_X11_98 hx hb hts hown hK hP 0 rfl rfl dX11_holds_19 ?_
  refine lv_iload_n hx hb dX11_holds_22 rfl (lv_at hl 1 rfl) ?_
  refine lv_iconst (v := 2) hx hb dX11_holds_23 (by decide) ?_
  refine lv_iadd hx hb dX11_holds_24 ?_
  refine lv_topi (fun z_6 ez_6 => ?_)
  have k_2 : (2 : Int32).toInt = 2 := by decide
  have bz_6 : z_6.toInt = z_2.toInt + (2 : Int32).toInt := i_add ez_6 (by omega) (by omega)
  have hin_7 : vp_in z_6 575 := vp_in_iff.mpr ⟨by omega, by omega⟩
  refine va_iald hx hb hK hP 1 0 rfl rfl hin_7 dX11_holds_25 ?_
  refine lv_topi (fun z_8 ez_8 => ?_)
  refine lv_istore (lv' := [(5, .int z_8), (4, .int z_5), (3, .int z_2), (0, .ref vo), (1, .int vk), (2, .int vp)]) hx hb dX11_holds_26 hl (by decide) rfl (fun ls hl => ?_)
  refine lv_aload_n hx hb dX11_holds_28 rfl (lv_at hl 3 rfl) ?_
  refine gf_X11_98 hx hb hts hown hK hP 0 rfl rfl dX11_holds_29 ?_
  refine lv_iload_n hx hb dX11_holds_32 rfl (lv_at hl 2 rfl) ?_
  have hin_9 : vp_in z_2 575 := vp_in_iff.mpr ⟨by omega, by omega⟩
  refine va_iald hx hb hK hP 1 0 rfl rfl hin_9 dX11_holds_33 ?_
  refine lv_topi (fun z_10 ez_10 => ?_)
  obtain ⟨hA1, hA2, hA3, hA4⟩ := NW.node p_vmnf (k := vk) ⟨by omega, by omega⟩ (i1 := z_3) (by omega) ez_5 (i2 := z_6) (by omega) ez_8 (i0 := z_2) (by omega) ez_10
  have k_3 : (3 : Int32).toInt = 3 := by decide
  have k_68 : (68 : Int32).toInt = 68 := by decide
  have k_69 : (69 : Int32).toInt = 69 := by decide
  have k_70 : (70 : Int32).toInt = 70 := by decide
  have k_71 : (71 : Int32).toInt = 71 := by decide
  have k_72 : (72 : Int32).toInt = 72 := by decide
  have k_73 : (73 : Int32).toInt = 73 := by decide
  have k_74 : (74 : Int32).toInt = 74 := by decide
  by_cases sw_11_1 : z_10.toInt = 1
  · refine as_i 1 (i_eq.mpr (sw_11_1.trans k_1.symm)) ?_
    refine lv_lookup (off := 90) (tgt := 124) hx hb dX11_holds_34 (by decide) (by decide) (by decide) ?_
    have hB := hA1 (by omega)
    refine lv_aload_n hx hb dX11_holds_124 rfl (lv_at hl 3 rfl) ?_
    refine lv_iload hx hb dX11_holds_125 (lv_at hl 1 rfl) ?_
    refine lv_iload_n hx hb dX11_holds_127 rfl (lv_at hl 5 rfl) ?_
    refine jn_i (wr := []) (rV (As := [.int z_5, .int vp]) (rest := []) (ci := 12) ⟨hx, hb, hml, hown, hts⟩ (m_holds_6 l dC dI cy _ vnh vo voth vmt votp vosz volm voto vofr vokd vonu vosg vofa vopl vowd votd vmn vmr vmk vms vma vmm vmrn vmkn vmik vmon vosm vohp vmw vmf vmb vomb vmd vmc vocm voct vocy vmx votx vose vml vmwr voln vohw vmno vond voon vowi votop vmnf z_5 vp ⟨by omega, by omega⟩ r_vp p_vmnf) (cw_X11_438 hts rfl rfl ⟨Nat.le_of_ble_eq_true rfl, Nat.le_of_ble_eq_true rfl⟩) hP hD hK [0, 1] rfl rfl rfl rfl bl0 e0 rfl hl.1 rfl (Nat.le_of_ble_eq_true rfl) dX11_holds_128 ⟨Nat.le_of_ble_eq_true rfl, Nat.le_of_ble_eq_true rfl⟩) hP hD hS hA [0, 1] [] rfl rfl rfl (by decide) (fun r_12 u_14 H locs hp_13 hP hD hS => ?_)
    obtain ⟨voth_15, rfl⟩ : ∃ z, z = u_14 := ⟨_, rfl⟩
    have hp_13 : ((r_12 = 0) ∨ (r_12 = 1)) := hp_13
    have q_16 := hp_13
    have hP : va_P (dC, dI) vwCl [(vo, .inr (12, [.int voth_15, .ref vmt, .int votp, .int vosz, .int volm, .int voto, .int vofr, .int vokd, .int vonu, .int vosg, .int vofa, .int vopl, .long vowd, .int votd, .ref vmn, .ref vmr, .ref vmk, .ref vms, .ref vma, .ref vmm, .ref vmrn, .ref vmkn, .ref vmik, .ref vmon, .int vosm, .int vohp, .ref vmw, .ref vmf, .ref vmb, .int vomb, .ref vmd, .ref vmc, .int vocm, .int voct, .int vocy, .ref vmx, .int votx, .int vose, .ref vml, .ref vmwr, .int voln, .int vohw, .ref vmno, .int vond, .int voon, .int vowi, .int votop])), (vmn, .inl (cy 0, 575, .inl vmnf))] H := hP
    have hD : va_D A [(vo, .inr (12, [.int voth_15, .ref vmt, .int votp, .int vosz, .int volm, .int voto, .int vofr, .int vokd, .int vonu, .int vosg, .int vofa, .int vopl, .long vowd, .int votd, .ref vmn, .ref vmr, .ref vmk, .ref vms, .ref vma, .ref vmm, .ref vmrn, .ref vmkn, .ref vmik, .ref vmon, .int vosm, .int vohp, .ref vmw, .ref vmf, .ref vmb, .int vomb, .ref vmd, .ref vmc, .int vocm, .int voct, .int vocy, .ref vmx, .int votx, .int vose, .ref vml, .ref vmwr, .int voln, .int vohw, .ref vmno, .int vond, .int voon, .int vowi, .int votop])), (vmn, .inl (cy 0, 575, .inl vmnf))] := hD
    rcases q_16 with aq_16 | aq_16
    · skip
      refine as_i 0 aq_16 ?_
      refine lv_if_ne (tgt := 138) hx hb dX11_holds_131 (by decide) (fun c9 => absurd c9 (by decide)) (fun _ => ?_)
      refine lv_iconst (v := 1) hx hb dX11_holds_134 (by decide) ?_
      refine lv_goto (tgt := 139) hx hb dX11_holds_135 (by decide) ?_
      rw [hQ9]
      exact re_z voth_15 hx hb hr hlocks (Or.inr rfl) (show ((1 : Int32) = 0) ∨ ((1 : Int32) = 1) from (Or.inr (rfl))) (hP.sub [0, 1] rfl) (hD.sub [0, 1] rfl rfl) hS dX11_holds_139
    · skip
      refine as_i 1 aq_16 ?_
      refine lv_if_ne (tgt := 138) hx hb dX11_holds_131 (by decide) (fun _ => ?_) (fun c9 => absurd c9 (by decide))
      refine lv_iconst (v := 0) hx hb dX11_holds_138 (by decide) ?_
      have k_0 : (0 : Int32).toInt = 0 := by decide
      rw [hQ9]
      exact re_z voth_15 hx hb hr hlocks (Or.inl rfl) (show ((0 : Int32) = 0) ∨ ((0 : Int32) = 1) from (Or.inl rfl)) (hP.sub [0, 1] rfl) (hD.sub [0, 1] rfl rfl) hS dX11_holds_139
  by_cases sw_11_2 : z_10.toInt = 2
  · refine as_i 2 (i_eq.mpr (sw_11_2.trans k_2.symm)) ?_
    refine lv_lookup (off := 106) (tgt := 140) hx hb dX11_holds_34 (by decide) (by decide) (by decide) ?_
    have hB := hA2 (by omega)
    refine lv_aload_n hx hb dX11_holds_140 rfl (lv_at hl 3 rfl) ?_
    refine lv_iload hx hb dX11_holds_141 (lv_at hl 1 rfl) ?_
    refine lv_iload_n hx hb dX11_holds_143 rfl (lv_at hl 5 rfl) ?_
    refine jn_i (wr := []) (rV (As := [.int z_5, .int vp]) (rest := []) (ci := 12) ⟨hx, hb, hml, hown, hts⟩ (m_holds_6 l dC dI cy _ vnh vo voth vmt votp vosz volm voto vofr vokd vonu vosg vofa vopl vowd votd vmn vmr vmk vms vma vmm vmrn vmkn vmik vmon vosm vohp vmw vmf vmb vomb vmd vmc vocm voct vocy vmx votx vose vml vmwr voln vohw vmno vond voon vowi votop vmnf z_5 vp ⟨by omega, by omega⟩ r_vp p_vmnf) (cw_X11_438 hts rfl rfl ⟨Nat.le_of_ble_eq_true rfl, Nat.le_of_ble_eq_true rfl⟩) hP hD hK [0, 1] rfl rfl rfl rfl bl0 e0 rfl hl.1 rfl (Nat.le_of_ble_eq_true rfl) dX11_holds_144 ⟨Nat.le_of_ble_eq_true rfl, Nat.le_of_ble_eq_true rfl⟩) hP hD hS hA [0, 1] [] rfl rfl rfl (by decide) (fun r_17 u_19 H locs hp_18 hP hD hS => ?_)
    obtain ⟨voth_20, rfl⟩ : ∃ z, z = u_19 := ⟨_, rfl⟩
    have hp_18 : ((r_17 = 0) ∨ (r_17 = 1)) := hp_18
    have q_21 := hp_18
    have hP : va_P (dC, dI) vwCl [(vo, .inr (12, [.int voth_20, .ref vmt, .int votp, .int vosz, .int volm, .int voto, .int vofr, .int vokd, .int vonu, .int vosg, .int vofa, .int vopl, .long vowd, .int votd, .ref vmn, .ref vmr, .ref vmk, .ref vms, .ref vma, .ref vmm, .ref vmrn, .ref vmkn, .ref vmik, .ref vmon, .int vosm, .int vohp, .ref vmw, .ref vmf, .ref vmb, .int vomb, .ref vmd, .ref vmc, .int vocm, .int voct, .int vocy, .ref vmx, .int votx, .int vose, .ref vml, .ref vmwr, .int voln, .int vohw, .ref vmno, .int vond, .int voon, .int vowi, .int votop])), (vmn, .inl (cy 0, 575, .inl vmnf))] H := hP
    have hD : va_D A [(vo, .inr (12, [.int voth_20, .ref vmt, .int votp, .int vosz, .int volm, .int voto, .int vofr, .int vokd, .int vonu, .int vosg, .int vofa, .int vopl, .long vowd, .int votd, .ref vmn, .ref vmr, .ref vmk, .ref vms, .ref vma, .ref vmm, .ref vmrn, .ref vmkn, .ref vmik, .ref vmon, .int vosm, .int vohp, .ref vmw, .ref vmf, .ref vmb, .int vomb, .ref vmd, .ref vmc, .int vocm, .int voct, .int vocy, .ref vmx, .int votx, .int vose, .ref vml, .ref vmwr, .int voln, .int vohw, .ref vmno, .int vond, .int voon, .int vowi, .int votop])), (vmn, .inl (cy 0, 575, .inl vmnf))] := hD
    rcases q_21 with aq_21 | aq_21
    · skip
      refine as_i 0 aq_21 ?_
      refine lv_if_eq (tgt := 164) hx hb dX11_holds_147 (by decide) (fun _ => ?_) (fun c9 => absurd (by decide) c9)
      refine lv_iconst (v := 0) hx hb dX11_holds_164 (by decide) ?_
      have k_0 : (0 : Int32).toInt = 0 := by decide
      rw [hQ9]
      exact re_z voth_20 hx hb hr hlocks (Or.inl rfl) (show ((0 : Int32) = 0) ∨ ((0 : Int32) = 1) from (Or.inl rfl)) (hP.sub [0, 1] rfl) (hD.sub [0, 1] rfl rfl) hS dX11_holds_165
    · skip
      refine as_i 1 aq_21 ?_
      refine lv_if_eq (tgt := 164) hx hb dX11_holds_147 (by decide) (fun c9 => absurd c9 (by decide)) (fun _ => ?_)
      refine lv_aload_n hx hb dX11_holds_150 rfl (lv_at hl 3 rfl) ?_
      refine lv_iload hx hb dX11_holds_151 (lv_at hl 0 rfl) ?_
      refine lv_iload_n hx hb dX11_holds_153 rfl (lv_at hl 5 rfl) ?_
      refine jn_i (wr := []) (rV (As := [.int z_8, .int vp]) (rest := []) (ci := 12) ⟨hx, hb, hml, hown, hts⟩ (m_holds_6 l dC dI cy _ vnh vo voth_20 vmt votp vosz volm voto vofr vokd vonu vosg vofa vopl vowd votd vmn vmr vmk vms vma vmm vmrn vmkn vmik vmon vosm vohp vmw vmf vmb vomb vmd vmc vocm voct vocy vmx votx vose vml vmwr voln vohw vmno vond voon vowi votop vmnf z_8 vp ⟨by omega, by omega⟩ r_vp p_vmnf) (cw_X11_438 hts rfl rfl ⟨Nat.le_of_ble_eq_true rfl, Nat.le_of_ble_eq_true rfl⟩) hP hD hK [0, 1] rfl rfl rfl rfl bl0 e0 rfl hl.1 rfl (Nat.le_of_ble_eq_true rfl) dX11_holds_154 ⟨Nat.le_of_ble_eq_true rfl, Nat.le_of_ble_eq_true rfl⟩) hP hD hS hA [0, 1] [] rfl rfl rfl (by decide) (fun r_22 u_24 H locs hp_23 hP hD hS => ?_)
      obtain ⟨voth_25, rfl⟩ : ∃ z, z = u_24 := ⟨_, rfl⟩
      have hp_23 : ((r_22 = 0) ∨ (r_22 = 1)) := hp_23
      have q_26 := hp_23
      have hP : va_P (dC, dI) vwCl [(vo, .inr (12, [.int voth_25, .ref vmt, .int votp, .int vosz, .int volm, .int voto, .int vofr, .int vokd, .int vonu, .int vosg, .int vofa, .int vopl, .long vowd, .int votd, .ref vmn, .ref vmr, .ref vmk, .ref vms, .ref vma, .ref vmm, .ref vmrn, .ref vmkn, .ref vmik, .ref vmon, .int vosm, .int vohp, .ref vmw, .ref vmf, .ref vmb, .int vomb, .ref vmd, .ref vmc, .int vocm, .int voct, .int vocy, .ref vmx, .int votx, .int vose, .ref vml, .ref vmwr, .int voln, .int vohw, .ref vmno, .int vond, .int voon, .int vowi, .int votop])), (vmn, .inl (cy 0, 575, .inl vmnf))] H := hP
      have hD : va_D A [(vo, .inr (12, [.int voth_25, .ref vmt, .int votp, .int vosz, .int volm, .int voto, .int vofr, .int vokd, .int vonu, .int vosg, .int vofa, .int vopl, .long vowd, .int votd, .ref vmn, .ref vmr, .ref vmk, .ref vms, .ref vma, .ref vmm, .ref vmrn, .ref vmkn, .ref vmik, .ref vmon, .int vosm, .int vohp, .ref vmw, .ref vmf, .ref vmb, .int vomb, .ref vmd, .ref vmc, .int vocm, .int voct, .int vocy, .ref vmx, .int votx, .int vose, .ref vml, .ref vmwr, .int voln, .int vohw, .ref vmno, .int vond, .int voon, .int vowi, .int votop])), (vmn, .inl (cy 0, 575, .inl vmnf))] := hD
      rcases q_26 with aq_26 | aq_26
      · skip
        refine as_i 0 aq_26 ?_
        refine lv_if_eq (tgt := 164) hx hb dX11_holds_157 (by decide) (fun _ => ?_) (fun c9 => absurd (by decide) c9)
        refine lv_iconst (v := 0) hx hb dX11_holds_164 (by decide) ?_
        have k_0 : (0 : Int32).toInt = 0 := by decide
        rw [hQ9]
        exact re_z voth_25 hx hb hr hlocks (Or.inl rfl) (show ((0 : Int32) = 0) ∨ ((0 : Int32) = 1) from (Or.inl rfl)) (hP.sub [0, 1] rfl) (hD.sub [0, 1] rfl rfl) hS dX11_holds_165
      · skip
        refine as_i 1 aq_26 ?_
        refine lv_if_eq (tgt := 164) hx hb dX11_holds_157 (by decide) (fun c9 => absurd c9 (by decide)) (fun _ => ?_)
        refine lv_iconst (v := 1) hx hb dX11_holds_160 (by decide) ?_
        refine lv_goto (tgt := 165) hx hb dX11_holds_161 (by decide) ?_
        rw [hQ9]
        exact re_z voth_25 hx hb hr hlocks (Or.inr rfl) (show ((1 : Int32) = 0) ∨ ((1 : Int32) = 1) from (Or.inr (rfl))) (hP.sub [0, 1] rfl) (hD.sub [0, 1] rfl rfl) hS dX11_holds_165
  by_cases sw_11_3 : z_10.toInt = 3
  · refine as_i 3 (i_eq.mpr (sw_11_3.trans k_3.symm)) ?_
    refine lv_lookup (off := 132) (tgt := 166) hx hb dX11_holds_34 (by decide) (by decide) (by decide) ?_
    have hB := hA3 (by omega)
    refine lv_aload_n hx hb dX11_holds_166 rfl (lv_at hl 3 rfl) ?_
    refine lv_iload hx hb dX11_holds_167 (lv_at hl 1 rfl) ?_
    refine lv_iload_n hx hb dX11_holds_169 rfl (lv_at hl 5 rfl) ?_
    refine jn_i (wr := []) (rV (As := [.int z_5, .int vp]) (rest := []) (ci := 12) ⟨hx, hb, hml, hown, hts⟩ (m_holds_6 l dC dI cy _ vnh vo voth vmt votp vosz volm voto vofr vokd vonu vosg vofa vopl vowd votd vmn vmr vmk vms vma vmm vmrn vmkn vmik vmon vosm vohp vmw vmf vmb vomb vmd vmc vocm voct vocy vmx votx vose vml vmwr voln vohw vmno vond voon vowi votop vmnf z_5 vp ⟨by omega, by omega⟩ r_vp p_vmnf) (cw_X11_438 hts rfl rfl ⟨Nat.le_of_ble_eq_true rfl, Nat.le_of_ble_eq_true rfl⟩) hP hD hK [0, 1] rfl rfl rfl rfl bl0 e0 rfl hl.1 rfl (Nat.le_of_ble_eq_true rfl) dX11_holds_170 ⟨Nat.le_of_ble_eq_true rfl, Nat.le_of_ble_eq_true rfl⟩) hP hD hS hA [0, 1] [] rfl rfl rfl (by decide) (fun r_27 u_29 H locs hp_28 hP hD hS => ?_)
    obtain ⟨voth_30, rfl⟩ : ∃ z, z = u_29 := ⟨_, rfl⟩
    have hp_28 : ((r_27 = 0) ∨ (r_27 = 1)) := hp_28
    have q_31 := hp_28
    have hP : va_P (dC, dI) vwCl [(vo, .inr (12, [.int voth_30, .ref vmt, .int votp, .int vosz, .int volm, .int voto, .int vofr, .int vokd, .int vonu, .int vosg, .int vofa, .int vopl, .long vowd, .int votd, .ref vmn, .ref vmr, .ref vmk, .ref vms, .ref vma, .ref vmm, .ref vmrn, .ref vmkn, .ref vmik, .ref vmon, .int vosm, .int vohp, .ref vmw, .ref vmf, .ref vmb, .int vomb, .ref vmd, .ref vmc, .int vocm, .int voct, .int vocy, .ref vmx, .int votx, .int vose, .ref vml, .ref vmwr, .int voln, .int vohw, .ref vmno, .int vond, .int voon, .int vowi, .int votop])), (vmn, .inl (cy 0, 575, .inl vmnf))] H := hP
    have hD : va_D A [(vo, .inr (12, [.int voth_30, .ref vmt, .int votp, .int vosz, .int volm, .int voto, .int vofr, .int vokd, .int vonu, .int vosg, .int vofa, .int vopl, .long vowd, .int votd, .ref vmn, .ref vmr, .ref vmk, .ref vms, .ref vma, .ref vmm, .ref vmrn, .ref vmkn, .ref vmik, .ref vmon, .int vosm, .int vohp, .ref vmw, .ref vmf, .ref vmb, .int vomb, .ref vmd, .ref vmc, .int vocm, .int voct, .int vocy, .ref vmx, .int votx, .int vose, .ref vml, .ref vmwr, .int voln, .int vohw, .ref vmno, .int vond, .int voon, .int vowi, .int votop])), (vmn, .inl (cy 0, 575, .inl vmnf))] := hD
    rcases q_31 with aq_31 | aq_31
    · skip
      refine as_i 0 aq_31 ?_
      refine lv_if_ne (tgt := 186) hx hb dX11_holds_173 (by decide) (fun c9 => absurd c9 (by decide)) (fun _ => ?_)
      refine lv_aload_n hx hb dX11_holds_176 rfl (lv_at hl 3 rfl) ?_
      refine lv_iload hx hb dX11_holds_177 (lv_at hl 0 rfl) ?_
      refine lv_iload_n hx hb dX11_holds_179 rfl (lv_at hl 5 rfl) ?_
      refine jn_i (wr := []) (rV (As := [.int z_8, .int vp]) (rest := []) (ci := 12) ⟨hx, hb, hml, hown, hts⟩ (m_holds_6 l dC dI cy _ vnh vo voth_30 vmt votp vosz volm voto vofr vokd vonu vosg vofa vopl vowd votd vmn vmr vmk vms vma vmm vmrn vmkn vmik vmon vosm vohp vmw vmf vmb vomb vmd vmc vocm voct vocy vmx votx vose vml vmwr voln vohw vmno vond voon vowi votop vmnf z_8 vp ⟨by omega, by omega⟩ r_vp p_vmnf) (cw_X11_438 hts rfl rfl ⟨Nat.le_of_ble_eq_true rfl, Nat.le_of_ble_eq_true rfl⟩) hP hD hK [0, 1] rfl rfl rfl rfl bl0 e0 rfl hl.1 rfl (Nat.le_of_ble_eq_true rfl) dX11_holds_180 ⟨Nat.le_of_ble_eq_true rfl, Nat.le_of_ble_eq_true rfl⟩) hP hD hS hA [0, 1] [] rfl rfl rfl (by decide) (fun r_32 u_34 H locs hp_33 hP hD hS => ?_)
      obtain ⟨voth_35, rfl⟩ : ∃ z, z = u_34 := ⟨_, rfl⟩
      have hp_33 : ((r_32 = 0) ∨ (r_32 = 1)) := hp_33
      have q_36 := hp_33
      have hP : va_P (dC, dI) vwCl [(vo, .inr (12, [.int voth_35, .ref vmt, .int votp, .int vosz, .int volm, .int voto, .int vofr, .int vokd, .int vonu, .int vosg, .int vofa, .int vopl, .long vowd, .int votd, .ref vmn, .ref vmr, .ref vmk, .ref vms, .ref vma, .ref vmm, .ref vmrn, .ref vmkn, .ref vmik, .ref vmon, .int vosm, .int vohp, .ref vmw, .ref vmf, .ref vmb, .int vomb, .ref vmd, .ref vmc, .int vocm, .int voct, .int vocy, .ref vmx, .int votx, .int vose, .ref vml, .ref vmwr, .int voln, .int vohw, .ref vmno, .int vond, .int voon, .int vowi, .int votop])), (vmn, .inl (cy 0, 575, .inl vmnf))] H := hP
      have hD : va_D A [(vo, .inr (12, [.int voth_35, .ref vmt, .int votp, .int vosz, .int volm, .int voto, .int vofr, .int vokd, .int vonu, .int vosg, .int vofa, .int vopl, .long vowd, .int votd, .ref vmn, .ref vmr, .ref vmk, .ref vms, .ref vma, .ref vmm, .ref vmrn, .ref vmkn, .ref vmik, .ref vmon, .int vosm, .int vohp, .ref vmw, .ref vmf, .ref vmb, .int vomb, .ref vmd, .ref vmc, .int vocm, .int voct, .int vocy, .ref vmx, .int votx, .int vose, .ref vml, .ref vmwr, .int voln, .int vohw, .ref vmno, .int vond, .int voon, .int vowi, .int votop])), (vmn, .inl (cy 0, 575, .inl vmnf))] := hD
      rcases q_36 with aq_36 | aq_36
      · skip
        refine as_i 0 aq_36 ?_
        refine lv_if_eq (tgt := 190) hx hb dX11_holds_183 (by decide) (fun _ => ?_) (fun c9 => absurd (by decide) c9)
        refine lv_iconst (v := 0) hx hb dX11_holds_190 (by decide) ?_
        have k_0 : (0 : Int32).toInt = 0 := by decide
        rw [hQ9]
        exact re_z voth_35 hx hb hr hlocks (Or.inl rfl) (show ((0 : Int32) = 0) ∨ ((0 : Int32) = 1) from (Or.inl rfl)) (hP.sub [0, 1] rfl) (hD.sub [0, 1] rfl rfl) hS dX11_holds_191
      · skip
        refine as_i 1 aq_36 ?_
        refine lv_if_eq (tgt := 190) hx hb dX11_holds_183 (by decide) (fun c9 => absurd c9 (by decide)) (fun _ => ?_)
        refine lv_iconst (v := 1) hx hb dX11_holds_186 (by decide) ?_
        refine lv_goto (tgt := 191) hx hb dX11_holds_187 (by decide) ?_
        rw [hQ9]
        exact re_z voth_35 hx hb hr hlocks (Or.inr rfl) (show ((1 : Int32) = 0) ∨ ((1 : Int32) = 1) from (Or.inr (rfl))) (hP.sub [0, 1] rfl) (hD.sub [0, 1] rfl rfl) hS dX11_holds_191
    · skip
      refine as_i 1 aq_31 ?_
      refine lv_if_ne (tgt := 186) hx hb dX11_holds_173 (by decide) (fun _ => ?_) (fun c9 => absurd c9 (by decide))
      refine lv_iconst (v := 1) hx hb dX11_holds_186 (by decide) ?_
      refine lv_goto (tgt := 191) hx hb dX11_holds_187 (by decide) ?_
      rw [hQ9]
      exact re_z voth_30 hx hb hr hlocks (Or.inr rfl) (show ((1 : Int32) = 0) ∨ ((1 : Int32) = 1) from (Or.inr (rfl))) (hP.sub [0, 1] rfl) (hD.sub [0, 1] rfl rfl) hS dX11_holds_191
  by_cases sw_11_68 : z_10.toInt = 68
  · refine as_i 68 (i_eq.mpr (sw_11_68.trans k_68.symm)) ?_
    refine lv_lookup (off := 158) (tgt := 192) hx hb dX11_holds_34 (by decide) (by decide) (by decide) ?_
    refine lv_aload_n hx hb dX11_holds_192 rfl (lv_at hl 3 rfl) ?_
    refine lv_iload_n hx hb dX11_holds_193 rfl (lv_at hl 5 rfl) ?_
    refine jr_i (rVr (As := [.int vp]) (rest := []) (ci := 12) ⟨hx, hb, hml, hown, hts⟩ (m_howOf l dC dI cy vnh vo voth vmt votp vosz volm voto vofr vokd vonu vosg vofa vopl vowd votd vmn vmr vmk vms vma vmm vmrn vmkn vmik vmon vosm vohp vmw vmf vmb vomb vmd vmc vocm voct vocy vmx votx vose vml vmwr voln vohw vmno vond voon vowi votop vmnf vp ⟨by omega, by omega⟩ p_vmnf) (cw_X11_256 hts rfl rfl ⟨Nat.le_of_ble_eq_true rfl, Nat.le_of_ble_eq_true rfl⟩) hP hK [0, 1] rfl rfl rfl rfl hl.1 rfl (Nat.le_of_ble_eq_true rfl) dX11_holds_194 ⟨Nat.le_of_ble_eq_true rfl, Nat.le_of_ble_eq_true rfl⟩) hP hS (fun r_37 H locs hp_38 hP hS => ?_)
    have hp_38 : (0 ≤ (r_37 : Int32).toInt ∧ (r_37 : Int32).toInt ≤ 2) := hp_38
    have q_39 := hp_38
    refine lv_iconst (v := 1) hx hb dX11_holds_197 (by decide) ?_
    refine lv_icmp_ne (tgt := 205) hx hb dX11_holds_198 (by decide) (fun c_40 => ?_) (fun c_40 => ?_)
    · skip
      have c_40 : ¬ (r_37.toInt = (1 : Int32).toInt) := fun h9 => c_40 (i_eq.mpr h9)
      refine lv_iconst (v := 0) hx hb dX11_holds_205 (by decide) ?_
      have k_0 : (0 : Int32).toInt = 0 := by decide
      rw [hQ9]
      exact re_z voth hx hb hr hlocks (Or.inl rfl) (show ((0 : Int32) = 0) ∨ ((0 : Int32) = 1) from (Or.inl rfl)) (hP.sub [0, 1] rfl) (hD.sub [0, 1] rfl rfl) hS dX11_holds_206
    · skip
      have c_40 : r_37.toInt = (1 : Int32).toInt := i_eq.mp c_40
      refine lv_iconst (v := 1) hx hb dX11_holds_201 (by decide) ?_
      refine lv_goto (tgt := 206) hx hb dX11_holds_202 (by decide) ?_
      rw [hQ9]
      exact re_z voth hx hb hr hlocks (Or.inr rfl) (show ((1 : Int32) = 0) ∨ ((1 : Int32) = 1) from (Or.inr (rfl))) (hP.sub [0, 1] rfl) (hD.sub [0, 1] rfl rfl) hS dX11_holds_206
  by_cases sw_11_69 : z_10.toInt = 69
  · refine as_i 69 (i_eq.mpr (sw_11_69.trans k_69.symm)) ?_
    refine lv_lookup (off := 173) (tgt := 207) hx hb dX11_holds_34 (by decide) (by decide) (by decide) ?_
    refine lv_aload_n hx hb dX11_holds_207 rfl (lv_at hl 3 rfl) ?_
    refine lv_iload_n hx hb dX11_holds_208 rfl (lv_at hl 5 rfl) ?_
    refine jr_i (rVr (As := [.int vp]) (rest := []) (ci := 12) ⟨hx, hb, hml, hown, hts⟩ (m_howOf l dC dI cy vnh vo voth vmt votp vosz volm voto vofr vokd vonu vosg vofa vopl vowd votd vmn vmr vmk vms vma vmm vmrn vmkn vmik vmon vosm vohp vmw vmf vmb vomb vmd vmc vocm voct vocy vmx votx vose vml vmwr voln vohw vmno vond voon vowi votop vmnf vp ⟨by omega, by omega⟩ p_vmnf) (cw_X11_256 hts rfl rfl ⟨Nat.le_of_ble_eq_true rfl, Nat.le_of_ble_eq_true rfl⟩) hP hK [0, 1] rfl rfl rfl rfl hl.1 rfl (Nat.le_of_ble_eq_true rfl) dX11_holds_209 ⟨Nat.le_of_ble_eq_true rfl, Nat.le_of_ble_eq_true rfl⟩) hP hS (fun r_41 H locs hp_42 hP hS => ?_)
    have hp_42 : (0 ≤ (r_41 : Int32).toInt ∧ (r_41 : Int32).toInt ≤ 2) := hp_42
    have q_43 := hp_42
    have k_0 : (0 : Int32).toInt = 0 := by decide
    refine lv_if_ne (tgt := 219) hx hb dX11_holds_212 (by decide) (fun c_44 => ?_) (fun c_44 => ?_)
    · skip
      have c_44 : ¬ (r_41.toInt = (0 : Int32).toInt) := fun h9 => c_44 (i_eq.mpr h9)
      refine lv_iconst (v := 0) hx hb dX11_holds_219 (by decide) ?_
      rw [hQ9]
      exact re_z voth hx hb hr hlocks (Or.inl rfl) (show ((0 : Int32) = 0) ∨ ((0 : Int32) = 1) from (Or.inl rfl)) (hP.sub [0, 1] rfl) (hD.sub [0, 1] rfl rfl) hS dX11_holds_220
    · skip
      have c_44 : r_41.toInt = (0 : Int32).toInt := i_eq.mp c_44
      refine lv_iconst (v := 1) hx hb dX11_holds_215 (by decide) ?_
      refine lv_goto (tgt := 220) hx hb dX11_holds_216 (by decide) ?_
      rw [hQ9]
      exact re_z voth hx hb hr hlocks (Or.inr rfl) (show ((1 : Int32) = 0) ∨ ((1 : Int32) = 1) from (Or.inr (rfl))) (hP.sub [0, 1] rfl) (hD.sub [0, 1] rfl rfl) hS dX11_holds_220
  by_cases sw_11_70 : z_10.toInt = 70
  · refine as_i 70 (i_eq.mpr (sw_11_70.trans k_70.symm)) ?_
    refine lv_lookup (off := 187) (tgt := 221) hx hb dX11_holds_34 (by decide) (by decide) (by decide) ?_
    refine lv_aload_n hx hb dX11_holds_221 rfl (lv_at hl 3 rfl) ?_
    refine lv_iload_n hx hb dX11_holds_222 rfl (lv_at hl 5 rfl) ?_
    refine jr_i (rVr (As := [.int vp]) (rest := []) (ci := 12) ⟨hx, hb, hml, hown, hts⟩ (m_howOf l dC dI cy vnh vo voth vmt votp vosz volm voto vofr vokd vonu vosg vofa vopl vowd votd vmn vmr vmk vms vma vmm vmrn vmkn vmik vmon vosm vohp vmw vmf vmb vomb vmd vmc vocm voct vocy vmx votx vose vml vmwr voln vohw vmno vond voon vowi votop vmnf vp ⟨by omega, by omega⟩ p_vmnf) (cw_X11_256 hts rfl rfl ⟨Nat.le_of_ble_eq_true rfl, Nat.le_of_ble_eq_true rfl⟩) hP hK [0, 1] rfl rfl rfl rfl hl.1 rfl (Nat.le_of_ble_eq_true rfl) dX11_holds_223 ⟨Nat.le_of_ble_eq_true rfl, Nat.le_of_ble_eq_true rfl⟩) hP hS (fun r_45 H locs hp_46 hP hS => ?_)
    have hp_46 : (0 ≤ (r_45 : Int32).toInt ∧ (r_45 : Int32).toInt ≤ 2) := hp_46
    have q_47 := hp_46
    refine lv_iconst (v := 2) hx hb dX11_holds_226 (by decide) ?_
    refine lv_icmp_ne (tgt := 234) hx hb dX11_holds_227 (by decide) (fun c_48 => ?_) (fun c_48 => ?_)
    · skip
      have c_48 : ¬ (r_45.toInt = (2 : Int32).toInt) := fun h9 => c_48 (i_eq.mpr h9)
      refine lv_iconst (v := 0) hx hb dX11_holds_234 (by decide) ?_
      have k_0 : (0 : Int32).toInt = 0 := by decide
      rw [hQ9]
      exact re_z voth hx hb hr hlocks (Or.inl rfl) (show ((0 : Int32) = 0) ∨ ((0 : Int32) = 1) from (Or.inl rfl)) (hP.sub [0, 1] rfl) (hD.sub [0, 1] rfl rfl) hS dX11_holds_235
    · skip
      have c_48 : r_45.toInt = (2 : Int32).toInt := i_eq.mp c_48
      refine lv_iconst (v := 1) hx hb dX11_holds_230 (by decide) ?_
      refine lv_goto (tgt := 235) hx hb dX11_holds_231 (by decide) ?_
      rw [hQ9]
      exact re_z voth hx hb hr hlocks (Or.inr rfl) (show ((1 : Int32) = 0) ∨ ((1 : Int32) = 1) from (Or.inr (rfl))) (hP.sub [0, 1] rfl) (hD.sub [0, 1] rfl rfl) hS dX11_holds_235
  by_cases sw_11_71 : z_10.toInt = 71
  · refine as_i 71 (i_eq.mpr (sw_11_71.trans k_71.symm)) ?_
    refine lv_lookup (off := 202) (tgt := 236) hx hb dX11_holds_34 (by decide) (by decide) (by decide) ?_
    refine lv_aload_n hx hb dX11_holds_236 rfl (lv_at hl 3 rfl) ?_
    refine gf_X11_98 hx hb hts hown hK hP 0 rfl rfl dX11_holds_237 ?_
    refine lv_sipush (v := 298) hx hb dX11_holds_240 (by decide) ?_
    refine lv_iload_n hx hb dX11_holds_243 rfl (lv_at hl 5 rfl) ?_
    refine lv_iadd hx hb dX11_holds_244 ?_
    refine lv_topi (fun z_49 ez_49 => ?_)
    have k_298 : (298 : Int32).toInt = 298 := by decide
    have bz_49 : z_49.toInt = (298 : Int32).toInt + vp.toInt := i_add ez_49 (by omega) (by omega)
    have hin_50 : vp_in z_49 575 := vp_in_iff.mpr ⟨by omega, by omega⟩
    refine va_iald hx hb hK hP 1 0 rfl rfl hin_50 dX11_holds_245 ?_
    refine lv_topi (fun z_51 ez_51 => ?_)
    have k_0 : (0 : Int32).toInt = 0 := by decide
    refine lv_if_le (tgt := 253) hx hb dX11_holds_246 (by decide) (fun c_52 => ?_) (fun c_52 => ?_)
    · skip
      have c_52 : z_51.toInt ≤ (0 : Int32).toInt := i_le.mp c_52
      refine lv_iconst (v := 0) hx hb dX11_holds_253 (by decide) ?_
      rw [hQ9]
      exact re_z voth hx hb hr hlocks (Or.inl rfl) (show ((0 : Int32) = 0) ∨ ((0 : Int32) = 1) from (Or.inl rfl)) (hP.sub [0, 1] rfl) (hD.sub [0, 1] rfl rfl) hS dX11_holds_254
    · skip
      have c_52 : ¬ (z_51.toInt ≤ (0 : Int32).toInt) := fun h9 => c_52 (i_le.mpr h9)
      refine lv_iconst (v := 1) hx hb dX11_holds_249 (by decide) ?_
      refine lv_goto (tgt := 254) hx hb dX11_holds_250 (by decide) ?_
      rw [hQ9]
      exact re_z voth hx hb hr hlocks (Or.inr rfl) (show ((1 : Int32) = 0) ∨ ((1 : Int32) = 1) from (Or.inr (rfl))) (hP.sub [0, 1] rfl) (hD.sub [0, 1] rfl rfl) hS dX11_holds_254
  by_cases sw_11_72 : z_10.toInt = 72
  · refine as_i 72 (i_eq.mpr (sw_11_72.trans k_72.symm)) ?_
    refine lv_lookup (off := 221) (tgt := 255) hx hb dX11_holds_34 (by decide) (by decide) (by decide) ?_
    refine lv_aload_n hx hb dX11_holds_255 rfl (lv_at hl 3 rfl) ?_
    refine lv_iload_n hx hb dX11_holds_256 rfl (lv_at hl 5 rfl) ?_
    refine jr_i (rVr (As := [.int vp]) (rest := []) (ci := 12) ⟨hx, hb, hml, hown, hts⟩ (m_lends l dC dI cy vnh vo voth vmt votp vosz volm voto vofr vokd vonu vosg vofa vopl vowd votd vmn vmr vmk vms vma vmm vmrn vmkn vmik vmon vosm vohp vmw vmf vmb vomb vmd vmc vocm voct vocy vmx votx vose vml vmwr voln vohw vmno vond voon vowi votop vmnf vp ⟨by omega, by omega⟩ p_vmnf) (cw_X11_265 hts rfl rfl ⟨Nat.le_of_ble_eq_true rfl, Nat.le_of_ble_eq_true rfl⟩) hP hK [0, 1] rfl rfl rfl rfl hl.1 rfl (Nat.le_of_ble_eq_true rfl) dX11_holds_257 ⟨Nat.le_of_ble_eq_true rfl, Nat.le_of_ble_eq_true rfl⟩) hP hS (fun r_53 H locs hp_54 hP hS => ?_)
    have hp_54 : ((r_53 = 0) ∨ (r_53 = 1)) := hp_54
    have q_55 := hp_54
    rcases q_55 with aq_55 | aq_55
    · skip
      refine as_i 0 aq_55 ?_
      have k_0 : (0 : Int32).toInt = 0 := by decide
      rw [hQ9]
      exact re_z voth hx hb hr hlocks (Or.inl rfl) (show ((0 : Int32) = 0) ∨ ((0 : Int32) = 1) from (Or.inl rfl)) (hP.sub [0, 1] rfl) (hD.sub [0, 1] rfl rfl) hS dX11_holds_260
    · skip
      refine as_i 1 aq_55 ?_
      rw [hQ9]
      exact re_z voth hx hb hr hlocks (Or.inr rfl) (show ((1 : Int32) = 0) ∨ ((1 : Int32) = 1) from (Or.inr (rfl))) (hP.sub [0, 1] rfl) (hD.sub [0, 1] rfl rfl) hS dX11_holds_260
  by_cases sw_11_73 : z_10.toInt = 73
  · refine as_i 73 (i_eq.mpr (sw_11_73.trans k_73.symm)) ?_
    refine lv_lookup (off := 227) (tgt := 261) hx hb dX11_holds_34 (by decide) (by decide) (by decide) ?_
    have hB := hA4 (by omega)
    refine lv_aload_n hx hb dX11_holds_261 rfl (lv_at hl 3 rfl) ?_
    refine lv_iload_n hx hb dX11_holds_262 rfl (lv_at hl 5 rfl) ?_
    refine lv_iload hx hb dX11_holds_263 (lv_at hl 1 rfl) ?_
    refine jr_i (rVr (As := [.int vp, .int z_5]) (rest := []) (ci := 12) ⟨hx, hb, hml, hown, hts⟩ (m_didOf l dC dI cy vnh vo voth vmt votp vosz volm voto vofr vokd vonu vosg vofa vopl vowd votd vmn vmr vmk vms vma vmm vmrn vmkn vmik vmon vosm vohp vmw vmf vmb vomb vmd vmc vocm voct vocy vmx votx vose vml vmwr voln vohw vmno vond voon vowi votop vmnf vp z_5 ⟨by omega, by omega⟩ ⟨by omega, by omega⟩ p_vmnf) (cw_X11_228 hts rfl rfl ⟨Nat.le_of_ble_eq_true rfl, Nat.le_of_ble_eq_true rfl⟩) hP hK [0, 1] rfl rfl rfl rfl hl.1 rfl (Nat.le_of_ble_eq_true rfl) dX11_holds_265 ⟨Nat.le_of_ble_eq_true rfl, Nat.le_of_ble_eq_true rfl⟩) hP hS (fun r_56 H locs hp_57 hP hS => ?_)
    have k_0 : (0 : Int32).toInt = 0 := by decide
    refine lv_if_le (tgt := 275) hx hb dX11_holds_268 (by decide) (fun c_58 => ?_) (fun c_58 => ?_)
    · skip
      have c_58 : r_56.toInt ≤ (0 : Int32).toInt := i_le.mp c_58
      refine lv_iconst (v := 0) hx hb dX11_holds_275 (by decide) ?_
      rw [hQ9]
      exact re_z voth hx hb hr hlocks (Or.inl rfl) (show ((0 : Int32) = 0) ∨ ((0 : Int32) = 1) from (Or.inl rfl)) (hP.sub [0, 1] rfl) (hD.sub [0, 1] rfl rfl) hS dX11_holds_276
    · skip
      have c_58 : ¬ (r_56.toInt ≤ (0 : Int32).toInt) := fun h9 => c_58 (i_le.mpr h9)
      refine lv_iconst (v := 1) hx hb dX11_holds_271 (by decide) ?_
      refine lv_goto (tgt := 276) hx hb dX11_holds_272 (by decide) ?_
      rw [hQ9]
      exact re_z voth hx hb hr hlocks (Or.inr rfl) (show ((1 : Int32) = 0) ∨ ((1 : Int32) = 1) from (Or.inr (rfl))) (hP.sub [0, 1] rfl) (hD.sub [0, 1] rfl rfl) hS dX11_holds_276
  by_cases sw_11_74 : z_10.toInt = 74
  · refine as_i 74 (i_eq.mpr (sw_11_74.trans k_74.symm)) ?_
    refine lv_lookup (off := 243) (tgt := 277) hx hb dX11_holds_34 (by decide) (by decide) (by decide) ?_
    refine lv_aload_n hx hb dX11_holds_277 rfl (lv_at hl 3 rfl) ?_
    refine lv_iload hx hb dX11_holds_278 (lv_at hl 1 rfl) ?_
    refine jn_i (wr := []) (rV (As := [.int z_5]) (rest := []) (ci := 12) ⟨hx, hb, hml, hown, hts⟩ (m_family l dC dI cy _ vnh vo voth vmt votp vosz volm voto vofr vokd vonu vosg vofa vopl vowd votd vmn vmr vmk vms vma vmm vmrn vmkn vmik vmon vosm vohp vmw vmf vmb vomb vmd vmc vocm voct vocy vmx votx vose vml vmwr voln vohw vmno vond voon vowi votop vmnf z_5 p_vmnf) (cw_X11_441 hts rfl rfl ⟨Nat.le_of_ble_eq_true rfl, Nat.le_of_ble_eq_true rfl⟩) hP hD hK [0, 1] rfl rfl rfl rfl bl0 e0 rfl hl.1 rfl (Nat.le_of_ble_eq_true rfl) dX11_holds_280 ⟨Nat.le_of_ble_eq_true rfl, Nat.le_of_ble_eq_true rfl⟩) hP hD hS hA [0, 1] [] rfl rfl rfl (by decide) (fun r_59 u_61 H locs hp_60 hP hD hS => ?_)
    obtain ⟨voth_62, rfl⟩ : ∃ z, z = u_61 := ⟨_, rfl⟩
    have hP : va_P (dC, dI) vwCl [(vo, .inr (12, [.int voth_62, .ref vmt, .int votp, .int vosz, .int volm, .int voto, .int vofr, .int vokd, .int vonu, .int vosg, .int vofa, .int vopl, .long vowd, .int votd, .ref vmn, .ref vmr, .ref vmk, .ref vms, .ref vma, .ref vmm, .ref vmrn, .ref vmkn, .ref vmik, .ref vmon, .int vosm, .int vohp, .ref vmw, .ref vmf, .ref vmb, .int vomb, .ref vmd, .ref vmc, .int vocm, .int voct, .int vocy, .ref vmx, .int votx, .int vose, .ref vml, .ref vmwr, .int voln, .int vohw, .ref vmno, .int vond, .int voon, .int vowi, .int votop])), (vmn, .inl (cy 0, 575, .inl vmnf))] H := hP
    have hD : va_D A [(vo, .inr (12, [.int voth_62, .ref vmt, .int votp, .int vosz, .int volm, .int voto, .int vofr, .int vokd, .int vonu, .int vosg, .int vofa, .int vopl, .long vowd, .int votd, .ref vmn, .ref vmr, .ref vmk, .ref vms, .ref vma, .ref vmm, .ref vmrn, .ref vmkn, .ref vmik, .ref vmon, .int vosm, .int vohp, .ref vmw, .ref vmf, .ref vmb, .int vomb, .ref vmd, .ref vmc, .int vocm, .int voct, .int vocy, .ref vmx, .int votx, .int vose, .ref vml, .ref vmwr, .int voln, .int vohw, .ref vmno, .int vond, .int voon, .int vowi, .int votop])), (vmn, .inl (cy 0, 575, .inl vmnf))] := hD
    refine lv_iload_n hx hb dX11_holds_283 rfl (lv_at hl 5 rfl) ?_
    refine jr_i (rSr (As := [.int r_59, .int vp]) (rest := []) ⟨hx, hb, hml, hown, hts⟩ (m_has l dC dI cy r_59 vp ) (cw_X11_194 hts rfl rfl ⟨Nat.le_of_ble_eq_true rfl, Nat.le_of_ble_eq_true rfl⟩) hP hK [] rfl rfl hl.1 rfl (Nat.le_of_ble_eq_true rfl) dX11_holds_284 ⟨Nat.le_of_ble_eq_true rfl, Nat.le_of_ble_eq_true rfl⟩) hP hS (fun r_63 H locs hp_64 hP hS => ?_)
    have hp_64 : ((r_63 = 0) ∨ (r_63 = 1)) := hp_64
    have q_65 := hp_64
    rcases q_65 with aq_65 | aq_65
    · skip
      refine as_i 0 aq_65 ?_
      have k_0 : (0 : Int32).toInt = 0 := by decide
      rw [hQ9]
      exact re_z voth_62 hx hb hr hlocks (Or.inl rfl) (show ((0 : Int32) = 0) ∨ ((0 : Int32) = 1) from (Or.inl rfl)) (hP.sub [0, 1] rfl) (hD.sub [0, 1] rfl rfl) hS dX11_holds_287
    · skip
      refine as_i 1 aq_65 ?_
      rw [hQ9]
      exact re_z voth_62 hx hb hr hlocks (Or.inr rfl) (show ((1 : Int32) = 0) ∨ ((1 : Int32) = 1) from (Or.inr (rfl))) (hP.sub [0, 1] rfl) (hD.sub [0, 1] rfl rfl) hS dX11_holds_287
  have nsw_11_1 : ¬ ((1 : Int) = z_10.toInt) := by omega
  have nsw_11_2 : ¬ ((2 : Int) = z_10.toInt) := by omega
  have nsw_11_3 : ¬ ((3 : Int) = z_10.toInt) := by omega
  have nsw_11_68 : ¬ ((68 : Int) = z_10.toInt) := by omega
  have nsw_11_69 : ¬ ((69 : Int) = z_10.toInt) := by omega
  have nsw_11_70 : ¬ ((70 : Int) = z_10.toInt) := by omega
  have nsw_11_71 : ¬ ((71 : Int) = z_10.toInt) := by omega
  have nsw_11_72 : ¬ ((72 : Int) = z_10.toInt) := by omega
  have nsw_11_73 : ¬ ((73 : Int) = z_10.toInt) := by omega
  have nsw_11_74 : ¬ ((74 : Int) = z_10.toInt) := by omega
  refine lv_lookup (off := 254) (tgt := 288) hx hb dX11_holds_34 (by decide) (by simp only [Op.lookupswitch.offset, if_neg nsw_11_1, if_neg nsw_11_2, if_neg nsw_11_3, if_neg nsw_11_68, if_neg nsw_11_69, if_neg nsw_11_70, if_neg nsw_11_71, if_neg nsw_11_72, if_neg nsw_11_73, if_neg nsw_11_74]) (by decide) ?_
  refine lv_aload_n hx hb dX11_holds_288 rfl (lv_at hl 3 rfl) ?_
  refine gf_X11_98 hx hb hts hown hK hP 0 rfl rfl dX11_holds_289 ?_
  refine lv_iload_n hx hb dX11_holds_292 rfl (lv_at hl 2 rfl) ?_
  have hin_66 : vp_in z_2 575 := vp_in_iff.mpr ⟨by omega, by omega⟩
  refine va_iald hx hb hK hP 1 0 rfl rfl hin_66 dX11_holds_293 ?_
  refine lv_topi (fun z_67 ez_67 => ?_)
  refine lv_bipush (v := 50) hx hb dX11_holds_294 (by decide) ?_
  refine lv_isub hx hb dX11_holds_296 ?_
  refine lv_topi (fun z_68 ez_68 => ?_)
  refine lv_istore (lv' := [(6, .int z_68), (5, .int z_8), (4, .int z_5), (3, .int z_2), (0, .ref vo), (1, .int vk), (2, .int vp)]) hx hb dX11_holds_297 hl (by decide) rfl (fun ls hl => ?_)
  refine lv_iload hx hb dX11_holds_299 (lv_at hl 0 rfl) ?_
  refine lv_bipush (v := 25) hx hb dX11_holds_301 (by decide) ?_
  have k_25 : (25 : Int32).toInt = 25 := by decide
  refine lv_icmp_ne (tgt := 314) hx hb dX11_holds_303 (by decide) (fun c_69 => ?_) (fun c_69 => ?_)
  · skip
    have c_69 : ¬ (z_68.toInt = (25 : Int32).toInt) := fun h9 => c_69 (i_eq.mpr h9)
    refine lv_iload hx hb dX11_holds_314 (lv_at hl 0 rfl) ?_
    refine lv_bipush (v := 26) hx hb dX11_holds_316 (by decide) ?_
    have k_26 : (26 : Int32).toInt = 26 := by decide
    refine lv_icmp_ne (tgt := 329) hx hb dX11_holds_318 (by decide) (fun c_70 => ?_) (fun c_70 => ?_)
    · skip
      have c_70 : ¬ (z_68.toInt = (26 : Int32).toInt) := fun h9 => c_70 (i_eq.mpr h9)
      refine lv_iload hx hb dX11_holds_329 (lv_at hl 0 rfl) ?_
      refine lv_bipush (v := 27) hx hb dX11_holds_331 (by decide) ?_
      have k_27 : (27 : Int32).toInt = 27 := by decide
      refine lv_icmp_ne (tgt := 349) hx hb dX11_holds_333 (by decide) (fun c_71 => ?_) (fun c_71 => ?_)
      · skip
        have c_71 : ¬ (z_68.toInt = (27 : Int32).toInt) := fun h9 => c_71 (i_eq.mpr h9)
        refine lv_iload_n hx hb dX11_holds_349 rfl (lv_at hl 6 rfl) ?_
        refine lv_istore (lv' := [(7, .int vp), (6, .int z_68), (5, .int z_8), (4, .int z_5), (3, .int z_2), (0, .ref vo), (1, .int vk), (2, .int vp)]) hx hb dX11_holds_350 hl (by decide) rfl (fun ls hl => ?_)
        refine lv_aload_n hx hb dX11_holds_352 rfl (lv_at hl 5 rfl) ?_
        refine gf_X11_98 hx hb hts hown hK hP 0 rfl rfl dX11_holds_353 ?_
        refine lv_iload_n hx hb dX11_holds_356 rfl (lv_at hl 4 rfl) ?_
        refine lv_iconst (v := 3) hx hb dX11_holds_357 (by decide) ?_
        refine lv_iadd hx hb dX11_holds_358 ?_
        refine lv_topi (fun z_72 ez_72 => ?_)
        have bz_72 : z_72.toInt = z_2.toInt + (3 : Int32).toInt := i_add ez_72 (by omega) (by omega)
        have hin_73 : vp_in z_72 575 := vp_in_iff.mpr ⟨by omega, by omega⟩
        refine va_iald hx hb hK hP 1 0 rfl rfl hin_73 dX11_holds_359 ?_
        refine lv_topi (fun z_74 ez_74 => ?_)
        refine lv_bipush (v := 60) hx hb dX11_holds_360 (by decide) ?_
        have k_60 : (60 : Int32).toInt = 60 := by decide
        refine lv_icmp_ne (tgt := 380) hx hb dX11_holds_362 (by decide) (fun c_75 => ?_) (fun c_75 => ?_)
        · skip
          have c_75 : ¬ (z_74.toInt = (60 : Int32).toInt) := fun h9 => c_75 (i_eq.mpr h9)
          refine lv_aload_n hx hb dX11_holds_380 rfl (lv_at hl 5 rfl) ?_
          refine gf_X11_98 hx hb hts hown hK hP 0 rfl rfl dX11_holds_381 ?_
          refine lv_iload_n hx hb dX11_holds_384 rfl (lv_at hl 4 rfl) ?_
          refine lv_iconst (v := 3) hx hb dX11_holds_385 (by decide) ?_
          refine lv_iadd hx hb dX11_holds_386 ?_
          refine lv_topi (fun z_76 ez_76 => ?_)
          have bz_76 : z_76.toInt = z_2.toInt + (3 : Int32).toInt := i_add ez_76 (by omega) (by omega)
          have hin_77 : vp_in z_76 575 := vp_in_iff.mpr ⟨by omega, by omega⟩
          refine va_iald hx hb hK hP 1 0 rfl rfl hin_77 dX11_holds_387 ?_
          refine lv_topi (fun z_78 ez_78 => ?_)
          refine lv_bipush (v := 61) hx hb dX11_holds_388 (by decide) ?_
          have k_61 : (61 : Int32).toInt = 61 := by decide
          refine lv_icmp_ne (tgt := 408) hx hb dX11_holds_390 (by decide) (fun c_79 => ?_) (fun c_79 => ?_)
          · skip
            have c_79 : ¬ (z_78.toInt = (61 : Int32).toInt) := fun h9 => c_79 (i_eq.mpr h9)
            refine lv_iload hx hb dX11_holds_408 (lv_at hl 0 rfl) ?_
            refine lv_iload hx hb dX11_holds_410 (lv_at hl 2 rfl) ?_
            refine lv_icmp_le (tgt := 419) hx hb dX11_holds_412 (by decide) (fun c_80 => ?_) (fun c_80 => ?_)
            · skip
              have c_80 : vp.toInt ≤ z_8.toInt := i_le.mp c_80
              refine lv_iconst (v := 0) hx hb dX11_holds_419 (by decide) ?_
              have k_0 : (0 : Int32).toInt = 0 := by decide
              rw [hQ9]
              exact re_z voth hx hb hr hlocks (Or.inl rfl) (show ((0 : Int32) = 0) ∨ ((0 : Int32) = 1) from (Or.inl rfl)) (hP.sub [0, 1] rfl) (hD.sub [0, 1] rfl rfl) hS dX11_holds_420
            · skip
              have c_80 : ¬ (vp.toInt ≤ z_8.toInt) := fun h9 => c_80 (i_le.mpr h9)
              refine lv_iconst (v := 1) hx hb dX11_holds_415 (by decide) ?_
              refine lv_goto (tgt := 420) hx hb dX11_holds_416 (by decide) ?_
              rw [hQ9]
              exact re_z voth hx hb hr hlocks (Or.inr rfl) (show ((1 : Int32) = 0) ∨ ((1 : Int32) = 1) from (Or.inr (rfl))) (hP.sub [0, 1] rfl) (hD.sub [0, 1] rfl rfl) hS dX11_holds_420
          · skip
            have c_79 : z_78.toInt = (61 : Int32).toInt := i_eq.mp c_79
            refine lv_iload hx hb dX11_holds_393 (lv_at hl 0 rfl) ?_
            refine lv_iload hx hb dX11_holds_395 (lv_at hl 2 rfl) ?_
            refine lv_icmp_ne (tgt := 404) hx hb dX11_holds_397 (by decide) (fun c_81 => ?_) (fun c_81 => ?_)
            · skip
              have c_81 : ¬ (vp.toInt = z_8.toInt) := fun h9 => c_81 (i_eq.mpr h9)
              refine lv_iconst (v := 0) hx hb dX11_holds_404 (by decide) ?_
              refine lv_goto (tgt := 420) hx hb dX11_holds_405 (by decide) ?_
              have k_0 : (0 : Int32).toInt = 0 := by decide
              rw [hQ9]
              exact re_z voth hx hb hr hlocks (Or.inl rfl) (show ((0 : Int32) = 0) ∨ ((0 : Int32) = 1) from (Or.inl rfl)) (hP.sub [0, 1] rfl) (hD.sub [0, 1] rfl rfl) hS dX11_holds_420
            · skip
              have c_81 : vp.toInt = z_8.toInt := i_eq.mp c_81
              refine lv_iconst (v := 1) hx hb dX11_holds_400 (by decide) ?_
              refine lv_goto (tgt := 420) hx hb dX11_holds_401 (by decide) ?_
              rw [hQ9]
              exact re_z voth hx hb hr hlocks (Or.inr rfl) (show ((1 : Int32) = 0) ∨ ((1 : Int32) = 1) from (Or.inr (rfl))) (hP.sub [0, 1] rfl) (hD.sub [0, 1] rfl rfl) hS dX11_holds_420
        · skip
          have c_75 : z_74.toInt = (60 : Int32).toInt := i_eq.mp c_75
          refine lv_iload hx hb dX11_holds_365 (lv_at hl 0 rfl) ?_
          refine lv_iload hx hb dX11_holds_367 (lv_at hl 2 rfl) ?_
          refine lv_icmp_ge (tgt := 376) hx hb dX11_holds_369 (by decide) (fun c_82 => ?_) (fun c_82 => ?_)
          · skip
            have c_82 : z_8.toInt ≤ vp.toInt := i_le.mp c_82
            refine lv_iconst (v := 0) hx hb dX11_holds_376 (by decide) ?_
            refine lv_goto (tgt := 420) hx hb dX11_holds_377 (by decide) ?_
            have k_0 : (0 : Int32).toInt = 0 := by decide
            rw [hQ9]
            exact re_z voth hx hb hr hlocks (Or.inl rfl) (show ((0 : Int32) = 0) ∨ ((0 : Int32) = 1) from (Or.inl rfl)) (hP.sub [0, 1] rfl) (hD.sub [0, 1] rfl rfl) hS dX11_holds_420
          · skip
            have c_82 : ¬ (z_8.toInt ≤ vp.toInt) := fun h9 => c_82 (i_le.mpr h9)
            refine lv_iconst (v := 1) hx hb dX11_holds_372 (by decide) ?_
            refine lv_goto (tgt := 420) hx hb dX11_holds_373 (by decide) ?_
            rw [hQ9]
            exact re_z voth hx hb hr hlocks (Or.inr rfl) (show ((1 : Int32) = 0) ∨ ((1 : Int32) = 1) from (Or.inr (rfl))) (hP.sub [0, 1] rfl) (hD.sub [0, 1] rfl rfl) hS dX11_holds_420
      · skip
        have c_71 : z_68.toInt = (27 : Int32).toInt := i_eq.mp c_71
        refine lv_aload_n hx hb dX11_holds_336 rfl (lv_at hl 4 rfl) ?_
        refine gf_X11_98 hx hb hts hown hK hP 0 rfl rfl dX11_holds_337 ?_
        refine lv_sipush (v := 158) hx hb dX11_holds_340 (by decide) ?_
        refine lv_iload_n hx hb dX11_holds_343 rfl (lv_at hl 6 rfl) ?_
        refine lv_iadd hx hb dX11_holds_344 ?_
        refine lv_topi (fun z_83 ez_83 => ?_)
        have k_158 : (158 : Int32).toInt = 158 := by decide
        have bz_83 : z_83.toInt = (158 : Int32).toInt + vp.toInt := i_add ez_83 (by omega) (by omega)
        have hin_84 : vp_in z_83 575 := vp_in_iff.mpr ⟨by omega, by omega⟩
        refine va_iald hx hb hK hP 1 0 rfl rfl hin_84 dX11_holds_345 ?_
        refine lv_topi (fun z_85 ez_85 => ?_)
        refine lv_goto (tgt := 350) hx hb dX11_holds_346 (by decide) ?_
        refine lv_istore (lv' := [(7, .int z_85), (6, .int z_68), (5, .int z_8), (4, .int z_5), (3, .int z_2), (0, .ref vo), (1, .int vk), (2, .int vp)]) hx hb dX11_holds_350 hl (by decide) rfl (fun ls hl => ?_)
        refine lv_aload_n hx hb dX11_holds_352 rfl (lv_at hl 5 rfl) ?_
        refine gf_X11_98 hx hb hts hown hK hP 0 rfl rfl dX11_holds_353 ?_
        refine lv_iload_n hx hb dX11_holds_356 rfl (lv_at hl 4 rfl) ?_
        refine lv_iconst (v := 3) hx hb dX11_holds_357 (by decide) ?_
        refine lv_iadd hx hb dX11_holds_358 ?_
        refine lv_topi (fun z_86 ez_86 => ?_)
        have bz_86 : z_86.toInt = z_2.toInt + (3 : Int32).toInt := i_add ez_86 (by omega) (by omega)
        have hin_87 : vp_in z_86 575 := vp_in_iff.mpr ⟨by omega, by omega⟩
        refine va_iald hx hb hK hP 1 0 rfl rfl hin_87 dX11_holds_359 ?_
        refine lv_topi (fun z_88 ez_88 => ?_)
        refine lv_bipush (v := 60) hx hb dX11_holds_360 (by decide) ?_
        have k_60 : (60 : Int32).toInt = 60 := by decide
        refine lv_icmp_ne (tgt := 380) hx hb dX11_holds_362 (by decide) (fun c_89 => ?_) (fun c_89 => ?_)
        · skip
          have c_89 : ¬ (z_88.toInt = (60 : Int32).toInt) := fun h9 => c_89 (i_eq.mpr h9)
          refine lv_aload_n hx hb dX11_holds_380 rfl (lv_at hl 5 rfl) ?_
          refine gf_X11_98 hx hb hts hown hK hP 0 rfl rfl dX11_holds_381 ?_
          refine lv_iload_n hx hb dX11_holds_384 rfl (lv_at hl 4 rfl) ?_
          refine lv_iconst (v := 3) hx hb dX11_holds_385 (by decide) ?_
          refine lv_iadd hx hb dX11_holds_386 ?_
          refine lv_topi (fun z_90 ez_90 => ?_)
          have bz_90 : z_90.toInt = z_2.toInt + (3 : Int32).toInt := i_add ez_90 (by omega) (by omega)
          have hin_91 : vp_in z_90 575 := vp_in_iff.mpr ⟨by omega, by omega⟩
          refine va_iald hx hb hK hP 1 0 rfl rfl hin_91 dX11_holds_387 ?_
          refine lv_topi (fun z_92 ez_92 => ?_)
          refine lv_bipush (v := 61) hx hb dX11_holds_388 (by decide) ?_
          have k_61 : (61 : Int32).toInt = 61 := by decide
          refine lv_icmp_ne (tgt := 408) hx hb dX11_holds_390 (by decide) (fun c_93 => ?_) (fun c_93 => ?_)
          · skip
            have c_93 : ¬ (z_92.toInt = (61 : Int32).toInt) := fun h9 => c_93 (i_eq.mpr h9)
            refine lv_iload hx hb dX11_holds_408 (lv_at hl 0 rfl) ?_
            refine lv_iload hx hb dX11_holds_410 (lv_at hl 2 rfl) ?_
            refine lv_icmp_le (tgt := 419) hx hb dX11_holds_412 (by decide) (fun c_94 => ?_) (fun c_94 => ?_)
            · skip
              have c_94 : z_85.toInt ≤ z_8.toInt := i_le.mp c_94
              refine lv_iconst (v := 0) hx hb dX11_holds_419 (by decide) ?_
              have k_0 : (0 : Int32).toInt = 0 := by decide
              rw [hQ9]
              exact re_z voth hx hb hr hlocks (Or.inl rfl) (show ((0 : Int32) = 0) ∨ ((0 : Int32) = 1) from (Or.inl rfl)) (hP.sub [0, 1] rfl) (hD.sub [0, 1] rfl rfl) hS dX11_holds_420
            · skip
              have c_94 : ¬ (z_85.toInt ≤ z_8.toInt) := fun h9 => c_94 (i_le.mpr h9)
              refine lv_iconst (v := 1) hx hb dX11_holds_415 (by decide) ?_
              refine lv_goto (tgt := 420) hx hb dX11_holds_416 (by decide) ?_
              rw [hQ9]
              exact re_z voth hx hb hr hlocks (Or.inr rfl) (show ((1 : Int32) = 0) ∨ ((1 : Int32) = 1) from (Or.inr (rfl))) (hP.sub [0, 1] rfl) (hD.sub [0, 1] rfl rfl) hS dX11_holds_420
          · skip
            have c_93 : z_92.toInt = (61 : Int32).toInt := i_eq.mp c_93
            refine lv_iload hx hb dX11_holds_393 (lv_at hl 0 rfl) ?_
            refine lv_iload hx hb dX11_holds_395 (lv_at hl 2 rfl) ?_
            refine lv_icmp_ne (tgt := 404) hx hb dX11_holds_397 (by decide) (fun c_95 => ?_) (fun c_95 => ?_)
            · skip
              have c_95 : ¬ (z_85.toInt = z_8.toInt) := fun h9 => c_95 (i_eq.mpr h9)
              refine lv_iconst (v := 0) hx hb dX11_holds_404 (by decide) ?_
              refine lv_goto (tgt := 420) hx hb dX11_holds_405 (by decide) ?_
              have k_0 : (0 : Int32).toInt = 0 := by decide
              rw [hQ9]
              exact re_z voth hx hb hr hlocks (Or.inl rfl) (show ((0 : Int32) = 0) ∨ ((0 : Int32) = 1) from (Or.inl rfl)) (hP.sub [0, 1] rfl) (hD.sub [0, 1] rfl rfl) hS dX11_holds_420
            · skip
              have c_95 : z_85.toInt = z_8.toInt := i_eq.mp c_95
              refine lv_iconst (v := 1) hx hb dX11_holds_400 (by decide) ?_
              refine lv_goto (tgt := 420) hx hb dX11_holds_401 (by decide) ?_
              rw [hQ9]
              exact re_z voth hx hb hr hlocks (Or.inr rfl) (show ((1 : Int32) = 0) ∨ ((1 : Int32) = 1) from (Or.inr (rfl))) (hP.sub [0, 1] rfl) (hD.sub [0, 1] rfl rfl) hS dX11_holds_420
        · skip
          have c_89 : z_88.toInt = (60 : Int32).toInt := i_eq.mp c_89
          refine lv_iload hx hb dX11_holds_365 (lv_at hl 0 rfl) ?_
          refine lv_iload hx hb dX11_holds_367 (lv_at hl 2 rfl) ?_
          refine lv_icmp_ge (tgt := 376) hx hb dX11_holds_369 (by decide) (fun c_96 => ?_) (fun c_96 => ?_)
          · skip
            have c_96 : z_8.toInt ≤ z_85.toInt := i_le.mp c_96
            refine lv_iconst (v := 0) hx hb dX11_holds_376 (by decide) ?_
            refine lv_goto (tgt := 420) hx hb dX11_holds_377 (by decide) ?_
            have k_0 : (0 : Int32).toInt = 0 := by decide
            rw [hQ9]
            exact re_z voth hx hb hr hlocks (Or.inl rfl) (show ((0 : Int32) = 0) ∨ ((0 : Int32) = 1) from (Or.inl rfl)) (hP.sub [0, 1] rfl) (hD.sub [0, 1] rfl rfl) hS dX11_holds_420
          · skip
            have c_96 : ¬ (z_8.toInt ≤ z_85.toInt) := fun h9 => c_96 (i_le.mpr h9)
            refine lv_iconst (v := 1) hx hb dX11_holds_372 (by decide) ?_
            refine lv_goto (tgt := 420) hx hb dX11_holds_373 (by decide) ?_
            rw [hQ9]
            exact re_z voth hx hb hr hlocks (Or.inr rfl) (show ((1 : Int32) = 0) ∨ ((1 : Int32) = 1) from (Or.inr (rfl))) (hP.sub [0, 1] rfl) (hD.sub [0, 1] rfl rfl) hS dX11_holds_420
    · skip
      have c_70 : z_68.toInt = (26 : Int32).toInt := i_eq.mp c_70
      refine lv_aload_n hx hb dX11_holds_321 rfl (lv_at hl 4 rfl) ?_
      refine lv_iload_n hx hb dX11_holds_322 rfl (lv_at hl 6 rfl) ?_
      refine jr_i (rVr (As := [.int vp]) (rest := []) (ci := 12) ⟨hx, hb, hml, hown, hts⟩ (m_darkOf l dC dI cy vnh vo voth vmt votp vosz volm voto vofr vokd vonu vosg vofa vopl vowd votd vmn vmr vmk vms vma vmm vmrn vmkn vmik vmon vosm vohp vmw vmf vmb vomb vmd vmc vocm voct vocy vmx votx vose vml vmwr voln vohw vmno vond voon vowi votop vmnf vp ⟨by omega, by omega⟩ p_vmnf) (cw_X11_244 hts rfl rfl ⟨Nat.le_of_ble_eq_true rfl, Nat.le_of_ble_eq_true rfl⟩) hP hK [0, 1] rfl rfl rfl rfl hl.1 rfl (Nat.le_of_ble_eq_true rfl) dX11_holds_323 ⟨Nat.le_of_ble_eq_true rfl, Nat.le_of_ble_eq_true rfl⟩) hP hS (fun r_97 H locs hp_98 hP hS => ?_)
      refine lv_goto (tgt := 350) hx hb dX11_holds_326 (by decide) ?_
      refine lv_istore (lv' := [(7, .int r_97), (6, .int z_68), (5, .int z_8), (4, .int z_5), (3, .int z_2), (0, .ref vo), (1, .int vk), (2, .int vp)]) hx hb dX11_holds_350 hl (by decide) rfl (fun ls hl => ?_)
      refine lv_aload_n hx hb dX11_holds_352 rfl (lv_at hl 5 rfl) ?_
      refine gf_X11_98 hx hb hts hown hK hP 0 rfl rfl dX11_holds_353 ?_
      refine lv_iload_n hx hb dX11_holds_356 rfl (lv_at hl 4 rfl) ?_
      refine lv_iconst (v := 3) hx hb dX11_holds_357 (by decide) ?_
      refine lv_iadd hx hb dX11_holds_358 ?_
      refine lv_topi (fun z_99 ez_99 => ?_)
      have bz_99 : z_99.toInt = z_2.toInt + (3 : Int32).toInt := i_add ez_99 (by omega) (by omega)
      have hin_100 : vp_in z_99 575 := vp_in_iff.mpr ⟨by omega, by omega⟩
      refine va_iald hx hb hK hP 1 0 rfl rfl hin_100 dX11_holds_359 ?_
      refine lv_topi (fun z_101 ez_101 => ?_)
      refine lv_bipush (v := 60) hx hb dX11_holds_360 (by decide) ?_
      have k_60 : (60 : Int32).toInt = 60 := by decide
      refine lv_icmp_ne (tgt := 380) hx hb dX11_holds_362 (by decide) (fun c_102 => ?_) (fun c_102 => ?_)
      · skip
        have c_102 : ¬ (z_101.toInt = (60 : Int32).toInt) := fun h9 => c_102 (i_eq.mpr h9)
        refine lv_aload_n hx hb dX11_holds_380 rfl (lv_at hl 5 rfl) ?_
        refine gf_X11_98 hx hb hts hown hK hP 0 rfl rfl dX11_holds_381 ?_
        refine lv_iload_n hx hb dX11_holds_384 rfl (lv_at hl 4 rfl) ?_
        refine lv_iconst (v := 3) hx hb dX11_holds_385 (by decide) ?_
        refine lv_iadd hx hb dX11_holds_386 ?_
        refine lv_topi (fun z_103 ez_103 => ?_)
        have bz_103 : z_103.toInt = z_2.toInt + (3 : Int32).toInt := i_add ez_103 (by omega) (by omega)
        have hin_104 : vp_in z_103 575 := vp_in_iff.mpr ⟨by omega, by omega⟩
        refine va_iald hx hb hK hP 1 0 rfl rfl hin_104 dX11_holds_387 ?_
        refine lv_topi (fun z_105 ez_105 => ?_)
        refine lv_bipush (v := 61) hx hb dX11_holds_388 (by decide) ?_
        have k_61 : (61 : Int32).toInt = 61 := by decide
        refine lv_icmp_ne (tgt := 408) hx hb dX11_holds_390 (by decide) (fun c_106 => ?_) (fun c_106 => ?_)
        · skip
          have c_106 : ¬ (z_105.toInt = (61 : Int32).toInt) := fun h9 => c_106 (i_eq.mpr h9)
          refine lv_iload hx hb dX11_holds_408 (lv_at hl 0 rfl) ?_
          refine lv_iload hx hb dX11_holds_410 (lv_at hl 2 rfl) ?_
          refine lv_icmp_le (tgt := 419) hx hb dX11_holds_412 (by decide) (fun c_107 => ?_) (fun c_107 => ?_)
          · skip
            have c_107 : r_97.toInt ≤ z_8.toInt := i_le.mp c_107
            refine lv_iconst (v := 0) hx hb dX11_holds_419 (by decide) ?_
            have k_0 : (0 : Int32).toInt = 0 := by decide
            rw [hQ9]
            exact re_z voth hx hb hr hlocks (Or.inl rfl) (show ((0 : Int32) = 0) ∨ ((0 : Int32) = 1) from (Or.inl rfl)) (hP.sub [0, 1] rfl) (hD.sub [0, 1] rfl rfl) hS dX11_holds_420
          · skip
            have c_107 : ¬ (r_97.toInt ≤ z_8.toInt) := fun h9 => c_107 (i_le.mpr h9)
            refine lv_iconst (v := 1) hx hb dX11_holds_415 (by decide) ?_
            refine lv_goto (tgt := 420) hx hb dX11_holds_416 (by decide) ?_
            rw [hQ9]
            exact re_z voth hx hb hr hlocks (Or.inr rfl) (show ((1 : Int32) = 0) ∨ ((1 : Int32) = 1) from (Or.inr (rfl))) (hP.sub [0, 1] rfl) (hD.sub [0, 1] rfl rfl) hS dX11_holds_420
        · skip
          have c_106 : z_105.toInt = (61 : Int32).toInt := i_eq.mp c_106
          refine lv_iload hx hb dX11_holds_393 (lv_at hl 0 rfl) ?_
          refine lv_iload hx hb dX11_holds_395 (lv_at hl 2 rfl) ?_
          refine lv_icmp_ne (tgt := 404) hx hb dX11_holds_397 (by decide) (fun c_108 => ?_) (fun c_108 => ?_)
          · skip
            have c_108 : ¬ (r_97.toInt = z_8.toInt) := fun h9 => c_108 (i_eq.mpr h9)
            refine lv_iconst (v := 0) hx hb dX11_holds_404 (by decide) ?_
            refine lv_goto (tgt := 420) hx hb dX11_holds_405 (by decide) ?_
            have k_0 : (0 : Int32).toInt = 0 := by decide
            rw [hQ9]
            exact re_z voth hx hb hr hlocks (Or.inl rfl) (show ((0 : Int32) = 0) ∨ ((0 : Int32) = 1) from (Or.inl rfl)) (hP.sub [0, 1] rfl) (hD.sub [0, 1] rfl rfl) hS dX11_holds_420
          · skip
            have c_108 : r_97.toInt = z_8.toInt := i_eq.mp c_108
            refine lv_iconst (v := 1) hx hb dX11_holds_400 (by decide) ?_
            refine lv_goto (tgt := 420) hx hb dX11_holds_401 (by decide) ?_
            rw [hQ9]
            exact re_z voth hx hb hr hlocks (Or.inr rfl) (show ((1 : Int32) = 0) ∨ ((1 : Int32) = 1) from (Or.inr (rfl))) (hP.sub [0, 1] rfl) (hD.sub [0, 1] rfl rfl) hS dX11_holds_420
      · skip
        have c_102 : z_101.toInt = (60 : Int32).toInt := i_eq.mp c_102
        refine lv_iload hx hb dX11_holds_365 (lv_at hl 0 rfl) ?_
        refine lv_iload hx hb dX11_holds_367 (lv_at hl 2 rfl) ?_
        refine lv_icmp_ge (tgt := 376) hx hb dX11_holds_369 (by decide) (fun c_109 => ?_) (fun c_109 => ?_)
        · skip
          have c_109 : z_8.toInt ≤ r_97.toInt := i_le.mp c_109
          refine lv_iconst (v := 0) hx hb dX11_holds_376 (by decide) ?_
          refine lv_goto (tgt := 420) hx hb dX11_holds_377 (by decide) ?_
          have k_0 : (0 : Int32).toInt = 0 := by decide
          rw [hQ9]
          exact re_z voth hx hb hr hlocks (Or.inl rfl) (show ((0 : Int32) = 0) ∨ ((0 : Int32) = 1) from (Or.inl rfl)) (hP.sub [0, 1] rfl) (hD.sub [0, 1] rfl rfl) hS dX11_holds_420
        · skip
          have c_109 : ¬ (z_8.toInt ≤ r_97.toInt) := fun h9 => c_109 (i_le.mpr h9)
          refine lv_iconst (v := 1) hx hb dX11_holds_372 (by decide) ?_
          refine lv_goto (tgt := 420) hx hb dX11_holds_373 (by decide) ?_
          rw [hQ9]
          exact re_z voth hx hb hr hlocks (Or.inr rfl) (show ((1 : Int32) = 0) ∨ ((1 : Int32) = 1) from (Or.inr (rfl))) (hP.sub [0, 1] rfl) (hD.sub [0, 1] rfl rfl) hS dX11_holds_420
  · skip
    have c_69 : z_68.toInt = (25 : Int32).toInt := i_eq.mp c_69
    refine lv_aload_n hx hb dX11_holds_306 rfl (lv_at hl 4 rfl) ?_
    refine lv_iload_n hx hb dX11_holds_307 rfl (lv_at hl 6 rfl) ?_
    refine jr_i (rVr (As := [.int vp]) (rest := []) (ci := 12) ⟨hx, hb, hml, hown, hts⟩ (m_whiteOf l dC dI cy vnh vo voth vmt votp vosz volm voto vofr vokd vonu vosg vofa vopl vowd votd vmn vmr vmk vms vma vmm vmrn vmkn vmik vmon vosm vohp vmw vmf vmb vomb vmd vmc vocm voct vocy vmx votx vose vml vmwr voln vohw vmno vond voon vowi votop vmnf vp ⟨by omega, by omega⟩ p_vmnf) (cw_X11_241 hts rfl rfl ⟨Nat.le_of_ble_eq_true rfl, Nat.le_of_ble_eq_true rfl⟩) hP hK [0, 1] rfl rfl rfl rfl hl.1 rfl (Nat.le_of_ble_eq_true rfl) dX11_holds_308 ⟨Nat.le_of_ble_eq_true rfl, Nat.le_of_ble_eq_true rfl⟩) hP hS (fun r_110 H locs hp_111 hP hS => ?_)
    refine lv_goto (tgt := 350) hx hb dX11_holds_311 (by decide) ?_
    refine lv_istore (lv' := [(7, .int r_110), (6, .int z_68), (5, .int z_8), (4, .int z_5), (3, .int z_2), (0, .ref vo), (1, .int vk), (2, .int vp)]) hx hb dX11_holds_350 hl (by decide) rfl (fun ls hl => ?_)
    refine lv_aload_n hx hb dX11_holds_352 rfl (lv_at hl 5 rfl) ?_
    refine gf_X11_98 hx hb hts hown hK hP 0 rfl rfl dX11_holds_353 ?_
    refine lv_iload_n hx hb dX11_holds_356 rfl (lv_at hl 4 rfl) ?_
    refine lv_iconst (v := 3) hx hb dX11_holds_357 (by decide) ?_
    refine lv_iadd hx hb dX11_holds_358 ?_
    refine lv_topi (fun z_112 ez_112 => ?_)
    have bz_112 : z_112.toInt = z_2.toInt + (3 : Int32).toInt := i_add ez_112 (by omega) (by omega)
    have hin_113 : vp_in z_112 575 := vp_in_iff.mpr ⟨by omega, by omega⟩
    refine va_iald hx hb hK hP 1 0 rfl rfl hin_113 dX11_holds_359 ?_
    refine lv_topi (fun z_114 ez_114 => ?_)
    refine lv_bipush (v := 60) hx hb dX11_holds_360 (by decide) ?_
    have k_60 : (60 : Int32).toInt = 60 := by decide
    refine lv_icmp_ne (tgt := 380) hx hb dX11_holds_362 (by decide) (fun c_115 => ?_) (fun c_115 => ?_)
    · skip
      have c_115 : ¬ (z_114.toInt = (60 : Int32).toInt) := fun h9 => c_115 (i_eq.mpr h9)
      refine lv_aload_n hx hb dX11_holds_380 rfl (lv_at hl 5 rfl) ?_
      refine gf_X11_98 hx hb hts hown hK hP 0 rfl rfl dX11_holds_381 ?_
      refine lv_iload_n hx hb dX11_holds_384 rfl (lv_at hl 4 rfl) ?_
      refine lv_iconst (v := 3) hx hb dX11_holds_385 (by decide) ?_
      refine lv_iadd hx hb dX11_holds_386 ?_
      refine lv_topi (fun z_116 ez_116 => ?_)
      have bz_116 : z_116.toInt = z_2.toInt + (3 : Int32).toInt := i_add ez_116 (by omega) (by omega)
      have hin_117 : vp_in z_116 575 := vp_in_iff.mpr ⟨by omega, by omega⟩
      refine va_iald hx hb hK hP 1 0 rfl rfl hin_117 dX11_holds_387 ?_
      refine lv_topi (fun z_118 ez_118 => ?_)
      refine lv_bipush (v := 61) hx hb dX11_holds_388 (by decide) ?_
      have k_61 : (61 : Int32).toInt = 61 := by decide
      refine lv_icmp_ne (tgt := 408) hx hb dX11_holds_390 (by decide) (fun c_119 => ?_) (fun c_119 => ?_)
      · skip
        have c_119 : ¬ (z_118.toInt = (61 : Int32).toInt) := fun h9 => c_119 (i_eq.mpr h9)
        refine lv_iload hx hb dX11_holds_408 (lv_at hl 0 rfl) ?_
        refine lv_iload hx hb dX11_holds_410 (lv_at hl 2 rfl) ?_
        refine lv_icmp_le (tgt := 419) hx hb dX11_holds_412 (by decide) (fun c_120 => ?_) (fun c_120 => ?_)
        · skip
          have c_120 : r_110.toInt ≤ z_8.toInt := i_le.mp c_120
          refine lv_iconst (v := 0) hx hb dX11_holds_419 (by decide) ?_
          have k_0 : (0 : Int32).toInt = 0 := by decide
          rw [hQ9]
          exact re_z voth hx hb hr hlocks (Or.inl rfl) (show ((0 : Int32) = 0) ∨ ((0 : Int32) = 1) from (Or.inl rfl)) (hP.sub [0, 1] rfl) (hD.sub [0, 1] rfl rfl) hS dX11_holds_420
        · skip
          have c_120 : ¬ (r_110.toInt ≤ z_8.toInt) := fun h9 => c_120 (i_le.mpr h9)
          refine lv_iconst (v := 1) hx hb dX11_holds_415 (by decide) ?_
          refine lv_goto (tgt := 420) hx hb dX11_holds_416 (by decide) ?_
          rw [hQ9]
          exact re_z voth hx hb hr hlocks (Or.inr rfl) (show ((1 : Int32) = 0) ∨ ((1 : Int32) = 1) from (Or.inr (rfl))) (hP.sub [0, 1] rfl) (hD.sub [0, 1] rfl rfl) hS dX11_holds_420
      · skip
        have c_119 : z_118.toInt = (61 : Int32).toInt := i_eq.mp c_119
        refine lv_iload hx hb dX11_holds_393 (lv_at hl 0 rfl) ?_
        refine lv_iload hx hb dX11_holds_395 (lv_at hl 2 rfl) ?_
        refine lv_icmp_ne (tgt := 404) hx hb dX11_holds_397 (by decide) (fun c_121 => ?_) (fun c_121 => ?_)
        · skip
          have c_121 : ¬ (r_110.toInt = z_8.toInt) := fun h9 => c_121 (i_eq.mpr h9)
          refine lv_iconst (v := 0) hx hb dX11_holds_404 (by decide) ?_
          refine lv_goto (tgt := 420) hx hb dX11_holds_405 (by decide) ?_
          have k_0 : (0 : Int32).toInt = 0 := by decide
          rw [hQ9]
          exact re_z voth hx hb hr hlocks (Or.inl rfl) (show ((0 : Int32) = 0) ∨ ((0 : Int32) = 1) from (Or.inl rfl)) (hP.sub [0, 1] rfl) (hD.sub [0, 1] rfl rfl) hS dX11_holds_420
        · skip
          have c_121 : r_110.toInt = z_8.toInt := i_eq.mp c_121
          refine lv_iconst (v := 1) hx hb dX11_holds_400 (by decide) ?_
          refine lv_goto (tgt := 420) hx hb dX11_holds_401 (by decide) ?_
          rw [hQ9]
          exact re_z voth hx hb hr hlocks (Or.inr rfl) (show ((1 : Int32) = 0) ∨ ((1 : Int32) = 1) from (Or.inr (rfl))) (hP.sub [0, 1] rfl) (hD.sub [0, 1] rfl rfl) hS dX11_holds_420
    · skip
      have c_115 : z_114.toInt = (60 : Int32).toInt := i_eq.mp c_115
      refine lv_iload hx hb dX11_holds_365 (lv_at hl 0 rfl) ?_
      refine lv_iload hx hb dX11_holds_367 (lv_at hl 2 rfl) ?_
      refine lv_icmp_ge (tgt := 376) hx hb dX11_holds_369 (by decide) (fun c_122 => ?_) (fun c_122 => ?_)
      · skip
        have c_122 : z_8.toInt ≤ r_110.toInt := i_le.mp c_122
        refine lv_iconst (v := 0) hx hb dX11_holds_376 (by decide) ?_
        refine lv_goto (tgt := 420) hx hb dX11_holds_377 (by decide) ?_
        have k_0 : (0 : Int32).toInt = 0 := by decide
        rw [hQ9]
        exact re_z voth hx hb hr hlocks (Or.inl rfl) (show ((0 : Int32) = 0) ∨ ((0 : Int32) = 1) from (Or.inl rfl)) (hP.sub [0, 1] rfl) (hD.sub [0, 1] rfl rfl) hS dX11_holds_420
      · skip
        have c_122 : ¬ (z_8.toInt ≤ r_110.toInt) := fun h9 => c_122 (i_le.mpr h9)
        refine lv_iconst (v := 1) hx hb dX11_holds_372 (by decide) ?_
        refine lv_goto (tgt := 420) hx hb dX11_holds_373 (by decide) ?_
        rw [hQ9]
        exact re_z voth hx hb hr hlocks (Or.inr rfl) (show ((1 : Int32) = 0) ∨ ((1 : Int32) = 1) from (Or.inr (rfl))) (hP.sub [0, 1] rfl) (hD.sub [0, 1] rfl rfl) hS dX11_holds_420
abbrev O_m_holds_8 (cy : Nat → ClassId) (vnh : Nat → Int32) (vo : Nat) (voth : Int32) (vmt : Nat) (votp : Int32) (vosz : Int32) (volm : Int32) (voto : Int32) (vofr : Int32) (vokd : Int32) (vonu : Int32) (vosg : Int32) (vofa : Int32) (vopl : Int32) (vowd : Int64) (votd : Int32) (vmn : Nat) (vmr : Nat) (vmk : Nat) (vms : Nat) (vma : Nat) (vmm : Nat) (vmrn : Nat) (vmkn : Nat) (vmik : Nat) (vmon : Nat) (vosm : Int32) (vohp : Int32) (vmw : Nat) (vmf : Nat) (vmb : Nat) (vomb : Int32) (vmd : Nat) (vmc : Nat) (vocm : Int32) (voct : Int32) (vocy : Int32) (vmx : Nat) (votx : Int32) (vose : Int32) (vml : Nat) (vmwr : Nat) (voln : Int32) (vohw : Int32) (vmno : Nat) (vond : Int32) (voon : Int32) (vowi : Int32) (votop : Int32) (vmnf : Nat → Int32) (vk : Int32) (vp : Int32) (u : Int32) : va_W := [(vo, .inr (12, [.int u, .ref vmt, .int votp, .int vosz, .int volm, .int voto, .int vofr, .int vokd, .int vonu, .int vosg, .int vofa, .int vopl, .long vowd, .int votd, .ref vmn, .ref vmr, .ref vmk, .ref vms, .ref vma, .ref vmm, .ref vmrn, .ref vmkn, .ref vmik, .ref vmon, .int vosm, .int vohp, .ref vmw, .ref vmf, .ref vmb, .int vomb, .ref vmd, .ref vmc, .int vocm, .int voct, .int vocy, .ref vmx, .int votx, .int vose, .ref vml, .ref vmwr, .int voln, .int vohw, .ref vmno, .int vond, .int voon, .int vowi, .int votop])), (vmn, .inl (cy 0, 575, .inl vmnf))]
set_option maxHeartbeats 4000000 in
set_option maxRecDepth 100000 in
theorem m_holds_8 (l : Launch) (dC : Nat → ClassId) (dI : Nat → Nat → Nat) (cy : Nat → ClassId) (sz : Nat) (vnh : Nat → Int32) (vo : Nat) (voth : Int32) (vmt : Nat) (votp : Int32) (vosz : Int32) (volm : Int32) (voto : Int32) (vofr : Int32) (vokd : Int32) (vonu : Int32) (vosg : Int32) (vofa : Int32) (vopl : Int32) (vowd : Int64) (votd : Int32) (vmn : Nat) (vmr : Nat) (vmk : Nat) (vms : Nat) (vma : Nat) (vmm : Nat) (vmrn : Nat) (vmkn : Nat) (vmik : Nat) (vmon : Nat) (vosm : Int32) (vohp : Int32) (vmw : Nat) (vmf : Nat) (vmb : Nat) (vomb : Int32) (vmd : Nat) (vmc : Nat) (vocm : Int32) (voct : Int32) (vocy : Int32) (vmx : Nat) (votx : Int32) (vose : Int32) (vml : Nat) (vmwr : Nat) (voln : Int32) (vohw : Int32) (vmno : Nat) (vond : Int32) (voon : Int32) (vowi : Int32) (votop : Int32) (vmnf : Nat → Int32) (vk : Int32) (vp : Int32) (r_vk : 0 ≤ (vk : Int32).toInt ∧ (vk : Int32).toInt ≤ 8) (r_vp : 0 ≤ (vp : Int32).toInt ∧ (vp : Int32).toInt ≤ 6) (p_vmnf : NW vnh vmnf) : Met l yX11_holds (wl yX11_holds cX11_holds 8 (some .boolean)) ({ frames := 14, cells := 0, slots := 0, locals := 896 }) (Pw (dC, dI) vwCl cy [(vo, .inr (12, [.int voth, .ref vmt, .int votp, .int vosz, .int volm, .int voto, .int vofr, .int vokd, .int vonu, .int vosg, .int vofa, .int vopl, .long vowd, .int votd, .ref vmn, .ref vmr, .ref vmk, .ref vms, .ref vma, .ref vmm, .ref vmrn, .ref vmkn, .ref vmik, .ref vmon, .int vosm, .int vohp, .ref vmw, .ref vmf, .ref vmb, .int vomb, .ref vmd, .ref vmc, .int vocm, .int voct, .int vocy, .ref vmx, .int votx, .int vose, .ref vml, .ref vmwr, .int voln, .int vohw, .ref vmno, .int vond, .int voon, .int vowi, .int votop])), (vmn, .inl (cy 0, 575, .inl vmnf))] sz [.ref vo, .int vk, .int vp] nE) (Qi (dC, dI) vwCl (fun (r : Int32) (u : Int32) => ((r = 0) ∨ (r = 1))) (O_m_holds_8 cy vnh vo voth vmt votp vosz volm voto vofr vokd vonu vosg vofa vopl vowd votd vmn vmr vmk vms vma vmm vmrn vmkn vmik vmon vosm vohp vmw vmf vmb vomb vmd vmc vocm voct vocy vmx votx vose vml vmwr voln vohw vmno vond voon vowi votop vmnf vk vp) (va_A [(vo, .inr (12, [.int voth, .ref vmt, .int votp, .int vosz, .int volm, .int voto, .int vofr, .int vokd, .int vonu, .int vosg, .int vofa, .int vopl, .long vowd, .int votd, .ref vmn, .ref vmr, .ref vmk, .ref vms, .ref vma, .ref vmm, .ref vmrn, .ref vmkn, .ref vmik, .ref vmon, .int vosm, .int vohp, .ref vmw, .ref vmf, .ref vmb, .int vomb, .ref vmd, .ref vmc, .int vocm, .int voct, .int vocy, .ref vmx, .int votx, .int vose, .ref vml, .ref vmwr, .int voln, .int vohw, .ref vmno, .int vond, .int voon, .int vowi, .int votop])), (vmn, .inl (cy 0, 575, .inl vmnf))] sz)) 0 0 (va_A [(vo, .inr (12, [.int voth, .ref vmt, .int votp, .int vosz, .int volm, .int voto, .int vofr, .int vokd, .int vonu, .int vosg, .int vofa, .int vopl, .long vowd, .int votd, .ref vmn, .ref vmr, .ref vmk, .ref vms, .ref vma, .ref vmm, .ref vmrn, .ref vmkn, .ref vmik, .ref vmon, .int vosm, .int vohp, .ref vmw, .ref vmf, .ref vmb, .int vomb, .ref vmd, .ref vmc, .int vocm, .int voct, .int vocy, .ref vmx, .int votx, .int vose, .ref vml, .ref vmwr, .int voln, .int vohw, .ref vmno, .int vond, .int voon, .int vowi, .int votop])), (vmn, .inl (cy 0, 575, .inl vmnf))] sz) := by
  refine mw (Qc := Qi (dC, dI) vwCl (fun (r : Int32) (u : Int32) => ((r = 0) ∨ (r = 1))) (O_m_holds_8 cy vnh vo voth vmt votp vosz volm voto vofr vokd vonu vosg vofa vopl vowd votd vmn vmr vmk vms vma vmm vmrn vmkn vmik vmon vosm vohp vmw vmf vmb vomb vmd vmc vocm voct vocy vmx votx vose vml vmwr voln vohw vmno vond voon vowi votop vmnf vk vp)) RX11 rfl (by decide +kernel) (Nat.le_of_ble_eq_true rfl) ?_
  intro p e s m below meth c A hx hb hr hlocks av9 hav hts hown hnm hml hK hP hD hA hS hE hAe Q9 hQ9 ls hl
  have hl : lv_has ls 8 [(0, .ref vo), (1, .int vk), (2, .int vp)] := hl
  refine lv_sipush (v := 335) hx hb dX11_holds_0 (by decide) ?_
  refine lv_iconst (v := 4) hx hb dX11_holds_3 (by decide) ?_
  refine lv_iload_n hx hb dX11_holds_4 rfl (lv_at hl 1 rfl) ?_
  refine lv_imul hx hb dX11_holds_5 ?_
  refine lv_topi (fun z_1 ez_1 => ?_)
  have k_4 : (4 : Int32).toInt = 4 := by decide
  have bz_1 : z_1.toInt = vk.toInt * 4 := i_cmul k_4 ez_1 (by omega) (by omega)
  refine lv_iadd hx hb dX11_holds_6 ?_
  refine lv_topi (fun z_2 ez_2 => ?_)
  have k_335 : (335 : Int32).toInt = 335 := by decide
  have bz_2 : z_2.toInt = (335 : Int32).toInt + z_1.toInt := i_add ez_2 (by omega) (by omega)
  refine lv_istore_n (lv' := [(3, .int z_2), (0, .ref vo), (1, .int vk), (2, .int vp)]) hx hb dX11_holds_7 rfl hl (by decide) rfl (fun ls hl => ?_)
  refine lv_aload_n hx hb dX11_holds_8 rfl (lv_at hl 1 rfl) ?_
  refine gf_X11_98 hx hb hts hown hK hP 0 rfl rfl dX11_holds_9 ?_
  refine lv_iload_n hx hb dX11_holds_12 rfl (lv_at hl 0 rfl) ?_
  refine lv_iconst (v := 1) hx hb dX11_holds_13 (by decide) ?_
  refine lv_iadd hx hb dX11_holds_14 ?_
  refine lv_topi (fun z_3 ez_3 => ?_)
  have k_1 : (1 : Int32).toInt = 1 := by decide
  have bz_3 : z_3.toInt = z_2.toInt + (1 : Int32).toInt := i_add ez_3 (by omega) (by omega)
  have hin_4 : vp_in z_3 575 := vp_in_iff.mpr ⟨by omega, by omega⟩
  refine va_iald hx hb hK hP 1 0 rfl rfl hin_4 dX11_holds_15 ?_
  refine lv_topi (fun z_5 ez_5 => ?_)
  refine lv_istore (lv' := [(4, .int z_5), (3, .int z_2), (0, .ref vo), (1, .int vk), (2, .int vp)]) hx hb dX11_holds_16 hl (by decide) rfl (fun ls hl => ?_)
  refine lv_aload_n hx hb dX11_holds_18 rfl (lv_at hl 2 rfl) ?_
  refine gf_X11_98 hx hb hts hown hK hP 0 rfl rfl dX11_holds_19 ?_
  refine lv_iload_n hx hb dX11_holds_22 rfl (lv_at hl 1 rfl) ?_
  refine lv_iconst (v := 2) hx hb dX11_holds_23 (by decide) ?_
  refine lv_iadd hx hb dX11_holds_24 ?_
  refine lv_topi (fun z_6 ez_6 => ?_)
  have k_2 : (2 : Int32).toInt = 2 := by decide
  have bz_6 : z_6.toInt = z_2.toInt + (2 : Int32).toInt := i_add ez_6 (by omega) (by omega)
  have hin_7 : vp_in z_6 575 := vp_in_iff.mpr ⟨by omega, by omega⟩
  refine va_iald hx hb hK hP 1 0 rfl rfl hin_7 dX11_holds_25 ?_
  refine lv_topi (fun z_8 ez_8 => ?_)
  refine lv_istore (lv' := [(5, .int z_8), (4, .int z_5), (3, .int z_2), (0, .ref vo), (1, .int vk), (2, .int vp)]) hx hb dX11_holds_26 hl (by decide) rfl (fun ls hl => ?_)
  refine lv_aload_n hx hb dX11_holds_28 rfl (lv_at hl 3 rfl) ?_
  refine gf_X11_98 hx hb hts hown hK hP 0 rfl rfl dX11_holds_29 ?_
  refine lv_iload_n hx hb dX11_holds_32 rfl (lv_at hl 2 rfl) ?_
  have hin_9 : vp_in z_2 575 := vp_in_iff.mpr ⟨by omega, by omega⟩
  refine va_iald hx hb hK hP 1 0 rfl rfl hin_9 dX11_holds_33 ?_
  refine lv_topi (fun z_10 ez_10 => ?_)
  obtain ⟨hA1, hA2, hA3, hA4⟩ := NW.node p_vmnf (k := vk) ⟨by omega, by omega⟩ (i1 := z_3) (by omega) ez_5 (i2 := z_6) (by omega) ez_8 (i0 := z_2) (by omega) ez_10
  have k_3 : (3 : Int32).toInt = 3 := by decide
  have k_68 : (68 : Int32).toInt = 68 := by decide
  have k_69 : (69 : Int32).toInt = 69 := by decide
  have k_70 : (70 : Int32).toInt = 70 := by decide
  have k_71 : (71 : Int32).toInt = 71 := by decide
  have k_72 : (72 : Int32).toInt = 72 := by decide
  have k_73 : (73 : Int32).toInt = 73 := by decide
  have k_74 : (74 : Int32).toInt = 74 := by decide
  by_cases sw_11_1 : z_10.toInt = 1
  · refine as_i 1 (i_eq.mpr (sw_11_1.trans k_1.symm)) ?_
    refine lv_lookup (off := 90) (tgt := 124) hx hb dX11_holds_34 (by decide) (by decide) (by decide) ?_
    have hB := hA1 (by omega)
    refine lv_aload_n hx hb dX11_holds_124 rfl (lv_at hl 3 rfl) ?_
    refine lv_iload hx hb dX11_holds_125 (lv_at hl 1 rfl) ?_
    refine lv_iload_n hx hb dX11_holds_127 rfl (lv_at hl 5 rfl) ?_
    refine jn_i (wr := []) (rV (As := [.int z_5, .int vp]) (rest := []) (ci := 12) ⟨hx, hb, hml, hown, hts⟩ (m_holds_7 l dC dI cy _ vnh vo voth vmt votp vosz volm voto vofr vokd vonu vosg vofa vopl vowd votd vmn vmr vmk vms vma vmm vmrn vmkn vmik vmon vosm vohp vmw vmf vmb vomb vmd vmc vocm voct vocy vmx votx vose vml vmwr voln vohw vmno vond voon vowi votop vmnf z_5 vp ⟨by omega, by omega⟩ r_vp p_vmnf) (cw_X11_438 hts rfl rfl ⟨Nat.le_of_ble_eq_true rfl, Nat.le_of_ble_eq_true rfl⟩) hP hD hK [0, 1] rfl rfl rfl rfl bl0 e0 rfl hl.1 rfl (Nat.le_of_ble_eq_true rfl) dX11_holds_128 ⟨Nat.le_of_ble_eq_true rfl, Nat.le_of_ble_eq_true rfl⟩) hP hD hS hA [0, 1] [] rfl rfl rfl (by decide) (fun r_12 u_14 H locs hp_13 hP hD hS => ?_)
    obtain ⟨voth_15, rfl⟩ : ∃ z, z = u_14 := ⟨_, rfl⟩
    have hp_13 : ((r_12 = 0) ∨ (r_12 = 1)) := hp_13
    have q_16 := hp_13
    have hP : va_P (dC, dI) vwCl [(vo, .inr (12, [.int voth_15, .ref vmt, .int votp, .int vosz, .int volm, .int voto, .int vofr, .int vokd, .int vonu, .int vosg, .int vofa, .int vopl, .long vowd, .int votd, .ref vmn, .ref vmr, .ref vmk, .ref vms, .ref vma, .ref vmm, .ref vmrn, .ref vmkn, .ref vmik, .ref vmon, .int vosm, .int vohp, .ref vmw, .ref vmf, .ref vmb, .int vomb, .ref vmd, .ref vmc, .int vocm, .int voct, .int vocy, .ref vmx, .int votx, .int vose, .ref vml, .ref vmwr, .int voln, .int vohw, .ref vmno, .int vond, .int voon, .int vowi, .int votop])), (vmn, .inl (cy 0, 575, .inl vmnf))] H := hP
    have hD : va_D A [(vo, .inr (12, [.int voth_15, .ref vmt, .int votp, .int vosz, .int volm, .int voto, .int vofr, .int vokd, .int vonu, .int vosg, .int vofa, .int vopl, .long vowd, .int votd, .ref vmn, .ref vmr, .ref vmk, .ref vms, .ref vma, .ref vmm, .ref vmrn, .ref vmkn, .ref vmik, .ref vmon, .int vosm, .int vohp, .ref vmw, .ref vmf, .ref vmb, .int vomb, .ref vmd, .ref vmc, .int vocm, .int voct, .int vocy, .ref vmx, .int votx, .int vose, .ref vml, .ref vmwr, .int voln, .int vohw, .ref vmno, .int vond, .int voon, .int vowi, .int votop])), (vmn, .inl (cy 0, 575, .inl vmnf))] := hD
    rcases q_16 with aq_16 | aq_16
    · skip
      refine as_i 0 aq_16 ?_
      refine lv_if_ne (tgt := 138) hx hb dX11_holds_131 (by decide) (fun c9 => absurd c9 (by decide)) (fun _ => ?_)
      refine lv_iconst (v := 1) hx hb dX11_holds_134 (by decide) ?_
      refine lv_goto (tgt := 139) hx hb dX11_holds_135 (by decide) ?_
      rw [hQ9]
      exact re_z voth_15 hx hb hr hlocks (Or.inr rfl) (show ((1 : Int32) = 0) ∨ ((1 : Int32) = 1) from (Or.inr (rfl))) (hP.sub [0, 1] rfl) (hD.sub [0, 1] rfl rfl) hS dX11_holds_139
    · skip
      refine as_i 1 aq_16 ?_
      refine lv_if_ne (tgt := 138) hx hb dX11_holds_131 (by decide) (fun _ => ?_) (fun c9 => absurd c9 (by decide))
      refine lv_iconst (v := 0) hx hb dX11_holds_138 (by decide) ?_
      have k_0 : (0 : Int32).toInt = 0 := by decide
      rw [hQ9]
      exact re_z voth_15 hx hb hr hlocks (Or.inl rfl) (show ((0 : Int32) = 0) ∨ ((0 : Int32) = 1) from (Or.inl rfl)) (hP.sub [0, 1] rfl) (hD.sub [0, 1] rfl rfl) hS dX11_holds_139
  by_cases sw_11_2 : z_10.toInt = 2
  · refine as_i 2 (i_eq.mpr (sw_11_2.trans k_2.symm)) ?_
    refine lv_lookup (off := 106) (tgt := 140) hx hb dX11_holds_34 (by decide) (by decide) (by decide) ?_
    have hB := hA2 (by omega)
    refine lv_aload_n hx hb dX11_holds_140 rfl (lv_at hl 3 rfl) ?_
    refine lv_iload hx hb dX11_holds_141 (lv_at hl 1 rfl) ?_
    refine lv_iload_n hx hb dX11_holds_143 rfl (lv_at hl 5 rfl) ?_
    refine jn_i (wr := []) (rV (As := [.int z_5, .int vp]) (rest := []) (ci := 12) ⟨hx, hb, hml, hown, hts⟩ (m_holds_7 l dC dI cy _ vnh vo voth vmt votp vosz volm voto vofr vokd vonu vosg vofa vopl vowd votd vmn vmr vmk vms vma vmm vmrn vmkn vmik vmon vosm vohp vmw vmf vmb vomb vmd vmc vocm voct vocy vmx votx vose vml vmwr voln vohw vmno vond voon vowi votop vmnf z_5 vp ⟨by omega, by omega⟩ r_vp p_vmnf) (cw_X11_438 hts rfl rfl ⟨Nat.le_of_ble_eq_true rfl, Nat.le_of_ble_eq_true rfl⟩) hP hD hK [0, 1] rfl rfl rfl rfl bl0 e0 rfl hl.1 rfl (Nat.le_of_ble_eq_true rfl) dX11_holds_144 ⟨Nat.le_of_ble_eq_true rfl, Nat.le_of_ble_eq_true rfl⟩) hP hD hS hA [0, 1] [] rfl rfl rfl (by decide) (fun r_17 u_19 H locs hp_18 hP hD hS => ?_)
    obtain ⟨voth_20, rfl⟩ : ∃ z, z = u_19 := ⟨_, rfl⟩
    have hp_18 : ((r_17 = 0) ∨ (r_17 = 1)) := hp_18
    have q_21 := hp_18
    have hP : va_P (dC, dI) vwCl [(vo, .inr (12, [.int voth_20, .ref vmt, .int votp, .int vosz, .int volm, .int voto, .int vofr, .int vokd, .int vonu, .int vosg, .int vofa, .int vopl, .long vowd, .int votd, .ref vmn, .ref vmr, .ref vmk, .ref vms, .ref vma, .ref vmm, .ref vmrn, .ref vmkn, .ref vmik, .ref vmon, .int vosm, .int vohp, .ref vmw, .ref vmf, .ref vmb, .int vomb, .ref vmd, .ref vmc, .int vocm, .int voct, .int vocy, .ref vmx, .int votx, .int vose, .ref vml, .ref vmwr, .int voln, .int vohw, .ref vmno, .int vond, .int voon, .int vowi, .int votop])), (vmn, .inl (cy 0, 575, .inl vmnf))] H := hP
    have hD : va_D A [(vo, .inr (12, [.int voth_20, .ref vmt, .int votp, .int vosz, .int volm, .int voto, .int vofr, .int vokd, .int vonu, .int vosg, .int vofa, .int vopl, .long vowd, .int votd, .ref vmn, .ref vmr, .ref vmk, .ref vms, .ref vma, .ref vmm, .ref vmrn, .ref vmkn, .ref vmik, .ref vmon, .int vosm, .int vohp, .ref vmw, .ref vmf, .ref vmb, .int vomb, .ref vmd, .ref vmc, .int vocm, .int voct, .int vocy, .ref vmx, .int votx, .int vose, .ref vml, .ref vmwr, .int voln, .int vohw, .ref vmno, .int vond, .int voon, .int vowi, .int votop])), (vmn, .inl (cy 0, 575, .inl vmnf))] := hD
    rcases q_21 with aq_21 | aq_21
    · skip
      refine as_i 0 aq_21 ?_
      refine lv_if_eq (tgt := 164) hx hb dX11_holds_147 (by decide) (fun _ => ?_) (fun c9 => absurd (by decide) c9)
      refine lv_iconst (v := 0) hx hb dX11_holds_164 (by decide) ?_
      have k_0 : (0 : Int32).toInt = 0 := by decide
      rw [hQ9]
      exact re_z voth_20 hx hb hr hlocks (Or.inl rfl) (show ((0 : Int32) = 0) ∨ ((0 : Int32) = 1) from (Or.inl rfl)) (hP.sub [0, 1] rfl) (hD.sub [0, 1] rfl rfl) hS dX11_holds_165
    · skip
      refine as_i 1 aq_21 ?_
      refine lv_if_eq (tgt := 164) hx hb dX11_holds_147 (by decide) (fun c9 => absurd c9 (by decide)) (fun _ => ?_)
      refine lv_aload_n hx hb dX11_holds_150 rfl (lv_at hl 3 rfl) ?_
      refine lv_iload hx hb dX11_holds_151 (lv_at hl 0 rfl) ?_
      refine lv_iload_n hx hb dX11_holds_153 rfl (lv_at hl 5 rfl) ?_
      refine jn_i (wr := []) (rV (As := [.int z_8, .int vp]) (rest := []) (ci := 12) ⟨hx, hb, hml, hown, hts⟩ (m_holds_7 l dC dI cy _ vnh vo voth_20 vmt votp vosz volm voto vofr vokd vonu vosg vofa vopl vowd votd vmn vmr vmk vms vma vmm vmrn vmkn vmik vmon vosm vohp vmw vmf vmb vomb vmd vmc vocm voct vocy vmx votx vose vml vmwr voln vohw vmno vond voon vowi votop vmnf z_8 vp ⟨by omega, by omega⟩ r_vp p_vmnf) (cw_X11_438 hts rfl rfl ⟨Nat.le_of_ble_eq_true rfl, Nat.le_of_ble_eq_true rfl⟩) hP hD hK [0, 1] rfl rfl rfl rfl bl0 e0 rfl hl.1 rfl (Nat.le_of_ble_eq_true rfl) dX11_holds_154 ⟨Nat.le_of_ble_eq_true rfl, Nat.le_of_ble_eq_true rfl⟩) hP hD hS hA [0, 1] [] rfl rfl rfl (by decide) (fun r_22 u_24 H locs hp_23 hP hD hS => ?_)
      obtain ⟨voth_25, rfl⟩ : ∃ z, z = u_24 := ⟨_, rfl⟩
      have hp_23 : ((r_22 = 0) ∨ (r_22 = 1)) := hp_23
      have q_26 := hp_23
      have hP : va_P (dC, dI) vwCl [(vo, .inr (12, [.int voth_25, .ref vmt, .int votp, .int vosz, .int volm, .int voto, .int vofr, .int vokd, .int vonu, .int vosg, .int vofa, .int vopl, .long vowd, .int votd, .ref vmn, .ref vmr, .ref vmk, .ref vms, .ref vma, .ref vmm, .ref vmrn, .ref vmkn, .ref vmik, .ref vmon, .int vosm, .int vohp, .ref vmw, .ref vmf, .ref vmb, .int vomb, .ref vmd, .ref vmc, .int vocm, .int voct, .int vocy, .ref vmx, .int votx, .int vose, .ref vml, .ref vmwr, .int voln, .int vohw, .ref vmno, .int vond, .int voon, .int vowi, .int votop])), (vmn, .inl (cy 0, 575, .inl vmnf))] H := hP
      have hD : va_D A [(vo, .inr (12, [.int voth_25, .ref vmt, .int votp, .int vosz, .int volm, .int voto, .int vofr, .int vokd, .int vonu, .int vosg, .int vofa, .int vopl, .long vowd, .int votd, .ref vmn, .ref vmr, .ref vmk, .ref vms, .ref vma, .ref vmm, .ref vmrn, .ref vmkn, .ref vmik, .ref vmon, .int vosm, .int vohp, .ref vmw, .ref vmf, .ref vmb, .int vomb, .ref vmd, .ref vmc, .int vocm, .int voct, .int vocy, .ref vmx, .int votx, .int vose, .ref vml, .ref vmwr, .int voln, .int vohw, .ref vmno, .int vond, .int voon, .int vowi, .int votop])), (vmn, .inl (cy 0, 575, .inl vmnf))] := hD
      rcases q_26 with aq_26 | aq_26
      · skip
        refine as_i 0 aq_26 ?_
        refine lv_if_eq (tgt := 164) hx hb dX11_holds_157 (by decide) (fun _ => ?_) (fun c9 => absurd (by decide) c9)
        refine lv_iconst (v := 0) hx hb dX11_holds_164 (by decide) ?_
        have k_0 : (0 : Int32).toInt = 0 := by decide
        rw [hQ9]
        exact re_z voth_25 hx hb hr hlocks (Or.inl rfl) (show ((0 : Int32) = 0) ∨ ((0 : Int32) = 1) from (Or.inl rfl)) (hP.sub [0, 1] rfl) (hD.sub [0, 1] rfl rfl) hS dX11_holds_165
      · skip
        refine as_i 1 aq_26 ?_
        refine lv_if_eq (tgt := 164) hx hb dX11_holds_157 (by decide) (fun c9 => absurd c9 (by decide)) (fun _ => ?_)
        refine lv_iconst (v := 1) hx hb dX11_holds_160 (by decide) ?_
        refine lv_goto (tgt := 165) hx hb dX11_holds_161 (by decide) ?_
        rw [hQ9]
        exact re_z voth_25 hx hb hr hlocks (Or.inr rfl) (show ((1 : Int32) = 0) ∨ ((1 : Int32) = 1) from (Or.inr (rfl))) (hP.sub [0, 1] rfl) (hD.sub [0, 1] rfl rfl) hS dX11_holds_165
  by_cases sw_11_3 : z_10.toInt = 3
  · refine as_i 3 (i_eq.mpr (sw_11_3.trans k_3.symm)) ?_
    refine lv_lookup (off := 132) (tgt := 166) hx hb dX11_holds_34 (by decide) (by decide) (by decide) ?_
    have hB := hA3 (by omega)
    refine lv_aload_n hx hb dX11_holds_166 rfl (lv_at hl 3 rfl) ?_
    refine lv_iload hx hb dX11_holds_167 (lv_at hl 1 rfl) ?_
    refine lv_iload_n hx hb dX11_holds_169 rfl (lv_at hl 5 rfl) ?_
    refine jn_i (wr := []) (rV (As := [.int z_5, .int vp]) (rest := []) (ci := 12) ⟨hx, hb, hml, hown, hts⟩ (m_holds_7 l dC dI cy _ vnh vo voth vmt votp vosz volm voto vofr vokd vonu vosg vofa vopl vowd votd vmn vmr vmk vms vma vmm vmrn vmkn vmik vmon vosm vohp vmw vmf vmb vomb vmd vmc vocm voct vocy vmx votx vose vml vmwr voln vohw vmno vond voon vowi votop vmnf z_5 vp ⟨by omega, by omega⟩ r_vp p_vmnf) (cw_X11_438 hts rfl rfl ⟨Nat.le_of_ble_eq_true rfl, Nat.le_of_ble_eq_true rfl⟩) hP hD hK [0, 1] rfl rfl rfl rfl bl0 e0 rfl hl.1 rfl (Nat.le_of_ble_eq_true rfl) dX11_holds_170 ⟨Nat.le_of_ble_eq_true rfl, Nat.le_of_ble_eq_true rfl⟩) hP hD hS hA [0, 1] [] rfl rfl rfl (by decide) (fun r_27 u_29 H locs hp_28 hP hD hS => ?_)
    obtain ⟨voth_30, rfl⟩ : ∃ z, z = u_29 := ⟨_, rfl⟩
    have hp_28 : ((r_27 = 0) ∨ (r_27 = 1)) := hp_28
    have q_31 := hp_28
    have hP : va_P (dC, dI) vwCl [(vo, .inr (12, [.int voth_30, .ref vmt, .int votp, .int vosz, .int volm, .int voto, .int vofr, .int vokd, .int vonu, .int vosg, .int vofa, .int vopl, .long vowd, .int votd, .ref vmn, .ref vmr, .ref vmk, .ref vms, .ref vma, .ref vmm, .ref vmrn, .ref vmkn, .ref vmik, .ref vmon, .int vosm, .int vohp, .ref vmw, .ref vmf, .ref vmb, .int vomb, .ref vmd, .ref vmc, .int vocm, .int voct, .int vocy, .ref vmx, .int votx, .int vose, .ref vml, .ref vmwr, .int voln, .int vohw, .ref vmno, .int vond, .int voon, .int vowi, .int votop])), (vmn, .inl (cy 0, 575, .inl vmnf))] H := hP
    have hD : va_D A [(vo, .inr (12, [.int voth_30, .ref vmt, .int votp, .int vosz, .int volm, .int voto, .int vofr, .int vokd, .int vonu, .int vosg, .int vofa, .int vopl, .long vowd, .int votd, .ref vmn, .ref vmr, .ref vmk, .ref vms, .ref vma, .ref vmm, .ref vmrn, .ref vmkn, .ref vmik, .ref vmon, .int vosm, .int vohp, .ref vmw, .ref vmf, .ref vmb, .int vomb, .ref vmd, .ref vmc, .int vocm, .int voct, .int vocy, .ref vmx, .int votx, .int vose, .ref vml, .ref vmwr, .int voln, .int vohw, .ref vmno, .int vond, .int voon, .int vowi, .int votop])), (vmn, .inl (cy 0, 575, .inl vmnf))] := hD
    rcases q_31 with aq_31 | aq_31
    · skip
      refine as_i 0 aq_31 ?_
      refine lv_if_ne (tgt := 186) hx hb dX11_holds_173 (by decide) (fun c9 => absurd c9 (by decide)) (fun _ => ?_)
      refine lv_aload_n hx hb dX11_holds_176 rfl (lv_at hl 3 rfl) ?_
      refine lv_iload hx hb dX11_holds_177 (lv_at hl 0 rfl) ?_
      refine lv_iload_n hx hb dX11_holds_179 rfl (lv_at hl 5 rfl) ?_
      refine jn_i (wr := []) (rV (As := [.int z_8, .int vp]) (rest := []) (ci := 12) ⟨hx, hb, hml, hown, hts⟩ (m_holds_7 l dC dI cy _ vnh vo voth_30 vmt votp vosz volm voto vofr vokd vonu vosg vofa vopl vowd votd vmn vmr vmk vms vma vmm vmrn vmkn vmik vmon vosm vohp vmw vmf vmb vomb vmd vmc vocm voct vocy vmx votx vose vml vmwr voln vohw vmno vond voon vowi votop vmnf z_8 vp ⟨by omega, by omega⟩ r_vp p_vmnf) (cw_X11_438 hts rfl rfl ⟨Nat.le_of_ble_eq_true rfl, Nat.le_of_ble_eq_true rfl⟩) hP hD hK [0, 1] rfl rfl rfl rfl bl0 e0 rfl hl.1 rfl (Nat.le_of_ble_eq_true rfl) dX11_holds_180 ⟨Nat.le_of_ble_eq_true rfl, Nat.le_of_ble_eq_true rfl⟩) hP hD hS hA [0, 1] [] rfl rfl rfl (by decide) (fun r_32 u_34 H locs hp_33 hP hD hS => ?_)
      obtain ⟨voth_35, rfl⟩ : ∃ z, z = u_34 := ⟨_, rfl⟩
      have hp_33 : ((r_32 = 0) ∨ (r_32 = 1)) := hp_33
      have q_36 := hp_33
      have hP : va_P (dC, dI) vwCl [(vo, .inr (12, [.int voth_35, .ref vmt, .int votp, .int vosz, .int volm, .int voto, .int vofr, .int vokd, .int vonu, .int vosg, .int vofa, .int vopl, .long vowd, .int votd, .ref vmn, .ref vmr, .ref vmk, .ref vms, .ref vma, .ref vmm, .ref vmrn, .ref vmkn, .ref vmik, .ref vmon, .int vosm, .int vohp, .ref vmw, .ref vmf, .ref vmb, .int vomb, .ref vmd, .ref vmc, .int vocm, .int voct, .int vocy, .ref vmx, .int votx, .int vose, .ref vml, .ref vmwr, .int voln, .int vohw, .ref vmno, .int vond, .int voon, .int vowi, .int votop])), (vmn, .inl (cy 0, 575, .inl vmnf))] H := hP
      have hD : va_D A [(vo, .inr (12, [.int voth_35, .ref vmt, .int votp, .int vosz, .int volm, .int voto, .int vofr, .int vokd, .int vonu, .int vosg, .int vofa, .int vopl, .long vowd, .int votd, .ref vmn, .ref vmr, .ref vmk, .ref vms, .ref vma, .ref vmm, .ref vmrn, .ref vmkn, .ref vmik, .ref vmon, .int vosm, .int vohp, .ref vmw, .ref vmf, .ref vmb, .int vomb, .ref vmd, .ref vmc, .int vocm, .int voct, .int vocy, .ref vmx, .int votx, .int vose, .ref vml, .ref vmwr, .int voln, .int vohw, .ref vmno, .int vond, .int voon, .int vowi, .int votop])), (vmn, .inl (cy 0, 575, .inl vmnf))] := hD
      rcases q_36 with aq_36 | aq_36
      · skip
        refine as_i 0 aq_36 ?_
        refine lv_if_eq (tgt := 190) hx hb dX11_holds_183 (by decide) (fun _ => ?_) (fun c9 => absurd (by decide) c9)
        refine lv_iconst (v := 0) hx hb dX11_holds_190 (by decide) ?_
        have k_0 : (0 : Int32).toInt = 0 := by decide
        rw [hQ9]
        exact re_z voth_35 hx hb hr hlocks (Or.inl rfl) (show ((0 : Int32) = 0) ∨ ((0 : Int32) = 1) from (Or.inl rfl)) (hP.sub [0, 1] rfl) (hD.sub [0, 1] rfl rfl) hS dX11_holds_191
      · skip
        refine as_i 1 aq_36 ?_
        refine lv_if_eq (tgt := 190) hx hb dX11_holds_183 (by decide) (fun c9 => absurd c9 (by decide)) (fun _ => ?_)
        refine lv_iconst (v := 1) hx hb dX11_holds_186 (by decide) ?_
        refine lv_goto (tgt := 191) hx hb dX11_holds_187 (by decide) ?_
        rw [hQ9]
        exact re_z voth_35 hx hb hr hlocks (Or.inr rfl) (show ((1 : Int32) = 0) ∨ ((1 : Int32) = 1) from (Or.inr (rfl))) (hP.sub [0, 1] rfl) (hD.sub [0, 1] rfl rfl) hS dX11_holds_191
    · skip
      refine as_i 1 aq_31 ?_
      refine lv_if_ne (tgt := 186) hx hb dX11_holds_173 (by decide) (fun _ => ?_) (fun c9 => absurd c9 (by decide))
      refine lv_iconst (v := 1) hx hb dX11_holds_186 (by decide) ?_
      refine lv_goto (tgt := 191) hx hb dX11_holds_187 (by decide) ?_
      rw [hQ9]
      exact re_z voth_30 hx hb hr hlocks (Or.inr rfl) (show ((1 : Int32) = 0) ∨ ((1 : Int32) = 1) from (Or.inr (rfl))) (hP.sub [0, 1] rfl) (hD.sub [0, 1] rfl rfl) hS dX11_holds_191
  by_cases sw_11_68 : z_10.toInt = 68
  · refine as_i 68 (i_eq.mpr (sw_11_68.trans k_68.symm)) ?_
    refine lv_lookup (off := 158) (tgt := 192) hx hb dX11_holds_34 (by decide) (by decide) (by decide) ?_
    refine lv_aload_n hx hb dX11_holds_192 rfl (lv_at hl 3 rfl) ?_
    refine lv_iload_n hx hb dX11_holds_193 rfl (lv_at hl 5 rfl) ?_
    refine jr_i (rVr (As := [.int vp]) (rest := []) (ci := 12) ⟨hx, hb, hml, hown, hts⟩ (m_howOf l dC dI cy vnh vo voth vmt votp vosz volm voto vofr vokd vonu vosg vofa vopl vowd votd vmn vmr vmk vms vma vmm vmrn vmkn vmik vmon vosm vohp vmw vmf vmb vomb vmd vmc vocm voct vocy vmx votx vose vml vmwr voln vohw vmno vond voon vowi votop vmnf vp ⟨by omega, by omega⟩ p_vmnf) (cw_X11_256 hts rfl rfl ⟨Nat.le_of_ble_eq_true rfl, Nat.le_of_ble_eq_true rfl⟩) hP hK [0, 1] rfl rfl rfl rfl hl.1 rfl (Nat.le_of_ble_eq_true rfl) dX11_holds_194 ⟨Nat.le_of_ble_eq_true rfl, Nat.le_of_ble_eq_true rfl⟩) hP hS (fun r_37 H locs hp_38 hP hS => ?_)
    have hp_38 : (0 ≤ (r_37 : Int32).toInt ∧ (r_37 : Int32).toInt ≤ 2) := hp_38
    have q_39 := hp_38
    refine lv_iconst (v := 1) hx hb dX11_holds_197 (by decide) ?_
    refine lv_icmp_ne (tgt := 205) hx hb dX11_holds_198 (by decide) (fun c_40 => ?_) (fun c_40 => ?_)
    · skip
      have c_40 : ¬ (r_37.toInt = (1 : Int32).toInt) := fun h9 => c_40 (i_eq.mpr h9)
      refine lv_iconst (v := 0) hx hb dX11_holds_205 (by decide) ?_
      have k_0 : (0 : Int32).toInt = 0 := by decide
      rw [hQ9]
      exact re_z voth hx hb hr hlocks (Or.inl rfl) (show ((0 : Int32) = 0) ∨ ((0 : Int32) = 1) from (Or.inl rfl)) (hP.sub [0, 1] rfl) (hD.sub [0, 1] rfl rfl) hS dX11_holds_206
    · skip
      have c_40 : r_37.toInt = (1 : Int32).toInt := i_eq.mp c_40
      refine lv_iconst (v := 1) hx hb dX11_holds_201 (by decide) ?_
      refine lv_goto (tgt := 206) hx hb dX11_holds_202 (by decide) ?_
      rw [hQ9]
      exact re_z voth hx hb hr hlocks (Or.inr rfl) (show ((1 : Int32) = 0) ∨ ((1 : Int32) = 1) from (Or.inr (rfl))) (hP.sub [0, 1] rfl) (hD.sub [0, 1] rfl rfl) hS dX11_holds_206
  by_cases sw_11_69 : z_10.toInt = 69
  · refine as_i 69 (i_eq.mpr (sw_11_69.trans k_69.symm)) ?_
    refine lv_lookup (off := 173) (tgt := 207) hx hb dX11_holds_34 (by decide) (by decide) (by decide) ?_
    refine lv_aload_n hx hb dX11_holds_207 rfl (lv_at hl 3 rfl) ?_
    refine lv_iload_n hx hb dX11_holds_208 rfl (lv_at hl 5 rfl) ?_
    refine jr_i (rVr (As := [.int vp]) (rest := []) (ci := 12) ⟨hx, hb, hml, hown, hts⟩ (m_howOf l dC dI cy vnh vo voth vmt votp vosz volm voto vofr vokd vonu vosg vofa vopl vowd votd vmn vmr vmk vms vma vmm vmrn vmkn vmik vmon vosm vohp vmw vmf vmb vomb vmd vmc vocm voct vocy vmx votx vose vml vmwr voln vohw vmno vond voon vowi votop vmnf vp ⟨by omega, by omega⟩ p_vmnf) (cw_X11_256 hts rfl rfl ⟨Nat.le_of_ble_eq_true rfl, Nat.le_of_ble_eq_true rfl⟩) hP hK [0, 1] rfl rfl rfl rfl hl.1 rfl (Nat.le_of_ble_eq_true rfl) dX11_holds_209 ⟨Nat.le_of_ble_eq_true rfl, Nat.le_of_ble_eq_true rfl⟩) hP hS (fun r_41 H locs hp_42 hP hS => ?_)
    have hp_42 : (0 ≤ (r_41 : Int32).toInt ∧ (r_41 : Int32).toInt ≤ 2) := hp_42
    have q_43 := hp_42
    have k_0 : (0 : Int32).toInt = 0 := by decide
    refine lv_if_ne (tgt := 219) hx hb dX11_holds_212 (by decide) (fun c_44 => ?_) (fun c_44 => ?_)
    · skip
      have c_44 : ¬ (r_41.toInt = (0 : Int32).toInt) := fun h9 => c_44 (i_eq.mpr h9)
      refine lv_iconst (v := 0) hx hb dX11_holds_219 (by decide) ?_
      rw [hQ9]
      exact re_z voth hx hb hr hlocks (Or.inl rfl) (show ((0 : Int32) = 0) ∨ ((0 : Int32) = 1) from (Or.inl rfl)) (hP.sub [0, 1] rfl) (hD.sub [0, 1] rfl rfl) hS dX11_holds_220
    · skip
      have c_44 : r_41.toInt = (0 : Int32).toInt := i_eq.mp c_44
      refine lv_iconst (v := 1) hx hb dX11_holds_215 (by decide) ?_
      refine lv_goto (tgt := 220) hx hb dX11_holds_216 (by decide) ?_
      rw [hQ9]
      exact re_z voth hx hb hr hlocks (Or.inr rfl) (show ((1 : Int32) = 0) ∨ ((1 : Int32) = 1) from (Or.inr (rfl))) (hP.sub [0, 1] rfl) (hD.sub [0, 1] rfl rfl) hS dX11_holds_220
  by_cases sw_11_70 : z_10.toInt = 70
  · refine as_i 70 (i_eq.mpr (sw_11_70.trans k_70.symm)) ?_
    refine lv_lookup (off := 187) (tgt := 221) hx hb dX11_holds_34 (by decide) (by decide) (by decide) ?_
    refine lv_aload_n hx hb dX11_holds_221 rfl (lv_at hl 3 rfl) ?_
    refine lv_iload_n hx hb dX11_holds_222 rfl (lv_at hl 5 rfl) ?_
    refine jr_i (rVr (As := [.int vp]) (rest := []) (ci := 12) ⟨hx, hb, hml, hown, hts⟩ (m_howOf l dC dI cy vnh vo voth vmt votp vosz volm voto vofr vokd vonu vosg vofa vopl vowd votd vmn vmr vmk vms vma vmm vmrn vmkn vmik vmon vosm vohp vmw vmf vmb vomb vmd vmc vocm voct vocy vmx votx vose vml vmwr voln vohw vmno vond voon vowi votop vmnf vp ⟨by omega, by omega⟩ p_vmnf) (cw_X11_256 hts rfl rfl ⟨Nat.le_of_ble_eq_true rfl, Nat.le_of_ble_eq_true rfl⟩) hP hK [0, 1] rfl rfl rfl rfl hl.1 rfl (Nat.le_of_ble_eq_true rfl) dX11_holds_223 ⟨Nat.le_of_ble_eq_true rfl, Nat.le_of_ble_eq_true rfl⟩) hP hS (fun r_45 H locs hp_46 hP hS => ?_)
    have hp_46 : (0 ≤ (r_45 : Int32).toInt ∧ (r_45 : Int32).toInt ≤ 2) := hp_46
    have q_47 := hp_46
    refine lv_iconst (v := 2) hx hb dX11_holds_226 (by decide) ?_
    refine lv_icmp_ne (tgt := 234) hx hb dX11_holds_227 (by decide) (fun c_48 => ?_) (fun c_48 => ?_)
    · skip
      have c_48 : ¬ (r_45.toInt = (2 : Int32).toInt) := fun h9 => c_48 (i_eq.mpr h9)
      refine lv_iconst (v := 0) hx hb dX11_holds_234 (by decide) ?_
      have k_0 : (0 : Int32).toInt = 0 := by decide
      rw [hQ9]
      exact re_z voth hx hb hr hlocks (Or.inl rfl) (show ((0 : Int32) = 0) ∨ ((0 : Int32) = 1) from (Or.inl rfl)) (hP.sub [0, 1] rfl) (hD.sub [0, 1] rfl rfl) hS dX11_holds_235
    · skip
      have c_48 : r_45.toInt = (2 : Int32).toInt := i_eq.mp c_48
      refine lv_iconst (v := 1) hx hb dX11_holds_230 (by decide) ?_
      refine lv_goto (tgt := 235) hx hb dX11_holds_231 (by decide) ?_
      rw [hQ9]
      exact re_z voth hx hb hr hlocks (Or.inr rfl) (show ((1 : Int32) = 0) ∨ ((1 : Int32) = 1) from (Or.inr (rfl))) (hP.sub [0, 1] rfl) (hD.sub [0, 1] rfl rfl) hS dX11_holds_235
  by_cases sw_11_71 : z_10.toInt = 71
  · refine as_i 71 (i_eq.mpr (sw_11_71.trans k_71.symm)) ?_
    refine lv_lookup (off := 202) (tgt := 236) hx hb dX11_holds_34 (by decide) (by decide) (by decide) ?_
    refine lv_aload_n hx hb dX11_holds_236 rfl (lv_at hl 3 rfl) ?_
    refine gf_X11_98 hx hb hts hown hK hP 0 rfl rfl dX11_holds_237 ?_
    refine lv_sipush (v := 298) hx hb dX11_holds_240 (by decide) ?_
    refine lv_iload_n hx hb dX11_holds_243 rfl (lv_at hl 5 rfl) ?_
    refine lv_iadd hx hb dX11_holds_244 ?_
    refine lv_topi (fun z_49 ez_49 => ?_)
    have k_298 : (298 : Int32).toInt = 298 := by decide
    have bz_49 : z_49.toInt = (298 : Int32).toInt + vp.toInt := i_add ez_49 (by omega) (by omega)
    have hin_50 : vp_in z_49 575 := vp_in_iff.mpr ⟨by omega, by omega⟩
    refine va_iald hx hb hK hP 1 0 rfl rfl hin_50 dX11_holds_245 ?_
    refine lv_topi (fun z_51 ez_51 => ?_)
    have k_0 : (0 : Int32).toInt = 0 := by decide
    refine lv_if_le (tgt := 253) hx hb dX11_holds_246 (by decide) (fun c_52 => ?_) (fun c_52 => ?_)
    · skip
      have c_52 : z_51.toInt ≤ (0 : Int32).toInt := i_le.mp c_52
      refine lv_iconst (v := 0) hx hb dX11_holds_253 (by decide) ?_
      rw [hQ9]
      exact re_z voth hx hb hr hlocks (Or.inl rfl) (show ((0 : Int32) = 0) ∨ ((0 : Int32) = 1) from (Or.inl rfl)) (hP.sub [0, 1] rfl) (hD.sub [0, 1] rfl rfl) hS dX11_holds_254
    · skip
      have c_52 : ¬ (z_51.toInt ≤ (0 : Int32).toInt) := fun h9 => c_52 (i_le.mpr h9)
      refine lv_iconst (v := 1) hx hb dX11_holds_249 (by decide) ?_
      refine lv_goto (tgt := 254) hx hb dX11_holds_250 (by decide) ?_
      rw [hQ9]
      exact re_z voth hx hb hr hlocks (Or.inr rfl) (show ((1 : Int32) = 0) ∨ ((1 : Int32) = 1) from (Or.inr (rfl))) (hP.sub [0, 1] rfl) (hD.sub [0, 1] rfl rfl) hS dX11_holds_254
  by_cases sw_11_72 : z_10.toInt = 72
  · refine as_i 72 (i_eq.mpr (sw_11_72.trans k_72.symm)) ?_
    refine lv_lookup (off := 221) (tgt := 255) hx hb dX11_holds_34 (by decide) (by decide) (by decide) ?_
    refine lv_aload_n hx hb dX11_holds_255 rfl (lv_at hl 3 rfl) ?_
    refine lv_iload_n hx hb dX11_holds_256 rfl (lv_at hl 5 rfl) ?_
    refine jr_i (rVr (As := [.int vp]) (rest := []) (ci := 12) ⟨hx, hb, hml, hown, hts⟩ (m_lends l dC dI cy vnh vo voth vmt votp vosz volm voto vofr vokd vonu vosg vofa vopl vowd votd vmn vmr vmk vms vma vmm vmrn vmkn vmik vmon vosm vohp vmw vmf vmb vomb vmd vmc vocm voct vocy vmx votx vose vml vmwr voln vohw vmno vond voon vowi votop vmnf vp ⟨by omega, by omega⟩ p_vmnf) (cw_X11_265 hts rfl rfl ⟨Nat.le_of_ble_eq_true rfl, Nat.le_of_ble_eq_true rfl⟩) hP hK [0, 1] rfl rfl rfl rfl hl.1 rfl (Nat.le_of_ble_eq_true rfl) dX11_holds_257 ⟨Nat.le_of_ble_eq_true rfl, Nat.le_of_ble_eq_true rfl⟩) hP hS (fun r_53 H locs hp_54 hP hS => ?_)
    have hp_54 : ((r_53 = 0) ∨ (r_53 = 1)) := hp_54
    have q_55 := hp_54
    rcases q_55 with aq_55 | aq_55
    · skip
      refine as_i 0 aq_55 ?_
      have k_0 : (0 : Int32).toInt = 0 := by decide
      rw [hQ9]
      exact re_z voth hx hb hr hlocks (Or.inl rfl) (show ((0 : Int32) = 0) ∨ ((0 : Int32) = 1) from (Or.inl rfl)) (hP.sub [0, 1] rfl) (hD.sub [0, 1] rfl rfl) hS dX11_holds_260
    · skip
      refine as_i 1 aq_55 ?_
      rw [hQ9]
      exact re_z voth hx hb hr hlocks (Or.inr rfl) (show ((1 : Int32) = 0) ∨ ((1 : Int32) = 1) from (Or.inr (rfl))) (hP.sub [0, 1] rfl) (hD.sub [0, 1] rfl rfl) hS dX11_holds_260
  by_cases sw_11_73 : z_10.toInt = 73
  · refine as_i 73 (i_eq.mpr (sw_11_73.trans k_73.symm)) ?_
    refine lv_lookup (off := 227) (tgt := 261) hx hb dX11_holds_34 (by decide) (by decide) (by decide) ?_
    have hB := hA4 (by omega)
    refine lv_aload_n hx hb dX11_holds_261 rfl (lv_at hl 3 rfl) ?_
    refine lv_iload_n hx hb dX11_holds_262 rfl (lv_at hl 5 rfl) ?_
    refine lv_iload hx hb dX11_holds_263 (lv_at hl 1 rfl) ?_
    refine jr_i (rVr (As := [.int vp, .int z_5]) (rest := []) (ci := 12) ⟨hx, hb, hml, hown, hts⟩ (m_didOf l dC dI cy vnh vo voth vmt votp vosz volm voto vofr vokd vonu vosg vofa vopl vowd votd vmn vmr vmk vms vma vmm vmrn vmkn vmik vmon vosm vohp vmw vmf vmb vomb vmd vmc vocm voct vocy vmx votx vose vml vmwr voln vohw vmno vond voon vowi votop vmnf vp z_5 ⟨by omega, by omega⟩ ⟨by omega, by omega⟩ p_vmnf) (cw_X11_228 hts rfl rfl ⟨Nat.le_of_ble_eq_true rfl, Nat.le_of_ble_eq_true rfl⟩) hP hK [0, 1] rfl rfl rfl rfl hl.1 rfl (Nat.le_of_ble_eq_true rfl) dX11_holds_265 ⟨Nat.le_of_ble_eq_true rfl, Nat.le_of_ble_eq_true rfl⟩) hP hS (fun r_56 H locs hp_57 hP hS => ?_)
    have k_0 : (0 : Int32).toInt = 0 := by decide
    refine lv_if_le (tgt := 275) hx hb dX11_holds_268 (by decide) (fun c_58 => ?_) (fun c_58 => ?_)
    · skip
      have c_58 : r_56.toInt ≤ (0 : Int32).toInt := i_le.mp c_58
      refine lv_iconst (v := 0) hx hb dX11_holds_275 (by decide) ?_
      rw [hQ9]
      exact re_z voth hx hb hr hlocks (Or.inl rfl) (show ((0 : Int32) = 0) ∨ ((0 : Int32) = 1) from (Or.inl rfl)) (hP.sub [0, 1] rfl) (hD.sub [0, 1] rfl rfl) hS dX11_holds_276
    · skip
      have c_58 : ¬ (r_56.toInt ≤ (0 : Int32).toInt) := fun h9 => c_58 (i_le.mpr h9)
      refine lv_iconst (v := 1) hx hb dX11_holds_271 (by decide) ?_
      refine lv_goto (tgt := 276) hx hb dX11_holds_272 (by decide) ?_
      rw [hQ9]
      exact re_z voth hx hb hr hlocks (Or.inr rfl) (show ((1 : Int32) = 0) ∨ ((1 : Int32) = 1) from (Or.inr (rfl))) (hP.sub [0, 1] rfl) (hD.sub [0, 1] rfl rfl) hS dX11_holds_276
  by_cases sw_11_74 : z_10.toInt = 74
  · refine as_i 74 (i_eq.mpr (sw_11_74.trans k_74.symm)) ?_
    refine lv_lookup (off := 243) (tgt := 277) hx hb dX11_holds_34 (by decide) (by decide) (by decide) ?_
    refine lv_aload_n hx hb dX11_holds_277 rfl (lv_at hl 3 rfl) ?_
    refine lv_iload hx hb dX11_holds_278 (lv_at hl 1 rfl) ?_
    refine jn_i (wr := []) (rV (As := [.int z_5]) (rest := []) (ci := 12) ⟨hx, hb, hml, hown, hts⟩ (m_family l dC dI cy _ vnh vo voth vmt votp vosz volm voto vofr vokd vonu vosg vofa vopl vowd votd vmn vmr vmk vms vma vmm vmrn vmkn vmik vmon vosm vohp vmw vmf vmb vomb vmd vmc vocm voct vocy vmx votx vose vml vmwr voln vohw vmno vond voon vowi votop vmnf z_5 p_vmnf) (cw_X11_441 hts rfl rfl ⟨Nat.le_of_ble_eq_true rfl, Nat.le_of_ble_eq_true rfl⟩) hP hD hK [0, 1] rfl rfl rfl rfl bl0 e0 rfl hl.1 rfl (Nat.le_of_ble_eq_true rfl) dX11_holds_280 ⟨Nat.le_of_ble_eq_true rfl, Nat.le_of_ble_eq_true rfl⟩) hP hD hS hA [0, 1] [] rfl rfl rfl (by decide) (fun r_59 u_61 H locs hp_60 hP hD hS => ?_)
    obtain ⟨voth_62, rfl⟩ : ∃ z, z = u_61 := ⟨_, rfl⟩
    have hP : va_P (dC, dI) vwCl [(vo, .inr (12, [.int voth_62, .ref vmt, .int votp, .int vosz, .int volm, .int voto, .int vofr, .int vokd, .int vonu, .int vosg, .int vofa, .int vopl, .long vowd, .int votd, .ref vmn, .ref vmr, .ref vmk, .ref vms, .ref vma, .ref vmm, .ref vmrn, .ref vmkn, .ref vmik, .ref vmon, .int vosm, .int vohp, .ref vmw, .ref vmf, .ref vmb, .int vomb, .ref vmd, .ref vmc, .int vocm, .int voct, .int vocy, .ref vmx, .int votx, .int vose, .ref vml, .ref vmwr, .int voln, .int vohw, .ref vmno, .int vond, .int voon, .int vowi, .int votop])), (vmn, .inl (cy 0, 575, .inl vmnf))] H := hP
    have hD : va_D A [(vo, .inr (12, [.int voth_62, .ref vmt, .int votp, .int vosz, .int volm, .int voto, .int vofr, .int vokd, .int vonu, .int vosg, .int vofa, .int vopl, .long vowd, .int votd, .ref vmn, .ref vmr, .ref vmk, .ref vms, .ref vma, .ref vmm, .ref vmrn, .ref vmkn, .ref vmik, .ref vmon, .int vosm, .int vohp, .ref vmw, .ref vmf, .ref vmb, .int vomb, .ref vmd, .ref vmc, .int vocm, .int voct, .int vocy, .ref vmx, .int votx, .int vose, .ref vml, .ref vmwr, .int voln, .int vohw, .ref vmno, .int vond, .int voon, .int vowi, .int votop])), (vmn, .inl (cy 0, 575, .inl vmnf))] := hD
    refine lv_iload_n hx hb dX11_holds_283 rfl (lv_at hl 5 rfl) ?_
    refine jr_i (rSr (As := [.int r_59, .int vp]) (rest := []) ⟨hx, hb, hml, hown, hts⟩ (m_has l dC dI cy r_59 vp ) (cw_X11_194 hts rfl rfl ⟨Nat.le_of_ble_eq_true rfl, Nat.le_of_ble_eq_true rfl⟩) hP hK [] rfl rfl hl.1 rfl (Nat.le_of_ble_eq_true rfl) dX11_holds_284 ⟨Nat.le_of_ble_eq_true rfl, Nat.le_of_ble_eq_true rfl⟩) hP hS (fun r_63 H locs hp_64 hP hS => ?_)
    have hp_64 : ((r_63 = 0) ∨ (r_63 = 1)) := hp_64
    have q_65 := hp_64
    rcases q_65 with aq_65 | aq_65
    · skip
      refine as_i 0 aq_65 ?_
      have k_0 : (0 : Int32).toInt = 0 := by decide
      rw [hQ9]
      exact re_z voth_62 hx hb hr hlocks (Or.inl rfl) (show ((0 : Int32) = 0) ∨ ((0 : Int32) = 1) from (Or.inl rfl)) (hP.sub [0, 1] rfl) (hD.sub [0, 1] rfl rfl) hS dX11_holds_287
    · skip
      refine as_i 1 aq_65 ?_
      rw [hQ9]
      exact re_z voth_62 hx hb hr hlocks (Or.inr rfl) (show ((1 : Int32) = 0) ∨ ((1 : Int32) = 1) from (Or.inr (rfl))) (hP.sub [0, 1] rfl) (hD.sub [0, 1] rfl rfl) hS dX11_holds_287
  have nsw_11_1 : ¬ ((1 : Int) = z_10.toInt) := by omega
  have nsw_11_2 : ¬ ((2 : Int) = z_10.toInt) := by omega
  have nsw_11_3 : ¬ ((3 : Int) = z_10.toInt) := by omega
  have nsw_11_68 : ¬ ((68 : Int) = z_10.toInt) := by omega
  have nsw_11_69 : ¬ ((69 : Int) = z_10.toInt) := by omega
  have nsw_11_70 : ¬ ((70 : Int) = z_10.toInt) := by omega
  have nsw_11_71 : ¬ ((71 : Int) = z_10.toInt) := by omega
  have nsw_11_72 : ¬ ((72 : Int) = z_10.toInt) := by omega
  have nsw_11_73 : ¬ ((73 : Int) = z_10.toInt) := by omega
  have nsw_11_74 : ¬ ((74 : Int) = z_10.toInt) := by omega
  refine lv_lookup (off := 254) (tgt := 288) hx hb dX11_holds_34 (by decide) (by simp only [Op.lookupswitch.offset, if_neg nsw_11_1, if_neg nsw_11_2, if_neg nsw_11_3, if_neg nsw_11_68, if_neg nsw_11_69, if_neg nsw_11_70, if_neg nsw_11_71, if_neg nsw_11_72, if_neg nsw_11_73, if_neg nsw_11_74]) (by decide) ?_
  refine lv_aload_n hx hb dX11_holds_288 rfl (lv_at hl 3 rfl) ?_
  refine gf_X11_98 hx hb hts hown hK hP 0 rfl rfl dX11_holds_289 ?_
  refine lv_iload_n hx hb dX11_holds_292 rfl (lv_at hl 2 rfl) ?_
  have hin_66 : vp_in z_2 575 := vp_in_iff.mpr ⟨by omega, by omega⟩
  refine va_iald hx hb hK hP 1 0 rfl rfl hin_66 dX11_holds_293 ?_
  refine lv_topi (fun z_67 ez_67 => ?_)
  refine lv_bipush (v := 50) hx hb dX11_holds_294 (by decide) ?_
  refine lv_isub hx hb dX11_holds_296 ?_
  refine lv_topi (fun z_68 ez_68 => ?_)
  refine lv_istore (lv' := [(6, .int z_68), (5, .int z_8), (4, .int z_5), (3, .int z_2), (0, .ref vo), (1, .int vk), (2, .int vp)]) hx hb dX11_holds_297 hl (by decide) rfl (fun ls hl => ?_)
  refine lv_iload hx hb dX11_holds_299 (lv_at hl 0 rfl) ?_
  refine lv_bipush (v := 25) hx hb dX11_holds_301 (by decide) ?_
  have k_25 : (25 : Int32).toInt = 25 := by decide
  refine lv_icmp_ne (tgt := 314) hx hb dX11_holds_303 (by decide) (fun c_69 => ?_) (fun c_69 => ?_)
  · skip
    have c_69 : ¬ (z_68.toInt = (25 : Int32).toInt) := fun h9 => c_69 (i_eq.mpr h9)
    refine lv_iload hx hb dX11_holds_314 (lv_at hl 0 rfl) ?_
    refine lv_bipush (v := 26) hx hb dX11_holds_316 (by decide) ?_
    have k_26 : (26 : Int32).toInt = 26 := by decide
    refine lv_icmp_ne (tgt := 329) hx hb dX11_holds_318 (by decide) (fun c_70 => ?_) (fun c_70 => ?_)
    · skip
      have c_70 : ¬ (z_68.toInt = (26 : Int32).toInt) := fun h9 => c_70 (i_eq.mpr h9)
      refine lv_iload hx hb dX11_holds_329 (lv_at hl 0 rfl) ?_
      refine lv_bipush (v := 27) hx hb dX11_holds_331 (by decide) ?_
      have k_27 : (27 : Int32).toInt = 27 := by decide
      refine lv_icmp_ne (tgt := 349) hx hb dX11_holds_333 (by decide) (fun c_71 => ?_) (fun c_71 => ?_)
      · skip
        have c_71 : ¬ (z_68.toInt = (27 : Int32).toInt) := fun h9 => c_71 (i_eq.mpr h9)
        refine lv_iload_n hx hb dX11_holds_349 rfl (lv_at hl 6 rfl) ?_
        refine lv_istore (lv' := [(7, .int vp), (6, .int z_68), (5, .int z_8), (4, .int z_5), (3, .int z_2), (0, .ref vo), (1, .int vk), (2, .int vp)]) hx hb dX11_holds_350 hl (by decide) rfl (fun ls hl => ?_)
        refine lv_aload_n hx hb dX11_holds_352 rfl (lv_at hl 5 rfl) ?_
        refine gf_X11_98 hx hb hts hown hK hP 0 rfl rfl dX11_holds_353 ?_
        refine lv_iload_n hx hb dX11_holds_356 rfl (lv_at hl 4 rfl) ?_
        refine lv_iconst (v := 3) hx hb dX11_holds_357 (by decide) ?_
        refine lv_iadd hx hb dX11_holds_358 ?_
        refine lv_topi (fun z_72 ez_72 => ?_)
        have bz_72 : z_72.toInt = z_2.toInt + (3 : Int32).toInt := i_add ez_72 (by omega) (by omega)
        have hin_73 : vp_in z_72 575 := vp_in_iff.mpr ⟨by omega, by omega⟩
        refine va_iald hx hb hK hP 1 0 rfl rfl hin_73 dX11_holds_359 ?_
        refine lv_topi (fun z_74 ez_74 => ?_)
        refine lv_bipush (v := 60) hx hb dX11_holds_360 (by decide) ?_
        have k_60 : (60 : Int32).toInt = 60 := by decide
        refine lv_icmp_ne (tgt := 380) hx hb dX11_holds_362 (by decide) (fun c_75 => ?_) (fun c_75 => ?_)
        · skip
          have c_75 : ¬ (z_74.toInt = (60 : Int32).toInt) := fun h9 => c_75 (i_eq.mpr h9)
          refine lv_aload_n hx hb dX11_holds_380 rfl (lv_at hl 5 rfl) ?_
          refine gf_X11_98 hx hb hts hown hK hP 0 rfl rfl dX11_holds_381 ?_
          refine lv_iload_n hx hb dX11_holds_384 rfl (lv_at hl 4 rfl) ?_
          refine lv_iconst (v := 3) hx hb dX11_holds_385 (by decide) ?_
          refine lv_iadd hx hb dX11_holds_386 ?_
          refine lv_topi (fun z_76 ez_76 => ?_)
          have bz_76 : z_76.toInt = z_2.toInt + (3 : Int32).toInt := i_add ez_76 (by omega) (by omega)
          have hin_77 : vp_in z_76 575 := vp_in_iff.mpr ⟨by omega, by omega⟩
          refine va_iald hx hb hK hP 1 0 rfl rfl hin_77 dX11_holds_387 ?_
          refine lv_topi (fun z_78 ez_78 => ?_)
          refine lv_bipush (v := 61) hx hb dX11_holds_388 (by decide) ?_
          have k_61 : (61 : Int32).toInt = 61 := by decide
          refine lv_icmp_ne (tgt := 408) hx hb dX11_holds_390 (by decide) (fun c_79 => ?_) (fun c_79 => ?_)
          · skip
            have c_79 : ¬ (z_78.toInt = (61 : Int32).toInt) := fun h9 => c_79 (i_eq.mpr h9)
            refine lv_iload hx hb dX11_holds_408 (lv_at hl 0 rfl) ?_
            refine lv_iload hx hb dX11_holds_410 (lv_at hl 2 rfl) ?_
            refine lv_icmp_le (tgt := 419) hx hb dX11_holds_412 (by decide) (fun c_80 => ?_) (fun c_80 => ?_)
            · skip
              have c_80 : vp.toInt ≤ z_8.toInt := i_le.mp c_80
              refine lv_iconst (v := 0) hx hb dX11_holds_419 (by decide) ?_
              have k_0 : (0 : Int32).toInt = 0 := by decide
              rw [hQ9]
              exact re_z voth hx hb hr hlocks (Or.inl rfl) (show ((0 : Int32) = 0) ∨ ((0 : Int32) = 1) from (Or.inl rfl)) (hP.sub [0, 1] rfl) (hD.sub [0, 1] rfl rfl) hS dX11_holds_420
            · skip
              have c_80 : ¬ (vp.toInt ≤ z_8.toInt) := fun h9 => c_80 (i_le.mpr h9)
              refine lv_iconst (v := 1) hx hb dX11_holds_415 (by decide) ?_
              refine lv_goto (tgt := 420) hx hb dX11_holds_416 (by decide) ?_
              rw [hQ9]
              exact re_z voth hx hb hr hlocks (Or.inr rfl) (show ((1 : Int32) = 0) ∨ ((1 : Int32) = 1) from (Or.inr (rfl))) (hP.sub [0, 1] rfl) (hD.sub [0, 1] rfl rfl) hS dX11_holds_420
          · skip
            have c_79 : z_78.toInt = (61 : Int32).toInt := i_eq.mp c_79
            refine lv_iload hx hb dX11_holds_393 (lv_at hl 0 rfl) ?_
            refine lv_iload hx hb dX11_holds_395 (lv_at hl 2 rfl) ?_
            refine lv_icmp_ne (tgt := 404) hx hb dX11_holds_397 (by decide) (fun c_81 => ?_) (fun c_81 => ?_)
            · skip
              have c_81 : ¬ (vp.toInt = z_8.toInt) := fun h9 => c_81 (i_eq.mpr h9)
              refine lv_iconst (v := 0) hx hb dX11_holds_404 (by decide) ?_
              refine lv_goto (tgt := 420) hx hb dX11_holds_405 (by decide) ?_
              have k_0 : (0 : Int32).toInt = 0 := by decide
              rw [hQ9]
              exact re_z voth hx hb hr hlocks (Or.inl rfl) (show ((0 : Int32) = 0) ∨ ((0 : Int32) = 1) from (Or.inl rfl)) (hP.sub [0, 1] rfl) (hD.sub [0, 1] rfl rfl) hS dX11_holds_420
            · skip
              have c_81 : vp.toInt = z_8.toInt := i_eq.mp c_81
              refine lv_iconst (v := 1) hx hb dX11_holds_400 (by decide) ?_
              refine lv_goto (tgt := 420) hx hb dX11_holds_401 (by decide) ?_
              rw [hQ9]
              exact re_z voth hx hb hr hlocks (Or.inr rfl) (show ((1 : Int32) = 0) ∨ ((1 : Int32) = 1) from (Or.inr (rfl))) (hP.sub [0, 1] rfl) (hD.sub [0, 1] rfl rfl) hS dX11_holds_420
        · skip
          have c_75 : z_74.toInt = (60 : Int32).toInt := i_eq.mp c_75
          refine lv_iload hx hb dX11_holds_365 (lv_at hl 0 rfl) ?_
          refine lv_iload hx hb dX11_holds_367 (lv_at hl 2 rfl) ?_
          refine lv_icmp_ge (tgt := 376) hx hb dX11_holds_369 (by decide) (fun c_82 => ?_) (fun c_82 => ?_)
          · skip
            have c_82 : z_8.toInt ≤ vp.toInt := i_le.mp c_82
            refine lv_iconst (v := 0) hx hb dX11_holds_376 (by decide) ?_
            refine lv_goto (tgt := 420) hx hb dX11_holds_377 (by decide) ?_
            have k_0 : (0 : Int32).toInt = 0 := by decide
            rw [hQ9]
            exact re_z voth hx hb hr hlocks (Or.inl rfl) (show ((0 : Int32) = 0) ∨ ((0 : Int32) = 1) from (Or.inl rfl)) (hP.sub [0, 1] rfl) (hD.sub [0, 1] rfl rfl) hS dX11_holds_420
          · skip
            have c_82 : ¬ (z_8.toInt ≤ vp.toInt) := fun h9 => c_82 (i_le.mpr h9)
            refine lv_iconst (v := 1) hx hb dX11_holds_372 (by decide) ?_
            refine lv_goto (tgt := 420) hx hb dX11_holds_373 (by decide) ?_
            rw [hQ9]
            exact re_z voth hx hb hr hlocks (Or.inr rfl) (show ((1 : Int32) = 0) ∨ ((1 : Int32) = 1) from (Or.inr (rfl))) (hP.sub [0, 1] rfl) (hD.sub [0, 1] rfl rfl) hS dX11_holds_420
      · skip
        have c_71 : z_68.toInt = (27 : Int32).toInt := i_eq.mp c_71
        refine lv_aload_n hx hb dX11_holds_336 rfl (lv_at hl 4 rfl) ?_
        refine gf_X11_98 hx hb hts hown hK hP 0 rfl rfl dX11_holds_337 ?_
        refine lv_sipush (v := 158) hx hb dX11_holds_340 (by decide) ?_
        refine lv_iload_n hx hb dX11_holds_343 rfl (lv_at hl 6 rfl) ?_
        refine lv_iadd hx hb dX11_holds_344 ?_
        refine lv_topi (fun z_83 ez_83 => ?_)
        have k_158 : (158 : Int32).toInt = 158 := by decide
        have bz_83 : z_83.toInt = (158 : Int32).toInt + vp.toInt := i_add ez_83 (by omega) (by omega)
        have hin_84 : vp_in z_83 575 := vp_in_iff.mpr ⟨by omega, by omega⟩
        refine va_iald hx hb hK hP 1 0 rfl rfl hin_84 dX11_holds_345 ?_
        refine lv_topi (fun z_85 ez_85 => ?_)
        refine lv_goto (tgt := 350) hx hb dX11_holds_346 (by decide) ?_
        refine lv_istore (lv' := [(7, .int z_85), (6, .int z_68), (5, .int z_8), (4, .int z_5), (3, .int z_2), (0, .ref vo), (1, .int vk), (2, .int vp)]) hx hb dX11_holds_350 hl (by decide) rfl (fun ls hl => ?_)
        refine lv_aload_n hx hb dX11_holds_352 rfl (lv_at hl 5 rfl) ?_
        refine gf_X11_98 hx hb hts hown hK hP 0 rfl rfl dX11_holds_353 ?_
        refine lv_iload_n hx hb dX11_holds_356 rfl (lv_at hl 4 rfl) ?_
        refine lv_iconst (v := 3) hx hb dX11_holds_357 (by decide) ?_
        refine lv_iadd hx hb dX11_holds_358 ?_
        refine lv_topi (fun z_86 ez_86 => ?_)
        have bz_86 : z_86.toInt = z_2.toInt + (3 : Int32).toInt := i_add ez_86 (by omega) (by omega)
        have hin_87 : vp_in z_86 575 := vp_in_iff.mpr ⟨by omega, by omega⟩
        refine va_iald hx hb hK hP 1 0 rfl rfl hin_87 dX11_holds_359 ?_
        refine lv_topi (fun z_88 ez_88 => ?_)
        refine lv_bipush (v := 60) hx hb dX11_holds_360 (by decide) ?_
        have k_60 : (60 : Int32).toInt = 60 := by decide
        refine lv_icmp_ne (tgt := 380) hx hb dX11_holds_362 (by decide) (fun c_89 => ?_) (fun c_89 => ?_)
        · skip
          have c_89 : ¬ (z_88.toInt = (60 : Int32).toInt) := fun h9 => c_89 (i_eq.mpr h9)
          refine lv_aload_n hx hb dX11_holds_380 rfl (lv_at hl 5 rfl) ?_
          refine gf_X11_98 hx hb hts hown hK hP 0 rfl rfl dX11_holds_381 ?_
          refine lv_iload_n hx hb dX11_holds_384 rfl (lv_at hl 4 rfl) ?_
          refine lv_iconst (v := 3) hx hb dX11_holds_385 (by decide) ?_
          refine lv_iadd hx hb dX11_holds_386 ?_
          refine lv_topi (fun z_90 ez_90 => ?_)
          have bz_90 : z_90.toInt = z_2.toInt + (3 : Int32).toInt := i_add ez_90 (by omega) (by omega)
          have hin_91 : vp_in z_90 575 := vp_in_iff.mpr ⟨by omega, by omega⟩
          refine va_iald hx hb hK hP 1 0 rfl rfl hin_91 dX11_holds_387 ?_
          refine lv_topi (fun z_92 ez_92 => ?_)
          refine lv_bipush (v := 61) hx hb dX11_holds_388 (by decide) ?_
          have k_61 : (61 : Int32).toInt = 61 := by decide
          refine lv_icmp_ne (tgt := 408) hx hb dX11_holds_390 (by decide) (fun c_93 => ?_) (fun c_93 => ?_)
          · skip
            have c_93 : ¬ (z_92.toInt = (61 : Int32).toInt) := fun h9 => c_93 (i_eq.mpr h9)
            refine lv_iload hx hb dX11_holds_408 (lv_at hl 0 rfl) ?_
            refine lv_iload hx hb dX11_holds_410 (lv_at hl 2 rfl) ?_
            refine lv_icmp_le (tgt := 419) hx hb dX11_holds_412 (by decide) (fun c_94 => ?_) (fun c_94 => ?_)
            · skip
              have c_94 : z_85.toInt ≤ z_8.toInt := i_le.mp c_94
              refine lv_iconst (v := 0) hx hb dX11_holds_419 (by decide) ?_
              have k_0 : (0 : Int32).toInt = 0 := by decide
              rw [hQ9]
              exact re_z voth hx hb hr hlocks (Or.inl rfl) (show ((0 : Int32) = 0) ∨ ((0 : Int32) = 1) from (Or.inl rfl)) (hP.sub [0, 1] rfl) (hD.sub [0, 1] rfl rfl) hS dX11_holds_420
            · skip
              have c_94 : ¬ (z_85.toInt ≤ z_8.toInt) := fun h9 => c_94 (i_le.mpr h9)
              refine lv_iconst (v := 1) hx hb dX11_holds_415 (by decide) ?_
              refine lv_goto (tgt := 420) hx hb dX11_holds_416 (by decide) ?_
              rw [hQ9]
              exact re_z voth hx hb hr hlocks (Or.inr rfl) (show ((1 : Int32) = 0) ∨ ((1 : Int32) = 1) from (Or.inr (rfl))) (hP.sub [0, 1] rfl) (hD.sub [0, 1] rfl rfl) hS dX11_holds_420
          · skip
            have c_93 : z_92.toInt = (61 : Int32).toInt := i_eq.mp c_93
            refine lv_iload hx hb dX11_holds_393 (lv_at hl 0 rfl) ?_
            refine lv_iload hx hb dX11_holds_395 (lv_at hl 2 rfl) ?_
            refine lv_icmp_ne (tgt := 404) hx hb dX11_holds_397 (by decide) (fun c_95 => ?_) (fun c_95 => ?_)
            · skip
              have c_95 : ¬ (z_85.toInt = z_8.toInt) := fun h9 => c_95 (i_eq.mpr h9)
              refine lv_iconst (v := 0) hx hb dX11_holds_404 (by decide) ?_
              refine lv_goto (tgt := 420) hx hb dX11_holds_405 (by decide) ?_
              have k_0 : (0 : Int32).toInt = 0 := by decide
              rw [hQ9]
              exact re_z voth hx hb hr hlocks (Or.inl rfl) (show ((0 : Int32) = 0) ∨ ((0 : Int32) = 1) from (Or.inl rfl)) (hP.sub [0, 1] rfl) (hD.sub [0, 1] rfl rfl) hS dX11_holds_420
            · skip
              have c_95 : z_85.toInt = z_8.toInt := i_eq.mp c_95
              refine lv_iconst (v := 1) hx hb dX11_holds_400 (by decide) ?_
              refine lv_goto (tgt := 420) hx hb dX11_holds_401 (by decide) ?_
              rw [hQ9]
              exact re_z voth hx hb hr hlocks (Or.inr rfl) (show ((1 : Int32) = 0) ∨ ((1 : Int32) = 1) from (Or.inr (rfl))) (hP.sub [0, 1] rfl) (hD.sub [0, 1] rfl rfl) hS dX11_holds_420
        · skip
          have c_89 : z_88.toInt = (60 : Int32).toInt := i_eq.mp c_89
          refine lv_iload hx hb dX11_holds_365 (lv_at hl 0 rfl) ?_
          refine lv_iload hx hb dX11_holds_367 (lv_at hl 2 rfl) ?_
          refine lv_icmp_ge (tgt := 376) hx hb dX11_holds_369 (by decide) (fun c_96 => ?_) (fun c_96 => ?_)
          · skip
            have c_96 : z_8.toInt ≤ z_85.toInt := i_le.mp c_96
            refine lv_iconst (v := 0) hx hb dX11_holds_376 (by decide) ?_
            refine lv_goto (tgt := 420) hx hb dX11_holds_377 (by decide) ?_
            have k_0 : (0 : Int32).toInt = 0 := by decide
            rw [hQ9]
            exact re_z voth hx hb hr hlocks (Or.inl rfl) (show ((0 : Int32) = 0) ∨ ((0 : Int32) = 1) from (Or.inl rfl)) (hP.sub [0, 1] rfl) (hD.sub [0, 1] rfl rfl) hS dX11_holds_420
          · skip
            have c_96 : ¬ (z_8.toInt ≤ z_85.toInt) := fun h9 => c_96 (i_le.mpr h9)
            refine lv_iconst (v := 1) hx hb dX11_holds_372 (by decide) ?_
            refine lv_goto (tgt := 420) hx hb dX11_holds_373 (by decide) ?_
            rw [hQ9]
            exact re_z voth hx hb hr hlocks (Or.inr rfl) (show ((1 : Int32) = 0) ∨ ((1 : Int32) = 1) from (Or.inr (rfl))) (hP.sub [0, 1] rfl) (hD.sub [0, 1] rfl rfl) hS dX11_holds_420
    · skip
      have c_70 : z_68.toInt = (26 : Int32).toInt := i_eq.mp c_70
      refine lv_aload_n hx hb dX11_holds_321 rfl (lv_at hl 4 rfl) ?_
      refine lv_iload_n hx hb dX11_holds_322 rfl (lv_at hl 6 rfl) ?_
      refine jr_i (rVr (As := [.int vp]) (rest := []) (ci := 12) ⟨hx, hb, hml, hown, hts⟩ (m_darkOf l dC dI cy vnh vo voth vmt votp vosz volm voto vofr vokd vonu vosg vofa vopl vowd votd vmn vmr vmk vms vma vmm vmrn vmkn vmik vmon vosm vohp vmw vmf vmb vomb vmd vmc vocm voct vocy vmx votx vose vml vmwr voln vohw vmno vond voon vowi votop vmnf vp ⟨by omega, by omega⟩ p_vmnf) (cw_X11_244 hts rfl rfl ⟨Nat.le_of_ble_eq_true rfl, Nat.le_of_ble_eq_true rfl⟩) hP hK [0, 1] rfl rfl rfl rfl hl.1 rfl (Nat.le_of_ble_eq_true rfl) dX11_holds_323 ⟨Nat.le_of_ble_eq_true rfl, Nat.le_of_ble_eq_true rfl⟩) hP hS (fun r_97 H locs hp_98 hP hS => ?_)
      refine lv_goto (tgt := 350) hx hb dX11_holds_326 (by decide) ?_
      refine lv_istore (lv' := [(7, .int r_97), (6, .int z_68), (5, .int z_8), (4, .int z_5), (3, .int z_2), (0, .ref vo), (1, .int vk), (2, .int vp)]) hx hb dX11_holds_350 hl (by decide) rfl (fun ls hl => ?_)
      refine lv_aload_n hx hb dX11_holds_352 rfl (lv_at hl 5 rfl) ?_
      refine gf_X11_98 hx hb hts hown hK hP 0 rfl rfl dX11_holds_353 ?_
      refine lv_iload_n hx hb dX11_holds_356 rfl (lv_at hl 4 rfl) ?_
      refine lv_iconst (v := 3) hx hb dX11_holds_357 (by decide) ?_
      refine lv_iadd hx hb dX11_holds_358 ?_
      refine lv_topi (fun z_99 ez_99 => ?_)
      have bz_99 : z_99.toInt = z_2.toInt + (3 : Int32).toInt := i_add ez_99 (by omega) (by omega)
      have hin_100 : vp_in z_99 575 := vp_in_iff.mpr ⟨by omega, by omega⟩
      refine va_iald hx hb hK hP 1 0 rfl rfl hin_100 dX11_holds_359 ?_
      refine lv_topi (fun z_101 ez_101 => ?_)
      refine lv_bipush (v := 60) hx hb dX11_holds_360 (by decide) ?_
      have k_60 : (60 : Int32).toInt = 60 := by decide
      refine lv_icmp_ne (tgt := 380) hx hb dX11_holds_362 (by decide) (fun c_102 => ?_) (fun c_102 => ?_)
      · skip
        have c_102 : ¬ (z_101.toInt = (60 : Int32).toInt) := fun h9 => c_102 (i_eq.mpr h9)
        refine lv_aload_n hx hb dX11_holds_380 rfl (lv_at hl 5 rfl) ?_
        refine gf_X11_98 hx hb hts hown hK hP 0 rfl rfl dX11_holds_381 ?_
        refine lv_iload_n hx hb dX11_holds_384 rfl (lv_at hl 4 rfl) ?_
        refine lv_iconst (v := 3) hx hb dX11_holds_385 (by decide) ?_
        refine lv_iadd hx hb dX11_holds_386 ?_
        refine lv_topi (fun z_103 ez_103 => ?_)
        have bz_103 : z_103.toInt = z_2.toInt + (3 : Int32).toInt := i_add ez_103 (by omega) (by omega)
        have hin_104 : vp_in z_103 575 := vp_in_iff.mpr ⟨by omega, by omega⟩
        refine va_iald hx hb hK hP 1 0 rfl rfl hin_104 dX11_holds_387 ?_
        refine lv_topi (fun z_105 ez_105 => ?_)
        refine lv_bipush (v := 61) hx hb dX11_holds_388 (by decide) ?_
        have k_61 : (61 : Int32).toInt = 61 := by decide
        refine lv_icmp_ne (tgt := 408) hx hb dX11_holds_390 (by decide) (fun c_106 => ?_) (fun c_106 => ?_)
        · skip
          have c_106 : ¬ (z_105.toInt = (61 : Int32).toInt) := fun h9 => c_106 (i_eq.mpr h9)
          refine lv_iload hx hb dX11_holds_408 (lv_at hl 0 rfl) ?_
          refine lv_iload hx hb dX11_holds_410 (lv_at hl 2 rfl) ?_
          refine lv_icmp_le (tgt := 419) hx hb dX11_holds_412 (by decide) (fun c_107 => ?_) (fun c_107 => ?_)
          · skip
            have c_107 : r_97.toInt ≤ z_8.toInt := i_le.mp c_107
            refine lv_iconst (v := 0) hx hb dX11_holds_419 (by decide) ?_
            have k_0 : (0 : Int32).toInt = 0 := by decide
            rw [hQ9]
            exact re_z voth hx hb hr hlocks (Or.inl rfl) (show ((0 : Int32) = 0) ∨ ((0 : Int32) = 1) from (Or.inl rfl)) (hP.sub [0, 1] rfl) (hD.sub [0, 1] rfl rfl) hS dX11_holds_420
          · skip
            have c_107 : ¬ (r_97.toInt ≤ z_8.toInt) := fun h9 => c_107 (i_le.mpr h9)
            refine lv_iconst (v := 1) hx hb dX11_holds_415 (by decide) ?_
            refine lv_goto (tgt := 420) hx hb dX11_holds_416 (by decide) ?_
            rw [hQ9]
            exact re_z voth hx hb hr hlocks (Or.inr rfl) (show ((1 : Int32) = 0) ∨ ((1 : Int32) = 1) from (Or.inr (rfl))) (hP.sub [0, 1] rfl) (hD.sub [0, 1] rfl rfl) hS dX11_holds_420
        · skip
          have c_106 : z_105.toInt = (61 : Int32).toInt := i_eq.mp c_106
          refine lv_iload hx hb dX11_holds_393 (lv_at hl 0 rfl) ?_
          refine lv_iload hx hb dX11_holds_395 (lv_at hl 2 rfl) ?_
          refine lv_icmp_ne (tgt := 404) hx hb dX11_holds_397 (by decide) (fun c_108 => ?_) (fun c_108 => ?_)
          · skip
            have c_108 : ¬ (r_97.toInt = z_8.toInt) := fun h9 => c_108 (i_eq.mpr h9)
            refine lv_iconst (v := 0) hx hb dX11_holds_404 (by decide) ?_
            refine lv_goto (tgt := 420) hx hb dX11_holds_405 (by decide) ?_
            have k_0 : (0 : Int32).toInt = 0 := by decide
            rw [hQ9]
            exact re_z voth hx hb hr hlocks (Or.inl rfl) (show ((0 : Int32) = 0) ∨ ((0 : Int32) = 1) from (Or.inl rfl)) (hP.sub [0, 1] rfl) (hD.sub [0, 1] rfl rfl) hS dX11_holds_420
          · skip
            have c_108 : r_97.toInt = z_8.toInt := i_eq.mp c_108
            refine lv_iconst (v := 1) hx hb dX11_holds_400 (by decide) ?_
            refine lv_goto (tgt := 420) hx hb dX11_holds_401 (by decide) ?_
            rw [hQ9]
            exact re_z voth hx hb hr hlocks (Or.inr rfl) (show ((1 : Int32) = 0) ∨ ((1 : Int32) = 1) from (Or.inr (rfl))) (hP.sub [0, 1] rfl) (hD.sub [0, 1] rfl rfl) hS dX11_holds_420
      · skip
        have c_102 : z_101.toInt = (60 : Int32).toInt := i_eq.mp c_102
        refine lv_iload hx hb dX11_holds_365 (lv_at hl 0 rfl) ?_
        refine lv_iload hx hb dX11_holds_367 (lv_at hl 2 rfl) ?_
        refine lv_icmp_ge (tgt := 376) hx hb dX11_holds_369 (by decide) (fun c_109 => ?_) (fun c_109 => ?_)
        · skip
          have c_109 : z_8.toInt ≤ r_97.toInt := i_le.mp c_109
          refine lv_iconst (v := 0) hx hb dX11_holds_376 (by decide) ?_
          refine lv_goto (tgt := 420) hx hb dX11_holds_377 (by decide) ?_
          have k_0 : (0 : Int32).toInt = 0 := by decide
          rw [hQ9]
          exact re_z voth hx hb hr hlocks (Or.inl rfl) (show ((0 : Int32) = 0) ∨ ((0 : Int32) = 1) from (Or.inl rfl)) (hP.sub [0, 1] rfl) (hD.sub [0, 1] rfl rfl) hS dX11_holds_420
        · skip
          have c_109 : ¬ (z_8.toInt ≤ r_97.toInt) := fun h9 => c_109 (i_le.mpr h9)
          refine lv_iconst (v := 1) hx hb dX11_holds_372 (by decide) ?_
          refine lv_goto (tgt := 420) hx hb dX11_holds_373 (by decide) ?_
          rw [hQ9]
          exact re_z voth hx hb hr hlocks (Or.inr rfl) (show ((1 : Int32) = 0) ∨ ((1 : Int32) = 1) from (Or.inr (rfl))) (hP.sub [0, 1] rfl) (hD.sub [0, 1] rfl rfl) hS dX11_holds_420
  · skip
    have c_69 : z_68.toInt = (25 : Int32).toInt := i_eq.mp c_69
    refine lv_aload_n hx hb dX11_holds_306 rfl (lv_at hl 4 rfl) ?_
    refine lv_iload_n hx hb dX11_holds_307 rfl (lv_at hl 6 rfl) ?_
    refine jr_i (rVr (As := [.int vp]) (rest := []) (ci := 12) ⟨hx, hb, hml, hown, hts⟩ (m_whiteOf l dC dI cy vnh vo voth vmt votp vosz volm voto vofr vokd vonu vosg vofa vopl vowd votd vmn vmr vmk vms vma vmm vmrn vmkn vmik vmon vosm vohp vmw vmf vmb vomb vmd vmc vocm voct vocy vmx votx vose vml vmwr voln vohw vmno vond voon vowi votop vmnf vp ⟨by omega, by omega⟩ p_vmnf) (cw_X11_241 hts rfl rfl ⟨Nat.le_of_ble_eq_true rfl, Nat.le_of_ble_eq_true rfl⟩) hP hK [0, 1] rfl rfl rfl rfl hl.1 rfl (Nat.le_of_ble_eq_true rfl) dX11_holds_308 ⟨Nat.le_of_ble_eq_true rfl, Nat.le_of_ble_eq_true rfl⟩) hP hS (fun r_110 H locs hp_111 hP hS => ?_)
    refine lv_goto (tgt := 350) hx hb dX11_holds_311 (by decide) ?_
    refine lv_istore (lv' := [(7, .int r_110), (6, .int z_68), (5, .int z_8), (4, .int z_5), (3, .int z_2), (0, .ref vo), (1, .int vk), (2, .int vp)]) hx hb dX11_holds_350 hl (by decide) rfl (fun ls hl => ?_)
    refine lv_aload_n hx hb dX11_holds_352 rfl (lv_at hl 5 rfl) ?_
    refine gf_X11_98 hx hb hts hown hK hP 0 rfl rfl dX11_holds_353 ?_
    refine lv_iload_n hx hb dX11_holds_356 rfl (lv_at hl 4 rfl) ?_
    refine lv_iconst (v := 3) hx hb dX11_holds_357 (by decide) ?_
    refine lv_iadd hx hb dX11_holds_358 ?_
    refine lv_topi (fun z_112 ez_112 => ?_)
    have bz_112 : z_112.toInt = z_2.toInt + (3 : Int32).toInt := i_add ez_112 (by omega) (by omega)
    have hin_113 : vp_in z_112 575 := vp_in_iff.mpr ⟨by omega, by omega⟩
    refine va_iald hx hb hK hP 1 0 rfl rfl hin_113 dX11_holds_359 ?_
    refine lv_topi (fun z_114 ez_114 => ?_)
    refine lv_bipush (v := 60) hx hb dX11_holds_360 (by decide) ?_
    have k_60 : (60 : Int32).toInt = 60 := by decide
    refine lv_icmp_ne (tgt := 380) hx hb dX11_holds_362 (by decide) (fun c_115 => ?_) (fun c_115 => ?_)
    · skip
      have c_115 : ¬ (z_114.toInt = (60 : Int32).toInt) := fun h9 => c_115 (i_eq.mpr h9)
      refine lv_aload_n hx hb dX11_holds_380 rfl (lv_at hl 5 rfl) ?_
      refine gf_X11_98 hx hb hts hown hK hP 0 rfl rfl dX11_holds_381 ?_
      refine lv_iload_n hx hb dX11_holds_384 rfl (lv_at hl 4 rfl) ?_
      refine lv_iconst (v := 3) hx hb dX11_holds_385 (by decide) ?_
      refine lv_iadd hx hb dX11_holds_386 ?_
      refine lv_topi (fun z_116 ez_116 => ?_)
      have bz_116 : z_116.toInt = z_2.toInt + (3 : Int32).toInt := i_add ez_116 (by omega) (by omega)
      have hin_117 : vp_in z_116 575 := vp_in_iff.mpr ⟨by omega, by omega⟩
      refine va_iald hx hb hK hP 1 0 rfl rfl hin_117 dX11_holds_387 ?_
      refine lv_topi (fun z_118 ez_118 => ?_)
      refine lv_bipush (v := 61) hx hb dX11_holds_388 (by decide) ?_
      have k_61 : (61 : Int32).toInt = 61 := by decide
      refine lv_icmp_ne (tgt := 408) hx hb dX11_holds_390 (by decide) (fun c_119 => ?_) (fun c_119 => ?_)
      · skip
        have c_119 : ¬ (z_118.toInt = (61 : Int32).toInt) := fun h9 => c_119 (i_eq.mpr h9)
        refine lv_iload hx hb dX11_holds_408 (lv_at hl 0 rfl) ?_
        refine lv_iload hx hb dX11_holds_410 (lv_at hl 2 rfl) ?_
        refine lv_icmp_le (tgt := 419) hx hb dX11_holds_412 (by decide) (fun c_120 => ?_) (fun c_120 => ?_)
        · skip
          have c_120 : r_110.toInt ≤ z_8.toInt := i_le.mp c_120
          refine lv_iconst (v := 0) hx hb dX11_holds_419 (by decide) ?_
          have k_0 : (0 : Int32).toInt = 0 := by decide
          rw [hQ9]
          exact re_z voth hx hb hr hlocks (Or.inl rfl) (show ((0 : Int32) = 0) ∨ ((0 : Int32) = 1) from (Or.inl rfl)) (hP.sub [0, 1] rfl) (hD.sub [0, 1] rfl rfl) hS dX11_holds_420
        · skip
          have c_120 : ¬ (r_110.toInt ≤ z_8.toInt) := fun h9 => c_120 (i_le.mpr h9)
          refine lv_iconst (v := 1) hx hb dX11_holds_415 (by decide) ?_
          refine lv_goto (tgt := 420) hx hb dX11_holds_416 (by decide) ?_
          rw [hQ9]
          exact re_z voth hx hb hr hlocks (Or.inr rfl) (show ((1 : Int32) = 0) ∨ ((1 : Int32) = 1) from (Or.inr (rfl))) (hP.sub [0, 1] rfl) (hD.sub [0, 1] rfl rfl) hS dX11_holds_420
      · skip
        have c_119 : z_118.toInt = (61 : Int32).toInt := i_eq.mp c_119
        refine lv_iload hx hb dX11_holds_393 (lv_at hl 0 rfl) ?_
        refine lv_iload hx hb dX11_holds_395 (lv_at hl 2 rfl) ?_
        refine lv_icmp_ne (tgt := 404) hx hb dX11_holds_397 (by decide) (fun c_121 => ?_) (fun c_121 => ?_)
        · skip
          have c_121 : ¬ (r_110.toInt = z_8.toInt) := fun h9 => c_121 (i_eq.mpr h9)
          refine lv_iconst (v := 0) hx hb dX11_holds_404 (by decide) ?_
          refine lv_goto (tgt := 420) hx hb dX11_holds_405 (by decide) ?_
          have k_0 : (0 : Int32).toInt = 0 := by decide
          rw [hQ9]
          exact re_z voth hx hb hr hlocks (Or.inl rfl) (show ((0 : Int32) = 0) ∨ ((0 : Int32) = 1) from (Or.inl rfl)) (hP.sub [0, 1] rfl) (hD.sub [0, 1] rfl rfl) hS dX11_holds_420
        · skip
          have c_121 : r_110.toInt = z_8.toInt := i_eq.mp c_121
          refine lv_iconst (v := 1) hx hb dX11_holds_400 (by decide) ?_
          refine lv_goto (tgt := 420) hx hb dX11_holds_401 (by decide) ?_
          rw [hQ9]
          exact re_z voth hx hb hr hlocks (Or.inr rfl) (show ((1 : Int32) = 0) ∨ ((1 : Int32) = 1) from (Or.inr (rfl))) (hP.sub [0, 1] rfl) (hD.sub [0, 1] rfl rfl) hS dX11_holds_420
    · skip
      have c_115 : z_114.toInt = (60 : Int32).toInt := i_eq.mp c_115
      refine lv_iload hx hb dX11_holds_365 (lv_at hl 0 rfl) ?_
      refine lv_iload hx hb dX11_holds_367 (lv_at hl 2 rfl) ?_
      refine lv_icmp_ge (tgt := 376) hx hb dX11_holds_369 (by decide) (fun c_122 => ?_) (fun c_122 => ?_)
      · skip
        have c_122 : z_8.toInt ≤ r_110.toInt := i_le.mp c_122
        refine lv_iconst (v := 0) hx hb dX11_holds_376 (by decide) ?_
        refine lv_goto (tgt := 420) hx hb dX11_holds_377 (by decide) ?_
        have k_0 : (0 : Int32).toInt = 0 := by decide
        rw [hQ9]
        exact re_z voth hx hb hr hlocks (Or.inl rfl) (show ((0 : Int32) = 0) ∨ ((0 : Int32) = 1) from (Or.inl rfl)) (hP.sub [0, 1] rfl) (hD.sub [0, 1] rfl rfl) hS dX11_holds_420
      · skip
        have c_122 : ¬ (z_8.toInt ≤ r_110.toInt) := fun h9 => c_122 (i_le.mpr h9)
        refine lv_iconst (v := 1) hx hb dX11_holds_372 (by decide) ?_
        refine lv_goto (tgt := 420) hx hb dX11_holds_373 (by decide) ?_
        rw [hQ9]
        exact re_z voth hx hb hr hlocks (Or.inr rfl) (show ((1 : Int32) = 0) ∨ ((1 : Int32) = 1) from (Or.inr (rfl))) (hP.sub [0, 1] rfl) (hD.sub [0, 1] rfl rfl) hS dX11_holds_420
abbrev O_m_holds_9 (cy : Nat → ClassId) (vnh : Nat → Int32) (vo : Nat) (voth : Int32) (vmt : Nat) (votp : Int32) (vosz : Int32) (volm : Int32) (voto : Int32) (vofr : Int32) (vokd : Int32) (vonu : Int32) (vosg : Int32) (vofa : Int32) (vopl : Int32) (vowd : Int64) (votd : Int32) (vmn : Nat) (vmr : Nat) (vmk : Nat) (vms : Nat) (vma : Nat) (vmm : Nat) (vmrn : Nat) (vmkn : Nat) (vmik : Nat) (vmon : Nat) (vosm : Int32) (vohp : Int32) (vmw : Nat) (vmf : Nat) (vmb : Nat) (vomb : Int32) (vmd : Nat) (vmc : Nat) (vocm : Int32) (voct : Int32) (vocy : Int32) (vmx : Nat) (votx : Int32) (vose : Int32) (vml : Nat) (vmwr : Nat) (voln : Int32) (vohw : Int32) (vmno : Nat) (vond : Int32) (voon : Int32) (vowi : Int32) (votop : Int32) (vmnf : Nat → Int32) (vk : Int32) (vp : Int32) (u : Int32) : va_W := [(vo, .inr (12, [.int u, .ref vmt, .int votp, .int vosz, .int volm, .int voto, .int vofr, .int vokd, .int vonu, .int vosg, .int vofa, .int vopl, .long vowd, .int votd, .ref vmn, .ref vmr, .ref vmk, .ref vms, .ref vma, .ref vmm, .ref vmrn, .ref vmkn, .ref vmik, .ref vmon, .int vosm, .int vohp, .ref vmw, .ref vmf, .ref vmb, .int vomb, .ref vmd, .ref vmc, .int vocm, .int voct, .int vocy, .ref vmx, .int votx, .int vose, .ref vml, .ref vmwr, .int voln, .int vohw, .ref vmno, .int vond, .int voon, .int vowi, .int votop])), (vmn, .inl (cy 0, 575, .inl vmnf))]
set_option maxHeartbeats 4000000 in
set_option maxRecDepth 100000 in
theorem m_holds_9 (l : Launch) (dC : Nat → ClassId) (dI : Nat → Nat → Nat) (cy : Nat → ClassId) (sz : Nat) (vnh : Nat → Int32) (vo : Nat) (voth : Int32) (vmt : Nat) (votp : Int32) (vosz : Int32) (volm : Int32) (voto : Int32) (vofr : Int32) (vokd : Int32) (vonu : Int32) (vosg : Int32) (vofa : Int32) (vopl : Int32) (vowd : Int64) (votd : Int32) (vmn : Nat) (vmr : Nat) (vmk : Nat) (vms : Nat) (vma : Nat) (vmm : Nat) (vmrn : Nat) (vmkn : Nat) (vmik : Nat) (vmon : Nat) (vosm : Int32) (vohp : Int32) (vmw : Nat) (vmf : Nat) (vmb : Nat) (vomb : Int32) (vmd : Nat) (vmc : Nat) (vocm : Int32) (voct : Int32) (vocy : Int32) (vmx : Nat) (votx : Int32) (vose : Int32) (vml : Nat) (vmwr : Nat) (voln : Int32) (vohw : Int32) (vmno : Nat) (vond : Int32) (voon : Int32) (vowi : Int32) (votop : Int32) (vmnf : Nat → Int32) (vk : Int32) (vp : Int32) (r_vk : 0 ≤ (vk : Int32).toInt ∧ (vk : Int32).toInt ≤ 9) (r_vp : 0 ≤ (vp : Int32).toInt ∧ (vp : Int32).toInt ≤ 6) (p_vmnf : NW vnh vmnf) : Met l yX11_holds (wl yX11_holds cX11_holds 8 (some .boolean)) ({ frames := 15, cells := 0, slots := 0, locals := 960 }) (Pw (dC, dI) vwCl cy [(vo, .inr (12, [.int voth, .ref vmt, .int votp, .int vosz, .int volm, .int voto, .int vofr, .int vokd, .int vonu, .int vosg, .int vofa, .int vopl, .long vowd, .int votd, .ref vmn, .ref vmr, .ref vmk, .ref vms, .ref vma, .ref vmm, .ref vmrn, .ref vmkn, .ref vmik, .ref vmon, .int vosm, .int vohp, .ref vmw, .ref vmf, .ref vmb, .int vomb, .ref vmd, .ref vmc, .int vocm, .int voct, .int vocy, .ref vmx, .int votx, .int vose, .ref vml, .ref vmwr, .int voln, .int vohw, .ref vmno, .int vond, .int voon, .int vowi, .int votop])), (vmn, .inl (cy 0, 575, .inl vmnf))] sz [.ref vo, .int vk, .int vp] nE) (Qi (dC, dI) vwCl (fun (r : Int32) (u : Int32) => ((r = 0) ∨ (r = 1))) (O_m_holds_9 cy vnh vo voth vmt votp vosz volm voto vofr vokd vonu vosg vofa vopl vowd votd vmn vmr vmk vms vma vmm vmrn vmkn vmik vmon vosm vohp vmw vmf vmb vomb vmd vmc vocm voct vocy vmx votx vose vml vmwr voln vohw vmno vond voon vowi votop vmnf vk vp) (va_A [(vo, .inr (12, [.int voth, .ref vmt, .int votp, .int vosz, .int volm, .int voto, .int vofr, .int vokd, .int vonu, .int vosg, .int vofa, .int vopl, .long vowd, .int votd, .ref vmn, .ref vmr, .ref vmk, .ref vms, .ref vma, .ref vmm, .ref vmrn, .ref vmkn, .ref vmik, .ref vmon, .int vosm, .int vohp, .ref vmw, .ref vmf, .ref vmb, .int vomb, .ref vmd, .ref vmc, .int vocm, .int voct, .int vocy, .ref vmx, .int votx, .int vose, .ref vml, .ref vmwr, .int voln, .int vohw, .ref vmno, .int vond, .int voon, .int vowi, .int votop])), (vmn, .inl (cy 0, 575, .inl vmnf))] sz)) 0 0 (va_A [(vo, .inr (12, [.int voth, .ref vmt, .int votp, .int vosz, .int volm, .int voto, .int vofr, .int vokd, .int vonu, .int vosg, .int vofa, .int vopl, .long vowd, .int votd, .ref vmn, .ref vmr, .ref vmk, .ref vms, .ref vma, .ref vmm, .ref vmrn, .ref vmkn, .ref vmik, .ref vmon, .int vosm, .int vohp, .ref vmw, .ref vmf, .ref vmb, .int vomb, .ref vmd, .ref vmc, .int vocm, .int voct, .int vocy, .ref vmx, .int votx, .int vose, .ref vml, .ref vmwr, .int voln, .int vohw, .ref vmno, .int vond, .int voon, .int vowi, .int votop])), (vmn, .inl (cy 0, 575, .inl vmnf))] sz) := by
  refine mw (Qc := Qi (dC, dI) vwCl (fun (r : Int32) (u : Int32) => ((r = 0) ∨ (r = 1))) (O_m_holds_9 cy vnh vo voth vmt votp vosz volm voto vofr vokd vonu vosg vofa vopl vowd votd vmn vmr vmk vms vma vmm vmrn vmkn vmik vmon vosm vohp vmw vmf vmb vomb vmd vmc vocm voct vocy vmx votx vose vml vmwr voln vohw vmno vond voon vowi votop vmnf vk vp)) RX11 rfl (by decide +kernel) (Nat.le_of_ble_eq_true rfl) ?_
  intro p e s m below meth c A hx hb hr hlocks av9 hav hts hown hnm hml hK hP hD hA hS hE hAe Q9 hQ9 ls hl
  have hl : lv_has ls 8 [(0, .ref vo), (1, .int vk), (2, .int vp)] := hl
  refine lv_sipush (v := 335) hx hb dX11_holds_0 (by decide) ?_
  refine lv_iconst (v := 4) hx hb dX11_holds_3 (by decide) ?_
  refine lv_iload_n hx hb dX11_holds_4 rfl (lv_at hl 1 rfl) ?_
  refine lv_imul hx hb dX11_holds_5 ?_
  refine lv_topi (fun z_1 ez_1 => ?_)
  have k_4 : (4 : Int32).toInt = 4 := by decide
  have bz_1 : z_1.toInt = vk.toInt * 4 := i_cmul k_4 ez_1 (by omega) (by omega)
  refine lv_iadd hx hb dX11_holds_6 ?_
  refine lv_topi (fun z_2 ez_2 => ?_)
  have k_335 : (335 : Int32).toInt = 335 := by decide
  have bz_2 : z_2.toInt = (335 : Int32).toInt + z_1.toInt := i_add ez_2 (by omega) (by omega)
  refine lv_istore_n (lv' := [(3, .int z_2), (0, .ref vo), (1, .int vk), (2, .int vp)]) hx hb dX11_holds_7 rfl hl (by decide) rfl (fun ls hl => ?_)
  refine lv_aload_n hx hb dX11_holds_8 rfl (lv_at hl 1 rfl) ?_
  refine gf_X11_98 hx hb hts hown hK hP 0 rfl rfl dX11_holds_9 ?_
  refine lv_iload_n hx hb dX11_holds_12 rfl (lv_at hl 0 rfl) ?_
  refine lv_iconst (v := 1) hx hb dX11_holds_13 (by decide) ?_
  refine lv_iadd hx hb dX11_holds_14 ?_
  refine lv_topi (fun z_3 ez_3 => ?_)
  have k_1 : (1 : Int32).toInt = 1 := by decide
  have bz_3 : z_3.toInt = z_2.toInt + (1 : Int32).toInt := i_add ez_3 (by omega) (by omega)
  have hin_4 : vp_in z_3 575 := vp_in_iff.mpr ⟨by omega, by omega⟩
  refine va_iald hx hb hK hP 1 0 rfl rfl hin_4 dX11_holds_15 ?_
  refine lv_topi (fun z_5 ez_5 => ?_)
  refine lv_istore (lv' := [(4, .int z_5), (3, .int z_2), (0, .ref vo), (1, .int vk), (2, .int vp)]) hx hb dX11_holds_16 hl (by decide) rfl (fun ls hl => ?_)
  refine lv_aload_n hx hb dX11_holds_18 rfl (lv_at hl 2 rfl) ?_
  refine gf_X11_98 hx hb hts hown hK hP 0 rfl rfl dX11_holds_19 ?_
  refine lv_iload_n hx hb dX11_holds_22 rfl (lv_at hl 1 rfl) ?_
  refine lv_iconst (v := 2) hx hb dX11_holds_23 (by decide) ?_
  refine lv_iadd hx hb dX11_holds_24 ?_
  refine lv_topi (fun z_6 ez_6 => ?_)
  have k_2 : (2 : Int32).toInt = 2 := by decide
  have bz_6 : z_6.toInt = z_2.toInt + (2 : Int32).toInt := i_add ez_6 (by omega) (by omega)
  have hin_7 : vp_in z_6 575 := vp_in_iff.mpr ⟨by omega, by omega⟩
  refine va_iald hx hb hK hP 1 0 rfl rfl hin_7 dX11_holds_25 ?_
  refine lv_topi (fun z_8 ez_8 => ?_)
  refine lv_istore (lv' := [(5, .int z_8), (4, .int z_5), (3, .int z_2), (0, .ref vo), (1, .int vk), (2, .int vp)]) hx hb dX11_holds_26 hl (by decide) rfl (fun ls hl => ?_)
  refine lv_aload_n hx hb dX11_holds_28 rfl (lv_at hl 3 rfl) ?_
  refine gf_X11_98 hx hb hts hown hK hP 0 rfl rfl dX11_holds_29 ?_
  refine lv_iload_n hx hb dX11_holds_32 rfl (lv_at hl 2 rfl) ?_
  have hin_9 : vp_in z_2 575 := vp_in_iff.mpr ⟨by omega, by omega⟩
  refine va_iald hx hb hK hP 1 0 rfl rfl hin_9 dX11_holds_33 ?_
  refine lv_topi (fun z_10 ez_10 => ?_)
  obtain ⟨hA1, hA2, hA3, hA4⟩ := NW.node p_vmnf (k := vk) ⟨by omega, by omega⟩ (i1 := z_3) (by omega) ez_5 (i2 := z_6) (by omega) ez_8 (i0 := z_2) (by omega) ez_10
  have k_3 : (3 : Int32).toInt = 3 := by decide
  have k_68 : (68 : Int32).toInt = 68 := by decide
  have k_69 : (69 : Int32).toInt = 69 := by decide
  have k_70 : (70 : Int32).toInt = 70 := by decide
  have k_71 : (71 : Int32).toInt = 71 := by decide
  have k_72 : (72 : Int32).toInt = 72 := by decide
  have k_73 : (73 : Int32).toInt = 73 := by decide
  have k_74 : (74 : Int32).toInt = 74 := by decide
  by_cases sw_11_1 : z_10.toInt = 1
  · refine as_i 1 (i_eq.mpr (sw_11_1.trans k_1.symm)) ?_
    refine lv_lookup (off := 90) (tgt := 124) hx hb dX11_holds_34 (by decide) (by decide) (by decide) ?_
    have hB := hA1 (by omega)
    refine lv_aload_n hx hb dX11_holds_124 rfl (lv_at hl 3 rfl) ?_
    refine lv_iload hx hb dX11_holds_125 (lv_at hl 1 rfl) ?_
    refine lv_iload_n hx hb dX11_holds_127 rfl (lv_at hl 5 rfl) ?_
    refine jn_i (wr := []) (rV (As := [.int z_5, .int vp]) (rest := []) (ci := 12) ⟨hx, hb, hml, hown, hts⟩ (m_holds_8 l dC dI cy _ vnh vo voth vmt votp vosz volm voto vofr vokd vonu vosg vofa vopl vowd votd vmn vmr vmk vms vma vmm vmrn vmkn vmik vmon vosm vohp vmw vmf vmb vomb vmd vmc vocm voct vocy vmx votx vose vml vmwr voln vohw vmno vond voon vowi votop vmnf z_5 vp ⟨by omega, by omega⟩ r_vp p_vmnf) (cw_X11_438 hts rfl rfl ⟨Nat.le_of_ble_eq_true rfl, Nat.le_of_ble_eq_true rfl⟩) hP hD hK [0, 1] rfl rfl rfl rfl bl0 e0 rfl hl.1 rfl (Nat.le_of_ble_eq_true rfl) dX11_holds_128 ⟨Nat.le_of_ble_eq_true rfl, Nat.le_of_ble_eq_true rfl⟩) hP hD hS hA [0, 1] [] rfl rfl rfl (by decide) (fun r_12 u_14 H locs hp_13 hP hD hS => ?_)
    obtain ⟨voth_15, rfl⟩ : ∃ z, z = u_14 := ⟨_, rfl⟩
    have hp_13 : ((r_12 = 0) ∨ (r_12 = 1)) := hp_13
    have q_16 := hp_13
    have hP : va_P (dC, dI) vwCl [(vo, .inr (12, [.int voth_15, .ref vmt, .int votp, .int vosz, .int volm, .int voto, .int vofr, .int vokd, .int vonu, .int vosg, .int vofa, .int vopl, .long vowd, .int votd, .ref vmn, .ref vmr, .ref vmk, .ref vms, .ref vma, .ref vmm, .ref vmrn, .ref vmkn, .ref vmik, .ref vmon, .int vosm, .int vohp, .ref vmw, .ref vmf, .ref vmb, .int vomb, .ref vmd, .ref vmc, .int vocm, .int voct, .int vocy, .ref vmx, .int votx, .int vose, .ref vml, .ref vmwr, .int voln, .int vohw, .ref vmno, .int vond, .int voon, .int vowi, .int votop])), (vmn, .inl (cy 0, 575, .inl vmnf))] H := hP
    have hD : va_D A [(vo, .inr (12, [.int voth_15, .ref vmt, .int votp, .int vosz, .int volm, .int voto, .int vofr, .int vokd, .int vonu, .int vosg, .int vofa, .int vopl, .long vowd, .int votd, .ref vmn, .ref vmr, .ref vmk, .ref vms, .ref vma, .ref vmm, .ref vmrn, .ref vmkn, .ref vmik, .ref vmon, .int vosm, .int vohp, .ref vmw, .ref vmf, .ref vmb, .int vomb, .ref vmd, .ref vmc, .int vocm, .int voct, .int vocy, .ref vmx, .int votx, .int vose, .ref vml, .ref vmwr, .int voln, .int vohw, .ref vmno, .int vond, .int voon, .int vowi, .int votop])), (vmn, .inl (cy 0, 575, .inl vmnf))] := hD
    rcases q_16 with aq_16 | aq_16
    · skip
      refine as_i 0 aq_16 ?_
      refine lv_if_ne (tgt := 138) hx hb dX11_holds_131 (by decide) (fun c9 => absurd c9 (by decide)) (fun _ => ?_)
      refine lv_iconst (v := 1) hx hb dX11_holds_134 (by decide) ?_
      refine lv_goto (tgt := 139) hx hb dX11_holds_135 (by decide) ?_
      rw [hQ9]
      exact re_z voth_15 hx hb hr hlocks (Or.inr rfl) (show ((1 : Int32) = 0) ∨ ((1 : Int32) = 1) from (Or.inr (rfl))) (hP.sub [0, 1] rfl) (hD.sub [0, 1] rfl rfl) hS dX11_holds_139
    · skip
      refine as_i 1 aq_16 ?_
      refine lv_if_ne (tgt := 138) hx hb dX11_holds_131 (by decide) (fun _ => ?_) (fun c9 => absurd c9 (by decide))
      refine lv_iconst (v := 0) hx hb dX11_holds_138 (by decide) ?_
      have k_0 : (0 : Int32).toInt = 0 := by decide
      rw [hQ9]
      exact re_z voth_15 hx hb hr hlocks (Or.inl rfl) (show ((0 : Int32) = 0) ∨ ((0 : Int32) = 1) from (Or.inl rfl)) (hP.sub [0, 1] rfl) (hD.sub [0, 1] rfl rfl) hS dX11_holds_139
  by_cases sw_11_2 : z_10.toInt = 2
  · refine as_i 2 (i_eq.mpr (sw_11_2.trans k_2.symm)) ?_
    refine lv_lookup (off := 106) (tgt := 140) hx hb dX11_holds_34 (by decide) (by decide) (by decide) ?_
    have hB := hA2 (by omega)
    refine lv_aload_n hx hb dX11_holds_140 rfl (lv_at hl 3 rfl) ?_
    refine lv_iload hx hb dX11_holds_141 (lv_at hl 1 rfl) ?_
    refine lv_iload_n hx hb dX11_holds_143 rfl (lv_at hl 5 rfl) ?_
    refine jn_i (wr := []) (rV (As := [.int z_5, .int vp]) (rest := []) (ci := 12) ⟨hx, hb, hml, hown, hts⟩ (m_holds_8 l dC dI cy _ vnh vo voth vmt votp vosz volm voto vofr vokd vonu vosg vofa vopl vowd votd vmn vmr vmk vms vma vmm vmrn vmkn vmik vmon vosm vohp vmw vmf vmb vomb vmd vmc vocm voct vocy vmx votx vose vml vmwr voln vohw vmno vond voon vowi votop vmnf z_5 vp ⟨by omega, by omega⟩ r_vp p_vmnf) (cw_X11_438 hts rfl rfl ⟨Nat.le_of_ble_eq_true rfl, Nat.le_of_ble_eq_true rfl⟩) hP hD hK [0, 1] rfl rfl rfl rfl bl0 e0 rfl hl.1 rfl (Nat.le_of_ble_eq_true rfl) dX11_holds_144 ⟨Nat.le_of_ble_eq_true rfl, Nat.le_of_ble_eq_true rfl⟩) hP hD hS hA [0, 1] [] rfl rfl rfl (by decide) (fun r_17 u_19 H locs hp_18 hP hD hS => ?_)
    obtain ⟨voth_20, rfl⟩ : ∃ z, z = u_19 := ⟨_, rfl⟩
    have hp_18 : ((r_17 = 0) ∨ (r_17 = 1)) := hp_18
    have q_21 := hp_18
    have hP : va_P (dC, dI) vwCl [(vo, .inr (12, [.int voth_20, .ref vmt, .int votp, .int vosz, .int volm, .int voto, .int vofr, .int vokd, .int vonu, .int vosg, .int vofa, .int vopl, .long vowd, .int votd, .ref vmn, .ref vmr, .ref vmk, .ref vms, .ref vma, .ref vmm, .ref vmrn, .ref vmkn, .ref vmik, .ref vmon, .int vosm, .int vohp, .ref vmw, .ref vmf, .ref vmb, .int vomb, .ref vmd, .ref vmc, .int vocm, .int voct, .int vocy, .ref vmx, .int votx, .int vose, .ref vml, .ref vmwr, .int voln, .int vohw, .ref vmno, .int vond, .int voon, .int vowi, .int votop])), (vmn, .inl (cy 0, 575, .inl vmnf))] H := hP
    have hD : va_D A [(vo, .inr (12, [.int voth_20, .ref vmt, .int votp, .int vosz, .int volm, .int voto, .int vofr, .int vokd, .int vonu, .int vosg, .int vofa, .int vopl, .long vowd, .int votd, .ref vmn, .ref vmr, .ref vmk, .ref vms, .ref vma, .ref vmm, .ref vmrn, .ref vmkn, .ref vmik, .ref vmon, .int vosm, .int vohp, .ref vmw, .ref vmf, .ref vmb, .int vomb, .ref vmd, .ref vmc, .int vocm, .int voct, .int vocy, .ref vmx, .int votx, .int vose, .ref vml, .ref vmwr, .int voln, .int vohw, .ref vmno, .int vond, .int voon, .int vowi, .int votop])), (vmn, .inl (cy 0, 575, .inl vmnf))] := hD
    rcases q_21 with aq_21 | aq_21
    · skip
      refine as_i 0 aq_21 ?_
      refine lv_if_eq (tgt := 164) hx hb dX11_holds_147 (by decide) (fun _ => ?_) (fun c9 => absurd (by decide) c9)
      refine lv_iconst (v := 0) hx hb dX11_holds_164 (by decide) ?_
      have k_0 : (0 : Int32).toInt = 0 := by decide
      rw [hQ9]
      exact re_z voth_20 hx hb hr hlocks (Or.inl rfl) (show ((0 : Int32) = 0) ∨ ((0 : Int32) = 1) from (Or.inl rfl)) (hP.sub [0, 1] rfl) (hD.sub [0, 1] rfl rfl) hS dX11_holds_165
    · skip
      refine as_i 1 aq_21 ?_
      refine lv_if_eq (tgt := 164) hx hb dX11_holds_147 (by decide) (fun c9 => absurd c9 (by decide)) (fun _ => ?_)
      refine lv_aload_n hx hb dX11_holds_150 rfl (lv_at hl 3 rfl) ?_
      refine lv_iload hx hb dX11_holds_151 (lv_at hl 0 rfl) ?_
      refine lv_iload_n hx hb dX11_holds_153 rfl (lv_at hl 5 rfl) ?_
      refine jn_i (wr := []) (rV (As := [.int z_8, .int vp]) (rest := []) (ci := 12) ⟨hx, hb, hml, hown, hts⟩ (m_holds_8 l dC dI cy _ vnh vo voth_20 vmt votp vosz volm voto vofr vokd vonu vosg vofa vopl vowd votd vmn vmr vmk vms vma vmm vmrn vmkn vmik vmon vosm vohp vmw vmf vmb vomb vmd vmc vocm voct vocy vmx votx vose vml vmwr voln vohw vmno vond voon vowi votop vmnf z_8 vp ⟨by omega, by omega⟩ r_vp p_vmnf) (cw_X11_438 hts rfl rfl ⟨Nat.le_of_ble_eq_true rfl, Nat.le_of_ble_eq_true rfl⟩) hP hD hK [0, 1] rfl rfl rfl rfl bl0 e0 rfl hl.1 rfl (Nat.le_of_ble_eq_true rfl) dX11_holds_154 ⟨Nat.le_of_ble_eq_true rfl, Nat.le_of_ble_eq_true rfl⟩) hP hD hS hA [0, 1] [] rfl rfl rfl (by decide) (fun r_22 u_24 H locs hp_23 hP hD hS => ?_)
      obtain ⟨voth_25, rfl⟩ : ∃ z, z = u_24 := ⟨_, rfl⟩
      have hp_23 : ((r_22 = 0) ∨ (r_22 = 1)) := hp_23
      have q_26 := hp_23
      have hP : va_P (dC, dI) vwCl [(vo, .inr (12, [.int voth_25, .ref vmt, .int votp, .int vosz, .int volm, .int voto, .int vofr, .int vokd, .int vonu, .int vosg, .int vofa, .int vopl, .long vowd, .int votd, .ref vmn, .ref vmr, .ref vmk, .ref vms, .ref vma, .ref vmm, .ref vmrn, .ref vmkn, .ref vmik, .ref vmon, .int vosm, .int vohp, .ref vmw, .ref vmf, .ref vmb, .int vomb, .ref vmd, .ref vmc, .int vocm, .int voct, .int vocy, .ref vmx, .int votx, .int vose, .ref vml, .ref vmwr, .int voln, .int vohw, .ref vmno, .int vond, .int voon, .int vowi, .int votop])), (vmn, .inl (cy 0, 575, .inl vmnf))] H := hP
      have hD : va_D A [(vo, .inr (12, [.int voth_25, .ref vmt, .int votp, .int vosz, .int volm, .int voto, .int vofr, .int vokd, .int vonu, .int vosg, .int vofa, .int vopl, .long vowd, .int votd, .ref vmn, .ref vmr, .ref vmk, .ref vms, .ref vma, .ref vmm, .ref vmrn, .ref vmkn, .ref vmik, .ref vmon, .int vosm, .int vohp, .ref vmw, .ref vmf, .ref vmb, .int vomb, .ref vmd, .ref vmc, .int vocm, .int voct, .int vocy, .ref vmx, .int votx, .int vose, .ref vml, .ref vmwr, .int voln, .int vohw, .ref vmno, .int vond, .int voon, .int vowi, .int votop])), (vmn, .inl (cy 0, 575, .inl vmnf))] := hD
      rcases q_26 with aq_26 | aq_26
      · skip
        refine as_i 0 aq_26 ?_
        refine lv_if_eq (tgt := 164) hx hb dX11_holds_157 (by decide) (fun _ => ?_) (fun c9 => absurd (by decide) c9)
        refine lv_iconst (v := 0) hx hb dX11_holds_164 (by decide) ?_
        have k_0 : (0 : Int32).toInt = 0 := by decide
        rw [hQ9]
        exact re_z voth_25 hx hb hr hlocks (Or.inl rfl) (show ((0 : Int32) = 0) ∨ ((0 : Int32) = 1) from (Or.inl rfl)) (hP.sub [0, 1] rfl) (hD.sub [0, 1] rfl rfl) hS dX11_holds_165
      · skip
        refine as_i 1 aq_26 ?_
        refine lv_if_eq (tgt := 164) hx hb dX11_holds_157 (by decide) (fun c9 => absurd c9 (by decide)) (fun _ => ?_)
        refine lv_iconst (v := 1) hx hb dX11_holds_160 (by decide) ?_
        refine lv_goto (tgt := 165) hx hb dX11_holds_161 (by decide) ?_
        rw [hQ9]
        exact re_z voth_25 hx hb hr hlocks (Or.inr rfl) (show ((1 : Int32) = 0) ∨ ((1 : Int32) = 1) from (Or.inr (rfl))) (hP.sub [0, 1] rfl) (hD.sub [0, 1] rfl rfl) hS dX11_holds_165
  by_cases sw_11_3 : z_10.toInt = 3
  · refine as_i 3 (i_eq.mpr (sw_11_3.trans k_3.symm)) ?_
    refine lv_lookup (off := 132) (tgt := 166) hx hb dX11_holds_34 (by decide) (by decide) (by decide) ?_
    have hB := hA3 (by omega)
    refine lv_aload_n hx hb dX11_holds_166 rfl (lv_at hl 3 rfl) ?_
    refine lv_iload hx hb dX11_holds_167 (lv_at hl 1 rfl) ?_
    refine lv_iload_n hx hb dX11_holds_169 rfl (lv_at hl 5 rfl) ?_
    refine jn_i (wr := []) (rV (As := [.int z_5, .int vp]) (rest := []) (ci := 12) ⟨hx, hb, hml, hown, hts⟩ (m_holds_8 l dC dI cy _ vnh vo voth vmt votp vosz volm voto vofr vokd vonu vosg vofa vopl vowd votd vmn vmr vmk vms vma vmm vmrn vmkn vmik vmon vosm vohp vmw vmf vmb vomb vmd vmc vocm voct vocy vmx votx vose vml vmwr voln vohw vmno vond voon vowi votop vmnf z_5 vp ⟨by omega, by omega⟩ r_vp p_vmnf) (cw_X11_438 hts rfl rfl ⟨Nat.le_of_ble_eq_true rfl, Nat.le_of_ble_eq_true rfl⟩) hP hD hK [0, 1] rfl rfl rfl rfl bl0 e0 rfl hl.1 rfl (Nat.le_of_ble_eq_true rfl) dX11_holds_170 ⟨Nat.le_of_ble_eq_true rfl, Nat.le_of_ble_eq_true rfl⟩) hP hD hS hA [0, 1] [] rfl rfl rfl (by decide) (fun r_27 u_29 H locs hp_28 hP hD hS => ?_)
    obtain ⟨voth_30, rfl⟩ : ∃ z, z = u_29 := ⟨_, rfl⟩
    have hp_28 : ((r_27 = 0) ∨ (r_27 = 1)) := hp_28
    have q_31 := hp_28
    have hP : va_P (dC, dI) vwCl [(vo, .inr (12, [.int voth_30, .ref vmt, .int votp, .int vosz, .int volm, .int voto, .int vofr, .int vokd, .int vonu, .int vosg, .int vofa, .int vopl, .long vowd, .int votd, .ref vmn, .ref vmr, .ref vmk, .ref vms, .ref vma, .ref vmm, .ref vmrn, .ref vmkn, .ref vmik, .ref vmon, .int vosm, .int vohp, .ref vmw, .ref vmf, .ref vmb, .int vomb, .ref vmd, .ref vmc, .int vocm, .int voct, .int vocy, .ref vmx, .int votx, .int vose, .ref vml, .ref vmwr, .int voln, .int vohw, .ref vmno, .int vond, .int voon, .int vowi, .int votop])), (vmn, .inl (cy 0, 575, .inl vmnf))] H := hP
    have hD : va_D A [(vo, .inr (12, [.int voth_30, .ref vmt, .int votp, .int vosz, .int volm, .int voto, .int vofr, .int vokd, .int vonu, .int vosg, .int vofa, .int vopl, .long vowd, .int votd, .ref vmn, .ref vmr, .ref vmk, .ref vms, .ref vma, .ref vmm, .ref vmrn, .ref vmkn, .ref vmik, .ref vmon, .int vosm, .int vohp, .ref vmw, .ref vmf, .ref vmb, .int vomb, .ref vmd, .ref vmc, .int vocm, .int voct, .int vocy, .ref vmx, .int votx, .int vose, .ref vml, .ref vmwr, .int voln, .int vohw, .ref vmno, .int vond, .int voon, .int vowi, .int votop])), (vmn, .inl (cy 0, 575, .inl vmnf))] := hD
    rcases q_31 with aq_31 | aq_31
    · skip
      refine as_i 0 aq_31 ?_
      refine lv_if_ne (tgt := 186) hx hb dX11_holds_173 (by decide) (fun c9 => absurd c9 (by decide)) (fun _ => ?_)
      refine lv_aload_n hx hb dX11_holds_176 rfl (lv_at hl 3 rfl) ?_
      refine lv_iload hx hb dX11_holds_177 (lv_at hl 0 rfl) ?_
      refine lv_iload_n hx hb dX11_holds_179 rfl (lv_at hl 5 rfl) ?_
      refine jn_i (wr := []) (rV (As := [.int z_8, .int vp]) (rest := []) (ci := 12) ⟨hx, hb, hml, hown, hts⟩ (m_holds_8 l dC dI cy _ vnh vo voth_30 vmt votp vosz volm voto vofr vokd vonu vosg vofa vopl vowd votd vmn vmr vmk vms vma vmm vmrn vmkn vmik vmon vosm vohp vmw vmf vmb vomb vmd vmc vocm voct vocy vmx votx vose vml vmwr voln vohw vmno vond voon vowi votop vmnf z_8 vp ⟨by omega, by omega⟩ r_vp p_vmnf) (cw_X11_438 hts rfl rfl ⟨Nat.le_of_ble_eq_true rfl, Nat.le_of_ble_eq_true rfl⟩) hP hD hK [0, 1] rfl rfl rfl rfl bl0 e0 rfl hl.1 rfl (Nat.le_of_ble_eq_true rfl) dX11_holds_180 ⟨Nat.le_of_ble_eq_true rfl, Nat.le_of_ble_eq_true rfl⟩) hP hD hS hA [0, 1] [] rfl rfl rfl (by decide) (fun r_32 u_34 H locs hp_33 hP hD hS => ?_)
      obtain ⟨voth_35, rfl⟩ : ∃ z, z = u_34 := ⟨_, rfl⟩
      have hp_33 : ((r_32 = 0) ∨ (r_32 = 1)) := hp_33
      have q_36 := hp_33
      have hP : va_P (dC, dI) vwCl [(vo, .inr (12, [.int voth_35, .ref vmt, .int votp, .int vosz, .int volm, .int voto, .int vofr, .int vokd, .int vonu, .int vosg, .int vofa, .int vopl, .long vowd, .int votd, .ref vmn, .ref vmr, .ref vmk, .ref vms, .ref vma, .ref vmm, .ref vmrn, .ref vmkn, .ref vmik, .ref vmon, .int vosm, .int vohp, .ref vmw, .ref vmf, .ref vmb, .int vomb, .ref vmd, .ref vmc, .int vocm, .int voct, .int vocy, .ref vmx, .int votx, .int vose, .ref vml, .ref vmwr, .int voln, .int vohw, .ref vmno, .int vond, .int voon, .int vowi, .int votop])), (vmn, .inl (cy 0, 575, .inl vmnf))] H := hP
      have hD : va_D A [(vo, .inr (12, [.int voth_35, .ref vmt, .int votp, .int vosz, .int volm, .int voto, .int vofr, .int vokd, .int vonu, .int vosg, .int vofa, .int vopl, .long vowd, .int votd, .ref vmn, .ref vmr, .ref vmk, .ref vms, .ref vma, .ref vmm, .ref vmrn, .ref vmkn, .ref vmik, .ref vmon, .int vosm, .int vohp, .ref vmw, .ref vmf, .ref vmb, .int vomb, .ref vmd, .ref vmc, .int vocm, .int voct, .int vocy, .ref vmx, .int votx, .int vose, .ref vml, .ref vmwr, .int voln, .int vohw, .ref vmno, .int vond, .int voon, .int vowi, .int votop])), (vmn, .inl (cy 0, 575, .inl vmnf))] := hD
      rcases q_36 with aq_36 | aq_36
      · skip
        refine as_i 0 aq_36 ?_
        refine lv_if_eq (tgt := 190) hx hb dX11_holds_183 (by decide) (fun _ => ?_) (fun c9 => absurd (by decide) c9)
        refine lv_iconst (v := 0) hx hb dX11_holds_190 (by decide) ?_
        have k_0 : (0 : Int32).toInt = 0 := by decide
        rw [hQ9]
        exact re_z voth_35 hx hb hr hlocks (Or.inl rfl) (show ((0 : Int32) = 0) ∨ ((0 : Int32) = 1) from (Or.inl rfl)) (hP.sub [0, 1] rfl) (hD.sub [0, 1] rfl rfl) hS dX11_holds_191
      · skip
        refine as_i 1 aq_36 ?_
        refine lv_if_eq (tgt := 190) hx hb dX11_holds_183 (by decide) (fun c9 => absurd c9 (by decide)) (fun _ => ?_)
        refine lv_iconst (v := 1) hx hb dX11_holds_186 (by decide) ?_
        refine lv_goto (tgt := 191) hx hb dX11_holds_187 (by decide) ?_
        rw [hQ9]
        exact re_z voth_35 hx hb hr hlocks (Or.inr rfl) (show ((1 : Int32) = 0) ∨ ((1 : Int32) = 1) from (Or.inr (rfl))) (hP.sub [0, 1] rfl) (hD.sub [0, 1] rfl rfl) hS dX11_holds_191
    · skip
      refine as_i 1 aq_31 ?_
      refine lv_if_ne (tgt := 186) hx hb dX11_holds_173 (by decide) (fun _ => ?_) (fun c9 => absurd c9 (by decide))
      refine lv_iconst (v := 1) hx hb dX11_holds_186 (by decide) ?_
      refine lv_goto (tgt := 191) hx hb dX11_holds_187 (by decide) ?_
      rw [hQ9]
      exact re_z voth_30 hx hb hr hlocks (Or.inr rfl) (show ((1 : Int32) = 0) ∨ ((1 : Int32) = 1) from (Or.inr (rfl))) (hP.sub [0, 1] rfl) (hD.sub [0, 1] rfl rfl) hS dX11_holds_191
  by_cases sw_11_68 : z_10.toInt = 68
  · refine as_i 68 (i_eq.mpr (sw_11_68.trans k_68.symm)) ?_
    refine lv_lookup (off := 158) (tgt := 192) hx hb dX11_holds_34 (by decide) (by decide) (by decide) ?_
    refine lv_aload_n hx hb dX11_holds_192 rfl (lv_at hl 3 rfl) ?_
    refine lv_iload_n hx hb dX11_holds_193 rfl (lv_at hl 5 rfl) ?_
    refine jr_i (rVr (As := [.int vp]) (rest := []) (ci := 12) ⟨hx, hb, hml, hown, hts⟩ (m_howOf l dC dI cy vnh vo voth vmt votp vosz volm voto vofr vokd vonu vosg vofa vopl vowd votd vmn vmr vmk vms vma vmm vmrn vmkn vmik vmon vosm vohp vmw vmf vmb vomb vmd vmc vocm voct vocy vmx votx vose vml vmwr voln vohw vmno vond voon vowi votop vmnf vp ⟨by omega, by omega⟩ p_vmnf) (cw_X11_256 hts rfl rfl ⟨Nat.le_of_ble_eq_true rfl, Nat.le_of_ble_eq_true rfl⟩) hP hK [0, 1] rfl rfl rfl rfl hl.1 rfl (Nat.le_of_ble_eq_true rfl) dX11_holds_194 ⟨Nat.le_of_ble_eq_true rfl, Nat.le_of_ble_eq_true rfl⟩) hP hS (fun r_37 H locs hp_38 hP hS => ?_)
    have hp_38 : (0 ≤ (r_37 : Int32).toInt ∧ (r_37 : Int32).toInt ≤ 2) := hp_38
    have q_39 := hp_38
    refine lv_iconst (v := 1) hx hb dX11_holds_197 (by decide) ?_
    refine lv_icmp_ne (tgt := 205) hx hb dX11_holds_198 (by decide) (fun c_40 => ?_) (fun c_40 => ?_)
    · skip
      have c_40 : ¬ (r_37.toInt = (1 : Int32).toInt) := fun h9 => c_40 (i_eq.mpr h9)
      refine lv_iconst (v := 0) hx hb dX11_holds_205 (by decide) ?_
      have k_0 : (0 : Int32).toInt = 0 := by decide
      rw [hQ9]
      exact re_z voth hx hb hr hlocks (Or.inl rfl) (show ((0 : Int32) = 0) ∨ ((0 : Int32) = 1) from (Or.inl rfl)) (hP.sub [0, 1] rfl) (hD.sub [0, 1] rfl rfl) hS dX11_holds_206
    · skip
      have c_40 : r_37.toInt = (1 : Int32).toInt := i_eq.mp c_40
      refine lv_iconst (v := 1) hx hb dX11_holds_201 (by decide) ?_
      refine lv_goto (tgt := 206) hx hb dX11_holds_202 (by decide) ?_
      rw [hQ9]
      exact re_z voth hx hb hr hlocks (Or.inr rfl) (show ((1 : Int32) = 0) ∨ ((1 : Int32) = 1) from (Or.inr (rfl))) (hP.sub [0, 1] rfl) (hD.sub [0, 1] rfl rfl) hS dX11_holds_206
  by_cases sw_11_69 : z_10.toInt = 69
  · refine as_i 69 (i_eq.mpr (sw_11_69.trans k_69.symm)) ?_
    refine lv_lookup (off := 173) (tgt := 207) hx hb dX11_holds_34 (by decide) (by decide) (by decide) ?_
    refine lv_aload_n hx hb dX11_holds_207 rfl (lv_at hl 3 rfl) ?_
    refine lv_iload_n hx hb dX11_holds_208 rfl (lv_at hl 5 rfl) ?_
    refine jr_i (rVr (As := [.int vp]) (rest := []) (ci := 12) ⟨hx, hb, hml, hown, hts⟩ (m_howOf l dC dI cy vnh vo voth vmt votp vosz volm voto vofr vokd vonu vosg vofa vopl vowd votd vmn vmr vmk vms vma vmm vmrn vmkn vmik vmon vosm vohp vmw vmf vmb vomb vmd vmc vocm voct vocy vmx votx vose vml vmwr voln vohw vmno vond voon vowi votop vmnf vp ⟨by omega, by omega⟩ p_vmnf) (cw_X11_256 hts rfl rfl ⟨Nat.le_of_ble_eq_true rfl, Nat.le_of_ble_eq_true rfl⟩) hP hK [0, 1] rfl rfl rfl rfl hl.1 rfl (Nat.le_of_ble_eq_true rfl) dX11_holds_209 ⟨Nat.le_of_ble_eq_true rfl, Nat.le_of_ble_eq_true rfl⟩) hP hS (fun r_41 H locs hp_42 hP hS => ?_)
    have hp_42 : (0 ≤ (r_41 : Int32).toInt ∧ (r_41 : Int32).toInt ≤ 2) := hp_42
    have q_43 := hp_42
    have k_0 : (0 : Int32).toInt = 0 := by decide
    refine lv_if_ne (tgt := 219) hx hb dX11_holds_212 (by decide) (fun c_44 => ?_) (fun c_44 => ?_)
    · skip
      have c_44 : ¬ (r_41.toInt = (0 : Int32).toInt) := fun h9 => c_44 (i_eq.mpr h9)
      refine lv_iconst (v := 0) hx hb dX11_holds_219 (by decide) ?_
      rw [hQ9]
      exact re_z voth hx hb hr hlocks (Or.inl rfl) (show ((0 : Int32) = 0) ∨ ((0 : Int32) = 1) from (Or.inl rfl)) (hP.sub [0, 1] rfl) (hD.sub [0, 1] rfl rfl) hS dX11_holds_220
    · skip
      have c_44 : r_41.toInt = (0 : Int32).toInt := i_eq.mp c_44
      refine lv_iconst (v := 1) hx hb dX11_holds_215 (by decide) ?_
      refine lv_goto (tgt := 220) hx hb dX11_holds_216 (by decide) ?_
      rw [hQ9]
      exact re_z voth hx hb hr hlocks (Or.inr rfl) (show ((1 : Int32) = 0) ∨ ((1 : Int32) = 1) from (Or.inr (rfl))) (hP.sub [0, 1] rfl) (hD.sub [0, 1] rfl rfl) hS dX11_holds_220
  by_cases sw_11_70 : z_10.toInt = 70
  · refine as_i 70 (i_eq.mpr (sw_11_70.trans k_70.symm)) ?_
    refine lv_lookup (off := 187) (tgt := 221) hx hb dX11_holds_34 (by decide) (by decide) (by decide) ?_
    refine lv_aload_n hx hb dX11_holds_221 rfl (lv_at hl 3 rfl) ?_
    refine lv_iload_n hx hb dX11_holds_222 rfl (lv_at hl 5 rfl) ?_
    refine jr_i (rVr (As := [.int vp]) (rest := []) (ci := 12) ⟨hx, hb, hml, hown, hts⟩ (m_howOf l dC dI cy vnh vo voth vmt votp vosz volm voto vofr vokd vonu vosg vofa vopl vowd votd vmn vmr vmk vms vma vmm vmrn vmkn vmik vmon vosm vohp vmw vmf vmb vomb vmd vmc vocm voct vocy vmx votx vose vml vmwr voln vohw vmno vond voon vowi votop vmnf vp ⟨by omega, by omega⟩ p_vmnf) (cw_X11_256 hts rfl rfl ⟨Nat.le_of_ble_eq_true rfl, Nat.le_of_ble_eq_true rfl⟩) hP hK [0, 1] rfl rfl rfl rfl hl.1 rfl (Nat.le_of_ble_eq_true rfl) dX11_holds_223 ⟨Nat.le_of_ble_eq_true rfl, Nat.le_of_ble_eq_true rfl⟩) hP hS (fun r_45 H locs hp_46 hP hS => ?_)
    have hp_46 : (0 ≤ (r_45 : Int32).toInt ∧ (r_45 : Int32).toInt ≤ 2) := hp_46
    have q_47 := hp_46
    refine lv_iconst (v := 2) hx hb dX11_holds_226 (by decide) ?_
    refine lv_icmp_ne (tgt := 234) hx hb dX11_holds_227 (by decide) (fun c_48 => ?_) (fun c_48 => ?_)
    · skip
      have c_48 : ¬ (r_45.toInt = (2 : Int32).toInt) := fun h9 => c_48 (i_eq.mpr h9)
      refine lv_iconst (v := 0) hx hb dX11_holds_234 (by decide) ?_
      have k_0 : (0 : Int32).toInt = 0 := by decide
      rw [hQ9]
      exact re_z voth hx hb hr hlocks (Or.inl rfl) (show ((0 : Int32) = 0) ∨ ((0 : Int32) = 1) from (Or.inl rfl)) (hP.sub [0, 1] rfl) (hD.sub [0, 1] rfl rfl) hS dX11_holds_235
    · skip
      have c_48 : r_45.toInt = (2 : Int32).toInt := i_eq.mp c_48
      refine lv_iconst (v := 1) hx hb dX11_holds_230 (by decide) ?_
      refine lv_goto (tgt := 235) hx hb dX11_holds_231 (by decide) ?_
      rw [hQ9]
      exact re_z voth hx hb hr hlocks (Or.inr rfl) (show ((1 : Int32) = 0) ∨ ((1 : Int32) = 1) from (Or.inr (rfl))) (hP.sub [0, 1] rfl) (hD.sub [0, 1] rfl rfl) hS dX11_holds_235
  by_cases sw_11_71 : z_10.toInt = 71
  · refine as_i 71 (i_eq.mpr (sw_11_71.trans k_71.symm)) ?_
    refine lv_lookup (off := 202) (tgt := 236) hx hb dX11_holds_34 (by decide) (by decide) (by decide) ?_
    refine lv_aload_n hx hb dX11_holds_236 rfl (lv_at hl 3 rfl) ?_
    refine gf_X11_98 hx hb hts hown hK hP 0 rfl rfl dX11_holds_237 ?_
    refine lv_sipush (v := 298) hx hb dX11_holds_240 (by decide) ?_
    refine lv_iload_n hx hb dX11_holds_243 rfl (lv_at hl 5 rfl) ?_
    refine lv_iadd hx hb dX11_holds_244 ?_
    refine lv_topi (fun z_49 ez_49 => ?_)
    have k_298 : (298 : Int32).toInt = 298 := by decide
    have bz_49 : z_49.toInt = (298 : Int32).toInt + vp.toInt := i_add ez_49 (by omega) (by omega)
    have hin_50 : vp_in z_49 575 := vp_in_iff.mpr ⟨by omega, by omega⟩
    refine va_iald hx hb hK hP 1 0 rfl rfl hin_50 dX11_holds_245 ?_
    refine lv_topi (fun z_51 ez_51 => ?_)
    have k_0 : (0 : Int32).toInt = 0 := by decide
    refine lv_if_le (tgt := 253) hx hb dX11_holds_246 (by decide) (fun c_52 => ?_) (fun c_52 => ?_)
    · skip
      have c_52 : z_51.toInt ≤ (0 : Int32).toInt := i_le.mp c_52
      refine lv_iconst (v := 0) hx hb dX11_holds_253 (by decide) ?_
      rw [hQ9]
      exact re_z voth hx hb hr hlocks (Or.inl rfl) (show ((0 : Int32) = 0) ∨ ((0 : Int32) = 1) from (Or.inl rfl)) (hP.sub [0, 1] rfl) (hD.sub [0, 1] rfl rfl) hS dX11_holds_254
    · skip
      have c_52 : ¬ (z_51.toInt ≤ (0 : Int32).toInt) := fun h9 => c_52 (i_le.mpr h9)
      refine lv_iconst (v := 1) hx hb dX11_holds_249 (by decide) ?_
      refine lv_goto (tgt := 254) hx hb dX11_holds_250 (by decide) ?_
      rw [hQ9]
      exact re_z voth hx hb hr hlocks (Or.inr rfl) (show ((1 : Int32) = 0) ∨ ((1 : Int32) = 1) from (Or.inr (rfl))) (hP.sub [0, 1] rfl) (hD.sub [0, 1] rfl rfl) hS dX11_holds_254
  by_cases sw_11_72 : z_10.toInt = 72
  · refine as_i 72 (i_eq.mpr (sw_11_72.trans k_72.symm)) ?_
    refine lv_lookup (off := 221) (tgt := 255) hx hb dX11_holds_34 (by decide) (by decide) (by decide) ?_
    refine lv_aload_n hx hb dX11_holds_255 rfl (lv_at hl 3 rfl) ?_
    refine lv_iload_n hx hb dX11_holds_256 rfl (lv_at hl 5 rfl) ?_
    refine jr_i (rVr (As := [.int vp]) (rest := []) (ci := 12) ⟨hx, hb, hml, hown, hts⟩ (m_lends l dC dI cy vnh vo voth vmt votp vosz volm voto vofr vokd vonu vosg vofa vopl vowd votd vmn vmr vmk vms vma vmm vmrn vmkn vmik vmon vosm vohp vmw vmf vmb vomb vmd vmc vocm voct vocy vmx votx vose vml vmwr voln vohw vmno vond voon vowi votop vmnf vp ⟨by omega, by omega⟩ p_vmnf) (cw_X11_265 hts rfl rfl ⟨Nat.le_of_ble_eq_true rfl, Nat.le_of_ble_eq_true rfl⟩) hP hK [0, 1] rfl rfl rfl rfl hl.1 rfl (Nat.le_of_ble_eq_true rfl) dX11_holds_257 ⟨Nat.le_of_ble_eq_true rfl, Nat.le_of_ble_eq_true rfl⟩) hP hS (fun r_53 H locs hp_54 hP hS => ?_)
    have hp_54 : ((r_53 = 0) ∨ (r_53 = 1)) := hp_54
    have q_55 := hp_54
    rcases q_55 with aq_55 | aq_55
    · skip
      refine as_i 0 aq_55 ?_
      have k_0 : (0 : Int32).toInt = 0 := by decide
      rw [hQ9]
      exact re_z voth hx hb hr hlocks (Or.inl rfl) (show ((0 : Int32) = 0) ∨ ((0 : Int32) = 1) from (Or.inl rfl)) (hP.sub [0, 1] rfl) (hD.sub [0, 1] rfl rfl) hS dX11_holds_260
    · skip
      refine as_i 1 aq_55 ?_
      rw [hQ9]
      exact re_z voth hx hb hr hlocks (Or.inr rfl) (show ((1 : Int32) = 0) ∨ ((1 : Int32) = 1) from (Or.inr (rfl))) (hP.sub [0, 1] rfl) (hD.sub [0, 1] rfl rfl) hS dX11_holds_260
  by_cases sw_11_73 : z_10.toInt = 73
  · refine as_i 73 (i_eq.mpr (sw_11_73.trans k_73.symm)) ?_
    refine lv_lookup (off := 227) (tgt := 261) hx hb dX11_holds_34 (by decide) (by decide) (by decide) ?_
    have hB := hA4 (by omega)
    refine lv_aload_n hx hb dX11_holds_261 rfl (lv_at hl 3 rfl) ?_
    refine lv_iload_n hx hb dX11_holds_262 rfl (lv_at hl 5 rfl) ?_
    refine lv_iload hx hb dX11_holds_263 (lv_at hl 1 rfl) ?_
    refine jr_i (rVr (As := [.int vp, .int z_5]) (rest := []) (ci := 12) ⟨hx, hb, hml, hown, hts⟩ (m_didOf l dC dI cy vnh vo voth vmt votp vosz volm voto vofr vokd vonu vosg vofa vopl vowd votd vmn vmr vmk vms vma vmm vmrn vmkn vmik vmon vosm vohp vmw vmf vmb vomb vmd vmc vocm voct vocy vmx votx vose vml vmwr voln vohw vmno vond voon vowi votop vmnf vp z_5 ⟨by omega, by omega⟩ ⟨by omega, by omega⟩ p_vmnf) (cw_X11_228 hts rfl rfl ⟨Nat.le_of_ble_eq_true rfl, Nat.le_of_ble_eq_true rfl⟩) hP hK [0, 1] rfl rfl rfl rfl hl.1 rfl (Nat.le_of_ble_eq_true rfl) dX11_holds_265 ⟨Nat.le_of_ble_eq_true rfl, Nat.le_of_ble_eq_true rfl⟩) hP hS (fun r_56 H locs hp_57 hP hS => ?_)
    have k_0 : (0 : Int32).toInt = 0 := by decide
    refine lv_if_le (tgt := 275) hx hb dX11_holds_268 (by decide) (fun c_58 => ?_) (fun c_58 => ?_)
    · skip
      have c_58 : r_56.toInt ≤ (0 : Int32).toInt := i_le.mp c_58
      refine lv_iconst (v := 0) hx hb dX11_holds_275 (by decide) ?_
      rw [hQ9]
      exact re_z voth hx hb hr hlocks (Or.inl rfl) (show ((0 : Int32) = 0) ∨ ((0 : Int32) = 1) from (Or.inl rfl)) (hP.sub [0, 1] rfl) (hD.sub [0, 1] rfl rfl) hS dX11_holds_276
    · skip
      have c_58 : ¬ (r_56.toInt ≤ (0 : Int32).toInt) := fun h9 => c_58 (i_le.mpr h9)
      refine lv_iconst (v := 1) hx hb dX11_holds_271 (by decide) ?_
      refine lv_goto (tgt := 276) hx hb dX11_holds_272 (by decide) ?_
      rw [hQ9]
      exact re_z voth hx hb hr hlocks (Or.inr rfl) (show ((1 : Int32) = 0) ∨ ((1 : Int32) = 1) from (Or.inr (rfl))) (hP.sub [0, 1] rfl) (hD.sub [0, 1] rfl rfl) hS dX11_holds_276
  by_cases sw_11_74 : z_10.toInt = 74
  · refine as_i 74 (i_eq.mpr (sw_11_74.trans k_74.symm)) ?_
    refine lv_lookup (off := 243) (tgt := 277) hx hb dX11_holds_34 (by decide) (by decide) (by decide) ?_
    refine lv_aload_n hx hb dX11_holds_277 rfl (lv_at hl 3 rfl) ?_
    refine lv_iload hx hb dX11_holds_278 (lv_at hl 1 rfl) ?_
    refine jn_i (wr := []) (rV (As := [.int z_5]) (rest := []) (ci := 12) ⟨hx, hb, hml, hown, hts⟩ (m_family l dC dI cy _ vnh vo voth vmt votp vosz volm voto vofr vokd vonu vosg vofa vopl vowd votd vmn vmr vmk vms vma vmm vmrn vmkn vmik vmon vosm vohp vmw vmf vmb vomb vmd vmc vocm voct vocy vmx votx vose vml vmwr voln vohw vmno vond voon vowi votop vmnf z_5 p_vmnf) (cw_X11_441 hts rfl rfl ⟨Nat.le_of_ble_eq_true rfl, Nat.le_of_ble_eq_true rfl⟩) hP hD hK [0, 1] rfl rfl rfl rfl bl0 e0 rfl hl.1 rfl (Nat.le_of_ble_eq_true rfl) dX11_holds_280 ⟨Nat.le_of_ble_eq_true rfl, Nat.le_of_ble_eq_true rfl⟩) hP hD hS hA [0, 1] [] rfl rfl rfl (by decide) (fun r_59 u_61 H locs hp_60 hP hD hS => ?_)
    obtain ⟨voth_62, rfl⟩ : ∃ z, z = u_61 := ⟨_, rfl⟩
    have hP : va_P (dC, dI) vwCl [(vo, .inr (12, [.int voth_62, .ref vmt, .int votp, .int vosz, .int volm, .int voto, .int vofr, .int vokd, .int vonu, .int vosg, .int vofa, .int vopl, .long vowd, .int votd, .ref vmn, .ref vmr, .ref vmk, .ref vms, .ref vma, .ref vmm, .ref vmrn, .ref vmkn, .ref vmik, .ref vmon, .int vosm, .int vohp, .ref vmw, .ref vmf, .ref vmb, .int vomb, .ref vmd, .ref vmc, .int vocm, .int voct, .int vocy, .ref vmx, .int votx, .int vose, .ref vml, .ref vmwr, .int voln, .int vohw, .ref vmno, .int vond, .int voon, .int vowi, .int votop])), (vmn, .inl (cy 0, 575, .inl vmnf))] H := hP
    have hD : va_D A [(vo, .inr (12, [.int voth_62, .ref vmt, .int votp, .int vosz, .int volm, .int voto, .int vofr, .int vokd, .int vonu, .int vosg, .int vofa, .int vopl, .long vowd, .int votd, .ref vmn, .ref vmr, .ref vmk, .ref vms, .ref vma, .ref vmm, .ref vmrn, .ref vmkn, .ref vmik, .ref vmon, .int vosm, .int vohp, .ref vmw, .ref vmf, .ref vmb, .int vomb, .ref vmd, .ref vmc, .int vocm, .int voct, .int vocy, .ref vmx, .int votx, .int vose, .ref vml, .ref vmwr, .int voln, .int vohw, .ref vmno, .int vond, .int voon, .int vowi, .int votop])), (vmn, .inl (cy 0, 575, .inl vmnf))] := hD
    refine lv_iload_n hx hb dX11_holds_283 rfl (lv_at hl 5 rfl) ?_
    refine jr_i (rSr (As := [.int r_59, .int vp]) (rest := []) ⟨hx, hb, hml, hown, hts⟩ (m_has l dC dI cy r_59 vp ) (cw_X11_194 hts rfl rfl ⟨Nat.le_of_ble_eq_true rfl, Nat.le_of_ble_eq_true rfl⟩) hP hK [] rfl rfl hl.1 rfl (Nat.le_of_ble_eq_true rfl) dX11_holds_284 ⟨Nat.le_of_ble_eq_true rfl, Nat.le_of_ble_eq_true rfl⟩) hP hS (fun r_63 H locs hp_64 hP hS => ?_)
    have hp_64 : ((r_63 = 0) ∨ (r_63 = 1)) := hp_64
    have q_65 := hp_64
    rcases q_65 with aq_65 | aq_65
    · skip
      refine as_i 0 aq_65 ?_
      have k_0 : (0 : Int32).toInt = 0 := by decide
      rw [hQ9]
      exact re_z voth_62 hx hb hr hlocks (Or.inl rfl) (show ((0 : Int32) = 0) ∨ ((0 : Int32) = 1) from (Or.inl rfl)) (hP.sub [0, 1] rfl) (hD.sub [0, 1] rfl rfl) hS dX11_holds_287
    · skip
      refine as_i 1 aq_65 ?_
      rw [hQ9]
      exact re_z voth_62 hx hb hr hlocks (Or.inr rfl) (show ((1 : Int32) = 0) ∨ ((1 : Int32) = 1) from (Or.inr (rfl))) (hP.sub [0, 1] rfl) (hD.sub [0, 1] rfl rfl) hS dX11_holds_287
  have nsw_11_1 : ¬ ((1 : Int) = z_10.toInt) := by omega
  have nsw_11_2 : ¬ ((2 : Int) = z_10.toInt) := by omega
  have nsw_11_3 : ¬ ((3 : Int) = z_10.toInt) := by omega
  have nsw_11_68 : ¬ ((68 : Int) = z_10.toInt) := by omega
  have nsw_11_69 : ¬ ((69 : Int) = z_10.toInt) := by omega
  have nsw_11_70 : ¬ ((70 : Int) = z_10.toInt) := by omega
  have nsw_11_71 : ¬ ((71 : Int) = z_10.toInt) := by omega
  have nsw_11_72 : ¬ ((72 : Int) = z_10.toInt) := by omega
  have nsw_11_73 : ¬ ((73 : Int) = z_10.toInt) := by omega
  have nsw_11_74 : ¬ ((74 : Int) = z_10.toInt) := by omega
  refine lv_lookup (off := 254) (tgt := 288) hx hb dX11_holds_34 (by decide) (by simp only [Op.lookupswitch.offset, if_neg nsw_11_1, if_neg nsw_11_2, if_neg nsw_11_3, if_neg nsw_11_68, if_neg nsw_11_69, if_neg nsw_11_70, if_neg nsw_11_71, if_neg nsw_11_72, if_neg nsw_11_73, if_neg nsw_11_74]) (by decide) ?_
  refine lv_aload_n hx hb dX11_holds_288 rfl (lv_at hl 3 rfl) ?_
  refine gf_X11_98 hx hb hts hown hK hP 0 rfl rfl dX11_holds_289 ?_
  refine lv_iload_n hx hb dX11_holds_292 rfl (lv_at hl 2 rfl) ?_
  have hin_66 : vp_in z_2 575 := vp_in_iff.mpr ⟨by omega, by omega⟩
  refine va_iald hx hb hK hP 1 0 rfl rfl hin_66 dX11_holds_293 ?_
  refine lv_topi (fun z_67 ez_67 => ?_)
  refine lv_bipush (v := 50) hx hb dX11_holds_294 (by decide) ?_
  refine lv_isub hx hb dX11_holds_296 ?_
  refine lv_topi (fun z_68 ez_68 => ?_)
  refine lv_istore (lv' := [(6, .int z_68), (5, .int z_8), (4, .int z_5), (3, .int z_2), (0, .ref vo), (1, .int vk), (2, .int vp)]) hx hb dX11_holds_297 hl (by decide) rfl (fun ls hl => ?_)
  refine lv_iload hx hb dX11_holds_299 (lv_at hl 0 rfl) ?_
  refine lv_bipush (v := 25) hx hb dX11_holds_301 (by decide) ?_
  have k_25 : (25 : Int32).toInt = 25 := by decide
  refine lv_icmp_ne (tgt := 314) hx hb dX11_holds_303 (by decide) (fun c_69 => ?_) (fun c_69 => ?_)
  · skip
    have c_69 : ¬ (z_68.toInt = (25 : Int32).toInt) := fun h9 => c_69 (i_eq.mpr h9)
    refine lv_iload hx hb dX11_holds_314 (lv_at hl 0 rfl) ?_
    refine lv_bipush (v := 26) hx hb dX11_holds_316 (by decide) ?_
    have k_26 : (26 : Int32).toInt = 26 := by decide
    refine lv_icmp_ne (tgt := 329) hx hb dX11_holds_318 (by decide) (fun c_70 => ?_) (fun c_70 => ?_)
    · skip
      have c_70 : ¬ (z_68.toInt = (26 : Int32).toInt) := fun h9 => c_70 (i_eq.mpr h9)
      refine lv_iload hx hb dX11_holds_329 (lv_at hl 0 rfl) ?_
      refine lv_bipush (v := 27) hx hb dX11_holds_331 (by decide) ?_
      have k_27 : (27 : Int32).toInt = 27 := by decide
      refine lv_icmp_ne (tgt := 349) hx hb dX11_holds_333 (by decide) (fun c_71 => ?_) (fun c_71 => ?_)
      · skip
        have c_71 : ¬ (z_68.toInt = (27 : Int32).toInt) := fun h9 => c_71 (i_eq.mpr h9)
        refine lv_iload_n hx hb dX11_holds_349 rfl (lv_at hl 6 rfl) ?_
        refine lv_istore (lv' := [(7, .int vp), (6, .int z_68), (5, .int z_8), (4, .int z_5), (3, .int z_2), (0, .ref vo), (1, .int vk), (2, .int vp)]) hx hb dX11_holds_350 hl (by decide) rfl (fun ls hl => ?_)
        refine lv_aload_n hx hb dX11_holds_352 rfl (lv_at hl 5 rfl) ?_
        refine gf_X11_98 hx hb hts hown hK hP 0 rfl rfl dX11_holds_353 ?_
        refine lv_iload_n hx hb dX11_holds_356 rfl (lv_at hl 4 rfl) ?_
        refine lv_iconst (v := 3) hx hb dX11_holds_357 (by decide) ?_
        refine lv_iadd hx hb dX11_holds_358 ?_
        refine lv_topi (fun z_72 ez_72 => ?_)
        have bz_72 : z_72.toInt = z_2.toInt + (3 : Int32).toInt := i_add ez_72 (by omega) (by omega)
        have hin_73 : vp_in z_72 575 := vp_in_iff.mpr ⟨by omega, by omega⟩
        refine va_iald hx hb hK hP 1 0 rfl rfl hin_73 dX11_holds_359 ?_
        refine lv_topi (fun z_74 ez_74 => ?_)
        refine lv_bipush (v := 60) hx hb dX11_holds_360 (by decide) ?_
        have k_60 : (60 : Int32).toInt = 60 := by decide
        refine lv_icmp_ne (tgt := 380) hx hb dX11_holds_362 (by decide) (fun c_75 => ?_) (fun c_75 => ?_)
        · skip
          have c_75 : ¬ (z_74.toInt = (60 : Int32).toInt) := fun h9 => c_75 (i_eq.mpr h9)
          refine lv_aload_n hx hb dX11_holds_380 rfl (lv_at hl 5 rfl) ?_
          refine gf_X11_98 hx hb hts hown hK hP 0 rfl rfl dX11_holds_381 ?_
          refine lv_iload_n hx hb dX11_holds_384 rfl (lv_at hl 4 rfl) ?_
          refine lv_iconst (v := 3) hx hb dX11_holds_385 (by decide) ?_
          refine lv_iadd hx hb dX11_holds_386 ?_
          refine lv_topi (fun z_76 ez_76 => ?_)
          have bz_76 : z_76.toInt = z_2.toInt + (3 : Int32).toInt := i_add ez_76 (by omega) (by omega)
          have hin_77 : vp_in z_76 575 := vp_in_iff.mpr ⟨by omega, by omega⟩
          refine va_iald hx hb hK hP 1 0 rfl rfl hin_77 dX11_holds_387 ?_
          refine lv_topi (fun z_78 ez_78 => ?_)
          refine lv_bipush (v := 61) hx hb dX11_holds_388 (by decide) ?_
          have k_61 : (61 : Int32).toInt = 61 := by decide
          refine lv_icmp_ne (tgt := 408) hx hb dX11_holds_390 (by decide) (fun c_79 => ?_) (fun c_79 => ?_)
          · skip
            have c_79 : ¬ (z_78.toInt = (61 : Int32).toInt) := fun h9 => c_79 (i_eq.mpr h9)
            refine lv_iload hx hb dX11_holds_408 (lv_at hl 0 rfl) ?_
            refine lv_iload hx hb dX11_holds_410 (lv_at hl 2 rfl) ?_
            refine lv_icmp_le (tgt := 419) hx hb dX11_holds_412 (by decide) (fun c_80 => ?_) (fun c_80 => ?_)
            · skip
              have c_80 : vp.toInt ≤ z_8.toInt := i_le.mp c_80
              refine lv_iconst (v := 0) hx hb dX11_holds_419 (by decide) ?_
              have k_0 : (0 : Int32).toInt = 0 := by decide
              rw [hQ9]
              exact re_z voth hx hb hr hlocks (Or.inl rfl) (show ((0 : Int32) = 0) ∨ ((0 : Int32) = 1) from (Or.inl rfl)) (hP.sub [0, 1] rfl) (hD.sub [0, 1] rfl rfl) hS dX11_holds_420
            · skip
              have c_80 : ¬ (vp.toInt ≤ z_8.toInt) := fun h9 => c_80 (i_le.mpr h9)
              refine lv_iconst (v := 1) hx hb dX11_holds_415 (by decide) ?_
              refine lv_goto (tgt := 420) hx hb dX11_holds_416 (by decide) ?_
              rw [hQ9]
              exact re_z voth hx hb hr hlocks (Or.inr rfl) (show ((1 : Int32) = 0) ∨ ((1 : Int32) = 1) from (Or.inr (rfl))) (hP.sub [0, 1] rfl) (hD.sub [0, 1] rfl rfl) hS dX11_holds_420
          · skip
            have c_79 : z_78.toInt = (61 : Int32).toInt := i_eq.mp c_79
            refine lv_iload hx hb dX11_holds_393 (lv_at hl 0 rfl) ?_
            refine lv_iload hx hb dX11_holds_395 (lv_at hl 2 rfl) ?_
            refine lv_icmp_ne (tgt := 404) hx hb dX11_holds_397 (by decide) (fun c_81 => ?_) (fun c_81 => ?_)
            · skip
              have c_81 : ¬ (vp.toInt = z_8.toInt) := fun h9 => c_81 (i_eq.mpr h9)
              refine lv_iconst (v := 0) hx hb dX11_holds_404 (by decide) ?_
              refine lv_goto (tgt := 420) hx hb dX11_holds_405 (by decide) ?_
              have k_0 : (0 : Int32).toInt = 0 := by decide
              rw [hQ9]
              exact re_z voth hx hb hr hlocks (Or.inl rfl) (show ((0 : Int32) = 0) ∨ ((0 : Int32) = 1) from (Or.inl rfl)) (hP.sub [0, 1] rfl) (hD.sub [0, 1] rfl rfl) hS dX11_holds_420
            · skip
              have c_81 : vp.toInt = z_8.toInt := i_eq.mp c_81
              refine lv_iconst (v := 1) hx hb dX11_holds_400 (by decide) ?_
              refine lv_goto (tgt := 420) hx hb dX11_holds_401 (by decide) ?_
              rw [hQ9]
              exact re_z voth hx hb hr hlocks (Or.inr rfl) (show ((1 : Int32) = 0) ∨ ((1 : Int32) = 1) from (Or.inr (rfl))) (hP.sub [0, 1] rfl) (hD.sub [0, 1] rfl rfl) hS dX11_holds_420
        · skip
          have c_75 : z_74.toInt = (60 : Int32).toInt := i_eq.mp c_75
          refine lv_iload hx hb dX11_holds_365 (lv_at hl 0 rfl) ?_
          refine lv_iload hx hb dX11_holds_367 (lv_at hl 2 rfl) ?_
          refine lv_icmp_ge (tgt := 376) hx hb dX11_holds_369 (by decide) (fun c_82 => ?_) (fun c_82 => ?_)
          · skip
            have c_82 : z_8.toInt ≤ vp.toInt := i_le.mp c_82
            refine lv_iconst (v := 0) hx hb dX11_holds_376 (by decide) ?_
            refine lv_goto (tgt := 420) hx hb dX11_holds_377 (by decide) ?_
            have k_0 : (0 : Int32).toInt = 0 := by decide
            rw [hQ9]
            exact re_z voth hx hb hr hlocks (Or.inl rfl) (show ((0 : Int32) = 0) ∨ ((0 : Int32) = 1) from (Or.inl rfl)) (hP.sub [0, 1] rfl) (hD.sub [0, 1] rfl rfl) hS dX11_holds_420
          · skip
            have c_82 : ¬ (z_8.toInt ≤ vp.toInt) := fun h9 => c_82 (i_le.mpr h9)
            refine lv_iconst (v := 1) hx hb dX11_holds_372 (by decide) ?_
            refine lv_goto (tgt := 420) hx hb dX11_holds_373 (by decide) ?_
            rw [hQ9]
            exact re_z voth hx hb hr hlocks (Or.inr rfl) (show ((1 : Int32) = 0) ∨ ((1 : Int32) = 1) from (Or.inr (rfl))) (hP.sub [0, 1] rfl) (hD.sub [0, 1] rfl rfl) hS dX11_holds_420
      · skip
        have c_71 : z_68.toInt = (27 : Int32).toInt := i_eq.mp c_71
        refine lv_aload_n hx hb dX11_holds_336 rfl (lv_at hl 4 rfl) ?_
        refine gf_X11_98 hx hb hts hown hK hP 0 rfl rfl dX11_holds_337 ?_
        refine lv_sipush (v := 158) hx hb dX11_holds_340 (by decide) ?_
        refine lv_iload_n hx hb dX11_holds_343 rfl (lv_at hl 6 rfl) ?_
        refine lv_iadd hx hb dX11_holds_344 ?_
        refine lv_topi (fun z_83 ez_83 => ?_)
        have k_158 : (158 : Int32).toInt = 158 := by decide
        have bz_83 : z_83.toInt = (158 : Int32).toInt + vp.toInt := i_add ez_83 (by omega) (by omega)
        have hin_84 : vp_in z_83 575 := vp_in_iff.mpr ⟨by omega, by omega⟩
        refine va_iald hx hb hK hP 1 0 rfl rfl hin_84 dX11_holds_345 ?_
        refine lv_topi (fun z_85 ez_85 => ?_)
        refine lv_goto (tgt := 350) hx hb dX11_holds_346 (by decide) ?_
        refine lv_istore (lv' := [(7, .int z_85), (6, .int z_68), (5, .int z_8), (4, .int z_5), (3, .int z_2), (0, .ref vo), (1, .int vk), (2, .int vp)]) hx hb dX11_holds_350 hl (by decide) rfl (fun ls hl => ?_)
        refine lv_aload_n hx hb dX11_holds_352 rfl (lv_at hl 5 rfl) ?_
        refine gf_X11_98 hx hb hts hown hK hP 0 rfl rfl dX11_holds_353 ?_
        refine lv_iload_n hx hb dX11_holds_356 rfl (lv_at hl 4 rfl) ?_
        refine lv_iconst (v := 3) hx hb dX11_holds_357 (by decide) ?_
        refine lv_iadd hx hb dX11_holds_358 ?_
        refine lv_topi (fun z_86 ez_86 => ?_)
        have bz_86 : z_86.toInt = z_2.toInt + (3 : Int32).toInt := i_add ez_86 (by omega) (by omega)
        have hin_87 : vp_in z_86 575 := vp_in_iff.mpr ⟨by omega, by omega⟩
        refine va_iald hx hb hK hP 1 0 rfl rfl hin_87 dX11_holds_359 ?_
        refine lv_topi (fun z_88 ez_88 => ?_)
        refine lv_bipush (v := 60) hx hb dX11_holds_360 (by decide) ?_
        have k_60 : (60 : Int32).toInt = 60 := by decide
        refine lv_icmp_ne (tgt := 380) hx hb dX11_holds_362 (by decide) (fun c_89 => ?_) (fun c_89 => ?_)
        · skip
          have c_89 : ¬ (z_88.toInt = (60 : Int32).toInt) := fun h9 => c_89 (i_eq.mpr h9)
          refine lv_aload_n hx hb dX11_holds_380 rfl (lv_at hl 5 rfl) ?_
          refine gf_X11_98 hx hb hts hown hK hP 0 rfl rfl dX11_holds_381 ?_
          refine lv_iload_n hx hb dX11_holds_384 rfl (lv_at hl 4 rfl) ?_
          refine lv_iconst (v := 3) hx hb dX11_holds_385 (by decide) ?_
          refine lv_iadd hx hb dX11_holds_386 ?_
          refine lv_topi (fun z_90 ez_90 => ?_)
          have bz_90 : z_90.toInt = z_2.toInt + (3 : Int32).toInt := i_add ez_90 (by omega) (by omega)
          have hin_91 : vp_in z_90 575 := vp_in_iff.mpr ⟨by omega, by omega⟩
          refine va_iald hx hb hK hP 1 0 rfl rfl hin_91 dX11_holds_387 ?_
          refine lv_topi (fun z_92 ez_92 => ?_)
          refine lv_bipush (v := 61) hx hb dX11_holds_388 (by decide) ?_
          have k_61 : (61 : Int32).toInt = 61 := by decide
          refine lv_icmp_ne (tgt := 408) hx hb dX11_holds_390 (by decide) (fun c_93 => ?_) (fun c_93 => ?_)
          · skip
            have c_93 : ¬ (z_92.toInt = (61 : Int32).toInt) := fun h9 => c_93 (i_eq.mpr h9)
            refine lv_iload hx hb dX11_holds_408 (lv_at hl 0 rfl) ?_
            refine lv_iload hx hb dX11_holds_410 (lv_at hl 2 rfl) ?_
            refine lv_icmp_le (tgt := 419) hx hb dX11_holds_412 (by decide) (fun c_94 => ?_) (fun c_94 => ?_)
            · skip
              have c_94 : z_85.toInt ≤ z_8.toInt := i_le.mp c_94
              refine lv_iconst (v := 0) hx hb dX11_holds_419 (by decide) ?_
              have k_0 : (0 : Int32).toInt = 0 := by decide
              rw [hQ9]
              exact re_z voth hx hb hr hlocks (Or.inl rfl) (show ((0 : Int32) = 0) ∨ ((0 : Int32) = 1) from (Or.inl rfl)) (hP.sub [0, 1] rfl) (hD.sub [0, 1] rfl rfl) hS dX11_holds_420
            · skip
              have c_94 : ¬ (z_85.toInt ≤ z_8.toInt) := fun h9 => c_94 (i_le.mpr h9)
              refine lv_iconst (v := 1) hx hb dX11_holds_415 (by decide) ?_
              refine lv_goto (tgt := 420) hx hb dX11_holds_416 (by decide) ?_
              rw [hQ9]
              exact re_z voth hx hb hr hlocks (Or.inr rfl) (show ((1 : Int32) = 0) ∨ ((1 : Int32) = 1) from (Or.inr (rfl))) (hP.sub [0, 1] rfl) (hD.sub [0, 1] rfl rfl) hS dX11_holds_420
          · skip
            have c_93 : z_92.toInt = (61 : Int32).toInt := i_eq.mp c_93
            refine lv_iload hx hb dX11_holds_393 (lv_at hl 0 rfl) ?_
            refine lv_iload hx hb dX11_holds_395 (lv_at hl 2 rfl) ?_
            refine lv_icmp_ne (tgt := 404) hx hb dX11_holds_397 (by decide) (fun c_95 => ?_) (fun c_95 => ?_)
            · skip
              have c_95 : ¬ (z_85.toInt = z_8.toInt) := fun h9 => c_95 (i_eq.mpr h9)
              refine lv_iconst (v := 0) hx hb dX11_holds_404 (by decide) ?_
              refine lv_goto (tgt := 420) hx hb dX11_holds_405 (by decide) ?_
              have k_0 : (0 : Int32).toInt = 0 := by decide
              rw [hQ9]
              exact re_z voth hx hb hr hlocks (Or.inl rfl) (show ((0 : Int32) = 0) ∨ ((0 : Int32) = 1) from (Or.inl rfl)) (hP.sub [0, 1] rfl) (hD.sub [0, 1] rfl rfl) hS dX11_holds_420
            · skip
              have c_95 : z_85.toInt = z_8.toInt := i_eq.mp c_95
              refine lv_iconst (v := 1) hx hb dX11_holds_400 (by decide) ?_
              refine lv_goto (tgt := 420) hx hb dX11_holds_401 (by decide) ?_
              rw [hQ9]
              exact re_z voth hx hb hr hlocks (Or.inr rfl) (show ((1 : Int32) = 0) ∨ ((1 : Int32) = 1) from (Or.inr (rfl))) (hP.sub [0, 1] rfl) (hD.sub [0, 1] rfl rfl) hS dX11_holds_420
        · skip
          have c_89 : z_88.toInt = (60 : Int32).toInt := i_eq.mp c_89
          refine lv_iload hx hb dX11_holds_365 (lv_at hl 0 rfl) ?_
          refine lv_iload hx hb dX11_holds_367 (lv_at hl 2 rfl) ?_
          refine lv_icmp_ge (tgt := 376) hx hb dX11_holds_369 (by decide) (fun c_96 => ?_) (fun c_96 => ?_)
          · skip
            have c_96 : z_8.toInt ≤ z_85.toInt := i_le.mp c_96
            refine lv_iconst (v := 0) hx hb dX11_holds_376 (by decide) ?_
            refine lv_goto (tgt := 420) hx hb dX11_holds_377 (by decide) ?_
            have k_0 : (0 : Int32).toInt = 0 := by decide
            rw [hQ9]
            exact re_z voth hx hb hr hlocks (Or.inl rfl) (show ((0 : Int32) = 0) ∨ ((0 : Int32) = 1) from (Or.inl rfl)) (hP.sub [0, 1] rfl) (hD.sub [0, 1] rfl rfl) hS dX11_holds_420
          · skip
            have c_96 : ¬ (z_8.toInt ≤ z_85.toInt) := fun h9 => c_96 (i_le.mpr h9)
            refine lv_iconst (v := 1) hx hb dX11_holds_372 (by decide) ?_
            refine lv_goto (tgt := 420) hx hb dX11_holds_373 (by decide) ?_
            rw [hQ9]
            exact re_z voth hx hb hr hlocks (Or.inr rfl) (show ((1 : Int32) = 0) ∨ ((1 : Int32) = 1) from (Or.inr (rfl))) (hP.sub [0, 1] rfl) (hD.sub [0, 1] rfl rfl) hS dX11_holds_420
    · skip
      have c_70 : z_68.toInt = (26 : Int32).toInt := i_eq.mp c_70
      refine lv_aload_n hx hb dX11_holds_321 rfl (lv_at hl 4 rfl) ?_
      refine lv_iload_n hx hb dX11_holds_322 rfl (lv_at hl 6 rfl) ?_
      refine jr_i (rVr (As := [.int vp]) (rest := []) (ci := 12) ⟨hx, hb, hml, hown, hts⟩ (m_darkOf l dC dI cy vnh vo voth vmt votp vosz volm voto vofr vokd vonu vosg vofa vopl vowd votd vmn vmr vmk vms vma vmm vmrn vmkn vmik vmon vosm vohp vmw vmf vmb vomb vmd vmc vocm voct vocy vmx votx vose vml vmwr voln vohw vmno vond voon vowi votop vmnf vp ⟨by omega, by omega⟩ p_vmnf) (cw_X11_244 hts rfl rfl ⟨Nat.le_of_ble_eq_true rfl, Nat.le_of_ble_eq_true rfl⟩) hP hK [0, 1] rfl rfl rfl rfl hl.1 rfl (Nat.le_of_ble_eq_true rfl) dX11_holds_323 ⟨Nat.le_of_ble_eq_true rfl, Nat.le_of_ble_eq_true rfl⟩) hP hS (fun r_97 H locs hp_98 hP hS => ?_)
      refine lv_goto (tgt := 350) hx hb dX11_holds_326 (by decide) ?_
      refine lv_istore (lv' := [(7, .int r_97), (6, .int z_68), (5, .int z_8), (4, .int z_5), (3, .int z_2), (0, .ref vo), (1, .int vk), (2, .int vp)]) hx hb dX11_holds_350 hl (by decide) rfl (fun ls hl => ?_)
      refine lv_aload_n hx hb dX11_holds_352 rfl (lv_at hl 5 rfl) ?_
      refine gf_X11_98 hx hb hts hown hK hP 0 rfl rfl dX11_holds_353 ?_
      refine lv_iload_n hx hb dX11_holds_356 rfl (lv_at hl 4 rfl) ?_
      refine lv_iconst (v := 3) hx hb dX11_holds_357 (by decide) ?_
      refine lv_iadd hx hb dX11_holds_358 ?_
      refine lv_topi (fun z_99 ez_99 => ?_)
      have bz_99 : z_99.toInt = z_2.toInt + (3 : Int32).toInt := i_add ez_99 (by omega) (by omega)
      have hin_100 : vp_in z_99 575 := vp_in_iff.mpr ⟨by omega, by omega⟩
      refine va_iald hx hb hK hP 1 0 rfl rfl hin_100 dX11_holds_359 ?_
      refine lv_topi (fun z_101 ez_101 => ?_)
      refine lv_bipush (v := 60) hx hb dX11_holds_360 (by decide) ?_
      have k_60 : (60 : Int32).toInt = 60 := by decide
      refine lv_icmp_ne (tgt := 380) hx hb dX11_holds_362 (by decide) (fun c_102 => ?_) (fun c_102 => ?_)
      · skip
        have c_102 : ¬ (z_101.toInt = (60 : Int32).toInt) := fun h9 => c_102 (i_eq.mpr h9)
        refine lv_aload_n hx hb dX11_holds_380 rfl (lv_at hl 5 rfl) ?_
        refine gf_X11_98 hx hb hts hown hK hP 0 rfl rfl dX11_holds_381 ?_
        refine lv_iload_n hx hb dX11_holds_384 rfl (lv_at hl 4 rfl) ?_
        refine lv_iconst (v := 3) hx hb dX11_holds_385 (by decide) ?_
        refine lv_iadd hx hb dX11_holds_386 ?_
        refine lv_topi (fun z_103 ez_103 => ?_)
        have bz_103 : z_103.toInt = z_2.toInt + (3 : Int32).toInt := i_add ez_103 (by omega) (by omega)
        have hin_104 : vp_in z_103 575 := vp_in_iff.mpr ⟨by omega, by omega⟩
        refine va_iald hx hb hK hP 1 0 rfl rfl hin_104 dX11_holds_387 ?_
        refine lv_topi (fun z_105 ez_105 => ?_)
        refine lv_bipush (v := 61) hx hb dX11_holds_388 (by decide) ?_
        have k_61 : (61 : Int32).toInt = 61 := by decide
        refine lv_icmp_ne (tgt := 408) hx hb dX11_holds_390 (by decide) (fun c_106 => ?_) (fun c_106 => ?_)
        · skip
          have c_106 : ¬ (z_105.toInt = (61 : Int32).toInt) := fun h9 => c_106 (i_eq.mpr h9)
          refine lv_iload hx hb dX11_holds_408 (lv_at hl 0 rfl) ?_
          refine lv_iload hx hb dX11_holds_410 (lv_at hl 2 rfl) ?_
          refine lv_icmp_le (tgt := 419) hx hb dX11_holds_412 (by decide) (fun c_107 => ?_) (fun c_107 => ?_)
          · skip
            have c_107 : r_97.toInt ≤ z_8.toInt := i_le.mp c_107
            refine lv_iconst (v := 0) hx hb dX11_holds_419 (by decide) ?_
            have k_0 : (0 : Int32).toInt = 0 := by decide
            rw [hQ9]
            exact re_z voth hx hb hr hlocks (Or.inl rfl) (show ((0 : Int32) = 0) ∨ ((0 : Int32) = 1) from (Or.inl rfl)) (hP.sub [0, 1] rfl) (hD.sub [0, 1] rfl rfl) hS dX11_holds_420
          · skip
            have c_107 : ¬ (r_97.toInt ≤ z_8.toInt) := fun h9 => c_107 (i_le.mpr h9)
            refine lv_iconst (v := 1) hx hb dX11_holds_415 (by decide) ?_
            refine lv_goto (tgt := 420) hx hb dX11_holds_416 (by decide) ?_
            rw [hQ9]
            exact re_z voth hx hb hr hlocks (Or.inr rfl) (show ((1 : Int32) = 0) ∨ ((1 : Int32) = 1) from (Or.inr (rfl))) (hP.sub [0, 1] rfl) (hD.sub [0, 1] rfl rfl) hS dX11_holds_420
        · skip
          have c_106 : z_105.toInt = (61 : Int32).toInt := i_eq.mp c_106
          refine lv_iload hx hb dX11_holds_393 (lv_at hl 0 rfl) ?_
          refine lv_iload hx hb dX11_holds_395 (lv_at hl 2 rfl) ?_
          refine lv_icmp_ne (tgt := 404) hx hb dX11_holds_397 (by decide) (fun c_108 => ?_) (fun c_108 => ?_)
          · skip
            have c_108 : ¬ (r_97.toInt = z_8.toInt) := fun h9 => c_108 (i_eq.mpr h9)
            refine lv_iconst (v := 0) hx hb dX11_holds_404 (by decide) ?_
            refine lv_goto (tgt := 420) hx hb dX11_holds_405 (by decide) ?_
            have k_0 : (0 : Int32).toInt = 0 := by decide
            rw [hQ9]
            exact re_z voth hx hb hr hlocks (Or.inl rfl) (show ((0 : Int32) = 0) ∨ ((0 : Int32) = 1) from (Or.inl rfl)) (hP.sub [0, 1] rfl) (hD.sub [0, 1] rfl rfl) hS dX11_holds_420
          · skip
            have c_108 : r_97.toInt = z_8.toInt := i_eq.mp c_108
            refine lv_iconst (v := 1) hx hb dX11_holds_400 (by decide) ?_
            refine lv_goto (tgt := 420) hx hb dX11_holds_401 (by decide) ?_
            rw [hQ9]
            exact re_z voth hx hb hr hlocks (Or.inr rfl) (show ((1 : Int32) = 0) ∨ ((1 : Int32) = 1) from (Or.inr (rfl))) (hP.sub [0, 1] rfl) (hD.sub [0, 1] rfl rfl) hS dX11_holds_420
      · skip
        have c_102 : z_101.toInt = (60 : Int32).toInt := i_eq.mp c_102
        refine lv_iload hx hb dX11_holds_365 (lv_at hl 0 rfl) ?_
        refine lv_iload hx hb dX11_holds_367 (lv_at hl 2 rfl) ?_
        refine lv_icmp_ge (tgt := 376) hx hb dX11_holds_369 (by decide) (fun c_109 => ?_) (fun c_109 => ?_)
        · skip
          have c_109 : z_8.toInt ≤ r_97.toInt := i_le.mp c_109
          refine lv_iconst (v := 0) hx hb dX11_holds_376 (by decide) ?_
          refine lv_goto (tgt := 420) hx hb dX11_holds_377 (by decide) ?_
          have k_0 : (0 : Int32).toInt = 0 := by decide
          rw [hQ9]
          exact re_z voth hx hb hr hlocks (Or.inl rfl) (show ((0 : Int32) = 0) ∨ ((0 : Int32) = 1) from (Or.inl rfl)) (hP.sub [0, 1] rfl) (hD.sub [0, 1] rfl rfl) hS dX11_holds_420
        · skip
          have c_109 : ¬ (z_8.toInt ≤ r_97.toInt) := fun h9 => c_109 (i_le.mpr h9)
          refine lv_iconst (v := 1) hx hb dX11_holds_372 (by decide) ?_
          refine lv_goto (tgt := 420) hx hb dX11_holds_373 (by decide) ?_
          rw [hQ9]
          exact re_z voth hx hb hr hlocks (Or.inr rfl) (show ((1 : Int32) = 0) ∨ ((1 : Int32) = 1) from (Or.inr (rfl))) (hP.sub [0, 1] rfl) (hD.sub [0, 1] rfl rfl) hS dX11_holds_420
  · skip
    have c_69 : z_68.toInt = (25 : Int32).toInt := i_eq.mp c_69
    refine lv_aload_n hx hb dX11_holds_306 rfl (lv_at hl 4 rfl) ?_
    refine lv_iload_n hx hb dX11_holds_307 rfl (lv_at hl 6 rfl) ?_
    refine jr_i (rVr (As := [.int vp]) (rest := []) (ci := 12) ⟨hx, hb, hml, hown, hts⟩ (m_whiteOf l dC dI cy vnh vo voth vmt votp vosz volm voto vofr vokd vonu vosg vofa vopl vowd votd vmn vmr vmk vms vma vmm vmrn vmkn vmik vmon vosm vohp vmw vmf vmb vomb vmd vmc vocm voct vocy vmx votx vose vml vmwr voln vohw vmno vond voon vowi votop vmnf vp ⟨by omega, by omega⟩ p_vmnf) (cw_X11_241 hts rfl rfl ⟨Nat.le_of_ble_eq_true rfl, Nat.le_of_ble_eq_true rfl⟩) hP hK [0, 1] rfl rfl rfl rfl hl.1 rfl (Nat.le_of_ble_eq_true rfl) dX11_holds_308 ⟨Nat.le_of_ble_eq_true rfl, Nat.le_of_ble_eq_true rfl⟩) hP hS (fun r_110 H locs hp_111 hP hS => ?_)
    refine lv_goto (tgt := 350) hx hb dX11_holds_311 (by decide) ?_
    refine lv_istore (lv' := [(7, .int r_110), (6, .int z_68), (5, .int z_8), (4, .int z_5), (3, .int z_2), (0, .ref vo), (1, .int vk), (2, .int vp)]) hx hb dX11_holds_350 hl (by decide) rfl (fun ls hl => ?_)
    refine lv_aload_n hx hb dX11_holds_352 rfl (lv_at hl 5 rfl) ?_
    refine gf_X11_98 hx hb hts hown hK hP 0 rfl rfl dX11_holds_353 ?_
    refine lv_iload_n hx hb dX11_holds_356 rfl (lv_at hl 4 rfl) ?_
    refine lv_iconst (v := 3) hx hb dX11_holds_357 (by decide) ?_
    refine lv_iadd hx hb dX11_holds_358 ?_
    refine lv_topi (fun z_112 ez_112 => ?_)
    have bz_112 : z_112.toInt = z_2.toInt + (3 : Int32).toInt := i_add ez_112 (by omega) (by omega)
    have hin_113 : vp_in z_112 575 := vp_in_iff.mpr ⟨by omega, by omega⟩
    refine va_iald hx hb hK hP 1 0 rfl rfl hin_113 dX11_holds_359 ?_
    refine lv_topi (fun z_114 ez_114 => ?_)
    refine lv_bipush (v := 60) hx hb dX11_holds_360 (by decide) ?_
    have k_60 : (60 : Int32).toInt = 60 := by decide
    refine lv_icmp_ne (tgt := 380) hx hb dX11_holds_362 (by decide) (fun c_115 => ?_) (fun c_115 => ?_)
    · skip
      have c_115 : ¬ (z_114.toInt = (60 : Int32).toInt) := fun h9 => c_115 (i_eq.mpr h9)
      refine lv_aload_n hx hb dX11_holds_380 rfl (lv_at hl 5 rfl) ?_
      refine gf_X11_98 hx hb hts hown hK hP 0 rfl rfl dX11_holds_381 ?_
      refine lv_iload_n hx hb dX11_holds_384 rfl (lv_at hl 4 rfl) ?_
      refine lv_iconst (v := 3) hx hb dX11_holds_385 (by decide) ?_
      refine lv_iadd hx hb dX11_holds_386 ?_
      refine lv_topi (fun z_116 ez_116 => ?_)
      have bz_116 : z_116.toInt = z_2.toInt + (3 : Int32).toInt := i_add ez_116 (by omega) (by omega)
      have hin_117 : vp_in z_116 575 := vp_in_iff.mpr ⟨by omega, by omega⟩
      refine va_iald hx hb hK hP 1 0 rfl rfl hin_117 dX11_holds_387 ?_
      refine lv_topi (fun z_118 ez_118 => ?_)
      refine lv_bipush (v := 61) hx hb dX11_holds_388 (by decide) ?_
      have k_61 : (61 : Int32).toInt = 61 := by decide
      refine lv_icmp_ne (tgt := 408) hx hb dX11_holds_390 (by decide) (fun c_119 => ?_) (fun c_119 => ?_)
      · skip
        have c_119 : ¬ (z_118.toInt = (61 : Int32).toInt) := fun h9 => c_119 (i_eq.mpr h9)
        refine lv_iload hx hb dX11_holds_408 (lv_at hl 0 rfl) ?_
        refine lv_iload hx hb dX11_holds_410 (lv_at hl 2 rfl) ?_
        refine lv_icmp_le (tgt := 419) hx hb dX11_holds_412 (by decide) (fun c_120 => ?_) (fun c_120 => ?_)
        · skip
          have c_120 : r_110.toInt ≤ z_8.toInt := i_le.mp c_120
          refine lv_iconst (v := 0) hx hb dX11_holds_419 (by decide) ?_
          have k_0 : (0 : Int32).toInt = 0 := by decide
          rw [hQ9]
          exact re_z voth hx hb hr hlocks (Or.inl rfl) (show ((0 : Int32) = 0) ∨ ((0 : Int32) = 1) from (Or.inl rfl)) (hP.sub [0, 1] rfl) (hD.sub [0, 1] rfl rfl) hS dX11_holds_420
        · skip
          have c_120 : ¬ (r_110.toInt ≤ z_8.toInt) := fun h9 => c_120 (i_le.mpr h9)
          refine lv_iconst (v := 1) hx hb dX11_holds_415 (by decide) ?_
          refine lv_goto (tgt := 420) hx hb dX11_holds_416 (by decide) ?_
          rw [hQ9]
          exact re_z voth hx hb hr hlocks (Or.inr rfl) (show ((1 : Int32) = 0) ∨ ((1 : Int32) = 1) from (Or.inr (rfl))) (hP.sub [0, 1] rfl) (hD.sub [0, 1] rfl rfl) hS dX11_holds_420
      · skip
        have c_119 : z_118.toInt = (61 : Int32).toInt := i_eq.mp c_119
        refine lv_iload hx hb dX11_holds_393 (lv_at hl 0 rfl) ?_
        refine lv_iload hx hb dX11_holds_395 (lv_at hl 2 rfl) ?_
        refine lv_icmp_ne (tgt := 404) hx hb dX11_holds_397 (by decide) (fun c_121 => ?_) (fun c_121 => ?_)
        · skip
          have c_121 : ¬ (r_110.toInt = z_8.toInt) := fun h9 => c_121 (i_eq.mpr h9)
          refine lv_iconst (v := 0) hx hb dX11_holds_404 (by decide) ?_
          refine lv_goto (tgt := 420) hx hb dX11_holds_405 (by decide) ?_
          have k_0 : (0 : Int32).toInt = 0 := by decide
          rw [hQ9]
          exact re_z voth hx hb hr hlocks (Or.inl rfl) (show ((0 : Int32) = 0) ∨ ((0 : Int32) = 1) from (Or.inl rfl)) (hP.sub [0, 1] rfl) (hD.sub [0, 1] rfl rfl) hS dX11_holds_420
        · skip
          have c_121 : r_110.toInt = z_8.toInt := i_eq.mp c_121
          refine lv_iconst (v := 1) hx hb dX11_holds_400 (by decide) ?_
          refine lv_goto (tgt := 420) hx hb dX11_holds_401 (by decide) ?_
          rw [hQ9]
          exact re_z voth hx hb hr hlocks (Or.inr rfl) (show ((1 : Int32) = 0) ∨ ((1 : Int32) = 1) from (Or.inr (rfl))) (hP.sub [0, 1] rfl) (hD.sub [0, 1] rfl rfl) hS dX11_holds_420
    · skip
      have c_115 : z_114.toInt = (60 : Int32).toInt := i_eq.mp c_115
      refine lv_iload hx hb dX11_holds_365 (lv_at hl 0 rfl) ?_
      refine lv_iload hx hb dX11_holds_367 (lv_at hl 2 rfl) ?_
      refine lv_icmp_ge (tgt := 376) hx hb dX11_holds_369 (by decide) (fun c_122 => ?_) (fun c_122 => ?_)
      · skip
        have c_122 : z_8.toInt ≤ r_110.toInt := i_le.mp c_122
        refine lv_iconst (v := 0) hx hb dX11_holds_376 (by decide) ?_
        refine lv_goto (tgt := 420) hx hb dX11_holds_377 (by decide) ?_
        have k_0 : (0 : Int32).toInt = 0 := by decide
        rw [hQ9]
        exact re_z voth hx hb hr hlocks (Or.inl rfl) (show ((0 : Int32) = 0) ∨ ((0 : Int32) = 1) from (Or.inl rfl)) (hP.sub [0, 1] rfl) (hD.sub [0, 1] rfl rfl) hS dX11_holds_420
      · skip
        have c_122 : ¬ (z_8.toInt ≤ r_110.toInt) := fun h9 => c_122 (i_le.mpr h9)
        refine lv_iconst (v := 1) hx hb dX11_holds_372 (by decide) ?_
        refine lv_goto (tgt := 420) hx hb dX11_holds_373 (by decide) ?_
        rw [hQ9]
        exact re_z voth hx hb hr hlocks (Or.inr rfl) (show ((1 : Int32) = 0) ∨ ((1 : Int32) = 1) from (Or.inr (rfl))) (hP.sub [0, 1] rfl) (hD.sub [0, 1] rfl rfl) hS dX11_holds_420
