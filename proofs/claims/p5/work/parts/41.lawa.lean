theorem dL_law_220 : decode cL_law 220 = .ok (.aload_n 1, 1) := by decide +kernel
theorem dL_law_221 : decode cL_law 221 = .ok (.aload_n 0, 1) := by decide +kernel
theorem dL_law_222 : decode cL_law 222 = .ok (.iload 4, 2) := by decide +kernel
theorem dL_law_224 : decode cL_law 224 = .ok (.iconst 1, 1) := by decide +kernel
theorem dL_law_225 : decode cL_law 225 = .ok (.iadd, 1) := by decide +kernel
theorem dL_law_226 : decode cL_law 226 = .ok (.iaload, 1) := by decide +kernel
theorem dL_law_227 : decode cL_law 227 = .ok (.aload_n 0, 1) := by decide +kernel
theorem dL_law_228 : decode cL_law 228 = .ok (.iload 4, 2) := by decide +kernel
theorem dL_law_230 : decode cL_law 230 = .ok (.iconst 2, 1) := by decide +kernel
theorem dL_law_231 : decode cL_law 231 = .ok (.iadd, 1) := by decide +kernel
theorem dL_law_232 : decode cL_law 232 = .ok (.iaload, 1) := by decide +kernel
theorem dL_law_233 : decode cL_law 233 = .ok (.aload_n 0, 1) := by decide +kernel
theorem dL_law_234 : decode cL_law 234 = .ok (.iload 4, 2) := by decide +kernel
theorem dL_law_236 : decode cL_law 236 = .ok (.iconst 3, 1) := by decide +kernel
theorem dL_law_237 : decode cL_law 237 = .ok (.iadd, 1) := by decide +kernel
theorem dL_law_238 : decode cL_law 238 = .ok (.iaload, 1) := by decide +kernel
theorem dL_law_239 : decode cL_law 239 = .ok (.aload_n 0, 1) := by decide +kernel
theorem dL_law_240 : decode cL_law 240 = .ok (.iload 4, 2) := by decide +kernel
theorem dL_law_242 : decode cL_law 242 = .ok (.iconst 4, 1) := by decide +kernel
theorem dL_law_243 : decode cL_law 243 = .ok (.iadd, 1) := by decide +kernel
theorem dL_law_244 : decode cL_law 244 = .ok (.iaload, 1) := by decide +kernel
theorem dL_law_245 : decode cL_law 245 = .ok (.aload_n 0, 1) := by decide +kernel
theorem dL_law_246 : decode cL_law 246 = .ok (.iload 4, 2) := by decide +kernel
theorem dL_law_248 : decode cL_law 248 = .ok (.iconst 5, 1) := by decide +kernel
theorem dL_law_249 : decode cL_law 249 = .ok (.iadd, 1) := by decide +kernel
theorem dL_law_250 : decode cL_law 250 = .ok (.iaload, 1) := by decide +kernel
theorem dL_law_251 : decode cL_law 251 = .ok (.invokevirtual 19, 3) := by decide +kernel
theorem t529 : Cond.methodLink RL 19 yX10_feed ∈ GW := gw_mem 643 (by decide +kernel) (by decide +kernel)
theorem t530 : Cond.instanceMethod yX10_feed ∈ GW := gw_mem 644 (by decide +kernel) (by decide +kernel)
theorem t531 : Cond.selects RX10 yX10_feed yX10_feed ∈ GW := gw_mem 645 (by decide +kernel) (by decide +kernel)
theorem cw_L_19 {R : Room} {s : State} {args : Array Value} {rm : Room} {mc ms : Nat} (hts : ∀ w ∈ GW, w.before args s = true) (hrc : rm.cells = mc) (hrs : rm.slots = ms) (hR : rm.frames + 1 ≤ R.frames ∧ 8 + (6 + 11) + rm.locals ≤ R.locals) : CallW R s args RL RX10 19 yX10_feed cX10_feed 6 (some .int) (wl yX10_feed cX10_feed 6 (some .int)) rm mc ms 5 := cwV 5 hts (gi_V t529 t530 t531 t1 t532) rfl hrc hrs (by decide +kernel) hR
theorem dL_law_254 : decode cL_law 254 = .ok (.pop, 1) := by decide +kernel
theorem dL_law_255 : decode cL_law 255 = .ok (.aload_n 2, 1) := by decide +kernel
theorem dL_law_256 : decode cL_law 256 = .ok (.aload_n 0, 1) := by decide +kernel
theorem dL_law_257 : decode cL_law 257 = .ok (.iload 4, 2) := by decide +kernel
theorem dL_law_259 : decode cL_law 259 = .ok (.iconst 1, 1) := by decide +kernel
theorem dL_law_260 : decode cL_law 260 = .ok (.iadd, 1) := by decide +kernel
theorem dL_law_261 : decode cL_law 261 = .ok (.iaload, 1) := by decide +kernel
theorem dL_law_262 : decode cL_law 262 = .ok (.aload_n 0, 1) := by decide +kernel
theorem dL_law_263 : decode cL_law 263 = .ok (.iload 4, 2) := by decide +kernel
theorem dL_law_265 : decode cL_law 265 = .ok (.iconst 2, 1) := by decide +kernel
theorem dL_law_266 : decode cL_law 266 = .ok (.iadd, 1) := by decide +kernel
theorem dL_law_267 : decode cL_law 267 = .ok (.iaload, 1) := by decide +kernel
theorem dL_law_268 : decode cL_law 268 = .ok (.aload_n 0, 1) := by decide +kernel
theorem dL_law_269 : decode cL_law 269 = .ok (.iload 4, 2) := by decide +kernel
theorem dL_law_271 : decode cL_law 271 = .ok (.iconst 3, 1) := by decide +kernel
theorem dL_law_272 : decode cL_law 272 = .ok (.iadd, 1) := by decide +kernel
theorem dL_law_273 : decode cL_law 273 = .ok (.iaload, 1) := by decide +kernel
theorem dL_law_274 : decode cL_law 274 = .ok (.aload_n 0, 1) := by decide +kernel
theorem dL_law_275 : decode cL_law 275 = .ok (.iload 4, 2) := by decide +kernel
theorem dL_law_277 : decode cL_law 277 = .ok (.iconst 4, 1) := by decide +kernel
theorem dL_law_278 : decode cL_law 278 = .ok (.iadd, 1) := by decide +kernel
theorem dL_law_279 : decode cL_law 279 = .ok (.iaload, 1) := by decide +kernel
theorem dL_law_280 : decode cL_law 280 = .ok (.aload_n 0, 1) := by decide +kernel
theorem dL_law_281 : decode cL_law 281 = .ok (.iload 4, 2) := by decide +kernel
theorem dL_law_283 : decode cL_law 283 = .ok (.iconst 5, 1) := by decide +kernel
theorem dL_law_284 : decode cL_law 284 = .ok (.iadd, 1) := by decide +kernel
theorem dL_law_285 : decode cL_law 285 = .ok (.iaload, 1) := by decide +kernel
theorem dL_law_286 : decode cL_law 286 = .ok (.invokevirtual 23, 3) := by decide +kernel
theorem t1420 : Cond.methodLink RL 23 yX11_feed ∈ GW := gw_mem 1534 (by decide +kernel) (by decide +kernel)
theorem t1421 : Cond.instanceMethod yX11_feed ∈ GW := gw_mem 1535 (by decide +kernel) (by decide +kernel)
theorem t1422 : Cond.selects RX11 yX11_feed yX11_feed ∈ GW := gw_mem 1536 (by decide +kernel) (by decide +kernel)
theorem cw_L_23 {R : Room} {s : State} {args : Array Value} {rm : Room} {mc ms : Nat} (hts : ∀ w ∈ GW, w.before args s = true) (hrc : rm.cells = mc) (hrs : rm.slots = ms) (hR : rm.frames + 1 ≤ R.frames ∧ 8 + (6 + 11) + rm.locals ≤ R.locals) : CallW R s args RL RX11 23 yX11_feed cX11_feed 6 (some .int) (wl yX11_feed cX11_feed 6 (some .int)) rm mc ms 5 := cwV 5 hts (gi_V t1420 t1421 t1422 t18 t1423) rfl hrc hrs (by decide +kernel) hR
theorem dL_law_289 : decode cL_law 289 = .ok (.pop, 1) := by decide +kernel
theorem dL_law_290 : decode cL_law 290 = .ok (.goto 1138, 3) := by decide +kernel
theorem dL_law_1428 : decode cL_law 1428 = .ok (.iinc 4 6, 3) := by decide +kernel
theorem dL_law_1431 : decode cL_law 1431 = .ok (.goto (-1408), 3) := by decide +kernel
set_option maxHeartbeats 8000000 in
set_option maxRecDepth 100000 in
theorem lc_0 {p : Program} {l : Launch} {e : Env} {s : State} {m : MethodId} {below : List Frame} {meth : Method} {c : Code} {b L : Nat} {xs : Nat → Int32} (hl0 : l.stackTraces = false) (C0 : lw_At p s m meth c b L xs) (hL : L ≤ 3072) (dC : Nat → ClassId) (dI : Nat → Nat → Nat) (cy : Nat → ClassId) (ad : Nat → Nat) (ai : Nat → Nat → Int32) (al : Nat → Nat → Int64) (aq : Nat → Nat → Option Nat) (fi : Nat → Nat → Int32) (fl : Int64) (nb : Nat) (am : Nat → Nat) (mi : Nat → Nat → Int32) (ml : Nat → Nat → Int64) (gi : Nat → Int32) (gw : Int64) (fo : Nat → Int64) (qo : Nat) (hK : va_K (dC, dI) vwCl (TY cy) s) (C S : Nat) (hC : C + 100 ≤ 500000) (hC2 : S + 1000 ≤ 7000000) (i4 : Int32) (hi4 : 0 ≤ i4.toInt ∧ i4.toInt + 6 ≤ (L : Int)) (ih : ∀ z4 : Int32, z4.toInt = i4.toInt + 6 → LH p l e s m below meth c b qo dC dI cy (C + 20) (S + 1000) z4) (hX : INX ad ai al aq fi fl nb) (hM : INM am mi ml gi gw) (hR : INR ad ai al aq fi fl nb am mi ml gi gw) {H : Heap} {locs : List Loc} (hP : va_P (dC, dI) vwCl (FX cy ad ai al aq fi fl nb ++ (FM cy am mi ml gi gw ++ FO cy qo fo)) H) (hD : va_D (FA s) (FX cy ad ai al aq fi fl nb ++ (FM cy am mi ml gi gw ++ FO cy qo fo))) (hS : va_S (FA s) s.heap H locs) {ls : Array Slot} (hl : lv_has ls 7 [(4, .int i4), (3, .ref qo), (2, .ref (am 0)), (1, .ref (ad 0)), (0, .ref b)]) : W p l e room_1 s m #[Value.ref b] below meth c H locs C S (lw_Z below #[Value.ref b] s) (F0 m 220 ls []) := by
  obtain ⟨hx, hb, hr, hml, hown, htsL, hXs, hbl, hlocks, hgv⟩ := id C0
  have hown : s.vm.findClass RL = some m.cls := hown
  have hts : ∀ w ∈ GW, w.before #[Value.ref b] s = true := fun w hw => htsL w (List.mem_filter.mp hw).1
  have hA : ∀ q : Nat, s.heap.size ≤ q → FA s q := fun _ h => h
  have hbA : ¬ FA s b := Nat.not_le.mpr hbl
  have hx0 := (hX.1)
  have hx4 := (hX.2.2.2.2.1)
  have hy0 := (hM.1)
  have hz0 := (hR.1)
  have hz6 := (hR.2.2.2.2.2.2)
  refine lv_aload_n hx hb dL_law_220 rfl (lv_at hl 3 rfl) ?_
  refine lv_aload_n hx hb dL_law_221 rfl (lv_at hl 4 rfl) ?_
  refine lv_iload hx hb dL_law_222 (lv_at hl 0 rfl) ?_
  refine lv_iconst (v := 1) hx hb dL_law_224 (by decide) ?_
  refine lv_iadd hx hb dL_law_225 ?_
  refine lv_topi (fun z_1 ez_1 => ?_)
  have sz_1 := sc_ix hL hi4 ez_1 (show (1 : Int32).toInt = 1 from rfl) (by decide) (by decide)
  refine va_sld hx hb hXs hbl hbA hS (sz_1.2 (by decide)) dL_law_226 ?_
  refine lv_topi (fun z_3 ez_3 => ?_)
  refine lv_aload_n hx hb dL_law_227 rfl (lv_at hl 4 rfl) ?_
  refine lv_iload hx hb dL_law_228 (lv_at hl 0 rfl) ?_
  refine lv_iconst (v := 2) hx hb dL_law_230 (by decide) ?_
  refine lv_iadd hx hb dL_law_231 ?_
  refine lv_topi (fun z_4 ez_4 => ?_)
  have sz_4 := sc_ix hL hi4 ez_4 (show (2 : Int32).toInt = 2 from rfl) (by decide) (by decide)
  refine va_sld hx hb hXs hbl hbA hS (sz_4.2 (by decide)) dL_law_232 ?_
  refine lv_topi (fun z_6 ez_6 => ?_)
  refine lv_aload_n hx hb dL_law_233 rfl (lv_at hl 4 rfl) ?_
  refine lv_iload hx hb dL_law_234 (lv_at hl 0 rfl) ?_
  refine lv_iconst (v := 3) hx hb dL_law_236 (by decide) ?_
  refine lv_iadd hx hb dL_law_237 ?_
  refine lv_topi (fun z_7 ez_7 => ?_)
  have sz_7 := sc_ix hL hi4 ez_7 (show (3 : Int32).toInt = 3 from rfl) (by decide) (by decide)
  refine va_sld hx hb hXs hbl hbA hS (sz_7.2 (by decide)) dL_law_238 ?_
  refine lv_topi (fun z_9 ez_9 => ?_)
  refine lv_aload_n hx hb dL_law_239 rfl (lv_at hl 4 rfl) ?_
  refine lv_iload hx hb dL_law_240 (lv_at hl 0 rfl) ?_
  refine lv_iconst (v := 4) hx hb dL_law_242 (by decide) ?_
  refine lv_iadd hx hb dL_law_243 ?_
  refine lv_topi (fun z_10 ez_10 => ?_)
  have sz_10 := sc_ix hL hi4 ez_10 (show (4 : Int32).toInt = 4 from rfl) (by decide) (by decide)
  refine va_sld hx hb hXs hbl hbA hS (sz_10.2 (by decide)) dL_law_244 ?_
  refine lv_topi (fun z_12 ez_12 => ?_)
  refine lv_aload_n hx hb dL_law_245 rfl (lv_at hl 4 rfl) ?_
  refine lv_iload hx hb dL_law_246 (lv_at hl 0 rfl) ?_
  refine lv_iconst (v := 5) hx hb dL_law_248 (by decide) ?_
  refine lv_iadd hx hb dL_law_249 ?_
  refine lv_topi (fun z_13 ez_13 => ?_)
  have sz_13 := sc_ix hL hi4 ez_13 (show (5 : Int32).toInt = 5 from rfl) (by decide) (by decide)
  refine va_sld hx hb hXs hbl hbA hS (sz_13.2 (by decide)) dL_law_250 ?_
  refine lv_topi (fun z_15 ez_15 => ?_)
  refine jmL_i (Y := FX cy ad ai al aq fi fl nb) (Z := FM cy am mi ml gi gw ++ FO cy qo fo) (rV (As := [.int z_3, .int z_6, .int z_9, .int z_12, .int z_15]) (rest := []) (ci := 11) ⟨hx, hb, hml, hown, hts⟩ (t_feed l dC dI cy _ (ad 0) (ad 1) (ad 4) (ad 5) (ad 10) (ad 23) (ad 24) (ad 25) (ad 27) (ad 28) (ad 29) (ad 30) (ad 31) (ad 54) (fi 0 13) (fi 0 14) (fi 0 15) (fi 0 16) (ad 2) (ad 3) (fi 1 2) (fi 1 3) (fi 1 4) (fi 1 5) (fi 1 6) (fi 1 7) fl (fi 1 9) (fi 1 10) (fi 1 11) (ai 2) z_3 z_6 z_9 z_12 z_15 (hX.1) (hX.2.2.2.2.2.2.2.2.2.2.2.2.2.2.2.2.2.2.2.2.2.2.2.1)) (cw_L_19 hts rfl rfl ⟨Nat.le_of_ble_eq_true rfl, Nat.le_of_ble_eq_true rfl⟩) (PML (Y := FX cy ad ai al aq fi fl nb) (Z := FM cy am mi ml gi gw ++ FO cy qo fo) hP) (DML (Y := FX cy ad ai al aq fi fl nb) (Z := FM cy am mi ml gi gw ++ FO cy qo fo) hD) hK [0, 1, 2] rfl rfl rfl rfl bl0 e0 rfl hl.1 rfl (Nat.le_of_ble_eq_true rfl) dL_law_251 ⟨Nat.le_trans (c_le (a := 0) hC (by decide)) (Nat.le_of_ble_eq_true rfl), Nat.le_trans (s_le (a := 0) hC2 (by decide)) (Nat.le_of_ble_eq_true rfl)⟩) hP hD hS hA [0, 1, 2] rfl (fun _ => rfl) (fun r_16 u_18 H locs hp_17 hP hD hS => ?_)
  obtain ⟨vtL_19, vtb_20⟩ := u_18
  have hp_17 : (0 ≤ (vtL_19 : Int32).toInt ∧ (vtL_19 : Int32).toInt ≤ 940) ∧ (Rg vtb_20 940 0 255) ∧ ((920 < ((fi 1 2) : Int32).toInt → (r_16 : Int32).toInt = -1 ∧ (vtL_19 : Int32).toInt = ((fi 1 2) : Int32).toInt) ∧ (((fi 1 2) : Int32).toInt ≤ 920 → (r_16 : Int32).toInt = ((fi 1 2) : Int32).toInt + 20 ∧ (vtL_19 : Int32).toInt = ((fi 1 2) : Int32).toInt + 20)) ∧ ((920 < ((fi 1 2) : Int32).toInt ∧ vtb_20 = (ai 2)) ∨ (((fi 1 2) : Int32).toInt ≤ 920 ∧ vtb_20 = tkFeed (ai 2) ((fi 1 2) : Int32).toInt z_3 z_6 z_9 z_12 z_15)) := hp_17
  obtain ⟨q_21, q_22, q_23, q_24⟩ := hp_17
  refine lv_pop hx hb dL_law_254 rfl ?_
  refine lv_aload_n hx hb dL_law_255 rfl (lv_at hl 2 rfl) ?_
  refine lv_aload_n hx hb dL_law_256 rfl (lv_at hl 4 rfl) ?_
  refine lv_iload hx hb dL_law_257 (lv_at hl 0 rfl) ?_
  refine lv_iconst (v := 1) hx hb dL_law_259 (by decide) ?_
  refine lv_iadd hx hb dL_law_260 ?_
  refine lv_topi (fun z_25 ez_25 => ?_)
  have sz_25 := sc_ix hL hi4 ez_25 (show (1 : Int32).toInt = 1 from rfl) (by decide) (by decide)
  refine va_sld hx hb hXs hbl hbA hS (sz_25.2 (by decide)) dL_law_261 ?_
  refine lv_topi (fun z_27 ez_27 => ?_)
  refine as_i z_3 (i_eq.mpr (i_same ez_3 ez_27 (sz_25.1.trans sz_1.1.symm))) ?_
  refine lv_aload_n hx hb dL_law_262 rfl (lv_at hl 4 rfl) ?_
  refine lv_iload hx hb dL_law_263 (lv_at hl 0 rfl) ?_
  refine lv_iconst (v := 2) hx hb dL_law_265 (by decide) ?_
  refine lv_iadd hx hb dL_law_266 ?_
  refine lv_topi (fun z_28 ez_28 => ?_)
  have sz_28 := sc_ix hL hi4 ez_28 (show (2 : Int32).toInt = 2 from rfl) (by decide) (by decide)
  refine va_sld hx hb hXs hbl hbA hS (sz_28.2 (by decide)) dL_law_267 ?_
  refine lv_topi (fun z_30 ez_30 => ?_)
  refine as_i z_6 (i_eq.mpr (i_same ez_6 ez_30 (sz_28.1.trans sz_4.1.symm))) ?_
  refine lv_aload_n hx hb dL_law_268 rfl (lv_at hl 4 rfl) ?_
  refine lv_iload hx hb dL_law_269 (lv_at hl 0 rfl) ?_
  refine lv_iconst (v := 3) hx hb dL_law_271 (by decide) ?_
  refine lv_iadd hx hb dL_law_272 ?_
  refine lv_topi (fun z_31 ez_31 => ?_)
  have sz_31 := sc_ix hL hi4 ez_31 (show (3 : Int32).toInt = 3 from rfl) (by decide) (by decide)
  refine va_sld hx hb hXs hbl hbA hS (sz_31.2 (by decide)) dL_law_273 ?_
  refine lv_topi (fun z_33 ez_33 => ?_)
  refine as_i z_9 (i_eq.mpr (i_same ez_9 ez_33 (sz_31.1.trans sz_7.1.symm))) ?_
  refine lv_aload_n hx hb dL_law_274 rfl (lv_at hl 4 rfl) ?_
  refine lv_iload hx hb dL_law_275 (lv_at hl 0 rfl) ?_
  refine lv_iconst (v := 4) hx hb dL_law_277 (by decide) ?_
  refine lv_iadd hx hb dL_law_278 ?_
  refine lv_topi (fun z_34 ez_34 => ?_)
  have sz_34 := sc_ix hL hi4 ez_34 (show (4 : Int32).toInt = 4 from rfl) (by decide) (by decide)
  refine va_sld hx hb hXs hbl hbA hS (sz_34.2 (by decide)) dL_law_279 ?_
  refine lv_topi (fun z_36 ez_36 => ?_)
  refine as_i z_12 (i_eq.mpr (i_same ez_12 ez_36 (sz_34.1.trans sz_10.1.symm))) ?_
  refine lv_aload_n hx hb dL_law_280 rfl (lv_at hl 4 rfl) ?_
  refine lv_iload hx hb dL_law_281 (lv_at hl 0 rfl) ?_
  refine lv_iconst (v := 5) hx hb dL_law_283 (by decide) ?_
  refine lv_iadd hx hb dL_law_284 ?_
  refine lv_topi (fun z_37 ez_37 => ?_)
  have sz_37 := sc_ix hL hi4 ez_37 (show (5 : Int32).toInt = 5 from rfl) (by decide) (by decide)
  refine va_sld hx hb hXs hbl hbA hS (sz_37.2 (by decide)) dL_law_285 ?_
  refine lv_topi (fun z_39 ez_39 => ?_)
  refine as_i z_15 (i_eq.mpr (i_same ez_15 ez_39 (sz_37.1.trans sz_13.1.symm))) ?_
  refine jm_i (X := (sets (FX cy ad ai al aq fi fl nb) [0, 1, 2] (O_t_feed cy (ad 0) (ad 1) (ad 4) (ad 5) (ad 10) (ad 23) (ad 24) (ad 25) (ad 27) (ad 28) (ad 29) (ad 30) (ad 31) (ad 54) (fi 0 13) (fi 0 14) (fi 0 15) (fi 0 16) (ad 2) (ad 3) (fi 1 2) (fi 1 3) (fi 1 4) (fi 1 5) (fi 1 6) (fi 1 7) fl (fi 1 9) (fi 1 10) (fi 1 11) (ai 2) z_3 z_6 z_9 z_12 z_15 (vtL_19, vtb_20)))) (Y := FM cy am mi ml gi gw) (Z := FO cy qo fo) (rV (As := [.int z_3, .int z_6, .int z_9, .int z_12, .int z_15]) (rest := []) (ci := 12) ⟨hx, hb, hml, hown, hts⟩ (s_feed l dC dI cy _ (am 0) (gi 0) (am 1) (gi 2) (gi 3) (gi 4) (gi 5) (gi 6) (gi 7) (gi 8) (gi 9) (gi 10) (gi 11) gw (gi 13) (am 2) (am 3) (am 4) (am 5) (am 6) (am 7) (am 8) (am 9) (am 10) (am 11) (gi 24) (gi 25) (am 12) (am 13) (am 14) (gi 29) (am 15) (am 16) (gi 32) (gi 33) (gi 34) (am 17) (gi 36) (gi 37) (am 18) (am 19) (gi 40) (gi 41) (am 20) (gi 43) (gi 44) (gi 45) (gi 46) (mi 1) z_3 z_6 z_9 z_12 z_15 (hM.1) (hM.2.2.2.2.2.2.1)) (cw_L_23 hts rfl rfl ⟨Nat.le_of_ble_eq_true rfl, Nat.le_of_ble_eq_true rfl⟩) (PM (X := (sets (FX cy ad ai al aq fi fl nb) [0, 1, 2] (O_t_feed cy (ad 0) (ad 1) (ad 4) (ad 5) (ad 10) (ad 23) (ad 24) (ad 25) (ad 27) (ad 28) (ad 29) (ad 30) (ad 31) (ad 54) (fi 0 13) (fi 0 14) (fi 0 15) (fi 0 16) (ad 2) (ad 3) (fi 1 2) (fi 1 3) (fi 1 4) (fi 1 5) (fi 1 6) (fi 1 7) fl (fi 1 9) (fi 1 10) (fi 1 11) (ai 2) z_3 z_6 z_9 z_12 z_15 (vtL_19, vtb_20)))) (Y := FM cy am mi ml gi gw) (Z := FO cy qo fo) hP) (DM (X := (sets (FX cy ad ai al aq fi fl nb) [0, 1, 2] (O_t_feed cy (ad 0) (ad 1) (ad 4) (ad 5) (ad 10) (ad 23) (ad 24) (ad 25) (ad 27) (ad 28) (ad 29) (ad 30) (ad 31) (ad 54) (fi 0 13) (fi 0 14) (fi 0 15) (fi 0 16) (ad 2) (ad 3) (fi 1 2) (fi 1 3) (fi 1 4) (fi 1 5) (fi 1 6) (fi 1 7) fl (fi 1 9) (fi 1 10) (fi 1 11) (ai 2) z_3 z_6 z_9 z_12 z_15 (vtL_19, vtb_20)))) (Y := FM cy am mi ml gi gw) (Z := FO cy qo fo) hD) hK [0, 1] rfl rfl rfl rfl bl0 e0 rfl hl.1 rfl (Nat.le_of_ble_eq_true rfl) dL_law_286 ⟨Nat.le_trans (c_le (a := 0) hC (by decide)) (Nat.le_of_ble_eq_true rfl), Nat.le_trans (s_le (a := 0) hC2 (by decide)) (Nat.le_of_ble_eq_true rfl)⟩) hP hD hS hA [0, 1] rfl (fun _ => rfl) (fun r_40 u_42 H locs hp_41 hP hD hS => ?_)
  obtain ⟨voth_43, votp_44, vmtf_45⟩ := u_42
  have hp_41 : (0 ≤ (votp_44 : Int32).toInt ∧ (votp_44 : Int32).toInt ≤ 940) ∧ (Rg vmtf_45 940 0 255) ∧ ((920 < ((gi 2) : Int32).toInt → (r_40 : Int32).toInt = -1 ∧ (votp_44 : Int32).toInt = ((gi 2) : Int32).toInt) ∧ (((gi 2) : Int32).toInt ≤ 920 → (r_40 : Int32).toInt = ((gi 2) : Int32).toInt + 20 ∧ (votp_44 : Int32).toInt = ((gi 2) : Int32).toInt + 20)) ∧ ((920 < ((gi 2) : Int32).toInt ∧ vmtf_45 = (mi 1)) ∨ (((gi 2) : Int32).toInt ≤ 920 ∧ vmtf_45 = tkFeed (mi 1) ((gi 2) : Int32).toInt z_3 z_6 z_9 z_12 z_15)) := hp_41
  obtain ⟨q_46, q_47, q_48, q_49⟩ := hp_41
  refine lv_pop hx hb dL_law_289 rfl ?_
  refine lv_goto (tgt := 1428) hx hb dL_law_290 (by decide) ?_
  obtain ⟨z_50, ez_50⟩ : ∃ z : Int32, z = i4 + 6 := ⟨_, rfl⟩
  have sz_50 := sc_ix hL hi4 ez_50 (show (6 : Int32).toInt = 6 from rfl) (by decide) (by decide)
  refine lv_iinc (v := z_50) (lv' := [(4, .int z_50), (3, .ref qo), (2, .ref (am 0)), (1, .ref (ad 0)), (0, .ref b)]) hx hb dL_law_1428 hl (k := 0) rfl ez_50.symm (by decide) rfl (fun ls hl => ?_)
  refine lv_goto (tgt := 23) hx hb dL_law_1431 (by decide) ?_
  have k_0 : (0 : Int32).toInt = 0 := by decide
  refine W.widen (k := C + 20) (n := S + 1000) (Nat.le_add_right _ _) (Nat.le_add_right _ _) ?_
  have e1 : (sets (FX cy ad ai al aq fi fl nb) [0, 1, 2] (O_t_feed cy (ad 0) (ad 1) (ad 4) (ad 5) (ad 10) (ad 23) (ad 24) (ad 25) (ad 27) (ad 28) (ad 29) (ad 30) (ad 31) (ad 54) (fi 0 13) (fi 0 14) (fi 0 15) (fi 0 16) (ad 2) (ad 3) (fi 1 2) (fi 1 3) (fi 1 4) (fi 1 5) (fi 1 6) (fi 1 7) fl (fi 1 9) (fi 1 10) (fi 1 11) (ai 2) z_3 z_6 z_9 z_12 z_15 (vtL_19, vtb_20))) = FX cy ad (sI ai 2 vtb_20) al aq (sF fi 1 2 vtL_19) fl nb := rfl
  rw [e1] at hP hD
  have e2 : (sets (FM cy am mi ml gi gw) [0, 1] (O_s_feed cy (am 0) (gi 0) (am 1) (gi 2) (gi 3) (gi 4) (gi 5) (gi 6) (gi 7) (gi 8) (gi 9) (gi 10) (gi 11) gw (gi 13) (am 2) (am 3) (am 4) (am 5) (am 6) (am 7) (am 8) (am 9) (am 10) (am 11) (gi 24) (gi 25) (am 12) (am 13) (am 14) (gi 29) (am 15) (am 16) (gi 32) (gi 33) (gi 34) (am 17) (gi 36) (gi 37) (am 18) (am 19) (gi 40) (gi 41) (am 20) (gi 43) (gi 44) (gi 45) (gi 46) (mi 1) z_3 z_6 z_9 z_12 z_15 (voth_43, votp_44, vmtf_45))) = FM cy am (sI mi 1 vmtf_45) ml (sI (sI gi 0 voth_43) 2 votp_44) gw := rfl
  rw [e2] at hP hD
  exact ih z_50 sz_50.1 ad (sI ai 2 vtb_20) al aq (sF fi 1 2 vtL_19) fl nb am (sI mi 1 vmtf_45) ml (sI (sI gi 0 voth_43) 2 votp_44) gw fo ⟨q_21, (hX.2.1), (hX.2.2.1), (hX.2.2.2.1), (hX.2.2.2.2.1), (hX.2.2.2.2.2.1), (hX.2.2.2.2.2.2.1), (hX.2.2.2.2.2.2.2.1), (hX.2.2.2.2.2.2.2.2.1), (hX.2.2.2.2.2.2.2.2.2.1), (hX.2.2.2.2.2.2.2.2.2.2.1), (hX.2.2.2.2.2.2.2.2.2.2.2.1), (hX.2.2.2.2.2.2.2.2.2.2.2.2.1), (hX.2.2.2.2.2.2.2.2.2.2.2.2.2.1), (hX.2.2.2.2.2.2.2.2.2.2.2.2.2.2.1), (hX.2.2.2.2.2.2.2.2.2.2.2.2.2.2.2.1), (hX.2.2.2.2.2.2.2.2.2.2.2.2.2.2.2.2.1), (hX.2.2.2.2.2.2.2.2.2.2.2.2.2.2.2.2.2.1), (hX.2.2.2.2.2.2.2.2.2.2.2.2.2.2.2.2.2.2.1), (hX.2.2.2.2.2.2.2.2.2.2.2.2.2.2.2.2.2.2.2.1), (hX.2.2.2.2.2.2.2.2.2.2.2.2.2.2.2.2.2.2.2.2.1), (hX.2.2.2.2.2.2.2.2.2.2.2.2.2.2.2.2.2.2.2.2.2.1), (hX.2.2.2.2.2.2.2.2.2.2.2.2.2.2.2.2.2.2.2.2.2.2.1), q_22, (hX.2.2.2.2.2.2.2.2.2.2.2.2.2.2.2.2.2.2.2.2.2.2.2.2.1), (hX.2.2.2.2.2.2.2.2.2.2.2.2.2.2.2.2.2.2.2.2.2.2.2.2.2.1), (hX.2.2.2.2.2.2.2.2.2.2.2.2.2.2.2.2.2.2.2.2.2.2.2.2.2.2.1), (hX.2.2.2.2.2.2.2.2.2.2.2.2.2.2.2.2.2.2.2.2.2.2.2.2.2.2.2.1), (hX.2.2.2.2.2.2.2.2.2.2.2.2.2.2.2.2.2.2.2.2.2.2.2.2.2.2.2.2.1), (hX.2.2.2.2.2.2.2.2.2.2.2.2.2.2.2.2.2.2.2.2.2.2.2.2.2.2.2.2.2.1), (hX.2.2.2.2.2.2.2.2.2.2.2.2.2.2.2.2.2.2.2.2.2.2.2.2.2.2.2.2.2.2.1), (hX.2.2.2.2.2.2.2.2.2.2.2.2.2.2.2.2.2.2.2.2.2.2.2.2.2.2.2.2.2.2.2.1), (hX.2.2.2.2.2.2.2.2.2.2.2.2.2.2.2.2.2.2.2.2.2.2.2.2.2.2.2.2.2.2.2.2.1), (hX.2.2.2.2.2.2.2.2.2.2.2.2.2.2.2.2.2.2.2.2.2.2.2.2.2.2.2.2.2.2.2.2.2.1), (hX.2.2.2.2.2.2.2.2.2.2.2.2.2.2.2.2.2.2.2.2.2.2.2.2.2.2.2.2.2.2.2.2.2.2.1), (hX.2.2.2.2.2.2.2.2.2.2.2.2.2.2.2.2.2.2.2.2.2.2.2.2.2.2.2.2.2.2.2.2.2.2.2.1), (hX.2.2.2.2.2.2.2.2.2.2.2.2.2.2.2.2.2.2.2.2.2.2.2.2.2.2.2.2.2.2.2.2.2.2.2.2.1), (hX.2.2.2.2.2.2.2.2.2.2.2.2.2.2.2.2.2.2.2.2.2.2.2.2.2.2.2.2.2.2.2.2.2.2.2.2.2.1), (hX.2.2.2.2.2.2.2.2.2.2.2.2.2.2.2.2.2.2.2.2.2.2.2.2.2.2.2.2.2.2.2.2.2.2.2.2.2.2.1), (hX.2.2.2.2.2.2.2.2.2.2.2.2.2.2.2.2.2.2.2.2.2.2.2.2.2.2.2.2.2.2.2.2.2.2.2.2.2.2.2.1), (hX.2.2.2.2.2.2.2.2.2.2.2.2.2.2.2.2.2.2.2.2.2.2.2.2.2.2.2.2.2.2.2.2.2.2.2.2.2.2.2.2.1), (hX.2.2.2.2.2.2.2.2.2.2.2.2.2.2.2.2.2.2.2.2.2.2.2.2.2.2.2.2.2.2.2.2.2.2.2.2.2.2.2.2.2.1), (hX.2.2.2.2.2.2.2.2.2.2.2.2.2.2.2.2.2.2.2.2.2.2.2.2.2.2.2.2.2.2.2.2.2.2.2.2.2.2.2.2.2.2.1), (hX.2.2.2.2.2.2.2.2.2.2.2.2.2.2.2.2.2.2.2.2.2.2.2.2.2.2.2.2.2.2.2.2.2.2.2.2.2.2.2.2.2.2.2.1), (hX.2.2.2.2.2.2.2.2.2.2.2.2.2.2.2.2.2.2.2.2.2.2.2.2.2.2.2.2.2.2.2.2.2.2.2.2.2.2.2.2.2.2.2.2.1), (hX.2.2.2.2.2.2.2.2.2.2.2.2.2.2.2.2.2.2.2.2.2.2.2.2.2.2.2.2.2.2.2.2.2.2.2.2.2.2.2.2.2.2.2.2.2.1), (hX.2.2.2.2.2.2.2.2.2.2.2.2.2.2.2.2.2.2.2.2.2.2.2.2.2.2.2.2.2.2.2.2.2.2.2.2.2.2.2.2.2.2.2.2.2.2.1), (hX.2.2.2.2.2.2.2.2.2.2.2.2.2.2.2.2.2.2.2.2.2.2.2.2.2.2.2.2.2.2.2.2.2.2.2.2.2.2.2.2.2.2.2.2.2.2.2.1), (hX.2.2.2.2.2.2.2.2.2.2.2.2.2.2.2.2.2.2.2.2.2.2.2.2.2.2.2.2.2.2.2.2.2.2.2.2.2.2.2.2.2.2.2.2.2.2.2.2.1), (hX.2.2.2.2.2.2.2.2.2.2.2.2.2.2.2.2.2.2.2.2.2.2.2.2.2.2.2.2.2.2.2.2.2.2.2.2.2.2.2.2.2.2.2.2.2.2.2.2.2.1), (hX.2.2.2.2.2.2.2.2.2.2.2.2.2.2.2.2.2.2.2.2.2.2.2.2.2.2.2.2.2.2.2.2.2.2.2.2.2.2.2.2.2.2.2.2.2.2.2.2.2.2.1), (hX.2.2.2.2.2.2.2.2.2.2.2.2.2.2.2.2.2.2.2.2.2.2.2.2.2.2.2.2.2.2.2.2.2.2.2.2.2.2.2.2.2.2.2.2.2.2.2.2.2.2.2.1), (hX.2.2.2.2.2.2.2.2.2.2.2.2.2.2.2.2.2.2.2.2.2.2.2.2.2.2.2.2.2.2.2.2.2.2.2.2.2.2.2.2.2.2.2.2.2.2.2.2.2.2.2.2.1), (hX.2.2.2.2.2.2.2.2.2.2.2.2.2.2.2.2.2.2.2.2.2.2.2.2.2.2.2.2.2.2.2.2.2.2.2.2.2.2.2.2.2.2.2.2.2.2.2.2.2.2.2.2.2.1), (hX.2.2.2.2.2.2.2.2.2.2.2.2.2.2.2.2.2.2.2.2.2.2.2.2.2.2.2.2.2.2.2.2.2.2.2.2.2.2.2.2.2.2.2.2.2.2.2.2.2.2.2.2.2.2.1), (hX.2.2.2.2.2.2.2.2.2.2.2.2.2.2.2.2.2.2.2.2.2.2.2.2.2.2.2.2.2.2.2.2.2.2.2.2.2.2.2.2.2.2.2.2.2.2.2.2.2.2.2.2.2.2.2.1), (hX.2.2.2.2.2.2.2.2.2.2.2.2.2.2.2.2.2.2.2.2.2.2.2.2.2.2.2.2.2.2.2.2.2.2.2.2.2.2.2.2.2.2.2.2.2.2.2.2.2.2.2.2.2.2.2.2.1), (hX.2.2.2.2.2.2.2.2.2.2.2.2.2.2.2.2.2.2.2.2.2.2.2.2.2.2.2.2.2.2.2.2.2.2.2.2.2.2.2.2.2.2.2.2.2.2.2.2.2.2.2.2.2.2.2.2.2.1), (hX.2.2.2.2.2.2.2.2.2.2.2.2.2.2.2.2.2.2.2.2.2.2.2.2.2.2.2.2.2.2.2.2.2.2.2.2.2.2.2.2.2.2.2.2.2.2.2.2.2.2.2.2.2.2.2.2.2.2.1), (hX.2.2.2.2.2.2.2.2.2.2.2.2.2.2.2.2.2.2.2.2.2.2.2.2.2.2.2.2.2.2.2.2.2.2.2.2.2.2.2.2.2.2.2.2.2.2.2.2.2.2.2.2.2.2.2.2.2.2.2.1), (hX.2.2.2.2.2.2.2.2.2.2.2.2.2.2.2.2.2.2.2.2.2.2.2.2.2.2.2.2.2.2.2.2.2.2.2.2.2.2.2.2.2.2.2.2.2.2.2.2.2.2.2.2.2.2.2.2.2.2.2.2.1), (hX.2.2.2.2.2.2.2.2.2.2.2.2.2.2.2.2.2.2.2.2.2.2.2.2.2.2.2.2.2.2.2.2.2.2.2.2.2.2.2.2.2.2.2.2.2.2.2.2.2.2.2.2.2.2.2.2.2.2.2.2.2.1), (hX.2.2.2.2.2.2.2.2.2.2.2.2.2.2.2.2.2.2.2.2.2.2.2.2.2.2.2.2.2.2.2.2.2.2.2.2.2.2.2.2.2.2.2.2.2.2.2.2.2.2.2.2.2.2.2.2.2.2.2.2.2.2.1), (hX.2.2.2.2.2.2.2.2.2.2.2.2.2.2.2.2.2.2.2.2.2.2.2.2.2.2.2.2.2.2.2.2.2.2.2.2.2.2.2.2.2.2.2.2.2.2.2.2.2.2.2.2.2.2.2.2.2.2.2.2.2.2.2.1), (hX.2.2.2.2.2.2.2.2.2.2.2.2.2.2.2.2.2.2.2.2.2.2.2.2.2.2.2.2.2.2.2.2.2.2.2.2.2.2.2.2.2.2.2.2.2.2.2.2.2.2.2.2.2.2.2.2.2.2.2.2.2.2.2.2.1), (hX.2.2.2.2.2.2.2.2.2.2.2.2.2.2.2.2.2.2.2.2.2.2.2.2.2.2.2.2.2.2.2.2.2.2.2.2.2.2.2.2.2.2.2.2.2.2.2.2.2.2.2.2.2.2.2.2.2.2.2.2.2.2.2.2.2.1), (hX.2.2.2.2.2.2.2.2.2.2.2.2.2.2.2.2.2.2.2.2.2.2.2.2.2.2.2.2.2.2.2.2.2.2.2.2.2.2.2.2.2.2.2.2.2.2.2.2.2.2.2.2.2.2.2.2.2.2.2.2.2.2.2.2.2.2.1), (hX.2.2.2.2.2.2.2.2.2.2.2.2.2.2.2.2.2.2.2.2.2.2.2.2.2.2.2.2.2.2.2.2.2.2.2.2.2.2.2.2.2.2.2.2.2.2.2.2.2.2.2.2.2.2.2.2.2.2.2.2.2.2.2.2.2.2.2.1), (hX.2.2.2.2.2.2.2.2.2.2.2.2.2.2.2.2.2.2.2.2.2.2.2.2.2.2.2.2.2.2.2.2.2.2.2.2.2.2.2.2.2.2.2.2.2.2.2.2.2.2.2.2.2.2.2.2.2.2.2.2.2.2.2.2.2.2.2.2.1), (hX.2.2.2.2.2.2.2.2.2.2.2.2.2.2.2.2.2.2.2.2.2.2.2.2.2.2.2.2.2.2.2.2.2.2.2.2.2.2.2.2.2.2.2.2.2.2.2.2.2.2.2.2.2.2.2.2.2.2.2.2.2.2.2.2.2.2.2.2.2.1), (hX.2.2.2.2.2.2.2.2.2.2.2.2.2.2.2.2.2.2.2.2.2.2.2.2.2.2.2.2.2.2.2.2.2.2.2.2.2.2.2.2.2.2.2.2.2.2.2.2.2.2.2.2.2.2.2.2.2.2.2.2.2.2.2.2.2.2.2.2.2.2.1), (hX.2.2.2.2.2.2.2.2.2.2.2.2.2.2.2.2.2.2.2.2.2.2.2.2.2.2.2.2.2.2.2.2.2.2.2.2.2.2.2.2.2.2.2.2.2.2.2.2.2.2.2.2.2.2.2.2.2.2.2.2.2.2.2.2.2.2.2.2.2.2.2.1), (hX.2.2.2.2.2.2.2.2.2.2.2.2.2.2.2.2.2.2.2.2.2.2.2.2.2.2.2.2.2.2.2.2.2.2.2.2.2.2.2.2.2.2.2.2.2.2.2.2.2.2.2.2.2.2.2.2.2.2.2.2.2.2.2.2.2.2.2.2.2.2.2.2.1), (hX.2.2.2.2.2.2.2.2.2.2.2.2.2.2.2.2.2.2.2.2.2.2.2.2.2.2.2.2.2.2.2.2.2.2.2.2.2.2.2.2.2.2.2.2.2.2.2.2.2.2.2.2.2.2.2.2.2.2.2.2.2.2.2.2.2.2.2.2.2.2.2.2.2)⟩ ⟨q_46, (hM.2.1), (hM.2.2.1), (hM.2.2.2.1), (hM.2.2.2.2.1), (hM.2.2.2.2.2.1), q_47, (hM.2.2.2.2.2.2.2.1), (hM.2.2.2.2.2.2.2.2.1), (hM.2.2.2.2.2.2.2.2.2.1), (hM.2.2.2.2.2.2.2.2.2.2.1), (hM.2.2.2.2.2.2.2.2.2.2.2.1), (hM.2.2.2.2.2.2.2.2.2.2.2.2)⟩ ⟨(show (vtL_19 : Int32).toInt = (votp_44 : Int32).toInt from (by omega)), (hR.2.1), (show vtb_20 = vmtf_45 from (rk_feed (hR.2.2.1) (hR.1) q_24 q_49)), (hR.2.2.2.1), (hR.2.2.2.2.1), (hR.2.2.2.2.2.1), (hR.2.2.2.2.2.2)⟩ H locs hP hD hS ls (lv_sub hl [0, 1, 2, 3, 4] rfl)
theorem dL_law_293 : decode cL_law 293 = .ok (.aload_n 1, 1) := by decide +kernel
theorem dL_law_294 : decode cL_law 294 = .ok (.aload_n 0, 1) := by decide +kernel
theorem dL_law_295 : decode cL_law 295 = .ok (.iload 4, 2) := by decide +kernel
theorem dL_law_297 : decode cL_law 297 = .ok (.iconst 1, 1) := by decide +kernel
theorem dL_law_298 : decode cL_law 298 = .ok (.iadd, 1) := by decide +kernel
theorem dL_law_299 : decode cL_law 299 = .ok (.iaload, 1) := by decide +kernel
theorem dL_law_300 : decode cL_law 300 = .ok (.invokevirtual 24, 3) := by decide +kernel
theorem t537 : Cond.methodLink RL 24 yX10_end ∈ GW := gw_mem 651 (by decide +kernel) (by decide +kernel)
theorem t538 : Cond.instanceMethod yX10_end ∈ GW := gw_mem 652 (by decide +kernel) (by decide +kernel)
theorem t539 : Cond.selects RX10 yX10_end yX10_end ∈ GW := gw_mem 653 (by decide +kernel) (by decide +kernel)
theorem cw_L_24 {R : Room} {s : State} {args : Array Value} {rm : Room} {mc ms : Nat} (hts : ∀ w ∈ GW, w.before args s = true) (hrc : rm.cells = mc) (hrs : rm.slots = ms) (hR : rm.frames + 1 ≤ R.frames ∧ 8 + (2 + 11) + rm.locals ≤ R.locals) : CallW R s args RL RX10 24 yX10_end cX10_end 2 (some .boolean) (wl yX10_end cX10_end 2 (some .boolean)) rm mc ms 1 := cwV 1 hts (gi_V t537 t538 t539 t1 t540) rfl hrc hrs (by decide +kernel) hR
theorem dL_law_303 : decode cL_law 303 = .ok (.pop, 1) := by decide +kernel
theorem dL_law_304 : decode cL_law 304 = .ok (.aload_n 2, 1) := by decide +kernel
theorem dL_law_305 : decode cL_law 305 = .ok (.aload_n 0, 1) := by decide +kernel
theorem dL_law_306 : decode cL_law 306 = .ok (.iload 4, 2) := by decide +kernel
theorem dL_law_308 : decode cL_law 308 = .ok (.iconst 1, 1) := by decide +kernel
theorem dL_law_309 : decode cL_law 309 = .ok (.iadd, 1) := by decide +kernel
theorem dL_law_310 : decode cL_law 310 = .ok (.iaload, 1) := by decide +kernel
theorem dL_law_311 : decode cL_law 311 = .ok (.invokevirtual 28, 3) := by decide +kernel
theorem t1429 : Cond.methodLink RL 28 yX11_end ∈ GW := gw_mem 1543 (by decide +kernel) (by decide +kernel)
theorem t1430 : Cond.instanceMethod yX11_end ∈ GW := gw_mem 1544 (by decide +kernel) (by decide +kernel)
theorem t1431 : Cond.selects RX11 yX11_end yX11_end ∈ GW := gw_mem 1545 (by decide +kernel) (by decide +kernel)
theorem cw_L_28 {R : Room} {s : State} {args : Array Value} {rm : Room} {mc ms : Nat} (hts : ∀ w ∈ GW, w.before args s = true) (hrc : rm.cells = mc) (hrs : rm.slots = ms) (hR : rm.frames + 1 ≤ R.frames ∧ 8 + (2 + 11) + rm.locals ≤ R.locals) : CallW R s args RL RX11 28 yX11_end cX11_end 2 (some .boolean) (wl yX11_end cX11_end 2 (some .boolean)) rm mc ms 1 := cwV 1 hts (gi_V t1429 t1430 t1431 t18 t1432) rfl hrc hrs (by decide +kernel) hR
theorem dL_law_314 : decode cL_law 314 = .ok (.pop, 1) := by decide +kernel
theorem dL_law_315 : decode cL_law 315 = .ok (.goto 1113, 3) := by decide +kernel
set_option maxHeartbeats 8000000 in
set_option maxRecDepth 100000 in
theorem lc_1 {p : Program} {l : Launch} {e : Env} {s : State} {m : MethodId} {below : List Frame} {meth : Method} {c : Code} {b L : Nat} {xs : Nat → Int32} (hl0 : l.stackTraces = false) (C0 : lw_At p s m meth c b L xs) (hL : L ≤ 3072) (dC : Nat → ClassId) (dI : Nat → Nat → Nat) (cy : Nat → ClassId) (ad : Nat → Nat) (ai : Nat → Nat → Int32) (al : Nat → Nat → Int64) (aq : Nat → Nat → Option Nat) (fi : Nat → Nat → Int32) (fl : Int64) (nb : Nat) (am : Nat → Nat) (mi : Nat → Nat → Int32) (ml : Nat → Nat → Int64) (gi : Nat → Int32) (gw : Int64) (fo : Nat → Int64) (qo : Nat) (hK : va_K (dC, dI) vwCl (TY cy) s) (C S : Nat) (hC : C + 100 ≤ 500000) (hC2 : S + 1000 ≤ 7000000) (i4 : Int32) (hi4 : 0 ≤ i4.toInt ∧ i4.toInt + 6 ≤ (L : Int)) (ih : ∀ z4 : Int32, z4.toInt = i4.toInt + 6 → LH p l e s m below meth c b qo dC dI cy (C + 20) (S + 1000) z4) (hX : INX ad ai al aq fi fl nb) (hM : INM am mi ml gi gw) (hR : INR ad ai al aq fi fl nb am mi ml gi gw) {H : Heap} {locs : List Loc} (hP : va_P (dC, dI) vwCl (FX cy ad ai al aq fi fl nb ++ (FM cy am mi ml gi gw ++ FO cy qo fo)) H) (hD : va_D (FA s) (FX cy ad ai al aq fi fl nb ++ (FM cy am mi ml gi gw ++ FO cy qo fo))) (hS : va_S (FA s) s.heap H locs) {ls : Array Slot} (hl : lv_has ls 7 [(4, .int i4), (3, .ref qo), (2, .ref (am 0)), (1, .ref (ad 0)), (0, .ref b)]) : W p l e room_1 s m #[Value.ref b] below meth c H locs C S (lw_Z below #[Value.ref b] s) (F0 m 293 ls []) := by
  obtain ⟨hx, hb, hr, hml, hown, htsL, hXs, hbl, hlocks, hgv⟩ := id C0
  have hown : s.vm.findClass RL = some m.cls := hown
  have hts : ∀ w ∈ GW, w.before #[Value.ref b] s = true := fun w hw => htsL w (List.mem_filter.mp hw).1
  have hA : ∀ q : Nat, s.heap.size ≤ q → FA s q := fun _ h => h
  have hbA : ¬ FA s b := Nat.not_le.mpr hbl
  have hx0 := (hX.1)
  have hx4 := (hX.2.2.2.2.1)
  have hy0 := (hM.1)
  have hz0 := (hR.1)
  have hz6 := (hR.2.2.2.2.2.2)
  refine lv_aload_n hx hb dL_law_293 rfl (lv_at hl 3 rfl) ?_
  refine lv_aload_n hx hb dL_law_294 rfl (lv_at hl 4 rfl) ?_
  refine lv_iload hx hb dL_law_295 (lv_at hl 0 rfl) ?_
  refine lv_iconst (v := 1) hx hb dL_law_297 (by decide) ?_
  refine lv_iadd hx hb dL_law_298 ?_
  refine lv_topi (fun z_1 ez_1 => ?_)
  have sz_1 := sc_ix hL hi4 ez_1 (show (1 : Int32).toInt = 1 from rfl) (by decide) (by decide)
  refine va_sld hx hb hXs hbl hbA hS (sz_1.2 (by decide)) dL_law_299 ?_
  refine lv_topi (fun z_3 ez_3 => ?_)
  refine jmL_i (Y := FX cy ad ai al aq fi fl nb) (Z := FM cy am mi ml gi gw ++ FO cy qo fo) (rV (As := [.int z_3]) (rest := []) (ci := 11) ⟨hx, hb, hml, hown, hts⟩ (g_end l dC dI cy _ (ad 0) (ad 1) (ad 4) (ad 5) (ad 10) (ad 23) (ad 24) (ad 25) (ad 27) (ad 28) (ad 29) (ad 30) (ad 31) (ad 54) (fi 0 13) (fi 0 14) (fi 0 15) (fi 0 16) (ad 2) (ad 3) (fi 1 2) (fi 1 3) (fi 1 4) (fi 1 5) (fi 1 6) (fi 1 7) fl (fi 1 9) (fi 1 10) (fi 1 11) z_3 (hX.1)) (cw_L_24 hts rfl rfl ⟨Nat.le_of_ble_eq_true rfl, Nat.le_of_ble_eq_true rfl⟩) (PML (Y := FX cy ad ai al aq fi fl nb) (Z := FM cy am mi ml gi gw ++ FO cy qo fo) hP) (DML (Y := FX cy ad ai al aq fi fl nb) (Z := FM cy am mi ml gi gw ++ FO cy qo fo) hD) hK [0, 1] rfl rfl rfl rfl bl0 e0 rfl hl.1 rfl (Nat.le_of_ble_eq_true rfl) dL_law_300 ⟨Nat.le_trans (c_le (a := 0) hC (by decide)) (Nat.le_of_ble_eq_true rfl), Nat.le_trans (s_le (a := 0) hC2 (by decide)) (Nat.le_of_ble_eq_true rfl)⟩) hP hD hS hA [0, 1] rfl (fun _ => rfl) (fun r_4 u_6 H locs hp_5 hP hD hS => ?_)
  obtain ⟨vtL_7, rfl⟩ : ∃ z, z = u_6 := ⟨_, rfl⟩
  have hp_5 : ((r_4 = 0 ∧ ((z_3 : Int32).toInt < 0 ∨ ((fi 1 2) : Int32).toInt < (z_3 : Int32).toInt) ∧ (vtL_7 : Int32).toInt = ((fi 1 2) : Int32).toInt) ∨ (r_4 = 1 ∧ 0 ≤ (z_3 : Int32).toInt ∧ (z_3 : Int32).toInt ≤ ((fi 1 2) : Int32).toInt ∧ (vtL_7 : Int32).toInt = (z_3 : Int32).toInt)) ∧ (0 ≤ (vtL_7 : Int32).toInt ∧ (vtL_7 : Int32).toInt ≤ 940) := hp_5
  obtain ⟨q_8, q_9⟩ := hp_5
  refine lv_pop hx hb dL_law_303 rfl ?_
  refine lv_aload_n hx hb dL_law_304 rfl (lv_at hl 2 rfl) ?_
  refine lv_aload_n hx hb dL_law_305 rfl (lv_at hl 4 rfl) ?_
  refine lv_iload hx hb dL_law_306 (lv_at hl 0 rfl) ?_
  refine lv_iconst (v := 1) hx hb dL_law_308 (by decide) ?_
  refine lv_iadd hx hb dL_law_309 ?_
  refine lv_topi (fun z_10 ez_10 => ?_)
  have sz_10 := sc_ix hL hi4 ez_10 (show (1 : Int32).toInt = 1 from rfl) (by decide) (by decide)
  refine va_sld hx hb hXs hbl hbA hS (sz_10.2 (by decide)) dL_law_310 ?_
  refine lv_topi (fun z_12 ez_12 => ?_)
  refine as_i z_3 (i_eq.mpr (i_same ez_3 ez_12 (sz_10.1.trans sz_1.1.symm))) ?_
  refine jm_i (X := (sets (FX cy ad ai al aq fi fl nb) [0, 1] (O_g_end cy (ad 0) (ad 1) (ad 4) (ad 5) (ad 10) (ad 23) (ad 24) (ad 25) (ad 27) (ad 28) (ad 29) (ad 30) (ad 31) (ad 54) (fi 0 13) (fi 0 14) (fi 0 15) (fi 0 16) (ad 2) (ad 3) (fi 1 2) (fi 1 3) (fi 1 4) (fi 1 5) (fi 1 6) (fi 1 7) fl (fi 1 9) (fi 1 10) (fi 1 11) z_3 vtL_7))) (Y := FM cy am mi ml gi gw) (Z := FO cy qo fo) (rV (As := [.int z_3]) (rest := []) (ci := 12) ⟨hx, hb, hml, hown, hts⟩ (m_end l dC dI cy _ (am 0) (gi 0) (am 1) (gi 2) (gi 3) (gi 4) (gi 5) (gi 6) (gi 7) (gi 8) (gi 9) (gi 10) (gi 11) gw (gi 13) (am 2) (am 3) (am 4) (am 5) (am 6) (am 7) (am 8) (am 9) (am 10) (am 11) (gi 24) (gi 25) (am 12) (am 13) (am 14) (gi 29) (am 15) (am 16) (gi 32) (gi 33) (gi 34) (am 17) (gi 36) (gi 37) (am 18) (am 19) (gi 40) (gi 41) (am 20) (gi 43) (gi 44) (gi 45) (gi 46) z_3 (hM.1)) (cw_L_28 hts rfl rfl ⟨Nat.le_of_ble_eq_true rfl, Nat.le_of_ble_eq_true rfl⟩) (PM (X := (sets (FX cy ad ai al aq fi fl nb) [0, 1] (O_g_end cy (ad 0) (ad 1) (ad 4) (ad 5) (ad 10) (ad 23) (ad 24) (ad 25) (ad 27) (ad 28) (ad 29) (ad 30) (ad 31) (ad 54) (fi 0 13) (fi 0 14) (fi 0 15) (fi 0 16) (ad 2) (ad 3) (fi 1 2) (fi 1 3) (fi 1 4) (fi 1 5) (fi 1 6) (fi 1 7) fl (fi 1 9) (fi 1 10) (fi 1 11) z_3 vtL_7))) (Y := FM cy am mi ml gi gw) (Z := FO cy qo fo) hP) (DM (X := (sets (FX cy ad ai al aq fi fl nb) [0, 1] (O_g_end cy (ad 0) (ad 1) (ad 4) (ad 5) (ad 10) (ad 23) (ad 24) (ad 25) (ad 27) (ad 28) (ad 29) (ad 30) (ad 31) (ad 54) (fi 0 13) (fi 0 14) (fi 0 15) (fi 0 16) (ad 2) (ad 3) (fi 1 2) (fi 1 3) (fi 1 4) (fi 1 5) (fi 1 6) (fi 1 7) fl (fi 1 9) (fi 1 10) (fi 1 11) z_3 vtL_7))) (Y := FM cy am mi ml gi gw) (Z := FO cy qo fo) hD) hK [0] rfl rfl rfl rfl bl0 e0 rfl hl.1 rfl (Nat.le_of_ble_eq_true rfl) dL_law_311 ⟨Nat.le_trans (c_le (a := 0) hC (by decide)) (Nat.le_of_ble_eq_true rfl), Nat.le_trans (s_le (a := 0) hC2 (by decide)) (Nat.le_of_ble_eq_true rfl)⟩) hP hD hS hA [0] rfl (fun _ => rfl) (fun r_13 u_15 H locs hp_14 hP hD hS => ?_)
  obtain ⟨voth_16, votp_17⟩ := u_15
  have hp_14 : ((r_13 = 0 ∧ ((z_3 : Int32).toInt < 0 ∨ ((gi 2) : Int32).toInt < (z_3 : Int32).toInt) ∧ (votp_17 : Int32).toInt = ((gi 2) : Int32).toInt) ∨ (r_13 = 1 ∧ 0 ≤ (z_3 : Int32).toInt ∧ (z_3 : Int32).toInt ≤ ((gi 2) : Int32).toInt ∧ (votp_17 : Int32).toInt = (z_3 : Int32).toInt)) ∧ (0 ≤ (votp_17 : Int32).toInt ∧ (votp_17 : Int32).toInt ≤ 940) := hp_14
  obtain ⟨q_18, q_19⟩ := hp_14
  refine lv_pop hx hb dL_law_314 rfl ?_
  refine lv_goto (tgt := 1428) hx hb dL_law_315 (by decide) ?_
  obtain ⟨z_20, ez_20⟩ : ∃ z : Int32, z = i4 + 6 := ⟨_, rfl⟩
  have sz_20 := sc_ix hL hi4 ez_20 (show (6 : Int32).toInt = 6 from rfl) (by decide) (by decide)
  refine lv_iinc (v := z_20) (lv' := [(4, .int z_20), (3, .ref qo), (2, .ref (am 0)), (1, .ref (ad 0)), (0, .ref b)]) hx hb dL_law_1428 hl (k := 0) rfl ez_20.symm (by decide) rfl (fun ls hl => ?_)
  refine lv_goto (tgt := 23) hx hb dL_law_1431 (by decide) ?_
  have k_0 : (0 : Int32).toInt = 0 := by decide
  refine W.widen (k := C + 20) (n := S + 1000) (Nat.le_add_right _ _) (Nat.le_add_right _ _) ?_
  have e1 : (sets (FX cy ad ai al aq fi fl nb) [0, 1] (O_g_end cy (ad 0) (ad 1) (ad 4) (ad 5) (ad 10) (ad 23) (ad 24) (ad 25) (ad 27) (ad 28) (ad 29) (ad 30) (ad 31) (ad 54) (fi 0 13) (fi 0 14) (fi 0 15) (fi 0 16) (ad 2) (ad 3) (fi 1 2) (fi 1 3) (fi 1 4) (fi 1 5) (fi 1 6) (fi 1 7) fl (fi 1 9) (fi 1 10) (fi 1 11) z_3 vtL_7)) = FX cy ad ai al aq (sF fi 1 2 vtL_7) fl nb := rfl
  rw [e1] at hP hD
  have e2 : (sets (FM cy am mi ml gi gw) [0] (O_m_end cy (am 0) (gi 0) (am 1) (gi 2) (gi 3) (gi 4) (gi 5) (gi 6) (gi 7) (gi 8) (gi 9) (gi 10) (gi 11) gw (gi 13) (am 2) (am 3) (am 4) (am 5) (am 6) (am 7) (am 8) (am 9) (am 10) (am 11) (gi 24) (gi 25) (am 12) (am 13) (am 14) (gi 29) (am 15) (am 16) (gi 32) (gi 33) (gi 34) (am 17) (gi 36) (gi 37) (am 18) (am 19) (gi 40) (gi 41) (am 20) (gi 43) (gi 44) (gi 45) (gi 46) z_3 (voth_16, votp_17))) = FM cy am mi ml (sI (sI gi 0 voth_16) 2 votp_17) gw := rfl
  rw [e2] at hP hD
  exact ih z_20 sz_20.1 ad ai al aq (sF fi 1 2 vtL_7) fl nb am mi ml (sI (sI gi 0 voth_16) 2 votp_17) gw fo ⟨q_9, (hX.2.1), (hX.2.2.1), (hX.2.2.2.1), (hX.2.2.2.2.1), (hX.2.2.2.2.2.1), (hX.2.2.2.2.2.2.1), (hX.2.2.2.2.2.2.2.1), (hX.2.2.2.2.2.2.2.2.1), (hX.2.2.2.2.2.2.2.2.2.1), (hX.2.2.2.2.2.2.2.2.2.2.1), (hX.2.2.2.2.2.2.2.2.2.2.2.1), (hX.2.2.2.2.2.2.2.2.2.2.2.2.1), (hX.2.2.2.2.2.2.2.2.2.2.2.2.2.1), (hX.2.2.2.2.2.2.2.2.2.2.2.2.2.2.1), (hX.2.2.2.2.2.2.2.2.2.2.2.2.2.2.2.1), (hX.2.2.2.2.2.2.2.2.2.2.2.2.2.2.2.2.1), (hX.2.2.2.2.2.2.2.2.2.2.2.2.2.2.2.2.2.1), (hX.2.2.2.2.2.2.2.2.2.2.2.2.2.2.2.2.2.2.1), (hX.2.2.2.2.2.2.2.2.2.2.2.2.2.2.2.2.2.2.2.1), (hX.2.2.2.2.2.2.2.2.2.2.2.2.2.2.2.2.2.2.2.2.1), (hX.2.2.2.2.2.2.2.2.2.2.2.2.2.2.2.2.2.2.2.2.2.1), (hX.2.2.2.2.2.2.2.2.2.2.2.2.2.2.2.2.2.2.2.2.2.2.1), (hX.2.2.2.2.2.2.2.2.2.2.2.2.2.2.2.2.2.2.2.2.2.2.2.1), (hX.2.2.2.2.2.2.2.2.2.2.2.2.2.2.2.2.2.2.2.2.2.2.2.2.1), (hX.2.2.2.2.2.2.2.2.2.2.2.2.2.2.2.2.2.2.2.2.2.2.2.2.2.1), (hX.2.2.2.2.2.2.2.2.2.2.2.2.2.2.2.2.2.2.2.2.2.2.2.2.2.2.1), (hX.2.2.2.2.2.2.2.2.2.2.2.2.2.2.2.2.2.2.2.2.2.2.2.2.2.2.2.1), (hX.2.2.2.2.2.2.2.2.2.2.2.2.2.2.2.2.2.2.2.2.2.2.2.2.2.2.2.2.1), (hX.2.2.2.2.2.2.2.2.2.2.2.2.2.2.2.2.2.2.2.2.2.2.2.2.2.2.2.2.2.1), (hX.2.2.2.2.2.2.2.2.2.2.2.2.2.2.2.2.2.2.2.2.2.2.2.2.2.2.2.2.2.2.1), (hX.2.2.2.2.2.2.2.2.2.2.2.2.2.2.2.2.2.2.2.2.2.2.2.2.2.2.2.2.2.2.2.1), (hX.2.2.2.2.2.2.2.2.2.2.2.2.2.2.2.2.2.2.2.2.2.2.2.2.2.2.2.2.2.2.2.2.1), (hX.2.2.2.2.2.2.2.2.2.2.2.2.2.2.2.2.2.2.2.2.2.2.2.2.2.2.2.2.2.2.2.2.2.1), (hX.2.2.2.2.2.2.2.2.2.2.2.2.2.2.2.2.2.2.2.2.2.2.2.2.2.2.2.2.2.2.2.2.2.2.1), (hX.2.2.2.2.2.2.2.2.2.2.2.2.2.2.2.2.2.2.2.2.2.2.2.2.2.2.2.2.2.2.2.2.2.2.2.1), (hX.2.2.2.2.2.2.2.2.2.2.2.2.2.2.2.2.2.2.2.2.2.2.2.2.2.2.2.2.2.2.2.2.2.2.2.2.1), (hX.2.2.2.2.2.2.2.2.2.2.2.2.2.2.2.2.2.2.2.2.2.2.2.2.2.2.2.2.2.2.2.2.2.2.2.2.2.1), (hX.2.2.2.2.2.2.2.2.2.2.2.2.2.2.2.2.2.2.2.2.2.2.2.2.2.2.2.2.2.2.2.2.2.2.2.2.2.2.1), (hX.2.2.2.2.2.2.2.2.2.2.2.2.2.2.2.2.2.2.2.2.2.2.2.2.2.2.2.2.2.2.2.2.2.2.2.2.2.2.2.1), (hX.2.2.2.2.2.2.2.2.2.2.2.2.2.2.2.2.2.2.2.2.2.2.2.2.2.2.2.2.2.2.2.2.2.2.2.2.2.2.2.2.1), (hX.2.2.2.2.2.2.2.2.2.2.2.2.2.2.2.2.2.2.2.2.2.2.2.2.2.2.2.2.2.2.2.2.2.2.2.2.2.2.2.2.2.1), (hX.2.2.2.2.2.2.2.2.2.2.2.2.2.2.2.2.2.2.2.2.2.2.2.2.2.2.2.2.2.2.2.2.2.2.2.2.2.2.2.2.2.2.1), (hX.2.2.2.2.2.2.2.2.2.2.2.2.2.2.2.2.2.2.2.2.2.2.2.2.2.2.2.2.2.2.2.2.2.2.2.2.2.2.2.2.2.2.2.1), (hX.2.2.2.2.2.2.2.2.2.2.2.2.2.2.2.2.2.2.2.2.2.2.2.2.2.2.2.2.2.2.2.2.2.2.2.2.2.2.2.2.2.2.2.2.1), (hX.2.2.2.2.2.2.2.2.2.2.2.2.2.2.2.2.2.2.2.2.2.2.2.2.2.2.2.2.2.2.2.2.2.2.2.2.2.2.2.2.2.2.2.2.2.1), (hX.2.2.2.2.2.2.2.2.2.2.2.2.2.2.2.2.2.2.2.2.2.2.2.2.2.2.2.2.2.2.2.2.2.2.2.2.2.2.2.2.2.2.2.2.2.2.1), (hX.2.2.2.2.2.2.2.2.2.2.2.2.2.2.2.2.2.2.2.2.2.2.2.2.2.2.2.2.2.2.2.2.2.2.2.2.2.2.2.2.2.2.2.2.2.2.2.1), (hX.2.2.2.2.2.2.2.2.2.2.2.2.2.2.2.2.2.2.2.2.2.2.2.2.2.2.2.2.2.2.2.2.2.2.2.2.2.2.2.2.2.2.2.2.2.2.2.2.1), (hX.2.2.2.2.2.2.2.2.2.2.2.2.2.2.2.2.2.2.2.2.2.2.2.2.2.2.2.2.2.2.2.2.2.2.2.2.2.2.2.2.2.2.2.2.2.2.2.2.2.1), (hX.2.2.2.2.2.2.2.2.2.2.2.2.2.2.2.2.2.2.2.2.2.2.2.2.2.2.2.2.2.2.2.2.2.2.2.2.2.2.2.2.2.2.2.2.2.2.2.2.2.2.1), (hX.2.2.2.2.2.2.2.2.2.2.2.2.2.2.2.2.2.2.2.2.2.2.2.2.2.2.2.2.2.2.2.2.2.2.2.2.2.2.2.2.2.2.2.2.2.2.2.2.2.2.2.1), (hX.2.2.2.2.2.2.2.2.2.2.2.2.2.2.2.2.2.2.2.2.2.2.2.2.2.2.2.2.2.2.2.2.2.2.2.2.2.2.2.2.2.2.2.2.2.2.2.2.2.2.2.2.1), (hX.2.2.2.2.2.2.2.2.2.2.2.2.2.2.2.2.2.2.2.2.2.2.2.2.2.2.2.2.2.2.2.2.2.2.2.2.2.2.2.2.2.2.2.2.2.2.2.2.2.2.2.2.2.1), (hX.2.2.2.2.2.2.2.2.2.2.2.2.2.2.2.2.2.2.2.2.2.2.2.2.2.2.2.2.2.2.2.2.2.2.2.2.2.2.2.2.2.2.2.2.2.2.2.2.2.2.2.2.2.2.1), (hX.2.2.2.2.2.2.2.2.2.2.2.2.2.2.2.2.2.2.2.2.2.2.2.2.2.2.2.2.2.2.2.2.2.2.2.2.2.2.2.2.2.2.2.2.2.2.2.2.2.2.2.2.2.2.2.1), (hX.2.2.2.2.2.2.2.2.2.2.2.2.2.2.2.2.2.2.2.2.2.2.2.2.2.2.2.2.2.2.2.2.2.2.2.2.2.2.2.2.2.2.2.2.2.2.2.2.2.2.2.2.2.2.2.2.1), (hX.2.2.2.2.2.2.2.2.2.2.2.2.2.2.2.2.2.2.2.2.2.2.2.2.2.2.2.2.2.2.2.2.2.2.2.2.2.2.2.2.2.2.2.2.2.2.2.2.2.2.2.2.2.2.2.2.2.1), (hX.2.2.2.2.2.2.2.2.2.2.2.2.2.2.2.2.2.2.2.2.2.2.2.2.2.2.2.2.2.2.2.2.2.2.2.2.2.2.2.2.2.2.2.2.2.2.2.2.2.2.2.2.2.2.2.2.2.2.1), (hX.2.2.2.2.2.2.2.2.2.2.2.2.2.2.2.2.2.2.2.2.2.2.2.2.2.2.2.2.2.2.2.2.2.2.2.2.2.2.2.2.2.2.2.2.2.2.2.2.2.2.2.2.2.2.2.2.2.2.2.1), (hX.2.2.2.2.2.2.2.2.2.2.2.2.2.2.2.2.2.2.2.2.2.2.2.2.2.2.2.2.2.2.2.2.2.2.2.2.2.2.2.2.2.2.2.2.2.2.2.2.2.2.2.2.2.2.2.2.2.2.2.2.1), (hX.2.2.2.2.2.2.2.2.2.2.2.2.2.2.2.2.2.2.2.2.2.2.2.2.2.2.2.2.2.2.2.2.2.2.2.2.2.2.2.2.2.2.2.2.2.2.2.2.2.2.2.2.2.2.2.2.2.2.2.2.2.1), (hX.2.2.2.2.2.2.2.2.2.2.2.2.2.2.2.2.2.2.2.2.2.2.2.2.2.2.2.2.2.2.2.2.2.2.2.2.2.2.2.2.2.2.2.2.2.2.2.2.2.2.2.2.2.2.2.2.2.2.2.2.2.2.1), (hX.2.2.2.2.2.2.2.2.2.2.2.2.2.2.2.2.2.2.2.2.2.2.2.2.2.2.2.2.2.2.2.2.2.2.2.2.2.2.2.2.2.2.2.2.2.2.2.2.2.2.2.2.2.2.2.2.2.2.2.2.2.2.2.1), (hX.2.2.2.2.2.2.2.2.2.2.2.2.2.2.2.2.2.2.2.2.2.2.2.2.2.2.2.2.2.2.2.2.2.2.2.2.2.2.2.2.2.2.2.2.2.2.2.2.2.2.2.2.2.2.2.2.2.2.2.2.2.2.2.2.1), (hX.2.2.2.2.2.2.2.2.2.2.2.2.2.2.2.2.2.2.2.2.2.2.2.2.2.2.2.2.2.2.2.2.2.2.2.2.2.2.2.2.2.2.2.2.2.2.2.2.2.2.2.2.2.2.2.2.2.2.2.2.2.2.2.2.2.1), (hX.2.2.2.2.2.2.2.2.2.2.2.2.2.2.2.2.2.2.2.2.2.2.2.2.2.2.2.2.2.2.2.2.2.2.2.2.2.2.2.2.2.2.2.2.2.2.2.2.2.2.2.2.2.2.2.2.2.2.2.2.2.2.2.2.2.2.1), (hX.2.2.2.2.2.2.2.2.2.2.2.2.2.2.2.2.2.2.2.2.2.2.2.2.2.2.2.2.2.2.2.2.2.2.2.2.2.2.2.2.2.2.2.2.2.2.2.2.2.2.2.2.2.2.2.2.2.2.2.2.2.2.2.2.2.2.2.1), (hX.2.2.2.2.2.2.2.2.2.2.2.2.2.2.2.2.2.2.2.2.2.2.2.2.2.2.2.2.2.2.2.2.2.2.2.2.2.2.2.2.2.2.2.2.2.2.2.2.2.2.2.2.2.2.2.2.2.2.2.2.2.2.2.2.2.2.2.2.1), (hX.2.2.2.2.2.2.2.2.2.2.2.2.2.2.2.2.2.2.2.2.2.2.2.2.2.2.2.2.2.2.2.2.2.2.2.2.2.2.2.2.2.2.2.2.2.2.2.2.2.2.2.2.2.2.2.2.2.2.2.2.2.2.2.2.2.2.2.2.2.1), (hX.2.2.2.2.2.2.2.2.2.2.2.2.2.2.2.2.2.2.2.2.2.2.2.2.2.2.2.2.2.2.2.2.2.2.2.2.2.2.2.2.2.2.2.2.2.2.2.2.2.2.2.2.2.2.2.2.2.2.2.2.2.2.2.2.2.2.2.2.2.2.1), (hX.2.2.2.2.2.2.2.2.2.2.2.2.2.2.2.2.2.2.2.2.2.2.2.2.2.2.2.2.2.2.2.2.2.2.2.2.2.2.2.2.2.2.2.2.2.2.2.2.2.2.2.2.2.2.2.2.2.2.2.2.2.2.2.2.2.2.2.2.2.2.2.1), (hX.2.2.2.2.2.2.2.2.2.2.2.2.2.2.2.2.2.2.2.2.2.2.2.2.2.2.2.2.2.2.2.2.2.2.2.2.2.2.2.2.2.2.2.2.2.2.2.2.2.2.2.2.2.2.2.2.2.2.2.2.2.2.2.2.2.2.2.2.2.2.2.2.1), (hX.2.2.2.2.2.2.2.2.2.2.2.2.2.2.2.2.2.2.2.2.2.2.2.2.2.2.2.2.2.2.2.2.2.2.2.2.2.2.2.2.2.2.2.2.2.2.2.2.2.2.2.2.2.2.2.2.2.2.2.2.2.2.2.2.2.2.2.2.2.2.2.2.2)⟩ ⟨q_19, (hM.2.1), (hM.2.2.1), (hM.2.2.2.1), (hM.2.2.2.2.1), (hM.2.2.2.2.2.1), (hM.2.2.2.2.2.2.1), (hM.2.2.2.2.2.2.2.1), (hM.2.2.2.2.2.2.2.2.1), (hM.2.2.2.2.2.2.2.2.2.1), (hM.2.2.2.2.2.2.2.2.2.2.1), (hM.2.2.2.2.2.2.2.2.2.2.2.1), (hM.2.2.2.2.2.2.2.2.2.2.2.2)⟩ ⟨(show (vtL_7 : Int32).toInt = (votp_17 : Int32).toInt from (by omega)), (hR.2.1), (hR.2.2.1), (hR.2.2.2.1), (hR.2.2.2.2.1), (hR.2.2.2.2.2.1), (hR.2.2.2.2.2.2)⟩ H locs hP hD hS ls (lv_sub hl [0, 1, 2, 3, 4] rfl)
theorem dL_law_331 : decode cL_law 331 = .ok (.aload_n 1, 1) := by decide +kernel
theorem dL_law_332 : decode cL_law 332 = .ok (.invokevirtual 34, 3) := by decide +kernel
theorem t665 : Cond.methodLink RL 34 yX10_fault ∈ GW := gw_mem 779 (by decide +kernel) (by decide +kernel)
theorem t666 : Cond.instanceMethod yX10_fault ∈ GW := gw_mem 780 (by decide +kernel) (by decide +kernel)
theorem t667 : Cond.selects RX10 yX10_fault yX10_fault ∈ GW := gw_mem 781 (by decide +kernel) (by decide +kernel)
theorem cw_L_34 {R : Room} {s : State} {args : Array Value} {rm : Room} {mc ms : Nat} (hts : ∀ w ∈ GW, w.before args s = true) (hrc : rm.cells = mc) (hrs : rm.slots = ms) (hR : rm.frames + 1 ≤ R.frames ∧ 8 + (1 + 11) + rm.locals ≤ R.locals) : CallW R s args RL RX10 34 yX10_fault cX10_fault 1 (some .int) (wl yX10_fault cX10_fault 1 (some .int)) rm mc ms 0 := cwV 0 hts (gi_V t665 t666 t667 t1 t668) rfl hrc hrs (by decide +kernel) hR
theorem dL_law_335 : decode cL_law 335 = .ok (.aload_n 2, 1) := by decide +kernel
theorem dL_law_336 : decode cL_law 336 = .ok (.invokevirtual 37, 3) := by decide +kernel
theorem t1699 : Cond.methodLink RL 37 yX11_fault ∈ GW := gw_mem 1813 (by decide +kernel) (by decide +kernel)
theorem t1700 : Cond.instanceMethod yX11_fault ∈ GW := gw_mem 1814 (by decide +kernel) (by decide +kernel)
theorem t1701 : Cond.selects RX11 yX11_fault yX11_fault ∈ GW := gw_mem 1815 (by decide +kernel) (by decide +kernel)
theorem cw_L_37 {R : Room} {s : State} {args : Array Value} {rm : Room} {mc ms : Nat} (hts : ∀ w ∈ GW, w.before args s = true) (hrc : rm.cells = mc) (hrs : rm.slots = ms) (hR : rm.frames + 1 ≤ R.frames ∧ 8 + (1 + 11) + rm.locals ≤ R.locals) : CallW R s args RL RX11 37 yX11_fault cX11_fault 1 (some .int) (wl yX11_fault cX11_fault 1 (some .int)) rm mc ms 0 := cwV 0 hts (gi_V t1699 t1700 t1701 t18 t1702) rfl hrc hrs (by decide +kernel) hR
theorem dL_law_339 : decode cL_law 339 = .ok (.if_icmp .eq 1089, 3) := by decide +kernel
set_option maxHeartbeats 8000000 in
set_option maxRecDepth 100000 in
theorem lc_3 {p : Program} {l : Launch} {e : Env} {s : State} {m : MethodId} {below : List Frame} {meth : Method} {c : Code} {b L : Nat} {xs : Nat → Int32} (hl0 : l.stackTraces = false) (C0 : lw_At p s m meth c b L xs) (hL : L ≤ 3072) (dC : Nat → ClassId) (dI : Nat → Nat → Nat) (cy : Nat → ClassId) (ad : Nat → Nat) (ai : Nat → Nat → Int32) (al : Nat → Nat → Int64) (aq : Nat → Nat → Option Nat) (fi : Nat → Nat → Int32) (fl : Int64) (nb : Nat) (am : Nat → Nat) (mi : Nat → Nat → Int32) (ml : Nat → Nat → Int64) (gi : Nat → Int32) (gw : Int64) (fo : Nat → Int64) (qo : Nat) (hK : va_K (dC, dI) vwCl (TY cy) s) (C S : Nat) (hC : C + 100 ≤ 500000) (hC2 : S + 1000 ≤ 7000000) (i4 : Int32) (hi4 : 0 ≤ i4.toInt ∧ i4.toInt + 6 ≤ (L : Int)) (ih : ∀ z4 : Int32, z4.toInt = i4.toInt + 6 → LH p l e s m below meth c b qo dC dI cy (C + 20) (S + 1000) z4) (hX : INX ad ai al aq fi fl nb) (hM : INM am mi ml gi gw) (hR : INR ad ai al aq fi fl nb am mi ml gi gw) {H : Heap} {locs : List Loc} (hP : va_P (dC, dI) vwCl (FX cy ad ai al aq fi fl nb ++ (FM cy am mi ml gi gw ++ FO cy qo fo)) H) (hD : va_D (FA s) (FX cy ad ai al aq fi fl nb ++ (FM cy am mi ml gi gw ++ FO cy qo fo))) (hS : va_S (FA s) s.heap H locs) {ls : Array Slot} (hl : lv_has ls 7 [(4, .int i4), (3, .ref qo), (2, .ref (am 0)), (1, .ref (ad 0)), (0, .ref b)]) : W p l e room_1 s m #[Value.ref b] below meth c H locs C S (lw_Z below #[Value.ref b] s) (F0 m 331 ls []) := by
  obtain ⟨hx, hb, hr, hml, hown, htsL, hXs, hbl, hlocks, hgv⟩ := id C0
  have hown : s.vm.findClass RL = some m.cls := hown
  have hts : ∀ w ∈ GW, w.before #[Value.ref b] s = true := fun w hw => htsL w (List.mem_filter.mp hw).1
  have hA : ∀ q : Nat, s.heap.size ≤ q → FA s q := fun _ h => h
  have hbA : ¬ FA s b := Nat.not_le.mpr hbl
  have hx0 := (hX.1)
  have hx4 := (hX.2.2.2.2.1)
  have hy0 := (hM.1)
  have hz0 := (hR.1)
  have hz6 := (hR.2.2.2.2.2.2)
  refine lv_aload_n hx hb dL_law_331 rfl (lv_at hl 3 rfl) ?_
  refine jr_i (rVr (As := []) (rest := []) (ci := 11) ⟨hx, hb, hml, hown, hts⟩ (g_fault l dC dI cy (ad 0) (ad 1) (ad 4) (ad 5) (ad 10) (ad 23) (ad 24) (ad 25) (ad 27) (ad 28) (ad 29) (ad 30) (ad 31) (ad 54) (fi 0 13) (fi 0 14) (fi 0 15) (fi 0 16) ) (cw_L_34 hts rfl rfl ⟨Nat.le_of_ble_eq_true rfl, Nat.le_of_ble_eq_true rfl⟩) (PML (Y := FX cy ad ai al aq fi fl nb) (Z := FM cy am mi ml gi gw ++ FO cy qo fo) hP) hK [0] rfl rfl rfl rfl hl.1 rfl (Nat.le_of_ble_eq_true rfl) dL_law_332 ⟨Nat.le_trans (c_le (a := 0) hC (by decide)) (Nat.le_of_ble_eq_true rfl), Nat.le_trans (s_le (a := 0) hC2 (by decide)) (Nat.le_of_ble_eq_true rfl)⟩) hP hS (fun r_1 H locs hp_2 hP hS => ?_)
  have hp_2 : ((r_1 : Int32).toInt = ((fi 0 13) : Int32).toInt) := hp_2
  have q_3 := hp_2
  refine lv_aload_n hx hb dL_law_335 rfl (lv_at hl 2 rfl) ?_
  refine jm_i (X := FX cy ad ai al aq fi fl nb) (Y := FM cy am mi ml gi gw) (Z := FO cy qo fo) (rV (As := []) (rest := [.int r_1]) (ci := 12) ⟨hx, hb, hml, hown, hts⟩ (m_fault l dC dI cy _ (mi 2) (am 0) (gi 0) (am 1) (gi 2) (gi 3) (gi 4) (gi 5) (gi 6) (gi 7) (gi 8) (gi 9) (gi 10) (gi 11) gw (gi 13) (am 2) (am 3) (am 4) (am 5) (am 6) (am 7) (am 8) (am 9) (am 10) (am 11) (gi 24) (gi 25) (am 12) (am 13) (am 14) (gi 29) (am 15) (am 16) (gi 32) (gi 33) (gi 34) (am 17) (gi 36) (gi 37) (am 18) (am 19) (gi 40) (gi 41) (am 20) (gi 43) (gi 44) (gi 45) (gi 46) (mi 2) (hM.2.2.2.2.2.2.2.1)) (cw_L_37 hts rfl rfl ⟨Nat.le_of_ble_eq_true rfl, Nat.le_of_ble_eq_true rfl⟩) (PM (X := FX cy ad ai al aq fi fl nb) (Y := FM cy am mi ml gi gw) (Z := FO cy qo fo) hP) (DM (X := FX cy ad ai al aq fi fl nb) (Y := FM cy am mi ml gi gw) (Z := FO cy qo fo) hD) hK [0, 2] rfl rfl rfl rfl bl0 e0 rfl hl.1 rfl (Nat.le_of_ble_eq_true rfl) dL_law_336 ⟨Nat.le_trans (c_le (a := 0) hC (by decide)) (Nat.le_of_ble_eq_true rfl), Nat.le_trans (s_le (a := 0) hC2 (by decide)) (Nat.le_of_ble_eq_true rfl)⟩) hP hD hS hA [0, 2] rfl (fun _ => rfl) (fun r_4 u_6 H locs hp_5 hP hD hS => ?_)
  obtain ⟨voth_7, rfl⟩ : ∃ z, z = u_6 := ⟨_, rfl⟩
  have hp_5 : ((r_4 : Int32).toInt = ((gi 10) : Int32).toInt) := hp_5
  have q_8 := hp_5
  refine lv_icmp_eq (tgt := 1428) hx hb dL_law_339 (by decide) (fun _ => ?_) (fun c9 => (c9 (i_eq.mpr (by omega))).elim)
  obtain ⟨z_9, ez_9⟩ : ∃ z : Int32, z = i4 + 6 := ⟨_, rfl⟩
  have sz_9 := sc_ix hL hi4 ez_9 (show (6 : Int32).toInt = 6 from rfl) (by decide) (by decide)
  refine lv_iinc (v := z_9) (lv' := [(4, .int z_9), (3, .ref qo), (2, .ref (am 0)), (1, .ref (ad 0)), (0, .ref b)]) hx hb dL_law_1428 hl (k := 0) rfl ez_9.symm (by decide) rfl (fun ls hl => ?_)
  refine lv_goto (tgt := 23) hx hb dL_law_1431 (by decide) ?_
  have k_0 : (0 : Int32).toInt = 0 := by decide
  refine W.widen (k := C + 20) (n := S + 1000) (Nat.le_add_right _ _) (Nat.le_add_right _ _) ?_
  have e2 : (sets (FM cy am mi ml gi gw) [0, 2] (O_m_fault cy (mi 2) (am 0) (gi 0) (am 1) (gi 2) (gi 3) (gi 4) (gi 5) (gi 6) (gi 7) (gi 8) (gi 9) (gi 10) (gi 11) gw (gi 13) (am 2) (am 3) (am 4) (am 5) (am 6) (am 7) (am 8) (am 9) (am 10) (am 11) (gi 24) (gi 25) (am 12) (am 13) (am 14) (gi 29) (am 15) (am 16) (gi 32) (gi 33) (gi 34) (am 17) (gi 36) (gi 37) (am 18) (am 19) (gi 40) (gi 41) (am 20) (gi 43) (gi 44) (gi 45) (gi 46) (mi 2) voth_7)) = FM cy am mi ml (sI gi 0 voth_7) gw := rfl
  rw [e2] at hP hD
  exact ih z_9 sz_9.1 ad ai al aq fi fl nb am mi ml (sI gi 0 voth_7) gw fo ⟨(hX.1), (hX.2.1), (hX.2.2.1), (hX.2.2.2.1), (hX.2.2.2.2.1), (hX.2.2.2.2.2.1), (hX.2.2.2.2.2.2.1), (hX.2.2.2.2.2.2.2.1), (hX.2.2.2.2.2.2.2.2.1), (hX.2.2.2.2.2.2.2.2.2.1), (hX.2.2.2.2.2.2.2.2.2.2.1), (hX.2.2.2.2.2.2.2.2.2.2.2.1), (hX.2.2.2.2.2.2.2.2.2.2.2.2.1), (hX.2.2.2.2.2.2.2.2.2.2.2.2.2.1), (hX.2.2.2.2.2.2.2.2.2.2.2.2.2.2.1), (hX.2.2.2.2.2.2.2.2.2.2.2.2.2.2.2.1), (hX.2.2.2.2.2.2.2.2.2.2.2.2.2.2.2.2.1), (hX.2.2.2.2.2.2.2.2.2.2.2.2.2.2.2.2.2.1), (hX.2.2.2.2.2.2.2.2.2.2.2.2.2.2.2.2.2.2.1), (hX.2.2.2.2.2.2.2.2.2.2.2.2.2.2.2.2.2.2.2.1), (hX.2.2.2.2.2.2.2.2.2.2.2.2.2.2.2.2.2.2.2.2.1), (hX.2.2.2.2.2.2.2.2.2.2.2.2.2.2.2.2.2.2.2.2.2.1), (hX.2.2.2.2.2.2.2.2.2.2.2.2.2.2.2.2.2.2.2.2.2.2.1), (hX.2.2.2.2.2.2.2.2.2.2.2.2.2.2.2.2.2.2.2.2.2.2.2.1), (hX.2.2.2.2.2.2.2.2.2.2.2.2.2.2.2.2.2.2.2.2.2.2.2.2.1), (hX.2.2.2.2.2.2.2.2.2.2.2.2.2.2.2.2.2.2.2.2.2.2.2.2.2.1), (hX.2.2.2.2.2.2.2.2.2.2.2.2.2.2.2.2.2.2.2.2.2.2.2.2.2.2.1), (hX.2.2.2.2.2.2.2.2.2.2.2.2.2.2.2.2.2.2.2.2.2.2.2.2.2.2.2.1), (hX.2.2.2.2.2.2.2.2.2.2.2.2.2.2.2.2.2.2.2.2.2.2.2.2.2.2.2.2.1), (hX.2.2.2.2.2.2.2.2.2.2.2.2.2.2.2.2.2.2.2.2.2.2.2.2.2.2.2.2.2.1), (hX.2.2.2.2.2.2.2.2.2.2.2.2.2.2.2.2.2.2.2.2.2.2.2.2.2.2.2.2.2.2.1), (hX.2.2.2.2.2.2.2.2.2.2.2.2.2.2.2.2.2.2.2.2.2.2.2.2.2.2.2.2.2.2.2.1), (hX.2.2.2.2.2.2.2.2.2.2.2.2.2.2.2.2.2.2.2.2.2.2.2.2.2.2.2.2.2.2.2.2.1), (hX.2.2.2.2.2.2.2.2.2.2.2.2.2.2.2.2.2.2.2.2.2.2.2.2.2.2.2.2.2.2.2.2.2.1), (hX.2.2.2.2.2.2.2.2.2.2.2.2.2.2.2.2.2.2.2.2.2.2.2.2.2.2.2.2.2.2.2.2.2.2.1), (hX.2.2.2.2.2.2.2.2.2.2.2.2.2.2.2.2.2.2.2.2.2.2.2.2.2.2.2.2.2.2.2.2.2.2.2.1), (hX.2.2.2.2.2.2.2.2.2.2.2.2.2.2.2.2.2.2.2.2.2.2.2.2.2.2.2.2.2.2.2.2.2.2.2.2.1), (hX.2.2.2.2.2.2.2.2.2.2.2.2.2.2.2.2.2.2.2.2.2.2.2.2.2.2.2.2.2.2.2.2.2.2.2.2.2.1), (hX.2.2.2.2.2.2.2.2.2.2.2.2.2.2.2.2.2.2.2.2.2.2.2.2.2.2.2.2.2.2.2.2.2.2.2.2.2.2.1), (hX.2.2.2.2.2.2.2.2.2.2.2.2.2.2.2.2.2.2.2.2.2.2.2.2.2.2.2.2.2.2.2.2.2.2.2.2.2.2.2.1), (hX.2.2.2.2.2.2.2.2.2.2.2.2.2.2.2.2.2.2.2.2.2.2.2.2.2.2.2.2.2.2.2.2.2.2.2.2.2.2.2.2.1), (hX.2.2.2.2.2.2.2.2.2.2.2.2.2.2.2.2.2.2.2.2.2.2.2.2.2.2.2.2.2.2.2.2.2.2.2.2.2.2.2.2.2.1), (hX.2.2.2.2.2.2.2.2.2.2.2.2.2.2.2.2.2.2.2.2.2.2.2.2.2.2.2.2.2.2.2.2.2.2.2.2.2.2.2.2.2.2.1), (hX.2.2.2.2.2.2.2.2.2.2.2.2.2.2.2.2.2.2.2.2.2.2.2.2.2.2.2.2.2.2.2.2.2.2.2.2.2.2.2.2.2.2.2.1), (hX.2.2.2.2.2.2.2.2.2.2.2.2.2.2.2.2.2.2.2.2.2.2.2.2.2.2.2.2.2.2.2.2.2.2.2.2.2.2.2.2.2.2.2.2.1), (hX.2.2.2.2.2.2.2.2.2.2.2.2.2.2.2.2.2.2.2.2.2.2.2.2.2.2.2.2.2.2.2.2.2.2.2.2.2.2.2.2.2.2.2.2.2.1), (hX.2.2.2.2.2.2.2.2.2.2.2.2.2.2.2.2.2.2.2.2.2.2.2.2.2.2.2.2.2.2.2.2.2.2.2.2.2.2.2.2.2.2.2.2.2.2.1), (hX.2.2.2.2.2.2.2.2.2.2.2.2.2.2.2.2.2.2.2.2.2.2.2.2.2.2.2.2.2.2.2.2.2.2.2.2.2.2.2.2.2.2.2.2.2.2.2.1), (hX.2.2.2.2.2.2.2.2.2.2.2.2.2.2.2.2.2.2.2.2.2.2.2.2.2.2.2.2.2.2.2.2.2.2.2.2.2.2.2.2.2.2.2.2.2.2.2.2.1), (hX.2.2.2.2.2.2.2.2.2.2.2.2.2.2.2.2.2.2.2.2.2.2.2.2.2.2.2.2.2.2.2.2.2.2.2.2.2.2.2.2.2.2.2.2.2.2.2.2.2.1), (hX.2.2.2.2.2.2.2.2.2.2.2.2.2.2.2.2.2.2.2.2.2.2.2.2.2.2.2.2.2.2.2.2.2.2.2.2.2.2.2.2.2.2.2.2.2.2.2.2.2.2.1), (hX.2.2.2.2.2.2.2.2.2.2.2.2.2.2.2.2.2.2.2.2.2.2.2.2.2.2.2.2.2.2.2.2.2.2.2.2.2.2.2.2.2.2.2.2.2.2.2.2.2.2.2.1), (hX.2.2.2.2.2.2.2.2.2.2.2.2.2.2.2.2.2.2.2.2.2.2.2.2.2.2.2.2.2.2.2.2.2.2.2.2.2.2.2.2.2.2.2.2.2.2.2.2.2.2.2.2.1), (hX.2.2.2.2.2.2.2.2.2.2.2.2.2.2.2.2.2.2.2.2.2.2.2.2.2.2.2.2.2.2.2.2.2.2.2.2.2.2.2.2.2.2.2.2.2.2.2.2.2.2.2.2.2.1), (hX.2.2.2.2.2.2.2.2.2.2.2.2.2.2.2.2.2.2.2.2.2.2.2.2.2.2.2.2.2.2.2.2.2.2.2.2.2.2.2.2.2.2.2.2.2.2.2.2.2.2.2.2.2.2.1), (hX.2.2.2.2.2.2.2.2.2.2.2.2.2.2.2.2.2.2.2.2.2.2.2.2.2.2.2.2.2.2.2.2.2.2.2.2.2.2.2.2.2.2.2.2.2.2.2.2.2.2.2.2.2.2.2.1), (hX.2.2.2.2.2.2.2.2.2.2.2.2.2.2.2.2.2.2.2.2.2.2.2.2.2.2.2.2.2.2.2.2.2.2.2.2.2.2.2.2.2.2.2.2.2.2.2.2.2.2.2.2.2.2.2.2.1), (hX.2.2.2.2.2.2.2.2.2.2.2.2.2.2.2.2.2.2.2.2.2.2.2.2.2.2.2.2.2.2.2.2.2.2.2.2.2.2.2.2.2.2.2.2.2.2.2.2.2.2.2.2.2.2.2.2.2.1), (hX.2.2.2.2.2.2.2.2.2.2.2.2.2.2.2.2.2.2.2.2.2.2.2.2.2.2.2.2.2.2.2.2.2.2.2.2.2.2.2.2.2.2.2.2.2.2.2.2.2.2.2.2.2.2.2.2.2.2.1), (hX.2.2.2.2.2.2.2.2.2.2.2.2.2.2.2.2.2.2.2.2.2.2.2.2.2.2.2.2.2.2.2.2.2.2.2.2.2.2.2.2.2.2.2.2.2.2.2.2.2.2.2.2.2.2.2.2.2.2.2.1), (hX.2.2.2.2.2.2.2.2.2.2.2.2.2.2.2.2.2.2.2.2.2.2.2.2.2.2.2.2.2.2.2.2.2.2.2.2.2.2.2.2.2.2.2.2.2.2.2.2.2.2.2.2.2.2.2.2.2.2.2.2.1), (hX.2.2.2.2.2.2.2.2.2.2.2.2.2.2.2.2.2.2.2.2.2.2.2.2.2.2.2.2.2.2.2.2.2.2.2.2.2.2.2.2.2.2.2.2.2.2.2.2.2.2.2.2.2.2.2.2.2.2.2.2.2.1), (hX.2.2.2.2.2.2.2.2.2.2.2.2.2.2.2.2.2.2.2.2.2.2.2.2.2.2.2.2.2.2.2.2.2.2.2.2.2.2.2.2.2.2.2.2.2.2.2.2.2.2.2.2.2.2.2.2.2.2.2.2.2.2.1), (hX.2.2.2.2.2.2.2.2.2.2.2.2.2.2.2.2.2.2.2.2.2.2.2.2.2.2.2.2.2.2.2.2.2.2.2.2.2.2.2.2.2.2.2.2.2.2.2.2.2.2.2.2.2.2.2.2.2.2.2.2.2.2.2.1), (hX.2.2.2.2.2.2.2.2.2.2.2.2.2.2.2.2.2.2.2.2.2.2.2.2.2.2.2.2.2.2.2.2.2.2.2.2.2.2.2.2.2.2.2.2.2.2.2.2.2.2.2.2.2.2.2.2.2.2.2.2.2.2.2.2.1), (hX.2.2.2.2.2.2.2.2.2.2.2.2.2.2.2.2.2.2.2.2.2.2.2.2.2.2.2.2.2.2.2.2.2.2.2.2.2.2.2.2.2.2.2.2.2.2.2.2.2.2.2.2.2.2.2.2.2.2.2.2.2.2.2.2.2.1), (hX.2.2.2.2.2.2.2.2.2.2.2.2.2.2.2.2.2.2.2.2.2.2.2.2.2.2.2.2.2.2.2.2.2.2.2.2.2.2.2.2.2.2.2.2.2.2.2.2.2.2.2.2.2.2.2.2.2.2.2.2.2.2.2.2.2.2.1), (hX.2.2.2.2.2.2.2.2.2.2.2.2.2.2.2.2.2.2.2.2.2.2.2.2.2.2.2.2.2.2.2.2.2.2.2.2.2.2.2.2.2.2.2.2.2.2.2.2.2.2.2.2.2.2.2.2.2.2.2.2.2.2.2.2.2.2.2.1), (hX.2.2.2.2.2.2.2.2.2.2.2.2.2.2.2.2.2.2.2.2.2.2.2.2.2.2.2.2.2.2.2.2.2.2.2.2.2.2.2.2.2.2.2.2.2.2.2.2.2.2.2.2.2.2.2.2.2.2.2.2.2.2.2.2.2.2.2.2.1), (hX.2.2.2.2.2.2.2.2.2.2.2.2.2.2.2.2.2.2.2.2.2.2.2.2.2.2.2.2.2.2.2.2.2.2.2.2.2.2.2.2.2.2.2.2.2.2.2.2.2.2.2.2.2.2.2.2.2.2.2.2.2.2.2.2.2.2.2.2.2.1), (hX.2.2.2.2.2.2.2.2.2.2.2.2.2.2.2.2.2.2.2.2.2.2.2.2.2.2.2.2.2.2.2.2.2.2.2.2.2.2.2.2.2.2.2.2.2.2.2.2.2.2.2.2.2.2.2.2.2.2.2.2.2.2.2.2.2.2.2.2.2.2.1), (hX.2.2.2.2.2.2.2.2.2.2.2.2.2.2.2.2.2.2.2.2.2.2.2.2.2.2.2.2.2.2.2.2.2.2.2.2.2.2.2.2.2.2.2.2.2.2.2.2.2.2.2.2.2.2.2.2.2.2.2.2.2.2.2.2.2.2.2.2.2.2.2.1), (hX.2.2.2.2.2.2.2.2.2.2.2.2.2.2.2.2.2.2.2.2.2.2.2.2.2.2.2.2.2.2.2.2.2.2.2.2.2.2.2.2.2.2.2.2.2.2.2.2.2.2.2.2.2.2.2.2.2.2.2.2.2.2.2.2.2.2.2.2.2.2.2.2.1), (hX.2.2.2.2.2.2.2.2.2.2.2.2.2.2.2.2.2.2.2.2.2.2.2.2.2.2.2.2.2.2.2.2.2.2.2.2.2.2.2.2.2.2.2.2.2.2.2.2.2.2.2.2.2.2.2.2.2.2.2.2.2.2.2.2.2.2.2.2.2.2.2.2.2)⟩ ⟨(hM.1), (hM.2.1), (hM.2.2.1), (hM.2.2.2.1), (hM.2.2.2.2.1), (hM.2.2.2.2.2.1), (hM.2.2.2.2.2.2.1), (hM.2.2.2.2.2.2.2.1), (hM.2.2.2.2.2.2.2.2.1), (hM.2.2.2.2.2.2.2.2.2.1), (hM.2.2.2.2.2.2.2.2.2.2.1), (hM.2.2.2.2.2.2.2.2.2.2.2.1), (hM.2.2.2.2.2.2.2.2.2.2.2.2)⟩ ⟨(hR.1), (hR.2.1), (hR.2.2.1), (hR.2.2.2.1), (hR.2.2.2.2.1), (hR.2.2.2.2.2.1), (hR.2.2.2.2.2.2)⟩ H locs hP hD hS ls (lv_sub hl [0, 1, 2, 3, 4] rfl)
