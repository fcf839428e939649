theorem dL_law_384 : decode cL_law 384 = .ok (.aload_n 1, 1) := by decide +kernel
theorem dL_law_385 : decode cL_law 385 = .ok (.aload_n 0, 1) := by decide +kernel
theorem dL_law_386 : decode cL_law 386 = .ok (.iload 4, 2) := by decide +kernel
theorem dL_law_388 : decode cL_law 388 = .ok (.iconst 1, 1) := by decide +kernel
theorem dL_law_389 : decode cL_law 389 = .ok (.iadd, 1) := by decide +kernel
theorem dL_law_390 : decode cL_law 390 = .ok (.iaload, 1) := by decide +kernel
theorem dL_law_391 : decode cL_law 391 = .ok (.aload_n 0, 1) := by decide +kernel
theorem dL_law_392 : decode cL_law 392 = .ok (.iload 4, 2) := by decide +kernel
theorem dL_law_394 : decode cL_law 394 = .ok (.iconst 2, 1) := by decide +kernel
theorem dL_law_395 : decode cL_law 395 = .ok (.iadd, 1) := by decide +kernel
theorem dL_law_396 : decode cL_law 396 = .ok (.iaload, 1) := by decide +kernel
theorem dL_law_397 : decode cL_law 397 = .ok (.invokevirtual 44, 3) := by decide +kernel
theorem t669 : Cond.methodLink RL 44 yX10_did ∈ GW := gw_mem 783 (by decide +kernel) (by decide +kernel)
theorem t670 : Cond.instanceMethod yX10_did ∈ GW := gw_mem 784 (by decide +kernel) (by decide +kernel)
theorem t671 : Cond.selects RX10 yX10_did yX10_did ∈ GW := gw_mem 785 (by decide +kernel) (by decide +kernel)
theorem cw_L_44 {R : Room} {s : State} {args : Array Value} {rm : Room} {mc ms : Nat} (hts : ∀ w ∈ GW, w.before args s = true) (hrc : rm.cells = mc) (hrs : rm.slots = ms) (hR : rm.frames + 1 ≤ R.frames ∧ 8 + (3 + 11) + rm.locals ≤ R.locals) : CallW R s args RL RX10 44 yX10_did cX10_did 3 (some .int) (wl yX10_did cX10_did 3 (some .int)) rm mc ms 2 := cwV 2 hts (gi_V t669 t670 t671 t1 t672) rfl hrc hrs (by decide +kernel) hR
theorem dL_law_400 : decode cL_law 400 = .ok (.pop, 1) := by decide +kernel
theorem dL_law_401 : decode cL_law 401 = .ok (.aload_n 2, 1) := by decide +kernel
theorem dL_law_402 : decode cL_law 402 = .ok (.aload_n 0, 1) := by decide +kernel
theorem dL_law_403 : decode cL_law 403 = .ok (.iload 4, 2) := by decide +kernel
theorem dL_law_405 : decode cL_law 405 = .ok (.iconst 1, 1) := by decide +kernel
theorem dL_law_406 : decode cL_law 406 = .ok (.iadd, 1) := by decide +kernel
theorem dL_law_407 : decode cL_law 407 = .ok (.iaload, 1) := by decide +kernel
theorem dL_law_408 : decode cL_law 408 = .ok (.aload_n 0, 1) := by decide +kernel
theorem dL_law_409 : decode cL_law 409 = .ok (.iload 4, 2) := by decide +kernel
theorem dL_law_411 : decode cL_law 411 = .ok (.iconst 2, 1) := by decide +kernel
theorem dL_law_412 : decode cL_law 412 = .ok (.iadd, 1) := by decide +kernel
theorem dL_law_413 : decode cL_law 413 = .ok (.iaload, 1) := by decide +kernel
theorem dL_law_414 : decode cL_law 414 = .ok (.invokevirtual 47, 3) := by decide +kernel
theorem t1747 : Cond.methodLink RL 47 yX11_did ∈ GW := gw_mem 1861 (by decide +kernel) (by decide +kernel)
theorem t1748 : Cond.instanceMethod yX11_did ∈ GW := gw_mem 1862 (by decide +kernel) (by decide +kernel)
theorem t1749 : Cond.selects RX11 yX11_did yX11_did ∈ GW := gw_mem 1863 (by decide +kernel) (by decide +kernel)
theorem cw_L_47 {R : Room} {s : State} {args : Array Value} {rm : Room} {mc ms : Nat} (hts : ∀ w ∈ GW, w.before args s = true) (hrc : rm.cells = mc) (hrs : rm.slots = ms) (hR : rm.frames + 1 ≤ R.frames ∧ 8 + (3 + 11) + rm.locals ≤ R.locals) : CallW R s args RL RX11 47 yX11_did cX11_did 3 (some .int) (wl yX11_did cX11_did 3 (some .int)) rm mc ms 2 := cwV 2 hts (gi_V t1747 t1748 t1749 t18 t1750) rfl hrc hrs (by decide +kernel) hR
theorem dL_law_417 : decode cL_law 417 = .ok (.pop, 1) := by decide +kernel
theorem dL_law_418 : decode cL_law 418 = .ok (.goto 1010, 3) := by decide +kernel
set_option maxHeartbeats 8000000 in
set_option maxRecDepth 100000 in
theorem lc_5 {p : Program} {l : Launch} {e : Env} {s : State} {m : MethodId} {below : List Frame} {meth : Method} {c : Code} {b L : Nat} {xs : Nat → Int32} (hl0 : l.stackTraces = false) (C0 : lw_At p s m meth c b L xs) (hL : L ≤ 3072) (dC : Nat → ClassId) (dI : Nat → Nat → Nat) (cy : Nat → ClassId) (ad : Nat → Nat) (ai : Nat → Nat → Int32) (al : Nat → Nat → Int64) (aq : Nat → Nat → Option Nat) (fi : Nat → Nat → Int32) (fl : Int64) (nb : Nat) (am : Nat → Nat) (mi : Nat → Nat → Int32) (ml : Nat → Nat → Int64) (gi : Nat → Int32) (gw : Int64) (fo : Nat → Int64) (qo : Nat) (hK : va_K (dC, dI) vwCl (TY cy) s) (C S : Nat) (hC : C + 100 ≤ 500000) (hC2 : S + 1000 ≤ 7000000) (i4 : Int32) (hi4 : 0 ≤ i4.toInt ∧ i4.toInt + 6 ≤ (L : Int)) (ih : ∀ z4 : Int32, z4.toInt = i4.toInt + 6 → LH p l e s m below meth c b qo dC dI cy (C + 20) (S + 1000) z4) (hX : INX ad ai al aq fi fl nb) (hM : INM am mi ml gi gw) (hR : INR ad ai al aq fi fl nb am mi ml gi gw) {H : Heap} {locs : List Loc} (hP : va_P (dC, dI) vwCl (FX cy ad ai al aq fi fl nb ++ (FM cy am mi ml gi gw ++ FO cy qo fo)) H) (hD : va_D (FA s) (FX cy ad ai al aq fi fl nb ++ (FM cy am mi ml gi gw ++ FO cy qo fo))) (hS : va_S (FA s) s.heap H locs) {ls : Array Slot} (hl : lv_has ls 7 [(4, .int i4), (3, .ref qo), (2, .ref (am 0)), (1, .ref (ad 0)), (0, .ref b)]) : W p l e room_1 s m #[Value.ref b] below meth c H locs C S (lw_Z below #[Value.ref b] s) (F0 m 384 ls []) := by
  obtain ⟨hx, hb, hr, hml, hown, htsL, hXs, hbl, hlocks, hgv⟩ := id C0
  have hown : s.vm.findClass RL = some m.cls := hown
  have hts : ∀ w ∈ GW, w.before #[Value.ref b] s = true := fun w hw => htsL w (List.mem_filter.mp hw).1
  have hA : ∀ q : Nat, s.heap.size ≤ q → FA s q := fun _ h => h
  have hbA : ¬ FA s b := Nat.not_le.mpr hbl
  have hx0 := (hX.1)
  have hx4 := (hX.2.2.2.2.1)
  have hy0 := (hM.1)
  have hz0 := (hR.1)
  have hz6 := (hR.2.2.2.2.2.2)
  refine lv_aload_n hx hb dL_law_384 rfl (lv_at hl 3 rfl) ?_
  refine lv_aload_n hx hb dL_law_385 rfl (lv_at hl 4 rfl) ?_
  refine lv_iload hx hb dL_law_386 (lv_at hl 0 rfl) ?_
  refine lv_iconst (v := 1) hx hb dL_law_388 (by decide) ?_
  refine lv_iadd hx hb dL_law_389 ?_
  refine lv_topi (fun z_1 ez_1 => ?_)
  have sz_1 := sc_ix hL hi4 ez_1 (show (1 : Int32).toInt = 1 from rfl) (by decide) (by decide)
  refine va_sld hx hb hXs hbl hbA hS (sz_1.2 (by decide)) dL_law_390 ?_
  refine lv_topi (fun z_3 ez_3 => ?_)
  refine lv_aload_n hx hb dL_law_391 rfl (lv_at hl 4 rfl) ?_
  refine lv_iload hx hb dL_law_392 (lv_at hl 0 rfl) ?_
  refine lv_iconst (v := 2) hx hb dL_law_394 (by decide) ?_
  refine lv_iadd hx hb dL_law_395 ?_
  refine lv_topi (fun z_4 ez_4 => ?_)
  have sz_4 := sc_ix hL hi4 ez_4 (show (2 : Int32).toInt = 2 from rfl) (by decide) (by decide)
  refine va_sld hx hb hXs hbl hbA hS (sz_4.2 (by decide)) dL_law_396 ?_
  refine lv_topi (fun z_6 ez_6 => ?_)
  refine jr_i (rVr (As := [.int z_3, .int z_6]) (rest := []) (ci := 11) ⟨hx, hb, hml, hown, hts⟩ (g_did l dC dI cy (ad 0) (ad 1) (ad 4) (ad 5) (ad 10) (ad 23) (ad 24) (ad 25) (ad 27) (ad 28) (ad 29) (ad 30) (ad 31) (ad 54) (fi 0 13) (fi 0 14) (fi 0 15) (fi 0 16) (ad 32) (ad 38) (ad 49) (ad 33) (ad 34) (ad 35) (ad 36) (ad 37) (fi 32 5) (fi 32 6) (fi 32 7) (fi 32 8) (ad 39) (ad 40) (ad 41) (ad 42) (ad 43) (ad 44) (ad 45) (ad 46) (ad 47) (ad 48) (fi 38 10) (ai 40) z_3 z_6 (hX.2.2.2.2.2.2.2.1) (hX.2.2.2.2.2.2.2.2.1) (hX.2.2.2.2.2.2.2.2.2.2.2.2.2.2.2.2.2.2.2.2.2.2.2.2.2.2.2.2.2.2.1)) (cw_L_44 hts rfl rfl ⟨Nat.le_of_ble_eq_true rfl, Nat.le_of_ble_eq_true rfl⟩) (PML (Y := FX cy ad ai al aq fi fl nb) (Z := FM cy am mi ml gi gw ++ FO cy qo fo) hP) hK [0, 31, 32, 38, 40] rfl rfl rfl rfl hl.1 rfl (Nat.le_of_ble_eq_true rfl) dL_law_397 ⟨Nat.le_trans (c_le (a := 0) hC (by decide)) (Nat.le_of_ble_eq_true rfl), Nat.le_trans (s_le (a := 0) hC2 (by decide)) (Nat.le_of_ble_eq_true rfl)⟩) hP hS (fun r_7 H locs hp_8 hP hS => ?_)
  refine lv_pop hx hb dL_law_400 rfl ?_
  refine lv_aload_n hx hb dL_law_401 rfl (lv_at hl 2 rfl) ?_
  refine lv_aload_n hx hb dL_law_402 rfl (lv_at hl 4 rfl) ?_
  refine lv_iload hx hb dL_law_403 (lv_at hl 0 rfl) ?_
  refine lv_iconst (v := 1) hx hb dL_law_405 (by decide) ?_
  refine lv_iadd hx hb dL_law_406 ?_
  refine lv_topi (fun z_9 ez_9 => ?_)
  have sz_9 := sc_ix hL hi4 ez_9 (show (1 : Int32).toInt = 1 from rfl) (by decide) (by decide)
  refine va_sld hx hb hXs hbl hbA hS (sz_9.2 (by decide)) dL_law_407 ?_
  refine lv_topi (fun z_11 ez_11 => ?_)
  refine as_i z_3 (i_eq.mpr (i_same ez_3 ez_11 (sz_9.1.trans sz_1.1.symm))) ?_
  refine lv_aload_n hx hb dL_law_408 rfl (lv_at hl 4 rfl) ?_
  refine lv_iload hx hb dL_law_409 (lv_at hl 0 rfl) ?_
  refine lv_iconst (v := 2) hx hb dL_law_411 (by decide) ?_
  refine lv_iadd hx hb dL_law_412 ?_
  refine lv_topi (fun z_12 ez_12 => ?_)
  have sz_12 := sc_ix hL hi4 ez_12 (show (2 : Int32).toInt = 2 from rfl) (by decide) (by decide)
  refine va_sld hx hb hXs hbl hbA hS (sz_12.2 (by decide)) dL_law_413 ?_
  refine lv_topi (fun z_14 ez_14 => ?_)
  refine as_i z_6 (i_eq.mpr (i_same ez_6 ez_14 (sz_12.1.trans sz_4.1.symm))) ?_
  refine jm_i (X := FX cy ad ai al aq fi fl nb) (Y := FM cy am mi ml gi gw) (Z := FO cy qo fo) (rV (As := [.int z_3, .int z_6]) (rest := []) (ci := 12) ⟨hx, hb, hml, hown, hts⟩ (m_did l dC dI cy _ (mi 2) (am 0) (gi 0) (am 1) (gi 2) (gi 3) (gi 4) (gi 5) (gi 6) (gi 7) (gi 8) (gi 9) (gi 10) (gi 11) gw (gi 13) (am 2) (am 3) (am 4) (am 5) (am 6) (am 7) (am 8) (am 9) (am 10) (am 11) (gi 24) (gi 25) (am 12) (am 13) (am 14) (gi 29) (am 15) (am 16) (gi 32) (gi 33) (gi 34) (am 17) (gi 36) (gi 37) (am 18) (am 19) (gi 40) (gi 41) (am 20) (gi 43) (gi 44) (gi 45) (gi 46) (mi 2) z_3 z_6 (hM.2.2.2.2.2.2.2.1)) (cw_L_47 hts rfl rfl ⟨Nat.le_of_ble_eq_true rfl, Nat.le_of_ble_eq_true rfl⟩) (PM (X := FX cy ad ai al aq fi fl nb) (Y := FM cy am mi ml gi gw) (Z := FO cy qo fo) hP) (DM (X := FX cy ad ai al aq fi fl nb) (Y := FM cy am mi ml gi gw) (Z := FO cy qo fo) hD) hK [0, 2] rfl rfl rfl rfl bl0 e0 rfl hl.1 rfl (Nat.le_of_ble_eq_true rfl) dL_law_414 ⟨Nat.le_trans (c_le (a := 0) hC (by decide)) (Nat.le_of_ble_eq_true rfl), Nat.le_trans (s_le (a := 0) hC2 (by decide)) (Nat.le_of_ble_eq_true rfl)⟩) hP hD hS hA [0, 2] rfl (fun _ => rfl) (fun r_15 u_17 H locs hp_16 hP hD hS => ?_)
  obtain ⟨voth_18, rfl⟩ : ∃ z, z = u_17 := ⟨_, rfl⟩
  refine lv_pop hx hb dL_law_417 rfl ?_
  refine lv_goto (tgt := 1428) hx hb dL_law_418 (by decide) ?_
  obtain ⟨z_19, ez_19⟩ : ∃ z : Int32, z = i4 + 6 := ⟨_, rfl⟩
  have sz_19 := sc_ix hL hi4 ez_19 (show (6 : Int32).toInt = 6 from rfl) (by decide) (by decide)
  refine lv_iinc (v := z_19) (lv' := [(4, .int z_19), (3, .ref qo), (2, .ref (am 0)), (1, .ref (ad 0)), (0, .ref b)]) hx hb dL_law_1428 hl (k := 0) rfl ez_19.symm (by decide) rfl (fun ls hl => ?_)
  refine lv_goto (tgt := 23) hx hb dL_law_1431 (by decide) ?_
  have k_0 : (0 : Int32).toInt = 0 := by decide
  refine W.widen (k := C + 20) (n := S + 1000) (Nat.le_add_right _ _) (Nat.le_add_right _ _) ?_
  have e2 : (sets (FM cy am mi ml gi gw) [0, 2] (O_m_did cy (mi 2) (am 0) (gi 0) (am 1) (gi 2) (gi 3) (gi 4) (gi 5) (gi 6) (gi 7) (gi 8) (gi 9) (gi 10) (gi 11) gw (gi 13) (am 2) (am 3) (am 4) (am 5) (am 6) (am 7) (am 8) (am 9) (am 10) (am 11) (gi 24) (gi 25) (am 12) (am 13) (am 14) (gi 29) (am 15) (am 16) (gi 32) (gi 33) (gi 34) (am 17) (gi 36) (gi 37) (am 18) (am 19) (gi 40) (gi 41) (am 20) (gi 43) (gi 44) (gi 45) (gi 46) (mi 2) z_3 z_6 voth_18)) = FM cy am mi ml (sI gi 0 voth_18) gw := rfl
  rw [e2] at hP hD
  exact ih z_19 sz_19.1 ad ai al aq fi fl nb am mi ml (sI gi 0 voth_18) gw fo ⟨(hX.1), (hX.2.1), (hX.2.2.1), (hX.2.2.2.1), (hX.2.2.2.2.1), (hX.2.2.2.2.2.1), (hX.2.2.2.2.2.2.1), (hX.2.2.2.2.2.2.2.1), (hX.2.2.2.2.2.2.2.2.1), (hX.2.2.2.2.2.2.2.2.2.1), (hX.2.2.2.2.2.2.2.2.2.2.1), (hX.2.2.2.2.2.2.2.2.2.2.2.1), (hX.2.2.2.2.2.2.2.2.2.2.2.2.1), (hX.2.2.2.2.2.2.2.2.2.2.2.2.2.1), (hX.2.2.2.2.2.2.2.2.2.2.2.2.2.2.1), (hX.2.2.2.2.2.2.2.2.2.2.2.2.2.2.2.1), (hX.2.2.2.2.2.2.2.2.2.2.2.2.2.2.2.2.1), (hX.2.2.2.2.2.2.2.2.2.2.2.2.2.2.2.2.2.1), (hX.2.2.2.2.2.2.2.2.2.2.2.2.2.2.2.2.2.2.1), (hX.2.2.2.2.2.2.2.2.2.2.2.2.2.2.2.2.2.2.2.1), (hX.2.2.2.2.2.2.2.2.2.2.2.2.2.2.2.2.2.2.2.2.1), (hX.2.2.2.2.2.2.2.2.2.2.2.2.2.2.2.2.2.2.2.2.2.1), (hX.2.2.2.2.2.2.2.2.2.2.2.2.2.2.2.2.2.2.2.2.2.2.1), (hX.2.2.2.2.2.2.2.2.2.2.2.2.2.2.2.2.2.2.2.2.2.2.2.1), (hX.2.2.2.2.2.2.2.2.2.2.2.2.2.2.2.2.2.2.2.2.2.2.2.2.1), (hX.2.2.2.2.2.2.2.2.2.2.2.2.2.2.2.2.2.2.2.2.2.2.2.2.2.1), (hX.2.2.2.2.2.2.2.2.2.2.2.2.2.2.2.2.2.2.2.2.2.2.2.2.2.2.1), (hX.2.2.2.2.2.2.2.2.2.2.2.2.2.2.2.2.2.2.2.2.2.2.2.2.2.2.2.1), (hX.2.2.2.2.2.2.2.2.2.2.2.2.2.2.2.2.2.2.2.2.2.2.2.2.2.2.2.2.1), (hX.2.2.2.2.2.2.2.2.2.2.2.2.2.2.2.2.2.2.2.2.2.2.2.2.2.2.2.2.2.1), (hX.2.2.2.2.2.2.2.2.2.2.2.2.2.2.2.2.2.2.2.2.2.2.2.2.2.2.2.2.2.2.1), (hX.2.2.2.2.2.2.2.2.2.2.2.2.2.2.2.2.2.2.2.2.2.2.2.2.2.2.2.2.2.2.2.1), (hX.2.2.2.2.2.2.2.2.2.2.2.2.2.2.2.2.2.2.2.2.2.2.2.2.2.2.2.2.2.2.2.2.1), (hX.2.2.2.2.2.2.2.2.2.2.2.2.2.2.2.2.2.2.2.2.2.2.2.2.2.2.2.2.2.2.2.2.2.1), (hX.2.2.2.2.2.2.2.2.2.2.2.2.2.2.2.2.2.2.2.2.2.2.2.2.2.2.2.2.2.2.2.2.2.2.1), (hX.2.2.2.2.2.2.2.2.2.2.2.2.2.2.2.2.2.2.2.2.2.2.2.2.2.2.2.2.2.2.2.2.2.2.2.1), (hX.2.2.2.2.2.2.2.2.2.2.2.2.2.2.2.2.2.2.2.2.2.2.2.2.2.2.2.2.2.2.2.2.2.2.2.2.1), (hX.2.2.2.2.2.2.2.2.2.2.2.2.2.2.2.2.2.2.2.2.2.2.2.2.2.2.2.2.2.2.2.2.2.2.2.2.2.1), (hX.2.2.2.2.2.2.2.2.2.2.2.2.2.2.2.2.2.2.2.2.2.2.2.2.2.2.2.2.2.2.2.2.2.2.2.2.2.2.1), (hX.2.2.2.2.2.2.2.2.2.2.2.2.2.2.2.2.2.2.2.2.2.2.2.2.2.2.2.2.2.2.2.2.2.2.2.2.2.2.2.1), (hX.2.2.2.2.2.2.2.2.2.2.2.2.2.2.2.2.2.2.2.2.2.2.2.2.2.2.2.2.2.2.2.2.2.2.2.2.2.2.2.2.1), (hX.2.2.2.2.2.2.2.2.2.2.2.2.2.2.2.2.2.2.2.2.2.2.2.2.2.2.2.2.2.2.2.2.2.2.2.2.2.2.2.2.2.1), (hX.2.2.2.2.2.2.2.2.2.2.2.2.2.2.2.2.2.2.2.2.2.2.2.2.2.2.2.2.2.2.2.2.2.2.2.2.2.2.2.2.2.2.1), (hX.2.2.2.2.2.2.2.2.2.2.2.2.2.2.2.2.2.2.2.2.2.2.2.2.2.2.2.2.2.2.2.2.2.2.2.2.2.2.2.2.2.2.2.1), (hX.2.2.2.2.2.2.2.2.2.2.2.2.2.2.2.2.2.2.2.2.2.2.2.2.2.2.2.2.2.2.2.2.2.2.2.2.2.2.2.2.2.2.2.2.1), (hX.2.2.2.2.2.2.2.2.2.2.2.2.2.2.2.2.2.2.2.2.2.2.2.2.2.2.2.2.2.2.2.2.2.2.2.2.2.2.2.2.2.2.2.2.2.1), (hX.2.2.2.2.2.2.2.2.2.2.2.2.2.2.2.2.2.2.2.2.2.2.2.2.2.2.2.2.2.2.2.2.2.2.2.2.2.2.2.2.2.2.2.2.2.2.1), (hX.2.2.2.2.2.2.2.2.2.2.2.2.2.2.2.2.2.2.2.2.2.2.2.2.2.2.2.2.2.2.2.2.2.2.2.2.2.2.2.2.2.2.2.2.2.2.2.1), (hX.2.2.2.2.2.2.2.2.2.2.2.2.2.2.2.2.2.2.2.2.2.2.2.2.2.2.2.2.2.2.2.2.2.2.2.2.2.2.2.2.2.2.2.2.2.2.2.2.1), (hX.2.2.2.2.2.2.2.2.2.2.2.2.2.2.2.2.2.2.2.2.2.2.2.2.2.2.2.2.2.2.2.2.2.2.2.2.2.2.2.2.2.2.2.2.2.2.2.2.2.1), (hX.2.2.2.2.2.2.2.2.2.2.2.2.2.2.2.2.2.2.2.2.2.2.2.2.2.2.2.2.2.2.2.2.2.2.2.2.2.2.2.2.2.2.2.2.2.2.2.2.2.2.1), (hX.2.2.2.2.2.2.2.2.2.2.2.2.2.2.2.2.2.2.2.2.2.2.2.2.2.2.2.2.2.2.2.2.2.2.2.2.2.2.2.2.2.2.2.2.2.2.2.2.2.2.2.1), (hX.2.2.2.2.2.2.2.2.2.2.2.2.2.2.2.2.2.2.2.2.2.2.2.2.2.2.2.2.2.2.2.2.2.2.2.2.2.2.2.2.2.2.2.2.2.2.2.2.2.2.2.2.1), (hX.2.2.2.2.2.2.2.2.2.2.2.2.2.2.2.2.2.2.2.2.2.2.2.2.2.2.2.2.2.2.2.2.2.2.2.2.2.2.2.2.2.2.2.2.2.2.2.2.2.2.2.2.2.1), (hX.2.2.2.2.2.2.2.2.2.2.2.2.2.2.2.2.2.2.2.2.2.2.2.2.2.2.2.2.2.2.2.2.2.2.2.2.2.2.2.2.2.2.2.2.2.2.2.2.2.2.2.2.2.2.1), (hX.2.2.2.2.2.2.2.2.2.2.2.2.2.2.2.2.2.2.2.2.2.2.2.2.2.2.2.2.2.2.2.2.2.2.2.2.2.2.2.2.2.2.2.2.2.2.2.2.2.2.2.2.2.2.2.1), (hX.2.2.2.2.2.2.2.2.2.2.2.2.2.2.2.2.2.2.2.2.2.2.2.2.2.2.2.2.2.2.2.2.2.2.2.2.2.2.2.2.2.2.2.2.2.2.2.2.2.2.2.2.2.2.2.2.1), (hX.2.2.2.2.2.2.2.2.2.2.2.2.2.2.2.2.2.2.2.2.2.2.2.2.2.2.2.2.2.2.2.2.2.2.2.2.2.2.2.2.2.2.2.2.2.2.2.2.2.2.2.2.2.2.2.2.2.1), (hX.2.2.2.2.2.2.2.2.2.2.2.2.2.2.2.2.2.2.2.2.2.2.2.2.2.2.2.2.2.2.2.2.2.2.2.2.2.2.2.2.2.2.2.2.2.2.2.2.2.2.2.2.2.2.2.2.2.2.1), (hX.2.2.2.2.2.2.2.2.2.2.2.2.2.2.2.2.2.2.2.2.2.2.2.2.2.2.2.2.2.2.2.2.2.2.2.2.2.2.2.2.2.2.2.2.2.2.2.2.2.2.2.2.2.2.2.2.2.2.2.1), (hX.2.2.2.2.2.2.2.2.2.2.2.2.2.2.2.2.2.2.2.2.2.2.2.2.2.2.2.2.2.2.2.2.2.2.2.2.2.2.2.2.2.2.2.2.2.2.2.2.2.2.2.2.2.2.2.2.2.2.2.2.1), (hX.2.2.2.2.2.2.2.2.2.2.2.2.2.2.2.2.2.2.2.2.2.2.2.2.2.2.2.2.2.2.2.2.2.2.2.2.2.2.2.2.2.2.2.2.2.2.2.2.2.2.2.2.2.2.2.2.2.2.2.2.2.1), (hX.2.2.2.2.2.2.2.2.2.2.2.2.2.2.2.2.2.2.2.2.2.2.2.2.2.2.2.2.2.2.2.2.2.2.2.2.2.2.2.2.2.2.2.2.2.2.2.2.2.2.2.2.2.2.2.2.2.2.2.2.2.2.1), (hX.2.2.2.2.2.2.2.2.2.2.2.2.2.2.2.2.2.2.2.2.2.2.2.2.2.2.2.2.2.2.2.2.2.2.2.2.2.2.2.2.2.2.2.2.2.2.2.2.2.2.2.2.2.2.2.2.2.2.2.2.2.2.2.1), (hX.2.2.2.2.2.2.2.2.2.2.2.2.2.2.2.2.2.2.2.2.2.2.2.2.2.2.2.2.2.2.2.2.2.2.2.2.2.2.2.2.2.2.2.2.2.2.2.2.2.2.2.2.2.2.2.2.2.2.2.2.2.2.2.2.1), (hX.2.2.2.2.2.2.2.2.2.2.2.2.2.2.2.2.2.2.2.2.2.2.2.2.2.2.2.2.2.2.2.2.2.2.2.2.2.2.2.2.2.2.2.2.2.2.2.2.2.2.2.2.2.2.2.2.2.2.2.2.2.2.2.2.2.1), (hX.2.2.2.2.2.2.2.2.2.2.2.2.2.2.2.2.2.2.2.2.2.2.2.2.2.2.2.2.2.2.2.2.2.2.2.2.2.2.2.2.2.2.2.2.2.2.2.2.2.2.2.2.2.2.2.2.2.2.2.2.2.2.2.2.2.2.1), (hX.2.2.2.2.2.2.2.2.2.2.2.2.2.2.2.2.2.2.2.2.2.2.2.2.2.2.2.2.2.2.2.2.2.2.2.2.2.2.2.2.2.2.2.2.2.2.2.2.2.2.2.2.2.2.2.2.2.2.2.2.2.2.2.2.2.2.2.1), (hX.2.2.2.2.2.2.2.2.2.2.2.2.2.2.2.2.2.2.2.2.2.2.2.2.2.2.2.2.2.2.2.2.2.2.2.2.2.2.2.2.2.2.2.2.2.2.2.2.2.2.2.2.2.2.2.2.2.2.2.2.2.2.2.2.2.2.2.2.1), (hX.2.2.2.2.2.2.2.2.2.2.2.2.2.2.2.2.2.2.2.2.2.2.2.2.2.2.2.2.2.2.2.2.2.2.2.2.2.2.2.2.2.2.2.2.2.2.2.2.2.2.2.2.2.2.2.2.2.2.2.2.2.2.2.2.2.2.2.2.2.1), (hX.2.2.2.2.2.2.2.2.2.2.2.2.2.2.2.2.2.2.2.2.2.2.2.2.2.2.2.2.2.2.2.2.2.2.2.2.2.2.2.2.2.2.2.2.2.2.2.2.2.2.2.2.2.2.2.2.2.2.2.2.2.2.2.2.2.2.2.2.2.2.1), (hX.2.2.2.2.2.2.2.2.2.2.2.2.2.2.2.2.2.2.2.2.2.2.2.2.2.2.2.2.2.2.2.2.2.2.2.2.2.2.2.2.2.2.2.2.2.2.2.2.2.2.2.2.2.2.2.2.2.2.2.2.2.2.2.2.2.2.2.2.2.2.2.1), (hX.2.2.2.2.2.2.2.2.2.2.2.2.2.2.2.2.2.2.2.2.2.2.2.2.2.2.2.2.2.2.2.2.2.2.2.2.2.2.2.2.2.2.2.2.2.2.2.2.2.2.2.2.2.2.2.2.2.2.2.2.2.2.2.2.2.2.2.2.2.2.2.2.1), (hX.2.2.2.2.2.2.2.2.2.2.2.2.2.2.2.2.2.2.2.2.2.2.2.2.2.2.2.2.2.2.2.2.2.2.2.2.2.2.2.2.2.2.2.2.2.2.2.2.2.2.2.2.2.2.2.2.2.2.2.2.2.2.2.2.2.2.2.2.2.2.2.2.2)⟩ ⟨(hM.1), (hM.2.1), (hM.2.2.1), (hM.2.2.2.1), (hM.2.2.2.2.1), (hM.2.2.2.2.2.1), (hM.2.2.2.2.2.2.1), (hM.2.2.2.2.2.2.2.1), (hM.2.2.2.2.2.2.2.2.1), (hM.2.2.2.2.2.2.2.2.2.1), (hM.2.2.2.2.2.2.2.2.2.2.1), (hM.2.2.2.2.2.2.2.2.2.2.2.1), (hM.2.2.2.2.2.2.2.2.2.2.2.2)⟩ ⟨(hR.1), (hR.2.1), (hR.2.2.1), (hR.2.2.2.1), (hR.2.2.2.2.1), (hR.2.2.2.2.2.1), (hR.2.2.2.2.2.2)⟩ H locs hP hD hS ls (lv_sub hl [0, 1, 2, 3, 4] rfl)
theorem dL_law_421 : decode cL_law 421 = .ok (.aload_n 1, 1) := by decide +kernel
theorem dL_law_422 : decode cL_law 422 = .ok (.aload_n 0, 1) := by decide +kernel
theorem dL_law_423 : decode cL_law 423 = .ok (.iload 4, 2) := by decide +kernel
theorem dL_law_425 : decode cL_law 425 = .ok (.iconst 1, 1) := by decide +kernel
theorem dL_law_426 : decode cL_law 426 = .ok (.iadd, 1) := by decide +kernel
theorem dL_law_427 : decode cL_law 427 = .ok (.iaload, 1) := by decide +kernel
theorem dL_law_428 : decode cL_law 428 = .ok (.aload_n 0, 1) := by decide +kernel
theorem dL_law_429 : decode cL_law 429 = .ok (.iload 4, 2) := by decide +kernel
theorem dL_law_431 : decode cL_law 431 = .ok (.iconst 2, 1) := by decide +kernel
theorem dL_law_432 : decode cL_law 432 = .ok (.iadd, 1) := by decide +kernel
theorem dL_law_433 : decode cL_law 433 = .ok (.iaload, 1) := by decide +kernel
theorem dL_law_434 : decode cL_law 434 = .ok (.invokevirtual 48, 3) := by decide +kernel
theorem t681 : Cond.methodLink RL 48 yX10_deed ∈ GW := gw_mem 795 (by decide +kernel) (by decide +kernel)
theorem t682 : Cond.instanceMethod yX10_deed ∈ GW := gw_mem 796 (by decide +kernel) (by decide +kernel)
theorem t683 : Cond.selects RX10 yX10_deed yX10_deed ∈ GW := gw_mem 797 (by decide +kernel) (by decide +kernel)
theorem cw_L_48 {R : Room} {s : State} {args : Array Value} {rm : Room} {mc ms : Nat} (hts : ∀ w ∈ GW, w.before args s = true) (hrc : rm.cells = mc) (hrs : rm.slots = ms) (hR : rm.frames + 1 ≤ R.frames ∧ 8 + (3 + 11) + rm.locals ≤ R.locals) : CallW R s args RL RX10 48 yX10_deed cX10_deed 3 (some .int) (wl yX10_deed cX10_deed 3 (some .int)) rm mc ms 2 := cwV 2 hts (gi_V t681 t682 t683 t1 t684) rfl hrc hrs (by decide +kernel) hR
theorem dL_law_437 : decode cL_law 437 = .ok (.pop, 1) := by decide +kernel
theorem dL_law_438 : decode cL_law 438 = .ok (.aload_n 2, 1) := by decide +kernel
theorem dL_law_439 : decode cL_law 439 = .ok (.aload_n 0, 1) := by decide +kernel
theorem dL_law_440 : decode cL_law 440 = .ok (.iload 4, 2) := by decide +kernel
theorem dL_law_442 : decode cL_law 442 = .ok (.iconst 1, 1) := by decide +kernel
theorem dL_law_443 : decode cL_law 443 = .ok (.iadd, 1) := by decide +kernel
theorem dL_law_444 : decode cL_law 444 = .ok (.iaload, 1) := by decide +kernel
theorem dL_law_445 : decode cL_law 445 = .ok (.aload_n 0, 1) := by decide +kernel
theorem dL_law_446 : decode cL_law 446 = .ok (.iload 4, 2) := by decide +kernel
theorem dL_law_448 : decode cL_law 448 = .ok (.iconst 2, 1) := by decide +kernel
theorem dL_law_449 : decode cL_law 449 = .ok (.iadd, 1) := by decide +kernel
theorem dL_law_450 : decode cL_law 450 = .ok (.iaload, 1) := by decide +kernel
theorem dL_law_451 : decode cL_law 451 = .ok (.invokevirtual 51, 3) := by decide +kernel
theorem t1755 : Cond.methodLink RL 51 yX11_deed ∈ GW := gw_mem 1869 (by decide +kernel) (by decide +kernel)
theorem t1756 : Cond.instanceMethod yX11_deed ∈ GW := gw_mem 1870 (by decide +kernel) (by decide +kernel)
theorem t1757 : Cond.selects RX11 yX11_deed yX11_deed ∈ GW := gw_mem 1871 (by decide +kernel) (by decide +kernel)
theorem cw_L_51 {R : Room} {s : State} {args : Array Value} {rm : Room} {mc ms : Nat} (hts : ∀ w ∈ GW, w.before args s = true) (hrc : rm.cells = mc) (hrs : rm.slots = ms) (hR : rm.frames + 1 ≤ R.frames ∧ 8 + (5 + 11) + rm.locals ≤ R.locals) : CallW R s args RL RX11 51 yX11_deed cX11_deed 5 (some .int) (wl yX11_deed cX11_deed 5 (some .int)) rm mc ms 2 := cwV 2 hts (gi_V t1755 t1756 t1757 t18 t1758) rfl hrc hrs (by decide +kernel) hR
theorem dL_law_454 : decode cL_law 454 = .ok (.pop, 1) := by decide +kernel
theorem dL_law_455 : decode cL_law 455 = .ok (.goto 973, 3) := by decide +kernel
set_option maxHeartbeats 8000000 in
set_option maxRecDepth 100000 in
theorem lc_6 {p : Program} {l : Launch} {e : Env} {s : State} {m : MethodId} {below : List Frame} {meth : Method} {c : Code} {b L : Nat} {xs : Nat → Int32} (hl0 : l.stackTraces = false) (C0 : lw_At p s m meth c b L xs) (hL : L ≤ 3072) (dC : Nat → ClassId) (dI : Nat → Nat → Nat) (cy : Nat → ClassId) (ad : Nat → Nat) (ai : Nat → Nat → Int32) (al : Nat → Nat → Int64) (aq : Nat → Nat → Option Nat) (fi : Nat → Nat → Int32) (fl : Int64) (nb : Nat) (am : Nat → Nat) (mi : Nat → Nat → Int32) (ml : Nat → Nat → Int64) (gi : Nat → Int32) (gw : Int64) (fo : Nat → Int64) (qo : Nat) (hK : va_K (dC, dI) vwCl (TY cy) s) (C S : Nat) (hC : C + 100 ≤ 500000) (hC2 : S + 1000 ≤ 7000000) (i4 : Int32) (hi4 : 0 ≤ i4.toInt ∧ i4.toInt + 6 ≤ (L : Int)) (ih : ∀ z4 : Int32, z4.toInt = i4.toInt + 6 → LH p l e s m below meth c b qo dC dI cy (C + 20) (S + 1000) z4) (hX : INX ad ai al aq fi fl nb) (hM : INM am mi ml gi gw) (hR : INR ad ai al aq fi fl nb am mi ml gi gw) {H : Heap} {locs : List Loc} (hP : va_P (dC, dI) vwCl (FX cy ad ai al aq fi fl nb ++ (FM cy am mi ml gi gw ++ FO cy qo fo)) H) (hD : va_D (FA s) (FX cy ad ai al aq fi fl nb ++ (FM cy am mi ml gi gw ++ FO cy qo fo))) (hS : va_S (FA s) s.heap H locs) {ls : Array Slot} (hl : lv_has ls 7 [(4, .int i4), (3, .ref qo), (2, .ref (am 0)), (1, .ref (ad 0)), (0, .ref b)]) : W p l e room_1 s m #[Value.ref b] below meth c H locs C S (lw_Z below #[Value.ref b] s) (F0 m 421 ls []) := by
  obtain ⟨hx, hb, hr, hml, hown, htsL, hXs, hbl, hlocks, hgv⟩ := id C0
  have hown : s.vm.findClass RL = some m.cls := hown
  have hts : ∀ w ∈ GW, w.before #[Value.ref b] s = true := fun w hw => htsL w (List.mem_filter.mp hw).1
  have hA : ∀ q : Nat, s.heap.size ≤ q → FA s q := fun _ h => h
  have hbA : ¬ FA s b := Nat.not_le.mpr hbl
  have hx0 := (hX.1)
  have hx4 := (hX.2.2.2.2.1)
  have hy0 := (hM.1)
  have hz0 := (hR.1)
  have hz6 := (hR.2.2.2.2.2.2)
  refine lv_aload_n hx hb dL_law_421 rfl (lv_at hl 3 rfl) ?_
  refine lv_aload_n hx hb dL_law_422 rfl (lv_at hl 4 rfl) ?_
  refine lv_iload hx hb dL_law_423 (lv_at hl 0 rfl) ?_
  refine lv_iconst (v := 1) hx hb dL_law_425 (by decide) ?_
  refine lv_iadd hx hb dL_law_426 ?_
  refine lv_topi (fun z_1 ez_1 => ?_)
  have sz_1 := sc_ix hL hi4 ez_1 (show (1 : Int32).toInt = 1 from rfl) (by decide) (by decide)
  refine va_sld hx hb hXs hbl hbA hS (sz_1.2 (by decide)) dL_law_427 ?_
  refine lv_topi (fun z_3 ez_3 => ?_)
  refine lv_aload_n hx hb dL_law_428 rfl (lv_at hl 4 rfl) ?_
  refine lv_iload hx hb dL_law_429 (lv_at hl 0 rfl) ?_
  refine lv_iconst (v := 2) hx hb dL_law_431 (by decide) ?_
  refine lv_iadd hx hb dL_law_432 ?_
  refine lv_topi (fun z_4 ez_4 => ?_)
  have sz_4 := sc_ix hL hi4 ez_4 (show (2 : Int32).toInt = 2 from rfl) (by decide) (by decide)
  refine va_sld hx hb hXs hbl hbA hS (sz_4.2 (by decide)) dL_law_433 ?_
  refine lv_topi (fun z_6 ez_6 => ?_)
  refine jr_i (rVr (As := [.int z_3, .int z_6]) (rest := []) (ci := 11) ⟨hx, hb, hml, hown, hts⟩ (g_deed l dC dI cy (ad 0) (ad 1) (ad 4) (ad 5) (ad 10) (ad 23) (ad 24) (ad 25) (ad 27) (ad 28) (ad 29) (ad 30) (ad 31) (ad 54) (fi 0 13) (fi 0 14) (fi 0 15) (fi 0 16) (ad 32) (ad 38) (ad 49) (ad 33) (ad 34) (ad 35) (ad 36) (ad 37) (fi 32 5) (fi 32 6) (fi 32 7) (fi 32 8) (ai 35) (ai 36) (ad 39) (ad 40) (ad 41) (ad 42) (ad 43) (ad 44) (ad 45) (ad 46) (ad 47) (ad 48) (fi 38 10) (ai 40) z_3 z_6 (hX.2.2.2.2.2.2.2.1) (hX.2.2.2.2.2.2.2.2.1) (hX.2.2.2.2.2.2.2.2.2.2.2.2.2.2.2.2.2.2.2.2.2.2.2.2.2.2.2.2.2.1) (hX.2.2.2.2.2.2.2.2.2.2.2.2.2.2.2.2.2.2.2.2.2.2.2.2.2.2.2.2.2.2.1)) (cw_L_48 hts rfl rfl ⟨Nat.le_of_ble_eq_true rfl, Nat.le_of_ble_eq_true rfl⟩) (PML (Y := FX cy ad ai al aq fi fl nb) (Z := FM cy am mi ml gi gw ++ FO cy qo fo) hP) hK [0, 31, 32, 35, 36, 38, 40] rfl rfl rfl rfl hl.1 rfl (Nat.le_of_ble_eq_true rfl) dL_law_434 ⟨Nat.le_trans (c_le (a := 0) hC (by decide)) (Nat.le_of_ble_eq_true rfl), Nat.le_trans (s_le (a := 0) hC2 (by decide)) (Nat.le_of_ble_eq_true rfl)⟩) hP hS (fun r_7 H locs hp_8 hP hS => ?_)
  refine lv_pop hx hb dL_law_437 rfl ?_
  refine lv_aload_n hx hb dL_law_438 rfl (lv_at hl 2 rfl) ?_
  refine lv_aload_n hx hb dL_law_439 rfl (lv_at hl 4 rfl) ?_
  refine lv_iload hx hb dL_law_440 (lv_at hl 0 rfl) ?_
  refine lv_iconst (v := 1) hx hb dL_law_442 (by decide) ?_
  refine lv_iadd hx hb dL_law_443 ?_
  refine lv_topi (fun z_9 ez_9 => ?_)
  have sz_9 := sc_ix hL hi4 ez_9 (show (1 : Int32).toInt = 1 from rfl) (by decide) (by decide)
  refine va_sld hx hb hXs hbl hbA hS (sz_9.2 (by decide)) dL_law_444 ?_
  refine lv_topi (fun z_11 ez_11 => ?_)
  refine as_i z_3 (i_eq.mpr (i_same ez_3 ez_11 (sz_9.1.trans sz_1.1.symm))) ?_
  refine lv_aload_n hx hb dL_law_445 rfl (lv_at hl 4 rfl) ?_
  refine lv_iload hx hb dL_law_446 (lv_at hl 0 rfl) ?_
  refine lv_iconst (v := 2) hx hb dL_law_448 (by decide) ?_
  refine lv_iadd hx hb dL_law_449 ?_
  refine lv_topi (fun z_12 ez_12 => ?_)
  have sz_12 := sc_ix hL hi4 ez_12 (show (2 : Int32).toInt = 2 from rfl) (by decide) (by decide)
  refine va_sld hx hb hXs hbl hbA hS (sz_12.2 (by decide)) dL_law_450 ?_
  refine lv_topi (fun z_14 ez_14 => ?_)
  refine as_i z_6 (i_eq.mpr (i_same ez_6 ez_14 (sz_12.1.trans sz_4.1.symm))) ?_
  refine jm_i (X := FX cy ad ai al aq fi fl nb) (Y := FM cy am mi ml gi gw) (Z := FO cy qo fo) (rV (As := [.int z_3, .int z_6]) (rest := []) (ci := 12) ⟨hx, hb, hml, hown, hts⟩ (m_deed l dC dI cy _ (mi 2) (am 0) (gi 0) (am 1) (gi 2) (gi 3) (gi 4) (gi 5) (gi 6) (gi 7) (gi 8) (gi 9) (gi 10) (gi 11) gw (gi 13) (am 2) (am 3) (am 4) (am 5) (am 6) (am 7) (am 8) (am 9) (am 10) (am 11) (gi 24) (gi 25) (am 12) (am 13) (am 14) (gi 29) (am 15) (am 16) (gi 32) (gi 33) (gi 34) (am 17) (gi 36) (gi 37) (am 18) (am 19) (gi 40) (gi 41) (am 20) (gi 43) (gi 44) (gi 45) (gi 46) (mi 2) z_3 z_6 (hM.2.2.2.2.2.2.2.1)) (cw_L_51 hts rfl rfl ⟨Nat.le_of_ble_eq_true rfl, Nat.le_of_ble_eq_true rfl⟩) (PM (X := FX cy ad ai al aq fi fl nb) (Y := FM cy am mi ml gi gw) (Z := FO cy qo fo) hP) (DM (X := FX cy ad ai al aq fi fl nb) (Y := FM cy am mi ml gi gw) (Z := FO cy qo fo) hD) hK [0, 2] rfl rfl rfl rfl bl0 e0 rfl hl.1 rfl (Nat.le_of_ble_eq_true rfl) dL_law_451 ⟨Nat.le_trans (c_le (a := 0) hC (by decide)) (Nat.le_of_ble_eq_true rfl), Nat.le_trans (s_le (a := 0) hC2 (by decide)) (Nat.le_of_ble_eq_true rfl)⟩) hP hD hS hA [0, 2] rfl (fun _ => rfl) (fun r_15 u_17 H locs hp_16 hP hD hS => ?_)
  obtain ⟨voth_18, rfl⟩ : ∃ z, z = u_17 := ⟨_, rfl⟩
  refine lv_pop hx hb dL_law_454 rfl ?_
  refine lv_goto (tgt := 1428) hx hb dL_law_455 (by decide) ?_
  obtain ⟨z_19, ez_19⟩ : ∃ z : Int32, z = i4 + 6 := ⟨_, rfl⟩
  have sz_19 := sc_ix hL hi4 ez_19 (show (6 : Int32).toInt = 6 from rfl) (by decide) (by decide)
  refine lv_iinc (v := z_19) (lv' := [(4, .int z_19), (3, .ref qo), (2, .ref (am 0)), (1, .ref (ad 0)), (0, .ref b)]) hx hb dL_law_1428 hl (k := 0) rfl ez_19.symm (by decide) rfl (fun ls hl => ?_)
  refine lv_goto (tgt := 23) hx hb dL_law_1431 (by decide) ?_
  have k_0 : (0 : Int32).toInt = 0 := by decide
  refine W.widen (k := C + 20) (n := S + 1000) (Nat.le_add_right _ _) (Nat.le_add_right _ _) ?_
  have e2 : (sets (FM cy am mi ml gi gw) [0, 2] (O_m_deed cy (mi 2) (am 0) (gi 0) (am 1) (gi 2) (gi 3) (gi 4) (gi 5) (gi 6) (gi 7) (gi 8) (gi 9) (gi 10) (gi 11) gw (gi 13) (am 2) (am 3) (am 4) (am 5) (am 6) (am 7) (am 8) (am 9) (am 10) (am 11) (gi 24) (gi 25) (am 12) (am 13) (am 14) (gi 29) (am 15) (am 16) (gi 32) (gi 33) (gi 34) (am 17) (gi 36) (gi 37) (am 18) (am 19) (gi 40) (gi 41) (am 20) (gi 43) (gi 44) (gi 45) (gi 46) (mi 2) z_3 z_6 voth_18)) = FM cy am mi ml (sI gi 0 voth_18) gw := rfl
  rw [e2] at hP hD
  exact ih z_19 sz_19.1 ad ai al aq fi fl nb am mi ml (sI gi 0 voth_18) gw fo ⟨(hX.1), (hX.2.1), (hX.2.2.1), (hX.2.2.2.1), (hX.2.2.2.2.1), (hX.2.2.2.2.2.1), (hX.2.2.2.2.2.2.1), (hX.2.2.2.2.2.2.2.1), (hX.2.2.2.2.2.2.2.2.1), (hX.2.2.2.2.2.2.2.2.2.1), (hX.2.2.2.2.2.2.2.2.2.2.1), (hX.2.2.2.2.2.2.2.2.2.2.2.1), (hX.2.2.2.2.2.2.2.2.2.2.2.2.1), (hX.2.2.2.2.2.2.2.2.2.2.2.2.2.1), (hX.2.2.2.2.2.2.2.2.2.2.2.2.2.2.1), (hX.2.2.2.2.2.2.2.2.2.2.2.2.2.2.2.1), (hX.2.2.2.2.2.2.2.2.2.2.2.2.2.2.2.2.1), (hX.2.2.2.2.2.2.2.2.2.2.2.2.2.2.2.2.2.1), (hX.2.2.2.2.2.2.2.2.2.2.2.2.2.2.2.2.2.2.1), (hX.2.2.2.2.2.2.2.2.2.2.2.2.2.2.2.2.2.2.2.1), (hX.2.2.2.2.2.2.2.2.2.2.2.2.2.2.2.2.2.2.2.2.1), (hX.2.2.2.2.2.2.2.2.2.2.2.2.2.2.2.2.2.2.2.2.2.1), (hX.2.2.2.2.2.2.2.2.2.2.2.2.2.2.2.2.2.2.2.2.2.2.1), (hX.2.2.2.2.2.2.2.2.2.2.2.2.2.2.2.2.2.2.2.2.2.2.2.1), (hX.2.2.2.2.2.2.2.2.2.2.2.2.2.2.2.2.2.2.2.2.2.2.2.2.1), (hX.2.2.2.2.2.2.2.2.2.2.2.2.2.2.2.2.2.2.2.2.2.2.2.2.2.1), (hX.2.2.2.2.2.2.2.2.2.2.2.2.2.2.2.2.2.2.2.2.2.2.2.2.2.2.1), (hX.2.2.2.2.2.2.2.2.2.2.2.2.2.2.2.2.2.2.2.2.2.2.2.2.2.2.2.1), (hX.2.2.2.2.2.2.2.2.2.2.2.2.2.2.2.2.2.2.2.2.2.2.2.2.2.2.2.2.1), (hX.2.2.2.2.2.2.2.2.2.2.2.2.2.2.2.2.2.2.2.2.2.2.2.2.2.2.2.2.2.1), (hX.2.2.2.2.2.2.2.2.2.2.2.2.2.2.2.2.2.2.2.2.2.2.2.2.2.2.2.2.2.2.1), (hX.2.2.2.2.2.2.2.2.2.2.2.2.2.2.2.2.2.2.2.2.2.2.2.2.2.2.2.2.2.2.2.1), (hX.2.2.2.2.2.2.2.2.2.2.2.2.2.2.2.2.2.2.2.2.2.2.2.2.2.2.2.2.2.2.2.2.1), (hX.2.2.2.2.2.2.2.2.2.2.2.2.2.2.2.2.2.2.2.2.2.2.2.2.2.2.2.2.2.2.2.2.2.1), (hX.2.2.2.2.2.2.2.2.2.2.2.2.2.2.2.2.2.2.2.2.2.2.2.2.2.2.2.2.2.2.2.2.2.2.1), (hX.2.2.2.2.2.2.2.2.2.2.2.2.2.2.2.2.2.2.2.2.2.2.2.2.2.2.2.2.2.2.2.2.2.2.2.1), (hX.2.2.2.2.2.2.2.2.2.2.2.2.2.2.2.2.2.2.2.2.2.2.2.2.2.2.2.2.2.2.2.2.2.2.2.2.1), (hX.2.2.2.2.2.2.2.2.2.2.2.2.2.2.2.2.2.2.2.2.2.2.2.2.2.2.2.2.2.2.2.2.2.2.2.2.2.1), (hX.2.2.2.2.2.2.2.2.2.2.2.2.2.2.2.2.2.2.2.2.2.2.2.2.2.2.2.2.2.2.2.2.2.2.2.2.2.2.1), (hX.2.2.2.2.2.2.2.2.2.2.2.2.2.2.2.2.2.2.2.2.2.2.2.2.2.2.2.2.2.2.2.2.2.2.2.2.2.2.2.1), (hX.2.2.2.2.2.2.2.2.2.2.2.2.2.2.2.2.2.2.2.2.2.2.2.2.2.2.2.2.2.2.2.2.2.2.2.2.2.2.2.2.1), (hX.2.2.2.2.2.2.2.2.2.2.2.2.2.2.2.2.2.2.2.2.2.2.2.2.2.2.2.2.2.2.2.2.2.2.2.2.2.2.2.2.2.1), (hX.2.2.2.2.2.2.2.2.2.2.2.2.2.2.2.2.2.2.2.2.2.2.2.2.2.2.2.2.2.2.2.2.2.2.2.2.2.2.2.2.2.2.1), (hX.2.2.2.2.2.2.2.2.2.2.2.2.2.2.2.2.2.2.2.2.2.2.2.2.2.2.2.2.2.2.2.2.2.2.2.2.2.2.2.2.2.2.2.1), (hX.2.2.2.2.2.2.2.2.2.2.2.2.2.2.2.2.2.2.2.2.2.2.2.2.2.2.2.2.2.2.2.2.2.2.2.2.2.2.2.2.2.2.2.2.1), (hX.2.2.2.2.2.2.2.2.2.2.2.2.2.2.2.2.2.2.2.2.2.2.2.2.2.2.2.2.2.2.2.2.2.2.2.2.2.2.2.2.2.2.2.2.2.1), (hX.2.2.2.2.2.2.2.2.2.2.2.2.2.2.2.2.2.2.2.2.2.2.2.2.2.2.2.2.2.2.2.2.2.2.2.2.2.2.2.2.2.2.2.2.2.2.1), (hX.2.2.2.2.2.2.2.2.2.2.2.2.2.2.2.2.2.2.2.2.2.2.2.2.2.2.2.2.2.2.2.2.2.2.2.2.2.2.2.2.2.2.2.2.2.2.2.1), (hX.2.2.2.2.2.2.2.2.2.2.2.2.2.2.2.2.2.2.2.2.2.2.2.2.2.2.2.2.2.2.2.2.2.2.2.2.2.2.2.2.2.2.2.2.2.2.2.2.1), (hX.2.2.2.2.2.2.2.2.2.2.2.2.2.2.2.2.2.2.2.2.2.2.2.2.2.2.2.2.2.2.2.2.2.2.2.2.2.2.2.2.2.2.2.2.2.2.2.2.2.1), (hX.2.2.2.2.2.2.2.2.2.2.2.2.2.2.2.2.2.2.2.2.2.2.2.2.2.2.2.2.2.2.2.2.2.2.2.2.2.2.2.2.2.2.2.2.2.2.2.2.2.2.1), (hX.2.2.2.2.2.2.2.2.2.2.2.2.2.2.2.2.2.2.2.2.2.2.2.2.2.2.2.2.2.2.2.2.2.2.2.2.2.2.2.2.2.2.2.2.2.2.2.2.2.2.2.1), (hX.2.2.2.2.2.2.2.2.2.2.2.2.2.2.2.2.2.2.2.2.2.2.2.2.2.2.2.2.2.2.2.2.2.2.2.2.2.2.2.2.2.2.2.2.2.2.2.2.2.2.2.2.1), (hX.2.2.2.2.2.2.2.2.2.2.2.2.2.2.2.2.2.2.2.2.2.2.2.2.2.2.2.2.2.2.2.2.2.2.2.2.2.2.2.2.2.2.2.2.2.2.2.2.2.2.2.2.2.1), (hX.2.2.2.2.2.2.2.2.2.2.2.2.2.2.2.2.2.2.2.2.2.2.2.2.2.2.2.2.2.2.2.2.2.2.2.2.2.2.2.2.2.2.2.2.2.2.2.2.2.2.2.2.2.2.1), (hX.2.2.2.2.2.2.2.2.2.2.2.2.2.2.2.2.2.2.2.2.2.2.2.2.2.2.2.2.2.2.2.2.2.2.2.2.2.2.2.2.2.2.2.2.2.2.2.2.2.2.2.2.2.2.2.1), (hX.2.2.2.2.2.2.2.2.2.2.2.2.2.2.2.2.2.2.2.2.2.2.2.2.2.2.2.2.2.2.2.2.2.2.2.2.2.2.2.2.2.2.2.2.2.2.2.2.2.2.2.2.2.2.2.2.1), (hX.2.2.2.2.2.2.2.2.2.2.2.2.2.2.2.2.2.2.2.2.2.2.2.2.2.2.2.2.2.2.2.2.2.2.2.2.2.2.2.2.2.2.2.2.2.2.2.2.2.2.2.2.2.2.2.2.2.1), (hX.2.2.2.2.2.2.2.2.2.2.2.2.2.2.2.2.2.2.2.2.2.2.2.2.2.2.2.2.2.2.2.2.2.2.2.2.2.2.2.2.2.2.2.2.2.2.2.2.2.2.2.2.2.2.2.2.2.2.1), (hX.2.2.2.2.2.2.2.2.2.2.2.2.2.2.2.2.2.2.2.2.2.2.2.2.2.2.2.2.2.2.2.2.2.2.2.2.2.2.2.2.2.2.2.2.2.2.2.2.2.2.2.2.2.2.2.2.2.2.2.1), (hX.2.2.2.2.2.2.2.2.2.2.2.2.2.2.2.2.2.2.2.2.2.2.2.2.2.2.2.2.2.2.2.2.2.2.2.2.2.2.2.2.2.2.2.2.2.2.2.2.2.2.2.2.2.2.2.2.2.2.2.2.1), (hX.2.2.2.2.2.2.2.2.2.2.2.2.2.2.2.2.2.2.2.2.2.2.2.2.2.2.2.2.2.2.2.2.2.2.2.2.2.2.2.2.2.2.2.2.2.2.2.2.2.2.2.2.2.2.2.2.2.2.2.2.2.1), (hX.2.2.2.2.2.2.2.2.2.2.2.2.2.2.2.2.2.2.2.2.2.2.2.2.2.2.2.2.2.2.2.2.2.2.2.2.2.2.2.2.2.2.2.2.2.2.2.2.2.2.2.2.2.2.2.2.2.2.2.2.2.2.1), (hX.2.2.2.2.2.2.2.2.2.2.2.2.2.2.2.2.2.2.2.2.2.2.2.2.2.2.2.2.2.2.2.2.2.2.2.2.2.2.2.2.2.2.2.2.2.2.2.2.2.2.2.2.2.2.2.2.2.2.2.2.2.2.2.1), (hX.2.2.2.2.2.2.2.2.2.2.2.2.2.2.2.2.2.2.2.2.2.2.2.2.2.2.2.2.2.2.2.2.2.2.2.2.2.2.2.2.2.2.2.2.2.2.2.2.2.2.2.2.2.2.2.2.2.2.2.2.2.2.2.2.1), (hX.2.2.2.2.2.2.2.2.2.2.2.2.2.2.2.2.2.2.2.2.2.2.2.2.2.2.2.2.2.2.2.2.2.2.2.2.2.2.2.2.2.2.2.2.2.2.2.2.2.2.2.2.2.2.2.2.2.2.2.2.2.2.2.2.2.1), (hX.2.2.2.2.2.2.2.2.2.2.2.2.2.2.2.2.2.2.2.2.2.2.2.2.2.2.2.2.2.2.2.2.2.2.2.2.2.2.2.2.2.2.2.2.2.2.2.2.2.2.2.2.2.2.2.2.2.2.2.2.2.2.2.2.2.2.1), (hX.2.2.2.2.2.2.2.2.2.2.2.2.2.2.2.2.2.2.2.2.2.2.2.2.2.2.2.2.2.2.2.2.2.2.2.2.2.2.2.2.2.2.2.2.2.2.2.2.2.2.2.2.2.2.2.2.2.2.2.2.2.2.2.2.2.2.2.1), (hX.2.2.2.2.2.2.2.2.2.2.2.2.2.2.2.2.2.2.2.2.2.2.2.2.2.2.2.2.2.2.2.2.2.2.2.2.2.2.2.2.2.2.2.2.2.2.2.2.2.2.2.2.2.2.2.2.2.2.2.2.2.2.2.2.2.2.2.2.1), (hX.2.2.2.2.2.2.2.2.2.2.2.2.2.2.2.2.2.2.2.2.2.2.2.2.2.2.2.2.2.2.2.2.2.2.2.2.2.2.2.2.2.2.2.2.2.2.2.2.2.2.2.2.2.2.2.2.2.2.2.2.2.2.2.2.2.2.2.2.2.1), (hX.2.2.2.2.2.2.2.2.2.2.2.2.2.2.2.2.2.2.2.2.2.2.2.2.2.2.2.2.2.2.2.2.2.2.2.2.2.2.2.2.2.2.2.2.2.2.2.2.2.2.2.2.2.2.2.2.2.2.2.2.2.2.2.2.2.2.2.2.2.2.1), (hX.2.2.2.2.2.2.2.2.2.2.2.2.2.2.2.2.2.2.2.2.2.2.2.2.2.2.2.2.2.2.2.2.2.2.2.2.2.2.2.2.2.2.2.2.2.2.2.2.2.2.2.2.2.2.2.2.2.2.2.2.2.2.2.2.2.2.2.2.2.2.2.1), (hX.2.2.2.2.2.2.2.2.2.2.2.2.2.2.2.2.2.2.2.2.2.2.2.2.2.2.2.2.2.2.2.2.2.2.2.2.2.2.2.2.2.2.2.2.2.2.2.2.2.2.2.2.2.2.2.2.2.2.2.2.2.2.2.2.2.2.2.2.2.2.2.2.1), (hX.2.2.2.2.2.2.2.2.2.2.2.2.2.2.2.2.2.2.2.2.2.2.2.2.2.2.2.2.2.2.2.2.2.2.2.2.2.2.2.2.2.2.2.2.2.2.2.2.2.2.2.2.2.2.2.2.2.2.2.2.2.2.2.2.2.2.2.2.2.2.2.2.2)⟩ ⟨(hM.1), (hM.2.1), (hM.2.2.1), (hM.2.2.2.1), (hM.2.2.2.2.1), (hM.2.2.2.2.2.1), (hM.2.2.2.2.2.2.1), (hM.2.2.2.2.2.2.2.1), (hM.2.2.2.2.2.2.2.2.1), (hM.2.2.2.2.2.2.2.2.2.1), (hM.2.2.2.2.2.2.2.2.2.2.1), (hM.2.2.2.2.2.2.2.2.2.2.2.1), (hM.2.2.2.2.2.2.2.2.2.2.2.2)⟩ ⟨(hR.1), (hR.2.1), (hR.2.2.1), (hR.2.2.2.1), (hR.2.2.2.2.1), (hR.2.2.2.2.2.1), (hR.2.2.2.2.2.2)⟩ H locs hP hD hS ls (lv_sub hl [0, 1, 2, 3, 4] rfl)
theorem dL_law_458 : decode cL_law 458 = .ok (.aload_n 1, 1) := by decide +kernel
theorem dL_law_459 : decode cL_law 459 = .ok (.aload_n 0, 1) := by decide +kernel
theorem dL_law_460 : decode cL_law 460 = .ok (.iload 4, 2) := by decide +kernel
theorem dL_law_462 : decode cL_law 462 = .ok (.iconst 1, 1) := by decide +kernel
theorem dL_law_463 : decode cL_law 463 = .ok (.iadd, 1) := by decide +kernel
theorem dL_law_464 : decode cL_law 464 = .ok (.iaload, 1) := by decide +kernel
theorem dL_law_465 : decode cL_law 465 = .ok (.aload_n 0, 1) := by decide +kernel
theorem dL_law_466 : decode cL_law 466 = .ok (.iload 4, 2) := by decide +kernel
theorem dL_law_468 : decode cL_law 468 = .ok (.iconst 2, 1) := by decide +kernel
theorem dL_law_469 : decode cL_law 469 = .ok (.iadd, 1) := by decide +kernel
theorem dL_law_470 : decode cL_law 470 = .ok (.iaload, 1) := by decide +kernel
theorem dL_law_471 : decode cL_law 471 = .ok (.invokevirtual 52, 3) := by decide +kernel
theorem t689 : Cond.methodLink RL 52 yX10_owes ∈ GW := gw_mem 803 (by decide +kernel) (by decide +kernel)
theorem t690 : Cond.instanceMethod yX10_owes ∈ GW := gw_mem 804 (by decide +kernel) (by decide +kernel)
theorem t691 : Cond.selects RX10 yX10_owes yX10_owes ∈ GW := gw_mem 805 (by decide +kernel) (by decide +kernel)
theorem cw_L_52 {R : Room} {s : State} {args : Array Value} {rm : Room} {mc ms : Nat} (hts : ∀ w ∈ GW, w.before args s = true) (hrc : rm.cells = mc) (hrs : rm.slots = ms) (hR : rm.frames + 1 ≤ R.frames ∧ 8 + (3 + 11) + rm.locals ≤ R.locals) : CallW R s args RL RX10 52 yX10_owes cX10_owes 3 (some .int) (wl yX10_owes cX10_owes 3 (some .int)) rm mc ms 2 := cwV 2 hts (gi_V t689 t690 t691 t1 t692) rfl hrc hrs (by decide +kernel) hR
theorem dL_law_474 : decode cL_law 474 = .ok (.pop, 1) := by decide +kernel
theorem dL_law_475 : decode cL_law 475 = .ok (.aload_n 2, 1) := by decide +kernel
theorem dL_law_476 : decode cL_law 476 = .ok (.aload_n 0, 1) := by decide +kernel
theorem dL_law_477 : decode cL_law 477 = .ok (.iload 4, 2) := by decide +kernel
theorem dL_law_479 : decode cL_law 479 = .ok (.iconst 1, 1) := by decide +kernel
theorem dL_law_480 : decode cL_law 480 = .ok (.iadd, 1) := by decide +kernel
theorem dL_law_481 : decode cL_law 481 = .ok (.iaload, 1) := by decide +kernel
theorem dL_law_482 : decode cL_law 482 = .ok (.aload_n 0, 1) := by decide +kernel
theorem dL_law_483 : decode cL_law 483 = .ok (.iload 4, 2) := by decide +kernel
theorem dL_law_485 : decode cL_law 485 = .ok (.iconst 2, 1) := by decide +kernel
theorem dL_law_486 : decode cL_law 486 = .ok (.iadd, 1) := by decide +kernel
theorem dL_law_487 : decode cL_law 487 = .ok (.iaload, 1) := by decide +kernel
theorem dL_law_488 : decode cL_law 488 = .ok (.invokevirtual 55, 3) := by decide +kernel
theorem t1759 : Cond.methodLink RL 55 yX11_owes ∈ GW := gw_mem 1873 (by decide +kernel) (by decide +kernel)
theorem t1760 : Cond.instanceMethod yX11_owes ∈ GW := gw_mem 1874 (by decide +kernel) (by decide +kernel)
theorem t1761 : Cond.selects RX11 yX11_owes yX11_owes ∈ GW := gw_mem 1875 (by decide +kernel) (by decide +kernel)
theorem cw_L_55 {R : Room} {s : State} {args : Array Value} {rm : Room} {mc ms : Nat} (hts : ∀ w ∈ GW, w.before args s = true) (hrc : rm.cells = mc) (hrs : rm.slots = ms) (hR : rm.frames + 1 ≤ R.frames ∧ 8 + (3 + 11) + rm.locals ≤ R.locals) : CallW R s args RL RX11 55 yX11_owes cX11_owes 3 (some .int) (wl yX11_owes cX11_owes 3 (some .int)) rm mc ms 2 := cwV 2 hts (gi_V t1759 t1760 t1761 t18 t1762) rfl hrc hrs (by decide +kernel) hR
theorem dL_law_491 : decode cL_law 491 = .ok (.pop, 1) := by decide +kernel
theorem dL_law_492 : decode cL_law 492 = .ok (.goto 936, 3) := by decide +kernel
set_option maxHeartbeats 8000000 in
set_option maxRecDepth 100000 in
theorem lc_7 {p : Program} {l : Launch} {e : Env} {s : State} {m : MethodId} {below : List Frame} {meth : Method} {c : Code} {b L : Nat} {xs : Nat → Int32} (hl0 : l.stackTraces = false) (C0 : lw_At p s m meth c b L xs) (hL : L ≤ 3072) (dC : Nat → ClassId) (dI : Nat → Nat → Nat) (cy : Nat → ClassId) (ad : Nat → Nat) (ai : Nat → Nat → Int32) (al : Nat → Nat → Int64) (aq : Nat → Nat → Option Nat) (fi : Nat → Nat → Int32) (fl : Int64) (nb : Nat) (am : Nat → Nat) (mi : Nat → Nat → Int32) (ml : Nat → Nat → Int64) (gi : Nat → Int32) (gw : Int64) (fo : Nat → Int64) (qo : Nat) (hK : va_K (dC, dI) vwCl (TY cy) s) (C S : Nat) (hC : C + 100 ≤ 500000) (hC2 : S + 1000 ≤ 7000000) (i4 : Int32) (hi4 : 0 ≤ i4.toInt ∧ i4.toInt + 6 ≤ (L : Int)) (ih : ∀ z4 : Int32, z4.toInt = i4.toInt + 6 → LH p l e s m below meth c b qo dC dI cy (C + 20) (S + 1000) z4) (hX : INX ad ai al aq fi fl nb) (hM : INM am mi ml gi gw) (hR : INR ad ai al aq fi fl nb am mi ml gi gw) {H : Heap} {locs : List Loc} (hP : va_P (dC, dI) vwCl (FX cy ad ai al aq fi fl nb ++ (FM cy am mi ml gi gw ++ FO cy qo fo)) H) (hD : va_D (FA s) (FX cy ad ai al aq fi fl nb ++ (FM cy am mi ml gi gw ++ FO cy qo fo))) (hS : va_S (FA s) s.heap H locs) {ls : Array Slot} (hl : lv_has ls 7 [(4, .int i4), (3, .ref qo), (2, .ref (am 0)), (1, .ref (ad 0)), (0, .ref b)]) : W p l e room_1 s m #[Value.ref b] below meth c H locs C S (lw_Z below #[Value.ref b] s) (F0 m 458 ls []) := by
  obtain ⟨hx, hb, hr, hml, hown, htsL, hXs, hbl, hlocks, hgv⟩ := id C0
  have hown : s.vm.findClass RL = some m.cls := hown
  have hts : ∀ w ∈ GW, w.before #[Value.ref b] s = true := fun w hw => htsL w (List.mem_filter.mp hw).1
  have hA : ∀ q : Nat, s.heap.size ≤ q → FA s q := fun _ h => h
  have hbA : ¬ FA s b := Nat.not_le.mpr hbl
  have hx0 := (hX.1)
  have hx4 := (hX.2.2.2.2.1)
  have hy0 := (hM.1)
  have hz0 := (hR.1)
  have hz6 := (hR.2.2.2.2.2.2)
  refine lv_aload_n hx hb dL_law_458 rfl (lv_at hl 3 rfl) ?_
  refine lv_aload_n hx hb dL_law_459 rfl (lv_at hl 4 rfl) ?_
  refine lv_iload hx hb dL_law_460 (lv_at hl 0 rfl) ?_
  refine lv_iconst (v := 1) hx hb dL_law_462 (by decide) ?_
  refine lv_iadd hx hb dL_law_463 ?_
  refine lv_topi (fun z_1 ez_1 => ?_)
  have sz_1 := sc_ix hL hi4 ez_1 (show (1 : Int32).toInt = 1 from rfl) (by decide) (by decide)
  refine va_sld hx hb hXs hbl hbA hS (sz_1.2 (by decide)) dL_law_464 ?_
  refine lv_topi (fun z_3 ez_3 => ?_)
  refine lv_aload_n hx hb dL_law_465 rfl (lv_at hl 4 rfl) ?_
  refine lv_iload hx hb dL_law_466 (lv_at hl 0 rfl) ?_
  refine lv_iconst (v := 2) hx hb dL_law_468 (by decide) ?_
  refine lv_iadd hx hb dL_law_469 ?_
  refine lv_topi (fun z_4 ez_4 => ?_)
  have sz_4 := sc_ix hL hi4 ez_4 (show (2 : Int32).toInt = 2 from rfl) (by decide) (by decide)
  refine va_sld hx hb hXs hbl hbA hS (sz_4.2 (by decide)) dL_law_470 ?_
  refine lv_topi (fun z_6 ez_6 => ?_)
  refine jr_i (rVr (As := [.int z_3, .int z_6]) (rest := []) (ci := 11) ⟨hx, hb, hml, hown, hts⟩ (g_owes l dC dI cy (ad 0) (ad 1) (ad 4) (ad 5) (ad 10) (ad 23) (ad 24) (ad 25) (ad 27) (ad 28) (ad 29) (ad 30) (ad 31) (ad 54) (fi 0 13) (fi 0 14) (fi 0 15) (fi 0 16) (ad 32) (ad 38) (ad 49) (ad 33) (ad 34) (ad 35) (ad 36) (ad 37) (fi 32 5) (fi 32 6) (fi 32 7) (fi 32 8) (ad 39) (ad 40) (ad 41) (ad 42) (ad 43) (ad 44) (ad 45) (ad 46) (ad 47) (ad 48) (fi 38 10) (ai 41) z_3 z_6 (hX.2.2.2.2.2.2.2.1) (hX.2.2.2.2.2.2.2.2.1)) (cw_L_52 hts rfl rfl ⟨Nat.le_of_ble_eq_true rfl, Nat.le_of_ble_eq_true rfl⟩) (PML (Y := FX cy ad ai al aq fi fl nb) (Z := FM cy am mi ml gi gw ++ FO cy qo fo) hP) hK [0, 31, 32, 38, 41] rfl rfl rfl rfl hl.1 rfl (Nat.le_of_ble_eq_true rfl) dL_law_471 ⟨Nat.le_trans (c_le (a := 0) hC (by decide)) (Nat.le_of_ble_eq_true rfl), Nat.le_trans (s_le (a := 0) hC2 (by decide)) (Nat.le_of_ble_eq_true rfl)⟩) hP hS (fun r_7 H locs hp_8 hP hS => ?_)
  refine lv_pop hx hb dL_law_474 rfl ?_
  refine lv_aload_n hx hb dL_law_475 rfl (lv_at hl 2 rfl) ?_
  refine lv_aload_n hx hb dL_law_476 rfl (lv_at hl 4 rfl) ?_
  refine lv_iload hx hb dL_law_477 (lv_at hl 0 rfl) ?_
  refine lv_iconst (v := 1) hx hb dL_law_479 (by decide) ?_
  refine lv_iadd hx hb dL_law_480 ?_
  refine lv_topi (fun z_9 ez_9 => ?_)
  have sz_9 := sc_ix hL hi4 ez_9 (show (1 : Int32).toInt = 1 from rfl) (by decide) (by decide)
  refine va_sld hx hb hXs hbl hbA hS (sz_9.2 (by decide)) dL_law_481 ?_
  refine lv_topi (fun z_11 ez_11 => ?_)
  refine as_i z_3 (i_eq.mpr (i_same ez_3 ez_11 (sz_9.1.trans sz_1.1.symm))) ?_
  refine lv_aload_n hx hb dL_law_482 rfl (lv_at hl 4 rfl) ?_
  refine lv_iload hx hb dL_law_483 (lv_at hl 0 rfl) ?_
  refine lv_iconst (v := 2) hx hb dL_law_485 (by decide) ?_
  refine lv_iadd hx hb dL_law_486 ?_
  refine lv_topi (fun z_12 ez_12 => ?_)
  have sz_12 := sc_ix hL hi4 ez_12 (show (2 : Int32).toInt = 2 from rfl) (by decide) (by decide)
  refine va_sld hx hb hXs hbl hbA hS (sz_12.2 (by decide)) dL_law_487 ?_
  refine lv_topi (fun z_14 ez_14 => ?_)
  refine as_i z_6 (i_eq.mpr (i_same ez_6 ez_14 (sz_12.1.trans sz_4.1.symm))) ?_
  refine jm_i (X := FX cy ad ai al aq fi fl nb) (Y := FM cy am mi ml gi gw) (Z := FO cy qo fo) (rV (As := [.int z_3, .int z_6]) (rest := []) (ci := 12) ⟨hx, hb, hml, hown, hts⟩ (m_owes l dC dI cy _ (mi 2) (am 0) (gi 0) (am 1) (gi 2) (gi 3) (gi 4) (gi 5) (gi 6) (gi 7) (gi 8) (gi 9) (gi 10) (gi 11) gw (gi 13) (am 2) (am 3) (am 4) (am 5) (am 6) (am 7) (am 8) (am 9) (am 10) (am 11) (gi 24) (gi 25) (am 12) (am 13) (am 14) (gi 29) (am 15) (am 16) (gi 32) (gi 33) (gi 34) (am 17) (gi 36) (gi 37) (am 18) (am 19) (gi 40) (gi 41) (am 20) (gi 43) (gi 44) (gi 45) (gi 46) (mi 2) z_3 z_6 (hM.2.2.2.2.2.2.2.1)) (cw_L_55 hts rfl rfl ⟨Nat.le_of_ble_eq_true rfl, Nat.le_of_ble_eq_true rfl⟩) (PM (X := FX cy ad ai al aq fi fl nb) (Y := FM cy am mi ml gi gw) (Z := FO cy qo fo) hP) (DM (X := FX cy ad ai al aq fi fl nb) (Y := FM cy am mi ml gi gw) (Z := FO cy qo fo) hD) hK [0, 2] rfl rfl rfl rfl bl0 e0 rfl hl.1 rfl (Nat.le_of_ble_eq_true rfl) dL_law_488 ⟨Nat.le_trans (c_le (a := 0) hC (by decide)) (Nat.le_of_ble_eq_true rfl), Nat.le_trans (s_le (a := 0) hC2 (by decide)) (Nat.le_of_ble_eq_true rfl)⟩) hP hD hS hA [0, 2] rfl (fun _ => rfl) (fun r_15 u_17 H locs hp_16 hP hD hS => ?_)
  obtain ⟨voth_18, rfl⟩ : ∃ z, z = u_17 := ⟨_, rfl⟩
  refine lv_pop hx hb dL_law_491 rfl ?_
  refine lv_goto (tgt := 1428) hx hb dL_law_492 (by decide) ?_
  obtain ⟨z_19, ez_19⟩ : ∃ z : Int32, z = i4 + 6 := ⟨_, rfl⟩
  have sz_19 := sc_ix hL hi4 ez_19 (show (6 : Int32).toInt = 6 from rfl) (by decide) (by decide)
  refine lv_iinc (v := z_19) (lv' := [(4, .int z_19), (3, .ref qo), (2, .ref (am 0)), (1, .ref (ad 0)), (0, .ref b)]) hx hb dL_law_1428 hl (k := 0) rfl ez_19.symm (by decide) rfl (fun ls hl => ?_)
  refine lv_goto (tgt := 23) hx hb dL_law_1431 (by decide) ?_
  have k_0 : (0 : Int32).toInt = 0 := by decide
  refine W.widen (k := C + 20) (n := S + 1000) (Nat.le_add_right _ _) (Nat.le_add_right _ _) ?_
  have e2 : (sets (FM cy am mi ml gi gw) [0, 2] (O_m_owes cy (mi 2) (am 0) (gi 0) (am 1) (gi 2) (gi 3) (gi 4) (gi 5) (gi 6) (gi 7) (gi 8) (gi 9) (gi 10) (gi 11) gw (gi 13) (am 2) (am 3) (am 4) (am 5) (am 6) (am 7) (am 8) (am 9) (am 10) (am 11) (gi 24) (gi 25) (am 12) (am 13) (am 14) (gi 29) (am 15) (am 16) (gi 32) (gi 33) (gi 34) (am 17) (gi 36) (gi 37) (am 18) (am 19) (gi 40) (gi 41) (am 20) (gi 43) (gi 44) (gi 45) (gi 46) (mi 2) z_3 z_6 voth_18)) = FM cy am mi ml (sI gi 0 voth_18) gw := rfl
  rw [e2] at hP hD
  exact ih z_19 sz_19.1 ad ai al aq fi fl nb am mi ml (sI gi 0 voth_18) gw fo ⟨(hX.1), (hX.2.1), (hX.2.2.1), (hX.2.2.2.1), (hX.2.2.2.2.1), (hX.2.2.2.2.2.1), (hX.2.2.2.2.2.2.1), (hX.2.2.2.2.2.2.2.1), (hX.2.2.2.2.2.2.2.2.1), (hX.2.2.2.2.2.2.2.2.2.1), (hX.2.2.2.2.2.2.2.2.2.2.1), (hX.2.2.2.2.2.2.2.2.2.2.2.1), (hX.2.2.2.2.2.2.2.2.2.2.2.2.1), (hX.2.2.2.2.2.2.2.2.2.2.2.2.2.1), (hX.2.2.2.2.2.2.2.2.2.2.2.2.2.2.1), (hX.2.2.2.2.2.2.2.2.2.2.2.2.2.2.2.1), (hX.2.2.2.2.2.2.2.2.2.2.2.2.2.2.2.2.1), (hX.2.2.2.2.2.2.2.2.2.2.2.2.2.2.2.2.2.1), (hX.2.2.2.2.2.2.2.2.2.2.2.2.2.2.2.2.2.2.1), (hX.2.2.2.2.2.2.2.2.2.2.2.2.2.2.2.2.2.2.2.1), (hX.2.2.2.2.2.2.2.2.2.2.2.2.2.2.2.2.2.2.2.2.1), (hX.2.2.2.2.2.2.2.2.2.2.2.2.2.2.2.2.2.2.2.2.2.1), (hX.2.2.2.2.2.2.2.2.2.2.2.2.2.2.2.2.2.2.2.2.2.2.1), (hX.2.2.2.2.2.2.2.2.2.2.2.2.2.2.2.2.2.2.2.2.2.2.2.1), (hX.2.2.2.2.2.2.2.2.2.2.2.2.2.2.2.2.2.2.2.2.2.2.2.2.1), (hX.2.2.2.2.2.2.2.2.2.2.2.2.2.2.2.2.2.2.2.2.2.2.2.2.2.1), (hX.2.2.2.2.2.2.2.2.2.2.2.2.2.2.2.2.2.2.2.2.2.2.2.2.2.2.1), (hX.2.2.2.2.2.2.2.2.2.2.2.2.2.2.2.2.2.2.2.2.2.2.2.2.2.2.2.1), (hX.2.2.2.2.2.2.2.2.2.2.2.2.2.2.2.2.2.2.2.2.2.2.2.2.2.2.2.2.1), (hX.2.2.2.2.2.2.2.2.2.2.2.2.2.2.2.2.2.2.2.2.2.2.2.2.2.2.2.2.2.1), (hX.2.2.2.2.2.2.2.2.2.2.2.2.2.2.2.2.2.2.2.2.2.2.2.2.2.2.2.2.2.2.1), (hX.2.2.2.2.2.2.2.2.2.2.2.2.2.2.2.2.2.2.2.2.2.2.2.2.2.2.2.2.2.2.2.1), (hX.2.2.2.2.2.2.2.2.2.2.2.2.2.2.2.2.2.2.2.2.2.2.2.2.2.2.2.2.2.2.2.2.1), (hX.2.2.2.2.2.2.2.2.2.2.2.2.2.2.2.2.2.2.2.2.2.2.2.2.2.2.2.2.2.2.2.2.2.1), (hX.2.2.2.2.2.2.2.2.2.2.2.2.2.2.2.2.2.2.2.2.2.2.2.2.2.2.2.2.2.2.2.2.2.2.1), (hX.2.2.2.2.2.2.2.2.2.2.2.2.2.2.2.2.2.2.2.2.2.2.2.2.2.2.2.2.2.2.2.2.2.2.2.1), (hX.2.2.2.2.2.2.2.2.2.2.2.2.2.2.2.2.2.2.2.2.2.2.2.2.2.2.2.2.2.2.2.2.2.2.2.2.1), (hX.2.2.2.2.2.2.2.2.2.2.2.2.2.2.2.2.2.2.2.2.2.2.2.2.2.2.2.2.2.2.2.2.2.2.2.2.2.1), (hX.2.2.2.2.2.2.2.2.2.2.2.2.2.2.2.2.2.2.2.2.2.2.2.2.2.2.2.2.2.2.2.2.2.2.2.2.2.2.1), (hX.2.2.2.2.2.2.2.2.2.2.2.2.2.2.2.2.2.2.2.2.2.2.2.2.2.2.2.2.2.2.2.2.2.2.2.2.2.2.2.1), (hX.2.2.2.2.2.2.2.2.2.2.2.2.2.2.2.2.2.2.2.2.2.2.2.2.2.2.2.2.2.2.2.2.2.2.2.2.2.2.2.2.1), (hX.2.2.2.2.2.2.2.2.2.2.2.2.2.2.2.2.2.2.2.2.2.2.2.2.2.2.2.2.2.2.2.2.2.2.2.2.2.2.2.2.2.1), (hX.2.2.2.2.2.2.2.2.2.2.2.2.2.2.2.2.2.2.2.2.2.2.2.2.2.2.2.2.2.2.2.2.2.2.2.2.2.2.2.2.2.2.1), (hX.2.2.2.2.2.2.2.2.2.2.2.2.2.2.2.2.2.2.2.2.2.2.2.2.2.2.2.2.2.2.2.2.2.2.2.2.2.2.2.2.2.2.2.1), (hX.2.2.2.2.2.2.2.2.2.2.2.2.2.2.2.2.2.2.2.2.2.2.2.2.2.2.2.2.2.2.2.2.2.2.2.2.2.2.2.2.2.2.2.2.1), (hX.2.2.2.2.2.2.2.2.2.2.2.2.2.2.2.2.2.2.2.2.2.2.2.2.2.2.2.2.2.2.2.2.2.2.2.2.2.2.2.2.2.2.2.2.2.1), (hX.2.2.2.2.2.2.2.2.2.2.2.2.2.2.2.2.2.2.2.2.2.2.2.2.2.2.2.2.2.2.2.2.2.2.2.2.2.2.2.2.2.2.2.2.2.2.1), (hX.2.2.2.2.2.2.2.2.2.2.2.2.2.2.2.2.2.2.2.2.2.2.2.2.2.2.2.2.2.2.2.2.2.2.2.2.2.2.2.2.2.2.2.2.2.2.2.1), (hX.2.2.2.2.2.2.2.2.2.2.2.2.2.2.2.2.2.2.2.2.2.2.2.2.2.2.2.2.2.2.2.2.2.2.2.2.2.2.2.2.2.2.2.2.2.2.2.2.1), (hX.2.2.2.2.2.2.2.2.2.2.2.2.2.2.2.2.2.2.2.2.2.2.2.2.2.2.2.2.2.2.2.2.2.2.2.2.2.2.2.2.2.2.2.2.2.2.2.2.2.1), (hX.2.2.2.2.2.2.2.2.2.2.2.2.2.2.2.2.2.2.2.2.2.2.2.2.2.2.2.2.2.2.2.2.2.2.2.2.2.2.2.2.2.2.2.2.2.2.2.2.2.2.1), (hX.2.2.2.2.2.2.2.2.2.2.2.2.2.2.2.2.2.2.2.2.2.2.2.2.2.2.2.2.2.2.2.2.2.2.2.2.2.2.2.2.2.2.2.2.2.2.2.2.2.2.2.1), (hX.2.2.2.2.2.2.2.2.2.2.2.2.2.2.2.2.2.2.2.2.2.2.2.2.2.2.2.2.2.2.2.2.2.2.2.2.2.2.2.2.2.2.2.2.2.2.2.2.2.2.2.2.1), (hX.2.2.2.2.2.2.2.2.2.2.2.2.2.2.2.2.2.2.2.2.2.2.2.2.2.2.2.2.2.2.2.2.2.2.2.2.2.2.2.2.2.2.2.2.2.2.2.2.2.2.2.2.2.1), (hX.2.2.2.2.2.2.2.2.2.2.2.2.2.2.2.2.2.2.2.2.2.2.2.2.2.2.2.2.2.2.2.2.2.2.2.2.2.2.2.2.2.2.2.2.2.2.2.2.2.2.2.2.2.2.1), (hX.2.2.2.2.2.2.2.2.2.2.2.2.2.2.2.2.2.2.2.2.2.2.2.2.2.2.2.2.2.2.2.2.2.2.2.2.2.2.2.2.2.2.2.2.2.2.2.2.2.2.2.2.2.2.2.1), (hX.2.2.2.2.2.2.2.2.2.2.2.2.2.2.2.2.2.2.2.2.2.2.2.2.2.2.2.2.2.2.2.2.2.2.2.2.2.2.2.2.2.2.2.2.2.2.2.2.2.2.2.2.2.2.2.2.1), (hX.2.2.2.2.2.2.2.2.2.2.2.2.2.2.2.2.2.2.2.2.2.2.2.2.2.2.2.2.2.2.2.2.2.2.2.2.2.2.2.2.2.2.2.2.2.2.2.2.2.2.2.2.2.2.2.2.2.1), (hX.2.2.2.2.2.2.2.2.2.2.2.2.2.2.2.2.2.2.2.2.2.2.2.2.2.2.2.2.2.2.2.2.2.2.2.2.2.2.2.2.2.2.2.2.2.2.2.2.2.2.2.2.2.2.2.2.2.2.1), (hX.2.2.2.2.2.2.2.2.2.2.2.2.2.2.2.2.2.2.2.2.2.2.2.2.2.2.2.2.2.2.2.2.2.2.2.2.2.2.2.2.2.2.2.2.2.2.2.2.2.2.2.2.2.2.2.2.2.2.2.1), (hX.2.2.2.2.2.2.2.2.2.2.2.2.2.2.2.2.2.2.2.2.2.2.2.2.2.2.2.2.2.2.2.2.2.2.2.2.2.2.2.2.2.2.2.2.2.2.2.2.2.2.2.2.2.2.2.2.2.2.2.2.1), (hX.2.2.2.2.2.2.2.2.2.2.2.2.2.2.2.2.2.2.2.2.2.2.2.2.2.2.2.2.2.2.2.2.2.2.2.2.2.2.2.2.2.2.2.2.2.2.2.2.2.2.2.2.2.2.2.2.2.2.2.2.2.1), (hX.2.2.2.2.2.2.2.2.2.2.2.2.2.2.2.2.2.2.2.2.2.2.2.2.2.2.2.2.2.2.2.2.2.2.2.2.2.2.2.2.2.2.2.2.2.2.2.2.2.2.2.2.2.2.2.2.2.2.2.2.2.2.1), (hX.2.2.2.2.2.2.2.2.2.2.2.2.2.2.2.2.2.2.2.2.2.2.2.2.2.2.2.2.2.2.2.2.2.2.2.2.2.2.2.2.2.2.2.2.2.2.2.2.2.2.2.2.2.2.2.2.2.2.2.2.2.2.2.1), (hX.2.2.2.2.2.2.2.2.2.2.2.2.2.2.2.2.2.2.2.2.2.2.2.2.2.2.2.2.2.2.2.2.2.2.2.2.2.2.2.2.2.2.2.2.2.2.2.2.2.2.2.2.2.2.2.2.2.2.2.2.2.2.2.2.1), (hX.2.2.2.2.2.2.2.2.2.2.2.2.2.2.2.2.2.2.2.2.2.2.2.2.2.2.2.2.2.2.2.2.2.2.2.2.2.2.2.2.2.2.2.2.2.2.2.2.2.2.2.2.2.2.2.2.2.2.2.2.2.2.2.2.2.1), (hX.2.2.2.2.2.2.2.2.2.2.2.2.2.2.2.2.2.2.2.2.2.2.2.2.2.2.2.2.2.2.2.2.2.2.2.2.2.2.2.2.2.2.2.2.2.2.2.2.2.2.2.2.2.2.2.2.2.2.2.2.2.2.2.2.2.2.1), (hX.2.2.2.2.2.2.2.2.2.2.2.2.2.2.2.2.2.2.2.2.2.2.2.2.2.2.2.2.2.2.2.2.2.2.2.2.2.2.2.2.2.2.2.2.2.2.2.2.2.2.2.2.2.2.2.2.2.2.2.2.2.2.2.2.2.2.2.1), (hX.2.2.2.2.2.2.2.2.2.2.2.2.2.2.2.2.2.2.2.2.2.2.2.2.2.2.2.2.2.2.2.2.2.2.2.2.2.2.2.2.2.2.2.2.2.2.2.2.2.2.2.2.2.2.2.2.2.2.2.2.2.2.2.2.2.2.2.2.1), (hX.2.2.2.2.2.2.2.2.2.2.2.2.2.2.2.2.2.2.2.2.2.2.2.2.2.2.2.2.2.2.2.2.2.2.2.2.2.2.2.2.2.2.2.2.2.2.2.2.2.2.2.2.2.2.2.2.2.2.2.2.2.2.2.2.2.2.2.2.2.1), (hX.2.2.2.2.2.2.2.2.2.2.2.2.2.2.2.2.2.2.2.2.2.2.2.2.2.2.2.2.2.2.2.2.2.2.2.2.2.2.2.2.2.2.2.2.2.2.2.2.2.2.2.2.2.2.2.2.2.2.2.2.2.2.2.2.2.2.2.2.2.2.1), (hX.2.2.2.2.2.2.2.2.2.2.2.2.2.2.2.2.2.2.2.2.2.2.2.2.2.2.2.2.2.2.2.2.2.2.2.2.2.2.2.2.2.2.2.2.2.2.2.2.2.2.2.2.2.2.2.2.2.2.2.2.2.2.2.2.2.2.2.2.2.2.2.1), (hX.2.2.2.2.2.2.2.2.2.2.2.2.2.2.2.2.2.2.2.2.2.2.2.2.2.2.2.2.2.2.2.2.2.2.2.2.2.2.2.2.2.2.2.2.2.2.2.2.2.2.2.2.2.2.2.2.2.2.2.2.2.2.2.2.2.2.2.2.2.2.2.2.1), (hX.2.2.2.2.2.2.2.2.2.2.2.2.2.2.2.2.2.2.2.2.2.2.2.2.2.2.2.2.2.2.2.2.2.2.2.2.2.2.2.2.2.2.2.2.2.2.2.2.2.2.2.2.2.2.2.2.2.2.2.2.2.2.2.2.2.2.2.2.2.2.2.2.2)⟩ ⟨(hM.1), (hM.2.1), (hM.2.2.1), (hM.2.2.2.1), (hM.2.2.2.2.1), (hM.2.2.2.2.2.1), (hM.2.2.2.2.2.2.1), (hM.2.2.2.2.2.2.2.1), (hM.2.2.2.2.2.2.2.2.1), (hM.2.2.2.2.2.2.2.2.2.1), (hM.2.2.2.2.2.2.2.2.2.2.1), (hM.2.2.2.2.2.2.2.2.2.2.2.1), (hM.2.2.2.2.2.2.2.2.2.2.2.2)⟩ ⟨(hR.1), (hR.2.1), (hR.2.2.1), (hR.2.2.2.1), (hR.2.2.2.2.1), (hR.2.2.2.2.2.1), (hR.2.2.2.2.2.2)⟩ H locs hP hD hS ls (lv_sub hl [0, 1, 2, 3, 4] rfl)
theorem dL_law_495 : decode cL_law 495 = .ok (.aload_n 1, 1) := by decide +kernel
theorem dL_law_496 : decode cL_law 496 = .ok (.aload_n 0, 1) := by decide +kernel
theorem dL_law_497 : decode cL_law 497 = .ok (.iload 4, 2) := by decide +kernel
theorem dL_law_499 : decode cL_law 499 = .ok (.iconst 1, 1) := by decide +kernel
theorem dL_law_500 : decode cL_law 500 = .ok (.iadd, 1) := by decide +kernel
theorem dL_law_501 : decode cL_law 501 = .ok (.iaload, 1) := by decide +kernel
theorem dL_law_502 : decode cL_law 502 = .ok (.invokevirtual 56, 3) := by decide +kernel
theorem t693 : Cond.methodLink RL 56 yX10_kin ∈ GW := gw_mem 807 (by decide +kernel) (by decide +kernel)
theorem t694 : Cond.instanceMethod yX10_kin ∈ GW := gw_mem 808 (by decide +kernel) (by decide +kernel)
theorem t695 : Cond.selects RX10 yX10_kin yX10_kin ∈ GW := gw_mem 809 (by decide +kernel) (by decide +kernel)
theorem cw_L_56 {R : Room} {s : State} {args : Array Value} {rm : Room} {mc ms : Nat} (hts : ∀ w ∈ GW, w.before args s = true) (hrc : rm.cells = mc) (hrs : rm.slots = ms) (hR : rm.frames + 1 ≤ R.frames ∧ 8 + (2 + 11) + rm.locals ≤ R.locals) : CallW R s args RL RX10 56 yX10_kin cX10_kin 2 (some .int) (wl yX10_kin cX10_kin 2 (some .int)) rm mc ms 1 := cwV 1 hts (gi_V t693 t694 t695 t1 t696) rfl hrc hrs (by decide +kernel) hR
theorem dL_law_505 : decode cL_law 505 = .ok (.pop, 1) := by decide +kernel
theorem dL_law_506 : decode cL_law 506 = .ok (.aload_n 2, 1) := by decide +kernel
theorem dL_law_507 : decode cL_law 507 = .ok (.aload_n 0, 1) := by decide +kernel
theorem dL_law_508 : decode cL_law 508 = .ok (.iload 4, 2) := by decide +kernel
theorem dL_law_510 : decode cL_law 510 = .ok (.iconst 1, 1) := by decide +kernel
theorem dL_law_511 : decode cL_law 511 = .ok (.iadd, 1) := by decide +kernel
theorem dL_law_512 : decode cL_law 512 = .ok (.iaload, 1) := by decide +kernel
theorem dL_law_513 : decode cL_law 513 = .ok (.invokevirtual 60, 3) := by decide +kernel
theorem t1763 : Cond.methodLink RL 60 yX11_kin ∈ GW := gw_mem 1877 (by decide +kernel) (by decide +kernel)
theorem t1764 : Cond.instanceMethod yX11_kin ∈ GW := gw_mem 1878 (by decide +kernel) (by decide +kernel)
theorem t1765 : Cond.selects RX11 yX11_kin yX11_kin ∈ GW := gw_mem 1879 (by decide +kernel) (by decide +kernel)
theorem cw_L_60 {R : Room} {s : State} {args : Array Value} {rm : Room} {mc ms : Nat} (hts : ∀ w ∈ GW, w.before args s = true) (hrc : rm.cells = mc) (hrs : rm.slots = ms) (hR : rm.frames + 1 ≤ R.frames ∧ 8 + (2 + 11) + rm.locals ≤ R.locals) : CallW R s args RL RX11 60 yX11_kin cX11_kin 2 (some .int) (wl yX11_kin cX11_kin 2 (some .int)) rm mc ms 1 := cwV 1 hts (gi_V t1763 t1764 t1765 t18 t1766) rfl hrc hrs (by decide +kernel) hR
theorem dL_law_516 : decode cL_law 516 = .ok (.pop, 1) := by decide +kernel
theorem dL_law_517 : decode cL_law 517 = .ok (.goto 911, 3) := by decide +kernel
set_option maxHeartbeats 8000000 in
set_option maxRecDepth 100000 in
theorem lc_8 {p : Program} {l : Launch} {e : Env} {s : State} {m : MethodId} {below : List Frame} {meth : Method} {c : Code} {b L : Nat} {xs : Nat → Int32} (hl0 : l.stackTraces = false) (C0 : lw_At p s m meth c b L xs) (hL : L ≤ 3072) (dC : Nat → ClassId) (dI : Nat → Nat → Nat) (cy : Nat → ClassId) (ad : Nat → Nat) (ai : Nat → Nat → Int32) (al : Nat → Nat → Int64) (aq : Nat → Nat → Option Nat) (fi : Nat → Nat → Int32) (fl : Int64) (nb : Nat) (am : Nat → Nat) (mi : Nat → Nat → Int32) (ml : Nat → Nat → Int64) (gi : Nat → Int32) (gw : Int64) (fo : Nat → Int64) (qo : Nat) (hK : va_K (dC, dI) vwCl (TY cy) s) (C S : Nat) (hC : C + 100 ≤ 500000) (hC2 : S + 1000 ≤ 7000000) (i4 : Int32) (hi4 : 0 ≤ i4.toInt ∧ i4.toInt + 6 ≤ (L : Int)) (ih : ∀ z4 : Int32, z4.toInt = i4.toInt + 6 → LH p l e s m below meth c b qo dC dI cy (C + 20) (S + 1000) z4) (hX : INX ad ai al aq fi fl nb) (hM : INM am mi ml gi gw) (hR : INR ad ai al aq fi fl nb am mi ml gi gw) {H : Heap} {locs : List Loc} (hP : va_P (dC, dI) vwCl (FX cy ad ai al aq fi fl nb ++ (FM cy am mi ml gi gw ++ FO cy qo fo)) H) (hD : va_D (FA s) (FX cy ad ai al aq fi fl nb ++ (FM cy am mi ml gi gw ++ FO cy qo fo))) (hS : va_S (FA s) s.heap H locs) {ls : Array Slot} (hl : lv_has ls 7 [(4, .int i4), (3, .ref qo), (2, .ref (am 0)), (1, .ref (ad 0)), (0, .ref b)]) : W p l e room_1 s m #[Value.ref b] below meth c H locs C S (lw_Z below #[Value.ref b] s) (F0 m 495 ls []) := by
  obtain ⟨hx, hb, hr, hml, hown, htsL, hXs, hbl, hlocks, hgv⟩ := id C0
  have hown : s.vm.findClass RL = some m.cls := hown
  have hts : ∀ w ∈ GW, w.before #[Value.ref b] s = true := fun w hw => htsL w (List.mem_filter.mp hw).1
  have hA : ∀ q : Nat, s.heap.size ≤ q → FA s q := fun _ h => h
  have hbA : ¬ FA s b := Nat.not_le.mpr hbl
  have hx0 := (hX.1)
  have hx4 := (hX.2.2.2.2.1)
  have hy0 := (hM.1)
  have hz0 := (hR.1)
  have hz6 := (hR.2.2.2.2.2.2)
  refine lv_aload_n hx hb dL_law_495 rfl (lv_at hl 3 rfl) ?_
  refine lv_aload_n hx hb dL_law_496 rfl (lv_at hl 4 rfl) ?_
  refine lv_iload hx hb dL_law_497 (lv_at hl 0 rfl) ?_
  refine lv_iconst (v := 1) hx hb dL_law_499 (by decide) ?_
  refine lv_iadd hx hb dL_law_500 ?_
  refine lv_topi (fun z_1 ez_1 => ?_)
  have sz_1 := sc_ix hL hi4 ez_1 (show (1 : Int32).toInt = 1 from rfl) (by decide) (by decide)
  refine va_sld hx hb hXs hbl hbA hS (sz_1.2 (by decide)) dL_law_501 ?_
  refine lv_topi (fun z_3 ez_3 => ?_)
  refine jr_i (rVr (As := [.int z_3]) (rest := []) (ci := 11) ⟨hx, hb, hml, hown, hts⟩ (g_kin l dC dI cy (ad 0) (ad 1) (ad 4) (ad 5) (ad 10) (ad 23) (ad 24) (ad 25) (ad 27) (ad 28) (ad 29) (ad 30) (ad 31) (ad 54) (fi 0 13) (fi 0 14) (fi 0 15) (fi 0 16) (ad 32) (ad 38) (ad 49) (ad 33) (ad 34) (ad 35) (ad 36) (ad 37) (fi 32 5) (fi 32 6) (fi 32 7) (fi 32 8) (ai 37) z_3 (hX.2.2.2.2.2.2.2.1) (hX.2.2.2.2.2.2.2.2.1)) (cw_L_56 hts rfl rfl ⟨Nat.le_of_ble_eq_true rfl, Nat.le_of_ble_eq_true rfl⟩) (PML (Y := FX cy ad ai al aq fi fl nb) (Z := FM cy am mi ml gi gw ++ FO cy qo fo) hP) hK [0, 31, 32, 37] rfl rfl rfl rfl hl.1 rfl (Nat.le_of_ble_eq_true rfl) dL_law_502 ⟨Nat.le_trans (c_le (a := 0) hC (by decide)) (Nat.le_of_ble_eq_true rfl), Nat.le_trans (s_le (a := 0) hC2 (by decide)) (Nat.le_of_ble_eq_true rfl)⟩) hP hS (fun r_4 H locs hp_5 hP hS => ?_)
  have hp_5 : ((((z_3 : Int32).toInt < 0 ∨ ((fi 32 5) : Int32).toInt ≤ (z_3 : Int32).toInt) ∧ (r_4 : Int32) = -1) ∨ (0 ≤ (z_3 : Int32).toInt ∧ (z_3 : Int32).toInt < ((fi 32 5) : Int32).toInt ∧ (r_4 : Int32) = (ai 37) (Int32.toNatClampNeg z_3))) := hp_5
  have q_6 := hp_5
  refine lv_pop hx hb dL_law_505 rfl ?_
  refine lv_aload_n hx hb dL_law_506 rfl (lv_at hl 2 rfl) ?_
  refine lv_aload_n hx hb dL_law_507 rfl (lv_at hl 4 rfl) ?_
  refine lv_iload hx hb dL_law_508 (lv_at hl 0 rfl) ?_
  refine lv_iconst (v := 1) hx hb dL_law_510 (by decide) ?_
  refine lv_iadd hx hb dL_law_511 ?_
  refine lv_topi (fun z_7 ez_7 => ?_)
  have sz_7 := sc_ix hL hi4 ez_7 (show (1 : Int32).toInt = 1 from rfl) (by decide) (by decide)
  refine va_sld hx hb hXs hbl hbA hS (sz_7.2 (by decide)) dL_law_512 ?_
  refine lv_topi (fun z_9 ez_9 => ?_)
  refine as_i z_3 (i_eq.mpr (i_same ez_3 ez_9 (sz_7.1.trans sz_1.1.symm))) ?_
  refine jm_i (X := FX cy ad ai al aq fi fl nb) (Y := FM cy am mi ml gi gw) (Z := FO cy qo fo) (rV (As := [.int z_3]) (rest := []) (ci := 12) ⟨hx, hb, hml, hown, hts⟩ (m_kin l dC dI cy _ (mi 2) (am 0) (gi 0) (am 1) (gi 2) (gi 3) (gi 4) (gi 5) (gi 6) (gi 7) (gi 8) (gi 9) (gi 10) (gi 11) gw (gi 13) (am 2) (am 3) (am 4) (am 5) (am 6) (am 7) (am 8) (am 9) (am 10) (am 11) (gi 24) (gi 25) (am 12) (am 13) (am 14) (gi 29) (am 15) (am 16) (gi 32) (gi 33) (gi 34) (am 17) (gi 36) (gi 37) (am 18) (am 19) (gi 40) (gi 41) (am 20) (gi 43) (gi 44) (gi 45) (gi 46) (mi 2) z_3 (hM.2.2.2.2.2.2.2.1)) (cw_L_60 hts rfl rfl ⟨Nat.le_of_ble_eq_true rfl, Nat.le_of_ble_eq_true rfl⟩) (PM (X := FX cy ad ai al aq fi fl nb) (Y := FM cy am mi ml gi gw) (Z := FO cy qo fo) hP) (DM (X := FX cy ad ai al aq fi fl nb) (Y := FM cy am mi ml gi gw) (Z := FO cy qo fo) hD) hK [0, 2] rfl rfl rfl rfl bl0 e0 rfl hl.1 rfl (Nat.le_of_ble_eq_true rfl) dL_law_513 ⟨Nat.le_trans (c_le (a := 0) hC (by decide)) (Nat.le_of_ble_eq_true rfl), Nat.le_trans (s_le (a := 0) hC2 (by decide)) (Nat.le_of_ble_eq_true rfl)⟩) hP hD hS hA [0, 2] rfl (fun _ => rfl) (fun r_10 u_12 H locs hp_11 hP hD hS => ?_)
  obtain ⟨voth_13, rfl⟩ : ∃ z, z = u_12 := ⟨_, rfl⟩
  have hp_11 : ((((z_3 : Int32).toInt < 0 ∨ ((mi 2) 0).toInt ≤ (z_3 : Int32).toInt) ∧ (r_10 : Int32) = -1) ∨ (0 ≤ (z_3 : Int32).toInt ∧ (z_3 : Int32).toInt < ((mi 2) 0).toInt ∧ (r_10 : Int32) = (mi 2) (101 + (z_3 : Int32).toInt).toNat)) := hp_11
  have q_14 := hp_11
  refine lv_pop hx hb dL_law_516 rfl ?_
  refine lv_goto (tgt := 1428) hx hb dL_law_517 (by decide) ?_
  obtain ⟨z_15, ez_15⟩ : ∃ z : Int32, z = i4 + 6 := ⟨_, rfl⟩
  have sz_15 := sc_ix hL hi4 ez_15 (show (6 : Int32).toInt = 6 from rfl) (by decide) (by decide)
  refine lv_iinc (v := z_15) (lv' := [(4, .int z_15), (3, .ref qo), (2, .ref (am 0)), (1, .ref (ad 0)), (0, .ref b)]) hx hb dL_law_1428 hl (k := 0) rfl ez_15.symm (by decide) rfl (fun ls hl => ?_)
  refine lv_goto (tgt := 23) hx hb dL_law_1431 (by decide) ?_
  have k_0 : (0 : Int32).toInt = 0 := by decide
  refine W.widen (k := C + 20) (n := S + 1000) (Nat.le_add_right _ _) (Nat.le_add_right _ _) ?_
  have e2 : (sets (FM cy am mi ml gi gw) [0, 2] (O_m_kin cy (mi 2) (am 0) (gi 0) (am 1) (gi 2) (gi 3) (gi 4) (gi 5) (gi 6) (gi 7) (gi 8) (gi 9) (gi 10) (gi 11) gw (gi 13) (am 2) (am 3) (am 4) (am 5) (am 6) (am 7) (am 8) (am 9) (am 10) (am 11) (gi 24) (gi 25) (am 12) (am 13) (am 14) (gi 29) (am 15) (am 16) (gi 32) (gi 33) (gi 34) (am 17) (gi 36) (gi 37) (am 18) (am 19) (gi 40) (gi 41) (am 20) (gi 43) (gi 44) (gi 45) (gi 46) (mi 2) z_3 voth_13)) = FM cy am mi ml (sI gi 0 voth_13) gw := rfl
  rw [e2] at hP hD
  exact ih z_15 sz_15.1 ad ai al aq fi fl nb am mi ml (sI gi 0 voth_13) gw fo ⟨(hX.1), (hX.2.1), (hX.2.2.1), (hX.2.2.2.1), (hX.2.2.2.2.1), (hX.2.2.2.2.2.1), (hX.2.2.2.2.2.2.1), (hX.2.2.2.2.2.2.2.1), (hX.2.2.2.2.2.2.2.2.1), (hX.2.2.2.2.2.2.2.2.2.1), (hX.2.2.2.2.2.2.2.2.2.2.1), (hX.2.2.2.2.2.2.2.2.2.2.2.1), (hX.2.2.2.2.2.2.2.2.2.2.2.2.1), (hX.2.2.2.2.2.2.2.2.2.2.2.2.2.1), (hX.2.2.2.2.2.2.2.2.2.2.2.2.2.2.1), (hX.2.2.2.2.2.2.2.2.2.2.2.2.2.2.2.1), (hX.2.2.2.2.2.2.2.2.2.2.2.2.2.2.2.2.1), (hX.2.2.2.2.2.2.2.2.2.2.2.2.2.2.2.2.2.1), (hX.2.2.2.2.2.2.2.2.2.2.2.2.2.2.2.2.2.2.1), (hX.2.2.2.2.2.2.2.2.2.2.2.2.2.2.2.2.2.2.2.1), (hX.2.2.2.2.2.2.2.2.2.2.2.2.2.2.2.2.2.2.2.2.1), (hX.2.2.2.2.2.2.2.2.2.2.2.2.2.2.2.2.2.2.2.2.2.1), (hX.2.2.2.2.2.2.2.2.2.2.2.2.2.2.2.2.2.2.2.2.2.2.1), (hX.2.2.2.2.2.2.2.2.2.2.2.2.2.2.2.2.2.2.2.2.2.2.2.1), (hX.2.2.2.2.2.2.2.2.2.2.2.2.2.2.2.2.2.2.2.2.2.2.2.2.1), (hX.2.2.2.2.2.2.2.2.2.2.2.2.2.2.2.2.2.2.2.2.2.2.2.2.2.1), (hX.2.2.2.2.2.2.2.2.2.2.2.2.2.2.2.2.2.2.2.2.2.2.2.2.2.2.1), (hX.2.2.2.2.2.2.2.2.2.2.2.2.2.2.2.2.2.2.2.2.2.2.2.2.2.2.2.1), (hX.2.2.2.2.2.2.2.2.2.2.2.2.2.2.2.2.2.2.2.2.2.2.2.2.2.2.2.2.1), (hX.2.2.2.2.2.2.2.2.2.2.2.2.2.2.2.2.2.2.2.2.2.2.2.2.2.2.2.2.2.1), (hX.2.2.2.2.2.2.2.2.2.2.2.2.2.2.2.2.2.2.2.2.2.2.2.2.2.2.2.2.2.2.1), (hX.2.2.2.2.2.2.2.2.2.2.2.2.2.2.2.2.2.2.2.2.2.2.2.2.2.2.2.2.2.2.2.1), (hX.2.2.2.2.2.2.2.2.2.2.2.2.2.2.2.2.2.2.2.2.2.2.2.2.2.2.2.2.2.2.2.2.1), (hX.2.2.2.2.2.2.2.2.2.2.2.2.2.2.2.2.2.2.2.2.2.2.2.2.2.2.2.2.2.2.2.2.2.1), (hX.2.2.2.2.2.2.2.2.2.2.2.2.2.2.2.2.2.2.2.2.2.2.2.2.2.2.2.2.2.2.2.2.2.2.1), (hX.2.2.2.2.2.2.2.2.2.2.2.2.2.2.2.2.2.2.2.2.2.2.2.2.2.2.2.2.2.2.2.2.2.2.2.1), (hX.2.2.2.2.2.2.2.2.2.2.2.2.2.2.2.2.2.2.2.2.2.2.2.2.2.2.2.2.2.2.2.2.2.2.2.2.1), (hX.2.2.2.2.2.2.2.2.2.2.2.2.2.2.2.2.2.2.2.2.2.2.2.2.2.2.2.2.2.2.2.2.2.2.2.2.2.1), (hX.2.2.2.2.2.2.2.2.2.2.2.2.2.2.2.2.2.2.2.2.2.2.2.2.2.2.2.2.2.2.2.2.2.2.2.2.2.2.1), (hX.2.2.2.2.2.2.2.2.2.2.2.2.2.2.2.2.2.2.2.2.2.2.2.2.2.2.2.2.2.2.2.2.2.2.2.2.2.2.2.1), (hX.2.2.2.2.2.2.2.2.2.2.2.2.2.2.2.2.2.2.2.2.2.2.2.2.2.2.2.2.2.2.2.2.2.2.2.2.2.2.2.2.1), (hX.2.2.2.2.2.2.2.2.2.2.2.2.2.2.2.2.2.2.2.2.2.2.2.2.2.2.2.2.2.2.2.2.2.2.2.2.2.2.2.2.2.1), (hX.2.2.2.2.2.2.2.2.2.2.2.2.2.2.2.2.2.2.2.2.2.2.2.2.2.2.2.2.2.2.2.2.2.2.2.2.2.2.2.2.2.2.1), (hX.2.2.2.2.2.2.2.2.2.2.2.2.2.2.2.2.2.2.2.2.2.2.2.2.2.2.2.2.2.2.2.2.2.2.2.2.2.2.2.2.2.2.2.1), (hX.2.2.2.2.2.2.2.2.2.2.2.2.2.2.2.2.2.2.2.2.2.2.2.2.2.2.2.2.2.2.2.2.2.2.2.2.2.2.2.2.2.2.2.2.1), (hX.2.2.2.2.2.2.2.2.2.2.2.2.2.2.2.2.2.2.2.2.2.2.2.2.2.2.2.2.2.2.2.2.2.2.2.2.2.2.2.2.2.2.2.2.2.1), (hX.2.2.2.2.2.2.2.2.2.2.2.2.2.2.2.2.2.2.2.2.2.2.2.2.2.2.2.2.2.2.2.2.2.2.2.2.2.2.2.2.2.2.2.2.2.2.1), (hX.2.2.2.2.2.2.2.2.2.2.2.2.2.2.2.2.2.2.2.2.2.2.2.2.2.2.2.2.2.2.2.2.2.2.2.2.2.2.2.2.2.2.2.2.2.2.2.1), (hX.2.2.2.2.2.2.2.2.2.2.2.2.2.2.2.2.2.2.2.2.2.2.2.2.2.2.2.2.2.2.2.2.2.2.2.2.2.2.2.2.2.2.2.2.2.2.2.2.1), (hX.2.2.2.2.2.2.2.2.2.2.2.2.2.2.2.2.2.2.2.2.2.2.2.2.2.2.2.2.2.2.2.2.2.2.2.2.2.2.2.2.2.2.2.2.2.2.2.2.2.1), (hX.2.2.2.2.2.2.2.2.2.2.2.2.2.2.2.2.2.2.2.2.2.2.2.2.2.2.2.2.2.2.2.2.2.2.2.2.2.2.2.2.2.2.2.2.2.2.2.2.2.2.1), (hX.2.2.2.2.2.2.2.2.2.2.2.2.2.2.2.2.2.2.2.2.2.2.2.2.2.2.2.2.2.2.2.2.2.2.2.2.2.2.2.2.2.2.2.2.2.2.2.2.2.2.2.1), (hX.2.2.2.2.2.2.2.2.2.2.2.2.2.2.2.2.2.2.2.2.2.2.2.2.2.2.2.2.2.2.2.2.2.2.2.2.2.2.2.2.2.2.2.2.2.2.2.2.2.2.2.2.1), (hX.2.2.2.2.2.2.2.2.2.2.2.2.2.2.2.2.2.2.2.2.2.2.2.2.2.2.2.2.2.2.2.2.2.2.2.2.2.2.2.2.2.2.2.2.2.2.2.2.2.2.2.2.2.1), (hX.2.2.2.2.2.2.2.2.2.2.2.2.2.2.2.2.2.2.2.2.2.2.2.2.2.2.2.2.2.2.2.2.2.2.2.2.2.2.2.2.2.2.2.2.2.2.2.2.2.2.2.2.2.2.1), (hX.2.2.2.2.2.2.2.2.2.2.2.2.2.2.2.2.2.2.2.2.2.2.2.2.2.2.2.2.2.2.2.2.2.2.2.2.2.2.2.2.2.2.2.2.2.2.2.2.2.2.2.2.2.2.2.1), (hX.2.2.2.2.2.2.2.2.2.2.2.2.2.2.2.2.2.2.2.2.2.2.2.2.2.2.2.2.2.2.2.2.2.2.2.2.2.2.2.2.2.2.2.2.2.2.2.2.2.2.2.2.2.2.2.2.1), (hX.2.2.2.2.2.2.2.2.2.2.2.2.2.2.2.2.2.2.2.2.2.2.2.2.2.2.2.2.2.2.2.2.2.2.2.2.2.2.2.2.2.2.2.2.2.2.2.2.2.2.2.2.2.2.2.2.2.1), (hX.2.2.2.2.2.2.2.2.2.2.2.2.2.2.2.2.2.2.2.2.2.2.2.2.2.2.2.2.2.2.2.2.2.2.2.2.2.2.2.2.2.2.2.2.2.2.2.2.2.2.2.2.2.2.2.2.2.2.1), (hX.2.2.2.2.2.2.2.2.2.2.2.2.2.2.2.2.2.2.2.2.2.2.2.2.2.2.2.2.2.2.2.2.2.2.2.2.2.2.2.2.2.2.2.2.2.2.2.2.2.2.2.2.2.2.2.2.2.2.2.1), (hX.2.2.2.2.2.2.2.2.2.2.2.2.2.2.2.2.2.2.2.2.2.2.2.2.2.2.2.2.2.2.2.2.2.2.2.2.2.2.2.2.2.2.2.2.2.2.2.2.2.2.2.2.2.2.2.2.2.2.2.2.1), (hX.2.2.2.2.2.2.2.2.2.2.2.2.2.2.2.2.2.2.2.2.2.2.2.2.2.2.2.2.2.2.2.2.2.2.2.2.2.2.2.2.2.2.2.2.2.2.2.2.2.2.2.2.2.2.2.2.2.2.2.2.2.1), (hX.2.2.2.2.2.2.2.2.2.2.2.2.2.2.2.2.2.2.2.2.2.2.2.2.2.2.2.2.2.2.2.2.2.2.2.2.2.2.2.2.2.2.2.2.2.2.2.2.2.2.2.2.2.2.2.2.2.2.2.2.2.2.1), (hX.2.2.2.2.2.2.2.2.2.2.2.2.2.2.2.2.2.2.2.2.2.2.2.2.2.2.2.2.2.2.2.2.2.2.2.2.2.2.2.2.2.2.2.2.2.2.2.2.2.2.2.2.2.2.2.2.2.2.2.2.2.2.2.1), (hX.2.2.2.2.2.2.2.2.2.2.2.2.2.2.2.2.2.2.2.2.2.2.2.2.2.2.2.2.2.2.2.2.2.2.2.2.2.2.2.2.2.2.2.2.2.2.2.2.2.2.2.2.2.2.2.2.2.2.2.2.2.2.2.2.1), (hX.2.2.2.2.2.2.2.2.2.2.2.2.2.2.2.2.2.2.2.2.2.2.2.2.2.2.2.2.2.2.2.2.2.2.2.2.2.2.2.2.2.2.2.2.2.2.2.2.2.2.2.2.2.2.2.2.2.2.2.2.2.2.2.2.2.1), (hX.2.2.2.2.2.2.2.2.2.2.2.2.2.2.2.2.2.2.2.2.2.2.2.2.2.2.2.2.2.2.2.2.2.2.2.2.2.2.2.2.2.2.2.2.2.2.2.2.2.2.2.2.2.2.2.2.2.2.2.2.2.2.2.2.2.2.1), (hX.2.2.2.2.2.2.2.2.2.2.2.2.2.2.2.2.2.2.2.2.2.2.2.2.2.2.2.2.2.2.2.2.2.2.2.2.2.2.2.2.2.2.2.2.2.2.2.2.2.2.2.2.2.2.2.2.2.2.2.2.2.2.2.2.2.2.2.1), (hX.2.2.2.2.2.2.2.2.2.2.2.2.2.2.2.2.2.2.2.2.2.2.2.2.2.2.2.2.2.2.2.2.2.2.2.2.2.2.2.2.2.2.2.2.2.2.2.2.2.2.2.2.2.2.2.2.2.2.2.2.2.2.2.2.2.2.2.2.1), (hX.2.2.2.2.2.2.2.2.2.2.2.2.2.2.2.2.2.2.2.2.2.2.2.2.2.2.2.2.2.2.2.2.2.2.2.2.2.2.2.2.2.2.2.2.2.2.2.2.2.2.2.2.2.2.2.2.2.2.2.2.2.2.2.2.2.2.2.2.2.1), (hX.2.2.2.2.2.2.2.2.2.2.2.2.2.2.2.2.2.2.2.2.2.2.2.2.2.2.2.2.2.2.2.2.2.2.2.2.2.2.2.2.2.2.2.2.2.2.2.2.2.2.2.2.2.2.2.2.2.2.2.2.2.2.2.2.2.2.2.2.2.2.1), (hX.2.2.2.2.2.2.2.2.2.2.2.2.2.2.2.2.2.2.2.2.2.2.2.2.2.2.2.2.2.2.2.2.2.2.2.2.2.2.2.2.2.2.2.2.2.2.2.2.2.2.2.2.2.2.2.2.2.2.2.2.2.2.2.2.2.2.2.2.2.2.2.1), (hX.2.2.2.2.2.2.2.2.2.2.2.2.2.2.2.2.2.2.2.2.2.2.2.2.2.2.2.2.2.2.2.2.2.2.2.2.2.2.2.2.2.2.2.2.2.2.2.2.2.2.2.2.2.2.2.2.2.2.2.2.2.2.2.2.2.2.2.2.2.2.2.2.1), (hX.2.2.2.2.2.2.2.2.2.2.2.2.2.2.2.2.2.2.2.2.2.2.2.2.2.2.2.2.2.2.2.2.2.2.2.2.2.2.2.2.2.2.2.2.2.2.2.2.2.2.2.2.2.2.2.2.2.2.2.2.2.2.2.2.2.2.2.2.2.2.2.2.2)⟩ ⟨(hM.1), (hM.2.1), (hM.2.2.1), (hM.2.2.2.1), (hM.2.2.2.2.1), (hM.2.2.2.2.2.1), (hM.2.2.2.2.2.2.1), (hM.2.2.2.2.2.2.2.1), (hM.2.2.2.2.2.2.2.2.1), (hM.2.2.2.2.2.2.2.2.2.1), (hM.2.2.2.2.2.2.2.2.2.2.1), (hM.2.2.2.2.2.2.2.2.2.2.2.1), (hM.2.2.2.2.2.2.2.2.2.2.2.2)⟩ ⟨(hR.1), (hR.2.1), (hR.2.2.1), (hR.2.2.2.1), (hR.2.2.2.2.1), (hR.2.2.2.2.2.1), (hR.2.2.2.2.2.2)⟩ H locs hP hD hS ls (lv_sub hl [0, 1, 2, 3, 4] rfl)
