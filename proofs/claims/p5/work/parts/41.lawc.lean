theorem dL_law_520 : decode cL_law 520 = .ok (.aload_n 1, 1) := by decide +kernel
theorem dL_law_521 : decode cL_law 521 = .ok (.aload_n 0, 1) := by decide +kernel
theorem dL_law_522 : decode cL_law 522 = .ok (.iload 4, 2) := by decide +kernel
theorem dL_law_524 : decode cL_law 524 = .ok (.iconst 1, 1) := by decide +kernel
theorem dL_law_525 : decode cL_law 525 = .ok (.iadd, 1) := by decide +kernel
theorem dL_law_526 : decode cL_law 526 = .ok (.iaload, 1) := by decide +kernel
theorem dL_law_527 : decode cL_law 527 = .ok (.aload_n 0, 1) := by decide +kernel
theorem dL_law_528 : decode cL_law 528 = .ok (.iload 4, 2) := by decide +kernel
theorem dL_law_530 : decode cL_law 530 = .ok (.iconst 2, 1) := by decide +kernel
theorem dL_law_531 : decode cL_law 531 = .ok (.iadd, 1) := by decide +kernel
theorem dL_law_532 : decode cL_law 532 = .ok (.iaload, 1) := by decide +kernel
theorem dL_law_533 : decode cL_law 533 = .ok (.invokevirtual 61, 3) := by decide +kernel
theorem t697 : Cond.methodLink RL 61 yX10_cell ∈ GW := gw_mem 811 (by decide +kernel) (by decide +kernel)
theorem t698 : Cond.instanceMethod yX10_cell ∈ GW := gw_mem 812 (by decide +kernel) (by decide +kernel)
theorem t699 : Cond.selects RX10 yX10_cell yX10_cell ∈ GW := gw_mem 813 (by decide +kernel) (by decide +kernel)
theorem cw_L_61 {R : Room} {s : State} {args : Array Value} {rm : Room} {mc ms : Nat} (hts : ∀ w ∈ GW, w.before args s = true) (hrc : rm.cells = mc) (hrs : rm.slots = ms) (hR : rm.frames + 1 ≤ R.frames ∧ 8 + (3 + 11) + rm.locals ≤ R.locals) : CallW R s args RL RX10 61 yX10_cell cX10_cell 3 (some .int) (wl yX10_cell cX10_cell 3 (some .int)) rm mc ms 2 := cwV 2 hts (gi_V t697 t698 t699 t1 t700) rfl hrc hrs (by decide +kernel) hR
theorem dL_law_536 : decode cL_law 536 = .ok (.pop, 1) := by decide +kernel
theorem dL_law_537 : decode cL_law 537 = .ok (.aload_n 2, 1) := by decide +kernel
theorem dL_law_538 : decode cL_law 538 = .ok (.aload_n 0, 1) := by decide +kernel
theorem dL_law_539 : decode cL_law 539 = .ok (.iload 4, 2) := by decide +kernel
theorem dL_law_541 : decode cL_law 541 = .ok (.iconst 1, 1) := by decide +kernel
theorem dL_law_542 : decode cL_law 542 = .ok (.iadd, 1) := by decide +kernel
theorem dL_law_543 : decode cL_law 543 = .ok (.iaload, 1) := by decide +kernel
theorem dL_law_544 : decode cL_law 544 = .ok (.aload_n 0, 1) := by decide +kernel
theorem dL_law_545 : decode cL_law 545 = .ok (.iload 4, 2) := by decide +kernel
theorem dL_law_547 : decode cL_law 547 = .ok (.iconst 2, 1) := by decide +kernel
theorem dL_law_548 : decode cL_law 548 = .ok (.iadd, 1) := by decide +kernel
theorem dL_law_549 : decode cL_law 549 = .ok (.iaload, 1) := by decide +kernel
theorem dL_law_550 : decode cL_law 550 = .ok (.invokevirtual 64, 3) := by decide +kernel
theorem t1767 : Cond.methodLink RL 64 yX11_cell ∈ GW := gw_mem 1881 (by decide +kernel) (by decide +kernel)
theorem t1768 : Cond.instanceMethod yX11_cell ∈ GW := gw_mem 1882 (by decide +kernel) (by decide +kernel)
theorem t1769 : Cond.selects RX11 yX11_cell yX11_cell ∈ GW := gw_mem 1883 (by decide +kernel) (by decide +kernel)
theorem cw_L_64 {R : Room} {s : State} {args : Array Value} {rm : Room} {mc ms : Nat} (hts : ∀ w ∈ GW, w.before args s = true) (hrc : rm.cells = mc) (hrs : rm.slots = ms) (hR : rm.frames + 1 ≤ R.frames ∧ 8 + (3 + 11) + rm.locals ≤ R.locals) : CallW R s args RL RX11 64 yX11_cell cX11_cell 3 (some .int) (wl yX11_cell cX11_cell 3 (some .int)) rm mc ms 2 := cwV 2 hts (gi_V t1767 t1768 t1769 t18 t1770) rfl hrc hrs (by decide +kernel) hR
theorem dL_law_553 : decode cL_law 553 = .ok (.pop, 1) := by decide +kernel
theorem dL_law_554 : decode cL_law 554 = .ok (.goto 874, 3) := by decide +kernel
set_option maxHeartbeats 8000000 in
set_option maxRecDepth 100000 in
theorem lc_9 {p : Program} {l : Launch} {e : Env} {s : State} {m : MethodId} {below : List Frame} {meth : Method} {c : Code} {b L : Nat} {xs : Nat → Int32} (hl0 : l.stackTraces = false) (C0 : lw_At p s m meth c b L xs) (hL : L ≤ 3072) (dC : Nat → ClassId) (dI : Nat → Nat → Nat) (cy : Nat → ClassId) (ad : Nat → Nat) (ai : Nat → Nat → Int32) (al : Nat → Nat → Int64) (aq : Nat → Nat → Option Nat) (fi : Nat → Nat → Int32) (fl : Int64) (nb : Nat) (am : Nat → Nat) (mi : Nat → Nat → Int32) (ml : Nat → Nat → Int64) (gi : Nat → Int32) (gw : Int64) (fo : Nat → Int64) (qo : Nat) (hK : va_K (dC, dI) vwCl (TY cy) s) (C S : Nat) (hC : C + 100 ≤ 500000) (hC2 : S + 1000 ≤ 7000000) (i4 : Int32) (hi4 : 0 ≤ i4.toInt ∧ i4.toInt + 6 ≤ (L : Int)) (ih : ∀ z4 : Int32, z4.toInt = i4.toInt + 6 → LH p l e s m below meth c b qo dC dI cy (C + 20) (S + 1000) z4) (hX : INX ad ai al aq fi fl nb) (hM : INM am mi ml gi gw) (hR : INR ad ai al aq fi fl nb am mi ml gi gw) {H : Heap} {locs : List Loc} (hP : va_P (dC, dI) vwCl (FX cy ad ai al aq fi fl nb ++ (FM cy am mi ml gi gw ++ FO cy qo fo)) H) (hD : va_D (FA s) (FX cy ad ai al aq fi fl nb ++ (FM cy am mi ml gi gw ++ FO cy qo fo))) (hS : va_S (FA s) s.heap H locs) {ls : Array Slot} (hl : lv_has ls 7 [(4, .int i4), (3, .ref qo), (2, .ref (am 0)), (1, .ref (ad 0)), (0, .ref b)]) : W p l e room_1 s m #[Value.ref b] below meth c H locs C S (lw_Z below #[Value.ref b] s) (F0 m 520 ls []) := by
  obtain ⟨hx, hb, hr, hml, hown, htsL, hXs, hbl, hlocks, hgv⟩ := id C0
  have hown : s.vm.findClass RL = some m.cls := hown
  have hts : ∀ w ∈ GW, w.before #[Value.ref b] s = true := fun w hw => htsL w (List.mem_filter.mp hw).1
  have hA : ∀ q : Nat, s.heap.size ≤ q → FA s q := fun _ h => h
  have hbA : ¬ FA s b := Nat.not_le.mpr hbl
  have hx0 := (hX.1)
  have hx4 := (hX.2.2.2.2.1)
  have hy0 := (hM.1)
  have hz0 := (hR.1)
  have hz6 := (hR.2.2.2.2.2.2)
  refine lv_aload_n hx hb dL_law_520 rfl (lv_at hl 3 rfl) ?_
  refine lv_aload_n hx hb dL_law_521 rfl (lv_at hl 4 rfl) ?_
  refine lv_iload hx hb dL_law_522 (lv_at hl 0 rfl) ?_
  refine lv_iconst (v := 1) hx hb dL_law_524 (by decide) ?_
  refine lv_iadd hx hb dL_law_525 ?_
  refine lv_topi (fun z_1 ez_1 => ?_)
  have sz_1 := sc_ix hL hi4 ez_1 (show (1 : Int32).toInt = 1 from rfl) (by decide) (by decide)
  refine va_sld hx hb hXs hbl hbA hS (sz_1.2 (by decide)) dL_law_526 ?_
  refine lv_topi (fun z_3 ez_3 => ?_)
  refine lv_aload_n hx hb dL_law_527 rfl (lv_at hl 4 rfl) ?_
  refine lv_iload hx hb dL_law_528 (lv_at hl 0 rfl) ?_
  refine lv_iconst (v := 2) hx hb dL_law_530 (by decide) ?_
  refine lv_iadd hx hb dL_law_531 ?_
  refine lv_topi (fun z_4 ez_4 => ?_)
  have sz_4 := sc_ix hL hi4 ez_4 (show (2 : Int32).toInt = 2 from rfl) (by decide) (by decide)
  refine va_sld hx hb hXs hbl hbA hS (sz_4.2 (by decide)) dL_law_532 ?_
  refine lv_topi (fun z_6 ez_6 => ?_)
  refine jr_i (rVr (As := [.int z_3, .int z_6]) (rest := []) (ci := 11) ⟨hx, hb, hml, hown, hts⟩ (g_cell l dC dI cy (ad 0) (ad 1) (ad 4) (ad 5) (ad 10) (ad 23) (ad 24) (ad 25) (ad 27) (ad 28) (ad 29) (ad 30) (ad 31) (ad 54) (fi 0 13) (fi 0 14) (fi 0 15) (fi 0 16) (ad 32) (ad 38) (ad 49) (ad 33) (ad 34) (ad 35) (ad 36) (ad 37) (fi 32 5) (fi 32 6) (fi 32 7) (fi 32 8) (ai 35) (ai 36) (ad 39) (ad 40) (ad 41) (ad 42) (ad 43) (ad 44) (ad 45) (ad 46) (ad 47) (ad 48) (fi 38 10) (ai 40) (ai 41) (ai 42) (ai 43) z_3 z_6 (hX.2.2.2.2.2.2.2.1) (hX.2.2.2.2.2.2.2.2.1) (hX.2.2.2.2.2.2.2.2.2.2.2.2.2.2.2.2.2.2.2.2.2.2.2.2.2.2.2.2.2.1) (hX.2.2.2.2.2.2.2.2.2.2.2.2.2.2.2.2.2.2.2.2.2.2.2.2.2.2.2.2.2.2.1) (hX.2.2.2.2.2.2.2.2.2.2.2.2.2.2.2.2.2.2.2.2.2.2.2.2.2.2.2.2.2.2.2.1)) (cw_L_61 hts rfl rfl ⟨Nat.le_of_ble_eq_true rfl, Nat.le_of_ble_eq_true rfl⟩) (PML (Y := FX cy ad ai al aq fi fl nb) (Z := FM cy am mi ml gi gw ++ FO cy qo fo) hP) hK [0, 31, 32, 35, 36, 38, 40, 41, 42, 43] rfl rfl rfl rfl hl.1 rfl (Nat.le_of_ble_eq_true rfl) dL_law_533 ⟨Nat.le_trans (c_le (a := 0) hC (by decide)) (Nat.le_of_ble_eq_true rfl), Nat.le_trans (s_le (a := 0) hC2 (by decide)) (Nat.le_of_ble_eq_true rfl)⟩) hP hS (fun r_7 H locs hp_8 hP hS => ?_)
  refine lv_pop hx hb dL_law_536 rfl ?_
  refine lv_aload_n hx hb dL_law_537 rfl (lv_at hl 2 rfl) ?_
  refine lv_aload_n hx hb dL_law_538 rfl (lv_at hl 4 rfl) ?_
  refine lv_iload hx hb dL_law_539 (lv_at hl 0 rfl) ?_
  refine lv_iconst (v := 1) hx hb dL_law_541 (by decide) ?_
  refine lv_iadd hx hb dL_law_542 ?_
  refine lv_topi (fun z_9 ez_9 => ?_)
  have sz_9 := sc_ix hL hi4 ez_9 (show (1 : Int32).toInt = 1 from rfl) (by decide) (by decide)
  refine va_sld hx hb hXs hbl hbA hS (sz_9.2 (by decide)) dL_law_543 ?_
  refine lv_topi (fun z_11 ez_11 => ?_)
  refine as_i z_3 (i_eq.mpr (i_same ez_3 ez_11 (sz_9.1.trans sz_1.1.symm))) ?_
  refine lv_aload_n hx hb dL_law_544 rfl (lv_at hl 4 rfl) ?_
  refine lv_iload hx hb dL_law_545 (lv_at hl 0 rfl) ?_
  refine lv_iconst (v := 2) hx hb dL_law_547 (by decide) ?_
  refine lv_iadd hx hb dL_law_548 ?_
  refine lv_topi (fun z_12 ez_12 => ?_)
  have sz_12 := sc_ix hL hi4 ez_12 (show (2 : Int32).toInt = 2 from rfl) (by decide) (by decide)
  refine va_sld hx hb hXs hbl hbA hS (sz_12.2 (by decide)) dL_law_549 ?_
  refine lv_topi (fun z_14 ez_14 => ?_)
  refine as_i z_6 (i_eq.mpr (i_same ez_6 ez_14 (sz_12.1.trans sz_4.1.symm))) ?_
  refine jm_i (X := FX cy ad ai al aq fi fl nb) (Y := FM cy am mi ml gi gw) (Z := FO cy qo fo) (rV (As := [.int z_3, .int z_6]) (rest := []) (ci := 12) ⟨hx, hb, hml, hown, hts⟩ (m_cell l dC dI cy _ (mi 2) (am 0) (gi 0) (am 1) (gi 2) (gi 3) (gi 4) (gi 5) (gi 6) (gi 7) (gi 8) (gi 9) (gi 10) (gi 11) gw (gi 13) (am 2) (am 3) (am 4) (am 5) (am 6) (am 7) (am 8) (am 9) (am 10) (am 11) (gi 24) (gi 25) (am 12) (am 13) (am 14) (gi 29) (am 15) (am 16) (gi 32) (gi 33) (gi 34) (am 17) (gi 36) (gi 37) (am 18) (am 19) (gi 40) (gi 41) (am 20) (gi 43) (gi 44) (gi 45) (gi 46) (mi 2) z_3 z_6 (hM.2.2.2.2.2.2.2.1)) (cw_L_64 hts rfl rfl ⟨Nat.le_of_ble_eq_true rfl, Nat.le_of_ble_eq_true rfl⟩) (PM (X := FX cy ad ai al aq fi fl nb) (Y := FM cy am mi ml gi gw) (Z := FO cy qo fo) hP) (DM (X := FX cy ad ai al aq fi fl nb) (Y := FM cy am mi ml gi gw) (Z := FO cy qo fo) hD) hK [0, 2] rfl rfl rfl rfl bl0 e0 rfl hl.1 rfl (Nat.le_of_ble_eq_true rfl) dL_law_550 ⟨Nat.le_trans (c_le (a := 0) hC (by decide)) (Nat.le_of_ble_eq_true rfl), Nat.le_trans (s_le (a := 0) hC2 (by decide)) (Nat.le_of_ble_eq_true rfl)⟩) hP hD hS hA [0, 2] rfl (fun _ => rfl) (fun r_15 u_17 H locs hp_16 hP hD hS => ?_)
  obtain ⟨voth_18, rfl⟩ : ∃ z, z = u_17 := ⟨_, rfl⟩
  refine lv_pop hx hb dL_law_553 rfl ?_
  refine lv_goto (tgt := 1428) hx hb dL_law_554 (by decide) ?_
  obtain ⟨z_19, ez_19⟩ : ∃ z : Int32, z = i4 + 6 := ⟨_, rfl⟩
  have sz_19 := sc_ix hL hi4 ez_19 (show (6 : Int32).toInt = 6 from rfl) (by decide) (by decide)
  refine lv_iinc (v := z_19) (lv' := [(4, .int z_19), (3, .ref qo), (2, .ref (am 0)), (1, .ref (ad 0)), (0, .ref b)]) hx hb dL_law_1428 hl (k := 0) rfl ez_19.symm (by decide) rfl (fun ls hl => ?_)
  refine lv_goto (tgt := 23) hx hb dL_law_1431 (by decide) ?_
  have k_0 : (0 : Int32).toInt = 0 := by decide
  refine W.widen (k := C + 20) (n := S + 1000) (Nat.le_add_right _ _) (Nat.le_add_right _ _) ?_
  have e2 : (sets (FM cy am mi ml gi gw) [0, 2] (O_m_cell cy (mi 2) (am 0) (gi 0) (am 1) (gi 2) (gi 3) (gi 4) (gi 5) (gi 6) (gi 7) (gi 8) (gi 9) (gi 10) (gi 11) gw (gi 13) (am 2) (am 3) (am 4) (am 5) (am 6) (am 7) (am 8) (am 9) (am 10) (am 11) (gi 24) (gi 25) (am 12) (am 13) (am 14) (gi 29) (am 15) (am 16) (gi 32) (gi 33) (gi 34) (am 17) (gi 36) (gi 37) (am 18) (am 19) (gi 40) (gi 41) (am 20) (gi 43) (gi 44) (gi 45) (gi 46) (mi 2) z_3 z_6 voth_18)) = FM cy am mi ml (sI gi 0 voth_18) gw := rfl
  rw [e2] at hP hD
  exact ih z_19 sz_19.1 ad ai al aq fi fl nb am mi ml (sI gi 0 voth_18) gw fo ⟨(hX.1), (hX.2.1), (hX.2.2.1), (hX.2.2.2.1), (hX.2.2.2.2.1), (hX.2.2.2.2.2.1), (hX.2.2.2.2.2.2.1), (hX.2.2.2.2.2.2.2.1), (hX.2.2.2.2.2.2.2.2.1), (hX.2.2.2.2.2.2.2.2.2.1), (hX.2.2.2.2.2.2.2.2.2.2.1), (hX.2.2.2.2.2.2.2.2.2.2.2.1), (hX.2.2.2.2.2.2.2.2.2.2.2.2.1), (hX.2.2.2.2.2.2.2.2.2.2.2.2.2.1), (hX.2.2.2.2.2.2.2.2.2.2.2.2.2.2.1), (hX.2.2.2.2.2.2.2.2.2.2.2.2.2.2.2.1), (hX.2.2.2.2.2.2.2.2.2.2.2.2.2.2.2.2.1), (hX.2.2.2.2.2.2.2.2.2.2.2.2.2.2.2.2.2.1), (hX.2.2.2.2.2.2.2.2.2.2.2.2.2.2.2.2.2.2.1), (hX.2.2.2.2.2.2.2.2.2.2.2.2.2.2.2.2.2.2.2.1), (hX.2.2.2.2.2.2.2.2.2.2.2.2.2.2.2.2.2.2.2.2.1), (hX.2.2.2.2.2.2.2.2.2.2.2.2.2.2.2.2.2.2.2.2.2.1), (hX.2.2.2.2.2.2.2.2.2.2.2.2.2.2.2.2.2.2.2.2.2.2.1), (hX.2.2.2.2.2.2.2.2.2.2.2.2.2.2.2.2.2.2.2.2.2.2.2.1), (hX.2.2.2.2.2.2.2.2.2.2.2.2.2.2.2.2.2.2.2.2.2.2.2.2.1), (hX.2.2.2.2.2.2.2.2.2.2.2.2.2.2.2.2.2.2.2.2.2.2.2.2.2.1), (hX.2.2.2.2.2.2.2.2.2.2.2.2.2.2.2.2.2.2.2.2.2.2.2.2.2.2.1), (hX.2.2.2.2.2.2.2.2.2.2.2.2.2.2.2.2.2.2.2.2.2.2.2.2.2.2.2.1), (hX.2.2.2.2.2.2.2.2.2.2.2.2.2.2.2.2.2.2.2.2.2.2.2.2.2.2.2.2.1), (hX.2.2.2.2.2.2.2.2.2.2.2.2.2.2.2.2.2.2.2.2.2.2.2.2.2.2.2.2.2.1), (hX.2.2.2.2.2.2.2.2.2.2.2.2.2.2.2.2.2.2.2.2.2.2.2.2.2.2.2.2.2.2.1), (hX.2.2.2.2.2.2.2.2.2.2.2.2.2.2.2.2.2.2.2.2.2.2.2.2.2.2.2.2.2.2.2.1), (hX.2.2.2.2.2.2.2.2.2.2.2.2.2.2.2.2.2.2.2.2.2.2.2.2.2.2.2.2.2.2.2.2.1), (hX.2.2.2.2.2.2.2.2.2.2.2.2.2.2.2.2.2.2.2.2.2.2.2.2.2.2.2.2.2.2.2.2.2.1), (hX.2.2.2.2.2.2.2.2.2.2.2.2.2.2.2.2.2.2.2.2.2.2.2.2.2.2.2.2.2.2.2.2.2.2.1), (hX.2.2.2.2.2.2.2.2.2.2.2.2.2.2.2.2.2.2.2.2.2.2.2.2.2.2.2.2.2.2.2.2.2.2.2.1), (hX.2.2.2.2.2.2.2.2.2.2.2.2.2.2.2.2.2.2.2.2.2.2.2.2.2.2.2.2.2.2.2.2.2.2.2.2.1), (hX.2.2.2.2.2.2.2.2.2.2.2.2.2.2.2.2.2.2.2.2.2.2.2.2.2.2.2.2.2.2.2.2.2.2.2.2.2.1), (hX.2.2.2.2.2.2.2.2.2.2.2.2.2.2.2.2.2.2.2.2.2.2.2.2.2.2.2.2.2.2.2.2.2.2.2.2.2.2.1), (hX.2.2.2.2.2.2.2.2.2.2.2.2.2.2.2.2.2.2.2.2.2.2.2.2.2.2.2.2.2.2.2.2.2.2.2.2.2.2.2.1), (hX.2.2.2.2.2.2.2.2.2.2.2.2.2.2.2.2.2.2.2.2.2.2.2.2.2.2.2.2.2.2.2.2.2.2.2.2.2.2.2.2.1), (hX.2.2.2.2.2.2.2.2.2.2.2.2.2.2.2.2.2.2.2.2.2.2.2.2.2.2.2.2.2.2.2.2.2.2.2.2.2.2.2.2.2.1), (hX.2.2.2.2.2.2.2.2.2.2.2.2.2.2.2.2.2.2.2.2.2.2.2.2.2.2.2.2.2.2.2.2.2.2.2.2.2.2.2.2.2.2.1), (hX.2.2.2.2.2.2.2.2.2.2.2.2.2.2.2.2.2.2.2.2.2.2.2.2.2.2.2.2.2.2.2.2.2.2.2.2.2.2.2.2.2.2.2.1), (hX.2.2.2.2.2.2.2.2.2.2.2.2.2.2.2.2.2.2.2.2.2.2.2.2.2.2.2.2.2.2.2.2.2.2.2.2.2.2.2.2.2.2.2.2.1), (hX.2.2.2.2.2.2.2.2.2.2.2.2.2.2.2.2.2.2.2.2.2.2.2.2.2.2.2.2.2.2.2.2.2.2.2.2.2.2.2.2.2.2.2.2.2.1), (hX.2.2.2.2.2.2.2.2.2.2.2.2.2.2.2.2.2.2.2.2.2.2.2.2.2.2.2.2.2.2.2.2.2.2.2.2.2.2.2.2.2.2.2.2.2.2.1), (hX.2.2.2.2.2.2.2.2.2.2.2.2.2.2.2.2.2.2.2.2.2.2.2.2.2.2.2.2.2.2.2.2.2.2.2.2.2.2.2.2.2.2.2.2.2.2.2.1), (hX.2.2.2.2.2.2.2.2.2.2.2.2.2.2.2.2.2.2.2.2.2.2.2.2.2.2.2.2.2.2.2.2.2.2.2.2.2.2.2.2.2.2.2.2.2.2.2.2.1), (hX.2.2.2.2.2.2.2.2.2.2.2.2.2.2.2.2.2.2.2.2.2.2.2.2.2.2.2.2.2.2.2.2.2.2.2.2.2.2.2.2.2.2.2.2.2.2.2.2.2.1), (hX.2.2.2.2.2.2.2.2.2.2.2.2.2.2.2.2.2.2.2.2.2.2.2.2.2.2.2.2.2.2.2.2.2.2.2.2.2.2.2.2.2.2.2.2.2.2.2.2.2.2.1), (hX.2.2.2.2.2.2.2.2.2.2.2.2.2.2.2.2.2.2.2.2.2.2.2.2.2.2.2.2.2.2.2.2.2.2.2.2.2.2.2.2.2.2.2.2.2.2.2.2.2.2.2.1), (hX.2.2.2.2.2.2.2.2.2.2.2.2.2.2.2.2.2.2.2.2.2.2.2.2.2.2.2.2.2.2.2.2.2.2.2.2.2.2.2.2.2.2.2.2.2.2.2.2.2.2.2.2.1), (hX.2.2.2.2.2.2.2.2.2.2.2.2.2.2.2.2.2.2.2.2.2.2.2.2.2.2.2.2.2.2.2.2.2.2.2.2.2.2.2.2.2.2.2.2.2.2.2.2.2.2.2.2.2.1), (hX.2.2.2.2.2.2.2.2.2.2.2.2.2.2.2.2.2.2.2.2.2.2.2.2.2.2.2.2.2.2.2.2.2.2.2.2.2.2.2.2.2.2.2.2.2.2.2.2.2.2.2.2.2.2.1), (hX.2.2.2.2.2.2.2.2.2.2.2.2.2.2.2.2.2.2.2.2.2.2.2.2.2.2.2.2.2.2.2.2.2.2.2.2.2.2.2.2.2.2.2.2.2.2.2.2.2.2.2.2.2.2.2.1), (hX.2.2.2.2.2.2.2.2.2.2.2.2.2.2.2.2.2.2.2.2.2.2.2.2.2.2.2.2.2.2.2.2.2.2.2.2.2.2.2.2.2.2.2.2.2.2.2.2.2.2.2.2.2.2.2.2.1), (hX.2.2.2.2.2.2.2.2.2.2.2.2.2.2.2.2.2.2.2.2.2.2.2.2.2.2.2.2.2.2.2.2.2.2.2.2.2.2.2.2.2.2.2.2.2.2.2.2.2.2.2.2.2.2.2.2.2.1), (hX.2.2.2.2.2.2.2.2.2.2.2.2.2.2.2.2.2.2.2.2.2.2.2.2.2.2.2.2.2.2.2.2.2.2.2.2.2.2.2.2.2.2.2.2.2.2.2.2.2.2.2.2.2.2.2.2.2.2.1), (hX.2.2.2.2.2.2.2.2.2.2.2.2.2.2.2.2.2.2.2.2.2.2.2.2.2.2.2.2.2.2.2.2.2.2.2.2.2.2.2.2.2.2.2.2.2.2.2.2.2.2.2.2.2.2.2.2.2.2.2.1), (hX.2.2.2.2.2.2.2.2.2.2.2.2.2.2.2.2.2.2.2.2.2.2.2.2.2.2.2.2.2.2.2.2.2.2.2.2.2.2.2.2.2.2.2.2.2.2.2.2.2.2.2.2.2.2.2.2.2.2.2.2.1), (hX.2.2.2.2.2.2.2.2.2.2.2.2.2.2.2.2.2.2.2.2.2.2.2.2.2.2.2.2.2.2.2.2.2.2.2.2.2.2.2.2.2.2.2.2.2.2.2.2.2.2.2.2.2.2.2.2.2.2.2.2.2.1), (hX.2.2.2.2.2.2.2.2.2.2.2.2.2.2.2.2.2.2.2.2.2.2.2.2.2.2.2.2.2.2.2.2.2.2.2.2.2.2.2.2.2.2.2.2.2.2.2.2.2.2.2.2.2.2.2.2.2.2.2.2.2.2.1), (hX.2.2.2.2.2.2.2.2.2.2.2.2.2.2.2.2.2.2.2.2.2.2.2.2.2.2.2.2.2.2.2.2.2.2.2.2.2.2.2.2.2.2.2.2.2.2.2.2.2.2.2.2.2.2.2.2.2.2.2.2.2.2.2.1), (hX.2.2.2.2.2.2.2.2.2.2.2.2.2.2.2.2.2.2.2.2.2.2.2.2.2.2.2.2.2.2.2.2.2.2.2.2.2.2.2.2.2.2.2.2.2.2.2.2.2.2.2.2.2.2.2.2.2.2.2.2.2.2.2.2.1), (hX.2.2.2.2.2.2.2.2.2.2.2.2.2.2.2.2.2.2.2.2.2.2.2.2.2.2.2.2.2.2.2.2.2.2.2.2.2.2.2.2.2.2.2.2.2.2.2.2.2.2.2.2.2.2.2.2.2.2.2.2.2.2.2.2.2.1), (hX.2.2.2.2.2.2.2.2.2.2.2.2.2.2.2.2.2.2.2.2.2.2.2.2.2.2.2.2.2.2.2.2.2.2.2.2.2.2.2.2.2.2.2.2.2.2.2.2.2.2.2.2.2.2.2.2.2.2.2.2.2.2.2.2.2.2.1), (hX.2.2.2.2.2.2.2.2.2.2.2.2.2.2.2.2.2.2.2.2.2.2.2.2.2.2.2.2.2.2.2.2.2.2.2.2.2.2.2.2.2.2.2.2.2.2.2.2.2.2.2.2.2.2.2.2.2.2.2.2.2.2.2.2.2.2.2.1), (hX.2.2.2.2.2.2.2.2.2.2.2.2.2.2.2.2.2.2.2.2.2.2.2.2.2.2.2.2.2.2.2.2.2.2.2.2.2.2.2.2.2.2.2.2.2.2.2.2.2.2.2.2.2.2.2.2.2.2.2.2.2.2.2.2.2.2.2.2.1), (hX.2.2.2.2.2.2.2.2.2.2.2.2.2.2.2.2.2.2.2.2.2.2.2.2.2.2.2.2.2.2.2.2.2.2.2.2.2.2.2.2.2.2.2.2.2.2.2.2.2.2.2.2.2.2.2.2.2.2.2.2.2.2.2.2.2.2.2.2.2.1), (hX.2.2.2.2.2.2.2.2.2.2.2.2.2.2.2.2.2.2.2.2.2.2.2.2.2.2.2.2.2.2.2.2.2.2.2.2.2.2.2.2.2.2.2.2.2.2.2.2.2.2.2.2.2.2.2.2.2.2.2.2.2.2.2.2.2.2.2.2.2.2.1), (hX.2.2.2.2.2.2.2.2.2.2.2.2.2.2.2.2.2.2.2.2.2.2.2.2.2.2.2.2.2.2.2.2.2.2.2.2.2.2.2.2.2.2.2.2.2.2.2.2.2.2.2.2.2.2.2.2.2.2.2.2.2.2.2.2.2.2.2.2.2.2.2.1), (hX.2.2.2.2.2.2.2.2.2.2.2.2.2.2.2.2.2.2.2.2.2.2.2.2.2.2.2.2.2.2.2.2.2.2.2.2.2.2.2.2.2.2.2.2.2.2.2.2.2.2.2.2.2.2.2.2.2.2.2.2.2.2.2.2.2.2.2.2.2.2.2.2.1), (hX.2.2.2.2.2.2.2.2.2.2.2.2.2.2.2.2.2.2.2.2.2.2.2.2.2.2.2.2.2.2.2.2.2.2.2.2.2.2.2.2.2.2.2.2.2.2.2.2.2.2.2.2.2.2.2.2.2.2.2.2.2.2.2.2.2.2.2.2.2.2.2.2.2)⟩ ⟨(hM.1), (hM.2.1), (hM.2.2.1), (hM.2.2.2.1), (hM.2.2.2.2.1), (hM.2.2.2.2.2.1), (hM.2.2.2.2.2.2.1), (hM.2.2.2.2.2.2.2.1), (hM.2.2.2.2.2.2.2.2.1), (hM.2.2.2.2.2.2.2.2.2.1), (hM.2.2.2.2.2.2.2.2.2.2.1), (hM.2.2.2.2.2.2.2.2.2.2.2.1), (hM.2.2.2.2.2.2.2.2.2.2.2.2)⟩ ⟨(hR.1), (hR.2.1), (hR.2.2.1), (hR.2.2.2.1), (hR.2.2.2.2.1), (hR.2.2.2.2.2.1), (hR.2.2.2.2.2.2)⟩ H locs hP hD hS ls (lv_sub hl [0, 1, 2, 3, 4] rfl)
theorem dL_law_557 : decode cL_law 557 = .ok (.aload_n 1, 1) := by decide +kernel
theorem dL_law_558 : decode cL_law 558 = .ok (.aload_n 0, 1) := by decide +kernel
theorem dL_law_559 : decode cL_law 559 = .ok (.iload 4, 2) := by decide +kernel
theorem dL_law_561 : decode cL_law 561 = .ok (.iconst 1, 1) := by decide +kernel
theorem dL_law_562 : decode cL_law 562 = .ok (.iadd, 1) := by decide +kernel
theorem dL_law_563 : decode cL_law 563 = .ok (.iaload, 1) := by decide +kernel
theorem dL_law_564 : decode cL_law 564 = .ok (.aload_n 0, 1) := by decide +kernel
theorem dL_law_565 : decode cL_law 565 = .ok (.iload 4, 2) := by decide +kernel
theorem dL_law_567 : decode cL_law 567 = .ok (.iconst 2, 1) := by decide +kernel
theorem dL_law_568 : decode cL_law 568 = .ok (.iadd, 1) := by decide +kernel
theorem dL_law_569 : decode cL_law 569 = .ok (.iaload, 1) := by decide +kernel
theorem dL_law_570 : decode cL_law 570 = .ok (.invokevirtual 65, 3) := by decide +kernel
theorem t717 : Cond.methodLink RL 65 yX10_kept ∈ GW := gw_mem 831 (by decide +kernel) (by decide +kernel)
theorem t718 : Cond.instanceMethod yX10_kept ∈ GW := gw_mem 832 (by decide +kernel) (by decide +kernel)
theorem t719 : Cond.selects RX10 yX10_kept yX10_kept ∈ GW := gw_mem 833 (by decide +kernel) (by decide +kernel)
theorem cw_L_65 {R : Room} {s : State} {args : Array Value} {rm : Room} {mc ms : Nat} (hts : ∀ w ∈ GW, w.before args s = true) (hrc : rm.cells = mc) (hrs : rm.slots = ms) (hR : rm.frames + 1 ≤ R.frames ∧ 8 + (3 + 11) + rm.locals ≤ R.locals) : CallW R s args RL RX10 65 yX10_kept cX10_kept 3 (some .int) (wl yX10_kept cX10_kept 3 (some .int)) rm mc ms 2 := cwV 2 hts (gi_V t717 t718 t719 t1 t720) rfl hrc hrs (by decide +kernel) hR
theorem dL_law_573 : decode cL_law 573 = .ok (.pop, 1) := by decide +kernel
theorem dL_law_574 : decode cL_law 574 = .ok (.aload_n 2, 1) := by decide +kernel
theorem dL_law_575 : decode cL_law 575 = .ok (.aload_n 0, 1) := by decide +kernel
theorem dL_law_576 : decode cL_law 576 = .ok (.iload 4, 2) := by decide +kernel
theorem dL_law_578 : decode cL_law 578 = .ok (.iconst 1, 1) := by decide +kernel
theorem dL_law_579 : decode cL_law 579 = .ok (.iadd, 1) := by decide +kernel
theorem dL_law_580 : decode cL_law 580 = .ok (.iaload, 1) := by decide +kernel
theorem dL_law_581 : decode cL_law 581 = .ok (.aload_n 0, 1) := by decide +kernel
theorem dL_law_582 : decode cL_law 582 = .ok (.iload 4, 2) := by decide +kernel
theorem dL_law_584 : decode cL_law 584 = .ok (.iconst 2, 1) := by decide +kernel
theorem dL_law_585 : decode cL_law 585 = .ok (.iadd, 1) := by decide +kernel
theorem dL_law_586 : decode cL_law 586 = .ok (.iaload, 1) := by decide +kernel
theorem dL_law_587 : decode cL_law 587 = .ok (.invokevirtual 68, 3) := by decide +kernel
theorem t1771 : Cond.methodLink RL 68 yX11_kept ∈ GW := gw_mem 1885 (by decide +kernel) (by decide +kernel)
theorem t1772 : Cond.instanceMethod yX11_kept ∈ GW := gw_mem 1886 (by decide +kernel) (by decide +kernel)
theorem t1773 : Cond.selects RX11 yX11_kept yX11_kept ∈ GW := gw_mem 1887 (by decide +kernel) (by decide +kernel)
theorem cw_L_68 {R : Room} {s : State} {args : Array Value} {rm : Room} {mc ms : Nat} (hts : ∀ w ∈ GW, w.before args s = true) (hrc : rm.cells = mc) (hrs : rm.slots = ms) (hR : rm.frames + 1 ≤ R.frames ∧ 8 + (3 + 11) + rm.locals ≤ R.locals) : CallW R s args RL RX11 68 yX11_kept cX11_kept 3 (some .int) (wl yX11_kept cX11_kept 3 (some .int)) rm mc ms 2 := cwV 2 hts (gi_V t1771 t1772 t1773 t18 t1774) rfl hrc hrs (by decide +kernel) hR
theorem dL_law_590 : decode cL_law 590 = .ok (.pop, 1) := by decide +kernel
theorem dL_law_591 : decode cL_law 591 = .ok (.goto 837, 3) := by decide +kernel
set_option maxHeartbeats 8000000 in
set_option maxRecDepth 100000 in
theorem lc_10 {p : Program} {l : Launch} {e : Env} {s : State} {m : MethodId} {below : List Frame} {meth : Method} {c : Code} {b L : Nat} {xs : Nat → Int32} (hl0 : l.stackTraces = false) (C0 : lw_At p s m meth c b L xs) (hL : L ≤ 3072) (dC : Nat → ClassId) (dI : Nat → Nat → Nat) (cy : Nat → ClassId) (ad : Nat → Nat) (ai : Nat → Nat → Int32) (al : Nat → Nat → Int64) (aq : Nat → Nat → Option Nat) (fi : Nat → Nat → Int32) (fl : Int64) (nb : Nat) (am : Nat → Nat) (mi : Nat → Nat → Int32) (ml : Nat → Nat → Int64) (gi : Nat → Int32) (gw : Int64) (fo : Nat → Int64) (qo : Nat) (hK : va_K (dC, dI) vwCl (TY cy) s) (C S : Nat) (hC : C + 100 ≤ 500000) (hC2 : S + 1000 ≤ 7000000) (i4 : Int32) (hi4 : 0 ≤ i4.toInt ∧ i4.toInt + 6 ≤ (L : Int)) (ih : ∀ z4 : Int32, z4.toInt = i4.toInt + 6 → LH p l e s m below meth c b qo dC dI cy (C + 20) (S + 1000) z4) (hX : INX ad ai al aq fi fl nb) (hM : INM am mi ml gi gw) (hR : INR ad ai al aq fi fl nb am mi ml gi gw) {H : Heap} {locs : List Loc} (hP : va_P (dC, dI) vwCl (FX cy ad ai al aq fi fl nb ++ (FM cy am mi ml gi gw ++ FO cy qo fo)) H) (hD : va_D (FA s) (FX cy ad ai al aq fi fl nb ++ (FM cy am mi ml gi gw ++ FO cy qo fo))) (hS : va_S (FA s) s.heap H locs) {ls : Array Slot} (hl : lv_has ls 7 [(4, .int i4), (3, .ref qo), (2, .ref (am 0)), (1, .ref (ad 0)), (0, .ref b)]) : W p l e room_1 s m #[Value.ref b] below meth c H locs C S (lw_Z below #[Value.ref b] s) (F0 m 557 ls []) := by
  obtain ⟨hx, hb, hr, hml, hown, htsL, hXs, hbl, hlocks, hgv⟩ := id C0
  have hown : s.vm.findClass RL = some m.cls := hown
  have hts : ∀ w ∈ GW, w.before #[Value.ref b] s = true := fun w hw => htsL w (List.mem_filter.mp hw).1
  have hA : ∀ q : Nat, s.heap.size ≤ q → FA s q := fun _ h => h
  have hbA : ¬ FA s b := Nat.not_le.mpr hbl
  have hx0 := (hX.1)
  have hx4 := (hX.2.2.2.2.1)
  have hy0 := (hM.1)
  have hz0 := (hR.1)
  have hz6 := (hR.2.2.2.2.2.2)
  refine lv_aload_n hx hb dL_law_557 rfl (lv_at hl 3 rfl) ?_
  refine lv_aload_n hx hb dL_law_558 rfl (lv_at hl 4 rfl) ?_
  refine lv_iload hx hb dL_law_559 (lv_at hl 0 rfl) ?_
  refine lv_iconst (v := 1) hx hb dL_law_561 (by decide) ?_
  refine lv_iadd hx hb dL_law_562 ?_
  refine lv_topi (fun z_1 ez_1 => ?_)
  have sz_1 := sc_ix hL hi4 ez_1 (show (1 : Int32).toInt = 1 from rfl) (by decide) (by decide)
  refine va_sld hx hb hXs hbl hbA hS (sz_1.2 (by decide)) dL_law_563 ?_
  refine lv_topi (fun z_3 ez_3 => ?_)
  refine lv_aload_n hx hb dL_law_564 rfl (lv_at hl 4 rfl) ?_
  refine lv_iload hx hb dL_law_565 (lv_at hl 0 rfl) ?_
  refine lv_iconst (v := 2) hx hb dL_law_567 (by decide) ?_
  refine lv_iadd hx hb dL_law_568 ?_
  refine lv_topi (fun z_4 ez_4 => ?_)
  have sz_4 := sc_ix hL hi4 ez_4 (show (2 : Int32).toInt = 2 from rfl) (by decide) (by decide)
  refine va_sld hx hb hXs hbl hbA hS (sz_4.2 (by decide)) dL_law_569 ?_
  refine lv_topi (fun z_6 ez_6 => ?_)
  refine jr_i (rVr (As := [.int z_3, .int z_6]) (rest := []) (ci := 11) ⟨hx, hb, hml, hown, hts⟩ (g_kept l dC dI cy (ad 0) (ad 1) (ad 4) (ad 5) (ad 10) (ad 23) (ad 24) (ad 25) (ad 27) (ad 28) (ad 29) (ad 30) (ad 31) (ad 54) (fi 0 13) (fi 0 14) (fi 0 15) (fi 0 16) (ad 32) (ad 38) (ad 49) (ad 33) (ad 34) (ad 35) (ad 36) (ad 37) (fi 32 5) (fi 32 6) (fi 32 7) (fi 32 8) (ad 39) (ad 40) (ad 41) (ad 42) (ad 43) (ad 44) (ad 45) (ad 46) (ad 47) (ad 48) (fi 38 10) (ai 44) (ai 45) (ai 46) (ai 47) (ai 48) z_3 z_6 (hX.2.2.2.2.2.2.2.1) (hX.2.2.2.2.2.2.2.2.1)) (cw_L_65 hts rfl rfl ⟨Nat.le_of_ble_eq_true rfl, Nat.le_of_ble_eq_true rfl⟩) (PML (Y := FX cy ad ai al aq fi fl nb) (Z := FM cy am mi ml gi gw ++ FO cy qo fo) hP) hK [0, 31, 32, 38, 44, 45, 46, 47, 48] rfl rfl rfl rfl hl.1 rfl (Nat.le_of_ble_eq_true rfl) dL_law_570 ⟨Nat.le_trans (c_le (a := 0) hC (by decide)) (Nat.le_of_ble_eq_true rfl), Nat.le_trans (s_le (a := 0) hC2 (by decide)) (Nat.le_of_ble_eq_true rfl)⟩) hP hS (fun r_7 H locs hp_8 hP hS => ?_)
  refine lv_pop hx hb dL_law_573 rfl ?_
  refine lv_aload_n hx hb dL_law_574 rfl (lv_at hl 2 rfl) ?_
  refine lv_aload_n hx hb dL_law_575 rfl (lv_at hl 4 rfl) ?_
  refine lv_iload hx hb dL_law_576 (lv_at hl 0 rfl) ?_
  refine lv_iconst (v := 1) hx hb dL_law_578 (by decide) ?_
  refine lv_iadd hx hb dL_law_579 ?_
  refine lv_topi (fun z_9 ez_9 => ?_)
  have sz_9 := sc_ix hL hi4 ez_9 (show (1 : Int32).toInt = 1 from rfl) (by decide) (by decide)
  refine va_sld hx hb hXs hbl hbA hS (sz_9.2 (by decide)) dL_law_580 ?_
  refine lv_topi (fun z_11 ez_11 => ?_)
  refine as_i z_3 (i_eq.mpr (i_same ez_3 ez_11 (sz_9.1.trans sz_1.1.symm))) ?_
  refine lv_aload_n hx hb dL_law_581 rfl (lv_at hl 4 rfl) ?_
  refine lv_iload hx hb dL_law_582 (lv_at hl 0 rfl) ?_
  refine lv_iconst (v := 2) hx hb dL_law_584 (by decide) ?_
  refine lv_iadd hx hb dL_law_585 ?_
  refine lv_topi (fun z_12 ez_12 => ?_)
  have sz_12 := sc_ix hL hi4 ez_12 (show (2 : Int32).toInt = 2 from rfl) (by decide) (by decide)
  refine va_sld hx hb hXs hbl hbA hS (sz_12.2 (by decide)) dL_law_586 ?_
  refine lv_topi (fun z_14 ez_14 => ?_)
  refine as_i z_6 (i_eq.mpr (i_same ez_6 ez_14 (sz_12.1.trans sz_4.1.symm))) ?_
  refine jm_i (X := FX cy ad ai al aq fi fl nb) (Y := FM cy am mi ml gi gw) (Z := FO cy qo fo) (rV (As := [.int z_3, .int z_6]) (rest := []) (ci := 12) ⟨hx, hb, hml, hown, hts⟩ (m_kept l dC dI cy _ (mi 2) (am 0) (gi 0) (am 1) (gi 2) (gi 3) (gi 4) (gi 5) (gi 6) (gi 7) (gi 8) (gi 9) (gi 10) (gi 11) gw (gi 13) (am 2) (am 3) (am 4) (am 5) (am 6) (am 7) (am 8) (am 9) (am 10) (am 11) (gi 24) (gi 25) (am 12) (am 13) (am 14) (gi 29) (am 15) (am 16) (gi 32) (gi 33) (gi 34) (am 17) (gi 36) (gi 37) (am 18) (am 19) (gi 40) (gi 41) (am 20) (gi 43) (gi 44) (gi 45) (gi 46) (mi 2) z_3 z_6 (hM.2.2.2.2.2.2.2.1)) (cw_L_68 hts rfl rfl ⟨Nat.le_of_ble_eq_true rfl, Nat.le_of_ble_eq_true rfl⟩) (PM (X := FX cy ad ai al aq fi fl nb) (Y := FM cy am mi ml gi gw) (Z := FO cy qo fo) hP) (DM (X := FX cy ad ai al aq fi fl nb) (Y := FM cy am mi ml gi gw) (Z := FO cy qo fo) hD) hK [0, 2] rfl rfl rfl rfl bl0 e0 rfl hl.1 rfl (Nat.le_of_ble_eq_true rfl) dL_law_587 ⟨Nat.le_trans (c_le (a := 0) hC (by decide)) (Nat.le_of_ble_eq_true rfl), Nat.le_trans (s_le (a := 0) hC2 (by decide)) (Nat.le_of_ble_eq_true rfl)⟩) hP hD hS hA [0, 2] rfl (fun _ => rfl) (fun r_15 u_17 H locs hp_16 hP hD hS => ?_)
  obtain ⟨voth_18, rfl⟩ : ∃ z, z = u_17 := ⟨_, rfl⟩
  refine lv_pop hx hb dL_law_590 rfl ?_
  refine lv_goto (tgt := 1428) hx hb dL_law_591 (by decide) ?_
  obtain ⟨z_19, ez_19⟩ : ∃ z : Int32, z = i4 + 6 := ⟨_, rfl⟩
  have sz_19 := sc_ix hL hi4 ez_19 (show (6 : Int32).toInt = 6 from rfl) (by decide) (by decide)
  refine lv_iinc (v := z_19) (lv' := [(4, .int z_19), (3, .ref qo), (2, .ref (am 0)), (1, .ref (ad 0)), (0, .ref b)]) hx hb dL_law_1428 hl (k := 0) rfl ez_19.symm (by decide) rfl (fun ls hl => ?_)
  refine lv_goto (tgt := 23) hx hb dL_law_1431 (by decide) ?_
  have k_0 : (0 : Int32).toInt = 0 := by decide
  refine W.widen (k := C + 20) (n := S + 1000) (Nat.le_add_right _ _) (Nat.le_add_right _ _) ?_
  have e2 : (sets (FM cy am mi ml gi gw) [0, 2] (O_m_kept cy (mi 2) (am 0) (gi 0) (am 1) (gi 2) (gi 3) (gi 4) (gi 5) (gi 6) (gi 7) (gi 8) (gi 9) (gi 10) (gi 11) gw (gi 13) (am 2) (am 3) (am 4) (am 5) (am 6) (am 7) (am 8) (am 9) (am 10) (am 11) (gi 24) (gi 25) (am 12) (am 13) (am 14) (gi 29) (am 15) (am 16) (gi 32) (gi 33) (gi 34) (am 17) (gi 36) (gi 37) (am 18) (am 19) (gi 40) (gi 41) (am 20) (gi 43) (gi 44) (gi 45) (gi 46) (mi 2) z_3 z_6 voth_18)) = FM cy am mi ml (sI gi 0 voth_18) gw := rfl
  rw [e2] at hP hD
  exact ih z_19 sz_19.1 ad ai al aq fi fl nb am mi ml (sI gi 0 voth_18) gw fo ⟨(hX.1), (hX.2.1), (hX.2.2.1), (hX.2.2.2.1), (hX.2.2.2.2.1), (hX.2.2.2.2.2.1), (hX.2.2.2.2.2.2.1), (hX.2.2.2.2.2.2.2.1), (hX.2.2.2.2.2.2.2.2.1), (hX.2.2.2.2.2.2.2.2.2.1), (hX.2.2.2.2.2.2.2.2.2.2.1), (hX.2.2.2.2.2.2.2.2.2.2.2.1), (hX.2.2.2.2.2.2.2.2.2.2.2.2.1), (hX.2.2.2.2.2.2.2.2.2.2.2.2.2.1), (hX.2.2.2.2.2.2.2.2.2.2.2.2.2.2.1), (hX.2.2.2.2.2.2.2.2.2.2.2.2.2.2.2.1), (hX.2.2.2.2.2.2.2.2.2.2.2.2.2.2.2.2.1), (hX.2.2.2.2.2.2.2.2.2.2.2.2.2.2.2.2.2.1), (hX.2.2.2.2.2.2.2.2.2.2.2.2.2.2.2.2.2.2.1), (hX.2.2.2.2.2.2.2.2.2.2.2.2.2.2.2.2.2.2.2.1), (hX.2.2.2.2.2.2.2.2.2.2.2.2.2.2.2.2.2.2.2.2.1), (hX.2.2.2.2.2.2.2.2.2.2.2.2.2.2.2.2.2.2.2.2.2.1), (hX.2.2.2.2.2.2.2.2.2.2.2.2.2.2.2.2.2.2.2.2.2.2.1), (hX.2.2.2.2.2.2.2.2.2.2.2.2.2.2.2.2.2.2.2.2.2.2.2.1), (hX.2.2.2.2.2.2.2.2.2.2.2.2.2.2.2.2.2.2.2.2.2.2.2.2.1), (hX.2.2.2.2.2.2.2.2.2.2.2.2.2.2.2.2.2.2.2.2.2.2.2.2.2.1), (hX.2.2.2.2.2.2.2.2.2.2.2.2.2.2.2.2.2.2.2.2.2.2.2.2.2.2.1), (hX.2.2.2.2.2.2.2.2.2.2.2.2.2.2.2.2.2.2.2.2.2.2.2.2.2.2.2.1), (hX.2.2.2.2.2.2.2.2.2.2.2.2.2.2.2.2.2.2.2.2.2.2.2.2.2.2.2.2.1), (hX.2.2.2.2.2.2.2.2.2.2.2.2.2.2.2.2.2.2.2.2.2.2.2.2.2.2.2.2.2.1), (hX.2.2.2.2.2.2.2.2.2.2.2.2.2.2.2.2.2.2.2.2.2.2.2.2.2.2.2.2.2.2.1), (hX.2.2.2.2.2.2.2.2.2.2.2.2.2.2.2.2.2.2.2.2.2.2.2.2.2.2.2.2.2.2.2.1), (hX.2.2.2.2.2.2.2.2.2.2.2.2.2.2.2.2.2.2.2.2.2.2.2.2.2.2.2.2.2.2.2.2.1), (hX.2.2.2.2.2.2.2.2.2.2.2.2.2.2.2.2.2.2.2.2.2.2.2.2.2.2.2.2.2.2.2.2.2.1), (hX.2.2.2.2.2.2.2.2.2.2.2.2.2.2.2.2.2.2.2.2.2.2.2.2.2.2.2.2.2.2.2.2.2.2.1), (hX.2.2.2.2.2.2.2.2.2.2.2.2.2.2.2.2.2.2.2.2.2.2.2.2.2.2.2.2.2.2.2.2.2.2.2.1), (hX.2.2.2.2.2.2.2.2.2.2.2.2.2.2.2.2.2.2.2.2.2.2.2.2.2.2.2.2.2.2.2.2.2.2.2.2.1), (hX.2.2.2.2.2.2.2.2.2.2.2.2.2.2.2.2.2.2.2.2.2.2.2.2.2.2.2.2.2.2.2.2.2.2.2.2.2.1), (hX.2.2.2.2.2.2.2.2.2.2.2.2.2.2.2.2.2.2.2.2.2.2.2.2.2.2.2.2.2.2.2.2.2.2.2.2.2.2.1), (hX.2.2.2.2.2.2.2.2.2.2.2.2.2.2.2.2.2.2.2.2.2.2.2.2.2.2.2.2.2.2.2.2.2.2.2.2.2.2.2.1), (hX.2.2.2.2.2.2.2.2.2.2.2.2.2.2.2.2.2.2.2.2.2.2.2.2.2.2.2.2.2.2.2.2.2.2.2.2.2.2.2.2.1), (hX.2.2.2.2.2.2.2.2.2.2.2.2.2.2.2.2.2.2.2.2.2.2.2.2.2.2.2.2.2.2.2.2.2.2.2.2.2.2.2.2.2.1), (hX.2.2.2.2.2.2.2.2.2.2.2.2.2.2.2.2.2.2.2.2.2.2.2.2.2.2.2.2.2.2.2.2.2.2.2.2.2.2.2.2.2.2.1), (hX.2.2.2.2.2.2.2.2.2.2.2.2.2.2.2.2.2.2.2.2.2.2.2.2.2.2.2.2.2.2.2.2.2.2.2.2.2.2.2.2.2.2.2.1), (hX.2.2.2.2.2.2.2.2.2.2.2.2.2.2.2.2.2.2.2.2.2.2.2.2.2.2.2.2.2.2.2.2.2.2.2.2.2.2.2.2.2.2.2.2.1), (hX.2.2.2.2.2.2.2.2.2.2.2.2.2.2.2.2.2.2.2.2.2.2.2.2.2.2.2.2.2.2.2.2.2.2.2.2.2.2.2.2.2.2.2.2.2.1), (hX.2.2.2.2.2.2.2.2.2.2.2.2.2.2.2.2.2.2.2.2.2.2.2.2.2.2.2.2.2.2.2.2.2.2.2.2.2.2.2.2.2.2.2.2.2.2.1), (hX.2.2.2.2.2.2.2.2.2.2.2.2.2.2.2.2.2.2.2.2.2.2.2.2.2.2.2.2.2.2.2.2.2.2.2.2.2.2.2.2.2.2.2.2.2.2.2.1), (hX.2.2.2.2.2.2.2.2.2.2.2.2.2.2.2.2.2.2.2.2.2.2.2.2.2.2.2.2.2.2.2.2.2.2.2.2.2.2.2.2.2.2.2.2.2.2.2.2.1), (hX.2.2.2.2.2.2.2.2.2.2.2.2.2.2.2.2.2.2.2.2.2.2.2.2.2.2.2.2.2.2.2.2.2.2.2.2.2.2.2.2.2.2.2.2.2.2.2.2.2.1), (hX.2.2.2.2.2.2.2.2.2.2.2.2.2.2.2.2.2.2.2.2.2.2.2.2.2.2.2.2.2.2.2.2.2.2.2.2.2.2.2.2.2.2.2.2.2.2.2.2.2.2.1), (hX.2.2.2.2.2.2.2.2.2.2.2.2.2.2.2.2.2.2.2.2.2.2.2.2.2.2.2.2.2.2.2.2.2.2.2.2.2.2.2.2.2.2.2.2.2.2.2.2.2.2.2.1), (hX.2.2.2.2.2.2.2.2.2.2.2.2.2.2.2.2.2.2.2.2.2.2.2.2.2.2.2.2.2.2.2.2.2.2.2.2.2.2.2.2.2.2.2.2.2.2.2.2.2.2.2.2.1), (hX.2.2.2.2.2.2.2.2.2.2.2.2.2.2.2.2.2.2.2.2.2.2.2.2.2.2.2.2.2.2.2.2.2.2.2.2.2.2.2.2.2.2.2.2.2.2.2.2.2.2.2.2.2.1), (hX.2.2.2.2.2.2.2.2.2.2.2.2.2.2.2.2.2.2.2.2.2.2.2.2.2.2.2.2.2.2.2.2.2.2.2.2.2.2.2.2.2.2.2.2.2.2.2.2.2.2.2.2.2.2.1), (hX.2.2.2.2.2.2.2.2.2.2.2.2.2.2.2.2.2.2.2.2.2.2.2.2.2.2.2.2.2.2.2.2.2.2.2.2.2.2.2.2.2.2.2.2.2.2.2.2.2.2.2.2.2.2.2.1), (hX.2.2.2.2.2.2.2.2.2.2.2.2.2.2.2.2.2.2.2.2.2.2.2.2.2.2.2.2.2.2.2.2.2.2.2.2.2.2.2.2.2.2.2.2.2.2.2.2.2.2.2.2.2.2.2.2.1), (hX.2.2.2.2.2.2.2.2.2.2.2.2.2.2.2.2.2.2.2.2.2.2.2.2.2.2.2.2.2.2.2.2.2.2.2.2.2.2.2.2.2.2.2.2.2.2.2.2.2.2.2.2.2.2.2.2.2.1), (hX.2.2.2.2.2.2.2.2.2.2.2.2.2.2.2.2.2.2.2.2.2.2.2.2.2.2.2.2.2.2.2.2.2.2.2.2.2.2.2.2.2.2.2.2.2.2.2.2.2.2.2.2.2.2.2.2.2.2.1), (hX.2.2.2.2.2.2.2.2.2.2.2.2.2.2.2.2.2.2.2.2.2.2.2.2.2.2.2.2.2.2.2.2.2.2.2.2.2.2.2.2.2.2.2.2.2.2.2.2.2.2.2.2.2.2.2.2.2.2.2.1), (hX.2.2.2.2.2.2.2.2.2.2.2.2.2.2.2.2.2.2.2.2.2.2.2.2.2.2.2.2.2.2.2.2.2.2.2.2.2.2.2.2.2.2.2.2.2.2.2.2.2.2.2.2.2.2.2.2.2.2.2.2.1), (hX.2.2.2.2.2.2.2.2.2.2.2.2.2.2.2.2.2.2.2.2.2.2.2.2.2.2.2.2.2.2.2.2.2.2.2.2.2.2.2.2.2.2.2.2.2.2.2.2.2.2.2.2.2.2.2.2.2.2.2.2.2.1), (hX.2.2.2.2.2.2.2.2.2.2.2.2.2.2.2.2.2.2.2.2.2.2.2.2.2.2.2.2.2.2.2.2.2.2.2.2.2.2.2.2.2.2.2.2.2.2.2.2.2.2.2.2.2.2.2.2.2.2.2.2.2.2.1), (hX.2.2.2.2.2.2.2.2.2.2.2.2.2.2.2.2.2.2.2.2.2.2.2.2.2.2.2.2.2.2.2.2.2.2.2.2.2.2.2.2.2.2.2.2.2.2.2.2.2.2.2.2.2.2.2.2.2.2.2.2.2.2.2.1), (hX.2.2.2.2.2.2.2.2.2.2.2.2.2.2.2.2.2.2.2.2.2.2.2.2.2.2.2.2.2.2.2.2.2.2.2.2.2.2.2.2.2.2.2.2.2.2.2.2.2.2.2.2.2.2.2.2.2.2.2.2.2.2.2.2.1), (hX.2.2.2.2.2.2.2.2.2.2.2.2.2.2.2.2.2.2.2.2.2.2.2.2.2.2.2.2.2.2.2.2.2.2.2.2.2.2.2.2.2.2.2.2.2.2.2.2.2.2.2.2.2.2.2.2.2.2.2.2.2.2.2.2.2.1), (hX.2.2.2.2.2.2.2.2.2.2.2.2.2.2.2.2.2.2.2.2.2.2.2.2.2.2.2.2.2.2.2.2.2.2.2.2.2.2.2.2.2.2.2.2.2.2.2.2.2.2.2.2.2.2.2.2.2.2.2.2.2.2.2.2.2.2.1), (hX.2.2.2.2.2.2.2.2.2.2.2.2.2.2.2.2.2.2.2.2.2.2.2.2.2.2.2.2.2.2.2.2.2.2.2.2.2.2.2.2.2.2.2.2.2.2.2.2.2.2.2.2.2.2.2.2.2.2.2.2.2.2.2.2.2.2.2.1), (hX.2.2.2.2.2.2.2.2.2.2.2.2.2.2.2.2.2.2.2.2.2.2.2.2.2.2.2.2.2.2.2.2.2.2.2.2.2.2.2.2.2.2.2.2.2.2.2.2.2.2.2.2.2.2.2.2.2.2.2.2.2.2.2.2.2.2.2.2.1), (hX.2.2.2.2.2.2.2.2.2.2.2.2.2.2.2.2.2.2.2.2.2.2.2.2.2.2.2.2.2.2.2.2.2.2.2.2.2.2.2.2.2.2.2.2.2.2.2.2.2.2.2.2.2.2.2.2.2.2.2.2.2.2.2.2.2.2.2.2.2.1), (hX.2.2.2.2.2.2.2.2.2.2.2.2.2.2.2.2.2.2.2.2.2.2.2.2.2.2.2.2.2.2.2.2.2.2.2.2.2.2.2.2.2.2.2.2.2.2.2.2.2.2.2.2.2.2.2.2.2.2.2.2.2.2.2.2.2.2.2.2.2.2.1), (hX.2.2.2.2.2.2.2.2.2.2.2.2.2.2.2.2.2.2.2.2.2.2.2.2.2.2.2.2.2.2.2.2.2.2.2.2.2.2.2.2.2.2.2.2.2.2.2.2.2.2.2.2.2.2.2.2.2.2.2.2.2.2.2.2.2.2.2.2.2.2.2.1), (hX.2.2.2.2.2.2.2.2.2.2.2.2.2.2.2.2.2.2.2.2.2.2.2.2.2.2.2.2.2.2.2.2.2.2.2.2.2.2.2.2.2.2.2.2.2.2.2.2.2.2.2.2.2.2.2.2.2.2.2.2.2.2.2.2.2.2.2.2.2.2.2.2.1), (hX.2.2.2.2.2.2.2.2.2.2.2.2.2.2.2.2.2.2.2.2.2.2.2.2.2.2.2.2.2.2.2.2.2.2.2.2.2.2.2.2.2.2.2.2.2.2.2.2.2.2.2.2.2.2.2.2.2.2.2.2.2.2.2.2.2.2.2.2.2.2.2.2.2)⟩ ⟨(hM.1), (hM.2.1), (hM.2.2.1), (hM.2.2.2.1), (hM.2.2.2.2.1), (hM.2.2.2.2.2.1), (hM.2.2.2.2.2.2.1), (hM.2.2.2.2.2.2.2.1), (hM.2.2.2.2.2.2.2.2.1), (hM.2.2.2.2.2.2.2.2.2.1), (hM.2.2.2.2.2.2.2.2.2.2.1), (hM.2.2.2.2.2.2.2.2.2.2.2.1), (hM.2.2.2.2.2.2.2.2.2.2.2.2)⟩ ⟨(hR.1), (hR.2.1), (hR.2.2.1), (hR.2.2.2.1), (hR.2.2.2.2.1), (hR.2.2.2.2.2.1), (hR.2.2.2.2.2.2)⟩ H locs hP hD hS ls (lv_sub hl [0, 1, 2, 3, 4] rfl)
theorem dL_law_594 : decode cL_law 594 = .ok (.aload_n 1, 1) := by decide +kernel
theorem dL_law_595 : decode cL_law 595 = .ok (.aload_n 0, 1) := by decide +kernel
theorem dL_law_596 : decode cL_law 596 = .ok (.iload 4, 2) := by decide +kernel
theorem dL_law_598 : decode cL_law 598 = .ok (.iconst 1, 1) := by decide +kernel
theorem dL_law_599 : decode cL_law 599 = .ok (.iadd, 1) := by decide +kernel
theorem dL_law_600 : decode cL_law 600 = .ok (.iaload, 1) := by decide +kernel
theorem dL_law_601 : decode cL_law 601 = .ok (.invokevirtual 69, 3) := by decide +kernel
theorem t721 : Cond.methodLink RL 69 yX10_now ∈ GW := gw_mem 835 (by decide +kernel) (by decide +kernel)
theorem t722 : Cond.instanceMethod yX10_now ∈ GW := gw_mem 836 (by decide +kernel) (by decide +kernel)
theorem t723 : Cond.selects RX10 yX10_now yX10_now ∈ GW := gw_mem 837 (by decide +kernel) (by decide +kernel)
theorem cw_L_69 {R : Room} {s : State} {args : Array Value} {rm : Room} {mc ms : Nat} (hts : ∀ w ∈ GW, w.before args s = true) (hrc : rm.cells = mc) (hrs : rm.slots = ms) (hR : rm.frames + 1 ≤ R.frames ∧ 8 + (2 + 11) + rm.locals ≤ R.locals) : CallW R s args RL RX10 69 yX10_now cX10_now 2 (some .int) (wl yX10_now cX10_now 2 (some .int)) rm mc ms 1 := cwV 1 hts (gi_V t721 t722 t723 t1 t724) rfl hrc hrs (by decide +kernel) hR
theorem dL_law_604 : decode cL_law 604 = .ok (.pop, 1) := by decide +kernel
theorem dL_law_605 : decode cL_law 605 = .ok (.aload_n 2, 1) := by decide +kernel
theorem dL_law_606 : decode cL_law 606 = .ok (.aload_n 0, 1) := by decide +kernel
theorem dL_law_607 : decode cL_law 607 = .ok (.iload 4, 2) := by decide +kernel
theorem dL_law_609 : decode cL_law 609 = .ok (.iconst 1, 1) := by decide +kernel
theorem dL_law_610 : decode cL_law 610 = .ok (.iadd, 1) := by decide +kernel
theorem dL_law_611 : decode cL_law 611 = .ok (.iaload, 1) := by decide +kernel
theorem dL_law_612 : decode cL_law 612 = .ok (.invokevirtual 72, 3) := by decide +kernel
theorem t1775 : Cond.methodLink RL 72 yX11_now ∈ GW := gw_mem 1889 (by decide +kernel) (by decide +kernel)
theorem t1776 : Cond.instanceMethod yX11_now ∈ GW := gw_mem 1890 (by decide +kernel) (by decide +kernel)
theorem t1777 : Cond.selects RX11 yX11_now yX11_now ∈ GW := gw_mem 1891 (by decide +kernel) (by decide +kernel)
theorem cw_L_72 {R : Room} {s : State} {args : Array Value} {rm : Room} {mc ms : Nat} (hts : ∀ w ∈ GW, w.before args s = true) (hrc : rm.cells = mc) (hrs : rm.slots = ms) (hR : rm.frames + 1 ≤ R.frames ∧ 8 + (4 + 11) + rm.locals ≤ R.locals) : CallW R s args RL RX11 72 yX11_now cX11_now 4 (some .int) (wl yX11_now cX11_now 4 (some .int)) rm mc ms 1 := cwV 1 hts (gi_V t1775 t1776 t1777 t18 t1778) rfl hrc hrs (by decide +kernel) hR
theorem dL_law_615 : decode cL_law 615 = .ok (.pop, 1) := by decide +kernel
theorem dL_law_616 : decode cL_law 616 = .ok (.goto 812, 3) := by decide +kernel
set_option maxHeartbeats 8000000 in
set_option maxRecDepth 100000 in
theorem lc_11 {p : Program} {l : Launch} {e : Env} {s : State} {m : MethodId} {below : List Frame} {meth : Method} {c : Code} {b L : Nat} {xs : Nat → Int32} (hl0 : l.stackTraces = false) (C0 : lw_At p s m meth c b L xs) (hL : L ≤ 3072) (dC : Nat → ClassId) (dI : Nat → Nat → Nat) (cy : Nat → ClassId) (ad : Nat → Nat) (ai : Nat → Nat → Int32) (al : Nat → Nat → Int64) (aq : Nat → Nat → Option Nat) (fi : Nat → Nat → Int32) (fl : Int64) (nb : Nat) (am : Nat → Nat) (mi : Nat → Nat → Int32) (ml : Nat → Nat → Int64) (gi : Nat → Int32) (gw : Int64) (fo : Nat → Int64) (qo : Nat) (hK : va_K (dC, dI) vwCl (TY cy) s) (C S : Nat) (hC : C + 100 ≤ 500000) (hC2 : S + 1000 ≤ 7000000) (i4 : Int32) (hi4 : 0 ≤ i4.toInt ∧ i4.toInt + 6 ≤ (L : Int)) (ih : ∀ z4 : Int32, z4.toInt = i4.toInt + 6 → LH p l e s m below meth c b qo dC dI cy (C + 20) (S + 1000) z4) (hX : INX ad ai al aq fi fl nb) (hM : INM am mi ml gi gw) (hR : INR ad ai al aq fi fl nb am mi ml gi gw) {H : Heap} {locs : List Loc} (hP : va_P (dC, dI) vwCl (FX cy ad ai al aq fi fl nb ++ (FM cy am mi ml gi gw ++ FO cy qo fo)) H) (hD : va_D (FA s) (FX cy ad ai al aq fi fl nb ++ (FM cy am mi ml gi gw ++ FO cy qo fo))) (hS : va_S (FA s) s.heap H locs) {ls : Array Slot} (hl : lv_has ls 7 [(4, .int i4), (3, .ref qo), (2, .ref (am 0)), (1, .ref (ad 0)), (0, .ref b)]) : W p l e room_1 s m #[Value.ref b] below meth c H locs C S (lw_Z below #[Value.ref b] s) (F0 m 594 ls []) := by
  obtain ⟨hx, hb, hr, hml, hown, htsL, hXs, hbl, hlocks, hgv⟩ := id C0
  have hown : s.vm.findClass RL = some m.cls := hown
  have hts : ∀ w ∈ GW, w.before #[Value.ref b] s = true := fun w hw => htsL w (List.mem_filter.mp hw).1
  have hA : ∀ q : Nat, s.heap.size ≤ q → FA s q := fun _ h => h
  have hbA : ¬ FA s b := Nat.not_le.mpr hbl
  have hx0 := (hX.1)
  have hx4 := (hX.2.2.2.2.1)
  have hy0 := (hM.1)
  have hz0 := (hR.1)
  have hz6 := (hR.2.2.2.2.2.2)
  refine lv_aload_n hx hb dL_law_594 rfl (lv_at hl 3 rfl) ?_
  refine lv_aload_n hx hb dL_law_595 rfl (lv_at hl 4 rfl) ?_
  refine lv_iload hx hb dL_law_596 (lv_at hl 0 rfl) ?_
  refine lv_iconst (v := 1) hx hb dL_law_598 (by decide) ?_
  refine lv_iadd hx hb dL_law_599 ?_
  refine lv_topi (fun z_1 ez_1 => ?_)
  have sz_1 := sc_ix hL hi4 ez_1 (show (1 : Int32).toInt = 1 from rfl) (by decide) (by decide)
  refine va_sld hx hb hXs hbl hbA hS (sz_1.2 (by decide)) dL_law_600 ?_
  refine lv_topi (fun z_3 ez_3 => ?_)
  refine jr_i (rVr (As := [.int z_3]) (rest := []) (ci := 11) ⟨hx, hb, hml, hown, hts⟩ (g_now l dC dI cy (ad 0) (ad 1) (ad 4) (ad 5) (ad 10) (ad 23) (ad 24) (ad 25) (ad 27) (ad 28) (ad 29) (ad 30) (ad 31) (ad 54) (fi 0 13) (fi 0 14) (fi 0 15) (fi 0 16) (ad 32) (ad 38) (ad 49) (ad 33) (ad 34) (ad 35) (ad 36) (ad 37) (fi 32 5) (fi 32 6) (fi 32 7) (fi 32 8) (ai 35) (ai 36) (ad 39) (ad 40) (ad 41) (ad 42) (ad 43) (ad 44) (ad 45) (ad 46) (ad 47) (ad 48) (fi 38 10) (ai 40) (ai 41) (ai 42) (ai 43) (ai 44) z_3 (hX.2.2.2.2.2.2.2.1) (hX.2.2.2.2.2.2.2.2.1) (hX.2.2.2.2.2.2.2.2.2.2.2.2.2.2.2.2.2.2.2.2.2.2.2.2.2.2.2.2.2.1) (hX.2.2.2.2.2.2.2.2.2.2.2.2.2.2.2.2.2.2.2.2.2.2.2.2.2.2.2.2.2.2.1) (hX.2.2.2.2.2.2.2.2.2.2.2.2.2.2.2.2.2.2.2.2.2.2.2.2.2.2.2.2.2.2.2.1)) (cw_L_69 hts rfl rfl ⟨Nat.le_of_ble_eq_true rfl, Nat.le_of_ble_eq_true rfl⟩) (PML (Y := FX cy ad ai al aq fi fl nb) (Z := FM cy am mi ml gi gw ++ FO cy qo fo) hP) hK [0, 31, 32, 35, 36, 38, 40, 41, 42, 43, 44] rfl rfl rfl rfl hl.1 rfl (Nat.le_of_ble_eq_true rfl) dL_law_601 ⟨Nat.le_trans (c_le (a := 0) hC (by decide)) (Nat.le_of_ble_eq_true rfl), Nat.le_trans (s_le (a := 0) hC2 (by decide)) (Nat.le_of_ble_eq_true rfl)⟩) hP hS (fun r_4 H locs hp_5 hP hS => ?_)
  refine lv_pop hx hb dL_law_604 rfl ?_
  refine lv_aload_n hx hb dL_law_605 rfl (lv_at hl 2 rfl) ?_
  refine lv_aload_n hx hb dL_law_606 rfl (lv_at hl 4 rfl) ?_
  refine lv_iload hx hb dL_law_607 (lv_at hl 0 rfl) ?_
  refine lv_iconst (v := 1) hx hb dL_law_609 (by decide) ?_
  refine lv_iadd hx hb dL_law_610 ?_
  refine lv_topi (fun z_6 ez_6 => ?_)
  have sz_6 := sc_ix hL hi4 ez_6 (show (1 : Int32).toInt = 1 from rfl) (by decide) (by decide)
  refine va_sld hx hb hXs hbl hbA hS (sz_6.2 (by decide)) dL_law_611 ?_
  refine lv_topi (fun z_8 ez_8 => ?_)
  refine as_i z_3 (i_eq.mpr (i_same ez_3 ez_8 (sz_6.1.trans sz_1.1.symm))) ?_
  refine jm_i (X := FX cy ad ai al aq fi fl nb) (Y := FM cy am mi ml gi gw) (Z := FO cy qo fo) (rV (As := [.int z_3]) (rest := []) (ci := 12) ⟨hx, hb, hml, hown, hts⟩ (m_now l dC dI cy _ (mi 2) (am 0) (gi 0) (am 1) (gi 2) (gi 3) (gi 4) (gi 5) (gi 6) (gi 7) (gi 8) (gi 9) (gi 10) (gi 11) gw (gi 13) (am 2) (am 3) (am 4) (am 5) (am 6) (am 7) (am 8) (am 9) (am 10) (am 11) (gi 24) (gi 25) (am 12) (am 13) (am 14) (gi 29) (am 15) (am 16) (gi 32) (gi 33) (gi 34) (am 17) (gi 36) (gi 37) (am 18) (am 19) (gi 40) (gi 41) (am 20) (gi 43) (gi 44) (gi 45) (gi 46) (mi 2) z_3 (hM.2.2.2.2.2.2.2.1)) (cw_L_72 hts rfl rfl ⟨Nat.le_of_ble_eq_true rfl, Nat.le_of_ble_eq_true rfl⟩) (PM (X := FX cy ad ai al aq fi fl nb) (Y := FM cy am mi ml gi gw) (Z := FO cy qo fo) hP) (DM (X := FX cy ad ai al aq fi fl nb) (Y := FM cy am mi ml gi gw) (Z := FO cy qo fo) hD) hK [0, 2] rfl rfl rfl rfl bl0 e0 rfl hl.1 rfl (Nat.le_of_ble_eq_true rfl) dL_law_612 ⟨Nat.le_trans (c_le (a := 0) hC (by decide)) (Nat.le_of_ble_eq_true rfl), Nat.le_trans (s_le (a := 0) hC2 (by decide)) (Nat.le_of_ble_eq_true rfl)⟩) hP hD hS hA [0, 2] rfl (fun _ => rfl) (fun r_9 u_11 H locs hp_10 hP hD hS => ?_)
  obtain ⟨voth_12, rfl⟩ : ∃ z, z = u_11 := ⟨_, rfl⟩
  refine lv_pop hx hb dL_law_615 rfl ?_
  refine lv_goto (tgt := 1428) hx hb dL_law_616 (by decide) ?_
  obtain ⟨z_13, ez_13⟩ : ∃ z : Int32, z = i4 + 6 := ⟨_, rfl⟩
  have sz_13 := sc_ix hL hi4 ez_13 (show (6 : Int32).toInt = 6 from rfl) (by decide) (by decide)
  refine lv_iinc (v := z_13) (lv' := [(4, .int z_13), (3, .ref qo), (2, .ref (am 0)), (1, .ref (ad 0)), (0, .ref b)]) hx hb dL_law_1428 hl (k := 0) rfl ez_13.symm (by decide) rfl (fun ls hl => ?_)
  refine lv_goto (tgt := 23) hx hb dL_law_1431 (by decide) ?_
  have k_0 : (0 : Int32).toInt = 0 := by decide
  refine W.widen (k := C + 20) (n := S + 1000) (Nat.le_add_right _ _) (Nat.le_add_right _ _) ?_
  have e2 : (sets (FM cy am mi ml gi gw) [0, 2] (O_m_now cy (mi 2) (am 0) (gi 0) (am 1) (gi 2) (gi 3) (gi 4) (gi 5) (gi 6) (gi 7) (gi 8) (gi 9) (gi 10) (gi 11) gw (gi 13) (am 2) (am 3) (am 4) (am 5) (am 6) (am 7) (am 8) (am 9) (am 10) (am 11) (gi 24) (gi 25) (am 12) (am 13) (am 14) (gi 29) (am 15) (am 16) (gi 32) (gi 33) (gi 34) (am 17) (gi 36) (gi 37) (am 18) (am 19) (gi 40) (gi 41) (am 20) (gi 43) (gi 44) (gi 45) (gi 46) (mi 2) z_3 voth_12)) = FM cy am mi ml (sI gi 0 voth_12) gw := rfl
  rw [e2] at hP hD
  exact ih z_13 sz_13.1 ad ai al aq fi fl nb am mi ml (sI gi 0 voth_12) gw fo ⟨(hX.1), (hX.2.1), (hX.2.2.1), (hX.2.2.2.1), (hX.2.2.2.2.1), (hX.2.2.2.2.2.1), (hX.2.2.2.2.2.2.1), (hX.2.2.2.2.2.2.2.1), (hX.2.2.2.2.2.2.2.2.1), (hX.2.2.2.2.2.2.2.2.2.1), (hX.2.2.2.2.2.2.2.2.2.2.1), (hX.2.2.2.2.2.2.2.2.2.2.2.1), (hX.2.2.2.2.2.2.2.2.2.2.2.2.1), (hX.2.2.2.2.2.2.2.2.2.2.2.2.2.1), (hX.2.2.2.2.2.2.2.2.2.2.2.2.2.2.1), (hX.2.2.2.2.2.2.2.2.2.2.2.2.2.2.2.1), (hX.2.2.2.2.2.2.2.2.2.2.2.2.2.2.2.2.1), (hX.2.2.2.2.2.2.2.2.2.2.2.2.2.2.2.2.2.1), (hX.2.2.2.2.2.2.2.2.2.2.2.2.2.2.2.2.2.2.1), (hX.2.2.2.2.2.2.2.2.2.2.2.2.2.2.2.2.2.2.2.1), (hX.2.2.2.2.2.2.2.2.2.2.2.2.2.2.2.2.2.2.2.2.1), (hX.2.2.2.2.2.2.2.2.2.2.2.2.2.2.2.2.2.2.2.2.2.1), (hX.2.2.2.2.2.2.2.2.2.2.2.2.2.2.2.2.2.2.2.2.2.2.1), (hX.2.2.2.2.2.2.2.2.2.2.2.2.2.2.2.2.2.2.2.2.2.2.2.1), (hX.2.2.2.2.2.2.2.2.2.2.2.2.2.2.2.2.2.2.2.2.2.2.2.2.1), (hX.2.2.2.2.2.2.2.2.2.2.2.2.2.2.2.2.2.2.2.2.2.2.2.2.2.1), (hX.2.2.2.2.2.2.2.2.2.2.2.2.2.2.2.2.2.2.2.2.2.2.2.2.2.2.1), (hX.2.2.2.2.2.2.2.2.2.2.2.2.2.2.2.2.2.2.2.2.2.2.2.2.2.2.2.1), (hX.2.2.2.2.2.2.2.2.2.2.2.2.2.2.2.2.2.2.2.2.2.2.2.2.2.2.2.2.1), (hX.2.2.2.2.2.2.2.2.2.2.2.2.2.2.2.2.2.2.2.2.2.2.2.2.2.2.2.2.2.1), (hX.2.2.2.2.2.2.2.2.2.2.2.2.2.2.2.2.2.2.2.2.2.2.2.2.2.2.2.2.2.2.1), (hX.2.2.2.2.2.2.2.2.2.2.2.2.2.2.2.2.2.2.2.2.2.2.2.2.2.2.2.2.2.2.2.1), (hX.2.2.2.2.2.2.2.2.2.2.2.2.2.2.2.2.2.2.2.2.2.2.2.2.2.2.2.2.2.2.2.2.1), (hX.2.2.2.2.2.2.2.2.2.2.2.2.2.2.2.2.2.2.2.2.2.2.2.2.2.2.2.2.2.2.2.2.2.1), (hX.2.2.2.2.2.2.2.2.2.2.2.2.2.2.2.2.2.2.2.2.2.2.2.2.2.2.2.2.2.2.2.2.2.2.1), (hX.2.2.2.2.2.2.2.2.2.2.2.2.2.2.2.2.2.2.2.2.2.2.2.2.2.2.2.2.2.2.2.2.2.2.2.1), (hX.2.2.2.2.2.2.2.2.2.2.2.2.2.2.2.2.2.2.2.2.2.2.2.2.2.2.2.2.2.2.2.2.2.2.2.2.1), (hX.2.2.2.2.2.2.2.2.2.2.2.2.2.2.2.2.2.2.2.2.2.2.2.2.2.2.2.2.2.2.2.2.2.2.2.2.2.1), (hX.2.2.2.2.2.2.2.2.2.2.2.2.2.2.2.2.2.2.2.2.2.2.2.2.2.2.2.2.2.2.2.2.2.2.2.2.2.2.1), (hX.2.2.2.2.2.2.2.2.2.2.2.2.2.2.2.2.2.2.2.2.2.2.2.2.2.2.2.2.2.2.2.2.2.2.2.2.2.2.2.1), (hX.2.2.2.2.2.2.2.2.2.2.2.2.2.2.2.2.2.2.2.2.2.2.2.2.2.2.2.2.2.2.2.2.2.2.2.2.2.2.2.2.1), (hX.2.2.2.2.2.2.2.2.2.2.2.2.2.2.2.2.2.2.2.2.2.2.2.2.2.2.2.2.2.2.2.2.2.2.2.2.2.2.2.2.2.1), (hX.2.2.2.2.2.2.2.2.2.2.2.2.2.2.2.2.2.2.2.2.2.2.2.2.2.2.2.2.2.2.2.2.2.2.2.2.2.2.2.2.2.2.1), (hX.2.2.2.2.2.2.2.2.2.2.2.2.2.2.2.2.2.2.2.2.2.2.2.2.2.2.2.2.2.2.2.2.2.2.2.2.2.2.2.2.2.2.2.1), (hX.2.2.2.2.2.2.2.2.2.2.2.2.2.2.2.2.2.2.2.2.2.2.2.2.2.2.2.2.2.2.2.2.2.2.2.2.2.2.2.2.2.2.2.2.1), (hX.2.2.2.2.2.2.2.2.2.2.2.2.2.2.2.2.2.2.2.2.2.2.2.2.2.2.2.2.2.2.2.2.2.2.2.2.2.2.2.2.2.2.2.2.2.1), (hX.2.2.2.2.2.2.2.2.2.2.2.2.2.2.2.2.2.2.2.2.2.2.2.2.2.2.2.2.2.2.2.2.2.2.2.2.2.2.2.2.2.2.2.2.2.2.1), (hX.2.2.2.2.2.2.2.2.2.2.2.2.2.2.2.2.2.2.2.2.2.2.2.2.2.2.2.2.2.2.2.2.2.2.2.2.2.2.2.2.2.2.2.2.2.2.2.1), (hX.2.2.2.2.2.2.2.2.2.2.2.2.2.2.2.2.2.2.2.2.2.2.2.2.2.2.2.2.2.2.2.2.2.2.2.2.2.2.2.2.2.2.2.2.2.2.2.2.1), (hX.2.2.2.2.2.2.2.2.2.2.2.2.2.2.2.2.2.2.2.2.2.2.2.2.2.2.2.2.2.2.2.2.2.2.2.2.2.2.2.2.2.2.2.2.2.2.2.2.2.1), (hX.2.2.2.2.2.2.2.2.2.2.2.2.2.2.2.2.2.2.2.2.2.2.2.2.2.2.2.2.2.2.2.2.2.2.2.2.2.2.2.2.2.2.2.2.2.2.2.2.2.2.1), (hX.2.2.2.2.2.2.2.2.2.2.2.2.2.2.2.2.2.2.2.2.2.2.2.2.2.2.2.2.2.2.2.2.2.2.2.2.2.2.2.2.2.2.2.2.2.2.2.2.2.2.2.1), (hX.2.2.2.2.2.2.2.2.2.2.2.2.2.2.2.2.2.2.2.2.2.2.2.2.2.2.2.2.2.2.2.2.2.2.2.2.2.2.2.2.2.2.2.2.2.2.2.2.2.2.2.2.1), (hX.2.2.2.2.2.2.2.2.2.2.2.2.2.2.2.2.2.2.2.2.2.2.2.2.2.2.2.2.2.2.2.2.2.2.2.2.2.2.2.2.2.2.2.2.2.2.2.2.2.2.2.2.2.1), (hX.2.2.2.2.2.2.2.2.2.2.2.2.2.2.2.2.2.2.2.2.2.2.2.2.2.2.2.2.2.2.2.2.2.2.2.2.2.2.2.2.2.2.2.2.2.2.2.2.2.2.2.2.2.2.1), (hX.2.2.2.2.2.2.2.2.2.2.2.2.2.2.2.2.2.2.2.2.2.2.2.2.2.2.2.2.2.2.2.2.2.2.2.2.2.2.2.2.2.2.2.2.2.2.2.2.2.2.2.2.2.2.2.1), (hX.2.2.2.2.2.2.2.2.2.2.2.2.2.2.2.2.2.2.2.2.2.2.2.2.2.2.2.2.2.2.2.2.2.2.2.2.2.2.2.2.2.2.2.2.2.2.2.2.2.2.2.2.2.2.2.2.1), (hX.2.2.2.2.2.2.2.2.2.2.2.2.2.2.2.2.2.2.2.2.2.2.2.2.2.2.2.2.2.2.2.2.2.2.2.2.2.2.2.2.2.2.2.2.2.2.2.2.2.2.2.2.2.2.2.2.2.1), (hX.2.2.2.2.2.2.2.2.2.2.2.2.2.2.2.2.2.2.2.2.2.2.2.2.2.2.2.2.2.2.2.2.2.2.2.2.2.2.2.2.2.2.2.2.2.2.2.2.2.2.2.2.2.2.2.2.2.2.1), (hX.2.2.2.2.2.2.2.2.2.2.2.2.2.2.2.2.2.2.2.2.2.2.2.2.2.2.2.2.2.2.2.2.2.2.2.2.2.2.2.2.2.2.2.2.2.2.2.2.2.2.2.2.2.2.2.2.2.2.2.1), (hX.2.2.2.2.2.2.2.2.2.2.2.2.2.2.2.2.2.2.2.2.2.2.2.2.2.2.2.2.2.2.2.2.2.2.2.2.2.2.2.2.2.2.2.2.2.2.2.2.2.2.2.2.2.2.2.2.2.2.2.2.1), (hX.2.2.2.2.2.2.2.2.2.2.2.2.2.2.2.2.2.2.2.2.2.2.2.2.2.2.2.2.2.2.2.2.2.2.2.2.2.2.2.2.2.2.2.2.2.2.2.2.2.2.2.2.2.2.2.2.2.2.2.2.2.1), (hX.2.2.2.2.2.2.2.2.2.2.2.2.2.2.2.2.2.2.2.2.2.2.2.2.2.2.2.2.2.2.2.2.2.2.2.2.2.2.2.2.2.2.2.2.2.2.2.2.2.2.2.2.2.2.2.2.2.2.2.2.2.2.1), (hX.2.2.2.2.2.2.2.2.2.2.2.2.2.2.2.2.2.2.2.2.2.2.2.2.2.2.2.2.2.2.2.2.2.2.2.2.2.2.2.2.2.2.2.2.2.2.2.2.2.2.2.2.2.2.2.2.2.2.2.2.2.2.2.1), (hX.2.2.2.2.2.2.2.2.2.2.2.2.2.2.2.2.2.2.2.2.2.2.2.2.2.2.2.2.2.2.2.2.2.2.2.2.2.2.2.2.2.2.2.2.2.2.2.2.2.2.2.2.2.2.2.2.2.2.2.2.2.2.2.2.1), (hX.2.2.2.2.2.2.2.2.2.2.2.2.2.2.2.2.2.2.2.2.2.2.2.2.2.2.2.2.2.2.2.2.2.2.2.2.2.2.2.2.2.2.2.2.2.2.2.2.2.2.2.2.2.2.2.2.2.2.2.2.2.2.2.2.2.1), (hX.2.2.2.2.2.2.2.2.2.2.2.2.2.2.2.2.2.2.2.2.2.2.2.2.2.2.2.2.2.2.2.2.2.2.2.2.2.2.2.2.2.2.2.2.2.2.2.2.2.2.2.2.2.2.2.2.2.2.2.2.2.2.2.2.2.2.1), (hX.2.2.2.2.2.2.2.2.2.2.2.2.2.2.2.2.2.2.2.2.2.2.2.2.2.2.2.2.2.2.2.2.2.2.2.2.2.2.2.2.2.2.2.2.2.2.2.2.2.2.2.2.2.2.2.2.2.2.2.2.2.2.2.2.2.2.2.1), (hX.2.2.2.2.2.2.2.2.2.2.2.2.2.2.2.2.2.2.2.2.2.2.2.2.2.2.2.2.2.2.2.2.2.2.2.2.2.2.2.2.2.2.2.2.2.2.2.2.2.2.2.2.2.2.2.2.2.2.2.2.2.2.2.2.2.2.2.2.1), (hX.2.2.2.2.2.2.2.2.2.2.2.2.2.2.2.2.2.2.2.2.2.2.2.2.2.2.2.2.2.2.2.2.2.2.2.2.2.2.2.2.2.2.2.2.2.2.2.2.2.2.2.2.2.2.2.2.2.2.2.2.2.2.2.2.2.2.2.2.2.1), (hX.2.2.2.2.2.2.2.2.2.2.2.2.2.2.2.2.2.2.2.2.2.2.2.2.2.2.2.2.2.2.2.2.2.2.2.2.2.2.2.2.2.2.2.2.2.2.2.2.2.2.2.2.2.2.2.2.2.2.2.2.2.2.2.2.2.2.2.2.2.2.1), (hX.2.2.2.2.2.2.2.2.2.2.2.2.2.2.2.2.2.2.2.2.2.2.2.2.2.2.2.2.2.2.2.2.2.2.2.2.2.2.2.2.2.2.2.2.2.2.2.2.2.2.2.2.2.2.2.2.2.2.2.2.2.2.2.2.2.2.2.2.2.2.2.1), (hX.2.2.2.2.2.2.2.2.2.2.2.2.2.2.2.2.2.2.2.2.2.2.2.2.2.2.2.2.2.2.2.2.2.2.2.2.2.2.2.2.2.2.2.2.2.2.2.2.2.2.2.2.2.2.2.2.2.2.2.2.2.2.2.2.2.2.2.2.2.2.2.2.1), (hX.2.2.2.2.2.2.2.2.2.2.2.2.2.2.2.2.2.2.2.2.2.2.2.2.2.2.2.2.2.2.2.2.2.2.2.2.2.2.2.2.2.2.2.2.2.2.2.2.2.2.2.2.2.2.2.2.2.2.2.2.2.2.2.2.2.2.2.2.2.2.2.2.2)⟩ ⟨(hM.1), (hM.2.1), (hM.2.2.1), (hM.2.2.2.1), (hM.2.2.2.2.1), (hM.2.2.2.2.2.1), (hM.2.2.2.2.2.2.1), (hM.2.2.2.2.2.2.2.1), (hM.2.2.2.2.2.2.2.2.1), (hM.2.2.2.2.2.2.2.2.2.1), (hM.2.2.2.2.2.2.2.2.2.2.1), (hM.2.2.2.2.2.2.2.2.2.2.2.1), (hM.2.2.2.2.2.2.2.2.2.2.2.2)⟩ ⟨(hR.1), (hR.2.1), (hR.2.2.1), (hR.2.2.2.1), (hR.2.2.2.2.1), (hR.2.2.2.2.2.1), (hR.2.2.2.2.2.2)⟩ H locs hP hD hS ls (lv_sub hl [0, 1, 2, 3, 4] rfl)
