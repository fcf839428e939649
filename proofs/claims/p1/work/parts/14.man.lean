abbrev cX10_man : ByteArray := prog_1_method_6_code
def yX10_man : MethodName := ⟨RX10, "man", "(II)I"⟩
theorem t1357 : Cond.code yX10_man cX10_man 3 (some .int) ∈ GW := gw_mem 1471 (by decide +kernel) (by decide +kernel)
theorem t1358 : Cond.classLink RX10 132 "java/util/NoSuchElementException" ∈ GW := gw_mem 1472 (by decide +kernel) (by decide +kernel)
theorem t22 : Cond.initialized "java/util/NoSuchElementException" ∈ GW := gw_mem 136 (by decide +kernel) (by decide +kernel)
theorem dX10_man_0 : decode cX10_man 0 = .ok (.aload_n 0, 1) := by decide +kernel
theorem dX10_man_1 : decode cX10_man 1 = .ok (.iload_n 1, 1) := by decide +kernel
theorem dX10_man_2 : decode cX10_man 2 = .ok (.invokevirtual 128, 3) := by decide +kernel
theorem dX10_man_5 : decode cX10_man 5 = .ok (.ifCond .eq 13, 3) := by decide +kernel
theorem dX10_man_18 : decode cX10_man 18 = .ok (.new 132, 3) := by decide +kernel
theorem dX10_man_21 : decode cX10_man 21 = .ok (.dup, 1) := by decide +kernel
theorem dX10_man_22 : decode cX10_man 22 = .ok (.invokespecial 134, 3) := by decide +kernel
theorem dX10_man_25 : decode cX10_man 25 = .ok (.athrow, 1) := by decide +kernel
def RL : String := "LikenessPoundLaw"
abbrev cL_man : ByteArray := method_3_code
def yL_man : MethodName := ⟨RL, "man", "(LLikenessPound;II[J)I"⟩
theorem dL_man_0 : decode cL_man 0 = .ok (.aload_n 3, 1) := by decide +kernel
theorem dL_man_1 : decode cL_man 1 = .ok (.iconst 0, 1) := by decide +kernel
theorem dL_man_2 : decode cL_man 2 = .ok (.aload_n 0, 1) := by decide +kernel
theorem dL_man_3 : decode cL_man 3 = .ok (.iload_n 1, 1) := by decide +kernel
theorem dL_man_4 : decode cL_man 4 = .ok (.iload_n 2, 1) := by decide +kernel
theorem dL_man_5 : decode cL_man 5 = .ok (.invokevirtual 7, 3) := by decide +kernel
theorem dL_man_13 : decode cL_man 13 = .ok (.astore 4, 2) := by decide +kernel
theorem dL_man_15 : decode cL_man 15 = .ok (.iconst 1, 1) := by decide +kernel
theorem dL_man_16 : decode cL_man 16 = .ok (.ireturn, 1) := by decide +kernel
theorem t1354 : Cond.methodLink RL 7 yX10_man ∈ GW := gw_mem 1468 (by decide +kernel) (by decide +kernel)
theorem t1355 : Cond.instanceMethod yX10_man ∈ GW := gw_mem 1469 (by decide +kernel) (by decide +kernel)
theorem t1356 : Cond.selects RX10 yX10_man yX10_man ∈ GW := gw_mem 1470 (by decide +kernel) (by decide +kernel)
theorem cw_L_7 {R : Room} {s : State} {args : Array Value} {rm : Room} {mc ms : Nat} (hts : ∀ w ∈ GW, w.before args s = true) (hrc : rm.cells = mc) (hrs : rm.slots = ms) (hR : rm.frames + 1 ≤ R.frames ∧ 8 + (3 + 11) + rm.locals ≤ R.locals) : CallW R s args RL RX10 7 yX10_man cX10_man 3 (some .int) (wl yX10_man cX10_man 3 (some .int)) rm mc ms 2 := cwV 2 hts (gi_V t1354 t1355 t1356 t1 t1357) rfl hrc hrs (by decide +kernel) hR
theorem t1352 : Cond.codeWith yL_man cL_man 5 (some .int) [(0, 10, 13, 13)] ∈ GW := gw_mem 1466 (by decide +kernel) (by decide +kernel)
theorem t1353 : Cond.classLink RL 13 "java/util/NoSuchElementException" ∈ GW := gw_mem 1467 (by decide +kernel) (by decide +kernel)
theorem t1350 : Cond.methodLink RL 38 yL_man ∈ GW := gw_mem 1464 (by decide +kernel) (by decide +kernel)
theorem t1351 : Cond.static yL_man ∈ GW := gw_mem 1465 (by decide +kernel) (by decide +kernel)
theorem t0 : Cond.initialized RL ∈ GW := gw_mem 114 (by decide +kernel) (by decide +kernel)
abbrev nse : String := "java/util/NoSuchElementException"
/-- what a throw asks of its surroundings -/
def EnvX (B : Nat → Prop) (U : State) : Prop := vx_Zq Bundle.tN "UNASSIGNED_STACK" Bundle.steD B U U.heap ∧ vx_Zq Bundle.tN "SUPPRESSED_SENTINEL" Bundle.listD B U U.heap ∧ va_Nw (.declares (Bundle.init0 "java/lang/RuntimeException")) U ∧ va_Nw (.declares (Bundle.init0 "java/lang/Exception")) U ∧ va_Nw (.declares (Bundle.init0 Bundle.tN)) U ∧ va_Nw (.castable nse nse) U
theorem EnvX.calling {B : Nat → Prop} (a : Array Value) (U : State) (g : JFrame) (mk : MethodId) (h : EnvX B U) : EnvX B (U.calling g mk a) := by
  obtain ⟨h1, h2, n1, n2, n3, n4⟩ := h
  have hv : U.vm = (U.calling g mk a).vm := rfl
  have ha : U.vm.Alike (U.calling g mk a).vm := Vm.Alike.refl U.vm
  exact ⟨vx_Zq.moved ha h1, vx_Zq.moved ha h2, va_Nw.same rfl hv n1, va_Nw.same rfl hv n2, va_Nw.same rfl hv n3, va_Nw.same rfl hv n4⟩
theorem EnvX.at {A B C : Nat → Prop} {s : State} {H : Heap} {locs : List Loc} (h : EnvX B s) (hS : va_S A s.heap H locs) (hAB : ∀ q, A q → B q) (hCB : ∀ q, C q → B q) : ∀ U : State, U.heap = H → s.WarmedH U.vm → EnvX C U := by
  intro U hU hW
  obtain ⟨h1, h2, n1, n2, n3, n4⟩ := h
  have hk : ∀ a : Nat, a < s.heap.size → ¬ B a → U.heap[a]? = s.heap[a]? := fun a l1 l2 => by rw [hU]; exact hS.2.1 a l1 (fun z => l2 (hAB a z))
  exact ⟨((vx_Zq.moved hW.alike h1).kept hk).narrow hCB, ((vx_Zq.moved hW.alike h2).kept hk).narrow hCB, va_Nw.warmD hW n1, va_Nw.warmD hW n2, va_Nw.warmD hW n3, va_Nw.warmC hW n4⟩
abbrev nseUp : List String := ["java/lang/RuntimeException", "java/lang/Exception"]
theorem at0_in : ((vx_at0 RX10 134 nse nseUp).filter goodWord).all (fun w => decide (w ∈ lw_tbl)) = true := by decide +kernel
theorem at0_good {w : Cond} (h : w ∈ (vx_at0 RX10 134 nse nseUp).filter goodWord) : w ∈ GW := List.mem_filter.mpr ⟨of_decide_eq_true (List.all_eq_true.mp at0_in w h), (List.mem_filter.mp h).2⟩
theorem at0_rest : ∀ w ∈ (vx_at0 RX10 134 nse nseUp).filter (fun w => !goodWord w), w ∈ [Cond.declares (Bundle.init0 "java/lang/RuntimeException"), Cond.declares (Bundle.init0 "java/lang/Exception"), Cond.declares (Bundle.init0 Bundle.tN), Cond.castable nse nse] := by decide +kernel
theorem at0_ot : ∀ w ∈ Cond.classLink RX10 132 nse :: Cond.initialized nse :: vx_at0 RX10 134 nse nseUp, vx_ot w = true := by decide +kernel
abbrev Px (D : va_G) (cl : List vw_C) (cy : Nat → ClassId) (ws : va_W) (av : List Value) : Array Value → State → Prop := va_Pc av (fun U => va_P D cl ws U.heap ∧ va_K D cl (TY cy) U ∧ EnvX nB U)
theorem blind_x {D : va_G} {cl : List vw_C} {cy : Nat → ClassId} {ws : va_W} {av : List Value} : FrameBlind (Px D cl cy ws av) := fun a U g mk q => ⟨q.1, q.2.1, va_K.moved (u := U) (U := U.calling g mk a) (Vm.Alike.refl U.vm) q.2.2.1, EnvX.calling a U g mk q.2.2.2⟩
set_option maxHeartbeats 4000000 in
set_option maxRecDepth 100000 in
theorem k_man (l : Launch) (hl0 : l.stackTraces = false) (dC : Nat → ClassId) (dI : Nat → Nat → Nat) (cy : Nat → ClassId) (ad : Nat → Nat) (n0 n1 : Int32) : vx_Met l yX10_man (wl yX10_man cX10_man 3 (some .int)) ({ frames := 8, cells := 1, slots := 6, locals := 512 }) (Px (dC, dI) vwCl cy [(ad 0, .inr (11, [.ref (ad 1), .ref (ad 4), .ref (ad 5), .ref (ad 10), .ref (ad 23), .ref (ad 24), .ref (ad 25), .ref (ad 27), .ref (ad 28), .ref (ad 29), .ref (ad 30), .ref (ad 31), .ref (ad 54), .int 0, .int (-1), .int 0, .int 0])), (ad 31, .inr (10, [.ref (ad 32), .ref (ad 38), .ref (ad 49)])), (ad 32, .inr (2, [.ref (ad 33), .ref (ad 34), .ref (ad 35), .ref (ad 36), .ref (ad 37), .int 0, .int 0, .int 60, .int 10]))] [.ref (ad 0), .int n0, .int n1]) (Ri (fun _ => False)) (vx_X (fun _ : Unit => True) (fun E _ _ => E = nse) nB) 1 6 nB := by
  refine vx_ofW (cc := cX10_man) (maxL := 3) (ret := some .int) (by decide +kernel) rfl ?_
  intro p e s m args below meth c s₁ B hml htab hv
  obtain ⟨rfl, hP, hK, hE⟩ := hv
  have hx := B.exec
  have hb := B.bytes
  have hts0 := atoms_spec (ws := wl yX10_man cX10_man 3 (some .int)) B.pre
  have hts : ∀ w ∈ GW, w.before ([.ref (ad 0), .int n0, .int n1] : List Value).toArray s = true := fun w hw => hts0 w (List.mem_cons_of_mem _ hw)
  have hown : s.vm.findClass RX10 = some m.cls := findClass_of_methodNamed B.named
  have hlocks := B.notSynchronized
  have hS : va_S nB s.heap s.heap [] := va_S.rf
  have hl := lv_entry ([.ref (ad 0), .int n0, .int n1]) (n := 3) (Nat.le_of_ble_eq_true rfl)
  rw [lg_entry_eq]
  generalize (lg_sl ([.ref (ad 0), .int n0, .int n1]) ++ List.replicate (3 - (lg_sl ([.ref (ad 0), .int n0, .int n1])).length) Slot.unset).toArray = ls at hl ⊢
  have hl : lv_has ls 3 [(0, .ref (ad 0)), (1, .int n0), (2, .int n1)] := hl
  refine lv_aload_n hx hb dX10_man_0 rfl (lv_at hl 0 rfl) ?_
  refine lv_iload_n hx hb dX10_man_1 rfl (lv_at hl 1 rfl) ?_
  refine jr_i (rVr (As := [.int n0]) (rest := []) (ci := 11) ⟨hx, hb, hml, hown, hts⟩ (k_isMan l dC dI cy ad n0) (cw_X10_128 hts rfl rfl ⟨Nat.le_of_ble_eq_true rfl, Nat.le_of_ble_eq_true rfl⟩) hP hK [0, 1, 2] rfl rfl rfl rfl hl.1 rfl (Nat.le_of_ble_eq_true rfl) dX10_man_2 ⟨Nat.le_of_ble_eq_true rfl, Nat.le_of_ble_eq_true rfl⟩) hP hS (fun r H locs hp hP hS => ?_)
  refine as_i 0 hp ?_
  refine lv_if_eq (tgt := 18) hx hb dX10_man_5 (by decide) (fun _ => ?_) (fun c9 => absurd (by decide) c9)
  refine vx_throw0 (own := RX10) (cls := nse) (names := nseUp) (ik := 132) (ic := 134) (A := nB) hx hb hl0 hown (by decide +kernel) (by decide +kernel) (hts _ t1358) (hts _ t22) (vx_hat (fun w hw => hts w (at0_good hw)) at0_rest (vx_c (va_Nw.use rfl hE.2.2.1) (vx_c (va_Nw.use rfl hE.2.2.2.1) (vx_c (va_Nw.use rfl hE.2.2.2.2.1) (vx_c (va_Nw.use rfl hE.2.2.2.2.2) vx_n))))) at0_ot hE.1 hE.2.1 hS (by rw [hl.1, hml]) dX10_man_18 dX10_man_21 dX10_man_22 dX10_man_25 (fun x hx => (htab x hx).elim) (Nat.le_of_ble_eq_true rfl) (Nat.le_of_ble_eq_true rfl) (Nat.le_of_ble_eq_true rfl) (Nat.le_of_ble_eq_true rfl) hlocks (fun t ha hz hk => ⟨(), trivial, rfl, ⟨Nat.le_trans hS.1 hz, fun q h1 h2 => (hk q (Nat.lt_of_lt_of_le h1 hS.1)).trans (hS.2.1 q h1 h2)⟩⟩) (fun z hz => hS.2.2 z hz) (Nat.le_of_ble_eq_true rfl) (Nat.le_of_ble_eq_true rfl)
theorem met_of_vx {l : Launch} {y : MethodName} {ws : List Cond} {rm : Room} {Pc : Array Value → State → Prop} {Qc : Array Value → State → Outcome → State → Prop} {mc ms : Nat} {free : Addr → Prop} (h : vx_Met l y ws rm Pc Qc (fun _ _ _ => False) mc ms free) : Met l y ws rm Pc Qc mc ms free := by
  intro p e ha hc hk s m args below hf happ hP hK
  obtain ⟨n, o, h1, h2, h3, h4⟩ := h p e ha hc hk s m args below hf happ hP hK
  refine ⟨n, o, h1, h2, h3, ?_⟩
  rcases h4 with h4 | ⟨q, -, E, ce, L, h5, -⟩
  · exact h4
  · exact h5.elim
abbrev wlm : List Cond := .codeWith yL_man cL_man 5 (some .int) [(0, 10, 13, 13)] :: GW
set_option maxHeartbeats 4000000 in
set_option maxRecDepth 100000 in
theorem l_man (l : Launch) (hl0 : l.stackTraces = false) (dC : Nat → ClassId) (dI : Nat → Nat → Nat) (cy : Nat → ClassId) (ad : Nat → Nat) (qo : Nat) (n0 n1 : Int32) : Met l yL_man wlm ({ frames := 9, cells := 1, slots := 6, locals := 576 }) (Px (dC, dI) vwCl cy [(ad 0, .inr (11, [.ref (ad 1), .ref (ad 4), .ref (ad 5), .ref (ad 10), .ref (ad 23), .ref (ad 24), .ref (ad 25), .ref (ad 27), .ref (ad 28), .ref (ad 29), .ref (ad 30), .ref (ad 31), .ref (ad 54), .int 0, .int (-1), .int 0, .int 0])), (ad 31, .inr (10, [.ref (ad 32), .ref (ad 38), .ref (ad 49)])), (ad 32, .inr (2, [.ref (ad 33), .ref (ad 34), .ref (ad 35), .ref (ad 36), .ref (ad 37), .int 0, .int 0, .int 60, .int 10]))] [.ref (ad 0), .int n0, .int n1, .ref qo]) (Ri (fun r => r = 1)) 1 6 nB := by
  refine met_of_vx (vx_ofWH (cc := cL_man) (maxL := 5) (ret := some .int) (by decide +kernel) rfl ?_)
  intro p e s m args below meth c s₁ B hml hv
  obtain ⟨rfl, hP, hK, hE⟩ := hv
  have hx := B.exec
  have hb := B.bytes
  have hr := B.returns
  have hts0 := atoms_spec (ws := wlm) B.pre
  have hts : ∀ w ∈ GW, w.before ([.ref (ad 0), .int n0, .int n1, .ref qo] : List Value).toArray s = true := fun w hw => hts0 w (List.mem_cons_of_mem _ hw)
  have hown : s.vm.findClass RL = some m.cls := findClass_of_methodNamed B.named
  have hlocks := B.notSynchronized
  have htab : c.exceptionTable.toList = tableOf [(0, 10, 13, 13)] := vx_table (x := yL_man) B (hts _ t1352)
  have hS : va_S nB s.heap s.heap [] := va_S.rf
  have hl := lv_entry ([.ref (ad 0), .int n0, .int n1, .ref qo]) (n := 5) (Nat.le_of_ble_eq_true rfl)
  rw [lg_entry_eq]
  generalize (lg_sl ([.ref (ad 0), .int n0, .int n1, .ref qo]) ++ List.replicate (5 - (lg_sl ([.ref (ad 0), .int n0, .int n1, .ref qo])).length) Slot.unset).toArray = ls at hl ⊢
  have hl : lv_has ls 5 [(0, .ref (ad 0)), (1, .int n0), (2, .int n1), (3, .ref qo)] := hl
  refine lv_aload_n hx hb dL_man_0 rfl (lv_at hl 3 rfl) ?_
  refine lv_iconst (v := 0) hx hb dL_man_1 (by decide) ?_
  refine lv_aload_n hx hb dL_man_2 rfl (lv_at hl 0 rfl) ?_
  refine lv_iload_n hx hb dL_man_3 rfl (lv_at hl 1 rfl) ?_
  refine lv_iload_n hx hb dL_man_4 rfl (lv_at hl 2 rfl) ?_
  refine vx_calli (vx_runV (As := [.int n0, .int n1]) (rest := [.int 0, .ref qo]) ⟨hx, hb, hml, hown, hts⟩ (k_man l hl0 dC dI cy ad n0 n1) (cw_L_7 hts rfl rfl ⟨Nat.le_of_ble_eq_true rfl, Nat.le_of_ble_eq_true rfl⟩) ⟨blind_x, va_recv (ci := 11) (q := (RX10, TX10, 17)) (q0 := 0) hK hP rfl rfl, fun U hU hW => ⟨rfl, by rw [hU]; exact hP, va_K.moved hW.alike hK, EnvX.at hE hS (fun _ h => h) (fun _ h => h) U hU hW⟩⟩ rfl rfl hl.1 rfl (lv_room (Nat.le_of_ble_eq_true rfl)) dL_man_5 ⟨Nat.le_of_ble_eq_true rfl, Nat.le_of_ble_eq_true rfl⟩) hS (fun _ _ h => h.elim) (fun _ h => h.elim) (fun _ _ h => h.elim) (fun E ce q9 u t H locs ht hvm hp hB hz hk hS hce hcv hcl => ?_) (fun r u t H locs ht hvm hp hB hz hk hS => hp.elim)
  have hB : E = nse := hB
  subst hB
  refine vx_catch (own := RL) (name := nse) (E := nse) hown [] ⟨0, 10, 13, 13⟩ [] (by rw [htab]; rfl) (fun z hz => nomatch hz) (by decide) (by decide) (hts _ t1353) (va_Nw.use rfl hE.2.2.2.2.2) hce hcv hcl ?_
  refine lv_astore (lv' := [(4, .ref q9), (0, .ref (ad 0)), (1, .int n0), (2, .int n1), (3, .ref qo)]) hx hb dL_man_13 hl (by decide) rfl (fun ls hl => ?_)
  refine lv_iconst (v := 1) hx hb dL_man_15 (by decide) ?_
  refine W.widen (k := 1) (n := 6) (by decide) (by decide) ?_
  exact vx_ret (rr_i hx hb hr hlocks rfl hS dL_man_16)
theorem cw_L_38 {R : Room} {s : State} {args : Array Value} {rm : Room} {mc ms : Nat} (hts : ∀ w ∈ GW, w.before args s = true) (hrc : rm.cells = mc) (hrs : rm.slots = ms) (hR : rm.frames + 1 ≤ R.frames ∧ 8 + (5 + 11) + rm.locals ≤ R.locals) : vx_CSW R s args RL 38 yL_man cL_man 5 (some .int) [(0, 10, 13, 13)] wlm rm mc ms 4 := by
  refine vx_cwSW 4 hts (fun w hw => ?_) rfl hrc hrs (by decide +kernel) hR
  rcases List.mem_append.mp hw with hw | hw
  · simp only [List.mem_cons, List.not_mem_nil, or_false] at hw
    rcases hw with rfl | rfl | rfl
    · exact ⟨t1350, gw_good t1350⟩
    · exact ⟨t1351, gw_good t1351⟩
    · exact ⟨t0, gw_good t0⟩
  · rcases List.mem_cons.mp hw with rfl | hw
    · exact ⟨t1352, gw_good t1352⟩
    · exact ⟨hw, gw_good hw⟩
