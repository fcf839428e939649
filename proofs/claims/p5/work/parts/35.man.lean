abbrev cX10_man : ByteArray := prog_1_method_6_code
def yX10_man : MethodName := ⟨RX10, "man", "(II)I"⟩
theorem t1357 : Cond.code yX10_man cX10_man 3 (some .int) ∈ GW := gw_mem 1471 (by decide +kernel) (by decide +kernel)
theorem t1358 : Cond.classLink RX10 132 "java/util/NoSuchElementException" ∈ GW := gw_mem 1472 (by decide +kernel) (by decide +kernel)
theorem t22 : Cond.initialized "java/util/NoSuchElementException" ∈ GW := gw_mem 136 (by decide +kernel) (by decide +kernel)
theorem dX10_man_18 : decode cX10_man 18 = .ok (.new 132, 3) := by decide +kernel
theorem dX10_man_21 : decode cX10_man 21 = .ok (.dup, 1) := by decide +kernel
theorem dX10_man_22 : decode cX10_man 22 = .ok (.invokespecial 134, 3) := by decide +kernel
theorem dX10_man_25 : decode cX10_man 25 = .ok (.athrow, 1) := by decide +kernel
def RL : String := "LikenessPoundLaw"
abbrev cL_man : ByteArray := method_3_code
def yL_man : MethodName := ⟨RL, "man", "(LLikenessPound;II[J)I"⟩
theorem dL_man_0 : decode cL_man 0 = .ok (.aload_n 3, 1) := by decide +kernel
theorem dL_man_1 : decode cL_man 1 = .ok (.iconst 0, 1) := by decide +kernel
theorem dL_man_2 : decode cL_man 2 = .ok (.aload_n 0, 1) := by decide +kernel
theorem dL_man_3 : decode cL_man 3 = .ok (.iload_n 1, 1) := by decide +kernel
theorem dL_man_4 : decode cL_man 4 = .ok (.iload_n 2, 1) := by decide +kernel
theorem dL_man_5 : decode cL_man 5 = .ok (.invokevirtual 7, 3) := by decide +kernel
theorem dL_man_8 : decode cL_man 8 = .ok (.i2l, 1) := by decide +kernel
theorem dL_man_9 : decode cL_man 9 = .ok (.lastore, 1) := by decide +kernel
theorem dL_man_10 : decode cL_man 10 = .ok (.goto 7, 3) := by decide +kernel
theorem dL_man_13 : decode cL_man 13 = .ok (.astore 4, 2) := by decide +kernel
theorem dL_man_15 : decode cL_man 15 = .ok (.iconst 1, 1) := by decide +kernel
theorem dL_man_16 : decode cL_man 16 = .ok (.ireturn, 1) := by decide +kernel
theorem dL_man_17 : decode cL_man 17 = .ok (.iconst 0, 1) := by decide +kernel
theorem dL_man_18 : decode cL_man 18 = .ok (.ireturn, 1) := by decide +kernel
theorem t1354 : Cond.methodLink RL 7 yX10_man ∈ GW := gw_mem 1468 (by decide +kernel) (by decide +kernel)
theorem t1355 : Cond.instanceMethod yX10_man ∈ GW := gw_mem 1469 (by decide +kernel) (by decide +kernel)
theorem t1356 : Cond.selects RX10 yX10_man yX10_man ∈ GW := gw_mem 1470 (by decide +kernel) (by decide +kernel)
theorem cw_L_7 {R : Room} {s : State} {args : Array Value} {rm : Room} {mc ms : Nat} (hts : ∀ w ∈ GW, w.before args s = true) (hrc : rm.cells = mc) (hrs : rm.slots = ms) (hR : rm.frames + 1 ≤ R.frames ∧ 8 + (3 + 11) + rm.locals ≤ R.locals) : CallW R s args RL RX10 7 yX10_man cX10_man 3 (some .int) (wl yX10_man cX10_man 3 (some .int)) rm mc ms 2 := cwV 2 hts (gi_V t1354 t1355 t1356 t1 t1357) rfl hrc hrs (by decide +kernel) hR
theorem t1352 : Cond.codeWith yL_man cL_man 5 (some .int) [(0, 10, 13, 13)] ∈ GW := gw_mem 1466 (by decide +kernel) (by decide +kernel)
theorem t1353 : Cond.classLink RL 13 "java/util/NoSuchElementException" ∈ GW := gw_mem 1467 (by decide +kernel) (by decide +kernel)
theorem t1350 : Cond.methodLink RL 38 yL_man ∈ GW := gw_mem 1464 (by decide +kernel) (by decide +kernel)
theorem t1351 : Cond.static yL_man ∈ GW := gw_mem 1465 (by decide +kernel) (by decide +kernel)
theorem t0 : Cond.initialized RL ∈ GW := gw_mem 114 (by decide +kernel) (by decide +kernel)
abbrev nse : String := "java/util/NoSuchElementException"
/-- what a throw asks of its surroundings -/
def EnvX (B : Nat → Prop) (U : State) : Prop := vx_Zq Bundle.tN "UNASSIGNED_STACK" Bundle.steD B U U.heap ∧ vx_Zq Bundle.tN "SUPPRESSED_SENTINEL" Bundle.listD B U U.heap ∧ va_Nw (.declares (Bundle.init0 "java/lang/RuntimeException")) U ∧ va_Nw (.declares (Bundle.init0 "java/lang/Exception")) U ∧ va_Nw (.declares (Bundle.init0 Bundle.tN)) U ∧ va_Nw (.castable nse nse) U
theorem EnvX.calling {B : Nat → Prop} (a : Array Value) (U : State) (g : JFrame) (mk : MethodId) (h : EnvX B U) : EnvX B (U.calling g mk a) := by
  obtain ⟨h1, h2, n1, n2, n3, n4⟩ := h
  have hv : U.vm = (U.calling g mk a).vm := rfl
  have ha : U.vm.Alike (U.calling g mk a).vm := Vm.Alike.refl U.vm
  exact ⟨vx_Zq.moved ha h1, vx_Zq.moved ha h2, va_Nw.same rfl hv n1, va_Nw.same rfl hv n2, va_Nw.same rfl hv n3, va_Nw.same rfl hv n4⟩
theorem EnvX.at {A B C : Nat → Prop} {s : State} {H : Heap} {locs : List Loc} (h : EnvX B s) (hS : va_S A s.heap H locs) (hAB : ∀ q, A q → B q) (hCB : ∀ q, C q → B q) : ∀ U : State, U.heap = H → s.WarmedH U.vm → EnvX C U := by
  intro U hU hW
  obtain ⟨h1, h2, n1, n2, n3, n4⟩ := h
  have hk : ∀ a : Nat, a < s.heap.size → ¬ B a → U.heap[a]? = s.heap[a]? := fun a l1 l2 => by rw [hU]; exact hS.2.1 a l1 (fun z => l2 (hAB a z))
  exact ⟨((vx_Zq.moved hW.alike h1).kept hk).narrow hCB, ((vx_Zq.moved hW.alike h2).kept hk).narrow hCB, va_Nw.warmD hW n1, va_Nw.warmD hW n2, va_Nw.warmD hW n3, va_Nw.warmC hW n4⟩
abbrev nseUp : List String := ["java/lang/RuntimeException", "java/lang/Exception"]
theorem at0_in : ((vx_at0 RX10 134 nse nseUp).filter goodWord).all (fun w => decide (w ∈ lw_tbl)) = true := by decide +kernel
theorem at0_good {w : Cond} (h : w ∈ (vx_at0 RX10 134 nse nseUp).filter goodWord) : w ∈ GW := List.mem_filter.mpr ⟨of_decide_eq_true (List.all_eq_true.mp at0_in w h), (List.mem_filter.mp h).2⟩
theorem at0_rest : ∀ w ∈ (vx_at0 RX10 134 nse nseUp).filter (fun w => !goodWord w), w ∈ [Cond.declares (Bundle.init0 "java/lang/RuntimeException"), Cond.declares (Bundle.init0 "java/lang/Exception"), Cond.declares (Bundle.init0 Bundle.tN), Cond.castable nse nse] := by decide +kernel
theorem at0_ot : ∀ w ∈ Cond.classLink RX10 132 nse :: Cond.initialized nse :: vx_at0 RX10 134 nse nseUp, vx_ot w = true := by decide +kernel
abbrev Px (D : va_G) (cl : List vw_C) (cy : Nat → ClassId) (ws : va_W) (av : List Value) : Array Value → State → Prop := va_Pc av (fun U => va_P D cl ws U.heap ∧ va_K D cl (TY cy) U ∧ EnvX nB U)
theorem blind_x {D : va_G} {cl : List vw_C} {cy : Nat → ClassId} {ws : va_W} {av : List Value} : FrameBlind (Px D cl cy ws av) := fun a U g mk q => ⟨q.1, q.2.1, va_K.moved (u := U) (U := U.calling g mk a) (Vm.Alike.refl U.vm) q.2.2.1, EnvX.calling a U g mk q.2.2.2⟩
theorem dX10_man_0 : decode cX10_man 0 = .ok (.aload_n 0, 1) := by decide +kernel
theorem dX10_man_1 : decode cX10_man 1 = .ok (.iload_n 1, 1) := by decide +kernel
theorem dX10_man_2 : decode cX10_man 2 = .ok (.invokevirtual 128, 3) := by decide +kernel
theorem dX10_man_5 : decode cX10_man 5 = .ok (.ifCond .eq 13, 3) := by decide +kernel
theorem dX10_man_8 : decode cX10_man 8 = .ok (.iload_n 2, 1) := by decide +kernel
theorem dX10_man_9 : decode cX10_man 9 = .ok (.ifCond .lt 9, 3) := by decide +kernel
theorem dX10_man_12 : decode cX10_man 12 = .ok (.iload_n 2, 1) := by decide +kernel
theorem dX10_man_13 : decode cX10_man 13 = .ok (.bipush 7, 2) := by decide +kernel
theorem dX10_man_15 : decode cX10_man 15 = .ok (.if_icmp .le 11, 3) := by decide +kernel
theorem dX10_man_26 : decode cX10_man 26 = .ok (.iload_n 2, 1) := by decide +kernel
theorem dX10_man_27 : decode cX10_man 27 = .ok (.tableswitch 119 0 6 #[41, 54, 63, 72, 81, 94, 107], 41) := by decide +kernel
theorem dX10_man_68 : decode cX10_man 68 = .ok (.aload_n 0, 1) := by decide +kernel
theorem dX10_man_69 : decode cX10_man 69 = .ok (.getfield 76, 3) := by decide +kernel
theorem dX10_man_72 : decode cX10_man 72 = .ok (.getfield 98, 3) := by decide +kernel
theorem dX10_man_75 : decode cX10_man 75 = .ok (.getfield 135, 3) := by decide +kernel
theorem t230 : Cond.fieldLink RX10 135 "LikenessPound$Life" "age" "[I" ∈ GW := gw_mem 344 (by decide +kernel) (by decide +kernel)
theorem gf_X10_135 {p : Program} {l : Launch} {e : Env} {R : Room} {s : State} {m : MethodId} {args : Array Value} {below : List Frame} {meth : Method} {c : Code} {H : Heap} {locs : List Loc} {cells slots : Nat} {Q : State → Prop} {cc : ByteArray} {pc : Nat} {ls : Array Slot} {rest : List Value} {D : va_G} {a : Nat} {tys : List (ClassId × FieldType)} {ws : va_W} (hx : p.tables.exec = Jvm.exec) (hb : c.code = cc) (hts : ∀ w ∈ GW, w.before args s = true) (hown : s.vm.findClass RX10 = some m.cls) (hK : va_K D vwCl tys s) (hP : va_P D vwCl ws H) (q0 : Nat) {fs : List Value} (he : ws[q0]? = some (a, .inr (5, fs))) {v : Value} (hv : fs[0]? = some v) (hdg : decode cc pc = .ok (.getfield 135, 3)) (kk : W p l e R s m args below meth c H locs cells slots Q (F0 m (pc + 3) ls (v :: rest))) : W p l e R s m args below meth c H locs cells slots Q (F0 m pc ls (.ref a :: rest)) := va_get (C := RX4) (T := TX4) (N := 11) (ci := 5) hx hb hts inX4 hown hK hP q0 he rfl 0 (by decide) (hts _ t230) (fun _ h => h) hv hdg kk
theorem dX10_man_78 : decode cX10_man 78 = .ok (.iload_n 1, 1) := by decide +kernel
theorem dX10_man_79 : decode cX10_man 79 = .ok (.iaload, 1) := by decide +kernel
theorem dX10_man_80 : decode cX10_man 80 = .ok (.ireturn, 1) := by decide +kernel
theorem dX10_man_81 : decode cX10_man 81 = .ok (.aload_n 0, 1) := by decide +kernel
theorem dX10_man_82 : decode cX10_man 82 = .ok (.getfield 76, 3) := by decide +kernel
theorem dX10_man_85 : decode cX10_man 85 = .ok (.iload_n 1, 1) := by decide +kernel
theorem dX10_man_86 : decode cX10_man 86 = .ok (.invokevirtual 140, 3) := by decide +kernel
theorem dX10_man_89 : decode cX10_man 89 = .ok (.ireturn, 1) := by decide +kernel
theorem dX10_man_90 : decode cX10_man 90 = .ok (.aload_n 0, 1) := by decide +kernel
theorem dX10_man_91 : decode cX10_man 91 = .ok (.getfield 76, 3) := by decide +kernel
theorem dX10_man_94 : decode cX10_man 94 = .ok (.iload_n 1, 1) := by decide +kernel
theorem dX10_man_95 : decode cX10_man 95 = .ok (.invokevirtual 144, 3) := by decide +kernel
theorem dX10_man_98 : decode cX10_man 98 = .ok (.ireturn, 1) := by decide +kernel
theorem dX10_man_99 : decode cX10_man 99 = .ok (.aload_n 0, 1) := by decide +kernel
theorem dX10_man_100 : decode cX10_man 100 = .ok (.getfield 76, 3) := by decide +kernel
theorem dX10_man_103 : decode cX10_man 103 = .ok (.iload_n 1, 1) := by decide +kernel
theorem dX10_man_104 : decode cX10_man 104 = .ok (.invokevirtual 147, 3) := by decide +kernel
theorem dX10_man_107 : decode cX10_man 107 = .ok (.ireturn, 1) := by decide +kernel
theorem dX10_man_108 : decode cX10_man 108 = .ok (.aload_n 0, 1) := by decide +kernel
theorem dX10_man_109 : decode cX10_man 109 = .ok (.getfield 76, 3) := by decide +kernel
theorem dX10_man_112 : decode cX10_man 112 = .ok (.getfield 98, 3) := by decide +kernel
theorem dX10_man_115 : decode cX10_man 115 = .ok (.getfield 150, 3) := by decide +kernel
theorem t244 : Cond.fieldLink RX10 150 "LikenessPound$Life" "lentTo" "[I" ∈ GW := gw_mem 358 (by decide +kernel) (by decide +kernel)
theorem gf_X10_150 {p : Program} {l : Launch} {e : Env} {R : Room} {s : State} {m : MethodId} {args : Array Value} {below : List Frame} {meth : Method} {c : Code} {H : Heap} {locs : List Loc} {cells slots : Nat} {Q : State → Prop} {cc : ByteArray} {pc : Nat} {ls : Array Slot} {rest : List Value} {D : va_G} {a : Nat} {tys : List (ClassId × FieldType)} {ws : va_W} (hx : p.tables.exec = Jvm.exec) (hb : c.code = cc) (hts : ∀ w ∈ GW, w.before args s = true) (hown : s.vm.findClass RX10 = some m.cls) (hK : va_K D vwCl tys s) (hP : va_P D vwCl ws H) (q0 : Nat) {fs : List Value} (he : ws[q0]? = some (a, .inr (5, fs))) {v : Value} (hv : fs[3]? = some v) (hdg : decode cc pc = .ok (.getfield 150, 3)) (kk : W p l e R s m args below meth c H locs cells slots Q (F0 m (pc + 3) ls (v :: rest))) : W p l e R s m args below meth c H locs cells slots Q (F0 m pc ls (.ref a :: rest)) := va_get (C := RX4) (T := TX4) (N := 11) (ci := 5) hx hb hts inX4 hown hK hP q0 he rfl 3 (by decide) (hts _ t244) (fun _ h => h) hv hdg kk
theorem dX10_man_118 : decode cX10_man 118 = .ok (.iload_n 1, 1) := by decide +kernel
theorem dX10_man_119 : decode cX10_man 119 = .ok (.iaload, 1) := by decide +kernel
theorem dX10_man_120 : decode cX10_man 120 = .ok (.ireturn, 1) := by decide +kernel
theorem dX10_man_121 : decode cX10_man 121 = .ok (.aload_n 0, 1) := by decide +kernel
theorem dX10_man_122 : decode cX10_man 122 = .ok (.getfield 76, 3) := by decide +kernel
theorem dX10_man_125 : decode cX10_man 125 = .ok (.getfield 98, 3) := by decide +kernel
theorem dX10_man_128 : decode cX10_man 128 = .ok (.getfield 153, 3) := by decide +kernel
theorem t249 : Cond.fieldLink RX10 153 "LikenessPound$Life" "lentDeed" "[I" ∈ GW := gw_mem 363 (by decide +kernel) (by decide +kernel)
theorem gf_X10_153 {p : Program} {l : Launch} {e : Env} {R : Room} {s : State} {m : MethodId} {args : Array Value} {below : List Frame} {meth : Method} {c : Code} {H : Heap} {locs : List Loc} {cells slots : Nat} {Q : State → Prop} {cc : ByteArray} {pc : Nat} {ls : Array Slot} {rest : List Value} {D : va_G} {a : Nat} {tys : List (ClassId × FieldType)} {ws : va_W} (hx : p.tables.exec = Jvm.exec) (hb : c.code = cc) (hts : ∀ w ∈ GW, w.before args s = true) (hown : s.vm.findClass RX10 = some m.cls) (hK : va_K D vwCl tys s) (hP : va_P D vwCl ws H) (q0 : Nat) {fs : List Value} (he : ws[q0]? = some (a, .inr (5, fs))) {v : Value} (hv : fs[4]? = some v) (hdg : decode cc pc = .ok (.getfield 153, 3)) (kk : W p l e R s m args below meth c H locs cells slots Q (F0 m (pc + 3) ls (v :: rest))) : W p l e R s m args below meth c H locs cells slots Q (F0 m pc ls (.ref a :: rest)) := va_get (C := RX4) (T := TX4) (N := 11) (ci := 5) hx hb hts inX4 hown hK hP q0 he rfl 4 (by decide) (hts _ t249) (fun _ h => h) hv hdg kk
theorem dX10_man_131 : decode cX10_man 131 = .ok (.iload_n 1, 1) := by decide +kernel
theorem dX10_man_132 : decode cX10_man 132 = .ok (.iaload, 1) := by decide +kernel
theorem dX10_man_133 : decode cX10_man 133 = .ok (.ireturn, 1) := by decide +kernel
theorem dX10_man_134 : decode cX10_man 134 = .ok (.aload_n 0, 1) := by decide +kernel
theorem dX10_man_135 : decode cX10_man 135 = .ok (.getfield 76, 3) := by decide +kernel
theorem dX10_man_138 : decode cX10_man 138 = .ok (.getfield 98, 3) := by decide +kernel
theorem dX10_man_141 : decode cX10_man 141 = .ok (.iload_n 1, 1) := by decide +kernel
theorem dX10_man_142 : decode cX10_man 142 = .ok (.invokevirtual 156, 3) := by decide +kernel
theorem t1419 : Cond.methodLink RX10 156 yX4_owedBy ∈ GW := gw_mem 1533 (by decide +kernel) (by decide +kernel)
theorem cw_X10_156 {R : Room} {s : State} {args : Array Value} {rm : Room} {mc ms : Nat} (hts : ∀ w ∈ GW, w.before args s = true) (hrc : rm.cells = mc) (hrs : rm.slots = ms) (hR : rm.frames + 1 ≤ R.frames ∧ 8 + (4 + 11) + rm.locals ≤ R.locals) : CallW R s args RX10 RX4 156 yX4_owedBy cX4_owedBy 4 (some .int) (wl yX4_owedBy cX4_owedBy 4 (some .int)) rm mc ms 1 := cwV 1 hts (gi_V t1419 t714 t715 t10 t716) rfl hrc hrs (by decide +kernel) hR
theorem dX10_man_145 : decode cX10_man 145 = .ok (.ireturn, 1) := by decide +kernel
theorem dX10_man_146 : decode cX10_man 146 = .ok (.aload_n 0, 1) := by decide +kernel
theorem dX10_man_147 : decode cX10_man 147 = .ok (.getfield 76, 3) := by decide +kernel
theorem dX10_man_150 : decode cX10_man 150 = .ok (.getfield 98, 3) := by decide +kernel
theorem dX10_man_153 : decode cX10_man 153 = .ok (.getfield 159, 3) := by decide +kernel
theorem dX10_man_156 : decode cX10_man 156 = .ok (.iload_n 1, 1) := by decide +kernel
theorem dX10_man_157 : decode cX10_man 157 = .ok (.iaload, 1) := by decide +kernel
theorem dX10_man_158 : decode cX10_man 158 = .ok (.ireturn, 1) := by decide +kernel
set_option maxHeartbeats 4000000 in
set_option maxRecDepth 100000 in
theorem g_man (l : Launch) (hl0 : l.stackTraces = false) (dC : Nat → ClassId) (dI : Nat → Nat → Nat) (cy : Nat → ClassId) (vo : Nat) (vt : Nat) (vx : Nat) (vb : Nat) (va : Nat) (ve : Nat) (vs : Nat) (vg : Nat) (vmr : Nat) (vkr : Nat) (vim : Nat) (vik : Nat) (vw : Nat) (vdw : Nat) (volf : Int32) (volh : Int32) (vomd : Int32) (vocd : Int32) (vwc : Nat) (vwl : Nat) (vws : Nat) (vwc1 : Nat) (vwc2 : Nat) (vwc3 : Nat) (vwc4 : Nat) (vwc5 : Nat) (vwcm : Int32) (vwcd : Int32) (vwcr : Int32) (vwcw : Int32) (vwcf3 : Nat → Int32) (vwcf4 : Nat → Int32) (vwl1 : Nat) (vwl2 : Nat) (vwl3 : Nat) (vwl4 : Nat) (vwl5 : Nat) (vwl6 : Nat) (vwl7 : Nat) (vwl8 : Nat) (vwl9 : Nat) (vwl10 : Nat) (vwly : Int32) (vwlf1 : Nat → Int32) (vwlf2 : Nat → Int32) (vwlf3 : Nat → Int32) (vwlf4 : Nat → Int32) (vwlf5 : Nat → Int32) (vwlf6 : Nat → Int32) (vm : Int32) (vn : Int32) (r_vwcm : 0 ≤ (vwcm : Int32).toInt ∧ (vwcm : Int32).toInt ≤ 7) (r_vwcd : 0 ≤ (vwcd : Int32).toInt ∧ (vwcd : Int32).toInt ≤ 10) (p_vwcf3 : Rg vwcf3 10 0 40) (p_vwlf2 : Rg vwlf2 70 0 9) (p_vwlf5 : Rg vwlf5 7 (-1) 9) : vx_Met l yX10_man (wl yX10_man cX10_man 3 (some .int)) ({ frames := 12, cells := 1, slots := 6, locals := 768 }) (Px (dC, dI) vwCl cy [(vo, .inr (11, [.ref vt, .ref vx, .ref vb, .ref va, .ref ve, .ref vs, .ref vg, .ref vmr, .ref vkr, .ref vim, .ref vik, .ref vw, .ref vdw, .int volf, .int volh, .int vomd, .int vocd])), (vw, .inr (10, [.ref vwc, .ref vwl, .ref vws])), (vwc, .inr (2, [.ref vwc1, .ref vwc2, .ref vwc3, .ref vwc4, .ref vwc5, .int vwcm, .int vwcd, .int vwcr, .int vwcw])), (vwc3, .inl (cy 0, 10, .inl vwcf3)), (vwc4, .inl (cy 2, 10, .inl vwcf4)), (vwl, .inr (5, [.ref vwl1, .ref vwl2, .ref vwl3, .ref vwl4, .ref vwl5, .ref vwl6, .ref vwl7, .ref vwl8, .ref vwl9, .ref vwl10, .int vwly])), (vwl1, .inl (cy 0, 7, .inl vwlf1)), (vwl2, .inl (cy 0, 70, .inl vwlf2)), (vwl3, .inl (cy 0, 49, .inl vwlf3)), (vwl4, .inl (cy 0, 7, .inl vwlf4)), (vwl5, .inl (cy 0, 7, .inl vwlf5)), (vwl6, .inl (cy 0, 7, .inl vwlf6))] [.ref vo, .int vm, .int vn]) (Ri (fun _ => True)) (vx_X (fun _ : Unit => True) (fun E _ _ => E = nse) nB) 1 6 nB := by
  refine vx_ofW (cc := cX10_man) (maxL := 3) (ret := some .int) (by decide +kernel) rfl ?_
  intro p e s m args below meth c s₁ B hml htab hv
  obtain ⟨rfl, hP, hK, hE⟩ := hv
  have hx := B.exec
  have hb := B.bytes
  have hr := B.returns
  have hts0 := atoms_spec (ws := wl yX10_man cX10_man 3 (some .int)) B.pre
  have hts : ∀ w ∈ GW, w.before ([.ref vo, .int vm, .int vn] : List Value).toArray s = true := fun w hw => hts0 w (List.mem_cons_of_mem _ hw)
  have hown : s.vm.findClass RX10 = some m.cls := findClass_of_methodNamed B.named
  have hlocks := B.notSynchronized
  have hS : va_S nB s.heap s.heap [] := va_S.rf
  have hl := lv_entry ([.ref vo, .int vm, .int vn]) (n := 3) (Nat.le_of_ble_eq_true rfl)
  rw [lg_entry_eq]
  generalize (lg_sl ([.ref vo, .int vm, .int vn]) ++ List.replicate (3 - (lg_sl ([.ref vo, .int vm, .int vn])).length) Slot.unset).toArray = ls at hl ⊢
  have hl : lv_has ls 3 [(0, .ref vo), (1, .int vm), (2, .int vn)] := hl
  refine lv_aload_n hx hb dX10_man_0 rfl (lv_at hl 0 rfl) ?_
  refine lv_iload_n hx hb dX10_man_1 rfl (lv_at hl 1 rfl) ?_
  refine jr_i (rVr (As := [.int vm]) (rest := []) (ci := 11) ⟨hx, hb, hml, hown, hts⟩ (g_isMan l dC dI cy vo vt vx vb va ve vs vg vmr vkr vim vik vw vdw volf volh vomd vocd vwc vwl vws vwc1 vwc2 vwc3 vwc4 vwc5 vwcm vwcd vwcr vwcw vm r_vwcm r_vwcd) (cw_X10_128 hts rfl rfl ⟨Nat.le_of_ble_eq_true rfl, Nat.le_of_ble_eq_true rfl⟩) hP hK [0, 1, 2] rfl rfl rfl rfl hl.1 rfl (Nat.le_of_ble_eq_true rfl) dX10_man_2 ⟨Nat.le_of_ble_eq_true rfl, Nat.le_of_ble_eq_true rfl⟩) hP hS (fun r_1 H locs hp_2 hP hS => ?_)
  have hp_2 : ((r_1 = 0 ∧ ((vm : Int32).toInt < 0 ∨ (vwcm : Int32).toInt ≤ (vm : Int32).toInt)) ∨ (r_1 = 1 ∧ 0 ≤ (vm : Int32).toInt ∧ (vm : Int32).toInt < (vwcm : Int32).toInt)) := hp_2
  have q_3 := hp_2
  rcases q_3 with ⟨aq_3, f0q_3⟩ | ⟨aq_3, f0q_3⟩
  · skip
    refine as_i 0 aq_3 ?_
    refine lv_if_eq (tgt := 18) hx hb dX10_man_5 (by decide) (fun _ => ?_) (fun c9 => absurd (by decide) c9)
    exact vx_throw0 (own := RX10) (cls := nse) (names := nseUp) (ik := 132) (ic := 134) (A := nB) hx hb hl0 hown (by decide +kernel) (by decide +kernel) (hts _ t1358) (hts _ t22) (vx_hat (fun w hw => hts w (at0_good hw)) at0_rest (vx_c (va_Nw.use rfl hE.2.2.1) (vx_c (va_Nw.use rfl hE.2.2.2.1) (vx_c (va_Nw.use rfl hE.2.2.2.2.1) (vx_c (va_Nw.use rfl hE.2.2.2.2.2) vx_n))))) at0_ot hE.1 hE.2.1 hS (by rw [hl.1, hml]) dX10_man_18 dX10_man_21 dX10_man_22 dX10_man_25 (fun x hx => (htab x hx).elim) (Nat.le_of_ble_eq_true rfl) (Nat.le_of_ble_eq_true rfl) (Nat.le_of_ble_eq_true rfl) (Nat.le_of_ble_eq_true rfl) hlocks (fun t ha hz hk => ⟨(), trivial, rfl, ⟨Nat.le_trans hS.1 hz, fun q h1 h2 => (hk q (Nat.lt_of_lt_of_le h1 hS.1)).trans (hS.2.1 q h1 h2)⟩⟩) (fun z hz => hS.2.2 z hz) (Nat.le_of_ble_eq_true rfl) (Nat.le_of_ble_eq_true rfl)
  · skip
    refine as_i 1 aq_3 ?_
    refine lv_if_eq (tgt := 18) hx hb dX10_man_5 (by decide) (fun c9 => absurd c9 (by decide)) (fun _ => ?_)
    refine lv_iload_n hx hb dX10_man_8 rfl (lv_at hl 2 rfl) ?_
    have k_0 : (0 : Int32).toInt = 0 := by decide
    refine lv_if_lt (tgt := 18) hx hb dX10_man_9 (by decide) (fun c_4 => ?_) (fun c_4 => ?_)
    · skip
      have c_4 : vn.toInt < (0 : Int32).toInt := i_lt.mp c_4
      exact vx_throw0 (own := RX10) (cls := nse) (names := nseUp) (ik := 132) (ic := 134) (A := nB) hx hb hl0 hown (by decide +kernel) (by decide +kernel) (hts _ t1358) (hts _ t22) (vx_hat (fun w hw => hts w (at0_good hw)) at0_rest (vx_c (va_Nw.use rfl hE.2.2.1) (vx_c (va_Nw.use rfl hE.2.2.2.1) (vx_c (va_Nw.use rfl hE.2.2.2.2.1) (vx_c (va_Nw.use rfl hE.2.2.2.2.2) vx_n))))) at0_ot hE.1 hE.2.1 hS (by rw [hl.1, hml]) dX10_man_18 dX10_man_21 dX10_man_22 dX10_man_25 (fun x hx => (htab x hx).elim) (Nat.le_of_ble_eq_true rfl) (Nat.le_of_ble_eq_true rfl) (Nat.le_of_ble_eq_true rfl) (Nat.le_of_ble_eq_true rfl) hlocks (fun t ha hz hk => ⟨(), trivial, rfl, ⟨Nat.le_trans hS.1 hz, fun q h1 h2 => (hk q (Nat.lt_of_lt_of_le h1 hS.1)).trans (hS.2.1 q h1 h2)⟩⟩) (fun z hz => hS.2.2 z hz) (Nat.le_of_ble_eq_true rfl) (Nat.le_of_ble_eq_true rfl)
    · skip
      have c_4 : ¬ (vn.toInt < (0 : Int32).toInt) := fun h9 => c_4 (i_lt.mpr h9)
      refine lv_iload_n hx hb dX10_man_12 rfl (lv_at hl 2 rfl) ?_
      refine lv_bipush (v := 7) hx hb dX10_man_13 (by decide) ?_
      have k_7 : (7 : Int32).toInt = 7 := by decide
      refine lv_icmp_le (tgt := 26) hx hb dX10_man_15 (by decide) (fun c_5 => ?_) (fun c_5 => ?_)
      · skip
        have c_5 : vn.toInt ≤ (7 : Int32).toInt := i_le.mp c_5
        refine lv_iload_n hx hb dX10_man_26 rfl (lv_at hl 2 rfl) ?_
        have k_1 : (1 : Int32).toInt = 1 := by decide
        have k_2 : (2 : Int32).toInt = 2 := by decide
        have k_3 : (3 : Int32).toInt = 3 := by decide
        have k_4 : (4 : Int32).toInt = 4 := by decide
        have k_5 : (5 : Int32).toInt = 5 := by decide
        have k_6 : (6 : Int32).toInt = 6 := by decide
        by_cases sw_6_0 : vn.toInt = 0
        · refine as_i 0 (i_eq.mpr (sw_6_0.trans k_0.symm)) ?_
          refine lv_tableIn (off := 41) (tgt := 68) hx hb dX10_man_27 (by decide) (by decide) (by decide) (by decide) ?_
          refine lv_aload_n hx hb dX10_man_68 rfl (lv_at hl 0 rfl) ?_
          refine gf_X10_76 hx hb hts hown hK hP 0 rfl rfl dX10_man_69 ?_
          refine gf_X10_98 hx hb hts hown hK hP 1 rfl rfl dX10_man_72 ?_
          refine gf_X10_135 hx hb hts hown hK hP 5 rfl rfl dX10_man_75 ?_
          refine lv_iload_n hx hb dX10_man_78 rfl (lv_at hl 1 rfl) ?_
          have hin_7 : vp_in vm 7 := vp_in_iff.mpr ⟨by omega, by omega⟩
          refine va_iald hx hb hK hP 6 0 rfl rfl hin_7 dX10_man_79 ?_
          refine lv_topi (fun z_8 ez_8 => ?_)
          refine W.widen (k := 1) (n := 6) (by decide) (by decide) ?_
          exact vx_ret (rr_i hx hb hr hlocks trivial hS dX10_man_80)
        by_cases sw_6_1 : vn.toInt = 1
        · refine as_i 1 (i_eq.mpr (sw_6_1.trans k_1.symm)) ?_
          refine lv_tableIn (off := 54) (tgt := 81) hx hb dX10_man_27 (by decide) (by decide) (by decide) (by decide) ?_
          refine lv_aload_n hx hb dX10_man_81 rfl (lv_at hl 0 rfl) ?_
          refine gf_X10_76 hx hb hts hown hK hP 0 rfl rfl dX10_man_82 ?_
          refine lv_iload_n hx hb dX10_man_85 rfl (lv_at hl 1 rfl) ?_
          refine jr_i (rVr (As := [.int vm]) (rest := []) (ci := 10) ⟨hx, hb, hml, hown, hts⟩ (g_whiteOf l dC dI cy vw vwc vwl vws vwc1 vwc2 vwc3 vwc4 vwc5 vwcm vwcd vwcr vwcw vwcf3 vwcf4 vwl1 vwl2 vwl3 vwl4 vwl5 vwl6 vwl7 vwl8 vwl9 vwl10 vwly vwlf2 vwlf3 vwlf4 vwlf5 vm r_vwcm r_vwcd ⟨by omega, by omega⟩ p_vwcf3 p_vwlf2 p_vwlf5) (cw_X10_140 hts rfl rfl ⟨Nat.le_of_ble_eq_true rfl, Nat.le_of_ble_eq_true rfl⟩) hP hK [1, 2, 3, 4, 5, 7, 8, 9, 10] rfl rfl rfl rfl hl.1 rfl (Nat.le_of_ble_eq_true rfl) dX10_man_86 ⟨Nat.le_of_ble_eq_true rfl, Nat.le_of_ble_eq_true rfl⟩) hP hS (fun r_9 H locs hp_10 hP hS => ?_)
          refine W.widen (k := 1) (n := 6) (by decide) (by decide) ?_
          exact vx_ret (rr_i hx hb hr hlocks trivial hS dX10_man_89)
        by_cases sw_6_2 : vn.toInt = 2
        · refine as_i 2 (i_eq.mpr (sw_6_2.trans k_2.symm)) ?_
          refine lv_tableIn (off := 63) (tgt := 90) hx hb dX10_man_27 (by decide) (by decide) (by decide) (by decide) ?_
          refine lv_aload_n hx hb dX10_man_90 rfl (lv_at hl 0 rfl) ?_
          refine gf_X10_76 hx hb hts hown hK hP 0 rfl rfl dX10_man_91 ?_
          refine lv_iload_n hx hb dX10_man_94 rfl (lv_at hl 1 rfl) ?_
          refine jr_i (rVr (As := [.int vm]) (rest := []) (ci := 10) ⟨hx, hb, hml, hown, hts⟩ (g_darkOf l dC dI cy vw vwc vwl vws vwc1 vwc2 vwc3 vwc4 vwc5 vwcm vwcd vwcr vwcw vwcf3 vwcf4 vwl1 vwl2 vwl3 vwl4 vwl5 vwl6 vwl7 vwl8 vwl9 vwl10 vwly vwlf2 vwlf3 vwlf4 vwlf5 vm r_vwcm r_vwcd ⟨by omega, by omega⟩ p_vwcf3 p_vwlf2 p_vwlf5) (cw_X10_144 hts rfl rfl ⟨Nat.le_of_ble_eq_true rfl, Nat.le_of_ble_eq_true rfl⟩) hP hK [1, 2, 3, 4, 5, 7, 8, 9, 10] rfl rfl rfl rfl hl.1 rfl (Nat.le_of_ble_eq_true rfl) dX10_man_95 ⟨Nat.le_of_ble_eq_true rfl, Nat.le_of_ble_eq_true rfl⟩) hP hS (fun r_11 H locs hp_12 hP hS => ?_)
          refine W.widen (k := 1) (n := 6) (by decide) (by decide) ?_
          exact vx_ret (rr_i hx hb hr hlocks trivial hS dX10_man_98)
        by_cases sw_6_3 : vn.toInt = 3
        · refine as_i 3 (i_eq.mpr (sw_6_3.trans k_3.symm)) ?_
          refine lv_tableIn (off := 72) (tgt := 99) hx hb dX10_man_27 (by decide) (by decide) (by decide) (by decide) ?_
          refine lv_aload_n hx hb dX10_man_99 rfl (lv_at hl 0 rfl) ?_
          refine gf_X10_76 hx hb hts hown hK hP 0 rfl rfl dX10_man_100 ?_
          refine lv_iload_n hx hb dX10_man_103 rfl (lv_at hl 1 rfl) ?_
          refine jr_i (rVr (As := [.int vm]) (rest := []) (ci := 10) ⟨hx, hb, hml, hown, hts⟩ (g_howIs l dC dI cy vw vwc vwl vws vwc1 vwc2 vwc3 vwc4 vwc5 vwcm vwcd vwcr vwcw vwcf3 vwcf4 vwl1 vwl2 vwl3 vwl4 vwl5 vwl6 vwl7 vwl8 vwl9 vwl10 vwly vwlf2 vwlf3 vwlf4 vwlf5 vm r_vwcm r_vwcd ⟨by omega, by omega⟩ p_vwcf3 p_vwlf2 p_vwlf5) (cw_X10_147 hts rfl rfl ⟨Nat.le_of_ble_eq_true rfl, Nat.le_of_ble_eq_true rfl⟩) hP hK [1, 2, 3, 4, 5, 7, 8, 9, 10] rfl rfl rfl rfl hl.1 rfl (Nat.le_of_ble_eq_true rfl) dX10_man_104 ⟨Nat.le_of_ble_eq_true rfl, Nat.le_of_ble_eq_true rfl⟩) hP hS (fun r_13 H locs hp_14 hP hS => ?_)
          have hp_14 : (0 ≤ (r_13 : Int32).toInt ∧ (r_13 : Int32).toInt ≤ 2) := hp_14
          have q_15 := hp_14
          refine W.widen (k := 1) (n := 6) (by decide) (by decide) ?_
          exact vx_ret (rr_i hx hb hr hlocks trivial hS dX10_man_107)
        by_cases sw_6_4 : vn.toInt = 4
        · refine as_i 4 (i_eq.mpr (sw_6_4.trans k_4.symm)) ?_
          refine lv_tableIn (off := 81) (tgt := 108) hx hb dX10_man_27 (by decide) (by decide) (by decide) (by decide) ?_
          refine lv_aload_n hx hb dX10_man_108 rfl (lv_at hl 0 rfl) ?_
          refine gf_X10_76 hx hb hts hown hK hP 0 rfl rfl dX10_man_109 ?_
          refine gf_X10_98 hx hb hts hown hK hP 1 rfl rfl dX10_man_112 ?_
          refine gf_X10_150 hx hb hts hown hK hP 5 rfl rfl dX10_man_115 ?_
          refine lv_iload_n hx hb dX10_man_118 rfl (lv_at hl 1 rfl) ?_
          have hin_16 : vp_in vm 7 := vp_in_iff.mpr ⟨by omega, by omega⟩
          refine va_iald hx hb hK hP 9 0 rfl rfl hin_16 dX10_man_119 ?_
          refine lv_topi (fun z_17 ez_17 => ?_)
          refine W.widen (k := 1) (n := 6) (by decide) (by decide) ?_
          exact vx_ret (rr_i hx hb hr hlocks trivial hS dX10_man_120)
        by_cases sw_6_5 : vn.toInt = 5
        · refine as_i 5 (i_eq.mpr (sw_6_5.trans k_5.symm)) ?_
          refine lv_tableIn (off := 94) (tgt := 121) hx hb dX10_man_27 (by decide) (by decide) (by decide) (by decide) ?_
          refine lv_aload_n hx hb dX10_man_121 rfl (lv_at hl 0 rfl) ?_
          refine gf_X10_76 hx hb hts hown hK hP 0 rfl rfl dX10_man_122 ?_
          refine gf_X10_98 hx hb hts hown hK hP 1 rfl rfl dX10_man_125 ?_
          refine gf_X10_153 hx hb hts hown hK hP 5 rfl rfl dX10_man_128 ?_
          refine lv_iload_n hx hb dX10_man_131 rfl (lv_at hl 1 rfl) ?_
          have hin_18 : vp_in vm 7 := vp_in_iff.mpr ⟨by omega, by omega⟩
          refine va_iald hx hb hK hP 10 0 rfl rfl hin_18 dX10_man_132 ?_
          refine lv_topi (fun z_19 ez_19 => ?_)
          have bz_19 := p_vwlf5.at hin_18 ez_19
          refine W.widen (k := 1) (n := 6) (by decide) (by decide) ?_
          exact vx_ret (rr_i hx hb hr hlocks trivial hS dX10_man_133)
        by_cases sw_6_6 : vn.toInt = 6
        · refine as_i 6 (i_eq.mpr (sw_6_6.trans k_6.symm)) ?_
          refine lv_tableIn (off := 107) (tgt := 134) hx hb dX10_man_27 (by decide) (by decide) (by decide) (by decide) ?_
          refine lv_aload_n hx hb dX10_man_134 rfl (lv_at hl 0 rfl) ?_
          refine gf_X10_76 hx hb hts hown hK hP 0 rfl rfl dX10_man_135 ?_
          refine gf_X10_98 hx hb hts hown hK hP 1 rfl rfl dX10_man_138 ?_
          refine lv_iload_n hx hb dX10_man_141 rfl (lv_at hl 1 rfl) ?_
          refine jr_i (rVr (As := [.int vm]) (rest := []) (ci := 5) ⟨hx, hb, hml, hown, hts⟩ (g_owedBy l dC dI cy vwl vwl1 vwl2 vwl3 vwl4 vwl5 vwl6 vwl7 vwl8 vwl9 vwl10 vwly vwlf3 vm ⟨by omega, by omega⟩) (cw_X10_156 hts rfl rfl ⟨Nat.le_of_ble_eq_true rfl, Nat.le_of_ble_eq_true rfl⟩) hP hK [5, 8] rfl rfl rfl rfl hl.1 rfl (Nat.le_of_ble_eq_true rfl) dX10_man_142 ⟨Nat.le_of_ble_eq_true rfl, Nat.le_of_ble_eq_true rfl⟩) hP hS (fun r_20 H locs hp_21 hP hS => ?_)
          refine W.widen (k := 1) (n := 6) (by decide) (by decide) ?_
          exact vx_ret (rr_i hx hb hr hlocks trivial hS dX10_man_145)
        refine lv_tableOut (tgt := 146) hx hb dX10_man_27 (by omega) (by decide) ?_
        refine lv_aload_n hx hb dX10_man_146 rfl (lv_at hl 0 rfl) ?_
        refine gf_X10_76 hx hb hts hown hK hP 0 rfl rfl dX10_man_147 ?_
        refine gf_X10_98 hx hb hts hown hK hP 1 rfl rfl dX10_man_150 ?_
        refine gf_X10_159 hx hb hts hown hK hP 5 rfl rfl dX10_man_153 ?_
        refine lv_iload_n hx hb dX10_man_156 rfl (lv_at hl 1 rfl) ?_
        have hin_22 : vp_in vm 7 := vp_in_iff.mpr ⟨by omega, by omega⟩
        refine va_iald hx hb hK hP 11 0 rfl rfl hin_22 dX10_man_157 ?_
        refine lv_topi (fun z_23 ez_23 => ?_)
        refine W.widen (k := 1) (n := 6) (by decide) (by decide) ?_
        exact vx_ret (rr_i hx hb hr hlocks trivial hS dX10_man_158)
      · skip
        have c_5 : ¬ (vn.toInt ≤ (7 : Int32).toInt) := fun h9 => c_5 (i_le.mpr h9)
        exact vx_throw0 (own := RX10) (cls := nse) (names := nseUp) (ik := 132) (ic := 134) (A := nB) hx hb hl0 hown (by decide +kernel) (by decide +kernel) (hts _ t1358) (hts _ t22) (vx_hat (fun w hw => hts w (at0_good hw)) at0_rest (vx_c (va_Nw.use rfl hE.2.2.1) (vx_c (va_Nw.use rfl hE.2.2.2.1) (vx_c (va_Nw.use rfl hE.2.2.2.2.1) (vx_c (va_Nw.use rfl hE.2.2.2.2.2) vx_n))))) at0_ot hE.1 hE.2.1 hS (by rw [hl.1, hml]) dX10_man_18 dX10_man_21 dX10_man_22 dX10_man_25 (fun x hx => (htab x hx).elim) (Nat.le_of_ble_eq_true rfl) (Nat.le_of_ble_eq_true rfl) (Nat.le_of_ble_eq_true rfl) (Nat.le_of_ble_eq_true rfl) hlocks (fun t ha hz hk => ⟨(), trivial, rfl, ⟨Nat.le_trans hS.1 hz, fun q h1 h2 => (hk q (Nat.lt_of_lt_of_le h1 hS.1)).trans (hS.2.1 q h1 h2)⟩⟩) (fun z hz => hS.2.2 z hz) (Nat.le_of_ble_eq_true rfl) (Nat.le_of_ble_eq_true rfl)
theorem met_of_vx {l : Launch} {y : MethodName} {ws : List Cond} {rm : Room} {Pc : Array Value → State → Prop} {Qc : Array Value → State → Outcome → State → Prop} {mc ms : Nat} {free : Addr → Prop} (h : vx_Met l y ws rm Pc Qc (fun _ _ _ => False) mc ms free) : Met l y ws rm Pc Qc mc ms free := by
  intro p e ha hc hk s m args below hf happ hP hK
  obtain ⟨n, o, h1, h2, h3, h4⟩ := h p e ha hc hk s m args below hf happ hP hK
  refine ⟨n, o, h1, h2, h3, ?_⟩
  rcases h4 with h4 | ⟨q, -, E, ce, L, h5, -⟩
  · exact h4
  · exact h5.elim
abbrev wlm : List Cond := .codeWith yL_man cL_man 5 (some .int) [(0, 10, 13, 13)] :: GW
abbrev O_l_man (cy : Nat → ClassId) (vo : Nat) (vt : Nat) (vx : Nat) (vb : Nat) (va : Nat) (ve : Nat) (vs : Nat) (vg : Nat) (vmr : Nat) (vkr : Nat) (vim : Nat) (vik : Nat) (vw : Nat) (vdw : Nat) (volf : Int32) (volh : Int32) (vomd : Int32) (vocd : Int32) (vwc : Nat) (vwl : Nat) (vws : Nat) (vwc1 : Nat) (vwc2 : Nat) (vwc3 : Nat) (vwc4 : Nat) (vwc5 : Nat) (vwcm : Int32) (vwcd : Int32) (vwcr : Int32) (vwcw : Int32) (vwcf3 : Nat → Int32) (vwcf4 : Nat → Int32) (vwl1 : Nat) (vwl2 : Nat) (vwl3 : Nat) (vwl4 : Nat) (vwl5 : Nat) (vwl6 : Nat) (vwl7 : Nat) (vwl8 : Nat) (vwl9 : Nat) (vwl10 : Nat) (vwly : Int32) (vwlf1 : Nat → Int32) (vwlf2 : Nat → Int32) (vwlf3 : Nat → Int32) (vwlf4 : Nat → Int32) (vwlf5 : Nat → Int32) (vwlf6 : Nat → Int32) (vm : Int32) (vn : Int32) (qo : Nat) (u : Nat → Int64) : va_W := [(vo, .inr (11, [.ref vt, .ref vx, .ref vb, .ref va, .ref ve, .ref vs, .ref vg, .ref vmr, .ref vkr, .ref vim, .ref vik, .ref vw, .ref vdw, .int volf, .int volh, .int vomd, .int vocd])), (vw, .inr (10, [.ref vwc, .ref vwl, .ref vws])), (vwc, .inr (2, [.ref vwc1, .ref vwc2, .ref vwc3, .ref vwc4, .ref vwc5, .int vwcm, .int vwcd, .int vwcr, .int vwcw])), (vwc3, .inl (cy 0, 10, .inl vwcf3)), (vwc4, .inl (cy 2, 10, .inl vwcf4)), (vwl, .inr (5, [.ref vwl1, .ref vwl2, .ref vwl3, .ref vwl4, .ref vwl5, .ref vwl6, .ref vwl7, .ref vwl8, .ref vwl9, .ref vwl10, .int vwly])), (vwl1, .inl (cy 0, 7, .inl vwlf1)), (vwl2, .inl (cy 0, 70, .inl vwlf2)), (vwl3, .inl (cy 0, 49, .inl vwlf3)), (vwl4, .inl (cy 0, 7, .inl vwlf4)), (vwl5, .inl (cy 0, 7, .inl vwlf5)), (vwl6, .inl (cy 0, 7, .inl vwlf6)), (qo, .inl (cy 1, 1, .inr (.inl u)))]
set_option maxHeartbeats 4000000 in
set_option maxRecDepth 100000 in
theorem l_man (l : Launch) (hl0 : l.stackTraces = false) (dC : Nat → ClassId) (dI : Nat → Nat → Nat) (cy : Nat → ClassId) (sz : Nat) (vo : Nat) (vt : Nat) (vx : Nat) (vb : Nat) (va : Nat) (ve : Nat) (vs : Nat) (vg : Nat) (vmr : Nat) (vkr : Nat) (vim : Nat) (vik : Nat) (vw : Nat) (vdw : Nat) (volf : Int32) (volh : Int32) (vomd : Int32) (vocd : Int32) (vwc : Nat) (vwl : Nat) (vws : Nat) (vwc1 : Nat) (vwc2 : Nat) (vwc3 : Nat) (vwc4 : Nat) (vwc5 : Nat) (vwcm : Int32) (vwcd : Int32) (vwcr : Int32) (vwcw : Int32) (vwcf3 : Nat → Int32) (vwcf4 : Nat → Int32) (vwl1 : Nat) (vwl2 : Nat) (vwl3 : Nat) (vwl4 : Nat) (vwl5 : Nat) (vwl6 : Nat) (vwl7 : Nat) (vwl8 : Nat) (vwl9 : Nat) (vwl10 : Nat) (vwly : Int32) (vwlf1 : Nat → Int32) (vwlf2 : Nat → Int32) (vwlf3 : Nat → Int32) (vwlf4 : Nat → Int32) (vwlf5 : Nat → Int32) (vwlf6 : Nat → Int32) (vm : Int32) (vn : Int32) (qo : Nat) (fo : Nat → Int64) (r_vwcm : 0 ≤ (vwcm : Int32).toInt ∧ (vwcm : Int32).toInt ≤ 7) (r_vwcd : 0 ≤ (vwcd : Int32).toInt ∧ (vwcd : Int32).toInt ≤ 10) (p_vwcf3 : Rg vwcf3 10 0 40) (p_vwlf2 : Rg vwlf2 70 0 9) (p_vwlf5 : Rg vwlf5 7 (-1) 9) : Met l yL_man wlm ({ frames := 14, cells := 1, slots := 6, locals := 896 }) (Pw (dC, dI) vwCl cy [(vo, .inr (11, [.ref vt, .ref vx, .ref vb, .ref va, .ref ve, .ref vs, .ref vg, .ref vmr, .ref vkr, .ref vim, .ref vik, .ref vw, .ref vdw, .int volf, .int volh, .int vomd, .int vocd])), (vw, .inr (10, [.ref vwc, .ref vwl, .ref vws])), (vwc, .inr (2, [.ref vwc1, .ref vwc2, .ref vwc3, .ref vwc4, .ref vwc5, .int vwcm, .int vwcd, .int vwcr, .int vwcw])), (vwc3, .inl (cy 0, 10, .inl vwcf3)), (vwc4, .inl (cy 2, 10, .inl vwcf4)), (vwl, .inr (5, [.ref vwl1, .ref vwl2, .ref vwl3, .ref vwl4, .ref vwl5, .ref vwl6, .ref vwl7, .ref vwl8, .ref vwl9, .ref vwl10, .int vwly])), (vwl1, .inl (cy 0, 7, .inl vwlf1)), (vwl2, .inl (cy 0, 70, .inl vwlf2)), (vwl3, .inl (cy 0, 49, .inl vwlf3)), (vwl4, .inl (cy 0, 7, .inl vwlf4)), (vwl5, .inl (cy 0, 7, .inl vwlf5)), (vwl6, .inl (cy 0, 7, .inl vwlf6)), (qo, .inl (cy 1, 1, .inr (.inl fo)))] sz [.ref vo, .int vm, .int vn, .ref qo] (EnvX nB)) (Qi (dC, dI) vwCl (fun (r : Int32) (u : Nat → Int64) => True) (O_l_man cy vo vt vx vb va ve vs vg vmr vkr vim vik vw vdw volf volh vomd vocd vwc vwl vws vwc1 vwc2 vwc3 vwc4 vwc5 vwcm vwcd vwcr vwcw vwcf3 vwcf4 vwl1 vwl2 vwl3 vwl4 vwl5 vwl6 vwl7 vwl8 vwl9 vwl10 vwly vwlf1 vwlf2 vwlf3 vwlf4 vwlf5 vwlf6 vm vn qo) (va_A [(vo, .inr (11, [.ref vt, .ref vx, .ref vb, .ref va, .ref ve, .ref vs, .ref vg, .ref vmr, .ref vkr, .ref vim, .ref vik, .ref vw, .ref vdw, .int volf, .int volh, .int vomd, .int vocd])), (vw, .inr (10, [.ref vwc, .ref vwl, .ref vws])), (vwc, .inr (2, [.ref vwc1, .ref vwc2, .ref vwc3, .ref vwc4, .ref vwc5, .int vwcm, .int vwcd, .int vwcr, .int vwcw])), (vwc3, .inl (cy 0, 10, .inl vwcf3)), (vwc4, .inl (cy 2, 10, .inl vwcf4)), (vwl, .inr (5, [.ref vwl1, .ref vwl2, .ref vwl3, .ref vwl4, .ref vwl5, .ref vwl6, .ref vwl7, .ref vwl8, .ref vwl9, .ref vwl10, .int vwly])), (vwl1, .inl (cy 0, 7, .inl vwlf1)), (vwl2, .inl (cy 0, 70, .inl vwlf2)), (vwl3, .inl (cy 0, 49, .inl vwlf3)), (vwl4, .inl (cy 0, 7, .inl vwlf4)), (vwl5, .inl (cy 0, 7, .inl vwlf5)), (vwl6, .inl (cy 0, 7, .inl vwlf6)), (qo, .inl (cy 1, 1, .inr (.inl fo)))] sz)) 1 6 (va_A [(vo, .inr (11, [.ref vt, .ref vx, .ref vb, .ref va, .ref ve, .ref vs, .ref vg, .ref vmr, .ref vkr, .ref vim, .ref vik, .ref vw, .ref vdw, .int volf, .int volh, .int vomd, .int vocd])), (vw, .inr (10, [.ref vwc, .ref vwl, .ref vws])), (vwc, .inr (2, [.ref vwc1, .ref vwc2, .ref vwc3, .ref vwc4, .ref vwc5, .int vwcm, .int vwcd, .int vwcr, .int vwcw])), (vwc3, .inl (cy 0, 10, .inl vwcf3)), (vwc4, .inl (cy 2, 10, .inl vwcf4)), (vwl, .inr (5, [.ref vwl1, .ref vwl2, .ref vwl3, .ref vwl4, .ref vwl5, .ref vwl6, .ref vwl7, .ref vwl8, .ref vwl9, .ref vwl10, .int vwly])), (vwl1, .inl (cy 0, 7, .inl vwlf1)), (vwl2, .inl (cy 0, 70, .inl vwlf2)), (vwl3, .inl (cy 0, 49, .inl vwlf3)), (vwl4, .inl (cy 0, 7, .inl vwlf4)), (vwl5, .inl (cy 0, 7, .inl vwlf5)), (vwl6, .inl (cy 0, 7, .inl vwlf6)), (qo, .inl (cy 1, 1, .inr (.inl fo)))] sz) := by
  refine met_of_vx (vx_ofWH (cc := cL_man) (maxL := 5) (ret := some .int) (by decide +kernel) rfl ?_)
  intro p e s m args below meth c s₁ B hml hv
  obtain ⟨rfl, hsz, hP, hK, hD0, hE⟩ := hv
  subst hsz
  have hx := B.exec
  have hb := B.bytes
  have hr := B.returns
  have hts0 := atoms_spec (ws := wlm) B.pre
  have hts : ∀ w ∈ GW, w.before ([.ref vo, .int vm, .int vn, .ref qo] : List Value).toArray s = true := fun w hw => hts0 w (List.mem_cons_of_mem _ hw)
  have hown : s.vm.findClass RL = some m.cls := findClass_of_methodNamed B.named
  have hlocks := B.notSynchronized
  have htab : c.exceptionTable.toList = tableOf [(0, 10, 13, 13)] := vx_table (x := yL_man) B (hts _ t1352)
  have hD : va_D (va_A [(vo, .inr (11, [.ref vt, .ref vx, .ref vb, .ref va, .ref ve, .ref vs, .ref vg, .ref vmr, .ref vkr, .ref vim, .ref vik, .ref vw, .ref vdw, .int volf, .int volh, .int vomd, .int vocd])), (vw, .inr (10, [.ref vwc, .ref vwl, .ref vws])), (vwc, .inr (2, [.ref vwc1, .ref vwc2, .ref vwc3, .ref vwc4, .ref vwc5, .int vwcm, .int vwcd, .int vwcr, .int vwcw])), (vwc3, .inl (cy 0, 10, .inl vwcf3)), (vwc4, .inl (cy 2, 10, .inl vwcf4)), (vwl, .inr (5, [.ref vwl1, .ref vwl2, .ref vwl3, .ref vwl4, .ref vwl5, .ref vwl6, .ref vwl7, .ref vwl8, .ref vwl9, .ref vwl10, .int vwly])), (vwl1, .inl (cy 0, 7, .inl vwlf1)), (vwl2, .inl (cy 0, 70, .inl vwlf2)), (vwl3, .inl (cy 0, 49, .inl vwlf3)), (vwl4, .inl (cy 0, 7, .inl vwlf4)), (vwl5, .inl (cy 0, 7, .inl vwlf5)), (vwl6, .inl (cy 0, 7, .inl vwlf6)), (qo, .inl (cy 1, 1, .inr (.inl fo)))] s.heap.size) [(vo, .inr (11, [.ref vt, .ref vx, .ref vb, .ref va, .ref ve, .ref vs, .ref vg, .ref vmr, .ref vkr, .ref vim, .ref vik, .ref vw, .ref vdw, .int volf, .int volh, .int vomd, .int vocd])), (vw, .inr (10, [.ref vwc, .ref vwl, .ref vws])), (vwc, .inr (2, [.ref vwc1, .ref vwc2, .ref vwc3, .ref vwc4, .ref vwc5, .int vwcm, .int vwcd, .int vwcr, .int vwcw])), (vwc3, .inl (cy 0, 10, .inl vwcf3)), (vwc4, .inl (cy 2, 10, .inl vwcf4)), (vwl, .inr (5, [.ref vwl1, .ref vwl2, .ref vwl3, .ref vwl4, .ref vwl5, .ref vwl6, .ref vwl7, .ref vwl8, .ref vwl9, .ref vwl10, .int vwly])), (vwl1, .inl (cy 0, 7, .inl vwlf1)), (vwl2, .inl (cy 0, 70, .inl vwlf2)), (vwl3, .inl (cy 0, 49, .inl vwlf3)), (vwl4, .inl (cy 0, 7, .inl vwlf4)), (vwl5, .inl (cy 0, 7, .inl vwlf5)), (vwl6, .inl (cy 0, 7, .inl vwlf6)), (qo, .inl (cy 1, 1, .inr (.inl fo)))] := hD0.self
  have hA : ∀ q : Nat, s.heap.size ≤ q → va_A [(vo, .inr (11, [.ref vt, .ref vx, .ref vb, .ref va, .ref ve, .ref vs, .ref vg, .ref vmr, .ref vkr, .ref vim, .ref vik, .ref vw, .ref vdw, .int volf, .int volh, .int vomd, .int vocd])), (vw, .inr (10, [.ref vwc, .ref vwl, .ref vws])), (vwc, .inr (2, [.ref vwc1, .ref vwc2, .ref vwc3, .ref vwc4, .ref vwc5, .int vwcm, .int vwcd, .int vwcr, .int vwcw])), (vwc3, .inl (cy 0, 10, .inl vwcf3)), (vwc4, .inl (cy 2, 10, .inl vwcf4)), (vwl, .inr (5, [.ref vwl1, .ref vwl2, .ref vwl3, .ref vwl4, .ref vwl5, .ref vwl6, .ref vwl7, .ref vwl8, .ref vwl9, .ref vwl10, .int vwly])), (vwl1, .inl (cy 0, 7, .inl vwlf1)), (vwl2, .inl (cy 0, 70, .inl vwlf2)), (vwl3, .inl (cy 0, 49, .inl vwlf3)), (vwl4, .inl (cy 0, 7, .inl vwlf4)), (vwl5, .inl (cy 0, 7, .inl vwlf5)), (vwl6, .inl (cy 0, 7, .inl vwlf6)), (qo, .inl (cy 1, 1, .inr (.inl fo)))] s.heap.size q := fun q h => Or.inr h
  have hS : va_S (va_A [(vo, .inr (11, [.ref vt, .ref vx, .ref vb, .ref va, .ref ve, .ref vs, .ref vg, .ref vmr, .ref vkr, .ref vim, .ref vik, .ref vw, .ref vdw, .int volf, .int volh, .int vomd, .int vocd])), (vw, .inr (10, [.ref vwc, .ref vwl, .ref vws])), (vwc, .inr (2, [.ref vwc1, .ref vwc2, .ref vwc3, .ref vwc4, .ref vwc5, .int vwcm, .int vwcd, .int vwcr, .int vwcw])), (vwc3, .inl (cy 0, 10, .inl vwcf3)), (vwc4, .inl (cy 2, 10, .inl vwcf4)), (vwl, .inr (5, [.ref vwl1, .ref vwl2, .ref vwl3, .ref vwl4, .ref vwl5, .ref vwl6, .ref vwl7, .ref vwl8, .ref vwl9, .ref vwl10, .int vwly])), (vwl1, .inl (cy 0, 7, .inl vwlf1)), (vwl2, .inl (cy 0, 70, .inl vwlf2)), (vwl3, .inl (cy 0, 49, .inl vwlf3)), (vwl4, .inl (cy 0, 7, .inl vwlf4)), (vwl5, .inl (cy 0, 7, .inl vwlf5)), (vwl6, .inl (cy 0, 7, .inl vwlf6)), (qo, .inl (cy 1, 1, .inr (.inl fo)))] s.heap.size) s.heap s.heap [] := va_S.rf
  have hS0 : va_S nB s.heap s.heap [] := va_S.rf
  have hl := lv_entry ([.ref vo, .int vm, .int vn, .ref qo]) (n := 5) (Nat.le_of_ble_eq_true rfl)
  rw [lg_entry_eq]
  generalize (lg_sl ([.ref vo, .int vm, .int vn, .ref qo]) ++ List.replicate (5 - (lg_sl ([.ref vo, .int vm, .int vn, .ref qo])).length) Slot.unset).toArray = ls at hl ⊢
  have hl : lv_has ls 5 [(0, .ref vo), (1, .int vm), (2, .int vn), (3, .ref qo)] := hl
  refine lv_aload_n hx hb dL_man_0 rfl (lv_at hl 3 rfl) ?_
  refine lv_iconst (v := 0) hx hb dL_man_1 (by decide) ?_
  refine lv_aload_n hx hb dL_man_2 rfl (lv_at hl 0 rfl) ?_
  refine lv_iload_n hx hb dL_man_3 rfl (lv_at hl 1 rfl) ?_
  refine lv_iload_n hx hb dL_man_4 rfl (lv_at hl 2 rfl) ?_
  refine vx_calli (vx_runV (As := [.int vm, .int vn]) (rest := [.int 0, .ref qo]) ⟨hx, hb, hml, hown, hts⟩ (g_man l hl0 dC dI cy vo vt vx vb va ve vs vg vmr vkr vim vik vw vdw volf volh vomd vocd vwc vwl vws vwc1 vwc2 vwc3 vwc4 vwc5 vwcm vwcd vwcr vwcw vwcf3 vwcf4 vwl1 vwl2 vwl3 vwl4 vwl5 vwl6 vwl7 vwl8 vwl9 vwl10 vwly vwlf1 vwlf2 vwlf3 vwlf4 vwlf5 vwlf6 vm vn r_vwcm r_vwcd p_vwcf3 p_vwlf2 p_vwlf5) (cw_L_7 hts rfl rfl ⟨Nat.le_of_ble_eq_true rfl, Nat.le_of_ble_eq_true rfl⟩) ⟨blind_x, va_recv (ci := 11) (q := (RX10, TX10, 17)) (q0 := 0) hK hP rfl rfl, fun U hU hW => ⟨rfl, by rw [hU]; exact hP.sub [0, 1, 2, 3, 4, 5, 6, 7, 8, 9, 10, 11] rfl, va_K.moved hW.alike hK, EnvX.at hE hS0 (fun _ h => h) (fun _ h => h) U hU hW⟩⟩ rfl rfl hl.1 rfl (lv_room (Nat.le_of_ble_eq_true rfl)) dL_man_5 ⟨Nat.le_of_ble_eq_true rfl, Nat.le_of_ble_eq_true rfl⟩) hS (fun _ _ h => h.elim) (fun _ h => h.elim) (fun _ _ h => h.elim) (fun E ce q9 u t H locs ht hvm hp hB hz hk hS hce hcv hcl => ?_) (fun r u t H locs ht hvm hp hB hz hk hS => ?_)
  · have hB : E = nse := hB
    subst hB
    have hP := hP.kept (H1 := H) (fun k q hq => hk q.1 (hP k q hq).lt (fun h => h.elim))
    refine vx_catch (own := RL) (name := nse) (E := nse) hown [] ⟨0, 10, 13, 13⟩ [] (by rw [htab]; rfl) (fun z hz => nomatch hz) (by decide) (by decide) (hts _ t1353) (va_Nw.use rfl hE.2.2.2.2.2) hce hcv hcl ?_
    refine lv_astore (lv' := [(4, .ref q9), (0, .ref vo), (1, .int vm), (2, .int vn), (3, .ref qo)]) hx hb dL_man_13 hl (by decide) rfl (fun ls hl => ?_)
    refine lv_iconst (v := 1) hx hb dL_man_15 (by decide) ?_
    refine W.widen (k := 1) (n := 6) (by decide) (by decide) ?_
    exact vx_ret (re_i fo hx hb hr hlocks trivial hP hD hS dL_man_16)
  · have hP := hP.kept (H1 := H) (fun k q hq => hk q.1 (hP k q hq).lt (fun h => h.elim))
    refine lv_i2l hx hb dL_man_8 rfl ?_
    refine va_last hx hb hK hP hD hS 12 1 rfl rfl (vp_in_iff.mpr ⟨by decide, by decide⟩) dL_man_9 (fun H locs hP hD hS => ?_)
    refine lv_goto (tgt := 17) hx hb dL_man_10 (by decide) ?_
    refine lv_iconst (v := 0) hx hb dL_man_17 (by decide) ?_
    refine W.widen (k := 1) (n := 6) (by decide) (by decide) ?_
    exact vx_ret (re_i _ hx hb hr hlocks trivial (hP.sub [0, 1, 2, 3, 4, 5, 6, 7, 8, 9, 10, 11, 12] rfl) (hD.sub [0, 1, 2, 3, 4, 5, 6, 7, 8, 9, 10, 11, 12] rfl rfl) hS dL_man_18)
theorem cw_L_38 {R : Room} {s : State} {args : Array Value} {rm : Room} {mc ms : Nat} (hts : ∀ w ∈ GW, w.before args s = true) (hrc : rm.cells = mc) (hrs : rm.slots = ms) (hR : rm.frames + 1 ≤ R.frames ∧ 8 + (5 + 11) + rm.locals ≤ R.locals) : vx_CSW R s args RL 38 yL_man cL_man 5 (some .int) [(0, 10, 13, 13)] wlm rm mc ms 4 := by
  refine vx_cwSW 4 hts (fun w hw => ?_) rfl hrc hrs (by decide +kernel) hR
  rcases List.mem_append.mp hw with hw | hw
  · simp only [List.mem_cons, List.not_mem_nil, or_false] at hw
    rcases hw with rfl | rfl | rfl
    · exact ⟨t1350, gw_good t1350⟩
    · exact ⟨t1351, gw_good t1351⟩
    · exact ⟨t0, gw_good t0⟩
  · rcases List.mem_cons.mp hw with rfl | hw
    · exact ⟨t1352, gw_good t1352⟩
    · exact ⟨hw, gw_good hw⟩
