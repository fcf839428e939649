abbrev cX10_isMan : ByteArray := prog_1_method_43_code
def yX10_isMan : MethodName := ⟨RX10, "isMan", "(I)Z"⟩
theorem t676 : Cond.code yX10_isMan cX10_isMan 2 (some .boolean) ∈ GW := gw_mem 790 (by decide +kernel) (by decide +kernel)
theorem dX10_isMan_0 : decode cX10_isMan 0 = .ok (.iload_n 1, 1) := by decide +kernel
theorem dX10_isMan_1 : decode cX10_isMan 1 = .ok (.ifCond .lt 21, 3) := by decide +kernel
theorem dX10_isMan_22 : decode cX10_isMan 22 = .ok (.iconst 0, 1) := by decide +kernel
theorem dX10_isMan_23 : decode cX10_isMan 23 = .ok (.ireturn, 1) := by decide +kernel
theorem dX10_isMan_4 : decode cX10_isMan 4 = .ok (.iload_n 1, 1) := by decide +kernel
theorem dX10_isMan_5 : decode cX10_isMan 5 = .ok (.aload_n 0, 1) := by decide +kernel
theorem dX10_isMan_6 : decode cX10_isMan 6 = .ok (.getfield 76, 3) := by decide +kernel
theorem t488 : Cond.fieldLink RX10 76 "LikenessPound" "world" "LLikenessPound$World;" ∈ GW := gw_mem 602 (by decide +kernel) (by decide +kernel)
theorem gf_X10_76 {p : Program} {l : Launch} {e : Env} {R : Room} {s : State} {m : MethodId} {args : Array Value} {below : List Frame} {meth : Method} {c : Code} {H : Heap} {locs : List Loc} {cells slots : Nat} {Q : State → Prop} {cc : ByteArray} {pc : Nat} {ls : Array Slot} {rest : List Value} {D : va_G} {a : Nat} {tys : List (ClassId × FieldType)} {ws : va_W} (hx : p.tables.exec = Jvm.exec) (hb : c.code = cc) (hts : ∀ w ∈ GW, w.before args s = true) (hown : s.vm.findClass RX10 = some m.cls) (hK : va_K D vwCl tys s) (hP : va_P D vwCl ws H) (q0 : Nat) {fs : List Value} (he : ws[q0]? = some (a, .inr (11, fs))) {v : Value} (hv : fs[11]? = some v) (hdg : decode cc pc = .ok (.getfield 76, 3)) (kk : W p l e R s m args below meth c H locs cells slots Q (F0 m (pc + 3) ls (v :: rest))) : W p l e R s m args below meth c H locs cells slots Q (F0 m pc ls (.ref a :: rest)) := va_get (C := RX10) (T := TX10) (N := 17) (ci := 11) hx hb hts inX10 hown hK hP q0 he rfl 11 (by decide) (hts _ t488) (fun _ h => h) hv hdg kk
theorem dX10_isMan_9 : decode cX10_isMan 9 = .ok (.getfield 94, 3) := by decide +kernel
theorem t461 : Cond.fieldLink RX10 94 "LikenessPound$World" "colony" "LLikenessPound$Colony;" ∈ GW := gw_mem 575 (by decide +kernel) (by decide +kernel)
theorem gf_X10_94 {p : Program} {l : Launch} {e : Env} {R : Room} {s : State} {m : MethodId} {args : Array Value} {below : List Frame} {meth : Method} {c : Code} {H : Heap} {locs : List Loc} {cells slots : Nat} {Q : State → Prop} {cc : ByteArray} {pc : Nat} {ls : Array Slot} {rest : List Value} {D : va_G} {a : Nat} {tys : List (ClassId × FieldType)} {ws : va_W} (hx : p.tables.exec = Jvm.exec) (hb : c.code = cc) (hts : ∀ w ∈ GW, w.before args s = true) (hown : s.vm.findClass RX10 = some m.cls) (hK : va_K D vwCl tys s) (hP : va_P D vwCl ws H) (q0 : Nat) {fs : List Value} (he : ws[q0]? = some (a, .inr (10, fs))) {v : Value} (hv : fs[0]? = some v) (hdg : decode cc pc = .ok (.getfield 94, 3)) (kk : W p l e R s m args below meth c H locs cells slots Q (F0 m (pc + 3) ls (v :: rest))) : W p l e R s m args below meth c H locs cells slots Q (F0 m pc ls (.ref a :: rest)) := va_get (C := RX9) (T := TX9) (N := 3) (ci := 10) hx hb hts inX9 hown hK hP q0 he rfl 0 (by decide) (hts _ t461) (fun _ h => h) hv hdg kk
theorem dX10_isMan_12 : decode cX10_isMan 12 = .ok (.getfield 324, 3) := by decide +kernel
theorem t395 : Cond.fieldLink RX10 324 "LikenessPound$Colony" "men" "I" ∈ GW := gw_mem 509 (by decide +kernel) (by decide +kernel)
theorem gf_X10_324 {p : Program} {l : Launch} {e : Env} {R : Room} {s : State} {m : MethodId} {args : Array Value} {below : List Frame} {meth : Method} {c : Code} {H : Heap} {locs : List Loc} {cells slots : Nat} {Q : State → Prop} {cc : ByteArray} {pc : Nat} {ls : Array Slot} {rest : List Value} {D : va_G} {a : Nat} {tys : List (ClassId × FieldType)} {ws : va_W} (hx : p.tables.exec = Jvm.exec) (hb : c.code = cc) (hts : ∀ w ∈ GW, w.before args s = true) (hown : s.vm.findClass RX10 = some m.cls) (hK : va_K D vwCl tys s) (hP : va_P D vwCl ws H) (q0 : Nat) {fs : List Value} (he : ws[q0]? = some (a, .inr (2, fs))) {v : Value} (hv : fs[5]? = some v) (hdg : decode cc pc = .ok (.getfield 324, 3)) (kk : W p l e R s m args below meth c H locs cells slots Q (F0 m (pc + 3) ls (v :: rest))) : W p l e R s m args below meth c H locs cells slots Q (F0 m pc ls (.ref a :: rest)) := va_get (C := RX1) (T := TX1) (N := 9) (ci := 2) hx hb hts inX1 hown hK hP q0 he rfl 5 (by decide) (hts _ t395) (fun _ h => h) hv hdg kk
theorem dX10_isMan_15 : decode cX10_isMan 15 = .ok (.if_icmp .ge 7, 3) := by decide +kernel
theorem dX10_isMan_18 : decode cX10_isMan 18 = .ok (.iconst 1, 1) := by decide +kernel
theorem dX10_isMan_19 : decode cX10_isMan 19 = .ok (.goto 4, 3) := by decide +kernel
set_option maxHeartbeats 4000000 in
set_option maxRecDepth 100000 in
theorem g_isMan (l : Launch) (dC : Nat → ClassId) (dI : Nat → Nat → Nat) (cy : Nat → ClassId) (vo : Nat) (vt : Nat) (vx : Nat) (vb : Nat) (va : Nat) (ve : Nat) (vs : Nat) (vg : Nat) (vmr : Nat) (vkr : Nat) (vim : Nat) (vik : Nat) (vw : Nat) (vdw : Nat) (volf : Int32) (volh : Int32) (vomd : Int32) (vocd : Int32) (vwc : Nat) (vwl : Nat) (vws : Nat) (vwc1 : Nat) (vwc2 : Nat) (vwc3 : Nat) (vwc4 : Nat) (vwc5 : Nat) (vwcm : Int32) (vwcd : Int32) (vwcr : Int32) (vwcw : Int32) (vm : Int32) (r_vwcm : 0 ≤ (vwcm : Int32).toInt ∧ (vwcm : Int32).toInt ≤ 7) (r_vwcd : 0 ≤ (vwcd : Int32).toInt ∧ (vwcd : Int32).toInt ≤ 10) : Met l yX10_isMan (wl yX10_isMan cX10_isMan 2 (some .boolean)) ({ frames := 0, cells := 0, slots := 0, locals := 0 }) (Pr (dC, dI) vwCl cy [(vo, .inr (11, [.ref vt, .ref vx, .ref vb, .ref va, .ref ve, .ref vs, .ref vg, .ref vmr, .ref vkr, .ref vim, .ref vik, .ref vw, .ref vdw, .int volf, .int volh, .int vomd, .int vocd])), (vw, .inr (10, [.ref vwc, .ref vwl, .ref vws])), (vwc, .inr (2, [.ref vwc1, .ref vwc2, .ref vwc3, .ref vwc4, .ref vwc5, .int vwcm, .int vwcd, .int vwcr, .int vwcw]))] [.ref vo, .int vm]) (Ri (fun r => ((r = 0 ∧ ((vm : Int32).toInt < 0 ∨ (vwcm : Int32).toInt ≤ (vm : Int32).toInt)) ∨ (r = 1 ∧ 0 ≤ (vm : Int32).toInt ∧ (vm : Int32).toInt < (vwcm : Int32).toInt)))) 0 0 (fun _ => False) := by
  refine mr RX10 rfl (by decide +kernel) (Nat.le_of_ble_eq_true rfl) ?_
  intro p e s m below meth c hx hb hr hlocks av9 hav hts hown hml hK hP hS Q9 hQ9 ls hl
  have hl : lv_has ls 2 [(0, .ref vo), (1, .int vm)] := hl
  refine lv_iload_n hx hb dX10_isMan_0 rfl (lv_at hl 1 rfl) ?_
  have k_0 : (0 : Int32).toInt = 0 := by decide
  refine lv_if_lt (tgt := 22) hx hb dX10_isMan_1 (by decide) (fun c_1 => ?_) (fun c_1 => ?_)
  · skip
    have c_1 : vm.toInt < (0 : Int32).toInt := i_lt.mp c_1
    refine lv_iconst (v := 0) hx hb dX10_isMan_22 (by decide) ?_
    rw [hQ9]
    exact rr_z hx hb hr hlocks (Or.inl rfl) (show ((0 : Int32) = 0 ∧ ((vm : Int32).toInt < 0 ∨ (vwcm : Int32).toInt ≤ (vm : Int32).toInt)) ∨ ((0 : Int32) = 1 ∧ 0 ≤ (vm : Int32).toInt ∧ (vm : Int32).toInt < (vwcm : Int32).toInt) from (Or.inl ⟨rfl, by omega⟩)) hS dX10_isMan_23
  · skip
    have c_1 : ¬ (vm.toInt < (0 : Int32).toInt) := fun h9 => c_1 (i_lt.mpr h9)
    refine lv_iload_n hx hb dX10_isMan_4 rfl (lv_at hl 1 rfl) ?_
    refine lv_aload_n hx hb dX10_isMan_5 rfl (lv_at hl 0 rfl) ?_
    refine gf_X10_76 hx hb hts hown hK hP 0 rfl rfl dX10_isMan_6 ?_
    refine gf_X10_94 hx hb hts hown hK hP 1 rfl rfl dX10_isMan_9 ?_
    refine gf_X10_324 hx hb hts hown hK hP 2 rfl rfl dX10_isMan_12 ?_
    refine lv_icmp_ge (tgt := 22) hx hb dX10_isMan_15 (by decide) (fun c_2 => ?_) (fun c_2 => ?_)
    · skip
      have c_2 : vwcm.toInt ≤ vm.toInt := i_le.mp c_2
      refine lv_iconst (v := 0) hx hb dX10_isMan_22 (by decide) ?_
      rw [hQ9]
      exact rr_z hx hb hr hlocks (Or.inl rfl) (show ((0 : Int32) = 0 ∧ ((vm : Int32).toInt < 0 ∨ (vwcm : Int32).toInt ≤ (vm : Int32).toInt)) ∨ ((0 : Int32) = 1 ∧ 0 ≤ (vm : Int32).toInt ∧ (vm : Int32).toInt < (vwcm : Int32).toInt) from (Or.inl ⟨rfl, by omega⟩)) hS dX10_isMan_23
    · skip
      have c_2 : ¬ (vwcm.toInt ≤ vm.toInt) := fun h9 => c_2 (i_le.mpr h9)
      refine lv_iconst (v := 1) hx hb dX10_isMan_18 (by decide) ?_
      refine lv_goto (tgt := 23) hx hb dX10_isMan_19 (by decide) ?_
      have k_1 : (1 : Int32).toInt = 1 := by decide
      rw [hQ9]
      exact rr_z hx hb hr hlocks (Or.inr rfl) (show ((1 : Int32) = 0 ∧ ((vm : Int32).toInt < 0 ∨ (vwcm : Int32).toInt ≤ (vm : Int32).toInt)) ∨ ((1 : Int32) = 1 ∧ 0 ≤ (vm : Int32).toInt ∧ (vm : Int32).toInt < (vwcm : Int32).toInt) from (Or.inr (⟨rfl, by omega⟩))) hS dX10_isMan_23
abbrev cX10_isDeed : ByteArray := prog_1_method_44_code
def yX10_isDeed : MethodName := ⟨RX10, "isDeed", "(I)Z"⟩
theorem t680 : Cond.code yX10_isDeed cX10_isDeed 2 (some .boolean) ∈ GW := gw_mem 794 (by decide +kernel) (by decide +kernel)
theorem dX10_isDeed_0 : decode cX10_isDeed 0 = .ok (.iload_n 1, 1) := by decide +kernel
theorem dX10_isDeed_1 : decode cX10_isDeed 1 = .ok (.ifCond .lt 21, 3) := by decide +kernel
theorem dX10_isDeed_22 : decode cX10_isDeed 22 = .ok (.iconst 0, 1) := by decide +kernel
theorem dX10_isDeed_23 : decode cX10_isDeed 23 = .ok (.ireturn, 1) := by decide +kernel
theorem dX10_isDeed_4 : decode cX10_isDeed 4 = .ok (.iload_n 1, 1) := by decide +kernel
theorem dX10_isDeed_5 : decode cX10_isDeed 5 = .ok (.aload_n 0, 1) := by decide +kernel
theorem dX10_isDeed_6 : decode cX10_isDeed 6 = .ok (.getfield 76, 3) := by decide +kernel
theorem dX10_isDeed_9 : decode cX10_isDeed 9 = .ok (.getfield 94, 3) := by decide +kernel
theorem dX10_isDeed_12 : decode cX10_isDeed 12 = .ok (.getfield 295, 3) := by decide +kernel
theorem t401 : Cond.fieldLink RX10 295 "LikenessPound$Colony" "deeds" "I" ∈ GW := gw_mem 515 (by decide +kernel) (by decide +kernel)
theorem gf_X10_295 {p : Program} {l : Launch} {e : Env} {R : Room} {s : State} {m : MethodId} {args : Array Value} {below : List Frame} {meth : Method} {c : Code} {H : Heap} {locs : List Loc} {cells slots : Nat} {Q : State → Prop} {cc : ByteArray} {pc : Nat} {ls : Array Slot} {rest : List Value} {D : va_G} {a : Nat} {tys : List (ClassId × FieldType)} {ws : va_W} (hx : p.tables.exec = Jvm.exec) (hb : c.code = cc) (hts : ∀ w ∈ GW, w.before args s = true) (hown : s.vm.findClass RX10 = some m.cls) (hK : va_K D vwCl tys s) (hP : va_P D vwCl ws H) (q0 : Nat) {fs : List Value} (he : ws[q0]? = some (a, .inr (2, fs))) {v : Value} (hv : fs[6]? = some v) (hdg : decode cc pc = .ok (.getfield 295, 3)) (kk : W p l e R s m args below meth c H locs cells slots Q (F0 m (pc + 3) ls (v :: rest))) : W p l e R s m args below meth c H locs cells slots Q (F0 m pc ls (.ref a :: rest)) := va_get (C := RX1) (T := TX1) (N := 9) (ci := 2) hx hb hts inX1 hown hK hP q0 he rfl 6 (by decide) (hts _ t401) (fun _ h => h) hv hdg kk
theorem dX10_isDeed_15 : decode cX10_isDeed 15 = .ok (.if_icmp .ge 7, 3) := by decide +kernel
theorem dX10_isDeed_18 : decode cX10_isDeed 18 = .ok (.iconst 1, 1) := by decide +kernel
theorem dX10_isDeed_19 : decode cX10_isDeed 19 = .ok (.goto 4, 3) := by decide +kernel
set_option maxHeartbeats 4000000 in
set_option maxRecDepth 100000 in
theorem g_isDeed (l : Launch) (dC : Nat → ClassId) (dI : Nat → Nat → Nat) (cy : Nat → ClassId) (vo : Nat) (vt : Nat) (vx : Nat) (vb : Nat) (va : Nat) (ve : Nat) (vs : Nat) (vg : Nat) (vmr : Nat) (vkr : Nat) (vim : Nat) (vik : Nat) (vw : Nat) (vdw : Nat) (volf : Int32) (volh : Int32) (vomd : Int32) (vocd : Int32) (vwc : Nat) (vwl : Nat) (vws : Nat) (vwc1 : Nat) (vwc2 : Nat) (vwc3 : Nat) (vwc4 : Nat) (vwc5 : Nat) (vwcm : Int32) (vwcd : Int32) (vwcr : Int32) (vwcw : Int32) (vd : Int32) (r_vwcm : 0 ≤ (vwcm : Int32).toInt ∧ (vwcm : Int32).toInt ≤ 7) (r_vwcd : 0 ≤ (vwcd : Int32).toInt ∧ (vwcd : Int32).toInt ≤ 10) : Met l yX10_isDeed (wl yX10_isDeed cX10_isDeed 2 (some .boolean)) ({ frames := 0, cells := 0, slots := 0, locals := 0 }) (Pr (dC, dI) vwCl cy [(vo, .inr (11, [.ref vt, .ref vx, .ref vb, .ref va, .ref ve, .ref vs, .ref vg, .ref vmr, .ref vkr, .ref vim, .ref vik, .ref vw, .ref vdw, .int volf, .int volh, .int vomd, .int vocd])), (vw, .inr (10, [.ref vwc, .ref vwl, .ref vws])), (vwc, .inr (2, [.ref vwc1, .ref vwc2, .ref vwc3, .ref vwc4, .ref vwc5, .int vwcm, .int vwcd, .int vwcr, .int vwcw]))] [.ref vo, .int vd]) (Ri (fun r => ((r = 0) ∨ (r = 1 ∧ 0 ≤ (vd : Int32).toInt ∧ (vd : Int32).toInt < (vwcd : Int32).toInt)))) 0 0 (fun _ => False) := by
  refine mr RX10 rfl (by decide +kernel) (Nat.le_of_ble_eq_true rfl) ?_
  intro p e s m below meth c hx hb hr hlocks av9 hav hts hown hml hK hP hS Q9 hQ9 ls hl
  have hl : lv_has ls 2 [(0, .ref vo), (1, .int vd)] := hl
  refine lv_iload_n hx hb dX10_isDeed_0 rfl (lv_at hl 1 rfl) ?_
  have k_0 : (0 : Int32).toInt = 0 := by decide
  refine lv_if_lt (tgt := 22) hx hb dX10_isDeed_1 (by decide) (fun c_1 => ?_) (fun c_1 => ?_)
  · skip
    have c_1 : vd.toInt < (0 : Int32).toInt := i_lt.mp c_1
    refine lv_iconst (v := 0) hx hb dX10_isDeed_22 (by decide) ?_
    rw [hQ9]
    exact rr_z hx hb hr hlocks (Or.inl rfl) (show ((0 : Int32) = 0) ∨ ((0 : Int32) = 1 ∧ 0 ≤ (vd : Int32).toInt ∧ (vd : Int32).toInt < (vwcd : Int32).toInt) from (Or.inl rfl)) hS dX10_isDeed_23
  · skip
    have c_1 : ¬ (vd.toInt < (0 : Int32).toInt) := fun h9 => c_1 (i_lt.mpr h9)
    refine lv_iload_n hx hb dX10_isDeed_4 rfl (lv_at hl 1 rfl) ?_
    refine lv_aload_n hx hb dX10_isDeed_5 rfl (lv_at hl 0 rfl) ?_
    refine gf_X10_76 hx hb hts hown hK hP 0 rfl rfl dX10_isDeed_6 ?_
    refine gf_X10_94 hx hb hts hown hK hP 1 rfl rfl dX10_isDeed_9 ?_
    refine gf_X10_295 hx hb hts hown hK hP 2 rfl rfl dX10_isDeed_12 ?_
    refine lv_icmp_ge (tgt := 22) hx hb dX10_isDeed_15 (by decide) (fun c_2 => ?_) (fun c_2 => ?_)
    · skip
      have c_2 : vwcd.toInt ≤ vd.toInt := i_le.mp c_2
      refine lv_iconst (v := 0) hx hb dX10_isDeed_22 (by decide) ?_
      rw [hQ9]
      exact rr_z hx hb hr hlocks (Or.inl rfl) (show ((0 : Int32) = 0) ∨ ((0 : Int32) = 1 ∧ 0 ≤ (vd : Int32).toInt ∧ (vd : Int32).toInt < (vwcd : Int32).toInt) from (Or.inl rfl)) hS dX10_isDeed_23
    · skip
      have c_2 : ¬ (vwcd.toInt ≤ vd.toInt) := fun h9 => c_2 (i_le.mpr h9)
      refine lv_iconst (v := 1) hx hb dX10_isDeed_18 (by decide) ?_
      refine lv_goto (tgt := 23) hx hb dX10_isDeed_19 (by decide) ?_
      have k_1 : (1 : Int32).toInt = 1 := by decide
      rw [hQ9]
      exact rr_z hx hb hr hlocks (Or.inr rfl) (show ((1 : Int32) = 0) ∨ ((1 : Int32) = 1 ∧ 0 ≤ (vd : Int32).toInt ∧ (vd : Int32).toInt < (vwcd : Int32).toInt) from (Or.inr (⟨rfl, by omega⟩))) hS dX10_isDeed_23
abbrev cX10_isLoan : ByteArray := prog_1_method_45_code
def yX10_isLoan : MethodName := ⟨RX10, "isLoan", "(I)Z"⟩
theorem t808 : Cond.code yX10_isLoan cX10_isLoan 1 (some .boolean) ∈ GW := gw_mem 922 (by decide +kernel) (by decide +kernel)
theorem dX10_isLoan_0 : decode cX10_isLoan 0 = .ok (.iload_n 0, 1) := by decide +kernel
theorem dX10_isLoan_1 : decode cX10_isLoan 1 = .ok (.iconst 1, 1) := by decide +kernel
theorem dX10_isLoan_2 : decode cX10_isLoan 2 = .ok (.if_icmp .lt 13, 3) := by decide +kernel
theorem dX10_isLoan_15 : decode cX10_isLoan 15 = .ok (.iconst 0, 1) := by decide +kernel
theorem dX10_isLoan_16 : decode cX10_isLoan 16 = .ok (.ireturn, 1) := by decide +kernel
theorem dX10_isLoan_5 : decode cX10_isLoan 5 = .ok (.iload_n 0, 1) := by decide +kernel
theorem dX10_isLoan_6 : decode cX10_isLoan 6 = .ok (.bipush 40, 2) := by decide +kernel
theorem dX10_isLoan_8 : decode cX10_isLoan 8 = .ok (.if_icmp .gt 7, 3) := by decide +kernel
theorem dX10_isLoan_11 : decode cX10_isLoan 11 = .ok (.iconst 1, 1) := by decide +kernel
theorem dX10_isLoan_12 : decode cX10_isLoan 12 = .ok (.goto 4, 3) := by decide +kernel
set_option maxHeartbeats 4000000 in
set_option maxRecDepth 100000 in
theorem g_isLoan (l : Launch) (dC : Nat → ClassId) (dI : Nat → Nat → Nat) (cy : Nat → ClassId) (vn : Int32)  : Met l yX10_isLoan (wl yX10_isLoan cX10_isLoan 1 (some .boolean)) ({ frames := 0, cells := 0, slots := 0, locals := 0 }) (Pr (dC, dI) vwCl cy [] [.int vn]) (Ri (fun r => ((r = 0) ∨ (r = 1)))) 0 0 (fun _ => False) := by
  refine mr RX10 rfl (by decide +kernel) (Nat.le_of_ble_eq_true rfl) ?_
  intro p e s m below meth c hx hb hr hlocks av9 hav hts hown hml hK hP hS Q9 hQ9 ls hl
  have hl : lv_has ls 1 [(0, .int vn)] := hl
  refine lv_iload_n hx hb dX10_isLoan_0 rfl (lv_at hl 0 rfl) ?_
  refine lv_iconst (v := 1) hx hb dX10_isLoan_1 (by decide) ?_
  have k_1 : (1 : Int32).toInt = 1 := by decide
  refine lv_icmp_lt (tgt := 15) hx hb dX10_isLoan_2 (by decide) (fun c_1 => ?_) (fun c_1 => ?_)
  · skip
    have c_1 : vn.toInt < (1 : Int32).toInt := i_lt.mp c_1
    refine lv_iconst (v := 0) hx hb dX10_isLoan_15 (by decide) ?_
    have k_0 : (0 : Int32).toInt = 0 := by decide
    rw [hQ9]
    exact rr_z hx hb hr hlocks (Or.inl rfl) (show ((0 : Int32) = 0) ∨ ((0 : Int32) = 1) from (Or.inl rfl)) hS dX10_isLoan_16
  · skip
    have c_1 : ¬ (vn.toInt < (1 : Int32).toInt) := fun h9 => c_1 (i_lt.mpr h9)
    refine lv_iload_n hx hb dX10_isLoan_5 rfl (lv_at hl 0 rfl) ?_
    refine lv_bipush (v := 40) hx hb dX10_isLoan_6 (by decide) ?_
    have k_40 : (40 : Int32).toInt = 40 := by decide
    refine lv_icmp_gt (tgt := 15) hx hb dX10_isLoan_8 (by decide) (fun c_2 => ?_) (fun c_2 => ?_)
    · skip
      have c_2 : (40 : Int32).toInt < vn.toInt := i_lt.mp c_2
      refine lv_iconst (v := 0) hx hb dX10_isLoan_15 (by decide) ?_
      have k_0 : (0 : Int32).toInt = 0 := by decide
      rw [hQ9]
      exact rr_z hx hb hr hlocks (Or.inl rfl) (show ((0 : Int32) = 0) ∨ ((0 : Int32) = 1) from (Or.inl rfl)) hS dX10_isLoan_16
    · skip
      have c_2 : ¬ ((40 : Int32).toInt < vn.toInt) := fun h9 => c_2 (i_lt.mpr h9)
      refine lv_iconst (v := 1) hx hb dX10_isLoan_11 (by decide) ?_
      refine lv_goto (tgt := 16) hx hb dX10_isLoan_12 (by decide) ?_
      rw [hQ9]
      exact rr_z hx hb hr hlocks (Or.inr rfl) (show ((1 : Int32) = 0) ∨ ((1 : Int32) = 1) from (Or.inr (rfl))) hS dX10_isLoan_16
abbrev cX10_feed : ByteArray := prog_1_method_2_code
def yX10_feed : MethodName := ⟨RX10, "feed", "(IIIII)I"⟩
theorem t532 : Cond.code yX10_feed cX10_feed 6 (some .int) ∈ GW := gw_mem 646 (by decide +kernel) (by decide +kernel)
theorem dX10_feed_0 : decode cX10_feed 0 = .ok (.aload_n 0, 1) := by decide +kernel
theorem dX10_feed_1 : decode cX10_feed 1 = .ok (.getfield 10, 3) := by decide +kernel
theorem t477 : Cond.fieldLink RX10 10 "LikenessPound" "tape" "LLikenessPound$Tape;" ∈ GW := gw_mem 591 (by decide +kernel) (by decide +kernel)
theorem gf_X10_10 {p : Program} {l : Launch} {e : Env} {R : Room} {s : State} {m : MethodId} {args : Array Value} {below : List Frame} {meth : Method} {c : Code} {H : Heap} {locs : List Loc} {cells slots : Nat} {Q : State → Prop} {cc : ByteArray} {pc : Nat} {ls : Array Slot} {rest : List Value} {D : va_G} {a : Nat} {tys : List (ClassId × FieldType)} {ws : va_W} (hx : p.tables.exec = Jvm.exec) (hb : c.code = cc) (hts : ∀ w ∈ GW, w.before args s = true) (hown : s.vm.findClass RX10 = some m.cls) (hK : va_K D vwCl tys s) (hP : va_P D vwCl ws H) (q0 : Nat) {fs : List Value} (he : ws[q0]? = some (a, .inr (11, fs))) {v : Value} (hv : fs[0]? = some v) (hdg : decode cc pc = .ok (.getfield 10, 3)) (kk : W p l e R s m args below meth c H locs cells slots Q (F0 m (pc + 3) ls (v :: rest))) : W p l e R s m args below meth c H locs cells slots Q (F0 m pc ls (.ref a :: rest)) := va_get (C := RX10) (T := TX10) (N := 17) (ci := 11) hx hb hts inX10 hown hK hP q0 he rfl 0 (by decide) (hts _ t477) (fun _ h => h) hv hdg kk
theorem dX10_feed_4 : decode cX10_feed 4 = .ok (.getfield 87, 3) := by decide +kernel
theorem t96 : Cond.fieldLink RX10 87 "LikenessPound$Tape" "length" "I" ∈ GW := gw_mem 210 (by decide +kernel) (by decide +kernel)
theorem gf_X10_87 {p : Program} {l : Launch} {e : Env} {R : Room} {s : State} {m : MethodId} {args : Array Value} {below : List Frame} {meth : Method} {c : Code} {H : Heap} {locs : List Loc} {cells slots : Nat} {Q : State → Prop} {cc : ByteArray} {pc : Nat} {ls : Array Slot} {rest : List Value} {D : va_G} {a : Nat} {tys : List (ClassId × FieldType)} {ws : va_W} (hx : p.tables.exec = Jvm.exec) (hb : c.code = cc) (hts : ∀ w ∈ GW, w.before args s = true) (hown : s.vm.findClass RX10 = some m.cls) (hK : va_K D vwCl tys s) (hP : va_P D vwCl ws H) (q0 : Nat) {fs : List Value} (he : ws[q0]? = some (a, .inr (9, fs))) {v : Value} (hv : fs[2]? = some v) (hdg : decode cc pc = .ok (.getfield 87, 3)) (kk : W p l e R s m args below meth c H locs cells slots Q (F0 m (pc + 3) ls (v :: rest))) : W p l e R s m args below meth c H locs cells slots Q (F0 m pc ls (.ref a :: rest)) := va_get (C := RX8) (T := TX8) (N := 12) (ci := 9) hx hb hts inX8 hown hK hP q0 he rfl 2 (by decide) (hts _ t96) (fun _ h => h) hv hdg kk
theorem dX10_feed_7 : decode cX10_feed 7 = .ok (.sipush 920, 3) := by decide +kernel
theorem dX10_feed_10 : decode cX10_feed 10 = .ok (.if_icmp .le 5, 3) := by decide +kernel
theorem dX10_feed_15 : decode cX10_feed 15 = .ok (.aload_n 0, 1) := by decide +kernel
theorem dX10_feed_16 : decode cX10_feed 16 = .ok (.getfield 10, 3) := by decide +kernel
theorem dX10_feed_19 : decode cX10_feed 19 = .ok (.iload_n 1, 1) := by decide +kernel
theorem dX10_feed_20 : decode cX10_feed 20 = .ok (.invokevirtual 90, 3) := by decide +kernel
theorem t533 : Cond.methodLink RX10 90 yX8_put ∈ GW := gw_mem 647 (by decide +kernel) (by decide +kernel)
theorem t534 : Cond.instanceMethod yX8_put ∈ GW := gw_mem 648 (by decide +kernel) (by decide +kernel)
theorem t535 : Cond.selects RX8 yX8_put yX8_put ∈ GW := gw_mem 649 (by decide +kernel) (by decide +kernel)
theorem cw_X10_90 {R : Room} {s : State} {args : Array Value} {rm : Room} {mc ms : Nat} (hts : ∀ w ∈ GW, w.before args s = true) (hrc : rm.cells = mc) (hrs : rm.slots = ms) (hR : rm.frames + 1 ≤ R.frames ∧ 8 + (3 + 11) + rm.locals ≤ R.locals) : CallW R s args RX10 RX8 90 yX8_put cX8_put 3 none (wl yX8_put cX8_put 3 none) rm mc ms 1 := cwV 1 hts (gi_V t533 t534 t535 t2 t536) rfl hrc hrs (by decide +kernel) hR
theorem dX10_feed_23 : decode cX10_feed 23 = .ok (.aload_n 0, 1) := by decide +kernel
theorem dX10_feed_24 : decode cX10_feed 24 = .ok (.getfield 10, 3) := by decide +kernel
theorem dX10_feed_27 : decode cX10_feed 27 = .ok (.iload_n 2, 1) := by decide +kernel
theorem dX10_feed_28 : decode cX10_feed 28 = .ok (.invokevirtual 90, 3) := by decide +kernel
theorem dX10_feed_31 : decode cX10_feed 31 = .ok (.aload_n 0, 1) := by decide +kernel
theorem dX10_feed_32 : decode cX10_feed 32 = .ok (.getfield 10, 3) := by decide +kernel
theorem dX10_feed_35 : decode cX10_feed 35 = .ok (.iload_n 3, 1) := by decide +kernel
theorem dX10_feed_36 : decode cX10_feed 36 = .ok (.invokevirtual 90, 3) := by decide +kernel
theorem dX10_feed_39 : decode cX10_feed 39 = .ok (.aload_n 0, 1) := by decide +kernel
theorem dX10_feed_40 : decode cX10_feed 40 = .ok (.getfield 10, 3) := by decide +kernel
theorem dX10_feed_43 : decode cX10_feed 43 = .ok (.iload 4, 2) := by decide +kernel
theorem dX10_feed_45 : decode cX10_feed 45 = .ok (.invokevirtual 90, 3) := by decide +kernel
theorem dX10_feed_48 : decode cX10_feed 48 = .ok (.aload_n 0, 1) := by decide +kernel
theorem dX10_feed_49 : decode cX10_feed 49 = .ok (.getfield 10, 3) := by decide +kernel
theorem dX10_feed_52 : decode cX10_feed 52 = .ok (.iload 5, 2) := by decide +kernel
theorem dX10_feed_54 : decode cX10_feed 54 = .ok (.invokevirtual 90, 3) := by decide +kernel
theorem dX10_feed_57 : decode cX10_feed 57 = .ok (.aload_n 0, 1) := by decide +kernel
theorem dX10_feed_58 : decode cX10_feed 58 = .ok (.getfield 10, 3) := by decide +kernel
theorem dX10_feed_61 : decode cX10_feed 61 = .ok (.getfield 87, 3) := by decide +kernel
theorem dX10_feed_64 : decode cX10_feed 64 = .ok (.ireturn, 1) := by decide +kernel
theorem dX10_feed_13 : decode cX10_feed 13 = .ok (.iconst (-1), 1) := by decide +kernel
theorem dX10_feed_14 : decode cX10_feed 14 = .ok (.ireturn, 1) := by decide +kernel
abbrev cX10_end : ByteArray := prog_1_method_3_code
def yX10_end : MethodName := ⟨RX10, "end", "(I)Z"⟩
theorem t540 : Cond.code yX10_end cX10_end 2 (some .boolean) ∈ GW := gw_mem 654 (by decide +kernel) (by decide +kernel)
abbrev O_g_end (cy : Nat → ClassId) (vo : Nat) (vt : Nat) (vx : Nat) (vb : Nat) (va : Nat) (ve : Nat) (vs : Nat) (vg : Nat) (vmr : Nat) (vkr : Nat) (vim : Nat) (vik : Nat) (vw : Nat) (vdw : Nat) (volf : Int32) (volh : Int32) (vomd : Int32) (vocd : Int32) (vt1 : Nat) (vt2 : Nat) (vtL : Int32) (vtli : Int32) (vta : Int32) (vtk : Int32) (vtst : Int32) (vtw : Int32) (vtc : Int64) (vtn : Int32) (vtfk : Int32) (vtfp : Int32) (vn : Int32) (u : Int32) : va_W := [(vo, .inr (11, [.ref vt, .ref vx, .ref vb, .ref va, .ref ve, .ref vs, .ref vg, .ref vmr, .ref vkr, .ref vim, .ref vik, .ref vw, .ref vdw, .int volf, .int volh, .int vomd, .int vocd])), (vt, .inr (9, [.ref vt1, .ref vt2, .int u, .int vtli, .int vta, .int vtk, .int vtst, .int vtw, .long vtc, .int vtn, .int vtfk, .int vtfp]))]
theorem dX10_end_0 : decode cX10_end 0 = .ok (.iload_n 1, 1) := by decide +kernel
theorem dX10_end_1 : decode cX10_end 1 = .ok (.ifCond .lt 14, 3) := by decide +kernel
theorem dX10_end_15 : decode cX10_end 15 = .ok (.iconst 0, 1) := by decide +kernel
theorem dX10_end_16 : decode cX10_end 16 = .ok (.ireturn, 1) := by decide +kernel
theorem dX10_end_4 : decode cX10_end 4 = .ok (.iload_n 1, 1) := by decide +kernel
theorem dX10_end_5 : decode cX10_end 5 = .ok (.aload_n 0, 1) := by decide +kernel
theorem dX10_end_6 : decode cX10_end 6 = .ok (.getfield 10, 3) := by decide +kernel
theorem dX10_end_9 : decode cX10_end 9 = .ok (.getfield 87, 3) := by decide +kernel
theorem dX10_end_12 : decode cX10_end 12 = .ok (.if_icmp .le 5, 3) := by decide +kernel
theorem dX10_end_17 : decode cX10_end 17 = .ok (.aload_n 0, 1) := by decide +kernel
theorem dX10_end_18 : decode cX10_end 18 = .ok (.getfield 10, 3) := by decide +kernel
theorem dX10_end_21 : decode cX10_end 21 = .ok (.iload_n 1, 1) := by decide +kernel
theorem dX10_end_22 : decode cX10_end 22 = .ok (.putfield 87, 3) := by decide +kernel
theorem pf_X10_87 {p : Program} {l : Launch} {e : Env} {R : Room} {s : State} {m : MethodId} {args : Array Value} {below : List Frame} {meth : Method} {c : Code} {H : Heap} {locs : List Loc} {cells slots : Nat} {Q : State → Prop} {cc : ByteArray} {pc : Nat} {ls : Array Slot} {rest : List Value} {D : va_G} {A : Nat → Prop} {a : Nat} {tys : List (ClassId × FieldType)} {ws : va_W} {H0 : Heap} (hx : p.tables.exec = Jvm.exec) (hb : c.code = cc) (hts : ∀ w ∈ GW, w.before args s = true) (hown : s.vm.findClass RX10 = some m.cls) (hK : va_K D vwCl tys s) (hP : va_P D vwCl ws H) (hD : va_D A ws) (hS0 : va_S A H0 H locs) (q0 : Nat) {fs : List Value} (he : ws[q0]? = some (a, .inr (9, fs))) {v : Value} (hn : narrow (tyX8 2) v = v) (hfit : fits (tyX8 2) v = true) (hl : 2 < fs.length) (hdg : decode cc pc = .ok (.putfield 87, 3)) (kk : ∀ (H1 : Heap) (locs1 : List Loc), va_P D vwCl (ws.set q0 (a, .inr (9, fs.set 2 v))) H1 → va_D A (ws.set q0 (a, .inr (9, fs.set 2 v))) → va_S A H0 H1 locs1 → W p l e R s m args below meth c H1 locs1 cells slots Q (F0 m (pc + 3) ls rest)) : W p l e R s m args below meth c H locs cells slots Q (F0 m pc ls (v :: .ref a :: rest)) := va_put (C := RX8) (T := TX8) (N := 12) (ci := 9) hx hb hts inX8 tyX8 tkX8 nmX8 hown hK hP hD hS0 q0 he rfl 2 (by decide) (hts _ t96) (fun _ h => h) rfl (tkX8 2 (by decide)) hn hfit hl hdg kk
theorem dX10_end_25 : decode cX10_end 25 = .ok (.iconst 1, 1) := by decide +kernel
theorem dX10_end_26 : decode cX10_end 26 = .ok (.ireturn, 1) := by decide +kernel
set_option maxHeartbeats 4000000 in
set_option maxRecDepth 100000 in
theorem g_end (l : Launch) (dC : Nat → ClassId) (dI : Nat → Nat → Nat) (cy : Nat → ClassId) (sz : Nat) (vo : Nat) (vt : Nat) (vx : Nat) (vb : Nat) (va : Nat) (ve : Nat) (vs : Nat) (vg : Nat) (vmr : Nat) (vkr : Nat) (vim : Nat) (vik : Nat) (vw : Nat) (vdw : Nat) (volf : Int32) (volh : Int32) (vomd : Int32) (vocd : Int32) (vt1 : Nat) (vt2 : Nat) (vtL : Int32) (vtli : Int32) (vta : Int32) (vtk : Int32) (vtst : Int32) (vtw : Int32) (vtc : Int64) (vtn : Int32) (vtfk : Int32) (vtfp : Int32) (vn : Int32) (r_vtL : 0 ≤ (vtL : Int32).toInt ∧ (vtL : Int32).toInt ≤ 940) : Met l yX10_end (wl yX10_end cX10_end 2 (some .boolean)) ({ frames := 0, cells := 0, slots := 0, locals := 0 }) (Pw (dC, dI) vwCl cy [(vo, .inr (11, [.ref vt, .ref vx, .ref vb, .ref va, .ref ve, .ref vs, .ref vg, .ref vmr, .ref vkr, .ref vim, .ref vik, .ref vw, .ref vdw, .int volf, .int volh, .int vomd, .int vocd])), (vt, .inr (9, [.ref vt1, .ref vt2, .int vtL, .int vtli, .int vta, .int vtk, .int vtst, .int vtw, .long vtc, .int vtn, .int vtfk, .int vtfp]))] sz [.ref vo, .int vn] nE) (Qi (dC, dI) vwCl (fun (r : Int32) (u : Int32) => ((r = 0 ∧ ((vn : Int32).toInt < 0 ∨ (vtL : Int32).toInt < (vn : Int32).toInt) ∧ (u : Int32).toInt = (vtL : Int32).toInt) ∨ (r = 1 ∧ 0 ≤ (vn : Int32).toInt ∧ (vn : Int32).toInt ≤ (vtL : Int32).toInt ∧ (u : Int32).toInt = (vn : Int32).toInt)) ∧ (0 ≤ (u : Int32).toInt ∧ (u : Int32).toInt ≤ 940)) (O_g_end cy vo vt vx vb va ve vs vg vmr vkr vim vik vw vdw volf volh vomd vocd vt1 vt2 vtL vtli vta vtk vtst vtw vtc vtn vtfk vtfp vn) (va_A [(vo, .inr (11, [.ref vt, .ref vx, .ref vb, .ref va, .ref ve, .ref vs, .ref vg, .ref vmr, .ref vkr, .ref vim, .ref vik, .ref vw, .ref vdw, .int volf, .int volh, .int vomd, .int vocd])), (vt, .inr (9, [.ref vt1, .ref vt2, .int vtL, .int vtli, .int vta, .int vtk, .int vtst, .int vtw, .long vtc, .int vtn, .int vtfk, .int vtfp]))] sz)) 0 0 (va_A [(vo, .inr (11, [.ref vt, .ref vx, .ref vb, .ref va, .ref ve, .ref vs, .ref vg, .ref vmr, .ref vkr, .ref vim, .ref vik, .ref vw, .ref vdw, .int volf, .int volh, .int vomd, .int vocd])), (vt, .inr (9, [.ref vt1, .ref vt2, .int vtL, .int vtli, .int vta, .int vtk, .int vtst, .int vtw, .long vtc, .int vtn, .int vtfk, .int vtfp]))] sz) := by
  refine mw (Qc := Qi (dC, dI) vwCl (fun (r : Int32) (u : Int32) => ((r = 0 ∧ ((vn : Int32).toInt < 0 ∨ (vtL : Int32).toInt < (vn : Int32).toInt) ∧ (u : Int32).toInt = (vtL : Int32).toInt) ∨ (r = 1 ∧ 0 ≤ (vn : Int32).toInt ∧ (vn : Int32).toInt ≤ (vtL : Int32).toInt ∧ (u : Int32).toInt = (vn : Int32).toInt)) ∧ (0 ≤ (u : Int32).toInt ∧ (u : Int32).toInt ≤ 940)) (O_g_end cy vo vt vx vb va ve vs vg vmr vkr vim vik vw vdw volf volh vomd vocd vt1 vt2 vtL vtli vta vtk vtst vtw vtc vtn vtfk vtfp vn)) RX10 rfl (by decide +kernel) (Nat.le_of_ble_eq_true rfl) ?_
  intro p e s m below meth c A hx hb hr hlocks av9 hav hts hown hnm hml hK hP hD hA hS hE hAe Q9 hQ9 ls hl
  have hl : lv_has ls 2 [(0, .ref vo), (1, .int vn)] := hl
  refine lv_iload_n hx hb dX10_end_0 rfl (lv_at hl 1 rfl) ?_
  have k_0 : (0 : Int32).toInt = 0 := by decide
  refine lv_if_lt (tgt := 15) hx hb dX10_end_1 (by decide) (fun c_1 => ?_) (fun c_1 => ?_)
  · skip
    have c_1 : vn.toInt < (0 : Int32).toInt := i_lt.mp c_1
    refine lv_iconst (v := 0) hx hb dX10_end_15 (by decide) ?_
    rw [hQ9]
    exact re_z vtL hx hb hr hlocks (Or.inl rfl) ⟨(show ((0 : Int32) = 0 ∧ ((vn : Int32).toInt < 0 ∨ (vtL : Int32).toInt < (vn : Int32).toInt) ∧ (vtL : Int32).toInt = (vtL : Int32).toInt) ∨ ((0 : Int32) = 1 ∧ 0 ≤ (vn : Int32).toInt ∧ (vn : Int32).toInt ≤ (vtL : Int32).toInt ∧ (vtL : Int32).toInt = (vn : Int32).toInt) from (Or.inl ⟨rfl, by omega, by omega⟩)), (show 0 ≤ (vtL : Int32).toInt ∧ (vtL : Int32).toInt ≤ 940 from ⟨by omega, by omega⟩)⟩ (hP.sub [0, 1] rfl) (hD.sub [0, 1] rfl rfl) hS dX10_end_16
  · skip
    have c_1 : ¬ (vn.toInt < (0 : Int32).toInt) := fun h9 => c_1 (i_lt.mpr h9)
    refine lv_iload_n hx hb dX10_end_4 rfl (lv_at hl 1 rfl) ?_
    refine lv_aload_n hx hb dX10_end_5 rfl (lv_at hl 0 rfl) ?_
    refine gf_X10_10 hx hb hts hown hK hP 0 rfl rfl dX10_end_6 ?_
    refine gf_X10_87 hx hb hts hown hK hP 1 rfl rfl dX10_end_9 ?_
    refine lv_icmp_le (tgt := 17) hx hb dX10_end_12 (by decide) (fun c_2 => ?_) (fun c_2 => ?_)
    · skip
      have c_2 : vn.toInt ≤ vtL.toInt := i_le.mp c_2
      refine lv_aload_n hx hb dX10_end_17 rfl (lv_at hl 0 rfl) ?_
      refine gf_X10_10 hx hb hts hown hK hP 0 rfl rfl dX10_end_18 ?_
      refine lv_iload_n hx hb dX10_end_21 rfl (lv_at hl 1 rfl) ?_
      refine pf_X10_87 hx hb hts hown hK hP hD hS 1 rfl rfl rfl (Nat.le_of_ble_eq_true rfl) dX10_end_22 (fun H locs hP hD hS => ?_)
      have hP : va_P (dC, dI) vwCl [(vo, .inr (11, [.ref vt, .ref vx, .ref vb, .ref va, .ref ve, .ref vs, .ref vg, .ref vmr, .ref vkr, .ref vim, .ref vik, .ref vw, .ref vdw, .int volf, .int volh, .int vomd, .int vocd])), (vt, .inr (9, [.ref vt1, .ref vt2, .int vn, .int vtli, .int vta, .int vtk, .int vtst, .int vtw, .long vtc, .int vtn, .int vtfk, .int vtfp]))] H := hP
      have hD : va_D A [(vo, .inr (11, [.ref vt, .ref vx, .ref vb, .ref va, .ref ve, .ref vs, .ref vg, .ref vmr, .ref vkr, .ref vim, .ref vik, .ref vw, .ref vdw, .int volf, .int volh, .int vomd, .int vocd])), (vt, .inr (9, [.ref vt1, .ref vt2, .int vn, .int vtli, .int vta, .int vtk, .int vtst, .int vtw, .long vtc, .int vtn, .int vtfk, .int vtfp]))] := hD
      refine lv_iconst (v := 1) hx hb dX10_end_25 (by decide) ?_
      have k_1 : (1 : Int32).toInt = 1 := by decide
      rw [hQ9]
      exact re_z vn hx hb hr hlocks (Or.inr rfl) ⟨(show ((1 : Int32) = 0 ∧ ((vn : Int32).toInt < 0 ∨ (vtL : Int32).toInt < (vn : Int32).toInt) ∧ (vn : Int32).toInt = (vtL : Int32).toInt) ∨ ((1 : Int32) = 1 ∧ 0 ≤ (vn : Int32).toInt ∧ (vn : Int32).toInt ≤ (vtL : Int32).toInt ∧ (vn : Int32).toInt = (vn : Int32).toInt) from (Or.inr (⟨rfl, by omega, by omega, by omega⟩))), (show 0 ≤ (vn : Int32).toInt ∧ (vn : Int32).toInt ≤ 940 from ⟨by omega, by omega⟩)⟩ (hP.sub [0, 1] rfl) (hD.sub [0, 1] rfl rfl) hS dX10_end_26
    · skip
      have c_2 : ¬ (vn.toInt ≤ vtL.toInt) := fun h9 => c_2 (i_le.mpr h9)
      refine lv_iconst (v := 0) hx hb dX10_end_15 (by decide) ?_
      rw [hQ9]
      exact re_z vtL hx hb hr hlocks (Or.inl rfl) ⟨(show ((0 : Int32) = 0 ∧ ((vn : Int32).toInt < 0 ∨ (vtL : Int32).toInt < (vn : Int32).toInt) ∧ (vtL : Int32).toInt = (vtL : Int32).toInt) ∨ ((0 : Int32) = 1 ∧ 0 ≤ (vn : Int32).toInt ∧ (vn : Int32).toInt ≤ (vtL : Int32).toInt ∧ (vtL : Int32).toInt = (vn : Int32).toInt) from (Or.inl ⟨rfl, by omega, by omega⟩)), (show 0 ≤ (vtL : Int32).toInt ∧ (vtL : Int32).toInt ≤ 940 from ⟨by omega, by omega⟩)⟩ (hP.sub [0, 1] rfl) (hD.sub [0, 1] rfl rfl) hS dX10_end_16
abbrev cX10_fault : ByteArray := prog_1_method_5_code
def yX10_fault : MethodName := ⟨RX10, "fault", "()I"⟩
theorem t668 : Cond.code yX10_fault cX10_fault 1 (some .int) ∈ GW := gw_mem 782 (by decide +kernel) (by decide +kernel)
theorem dX10_fault_0 : decode cX10_fault 0 = .ok (.aload_n 0, 1) := by decide +kernel
theorem dX10_fault_1 : decode cX10_fault 1 = .ok (.getfield 109, 3) := by decide +kernel
theorem t490 : Cond.fieldLink RX10 109 "LikenessPound" "latestFault" "I" ∈ GW := gw_mem 604 (by decide +kernel) (by decide +kernel)
theorem gf_X10_109 {p : Program} {l : Launch} {e : Env} {R : Room} {s : State} {m : MethodId} {args : Array Value} {below : List Frame} {meth : Method} {c : Code} {H : Heap} {locs : List Loc} {cells slots : Nat} {Q : State → Prop} {cc : ByteArray} {pc : Nat} {ls : Array Slot} {rest : List Value} {D : va_G} {a : Nat} {tys : List (ClassId × FieldType)} {ws : va_W} (hx : p.tables.exec = Jvm.exec) (hb : c.code = cc) (hts : ∀ w ∈ GW, w.before args s = true) (hown : s.vm.findClass RX10 = some m.cls) (hK : va_K D vwCl tys s) (hP : va_P D vwCl ws H) (q0 : Nat) {fs : List Value} (he : ws[q0]? = some (a, .inr (11, fs))) {v : Value} (hv : fs[13]? = some v) (hdg : decode cc pc = .ok (.getfield 109, 3)) (kk : W p l e R s m args below meth c H locs cells slots Q (F0 m (pc + 3) ls (v :: rest))) : W p l e R s m args below meth c H locs cells slots Q (F0 m pc ls (.ref a :: rest)) := va_get (C := RX10) (T := TX10) (N := 17) (ci := 11) hx hb hts inX10 hown hK hP q0 he rfl 13 (by decide) (hts _ t490) (fun _ h => h) hv hdg kk
theorem dX10_fault_4 : decode cX10_fault 4 = .ok (.ireturn, 1) := by decide +kernel
set_option maxHeartbeats 4000000 in
set_option maxRecDepth 100000 in
theorem g_fault (l : Launch) (dC : Nat → ClassId) (dI : Nat → Nat → Nat) (cy : Nat → ClassId) (vo : Nat) (vt : Nat) (vx : Nat) (vb : Nat) (va : Nat) (ve : Nat) (vs : Nat) (vg : Nat) (vmr : Nat) (vkr : Nat) (vim : Nat) (vik : Nat) (vw : Nat) (vdw : Nat) (volf : Int32) (volh : Int32) (vomd : Int32) (vocd : Int32)  : Met l yX10_fault (wl yX10_fault cX10_fault 1 (some .int)) ({ frames := 0, cells := 0, slots := 0, locals := 0 }) (Pr (dC, dI) vwCl cy [(vo, .inr (11, [.ref vt, .ref vx, .ref vb, .ref va, .ref ve, .ref vs, .ref vg, .ref vmr, .ref vkr, .ref vim, .ref vik, .ref vw, .ref vdw, .int volf, .int volh, .int vomd, .int vocd]))] [.ref vo]) (Ri (fun r => ((r : Int32).toInt = (volf : Int32).toInt))) 0 0 (fun _ => False) := by
  refine mr RX10 rfl (by decide +kernel) (Nat.le_of_ble_eq_true rfl) ?_
  intro p e s m below meth c hx hb hr hlocks av9 hav hts hown hml hK hP hS Q9 hQ9 ls hl
  have hl : lv_has ls 1 [(0, .ref vo)] := hl
  refine lv_aload_n hx hb dX10_fault_0 rfl (lv_at hl 0 rfl) ?_
  refine gf_X10_109 hx hb hts hown hK hP 0 rfl rfl dX10_fault_1 ?_
  rw [hQ9]
  exact rr_i hx hb hr hlocks (show (volf : Int32).toInt = (volf : Int32).toInt from (by omega)) hS dX10_fault_4
abbrev cX10_helping : ByteArray := prog_1_method_25_code
def yX10_helping : MethodName := ⟨RX10, "helping", "()I"⟩
theorem t898 : Cond.code yX10_helping cX10_helping 1 (some .int) ∈ GW := gw_mem 1012 (by decide +kernel) (by decide +kernel)
theorem dX10_helping_0 : decode cX10_helping 0 = .ok (.aload_n 0, 1) := by decide +kernel
theorem dX10_helping_1 : decode cX10_helping 1 = .ok (.getfield 83, 3) := by decide +kernel
theorem t491 : Cond.fieldLink RX10 83 "LikenessPound" "latestHelp" "I" ∈ GW := gw_mem 605 (by decide +kernel) (by decide +kernel)
theorem gf_X10_83 {p : Program} {l : Launch} {e : Env} {R : Room} {s : State} {m : MethodId} {args : Array Value} {below : List Frame} {meth : Method} {c : Code} {H : Heap} {locs : List Loc} {cells slots : Nat} {Q : State → Prop} {cc : ByteArray} {pc : Nat} {ls : Array Slot} {rest : List Value} {D : va_G} {a : Nat} {tys : List (ClassId × FieldType)} {ws : va_W} (hx : p.tables.exec = Jvm.exec) (hb : c.code = cc) (hts : ∀ w ∈ GW, w.before args s = true) (hown : s.vm.findClass RX10 = some m.cls) (hK : va_K D vwCl tys s) (hP : va_P D vwCl ws H) (q0 : Nat) {fs : List Value} (he : ws[q0]? = some (a, .inr (11, fs))) {v : Value} (hv : fs[14]? = some v) (hdg : decode cc pc = .ok (.getfield 83, 3)) (kk : W p l e R s m args below meth c H locs cells slots Q (F0 m (pc + 3) ls (v :: rest))) : W p l e R s m args below meth c H locs cells slots Q (F0 m pc ls (.ref a :: rest)) := va_get (C := RX10) (T := TX10) (N := 17) (ci := 11) hx hb hts inX10 hown hK hP q0 he rfl 14 (by decide) (hts _ t491) (fun _ h => h) hv hdg kk
theorem dX10_helping_4 : decode cX10_helping 4 = .ok (.ireturn, 1) := by decide +kernel
set_option maxHeartbeats 4000000 in
set_option maxRecDepth 100000 in
theorem g_helping (l : Launch) (dC : Nat → ClassId) (dI : Nat → Nat → Nat) (cy : Nat → ClassId) (vo : Nat) (vt : Nat) (vx : Nat) (vb : Nat) (va : Nat) (ve : Nat) (vs : Nat) (vg : Nat) (vmr : Nat) (vkr : Nat) (vim : Nat) (vik : Nat) (vw : Nat) (vdw : Nat) (volf : Int32) (volh : Int32) (vomd : Int32) (vocd : Int32)  : Met l yX10_helping (wl yX10_helping cX10_helping 1 (some .int)) ({ frames := 0, cells := 0, slots := 0, locals := 0 }) (Pr (dC, dI) vwCl cy [(vo, .inr (11, [.ref vt, .ref vx, .ref vb, .ref va, .ref ve, .ref vs, .ref vg, .ref vmr, .ref vkr, .ref vim, .ref vik, .ref vw, .ref vdw, .int volf, .int volh, .int vomd, .int vocd]))] [.ref vo]) (Ri (fun r => True)) 0 0 (fun _ => False) := by
  refine mr RX10 rfl (by decide +kernel) (Nat.le_of_ble_eq_true rfl) ?_
  intro p e s m below meth c hx hb hr hlocks av9 hav hts hown hml hK hP hS Q9 hQ9 ls hl
  have hl : lv_has ls 1 [(0, .ref vo)] := hl
  refine lv_aload_n hx hb dX10_helping_0 rfl (lv_at hl 0 rfl) ?_
  refine gf_X10_83 hx hb hts hown hK hP 0 rfl rfl dX10_helping_1 ?_
  rw [hQ9]
  exact rr_i hx hb hr hlocks trivial hS dX10_helping_4
abbrev cX10_did : ByteArray := prog_1_method_7_code
def yX10_did : MethodName := ⟨RX10, "did", "(II)I"⟩
theorem t672 : Cond.code yX10_did cX10_did 3 (some .int) ∈ GW := gw_mem 786 (by decide +kernel) (by decide +kernel)
theorem dX10_did_0 : decode cX10_did 0 = .ok (.aload_n 0, 1) := by decide +kernel
theorem dX10_did_1 : decode cX10_did 1 = .ok (.iload_n 1, 1) := by decide +kernel
theorem dX10_did_2 : decode cX10_did 2 = .ok (.invokevirtual 128, 3) := by decide +kernel
theorem t673 : Cond.methodLink RX10 128 yX10_isMan ∈ GW := gw_mem 787 (by decide +kernel) (by decide +kernel)
theorem t1 : Cond.initialized RX10 ∈ GW := gw_mem 115 (by decide +kernel) (by decide +kernel)
theorem t675 : Cond.instanceMethod yX10_isMan ∈ GW := gw_mem 789 (by decide +kernel) (by decide +kernel)
theorem s8 : Cond.selects RX10 yX10_isMan yX10_isMan ∈ GW := gw_mem 8 (by decide +kernel) (by decide +kernel)
theorem cw_X10_128 {R : Room} {s : State} {args : Array Value} {rm : Room} {mc ms : Nat} (hts : ∀ w ∈ GW, w.before args s = true) (hrc : rm.cells = mc) (hrs : rm.slots = ms) (hR : rm.frames + 1 ≤ R.frames ∧ 8 + (2 + 11) + rm.locals ≤ R.locals) : CallW R s args RX10 RX10 128 yX10_isMan cX10_isMan 2 (some .boolean) (wl yX10_isMan cX10_isMan 2 (some .boolean)) rm mc ms 1 := cwV 1 hts (gi_V t673 t675 s8 t1 t676) rfl hrc hrs (by decide +kernel) hR
theorem dX10_did_5 : decode cX10_did 5 = .ok (.ifCond .eq 31, 3) := by decide +kernel
theorem dX10_did_36 : decode cX10_did 36 = .ok (.iconst (-1), 1) := by decide +kernel
theorem dX10_did_37 : decode cX10_did 37 = .ok (.ireturn, 1) := by decide +kernel
theorem dX10_did_8 : decode cX10_did 8 = .ok (.aload_n 0, 1) := by decide +kernel
theorem dX10_did_9 : decode cX10_did 9 = .ok (.iload_n 2, 1) := by decide +kernel
theorem dX10_did_10 : decode cX10_did 10 = .ok (.invokevirtual 162, 3) := by decide +kernel
theorem t677 : Cond.methodLink RX10 162 yX10_isDeed ∈ GW := gw_mem 791 (by decide +kernel) (by decide +kernel)
theorem t679 : Cond.instanceMethod yX10_isDeed ∈ GW := gw_mem 793 (by decide +kernel) (by decide +kernel)
theorem s9 : Cond.selects RX10 yX10_isDeed yX10_isDeed ∈ GW := gw_mem 9 (by decide +kernel) (by decide +kernel)
theorem cw_X10_162 {R : Room} {s : State} {args : Array Value} {rm : Room} {mc ms : Nat} (hts : ∀ w ∈ GW, w.before args s = true) (hrc : rm.cells = mc) (hrs : rm.slots = ms) (hR : rm.frames + 1 ≤ R.frames ∧ 8 + (2 + 11) + rm.locals ≤ R.locals) : CallW R s args RX10 RX10 162 yX10_isDeed cX10_isDeed 2 (some .boolean) (wl yX10_isDeed cX10_isDeed 2 (some .boolean)) rm mc ms 1 := cwV 1 hts (gi_V t677 t679 s9 t1 t680) rfl hrc hrs (by decide +kernel) hR
theorem dX10_did_13 : decode cX10_did 13 = .ok (.ifCond .eq 23, 3) := by decide +kernel
theorem dX10_did_16 : decode cX10_did 16 = .ok (.aload_n 0, 1) := by decide +kernel
theorem dX10_did_17 : decode cX10_did 17 = .ok (.getfield 76, 3) := by decide +kernel
theorem dX10_did_20 : decode cX10_did 20 = .ok (.getfield 98, 3) := by decide +kernel
theorem t465 : Cond.fieldLink RX10 98 "LikenessPound$World" "life" "LLikenessPound$Life;" ∈ GW := gw_mem 579 (by decide +kernel) (by decide +kernel)
theorem gf_X10_98 {p : Program} {l : Launch} {e : Env} {R : Room} {s : State} {m : MethodId} {args : Array Value} {below : List Frame} {meth : Method} {c : Code} {H : Heap} {locs : List Loc} {cells slots : Nat} {Q : State → Prop} {cc : ByteArray} {pc : Nat} {ls : Array Slot} {rest : List Value} {D : va_G} {a : Nat} {tys : List (ClassId × FieldType)} {ws : va_W} (hx : p.tables.exec = Jvm.exec) (hb : c.code = cc) (hts : ∀ w ∈ GW, w.before args s = true) (hown : s.vm.findClass RX10 = some m.cls) (hK : va_K D vwCl tys s) (hP : va_P D vwCl ws H) (q0 : Nat) {fs : List Value} (he : ws[q0]? = some (a, .inr (10, fs))) {v : Value} (hv : fs[1]? = some v) (hdg : decode cc pc = .ok (.getfield 98, 3)) (kk : W p l e R s m args below meth c H locs cells slots Q (F0 m (pc + 3) ls (v :: rest))) : W p l e R s m args below meth c H locs cells slots Q (F0 m pc ls (.ref a :: rest)) := va_get (C := RX9) (T := TX9) (N := 3) (ci := 10) hx hb hts inX9 hown hK hP q0 he rfl 1 (by decide) (hts _ t465) (fun _ h => h) hv hdg kk
theorem dX10_did_23 : decode cX10_did 23 = .ok (.getfield 165, 3) := by decide +kernel
theorem t236 : Cond.fieldLink RX10 165 "LikenessPound$Life" "did" "[I" ∈ GW := gw_mem 350 (by decide +kernel) (by decide +kernel)
theorem gf_X10_165 {p : Program} {l : Launch} {e : Env} {R : Room} {s : State} {m : MethodId} {args : Array Value} {below : List Frame} {meth : Method} {c : Code} {H : Heap} {locs : List Loc} {cells slots : Nat} {Q : State → Prop} {cc : ByteArray} {pc : Nat} {ls : Array Slot} {rest : List Value} {D : va_G} {a : Nat} {tys : List (ClassId × FieldType)} {ws : va_W} (hx : p.tables.exec = Jvm.exec) (hb : c.code = cc) (hts : ∀ w ∈ GW, w.before args s = true) (hown : s.vm.findClass RX10 = some m.cls) (hK : va_K D vwCl tys s) (hP : va_P D vwCl ws H) (q0 : Nat) {fs : List Value} (he : ws[q0]? = some (a, .inr (5, fs))) {v : Value} (hv : fs[1]? = some v) (hdg : decode cc pc = .ok (.getfield 165, 3)) (kk : W p l e R s m args below meth c H locs cells slots Q (F0 m (pc + 3) ls (v :: rest))) : W p l e R s m args below meth c H locs cells slots Q (F0 m pc ls (.ref a :: rest)) := va_get (C := RX4) (T := TX4) (N := 11) (ci := 5) hx hb hts inX4 hown hK hP q0 he rfl 1 (by decide) (hts _ t236) (fun _ h => h) hv hdg kk
theorem dX10_did_26 : decode cX10_did 26 = .ok (.iload_n 1, 1) := by decide +kernel
theorem dX10_did_27 : decode cX10_did 27 = .ok (.bipush 10, 2) := by decide +kernel
theorem dX10_did_29 : decode cX10_did 29 = .ok (.imul, 1) := by decide +kernel
theorem dX10_did_30 : decode cX10_did 30 = .ok (.iload_n 2, 1) := by decide +kernel
theorem dX10_did_31 : decode cX10_did 31 = .ok (.iadd, 1) := by decide +kernel
theorem dX10_did_32 : decode cX10_did 32 = .ok (.iaload, 1) := by decide +kernel
theorem dX10_did_33 : decode cX10_did 33 = .ok (.goto 4, 3) := by decide +kernel
set_option maxHeartbeats 4000000 in
set_option maxRecDepth 100000 in
theorem g_did (l : Launch) (dC : Nat → ClassId) (dI : Nat → Nat → Nat) (cy : Nat → ClassId) (vo : Nat) (vt : Nat) (vx : Nat) (vb : Nat) (va : Nat) (ve : Nat) (vs : Nat) (vg : Nat) (vmr : Nat) (vkr : Nat) (vim : Nat) (vik : Nat) (vw : Nat) (vdw : Nat) (volf : Int32) (volh : Int32) (vomd : Int32) (vocd : Int32) (vwc : Nat) (vwl : Nat) (vws : Nat) (vwc1 : Nat) (vwc2 : Nat) (vwc3 : Nat) (vwc4 : Nat) (vwc5 : Nat) (vwcm : Int32) (vwcd : Int32) (vwcr : Int32) (vwcw : Int32) (vwl1 : Nat) (vwl2 : Nat) (vwl3 : Nat) (vwl4 : Nat) (vwl5 : Nat) (vwl6 : Nat) (vwl7 : Nat) (vwl8 : Nat) (vwl9 : Nat) (vwl10 : Nat) (vwly : Int32) (vwlf2 : Nat → Int32) (vm : Int32) (vd : Int32) (r_vwcm : 0 ≤ (vwcm : Int32).toInt ∧ (vwcm : Int32).toInt ≤ 7) (r_vwcd : 0 ≤ (vwcd : Int32).toInt ∧ (vwcd : Int32).toInt ≤ 10) (p_vwlf2 : Rg vwlf2 70 0 9) : Met l yX10_did (wl yX10_did cX10_did 3 (some .int)) ({ frames := 1, cells := 0, slots := 0, locals := 64 }) (Pr (dC, dI) vwCl cy [(vo, .inr (11, [.ref vt, .ref vx, .ref vb, .ref va, .ref ve, .ref vs, .ref vg, .ref vmr, .ref vkr, .ref vim, .ref vik, .ref vw, .ref vdw, .int volf, .int volh, .int vomd, .int vocd])), (vw, .inr (10, [.ref vwc, .ref vwl, .ref vws])), (vwc, .inr (2, [.ref vwc1, .ref vwc2, .ref vwc3, .ref vwc4, .ref vwc5, .int vwcm, .int vwcd, .int vwcr, .int vwcw])), (vwl, .inr (5, [.ref vwl1, .ref vwl2, .ref vwl3, .ref vwl4, .ref vwl5, .ref vwl6, .ref vwl7, .ref vwl8, .ref vwl9, .ref vwl10, .int vwly])), (vwl2, .inl (cy 0, 70, .inl vwlf2))] [.ref vo, .int vm, .int vd]) (Ri (fun r => True)) 0 0 (fun _ => False) := by
  refine mr RX10 rfl (by decide +kernel) (Nat.le_of_ble_eq_true rfl) ?_
  intro p e s m below meth c hx hb hr hlocks av9 hav hts hown hml hK hP hS Q9 hQ9 ls hl
  have hl : lv_has ls 3 [(0, .ref vo), (1, .int vm), (2, .int vd)] := hl
  refine lv_aload_n hx hb dX10_did_0 rfl (lv_at hl 0 rfl) ?_
  refine lv_iload_n hx hb dX10_did_1 rfl (lv_at hl 1 rfl) ?_
  refine jr_i (rVr (As := [.int vm]) (rest := []) (ci := 11) ⟨hx, hb, hml, hown, hts⟩ (g_isMan l dC dI cy vo vt vx vb va ve vs vg vmr vkr vim vik vw vdw volf volh vomd vocd vwc vwl vws vwc1 vwc2 vwc3 vwc4 vwc5 vwcm vwcd vwcr vwcw vm r_vwcm r_vwcd) (cw_X10_128 hts rfl rfl ⟨Nat.le_of_ble_eq_true rfl, Nat.le_of_ble_eq_true rfl⟩) hP hK [0, 1, 2] rfl rfl rfl rfl hl.1 rfl (Nat.le_of_ble_eq_true rfl) dX10_did_2 ⟨Nat.le_of_ble_eq_true rfl, Nat.le_of_ble_eq_true rfl⟩) hP hS (fun r_1 H locs hp_2 hP hS => ?_)
  have hp_2 : ((r_1 = 0 ∧ ((vm : Int32).toInt < 0 ∨ (vwcm : Int32).toInt ≤ (vm : Int32).toInt)) ∨ (r_1 = 1 ∧ 0 ≤ (vm : Int32).toInt ∧ (vm : Int32).toInt < (vwcm : Int32).toInt)) := hp_2
  have q_3 := hp_2
  rcases q_3 with ⟨aq_3, f0q_3⟩ | ⟨aq_3, f0q_3⟩
  · skip
    refine as_i 0 aq_3 ?_
    refine lv_if_eq (tgt := 36) hx hb dX10_did_5 (by decide) (fun _ => ?_) (fun c9 => absurd (by decide) c9)
    refine lv_iconst (v := (-1)) hx hb dX10_did_36 (by decide) ?_
    have k_m1 : ((-1) : Int32).toInt = (-1) := by decide
    rw [hQ9]
    exact rr_i hx hb hr hlocks trivial hS dX10_did_37
  · skip
    refine as_i 1 aq_3 ?_
    refine lv_if_eq (tgt := 36) hx hb dX10_did_5 (by decide) (fun c9 => absurd c9 (by decide)) (fun _ => ?_)
    refine lv_aload_n hx hb dX10_did_8 rfl (lv_at hl 0 rfl) ?_
    refine lv_iload_n hx hb dX10_did_9 rfl (lv_at hl 2 rfl) ?_
    refine jr_i (rVr (As := [.int vd]) (rest := []) (ci := 11) ⟨hx, hb, hml, hown, hts⟩ (g_isDeed l dC dI cy vo vt vx vb va ve vs vg vmr vkr vim vik vw vdw volf volh vomd vocd vwc vwl vws vwc1 vwc2 vwc3 vwc4 vwc5 vwcm vwcd vwcr vwcw vd r_vwcm r_vwcd) (cw_X10_162 hts rfl rfl ⟨Nat.le_of_ble_eq_true rfl, Nat.le_of_ble_eq_true rfl⟩) hP hK [0, 1, 2] rfl rfl rfl rfl hl.1 rfl (Nat.le_of_ble_eq_true rfl) dX10_did_10 ⟨Nat.le_of_ble_eq_true rfl, Nat.le_of_ble_eq_true rfl⟩) hP hS (fun r_4 H locs hp_5 hP hS => ?_)
    have hp_5 : ((r_4 = 0) ∨ (r_4 = 1 ∧ 0 ≤ (vd : Int32).toInt ∧ (vd : Int32).toInt < (vwcd : Int32).toInt)) := hp_5
    have q_6 := hp_5
    rcases q_6 with aq_6 | ⟨aq_6, f0q_6⟩
    · skip
      refine as_i 0 aq_6 ?_
      refine lv_if_eq (tgt := 36) hx hb dX10_did_13 (by decide) (fun _ => ?_) (fun c9 => absurd (by decide) c9)
      refine lv_iconst (v := (-1)) hx hb dX10_did_36 (by decide) ?_
      have k_m1 : ((-1) : Int32).toInt = (-1) := by decide
      rw [hQ9]
      exact rr_i hx hb hr hlocks trivial hS dX10_did_37
    · skip
      refine as_i 1 aq_6 ?_
      refine lv_if_eq (tgt := 36) hx hb dX10_did_13 (by decide) (fun c9 => absurd c9 (by decide)) (fun _ => ?_)
      refine lv_aload_n hx hb dX10_did_16 rfl (lv_at hl 0 rfl) ?_
      refine gf_X10_76 hx hb hts hown hK hP 0 rfl rfl dX10_did_17 ?_
      refine gf_X10_98 hx hb hts hown hK hP 1 rfl rfl dX10_did_20 ?_
      refine gf_X10_165 hx hb hts hown hK hP 3 rfl rfl dX10_did_23 ?_
      refine lv_iload_n hx hb dX10_did_26 rfl (lv_at hl 1 rfl) ?_
      refine lv_bipush (v := 10) hx hb dX10_did_27 (by decide) ?_
      refine lv_imul hx hb dX10_did_29 ?_
      refine lv_topi (fun z_7 ez_7 => ?_)
      have k_10 : (10 : Int32).toInt = 10 := by decide
      have bz_7 : z_7.toInt = vm.toInt * 10 := i_mulc k_10 ez_7 (by omega) (by omega)
      refine lv_iload_n hx hb dX10_did_30 rfl (lv_at hl 2 rfl) ?_
      refine lv_iadd hx hb dX10_did_31 ?_
      refine lv_topi (fun z_8 ez_8 => ?_)
      have bz_8 : z_8.toInt = z_7.toInt + vd.toInt := i_add ez_8 (by omega) (by omega)
      have hin_9 : vp_in z_8 70 := vp_in_iff.mpr ⟨by omega, by omega⟩
      refine va_iald hx hb hK hP 4 0 rfl rfl hin_9 dX10_did_32 ?_
      refine lv_topi (fun z_10 ez_10 => ?_)
      have bz_10 := p_vwlf2.at hin_9 ez_10
      refine lv_goto (tgt := 37) hx hb dX10_did_33 (by decide) ?_
      rw [hQ9]
      exact rr_i hx hb hr hlocks trivial hS dX10_did_37
abbrev cX10_deed : ByteArray := prog_1_method_8_code
def yX10_deed : MethodName := ⟨RX10, "deed", "(II)I"⟩
theorem t684 : Cond.code yX10_deed cX10_deed 3 (some .int) ∈ GW := gw_mem 798 (by decide +kernel) (by decide +kernel)
theorem dX10_deed_0 : decode cX10_deed 0 = .ok (.aload_n 0, 1) := by decide +kernel
theorem dX10_deed_1 : decode cX10_deed 1 = .ok (.iload_n 1, 1) := by decide +kernel
theorem dX10_deed_2 : decode cX10_deed 2 = .ok (.invokevirtual 162, 3) := by decide +kernel
theorem dX10_deed_5 : decode cX10_deed 5 = .ok (.ifCond .ne 5, 3) := by decide +kernel
theorem dX10_deed_8 : decode cX10_deed 8 = .ok (.iconst (-1), 1) := by decide +kernel
theorem dX10_deed_9 : decode cX10_deed 9 = .ok (.ireturn, 1) := by decide +kernel
theorem dX10_deed_10 : decode cX10_deed 10 = .ok (.iload_n 2, 1) := by decide +kernel
theorem dX10_deed_11 : decode cX10_deed 11 = .ok (.tableswitch 71 0 2 #[25, 38, 59], 25) := by decide +kernel
theorem dX10_deed_36 : decode cX10_deed 36 = .ok (.aload_n 0, 1) := by decide +kernel
theorem dX10_deed_37 : decode cX10_deed 37 = .ok (.getfield 76, 3) := by decide +kernel
theorem dX10_deed_40 : decode cX10_deed 40 = .ok (.getfield 94, 3) := by decide +kernel
theorem dX10_deed_43 : decode cX10_deed 43 = .ok (.getfield 168, 3) := by decide +kernel
theorem t382 : Cond.fieldLink RX10 168 "LikenessPound$Colony" "weight" "[I" ∈ GW := gw_mem 496 (by decide +kernel) (by decide +kernel)
theorem gf_X10_168 {p : Program} {l : Launch} {e : Env} {R : Room} {s : State} {m : MethodId} {args : Array Value} {below : List Frame} {meth : Method} {c : Code} {H : Heap} {locs : List Loc} {cells slots : Nat} {Q : State → Prop} {cc : ByteArray} {pc : Nat} {ls : Array Slot} {rest : List Value} {D : va_G} {a : Nat} {tys : List (ClassId × FieldType)} {ws : va_W} (hx : p.tables.exec = Jvm.exec) (hb : c.code = cc) (hts : ∀ w ∈ GW, w.before args s = true) (hown : s.vm.findClass RX10 = some m.cls) (hK : va_K D vwCl tys s) (hP : va_P D vwCl ws H) (q0 : Nat) {fs : List Value} (he : ws[q0]? = some (a, .inr (2, fs))) {v : Value} (hv : fs[2]? = some v) (hdg : decode cc pc = .ok (.getfield 168, 3)) (kk : W p l e R s m args below meth c H locs cells slots Q (F0 m (pc + 3) ls (v :: rest))) : W p l e R s m args below meth c H locs cells slots Q (F0 m pc ls (.ref a :: rest)) := va_get (C := RX1) (T := TX1) (N := 9) (ci := 2) hx hb hts inX1 hown hK hP q0 he rfl 2 (by decide) (hts _ t382) (fun _ h => h) hv hdg kk
theorem dX10_deed_46 : decode cX10_deed 46 = .ok (.iload_n 1, 1) := by decide +kernel
theorem dX10_deed_47 : decode cX10_deed 47 = .ok (.iaload, 1) := by decide +kernel
theorem dX10_deed_48 : decode cX10_deed 48 = .ok (.ireturn, 1) := by decide +kernel
theorem dX10_deed_49 : decode cX10_deed 49 = .ok (.aload_n 0, 1) := by decide +kernel
theorem dX10_deed_50 : decode cX10_deed 50 = .ok (.getfield 76, 3) := by decide +kernel
theorem dX10_deed_53 : decode cX10_deed 53 = .ok (.getfield 94, 3) := by decide +kernel
theorem dX10_deed_56 : decode cX10_deed 56 = .ok (.getfield 173, 3) := by decide +kernel
theorem t386 : Cond.fieldLink RX10 173 "LikenessPound$Colony" "crime" "[Z" ∈ GW := gw_mem 500 (by decide +kernel) (by decide +kernel)
theorem gf_X10_173 {p : Program} {l : Launch} {e : Env} {R : Room} {s : State} {m : MethodId} {args : Array Value} {below : List Frame} {meth : Method} {c : Code} {H : Heap} {locs : List Loc} {cells slots : Nat} {Q : State → Prop} {cc : ByteArray} {pc : Nat} {ls : Array Slot} {rest : List Value} {D : va_G} {a : Nat} {tys : List (ClassId × FieldType)} {ws : va_W} (hx : p.tables.exec = Jvm.exec) (hb : c.code = cc) (hts : ∀ w ∈ GW, w.before args s = true) (hown : s.vm.findClass RX10 = some m.cls) (hK : va_K D vwCl tys s) (hP : va_P D vwCl ws H) (q0 : Nat) {fs : List Value} (he : ws[q0]? = some (a, .inr (2, fs))) {v : Value} (hv : fs[3]? = some v) (hdg : decode cc pc = .ok (.getfield 173, 3)) (kk : W p l e R s m args below meth c H locs cells slots Q (F0 m (pc + 3) ls (v :: rest))) : W p l e R s m args below meth c H locs cells slots Q (F0 m pc ls (.ref a :: rest)) := va_get (C := RX1) (T := TX1) (N := 9) (ci := 2) hx hb hts inX1 hown hK hP q0 he rfl 3 (by decide) (hts _ t386) (fun _ h => h) hv hdg kk
theorem dX10_deed_59 : decode cX10_deed 59 = .ok (.iload_n 1, 1) := by decide +kernel
theorem dX10_deed_60 : decode cX10_deed 60 = .ok (.baload, 1) := by decide +kernel
theorem dX10_deed_61 : decode cX10_deed 61 = .ok (.ifCond .eq 7, 3) := by decide +kernel
theorem dX10_deed_68 : decode cX10_deed 68 = .ok (.iconst 0, 1) := by decide +kernel
theorem dX10_deed_69 : decode cX10_deed 69 = .ok (.ireturn, 1) := by decide +kernel
theorem dX10_deed_64 : decode cX10_deed 64 = .ok (.iconst 1, 1) := by decide +kernel
theorem dX10_deed_65 : decode cX10_deed 65 = .ok (.goto 4, 3) := by decide +kernel
theorem dX10_deed_70 : decode cX10_deed 70 = .ok (.aload_n 0, 1) := by decide +kernel
theorem dX10_deed_71 : decode cX10_deed 71 = .ok (.getfield 76, 3) := by decide +kernel
theorem dX10_deed_74 : decode cX10_deed 74 = .ok (.getfield 98, 3) := by decide +kernel
theorem dX10_deed_77 : decode cX10_deed 77 = .ok (.iload_n 1, 1) := by decide +kernel
theorem dX10_deed_78 : decode cX10_deed 78 = .ok (.invokevirtual 176, 3) := by decide +kernel
theorem t685 : Cond.methodLink RX10 176 yX4_didByAll ∈ GW := gw_mem 799 (by decide +kernel) (by decide +kernel)
theorem t686 : Cond.instanceMethod yX4_didByAll ∈ GW := gw_mem 800 (by decide +kernel) (by decide +kernel)
theorem t687 : Cond.selects RX4 yX4_didByAll yX4_didByAll ∈ GW := gw_mem 801 (by decide +kernel) (by decide +kernel)
theorem cw_X10_176 {R : Room} {s : State} {args : Array Value} {rm : Room} {mc ms : Nat} (hts : ∀ w ∈ GW, w.before args s = true) (hrc : rm.cells = mc) (hrs : rm.slots = ms) (hR : rm.frames + 1 ≤ R.frames ∧ 8 + (4 + 11) + rm.locals ≤ R.locals) : CallW R s args RX10 RX4 176 yX4_didByAll cX4_didByAll 4 (some .int) (wl yX4_didByAll cX4_didByAll 4 (some .int)) rm mc ms 1 := cwV 1 hts (gi_V t685 t686 t687 t10 t688) rfl hrc hrs (by decide +kernel) hR
theorem dX10_deed_81 : decode cX10_deed 81 = .ok (.ireturn, 1) := by decide +kernel
theorem dX10_deed_82 : decode cX10_deed 82 = .ok (.iconst (-1), 1) := by decide +kernel
theorem dX10_deed_83 : decode cX10_deed 83 = .ok (.ireturn, 1) := by decide +kernel
set_option maxHeartbeats 4000000 in
set_option maxRecDepth 100000 in
theorem g_deed (l : Launch) (dC : Nat → ClassId) (dI : Nat → Nat → Nat) (cy : Nat → ClassId) (vo : Nat) (vt : Nat) (vx : Nat) (vb : Nat) (va : Nat) (ve : Nat) (vs : Nat) (vg : Nat) (vmr : Nat) (vkr : Nat) (vim : Nat) (vik : Nat) (vw : Nat) (vdw : Nat) (volf : Int32) (volh : Int32) (vomd : Int32) (vocd : Int32) (vwc : Nat) (vwl : Nat) (vws : Nat) (vwc1 : Nat) (vwc2 : Nat) (vwc3 : Nat) (vwc4 : Nat) (vwc5 : Nat) (vwcm : Int32) (vwcd : Int32) (vwcr : Int32) (vwcw : Int32) (vwcf3 : Nat → Int32) (vwcf4 : Nat → Int32) (vwl1 : Nat) (vwl2 : Nat) (vwl3 : Nat) (vwl4 : Nat) (vwl5 : Nat) (vwl6 : Nat) (vwl7 : Nat) (vwl8 : Nat) (vwl9 : Nat) (vwl10 : Nat) (vwly : Int32) (vwlf2 : Nat → Int32) (vd : Int32) (vn : Int32) (r_vwcm : 0 ≤ (vwcm : Int32).toInt ∧ (vwcm : Int32).toInt ≤ 7) (r_vwcd : 0 ≤ (vwcd : Int32).toInt ∧ (vwcd : Int32).toInt ≤ 10) (p_vwcf3 : Rg vwcf3 10 0 40) (p_vwlf2 : Rg vwlf2 70 0 9) : Met l yX10_deed (wl yX10_deed cX10_deed 3 (some .int)) ({ frames := 1, cells := 0, slots := 0, locals := 64 }) (Pr (dC, dI) vwCl cy [(vo, .inr (11, [.ref vt, .ref vx, .ref vb, .ref va, .ref ve, .ref vs, .ref vg, .ref vmr, .ref vkr, .ref vim, .ref vik, .ref vw, .ref vdw, .int volf, .int volh, .int vomd, .int vocd])), (vw, .inr (10, [.ref vwc, .ref vwl, .ref vws])), (vwc, .inr (2, [.ref vwc1, .ref vwc2, .ref vwc3, .ref vwc4, .ref vwc5, .int vwcm, .int vwcd, .int vwcr, .int vwcw])), (vwc3, .inl (cy 0, 10, .inl vwcf3)), (vwc4, .inl (cy 2, 10, .inl vwcf4)), (vwl, .inr (5, [.ref vwl1, .ref vwl2, .ref vwl3, .ref vwl4, .ref vwl5, .ref vwl6, .ref vwl7, .ref vwl8, .ref vwl9, .ref vwl10, .int vwly])), (vwl2, .inl (cy 0, 70, .inl vwlf2))] [.ref vo, .int vd, .int vn]) (Ri (fun r => True)) 0 0 (fun _ => False) := by
  refine mr RX10 rfl (by decide +kernel) (Nat.le_of_ble_eq_true rfl) ?_
  intro p e s m below meth c hx hb hr hlocks av9 hav hts hown hml hK hP hS Q9 hQ9 ls hl
  have hl : lv_has ls 3 [(0, .ref vo), (1, .int vd), (2, .int vn)] := hl
  refine lv_aload_n hx hb dX10_deed_0 rfl (lv_at hl 0 rfl) ?_
  refine lv_iload_n hx hb dX10_deed_1 rfl (lv_at hl 1 rfl) ?_
  refine jr_i (rVr (As := [.int vd]) (rest := []) (ci := 11) ⟨hx, hb, hml, hown, hts⟩ (g_isDeed l dC dI cy vo vt vx vb va ve vs vg vmr vkr vim vik vw vdw volf volh vomd vocd vwc vwl vws vwc1 vwc2 vwc3 vwc4 vwc5 vwcm vwcd vwcr vwcw vd r_vwcm r_vwcd) (cw_X10_162 hts rfl rfl ⟨Nat.le_of_ble_eq_true rfl, Nat.le_of_ble_eq_true rfl⟩) hP hK [0, 1, 2] rfl rfl rfl rfl hl.1 rfl (Nat.le_of_ble_eq_true rfl) dX10_deed_2 ⟨Nat.le_of_ble_eq_true rfl, Nat.le_of_ble_eq_true rfl⟩) hP hS (fun r_1 H locs hp_2 hP hS => ?_)
  have hp_2 : ((r_1 = 0) ∨ (r_1 = 1 ∧ 0 ≤ (vd : Int32).toInt ∧ (vd : Int32).toInt < (vwcd : Int32).toInt)) := hp_2
  have q_3 := hp_2
  rcases q_3 with aq_3 | ⟨aq_3, f0q_3⟩
  · skip
    refine as_i 0 aq_3 ?_
    refine lv_if_ne (tgt := 10) hx hb dX10_deed_5 (by decide) (fun c9 => absurd c9 (by decide)) (fun _ => ?_)
    refine lv_iconst (v := (-1)) hx hb dX10_deed_8 (by decide) ?_
    have k_m1 : ((-1) : Int32).toInt = (-1) := by decide
    rw [hQ9]
    exact rr_i hx hb hr hlocks trivial hS dX10_deed_9
  · skip
    refine as_i 1 aq_3 ?_
    refine lv_if_ne (tgt := 10) hx hb dX10_deed_5 (by decide) (fun _ => ?_) (fun c9 => absurd c9 (by decide))
    refine lv_iload_n hx hb dX10_deed_10 rfl (lv_at hl 2 rfl) ?_
    have k_0 : (0 : Int32).toInt = 0 := by decide
    have k_1 : (1 : Int32).toInt = 1 := by decide
    have k_2 : (2 : Int32).toInt = 2 := by decide
    by_cases sw_4_0 : vn.toInt = 0
    · refine as_i 0 (i_eq.mpr (sw_4_0.trans k_0.symm)) ?_
      refine lv_tableIn (off := 25) (tgt := 36) hx hb dX10_deed_11 (by decide) (by decide) (by decide) (by decide) ?_
      refine lv_aload_n hx hb dX10_deed_36 rfl (lv_at hl 0 rfl) ?_
      refine gf_X10_76 hx hb hts hown hK hP 0 rfl rfl dX10_deed_37 ?_
      refine gf_X10_94 hx hb hts hown hK hP 1 rfl rfl dX10_deed_40 ?_
      refine gf_X10_168 hx hb hts hown hK hP 2 rfl rfl dX10_deed_43 ?_
      refine lv_iload_n hx hb dX10_deed_46 rfl (lv_at hl 1 rfl) ?_
      have hin_5 : vp_in vd 10 := vp_in_iff.mpr ⟨by omega, by omega⟩
      refine va_iald hx hb hK hP 3 0 rfl rfl hin_5 dX10_deed_47 ?_
      refine lv_topi (fun z_6 ez_6 => ?_)
      have bz_6 := p_vwcf3.at hin_5 ez_6
      rw [hQ9]
      exact rr_i hx hb hr hlocks trivial hS dX10_deed_48
    by_cases sw_4_1 : vn.toInt = 1
    · refine as_i 1 (i_eq.mpr (sw_4_1.trans k_1.symm)) ?_
      refine lv_tableIn (off := 38) (tgt := 49) hx hb dX10_deed_11 (by decide) (by decide) (by decide) (by decide) ?_
      refine lv_aload_n hx hb dX10_deed_49 rfl (lv_at hl 0 rfl) ?_
      refine gf_X10_76 hx hb hts hown hK hP 0 rfl rfl dX10_deed_50 ?_
      refine gf_X10_94 hx hb hts hown hK hP 1 rfl rfl dX10_deed_53 ?_
      refine gf_X10_173 hx hb hts hown hK hP 2 rfl rfl dX10_deed_56 ?_
      refine lv_iload_n hx hb dX10_deed_59 rfl (lv_at hl 1 rfl) ?_
      have hin_7 : vp_in vd 10 := vp_in_iff.mpr ⟨by omega, by omega⟩
      refine va_zald hx hb hK hP 4 2 rfl rfl hin_7 dX10_deed_60 ?_
      refine lv_topi (fun z_8 ez_8 => ?_)
      refine lv_if_eq (tgt := 68) hx hb dX10_deed_61 (by decide) (fun c_9 => ?_) (fun c_9 => ?_)
      · skip
        have c_9 : z_8.toInt = (0 : Int32).toInt := i_eq.mp c_9
        refine lv_iconst (v := 0) hx hb dX10_deed_68 (by decide) ?_
        rw [hQ9]
        exact rr_i hx hb hr hlocks trivial hS dX10_deed_69
      · skip
        have c_9 : ¬ (z_8.toInt = (0 : Int32).toInt) := fun h9 => c_9 (i_eq.mpr h9)
        refine lv_iconst (v := 1) hx hb dX10_deed_64 (by decide) ?_
        refine lv_goto (tgt := 69) hx hb dX10_deed_65 (by decide) ?_
        rw [hQ9]
        exact rr_i hx hb hr hlocks trivial hS dX10_deed_69
    by_cases sw_4_2 : vn.toInt = 2
    · refine as_i 2 (i_eq.mpr (sw_4_2.trans k_2.symm)) ?_
      refine lv_tableIn (off := 59) (tgt := 70) hx hb dX10_deed_11 (by decide) (by decide) (by decide) (by decide) ?_
      refine lv_aload_n hx hb dX10_deed_70 rfl (lv_at hl 0 rfl) ?_
      refine gf_X10_76 hx hb hts hown hK hP 0 rfl rfl dX10_deed_71 ?_
      refine gf_X10_98 hx hb hts hown hK hP 1 rfl rfl dX10_deed_74 ?_
      refine lv_iload_n hx hb dX10_deed_77 rfl (lv_at hl 1 rfl) ?_
      refine jr_i (rVr (As := [.int vd]) (rest := []) (ci := 5) ⟨hx, hb, hml, hown, hts⟩ (g_didByAll l dC dI cy vwl vwl1 vwl2 vwl3 vwl4 vwl5 vwl6 vwl7 vwl8 vwl9 vwl10 vwly vwlf2 vd ⟨by omega, by omega⟩ p_vwlf2) (cw_X10_176 hts rfl rfl ⟨Nat.le_of_ble_eq_true rfl, Nat.le_of_ble_eq_true rfl⟩) hP hK [5, 6] rfl rfl rfl rfl hl.1 rfl (Nat.le_of_ble_eq_true rfl) dX10_deed_78 ⟨Nat.le_of_ble_eq_true rfl, Nat.le_of_ble_eq_true rfl⟩) hP hS (fun r_10 H locs hp_11 hP hS => ?_)
      rw [hQ9]
      exact rr_i hx hb hr hlocks trivial hS dX10_deed_81
    refine lv_tableOut (tgt := 82) hx hb dX10_deed_11 (by omega) (by decide) ?_
    refine lv_iconst (v := (-1)) hx hb dX10_deed_82 (by decide) ?_
    have k_m1 : ((-1) : Int32).toInt = (-1) := by decide
    rw [hQ9]
    exact rr_i hx hb hr hlocks trivial hS dX10_deed_83
abbrev cX10_owes : ByteArray := prog_1_method_9_code
def yX10_owes : MethodName := ⟨RX10, "owes", "(II)I"⟩
theorem t692 : Cond.code yX10_owes cX10_owes 3 (some .int) ∈ GW := gw_mem 806 (by decide +kernel) (by decide +kernel)
theorem dX10_owes_0 : decode cX10_owes 0 = .ok (.aload_n 0, 1) := by decide +kernel
theorem dX10_owes_1 : decode cX10_owes 1 = .ok (.iload_n 1, 1) := by decide +kernel
theorem dX10_owes_2 : decode cX10_owes 2 = .ok (.invokevirtual 128, 3) := by decide +kernel
theorem dX10_owes_5 : decode cX10_owes 5 = .ok (.ifCond .eq 31, 3) := by decide +kernel
theorem dX10_owes_36 : decode cX10_owes 36 = .ok (.iconst (-1), 1) := by decide +kernel
theorem dX10_owes_37 : decode cX10_owes 37 = .ok (.ireturn, 1) := by decide +kernel
theorem dX10_owes_8 : decode cX10_owes 8 = .ok (.aload_n 0, 1) := by decide +kernel
theorem dX10_owes_9 : decode cX10_owes 9 = .ok (.iload_n 2, 1) := by decide +kernel
theorem dX10_owes_10 : decode cX10_owes 10 = .ok (.invokevirtual 128, 3) := by decide +kernel
theorem dX10_owes_13 : decode cX10_owes 13 = .ok (.ifCond .eq 23, 3) := by decide +kernel
theorem dX10_owes_16 : decode cX10_owes 16 = .ok (.aload_n 0, 1) := by decide +kernel
theorem dX10_owes_17 : decode cX10_owes 17 = .ok (.getfield 76, 3) := by decide +kernel
theorem dX10_owes_20 : decode cX10_owes 20 = .ok (.getfield 98, 3) := by decide +kernel
theorem dX10_owes_23 : decode cX10_owes 23 = .ok (.getfield 179, 3) := by decide +kernel
theorem t241 : Cond.fieldLink RX10 179 "LikenessPound$Life" "owed" "[I" ∈ GW := gw_mem 355 (by decide +kernel) (by decide +kernel)
theorem gf_X10_179 {p : Program} {l : Launch} {e : Env} {R : Room} {s : State} {m : MethodId} {args : Array Value} {below : List Frame} {meth : Method} {c : Code} {H : Heap} {locs : List Loc} {cells slots : Nat} {Q : State → Prop} {cc : ByteArray} {pc : Nat} {ls : Array Slot} {rest : List Value} {D : va_G} {a : Nat} {tys : List (ClassId × FieldType)} {ws : va_W} (hx : p.tables.exec = Jvm.exec) (hb : c.code = cc) (hts : ∀ w ∈ GW, w.before args s = true) (hown : s.vm.findClass RX10 = some m.cls) (hK : va_K D vwCl tys s) (hP : va_P D vwCl ws H) (q0 : Nat) {fs : List Value} (he : ws[q0]? = some (a, .inr (5, fs))) {v : Value} (hv : fs[2]? = some v) (hdg : decode cc pc = .ok (.getfield 179, 3)) (kk : W p l e R s m args below meth c H locs cells slots Q (F0 m (pc + 3) ls (v :: rest))) : W p l e R s m args below meth c H locs cells slots Q (F0 m pc ls (.ref a :: rest)) := va_get (C := RX4) (T := TX4) (N := 11) (ci := 5) hx hb hts inX4 hown hK hP q0 he rfl 2 (by decide) (hts _ t241) (fun _ h => h) hv hdg kk
theorem dX10_owes_26 : decode cX10_owes 26 = .ok (.iload_n 1, 1) := by decide +kernel
theorem dX10_owes_27 : decode cX10_owes 27 = .ok (.bipush 7, 2) := by decide +kernel
theorem dX10_owes_29 : decode cX10_owes 29 = .ok (.imul, 1) := by decide +kernel
theorem dX10_owes_30 : decode cX10_owes 30 = .ok (.iload_n 2, 1) := by decide +kernel
theorem dX10_owes_31 : decode cX10_owes 31 = .ok (.iadd, 1) := by decide +kernel
theorem dX10_owes_32 : decode cX10_owes 32 = .ok (.iaload, 1) := by decide +kernel
theorem dX10_owes_33 : decode cX10_owes 33 = .ok (.goto 4, 3) := by decide +kernel
set_option maxHeartbeats 4000000 in
set_option maxRecDepth 100000 in
theorem g_owes (l : Launch) (dC : Nat → ClassId) (dI : Nat → Nat → Nat) (cy : Nat → ClassId) (vo : Nat) (vt : Nat) (vx : Nat) (vb : Nat) (va : Nat) (ve : Nat) (vs : Nat) (vg : Nat) (vmr : Nat) (vkr : Nat) (vim : Nat) (vik : Nat) (vw : Nat) (vdw : Nat) (volf : Int32) (volh : Int32) (vomd : Int32) (vocd : Int32) (vwc : Nat) (vwl : Nat) (vws : Nat) (vwc1 : Nat) (vwc2 : Nat) (vwc3 : Nat) (vwc4 : Nat) (vwc5 : Nat) (vwcm : Int32) (vwcd : Int32) (vwcr : Int32) (vwcw : Int32) (vwl1 : Nat) (vwl2 : Nat) (vwl3 : Nat) (vwl4 : Nat) (vwl5 : Nat) (vwl6 : Nat) (vwl7 : Nat) (vwl8 : Nat) (vwl9 : Nat) (vwl10 : Nat) (vwly : Int32) (vwlf3 : Nat → Int32) (vm : Int32) (vk : Int32) (r_vwcm : 0 ≤ (vwcm : Int32).toInt ∧ (vwcm : Int32).toInt ≤ 7) (r_vwcd : 0 ≤ (vwcd : Int32).toInt ∧ (vwcd : Int32).toInt ≤ 10) : Met l yX10_owes (wl yX10_owes cX10_owes 3 (some .int)) ({ frames := 1, cells := 0, slots := 0, locals := 64 }) (Pr (dC, dI) vwCl cy [(vo, .inr (11, [.ref vt, .ref vx, .ref vb, .ref va, .ref ve, .ref vs, .ref vg, .ref vmr, .ref vkr, .ref vim, .ref vik, .ref vw, .ref vdw, .int volf, .int volh, .int vomd, .int vocd])), (vw, .inr (10, [.ref vwc, .ref vwl, .ref vws])), (vwc, .inr (2, [.ref vwc1, .ref vwc2, .ref vwc3, .ref vwc4, .ref vwc5, .int vwcm, .int vwcd, .int vwcr, .int vwcw])), (vwl, .inr (5, [.ref vwl1, .ref vwl2, .ref vwl3, .ref vwl4, .ref vwl5, .ref vwl6, .ref vwl7, .ref vwl8, .ref vwl9, .ref vwl10, .int vwly])), (vwl3, .inl (cy 0, 49, .inl vwlf3))] [.ref vo, .int vm, .int vk]) (Ri (fun r => True)) 0 0 (fun _ => False) := by
  refine mr RX10 rfl (by decide +kernel) (Nat.le_of_ble_eq_true rfl) ?_
  intro p e s m below meth c hx hb hr hlocks av9 hav hts hown hml hK hP hS Q9 hQ9 ls hl
  have hl : lv_has ls 3 [(0, .ref vo), (1, .int vm), (2, .int vk)] := hl
  refine lv_aload_n hx hb dX10_owes_0 rfl (lv_at hl 0 rfl) ?_
  refine lv_iload_n hx hb dX10_owes_1 rfl (lv_at hl 1 rfl) ?_
  refine jr_i (rVr (As := [.int vm]) (rest := []) (ci := 11) ⟨hx, hb, hml, hown, hts⟩ (g_isMan l dC dI cy vo vt vx vb va ve vs vg vmr vkr vim vik vw vdw volf volh vomd vocd vwc vwl vws vwc1 vwc2 vwc3 vwc4 vwc5 vwcm vwcd vwcr vwcw vm r_vwcm r_vwcd) (cw_X10_128 hts rfl rfl ⟨Nat.le_of_ble_eq_true rfl, Nat.le_of_ble_eq_true rfl⟩) hP hK [0, 1, 2] rfl rfl rfl rfl hl.1 rfl (Nat.le_of_ble_eq_true rfl) dX10_owes_2 ⟨Nat.le_of_ble_eq_true rfl, Nat.le_of_ble_eq_true rfl⟩) hP hS (fun r_1 H locs hp_2 hP hS => ?_)
  have hp_2 : ((r_1 = 0 ∧ ((vm : Int32).toInt < 0 ∨ (vwcm : Int32).toInt ≤ (vm : Int32).toInt)) ∨ (r_1 = 1 ∧ 0 ≤ (vm : Int32).toInt ∧ (vm : Int32).toInt < (vwcm : Int32).toInt)) := hp_2
  have q_3 := hp_2
  rcases q_3 with ⟨aq_3, f0q_3⟩ | ⟨aq_3, f0q_3⟩
  · skip
    refine as_i 0 aq_3 ?_
    refine lv_if_eq (tgt := 36) hx hb dX10_owes_5 (by decide) (fun _ => ?_) (fun c9 => absurd (by decide) c9)
    refine lv_iconst (v := (-1)) hx hb dX10_owes_36 (by decide) ?_
    have k_m1 : ((-1) : Int32).toInt = (-1) := by decide
    rw [hQ9]
    exact rr_i hx hb hr hlocks trivial hS dX10_owes_37
  · skip
    refine as_i 1 aq_3 ?_
    refine lv_if_eq (tgt := 36) hx hb dX10_owes_5 (by decide) (fun c9 => absurd c9 (by decide)) (fun _ => ?_)
    refine lv_aload_n hx hb dX10_owes_8 rfl (lv_at hl 0 rfl) ?_
    refine lv_iload_n hx hb dX10_owes_9 rfl (lv_at hl 2 rfl) ?_
    refine jr_i (rVr (As := [.int vk]) (rest := []) (ci := 11) ⟨hx, hb, hml, hown, hts⟩ (g_isMan l dC dI cy vo vt vx vb va ve vs vg vmr vkr vim vik vw vdw volf volh vomd vocd vwc vwl vws vwc1 vwc2 vwc3 vwc4 vwc5 vwcm vwcd vwcr vwcw vk r_vwcm r_vwcd) (cw_X10_128 hts rfl rfl ⟨Nat.le_of_ble_eq_true rfl, Nat.le_of_ble_eq_true rfl⟩) hP hK [0, 1, 2] rfl rfl rfl rfl hl.1 rfl (Nat.le_of_ble_eq_true rfl) dX10_owes_10 ⟨Nat.le_of_ble_eq_true rfl, Nat.le_of_ble_eq_true rfl⟩) hP hS (fun r_4 H locs hp_5 hP hS => ?_)
    have hp_5 : ((r_4 = 0 ∧ ((vk : Int32).toInt < 0 ∨ (vwcm : Int32).toInt ≤ (vk : Int32).toInt)) ∨ (r_4 = 1 ∧ 0 ≤ (vk : Int32).toInt ∧ (vk : Int32).toInt < (vwcm : Int32).toInt)) := hp_5
    have q_6 := hp_5
    rcases q_6 with ⟨aq_6, f0q_6⟩ | ⟨aq_6, f0q_6⟩
    · skip
      refine as_i 0 aq_6 ?_
      refine lv_if_eq (tgt := 36) hx hb dX10_owes_13 (by decide) (fun _ => ?_) (fun c9 => absurd (by decide) c9)
      refine lv_iconst (v := (-1)) hx hb dX10_owes_36 (by decide) ?_
      have k_m1 : ((-1) : Int32).toInt = (-1) := by decide
      rw [hQ9]
      exact rr_i hx hb hr hlocks trivial hS dX10_owes_37
    · skip
      refine as_i 1 aq_6 ?_
      refine lv_if_eq (tgt := 36) hx hb dX10_owes_13 (by decide) (fun c9 => absurd c9 (by decide)) (fun _ => ?_)
      refine lv_aload_n hx hb dX10_owes_16 rfl (lv_at hl 0 rfl) ?_
      refine gf_X10_76 hx hb hts hown hK hP 0 rfl rfl dX10_owes_17 ?_
      refine gf_X10_98 hx hb hts hown hK hP 1 rfl rfl dX10_owes_20 ?_
      refine gf_X10_179 hx hb hts hown hK hP 3 rfl rfl dX10_owes_23 ?_
      refine lv_iload_n hx hb dX10_owes_26 rfl (lv_at hl 1 rfl) ?_
      refine lv_bipush (v := 7) hx hb dX10_owes_27 (by decide) ?_
      refine lv_imul hx hb dX10_owes_29 ?_
      refine lv_topi (fun z_7 ez_7 => ?_)
      have k_7 : (7 : Int32).toInt = 7 := by decide
      have bz_7 : z_7.toInt = vm.toInt * 7 := i_mulc k_7 ez_7 (by omega) (by omega)
      refine lv_iload_n hx hb dX10_owes_30 rfl (lv_at hl 2 rfl) ?_
      refine lv_iadd hx hb dX10_owes_31 ?_
      refine lv_topi (fun z_8 ez_8 => ?_)
      have bz_8 : z_8.toInt = z_7.toInt + vk.toInt := i_add ez_8 (by omega) (by omega)
      have hin_9 : vp_in z_8 49 := vp_in_iff.mpr ⟨by omega, by omega⟩
      refine va_iald hx hb hK hP 4 0 rfl rfl hin_9 dX10_owes_32 ?_
      refine lv_topi (fun z_10 ez_10 => ?_)
      refine lv_goto (tgt := 37) hx hb dX10_owes_33 (by decide) ?_
      rw [hQ9]
      exact rr_i hx hb hr hlocks trivial hS dX10_owes_37
abbrev cX10_kin : ByteArray := prog_1_method_10_code
def yX10_kin : MethodName := ⟨RX10, "kin", "(I)I"⟩
theorem t696 : Cond.code yX10_kin cX10_kin 2 (some .int) ∈ GW := gw_mem 810 (by decide +kernel) (by decide +kernel)
theorem dX10_kin_0 : decode cX10_kin 0 = .ok (.aload_n 0, 1) := by decide +kernel
theorem dX10_kin_1 : decode cX10_kin 1 = .ok (.iload_n 1, 1) := by decide +kernel
theorem dX10_kin_2 : decode cX10_kin 2 = .ok (.invokevirtual 128, 3) := by decide +kernel
theorem dX10_kin_5 : decode cX10_kin 5 = .ok (.ifCond .eq 18, 3) := by decide +kernel
theorem dX10_kin_23 : decode cX10_kin 23 = .ok (.iconst (-1), 1) := by decide +kernel
theorem dX10_kin_24 : decode cX10_kin 24 = .ok (.ireturn, 1) := by decide +kernel
theorem dX10_kin_8 : decode cX10_kin 8 = .ok (.aload_n 0, 1) := by decide +kernel
theorem dX10_kin_9 : decode cX10_kin 9 = .ok (.getfield 76, 3) := by decide +kernel
theorem dX10_kin_12 : decode cX10_kin 12 = .ok (.getfield 94, 3) := by decide +kernel
theorem dX10_kin_15 : decode cX10_kin 15 = .ok (.getfield 182, 3) := by decide +kernel
theorem t389 : Cond.fieldLink RX10 182 "LikenessPound$Colony" "kin" "[I" ∈ GW := gw_mem 503 (by decide +kernel) (by decide +kernel)
theorem gf_X10_182 {p : Program} {l : Launch} {e : Env} {R : Room} {s : State} {m : MethodId} {args : Array Value} {below : List Frame} {meth : Method} {c : Code} {H : Heap} {locs : List Loc} {cells slots : Nat} {Q : State → Prop} {cc : ByteArray} {pc : Nat} {ls : Array Slot} {rest : List Value} {D : va_G} {a : Nat} {tys : List (ClassId × FieldType)} {ws : va_W} (hx : p.tables.exec = Jvm.exec) (hb : c.code = cc) (hts : ∀ w ∈ GW, w.before args s = true) (hown : s.vm.findClass RX10 = some m.cls) (hK : va_K D vwCl tys s) (hP : va_P D vwCl ws H) (q0 : Nat) {fs : List Value} (he : ws[q0]? = some (a, .inr (2, fs))) {v : Value} (hv : fs[4]? = some v) (hdg : decode cc pc = .ok (.getfield 182, 3)) (kk : W p l e R s m args below meth c H locs cells slots Q (F0 m (pc + 3) ls (v :: rest))) : W p l e R s m args below meth c H locs cells slots Q (F0 m pc ls (.ref a :: rest)) := va_get (C := RX1) (T := TX1) (N := 9) (ci := 2) hx hb hts inX1 hown hK hP q0 he rfl 4 (by decide) (hts _ t389) (fun _ h => h) hv hdg kk
theorem dX10_kin_18 : decode cX10_kin 18 = .ok (.iload_n 1, 1) := by decide +kernel
theorem dX10_kin_19 : decode cX10_kin 19 = .ok (.iaload, 1) := by decide +kernel
theorem dX10_kin_20 : decode cX10_kin 20 = .ok (.goto 4, 3) := by decide +kernel
set_option maxHeartbeats 4000000 in
set_option maxRecDepth 100000 in
theorem g_kin (l : Launch) (dC : Nat → ClassId) (dI : Nat → Nat → Nat) (cy : Nat → ClassId) (vo : Nat) (vt : Nat) (vx : Nat) (vb : Nat) (va : Nat) (ve : Nat) (vs : Nat) (vg : Nat) (vmr : Nat) (vkr : Nat) (vim : Nat) (vik : Nat) (vw : Nat) (vdw : Nat) (volf : Int32) (volh : Int32) (vomd : Int32) (vocd : Int32) (vwc : Nat) (vwl : Nat) (vws : Nat) (vwc1 : Nat) (vwc2 : Nat) (vwc3 : Nat) (vwc4 : Nat) (vwc5 : Nat) (vwcm : Int32) (vwcd : Int32) (vwcr : Int32) (vwcw : Int32) (vwcf5 : Nat → Int32) (vm : Int32) (r_vwcm : 0 ≤ (vwcm : Int32).toInt ∧ (vwcm : Int32).toInt ≤ 7) (r_vwcd : 0 ≤ (vwcd : Int32).toInt ∧ (vwcd : Int32).toInt ≤ 10) : Met l yX10_kin (wl yX10_kin cX10_kin 2 (some .int)) ({ frames := 1, cells := 0, slots := 0, locals := 64 }) (Pr (dC, dI) vwCl cy [(vo, .inr (11, [.ref vt, .ref vx, .ref vb, .ref va, .ref ve, .ref vs, .ref vg, .ref vmr, .ref vkr, .ref vim, .ref vik, .ref vw, .ref vdw, .int volf, .int volh, .int vomd, .int vocd])), (vw, .inr (10, [.ref vwc, .ref vwl, .ref vws])), (vwc, .inr (2, [.ref vwc1, .ref vwc2, .ref vwc3, .ref vwc4, .ref vwc5, .int vwcm, .int vwcd, .int vwcr, .int vwcw])), (vwc5, .inl (cy 0, 7, .inl vwcf5))] [.ref vo, .int vm]) (Ri (fun r => ((((vm : Int32).toInt < 0 ∨ (vwcm : Int32).toInt ≤ (vm : Int32).toInt) ∧ (r : Int32) = -1) ∨ (0 ≤ (vm : Int32).toInt ∧ (vm : Int32).toInt < (vwcm : Int32).toInt ∧ (r : Int32) = vwcf5 (Int32.toNatClampNeg vm))))) 0 0 (fun _ => False) := by
  refine mr RX10 rfl (by decide +kernel) (Nat.le_of_ble_eq_true rfl) ?_
  intro p e s m below meth c hx hb hr hlocks av9 hav hts hown hml hK hP hS Q9 hQ9 ls hl
  have hl : lv_has ls 2 [(0, .ref vo), (1, .int vm)] := hl
  refine lv_aload_n hx hb dX10_kin_0 rfl (lv_at hl 0 rfl) ?_
  refine lv_iload_n hx hb dX10_kin_1 rfl (lv_at hl 1 rfl) ?_
  refine jr_i (rVr (As := [.int vm]) (rest := []) (ci := 11) ⟨hx, hb, hml, hown, hts⟩ (g_isMan l dC dI cy vo vt vx vb va ve vs vg vmr vkr vim vik vw vdw volf volh vomd vocd vwc vwl vws vwc1 vwc2 vwc3 vwc4 vwc5 vwcm vwcd vwcr vwcw vm r_vwcm r_vwcd) (cw_X10_128 hts rfl rfl ⟨Nat.le_of_ble_eq_true rfl, Nat.le_of_ble_eq_true rfl⟩) hP hK [0, 1, 2] rfl rfl rfl rfl hl.1 rfl (Nat.le_of_ble_eq_true rfl) dX10_kin_2 ⟨Nat.le_of_ble_eq_true rfl, Nat.le_of_ble_eq_true rfl⟩) hP hS (fun r_1 H locs hp_2 hP hS => ?_)
  have hp_2 : ((r_1 = 0 ∧ ((vm : Int32).toInt < 0 ∨ (vwcm : Int32).toInt ≤ (vm : Int32).toInt)) ∨ (r_1 = 1 ∧ 0 ≤ (vm : Int32).toInt ∧ (vm : Int32).toInt < (vwcm : Int32).toInt)) := hp_2
  have q_3 := hp_2
  rcases q_3 with ⟨aq_3, f0q_3⟩ | ⟨aq_3, f0q_3⟩
  · skip
    refine as_i 0 aq_3 ?_
    refine lv_if_eq (tgt := 23) hx hb dX10_kin_5 (by decide) (fun _ => ?_) (fun c9 => absurd (by decide) c9)
    refine lv_iconst (v := (-1)) hx hb dX10_kin_23 (by decide) ?_
    have k_m1 : ((-1) : Int32).toInt = (-1) := by decide
    rw [hQ9]
    exact rr_i hx hb hr hlocks (show (((vm : Int32).toInt < 0 ∨ (vwcm : Int32).toInt ≤ (vm : Int32).toInt) ∧ (((-1) : Int32) : Int32) = -1) ∨ (0 ≤ (vm : Int32).toInt ∧ (vm : Int32).toInt < (vwcm : Int32).toInt ∧ (((-1) : Int32) : Int32) = vwcf5 (Int32.toNatClampNeg vm)) from (Or.inl ⟨by omega, rfl⟩)) hS dX10_kin_24
  · skip
    refine as_i 1 aq_3 ?_
    refine lv_if_eq (tgt := 23) hx hb dX10_kin_5 (by decide) (fun c9 => absurd c9 (by decide)) (fun _ => ?_)
    refine lv_aload_n hx hb dX10_kin_8 rfl (lv_at hl 0 rfl) ?_
    refine gf_X10_76 hx hb hts hown hK hP 0 rfl rfl dX10_kin_9 ?_
    refine gf_X10_94 hx hb hts hown hK hP 1 rfl rfl dX10_kin_12 ?_
    refine gf_X10_182 hx hb hts hown hK hP 2 rfl rfl dX10_kin_15 ?_
    refine lv_iload_n hx hb dX10_kin_18 rfl (lv_at hl 1 rfl) ?_
    have hin_4 : vp_in vm 7 := vp_in_iff.mpr ⟨by omega, by omega⟩
    refine va_iald hx hb hK hP 3 0 rfl rfl hin_4 dX10_kin_19 ?_
    refine lv_topi (fun z_5 ez_5 => ?_)
    refine lv_goto (tgt := 24) hx hb dX10_kin_20 (by decide) ?_
    rw [hQ9]
    exact rr_i hx hb hr hlocks (show (((vm : Int32).toInt < 0 ∨ (vwcm : Int32).toInt ≤ (vm : Int32).toInt) ∧ (z_5 : Int32) = -1) ∨ (0 ≤ (vm : Int32).toInt ∧ (vm : Int32).toInt < (vwcm : Int32).toInt ∧ (z_5 : Int32) = vwcf5 (Int32.toNatClampNeg vm)) from (Or.inr ⟨by omega, by omega, ez_5⟩)) hS dX10_kin_24
abbrev cX10_cell : ByteArray := prog_1_method_11_code
def yX10_cell : MethodName := ⟨RX10, "cell", "(II)I"⟩
theorem t700 : Cond.code yX10_cell cX10_cell 3 (some .int) ∈ GW := gw_mem 814 (by decide +kernel) (by decide +kernel)
theorem dX10_cell_0 : decode cX10_cell 0 = .ok (.aload_n 0, 1) := by decide +kernel
theorem dX10_cell_1 : decode cX10_cell 1 = .ok (.iload_n 1, 1) := by decide +kernel
theorem dX10_cell_2 : decode cX10_cell 2 = .ok (.invokevirtual 128, 3) := by decide +kernel
theorem dX10_cell_5 : decode cX10_cell 5 = .ok (.ifCond .eq 21, 3) := by decide +kernel
theorem dX10_cell_26 : decode cX10_cell 26 = .ok (.iconst (-1), 1) := by decide +kernel
theorem dX10_cell_27 : decode cX10_cell 27 = .ok (.ireturn, 1) := by decide +kernel
theorem dX10_cell_8 : decode cX10_cell 8 = .ok (.iload_n 2, 1) := by decide +kernel
theorem dX10_cell_9 : decode cX10_cell 9 = .ok (.ifCond .lt 17, 3) := by decide +kernel
theorem dX10_cell_12 : decode cX10_cell 12 = .ok (.iload_n 2, 1) := by decide +kernel
theorem dX10_cell_13 : decode cX10_cell 13 = .ok (.aload_n 0, 1) := by decide +kernel
theorem dX10_cell_14 : decode cX10_cell 14 = .ok (.getfield 76, 3) := by decide +kernel
theorem dX10_cell_17 : decode cX10_cell 17 = .ok (.getfield 94, 3) := by decide +kernel
theorem dX10_cell_20 : decode cX10_cell 20 = .ok (.getfield 185, 3) := by decide +kernel
theorem t404 : Cond.fieldLink RX10 185 "LikenessPound$Colony" "room" "I" ∈ GW := gw_mem 518 (by decide +kernel) (by decide +kernel)
theorem gf_X10_185 {p : Program} {l : Launch} {e : Env} {R : Room} {s : State} {m : MethodId} {args : Array Value} {below : List Frame} {meth : Method} {c : Code} {H : Heap} {locs : List Loc} {cells slots : Nat} {Q : State → Prop} {cc : ByteArray} {pc : Nat} {ls : Array Slot} {rest : List Value} {D : va_G} {a : Nat} {tys : List (ClassId × FieldType)} {ws : va_W} (hx : p.tables.exec = Jvm.exec) (hb : c.code = cc) (hts : ∀ w ∈ GW, w.before args s = true) (hown : s.vm.findClass RX10 = some m.cls) (hK : va_K D vwCl tys s) (hP : va_P D vwCl ws H) (q0 : Nat) {fs : List Value} (he : ws[q0]? = some (a, .inr (2, fs))) {v : Value} (hv : fs[7]? = some v) (hdg : decode cc pc = .ok (.getfield 185, 3)) (kk : W p l e R s m args below meth c H locs cells slots Q (F0 m (pc + 3) ls (v :: rest))) : W p l e R s m args below meth c H locs cells slots Q (F0 m pc ls (.ref a :: rest)) := va_get (C := RX1) (T := TX1) (N := 9) (ci := 2) hx hb hts inX1 hown hK hP q0 he rfl 7 (by decide) (hts _ t404) (fun _ h => h) hv hdg kk
theorem dX10_cell_23 : decode cX10_cell 23 = .ok (.if_icmp .lt 5, 3) := by decide +kernel
theorem dX10_cell_28 : decode cX10_cell 28 = .ok (.iload_n 2, 1) := by decide +kernel
theorem dX10_cell_29 : decode cX10_cell 29 = .ok (.aload_n 0, 1) := by decide +kernel
theorem dX10_cell_30 : decode cX10_cell 30 = .ok (.getfield 76, 3) := by decide +kernel
theorem dX10_cell_33 : decode cX10_cell 33 = .ok (.iload_n 1, 1) := by decide +kernel
theorem dX10_cell_34 : decode cX10_cell 34 = .ok (.invokevirtual 140, 3) := by decide +kernel
theorem t701 : Cond.methodLink RX10 140 yX9_whiteOf ∈ GW := gw_mem 815 (by decide +kernel) (by decide +kernel)
theorem cw_X10_140 {R : Room} {s : State} {args : Array Value} {rm : Room} {mc ms : Nat} (hts : ∀ w ∈ GW, w.before args s = true) (hrc : rm.cells = mc) (hrs : rm.slots = ms) (hR : rm.frames + 1 ≤ R.frames ∧ 8 + (2 + 11) + rm.locals ≤ R.locals) : CallW R s args RX10 RX9 140 yX9_whiteOf cX9_whiteOf 2 (some .int) (wl yX9_whiteOf cX9_whiteOf 2 (some .int)) rm mc ms 1 := cwV 1 hts (gi_V t701 t702 t703 t15 t704) rfl hrc hrs (by decide +kernel) hR
theorem dX10_cell_37 : decode cX10_cell 37 = .ok (.if_icmp .ge 5, 3) := by decide +kernel
theorem dX10_cell_42 : decode cX10_cell 42 = .ok (.iload_n 2, 1) := by decide +kernel
theorem dX10_cell_43 : decode cX10_cell 43 = .ok (.aload_n 0, 1) := by decide +kernel
theorem dX10_cell_44 : decode cX10_cell 44 = .ok (.getfield 76, 3) := by decide +kernel
theorem dX10_cell_47 : decode cX10_cell 47 = .ok (.getfield 94, 3) := by decide +kernel
theorem dX10_cell_50 : decode cX10_cell 50 = .ok (.getfield 185, 3) := by decide +kernel
theorem dX10_cell_53 : decode cX10_cell 53 = .ok (.aload_n 0, 1) := by decide +kernel
theorem dX10_cell_54 : decode cX10_cell 54 = .ok (.getfield 76, 3) := by decide +kernel
theorem dX10_cell_57 : decode cX10_cell 57 = .ok (.iload_n 1, 1) := by decide +kernel
theorem dX10_cell_58 : decode cX10_cell 58 = .ok (.invokevirtual 144, 3) := by decide +kernel
theorem t709 : Cond.methodLink RX10 144 yX9_darkOf ∈ GW := gw_mem 823 (by decide +kernel) (by decide +kernel)
theorem cw_X10_144 {R : Room} {s : State} {args : Array Value} {rm : Room} {mc ms : Nat} (hts : ∀ w ∈ GW, w.before args s = true) (hrc : rm.cells = mc) (hrs : rm.slots = ms) (hR : rm.frames + 1 ≤ R.frames ∧ 8 + (2 + 11) + rm.locals ≤ R.locals) : CallW R s args RX10 RX9 144 yX9_darkOf cX9_darkOf 2 (some .int) (wl yX9_darkOf cX9_darkOf 2 (some .int)) rm mc ms 1 := cwV 1 hts (gi_V t709 t710 t711 t15 t712) rfl hrc hrs (by decide +kernel) hR
theorem dX10_cell_61 : decode cX10_cell 61 = .ok (.isub, 1) := by decide +kernel
theorem dX10_cell_62 : decode cX10_cell 62 = .ok (.if_icmp .lt 7, 3) := by decide +kernel
theorem dX10_cell_69 : decode cX10_cell 69 = .ok (.iconst 0, 1) := by decide +kernel
theorem dX10_cell_70 : decode cX10_cell 70 = .ok (.ireturn, 1) := by decide +kernel
theorem dX10_cell_65 : decode cX10_cell 65 = .ok (.iconst 2, 1) := by decide +kernel
theorem dX10_cell_66 : decode cX10_cell 66 = .ok (.goto 4, 3) := by decide +kernel
theorem dX10_cell_40 : decode cX10_cell 40 = .ok (.iconst 1, 1) := by decide +kernel
theorem dX10_cell_41 : decode cX10_cell 41 = .ok (.ireturn, 1) := by decide +kernel
set_option maxHeartbeats 4000000 in
set_option maxRecDepth 100000 in
theorem g_cell (l : Launch) (dC : Nat → ClassId) (dI : Nat → Nat → Nat) (cy : Nat → ClassId) (vo : Nat) (vt : Nat) (vx : Nat) (vb : Nat) (va : Nat) (ve : Nat) (vs : Nat) (vg : Nat) (vmr : Nat) (vkr : Nat) (vim : Nat) (vik : Nat) (vw : Nat) (vdw : Nat) (volf : Int32) (volh : Int32) (vomd : Int32) (vocd : Int32) (vwc : Nat) (vwl : Nat) (vws : Nat) (vwc1 : Nat) (vwc2 : Nat) (vwc3 : Nat) (vwc4 : Nat) (vwc5 : Nat) (vwcm : Int32) (vwcd : Int32) (vwcr : Int32) (vwcw : Int32) (vwcf3 : Nat → Int32) (vwcf4 : Nat → Int32) (vwl1 : Nat) (vwl2 : Nat) (vwl3 : Nat) (vwl4 : Nat) (vwl5 : Nat) (vwl6 : Nat) (vwl7 : Nat) (vwl8 : Nat) (vwl9 : Nat) (vwl10 : Nat) (vwly : Int32) (vwlf2 : Nat → Int32) (vwlf3 : Nat → Int32) (vwlf4 : Nat → Int32) (vwlf5 : Nat → Int32) (vm : Int32) (vk : Int32) (r_vwcm : 0 ≤ (vwcm : Int32).toInt ∧ (vwcm : Int32).toInt ≤ 7) (r_vwcd : 0 ≤ (vwcd : Int32).toInt ∧ (vwcd : Int32).toInt ≤ 10) (p_vwcf3 : Rg vwcf3 10 0 40) (p_vwlf2 : Rg vwlf2 70 0 9) (p_vwlf5 : Rg vwlf5 7 (-1) 9) : Met l yX10_cell (wl yX10_cell cX10_cell 3 (some .int)) ({ frames := 3, cells := 0, slots := 0, locals := 192 }) (Pr (dC, dI) vwCl cy [(vo, .inr (11, [.ref vt, .ref vx, .ref vb, .ref va, .ref ve, .ref vs, .ref vg, .ref vmr, .ref vkr, .ref vim, .ref vik, .ref vw, .ref vdw, .int volf, .int volh, .int vomd, .int vocd])), (vw, .inr (10, [.ref vwc, .ref vwl, .ref vws])), (vwc, .inr (2, [.ref vwc1, .ref vwc2, .ref vwc3, .ref vwc4, .ref vwc5, .int vwcm, .int vwcd, .int vwcr, .int vwcw])), (vwc3, .inl (cy 0, 10, .inl vwcf3)), (vwc4, .inl (cy 2, 10, .inl vwcf4)), (vwl, .inr (5, [.ref vwl1, .ref vwl2, .ref vwl3, .ref vwl4, .ref vwl5, .ref vwl6, .ref vwl7, .ref vwl8, .ref vwl9, .ref vwl10, .int vwly])), (vwl2, .inl (cy 0, 70, .inl vwlf2)), (vwl3, .inl (cy 0, 49, .inl vwlf3)), (vwl4, .inl (cy 0, 7, .inl vwlf4)), (vwl5, .inl (cy 0, 7, .inl vwlf5))] [.ref vo, .int vm, .int vk]) (Ri (fun r => True)) 0 0 (fun _ => False) := by
  refine mr RX10 rfl (by decide +kernel) (Nat.le_of_ble_eq_true rfl) ?_
  intro p e s m below meth c hx hb hr hlocks av9 hav hts hown hml hK hP hS Q9 hQ9 ls hl
  have hl : lv_has ls 3 [(0, .ref vo), (1, .int vm), (2, .int vk)] := hl
  refine lv_aload_n hx hb dX10_cell_0 rfl (lv_at hl 0 rfl) ?_
  refine lv_iload_n hx hb dX10_cell_1 rfl (lv_at hl 1 rfl) ?_
  refine jr_i (rVr (As := [.int vm]) (rest := []) (ci := 11) ⟨hx, hb, hml, hown, hts⟩ (g_isMan l dC dI cy vo vt vx vb va ve vs vg vmr vkr vim vik vw vdw volf volh vomd vocd vwc vwl vws vwc1 vwc2 vwc3 vwc4 vwc5 vwcm vwcd vwcr vwcw vm r_vwcm r_vwcd) (cw_X10_128 hts rfl rfl ⟨Nat.le_of_ble_eq_true rfl, Nat.le_of_ble_eq_true rfl⟩) hP hK [0, 1, 2] rfl rfl rfl rfl hl.1 rfl (Nat.le_of_ble_eq_true rfl) dX10_cell_2 ⟨Nat.le_of_ble_eq_true rfl, Nat.le_of_ble_eq_true rfl⟩) hP hS (fun r_1 H locs hp_2 hP hS => ?_)
  have hp_2 : ((r_1 = 0 ∧ ((vm : Int32).toInt < 0 ∨ (vwcm : Int32).toInt ≤ (vm : Int32).toInt)) ∨ (r_1 = 1 ∧ 0 ≤ (vm : Int32).toInt ∧ (vm : Int32).toInt < (vwcm : Int32).toInt)) := hp_2
  have q_3 := hp_2
  rcases q_3 with ⟨aq_3, f0q_3⟩ | ⟨aq_3, f0q_3⟩
  · skip
    refine as_i 0 aq_3 ?_
    refine lv_if_eq (tgt := 26) hx hb dX10_cell_5 (by decide) (fun _ => ?_) (fun c9 => absurd (by decide) c9)
    refine lv_iconst (v := (-1)) hx hb dX10_cell_26 (by decide) ?_
    have k_m1 : ((-1) : Int32).toInt = (-1) := by decide
    rw [hQ9]
    exact rr_i hx hb hr hlocks trivial hS dX10_cell_27
  · skip
    refine as_i 1 aq_3 ?_
    refine lv_if_eq (tgt := 26) hx hb dX10_cell_5 (by decide) (fun c9 => absurd c9 (by decide)) (fun _ => ?_)
    refine lv_iload_n hx hb dX10_cell_8 rfl (lv_at hl 2 rfl) ?_
    have k_0 : (0 : Int32).toInt = 0 := by decide
    refine lv_if_lt (tgt := 26) hx hb dX10_cell_9 (by decide) (fun c_4 => ?_) (fun c_4 => ?_)
    · skip
      have c_4 : vk.toInt < (0 : Int32).toInt := i_lt.mp c_4
      refine lv_iconst (v := (-1)) hx hb dX10_cell_26 (by decide) ?_
      have k_m1 : ((-1) : Int32).toInt = (-1) := by decide
      rw [hQ9]
      exact rr_i hx hb hr hlocks trivial hS dX10_cell_27
    · skip
      have c_4 : ¬ (vk.toInt < (0 : Int32).toInt) := fun h9 => c_4 (i_lt.mpr h9)
      refine lv_iload_n hx hb dX10_cell_12 rfl (lv_at hl 2 rfl) ?_
      refine lv_aload_n hx hb dX10_cell_13 rfl (lv_at hl 0 rfl) ?_
      refine gf_X10_76 hx hb hts hown hK hP 0 rfl rfl dX10_cell_14 ?_
      refine gf_X10_94 hx hb hts hown hK hP 1 rfl rfl dX10_cell_17 ?_
      refine gf_X10_185 hx hb hts hown hK hP 2 rfl rfl dX10_cell_20 ?_
      refine lv_icmp_lt (tgt := 28) hx hb dX10_cell_23 (by decide) (fun c_5 => ?_) (fun c_5 => ?_)
      · skip
        have c_5 : vk.toInt < vwcr.toInt := i_lt.mp c_5
        refine lv_iload_n hx hb dX10_cell_28 rfl (lv_at hl 2 rfl) ?_
        refine lv_aload_n hx hb dX10_cell_29 rfl (lv_at hl 0 rfl) ?_
        refine gf_X10_76 hx hb hts hown hK hP 0 rfl rfl dX10_cell_30 ?_
        refine lv_iload_n hx hb dX10_cell_33 rfl (lv_at hl 1 rfl) ?_
        refine jr_i (rVr (As := [.int vm]) (rest := [.int vk]) (ci := 10) ⟨hx, hb, hml, hown, hts⟩ (g_whiteOf l dC dI cy vw vwc vwl vws vwc1 vwc2 vwc3 vwc4 vwc5 vwcm vwcd vwcr vwcw vwcf3 vwcf4 vwl1 vwl2 vwl3 vwl4 vwl5 vwl6 vwl7 vwl8 vwl9 vwl10 vwly vwlf2 vwlf3 vwlf4 vwlf5 vm r_vwcm r_vwcd ⟨by omega, by omega⟩ p_vwcf3 p_vwlf2 p_vwlf5) (cw_X10_140 hts rfl rfl ⟨Nat.le_of_ble_eq_true rfl, Nat.le_of_ble_eq_true rfl⟩) hP hK [1, 2, 3, 4, 5, 6, 7, 8, 9] rfl rfl rfl rfl hl.1 rfl (Nat.le_of_ble_eq_true rfl) dX10_cell_34 ⟨Nat.le_of_ble_eq_true rfl, Nat.le_of_ble_eq_true rfl⟩) hP hS (fun r_6 H locs hp_7 hP hS => ?_)
        refine lv_icmp_ge (tgt := 42) hx hb dX10_cell_37 (by decide) (fun c_8 => ?_) (fun c_8 => ?_)
        · skip
          have c_8 : r_6.toInt ≤ vk.toInt := i_le.mp c_8
          refine lv_iload_n hx hb dX10_cell_42 rfl (lv_at hl 2 rfl) ?_
          refine lv_aload_n hx hb dX10_cell_43 rfl (lv_at hl 0 rfl) ?_
          refine gf_X10_76 hx hb hts hown hK hP 0 rfl rfl dX10_cell_44 ?_
          refine gf_X10_94 hx hb hts hown hK hP 1 rfl rfl dX10_cell_47 ?_
          refine gf_X10_185 hx hb hts hown hK hP 2 rfl rfl dX10_cell_50 ?_
          refine lv_aload_n hx hb dX10_cell_53 rfl (lv_at hl 0 rfl) ?_
          refine gf_X10_76 hx hb hts hown hK hP 0 rfl rfl dX10_cell_54 ?_
          refine lv_iload_n hx hb dX10_cell_57 rfl (lv_at hl 1 rfl) ?_
          refine jr_i (rVr (As := [.int vm]) (rest := [.int vwcr, .int vk]) (ci := 10) ⟨hx, hb, hml, hown, hts⟩ (g_darkOf l dC dI cy vw vwc vwl vws vwc1 vwc2 vwc3 vwc4 vwc5 vwcm vwcd vwcr vwcw vwcf3 vwcf4 vwl1 vwl2 vwl3 vwl4 vwl5 vwl6 vwl7 vwl8 vwl9 vwl10 vwly vwlf2 vwlf3 vwlf4 vwlf5 vm r_vwcm r_vwcd ⟨by omega, by omega⟩ p_vwcf3 p_vwlf2 p_vwlf5) (cw_X10_144 hts rfl rfl ⟨Nat.le_of_ble_eq_true rfl, Nat.le_of_ble_eq_true rfl⟩) hP hK [1, 2, 3, 4, 5, 6, 7, 8, 9] rfl rfl rfl rfl hl.1 rfl (Nat.le_of_ble_eq_true rfl) dX10_cell_58 ⟨Nat.le_of_ble_eq_true rfl, Nat.le_of_ble_eq_true rfl⟩) hP hS (fun r_9 H locs hp_10 hP hS => ?_)
          refine lv_isub hx hb dX10_cell_61 ?_
          refine lv_topi (fun z_11 ez_11 => ?_)
          refine lv_icmp_lt (tgt := 69) hx hb dX10_cell_62 (by decide) (fun c_12 => ?_) (fun c_12 => ?_)
          · skip
            have c_12 : vk.toInt < z_11.toInt := i_lt.mp c_12
            refine lv_iconst (v := 0) hx hb dX10_cell_69 (by decide) ?_
            rw [hQ9]
            exact rr_i hx hb hr hlocks trivial hS dX10_cell_70
          · skip
            have c_12 : ¬ (vk.toInt < z_11.toInt) := fun h9 => c_12 (i_lt.mpr h9)
            refine lv_iconst (v := 2) hx hb dX10_cell_65 (by decide) ?_
            refine lv_goto (tgt := 70) hx hb dX10_cell_66 (by decide) ?_
            have k_2 : (2 : Int32).toInt = 2 := by decide
            rw [hQ9]
            exact rr_i hx hb hr hlocks trivial hS dX10_cell_70
        · skip
          have c_8 : ¬ (r_6.toInt ≤ vk.toInt) := fun h9 => c_8 (i_le.mpr h9)
          refine lv_iconst (v := 1) hx hb dX10_cell_40 (by decide) ?_
          have k_1 : (1 : Int32).toInt = 1 := by decide
          rw [hQ9]
          exact rr_i hx hb hr hlocks trivial hS dX10_cell_41
      · skip
        have c_5 : ¬ (vk.toInt < vwcr.toInt) := fun h9 => c_5 (i_lt.mpr h9)
        refine lv_iconst (v := (-1)) hx hb dX10_cell_26 (by decide) ?_
        have k_m1 : ((-1) : Int32).toInt = (-1) := by decide
        rw [hQ9]
        exact rr_i hx hb hr hlocks trivial hS dX10_cell_27
abbrev cX10_kept : ByteArray := prog_1_method_12_code
def yX10_kept : MethodName := ⟨RX10, "kept", "(II)I"⟩
theorem t720 : Cond.code yX10_kept cX10_kept 3 (some .int) ∈ GW := gw_mem 834 (by decide +kernel) (by decide +kernel)
theorem dX10_kept_0 : decode cX10_kept 0 = .ok (.aload_n 0, 1) := by decide +kernel
theorem dX10_kept_1 : decode cX10_kept 1 = .ok (.iload_n 1, 1) := by decide +kernel
theorem dX10_kept_2 : decode cX10_kept 2 = .ok (.invokevirtual 128, 3) := by decide +kernel
theorem dX10_kept_5 : decode cX10_kept 5 = .ok (.ifCond .eq 18, 3) := by decide +kernel
theorem dX10_kept_23 : decode cX10_kept 23 = .ok (.iconst (-1), 1) := by decide +kernel
theorem dX10_kept_24 : decode cX10_kept 24 = .ok (.ireturn, 1) := by decide +kernel
theorem dX10_kept_8 : decode cX10_kept 8 = .ok (.aload_n 0, 1) := by decide +kernel
theorem dX10_kept_9 : decode cX10_kept 9 = .ok (.getfield 76, 3) := by decide +kernel
theorem dX10_kept_12 : decode cX10_kept 12 = .ok (.getfield 98, 3) := by decide +kernel
theorem dX10_kept_15 : decode cX10_kept 15 = .ok (.getfield 159, 3) := by decide +kernel
theorem t251 : Cond.fieldLink RX10 159 "LikenessPound$Life" "sat" "[I" ∈ GW := gw_mem 365 (by decide +kernel) (by decide +kernel)
theorem gf_X10_159 {p : Program} {l : Launch} {e : Env} {R : Room} {s : State} {m : MethodId} {args : Array Value} {below : List Frame} {meth : Method} {c : Code} {H : Heap} {locs : List Loc} {cells slots : Nat} {Q : State → Prop} {cc : ByteArray} {pc : Nat} {ls : Array Slot} {rest : List Value} {D : va_G} {a : Nat} {tys : List (ClassId × FieldType)} {ws : va_W} (hx : p.tables.exec = Jvm.exec) (hb : c.code = cc) (hts : ∀ w ∈ GW, w.before args s = true) (hown : s.vm.findClass RX10 = some m.cls) (hK : va_K D vwCl tys s) (hP : va_P D vwCl ws H) (q0 : Nat) {fs : List Value} (he : ws[q0]? = some (a, .inr (5, fs))) {v : Value} (hv : fs[5]? = some v) (hdg : decode cc pc = .ok (.getfield 159, 3)) (kk : W p l e R s m args below meth c H locs cells slots Q (F0 m (pc + 3) ls (v :: rest))) : W p l e R s m args below meth c H locs cells slots Q (F0 m pc ls (.ref a :: rest)) := va_get (C := RX4) (T := TX4) (N := 11) (ci := 5) hx hb hts inX4 hown hK hP q0 he rfl 5 (by decide) (hts _ t251) (fun _ h => h) hv hdg kk
theorem dX10_kept_18 : decode cX10_kept 18 = .ok (.iload_n 1, 1) := by decide +kernel
theorem dX10_kept_19 : decode cX10_kept 19 = .ok (.iaload, 1) := by decide +kernel
theorem dX10_kept_20 : decode cX10_kept 20 = .ok (.ifCond .ne 5, 3) := by decide +kernel
theorem dX10_kept_25 : decode cX10_kept 25 = .ok (.iload_n 2, 1) := by decide +kernel
theorem dX10_kept_26 : decode cX10_kept 26 = .ok (.tableswitch 82 0 3 #[30, 43, 56, 69], 30) := by decide +kernel
theorem dX10_kept_56 : decode cX10_kept 56 = .ok (.aload_n 0, 1) := by decide +kernel
theorem dX10_kept_57 : decode cX10_kept 57 = .ok (.getfield 76, 3) := by decide +kernel
theorem dX10_kept_60 : decode cX10_kept 60 = .ok (.getfield 98, 3) := by decide +kernel
theorem dX10_kept_63 : decode cX10_kept 63 = .ok (.getfield 188, 3) := by decide +kernel
theorem t255 : Cond.fieldLink RX10 188 "LikenessPound$Life" "keptWhite" "[I" ∈ GW := gw_mem 369 (by decide +kernel) (by decide +kernel)
theorem gf_X10_188 {p : Program} {l : Launch} {e : Env} {R : Room} {s : State} {m : MethodId} {args : Array Value} {below : List Frame} {meth : Method} {c : Code} {H : Heap} {locs : List Loc} {cells slots : Nat} {Q : State → Prop} {cc : ByteArray} {pc : Nat} {ls : Array Slot} {rest : List Value} {D : va_G} {a : Nat} {tys : List (ClassId × FieldType)} {ws : va_W} (hx : p.tables.exec = Jvm.exec) (hb : c.code = cc) (hts : ∀ w ∈ GW, w.before args s = true) (hown : s.vm.findClass RX10 = some m.cls) (hK : va_K D vwCl tys s) (hP : va_P D vwCl ws H) (q0 : Nat) {fs : List Value} (he : ws[q0]? = some (a, .inr (5, fs))) {v : Value} (hv : fs[6]? = some v) (hdg : decode cc pc = .ok (.getfield 188, 3)) (kk : W p l e R s m args below meth c H locs cells slots Q (F0 m (pc + 3) ls (v :: rest))) : W p l e R s m args below meth c H locs cells slots Q (F0 m pc ls (.ref a :: rest)) := va_get (C := RX4) (T := TX4) (N := 11) (ci := 5) hx hb hts inX4 hown hK hP q0 he rfl 6 (by decide) (hts _ t255) (fun _ h => h) hv hdg kk
theorem dX10_kept_66 : decode cX10_kept 66 = .ok (.iload_n 1, 1) := by decide +kernel
theorem dX10_kept_67 : decode cX10_kept 67 = .ok (.iaload, 1) := by decide +kernel
theorem dX10_kept_68 : decode cX10_kept 68 = .ok (.ireturn, 1) := by decide +kernel
theorem dX10_kept_69 : decode cX10_kept 69 = .ok (.aload_n 0, 1) := by decide +kernel
theorem dX10_kept_70 : decode cX10_kept 70 = .ok (.getfield 76, 3) := by decide +kernel
theorem dX10_kept_73 : decode cX10_kept 73 = .ok (.getfield 98, 3) := by decide +kernel
theorem dX10_kept_76 : decode cX10_kept 76 = .ok (.getfield 191, 3) := by decide +kernel
theorem t258 : Cond.fieldLink RX10 191 "LikenessPound$Life" "keptDark" "[I" ∈ GW := gw_mem 372 (by decide +kernel) (by decide +kernel)
theorem gf_X10_191 {p : Program} {l : Launch} {e : Env} {R : Room} {s : State} {m : MethodId} {args : Array Value} {below : List Frame} {meth : Method} {c : Code} {H : Heap} {locs : List Loc} {cells slots : Nat} {Q : State → Prop} {cc : ByteArray} {pc : Nat} {ls : Array Slot} {rest : List Value} {D : va_G} {a : Nat} {tys : List (ClassId × FieldType)} {ws : va_W} (hx : p.tables.exec = Jvm.exec) (hb : c.code = cc) (hts : ∀ w ∈ GW, w.before args s = true) (hown : s.vm.findClass RX10 = some m.cls) (hK : va_K D vwCl tys s) (hP : va_P D vwCl ws H) (q0 : Nat) {fs : List Value} (he : ws[q0]? = some (a, .inr (5, fs))) {v : Value} (hv : fs[7]? = some v) (hdg : decode cc pc = .ok (.getfield 191, 3)) (kk : W p l e R s m args below meth c H locs cells slots Q (F0 m (pc + 3) ls (v :: rest))) : W p l e R s m args below meth c H locs cells slots Q (F0 m pc ls (.ref a :: rest)) := va_get (C := RX4) (T := TX4) (N := 11) (ci := 5) hx hb hts inX4 hown hK hP q0 he rfl 7 (by decide) (hts _ t258) (fun _ h => h) hv hdg kk
theorem dX10_kept_79 : decode cX10_kept 79 = .ok (.iload_n 1, 1) := by decide +kernel
theorem dX10_kept_80 : decode cX10_kept 80 = .ok (.iaload, 1) := by decide +kernel
theorem dX10_kept_81 : decode cX10_kept 81 = .ok (.ireturn, 1) := by decide +kernel
theorem dX10_kept_82 : decode cX10_kept 82 = .ok (.aload_n 0, 1) := by decide +kernel
theorem dX10_kept_83 : decode cX10_kept 83 = .ok (.getfield 76, 3) := by decide +kernel
theorem dX10_kept_86 : decode cX10_kept 86 = .ok (.getfield 98, 3) := by decide +kernel
theorem dX10_kept_89 : decode cX10_kept 89 = .ok (.getfield 194, 3) := by decide +kernel
theorem t261 : Cond.fieldLink RX10 194 "LikenessPound$Life" "keptYear" "[I" ∈ GW := gw_mem 375 (by decide +kernel) (by decide +kernel)
theorem gf_X10_194 {p : Program} {l : Launch} {e : Env} {R : Room} {s : State} {m : MethodId} {args : Array Value} {below : List Frame} {meth : Method} {c : Code} {H : Heap} {locs : List Loc} {cells slots : Nat} {Q : State → Prop} {cc : ByteArray} {pc : Nat} {ls : Array Slot} {rest : List Value} {D : va_G} {a : Nat} {tys : List (ClassId × FieldType)} {ws : va_W} (hx : p.tables.exec = Jvm.exec) (hb : c.code = cc) (hts : ∀ w ∈ GW, w.before args s = true) (hown : s.vm.findClass RX10 = some m.cls) (hK : va_K D vwCl tys s) (hP : va_P D vwCl ws H) (q0 : Nat) {fs : List Value} (he : ws[q0]? = some (a, .inr (5, fs))) {v : Value} (hv : fs[8]? = some v) (hdg : decode cc pc = .ok (.getfield 194, 3)) (kk : W p l e R s m args below meth c H locs cells slots Q (F0 m (pc + 3) ls (v :: rest))) : W p l e R s m args below meth c H locs cells slots Q (F0 m pc ls (.ref a :: rest)) := va_get (C := RX4) (T := TX4) (N := 11) (ci := 5) hx hb hts inX4 hown hK hP q0 he rfl 8 (by decide) (hts _ t261) (fun _ h => h) hv hdg kk
theorem dX10_kept_92 : decode cX10_kept 92 = .ok (.iload_n 1, 1) := by decide +kernel
theorem dX10_kept_93 : decode cX10_kept 93 = .ok (.iaload, 1) := by decide +kernel
theorem dX10_kept_94 : decode cX10_kept 94 = .ok (.ireturn, 1) := by decide +kernel
theorem dX10_kept_95 : decode cX10_kept 95 = .ok (.aload_n 0, 1) := by decide +kernel
theorem dX10_kept_96 : decode cX10_kept 96 = .ok (.getfield 76, 3) := by decide +kernel
theorem dX10_kept_99 : decode cX10_kept 99 = .ok (.getfield 98, 3) := by decide +kernel
theorem dX10_kept_102 : decode cX10_kept 102 = .ok (.getfield 197, 3) := by decide +kernel
theorem t264 : Cond.fieldLink RX10 197 "LikenessPound$Life" "keptAge" "[I" ∈ GW := gw_mem 378 (by decide +kernel) (by decide +kernel)
theorem gf_X10_197 {p : Program} {l : Launch} {e : Env} {R : Room} {s : State} {m : MethodId} {args : Array Value} {below : List Frame} {meth : Method} {c : Code} {H : Heap} {locs : List Loc} {cells slots : Nat} {Q : State → Prop} {cc : ByteArray} {pc : Nat} {ls : Array Slot} {rest : List Value} {D : va_G} {a : Nat} {tys : List (ClassId × FieldType)} {ws : va_W} (hx : p.tables.exec = Jvm.exec) (hb : c.code = cc) (hts : ∀ w ∈ GW, w.before args s = true) (hown : s.vm.findClass RX10 = some m.cls) (hK : va_K D vwCl tys s) (hP : va_P D vwCl ws H) (q0 : Nat) {fs : List Value} (he : ws[q0]? = some (a, .inr (5, fs))) {v : Value} (hv : fs[9]? = some v) (hdg : decode cc pc = .ok (.getfield 197, 3)) (kk : W p l e R s m args below meth c H locs cells slots Q (F0 m (pc + 3) ls (v :: rest))) : W p l e R s m args below meth c H locs cells slots Q (F0 m pc ls (.ref a :: rest)) := va_get (C := RX4) (T := TX4) (N := 11) (ci := 5) hx hb hts inX4 hown hK hP q0 he rfl 9 (by decide) (hts _ t264) (fun _ h => h) hv hdg kk
theorem dX10_kept_105 : decode cX10_kept 105 = .ok (.iload_n 1, 1) := by decide +kernel
theorem dX10_kept_106 : decode cX10_kept 106 = .ok (.iaload, 1) := by decide +kernel
theorem dX10_kept_107 : decode cX10_kept 107 = .ok (.ireturn, 1) := by decide +kernel
theorem dX10_kept_108 : decode cX10_kept 108 = .ok (.iconst (-1), 1) := by decide +kernel
theorem dX10_kept_109 : decode cX10_kept 109 = .ok (.ireturn, 1) := by decide +kernel
set_option maxHeartbeats 4000000 in
set_option maxRecDepth 100000 in
theorem g_kept (l : Launch) (dC : Nat → ClassId) (dI : Nat → Nat → Nat) (cy : Nat → ClassId) (vo : Nat) (vt : Nat) (vx : Nat) (vb : Nat) (va : Nat) (ve : Nat) (vs : Nat) (vg : Nat) (vmr : Nat) (vkr : Nat) (vim : Nat) (vik : Nat) (vw : Nat) (vdw : Nat) (volf : Int32) (volh : Int32) (vomd : Int32) (vocd : Int32) (vwc : Nat) (vwl : Nat) (vws : Nat) (vwc1 : Nat) (vwc2 : Nat) (vwc3 : Nat) (vwc4 : Nat) (vwc5 : Nat) (vwcm : Int32) (vwcd : Int32) (vwcr : Int32) (vwcw : Int32) (vwl1 : Nat) (vwl2 : Nat) (vwl3 : Nat) (vwl4 : Nat) (vwl5 : Nat) (vwl6 : Nat) (vwl7 : Nat) (vwl8 : Nat) (vwl9 : Nat) (vwl10 : Nat) (vwly : Int32) (vwlf6 : Nat → Int32) (vwlf7 : Nat → Int32) (vwlf8 : Nat → Int32) (vwlf9 : Nat → Int32) (vwlf10 : Nat → Int32) (vm : Int32) (vk : Int32) (r_vwcm : 0 ≤ (vwcm : Int32).toInt ∧ (vwcm : Int32).toInt ≤ 7) (r_vwcd : 0 ≤ (vwcd : Int32).toInt ∧ (vwcd : Int32).toInt ≤ 10) : Met l yX10_kept (wl yX10_kept cX10_kept 3 (some .int)) ({ frames := 1, cells := 0, slots := 0, locals := 64 }) (Pr (dC, dI) vwCl cy [(vo, .inr (11, [.ref vt, .ref vx, .ref vb, .ref va, .ref ve, .ref vs, .ref vg, .ref vmr, .ref vkr, .ref vim, .ref vik, .ref vw, .ref vdw, .int volf, .int volh, .int vomd, .int vocd])), (vw, .inr (10, [.ref vwc, .ref vwl, .ref vws])), (vwc, .inr (2, [.ref vwc1, .ref vwc2, .ref vwc3, .ref vwc4, .ref vwc5, .int vwcm, .int vwcd, .int vwcr, .int vwcw])), (vwl, .inr (5, [.ref vwl1, .ref vwl2, .ref vwl3, .ref vwl4, .ref vwl5, .ref vwl6, .ref vwl7, .ref vwl8, .ref vwl9, .ref vwl10, .int vwly])), (vwl6, .inl (cy 0, 7, .inl vwlf6)), (vwl7, .inl (cy 0, 7, .inl vwlf7)), (vwl8, .inl (cy 0, 7, .inl vwlf8)), (vwl9, .inl (cy 0, 7, .inl vwlf9)), (vwl10, .inl (cy 0, 7, .inl vwlf10))] [.ref vo, .int vm, .int vk]) (Ri (fun r => True)) 0 0 (fun _ => False) := by
  refine mr RX10 rfl (by decide +kernel) (Nat.le_of_ble_eq_true rfl) ?_
  intro p e s m below meth c hx hb hr hlocks av9 hav hts hown hml hK hP hS Q9 hQ9 ls hl
  have hl : lv_has ls 3 [(0, .ref vo), (1, .int vm), (2, .int vk)] := hl
  refine lv_aload_n hx hb dX10_kept_0 rfl (lv_at hl 0 rfl) ?_
  refine lv_iload_n hx hb dX10_kept_1 rfl (lv_at hl 1 rfl) ?_
  refine jr_i (rVr (As := [.int vm]) (rest := []) (ci := 11) ⟨hx, hb, hml, hown, hts⟩ (g_isMan l dC dI cy vo vt vx vb va ve vs vg vmr vkr vim vik vw vdw volf volh vomd vocd vwc vwl vws vwc1 vwc2 vwc3 vwc4 vwc5 vwcm vwcd vwcr vwcw vm r_vwcm r_vwcd) (cw_X10_128 hts rfl rfl ⟨Nat.le_of_ble_eq_true rfl, Nat.le_of_ble_eq_true rfl⟩) hP hK [0, 1, 2] rfl rfl rfl rfl hl.1 rfl (Nat.le_of_ble_eq_true rfl) dX10_kept_2 ⟨Nat.le_of_ble_eq_true rfl, Nat.le_of_ble_eq_true rfl⟩) hP hS (fun r_1 H locs hp_2 hP hS => ?_)
  have hp_2 : ((r_1 = 0 ∧ ((vm : Int32).toInt < 0 ∨ (vwcm : Int32).toInt ≤ (vm : Int32).toInt)) ∨ (r_1 = 1 ∧ 0 ≤ (vm : Int32).toInt ∧ (vm : Int32).toInt < (vwcm : Int32).toInt)) := hp_2
  have q_3 := hp_2
  rcases q_3 with ⟨aq_3, f0q_3⟩ | ⟨aq_3, f0q_3⟩
  · skip
    refine as_i 0 aq_3 ?_
    refine lv_if_eq (tgt := 23) hx hb dX10_kept_5 (by decide) (fun _ => ?_) (fun c9 => absurd (by decide) c9)
    refine lv_iconst (v := (-1)) hx hb dX10_kept_23 (by decide) ?_
    have k_m1 : ((-1) : Int32).toInt = (-1) := by decide
    rw [hQ9]
    exact rr_i hx hb hr hlocks trivial hS dX10_kept_24
  · skip
    refine as_i 1 aq_3 ?_
    refine lv_if_eq (tgt := 23) hx hb dX10_kept_5 (by decide) (fun c9 => absurd c9 (by decide)) (fun _ => ?_)
    refine lv_aload_n hx hb dX10_kept_8 rfl (lv_at hl 0 rfl) ?_
    refine gf_X10_76 hx hb hts hown hK hP 0 rfl rfl dX10_kept_9 ?_
    refine gf_X10_98 hx hb hts hown hK hP 1 rfl rfl dX10_kept_12 ?_
    refine gf_X10_159 hx hb hts hown hK hP 3 rfl rfl dX10_kept_15 ?_
    refine lv_iload_n hx hb dX10_kept_18 rfl (lv_at hl 1 rfl) ?_
    have hin_4 : vp_in vm 7 := vp_in_iff.mpr ⟨by omega, by omega⟩
    refine va_iald hx hb hK hP 4 0 rfl rfl hin_4 dX10_kept_19 ?_
    refine lv_topi (fun z_5 ez_5 => ?_)
    have k_0 : (0 : Int32).toInt = 0 := by decide
    refine lv_if_ne (tgt := 25) hx hb dX10_kept_20 (by decide) (fun c_6 => ?_) (fun c_6 => ?_)
    · skip
      have c_6 : ¬ (z_5.toInt = (0 : Int32).toInt) := fun h9 => c_6 (i_eq.mpr h9)
      refine lv_iload_n hx hb dX10_kept_25 rfl (lv_at hl 2 rfl) ?_
      have k_1 : (1 : Int32).toInt = 1 := by decide
      have k_2 : (2 : Int32).toInt = 2 := by decide
      have k_3 : (3 : Int32).toInt = 3 := by decide
      by_cases sw_7_0 : vk.toInt = 0
      · refine as_i 0 (i_eq.mpr (sw_7_0.trans k_0.symm)) ?_
        refine lv_tableIn (off := 30) (tgt := 56) hx hb dX10_kept_26 (by decide) (by decide) (by decide) (by decide) ?_
        refine lv_aload_n hx hb dX10_kept_56 rfl (lv_at hl 0 rfl) ?_
        refine gf_X10_76 hx hb hts hown hK hP 0 rfl rfl dX10_kept_57 ?_
        refine gf_X10_98 hx hb hts hown hK hP 1 rfl rfl dX10_kept_60 ?_
        refine gf_X10_188 hx hb hts hown hK hP 3 rfl rfl dX10_kept_63 ?_
        refine lv_iload_n hx hb dX10_kept_66 rfl (lv_at hl 1 rfl) ?_
        have hin_8 : vp_in vm 7 := vp_in_iff.mpr ⟨by omega, by omega⟩
        refine va_iald hx hb hK hP 5 0 rfl rfl hin_8 dX10_kept_67 ?_
        refine lv_topi (fun z_9 ez_9 => ?_)
        rw [hQ9]
        exact rr_i hx hb hr hlocks trivial hS dX10_kept_68
      by_cases sw_7_1 : vk.toInt = 1
      · refine as_i 1 (i_eq.mpr (sw_7_1.trans k_1.symm)) ?_
        refine lv_tableIn (off := 43) (tgt := 69) hx hb dX10_kept_26 (by decide) (by decide) (by decide) (by decide) ?_
        refine lv_aload_n hx hb dX10_kept_69 rfl (lv_at hl 0 rfl) ?_
        refine gf_X10_76 hx hb hts hown hK hP 0 rfl rfl dX10_kept_70 ?_
        refine gf_X10_98 hx hb hts hown hK hP 1 rfl rfl dX10_kept_73 ?_
        refine gf_X10_191 hx hb hts hown hK hP 3 rfl rfl dX10_kept_76 ?_
        refine lv_iload_n hx hb dX10_kept_79 rfl (lv_at hl 1 rfl) ?_
        have hin_10 : vp_in vm 7 := vp_in_iff.mpr ⟨by omega, by omega⟩
        refine va_iald hx hb hK hP 6 0 rfl rfl hin_10 dX10_kept_80 ?_
        refine lv_topi (fun z_11 ez_11 => ?_)
        rw [hQ9]
        exact rr_i hx hb hr hlocks trivial hS dX10_kept_81
      by_cases sw_7_2 : vk.toInt = 2
      · refine as_i 2 (i_eq.mpr (sw_7_2.trans k_2.symm)) ?_
        refine lv_tableIn (off := 56) (tgt := 82) hx hb dX10_kept_26 (by decide) (by decide) (by decide) (by decide) ?_
        refine lv_aload_n hx hb dX10_kept_82 rfl (lv_at hl 0 rfl) ?_
        refine gf_X10_76 hx hb hts hown hK hP 0 rfl rfl dX10_kept_83 ?_
        refine gf_X10_98 hx hb hts hown hK hP 1 rfl rfl dX10_kept_86 ?_
        refine gf_X10_194 hx hb hts hown hK hP 3 rfl rfl dX10_kept_89 ?_
        refine lv_iload_n hx hb dX10_kept_92 rfl (lv_at hl 1 rfl) ?_
        have hin_12 : vp_in vm 7 := vp_in_iff.mpr ⟨by omega, by omega⟩
        refine va_iald hx hb hK hP 7 0 rfl rfl hin_12 dX10_kept_93 ?_
        refine lv_topi (fun z_13 ez_13 => ?_)
        rw [hQ9]
        exact rr_i hx hb hr hlocks trivial hS dX10_kept_94
      by_cases sw_7_3 : vk.toInt = 3
      · refine as_i 3 (i_eq.mpr (sw_7_3.trans k_3.symm)) ?_
        refine lv_tableIn (off := 69) (tgt := 95) hx hb dX10_kept_26 (by decide) (by decide) (by decide) (by decide) ?_
        refine lv_aload_n hx hb dX10_kept_95 rfl (lv_at hl 0 rfl) ?_
        refine gf_X10_76 hx hb hts hown hK hP 0 rfl rfl dX10_kept_96 ?_
        refine gf_X10_98 hx hb hts hown hK hP 1 rfl rfl dX10_kept_99 ?_
        refine gf_X10_197 hx hb hts hown hK hP 3 rfl rfl dX10_kept_102 ?_
        refine lv_iload_n hx hb dX10_kept_105 rfl (lv_at hl 1 rfl) ?_
        have hin_14 : vp_in vm 7 := vp_in_iff.mpr ⟨by omega, by omega⟩
        refine va_iald hx hb hK hP 8 0 rfl rfl hin_14 dX10_kept_106 ?_
        refine lv_topi (fun z_15 ez_15 => ?_)
        rw [hQ9]
        exact rr_i hx hb hr hlocks trivial hS dX10_kept_107
      refine lv_tableOut (tgt := 108) hx hb dX10_kept_26 (by omega) (by decide) ?_
      refine lv_iconst (v := (-1)) hx hb dX10_kept_108 (by decide) ?_
      have k_m1 : ((-1) : Int32).toInt = (-1) := by decide
      rw [hQ9]
      exact rr_i hx hb hr hlocks trivial hS dX10_kept_109
    · skip
      have c_6 : z_5.toInt = (0 : Int32).toInt := i_eq.mp c_6
      refine lv_iconst (v := (-1)) hx hb dX10_kept_23 (by decide) ?_
      have k_m1 : ((-1) : Int32).toInt = (-1) := by decide
      rw [hQ9]
      exact rr_i hx hb hr hlocks trivial hS dX10_kept_24
abbrev cX10_now : ByteArray := prog_1_method_13_code
def yX10_now : MethodName := ⟨RX10, "now", "(I)I"⟩
theorem t724 : Cond.code yX10_now cX10_now 2 (some .int) ∈ GW := gw_mem 838 (by decide +kernel) (by decide +kernel)
theorem dX10_now_0 : decode cX10_now 0 = .ok (.iload_n 1, 1) := by decide +kernel
theorem dX10_now_1 : decode cX10_now 1 = .ok (.tableswitch 120 0 7 #[47, 58, 67, 76, 85, 93, 101, 109], 47) := by decide +kernel
theorem dX10_now_48 : decode cX10_now 48 = .ok (.aload_n 0, 1) := by decide +kernel
theorem dX10_now_49 : decode cX10_now 49 = .ok (.getfield 76, 3) := by decide +kernel
theorem dX10_now_52 : decode cX10_now 52 = .ok (.getfield 98, 3) := by decide +kernel
theorem dX10_now_55 : decode cX10_now 55 = .ok (.getfield 200, 3) := by decide +kernel
theorem t268 : Cond.fieldLink RX10 200 "LikenessPound$Life" "year" "I" ∈ GW := gw_mem 382 (by decide +kernel) (by decide +kernel)
theorem gf_X10_200 {p : Program} {l : Launch} {e : Env} {R : Room} {s : State} {m : MethodId} {args : Array Value} {below : List Frame} {meth : Method} {c : Code} {H : Heap} {locs : List Loc} {cells slots : Nat} {Q : State → Prop} {cc : ByteArray} {pc : Nat} {ls : Array Slot} {rest : List Value} {D : va_G} {a : Nat} {tys : List (ClassId × FieldType)} {ws : va_W} (hx : p.tables.exec = Jvm.exec) (hb : c.code = cc) (hts : ∀ w ∈ GW, w.before args s = true) (hown : s.vm.findClass RX10 = some m.cls) (hK : va_K D vwCl tys s) (hP : va_P D vwCl ws H) (q0 : Nat) {fs : List Value} (he : ws[q0]? = some (a, .inr (5, fs))) {v : Value} (hv : fs[10]? = some v) (hdg : decode cc pc = .ok (.getfield 200, 3)) (kk : W p l e R s m args below meth c H locs cells slots Q (F0 m (pc + 3) ls (v :: rest))) : W p l e R s m args below meth c H locs cells slots Q (F0 m pc ls (.ref a :: rest)) := va_get (C := RX4) (T := TX4) (N := 11) (ci := 5) hx hb hts inX4 hown hK hP q0 he rfl 10 (by decide) (hts _ t268) (fun _ h => h) hv hdg kk
theorem dX10_now_58 : decode cX10_now 58 = .ok (.ireturn, 1) := by decide +kernel
theorem dX10_now_59 : decode cX10_now 59 = .ok (.aload_n 0, 1) := by decide +kernel
theorem dX10_now_60 : decode cX10_now 60 = .ok (.getfield 76, 3) := by decide +kernel
theorem dX10_now_63 : decode cX10_now 63 = .ok (.iconst 0, 1) := by decide +kernel
theorem dX10_now_64 : decode cX10_now 64 = .ok (.invokevirtual 203, 3) := by decide +kernel
theorem t725 : Cond.methodLink RX10 203 yX9_whoIs ∈ GW := gw_mem 839 (by decide +kernel) (by decide +kernel)
theorem cw_X10_203 {R : Room} {s : State} {args : Array Value} {rm : Room} {mc ms : Nat} (hts : ∀ w ∈ GW, w.before args s = true) (hrc : rm.cells = mc) (hrs : rm.slots = ms) (hR : rm.frames + 1 ≤ R.frames ∧ 8 + (4 + 11) + rm.locals ≤ R.locals) : CallW R s args RX10 RX9 203 yX9_whoIs cX9_whoIs 4 (some .int) (wl yX9_whoIs cX9_whoIs 4 (some .int)) rm mc ms 1 := cwV 1 hts (gi_V t725 t726 t727 t15 t728) rfl hrc hrs (by decide +kernel) hR
theorem dX10_now_67 : decode cX10_now 67 = .ok (.ireturn, 1) := by decide +kernel
theorem dX10_now_68 : decode cX10_now 68 = .ok (.aload_n 0, 1) := by decide +kernel
theorem dX10_now_69 : decode cX10_now 69 = .ok (.getfield 76, 3) := by decide +kernel
theorem dX10_now_72 : decode cX10_now 72 = .ok (.iconst 1, 1) := by decide +kernel
theorem dX10_now_73 : decode cX10_now 73 = .ok (.invokevirtual 203, 3) := by decide +kernel
theorem dX10_now_76 : decode cX10_now 76 = .ok (.ireturn, 1) := by decide +kernel
theorem dX10_now_77 : decode cX10_now 77 = .ok (.aload_n 0, 1) := by decide +kernel
theorem dX10_now_78 : decode cX10_now 78 = .ok (.getfield 76, 3) := by decide +kernel
theorem dX10_now_81 : decode cX10_now 81 = .ok (.iconst 2, 1) := by decide +kernel
theorem dX10_now_82 : decode cX10_now 82 = .ok (.invokevirtual 203, 3) := by decide +kernel
theorem dX10_now_85 : decode cX10_now 85 = .ok (.ireturn, 1) := by decide +kernel
theorem dX10_now_86 : decode cX10_now 86 = .ok (.aload_n 0, 1) := by decide +kernel
theorem dX10_now_87 : decode cX10_now 87 = .ok (.getfield 76, 3) := by decide +kernel
theorem dX10_now_90 : decode cX10_now 90 = .ok (.invokevirtual 206, 3) := by decide +kernel
theorem t737 : Cond.methodLink RX10 206 yX9_whoLends ∈ GW := gw_mem 851 (by decide +kernel) (by decide +kernel)
theorem t738 : Cond.instanceMethod yX9_whoLends ∈ GW := gw_mem 852 (by decide +kernel) (by decide +kernel)
theorem t739 : Cond.selects RX9 yX9_whoLends yX9_whoLends ∈ GW := gw_mem 853 (by decide +kernel) (by decide +kernel)
theorem cw_X10_206 {R : Room} {s : State} {args : Array Value} {rm : Room} {mc ms : Nat} (hts : ∀ w ∈ GW, w.before args s = true) (hrc : rm.cells = mc) (hrs : rm.slots = ms) (hR : rm.frames + 1 ≤ R.frames ∧ 8 + (3 + 11) + rm.locals ≤ R.locals) : CallW R s args RX10 RX9 206 yX9_whoLends cX9_whoLends 3 (some .int) (wl yX9_whoLends cX9_whoLends 3 (some .int)) rm mc ms 0 := cwV 0 hts (gi_V t737 t738 t739 t15 t740) rfl hrc hrs (by decide +kernel) hR
theorem dX10_now_93 : decode cX10_now 93 = .ok (.ireturn, 1) := by decide +kernel
theorem dX10_now_94 : decode cX10_now 94 = .ok (.aload_n 0, 1) := by decide +kernel
theorem dX10_now_95 : decode cX10_now 95 = .ok (.getfield 76, 3) := by decide +kernel
theorem dX10_now_98 : decode cX10_now 98 = .ok (.invokevirtual 210, 3) := by decide +kernel
theorem t741 : Cond.methodLink RX10 210 yX9_allWhite ∈ GW := gw_mem 855 (by decide +kernel) (by decide +kernel)
theorem t742 : Cond.instanceMethod yX9_allWhite ∈ GW := gw_mem 856 (by decide +kernel) (by decide +kernel)
theorem t743 : Cond.selects RX9 yX9_allWhite yX9_allWhite ∈ GW := gw_mem 857 (by decide +kernel) (by decide +kernel)
theorem cw_X10_210 {R : Room} {s : State} {args : Array Value} {rm : Room} {mc ms : Nat} (hts : ∀ w ∈ GW, w.before args s = true) (hrc : rm.cells = mc) (hrs : rm.slots = ms) (hR : rm.frames + 1 ≤ R.frames ∧ 8 + (3 + 11) + rm.locals ≤ R.locals) : CallW R s args RX10 RX9 210 yX9_allWhite cX9_allWhite 3 (some .int) (wl yX9_allWhite cX9_allWhite 3 (some .int)) rm mc ms 0 := cwV 0 hts (gi_V t741 t742 t743 t15 t744) rfl hrc hrs (by decide +kernel) hR
theorem dX10_now_101 : decode cX10_now 101 = .ok (.ireturn, 1) := by decide +kernel
theorem dX10_now_102 : decode cX10_now 102 = .ok (.aload_n 0, 1) := by decide +kernel
theorem dX10_now_103 : decode cX10_now 103 = .ok (.getfield 76, 3) := by decide +kernel
theorem dX10_now_106 : decode cX10_now 106 = .ok (.invokevirtual 213, 3) := by decide +kernel
theorem t746 : Cond.methodLink RX10 213 yX9_allDark ∈ GW := gw_mem 860 (by decide +kernel) (by decide +kernel)
theorem t747 : Cond.instanceMethod yX9_allDark ∈ GW := gw_mem 861 (by decide +kernel) (by decide +kernel)
theorem t748 : Cond.selects RX9 yX9_allDark yX9_allDark ∈ GW := gw_mem 862 (by decide +kernel) (by decide +kernel)
theorem cw_X10_213 {R : Room} {s : State} {args : Array Value} {rm : Room} {mc ms : Nat} (hts : ∀ w ∈ GW, w.before args s = true) (hrc : rm.cells = mc) (hrs : rm.slots = ms) (hR : rm.frames + 1 ≤ R.frames ∧ 8 + (3 + 11) + rm.locals ≤ R.locals) : CallW R s args RX10 RX9 213 yX9_allDark cX9_allDark 3 (some .int) (wl yX9_allDark cX9_allDark 3 (some .int)) rm mc ms 0 := cwV 0 hts (gi_V t746 t747 t748 t15 t749) rfl hrc hrs (by decide +kernel) hR
theorem dX10_now_109 : decode cX10_now 109 = .ok (.ireturn, 1) := by decide +kernel
theorem dX10_now_110 : decode cX10_now 110 = .ok (.aload_n 0, 1) := by decide +kernel
theorem dX10_now_111 : decode cX10_now 111 = .ok (.getfield 76, 3) := by decide +kernel
theorem dX10_now_114 : decode cX10_now 114 = .ok (.getfield 98, 3) := by decide +kernel
theorem dX10_now_117 : decode cX10_now 117 = .ok (.invokevirtual 216, 3) := by decide +kernel
theorem t751 : Cond.methodLink RX10 216 yX4_sittings ∈ GW := gw_mem 865 (by decide +kernel) (by decide +kernel)
theorem t752 : Cond.instanceMethod yX4_sittings ∈ GW := gw_mem 866 (by decide +kernel) (by decide +kernel)
theorem t753 : Cond.selects RX4 yX4_sittings yX4_sittings ∈ GW := gw_mem 867 (by decide +kernel) (by decide +kernel)
theorem cw_X10_216 {R : Room} {s : State} {args : Array Value} {rm : Room} {mc ms : Nat} (hts : ∀ w ∈ GW, w.before args s = true) (hrc : rm.cells = mc) (hrs : rm.slots = ms) (hR : rm.frames + 1 ≤ R.frames ∧ 8 + (3 + 11) + rm.locals ≤ R.locals) : CallW R s args RX10 RX4 216 yX4_sittings cX4_sittings 3 (some .int) (wl yX4_sittings cX4_sittings 3 (some .int)) rm mc ms 0 := cwV 0 hts (gi_V t751 t752 t753 t10 t754) rfl hrc hrs (by decide +kernel) hR
theorem dX10_now_120 : decode cX10_now 120 = .ok (.ireturn, 1) := by decide +kernel
theorem dX10_now_121 : decode cX10_now 121 = .ok (.iconst (-1), 1) := by decide +kernel
theorem dX10_now_122 : decode cX10_now 122 = .ok (.ireturn, 1) := by decide +kernel
set_option maxHeartbeats 4000000 in
set_option maxRecDepth 100000 in
theorem g_now (l : Launch) (dC : Nat → ClassId) (dI : Nat → Nat → Nat) (cy : Nat → ClassId) (vo : Nat) (vt : Nat) (vx : Nat) (vb : Nat) (va : Nat) (ve : Nat) (vs : Nat) (vg : Nat) (vmr : Nat) (vkr : Nat) (vim : Nat) (vik : Nat) (vw : Nat) (vdw : Nat) (volf : Int32) (volh : Int32) (vomd : Int32) (vocd : Int32) (vwc : Nat) (vwl : Nat) (vws : Nat) (vwc1 : Nat) (vwc2 : Nat) (vwc3 : Nat) (vwc4 : Nat) (vwc5 : Nat) (vwcm : Int32) (vwcd : Int32) (vwcr : Int32) (vwcw : Int32) (vwcf3 : Nat → Int32) (vwcf4 : Nat → Int32) (vwl1 : Nat) (vwl2 : Nat) (vwl3 : Nat) (vwl4 : Nat) (vwl5 : Nat) (vwl6 : Nat) (vwl7 : Nat) (vwl8 : Nat) (vwl9 : Nat) (vwl10 : Nat) (vwly : Int32) (vwlf2 : Nat → Int32) (vwlf3 : Nat → Int32) (vwlf4 : Nat → Int32) (vwlf5 : Nat → Int32) (vwlf6 : Nat → Int32) (vk : Int32) (r_vwcm : 0 ≤ (vwcm : Int32).toInt ∧ (vwcm : Int32).toInt ≤ 7) (r_vwcd : 0 ≤ (vwcd : Int32).toInt ∧ (vwcd : Int32).toInt ≤ 10) (p_vwcf3 : Rg vwcf3 10 0 40) (p_vwlf2 : Rg vwlf2 70 0 9) (p_vwlf5 : Rg vwlf5 7 (-1) 9) : Met l yX10_now (wl yX10_now cX10_now 2 (some .int)) ({ frames := 5, cells := 0, slots := 0, locals := 320 }) (Pr (dC, dI) vwCl cy [(vo, .inr (11, [.ref vt, .ref vx, .ref vb, .ref va, .ref ve, .ref vs, .ref vg, .ref vmr, .ref vkr, .ref vim, .ref vik, .ref vw, .ref vdw, .int volf, .int volh, .int vomd, .int vocd])), (vw, .inr (10, [.ref vwc, .ref vwl, .ref vws])), (vwc, .inr (2, [.ref vwc1, .ref vwc2, .ref vwc3, .ref vwc4, .ref vwc5, .int vwcm, .int vwcd, .int vwcr, .int vwcw])), (vwc3, .inl (cy 0, 10, .inl vwcf3)), (vwc4, .inl (cy 2, 10, .inl vwcf4)), (vwl, .inr (5, [.ref vwl1, .ref vwl2, .ref vwl3, .ref vwl4, .ref vwl5, .ref vwl6, .ref vwl7, .ref vwl8, .ref vwl9, .ref vwl10, .int vwly])), (vwl2, .inl (cy 0, 70, .inl vwlf2)), (vwl3, .inl (cy 0, 49, .inl vwlf3)), (vwl4, .inl (cy 0, 7, .inl vwlf4)), (vwl5, .inl (cy 0, 7, .inl vwlf5)), (vwl6, .inl (cy 0, 7, .inl vwlf6))] [.ref vo, .int vk]) (Ri (fun r => True)) 0 0 (fun _ => False) := by
  refine mr RX10 rfl (by decide +kernel) (Nat.le_of_ble_eq_true rfl) ?_
  intro p e s m below meth c hx hb hr hlocks av9 hav hts hown hml hK hP hS Q9 hQ9 ls hl
  have hl : lv_has ls 2 [(0, .ref vo), (1, .int vk)] := hl
  refine lv_iload_n hx hb dX10_now_0 rfl (lv_at hl 1 rfl) ?_
  have k_0 : (0 : Int32).toInt = 0 := by decide
  have k_1 : (1 : Int32).toInt = 1 := by decide
  have k_2 : (2 : Int32).toInt = 2 := by decide
  have k_3 : (3 : Int32).toInt = 3 := by decide
  have k_4 : (4 : Int32).toInt = 4 := by decide
  have k_5 : (5 : Int32).toInt = 5 := by decide
  have k_6 : (6 : Int32).toInt = 6 := by decide
  have k_7 : (7 : Int32).toInt = 7 := by decide
  by_cases sw_1_0 : vk.toInt = 0
  · refine as_i 0 (i_eq.mpr (sw_1_0.trans k_0.symm)) ?_
    refine lv_tableIn (off := 47) (tgt := 48) hx hb dX10_now_1 (by decide) (by decide) (by decide) (by decide) ?_
    refine lv_aload_n hx hb dX10_now_48 rfl (lv_at hl 0 rfl) ?_
    refine gf_X10_76 hx hb hts hown hK hP 0 rfl rfl dX10_now_49 ?_
    refine gf_X10_98 hx hb hts hown hK hP 1 rfl rfl dX10_now_52 ?_
    refine gf_X10_200 hx hb hts hown hK hP 5 rfl rfl dX10_now_55 ?_
    rw [hQ9]
    exact rr_i hx hb hr hlocks trivial hS dX10_now_58
  by_cases sw_1_1 : vk.toInt = 1
  · refine as_i 1 (i_eq.mpr (sw_1_1.trans k_1.symm)) ?_
    refine lv_tableIn (off := 58) (tgt := 59) hx hb dX10_now_1 (by decide) (by decide) (by decide) (by decide) ?_
    refine lv_aload_n hx hb dX10_now_59 rfl (lv_at hl 0 rfl) ?_
    refine gf_X10_76 hx hb hts hown hK hP 0 rfl rfl dX10_now_60 ?_
    refine lv_iconst (v := 0) hx hb dX10_now_63 (by decide) ?_
    refine jr_i (rVr (As := [.int 0]) (rest := []) (ci := 10) ⟨hx, hb, hml, hown, hts⟩ (g_whoIs l dC dI cy vw vwc vwl vws vwc1 vwc2 vwc3 vwc4 vwc5 vwcm vwcd vwcr vwcw vwcf3 vwcf4 vwl1 vwl2 vwl3 vwl4 vwl5 vwl6 vwl7 vwl8 vwl9 vwl10 vwly vwlf2 vwlf3 vwlf4 vwlf5 0 r_vwcm r_vwcd p_vwcf3 p_vwlf2 p_vwlf5) (cw_X10_203 hts rfl rfl ⟨Nat.le_of_ble_eq_true rfl, Nat.le_of_ble_eq_true rfl⟩) hP hK [1, 2, 3, 4, 5, 6, 7, 8, 9] rfl rfl rfl rfl hl.1 rfl (Nat.le_of_ble_eq_true rfl) dX10_now_64 ⟨Nat.le_of_ble_eq_true rfl, Nat.le_of_ble_eq_true rfl⟩) hP hS (fun r_2 H locs hp_3 hP hS => ?_)
    rw [hQ9]
    exact rr_i hx hb hr hlocks trivial hS dX10_now_67
  by_cases sw_1_2 : vk.toInt = 2
  · refine as_i 2 (i_eq.mpr (sw_1_2.trans k_2.symm)) ?_
    refine lv_tableIn (off := 67) (tgt := 68) hx hb dX10_now_1 (by decide) (by decide) (by decide) (by decide) ?_
    refine lv_aload_n hx hb dX10_now_68 rfl (lv_at hl 0 rfl) ?_
    refine gf_X10_76 hx hb hts hown hK hP 0 rfl rfl dX10_now_69 ?_
    refine lv_iconst (v := 1) hx hb dX10_now_72 (by decide) ?_
    refine jr_i (rVr (As := [.int 1]) (rest := []) (ci := 10) ⟨hx, hb, hml, hown, hts⟩ (g_whoIs l dC dI cy vw vwc vwl vws vwc1 vwc2 vwc3 vwc4 vwc5 vwcm vwcd vwcr vwcw vwcf3 vwcf4 vwl1 vwl2 vwl3 vwl4 vwl5 vwl6 vwl7 vwl8 vwl9 vwl10 vwly vwlf2 vwlf3 vwlf4 vwlf5 1 r_vwcm r_vwcd p_vwcf3 p_vwlf2 p_vwlf5) (cw_X10_203 hts rfl rfl ⟨Nat.le_of_ble_eq_true rfl, Nat.le_of_ble_eq_true rfl⟩) hP hK [1, 2, 3, 4, 5, 6, 7, 8, 9] rfl rfl rfl rfl hl.1 rfl (Nat.le_of_ble_eq_true rfl) dX10_now_73 ⟨Nat.le_of_ble_eq_true rfl, Nat.le_of_ble_eq_true rfl⟩) hP hS (fun r_4 H locs hp_5 hP hS => ?_)
    rw [hQ9]
    exact rr_i hx hb hr hlocks trivial hS dX10_now_76
  by_cases sw_1_3 : vk.toInt = 3
  · refine as_i 3 (i_eq.mpr (sw_1_3.trans k_3.symm)) ?_
    refine lv_tableIn (off := 76) (tgt := 77) hx hb dX10_now_1 (by decide) (by decide) (by decide) (by decide) ?_
    refine lv_aload_n hx hb dX10_now_77 rfl (lv_at hl 0 rfl) ?_
    refine gf_X10_76 hx hb hts hown hK hP 0 rfl rfl dX10_now_78 ?_
    refine lv_iconst (v := 2) hx hb dX10_now_81 (by decide) ?_
    refine jr_i (rVr (As := [.int 2]) (rest := []) (ci := 10) ⟨hx, hb, hml, hown, hts⟩ (g_whoIs l dC dI cy vw vwc vwl vws vwc1 vwc2 vwc3 vwc4 vwc5 vwcm vwcd vwcr vwcw vwcf3 vwcf4 vwl1 vwl2 vwl3 vwl4 vwl5 vwl6 vwl7 vwl8 vwl9 vwl10 vwly vwlf2 vwlf3 vwlf4 vwlf5 2 r_vwcm r_vwcd p_vwcf3 p_vwlf2 p_vwlf5) (cw_X10_203 hts rfl rfl ⟨Nat.le_of_ble_eq_true rfl, Nat.le_of_ble_eq_true rfl⟩) hP hK [1, 2, 3, 4, 5, 6, 7, 8, 9] rfl rfl rfl rfl hl.1 rfl (Nat.le_of_ble_eq_true rfl) dX10_now_82 ⟨Nat.le_of_ble_eq_true rfl, Nat.le_of_ble_eq_true rfl⟩) hP hS (fun r_6 H locs hp_7 hP hS => ?_)
    rw [hQ9]
    exact rr_i hx hb hr hlocks trivial hS dX10_now_85
  by_cases sw_1_4 : vk.toInt = 4
  · refine as_i 4 (i_eq.mpr (sw_1_4.trans k_4.symm)) ?_
    refine lv_tableIn (off := 85) (tgt := 86) hx hb dX10_now_1 (by decide) (by decide) (by decide) (by decide) ?_
    refine lv_aload_n hx hb dX10_now_86 rfl (lv_at hl 0 rfl) ?_
    refine gf_X10_76 hx hb hts hown hK hP 0 rfl rfl dX10_now_87 ?_
    refine jr_i (rVr (As := []) (rest := []) (ci := 10) ⟨hx, hb, hml, hown, hts⟩ (g_whoLends l dC dI cy vw vwc vwl vws vwc1 vwc2 vwc3 vwc4 vwc5 vwcm vwcd vwcr vwcw vwl1 vwl2 vwl3 vwl4 vwl5 vwl6 vwl7 vwl8 vwl9 vwl10 vwly vwlf4 r_vwcm r_vwcd) (cw_X10_206 hts rfl rfl ⟨Nat.le_of_ble_eq_true rfl, Nat.le_of_ble_eq_true rfl⟩) hP hK [1, 2, 5, 8] rfl rfl rfl rfl hl.1 rfl (Nat.le_of_ble_eq_true rfl) dX10_now_90 ⟨Nat.le_of_ble_eq_true rfl, Nat.le_of_ble_eq_true rfl⟩) hP hS (fun r_8 H locs hp_9 hP hS => ?_)
    rw [hQ9]
    exact rr_i hx hb hr hlocks trivial hS dX10_now_93
  by_cases sw_1_5 : vk.toInt = 5
  · refine as_i 5 (i_eq.mpr (sw_1_5.trans k_5.symm)) ?_
    refine lv_tableIn (off := 93) (tgt := 94) hx hb dX10_now_1 (by decide) (by decide) (by decide) (by decide) ?_
    refine lv_aload_n hx hb dX10_now_94 rfl (lv_at hl 0 rfl) ?_
    refine gf_X10_76 hx hb hts hown hK hP 0 rfl rfl dX10_now_95 ?_
    refine jr_i (rVr (As := []) (rest := []) (ci := 10) ⟨hx, hb, hml, hown, hts⟩ (g_allWhite l dC dI cy vw vwc vwl vws vwc1 vwc2 vwc3 vwc4 vwc5 vwcm vwcd vwcr vwcw vwcf3 vwcf4 vwl1 vwl2 vwl3 vwl4 vwl5 vwl6 vwl7 vwl8 vwl9 vwl10 vwly vwlf2 vwlf3 vwlf4 vwlf5 r_vwcm r_vwcd p_vwcf3 p_vwlf2 p_vwlf5) (cw_X10_210 hts rfl rfl ⟨Nat.le_of_ble_eq_true rfl, Nat.le_of_ble_eq_true rfl⟩) hP hK [1, 2, 3, 4, 5, 6, 7, 8, 9] rfl rfl rfl rfl hl.1 rfl (Nat.le_of_ble_eq_true rfl) dX10_now_98 ⟨Nat.le_of_ble_eq_true rfl, Nat.le_of_ble_eq_true rfl⟩) hP hS (fun r_10 H locs hp_11 hP hS => ?_)
    rw [hQ9]
    exact rr_i hx hb hr hlocks trivial hS dX10_now_101
  by_cases sw_1_6 : vk.toInt = 6
  · refine as_i 6 (i_eq.mpr (sw_1_6.trans k_6.symm)) ?_
    refine lv_tableIn (off := 101) (tgt := 102) hx hb dX10_now_1 (by decide) (by decide) (by decide) (by decide) ?_
    refine lv_aload_n hx hb dX10_now_102 rfl (lv_at hl 0 rfl) ?_
    refine gf_X10_76 hx hb hts hown hK hP 0 rfl rfl dX10_now_103 ?_
    refine jr_i (rVr (As := []) (rest := []) (ci := 10) ⟨hx, hb, hml, hown, hts⟩ (g_allDark l dC dI cy vw vwc vwl vws vwc1 vwc2 vwc3 vwc4 vwc5 vwcm vwcd vwcr vwcw vwcf3 vwcf4 vwl1 vwl2 vwl3 vwl4 vwl5 vwl6 vwl7 vwl8 vwl9 vwl10 vwly vwlf2 vwlf3 vwlf4 vwlf5 r_vwcm r_vwcd p_vwcf3 p_vwlf2 p_vwlf5) (cw_X10_213 hts rfl rfl ⟨Nat.le_of_ble_eq_true rfl, Nat.le_of_ble_eq_true rfl⟩) hP hK [1, 2, 3, 4, 5, 6, 7, 8, 9] rfl rfl rfl rfl hl.1 rfl (Nat.le_of_ble_eq_true rfl) dX10_now_106 ⟨Nat.le_of_ble_eq_true rfl, Nat.le_of_ble_eq_true rfl⟩) hP hS (fun r_12 H locs hp_13 hP hS => ?_)
    rw [hQ9]
    exact rr_i hx hb hr hlocks trivial hS dX10_now_109
  by_cases sw_1_7 : vk.toInt = 7
  · refine as_i 7 (i_eq.mpr (sw_1_7.trans k_7.symm)) ?_
    refine lv_tableIn (off := 109) (tgt := 110) hx hb dX10_now_1 (by decide) (by decide) (by decide) (by decide) ?_
    refine lv_aload_n hx hb dX10_now_110 rfl (lv_at hl 0 rfl) ?_
    refine gf_X10_76 hx hb hts hown hK hP 0 rfl rfl dX10_now_111 ?_
    refine gf_X10_98 hx hb hts hown hK hP 1 rfl rfl dX10_now_114 ?_
    refine jr_i (rVr (As := []) (rest := []) (ci := 5) ⟨hx, hb, hml, hown, hts⟩ (g_sittings l dC dI cy vwl vwl1 vwl2 vwl3 vwl4 vwl5 vwl6 vwl7 vwl8 vwl9 vwl10 vwly vwlf6 ) (cw_X10_216 hts rfl rfl ⟨Nat.le_of_ble_eq_true rfl, Nat.le_of_ble_eq_true rfl⟩) hP hK [5, 10] rfl rfl rfl rfl hl.1 rfl (Nat.le_of_ble_eq_true rfl) dX10_now_117 ⟨Nat.le_of_ble_eq_true rfl, Nat.le_of_ble_eq_true rfl⟩) hP hS (fun r_14 H locs hp_15 hP hS => ?_)
    rw [hQ9]
    exact rr_i hx hb hr hlocks trivial hS dX10_now_120
  refine lv_tableOut (tgt := 121) hx hb dX10_now_1 (by omega) (by decide) ?_
  refine lv_iconst (v := (-1)) hx hb dX10_now_121 (by decide) ?_
  have k_m1 : ((-1) : Int32).toInt = (-1) := by decide
  rw [hQ9]
  exact rr_i hx hb hr hlocks trivial hS dX10_now_122
abbrev cX10_family : ByteArray := prog_1_method_22_code
def yX10_family : MethodName := ⟨RX10, "family", "(I)I"⟩
theorem t853 : Cond.code yX10_family cX10_family 2 (some .int) ∈ GW := gw_mem 967 (by decide +kernel) (by decide +kernel)
theorem dX10_family_0 : decode cX10_family 0 = .ok (.aload_n 0, 1) := by decide +kernel
theorem dX10_family_1 : decode cX10_family 1 = .ok (.iload_n 1, 1) := by decide +kernel
theorem dX10_family_2 : decode cX10_family 2 = .ok (.invokevirtual 128, 3) := by decide +kernel
theorem dX10_family_5 : decode cX10_family 5 = .ok (.ifCond .eq 17, 3) := by decide +kernel
theorem dX10_family_22 : decode cX10_family 22 = .ok (.iconst (-1), 1) := by decide +kernel
theorem dX10_family_23 : decode cX10_family 23 = .ok (.ireturn, 1) := by decide +kernel
theorem dX10_family_8 : decode cX10_family 8 = .ok (.aload_n 0, 1) := by decide +kernel
theorem dX10_family_9 : decode cX10_family 9 = .ok (.getfield 76, 3) := by decide +kernel
theorem dX10_family_12 : decode cX10_family 12 = .ok (.getfield 94, 3) := by decide +kernel
theorem dX10_family_15 : decode cX10_family 15 = .ok (.iload_n 1, 1) := by decide +kernel
theorem dX10_family_16 : decode cX10_family 16 = .ok (.invokevirtual 260, 3) := by decide +kernel
theorem t854 : Cond.methodLink RX10 260 yX1_familyOf ∈ GW := gw_mem 968 (by decide +kernel) (by decide +kernel)
theorem cw_X10_260 {R : Room} {s : State} {args : Array Value} {rm : Room} {mc ms : Nat} (hts : ∀ w ∈ GW, w.before args s = true) (hrc : rm.cells = mc) (hrs : rm.slots = ms) (hR : rm.frames + 1 ≤ R.frames ∧ 8 + (5 + 11) + rm.locals ≤ R.locals) : CallW R s args RX10 RX1 260 yX1_familyOf cX1_familyOf 5 (some .int) (wl yX1_familyOf cX1_familyOf 5 (some .int)) rm mc ms 1 := cwV 1 hts (gi_V t854 t855 t856 t16 t857) rfl hrc hrs (by decide +kernel) hR
theorem dX10_family_19 : decode cX10_family 19 = .ok (.goto 4, 3) := by decide +kernel
set_option maxHeartbeats 4000000 in
set_option maxRecDepth 100000 in
theorem g_family (l : Launch) (dC : Nat → ClassId) (dI : Nat → Nat → Nat) (cy : Nat → ClassId) (vo : Nat) (vt : Nat) (vx : Nat) (vb : Nat) (va : Nat) (ve : Nat) (vs : Nat) (vg : Nat) (vmr : Nat) (vkr : Nat) (vim : Nat) (vik : Nat) (vw : Nat) (vdw : Nat) (volf : Int32) (volh : Int32) (vomd : Int32) (vocd : Int32) (vwc : Nat) (vwl : Nat) (vws : Nat) (vwc1 : Nat) (vwc2 : Nat) (vwc3 : Nat) (vwc4 : Nat) (vwc5 : Nat) (vwcm : Int32) (vwcd : Int32) (vwcr : Int32) (vwcw : Int32) (vwcf5 : Nat → Int32) (vm : Int32) (r_vwcm : 0 ≤ (vwcm : Int32).toInt ∧ (vwcm : Int32).toInt ≤ 7) (r_vwcd : 0 ≤ (vwcd : Int32).toInt ∧ (vwcd : Int32).toInt ≤ 10) : Met l yX10_family (wl yX10_family cX10_family 2 (some .int)) ({ frames := 1, cells := 0, slots := 0, locals := 64 }) (Pr (dC, dI) vwCl cy [(vo, .inr (11, [.ref vt, .ref vx, .ref vb, .ref va, .ref ve, .ref vs, .ref vg, .ref vmr, .ref vkr, .ref vim, .ref vik, .ref vw, .ref vdw, .int volf, .int volh, .int vomd, .int vocd])), (vw, .inr (10, [.ref vwc, .ref vwl, .ref vws])), (vwc, .inr (2, [.ref vwc1, .ref vwc2, .ref vwc3, .ref vwc4, .ref vwc5, .int vwcm, .int vwcd, .int vwcr, .int vwcw])), (vwc5, .inl (cy 0, 7, .inl vwcf5))] [.ref vo, .int vm]) (Ri (fun r => True)) 0 0 (fun _ => False) := by
  refine mr RX10 rfl (by decide +kernel) (Nat.le_of_ble_eq_true rfl) ?_
  intro p e s m below meth c hx hb hr hlocks av9 hav hts hown hml hK hP hS Q9 hQ9 ls hl
  have hl : lv_has ls 2 [(0, .ref vo), (1, .int vm)] := hl
  refine lv_aload_n hx hb dX10_family_0 rfl (lv_at hl 0 rfl) ?_
  refine lv_iload_n hx hb dX10_family_1 rfl (lv_at hl 1 rfl) ?_
  refine jr_i (rVr (As := [.int vm]) (rest := []) (ci := 11) ⟨hx, hb, hml, hown, hts⟩ (g_isMan l dC dI cy vo vt vx vb va ve vs vg vmr vkr vim vik vw vdw volf volh vomd vocd vwc vwl vws vwc1 vwc2 vwc3 vwc4 vwc5 vwcm vwcd vwcr vwcw vm r_vwcm r_vwcd) (cw_X10_128 hts rfl rfl ⟨Nat.le_of_ble_eq_true rfl, Nat.le_of_ble_eq_true rfl⟩) hP hK [0, 1, 2] rfl rfl rfl rfl hl.1 rfl (Nat.le_of_ble_eq_true rfl) dX10_family_2 ⟨Nat.le_of_ble_eq_true rfl, Nat.le_of_ble_eq_true rfl⟩) hP hS (fun r_1 H locs hp_2 hP hS => ?_)
  have hp_2 : ((r_1 = 0 ∧ ((vm : Int32).toInt < 0 ∨ (vwcm : Int32).toInt ≤ (vm : Int32).toInt)) ∨ (r_1 = 1 ∧ 0 ≤ (vm : Int32).toInt ∧ (vm : Int32).toInt < (vwcm : Int32).toInt)) := hp_2
  have q_3 := hp_2
  rcases q_3 with ⟨aq_3, f0q_3⟩ | ⟨aq_3, f0q_3⟩
  · skip
    refine as_i 0 aq_3 ?_
    refine lv_if_eq (tgt := 22) hx hb dX10_family_5 (by decide) (fun _ => ?_) (fun c9 => absurd (by decide) c9)
    refine lv_iconst (v := (-1)) hx hb dX10_family_22 (by decide) ?_
    have k_m1 : ((-1) : Int32).toInt = (-1) := by decide
    rw [hQ9]
    exact rr_i hx hb hr hlocks trivial hS dX10_family_23
  · skip
    refine as_i 1 aq_3 ?_
    refine lv_if_eq (tgt := 22) hx hb dX10_family_5 (by decide) (fun c9 => absurd c9 (by decide)) (fun _ => ?_)
    refine lv_aload_n hx hb dX10_family_8 rfl (lv_at hl 0 rfl) ?_
    refine gf_X10_76 hx hb hts hown hK hP 0 rfl rfl dX10_family_9 ?_
    refine gf_X10_94 hx hb hts hown hK hP 1 rfl rfl dX10_family_12 ?_
    refine lv_iload_n hx hb dX10_family_15 rfl (lv_at hl 1 rfl) ?_
    refine jr_i (rVr (As := [.int vm]) (rest := []) (ci := 2) ⟨hx, hb, hml, hown, hts⟩ (g_familyOf l dC dI cy vwc vwc1 vwc2 vwc3 vwc4 vwc5 vwcm vwcd vwcr vwcw vwcf5 vm r_vwcm r_vwcd) (cw_X10_260 hts rfl rfl ⟨Nat.le_of_ble_eq_true rfl, Nat.le_of_ble_eq_true rfl⟩) hP hK [2, 3] rfl rfl rfl rfl hl.1 rfl (Nat.le_of_ble_eq_true rfl) dX10_family_16 ⟨Nat.le_of_ble_eq_true rfl, Nat.le_of_ble_eq_true rfl⟩) hP hS (fun r_4 H locs hp_5 hP hS => ?_)
    refine lv_goto (tgt := 23) hx hb dX10_family_19 (by decide) ?_
    rw [hQ9]
    exact rr_i hx hb hr hlocks trivial hS dX10_family_23
abbrev cX10_balance : ByteArray := prog_1_method_23_code
def yX10_balance : MethodName := ⟨RX10, "balance", "(II)I"⟩
theorem t861 : Cond.code yX10_balance cX10_balance 5 (some .int) ∈ GW := gw_mem 975 (by decide +kernel) (by decide +kernel)
theorem dX10_balance_0 : decode cX10_balance 0 = .ok (.aload_n 0, 1) := by decide +kernel
theorem dX10_balance_1 : decode cX10_balance 1 = .ok (.getfield 76, 3) := by decide +kernel
theorem dX10_balance_4 : decode cX10_balance 4 = .ok (.getfield 94, 3) := by decide +kernel
theorem dX10_balance_7 : decode cX10_balance 7 = .ok (.invokevirtual 263, 3) := by decide +kernel
theorem t862 : Cond.methodLink RX10 263 yX1_allMen ∈ GW := gw_mem 976 (by decide +kernel) (by decide +kernel)
theorem cw_X10_263 {R : Room} {s : State} {args : Array Value} {rm : Room} {mc ms : Nat} (hts : ∀ w ∈ GW, w.before args s = true) (hrc : rm.cells = mc) (hrs : rm.slots = ms) (hR : rm.frames + 1 ≤ R.frames ∧ 8 + (1 + 11) + rm.locals ≤ R.locals) : CallW R s args RX10 RX1 263 yX1_allMen cX1_allMen 1 (some .int) (wl yX1_allMen cX1_allMen 1 (some .int)) rm mc ms 0 := cwV 0 hts (gi_V t862 t863 t864 t16 t865) rfl hrc hrs (by decide +kernel) hR
theorem dX10_balance_10 : decode cX10_balance 10 = .ok (.istore_n 3, 1) := by decide +kernel
theorem dX10_balance_11 : decode cX10_balance 11 = .ok (.iload_n 1, 1) := by decide +kernel
theorem dX10_balance_12 : decode cX10_balance 12 = .ok (.iload_n 2, 1) := by decide +kernel
theorem dX10_balance_13 : decode cX10_balance 13 = .ok (.iand, 1) := by decide +kernel
theorem dX10_balance_14 : decode cX10_balance 14 = .ok (.ifCond .ne 13, 3) := by decide +kernel
theorem dX10_balance_27 : decode cX10_balance 27 = .ok (.iconst (-1), 1) := by decide +kernel
theorem dX10_balance_28 : decode cX10_balance 28 = .ok (.ireturn, 1) := by decide +kernel
theorem dX10_balance_17 : decode cX10_balance 17 = .ok (.iload_n 1, 1) := by decide +kernel
theorem dX10_balance_18 : decode cX10_balance 18 = .ok (.iload_n 2, 1) := by decide +kernel
theorem dX10_balance_19 : decode cX10_balance 19 = .ok (.ior, 1) := by decide +kernel
theorem dX10_balance_20 : decode cX10_balance 20 = .ok (.iload_n 3, 1) := by decide +kernel
theorem dX10_balance_21 : decode cX10_balance 21 = .ok (.iconst (-1), 1) := by decide +kernel
theorem dX10_balance_22 : decode cX10_balance 22 = .ok (.ixor, 1) := by decide +kernel
theorem dX10_balance_23 : decode cX10_balance 23 = .ok (.iand, 1) := by decide +kernel
theorem dX10_balance_24 : decode cX10_balance 24 = .ok (.ifCond .eq 5, 3) := by decide +kernel
theorem dX10_balance_29 : decode cX10_balance 29 = .ok (.aload_n 0, 1) := by decide +kernel
theorem dX10_balance_30 : decode cX10_balance 30 = .ok (.getfield 76, 3) := by decide +kernel
theorem dX10_balance_33 : decode cX10_balance 33 = .ok (.iload_n 1, 1) := by decide +kernel
theorem dX10_balance_34 : decode cX10_balance 34 = .ok (.invokevirtual 266, 3) := by decide +kernel
theorem t866 : Cond.methodLink RX10 266 yX9_weightOfAll ∈ GW := gw_mem 980 (by decide +kernel) (by decide +kernel)
theorem t867 : Cond.instanceMethod yX9_weightOfAll ∈ GW := gw_mem 981 (by decide +kernel) (by decide +kernel)
theorem t868 : Cond.selects RX9 yX9_weightOfAll yX9_weightOfAll ∈ GW := gw_mem 982 (by decide +kernel) (by decide +kernel)
theorem cw_X10_266 {R : Room} {s : State} {args : Array Value} {rm : Room} {mc ms : Nat} (hts : ∀ w ∈ GW, w.before args s = true) (hrc : rm.cells = mc) (hrs : rm.slots = ms) (hR : rm.frames + 1 ≤ R.frames ∧ 8 + (4 + 11) + rm.locals ≤ R.locals) : CallW R s args RX10 RX9 266 yX9_weightOfAll cX9_weightOfAll 4 (some .int) (wl yX9_weightOfAll cX9_weightOfAll 4 (some .int)) rm mc ms 1 := cwV 1 hts (gi_V t866 t867 t868 t15 t869) rfl hrc hrs (by decide +kernel) hR
theorem dX10_balance_37 : decode cX10_balance 37 = .ok (.aload_n 0, 1) := by decide +kernel
theorem dX10_balance_38 : decode cX10_balance 38 = .ok (.getfield 76, 3) := by decide +kernel
theorem dX10_balance_41 : decode cX10_balance 41 = .ok (.iload_n 2, 1) := by decide +kernel
theorem dX10_balance_42 : decode cX10_balance 42 = .ok (.invokevirtual 266, 3) := by decide +kernel
theorem dX10_balance_45 : decode cX10_balance 45 = .ok (.isub, 1) := by decide +kernel
theorem dX10_balance_46 : decode cX10_balance 46 = .ok (.istore 4, 2) := by decide +kernel
theorem dX10_balance_48 : decode cX10_balance 48 = .ok (.iload 4, 2) := by decide +kernel
theorem dX10_balance_50 : decode cX10_balance 50 = .ok (.ifCond .ne 5, 3) := by decide +kernel
theorem dX10_balance_55 : decode cX10_balance 55 = .ok (.iload 4, 2) := by decide +kernel
theorem dX10_balance_57 : decode cX10_balance 57 = .ok (.ifCond .le 7, 3) := by decide +kernel
theorem dX10_balance_64 : decode cX10_balance 64 = .ok (.iconst 2, 1) := by decide +kernel
theorem dX10_balance_65 : decode cX10_balance 65 = .ok (.ireturn, 1) := by decide +kernel
theorem dX10_balance_60 : decode cX10_balance 60 = .ok (.iconst 1, 1) := by decide +kernel
theorem dX10_balance_61 : decode cX10_balance 61 = .ok (.goto 4, 3) := by decide +kernel
theorem dX10_balance_53 : decode cX10_balance 53 = .ok (.iconst 0, 1) := by decide +kernel
theorem dX10_balance_54 : decode cX10_balance 54 = .ok (.ireturn, 1) := by decide +kernel
set_option maxHeartbeats 4000000 in
set_option maxRecDepth 100000 in
theorem g_balance (l : Launch) (dC : Nat → ClassId) (dI : Nat → Nat → Nat) (cy : Nat → ClassId) (vo : Nat) (vt : Nat) (vx : Nat) (vb : Nat) (va : Nat) (ve : Nat) (vs : Nat) (vg : Nat) (vmr : Nat) (vkr : Nat) (vim : Nat) (vik : Nat) (vw : Nat) (vdw : Nat) (volf : Int32) (volh : Int32) (vomd : Int32) (vocd : Int32) (vwc : Nat) (vwl : Nat) (vws : Nat) (vwc1 : Nat) (vwc2 : Nat) (vwc3 : Nat) (vwc4 : Nat) (vwc5 : Nat) (vwcm : Int32) (vwcd : Int32) (vwcr : Int32) (vwcw : Int32) (vwcf3 : Nat → Int32) (vwcf4 : Nat → Int32) (vwl1 : Nat) (vwl2 : Nat) (vwl3 : Nat) (vwl4 : Nat) (vwl5 : Nat) (vwl6 : Nat) (vwl7 : Nat) (vwl8 : Nat) (vwl9 : Nat) (vwl10 : Nat) (vwly : Int32) (vwlf2 : Nat → Int32) (vwlf3 : Nat → Int32) (vwlf4 : Nat → Int32) (vwlf5 : Nat → Int32) (vm : Int32) (vk : Int32) (r_vwcm : 0 ≤ (vwcm : Int32).toInt ∧ (vwcm : Int32).toInt ≤ 7) (r_vwcd : 0 ≤ (vwcd : Int32).toInt ∧ (vwcd : Int32).toInt ≤ 10) (p_vwcf3 : Rg vwcf3 10 0 40) (p_vwlf2 : Rg vwlf2 70 0 9) (p_vwlf5 : Rg vwlf5 7 (-1) 9) : Met l yX10_balance (wl yX10_balance cX10_balance 5 (some .int)) ({ frames := 5, cells := 0, slots := 0, locals := 320 }) (Pr (dC, dI) vwCl cy [(vo, .inr (11, [.ref vt, .ref vx, .ref vb, .ref va, .ref ve, .ref vs, .ref vg, .ref vmr, .ref vkr, .ref vim, .ref vik, .ref vw, .ref vdw, .int volf, .int volh, .int vomd, .int vocd])), (vw, .inr (10, [.ref vwc, .ref vwl, .ref vws])), (vwc, .inr (2, [.ref vwc1, .ref vwc2, .ref vwc3, .ref vwc4, .ref vwc5, .int vwcm, .int vwcd, .int vwcr, .int vwcw])), (vwc3, .inl (cy 0, 10, .inl vwcf3)), (vwc4, .inl (cy 2, 10, .inl vwcf4)), (vwl, .inr (5, [.ref vwl1, .ref vwl2, .ref vwl3, .ref vwl4, .ref vwl5, .ref vwl6, .ref vwl7, .ref vwl8, .ref vwl9, .ref vwl10, .int vwly])), (vwl2, .inl (cy 0, 70, .inl vwlf2)), (vwl3, .inl (cy 0, 49, .inl vwlf3)), (vwl4, .inl (cy 0, 7, .inl vwlf4)), (vwl5, .inl (cy 0, 7, .inl vwlf5))] [.ref vo, .int vm, .int vk]) (Ri (fun r => True)) 0 0 (fun _ => False) := by
  refine mr RX10 rfl (by decide +kernel) (Nat.le_of_ble_eq_true rfl) ?_
  intro p e s m below meth c hx hb hr hlocks av9 hav hts hown hml hK hP hS Q9 hQ9 ls hl
  have hl : lv_has ls 5 [(0, .ref vo), (1, .int vm), (2, .int vk)] := hl
  refine lv_aload_n hx hb dX10_balance_0 rfl (lv_at hl 0 rfl) ?_
  refine gf_X10_76 hx hb hts hown hK hP 0 rfl rfl dX10_balance_1 ?_
  refine gf_X10_94 hx hb hts hown hK hP 1 rfl rfl dX10_balance_4 ?_
  refine jr_i (rVr (As := []) (rest := []) (ci := 2) ⟨hx, hb, hml, hown, hts⟩ (g_allMen l dC dI cy vwc vwc1 vwc2 vwc3 vwc4 vwc5 vwcm vwcd vwcr vwcw r_vwcm r_vwcd) (cw_X10_263 hts rfl rfl ⟨Nat.le_of_ble_eq_true rfl, Nat.le_of_ble_eq_true rfl⟩) hP hK [2] rfl rfl rfl rfl hl.1 rfl (Nat.le_of_ble_eq_true rfl) dX10_balance_7 ⟨Nat.le_of_ble_eq_true rfl, Nat.le_of_ble_eq_true rfl⟩) hP hS (fun r_1 H locs hp_2 hP hS => ?_)
  have hp_2 : (0 ≤ (r_1 : Int32).toInt ∧ (r_1 : Int32).toInt ≤ 127) := hp_2
  have q_3 := hp_2
  refine lv_istore_n (lv' := [(3, .int r_1), (0, .ref vo), (1, .int vm), (2, .int vk)]) hx hb dX10_balance_10 rfl hl (by decide) rfl (fun ls hl => ?_)
  refine lv_iload_n hx hb dX10_balance_11 rfl (lv_at hl 2 rfl) ?_
  refine lv_iload_n hx hb dX10_balance_12 rfl (lv_at hl 3 rfl) ?_
  refine lv_iand hx hb dX10_balance_13 ?_
  refine lv_topi (fun z_4 ez_4 => ?_)
  have k_0 : (0 : Int32).toInt = 0 := by decide
  refine lv_if_ne (tgt := 27) hx hb dX10_balance_14 (by decide) (fun c_5 => ?_) (fun c_5 => ?_)
  · skip
    have c_5 : ¬ (z_4.toInt = (0 : Int32).toInt) := fun h9 => c_5 (i_eq.mpr h9)
    refine lv_iconst (v := (-1)) hx hb dX10_balance_27 (by decide) ?_
    have k_m1 : ((-1) : Int32).toInt = (-1) := by decide
    rw [hQ9]
    exact rr_i hx hb hr hlocks trivial hS dX10_balance_28
  · skip
    have c_5 : z_4.toInt = (0 : Int32).toInt := i_eq.mp c_5
    refine lv_iload_n hx hb dX10_balance_17 rfl (lv_at hl 2 rfl) ?_
    refine lv_iload_n hx hb dX10_balance_18 rfl (lv_at hl 3 rfl) ?_
    refine lv_ior hx hb dX10_balance_19 ?_
    refine lv_topi (fun z_6 ez_6 => ?_)
    refine lv_iload_n hx hb dX10_balance_20 rfl (lv_at hl 0 rfl) ?_
    refine lv_iconst (v := (-1)) hx hb dX10_balance_21 (by decide) ?_
    refine lv_ixor hx hb dX10_balance_22 ?_
    refine lv_topi (fun z_7 ez_7 => ?_)
    refine lv_iand hx hb dX10_balance_23 ?_
    refine lv_topi (fun z_8 ez_8 => ?_)
    refine lv_if_eq (tgt := 29) hx hb dX10_balance_24 (by decide) (fun c_9 => ?_) (fun c_9 => ?_)
    · skip
      have c_9 : z_8.toInt = (0 : Int32).toInt := i_eq.mp c_9
      refine lv_aload_n hx hb dX10_balance_29 rfl (lv_at hl 1 rfl) ?_
      refine gf_X10_76 hx hb hts hown hK hP 0 rfl rfl dX10_balance_30 ?_
      refine lv_iload_n hx hb dX10_balance_33 rfl (lv_at hl 2 rfl) ?_
      refine jr_i (rVr (As := [.int vm]) (rest := []) (ci := 10) ⟨hx, hb, hml, hown, hts⟩ (g_weightOfAll l dC dI cy vw vwc vwl vws vwc1 vwc2 vwc3 vwc4 vwc5 vwcm vwcd vwcr vwcw vwcf3 vwcf4 vwl1 vwl2 vwl3 vwl4 vwl5 vwl6 vwl7 vwl8 vwl9 vwl10 vwly vwlf2 vwlf3 vwlf4 vwlf5 vm r_vwcm r_vwcd p_vwcf3 p_vwlf2 p_vwlf5) (cw_X10_266 hts rfl rfl ⟨Nat.le_of_ble_eq_true rfl, Nat.le_of_ble_eq_true rfl⟩) hP hK [1, 2, 3, 4, 5, 6, 7, 8, 9] rfl rfl rfl rfl hl.1 rfl (Nat.le_of_ble_eq_true rfl) dX10_balance_34 ⟨Nat.le_of_ble_eq_true rfl, Nat.le_of_ble_eq_true rfl⟩) hP hS (fun r_10 H locs hp_11 hP hS => ?_)
      refine lv_aload_n hx hb dX10_balance_37 rfl (lv_at hl 1 rfl) ?_
      refine gf_X10_76 hx hb hts hown hK hP 0 rfl rfl dX10_balance_38 ?_
      refine lv_iload_n hx hb dX10_balance_41 rfl (lv_at hl 3 rfl) ?_
      refine jr_i (rVr (As := [.int vk]) (rest := [.int r_10]) (ci := 10) ⟨hx, hb, hml, hown, hts⟩ (g_weightOfAll l dC dI cy vw vwc vwl vws vwc1 vwc2 vwc3 vwc4 vwc5 vwcm vwcd vwcr vwcw vwcf3 vwcf4 vwl1 vwl2 vwl3 vwl4 vwl5 vwl6 vwl7 vwl8 vwl9 vwl10 vwly vwlf2 vwlf3 vwlf4 vwlf5 vk r_vwcm r_vwcd p_vwcf3 p_vwlf2 p_vwlf5) (cw_X10_266 hts rfl rfl ⟨Nat.le_of_ble_eq_true rfl, Nat.le_of_ble_eq_true rfl⟩) hP hK [1, 2, 3, 4, 5, 6, 7, 8, 9] rfl rfl rfl rfl hl.1 rfl (Nat.le_of_ble_eq_true rfl) dX10_balance_42 ⟨Nat.le_of_ble_eq_true rfl, Nat.le_of_ble_eq_true rfl⟩) hP hS (fun r_12 H locs hp_13 hP hS => ?_)
      refine lv_isub hx hb dX10_balance_45 ?_
      refine lv_topi (fun z_14 ez_14 => ?_)
      refine lv_istore (lv' := [(4, .int z_14), (3, .int r_1), (0, .ref vo), (1, .int vm), (2, .int vk)]) hx hb dX10_balance_46 hl (by decide) rfl (fun ls hl => ?_)
      refine lv_iload hx hb dX10_balance_48 (lv_at hl 0 rfl) ?_
      refine lv_if_ne (tgt := 55) hx hb dX10_balance_50 (by decide) (fun c_15 => ?_) (fun c_15 => ?_)
      · skip
        have c_15 : ¬ (z_14.toInt = (0 : Int32).toInt) := fun h9 => c_15 (i_eq.mpr h9)
        refine lv_iload hx hb dX10_balance_55 (lv_at hl 0 rfl) ?_
        refine lv_if_le (tgt := 64) hx hb dX10_balance_57 (by decide) (fun c_16 => ?_) (fun c_16 => ?_)
        · skip
          have c_16 : z_14.toInt ≤ (0 : Int32).toInt := i_le.mp c_16
          refine lv_iconst (v := 2) hx hb dX10_balance_64 (by decide) ?_
          have k_2 : (2 : Int32).toInt = 2 := by decide
          rw [hQ9]
          exact rr_i hx hb hr hlocks trivial hS dX10_balance_65
        · skip
          have c_16 : ¬ (z_14.toInt ≤ (0 : Int32).toInt) := fun h9 => c_16 (i_le.mpr h9)
          refine lv_iconst (v := 1) hx hb dX10_balance_60 (by decide) ?_
          refine lv_goto (tgt := 65) hx hb dX10_balance_61 (by decide) ?_
          have k_1 : (1 : Int32).toInt = 1 := by decide
          rw [hQ9]
          exact rr_i hx hb hr hlocks trivial hS dX10_balance_65
      · skip
        have c_15 : z_14.toInt = (0 : Int32).toInt := i_eq.mp c_15
        refine lv_iconst (v := 0) hx hb dX10_balance_53 (by decide) ?_
        rw [hQ9]
        exact rr_i hx hb hr hlocks trivial hS dX10_balance_54
    · skip
      have c_9 : ¬ (z_8.toInt = (0 : Int32).toInt) := fun h9 => c_9 (i_eq.mpr h9)
      refine lv_iconst (v := (-1)) hx hb dX10_balance_27 (by decide) ?_
      have k_m1 : ((-1) : Int32).toInt = (-1) := by decide
      rw [hQ9]
      exact rr_i hx hb hr hlocks trivial hS dX10_balance_28
abbrev cX10_heaviest : ByteArray := prog_1_method_31_code
def yX10_heaviest : MethodName := ⟨RX10, "heaviest", "()I"⟩
theorem t972 : Cond.code yX10_heaviest cX10_heaviest 5 (some .int) ∈ GW := gw_mem 1086 (by decide +kernel) (by decide +kernel)
theorem dX10_heaviest_0 : decode cX10_heaviest 0 = .ok (.iconst (-1), 1) := by decide +kernel
theorem dX10_heaviest_1 : decode cX10_heaviest 1 = .ok (.istore_n 1, 1) := by decide +kernel
theorem dX10_heaviest_2 : decode cX10_heaviest 2 = .ok (.iconst (-1), 1) := by decide +kernel
theorem dX10_heaviest_3 : decode cX10_heaviest 3 = .ok (.istore_n 2, 1) := by decide +kernel
theorem dX10_heaviest_4 : decode cX10_heaviest 4 = .ok (.iconst 0, 1) := by decide +kernel
theorem dX10_heaviest_5 : decode cX10_heaviest 5 = .ok (.istore_n 3, 1) := by decide +kernel
theorem dX10_heaviest_6 : decode cX10_heaviest 6 = .ok (.iload_n 3, 1) := by decide +kernel
theorem dX10_heaviest_7 : decode cX10_heaviest 7 = .ok (.aload_n 0, 1) := by decide +kernel
theorem dX10_heaviest_8 : decode cX10_heaviest 8 = .ok (.getfield 76, 3) := by decide +kernel
theorem dX10_heaviest_11 : decode cX10_heaviest 11 = .ok (.getfield 94, 3) := by decide +kernel
theorem dX10_heaviest_14 : decode cX10_heaviest 14 = .ok (.getfield 324, 3) := by decide +kernel
theorem dX10_heaviest_17 : decode cX10_heaviest 17 = .ok (.if_icmp .ge 30, 3) := by decide +kernel
theorem dX10_heaviest_47 : decode cX10_heaviest 47 = .ok (.iload_n 1, 1) := by decide +kernel
theorem dX10_heaviest_48 : decode cX10_heaviest 48 = .ok (.ireturn, 1) := by decide +kernel
theorem dX10_heaviest_20 : decode cX10_heaviest 20 = .ok (.aload_n 0, 1) := by decide +kernel
theorem dX10_heaviest_21 : decode cX10_heaviest 21 = .ok (.getfield 76, 3) := by decide +kernel
theorem dX10_heaviest_24 : decode cX10_heaviest 24 = .ok (.iload_n 3, 1) := by decide +kernel
theorem dX10_heaviest_25 : decode cX10_heaviest 25 = .ok (.invokevirtual 301, 3) := by decide +kernel
theorem t952 : Cond.methodLink RX10 301 yX9_weightOf ∈ GW := gw_mem 1066 (by decide +kernel) (by decide +kernel)
theorem cw_X10_301 {R : Room} {s : State} {args : Array Value} {rm : Room} {mc ms : Nat} (hts : ∀ w ∈ GW, w.before args s = true) (hrc : rm.cells = mc) (hrs : rm.slots = ms) (hR : rm.frames + 1 ≤ R.frames ∧ 8 + (2 + 11) + rm.locals ≤ R.locals) : CallW R s args RX10 RX9 301 yX9_weightOf cX9_weightOf 2 (some .int) (wl yX9_weightOf cX9_weightOf 2 (some .int)) rm mc ms 1 := cwV 1 hts (gi_V t952 t734 t735 t15 t736) rfl hrc hrs (by decide +kernel) hR
theorem dX10_heaviest_28 : decode cX10_heaviest 28 = .ok (.istore 4, 2) := by decide +kernel
theorem dX10_heaviest_30 : decode cX10_heaviest 30 = .ok (.iload 4, 2) := by decide +kernel
theorem dX10_heaviest_32 : decode cX10_heaviest 32 = .ok (.iload_n 2, 1) := by decide +kernel
theorem dX10_heaviest_33 : decode cX10_heaviest 33 = .ok (.if_icmp .le 8, 3) := by decide +kernel
theorem dX10_heaviest_41 : decode cX10_heaviest 41 = .ok (.iinc 3 1, 3) := by decide +kernel
theorem dX10_heaviest_44 : decode cX10_heaviest 44 = .ok (.goto (-38), 3) := by decide +kernel
theorem dX10_heaviest_36 : decode cX10_heaviest 36 = .ok (.iload 4, 2) := by decide +kernel
theorem dX10_heaviest_38 : decode cX10_heaviest 38 = .ok (.istore_n 2, 1) := by decide +kernel
theorem dX10_heaviest_39 : decode cX10_heaviest 39 = .ok (.iload_n 3, 1) := by decide +kernel
theorem dX10_heaviest_40 : decode cX10_heaviest 40 = .ok (.istore_n 1, 1) := by decide +kernel
set_option maxHeartbeats 4000000 in
set_option maxRecDepth 100000 in
theorem g_heaviest (l : Launch) (dC : Nat → ClassId) (dI : Nat → Nat → Nat) (cy : Nat → ClassId) (vo : Nat) (vt : Nat) (vx : Nat) (vb : Nat) (va : Nat) (ve : Nat) (vs : Nat) (vg : Nat) (vmr : Nat) (vkr : Nat) (vim : Nat) (vik : Nat) (vw : Nat) (vdw : Nat) (volf : Int32) (volh : Int32) (vomd : Int32) (vocd : Int32) (vwc : Nat) (vwl : Nat) (vws : Nat) (vwc1 : Nat) (vwc2 : Nat) (vwc3 : Nat) (vwc4 : Nat) (vwc5 : Nat) (vwcm : Int32) (vwcd : Int32) (vwcr : Int32) (vwcw : Int32) (vwcf3 : Nat → Int32) (vwcf4 : Nat → Int32) (vwl1 : Nat) (vwl2 : Nat) (vwl3 : Nat) (vwl4 : Nat) (vwl5 : Nat) (vwl6 : Nat) (vwl7 : Nat) (vwl8 : Nat) (vwl9 : Nat) (vwl10 : Nat) (vwly : Int32) (vwlf2 : Nat → Int32) (vwlf3 : Nat → Int32) (vwlf4 : Nat → Int32) (vwlf5 : Nat → Int32) (r_vwcm : 0 ≤ (vwcm : Int32).toInt ∧ (vwcm : Int32).toInt ≤ 7) (r_vwcd : 0 ≤ (vwcd : Int32).toInt ∧ (vwcd : Int32).toInt ≤ 10) (p_vwcf3 : Rg vwcf3 10 0 40) (p_vwlf2 : Rg vwlf2 70 0 9) (p_vwlf5 : Rg vwlf5 7 (-1) 9) : Met l yX10_heaviest (wl yX10_heaviest cX10_heaviest 5 (some .int)) ({ frames := 4, cells := 0, slots := 0, locals := 256 }) (Pr (dC, dI) vwCl cy [(vo, .inr (11, [.ref vt, .ref vx, .ref vb, .ref va, .ref ve, .ref vs, .ref vg, .ref vmr, .ref vkr, .ref vim, .ref vik, .ref vw, .ref vdw, .int volf, .int volh, .int vomd, .int vocd])), (vw, .inr (10, [.ref vwc, .ref vwl, .ref vws])), (vwc, .inr (2, [.ref vwc1, .ref vwc2, .ref vwc3, .ref vwc4, .ref vwc5, .int vwcm, .int vwcd, .int vwcr, .int vwcw])), (vwc3, .inl (cy 0, 10, .inl vwcf3)), (vwc4, .inl (cy 2, 10, .inl vwcf4)), (vwl, .inr (5, [.ref vwl1, .ref vwl2, .ref vwl3, .ref vwl4, .ref vwl5, .ref vwl6, .ref vwl7, .ref vwl8, .ref vwl9, .ref vwl10, .int vwly])), (vwl2, .inl (cy 0, 70, .inl vwlf2)), (vwl3, .inl (cy 0, 49, .inl vwlf3)), (vwl4, .inl (cy 0, 7, .inl vwlf4)), (vwl5, .inl (cy 0, 7, .inl vwlf5))] [.ref vo]) (Ri (fun r => True)) 0 0 (fun _ => False) := by
  refine mr RX10 rfl (by decide +kernel) (Nat.le_of_ble_eq_true rfl) ?_
  intro p e s m below meth c hx hb hr hlocks av9 hav hts hown hml hK hP hS Q9 hQ9 ls hl
  have hl : lv_has ls 5 [(0, .ref vo)] := hl
  refine lv_iconst (v := (-1)) hx hb dX10_heaviest_0 (by decide) ?_
  refine lv_istore_n (lv' := [(1, .int (-1)), (0, .ref vo)]) hx hb dX10_heaviest_1 rfl hl (by decide) rfl (fun ls hl => ?_)
  refine lv_iconst (v := (-1)) hx hb dX10_heaviest_2 (by decide) ?_
  refine lv_istore_n (lv' := [(2, .int (-1)), (1, .int (-1)), (0, .ref vo)]) hx hb dX10_heaviest_3 rfl hl (by decide) rfl (fun ls hl => ?_)
  refine lv_iconst (v := 0) hx hb dX10_heaviest_4 (by decide) ?_
  refine lv_istore_n (lv' := [(3, .int 0), (2, .int (-1)), (1, .int (-1)), (0, .ref vo)]) hx hb dX10_heaviest_5 rfl hl (by decide) rfl (fun ls hl => ?_)
  have loop1 : ∀ (n1 : Nat) (x_4 : Int32) (x_3 : Int32) (x_2 : Int32), (0 ≤ x_2.toInt ∧ x_2.toInt ≤ 7) → 7 - x_2.toInt < (n1 : Int) → ∀ (H : Heap) (locs : List Loc), va_P (dC, dI) vwCl [(vo, .inr (11, [.ref vt, .ref vx, .ref vb, .ref va, .ref ve, .ref vs, .ref vg, .ref vmr, .ref vkr, .ref vim, .ref vik, .ref vw, .ref vdw, .int volf, .int volh, .int vomd, .int vocd])), (vw, .inr (10, [.ref vwc, .ref vwl, .ref vws])), (vwc, .inr (2, [.ref vwc1, .ref vwc2, .ref vwc3, .ref vwc4, .ref vwc5, .int vwcm, .int vwcd, .int vwcr, .int vwcw])), (vwc3, .inl (cy 0, 10, .inl vwcf3)), (vwc4, .inl (cy 2, 10, .inl vwcf4)), (vwl, .inr (5, [.ref vwl1, .ref vwl2, .ref vwl3, .ref vwl4, .ref vwl5, .ref vwl6, .ref vwl7, .ref vwl8, .ref vwl9, .ref vwl10, .int vwly])), (vwl2, .inl (cy 0, 70, .inl vwlf2)), (vwl3, .inl (cy 0, 49, .inl vwlf3)), (vwl4, .inl (cy 0, 7, .inl vwlf4)), (vwl5, .inl (cy 0, 7, .inl vwlf5))] H → va_S (fun _ => False) s.heap H locs → ∀ ls : Array Slot, lv_has ls 5 [(3, .int x_2), (2, .int x_3), (1, .int x_4), (0, .ref vo)] → W p l e ({ frames := 4, cells := 0, slots := 0, locals := 256 }) s m av9 below meth c H locs 0 0 Q9 (F0 m 6 ls []) := by
    intro n1
    induction n1 with
    | zero =>
      intro x_4 x_3 x_2 bx_2 hn1 H locs hP hS ls hl
      exfalso; omega
    | succ n1 ih1 =>
      intro x_4 x_3 x_2 bx_2 hn1 H locs hP hS ls hl
      refine lv_iload_n hx hb dX10_heaviest_6 rfl (lv_at hl 0 rfl) ?_
      refine lv_aload_n hx hb dX10_heaviest_7 rfl (lv_at hl 3 rfl) ?_
      refine gf_X10_76 hx hb hts hown hK hP 0 rfl rfl dX10_heaviest_8 ?_
      refine gf_X10_94 hx hb hts hown hK hP 1 rfl rfl dX10_heaviest_11 ?_
      refine gf_X10_324 hx hb hts hown hK hP 2 rfl rfl dX10_heaviest_14 ?_
      refine lv_icmp_ge (tgt := 47) hx hb dX10_heaviest_17 (by decide) (fun c_5 => ?_) (fun c_5 => ?_)
      · skip
        have c_5 : vwcm.toInt ≤ x_2.toInt := i_le.mp c_5
        refine lv_iload_n hx hb dX10_heaviest_47 rfl (lv_at hl 2 rfl) ?_
        rw [hQ9]
        exact rr_i hx hb hr hlocks trivial hS dX10_heaviest_48
      · skip
        have c_5 : ¬ (vwcm.toInt ≤ x_2.toInt) := fun h9 => c_5 (i_le.mpr h9)
        refine lv_aload_n hx hb dX10_heaviest_20 rfl (lv_at hl 3 rfl) ?_
        refine gf_X10_76 hx hb hts hown hK hP 0 rfl rfl dX10_heaviest_21 ?_
        refine lv_iload_n hx hb dX10_heaviest_24 rfl (lv_at hl 0 rfl) ?_
        refine jr_i (rVr (As := [.int x_2]) (rest := []) (ci := 10) ⟨hx, hb, hml, hown, hts⟩ (g_weightOf l dC dI cy vw vwc vwl vws vwc1 vwc2 vwc3 vwc4 vwc5 vwcm vwcd vwcr vwcw vwcf3 vwcf4 vwl1 vwl2 vwl3 vwl4 vwl5 vwl6 vwl7 vwl8 vwl9 vwl10 vwly vwlf2 vwlf3 vwlf4 vwlf5 x_2 r_vwcm r_vwcd ⟨by omega, by omega⟩ p_vwcf3 p_vwlf2 p_vwlf5) (cw_X10_301 hts rfl rfl ⟨Nat.le_of_ble_eq_true rfl, Nat.le_of_ble_eq_true rfl⟩) hP hK [1, 2, 3, 4, 5, 6, 7, 8, 9] rfl rfl rfl rfl hl.1 rfl (Nat.le_of_ble_eq_true rfl) dX10_heaviest_25 ⟨Nat.le_of_ble_eq_true rfl, Nat.le_of_ble_eq_true rfl⟩) hP hS (fun r_6 H locs hp_7 hP hS => ?_)
        refine lv_istore (lv' := [(4, .int r_6), (3, .int x_2), (2, .int x_3), (1, .int x_4), (0, .ref vo)]) hx hb dX10_heaviest_28 hl (by decide) rfl (fun ls hl => ?_)
        refine lv_iload hx hb dX10_heaviest_30 (lv_at hl 0 rfl) ?_
        refine lv_iload_n hx hb dX10_heaviest_32 rfl (lv_at hl 2 rfl) ?_
        refine lv_icmp_le (tgt := 41) hx hb dX10_heaviest_33 (by decide) (fun c_8 => ?_) (fun c_8 => ?_)
        · skip
          have c_8 : r_6.toInt ≤ x_3.toInt := i_le.mp c_8
          obtain ⟨z_9, ez_9⟩ : ∃ z : Int32, z = x_2 + 1 := ⟨_, rfl⟩
          have k_1 : (1 : Int32).toInt = 1 := by decide
          have bz_9 : z_9.toInt = x_2.toInt + (1 : Int32).toInt := i_add ez_9 (by omega) (by omega)
          refine lv_iinc (v := z_9) (lv' := [(3, .int z_9), (4, .int r_6), (2, .int x_3), (1, .int x_4), (0, .ref vo)]) hx hb dX10_heaviest_41 hl (k := 1) rfl ez_9.symm (by decide) rfl (fun ls hl => ?_)
          refine lv_goto (tgt := 6) hx hb dX10_heaviest_44 (by decide) ?_
          exact ih1 x_4 x_3 z_9 ⟨by omega, by omega⟩ (by omega) _ _ (hP.sub [0, 1, 2, 3, 4, 5, 6, 7, 8, 9] rfl) hS ls (lv_sub hl [0, 2, 3, 4] rfl)
        · skip
          have c_8 : ¬ (r_6.toInt ≤ x_3.toInt) := fun h9 => c_8 (i_le.mpr h9)
          refine lv_iload hx hb dX10_heaviest_36 (lv_at hl 0 rfl) ?_
          refine lv_istore_n (lv' := [(2, .int r_6), (4, .int r_6), (3, .int x_2), (1, .int x_4), (0, .ref vo)]) hx hb dX10_heaviest_38 rfl hl (by decide) rfl (fun ls hl => ?_)
          refine lv_iload_n hx hb dX10_heaviest_39 rfl (lv_at hl 2 rfl) ?_
          refine lv_istore_n (lv' := [(1, .int x_2), (2, .int r_6), (4, .int r_6), (3, .int x_2), (0, .ref vo)]) hx hb dX10_heaviest_40 rfl hl (by decide) rfl (fun ls hl => ?_)
          obtain ⟨z_10, ez_10⟩ : ∃ z : Int32, z = x_2 + 1 := ⟨_, rfl⟩
          have k_1 : (1 : Int32).toInt = 1 := by decide
          have bz_10 : z_10.toInt = x_2.toInt + (1 : Int32).toInt := i_add ez_10 (by omega) (by omega)
          refine lv_iinc (v := z_10) (lv' := [(3, .int z_10), (1, .int x_2), (2, .int r_6), (4, .int r_6), (0, .ref vo)]) hx hb dX10_heaviest_41 hl (k := 3) rfl ez_10.symm (by decide) rfl (fun ls hl => ?_)
          refine lv_goto (tgt := 6) hx hb dX10_heaviest_44 (by decide) ?_
          exact ih1 x_2 r_6 z_10 ⟨by omega, by omega⟩ (by omega) _ _ (hP.sub [0, 1, 2, 3, 4, 5, 6, 7, 8, 9] rfl) hS ls (lv_sub hl [0, 2, 1, 4] rfl)
  have k_m1 : ((-1) : Int32).toInt = (-1) := by decide
  have k_0 : (0 : Int32).toInt = 0 := by decide
  exact loop1 ((7 - (0 : Int32).toInt).toNat + 1) (-1) (-1) 0 ⟨by omega, by omega⟩ (by omega) _ _ hP hS ls (lv_sub hl [0, 1, 2, 3] rfl)
abbrev cX10_fewestGood : ByteArray := prog_1_method_52_code
def yX10_fewestGood : MethodName := ⟨RX10, "fewestGood", "(II)I"⟩
theorem t968 : Cond.code yX10_fewestGood cX10_fewestGood 8 (some .int) ∈ GW := gw_mem 1082 (by decide +kernel) (by decide +kernel)
theorem dX10_fewestGood_0 : decode cX10_fewestGood 0 = .ok (.iload_n 2, 1) := by decide +kernel
theorem dX10_fewestGood_1 : decode cX10_fewestGood 1 = .ok (.istore_n 3, 1) := by decide +kernel
theorem dX10_fewestGood_2 : decode cX10_fewestGood 2 = .ok (.iconst 0, 1) := by decide +kernel
theorem dX10_fewestGood_3 : decode cX10_fewestGood 3 = .ok (.istore 4, 2) := by decide +kernel
theorem dX10_fewestGood_5 : decode cX10_fewestGood 5 = .ok (.bipush 40, 2) := by decide +kernel
theorem dX10_fewestGood_7 : decode cX10_fewestGood 7 = .ok (.istore 5, 2) := by decide +kernel
theorem dX10_fewestGood_9 : decode cX10_fewestGood 9 = .ok (.iload 5, 2) := by decide +kernel
theorem dX10_fewestGood_11 : decode cX10_fewestGood 11 = .ok (.iconst 1, 1) := by decide +kernel
theorem dX10_fewestGood_12 : decode cX10_fewestGood 12 = .ok (.if_icmp .lt 115, 3) := by decide +kernel
theorem dX10_fewestGood_127 : decode cX10_fewestGood 127 = .ok (.iload_n 3, 1) := by decide +kernel
theorem dX10_fewestGood_128 : decode cX10_fewestGood 128 = .ok (.ifCond .le 7, 3) := by decide +kernel
theorem dX10_fewestGood_135 : decode cX10_fewestGood 135 = .ok (.iload 4, 2) := by decide +kernel
theorem dX10_fewestGood_137 : decode cX10_fewestGood 137 = .ok (.ireturn, 1) := by decide +kernel
theorem dX10_fewestGood_131 : decode cX10_fewestGood 131 = .ok (.iconst (-1), 1) := by decide +kernel
theorem dX10_fewestGood_132 : decode cX10_fewestGood 132 = .ok (.goto 5, 3) := by decide +kernel
theorem dX10_fewestGood_15 : decode cX10_fewestGood 15 = .ok (.iconst 0, 1) := by decide +kernel
theorem dX10_fewestGood_16 : decode cX10_fewestGood 16 = .ok (.istore 6, 2) := by decide +kernel
theorem dX10_fewestGood_18 : decode cX10_fewestGood 18 = .ok (.iload 6, 2) := by decide +kernel
theorem dX10_fewestGood_20 : decode cX10_fewestGood 20 = .ok (.aload_n 0, 1) := by decide +kernel
theorem dX10_fewestGood_21 : decode cX10_fewestGood 21 = .ok (.getfield 76, 3) := by decide +kernel
theorem dX10_fewestGood_24 : decode cX10_fewestGood 24 = .ok (.getfield 94, 3) := by decide +kernel
theorem dX10_fewestGood_27 : decode cX10_fewestGood 27 = .ok (.getfield 295, 3) := by decide +kernel
theorem dX10_fewestGood_30 : decode cX10_fewestGood 30 = .ok (.if_icmp .ge 91, 3) := by decide +kernel
theorem dX10_fewestGood_121 : decode cX10_fewestGood 121 = .ok (.iinc 5 (-1), 3) := by decide +kernel
theorem dX10_fewestGood_124 : decode cX10_fewestGood 124 = .ok (.goto (-115), 3) := by decide +kernel
theorem dX10_fewestGood_33 : decode cX10_fewestGood 33 = .ok (.aload_n 0, 1) := by decide +kernel
theorem dX10_fewestGood_34 : decode cX10_fewestGood 34 = .ok (.getfield 76, 3) := by decide +kernel
theorem dX10_fewestGood_37 : decode cX10_fewestGood 37 = .ok (.getfield 94, 3) := by decide +kernel
theorem dX10_fewestGood_40 : decode cX10_fewestGood 40 = .ok (.getfield 173, 3) := by decide +kernel
theorem dX10_fewestGood_43 : decode cX10_fewestGood 43 = .ok (.iload 6, 2) := by decide +kernel
theorem dX10_fewestGood_45 : decode cX10_fewestGood 45 = .ok (.baload, 1) := by decide +kernel
theorem dX10_fewestGood_46 : decode cX10_fewestGood 46 = .ok (.ifCond .ne 69, 3) := by decide +kernel
theorem dX10_fewestGood_115 : decode cX10_fewestGood 115 = .ok (.iinc 6 1, 3) := by decide +kernel
theorem dX10_fewestGood_118 : decode cX10_fewestGood 118 = .ok (.goto (-100), 3) := by decide +kernel
theorem dX10_fewestGood_49 : decode cX10_fewestGood 49 = .ok (.aload_n 0, 1) := by decide +kernel
theorem dX10_fewestGood_50 : decode cX10_fewestGood 50 = .ok (.getfield 76, 3) := by decide +kernel
theorem dX10_fewestGood_53 : decode cX10_fewestGood 53 = .ok (.getfield 94, 3) := by decide +kernel
theorem dX10_fewestGood_56 : decode cX10_fewestGood 56 = .ok (.getfield 168, 3) := by decide +kernel
theorem dX10_fewestGood_59 : decode cX10_fewestGood 59 = .ok (.iload 6, 2) := by decide +kernel
theorem dX10_fewestGood_61 : decode cX10_fewestGood 61 = .ok (.iaload, 1) := by decide +kernel
theorem dX10_fewestGood_62 : decode cX10_fewestGood 62 = .ok (.iload 5, 2) := by decide +kernel
theorem dX10_fewestGood_64 : decode cX10_fewestGood 64 = .ok (.if_icmp .eq 6, 3) := by decide +kernel
theorem dX10_fewestGood_70 : decode cX10_fewestGood 70 = .ok (.aload_n 0, 1) := by decide +kernel
theorem dX10_fewestGood_71 : decode cX10_fewestGood 71 = .ok (.getfield 76, 3) := by decide +kernel
theorem dX10_fewestGood_74 : decode cX10_fewestGood 74 = .ok (.getfield 98, 3) := by decide +kernel
theorem dX10_fewestGood_77 : decode cX10_fewestGood 77 = .ok (.getfield 165, 3) := by decide +kernel
theorem dX10_fewestGood_80 : decode cX10_fewestGood 80 = .ok (.iload_n 1, 1) := by decide +kernel
theorem dX10_fewestGood_81 : decode cX10_fewestGood 81 = .ok (.bipush 10, 2) := by decide +kernel
theorem dX10_fewestGood_83 : decode cX10_fewestGood 83 = .ok (.imul, 1) := by decide +kernel
theorem dX10_fewestGood_84 : decode cX10_fewestGood 84 = .ok (.iload 6, 2) := by decide +kernel
theorem dX10_fewestGood_86 : decode cX10_fewestGood 86 = .ok (.iadd, 1) := by decide +kernel
theorem dX10_fewestGood_87 : decode cX10_fewestGood 87 = .ok (.iaload, 1) := by decide +kernel
theorem dX10_fewestGood_88 : decode cX10_fewestGood 88 = .ok (.istore 7, 2) := by decide +kernel
theorem dX10_fewestGood_90 : decode cX10_fewestGood 90 = .ok (.iload 7, 2) := by decide +kernel
theorem dX10_fewestGood_92 : decode cX10_fewestGood 92 = .ok (.bipush 9, 2) := by decide +kernel
theorem dX10_fewestGood_94 : decode cX10_fewestGood 94 = .ok (.if_icmp .ge 21, 3) := by decide +kernel
theorem dX10_fewestGood_97 : decode cX10_fewestGood 97 = .ok (.iload_n 3, 1) := by decide +kernel
theorem dX10_fewestGood_98 : decode cX10_fewestGood 98 = .ok (.ifCond .le 17, 3) := by decide +kernel
theorem dX10_fewestGood_101 : decode cX10_fewestGood 101 = .ok (.iload_n 3, 1) := by decide +kernel
theorem dX10_fewestGood_102 : decode cX10_fewestGood 102 = .ok (.iload 5, 2) := by decide +kernel
theorem dX10_fewestGood_104 : decode cX10_fewestGood 104 = .ok (.isub, 1) := by decide +kernel
theorem dX10_fewestGood_105 : decode cX10_fewestGood 105 = .ok (.istore_n 3, 1) := by decide +kernel
theorem dX10_fewestGood_106 : decode cX10_fewestGood 106 = .ok (.iinc 4 1, 3) := by decide +kernel
theorem dX10_fewestGood_109 : decode cX10_fewestGood 109 = .ok (.iinc 7 1, 3) := by decide +kernel
theorem dX10_fewestGood_112 : decode cX10_fewestGood 112 = .ok (.goto (-22), 3) := by decide +kernel
theorem dX10_fewestGood_67 : decode cX10_fewestGood 67 = .ok (.goto 48, 3) := by decide +kernel
set_option maxHeartbeats 4000000 in
set_option maxRecDepth 100000 in
theorem g_fewestGood (l : Launch) (dC : Nat → ClassId) (dI : Nat → Nat → Nat) (cy : Nat → ClassId) (vo : Nat) (vt : Nat) (vx : Nat) (vb : Nat) (va : Nat) (ve : Nat) (vs : Nat) (vg : Nat) (vmr : Nat) (vkr : Nat) (vim : Nat) (vik : Nat) (vw : Nat) (vdw : Nat) (volf : Int32) (volh : Int32) (vomd : Int32) (vocd : Int32) (vwc : Nat) (vwl : Nat) (vws : Nat) (vwc1 : Nat) (vwc2 : Nat) (vwc3 : Nat) (vwc4 : Nat) (vwc5 : Nat) (vwcm : Int32) (vwcd : Int32) (vwcr : Int32) (vwcw : Int32) (vwcf3 : Nat → Int32) (vwcf4 : Nat → Int32) (vwl1 : Nat) (vwl2 : Nat) (vwl3 : Nat) (vwl4 : Nat) (vwl5 : Nat) (vwl6 : Nat) (vwl7 : Nat) (vwl8 : Nat) (vwl9 : Nat) (vwl10 : Nat) (vwly : Int32) (vwlf2 : Nat → Int32) (vm : Int32) (vk : Int32) (r_vwcm : 0 ≤ (vwcm : Int32).toInt ∧ (vwcm : Int32).toInt ≤ 7) (r_vwcd : 0 ≤ (vwcd : Int32).toInt ∧ (vwcd : Int32).toInt ≤ 10) (r_vm : 0 ≤ (vm : Int32).toInt ∧ (vm : Int32).toInt ≤ 6) (p_vwcf3 : Rg vwcf3 10 0 40) (p_vwlf2 : Rg vwlf2 70 0 9) : Met l yX10_fewestGood (wl yX10_fewestGood cX10_fewestGood 8 (some .int)) ({ frames := 0, cells := 0, slots := 0, locals := 0 }) (Pr (dC, dI) vwCl cy [(vo, .inr (11, [.ref vt, .ref vx, .ref vb, .ref va, .ref ve, .ref vs, .ref vg, .ref vmr, .ref vkr, .ref vim, .ref vik, .ref vw, .ref vdw, .int volf, .int volh, .int vomd, .int vocd])), (vw, .inr (10, [.ref vwc, .ref vwl, .ref vws])), (vwc, .inr (2, [.ref vwc1, .ref vwc2, .ref vwc3, .ref vwc4, .ref vwc5, .int vwcm, .int vwcd, .int vwcr, .int vwcw])), (vwc3, .inl (cy 0, 10, .inl vwcf3)), (vwc4, .inl (cy 2, 10, .inl vwcf4)), (vwl, .inr (5, [.ref vwl1, .ref vwl2, .ref vwl3, .ref vwl4, .ref vwl5, .ref vwl6, .ref vwl7, .ref vwl8, .ref vwl9, .ref vwl10, .int vwly])), (vwl2, .inl (cy 0, 70, .inl vwlf2))] [.ref vo, .int vm, .int vk]) (Ri (fun r => True)) 0 0 (fun _ => False) := by
  refine mr RX10 rfl (by decide +kernel) (Nat.le_of_ble_eq_true rfl) ?_
  intro p e s m below meth c hx hb hr hlocks av9 hav hts hown hml hK hP hS Q9 hQ9 ls hl
  have hl : lv_has ls 8 [(0, .ref vo), (1, .int vm), (2, .int vk)] := hl
  refine lv_iload_n hx hb dX10_fewestGood_0 rfl (lv_at hl 2 rfl) ?_
  refine lv_istore_n (lv' := [(3, .int vk), (0, .ref vo), (1, .int vm), (2, .int vk)]) hx hb dX10_fewestGood_1 rfl hl (by decide) rfl (fun ls hl => ?_)
  refine lv_iconst (v := 0) hx hb dX10_fewestGood_2 (by decide) ?_
  refine lv_istore (lv' := [(4, .int 0), (3, .int vk), (0, .ref vo), (1, .int vm), (2, .int vk)]) hx hb dX10_fewestGood_3 hl (by decide) rfl (fun ls hl => ?_)
  refine lv_bipush (v := 40) hx hb dX10_fewestGood_5 (by decide) ?_
  refine lv_istore (lv' := [(5, .int 40), (4, .int 0), (3, .int vk), (0, .ref vo), (1, .int vm), (2, .int vk)]) hx hb dX10_fewestGood_7 hl (by decide) rfl (fun ls hl => ?_)
  have loop1 : ∀ (n1 : Nat) (x_4 : Int32) (x_3 : Int32) (x_2 : Int32), (0 ≤ x_2.toInt ∧ x_2.toInt ≤ 40) → x_2.toInt + 1 < (n1 : Int) → ∀ (H : Heap) (locs : List Loc), va_P (dC, dI) vwCl [(vo, .inr (11, [.ref vt, .ref vx, .ref vb, .ref va, .ref ve, .ref vs, .ref vg, .ref vmr, .ref vkr, .ref vim, .ref vik, .ref vw, .ref vdw, .int volf, .int volh, .int vomd, .int vocd])), (vw, .inr (10, [.ref vwc, .ref vwl, .ref vws])), (vwc, .inr (2, [.ref vwc1, .ref vwc2, .ref vwc3, .ref vwc4, .ref vwc5, .int vwcm, .int vwcd, .int vwcr, .int vwcw])), (vwc3, .inl (cy 0, 10, .inl vwcf3)), (vwc4, .inl (cy 2, 10, .inl vwcf4)), (vwl, .inr (5, [.ref vwl1, .ref vwl2, .ref vwl3, .ref vwl4, .ref vwl5, .ref vwl6, .ref vwl7, .ref vwl8, .ref vwl9, .ref vwl10, .int vwly])), (vwl2, .inl (cy 0, 70, .inl vwlf2))] H → va_S (fun _ => False) s.heap H locs → ∀ ls : Array Slot, lv_has ls 8 [(5, .int x_2), (4, .int x_3), (3, .int x_4), (0, .ref vo), (1, .int vm), (2, .int vk)] → W p l e ({ frames := 0, cells := 0, slots := 0, locals := 0 }) s m av9 below meth c H locs 0 0 Q9 (F0 m 9 ls []) := by
    intro n1
    induction n1 with
    | zero =>
      intro x_4 x_3 x_2 bx_2 hn1 H locs hP hS ls hl
      exfalso; omega
    | succ n1 ih1 =>
      intro x_4 x_3 x_2 bx_2 hn1 H locs hP hS ls hl
      refine lv_iload hx hb dX10_fewestGood_9 (lv_at hl 0 rfl) ?_
      refine lv_iconst (v := 1) hx hb dX10_fewestGood_11 (by decide) ?_
      have k_1 : (1 : Int32).toInt = 1 := by decide
      refine lv_icmp_lt (tgt := 127) hx hb dX10_fewestGood_12 (by decide) (fun c_5 => ?_) (fun c_5 => ?_)
      · skip
        have c_5 : x_2.toInt < (1 : Int32).toInt := i_lt.mp c_5
        refine lv_iload_n hx hb dX10_fewestGood_127 rfl (lv_at hl 2 rfl) ?_
        have k_0 : (0 : Int32).toInt = 0 := by decide
        refine lv_if_le (tgt := 135) hx hb dX10_fewestGood_128 (by decide) (fun c_6 => ?_) (fun c_6 => ?_)
        · skip
          have c_6 : x_4.toInt ≤ (0 : Int32).toInt := i_le.mp c_6
          refine lv_iload hx hb dX10_fewestGood_135 (lv_at hl 1 rfl) ?_
          rw [hQ9]
          exact rr_i hx hb hr hlocks trivial hS dX10_fewestGood_137
        · skip
          have c_6 : ¬ (x_4.toInt ≤ (0 : Int32).toInt) := fun h9 => c_6 (i_le.mpr h9)
          refine lv_iconst (v := (-1)) hx hb dX10_fewestGood_131 (by decide) ?_
          refine lv_goto (tgt := 137) hx hb dX10_fewestGood_132 (by decide) ?_
          have k_m1 : ((-1) : Int32).toInt = (-1) := by decide
          rw [hQ9]
          exact rr_i hx hb hr hlocks trivial hS dX10_fewestGood_137
      · skip
        have c_5 : ¬ (x_2.toInt < (1 : Int32).toInt) := fun h9 => c_5 (i_lt.mpr h9)
        refine lv_iconst (v := 0) hx hb dX10_fewestGood_15 (by decide) ?_
        refine lv_istore (lv' := [(6, .int 0), (5, .int x_2), (4, .int x_3), (3, .int x_4), (0, .ref vo), (1, .int vm), (2, .int vk)]) hx hb dX10_fewestGood_16 hl (by decide) rfl (fun ls hl => ?_)
        have loop7 : ∀ (n7 : Nat) (x_10 : Int32) (x_9 : Int32) (x_8 : Int32), (0 ≤ x_8.toInt ∧ x_8.toInt ≤ 10) → 10 - x_8.toInt < (n7 : Int) → ∀ (H : Heap) (locs : List Loc), va_P (dC, dI) vwCl [(vo, .inr (11, [.ref vt, .ref vx, .ref vb, .ref va, .ref ve, .ref vs, .ref vg, .ref vmr, .ref vkr, .ref vim, .ref vik, .ref vw, .ref vdw, .int volf, .int volh, .int vomd, .int vocd])), (vw, .inr (10, [.ref vwc, .ref vwl, .ref vws])), (vwc, .inr (2, [.ref vwc1, .ref vwc2, .ref vwc3, .ref vwc4, .ref vwc5, .int vwcm, .int vwcd, .int vwcr, .int vwcw])), (vwc3, .inl (cy 0, 10, .inl vwcf3)), (vwc4, .inl (cy 2, 10, .inl vwcf4)), (vwl, .inr (5, [.ref vwl1, .ref vwl2, .ref vwl3, .ref vwl4, .ref vwl5, .ref vwl6, .ref vwl7, .ref vwl8, .ref vwl9, .ref vwl10, .int vwly])), (vwl2, .inl (cy 0, 70, .inl vwlf2))] H → va_S (fun _ => False) s.heap H locs → ∀ ls : Array Slot, lv_has ls 8 [(6, .int x_8), (5, .int x_2), (4, .int x_9), (3, .int x_10), (0, .ref vo), (1, .int vm), (2, .int vk)] → W p l e ({ frames := 0, cells := 0, slots := 0, locals := 0 }) s m av9 below meth c H locs 0 0 Q9 (F0 m 18 ls []) := by
          intro n7
          induction n7 with
          | zero =>
            intro x_10 x_9 x_8 bx_8 hn7 H locs hP hS ls hl
            exfalso; omega
          | succ n7 ih7 =>
            intro x_10 x_9 x_8 bx_8 hn7 H locs hP hS ls hl
            refine lv_iload hx hb dX10_fewestGood_18 (lv_at hl 0 rfl) ?_
            refine lv_aload_n hx hb dX10_fewestGood_20 rfl (lv_at hl 4 rfl) ?_
            refine gf_X10_76 hx hb hts hown hK hP 0 rfl rfl dX10_fewestGood_21 ?_
            refine gf_X10_94 hx hb hts hown hK hP 1 rfl rfl dX10_fewestGood_24 ?_
            refine gf_X10_295 hx hb hts hown hK hP 2 rfl rfl dX10_fewestGood_27 ?_
            refine lv_icmp_ge (tgt := 121) hx hb dX10_fewestGood_30 (by decide) (fun c_11 => ?_) (fun c_11 => ?_)
            · skip
              have c_11 : vwcd.toInt ≤ x_8.toInt := i_le.mp c_11
              obtain ⟨z_12, ez_12⟩ : ∃ z : Int32, z = x_2 + (-1) := ⟨_, rfl⟩
              have k_m1 : ((-1) : Int32).toInt = (-1) := by decide
              have bz_12 : z_12.toInt = x_2.toInt + ((-1) : Int32).toInt := i_add ez_12 (by omega) (by omega)
              refine lv_iinc (v := z_12) (lv' := [(5, .int z_12), (6, .int x_8), (4, .int x_9), (3, .int x_10), (0, .ref vo), (1, .int vm), (2, .int vk)]) hx hb dX10_fewestGood_121 hl (k := 1) rfl ez_12.symm (by decide) rfl (fun ls hl => ?_)
              refine lv_goto (tgt := 9) hx hb dX10_fewestGood_124 (by decide) ?_
              exact ih1 x_10 x_9 z_12 ⟨by omega, by omega⟩ (by omega) _ _ (hP.sub [0, 1, 2, 3, 4, 5, 6] rfl) hS ls (lv_sub hl [0, 2, 3, 4, 5, 6] rfl)
            · skip
              have c_11 : ¬ (vwcd.toInt ≤ x_8.toInt) := fun h9 => c_11 (i_le.mpr h9)
              refine lv_aload_n hx hb dX10_fewestGood_33 rfl (lv_at hl 4 rfl) ?_
              refine gf_X10_76 hx hb hts hown hK hP 0 rfl rfl dX10_fewestGood_34 ?_
              refine gf_X10_94 hx hb hts hown hK hP 1 rfl rfl dX10_fewestGood_37 ?_
              refine gf_X10_173 hx hb hts hown hK hP 2 rfl rfl dX10_fewestGood_40 ?_
              refine lv_iload hx hb dX10_fewestGood_43 (lv_at hl 0 rfl) ?_
              have hin_13 : vp_in x_8 10 := vp_in_iff.mpr ⟨by omega, by omega⟩
              refine va_zald hx hb hK hP 4 2 rfl rfl hin_13 dX10_fewestGood_45 ?_
              refine lv_topi (fun z_14 ez_14 => ?_)
              have k_0 : (0 : Int32).toInt = 0 := by decide
              refine lv_if_ne (tgt := 115) hx hb dX10_fewestGood_46 (by decide) (fun c_15 => ?_) (fun c_15 => ?_)
              · skip
                have c_15 : ¬ (z_14.toInt = (0 : Int32).toInt) := fun h9 => c_15 (i_eq.mpr h9)
                obtain ⟨z_16, ez_16⟩ : ∃ z : Int32, z = x_8 + 1 := ⟨_, rfl⟩
                have bz_16 : z_16.toInt = x_8.toInt + (1 : Int32).toInt := i_add ez_16 (by omega) (by omega)
                refine lv_iinc (v := z_16) (lv' := [(6, .int z_16), (5, .int x_2), (4, .int x_9), (3, .int x_10), (0, .ref vo), (1, .int vm), (2, .int vk)]) hx hb dX10_fewestGood_115 hl (k := 0) rfl ez_16.symm (by decide) rfl (fun ls hl => ?_)
                refine lv_goto (tgt := 18) hx hb dX10_fewestGood_118 (by decide) ?_
                exact ih7 x_10 x_9 z_16 ⟨by omega, by omega⟩ (by omega) _ _ (hP.sub [0, 1, 2, 3, 4, 5, 6] rfl) hS ls (lv_sub hl [0, 1, 2, 3, 4, 5, 6] rfl)
              · skip
                have c_15 : z_14.toInt = (0 : Int32).toInt := i_eq.mp c_15
                refine lv_aload_n hx hb dX10_fewestGood_49 rfl (lv_at hl 4 rfl) ?_
                refine gf_X10_76 hx hb hts hown hK hP 0 rfl rfl dX10_fewestGood_50 ?_
                refine gf_X10_94 hx hb hts hown hK hP 1 rfl rfl dX10_fewestGood_53 ?_
                refine gf_X10_168 hx hb hts hown hK hP 2 rfl rfl dX10_fewestGood_56 ?_
                refine lv_iload hx hb dX10_fewestGood_59 (lv_at hl 0 rfl) ?_
                have hin_17 : vp_in x_8 10 := vp_in_iff.mpr ⟨by omega, by omega⟩
                refine va_iald hx hb hK hP 3 0 rfl rfl hin_17 dX10_fewestGood_61 ?_
                refine lv_topi (fun z_18 ez_18 => ?_)
                have bz_18 := p_vwcf3.at hin_17 ez_18
                refine lv_iload hx hb dX10_fewestGood_62 (lv_at hl 1 rfl) ?_
                refine lv_icmp_eq (tgt := 70) hx hb dX10_fewestGood_64 (by decide) (fun c_19 => ?_) (fun c_19 => ?_)
                · skip
                  have c_19 : z_18.toInt = x_2.toInt := i_eq.mp c_19
                  refine lv_aload_n hx hb dX10_fewestGood_70 rfl (lv_at hl 4 rfl) ?_
                  refine gf_X10_76 hx hb hts hown hK hP 0 rfl rfl dX10_fewestGood_71 ?_
                  refine gf_X10_98 hx hb hts hown hK hP 1 rfl rfl dX10_fewestGood_74 ?_
                  refine gf_X10_165 hx hb hts hown hK hP 5 rfl rfl dX10_fewestGood_77 ?_
                  refine lv_iload_n hx hb dX10_fewestGood_80 rfl (lv_at hl 5 rfl) ?_
                  refine lv_bipush (v := 10) hx hb dX10_fewestGood_81 (by decide) ?_
                  refine lv_imul hx hb dX10_fewestGood_83 ?_
                  refine lv_topi (fun z_20 ez_20 => ?_)
                  have k_10 : (10 : Int32).toInt = 10 := by decide
                  have bz_20 : z_20.toInt = vm.toInt * 10 := i_mulc k_10 ez_20 (by omega) (by omega)
                  refine lv_iload hx hb dX10_fewestGood_84 (lv_at hl 0 rfl) ?_
                  refine lv_iadd hx hb dX10_fewestGood_86 ?_
                  refine lv_topi (fun z_21 ez_21 => ?_)
                  have bz_21 : z_21.toInt = z_20.toInt + x_8.toInt := i_add ez_21 (by omega) (by omega)
                  have hin_22 : vp_in z_21 70 := vp_in_iff.mpr ⟨by omega, by omega⟩
                  refine va_iald hx hb hK hP 6 0 rfl rfl hin_22 dX10_fewestGood_87 ?_
                  refine lv_topi (fun z_23 ez_23 => ?_)
                  have bz_23 := p_vwlf2.at hin_22 ez_23
                  refine lv_istore (lv' := [(7, .int z_23), (6, .int x_8), (5, .int x_2), (4, .int x_9), (3, .int x_10), (0, .ref vo), (1, .int vm), (2, .int vk)]) hx hb dX10_fewestGood_88 hl (by decide) rfl (fun ls hl => ?_)
                  have loop24 : ∀ (n24 : Nat) (x_27 : Int32) (x_26 : Int32) (x_25 : Int32), (0 ≤ x_25.toInt ∧ x_25.toInt ≤ 9) → 9 - x_25.toInt < (n24 : Int) → ∀ (H : Heap) (locs : List Loc), va_P (dC, dI) vwCl [(vo, .inr (11, [.ref vt, .ref vx, .ref vb, .ref va, .ref ve, .ref vs, .ref vg, .ref vmr, .ref vkr, .ref vim, .ref vik, .ref vw, .ref vdw, .int volf, .int volh, .int vomd, .int vocd])), (vw, .inr (10, [.ref vwc, .ref vwl, .ref vws])), (vwc, .inr (2, [.ref vwc1, .ref vwc2, .ref vwc3, .ref vwc4, .ref vwc5, .int vwcm, .int vwcd, .int vwcr, .int vwcw])), (vwc3, .inl (cy 0, 10, .inl vwcf3)), (vwc4, .inl (cy 2, 10, .inl vwcf4)), (vwl, .inr (5, [.ref vwl1, .ref vwl2, .ref vwl3, .ref vwl4, .ref vwl5, .ref vwl6, .ref vwl7, .ref vwl8, .ref vwl9, .ref vwl10, .int vwly])), (vwl2, .inl (cy 0, 70, .inl vwlf2))] H → va_S (fun _ => False) s.heap H locs → ∀ ls : Array Slot, lv_has ls 8 [(7, .int x_25), (6, .int x_8), (5, .int x_2), (4, .int x_26), (3, .int x_27), (0, .ref vo), (1, .int vm), (2, .int vk)] → W p l e ({ frames := 0, cells := 0, slots := 0, locals := 0 }) s m av9 below meth c H locs 0 0 Q9 (F0 m 90 ls []) := by
                    intro n24
                    induction n24 with
                    | zero =>
                      intro x_27 x_26 x_25 bx_25 hn24 H locs hP hS ls hl
                      exfalso; omega
                    | succ n24 ih24 =>
                      intro x_27 x_26 x_25 bx_25 hn24 H locs hP hS ls hl
                      refine lv_iload hx hb dX10_fewestGood_90 (lv_at hl 0 rfl) ?_
                      refine lv_bipush (v := 9) hx hb dX10_fewestGood_92 (by decide) ?_
                      have k_9 : (9 : Int32).toInt = 9 := by decide
                      refine lv_icmp_ge (tgt := 115) hx hb dX10_fewestGood_94 (by decide) (fun c_28 => ?_) (fun c_28 => ?_)
                      · skip
                        have c_28 : (9 : Int32).toInt ≤ x_25.toInt := i_le.mp c_28
                        obtain ⟨z_29, ez_29⟩ : ∃ z : Int32, z = x_8 + 1 := ⟨_, rfl⟩
                        have bz_29 : z_29.toInt = x_8.toInt + (1 : Int32).toInt := i_add ez_29 (by omega) (by omega)
                        refine lv_iinc (v := z_29) (lv' := [(6, .int z_29), (7, .int x_25), (5, .int x_2), (4, .int x_26), (3, .int x_27), (0, .ref vo), (1, .int vm), (2, .int vk)]) hx hb dX10_fewestGood_115 hl (k := 1) rfl ez_29.symm (by decide) rfl (fun ls hl => ?_)
                        refine lv_goto (tgt := 18) hx hb dX10_fewestGood_118 (by decide) ?_
                        exact ih7 x_27 x_26 z_29 ⟨by omega, by omega⟩ (by omega) _ _ (hP.sub [0, 1, 2, 3, 4, 5, 6] rfl) hS ls (lv_sub hl [0, 2, 3, 4, 5, 6, 7] rfl)
                      · skip
                        have c_28 : ¬ ((9 : Int32).toInt ≤ x_25.toInt) := fun h9 => c_28 (i_le.mpr h9)
                        refine lv_iload_n hx hb dX10_fewestGood_97 rfl (lv_at hl 4 rfl) ?_
                        refine lv_if_le (tgt := 115) hx hb dX10_fewestGood_98 (by decide) (fun c_30 => ?_) (fun c_30 => ?_)
                        · skip
                          have c_30 : x_27.toInt ≤ (0 : Int32).toInt := i_le.mp c_30
                          obtain ⟨z_31, ez_31⟩ : ∃ z : Int32, z = x_8 + 1 := ⟨_, rfl⟩
                          have bz_31 : z_31.toInt = x_8.toInt + (1 : Int32).toInt := i_add ez_31 (by omega) (by omega)
                          refine lv_iinc (v := z_31) (lv' := [(6, .int z_31), (7, .int x_25), (5, .int x_2), (4, .int x_26), (3, .int x_27), (0, .ref vo), (1, .int vm), (2, .int vk)]) hx hb dX10_fewestGood_115 hl (k := 1) rfl ez_31.symm (by decide) rfl (fun ls hl => ?_)
                          refine lv_goto (tgt := 18) hx hb dX10_fewestGood_118 (by decide) ?_
                          exact ih7 x_27 x_26 z_31 ⟨by omega, by omega⟩ (by omega) _ _ (hP.sub [0, 1, 2, 3, 4, 5, 6] rfl) hS ls (lv_sub hl [0, 2, 3, 4, 5, 6, 7] rfl)
                        · skip
                          have c_30 : ¬ (x_27.toInt ≤ (0 : Int32).toInt) := fun h9 => c_30 (i_le.mpr h9)
                          refine lv_iload_n hx hb dX10_fewestGood_101 rfl (lv_at hl 4 rfl) ?_
                          refine lv_iload hx hb dX10_fewestGood_102 (lv_at hl 2 rfl) ?_
                          refine lv_isub hx hb dX10_fewestGood_104 ?_
                          refine lv_topi (fun z_32 ez_32 => ?_)
                          have wh_33 := i_rng x_27
                          have bz_32 : z_32.toInt = x_27.toInt - x_2.toInt := i_sub ez_32 (by omega) (by omega)
                          refine lv_istore_n (lv' := [(3, .int z_32), (7, .int x_25), (6, .int x_8), (5, .int x_2), (4, .int x_26), (0, .ref vo), (1, .int vm), (2, .int vk)]) hx hb dX10_fewestGood_105 rfl hl (by decide) rfl (fun ls hl => ?_)
                          obtain ⟨z_34, ez_34⟩ : ∃ z : Int32, z = x_26 + 1 := ⟨_, rfl⟩
                          refine lv_iinc (v := z_34) (lv' := [(4, .int z_34), (3, .int z_32), (7, .int x_25), (6, .int x_8), (5, .int x_2), (0, .ref vo), (1, .int vm), (2, .int vk)]) hx hb dX10_fewestGood_106 hl (k := 4) rfl ez_34.symm (by decide) rfl (fun ls hl => ?_)
                          obtain ⟨z_35, ez_35⟩ : ∃ z : Int32, z = x_25 + 1 := ⟨_, rfl⟩
                          have bz_35 : z_35.toInt = x_25.toInt + (1 : Int32).toInt := i_add ez_35 (by omega) (by omega)
                          refine lv_iinc (v := z_35) (lv' := [(7, .int z_35), (4, .int z_34), (3, .int z_32), (6, .int x_8), (5, .int x_2), (0, .ref vo), (1, .int vm), (2, .int vk)]) hx hb dX10_fewestGood_109 hl (k := 2) rfl ez_35.symm (by decide) rfl (fun ls hl => ?_)
                          refine lv_goto (tgt := 90) hx hb dX10_fewestGood_112 (by decide) ?_
                          exact ih24 z_32 z_34 z_35 ⟨by omega, by omega⟩ (by omega) _ _ (hP.sub [0, 1, 2, 3, 4, 5, 6] rfl) hS ls (lv_sub hl [0, 3, 4, 1, 2, 5, 6, 7] rfl)
                  exact loop24 ((9 - z_23.toInt).toNat + 1) x_10 x_9 z_23 ⟨by omega, by omega⟩ (by omega) _ _ hP hS ls (lv_sub hl [0, 1, 2, 3, 4, 5, 6, 7] rfl)
                · skip
                  have c_19 : ¬ (z_18.toInt = x_2.toInt) := fun h9 => c_19 (i_eq.mpr h9)
                  refine lv_goto (tgt := 115) hx hb dX10_fewestGood_67 (by decide) ?_
                  obtain ⟨z_36, ez_36⟩ : ∃ z : Int32, z = x_8 + 1 := ⟨_, rfl⟩
                  have bz_36 : z_36.toInt = x_8.toInt + (1 : Int32).toInt := i_add ez_36 (by omega) (by omega)
                  refine lv_iinc (v := z_36) (lv' := [(6, .int z_36), (5, .int x_2), (4, .int x_9), (3, .int x_10), (0, .ref vo), (1, .int vm), (2, .int vk)]) hx hb dX10_fewestGood_115 hl (k := 0) rfl ez_36.symm (by decide) rfl (fun ls hl => ?_)
                  refine lv_goto (tgt := 18) hx hb dX10_fewestGood_118 (by decide) ?_
                  exact ih7 x_10 x_9 z_36 ⟨by omega, by omega⟩ (by omega) _ _ (hP.sub [0, 1, 2, 3, 4, 5, 6] rfl) hS ls (lv_sub hl [0, 1, 2, 3, 4, 5, 6] rfl)
        have k_0 : (0 : Int32).toInt = 0 := by decide
        exact loop7 ((10 - (0 : Int32).toInt).toNat + 1) x_4 x_3 0 ⟨by omega, by omega⟩ (by omega) _ _ hP hS ls (lv_sub hl [0, 1, 2, 3, 4, 5, 6] rfl)
  have k_0 : (0 : Int32).toInt = 0 := by decide
  have k_40 : (40 : Int32).toInt = 40 := by decide
  exact loop1 (((40 : Int32).toInt + 1).toNat + 1) vk 0 40 ⟨by omega, by omega⟩ (by omega) _ _ hP hS ls (lv_sub hl [0, 1, 2, 3, 4, 5] rfl)
abbrev cX10_hide : ByteArray := prog_1_method_30_code
def yX10_hide : MethodName := ⟨RX10, "hide", "(I)I"⟩
theorem t964 : Cond.code yX10_hide cX10_hide 3 (some .int) ∈ GW := gw_mem 1078 (by decide +kernel) (by decide +kernel)
theorem dX10_hide_0 : decode cX10_hide 0 = .ok (.aload_n 0, 1) := by decide +kernel
theorem dX10_hide_1 : decode cX10_hide 1 = .ok (.iload_n 1, 1) := by decide +kernel
theorem dX10_hide_2 : decode cX10_hide 2 = .ok (.invokevirtual 128, 3) := by decide +kernel
theorem dX10_hide_5 : decode cX10_hide 5 = .ok (.ifCond .ne 5, 3) := by decide +kernel
theorem dX10_hide_8 : decode cX10_hide 8 = .ok (.iconst (-1), 1) := by decide +kernel
theorem dX10_hide_9 : decode cX10_hide 9 = .ok (.ireturn, 1) := by decide +kernel
theorem dX10_hide_10 : decode cX10_hide 10 = .ok (.aload_n 0, 1) := by decide +kernel
theorem dX10_hide_11 : decode cX10_hide 11 = .ok (.getfield 76, 3) := by decide +kernel
theorem dX10_hide_14 : decode cX10_hide 14 = .ok (.getfield 94, 3) := by decide +kernel
theorem dX10_hide_17 : decode cX10_hide 17 = .ok (.getfield 185, 3) := by decide +kernel
theorem dX10_hide_20 : decode cX10_hide 20 = .ok (.aload_n 0, 1) := by decide +kernel
theorem dX10_hide_21 : decode cX10_hide 21 = .ok (.getfield 76, 3) := by decide +kernel
theorem dX10_hide_24 : decode cX10_hide 24 = .ok (.iload_n 1, 1) := by decide +kernel
theorem dX10_hide_25 : decode cX10_hide 25 = .ok (.invokevirtual 140, 3) := by decide +kernel
theorem dX10_hide_28 : decode cX10_hide 28 = .ok (.isub, 1) := by decide +kernel
theorem dX10_hide_29 : decode cX10_hide 29 = .ok (.istore_n 2, 1) := by decide +kernel
theorem dX10_hide_30 : decode cX10_hide 30 = .ok (.iload_n 2, 1) := by decide +kernel
theorem dX10_hide_31 : decode cX10_hide 31 = .ok (.ifCond .le 14, 3) := by decide +kernel
theorem dX10_hide_45 : decode cX10_hide 45 = .ok (.iconst 0, 1) := by decide +kernel
theorem dX10_hide_46 : decode cX10_hide 46 = .ok (.ireturn, 1) := by decide +kernel
theorem dX10_hide_34 : decode cX10_hide 34 = .ok (.aload_n 0, 1) := by decide +kernel
theorem dX10_hide_35 : decode cX10_hide 35 = .ok (.getfield 76, 3) := by decide +kernel
theorem dX10_hide_38 : decode cX10_hide 38 = .ok (.iload_n 1, 1) := by decide +kernel
theorem dX10_hide_39 : decode cX10_hide 39 = .ok (.invokevirtual 144, 3) := by decide +kernel
theorem dX10_hide_42 : decode cX10_hide 42 = .ok (.ifCond .ne 5, 3) := by decide +kernel
theorem dX10_hide_47 : decode cX10_hide 47 = .ok (.aload_n 0, 1) := by decide +kernel
theorem dX10_hide_48 : decode cX10_hide 48 = .ok (.iload_n 1, 1) := by decide +kernel
theorem dX10_hide_49 : decode cX10_hide 49 = .ok (.iload_n 2, 1) := by decide +kernel
theorem dX10_hide_50 : decode cX10_hide 50 = .ok (.invokevirtual 321, 3) := by decide +kernel
theorem t965 : Cond.methodLink RX10 321 yX10_fewestGood ∈ GW := gw_mem 1079 (by decide +kernel) (by decide +kernel)
theorem t967 : Cond.instanceMethod yX10_fewestGood ∈ GW := gw_mem 1081 (by decide +kernel) (by decide +kernel)
theorem s20 : Cond.selects RX10 yX10_fewestGood yX10_fewestGood ∈ GW := gw_mem 20 (by decide +kernel) (by decide +kernel)
theorem cw_X10_321 {R : Room} {s : State} {args : Array Value} {rm : Room} {mc ms : Nat} (hts : ∀ w ∈ GW, w.before args s = true) (hrc : rm.cells = mc) (hrs : rm.slots = ms) (hR : rm.frames + 1 ≤ R.frames ∧ 8 + (8 + 11) + rm.locals ≤ R.locals) : CallW R s args RX10 RX10 321 yX10_fewestGood cX10_fewestGood 8 (some .int) (wl yX10_fewestGood cX10_fewestGood 8 (some .int)) rm mc ms 2 := cwV 2 hts (gi_V t965 t967 s20 t1 t968) rfl hrc hrs (by decide +kernel) hR
theorem dX10_hide_53 : decode cX10_hide 53 = .ok (.ireturn, 1) := by decide +kernel
set_option maxHeartbeats 4000000 in
set_option maxRecDepth 100000 in
theorem g_hide (l : Launch) (dC : Nat → ClassId) (dI : Nat → Nat → Nat) (cy : Nat → ClassId) (vo : Nat) (vt : Nat) (vx : Nat) (vb : Nat) (va : Nat) (ve : Nat) (vs : Nat) (vg : Nat) (vmr : Nat) (vkr : Nat) (vim : Nat) (vik : Nat) (vw : Nat) (vdw : Nat) (volf : Int32) (volh : Int32) (vomd : Int32) (vocd : Int32) (vwc : Nat) (vwl : Nat) (vws : Nat) (vwc1 : Nat) (vwc2 : Nat) (vwc3 : Nat) (vwc4 : Nat) (vwc5 : Nat) (vwcm : Int32) (vwcd : Int32) (vwcr : Int32) (vwcw : Int32) (vwcf3 : Nat → Int32) (vwcf4 : Nat → Int32) (vwl1 : Nat) (vwl2 : Nat) (vwl3 : Nat) (vwl4 : Nat) (vwl5 : Nat) (vwl6 : Nat) (vwl7 : Nat) (vwl8 : Nat) (vwl9 : Nat) (vwl10 : Nat) (vwly : Int32) (vwlf2 : Nat → Int32) (vwlf3 : Nat → Int32) (vwlf4 : Nat → Int32) (vwlf5 : Nat → Int32) (vm : Int32) (r_vwcm : 0 ≤ (vwcm : Int32).toInt ∧ (vwcm : Int32).toInt ≤ 7) (r_vwcd : 0 ≤ (vwcd : Int32).toInt ∧ (vwcd : Int32).toInt ≤ 10) (p_vwcf3 : Rg vwcf3 10 0 40) (p_vwlf2 : Rg vwlf2 70 0 9) (p_vwlf5 : Rg vwlf5 7 (-1) 9) : Met l yX10_hide (wl yX10_hide cX10_hide 3 (some .int)) ({ frames := 4, cells := 0, slots := 0, locals := 256 }) (Pr (dC, dI) vwCl cy [(vo, .inr (11, [.ref vt, .ref vx, .ref vb, .ref va, .ref ve, .ref vs, .ref vg, .ref vmr, .ref vkr, .ref vim, .ref vik, .ref vw, .ref vdw, .int volf, .int volh, .int vomd, .int vocd])), (vw, .inr (10, [.ref vwc, .ref vwl, .ref vws])), (vwc, .inr (2, [.ref vwc1, .ref vwc2, .ref vwc3, .ref vwc4, .ref vwc5, .int vwcm, .int vwcd, .int vwcr, .int vwcw])), (vwc3, .inl (cy 0, 10, .inl vwcf3)), (vwc4, .inl (cy 2, 10, .inl vwcf4)), (vwl, .inr (5, [.ref vwl1, .ref vwl2, .ref vwl3, .ref vwl4, .ref vwl5, .ref vwl6, .ref vwl7, .ref vwl8, .ref vwl9, .ref vwl10, .int vwly])), (vwl2, .inl (cy 0, 70, .inl vwlf2)), (vwl3, .inl (cy 0, 49, .inl vwlf3)), (vwl4, .inl (cy 0, 7, .inl vwlf4)), (vwl5, .inl (cy 0, 7, .inl vwlf5))] [.ref vo, .int vm]) (Ri (fun r => True)) 0 0 (fun _ => False) := by
  refine mr RX10 rfl (by decide +kernel) (Nat.le_of_ble_eq_true rfl) ?_
  intro p e s m below meth c hx hb hr hlocks av9 hav hts hown hml hK hP hS Q9 hQ9 ls hl
  have hl : lv_has ls 3 [(0, .ref vo), (1, .int vm)] := hl
  refine lv_aload_n hx hb dX10_hide_0 rfl (lv_at hl 0 rfl) ?_
  refine lv_iload_n hx hb dX10_hide_1 rfl (lv_at hl 1 rfl) ?_
  refine jr_i (rVr (As := [.int vm]) (rest := []) (ci := 11) ⟨hx, hb, hml, hown, hts⟩ (g_isMan l dC dI cy vo vt vx vb va ve vs vg vmr vkr vim vik vw vdw volf volh vomd vocd vwc vwl vws vwc1 vwc2 vwc3 vwc4 vwc5 vwcm vwcd vwcr vwcw vm r_vwcm r_vwcd) (cw_X10_128 hts rfl rfl ⟨Nat.le_of_ble_eq_true rfl, Nat.le_of_ble_eq_true rfl⟩) hP hK [0, 1, 2] rfl rfl rfl rfl hl.1 rfl (Nat.le_of_ble_eq_true rfl) dX10_hide_2 ⟨Nat.le_of_ble_eq_true rfl, Nat.le_of_ble_eq_true rfl⟩) hP hS (fun r_1 H locs hp_2 hP hS => ?_)
  have hp_2 : ((r_1 = 0 ∧ ((vm : Int32).toInt < 0 ∨ (vwcm : Int32).toInt ≤ (vm : Int32).toInt)) ∨ (r_1 = 1 ∧ 0 ≤ (vm : Int32).toInt ∧ (vm : Int32).toInt < (vwcm : Int32).toInt)) := hp_2
  have q_3 := hp_2
  rcases q_3 with ⟨aq_3, f0q_3⟩ | ⟨aq_3, f0q_3⟩
  · skip
    refine as_i 0 aq_3 ?_
    refine lv_if_ne (tgt := 10) hx hb dX10_hide_5 (by decide) (fun c9 => absurd c9 (by decide)) (fun _ => ?_)
    refine lv_iconst (v := (-1)) hx hb dX10_hide_8 (by decide) ?_
    have k_m1 : ((-1) : Int32).toInt = (-1) := by decide
    rw [hQ9]
    exact rr_i hx hb hr hlocks trivial hS dX10_hide_9
  · skip
    refine as_i 1 aq_3 ?_
    refine lv_if_ne (tgt := 10) hx hb dX10_hide_5 (by decide) (fun _ => ?_) (fun c9 => absurd c9 (by decide))
    refine lv_aload_n hx hb dX10_hide_10 rfl (lv_at hl 0 rfl) ?_
    refine gf_X10_76 hx hb hts hown hK hP 0 rfl rfl dX10_hide_11 ?_
    refine gf_X10_94 hx hb hts hown hK hP 1 rfl rfl dX10_hide_14 ?_
    refine gf_X10_185 hx hb hts hown hK hP 2 rfl rfl dX10_hide_17 ?_
    refine lv_aload_n hx hb dX10_hide_20 rfl (lv_at hl 0 rfl) ?_
    refine gf_X10_76 hx hb hts hown hK hP 0 rfl rfl dX10_hide_21 ?_
    refine lv_iload_n hx hb dX10_hide_24 rfl (lv_at hl 1 rfl) ?_
    refine jr_i (rVr (As := [.int vm]) (rest := [.int vwcr]) (ci := 10) ⟨hx, hb, hml, hown, hts⟩ (g_whiteOf l dC dI cy vw vwc vwl vws vwc1 vwc2 vwc3 vwc4 vwc5 vwcm vwcd vwcr vwcw vwcf3 vwcf4 vwl1 vwl2 vwl3 vwl4 vwl5 vwl6 vwl7 vwl8 vwl9 vwl10 vwly vwlf2 vwlf3 vwlf4 vwlf5 vm r_vwcm r_vwcd ⟨by omega, by omega⟩ p_vwcf3 p_vwlf2 p_vwlf5) (cw_X10_140 hts rfl rfl ⟨Nat.le_of_ble_eq_true rfl, Nat.le_of_ble_eq_true rfl⟩) hP hK [1, 2, 3, 4, 5, 6, 7, 8, 9] rfl rfl rfl rfl hl.1 rfl (Nat.le_of_ble_eq_true rfl) dX10_hide_25 ⟨Nat.le_of_ble_eq_true rfl, Nat.le_of_ble_eq_true rfl⟩) hP hS (fun r_4 H locs hp_5 hP hS => ?_)
    refine lv_isub hx hb dX10_hide_28 ?_
    refine lv_topi (fun z_6 ez_6 => ?_)
    refine lv_istore_n (lv' := [(2, .int z_6), (0, .ref vo), (1, .int vm)]) hx hb dX10_hide_29 rfl hl (by decide) rfl (fun ls hl => ?_)
    refine lv_iload_n hx hb dX10_hide_30 rfl (lv_at hl 0 rfl) ?_
    have k_0 : (0 : Int32).toInt = 0 := by decide
    refine lv_if_le (tgt := 45) hx hb dX10_hide_31 (by decide) (fun c_7 => ?_) (fun c_7 => ?_)
    · skip
      have c_7 : z_6.toInt ≤ (0 : Int32).toInt := i_le.mp c_7
      refine lv_iconst (v := 0) hx hb dX10_hide_45 (by decide) ?_
      rw [hQ9]
      exact rr_i hx hb hr hlocks trivial hS dX10_hide_46
    · skip
      have c_7 : ¬ (z_6.toInt ≤ (0 : Int32).toInt) := fun h9 => c_7 (i_le.mpr h9)
      refine lv_aload_n hx hb dX10_hide_34 rfl (lv_at hl 1 rfl) ?_
      refine gf_X10_76 hx hb hts hown hK hP 0 rfl rfl dX10_hide_35 ?_
      refine lv_iload_n hx hb dX10_hide_38 rfl (lv_at hl 2 rfl) ?_
      refine jr_i (rVr (As := [.int vm]) (rest := []) (ci := 10) ⟨hx, hb, hml, hown, hts⟩ (g_darkOf l dC dI cy vw vwc vwl vws vwc1 vwc2 vwc3 vwc4 vwc5 vwcm vwcd vwcr vwcw vwcf3 vwcf4 vwl1 vwl2 vwl3 vwl4 vwl5 vwl6 vwl7 vwl8 vwl9 vwl10 vwly vwlf2 vwlf3 vwlf4 vwlf5 vm r_vwcm r_vwcd ⟨by omega, by omega⟩ p_vwcf3 p_vwlf2 p_vwlf5) (cw_X10_144 hts rfl rfl ⟨Nat.le_of_ble_eq_true rfl, Nat.le_of_ble_eq_true rfl⟩) hP hK [1, 2, 3, 4, 5, 6, 7, 8, 9] rfl rfl rfl rfl hl.1 rfl (Nat.le_of_ble_eq_true rfl) dX10_hide_39 ⟨Nat.le_of_ble_eq_true rfl, Nat.le_of_ble_eq_true rfl⟩) hP hS (fun r_8 H locs hp_9 hP hS => ?_)
      refine lv_if_ne (tgt := 47) hx hb dX10_hide_42 (by decide) (fun c_10 => ?_) (fun c_10 => ?_)
      · skip
        have c_10 : ¬ (r_8.toInt = (0 : Int32).toInt) := fun h9 => c_10 (i_eq.mpr h9)
        refine lv_aload_n hx hb dX10_hide_47 rfl (lv_at hl 1 rfl) ?_
        refine lv_iload_n hx hb dX10_hide_48 rfl (lv_at hl 2 rfl) ?_
        refine lv_iload_n hx hb dX10_hide_49 rfl (lv_at hl 0 rfl) ?_
        refine jr_i (rVr (As := [.int vm, .int z_6]) (rest := []) (ci := 11) ⟨hx, hb, hml, hown, hts⟩ (g_fewestGood l dC dI cy vo vt vx vb va ve vs vg vmr vkr vim vik vw vdw volf volh vomd vocd vwc vwl vws vwc1 vwc2 vwc3 vwc4 vwc5 vwcm vwcd vwcr vwcw vwcf3 vwcf4 vwl1 vwl2 vwl3 vwl4 vwl5 vwl6 vwl7 vwl8 vwl9 vwl10 vwly vwlf2 vm z_6 r_vwcm r_vwcd ⟨by omega, by omega⟩ p_vwcf3 p_vwlf2) (cw_X10_321 hts rfl rfl ⟨Nat.le_of_ble_eq_true rfl, Nat.le_of_ble_eq_true rfl⟩) hP hK [0, 1, 2, 3, 4, 5, 6] rfl rfl rfl rfl hl.1 rfl (Nat.le_of_ble_eq_true rfl) dX10_hide_50 ⟨Nat.le_of_ble_eq_true rfl, Nat.le_of_ble_eq_true rfl⟩) hP hS (fun r_11 H locs hp_12 hP hS => ?_)
        rw [hQ9]
        exact rr_i hx hb hr hlocks trivial hS dX10_hide_53
      · skip
        have c_10 : r_8.toInt = (0 : Int32).toInt := i_eq.mp c_10
        refine lv_iconst (v := 0) hx hb dX10_hide_45 (by decide) ?_
        rw [hQ9]
        exact rr_i hx hb hr hlocks trivial hS dX10_hide_46
abbrev cX10_mayBe : ByteArray := prog_1_method_27_code
def yX10_mayBe : MethodName := ⟨RX10, "mayBe", "(I)I"⟩
theorem t947 : Cond.code yX10_mayBe cX10_mayBe 2 (some .int) ∈ GW := gw_mem 1061 (by decide +kernel) (by decide +kernel)
theorem dX10_mayBe_0 : decode cX10_mayBe 0 = .ok (.iload_n 1, 1) := by decide +kernel
theorem dX10_mayBe_1 : decode cX10_mayBe 1 = .ok (.ifCond .lt 20, 3) := by decide +kernel
theorem dX10_mayBe_21 : decode cX10_mayBe 21 = .ok (.iconst (-1), 1) := by decide +kernel
theorem dX10_mayBe_22 : decode cX10_mayBe 22 = .ok (.ireturn, 1) := by decide +kernel
theorem dX10_mayBe_4 : decode cX10_mayBe 4 = .ok (.iload_n 1, 1) := by decide +kernel
theorem dX10_mayBe_5 : decode cX10_mayBe 5 = .ok (.aload_n 0, 1) := by decide +kernel
theorem dX10_mayBe_6 : decode cX10_mayBe 6 = .ok (.getfield 298, 3) := by decide +kernel
theorem t492 : Cond.fieldLink RX10 298 "LikenessPound" "mayDeeds" "I" ∈ GW := gw_mem 606 (by decide +kernel) (by decide +kernel)
theorem gf_X10_298 {p : Program} {l : Launch} {e : Env} {R : Room} {s : State} {m : MethodId} {args : Array Value} {below : List Frame} {meth : Method} {c : Code} {H : Heap} {locs : List Loc} {cells slots : Nat} {Q : State → Prop} {cc : ByteArray} {pc : Nat} {ls : Array Slot} {rest : List Value} {D : va_G} {a : Nat} {tys : List (ClassId × FieldType)} {ws : va_W} (hx : p.tables.exec = Jvm.exec) (hb : c.code = cc) (hts : ∀ w ∈ GW, w.before args s = true) (hown : s.vm.findClass RX10 = some m.cls) (hK : va_K D vwCl tys s) (hP : va_P D vwCl ws H) (q0 : Nat) {fs : List Value} (he : ws[q0]? = some (a, .inr (11, fs))) {v : Value} (hv : fs[15]? = some v) (hdg : decode cc pc = .ok (.getfield 298, 3)) (kk : W p l e R s m args below meth c H locs cells slots Q (F0 m (pc + 3) ls (v :: rest))) : W p l e R s m args below meth c H locs cells slots Q (F0 m pc ls (.ref a :: rest)) := va_get (C := RX10) (T := TX10) (N := 17) (ci := 11) hx hb hts inX10 hown hK hP q0 he rfl 15 (by decide) (hts _ t492) (fun _ h => h) hv hdg kk
theorem dX10_mayBe_9 : decode cX10_mayBe 9 = .ok (.if_icmp .ge 12, 3) := by decide +kernel
theorem dX10_mayBe_12 : decode cX10_mayBe 12 = .ok (.aload_n 0, 1) := by decide +kernel
theorem dX10_mayBe_13 : decode cX10_mayBe 13 = .ok (.getfield 58, 3) := by decide +kernel
theorem t484 : Cond.fieldLink RX10 58 "LikenessPound" "mayRow" "[I" ∈ GW := gw_mem 598 (by decide +kernel) (by decide +kernel)
theorem gf_X10_58 {p : Program} {l : Launch} {e : Env} {R : Room} {s : State} {m : MethodId} {args : Array Value} {below : List Frame} {meth : Method} {c : Code} {H : Heap} {locs : List Loc} {cells slots : Nat} {Q : State → Prop} {cc : ByteArray} {pc : Nat} {ls : Array Slot} {rest : List Value} {D : va_G} {a : Nat} {tys : List (ClassId × FieldType)} {ws : va_W} (hx : p.tables.exec = Jvm.exec) (hb : c.code = cc) (hts : ∀ w ∈ GW, w.before args s = true) (hown : s.vm.findClass RX10 = some m.cls) (hK : va_K D vwCl tys s) (hP : va_P D vwCl ws H) (q0 : Nat) {fs : List Value} (he : ws[q0]? = some (a, .inr (11, fs))) {v : Value} (hv : fs[7]? = some v) (hdg : decode cc pc = .ok (.getfield 58, 3)) (kk : W p l e R s m args below meth c H locs cells slots Q (F0 m (pc + 3) ls (v :: rest))) : W p l e R s m args below meth c H locs cells slots Q (F0 m pc ls (.ref a :: rest)) := va_get (C := RX10) (T := TX10) (N := 17) (ci := 11) hx hb hts inX10 hown hK hP q0 he rfl 7 (by decide) (hts _ t484) (fun _ h => h) hv hdg kk
theorem dX10_mayBe_16 : decode cX10_mayBe 16 = .ok (.iload_n 1, 1) := by decide +kernel
theorem dX10_mayBe_17 : decode cX10_mayBe 17 = .ok (.iaload, 1) := by decide +kernel
theorem dX10_mayBe_18 : decode cX10_mayBe 18 = .ok (.goto 4, 3) := by decide +kernel
set_option maxHeartbeats 4000000 in
set_option maxRecDepth 100000 in
theorem g_mayBe (l : Launch) (dC : Nat → ClassId) (dI : Nat → Nat → Nat) (cy : Nat → ClassId) (vo : Nat) (vt : Nat) (vx : Nat) (vb : Nat) (va : Nat) (ve : Nat) (vs : Nat) (vg : Nat) (vmr : Nat) (vkr : Nat) (vim : Nat) (vik : Nat) (vw : Nat) (vdw : Nat) (volf : Int32) (volh : Int32) (vomd : Int32) (vocd : Int32) (vmrf : Nat → Int32) (vd : Int32) (r_vomd : 0 ≤ (vomd : Int32).toInt ∧ (vomd : Int32).toInt ≤ 10) (r_vocd : 0 ≤ (vocd : Int32).toInt ∧ (vocd : Int32).toInt ≤ 10) : Met l yX10_mayBe (wl yX10_mayBe cX10_mayBe 2 (some .int)) ({ frames := 0, cells := 0, slots := 0, locals := 0 }) (Pr (dC, dI) vwCl cy [(vo, .inr (11, [.ref vt, .ref vx, .ref vb, .ref va, .ref ve, .ref vs, .ref vg, .ref vmr, .ref vkr, .ref vim, .ref vik, .ref vw, .ref vdw, .int volf, .int volh, .int vomd, .int vocd])), (vmr, .inl (cy 0, 10, .inl vmrf))] [.ref vo, .int vd]) (Ri (fun r => True)) 0 0 (fun _ => False) := by
  refine mr RX10 rfl (by decide +kernel) (Nat.le_of_ble_eq_true rfl) ?_
  intro p e s m below meth c hx hb hr hlocks av9 hav hts hown hml hK hP hS Q9 hQ9 ls hl
  have hl : lv_has ls 2 [(0, .ref vo), (1, .int vd)] := hl
  refine lv_iload_n hx hb dX10_mayBe_0 rfl (lv_at hl 1 rfl) ?_
  have k_0 : (0 : Int32).toInt = 0 := by decide
  refine lv_if_lt (tgt := 21) hx hb dX10_mayBe_1 (by decide) (fun c_1 => ?_) (fun c_1 => ?_)
  · skip
    have c_1 : vd.toInt < (0 : Int32).toInt := i_lt.mp c_1
    refine lv_iconst (v := (-1)) hx hb dX10_mayBe_21 (by decide) ?_
    have k_m1 : ((-1) : Int32).toInt = (-1) := by decide
    rw [hQ9]
    exact rr_i hx hb hr hlocks trivial hS dX10_mayBe_22
  · skip
    have c_1 : ¬ (vd.toInt < (0 : Int32).toInt) := fun h9 => c_1 (i_lt.mpr h9)
    refine lv_iload_n hx hb dX10_mayBe_4 rfl (lv_at hl 1 rfl) ?_
    refine lv_aload_n hx hb dX10_mayBe_5 rfl (lv_at hl 0 rfl) ?_
    refine gf_X10_298 hx hb hts hown hK hP 0 rfl rfl dX10_mayBe_6 ?_
    refine lv_icmp_ge (tgt := 21) hx hb dX10_mayBe_9 (by decide) (fun c_2 => ?_) (fun c_2 => ?_)
    · skip
      have c_2 : vomd.toInt ≤ vd.toInt := i_le.mp c_2
      refine lv_iconst (v := (-1)) hx hb dX10_mayBe_21 (by decide) ?_
      have k_m1 : ((-1) : Int32).toInt = (-1) := by decide
      rw [hQ9]
      exact rr_i hx hb hr hlocks trivial hS dX10_mayBe_22
    · skip
      have c_2 : ¬ (vomd.toInt ≤ vd.toInt) := fun h9 => c_2 (i_le.mpr h9)
      refine lv_aload_n hx hb dX10_mayBe_12 rfl (lv_at hl 0 rfl) ?_
      refine gf_X10_58 hx hb hts hown hK hP 0 rfl rfl dX10_mayBe_13 ?_
      refine lv_iload_n hx hb dX10_mayBe_16 rfl (lv_at hl 1 rfl) ?_
      have hin_3 : vp_in vd 10 := vp_in_iff.mpr ⟨by omega, by omega⟩
      refine va_iald hx hb hK hP 1 0 rfl rfl hin_3 dX10_mayBe_17 ?_
      refine lv_topi (fun z_4 ez_4 => ?_)
      refine lv_goto (tgt := 22) hx hb dX10_mayBe_18 (by decide) ?_
      rw [hQ9]
      exact rr_i hx hb hr hlocks trivial hS dX10_mayBe_22
abbrev cX10_careerOf : ByteArray := prog_1_method_29_code
def yX10_careerOf : MethodName := ⟨RX10, "careerOf", "(I)I"⟩
theorem t960 : Cond.code yX10_careerOf cX10_careerOf 2 (some .int) ∈ GW := gw_mem 1074 (by decide +kernel) (by decide +kernel)
theorem dX10_careerOf_0 : decode cX10_careerOf 0 = .ok (.iload_n 1, 1) := by decide +kernel
theorem dX10_careerOf_1 : decode cX10_careerOf 1 = .ok (.ifCond .lt 20, 3) := by decide +kernel
theorem dX10_careerOf_21 : decode cX10_careerOf 21 = .ok (.iconst (-1), 1) := by decide +kernel
theorem dX10_careerOf_22 : decode cX10_careerOf 22 = .ok (.ireturn, 1) := by decide +kernel
theorem dX10_careerOf_4 : decode cX10_careerOf 4 = .ok (.iload_n 1, 1) := by decide +kernel
theorem dX10_careerOf_5 : decode cX10_careerOf 5 = .ok (.aload_n 0, 1) := by decide +kernel
theorem dX10_careerOf_6 : decode cX10_careerOf 6 = .ok (.getfield 318, 3) := by decide +kernel
theorem t493 : Cond.fieldLink RX10 318 "LikenessPound" "careerDeeds" "I" ∈ GW := gw_mem 607 (by decide +kernel) (by decide +kernel)
theorem gf_X10_318 {p : Program} {l : Launch} {e : Env} {R : Room} {s : State} {m : MethodId} {args : Array Value} {below : List Frame} {meth : Method} {c : Code} {H : Heap} {locs : List Loc} {cells slots : Nat} {Q : State → Prop} {cc : ByteArray} {pc : Nat} {ls : Array Slot} {rest : List Value} {D : va_G} {a : Nat} {tys : List (ClassId × FieldType)} {ws : va_W} (hx : p.tables.exec = Jvm.exec) (hb : c.code = cc) (hts : ∀ w ∈ GW, w.before args s = true) (hown : s.vm.findClass RX10 = some m.cls) (hK : va_K D vwCl tys s) (hP : va_P D vwCl ws H) (q0 : Nat) {fs : List Value} (he : ws[q0]? = some (a, .inr (11, fs))) {v : Value} (hv : fs[16]? = some v) (hdg : decode cc pc = .ok (.getfield 318, 3)) (kk : W p l e R s m args below meth c H locs cells slots Q (F0 m (pc + 3) ls (v :: rest))) : W p l e R s m args below meth c H locs cells slots Q (F0 m pc ls (.ref a :: rest)) := va_get (C := RX10) (T := TX10) (N := 17) (ci := 11) hx hb hts inX10 hown hK hP q0 he rfl 16 (by decide) (hts _ t493) (fun _ h => h) hv hdg kk
theorem dX10_careerOf_9 : decode cX10_careerOf 9 = .ok (.if_icmp .ge 12, 3) := by decide +kernel
theorem dX10_careerOf_12 : decode cX10_careerOf 12 = .ok (.aload_n 0, 1) := by decide +kernel
theorem dX10_careerOf_13 : decode cX10_careerOf 13 = .ok (.getfield 62, 3) := by decide +kernel
theorem t485 : Cond.fieldLink RX10 62 "LikenessPound" "careerRow" "[I" ∈ GW := gw_mem 599 (by decide +kernel) (by decide +kernel)
theorem gf_X10_62 {p : Program} {l : Launch} {e : Env} {R : Room} {s : State} {m : MethodId} {args : Array Value} {below : List Frame} {meth : Method} {c : Code} {H : Heap} {locs : List Loc} {cells slots : Nat} {Q : State → Prop} {cc : ByteArray} {pc : Nat} {ls : Array Slot} {rest : List Value} {D : va_G} {a : Nat} {tys : List (ClassId × FieldType)} {ws : va_W} (hx : p.tables.exec = Jvm.exec) (hb : c.code = cc) (hts : ∀ w ∈ GW, w.before args s = true) (hown : s.vm.findClass RX10 = some m.cls) (hK : va_K D vwCl tys s) (hP : va_P D vwCl ws H) (q0 : Nat) {fs : List Value} (he : ws[q0]? = some (a, .inr (11, fs))) {v : Value} (hv : fs[8]? = some v) (hdg : decode cc pc = .ok (.getfield 62, 3)) (kk : W p l e R s m args below meth c H locs cells slots Q (F0 m (pc + 3) ls (v :: rest))) : W p l e R s m args below meth c H locs cells slots Q (F0 m pc ls (.ref a :: rest)) := va_get (C := RX10) (T := TX10) (N := 17) (ci := 11) hx hb hts inX10 hown hK hP q0 he rfl 8 (by decide) (hts _ t485) (fun _ h => h) hv hdg kk
theorem dX10_careerOf_16 : decode cX10_careerOf 16 = .ok (.iload_n 1, 1) := by decide +kernel
theorem dX10_careerOf_17 : decode cX10_careerOf 17 = .ok (.iaload, 1) := by decide +kernel
theorem dX10_careerOf_18 : decode cX10_careerOf 18 = .ok (.goto 4, 3) := by decide +kernel
set_option maxHeartbeats 4000000 in
set_option maxRecDepth 100000 in
theorem g_careerOf (l : Launch) (dC : Nat → ClassId) (dI : Nat → Nat → Nat) (cy : Nat → ClassId) (vo : Nat) (vt : Nat) (vx : Nat) (vb : Nat) (va : Nat) (ve : Nat) (vs : Nat) (vg : Nat) (vmr : Nat) (vkr : Nat) (vim : Nat) (vik : Nat) (vw : Nat) (vdw : Nat) (volf : Int32) (volh : Int32) (vomd : Int32) (vocd : Int32) (vkrf : Nat → Int32) (vd : Int32) (r_vomd : 0 ≤ (vomd : Int32).toInt ∧ (vomd : Int32).toInt ≤ 10) (r_vocd : 0 ≤ (vocd : Int32).toInt ∧ (vocd : Int32).toInt ≤ 10) : Met l yX10_careerOf (wl yX10_careerOf cX10_careerOf 2 (some .int)) ({ frames := 0, cells := 0, slots := 0, locals := 0 }) (Pr (dC, dI) vwCl cy [(vo, .inr (11, [.ref vt, .ref vx, .ref vb, .ref va, .ref ve, .ref vs, .ref vg, .ref vmr, .ref vkr, .ref vim, .ref vik, .ref vw, .ref vdw, .int volf, .int volh, .int vomd, .int vocd])), (vkr, .inl (cy 0, 10, .inl vkrf))] [.ref vo, .int vd]) (Ri (fun r => True)) 0 0 (fun _ => False) := by
  refine mr RX10 rfl (by decide +kernel) (Nat.le_of_ble_eq_true rfl) ?_
  intro p e s m below meth c hx hb hr hlocks av9 hav hts hown hml hK hP hS Q9 hQ9 ls hl
  have hl : lv_has ls 2 [(0, .ref vo), (1, .int vd)] := hl
  refine lv_iload_n hx hb dX10_careerOf_0 rfl (lv_at hl 1 rfl) ?_
  have k_0 : (0 : Int32).toInt = 0 := by decide
  refine lv_if_lt (tgt := 21) hx hb dX10_careerOf_1 (by decide) (fun c_1 => ?_) (fun c_1 => ?_)
  · skip
    have c_1 : vd.toInt < (0 : Int32).toInt := i_lt.mp c_1
    refine lv_iconst (v := (-1)) hx hb dX10_careerOf_21 (by decide) ?_
    have k_m1 : ((-1) : Int32).toInt = (-1) := by decide
    rw [hQ9]
    exact rr_i hx hb hr hlocks trivial hS dX10_careerOf_22
  · skip
    have c_1 : ¬ (vd.toInt < (0 : Int32).toInt) := fun h9 => c_1 (i_lt.mpr h9)
    refine lv_iload_n hx hb dX10_careerOf_4 rfl (lv_at hl 1 rfl) ?_
    refine lv_aload_n hx hb dX10_careerOf_5 rfl (lv_at hl 0 rfl) ?_
    refine gf_X10_318 hx hb hts hown hK hP 0 rfl rfl dX10_careerOf_6 ?_
    refine lv_icmp_ge (tgt := 21) hx hb dX10_careerOf_9 (by decide) (fun c_2 => ?_) (fun c_2 => ?_)
    · skip
      have c_2 : vocd.toInt ≤ vd.toInt := i_le.mp c_2
      refine lv_iconst (v := (-1)) hx hb dX10_careerOf_21 (by decide) ?_
      have k_m1 : ((-1) : Int32).toInt = (-1) := by decide
      rw [hQ9]
      exact rr_i hx hb hr hlocks trivial hS dX10_careerOf_22
    · skip
      have c_2 : ¬ (vocd.toInt ≤ vd.toInt) := fun h9 => c_2 (i_le.mpr h9)
      refine lv_aload_n hx hb dX10_careerOf_12 rfl (lv_at hl 0 rfl) ?_
      refine gf_X10_62 hx hb hts hown hK hP 0 rfl rfl dX10_careerOf_13 ?_
      refine lv_iload_n hx hb dX10_careerOf_16 rfl (lv_at hl 1 rfl) ?_
      have hin_3 : vp_in vd 10 := vp_in_iff.mpr ⟨by omega, by omega⟩
      refine va_iald hx hb hK hP 1 0 rfl rfl hin_3 dX10_careerOf_17 ?_
      refine lv_topi (fun z_4 ez_4 => ?_)
      refine lv_goto (tgt := 22) hx hb dX10_careerOf_18 (by decide) ?_
      rw [hQ9]
      exact rr_i hx hb hr hlocks trivial hS dX10_careerOf_22
abbrev cX10_told : ByteArray := prog_1_method_37_code
def yX10_told : MethodName := ⟨RX10, "told", "(I)I"⟩
theorem t1255 : Cond.code yX10_told cX10_told 2 (some .int) ∈ GW := gw_mem 1369 (by decide +kernel) (by decide +kernel)
theorem dX10_told_0 : decode cX10_told 0 = .ok (.aload_n 0, 1) := by decide +kernel
theorem dX10_told_1 : decode cX10_told 1 = .ok (.getfield 26, 3) := by decide +kernel
theorem t479 : Cond.fieldLink RX10 26 "LikenessPound" "bookText" "LLikenessPound$BookText;" ∈ GW := gw_mem 593 (by decide +kernel) (by decide +kernel)
theorem gf_X10_26 {p : Program} {l : Launch} {e : Env} {R : Room} {s : State} {m : MethodId} {args : Array Value} {below : List Frame} {meth : Method} {c : Code} {H : Heap} {locs : List Loc} {cells slots : Nat} {Q : State → Prop} {cc : ByteArray} {pc : Nat} {ls : Array Slot} {rest : List Value} {D : va_G} {a : Nat} {tys : List (ClassId × FieldType)} {ws : va_W} (hx : p.tables.exec = Jvm.exec) (hb : c.code = cc) (hts : ∀ w ∈ GW, w.before args s = true) (hown : s.vm.findClass RX10 = some m.cls) (hK : va_K D vwCl tys s) (hP : va_P D vwCl ws H) (q0 : Nat) {fs : List Value} (he : ws[q0]? = some (a, .inr (11, fs))) {v : Value} (hv : fs[2]? = some v) (hdg : decode cc pc = .ok (.getfield 26, 3)) (kk : W p l e R s m args below meth c H locs cells slots Q (F0 m (pc + 3) ls (v :: rest))) : W p l e R s m args below meth c H locs cells slots Q (F0 m pc ls (.ref a :: rest)) := va_get (C := RX10) (T := TX10) (N := 17) (ci := 11) hx hb hts inX10 hown hK hP q0 he rfl 2 (by decide) (hts _ t479) (fun _ h => h) hv hdg kk
theorem dX10_told_4 : decode cX10_told 4 = .ok (.getfield 374, 3) := by decide +kernel
theorem t181 : Cond.fieldLink RX10 374 "LikenessPound$BookText" "judged" "Z" ∈ GW := gw_mem 295 (by decide +kernel) (by decide +kernel)
theorem gf_X10_374 {p : Program} {l : Launch} {e : Env} {R : Room} {s : State} {m : MethodId} {args : Array Value} {below : List Frame} {meth : Method} {c : Code} {H : Heap} {locs : List Loc} {cells slots : Nat} {Q : State → Prop} {cc : ByteArray} {pc : Nat} {ls : Array Slot} {rest : List Value} {D : va_G} {a : Nat} {tys : List (ClassId × FieldType)} {ws : va_W} (hx : p.tables.exec = Jvm.exec) (hb : c.code = cc) (hts : ∀ w ∈ GW, w.before args s = true) (hown : s.vm.findClass RX10 = some m.cls) (hK : va_K D vwCl tys s) (hP : va_P D vwCl ws H) (q0 : Nat) {fs : List Value} (he : ws[q0]? = some (a, .inr (1, fs))) {v : Value} (hv : fs[5]? = some v) (hdg : decode cc pc = .ok (.getfield 374, 3)) (kk : W p l e R s m args below meth c H locs cells slots Q (F0 m (pc + 3) ls (v :: rest))) : W p l e R s m args below meth c H locs cells slots Q (F0 m pc ls (.ref a :: rest)) := va_get (C := RX0) (T := TX0) (N := 10) (ci := 1) hx hb hts inX0 hown hK hP q0 he rfl 5 (by decide) (hts _ t181) (fun _ h => h) hv hdg kk
theorem dX10_told_7 : decode cX10_told 7 = .ok (.ifCond .ne 5, 3) := by decide +kernel
theorem dX10_told_12 : decode cX10_told 12 = .ok (.iload_n 1, 1) := by decide +kernel
theorem dX10_told_13 : decode cX10_told 13 = .ok (.tableswitch 63 0 3 #[31, 39, 47, 55], 31) := by decide +kernel
theorem dX10_told_44 : decode cX10_told 44 = .ok (.aload_n 0, 1) := by decide +kernel
theorem dX10_told_45 : decode cX10_told 45 = .ok (.getfield 26, 3) := by decide +kernel
theorem dX10_told_48 : decode cX10_told 48 = .ok (.getfield 378, 3) := by decide +kernel
theorem t183 : Cond.fieldLink RX10 378 "LikenessPound$BookText" "why" "I" ∈ GW := gw_mem 297 (by decide +kernel) (by decide +kernel)
theorem gf_X10_378 {p : Program} {l : Launch} {e : Env} {R : Room} {s : State} {m : MethodId} {args : Array Value} {below : List Frame} {meth : Method} {c : Code} {H : Heap} {locs : List Loc} {cells slots : Nat} {Q : State → Prop} {cc : ByteArray} {pc : Nat} {ls : Array Slot} {rest : List Value} {D : va_G} {a : Nat} {tys : List (ClassId × FieldType)} {ws : va_W} (hx : p.tables.exec = Jvm.exec) (hb : c.code = cc) (hts : ∀ w ∈ GW, w.before args s = true) (hown : s.vm.findClass RX10 = some m.cls) (hK : va_K D vwCl tys s) (hP : va_P D vwCl ws H) (q0 : Nat) {fs : List Value} (he : ws[q0]? = some (a, .inr (1, fs))) {v : Value} (hv : fs[6]? = some v) (hdg : decode cc pc = .ok (.getfield 378, 3)) (kk : W p l e R s m args below meth c H locs cells slots Q (F0 m (pc + 3) ls (v :: rest))) : W p l e R s m args below meth c H locs cells slots Q (F0 m pc ls (.ref a :: rest)) := va_get (C := RX0) (T := TX0) (N := 10) (ci := 1) hx hb hts inX0 hown hK hP q0 he rfl 6 (by decide) (hts _ t183) (fun _ h => h) hv hdg kk
theorem dX10_told_51 : decode cX10_told 51 = .ok (.ireturn, 1) := by decide +kernel
theorem dX10_told_52 : decode cX10_told 52 = .ok (.aload_n 0, 1) := by decide +kernel
theorem dX10_told_53 : decode cX10_told 53 = .ok (.getfield 26, 3) := by decide +kernel
theorem dX10_told_56 : decode cX10_told 56 = .ok (.getfield 381, 3) := by decide +kernel
theorem t185 : Cond.fieldLink RX10 381 "LikenessPound$BookText" "lived" "I" ∈ GW := gw_mem 299 (by decide +kernel) (by decide +kernel)
theorem gf_X10_381 {p : Program} {l : Launch} {e : Env} {R : Room} {s : State} {m : MethodId} {args : Array Value} {below : List Frame} {meth : Method} {c : Code} {H : Heap} {locs : List Loc} {cells slots : Nat} {Q : State → Prop} {cc : ByteArray} {pc : Nat} {ls : Array Slot} {rest : List Value} {D : va_G} {a : Nat} {tys : List (ClassId × FieldType)} {ws : va_W} (hx : p.tables.exec = Jvm.exec) (hb : c.code = cc) (hts : ∀ w ∈ GW, w.before args s = true) (hown : s.vm.findClass RX10 = some m.cls) (hK : va_K D vwCl tys s) (hP : va_P D vwCl ws H) (q0 : Nat) {fs : List Value} (he : ws[q0]? = some (a, .inr (1, fs))) {v : Value} (hv : fs[7]? = some v) (hdg : decode cc pc = .ok (.getfield 381, 3)) (kk : W p l e R s m args below meth c H locs cells slots Q (F0 m (pc + 3) ls (v :: rest))) : W p l e R s m args below meth c H locs cells slots Q (F0 m pc ls (.ref a :: rest)) := va_get (C := RX0) (T := TX0) (N := 10) (ci := 1) hx hb hts inX0 hown hK hP q0 he rfl 7 (by decide) (hts _ t185) (fun _ h => h) hv hdg kk
theorem dX10_told_59 : decode cX10_told 59 = .ok (.ireturn, 1) := by decide +kernel
theorem dX10_told_60 : decode cX10_told 60 = .ok (.aload_n 0, 1) := by decide +kernel
theorem dX10_told_61 : decode cX10_told 61 = .ok (.getfield 26, 3) := by decide +kernel
theorem dX10_told_64 : decode cX10_told 64 = .ok (.getfield 384, 3) := by decide +kernel
theorem t187 : Cond.fieldLink RX10 384 "LikenessPound$BookText" "yearThen" "I" ∈ GW := gw_mem 301 (by decide +kernel) (by decide +kernel)
theorem gf_X10_384 {p : Program} {l : Launch} {e : Env} {R : Room} {s : State} {m : MethodId} {args : Array Value} {below : List Frame} {meth : Method} {c : Code} {H : Heap} {locs : List Loc} {cells slots : Nat} {Q : State → Prop} {cc : ByteArray} {pc : Nat} {ls : Array Slot} {rest : List Value} {D : va_G} {a : Nat} {tys : List (ClassId × FieldType)} {ws : va_W} (hx : p.tables.exec = Jvm.exec) (hb : c.code = cc) (hts : ∀ w ∈ GW, w.before args s = true) (hown : s.vm.findClass RX10 = some m.cls) (hK : va_K D vwCl tys s) (hP : va_P D vwCl ws H) (q0 : Nat) {fs : List Value} (he : ws[q0]? = some (a, .inr (1, fs))) {v : Value} (hv : fs[8]? = some v) (hdg : decode cc pc = .ok (.getfield 384, 3)) (kk : W p l e R s m args below meth c H locs cells slots Q (F0 m (pc + 3) ls (v :: rest))) : W p l e R s m args below meth c H locs cells slots Q (F0 m pc ls (.ref a :: rest)) := va_get (C := RX0) (T := TX0) (N := 10) (ci := 1) hx hb hts inX0 hown hK hP q0 he rfl 8 (by decide) (hts _ t187) (fun _ h => h) hv hdg kk
theorem dX10_told_67 : decode cX10_told 67 = .ok (.ireturn, 1) := by decide +kernel
theorem dX10_told_68 : decode cX10_told 68 = .ok (.aload_n 0, 1) := by decide +kernel
theorem dX10_told_69 : decode cX10_told 69 = .ok (.getfield 26, 3) := by decide +kernel
theorem dX10_told_72 : decode cX10_told 72 = .ok (.getfield 387, 3) := by decide +kernel
theorem t189 : Cond.fieldLink RX10 387 "LikenessPound$BookText" "seenThen" "I" ∈ GW := gw_mem 303 (by decide +kernel) (by decide +kernel)
theorem gf_X10_387 {p : Program} {l : Launch} {e : Env} {R : Room} {s : State} {m : MethodId} {args : Array Value} {below : List Frame} {meth : Method} {c : Code} {H : Heap} {locs : List Loc} {cells slots : Nat} {Q : State → Prop} {cc : ByteArray} {pc : Nat} {ls : Array Slot} {rest : List Value} {D : va_G} {a : Nat} {tys : List (ClassId × FieldType)} {ws : va_W} (hx : p.tables.exec = Jvm.exec) (hb : c.code = cc) (hts : ∀ w ∈ GW, w.before args s = true) (hown : s.vm.findClass RX10 = some m.cls) (hK : va_K D vwCl tys s) (hP : va_P D vwCl ws H) (q0 : Nat) {fs : List Value} (he : ws[q0]? = some (a, .inr (1, fs))) {v : Value} (hv : fs[9]? = some v) (hdg : decode cc pc = .ok (.getfield 387, 3)) (kk : W p l e R s m args below meth c H locs cells slots Q (F0 m (pc + 3) ls (v :: rest))) : W p l e R s m args below meth c H locs cells slots Q (F0 m pc ls (.ref a :: rest)) := va_get (C := RX0) (T := TX0) (N := 10) (ci := 1) hx hb hts inX0 hown hK hP q0 he rfl 9 (by decide) (hts _ t189) (fun _ h => h) hv hdg kk
theorem dX10_told_75 : decode cX10_told 75 = .ok (.ireturn, 1) := by decide +kernel
theorem dX10_told_76 : decode cX10_told 76 = .ok (.iconst (-1), 1) := by decide +kernel
theorem dX10_told_77 : decode cX10_told 77 = .ok (.ireturn, 1) := by decide +kernel
theorem dX10_told_10 : decode cX10_told 10 = .ok (.iconst (-1), 1) := by decide +kernel
theorem dX10_told_11 : decode cX10_told 11 = .ok (.ireturn, 1) := by decide +kernel
set_option maxHeartbeats 4000000 in
set_option maxRecDepth 100000 in
theorem g_told (l : Launch) (dC : Nat → ClassId) (dI : Nat → Nat → Nat) (cy : Nat → ClassId) (vo : Nat) (vt : Nat) (vx : Nat) (vb : Nat) (va : Nat) (ve : Nat) (vs : Nat) (vg : Nat) (vmr : Nat) (vkr : Nat) (vim : Nat) (vik : Nat) (vw : Nat) (vdw : Nat) (volf : Int32) (volh : Int32) (vomd : Int32) (vocd : Int32) (vb1 : Nat) (vb2 : Nat) (vb3 : Nat) (vb4 : Nat) (vbl : Int32) (vbj : Int32) (vbw : Int32) (vbv : Int32) (vby : Int32) (vbs : Int32) (vk : Int32)  : Met l yX10_told (wl yX10_told cX10_told 2 (some .int)) ({ frames := 0, cells := 0, slots := 0, locals := 0 }) (Pr (dC, dI) vwCl cy [(vo, .inr (11, [.ref vt, .ref vx, .ref vb, .ref va, .ref ve, .ref vs, .ref vg, .ref vmr, .ref vkr, .ref vim, .ref vik, .ref vw, .ref vdw, .int volf, .int volh, .int vomd, .int vocd])), (vb, .inr (1, [.ref vb1, .ref vb2, .ref vb3, .ref vb4, .int vbl, .int vbj, .int vbw, .int vbv, .int vby, .int vbs]))] [.ref vo, .int vk]) (Ri (fun r => True)) 0 0 (fun _ => False) := by
  refine mr RX10 rfl (by decide +kernel) (Nat.le_of_ble_eq_true rfl) ?_
  intro p e s m below meth c hx hb hr hlocks av9 hav hts hown hml hK hP hS Q9 hQ9 ls hl
  have hl : lv_has ls 2 [(0, .ref vo), (1, .int vk)] := hl
  refine lv_aload_n hx hb dX10_told_0 rfl (lv_at hl 0 rfl) ?_
  refine gf_X10_26 hx hb hts hown hK hP 0 rfl rfl dX10_told_1 ?_
  refine gf_X10_374 hx hb hts hown hK hP 1 rfl rfl dX10_told_4 ?_
  have k_0 : (0 : Int32).toInt = 0 := by decide
  refine lv_if_ne (tgt := 12) hx hb dX10_told_7 (by decide) (fun c_1 => ?_) (fun c_1 => ?_)
  · skip
    have c_1 : ¬ (vbj.toInt = (0 : Int32).toInt) := fun h9 => c_1 (i_eq.mpr h9)
    refine lv_iload_n hx hb dX10_told_12 rfl (lv_at hl 1 rfl) ?_
    have k_1 : (1 : Int32).toInt = 1 := by decide
    have k_2 : (2 : Int32).toInt = 2 := by decide
    have k_3 : (3 : Int32).toInt = 3 := by decide
    by_cases sw_2_0 : vk.toInt = 0
    · refine as_i 0 (i_eq.mpr (sw_2_0.trans k_0.symm)) ?_
      refine lv_tableIn (off := 31) (tgt := 44) hx hb dX10_told_13 (by decide) (by decide) (by decide) (by decide) ?_
      refine lv_aload_n hx hb dX10_told_44 rfl (lv_at hl 0 rfl) ?_
      refine gf_X10_26 hx hb hts hown hK hP 0 rfl rfl dX10_told_45 ?_
      refine gf_X10_378 hx hb hts hown hK hP 1 rfl rfl dX10_told_48 ?_
      rw [hQ9]
      exact rr_i hx hb hr hlocks trivial hS dX10_told_51
    by_cases sw_2_1 : vk.toInt = 1
    · refine as_i 1 (i_eq.mpr (sw_2_1.trans k_1.symm)) ?_
      refine lv_tableIn (off := 39) (tgt := 52) hx hb dX10_told_13 (by decide) (by decide) (by decide) (by decide) ?_
      refine lv_aload_n hx hb dX10_told_52 rfl (lv_at hl 0 rfl) ?_
      refine gf_X10_26 hx hb hts hown hK hP 0 rfl rfl dX10_told_53 ?_
      refine gf_X10_381 hx hb hts hown hK hP 1 rfl rfl dX10_told_56 ?_
      rw [hQ9]
      exact rr_i hx hb hr hlocks trivial hS dX10_told_59
    by_cases sw_2_2 : vk.toInt = 2
    · refine as_i 2 (i_eq.mpr (sw_2_2.trans k_2.symm)) ?_
      refine lv_tableIn (off := 47) (tgt := 60) hx hb dX10_told_13 (by decide) (by decide) (by decide) (by decide) ?_
      refine lv_aload_n hx hb dX10_told_60 rfl (lv_at hl 0 rfl) ?_
      refine gf_X10_26 hx hb hts hown hK hP 0 rfl rfl dX10_told_61 ?_
      refine gf_X10_384 hx hb hts hown hK hP 1 rfl rfl dX10_told_64 ?_
      rw [hQ9]
      exact rr_i hx hb hr hlocks trivial hS dX10_told_67
    by_cases sw_2_3 : vk.toInt = 3
    · refine as_i 3 (i_eq.mpr (sw_2_3.trans k_3.symm)) ?_
      refine lv_tableIn (off := 55) (tgt := 68) hx hb dX10_told_13 (by decide) (by decide) (by decide) (by decide) ?_
      refine lv_aload_n hx hb dX10_told_68 rfl (lv_at hl 0 rfl) ?_
      refine gf_X10_26 hx hb hts hown hK hP 0 rfl rfl dX10_told_69 ?_
      refine gf_X10_387 hx hb hts hown hK hP 1 rfl rfl dX10_told_72 ?_
      rw [hQ9]
      exact rr_i hx hb hr hlocks trivial hS dX10_told_75
    refine lv_tableOut (tgt := 76) hx hb dX10_told_13 (by omega) (by decide) ?_
    refine lv_iconst (v := (-1)) hx hb dX10_told_76 (by decide) ?_
    have k_m1 : ((-1) : Int32).toInt = (-1) := by decide
    rw [hQ9]
    exact rr_i hx hb hr hlocks trivial hS dX10_told_77
  · skip
    have c_1 : vbj.toInt = (0 : Int32).toInt := i_eq.mp c_1
    refine lv_iconst (v := (-1)) hx hb dX10_told_10 (by decide) ?_
    have k_m1 : ((-1) : Int32).toInt = (-1) := by decide
    rw [hQ9]
    exact rr_i hx hb hr hlocks trivial hS dX10_told_11
abbrev cX10_count : ByteArray := prog_1_method_42_code
def yX10_count : MethodName := ⟨RX10, "count", "(I)I"⟩
theorem t1349 : Cond.code yX10_count cX10_count 2 (some .int) ∈ GW := gw_mem 1463 (by decide +kernel) (by decide +kernel)
theorem dX10_count_0 : decode cX10_count 0 = .ok (.iload_n 1, 1) := by decide +kernel
theorem dX10_count_1 : decode cX10_count 1 = .ok (.tableswitch 87 0 4 #[35, 46, 57, 68, 79], 35) := by decide +kernel
theorem dX10_count_36 : decode cX10_count 36 = .ok (.aload_n 0, 1) := by decide +kernel
theorem dX10_count_37 : decode cX10_count 37 = .ok (.getfield 76, 3) := by decide +kernel
theorem dX10_count_40 : decode cX10_count 40 = .ok (.getfield 94, 3) := by decide +kernel
theorem dX10_count_43 : decode cX10_count 43 = .ok (.getfield 324, 3) := by decide +kernel
theorem dX10_count_46 : decode cX10_count 46 = .ok (.ireturn, 1) := by decide +kernel
theorem dX10_count_47 : decode cX10_count 47 = .ok (.aload_n 0, 1) := by decide +kernel
theorem dX10_count_48 : decode cX10_count 48 = .ok (.getfield 76, 3) := by decide +kernel
theorem dX10_count_51 : decode cX10_count 51 = .ok (.getfield 94, 3) := by decide +kernel
theorem dX10_count_54 : decode cX10_count 54 = .ok (.getfield 295, 3) := by decide +kernel
theorem dX10_count_57 : decode cX10_count 57 = .ok (.ireturn, 1) := by decide +kernel
theorem dX10_count_58 : decode cX10_count 58 = .ok (.aload_n 0, 1) := by decide +kernel
theorem dX10_count_59 : decode cX10_count 59 = .ok (.getfield 76, 3) := by decide +kernel
theorem dX10_count_62 : decode cX10_count 62 = .ok (.getfield 94, 3) := by decide +kernel
theorem dX10_count_65 : decode cX10_count 65 = .ok (.getfield 185, 3) := by decide +kernel
theorem dX10_count_68 : decode cX10_count 68 = .ok (.ireturn, 1) := by decide +kernel
theorem dX10_count_69 : decode cX10_count 69 = .ok (.aload_n 0, 1) := by decide +kernel
theorem dX10_count_70 : decode cX10_count 70 = .ok (.getfield 76, 3) := by decide +kernel
theorem dX10_count_73 : decode cX10_count 73 = .ok (.getfield 94, 3) := by decide +kernel
theorem dX10_count_76 : decode cX10_count 76 = .ok (.getfield 403, 3) := by decide +kernel
theorem t410 : Cond.fieldLink RX10 403 "LikenessPound$Colony" "faint" "I" ∈ GW := gw_mem 524 (by decide +kernel) (by decide +kernel)
theorem gf_X10_403 {p : Program} {l : Launch} {e : Env} {R : Room} {s : State} {m : MethodId} {args : Array Value} {below : List Frame} {meth : Method} {c : Code} {H : Heap} {locs : List Loc} {cells slots : Nat} {Q : State → Prop} {cc : ByteArray} {pc : Nat} {ls : Array Slot} {rest : List Value} {D : va_G} {a : Nat} {tys : List (ClassId × FieldType)} {ws : va_W} (hx : p.tables.exec = Jvm.exec) (hb : c.code = cc) (hts : ∀ w ∈ GW, w.before args s = true) (hown : s.vm.findClass RX10 = some m.cls) (hK : va_K D vwCl tys s) (hP : va_P D vwCl ws H) (q0 : Nat) {fs : List Value} (he : ws[q0]? = some (a, .inr (2, fs))) {v : Value} (hv : fs[8]? = some v) (hdg : decode cc pc = .ok (.getfield 403, 3)) (kk : W p l e R s m args below meth c H locs cells slots Q (F0 m (pc + 3) ls (v :: rest))) : W p l e R s m args below meth c H locs cells slots Q (F0 m pc ls (.ref a :: rest)) := va_get (C := RX1) (T := TX1) (N := 9) (ci := 2) hx hb hts inX1 hown hK hP q0 he rfl 8 (by decide) (hts _ t410) (fun _ h => h) hv hdg kk
theorem dX10_count_79 : decode cX10_count 79 = .ok (.ireturn, 1) := by decide +kernel
theorem dX10_count_80 : decode cX10_count 80 = .ok (.aload_n 0, 1) := by decide +kernel
theorem dX10_count_81 : decode cX10_count 81 = .ok (.getfield 10, 3) := by decide +kernel
theorem dX10_count_84 : decode cX10_count 84 = .ok (.getfield 87, 3) := by decide +kernel
theorem dX10_count_87 : decode cX10_count 87 = .ok (.ireturn, 1) := by decide +kernel
theorem dX10_count_88 : decode cX10_count 88 = .ok (.iconst (-1), 1) := by decide +kernel
theorem dX10_count_89 : decode cX10_count 89 = .ok (.ireturn, 1) := by decide +kernel
set_option maxHeartbeats 4000000 in
set_option maxRecDepth 100000 in
theorem g_count (l : Launch) (dC : Nat → ClassId) (dI : Nat → Nat → Nat) (cy : Nat → ClassId) (vo : Nat) (vt : Nat) (vx : Nat) (vb : Nat) (va : Nat) (ve : Nat) (vs : Nat) (vg : Nat) (vmr : Nat) (vkr : Nat) (vim : Nat) (vik : Nat) (vw : Nat) (vdw : Nat) (volf : Int32) (volh : Int32) (vomd : Int32) (vocd : Int32) (vwc : Nat) (vwl : Nat) (vws : Nat) (vwc1 : Nat) (vwc2 : Nat) (vwc3 : Nat) (vwc4 : Nat) (vwc5 : Nat) (vwcm : Int32) (vwcd : Int32) (vwcr : Int32) (vwcw : Int32) (vt1 : Nat) (vt2 : Nat) (vtL : Int32) (vtli : Int32) (vta : Int32) (vtk : Int32) (vtst : Int32) (vtw : Int32) (vtc : Int64) (vtn : Int32) (vtfk : Int32) (vtfp : Int32) (vk : Int32) (r_vwcm : 0 ≤ (vwcm : Int32).toInt ∧ (vwcm : Int32).toInt ≤ 7) (r_vwcd : 0 ≤ (vwcd : Int32).toInt ∧ (vwcd : Int32).toInt ≤ 10) : Met l yX10_count (wl yX10_count cX10_count 2 (some .int)) ({ frames := 0, cells := 0, slots := 0, locals := 0 }) (Pr (dC, dI) vwCl cy [(vo, .inr (11, [.ref vt, .ref vx, .ref vb, .ref va, .ref ve, .ref vs, .ref vg, .ref vmr, .ref vkr, .ref vim, .ref vik, .ref vw, .ref vdw, .int volf, .int volh, .int vomd, .int vocd])), (vw, .inr (10, [.ref vwc, .ref vwl, .ref vws])), (vwc, .inr (2, [.ref vwc1, .ref vwc2, .ref vwc3, .ref vwc4, .ref vwc5, .int vwcm, .int vwcd, .int vwcr, .int vwcw])), (vt, .inr (9, [.ref vt1, .ref vt2, .int vtL, .int vtli, .int vta, .int vtk, .int vtst, .int vtw, .long vtc, .int vtn, .int vtfk, .int vtfp]))] [.ref vo, .int vk]) (Ri (fun r => (tkCnt (vk : Int32).toInt (r : Int32).toInt (vwcm : Int32).toInt (vwcd : Int32).toInt (vwcr : Int32).toInt (vwcw : Int32).toInt (vtL : Int32).toInt))) 0 0 (fun _ => False) := by
  refine mr RX10 rfl (by decide +kernel) (Nat.le_of_ble_eq_true rfl) ?_
  intro p e s m below meth c hx hb hr hlocks av9 hav hts hown hml hK hP hS Q9 hQ9 ls hl
  have hl : lv_has ls 2 [(0, .ref vo), (1, .int vk)] := hl
  refine lv_iload_n hx hb dX10_count_0 rfl (lv_at hl 1 rfl) ?_
  have k_0 : (0 : Int32).toInt = 0 := by decide
  have k_1 : (1 : Int32).toInt = 1 := by decide
  have k_2 : (2 : Int32).toInt = 2 := by decide
  have k_3 : (3 : Int32).toInt = 3 := by decide
  have k_4 : (4 : Int32).toInt = 4 := by decide
  by_cases sw_1_0 : vk.toInt = 0
  · refine as_i 0 (i_eq.mpr (sw_1_0.trans k_0.symm)) ?_
    refine lv_tableIn (off := 35) (tgt := 36) hx hb dX10_count_1 (by decide) (by decide) (by decide) (by decide) ?_
    refine lv_aload_n hx hb dX10_count_36 rfl (lv_at hl 0 rfl) ?_
    refine gf_X10_76 hx hb hts hown hK hP 0 rfl rfl dX10_count_37 ?_
    refine gf_X10_94 hx hb hts hown hK hP 1 rfl rfl dX10_count_40 ?_
    refine gf_X10_324 hx hb hts hown hK hP 2 rfl rfl dX10_count_43 ?_
    rw [hQ9]
    exact rr_i hx hb hr hlocks (show tkCnt (vk : Int32).toInt (vwcm : Int32).toInt (vwcm : Int32).toInt (vwcd : Int32).toInt (vwcr : Int32).toInt (vwcw : Int32).toInt (vtL : Int32).toInt from (by unfold tkCnt; omega)) hS dX10_count_46
  by_cases sw_1_1 : vk.toInt = 1
  · refine as_i 1 (i_eq.mpr (sw_1_1.trans k_1.symm)) ?_
    refine lv_tableIn (off := 46) (tgt := 47) hx hb dX10_count_1 (by decide) (by decide) (by decide) (by decide) ?_
    refine lv_aload_n hx hb dX10_count_47 rfl (lv_at hl 0 rfl) ?_
    refine gf_X10_76 hx hb hts hown hK hP 0 rfl rfl dX10_count_48 ?_
    refine gf_X10_94 hx hb hts hown hK hP 1 rfl rfl dX10_count_51 ?_
    refine gf_X10_295 hx hb hts hown hK hP 2 rfl rfl dX10_count_54 ?_
    rw [hQ9]
    exact rr_i hx hb hr hlocks (show tkCnt (vk : Int32).toInt (vwcd : Int32).toInt (vwcm : Int32).toInt (vwcd : Int32).toInt (vwcr : Int32).toInt (vwcw : Int32).toInt (vtL : Int32).toInt from (by unfold tkCnt; omega)) hS dX10_count_57
  by_cases sw_1_2 : vk.toInt = 2
  · refine as_i 2 (i_eq.mpr (sw_1_2.trans k_2.symm)) ?_
    refine lv_tableIn (off := 57) (tgt := 58) hx hb dX10_count_1 (by decide) (by decide) (by decide) (by decide) ?_
    refine lv_aload_n hx hb dX10_count_58 rfl (lv_at hl 0 rfl) ?_
    refine gf_X10_76 hx hb hts hown hK hP 0 rfl rfl dX10_count_59 ?_
    refine gf_X10_94 hx hb hts hown hK hP 1 rfl rfl dX10_count_62 ?_
    refine gf_X10_185 hx hb hts hown hK hP 2 rfl rfl dX10_count_65 ?_
    rw [hQ9]
    exact rr_i hx hb hr hlocks (show tkCnt (vk : Int32).toInt (vwcr : Int32).toInt (vwcm : Int32).toInt (vwcd : Int32).toInt (vwcr : Int32).toInt (vwcw : Int32).toInt (vtL : Int32).toInt from (by unfold tkCnt; omega)) hS dX10_count_68
  by_cases sw_1_3 : vk.toInt = 3
  · refine as_i 3 (i_eq.mpr (sw_1_3.trans k_3.symm)) ?_
    refine lv_tableIn (off := 68) (tgt := 69) hx hb dX10_count_1 (by decide) (by decide) (by decide) (by decide) ?_
    refine lv_aload_n hx hb dX10_count_69 rfl (lv_at hl 0 rfl) ?_
    refine gf_X10_76 hx hb hts hown hK hP 0 rfl rfl dX10_count_70 ?_
    refine gf_X10_94 hx hb hts hown hK hP 1 rfl rfl dX10_count_73 ?_
    refine gf_X10_403 hx hb hts hown hK hP 2 rfl rfl dX10_count_76 ?_
    rw [hQ9]
    exact rr_i hx hb hr hlocks (show tkCnt (vk : Int32).toInt (vwcw : Int32).toInt (vwcm : Int32).toInt (vwcd : Int32).toInt (vwcr : Int32).toInt (vwcw : Int32).toInt (vtL : Int32).toInt from (by unfold tkCnt; omega)) hS dX10_count_79
  by_cases sw_1_4 : vk.toInt = 4
  · refine as_i 4 (i_eq.mpr (sw_1_4.trans k_4.symm)) ?_
    refine lv_tableIn (off := 79) (tgt := 80) hx hb dX10_count_1 (by decide) (by decide) (by decide) (by decide) ?_
    refine lv_aload_n hx hb dX10_count_80 rfl (lv_at hl 0 rfl) ?_
    refine gf_X10_10 hx hb hts hown hK hP 0 rfl rfl dX10_count_81 ?_
    refine gf_X10_87 hx hb hts hown hK hP 3 rfl rfl dX10_count_84 ?_
    rw [hQ9]
    exact rr_i hx hb hr hlocks (show tkCnt (vk : Int32).toInt (vtL : Int32).toInt (vwcm : Int32).toInt (vwcd : Int32).toInt (vwcr : Int32).toInt (vwcw : Int32).toInt (vtL : Int32).toInt from (by unfold tkCnt; omega)) hS dX10_count_87
  refine lv_tableOut (tgt := 88) hx hb dX10_count_1 (by omega) (by decide) ?_
  refine lv_iconst (v := (-1)) hx hb dX10_count_88 (by decide) ?_
  have k_m1 : ((-1) : Int32).toInt = (-1) := by decide
  rw [hQ9]
  exact rr_i hx hb hr hlocks (show tkCnt (vk : Int32).toInt (((-1) : Int32) : Int32).toInt (vwcm : Int32).toInt (vwcd : Int32).toInt (vwcr : Int32).toInt (vwcw : Int32).toInt (vtL : Int32).toInt from (by unfold tkCnt; omega)) hS dX10_count_89
