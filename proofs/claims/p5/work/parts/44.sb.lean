abbrev cJ5_isLatin1_aae02 : ByteArray := prog_15_method_68_code
def yJ5_isLatin1_aae02 : MethodName := ⟨RJ5, "isLatin1", "()Z"⟩
theorem t1019 : Cond.code yJ5_isLatin1_aae02 cJ5_isLatin1_aae02 1 (some .boolean) ∈ GW := gw_mem 1133 (by decide +kernel) (by decide +kernel)
abbrev O_b_isLatin1 (cy : Nat → ClassId) (vg : Nat) (vgv : Nat) (vgm : Int32) (vgc : Int32) (vnb : Nat) (vgf : Nat → Int32) (u : Unit) : va_W := [(vg, .inr (0, [.ref vgv, .int 0, .int vgm, .int vgc])), (vgv, .inl (cy 3, vnb, .inl vgf))]
theorem dJ5_isLatin1_aae02_0 : decode cJ5_isLatin1_aae02 0 = .ok (.getstatic 18, 3) := by decide +kernel
theorem dJ5_isLatin1_aae02_3 : decode cJ5_isLatin1_aae02 3 = .ok (.ifCond .eq 14, 3) := by decide +kernel
theorem dJ5_isLatin1_aae02_6 : decode cJ5_isLatin1_aae02 6 = .ok (.aload_n 0, 1) := by decide +kernel
theorem dJ5_isLatin1_aae02_7 : decode cJ5_isLatin1_aae02 7 = .ok (.getfield 22, 3) := by decide +kernel
theorem gf_J5_22 {p : Program} {l : Launch} {e : Env} {R : Room} {s : State} {m : MethodId} {args : Array Value} {below : List Frame} {meth : Method} {c : Code} {H : Heap} {locs : List Loc} {cells slots : Nat} {Q : State → Prop} {cc : ByteArray} {pc : Nat} {ls : Array Slot} {rest : List Value} {D : va_G} {a : Nat} {tys : List (ClassId × FieldType)} {ws : va_W} (hx : p.tables.exec = Jvm.exec) (hb : c.code = cc) (hts : ∀ w ∈ GW, w.before args s = true) (hown : s.vm.findClass RJ5 = some m.cls) (hK : va_K D vwCl tys s) (hP : va_P D vwCl ws H) (q0 : Nat) {fs : List Value} (he : ws[q0]? = some (a, .inr (0, fs))) {v : Value} (hv : fs[1]? = some v) (hdg : decode cc pc = .ok (.getfield 22, 3)) (kk : W p l e R s m args below meth c H locs cells slots Q (F0 m (pc + 3) ls (v :: rest))) : W p l e R s m args below meth c H locs cells slots Q (F0 m pc ls (.ref a :: rest)) := va_get (C := RJ4) (T := TJ4) (N := 4) (ci := 0) hx hb hts inJ4 hown hK hP q0 he rfl 1 (by decide) (hts _ t348) (fun _ h => h) hv hdg kk
theorem dJ5_isLatin1_aae02_10 : decode cJ5_isLatin1_aae02 10 = .ok (.ifCond .ne 7, 3) := by decide +kernel
theorem dJ5_isLatin1_aae02_13 : decode cJ5_isLatin1_aae02 13 = .ok (.iconst 1, 1) := by decide +kernel
theorem dJ5_isLatin1_aae02_14 : decode cJ5_isLatin1_aae02 14 = .ok (.goto 4, 3) := by decide +kernel
theorem dJ5_isLatin1_aae02_18 : decode cJ5_isLatin1_aae02 18 = .ok (.ireturn, 1) := by decide +kernel
set_option maxHeartbeats 4000000 in
set_option maxRecDepth 100000 in
theorem b_isLatin1 (l : Launch) (dC : Nat → ClassId) (dI : Nat → Nat → Nat) (cy : Nat → ClassId) (sz : Nat) (B : Nat → Prop) (kS vS : Nat → Nat) (vg : Nat) (vgv : Nat) (vgm : Int32) (vgc : Int32) (vnb : Nat) (vgf : Nat → Int32) (p_vgf : sb_Fit vgf) (hB : ∀ q : Nat, va_A [(vg, .inr (0, [.ref vgv, .int 0, .int vgm, .int vgc])), (vgv, .inl (cy 3, vnb, .inl vgf))] sz q → B q) : Met l yJ5_isLatin1_aae02 (wl yJ5_isLatin1_aae02 cJ5_isLatin1_aae02 1 (some .boolean)) ({ frames := 0, cells := 0, slots := 0, locals := 0 }) (Pw (dC, dI) vwCl cy [(vg, .inr (0, [.ref vgv, .int 0, .int vgm, .int vgc])), (vgv, .inl (cy 3, vnb, .inl vgf))] sz [.ref vg] (EnvB B kS vS)) (Qi (dC, dI) vwCl (fun (r : Int32) (u : Unit) => ((r = 1))) (O_b_isLatin1 cy vg vgv vgm vgc vnb vgf) (va_A [(vg, .inr (0, [.ref vgv, .int 0, .int vgm, .int vgc])), (vgv, .inl (cy 3, vnb, .inl vgf))] sz)) 0 0 (va_A [(vg, .inr (0, [.ref vgv, .int 0, .int vgm, .int vgc])), (vgv, .inl (cy 3, vnb, .inl vgf))] sz) := by
  refine mw (Qc := Qi (dC, dI) vwCl (fun (r : Int32) (u : Unit) => ((r = 1))) (O_b_isLatin1 cy vg vgv vgm vgc vnb vgf)) RJ5 rfl (by decide +kernel) (Nat.le_of_ble_eq_true rfl) ?_
  intro p e s m below meth c A hx hb hr hlocks av9 hav hts hown hnm hml hK hP hD hA hS hE hAe Q9 hQ9 ls hl
  have hAB : ∀ q : Nat, A q → B q := by rw [hAe]; exact hB
  have hEA := hE.narrow hAB
  have hl : lv_has ls 1 [(0, .ref vg)] := hl
  refine va_gets hx hb hEA.2.2.2.2.2.1 hS hown (hts _ t339) (fun _ h => h) dJ5_isLatin1_aae02_0 ?_
  refine lv_if_eq (tgt := 17) hx hb dJ5_isLatin1_aae02_3 (by decide) (fun c9 => absurd c9 (by decide)) (fun _ => ?_)
  refine lv_aload_n hx hb dJ5_isLatin1_aae02_6 rfl (lv_at hl 0 rfl) ?_
  refine gf_J5_22 hx hb hts hown hK hP 0 rfl rfl dJ5_isLatin1_aae02_7 ?_
  refine lv_if_ne (tgt := 17) hx hb dJ5_isLatin1_aae02_10 (by decide) (fun c9 => absurd c9 (by decide)) (fun _ => ?_)
  refine lv_iconst (v := 1) hx hb dJ5_isLatin1_aae02_13 (by decide) ?_
  refine lv_goto (tgt := 18) hx hb dJ5_isLatin1_aae02_14 (by decide) ?_
  have k_1 : (1 : Int32).toInt = 1 := by decide
  rw [hQ9]
  exact re_z () hx hb hr hlocks (Or.inr rfl) (show ((1 : Int32) = 1) from (rfl)) (hP.sub [0, 1] rfl) (hD.sub [0, 1] rfl rfl) hS dJ5_isLatin1_aae02_18
abbrev cJ5_newCapacity_0f7a4 : ByteArray := prog_15_method_10_code
def yJ5_newCapacity_0f7a4 : MethodName := ⟨RJ5, "newCapacity", "(I)I"⟩
theorem t991 : Cond.code yJ5_newCapacity_0f7a4 cJ5_newCapacity_0f7a4 6 (some .int) ∈ GW := gw_mem 1105 (by decide +kernel) (by decide +kernel)
abbrev O_b_newCapacity (cy : Nat → ClassId) (vg : Nat) (vgv : Nat) (vgm : Int32) (vgc : Int32) (vnb : Nat) (vgf : Nat → Int32) (vmi : Int32) (u : Unit) : va_W := [(vg, .inr (0, [.ref vgv, .int 0, .int vgm, .int vgc])), (vgv, .inl (cy 3, vnb, .inl vgf))]
theorem dJ5_newCapacity_0f7a4_0 : decode cJ5_newCapacity_0f7a4 0 = .ok (.aload_n 0, 1) := by decide +kernel
theorem dJ5_newCapacity_0f7a4_1 : decode cJ5_newCapacity_0f7a4 1 = .ok (.getfield 15, 3) := by decide +kernel
theorem gf_J5_15 {p : Program} {l : Launch} {e : Env} {R : Room} {s : State} {m : MethodId} {args : Array Value} {below : List Frame} {meth : Method} {c : Code} {H : Heap} {locs : List Loc} {cells slots : Nat} {Q : State → Prop} {cc : ByteArray} {pc : Nat} {ls : Array Slot} {rest : List Value} {D : va_G} {a : Nat} {tys : List (ClassId × FieldType)} {ws : va_W} (hx : p.tables.exec = Jvm.exec) (hb : c.code = cc) (hts : ∀ w ∈ GW, w.before args s = true) (hown : s.vm.findClass RJ5 = some m.cls) (hK : va_K D vwCl tys s) (hP : va_P D vwCl ws H) (q0 : Nat) {fs : List Value} (he : ws[q0]? = some (a, .inr (0, fs))) {v : Value} (hv : fs[0]? = some v) (hdg : decode cc pc = .ok (.getfield 15, 3)) (kk : W p l e R s m args below meth c H locs cells slots Q (F0 m (pc + 3) ls (v :: rest))) : W p l e R s m args below meth c H locs cells slots Q (F0 m pc ls (.ref a :: rest)) := va_get (C := RJ4) (T := TJ4) (N := 4) (ci := 0) hx hb hts inJ4 hown hK hP q0 he rfl 0 (by decide) (hts _ t347) (fun _ h => h) hv hdg kk
theorem dJ5_newCapacity_0f7a4_4 : decode cJ5_newCapacity_0f7a4 4 = .ok (.arraylength, 1) := by decide +kernel
theorem dJ5_newCapacity_0f7a4_5 : decode cJ5_newCapacity_0f7a4 5 = .ok (.istore_n 2, 1) := by decide +kernel
theorem dJ5_newCapacity_0f7a4_6 : decode cJ5_newCapacity_0f7a4 6 = .ok (.iload_n 1, 1) := by decide +kernel
theorem dJ5_newCapacity_0f7a4_7 : decode cJ5_newCapacity_0f7a4 7 = .ok (.aload_n 0, 1) := by decide +kernel
theorem dJ5_newCapacity_0f7a4_8 : decode cJ5_newCapacity_0f7a4 8 = .ok (.getfield 22, 3) := by decide +kernel
theorem dJ5_newCapacity_0f7a4_11 : decode cJ5_newCapacity_0f7a4 11 = .ok (.ishl, 1) := by decide +kernel
theorem dJ5_newCapacity_0f7a4_12 : decode cJ5_newCapacity_0f7a4 12 = .ok (.istore_n 3, 1) := by decide +kernel
theorem dJ5_newCapacity_0f7a4_13 : decode cJ5_newCapacity_0f7a4 13 = .ok (.iload_n 3, 1) := by decide +kernel
theorem dJ5_newCapacity_0f7a4_14 : decode cJ5_newCapacity_0f7a4 14 = .ok (.iload_n 2, 1) := by decide +kernel
theorem dJ5_newCapacity_0f7a4_15 : decode cJ5_newCapacity_0f7a4 15 = .ok (.isub, 1) := by decide +kernel
theorem dJ5_newCapacity_0f7a4_16 : decode cJ5_newCapacity_0f7a4 16 = .ok (.istore 4, 2) := by decide +kernel
theorem dJ5_newCapacity_0f7a4_18 : decode cJ5_newCapacity_0f7a4 18 = .ok (.iload_n 2, 1) := by decide +kernel
theorem dJ5_newCapacity_0f7a4_19 : decode cJ5_newCapacity_0f7a4 19 = .ok (.iload 4, 2) := by decide +kernel
theorem dJ5_newCapacity_0f7a4_21 : decode cJ5_newCapacity_0f7a4 21 = .ok (.iload_n 2, 1) := by decide +kernel
theorem dJ5_newCapacity_0f7a4_22 : decode cJ5_newCapacity_0f7a4 22 = .ok (.iconst 2, 1) := by decide +kernel
theorem dJ5_newCapacity_0f7a4_23 : decode cJ5_newCapacity_0f7a4 23 = .ok (.aload_n 0, 1) := by decide +kernel
theorem dJ5_newCapacity_0f7a4_24 : decode cJ5_newCapacity_0f7a4 24 = .ok (.getfield 22, 3) := by decide +kernel
theorem dJ5_newCapacity_0f7a4_27 : decode cJ5_newCapacity_0f7a4 27 = .ok (.ishl, 1) := by decide +kernel
theorem dJ5_newCapacity_0f7a4_28 : decode cJ5_newCapacity_0f7a4 28 = .ok (.iadd, 1) := by decide +kernel
theorem dJ5_newCapacity_0f7a4_29 : decode cJ5_newCapacity_0f7a4 29 = .ok (.invokestatic 114, 3) := by decide +kernel
theorem t992 : Cond.methodLink RJ5 114 yJ8_newLength_cabcc ∈ GW := gw_mem 1106 (by decide +kernel) (by decide +kernel)
theorem t27 : Cond.initialized RJ8 ∈ GW := gw_mem 141 (by decide +kernel) (by decide +kernel)
theorem t993 : Cond.static yJ8_newLength_cabcc ∈ GW := gw_mem 1107 (by decide +kernel) (by decide +kernel)
theorem cw_J5_114 {R : Room} {s : State} {args : Array Value} {rm : Room} {mc ms : Nat} (hts : ∀ w ∈ GW, w.before args s = true) (hrc : rm.cells = mc) (hrs : rm.slots = ms) (hR : rm.frames + 1 ≤ R.frames ∧ 8 + (4 + 11) + rm.locals ≤ R.locals) : CallB R s args RJ5 114 yJ8_newLength_cabcc cJ8_newLength_cabcc 4 (some .int) (wl yJ8_newLength_cabcc cJ8_newLength_cabcc 4 (some .int)) rm mc ms 3 ∧ (Cond.static yJ8_newLength_cabcc).before args s = true := va_cwS 3 hts (gi_S t992 t993 t27 t994) rfl hrc hrs (by decide +kernel) hR
theorem dJ5_newCapacity_0f7a4_32 : decode cJ5_newCapacity_0f7a4 32 = .ok (.istore 5, 2) := by decide +kernel
theorem dJ5_newCapacity_0f7a4_34 : decode cJ5_newCapacity_0f7a4 34 = .ok (.iload 5, 2) := by decide +kernel
theorem dJ5_newCapacity_0f7a4_36 : decode cJ5_newCapacity_0f7a4 36 = .ok (.ldc 39, 2) := by decide +kernel
theorem t1002 : Cond.constant RJ5 39 2147483647 ∈ GW := gw_mem 1116 (by decide +kernel) (by decide +kernel)
theorem dJ5_newCapacity_0f7a4_38 : decode cJ5_newCapacity_0f7a4 38 = .ok (.if_icmp .ne 13, 3) := by decide +kernel
theorem dJ5_newCapacity_0f7a4_51 : decode cJ5_newCapacity_0f7a4 51 = .ok (.iload 5, 2) := by decide +kernel
theorem dJ5_newCapacity_0f7a4_53 : decode cJ5_newCapacity_0f7a4 53 = .ok (.aload_n 0, 1) := by decide +kernel
theorem dJ5_newCapacity_0f7a4_54 : decode cJ5_newCapacity_0f7a4 54 = .ok (.getfield 22, 3) := by decide +kernel
theorem dJ5_newCapacity_0f7a4_57 : decode cJ5_newCapacity_0f7a4 57 = .ok (.ishr, 1) := by decide +kernel
theorem dJ5_newCapacity_0f7a4_58 : decode cJ5_newCapacity_0f7a4 58 = .ok (.ireturn, 1) := by decide +kernel
set_option maxHeartbeats 4000000 in
set_option maxRecDepth 100000 in
theorem b_newCapacity (l : Launch) (dC : Nat → ClassId) (dI : Nat → Nat → Nat) (cy : Nat → ClassId) (sz : Nat) (B : Nat → Prop) (kS vS : Nat → Nat) (vg : Nat) (vgv : Nat) (vgm : Int32) (vgc : Int32) (vnb : Nat) (vgf : Nat → Int32) (vmi : Int32) (r_vmi : 17 ≤ (vmi : Int32).toInt ∧ (vmi : Int32).toInt ≤ 100) (p_vgf : sb_Fit vgf) (hn : (vnb = 16 ∨ vnb = 34 ∨ vnb = 70)) (hm : (vmi : Int32).toInt ≤ 2 * (vnb : Int) + 2) (hm2 : (vnb : Int) < (vmi : Int32).toInt) (hB : ∀ q : Nat, va_A [(vg, .inr (0, [.ref vgv, .int 0, .int vgm, .int vgc])), (vgv, .inl (cy 3, vnb, .inl vgf))] sz q → B q) : Met l yJ5_newCapacity_0f7a4 (wl yJ5_newCapacity_0f7a4 cJ5_newCapacity_0f7a4 6 (some .int)) ({ frames := 2, cells := 0, slots := 0, locals := 128 }) (Pw (dC, dI) vwCl cy [(vg, .inr (0, [.ref vgv, .int 0, .int vgm, .int vgc])), (vgv, .inl (cy 3, vnb, .inl vgf))] sz [.ref vg, .int vmi] (EnvB B kS vS)) (Qi (dC, dI) vwCl (fun (r : Int32) (u : Unit) => (34 ≤ (r : Int32).toInt ∧ (r : Int32).toInt ≤ 142) ∧ ((r : Int32).toInt = 2 * (vnb : Int) + 2)) (O_b_newCapacity cy vg vgv vgm vgc vnb vgf vmi) (va_A [(vg, .inr (0, [.ref vgv, .int 0, .int vgm, .int vgc])), (vgv, .inl (cy 3, vnb, .inl vgf))] sz)) 0 0 (va_A [(vg, .inr (0, [.ref vgv, .int 0, .int vgm, .int vgc])), (vgv, .inl (cy 3, vnb, .inl vgf))] sz) := by
  refine mw (Qc := Qi (dC, dI) vwCl (fun (r : Int32) (u : Unit) => (34 ≤ (r : Int32).toInt ∧ (r : Int32).toInt ≤ 142) ∧ ((r : Int32).toInt = 2 * (vnb : Int) + 2)) (O_b_newCapacity cy vg vgv vgm vgc vnb vgf vmi)) RJ5 rfl (by decide +kernel) (Nat.le_of_ble_eq_true rfl) ?_
  intro p e s m below meth c A hx hb hr hlocks av9 hav hts hown hnm hml hK hP hD hA hS hE hAe Q9 hQ9 ls hl
  have hAB : ∀ q : Nat, A q → B q := by rw [hAe]; exact hB
  have hEA := hE.narrow hAB
  have hl : lv_has ls 6 [(0, .ref vg), (1, .int vmi)] := hl
  refine lv_aload_n hx hb dJ5_newCapacity_0f7a4_0 rfl (lv_at hl 0 rfl) ?_
  refine gf_J5_15 hx hb hts hown hK hP 0 rfl rfl dJ5_newCapacity_0f7a4_1 ?_
  refine va_alen hx hb hK hP 1 3 rfl rfl rfl dJ5_newCapacity_0f7a4_4 ?_
  refine lv_topi (fun z_1 ez_1 => ?_)
  have bz_1 : z_1.toInt = ((vnb : Nat) : Int) := i_len ez_1 (by omega)
  refine lv_istore_n (lv' := [(2, .int z_1), (0, .ref vg), (1, .int vmi)]) hx hb dJ5_newCapacity_0f7a4_5 rfl hl (by decide) rfl (fun ls hl => ?_)
  refine lv_iload_n hx hb dJ5_newCapacity_0f7a4_6 rfl (lv_at hl 2 rfl) ?_
  refine lv_aload_n hx hb dJ5_newCapacity_0f7a4_7 rfl (lv_at hl 1 rfl) ?_
  refine gf_J5_22 hx hb hts hown hK hP 0 rfl rfl dJ5_newCapacity_0f7a4_8 ?_
  refine lv_ishl hx hb dJ5_newCapacity_0f7a4_11 ?_
  refine as_i vmi (sb_shl0 _) ?_
  refine lv_istore_n (lv' := [(3, .int vmi), (2, .int z_1), (0, .ref vg), (1, .int vmi)]) hx hb dJ5_newCapacity_0f7a4_12 rfl hl (by decide) rfl (fun ls hl => ?_)
  refine lv_iload_n hx hb dJ5_newCapacity_0f7a4_13 rfl (lv_at hl 0 rfl) ?_
  refine lv_iload_n hx hb dJ5_newCapacity_0f7a4_14 rfl (lv_at hl 1 rfl) ?_
  refine lv_isub hx hb dJ5_newCapacity_0f7a4_15 ?_
  refine lv_topi (fun z_2 ez_2 => ?_)
  have bz_2 : z_2.toInt = vmi.toInt - z_1.toInt := i_sub ez_2 (by omega) (by omega)
  refine lv_istore (lv' := [(4, .int z_2), (3, .int vmi), (2, .int z_1), (0, .ref vg), (1, .int vmi)]) hx hb dJ5_newCapacity_0f7a4_16 hl (by decide) rfl (fun ls hl => ?_)
  refine lv_iload_n hx hb dJ5_newCapacity_0f7a4_18 rfl (lv_at hl 2 rfl) ?_
  refine lv_iload hx hb dJ5_newCapacity_0f7a4_19 (lv_at hl 0 rfl) ?_
  refine lv_iload_n hx hb dJ5_newCapacity_0f7a4_21 rfl (lv_at hl 2 rfl) ?_
  refine lv_iconst (v := 2) hx hb dJ5_newCapacity_0f7a4_22 (by decide) ?_
  refine lv_aload_n hx hb dJ5_newCapacity_0f7a4_23 rfl (lv_at hl 3 rfl) ?_
  refine gf_J5_22 hx hb hts hown hK hP 0 rfl rfl dJ5_newCapacity_0f7a4_24 ?_
  refine lv_ishl hx hb dJ5_newCapacity_0f7a4_27 ?_
  refine as_i 2 (sb_shl0 _) ?_
  refine lv_iadd hx hb dJ5_newCapacity_0f7a4_28 ?_
  refine lv_topi (fun z_3 ez_3 => ?_)
  have k_2 : (2 : Int32).toInt = 2 := by decide
  have bz_3 : z_3.toInt = z_1.toInt + (2 : Int32).toInt := i_add ez_3 (by omega) (by omega)
  refine jr_i (rSr (As := [.int z_1, .int z_2, .int z_3]) (rest := []) ⟨hx, hb, hml, hown, hts⟩ (b_newLength l dC dI cy z_1 z_2 z_3 ⟨by omega, by omega⟩ ⟨by omega, by omega⟩ ⟨by omega, by omega⟩) (cw_J5_114 hts rfl rfl ⟨Nat.le_of_ble_eq_true rfl, Nat.le_of_ble_eq_true rfl⟩) hP hK [] rfl rfl hl.1 rfl (Nat.le_of_ble_eq_true rfl) dJ5_newCapacity_0f7a4_29 ⟨Nat.le_of_ble_eq_true rfl, Nat.le_of_ble_eq_true rfl⟩) hP hS (fun r_4 H locs hp_5 hP hS => ?_)
  have hp_5 : (34 ≤ (r_4 : Int32).toInt ∧ (r_4 : Int32).toInt ≤ 170) ∧ ((z_1 : Int32).toInt + (z_2 : Int32).toInt ≤ (r_4 : Int32).toInt) ∧ ((z_1 : Int32).toInt + (z_3 : Int32).toInt ≤ (r_4 : Int32).toInt) ∧ (((r_4 : Int32).toInt = (z_1 : Int32).toInt + (z_2 : Int32).toInt ∨ (r_4 : Int32).toInt = (z_1 : Int32).toInt + (z_3 : Int32).toInt)) := hp_5
  obtain ⟨q_6, q_7, q_8, q_9⟩ := hp_5
  refine lv_istore (lv' := [(5, .int r_4), (4, .int z_2), (3, .int vmi), (2, .int z_1), (0, .ref vg), (1, .int vmi)]) hx hb dJ5_newCapacity_0f7a4_32 hl (by decide) rfl (fun ls hl => ?_)
  refine lv_iload hx hb dJ5_newCapacity_0f7a4_34 (lv_at hl 0 rfl) ?_
  refine lv_ldc hx hb hown (hts _ t1002) dJ5_newCapacity_0f7a4_36 ?_
  have k_2147483647 : (2147483647 : Int32).toInt = 2147483647 := by decide
  refine lv_icmp_ne (tgt := 51) hx hb dJ5_newCapacity_0f7a4_38 (by decide) (fun _ => ?_) (fun c9 => absurd (i_eq.mp c9) (by omega))
  refine lv_iload hx hb dJ5_newCapacity_0f7a4_51 (lv_at hl 0 rfl) ?_
  refine lv_aload_n hx hb dJ5_newCapacity_0f7a4_53 rfl (lv_at hl 4 rfl) ?_
  refine gf_J5_22 hx hb hts hown hK hP 0 rfl rfl dJ5_newCapacity_0f7a4_54 ?_
  refine lv_ishr hx hb dJ5_newCapacity_0f7a4_57 ?_
  refine as_i r_4 (sb_shr0 _) ?_
  rw [hQ9]
  exact re_i () hx hb hr hlocks ⟨(show 34 ≤ (r_4 : Int32).toInt ∧ (r_4 : Int32).toInt ≤ 142 from ⟨by omega, by omega⟩), (show (r_4 : Int32).toInt = 2 * (vnb : Int) + 2 from (by omega))⟩ (hP.sub [0, 1] rfl) (hD.sub [0, 1] rfl rfl) hS dJ5_newCapacity_0f7a4_58
def RJ7 : String := "java/util/Arrays"
abbrev cJ7_copyOf_9075b : ByteArray := prog_33_method_121_code
def yJ7_copyOf_9075b : MethodName := ⟨RJ7, "copyOf", "([BI)[B"⟩
theorem t1005 : Cond.code yJ7_copyOf_9075b cJ7_copyOf_9075b 3 (some (.array .byte)) ∈ GW := gw_mem 1119 (by decide +kernel) (by decide +kernel)
abbrev O_b_copyOf_16 (cy : Nat → ClassId) (vgv : Nat) (vgf : Nat → Int32) (u : Nat × (Nat → Int32)) : va_W := [(vgv, .inl (cy 3, 16, .inl vgf)), (u.1, .inl (cy 3, 34, .inl u.2))]
theorem dJ7_copyOf_9075b_0 : decode cJ7_copyOf_9075b 0 = .ok (.iload_n 1, 1) := by decide +kernel
theorem dJ7_copyOf_9075b_1 : decode cJ7_copyOf_9075b 1 = .ok (.aload_n 0, 1) := by decide +kernel
theorem dJ7_copyOf_9075b_2 : decode cJ7_copyOf_9075b 2 = .ok (.arraylength, 1) := by decide +kernel
theorem dJ7_copyOf_9075b_3 : decode cJ7_copyOf_9075b 3 = .ok (.if_icmp .ne 11, 3) := by decide +kernel
theorem dJ7_copyOf_9075b_14 : decode cJ7_copyOf_9075b 14 = .ok (.iload_n 1, 1) := by decide +kernel
theorem dJ7_copyOf_9075b_15 : decode cJ7_copyOf_9075b 15 = .ok (.newarray .byte, 2) := by decide +kernel
theorem dJ7_copyOf_9075b_17 : decode cJ7_copyOf_9075b 17 = .ok (.astore_n 2, 1) := by decide +kernel
theorem dJ7_copyOf_9075b_18 : decode cJ7_copyOf_9075b 18 = .ok (.aload_n 0, 1) := by decide +kernel
theorem dJ7_copyOf_9075b_19 : decode cJ7_copyOf_9075b 19 = .ok (.iconst 0, 1) := by decide +kernel
theorem dJ7_copyOf_9075b_20 : decode cJ7_copyOf_9075b 20 = .ok (.aload_n 2, 1) := by decide +kernel
theorem dJ7_copyOf_9075b_21 : decode cJ7_copyOf_9075b 21 = .ok (.iconst 0, 1) := by decide +kernel
theorem dJ7_copyOf_9075b_22 : decode cJ7_copyOf_9075b 22 = .ok (.aload_n 0, 1) := by decide +kernel
theorem dJ7_copyOf_9075b_23 : decode cJ7_copyOf_9075b 23 = .ok (.arraylength, 1) := by decide +kernel
theorem dJ7_copyOf_9075b_24 : decode cJ7_copyOf_9075b 24 = .ok (.iload_n 1, 1) := by decide +kernel
theorem dJ7_copyOf_9075b_25 : decode cJ7_copyOf_9075b 25 = .ok (.invokestatic 304, 3) := by decide +kernel
theorem t1013 : Cond.methodLink RJ7 304 Lib.Math.min.name ∈ GW := gw_mem 1127 (by decide +kernel) (by decide +kernel)
theorem dJ7_copyOf_9075b_28 : decode cJ7_copyOf_9075b 28 = .ok (.invokestatic 150, 3) := by decide +kernel
theorem t1014 : Cond.methodLink RJ7 150 arraycopyName ∈ GW := gw_mem 1128 (by decide +kernel) (by decide +kernel)
theorem dJ7_copyOf_9075b_31 : decode cJ7_copyOf_9075b 31 = .ok (.aload_n 2, 1) := by decide +kernel
theorem dJ7_copyOf_9075b_32 : decode cJ7_copyOf_9075b 32 = .ok (.areturn, 1) := by decide +kernel
set_option maxHeartbeats 4000000 in
set_option maxRecDepth 100000 in
theorem b_copyOf_16 (l : Launch) (dC : Nat → ClassId) (dI : Nat → Nat → Nat) (cy : Nat → ClassId) (sz : Nat) (B : Nat → Prop) (kS vS : Nat → Nat) (vgv : Nat) (vgf : Nat → Int32) (p_vgf : sb_Fit vgf) (hB : ∀ q : Nat, va_A [(vgv, .inl (cy 3, 16, .inl vgf))] sz q → B q) : Met l yJ7_copyOf_9075b (wl yJ7_copyOf_9075b cJ7_copyOf_9075b 3 (some (.array .byte))) ({ frames := 1, cells := 1, slots := 34, locals := 64 }) (Pw (dC, dI) vwCl cy [(vgv, .inl (cy 3, 16, .inl vgf))] sz [.ref vgv, .int 34] (EnvB B kS vS)) (Qr (dC, dI) vwCl (fun (u : Nat × (Nat → Int32)) => (sb_Fit u.2)) (O_b_copyOf_16 cy vgv vgf) (fun (u : Nat × (Nat → Int32)) => u.1) (va_A [(vgv, .inl (cy 3, 16, .inl vgf))] sz)) 1 34 (va_A [(vgv, .inl (cy 3, 16, .inl vgf))] sz) := by
  refine mw (Qc := Qr (dC, dI) vwCl (fun (u : Nat × (Nat → Int32)) => (sb_Fit u.2)) (O_b_copyOf_16 cy vgv vgf) (fun (u : Nat × (Nat → Int32)) => u.1)) RJ7 rfl (by decide +kernel) (Nat.le_of_ble_eq_true rfl) ?_
  intro p e s m below meth c A hx hb hr hlocks av9 hav hts hown hnm hml hK hP hD hA hS hE hAe Q9 hQ9 ls hl
  have hAB : ∀ q : Nat, A q → B q := by rw [hAe]; exact hB
  have hEA := hE.narrow hAB
  have hl : lv_has ls 3 [(0, .ref vgv), (1, .int 34)] := hl
  refine lv_iload_n hx hb dJ7_copyOf_9075b_0 rfl (lv_at hl 1 rfl) ?_
  refine lv_aload_n hx hb dJ7_copyOf_9075b_1 rfl (lv_at hl 0 rfl) ?_
  refine va_alen hx hb hK hP 0 3 rfl rfl rfl dJ7_copyOf_9075b_2 ?_
  refine lv_topi (fun z_1 ez_1 => ?_)
  have bz_1 : z_1.toInt = ((16 : Nat) : Int) := i_len ez_1 (by omega)
  have k_34 : (34 : Int32).toInt = 34 := by decide
  refine lv_icmp_ne (tgt := 14) hx hb dJ7_copyOf_9075b_3 (by decide) (fun _ => ?_) (fun c9 => absurd (i_eq.mp c9) (by omega))
  refine lv_iload_n hx hb dJ7_copyOf_9075b_14 rfl (lv_at hl 1 rfl) ?_
  refine na_x (atype := .byte) (a0 := (34, .inl (fun _ => 0))) (ty := .byte) hx hb (hts _ t145) rfl 3 rfl hK hP hD hS hA (fun _ => rfl) (by decide) (N' := 34) rfl (Nat.le_of_ble_eq_true rfl) (Nat.le_of_ble_eq_true rfl) (Nat.le_of_ble_eq_true rfl) dJ7_copyOf_9075b_15 (fun q_2 H hP hD hS => ?_)
  have hP : va_P (dC, dI) vwCl [(vgv, .inl (cy 3, 16, .inl vgf)), (q_2, .inl (cy 3, 34, .inl (fun _ => 0)))] H := hP
  have hD : va_D A [(vgv, .inl (cy 3, 16, .inl vgf)), (q_2, .inl (cy 3, 34, .inl (fun _ => 0)))] := hD
  refine W.widen (k := 1) (n := 34) (by decide) (by decide) ?_
  refine lv_astore_n (lv' := [(2, .ref q_2), (0, .ref vgv), (1, .int 34)]) hx hb dJ7_copyOf_9075b_17 rfl hl (by decide) rfl (fun ls hl => ?_)
  refine lv_aload_n hx hb dJ7_copyOf_9075b_18 rfl (lv_at hl 1 rfl) ?_
  refine lv_iconst (v := 0) hx hb dJ7_copyOf_9075b_19 (by decide) ?_
  refine lv_aload_n hx hb dJ7_copyOf_9075b_20 rfl (lv_at hl 0 rfl) ?_
  refine lv_iconst (v := 0) hx hb dJ7_copyOf_9075b_21 (by decide) ?_
  refine lv_aload_n hx hb dJ7_copyOf_9075b_22 rfl (lv_at hl 1 rfl) ?_
  refine va_alen hx hb hK hP 0 3 rfl rfl rfl dJ7_copyOf_9075b_23 ?_
  refine lv_topi (fun z_3 ez_3 => ?_)
  have bz_3 : z_3.toInt = ((16 : Nat) : Int) := i_len ez_3 (by omega)
  refine lv_iload_n hx hb dJ7_copyOf_9075b_24 rfl (lv_at hl 2 rfl) ?_
  refine va_mmin (rest := [.int 0, .ref q_2, .int 0, .ref vgv]) hx hb (by rw [hml, hl.1]) hown (hts _ t1013) (hts _ t783) (hts _ t24) (hts _ t784) (Nat.le_of_ble_eq_true rfl) (Nat.le_of_ble_eq_true rfl) (Nat.le_of_ble_eq_true rfl) (Nat.le_of_ble_eq_true rfl) dJ7_copyOf_9075b_25 ?_
  refine lv_topi (fun z_4 ez_4 => ?_)
  have bz_4 : z_4.toInt ≤ z_3.toInt ∧ z_4.toInt ≤ (34 : Int32).toInt ∧ (z_4.toInt = z_3.toInt ∨ z_4.toInt = (34 : Int32).toInt) := i_min ez_4
  have k_0 : (0 : Int32).toInt = 0 := by decide
  refine va_copyi hx hb (by rw [hml, hl.1]) hown (hts _ t1014) (hts _ t769) (hts _ t768) (hts _ t23) hK hP hD hS 0 1 3 3 rfl rfl rfl rfl rfl (fun h9 => absurd (i_lt.mp h9) (by have := k_0; omega)) (fun h9 => absurd (i_lt.mp h9) (by have := k_0; omega)) (fun h9 => absurd (i_lt.mp h9) (by have := k_0; omega)) (by have h1 := (cl_nn (x := (0 : Int32)) (by omega)); have h2 := (cl_nn (x := z_4) (by omega)); omega) (by have h1 := (cl_nn (x := (0 : Int32)) (by omega)); have h2 := (cl_nn (x := z_4) (by omega)); omega) (fun i _ => p_vgf _) (Nat.le_of_ble_eq_true rfl) (Nat.le_of_ble_eq_true rfl) dJ7_copyOf_9075b_28 (fun H locs hP hD hS => ?_)
  obtain ⟨f_5, ef_5⟩ : ∃ z : Nat → Int32, z = va_cpy vgf (fun _ => 0) (Int32.toNatClampNeg 0) (Int32.toNatClampNeg 0) (Int32.toNatClampNeg z_4) := ⟨_, rfl⟩
  have hP : va_P (dC, dI) vwCl [(vgv, .inl (cy 3, 16, .inl vgf)), (q_2, .inl (cy 3, 34, .inl f_5))] H := by rw [ef_5]; exact hP
  have hD : va_D A [(vgv, .inl (cy 3, 16, .inl vgf)), (q_2, .inl (cy 3, 34, .inl f_5))] := by rw [ef_5]; exact hD
  have p_f_5 : sb_Fit f_5 := by rw [ef_5]; exact sb_fitC p_vgf sb_fit0
  refine lv_aload_n hx hb dJ7_copyOf_9075b_31 rfl (lv_at hl 0 rfl) ?_
  refine W.widen (k := 1) (n := 34) (by decide) (by decide) ?_
  rw [hQ9]
  exact re_r (q_2, f_5) hx hb hr (Or.inr ⟨_, rfl⟩) hlocks (show sb_Fit f_5 from p_f_5) (hP.sub [0, 1] rfl) (hD.sub [0, 1] rfl rfl) hS dJ7_copyOf_9075b_32
abbrev O_b_copyOf_34 (cy : Nat → ClassId) (vgv : Nat) (vgf : Nat → Int32) (u : Nat × (Nat → Int32)) : va_W := [(vgv, .inl (cy 3, 34, .inl vgf)), (u.1, .inl (cy 3, 70, .inl u.2))]
set_option maxHeartbeats 4000000 in
set_option maxRecDepth 100000 in
theorem b_copyOf_34 (l : Launch) (dC : Nat → ClassId) (dI : Nat → Nat → Nat) (cy : Nat → ClassId) (sz : Nat) (B : Nat → Prop) (kS vS : Nat → Nat) (vgv : Nat) (vgf : Nat → Int32) (p_vgf : sb_Fit vgf) (hB : ∀ q : Nat, va_A [(vgv, .inl (cy 3, 34, .inl vgf))] sz q → B q) : Met l yJ7_copyOf_9075b (wl yJ7_copyOf_9075b cJ7_copyOf_9075b 3 (some (.array .byte))) ({ frames := 1, cells := 1, slots := 70, locals := 64 }) (Pw (dC, dI) vwCl cy [(vgv, .inl (cy 3, 34, .inl vgf))] sz [.ref vgv, .int 70] (EnvB B kS vS)) (Qr (dC, dI) vwCl (fun (u : Nat × (Nat → Int32)) => (sb_Fit u.2)) (O_b_copyOf_34 cy vgv vgf) (fun (u : Nat × (Nat → Int32)) => u.1) (va_A [(vgv, .inl (cy 3, 34, .inl vgf))] sz)) 1 70 (va_A [(vgv, .inl (cy 3, 34, .inl vgf))] sz) := by
  refine mw (Qc := Qr (dC, dI) vwCl (fun (u : Nat × (Nat → Int32)) => (sb_Fit u.2)) (O_b_copyOf_34 cy vgv vgf) (fun (u : Nat × (Nat → Int32)) => u.1)) RJ7 rfl (by decide +kernel) (Nat.le_of_ble_eq_true rfl) ?_
  intro p e s m below meth c A hx hb hr hlocks av9 hav hts hown hnm hml hK hP hD hA hS hE hAe Q9 hQ9 ls hl
  have hAB : ∀ q : Nat, A q → B q := by rw [hAe]; exact hB
  have hEA := hE.narrow hAB
  have hl : lv_has ls 3 [(0, .ref vgv), (1, .int 70)] := hl
  refine lv_iload_n hx hb dJ7_copyOf_9075b_0 rfl (lv_at hl 1 rfl) ?_
  refine lv_aload_n hx hb dJ7_copyOf_9075b_1 rfl (lv_at hl 0 rfl) ?_
  refine va_alen hx hb hK hP 0 3 rfl rfl rfl dJ7_copyOf_9075b_2 ?_
  refine lv_topi (fun z_1 ez_1 => ?_)
  have bz_1 : z_1.toInt = ((34 : Nat) : Int) := i_len ez_1 (by omega)
  have k_70 : (70 : Int32).toInt = 70 := by decide
  refine lv_icmp_ne (tgt := 14) hx hb dJ7_copyOf_9075b_3 (by decide) (fun _ => ?_) (fun c9 => absurd (i_eq.mp c9) (by omega))
  refine lv_iload_n hx hb dJ7_copyOf_9075b_14 rfl (lv_at hl 1 rfl) ?_
  refine na_x (atype := .byte) (a0 := (70, .inl (fun _ => 0))) (ty := .byte) hx hb (hts _ t145) rfl 3 rfl hK hP hD hS hA (fun _ => rfl) (by decide) (N' := 70) rfl (Nat.le_of_ble_eq_true rfl) (Nat.le_of_ble_eq_true rfl) (Nat.le_of_ble_eq_true rfl) dJ7_copyOf_9075b_15 (fun q_2 H hP hD hS => ?_)
  have hP : va_P (dC, dI) vwCl [(vgv, .inl (cy 3, 34, .inl vgf)), (q_2, .inl (cy 3, 70, .inl (fun _ => 0)))] H := hP
  have hD : va_D A [(vgv, .inl (cy 3, 34, .inl vgf)), (q_2, .inl (cy 3, 70, .inl (fun _ => 0)))] := hD
  refine W.widen (k := 1) (n := 70) (by decide) (by decide) ?_
  refine lv_astore_n (lv' := [(2, .ref q_2), (0, .ref vgv), (1, .int 70)]) hx hb dJ7_copyOf_9075b_17 rfl hl (by decide) rfl (fun ls hl => ?_)
  refine lv_aload_n hx hb dJ7_copyOf_9075b_18 rfl (lv_at hl 1 rfl) ?_
  refine lv_iconst (v := 0) hx hb dJ7_copyOf_9075b_19 (by decide) ?_
  refine lv_aload_n hx hb dJ7_copyOf_9075b_20 rfl (lv_at hl 0 rfl) ?_
  refine lv_iconst (v := 0) hx hb dJ7_copyOf_9075b_21 (by decide) ?_
  refine lv_aload_n hx hb dJ7_copyOf_9075b_22 rfl (lv_at hl 1 rfl) ?_
  refine va_alen hx hb hK hP 0 3 rfl rfl rfl dJ7_copyOf_9075b_23 ?_
  refine lv_topi (fun z_3 ez_3 => ?_)
  have bz_3 : z_3.toInt = ((34 : Nat) : Int) := i_len ez_3 (by omega)
  refine lv_iload_n hx hb dJ7_copyOf_9075b_24 rfl (lv_at hl 2 rfl) ?_
  refine va_mmin (rest := [.int 0, .ref q_2, .int 0, .ref vgv]) hx hb (by rw [hml, hl.1]) hown (hts _ t1013) (hts _ t783) (hts _ t24) (hts _ t784) (Nat.le_of_ble_eq_true rfl) (Nat.le_of_ble_eq_true rfl) (Nat.le_of_ble_eq_true rfl) (Nat.le_of_ble_eq_true rfl) dJ7_copyOf_9075b_25 ?_
  refine lv_topi (fun z_4 ez_4 => ?_)
  have bz_4 : z_4.toInt ≤ z_3.toInt ∧ z_4.toInt ≤ (70 : Int32).toInt ∧ (z_4.toInt = z_3.toInt ∨ z_4.toInt = (70 : Int32).toInt) := i_min ez_4
  have k_0 : (0 : Int32).toInt = 0 := by decide
  refine va_copyi hx hb (by rw [hml, hl.1]) hown (hts _ t1014) (hts _ t769) (hts _ t768) (hts _ t23) hK hP hD hS 0 1 3 3 rfl rfl rfl rfl rfl (fun h9 => absurd (i_lt.mp h9) (by have := k_0; omega)) (fun h9 => absurd (i_lt.mp h9) (by have := k_0; omega)) (fun h9 => absurd (i_lt.mp h9) (by have := k_0; omega)) (by have h1 := (cl_nn (x := (0 : Int32)) (by omega)); have h2 := (cl_nn (x := z_4) (by omega)); omega) (by have h1 := (cl_nn (x := (0 : Int32)) (by omega)); have h2 := (cl_nn (x := z_4) (by omega)); omega) (fun i _ => p_vgf _) (Nat.le_of_ble_eq_true rfl) (Nat.le_of_ble_eq_true rfl) dJ7_copyOf_9075b_28 (fun H locs hP hD hS => ?_)
  obtain ⟨f_5, ef_5⟩ : ∃ z : Nat → Int32, z = va_cpy vgf (fun _ => 0) (Int32.toNatClampNeg 0) (Int32.toNatClampNeg 0) (Int32.toNatClampNeg z_4) := ⟨_, rfl⟩
  have hP : va_P (dC, dI) vwCl [(vgv, .inl (cy 3, 34, .inl vgf)), (q_2, .inl (cy 3, 70, .inl f_5))] H := by rw [ef_5]; exact hP
  have hD : va_D A [(vgv, .inl (cy 3, 34, .inl vgf)), (q_2, .inl (cy 3, 70, .inl f_5))] := by rw [ef_5]; exact hD
  have p_f_5 : sb_Fit f_5 := by rw [ef_5]; exact sb_fitC p_vgf sb_fit0
  refine lv_aload_n hx hb dJ7_copyOf_9075b_31 rfl (lv_at hl 0 rfl) ?_
  refine W.widen (k := 1) (n := 70) (by decide) (by decide) ?_
  rw [hQ9]
  exact re_r (q_2, f_5) hx hb hr (Or.inr ⟨_, rfl⟩) hlocks (show sb_Fit f_5 from p_f_5) (hP.sub [0, 1] rfl) (hD.sub [0, 1] rfl rfl) hS dJ7_copyOf_9075b_32
abbrev cJ5_ensureCapacityInternal_d00df : ByteArray := prog_15_method_9_code
def yJ5_ensureCapacityInternal_d00df : MethodName := ⟨RJ5, "ensureCapacityInternal", "(I)V"⟩
theorem t987 : Cond.code yJ5_ensureCapacityInternal_d00df cJ5_ensureCapacityInternal_d00df 3 none ∈ GW := gw_mem 1101 (by decide +kernel) (by decide +kernel)
abbrev O_b_ensure (cy : Nat → ClassId) (vg : Nat) (vgv : Nat) (vgm : Int32) (vgc : Int32) (vnb : Nat) (vgf : Nat → Int32) (vmi : Int32) (u : Nat × Nat × (Nat → Int32)) : va_W := [(vg, .inr (0, [.ref u.1, .int 0, .int vgm, .int vgc])), (u.1, .inl (cy 3, u.2.1, .inl u.2.2))]
theorem dJ5_ensureCapacityInternal_d00df_0 : decode cJ5_ensureCapacityInternal_d00df 0 = .ok (.aload_n 0, 1) := by decide +kernel
theorem dJ5_ensureCapacityInternal_d00df_1 : decode cJ5_ensureCapacityInternal_d00df 1 = .ok (.getfield 15, 3) := by decide +kernel
theorem dJ5_ensureCapacityInternal_d00df_4 : decode cJ5_ensureCapacityInternal_d00df 4 = .ok (.arraylength, 1) := by decide +kernel
theorem dJ5_ensureCapacityInternal_d00df_5 : decode cJ5_ensureCapacityInternal_d00df 5 = .ok (.aload_n 0, 1) := by decide +kernel
theorem dJ5_ensureCapacityInternal_d00df_6 : decode cJ5_ensureCapacityInternal_d00df 6 = .ok (.getfield 22, 3) := by decide +kernel
theorem dJ5_ensureCapacityInternal_d00df_9 : decode cJ5_ensureCapacityInternal_d00df 9 = .ok (.ishr, 1) := by decide +kernel
theorem dJ5_ensureCapacityInternal_d00df_10 : decode cJ5_ensureCapacityInternal_d00df 10 = .ok (.istore_n 2, 1) := by decide +kernel
theorem dJ5_ensureCapacityInternal_d00df_11 : decode cJ5_ensureCapacityInternal_d00df 11 = .ok (.iload_n 1, 1) := by decide +kernel
theorem dJ5_ensureCapacityInternal_d00df_12 : decode cJ5_ensureCapacityInternal_d00df 12 = .ok (.iload_n 2, 1) := by decide +kernel
theorem dJ5_ensureCapacityInternal_d00df_13 : decode cJ5_ensureCapacityInternal_d00df 13 = .ok (.isub, 1) := by decide +kernel
theorem dJ5_ensureCapacityInternal_d00df_14 : decode cJ5_ensureCapacityInternal_d00df 14 = .ok (.ifCond .le 24, 3) := by decide +kernel
theorem dJ5_ensureCapacityInternal_d00df_38 : decode cJ5_ensureCapacityInternal_d00df 38 = .ok (.return_, 1) := by decide +kernel
theorem dJ5_ensureCapacityInternal_d00df_17 : decode cJ5_ensureCapacityInternal_d00df 17 = .ok (.aload_n 0, 1) := by decide +kernel
theorem dJ5_ensureCapacityInternal_d00df_18 : decode cJ5_ensureCapacityInternal_d00df 18 = .ok (.aload_n 0, 1) := by decide +kernel
theorem dJ5_ensureCapacityInternal_d00df_19 : decode cJ5_ensureCapacityInternal_d00df 19 = .ok (.getfield 15, 3) := by decide +kernel
theorem dJ5_ensureCapacityInternal_d00df_22 : decode cJ5_ensureCapacityInternal_d00df 22 = .ok (.aload_n 0, 1) := by decide +kernel
theorem dJ5_ensureCapacityInternal_d00df_23 : decode cJ5_ensureCapacityInternal_d00df 23 = .ok (.iload_n 1, 1) := by decide +kernel
theorem dJ5_ensureCapacityInternal_d00df_24 : decode cJ5_ensureCapacityInternal_d00df 24 = .ok (.invokevirtual 104, 3) := by decide +kernel
theorem t988 : Cond.methodLink RJ5 104 yJ5_newCapacity_0f7a4 ∈ GW := gw_mem 1102 (by decide +kernel) (by decide +kernel)
theorem t990 : Cond.instanceMethod yJ5_newCapacity_0f7a4 ∈ GW := gw_mem 1104 (by decide +kernel) (by decide +kernel)
theorem t2074 : Cond.sameMethod yJ5_newCapacity_0f7a4.cls yJ5_newCapacity_0f7a4.cls yJ5_newCapacity_0f7a4.name yJ5_newCapacity_0f7a4.desc ∈ GW := gw_mem 2188 (by decide +kernel) (by decide +kernel)
theorem t1018 : Cond.selects RJ4 yJ5_isLatin1_aae02 yJ5_isLatin1_aae02 ∈ GW := gw_mem 1132 (by decide +kernel) (by decide +kernel)
theorem cu_J5_104 {R : Room} {s : State} {args : Array Value} {rm : Room} {mc ms : Nat} (hts : ∀ w ∈ GW, w.before args s = true) (hsel : (Cond.selects RJ4 yJ5_newCapacity_0f7a4 yJ5_newCapacity_0f7a4).before args s = true) (hrc : rm.cells = mc) (hrs : rm.slots = ms) (hR : rm.frames + 1 ≤ R.frames ∧ 8 + (6 + 11) + rm.locals ≤ R.locals) : va_CU R s args RJ5 RJ4 yJ5_newCapacity_0f7a4.cls 104 yJ5_newCapacity_0f7a4 yJ5_newCapacity_0f7a4 cJ5_newCapacity_0f7a4 6 (some .int) (wl yJ5_newCapacity_0f7a4 cJ5_newCapacity_0f7a4 6 (some .int)) rm mc ms 1 := vb_cw 1 hts t991 t13 t988 t2074 t990 hsel hrc hrs (by decide +kernel) hR
theorem dJ5_ensureCapacityInternal_d00df_27 : decode cJ5_ensureCapacityInternal_d00df 27 = .ok (.aload_n 0, 1) := by decide +kernel
theorem dJ5_ensureCapacityInternal_d00df_28 : decode cJ5_ensureCapacityInternal_d00df 28 = .ok (.getfield 22, 3) := by decide +kernel
theorem dJ5_ensureCapacityInternal_d00df_31 : decode cJ5_ensureCapacityInternal_d00df 31 = .ok (.ishl, 1) := by decide +kernel
theorem dJ5_ensureCapacityInternal_d00df_32 : decode cJ5_ensureCapacityInternal_d00df 32 = .ok (.invokestatic 108, 3) := by decide +kernel
theorem t1003 : Cond.methodLink RJ5 108 yJ7_copyOf_9075b ∈ GW := gw_mem 1117 (by decide +kernel) (by decide +kernel)
theorem t28 : Cond.initialized RJ7 ∈ GW := gw_mem 142 (by decide +kernel) (by decide +kernel)
theorem t1004 : Cond.static yJ7_copyOf_9075b ∈ GW := gw_mem 1118 (by decide +kernel) (by decide +kernel)
theorem cw_J5_108 {R : Room} {s : State} {args : Array Value} {rm : Room} {mc ms : Nat} (hts : ∀ w ∈ GW, w.before args s = true) (hrc : rm.cells = mc) (hrs : rm.slots = ms) (hR : rm.frames + 1 ≤ R.frames ∧ 8 + (3 + 11) + rm.locals ≤ R.locals) : CallB R s args RJ5 108 yJ7_copyOf_9075b cJ7_copyOf_9075b 3 (some (.array .byte)) (wl yJ7_copyOf_9075b cJ7_copyOf_9075b 3 (some (.array .byte))) rm mc ms 2 ∧ (Cond.static yJ7_copyOf_9075b).before args s = true := va_cwS 2 hts (gi_S t1003 t1004 t28 t1005) rfl hrc hrs (by decide +kernel) hR
theorem dJ5_ensureCapacityInternal_d00df_35 : decode cJ5_ensureCapacityInternal_d00df 35 = .ok (.putfield 15, 3) := by decide +kernel
set_option maxHeartbeats 4000000 in
set_option maxRecDepth 100000 in
theorem b_ensure (l : Launch) (dC : Nat → ClassId) (dI : Nat → Nat → Nat) (cy : Nat → ClassId) (sz : Nat) (B : Nat → Prop) (kS vS : Nat → Nat) (vg : Nat) (vgv : Nat) (vgm : Int32) (vgc : Int32) (vnb : Nat) (vgf : Nat → Int32) (vmi : Int32) (r_vmi : 0 ≤ (vmi : Int32).toInt ∧ (vmi : Int32).toInt ≤ 45) (p_vgf : sb_Fit vgf) (hn : (vnb = 16 ∨ vnb = 34 ∨ vnb = 70)) (hm : (vmi : Int32).toInt ≤ 2 * (vnb : Int) + 2) (hB : ∀ q : Nat, va_A [(vg, .inr (0, [.ref vgv, .int 0, .int vgm, .int vgc])), (vgv, .inl (cy 3, vnb, .inl vgf))] sz q → B q) : Met l yJ5_ensureCapacityInternal_d00df (wl yJ5_ensureCapacityInternal_d00df cJ5_ensureCapacityInternal_d00df 3 none) ({ frames := 3, cells := 1, slots := 70, locals := 192 }) (Pw (dC, dI) vwCl cy [(vg, .inr (0, [.ref vgv, .int 0, .int vgm, .int vgc])), (vgv, .inl (cy 3, vnb, .inl vgf))] sz [.ref vg, .int vmi] (EnvB B kS vS)) (Qv (dC, dI) vwCl (fun (u : Nat × Nat × (Nat → Int32)) => (sb_Fit u.2.2) ∧ ((u.2.1 = 16 ∨ u.2.1 = 34 ∨ u.2.1 = 70)) ∧ ((vmi : Int32).toInt ≤ (u.2.1 : Int))) (O_b_ensure cy vg vgv vgm vgc vnb vgf vmi) (va_A [(vg, .inr (0, [.ref vgv, .int 0, .int vgm, .int vgc])), (vgv, .inl (cy 3, vnb, .inl vgf))] sz)) 1 70 (va_A [(vg, .inr (0, [.ref vgv, .int 0, .int vgm, .int vgc])), (vgv, .inl (cy 3, vnb, .inl vgf))] sz) := by
  refine mw (Qc := Qv (dC, dI) vwCl (fun (u : Nat × Nat × (Nat → Int32)) => (sb_Fit u.2.2) ∧ ((u.2.1 = 16 ∨ u.2.1 = 34 ∨ u.2.1 = 70)) ∧ ((vmi : Int32).toInt ≤ (u.2.1 : Int))) (O_b_ensure cy vg vgv vgm vgc vnb vgf vmi)) RJ5 rfl (by decide +kernel) (Nat.le_of_ble_eq_true rfl) ?_
  intro p e s m below meth c A hx hb hr hlocks av9 hav hts hown hnm hml hK hP hD hA hS hE hAe Q9 hQ9 ls hl
  have hAB : ∀ q : Nat, A q → B q := by rw [hAe]; exact hB
  have hEA := hE.narrow hAB
  have hl : lv_has ls 3 [(0, .ref vg), (1, .int vmi)] := hl
  rcases hn with hn | hn | hn
  · subst hn
    refine lv_aload_n hx hb dJ5_ensureCapacityInternal_d00df_0 rfl (lv_at hl 0 rfl) ?_
    refine gf_J5_15 hx hb hts hown hK hP 0 rfl rfl dJ5_ensureCapacityInternal_d00df_1 ?_
    refine va_alen hx hb hK hP 1 3 rfl rfl rfl dJ5_ensureCapacityInternal_d00df_4 ?_
    refine lv_topi (fun z_1 ez_1 => ?_)
    have bz_1 : z_1.toInt = ((16 : Nat) : Int) := i_len ez_1 (by omega)
    refine lv_aload_n hx hb dJ5_ensureCapacityInternal_d00df_5 rfl (lv_at hl 0 rfl) ?_
    refine gf_J5_22 hx hb hts hown hK hP 0 rfl rfl dJ5_ensureCapacityInternal_d00df_6 ?_
    refine lv_ishr hx hb dJ5_ensureCapacityInternal_d00df_9 ?_
    refine as_i z_1 (sb_shr0 _) ?_
    refine lv_istore_n (lv' := [(2, .int z_1), (0, .ref vg), (1, .int vmi)]) hx hb dJ5_ensureCapacityInternal_d00df_10 rfl hl (by decide) rfl (fun ls hl => ?_)
    refine lv_iload_n hx hb dJ5_ensureCapacityInternal_d00df_11 rfl (lv_at hl 2 rfl) ?_
    refine lv_iload_n hx hb dJ5_ensureCapacityInternal_d00df_12 rfl (lv_at hl 0 rfl) ?_
    refine lv_isub hx hb dJ5_ensureCapacityInternal_d00df_13 ?_
    refine lv_topi (fun z_2 ez_2 => ?_)
    have bz_2 : z_2.toInt = vmi.toInt - z_1.toInt := i_sub ez_2 (by omega) (by omega)
    have k_0 : (0 : Int32).toInt = 0 := by decide
    refine lv_if_le (tgt := 38) hx hb dJ5_ensureCapacityInternal_d00df_14 (by decide) (fun c_3 => ?_) (fun c_3 => ?_)
    · skip
      have c_3 : z_2.toInt ≤ (0 : Int32).toInt := i_le.mp c_3
      refine W.widen (k := 1) (n := 70) (by decide) (by decide) ?_
      rw [hQ9]
      exact re_v (vgv, 16, vgf) hx hb hr hlocks ⟨(show sb_Fit vgf from p_vgf), (show (16 = 16 ∨ 16 = 34 ∨ 16 = 70) from (by omega)), (show (vmi : Int32).toInt ≤ (16 : Int) from (by omega))⟩ (hP.sub [0, 1] rfl) (hD.sub [0, 1] rfl rfl) hS dJ5_ensureCapacityInternal_d00df_38
    · skip
      have c_3 : ¬ (z_2.toInt ≤ (0 : Int32).toInt) := fun h9 => c_3 (i_le.mpr h9)
      refine lv_aload_n hx hb dJ5_ensureCapacityInternal_d00df_17 rfl (lv_at hl 1 rfl) ?_
      refine lv_aload_n hx hb dJ5_ensureCapacityInternal_d00df_18 rfl (lv_at hl 1 rfl) ?_
      refine gf_J5_15 hx hb hts hown hK hP 0 rfl rfl dJ5_ensureCapacityInternal_d00df_19 ?_
      refine lv_aload_n hx hb dJ5_ensureCapacityInternal_d00df_22 rfl (lv_at hl 1 rfl) ?_
      refine lv_iload_n hx hb dJ5_ensureCapacityInternal_d00df_23 rfl (lv_at hl 2 rfl) ?_
      refine jn_i (wr := []) (rVU (As := [.int vmi]) (rest := [.ref vgv, .ref vg]) (ci := 0) ⟨hx, hb, hml, hown, hts⟩ (b_newCapacity l dC dI cy _ B kS vS vg vgv vgm vgc 16 vgf vmi ⟨by omega, by omega⟩ p_vgf (by omega) (by omega) (by omega) (fun q hq => hAB q (va_free hD hS hA [0, 1] rfl q hq))) (cu_J5_104 hts (va_tabs rfl rfl hEA.2.2.2.2.2.2.2.2.2.2.2.2.1) rfl rfl ⟨Nat.le_of_ble_eq_true rfl, Nat.le_of_ble_eq_true rfl⟩) hP hD hK [0, 1] rfl rfl rfl rfl EnvB.calling (EnvB.at hE hS hAB (fun _ h => h)) rfl hl.1 rfl (Nat.le_of_ble_eq_true rfl) dJ5_ensureCapacityInternal_d00df_24 ⟨Nat.le_of_ble_eq_true rfl, Nat.le_of_ble_eq_true rfl⟩) hP hD hS hA [0, 1] [] rfl rfl rfl (by decide) (fun r_4 u_6 H locs hp_5 hP hD hS => ?_)
      have hp_5 : (34 ≤ (r_4 : Int32).toInt ∧ (r_4 : Int32).toInt ≤ 142) ∧ ((r_4 : Int32).toInt = 2 * (16 : Int) + 2) := hp_5
      obtain ⟨q_7, q_8⟩ := hp_5
      have hP : va_P (dC, dI) vwCl [(vg, .inr (0, [.ref vgv, .int 0, .int vgm, .int vgc])), (vgv, .inl (cy 3, 16, .inl vgf))] H := hP
      have hD : va_D A [(vg, .inr (0, [.ref vgv, .int 0, .int vgm, .int vgc])), (vgv, .inl (cy 3, 16, .inl vgf))] := hD
      refine lv_aload_n hx hb dJ5_ensureCapacityInternal_d00df_27 rfl (lv_at hl 1 rfl) ?_
      refine gf_J5_22 hx hb hts hown hK hP 0 rfl rfl dJ5_ensureCapacityInternal_d00df_28 ?_
      refine lv_ishl hx hb dJ5_ensureCapacityInternal_d00df_31 ?_
      refine as_i r_4 (sb_shl0 _) ?_
      have k_34 : (34 : Int32).toInt = 34 := by decide
      refine as_i 34 (i_eq.mpr (by omega)) ?_
      refine jn_r (wr := [(vg, .inr (0, [.ref vgv, .int 0, .int vgm, .int vgc]))]) (rS (As := [.ref vgv, .int 34]) (rest := [.ref vg]) ⟨hx, hb, hml, hown, hts⟩ (b_copyOf_16 l dC dI cy _ B kS vS vgv vgf p_vgf (fun q hq => hAB q (va_free hD hS hA [1] rfl q hq))) (cw_J5_108 hts rfl rfl ⟨Nat.le_of_ble_eq_true rfl, Nat.le_of_ble_eq_true rfl⟩) hP hD hK [1] rfl rfl EnvB.calling (EnvB.at hE hS hAB (fun _ h => h)) rfl hl.1 rfl (Nat.le_of_ble_eq_true rfl) dJ5_ensureCapacityInternal_d00df_32 ⟨Nat.le_of_ble_eq_true rfl, Nat.le_of_ble_eq_true rfl⟩) hP hD hS hA [1] [0] rfl rfl rfl (by decide) (fun u_11 H locs hp_10 hP hD hS => ?_)
      obtain ⟨vnv_12, vnf_13⟩ := u_11
      have hp_10 : (sb_Fit vnf_13) := hp_10
      have q_14 := hp_10
      have hP : va_P (dC, dI) vwCl [(vg, .inr (0, [.ref vgv, .int 0, .int vgm, .int vgc])), (vgv, .inl (cy 3, 16, .inl vgf)), (vnv_12, .inl (cy 3, 34, .inl vnf_13))] H := hP
      have hD : va_D A [(vg, .inr (0, [.ref vgv, .int 0, .int vgm, .int vgc])), (vgv, .inl (cy 3, 16, .inl vgf)), (vnv_12, .inl (cy 3, 34, .inl vnf_13))] := hD
      refine W.widen (k := 1) (n := 34) (by decide) (by decide) ?_
      refine W.eq (g2 := F0 m 35 ls [.ref vnv_12, .ref vg]) rfl ?_
      refine pf_J5_15 hx hb hts hown hK hP hD hS 0 rfl rfl rfl (Nat.le_of_ble_eq_true rfl) dJ5_ensureCapacityInternal_d00df_35 (fun H locs hP hD hS => ?_)
      have hP : va_P (dC, dI) vwCl [(vg, .inr (0, [.ref vnv_12, .int 0, .int vgm, .int vgc])), (vgv, .inl (cy 3, 16, .inl vgf)), (vnv_12, .inl (cy 3, 34, .inl vnf_13))] H := hP
      have hD : va_D A [(vg, .inr (0, [.ref vnv_12, .int 0, .int vgm, .int vgc])), (vgv, .inl (cy 3, 16, .inl vgf)), (vnv_12, .inl (cy 3, 34, .inl vnf_13))] := hD
      refine W.widen (k := 1) (n := 70) (by decide) (by decide) ?_
      rw [hQ9]
      exact re_v (vnv_12, 34, vnf_13) hx hb hr hlocks ⟨(show sb_Fit vnf_13 from q_14), (show (34 = 16 ∨ 34 = 34 ∨ 34 = 70) from (by omega)), (show (vmi : Int32).toInt ≤ (34 : Int) from (by omega))⟩ (hP.sub [0, 2] rfl) (hD.sub [0, 2] rfl rfl) hS dJ5_ensureCapacityInternal_d00df_38
  · subst hn
    refine lv_aload_n hx hb dJ5_ensureCapacityInternal_d00df_0 rfl (lv_at hl 0 rfl) ?_
    refine gf_J5_15 hx hb hts hown hK hP 0 rfl rfl dJ5_ensureCapacityInternal_d00df_1 ?_
    refine va_alen hx hb hK hP 1 3 rfl rfl rfl dJ5_ensureCapacityInternal_d00df_4 ?_
    refine lv_topi (fun z_15 ez_15 => ?_)
    have bz_15 : z_15.toInt = ((34 : Nat) : Int) := i_len ez_15 (by omega)
    refine lv_aload_n hx hb dJ5_ensureCapacityInternal_d00df_5 rfl (lv_at hl 0 rfl) ?_
    refine gf_J5_22 hx hb hts hown hK hP 0 rfl rfl dJ5_ensureCapacityInternal_d00df_6 ?_
    refine lv_ishr hx hb dJ5_ensureCapacityInternal_d00df_9 ?_
    refine as_i z_15 (sb_shr0 _) ?_
    refine lv_istore_n (lv' := [(2, .int z_15), (0, .ref vg), (1, .int vmi)]) hx hb dJ5_ensureCapacityInternal_d00df_10 rfl hl (by decide) rfl (fun ls hl => ?_)
    refine lv_iload_n hx hb dJ5_ensureCapacityInternal_d00df_11 rfl (lv_at hl 2 rfl) ?_
    refine lv_iload_n hx hb dJ5_ensureCapacityInternal_d00df_12 rfl (lv_at hl 0 rfl) ?_
    refine lv_isub hx hb dJ5_ensureCapacityInternal_d00df_13 ?_
    refine lv_topi (fun z_16 ez_16 => ?_)
    have bz_16 : z_16.toInt = vmi.toInt - z_15.toInt := i_sub ez_16 (by omega) (by omega)
    have k_0 : (0 : Int32).toInt = 0 := by decide
    refine lv_if_le (tgt := 38) hx hb dJ5_ensureCapacityInternal_d00df_14 (by decide) (fun c_17 => ?_) (fun c_17 => ?_)
    · skip
      have c_17 : z_16.toInt ≤ (0 : Int32).toInt := i_le.mp c_17
      refine W.widen (k := 1) (n := 70) (by decide) (by decide) ?_
      rw [hQ9]
      exact re_v (vgv, 34, vgf) hx hb hr hlocks ⟨(show sb_Fit vgf from p_vgf), (show (34 = 16 ∨ 34 = 34 ∨ 34 = 70) from (by omega)), (show (vmi : Int32).toInt ≤ (34 : Int) from (by omega))⟩ (hP.sub [0, 1] rfl) (hD.sub [0, 1] rfl rfl) hS dJ5_ensureCapacityInternal_d00df_38
    · skip
      have c_17 : ¬ (z_16.toInt ≤ (0 : Int32).toInt) := fun h9 => c_17 (i_le.mpr h9)
      refine lv_aload_n hx hb dJ5_ensureCapacityInternal_d00df_17 rfl (lv_at hl 1 rfl) ?_
      refine lv_aload_n hx hb dJ5_ensureCapacityInternal_d00df_18 rfl (lv_at hl 1 rfl) ?_
      refine gf_J5_15 hx hb hts hown hK hP 0 rfl rfl dJ5_ensureCapacityInternal_d00df_19 ?_
      refine lv_aload_n hx hb dJ5_ensureCapacityInternal_d00df_22 rfl (lv_at hl 1 rfl) ?_
      refine lv_iload_n hx hb dJ5_ensureCapacityInternal_d00df_23 rfl (lv_at hl 2 rfl) ?_
      refine jn_i (wr := []) (rVU (As := [.int vmi]) (rest := [.ref vgv, .ref vg]) (ci := 0) ⟨hx, hb, hml, hown, hts⟩ (b_newCapacity l dC dI cy _ B kS vS vg vgv vgm vgc 34 vgf vmi ⟨by omega, by omega⟩ p_vgf (by omega) (by omega) (by omega) (fun q hq => hAB q (va_free hD hS hA [0, 1] rfl q hq))) (cu_J5_104 hts (va_tabs rfl rfl hEA.2.2.2.2.2.2.2.2.2.2.2.2.1) rfl rfl ⟨Nat.le_of_ble_eq_true rfl, Nat.le_of_ble_eq_true rfl⟩) hP hD hK [0, 1] rfl rfl rfl rfl EnvB.calling (EnvB.at hE hS hAB (fun _ h => h)) rfl hl.1 rfl (Nat.le_of_ble_eq_true rfl) dJ5_ensureCapacityInternal_d00df_24 ⟨Nat.le_of_ble_eq_true rfl, Nat.le_of_ble_eq_true rfl⟩) hP hD hS hA [0, 1] [] rfl rfl rfl (by decide) (fun r_18 u_20 H locs hp_19 hP hD hS => ?_)
      have hp_19 : (34 ≤ (r_18 : Int32).toInt ∧ (r_18 : Int32).toInt ≤ 142) ∧ ((r_18 : Int32).toInt = 2 * (34 : Int) + 2) := hp_19
      obtain ⟨q_21, q_22⟩ := hp_19
      have hP : va_P (dC, dI) vwCl [(vg, .inr (0, [.ref vgv, .int 0, .int vgm, .int vgc])), (vgv, .inl (cy 3, 34, .inl vgf))] H := hP
      have hD : va_D A [(vg, .inr (0, [.ref vgv, .int 0, .int vgm, .int vgc])), (vgv, .inl (cy 3, 34, .inl vgf))] := hD
      refine lv_aload_n hx hb dJ5_ensureCapacityInternal_d00df_27 rfl (lv_at hl 1 rfl) ?_
      refine gf_J5_22 hx hb hts hown hK hP 0 rfl rfl dJ5_ensureCapacityInternal_d00df_28 ?_
      refine lv_ishl hx hb dJ5_ensureCapacityInternal_d00df_31 ?_
      refine as_i r_18 (sb_shl0 _) ?_
      have k_70 : (70 : Int32).toInt = 70 := by decide
      refine as_i 70 (i_eq.mpr (by omega)) ?_
      refine jn_r (wr := [(vg, .inr (0, [.ref vgv, .int 0, .int vgm, .int vgc]))]) (rS (As := [.ref vgv, .int 70]) (rest := [.ref vg]) ⟨hx, hb, hml, hown, hts⟩ (b_copyOf_34 l dC dI cy _ B kS vS vgv vgf p_vgf (fun q hq => hAB q (va_free hD hS hA [1] rfl q hq))) (cw_J5_108 hts rfl rfl ⟨Nat.le_of_ble_eq_true rfl, Nat.le_of_ble_eq_true rfl⟩) hP hD hK [1] rfl rfl EnvB.calling (EnvB.at hE hS hAB (fun _ h => h)) rfl hl.1 rfl (Nat.le_of_ble_eq_true rfl) dJ5_ensureCapacityInternal_d00df_32 ⟨Nat.le_of_ble_eq_true rfl, Nat.le_of_ble_eq_true rfl⟩) hP hD hS hA [1] [0] rfl rfl rfl (by decide) (fun u_25 H locs hp_24 hP hD hS => ?_)
      obtain ⟨vnv_26, vnf_27⟩ := u_25
      have hp_24 : (sb_Fit vnf_27) := hp_24
      have q_28 := hp_24
      have hP : va_P (dC, dI) vwCl [(vg, .inr (0, [.ref vgv, .int 0, .int vgm, .int vgc])), (vgv, .inl (cy 3, 34, .inl vgf)), (vnv_26, .inl (cy 3, 70, .inl vnf_27))] H := hP
      have hD : va_D A [(vg, .inr (0, [.ref vgv, .int 0, .int vgm, .int vgc])), (vgv, .inl (cy 3, 34, .inl vgf)), (vnv_26, .inl (cy 3, 70, .inl vnf_27))] := hD
      refine W.widen (k := 1) (n := 70) (by decide) (by decide) ?_
      refine W.eq (g2 := F0 m 35 ls [.ref vnv_26, .ref vg]) rfl ?_
      refine pf_J5_15 hx hb hts hown hK hP hD hS 0 rfl rfl rfl (Nat.le_of_ble_eq_true rfl) dJ5_ensureCapacityInternal_d00df_35 (fun H locs hP hD hS => ?_)
      have hP : va_P (dC, dI) vwCl [(vg, .inr (0, [.ref vnv_26, .int 0, .int vgm, .int vgc])), (vgv, .inl (cy 3, 34, .inl vgf)), (vnv_26, .inl (cy 3, 70, .inl vnf_27))] H := hP
      have hD : va_D A [(vg, .inr (0, [.ref vnv_26, .int 0, .int vgm, .int vgc])), (vgv, .inl (cy 3, 34, .inl vgf)), (vnv_26, .inl (cy 3, 70, .inl vnf_27))] := hD
      refine W.widen (k := 1) (n := 70) (by decide) (by decide) ?_
      rw [hQ9]
      exact re_v (vnv_26, 70, vnf_27) hx hb hr hlocks ⟨(show sb_Fit vnf_27 from q_28), (show (70 = 16 ∨ 70 = 34 ∨ 70 = 70) from (by omega)), (show (vmi : Int32).toInt ≤ (70 : Int) from (by omega))⟩ (hP.sub [0, 2] rfl) (hD.sub [0, 2] rfl rfl) hS dJ5_ensureCapacityInternal_d00df_38
  · subst hn
    refine lv_aload_n hx hb dJ5_ensureCapacityInternal_d00df_0 rfl (lv_at hl 0 rfl) ?_
    refine gf_J5_15 hx hb hts hown hK hP 0 rfl rfl dJ5_ensureCapacityInternal_d00df_1 ?_
    refine va_alen hx hb hK hP 1 3 rfl rfl rfl dJ5_ensureCapacityInternal_d00df_4 ?_
    refine lv_topi (fun z_29 ez_29 => ?_)
    have bz_29 : z_29.toInt = ((70 : Nat) : Int) := i_len ez_29 (by omega)
    refine lv_aload_n hx hb dJ5_ensureCapacityInternal_d00df_5 rfl (lv_at hl 0 rfl) ?_
    refine gf_J5_22 hx hb hts hown hK hP 0 rfl rfl dJ5_ensureCapacityInternal_d00df_6 ?_
    refine lv_ishr hx hb dJ5_ensureCapacityInternal_d00df_9 ?_
    refine as_i z_29 (sb_shr0 _) ?_
    refine lv_istore_n (lv' := [(2, .int z_29), (0, .ref vg), (1, .int vmi)]) hx hb dJ5_ensureCapacityInternal_d00df_10 rfl hl (by decide) rfl (fun ls hl => ?_)
    refine lv_iload_n hx hb dJ5_ensureCapacityInternal_d00df_11 rfl (lv_at hl 2 rfl) ?_
    refine lv_iload_n hx hb dJ5_ensureCapacityInternal_d00df_12 rfl (lv_at hl 0 rfl) ?_
    refine lv_isub hx hb dJ5_ensureCapacityInternal_d00df_13 ?_
    refine lv_topi (fun z_30 ez_30 => ?_)
    have bz_30 : z_30.toInt = vmi.toInt - z_29.toInt := i_sub ez_30 (by omega) (by omega)
    have k_0 : (0 : Int32).toInt = 0 := by decide
    refine lv_if_le (tgt := 38) hx hb dJ5_ensureCapacityInternal_d00df_14 (by decide) (fun _ => ?_) (fun c9 => (c9 (i_le.mpr (by omega))).elim)
    refine W.widen (k := 1) (n := 70) (by decide) (by decide) ?_
    rw [hQ9]
    exact re_v (vgv, 70, vgf) hx hb hr hlocks ⟨(show sb_Fit vgf from p_vgf), (show (70 = 16 ∨ 70 = 34 ∨ 70 = 70) from (by omega)), (show (vmi : Int32).toInt ≤ (70 : Int) from (by omega))⟩ (hP.sub [0, 1] rfl) (hD.sub [0, 1] rfl rfl) hS dJ5_ensureCapacityInternal_d00df_38
abbrev cJ5_setLength_d00df : ByteArray := prog_15_method_13_code
def yJ5_setLength_d00df : MethodName := ⟨RJ5, "setLength", "(I)V"⟩
theorem t983 : Cond.code yJ5_setLength_d00df cJ5_setLength_d00df 2 none ∈ GW := gw_mem 1097 (by decide +kernel) (by decide +kernel)
abbrev O_b_setLength (cy : Nat → ClassId) (vg : Nat) (vgv : Nat) (vgm : Int32) (vgc : Int32) (vnb : Nat) (vgf : Nat → Int32) (u : Nat × Nat × (Nat → Int32) × Int32 × Int32) : va_W := [(vg, .inr (0, [.ref u.1, .int 0, .int u.2.2.2.1, .int u.2.2.2.2])), (u.1, .inl (cy 3, u.2.1, .inl u.2.2.1))]
theorem dJ5_setLength_d00df_0 : decode cJ5_setLength_d00df 0 = .ok (.iload_n 1, 1) := by decide +kernel
theorem dJ5_setLength_d00df_1 : decode cJ5_setLength_d00df 1 = .ok (.ifCond .ge 12, 3) := by decide +kernel
theorem dJ5_setLength_d00df_13 : decode cJ5_setLength_d00df 13 = .ok (.aload_n 0, 1) := by decide +kernel
theorem dJ5_setLength_d00df_14 : decode cJ5_setLength_d00df 14 = .ok (.iload_n 1, 1) := by decide +kernel
theorem dJ5_setLength_d00df_15 : decode cJ5_setLength_d00df 15 = .ok (.invokevirtual 100, 3) := by decide +kernel
theorem t984 : Cond.methodLink RJ5 100 yJ5_ensureCapacityInternal_d00df ∈ GW := gw_mem 1098 (by decide +kernel) (by decide +kernel)
theorem t986 : Cond.instanceMethod yJ5_ensureCapacityInternal_d00df ∈ GW := gw_mem 1100 (by decide +kernel) (by decide +kernel)
theorem t2073 : Cond.sameMethod yJ5_ensureCapacityInternal_d00df.cls yJ5_ensureCapacityInternal_d00df.cls yJ5_ensureCapacityInternal_d00df.name yJ5_ensureCapacityInternal_d00df.desc ∈ GW := gw_mem 2187 (by decide +kernel) (by decide +kernel)
theorem cu_J5_100 {R : Room} {s : State} {args : Array Value} {rm : Room} {mc ms : Nat} (hts : ∀ w ∈ GW, w.before args s = true) (hsel : (Cond.selects RJ4 yJ5_ensureCapacityInternal_d00df yJ5_ensureCapacityInternal_d00df).before args s = true) (hrc : rm.cells = mc) (hrs : rm.slots = ms) (hR : rm.frames + 1 ≤ R.frames ∧ 8 + (3 + 11) + rm.locals ≤ R.locals) : va_CU R s args RJ5 RJ4 yJ5_ensureCapacityInternal_d00df.cls 100 yJ5_ensureCapacityInternal_d00df yJ5_ensureCapacityInternal_d00df cJ5_ensureCapacityInternal_d00df 3 none (wl yJ5_ensureCapacityInternal_d00df cJ5_ensureCapacityInternal_d00df 3 none) rm mc ms 1 := vb_cw 1 hts t987 t13 t984 t2073 t986 hsel hrc hrs (by decide +kernel) hR
theorem dJ5_setLength_d00df_18 : decode cJ5_setLength_d00df 18 = .ok (.aload_n 0, 1) := by decide +kernel
theorem dJ5_setLength_d00df_19 : decode cJ5_setLength_d00df 19 = .ok (.getfield 79, 3) := by decide +kernel
theorem t350 : Cond.fieldLink RJ5 79 "java/lang/AbstractStringBuilder" "count" "I" ∈ GW := gw_mem 464 (by decide +kernel) (by decide +kernel)
theorem gf_J5_79 {p : Program} {l : Launch} {e : Env} {R : Room} {s : State} {m : MethodId} {args : Array Value} {below : List Frame} {meth : Method} {c : Code} {H : Heap} {locs : List Loc} {cells slots : Nat} {Q : State → Prop} {cc : ByteArray} {pc : Nat} {ls : Array Slot} {rest : List Value} {D : va_G} {a : Nat} {tys : List (ClassId × FieldType)} {ws : va_W} (hx : p.tables.exec = Jvm.exec) (hb : c.code = cc) (hts : ∀ w ∈ GW, w.before args s = true) (hown : s.vm.findClass RJ5 = some m.cls) (hK : va_K D vwCl tys s) (hP : va_P D vwCl ws H) (q0 : Nat) {fs : List Value} (he : ws[q0]? = some (a, .inr (0, fs))) {v : Value} (hv : fs[3]? = some v) (hdg : decode cc pc = .ok (.getfield 79, 3)) (kk : W p l e R s m args below meth c H locs cells slots Q (F0 m (pc + 3) ls (v :: rest))) : W p l e R s m args below meth c H locs cells slots Q (F0 m pc ls (.ref a :: rest)) := va_get (C := RJ4) (T := TJ4) (N := 4) (ci := 0) hx hb hts inJ4 hown hK hP q0 he rfl 3 (by decide) (hts _ t350) (fun _ h => h) hv hdg kk
theorem dJ5_setLength_d00df_22 : decode cJ5_setLength_d00df 22 = .ok (.iload_n 1, 1) := by decide +kernel
theorem dJ5_setLength_d00df_23 : decode cJ5_setLength_d00df 23 = .ok (.if_icmp .ge 40, 3) := by decide +kernel
theorem dJ5_setLength_d00df_63 : decode cJ5_setLength_d00df 63 = .ok (.aload_n 0, 1) := by decide +kernel
theorem dJ5_setLength_d00df_64 : decode cJ5_setLength_d00df 64 = .ok (.getfield 79, 3) := by decide +kernel
theorem dJ5_setLength_d00df_67 : decode cJ5_setLength_d00df 67 = .ok (.iload_n 1, 1) := by decide +kernel
theorem dJ5_setLength_d00df_68 : decode cJ5_setLength_d00df 68 = .ok (.if_icmp .le 8, 3) := by decide +kernel
theorem dJ5_setLength_d00df_76 : decode cJ5_setLength_d00df 76 = .ok (.aload_n 0, 1) := by decide +kernel
theorem dJ5_setLength_d00df_77 : decode cJ5_setLength_d00df 77 = .ok (.iload_n 1, 1) := by decide +kernel
theorem dJ5_setLength_d00df_78 : decode cJ5_setLength_d00df 78 = .ok (.putfield 79, 3) := by decide +kernel
theorem pf_J5_79 {p : Program} {l : Launch} {e : Env} {R : Room} {s : State} {m : MethodId} {args : Array Value} {below : List Frame} {meth : Method} {c : Code} {H : Heap} {locs : List Loc} {cells slots : Nat} {Q : State → Prop} {cc : ByteArray} {pc : Nat} {ls : Array Slot} {rest : List Value} {D : va_G} {A : Nat → Prop} {a : Nat} {tys : List (ClassId × FieldType)} {ws : va_W} {H0 : Heap} (hx : p.tables.exec = Jvm.exec) (hb : c.code = cc) (hts : ∀ w ∈ GW, w.before args s = true) (hown : s.vm.findClass RJ5 = some m.cls) (hK : va_K D vwCl tys s) (hP : va_P D vwCl ws H) (hD : va_D A ws) (hS0 : va_S A H0 H locs) (q0 : Nat) {fs : List Value} (he : ws[q0]? = some (a, .inr (0, fs))) {v : Value} (hn : narrow (tyJ4 3) v = v) (hfit : fits (tyJ4 3) v = true) (hl : 3 < fs.length) (hdg : decode cc pc = .ok (.putfield 79, 3)) (kk : ∀ (H1 : Heap) (locs1 : List Loc), va_P D vwCl (ws.set q0 (a, .inr (0, fs.set 3 v))) H1 → va_D A (ws.set q0 (a, .inr (0, fs.set 3 v))) → va_S A H0 H1 locs1 → W p l e R s m args below meth c H1 locs1 cells slots Q (F0 m (pc + 3) ls rest)) : W p l e R s m args below meth c H locs cells slots Q (F0 m pc ls (v :: .ref a :: rest)) := va_put (C := RJ4) (T := TJ4) (N := 4) (ci := 0) hx hb hts inJ4 tyJ4 tkJ4 nmJ4 hown hK hP hD hS0 q0 he rfl 3 (by decide) (hts _ t350) (fun _ h => h) rfl (tkJ4 3 (by decide)) hn hfit hl hdg kk
theorem dJ5_setLength_d00df_81 : decode cJ5_setLength_d00df 81 = .ok (.return_, 1) := by decide +kernel
theorem dJ5_setLength_d00df_71 : decode cJ5_setLength_d00df 71 = .ok (.aload_n 0, 1) := by decide +kernel
theorem dJ5_setLength_d00df_72 : decode cJ5_setLength_d00df 72 = .ok (.iconst 1, 1) := by decide +kernel
theorem dJ5_setLength_d00df_73 : decode cJ5_setLength_d00df 73 = .ok (.putfield 73, 3) := by decide +kernel
theorem t349 : Cond.fieldLink RJ5 73 "java/lang/AbstractStringBuilder" "maybeLatin1" "Z" ∈ GW := gw_mem 463 (by decide +kernel) (by decide +kernel)
theorem pf_J5_73 {p : Program} {l : Launch} {e : Env} {R : Room} {s : State} {m : MethodId} {args : Array Value} {below : List Frame} {meth : Method} {c : Code} {H : Heap} {locs : List Loc} {cells slots : Nat} {Q : State → Prop} {cc : ByteArray} {pc : Nat} {ls : Array Slot} {rest : List Value} {D : va_G} {A : Nat → Prop} {a : Nat} {tys : List (ClassId × FieldType)} {ws : va_W} {H0 : Heap} (hx : p.tables.exec = Jvm.exec) (hb : c.code = cc) (hts : ∀ w ∈ GW, w.before args s = true) (hown : s.vm.findClass RJ5 = some m.cls) (hK : va_K D vwCl tys s) (hP : va_P D vwCl ws H) (hD : va_D A ws) (hS0 : va_S A H0 H locs) (q0 : Nat) {fs : List Value} (he : ws[q0]? = some (a, .inr (0, fs))) {v : Value} (hn : narrow (tyJ4 2) v = v) (hfit : fits (tyJ4 2) v = true) (hl : 2 < fs.length) (hdg : decode cc pc = .ok (.putfield 73, 3)) (kk : ∀ (H1 : Heap) (locs1 : List Loc), va_P D vwCl (ws.set q0 (a, .inr (0, fs.set 2 v))) H1 → va_D A (ws.set q0 (a, .inr (0, fs.set 2 v))) → va_S A H0 H1 locs1 → W p l e R s m args below meth c H1 locs1 cells slots Q (F0 m (pc + 3) ls rest)) : W p l e R s m args below meth c H locs cells slots Q (F0 m pc ls (v :: .ref a :: rest)) := va_put (C := RJ4) (T := TJ4) (N := 4) (ci := 0) hx hb hts inJ4 tyJ4 tkJ4 nmJ4 hown hK hP hD hS0 q0 he rfl 2 (by decide) (hts _ t349) (fun _ h => h) rfl (tkJ4 2 (by decide)) hn hfit hl hdg kk
set_option maxHeartbeats 4000000 in
set_option maxRecDepth 100000 in
theorem b_setLength (l : Launch) (dC : Nat → ClassId) (dI : Nat → Nat → Nat) (cy : Nat → ClassId) (sz : Nat) (B : Nat → Prop) (kS vS : Nat → Nat) (vg : Nat) (vgv : Nat) (vgm : Int32) (vgc : Int32) (vnb : Nat) (vgf : Nat → Int32) (r_vgc : 0 ≤ (vgc : Int32).toInt ∧ (vgc : Int32).toInt ≤ 42) (p_vgf : sb_Fit vgf) (hn : (vnb = 16 ∨ vnb = 34 ∨ vnb = 70)) (hB : ∀ q : Nat, va_A [(vg, .inr (0, [.ref vgv, .int 0, .int vgm, .int vgc])), (vgv, .inl (cy 3, vnb, .inl vgf))] sz q → B q) : Met l yJ5_setLength_d00df (wl yJ5_setLength_d00df cJ5_setLength_d00df 2 none) ({ frames := 4, cells := 1, slots := 70, locals := 256 }) (Pw (dC, dI) vwCl cy [(vg, .inr (0, [.ref vgv, .int 0, .int vgm, .int vgc])), (vgv, .inl (cy 3, vnb, .inl vgf))] sz [.ref vg, .int 0] (EnvB B kS vS)) (Qv (dC, dI) vwCl (fun (u : Nat × Nat × (Nat → Int32) × Int32 × Int32) => (sb_Fit u.2.2.1) ∧ (0 ≤ (u.2.2.2.2 : Int32).toInt ∧ (u.2.2.2.2 : Int32).toInt ≤ 0) ∧ ((u.2.1 = 16 ∨ u.2.1 = 34 ∨ u.2.1 = 70))) (O_b_setLength cy vg vgv vgm vgc vnb vgf) (va_A [(vg, .inr (0, [.ref vgv, .int 0, .int vgm, .int vgc])), (vgv, .inl (cy 3, vnb, .inl vgf))] sz)) 1 70 (va_A [(vg, .inr (0, [.ref vgv, .int 0, .int vgm, .int vgc])), (vgv, .inl (cy 3, vnb, .inl vgf))] sz) := by
  refine mw (Qc := Qv (dC, dI) vwCl (fun (u : Nat × Nat × (Nat → Int32) × Int32 × Int32) => (sb_Fit u.2.2.1) ∧ (0 ≤ (u.2.2.2.2 : Int32).toInt ∧ (u.2.2.2.2 : Int32).toInt ≤ 0) ∧ ((u.2.1 = 16 ∨ u.2.1 = 34 ∨ u.2.1 = 70))) (O_b_setLength cy vg vgv vgm vgc vnb vgf)) RJ5 rfl (by decide +kernel) (Nat.le_of_ble_eq_true rfl) ?_
  intro p e s m below meth c A hx hb hr hlocks av9 hav hts hown hnm hml hK hP hD hA hS hE hAe Q9 hQ9 ls hl
  have hAB : ∀ q : Nat, A q → B q := by rw [hAe]; exact hB
  have hEA := hE.narrow hAB
  have hl : lv_has ls 2 [(0, .ref vg), (1, .int 0)] := hl
  refine lv_iload_n hx hb dJ5_setLength_d00df_0 rfl (lv_at hl 1 rfl) ?_
  refine lv_if_ge (tgt := 13) hx hb dJ5_setLength_d00df_1 (by decide) (fun _ => ?_) (fun c9 => absurd (by decide) c9)
  refine lv_aload_n hx hb dJ5_setLength_d00df_13 rfl (lv_at hl 0 rfl) ?_
  refine lv_iload_n hx hb dJ5_setLength_d00df_14 rfl (lv_at hl 1 rfl) ?_
  have k_0 : (0 : Int32).toInt = 0 := by decide
  refine jn_v (wr := []) (rVU (As := [.int 0]) (rest := []) (ci := 0) ⟨hx, hb, hml, hown, hts⟩ (b_ensure l dC dI cy _ B kS vS vg vgv vgm vgc vnb vgf 0 ⟨by omega, by omega⟩ p_vgf hn (by omega) (fun q hq => hAB q (va_free hD hS hA [0, 1] rfl q hq))) (cu_J5_100 hts (va_tabs rfl rfl hEA.2.2.2.2.2.2.2.2.2.2.2.1) rfl rfl ⟨Nat.le_of_ble_eq_true rfl, Nat.le_of_ble_eq_true rfl⟩) hP hD hK [0, 1] rfl rfl rfl rfl EnvB.calling (EnvB.at hE hS hAB (fun _ h => h)) rfl hl.1 rfl (Nat.le_of_ble_eq_true rfl) dJ5_setLength_d00df_15 ⟨Nat.le_of_ble_eq_true rfl, Nat.le_of_ble_eq_true rfl⟩) hP hD hS hA [0, 1] [] rfl rfl rfl (by decide) (fun u_3 H locs hp_2 hP hD hS => ?_)
  obtain ⟨vgv_4, vnb_5, vgf_6⟩ := u_3
  have hp_2 : (sb_Fit vgf_6) ∧ ((vnb_5 = 16 ∨ vnb_5 = 34 ∨ vnb_5 = 70)) ∧ ((0 : Int32).toInt ≤ (vnb_5 : Int)) := hp_2
  obtain ⟨q_7, q_8, q_9⟩ := hp_2
  have hP : va_P (dC, dI) vwCl [(vg, .inr (0, [.ref vgv_4, .int 0, .int vgm, .int vgc])), (vgv_4, .inl (cy 3, vnb_5, .inl vgf_6))] H := hP
  have hD : va_D A [(vg, .inr (0, [.ref vgv_4, .int 0, .int vgm, .int vgc])), (vgv_4, .inl (cy 3, vnb_5, .inl vgf_6))] := hD
  refine W.widen (k := 1) (n := 70) (by decide) (by decide) ?_
  refine lv_aload_n hx hb dJ5_setLength_d00df_18 rfl (lv_at hl 0 rfl) ?_
  refine gf_J5_79 hx hb hts hown hK hP 0 rfl rfl dJ5_setLength_d00df_19 ?_
  refine lv_iload_n hx hb dJ5_setLength_d00df_22 rfl (lv_at hl 1 rfl) ?_
  refine lv_icmp_ge (tgt := 63) hx hb dJ5_setLength_d00df_23 (by decide) (fun _ => ?_) (fun c9 => (c9 (i_le.mpr (by omega))).elim)
  refine lv_aload_n hx hb dJ5_setLength_d00df_63 rfl (lv_at hl 0 rfl) ?_
  refine gf_J5_79 hx hb hts hown hK hP 0 rfl rfl dJ5_setLength_d00df_64 ?_
  refine lv_iload_n hx hb dJ5_setLength_d00df_67 rfl (lv_at hl 1 rfl) ?_
  refine lv_icmp_le (tgt := 76) hx hb dJ5_setLength_d00df_68 (by decide) (fun c_10 => ?_) (fun c_10 => ?_)
  · skip
    have c_10 : vgc.toInt ≤ (0 : Int32).toInt := i_le.mp c_10
    refine lv_aload_n hx hb dJ5_setLength_d00df_76 rfl (lv_at hl 0 rfl) ?_
    refine lv_iload_n hx hb dJ5_setLength_d00df_77 rfl (lv_at hl 1 rfl) ?_
    refine pf_J5_79 hx hb hts hown hK hP hD hS 0 rfl rfl rfl (Nat.le_of_ble_eq_true rfl) dJ5_setLength_d00df_78 (fun H locs hP hD hS => ?_)
    have hP : va_P (dC, dI) vwCl [(vg, .inr (0, [.ref vgv_4, .int 0, .int vgm, .int 0])), (vgv_4, .inl (cy 3, vnb_5, .inl vgf_6))] H := hP
    have hD : va_D A [(vg, .inr (0, [.ref vgv_4, .int 0, .int vgm, .int 0])), (vgv_4, .inl (cy 3, vnb_5, .inl vgf_6))] := hD
    refine W.widen (k := 1) (n := 70) (by decide) (by decide) ?_
    rw [hQ9]
    exact re_v (vgv_4, vnb_5, vgf_6, vgm, (0 : Int32)) hx hb hr hlocks ⟨(show sb_Fit vgf_6 from q_7), (show 0 ≤ ((0 : Int32) : Int32).toInt ∧ ((0 : Int32) : Int32).toInt ≤ 0 from ⟨by omega, by omega⟩), (show (vnb_5 = 16 ∨ vnb_5 = 34 ∨ vnb_5 = 70) from q_8)⟩ (hP.sub [0, 1] rfl) (hD.sub [0, 1] rfl rfl) hS dJ5_setLength_d00df_81
  · skip
    have c_10 : ¬ (vgc.toInt ≤ (0 : Int32).toInt) := fun h9 => c_10 (i_le.mpr h9)
    refine lv_aload_n hx hb dJ5_setLength_d00df_71 rfl (lv_at hl 0 rfl) ?_
    refine lv_iconst (v := 1) hx hb dJ5_setLength_d00df_72 (by decide) ?_
    refine pf_J5_73 hx hb hts hown hK hP hD hS 0 rfl rfl rfl (Nat.le_of_ble_eq_true rfl) dJ5_setLength_d00df_73 (fun H locs hP hD hS => ?_)
    have hP : va_P (dC, dI) vwCl [(vg, .inr (0, [.ref vgv_4, .int 0, .int 1, .int vgc])), (vgv_4, .inl (cy 3, vnb_5, .inl vgf_6))] H := hP
    have hD : va_D A [(vg, .inr (0, [.ref vgv_4, .int 0, .int 1, .int vgc])), (vgv_4, .inl (cy 3, vnb_5, .inl vgf_6))] := hD
    refine lv_aload_n hx hb dJ5_setLength_d00df_76 rfl (lv_at hl 0 rfl) ?_
    refine lv_iload_n hx hb dJ5_setLength_d00df_77 rfl (lv_at hl 1 rfl) ?_
    refine pf_J5_79 hx hb hts hown hK hP hD hS 0 rfl rfl rfl (Nat.le_of_ble_eq_true rfl) dJ5_setLength_d00df_78 (fun H locs hP hD hS => ?_)
    have hP : va_P (dC, dI) vwCl [(vg, .inr (0, [.ref vgv_4, .int 0, .int 1, .int 0])), (vgv_4, .inl (cy 3, vnb_5, .inl vgf_6))] H := hP
    have hD : va_D A [(vg, .inr (0, [.ref vgv_4, .int 0, .int 1, .int 0])), (vgv_4, .inl (cy 3, vnb_5, .inl vgf_6))] := hD
    have k_1 : (1 : Int32).toInt = 1 := by decide
    refine W.widen (k := 1) (n := 70) (by decide) (by decide) ?_
    rw [hQ9]
    exact re_v (vgv_4, vnb_5, vgf_6, (1 : Int32), (0 : Int32)) hx hb hr hlocks ⟨(show sb_Fit vgf_6 from q_7), (show 0 ≤ ((0 : Int32) : Int32).toInt ∧ ((0 : Int32) : Int32).toInt ≤ 0 from ⟨by omega, by omega⟩), (show (vnb_5 = 16 ∨ vnb_5 = 34 ∨ vnb_5 = 70) from q_8)⟩ (hP.sub [0, 1] rfl) (hD.sub [0, 1] rfl rfl) hS dJ5_setLength_d00df_81
abbrev cJ4_setLength_d00df : ByteArray := prog_26_method_89_code
def yJ4_setLength_d00df : MethodName := ⟨RJ4, "setLength", "(I)V"⟩
theorem t980 : Cond.code yJ4_setLength_d00df cJ4_setLength_d00df 2 none ∈ GW := gw_mem 1094 (by decide +kernel) (by decide +kernel)
abbrev O_b_sbsetLength (cy : Nat → ClassId) (vg : Nat) (vgv : Nat) (vgm : Int32) (vgc : Int32) (vnb : Nat) (vgf : Nat → Int32) (u : Nat × Nat × (Nat → Int32) × Int32 × Int32) : va_W := [(vg, .inr (0, [.ref u.1, .int 0, .int u.2.2.2.1, .int u.2.2.2.2])), (u.1, .inl (cy 3, u.2.1, .inl u.2.2.1))]
theorem dJ4_setLength_d00df_0 : decode cJ4_setLength_d00df 0 = .ok (.aload_n 0, 1) := by decide +kernel
theorem dJ4_setLength_d00df_1 : decode cJ4_setLength_d00df 1 = .ok (.iload_n 1, 1) := by decide +kernel
theorem dJ4_setLength_d00df_2 : decode cJ4_setLength_d00df 2 = .ok (.invokespecial 333, 3) := by decide +kernel
theorem t981 : Cond.methodLink RJ4 333 yJ5_setLength_d00df ∈ GW := gw_mem 1095 (by decide +kernel) (by decide +kernel)
theorem t982 : Cond.instanceMethod yJ5_setLength_d00df ∈ GW := gw_mem 1096 (by decide +kernel) (by decide +kernel)
theorem t2072 : Cond.sameMethod yJ5_setLength_d00df.cls yJ5_setLength_d00df.cls yJ5_setLength_d00df.name yJ5_setLength_d00df.desc ∈ GW := gw_mem 2186 (by decide +kernel) (by decide +kernel)
theorem t359 : Cond.superclass RJ4 RJ5 ∈ GW := gw_mem 473 (by decide +kernel) (by decide +kernel)
theorem cw_J4_333 {R : Room} {s : State} {args : Array Value} {rm : Room} {mc ms : Nat} (hts : ∀ w ∈ GW, w.before args s = true) (hrc : rm.cells = mc) (hrs : rm.slots = ms) (hR : rm.frames + 1 ≤ R.frames ∧ 8 + (2 + 11) + rm.locals ≤ R.locals) : va_CS R s args RJ4 333 yJ5_setLength_d00df cJ5_setLength_d00df 2 none (wl yJ5_setLength_d00df cJ5_setLength_d00df 2 none) rm mc ms 1 := va_cwSU 1 hts (gi_U t981 t2072 t359 t982 t13 t983) rfl hrc hrs (by decide +kernel) hR
theorem dJ4_setLength_d00df_5 : decode cJ4_setLength_d00df 5 = .ok (.return_, 1) := by decide +kernel
set_option maxHeartbeats 4000000 in
set_option maxRecDepth 100000 in
theorem b_sbsetLength (l : Launch) (dC : Nat → ClassId) (dI : Nat → Nat → Nat) (cy : Nat → ClassId) (sz : Nat) (B : Nat → Prop) (kS vS : Nat → Nat) (vg : Nat) (vgv : Nat) (vgm : Int32) (vgc : Int32) (vnb : Nat) (vgf : Nat → Int32) (r_vgc : 0 ≤ (vgc : Int32).toInt ∧ (vgc : Int32).toInt ≤ 42) (p_vgf : sb_Fit vgf) (hn : (vnb = 16 ∨ vnb = 34 ∨ vnb = 70)) (hB : ∀ q : Nat, va_A [(vg, .inr (0, [.ref vgv, .int 0, .int vgm, .int vgc])), (vgv, .inl (cy 3, vnb, .inl vgf))] sz q → B q) : Met l yJ4_setLength_d00df (wl yJ4_setLength_d00df cJ4_setLength_d00df 2 none) ({ frames := 5, cells := 1, slots := 70, locals := 320 }) (Pw (dC, dI) vwCl cy [(vg, .inr (0, [.ref vgv, .int 0, .int vgm, .int vgc])), (vgv, .inl (cy 3, vnb, .inl vgf))] sz [.ref vg, .int 0] (EnvB B kS vS)) (Qv (dC, dI) vwCl (fun (u : Nat × Nat × (Nat → Int32) × Int32 × Int32) => (sb_Fit u.2.2.1) ∧ (0 ≤ (u.2.2.2.2 : Int32).toInt ∧ (u.2.2.2.2 : Int32).toInt ≤ 0) ∧ ((u.2.1 = 16 ∨ u.2.1 = 34 ∨ u.2.1 = 70))) (O_b_sbsetLength cy vg vgv vgm vgc vnb vgf) (va_A [(vg, .inr (0, [.ref vgv, .int 0, .int vgm, .int vgc])), (vgv, .inl (cy 3, vnb, .inl vgf))] sz)) 1 70 (va_A [(vg, .inr (0, [.ref vgv, .int 0, .int vgm, .int vgc])), (vgv, .inl (cy 3, vnb, .inl vgf))] sz) := by
  refine mw (Qc := Qv (dC, dI) vwCl (fun (u : Nat × Nat × (Nat → Int32) × Int32 × Int32) => (sb_Fit u.2.2.1) ∧ (0 ≤ (u.2.2.2.2 : Int32).toInt ∧ (u.2.2.2.2 : Int32).toInt ≤ 0) ∧ ((u.2.1 = 16 ∨ u.2.1 = 34 ∨ u.2.1 = 70))) (O_b_sbsetLength cy vg vgv vgm vgc vnb vgf)) RJ4 rfl (by decide +kernel) (Nat.le_of_ble_eq_true rfl) ?_
  intro p e s m below meth c A hx hb hr hlocks av9 hav hts hown hnm hml hK hP hD hA hS hE hAe Q9 hQ9 ls hl
  have hAB : ∀ q : Nat, A q → B q := by rw [hAe]; exact hB
  have hEA := hE.narrow hAB
  have hl : lv_has ls 2 [(0, .ref vg), (1, .int 0)] := hl
  refine lv_aload_n hx hb dJ4_setLength_d00df_0 rfl (lv_at hl 0 rfl) ?_
  refine lv_iload_n hx hb dJ4_setLength_d00df_1 rfl (lv_at hl 1 rfl) ?_
  refine jn_v (wr := []) (rU (As := [.int 0]) (rest := []) (ci := 0) ⟨hx, hb, hml, hown, hts⟩ (b_setLength l dC dI cy _ B kS vS vg vgv vgm vgc vnb vgf r_vgc p_vgf hn (fun q hq => hAB q (va_free hD hS hA [0, 1] rfl q hq))) (cw_J4_333 hts rfl rfl ⟨Nat.le_of_ble_eq_true rfl, Nat.le_of_ble_eq_true rfl⟩) hP hD hK [0, 1] rfl rfl rfl rfl EnvB.calling (EnvB.at hE hS hAB (fun _ h => h)) rfl hl.1 rfl (Nat.le_of_ble_eq_true rfl) dJ4_setLength_d00df_2 ⟨Nat.le_of_ble_eq_true rfl, Nat.le_of_ble_eq_true rfl⟩) hP hD hS hA [0, 1] [] rfl rfl rfl (by decide) (fun u_3 H locs hp_2 hP hD hS => ?_)
  obtain ⟨vgv_4, vnb_5, vgf_6, vgm_7, vgc_8⟩ := u_3
  have hp_2 : (sb_Fit vgf_6) ∧ (0 ≤ (vgc_8 : Int32).toInt ∧ (vgc_8 : Int32).toInt ≤ 0) ∧ ((vnb_5 = 16 ∨ vnb_5 = 34 ∨ vnb_5 = 70)) := hp_2
  obtain ⟨q_9, q_10, q_11⟩ := hp_2
  have hP : va_P (dC, dI) vwCl [(vg, .inr (0, [.ref vgv_4, .int 0, .int vgm_7, .int vgc_8])), (vgv_4, .inl (cy 3, vnb_5, .inl vgf_6))] H := hP
  have hD : va_D A [(vg, .inr (0, [.ref vgv_4, .int 0, .int vgm_7, .int vgc_8])), (vgv_4, .inl (cy 3, vnb_5, .inl vgf_6))] := hD
  refine W.widen (k := 1) (n := 70) (by decide) (by decide) ?_
  refine W.widen (k := 1) (n := 70) (by decide) (by decide) ?_
  rw [hQ9]
  exact re_v (vgv_4, vnb_5, vgf_6, vgm_7, vgc_8) hx hb hr hlocks ⟨(show sb_Fit vgf_6 from q_9), (show 0 ≤ (vgc_8 : Int32).toInt ∧ (vgc_8 : Int32).toInt ≤ 0 from ⟨by omega, by omega⟩), (show (vnb_5 = 16 ∨ vnb_5 = 34 ∨ vnb_5 = 70) from q_11)⟩ (hP.sub [0, 1] rfl) (hD.sub [0, 1] rfl rfl) hS dJ4_setLength_d00df_5
abbrev cJ5_append_3fe6f : ByteArray := prog_15_method_31_code
def yJ5_append_3fe6f : MethodName := ⟨RJ5, "append", "(C)Ljava/lang/AbstractStringBuilder;"⟩
theorem t1114 : Cond.code yJ5_append_3fe6f cJ5_append_3fe6f 2 (some (.object "java/lang/AbstractStringBuilder")) ∈ GW := gw_mem 1228 (by decide +kernel) (by decide +kernel)
abbrev O_b_appC (cy : Nat → ClassId) (vg : Nat) (vgv : Nat) (vgm : Int32) (vgc : Int32) (vnb : Nat) (vgf : Nat → Int32) (vch : Int32) (u : Nat × Nat × (Nat → Int32) × Int32) : va_W := [(vg, .inr (0, [.ref u.1, .int 0, .int vgm, .int u.2.2.2])), (u.1, .inl (cy 3, u.2.1, .inl u.2.2.1))]
theorem dJ5_append_3fe6f_0 : decode cJ5_append_3fe6f 0 = .ok (.aload_n 0, 1) := by decide +kernel
theorem dJ5_append_3fe6f_1 : decode cJ5_append_3fe6f 1 = .ok (.aload_n 0, 1) := by decide +kernel
theorem dJ5_append_3fe6f_2 : decode cJ5_append_3fe6f 2 = .ok (.getfield 79, 3) := by decide +kernel
theorem dJ5_append_3fe6f_5 : decode cJ5_append_3fe6f 5 = .ok (.iconst 1, 1) := by decide +kernel
theorem dJ5_append_3fe6f_6 : decode cJ5_append_3fe6f 6 = .ok (.iadd, 1) := by decide +kernel
theorem dJ5_append_3fe6f_7 : decode cJ5_append_3fe6f 7 = .ok (.invokevirtual 100, 3) := by decide +kernel
theorem dJ5_append_3fe6f_10 : decode cJ5_append_3fe6f 10 = .ok (.aload_n 0, 1) := by decide +kernel
theorem dJ5_append_3fe6f_11 : decode cJ5_append_3fe6f 11 = .ok (.invokevirtual 83, 3) := by decide +kernel
theorem t1015 : Cond.methodLink RJ5 83 yJ5_isLatin1_aae02 ∈ GW := gw_mem 1129 (by decide +kernel) (by decide +kernel)
theorem t1016 : Cond.instanceMethod yJ5_isLatin1_aae02 ∈ GW := gw_mem 1130 (by decide +kernel) (by decide +kernel)
theorem t1017 : Cond.sameMethod yJ5_isLatin1_aae02.cls yJ5_isLatin1_aae02.cls yJ5_isLatin1_aae02.name yJ5_isLatin1_aae02.desc ∈ GW := gw_mem 1131 (by decide +kernel) (by decide +kernel)
theorem cu_J5_83 {R : Room} {s : State} {args : Array Value} {rm : Room} {mc ms : Nat} (hts : ∀ w ∈ GW, w.before args s = true) (hrc : rm.cells = mc) (hrs : rm.slots = ms) (hR : rm.frames + 1 ≤ R.frames ∧ 8 + (1 + 11) + rm.locals ≤ R.locals) : va_CU R s args RJ5 RJ4 yJ5_isLatin1_aae02.cls 83 yJ5_isLatin1_aae02 yJ5_isLatin1_aae02 cJ5_isLatin1_aae02 1 (some .boolean) (wl yJ5_isLatin1_aae02 cJ5_isLatin1_aae02 1 (some .boolean)) rm mc ms 0 := vb_cw 0 hts t1019 t13 t1015 t1017 t1016 (hts _ t1018) hrc hrs (by decide +kernel) hR
theorem dJ5_append_3fe6f_14 : decode cJ5_append_3fe6f 14 = .ok (.ifCond .eq 31, 3) := by decide +kernel
theorem dJ5_append_3fe6f_17 : decode cJ5_append_3fe6f 17 = .ok (.iload_n 1, 1) := by decide +kernel
theorem dJ5_append_3fe6f_18 : decode cJ5_append_3fe6f 18 = .ok (.invokestatic 191, 3) := by decide +kernel
theorem t1115 : Cond.methodLink RJ5 191 yJ1_canEncode_fc78d ∈ GW := gw_mem 1229 (by decide +kernel) (by decide +kernel)
theorem t1116 : Cond.static yJ1_canEncode_fc78d ∈ GW := gw_mem 1230 (by decide +kernel) (by decide +kernel)
theorem cw_J5_191 {R : Room} {s : State} {args : Array Value} {rm : Room} {mc ms : Nat} (hts : ∀ w ∈ GW, w.before args s = true) (hrc : rm.cells = mc) (hrs : rm.slots = ms) (hR : rm.frames + 1 ≤ R.frames ∧ 8 + (1 + 11) + rm.locals ≤ R.locals) : CallB R s args RJ5 191 yJ1_canEncode_fc78d cJ1_canEncode_fc78d 1 (some .boolean) (wl yJ1_canEncode_fc78d cJ1_canEncode_fc78d 1 (some .boolean)) rm mc ms 1 ∧ (Cond.static yJ1_canEncode_fc78d).before args s = true := va_cwS 1 hts (gi_S t1115 t1116 t4 t1117) rfl hrc hrs (by decide +kernel) hR
theorem dJ5_append_3fe6f_21 : decode cJ5_append_3fe6f 21 = .ok (.ifCond .eq 24, 3) := by decide +kernel
theorem dJ5_append_3fe6f_24 : decode cJ5_append_3fe6f 24 = .ok (.aload_n 0, 1) := by decide +kernel
theorem dJ5_append_3fe6f_25 : decode cJ5_append_3fe6f 25 = .ok (.getfield 15, 3) := by decide +kernel
theorem dJ5_append_3fe6f_28 : decode cJ5_append_3fe6f 28 = .ok (.aload_n 0, 1) := by decide +kernel
theorem dJ5_append_3fe6f_29 : decode cJ5_append_3fe6f 29 = .ok (.dup, 1) := by decide +kernel
theorem dJ5_append_3fe6f_30 : decode cJ5_append_3fe6f 30 = .ok (.getfield 79, 3) := by decide +kernel
theorem dJ5_append_3fe6f_33 : decode cJ5_append_3fe6f 33 = .ok (.dup_x1, 1) := by decide +kernel
theorem dJ5_append_3fe6f_34 : decode cJ5_append_3fe6f 34 = .ok (.iconst 1, 1) := by decide +kernel
theorem dJ5_append_3fe6f_35 : decode cJ5_append_3fe6f 35 = .ok (.iadd, 1) := by decide +kernel
theorem dJ5_append_3fe6f_36 : decode cJ5_append_3fe6f 36 = .ok (.putfield 79, 3) := by decide +kernel
theorem dJ5_append_3fe6f_39 : decode cJ5_append_3fe6f 39 = .ok (.iload_n 1, 1) := by decide +kernel
theorem dJ5_append_3fe6f_40 : decode cJ5_append_3fe6f 40 = .ok (.i2b, 1) := by decide +kernel
theorem dJ5_append_3fe6f_41 : decode cJ5_append_3fe6f 41 = .ok (.bastore, 1) := by decide +kernel
theorem dJ5_append_3fe6f_42 : decode cJ5_append_3fe6f 42 = .ok (.goto 33, 3) := by decide +kernel
theorem dJ5_append_3fe6f_75 : decode cJ5_append_3fe6f 75 = .ok (.aload_n 0, 1) := by decide +kernel
theorem dJ5_append_3fe6f_76 : decode cJ5_append_3fe6f 76 = .ok (.areturn, 1) := by decide +kernel
set_option maxHeartbeats 4000000 in
set_option maxRecDepth 100000 in
theorem b_appC (l : Launch) (dC : Nat → ClassId) (dI : Nat → Nat → Nat) (cy : Nat → ClassId) (sz : Nat) (B : Nat → Prop) (kS vS : Nat → Nat) (vg : Nat) (vgv : Nat) (vgm : Int32) (vgc : Int32) (vnb : Nat) (vgf : Nat → Int32) (vch : Int32) (r_vgc : 0 ≤ (vgc : Int32).toInt ∧ (vgc : Int32).toInt ≤ 41) (r_vch : 0 ≤ (vch : Int32).toInt ∧ (vch : Int32).toInt ≤ 255) (p_vgf : sb_Fit vgf) (hn : (vnb = 16 ∨ vnb = 34 ∨ vnb = 70)) (hgc : (vgc : Int32).toInt ≤ (vnb : Int)) (hB : ∀ q : Nat, va_A [(vg, .inr (0, [.ref vgv, .int 0, .int vgm, .int vgc])), (vgv, .inl (cy 3, vnb, .inl vgf))] sz q → B q) : Met l yJ5_append_3fe6f (wl yJ5_append_3fe6f cJ5_append_3fe6f 2 (some (.object "java/lang/AbstractStringBuilder"))) ({ frames := 4, cells := 1, slots := 70, locals := 256 }) (Pw (dC, dI) vwCl cy [(vg, .inr (0, [.ref vgv, .int 0, .int vgm, .int vgc])), (vgv, .inl (cy 3, vnb, .inl vgf))] sz [.ref vg, .int vch] (EnvB B kS vS)) (Qr (dC, dI) vwCl (fun (u : Nat × Nat × (Nat → Int32) × Int32) => (sb_Fit u.2.2.1) ∧ (0 ≤ (u.2.2.2 : Int32).toInt ∧ (u.2.2.2 : Int32).toInt ≤ 42) ∧ ((u.2.1 = 16 ∨ u.2.1 = 34 ∨ u.2.1 = 70)) ∧ ((u.2.2.2 : Int32).toInt ≤ (u.2.1 : Int)) ∧ ((u.2.2.2 : Int32).toInt = (vgc : Int32).toInt + 1)) (O_b_appC cy vg vgv vgm vgc vnb vgf vch) (fun (u : Nat × Nat × (Nat → Int32) × Int32) => vg) (va_A [(vg, .inr (0, [.ref vgv, .int 0, .int vgm, .int vgc])), (vgv, .inl (cy 3, vnb, .inl vgf))] sz)) 1 70 (va_A [(vg, .inr (0, [.ref vgv, .int 0, .int vgm, .int vgc])), (vgv, .inl (cy 3, vnb, .inl vgf))] sz) := by
  refine mw (Qc := Qr (dC, dI) vwCl (fun (u : Nat × Nat × (Nat → Int32) × Int32) => (sb_Fit u.2.2.1) ∧ (0 ≤ (u.2.2.2 : Int32).toInt ∧ (u.2.2.2 : Int32).toInt ≤ 42) ∧ ((u.2.1 = 16 ∨ u.2.1 = 34 ∨ u.2.1 = 70)) ∧ ((u.2.2.2 : Int32).toInt ≤ (u.2.1 : Int)) ∧ ((u.2.2.2 : Int32).toInt = (vgc : Int32).toInt + 1)) (O_b_appC cy vg vgv vgm vgc vnb vgf vch) (fun (u : Nat × Nat × (Nat → Int32) × Int32) => vg)) RJ5 rfl (by decide +kernel) (Nat.le_of_ble_eq_true rfl) ?_
  intro p e s m below meth c A hx hb hr hlocks av9 hav hts hown hnm hml hK hP hD hA hS hE hAe Q9 hQ9 ls hl
  have hAB : ∀ q : Nat, A q → B q := by rw [hAe]; exact hB
  have hEA := hE.narrow hAB
  have hl : lv_has ls 2 [(0, .ref vg), (1, .int vch)] := hl
  refine lv_aload_n hx hb dJ5_append_3fe6f_0 rfl (lv_at hl 0 rfl) ?_
  refine lv_aload_n hx hb dJ5_append_3fe6f_1 rfl (lv_at hl 0 rfl) ?_
  refine gf_J5_79 hx hb hts hown hK hP 0 rfl rfl dJ5_append_3fe6f_2 ?_
  refine lv_iconst (v := 1) hx hb dJ5_append_3fe6f_5 (by decide) ?_
  refine lv_iadd hx hb dJ5_append_3fe6f_6 ?_
  refine lv_topi (fun z_1 ez_1 => ?_)
  have k_1 : (1 : Int32).toInt = 1 := by decide
  have bz_1 : z_1.toInt = vgc.toInt + (1 : Int32).toInt := i_add ez_1 (by omega) (by omega)
  refine jn_v (wr := []) (rVU (As := [.int z_1]) (rest := []) (ci := 0) ⟨hx, hb, hml, hown, hts⟩ (b_ensure l dC dI cy _ B kS vS vg vgv vgm vgc vnb vgf z_1 ⟨by omega, by omega⟩ p_vgf hn (by omega) (fun q hq => hAB q (va_free hD hS hA [0, 1] rfl q hq))) (cu_J5_100 hts (va_tabs rfl rfl hEA.2.2.2.2.2.2.2.2.2.2.2.1) rfl rfl ⟨Nat.le_of_ble_eq_true rfl, Nat.le_of_ble_eq_true rfl⟩) hP hD hK [0, 1] rfl rfl rfl rfl EnvB.calling (EnvB.at hE hS hAB (fun _ h => h)) rfl hl.1 rfl (Nat.le_of_ble_eq_true rfl) dJ5_append_3fe6f_7 ⟨Nat.le_of_ble_eq_true rfl, Nat.le_of_ble_eq_true rfl⟩) hP hD hS hA [0, 1] [] rfl rfl rfl (by decide) (fun u_4 H locs hp_3 hP hD hS => ?_)
  obtain ⟨vgv_5, vnb_6, vgf_7⟩ := u_4
  have hp_3 : (sb_Fit vgf_7) ∧ ((vnb_6 = 16 ∨ vnb_6 = 34 ∨ vnb_6 = 70)) ∧ ((z_1 : Int32).toInt ≤ (vnb_6 : Int)) := hp_3
  obtain ⟨q_8, q_9, q_10⟩ := hp_3
  have hP : va_P (dC, dI) vwCl [(vg, .inr (0, [.ref vgv_5, .int 0, .int vgm, .int vgc])), (vgv_5, .inl (cy 3, vnb_6, .inl vgf_7))] H := hP
  have hD : va_D A [(vg, .inr (0, [.ref vgv_5, .int 0, .int vgm, .int vgc])), (vgv_5, .inl (cy 3, vnb_6, .inl vgf_7))] := hD
  refine W.widen (k := 1) (n := 70) (by decide) (by decide) ?_
  refine lv_aload_n hx hb dJ5_append_3fe6f_10 rfl (lv_at hl 0 rfl) ?_
  refine jn_i (wr := []) (rVU (As := []) (rest := []) (ci := 0) ⟨hx, hb, hml, hown, hts⟩ (b_isLatin1 l dC dI cy _ B kS vS vg vgv_5 vgm vgc vnb_6 vgf_7 q_8 (fun q hq => hAB q (va_free hD hS hA [0, 1] rfl q hq))) (cu_J5_83 hts rfl rfl ⟨Nat.le_of_ble_eq_true rfl, Nat.le_of_ble_eq_true rfl⟩) hP hD hK [0, 1] rfl rfl rfl rfl EnvB.calling (EnvB.at hE hS hAB (fun _ h => h)) rfl hl.1 rfl (Nat.le_of_ble_eq_true rfl) dJ5_append_3fe6f_11 ⟨Nat.le_of_ble_eq_true rfl, Nat.le_of_ble_eq_true rfl⟩) hP hD hS hA [0, 1] [] rfl rfl rfl (by decide) (fun r_11 u_13 H locs hp_12 hP hD hS => ?_)
  have hp_12 : ((r_11 = 1)) := hp_12
  have q_14 := hp_12
  have hP : va_P (dC, dI) vwCl [(vg, .inr (0, [.ref vgv_5, .int 0, .int vgm, .int vgc])), (vgv_5, .inl (cy 3, vnb_6, .inl vgf_7))] H := hP
  have hD : va_D A [(vg, .inr (0, [.ref vgv_5, .int 0, .int vgm, .int vgc])), (vgv_5, .inl (cy 3, vnb_6, .inl vgf_7))] := hD
  refine as_i 1 q_14 ?_
  refine lv_if_eq (tgt := 45) hx hb dJ5_append_3fe6f_14 (by decide) (fun c9 => absurd c9 (by decide)) (fun _ => ?_)
  refine lv_iload_n hx hb dJ5_append_3fe6f_17 rfl (lv_at hl 1 rfl) ?_
  refine jr_i (rSr (As := [.int vch]) (rest := []) ⟨hx, hb, hml, hown, hts⟩ (b_canEncode l dC dI cy vch r_vch) (cw_J5_191 hts rfl rfl ⟨Nat.le_of_ble_eq_true rfl, Nat.le_of_ble_eq_true rfl⟩) hP hK [] rfl rfl hl.1 rfl (Nat.le_of_ble_eq_true rfl) dJ5_append_3fe6f_18 ⟨Nat.le_of_ble_eq_true rfl, Nat.le_of_ble_eq_true rfl⟩) hP hS (fun r_15 H locs hp_16 hP hS => ?_)
  have hp_16 : ((r_15 = 1)) := hp_16
  have q_17 := hp_16
  have aq_17 := q_17
  · skip
    refine as_i 1 aq_17 ?_
    refine lv_if_eq (tgt := 45) hx hb dJ5_append_3fe6f_21 (by decide) (fun c9 => absurd c9 (by decide)) (fun _ => ?_)
    refine lv_aload_n hx hb dJ5_append_3fe6f_24 rfl (lv_at hl 0 rfl) ?_
    refine gf_J5_15 hx hb hts hown hK hP 0 rfl rfl dJ5_append_3fe6f_25 ?_
    refine lv_aload_n hx hb dJ5_append_3fe6f_28 rfl (lv_at hl 0 rfl) ?_
    refine lv_dup hx hb dJ5_append_3fe6f_29 rfl ?_
    refine gf_J5_79 hx hb hts hown hK hP 0 rfl rfl dJ5_append_3fe6f_30 ?_
    refine lv_dup_x1 hx hb dJ5_append_3fe6f_33 rfl rfl ?_
    refine lv_iconst (v := 1) hx hb dJ5_append_3fe6f_34 (by decide) ?_
    refine lv_iadd hx hb dJ5_append_3fe6f_35 ?_
    refine lv_topi (fun z_18 ez_18 => ?_)
    have bz_18 : z_18.toInt = vgc.toInt + (1 : Int32).toInt := i_add ez_18 (by omega) (by omega)
    refine pf_J5_79 hx hb hts hown hK hP hD hS 0 rfl rfl rfl (Nat.le_of_ble_eq_true rfl) dJ5_append_3fe6f_36 (fun H locs hP hD hS => ?_)
    have hP : va_P (dC, dI) vwCl [(vg, .inr (0, [.ref vgv_5, .int 0, .int vgm, .int z_18])), (vgv_5, .inl (cy 3, vnb_6, .inl vgf_7))] H := hP
    have hD : va_D A [(vg, .inr (0, [.ref vgv_5, .int 0, .int vgm, .int z_18])), (vgv_5, .inl (cy 3, vnb_6, .inl vgf_7))] := hD
    refine lv_iload_n hx hb dJ5_append_3fe6f_39 rfl (lv_at hl 1 rfl) ?_
    refine lv_i2b hx hb dJ5_append_3fe6f_40 rfl ?_
    refine lv_topi (fun z_19 ez_19 => ?_)
    have hin_20 : vp_in vgc vnb_6 := vp_in_iff.mpr ⟨by omega, by omega⟩
    refine va_bast hx hb hK hP hD hS 1 3 rfl rfl hin_20 dJ5_append_3fe6f_41 (fun H locs hP hD hS => ?_)
    obtain ⟨f_21, ef_21⟩ : ∃ z : Nat → Int32, z = upd vgf_7 (Int32.toNatClampNeg vgc) (vp_nar .byte z_19) := ⟨_, rfl⟩
    have hP : va_P (dC, dI) vwCl [(vg, .inr (0, [.ref vgv_5, .int 0, .int vgm, .int z_18])), (vgv_5, .inl (cy 3, vnb_6, .inl f_21))] H := by rw [ef_21]; exact hP
    have hD : va_D A [(vg, .inr (0, [.ref vgv_5, .int 0, .int vgm, .int z_18])), (vgv_5, .inl (cy 3, vnb_6, .inl f_21))] := by rw [ef_21]; exact hD
    have p_f_21 : sb_Fit f_21 := by rw [ef_21]; exact fit_up q_8
    refine lv_goto (tgt := 75) hx hb dJ5_append_3fe6f_42 (by decide) ?_
    refine lv_aload_n hx hb dJ5_append_3fe6f_75 rfl (lv_at hl 0 rfl) ?_
    refine W.widen (k := 1) (n := 70) (by decide) (by decide) ?_
    rw [hQ9]
    exact re_r (vgv_5, vnb_6, f_21, z_18) hx hb hr (Or.inl ⟨_, rfl⟩) hlocks ⟨(show sb_Fit f_21 from p_f_21), (show 0 ≤ (z_18 : Int32).toInt ∧ (z_18 : Int32).toInt ≤ 42 from ⟨by omega, by omega⟩), (show (vnb_6 = 16 ∨ vnb_6 = 34 ∨ vnb_6 = 70) from q_9), (show (z_18 : Int32).toInt ≤ (vnb_6 : Int) from (by omega)), (show (z_18 : Int32).toInt = (vgc : Int32).toInt + 1 from (by omega))⟩ (hP.sub [0, 1] rfl) (hD.sub [0, 1] rfl rfl) hS dJ5_append_3fe6f_76
abbrev cJ4_append_cf468 : ByteArray := prog_26_method_14_code
def yJ4_append_cf468 : MethodName := ⟨RJ4, "append", "(C)Ljava/lang/StringBuilder;"⟩
theorem t1111 : Cond.code yJ4_append_cf468 cJ4_append_cf468 2 (some (.object "java/lang/StringBuilder")) ∈ GW := gw_mem 1225 (by decide +kernel) (by decide +kernel)
abbrev O_b_sbappC (cy : Nat → ClassId) (vg : Nat) (vgv : Nat) (vgm : Int32) (vgc : Int32) (vnb : Nat) (vgf : Nat → Int32) (vch : Int32) (u : Nat × Nat × (Nat → Int32) × Int32) : va_W := [(vg, .inr (0, [.ref u.1, .int 0, .int vgm, .int u.2.2.2])), (u.1, .inl (cy 3, u.2.1, .inl u.2.2.1))]
theorem dJ4_append_cf468_0 : decode cJ4_append_cf468 0 = .ok (.aload_n 0, 1) := by decide +kernel
theorem dJ4_append_cf468_1 : decode cJ4_append_cf468 1 = .ok (.iload_n 1, 1) := by decide +kernel
theorem dJ4_append_cf468_2 : decode cJ4_append_cf468 2 = .ok (.invokespecial 50, 3) := by decide +kernel
theorem t1112 : Cond.methodLink RJ4 50 yJ5_append_3fe6f ∈ GW := gw_mem 1226 (by decide +kernel) (by decide +kernel)
theorem t1113 : Cond.instanceMethod yJ5_append_3fe6f ∈ GW := gw_mem 1227 (by decide +kernel) (by decide +kernel)
theorem t2081 : Cond.sameMethod yJ5_append_3fe6f.cls yJ5_append_3fe6f.cls yJ5_append_3fe6f.name yJ5_append_3fe6f.desc ∈ GW := gw_mem 2195 (by decide +kernel) (by decide +kernel)
theorem cw_J4_50 {R : Room} {s : State} {args : Array Value} {rm : Room} {mc ms : Nat} (hts : ∀ w ∈ GW, w.before args s = true) (hrc : rm.cells = mc) (hrs : rm.slots = ms) (hR : rm.frames + 1 ≤ R.frames ∧ 8 + (2 + 11) + rm.locals ≤ R.locals) : va_CS R s args RJ4 50 yJ5_append_3fe6f cJ5_append_3fe6f 2 (some (.object "java/lang/AbstractStringBuilder")) (wl yJ5_append_3fe6f cJ5_append_3fe6f 2 (some (.object "java/lang/AbstractStringBuilder"))) rm mc ms 1 := va_cwSU 1 hts (gi_U t1112 t2081 t359 t1113 t13 t1114) rfl hrc hrs (by decide +kernel) hR
theorem dJ4_append_cf468_5 : decode cJ4_append_cf468 5 = .ok (.pop, 1) := by decide +kernel
theorem dJ4_append_cf468_6 : decode cJ4_append_cf468 6 = .ok (.aload_n 0, 1) := by decide +kernel
theorem dJ4_append_cf468_7 : decode cJ4_append_cf468 7 = .ok (.areturn, 1) := by decide +kernel
set_option maxHeartbeats 4000000 in
set_option maxRecDepth 100000 in
theorem b_sbappC (l : Launch) (dC : Nat → ClassId) (dI : Nat → Nat → Nat) (cy : Nat → ClassId) (sz : Nat) (B : Nat → Prop) (kS vS : Nat → Nat) (vg : Nat) (vgv : Nat) (vgm : Int32) (vgc : Int32) (vnb : Nat) (vgf : Nat → Int32) (vch : Int32) (r_vgc : 0 ≤ (vgc : Int32).toInt ∧ (vgc : Int32).toInt ≤ 41) (r_vch : 0 ≤ (vch : Int32).toInt ∧ (vch : Int32).toInt ≤ 255) (p_vgf : sb_Fit vgf) (hn : (vnb = 16 ∨ vnb = 34 ∨ vnb = 70)) (hgc : (vgc : Int32).toInt ≤ (vnb : Int)) (hB : ∀ q : Nat, va_A [(vg, .inr (0, [.ref vgv, .int 0, .int vgm, .int vgc])), (vgv, .inl (cy 3, vnb, .inl vgf))] sz q → B q) : Met l yJ4_append_cf468 (wl yJ4_append_cf468 cJ4_append_cf468 2 (some (.object "java/lang/StringBuilder"))) ({ frames := 5, cells := 1, slots := 70, locals := 320 }) (Pw (dC, dI) vwCl cy [(vg, .inr (0, [.ref vgv, .int 0, .int vgm, .int vgc])), (vgv, .inl (cy 3, vnb, .inl vgf))] sz [.ref vg, .int vch] (EnvB B kS vS)) (Qr (dC, dI) vwCl (fun (u : Nat × Nat × (Nat → Int32) × Int32) => (sb_Fit u.2.2.1) ∧ (0 ≤ (u.2.2.2 : Int32).toInt ∧ (u.2.2.2 : Int32).toInt ≤ 42) ∧ ((u.2.1 = 16 ∨ u.2.1 = 34 ∨ u.2.1 = 70)) ∧ ((u.2.2.2 : Int32).toInt ≤ (u.2.1 : Int)) ∧ ((u.2.2.2 : Int32).toInt = (vgc : Int32).toInt + 1)) (O_b_sbappC cy vg vgv vgm vgc vnb vgf vch) (fun (u : Nat × Nat × (Nat → Int32) × Int32) => vg) (va_A [(vg, .inr (0, [.ref vgv, .int 0, .int vgm, .int vgc])), (vgv, .inl (cy 3, vnb, .inl vgf))] sz)) 1 70 (va_A [(vg, .inr (0, [.ref vgv, .int 0, .int vgm, .int vgc])), (vgv, .inl (cy 3, vnb, .inl vgf))] sz) := by
  refine mw (Qc := Qr (dC, dI) vwCl (fun (u : Nat × Nat × (Nat → Int32) × Int32) => (sb_Fit u.2.2.1) ∧ (0 ≤ (u.2.2.2 : Int32).toInt ∧ (u.2.2.2 : Int32).toInt ≤ 42) ∧ ((u.2.1 = 16 ∨ u.2.1 = 34 ∨ u.2.1 = 70)) ∧ ((u.2.2.2 : Int32).toInt ≤ (u.2.1 : Int)) ∧ ((u.2.2.2 : Int32).toInt = (vgc : Int32).toInt + 1)) (O_b_sbappC cy vg vgv vgm vgc vnb vgf vch) (fun (u : Nat × Nat × (Nat → Int32) × Int32) => vg)) RJ4 rfl (by decide +kernel) (Nat.le_of_ble_eq_true rfl) ?_
  intro p e s m below meth c A hx hb hr hlocks av9 hav hts hown hnm hml hK hP hD hA hS hE hAe Q9 hQ9 ls hl
  have hAB : ∀ q : Nat, A q → B q := by rw [hAe]; exact hB
  have hEA := hE.narrow hAB
  have hl : lv_has ls 2 [(0, .ref vg), (1, .int vch)] := hl
  refine lv_aload_n hx hb dJ4_append_cf468_0 rfl (lv_at hl 0 rfl) ?_
  refine lv_iload_n hx hb dJ4_append_cf468_1 rfl (lv_at hl 1 rfl) ?_
  refine jn_r (wr := []) (rU (As := [.int vch]) (rest := []) (ci := 0) ⟨hx, hb, hml, hown, hts⟩ (b_appC l dC dI cy _ B kS vS vg vgv vgm vgc vnb vgf vch r_vgc r_vch p_vgf hn hgc (fun q hq => hAB q (va_free hD hS hA [0, 1] rfl q hq))) (cw_J4_50 hts rfl rfl ⟨Nat.le_of_ble_eq_true rfl, Nat.le_of_ble_eq_true rfl⟩) hP hD hK [0, 1] rfl rfl rfl rfl EnvB.calling (EnvB.at hE hS hAB (fun _ h => h)) rfl hl.1 rfl (Nat.le_of_ble_eq_true rfl) dJ4_append_cf468_2 ⟨Nat.le_of_ble_eq_true rfl, Nat.le_of_ble_eq_true rfl⟩) hP hD hS hA [0, 1] [] rfl rfl rfl (by decide) (fun u_3 H locs hp_2 hP hD hS => ?_)
  obtain ⟨vgv_4, vnb_5, vgf_6, vgc_7⟩ := u_3
  have hp_2 : (sb_Fit vgf_6) ∧ (0 ≤ (vgc_7 : Int32).toInt ∧ (vgc_7 : Int32).toInt ≤ 42) ∧ ((vnb_5 = 16 ∨ vnb_5 = 34 ∨ vnb_5 = 70)) ∧ ((vgc_7 : Int32).toInt ≤ (vnb_5 : Int)) ∧ ((vgc_7 : Int32).toInt = (vgc : Int32).toInt + 1) := hp_2
  obtain ⟨q_8, q_9, q_10, q_11, q_12⟩ := hp_2
  have hP : va_P (dC, dI) vwCl [(vg, .inr (0, [.ref vgv_4, .int 0, .int vgm, .int vgc_7])), (vgv_4, .inl (cy 3, vnb_5, .inl vgf_6))] H := hP
  have hD : va_D A [(vg, .inr (0, [.ref vgv_4, .int 0, .int vgm, .int vgc_7])), (vgv_4, .inl (cy 3, vnb_5, .inl vgf_6))] := hD
  refine W.widen (k := 1) (n := 70) (by decide) (by decide) ?_
  refine W.eq (g2 := F0 m 5 ls [.ref vg]) rfl ?_
  refine lv_pop hx hb dJ4_append_cf468_5 rfl ?_
  refine lv_aload_n hx hb dJ4_append_cf468_6 rfl (lv_at hl 0 rfl) ?_
  refine W.widen (k := 1) (n := 70) (by decide) (by decide) ?_
  rw [hQ9]
  exact re_r (vgv_4, vnb_5, vgf_6, vgc_7) hx hb hr (Or.inl ⟨_, rfl⟩) hlocks ⟨(show sb_Fit vgf_6 from q_8), (show 0 ≤ (vgc_7 : Int32).toInt ∧ (vgc_7 : Int32).toInt ≤ 42 from ⟨by omega, by omega⟩), (show (vnb_5 = 16 ∨ vnb_5 = 34 ∨ vnb_5 = 70) from q_10), (show (vgc_7 : Int32).toInt ≤ (vnb_5 : Int) from q_11), (show (vgc_7 : Int32).toInt = (vgc : Int32).toInt + 1 from q_12)⟩ (hP.sub [0, 1] rfl) (hD.sub [0, 1] rfl rfl) hS dJ4_append_cf468_7
abbrev cJ5_length_8abf5 : ByteArray := prog_15_method_6_code
def yJ5_length_8abf5 : MethodName := ⟨RJ5, "length", "()I"⟩
theorem t1102 : Cond.code yJ5_length_8abf5 cJ5_length_8abf5 1 (some .int) ∈ GW := gw_mem 1216 (by decide +kernel) (by decide +kernel)
abbrev O_b_length (cy : Nat → ClassId) (vg : Nat) (vgv : Nat) (vgm : Int32) (vgc : Int32) (vnb : Nat) (vgf : Nat → Int32) (u : Unit) : va_W := [(vg, .inr (0, [.ref vgv, .int 0, .int vgm, .int vgc])), (vgv, .inl (cy 3, vnb, .inl vgf))]
theorem dJ5_length_8abf5_0 : decode cJ5_length_8abf5 0 = .ok (.aload_n 0, 1) := by decide +kernel
theorem dJ5_length_8abf5_1 : decode cJ5_length_8abf5 1 = .ok (.getfield 79, 3) := by decide +kernel
theorem dJ5_length_8abf5_4 : decode cJ5_length_8abf5 4 = .ok (.ireturn, 1) := by decide +kernel
set_option maxHeartbeats 4000000 in
set_option maxRecDepth 100000 in
theorem b_length (l : Launch) (dC : Nat → ClassId) (dI : Nat → Nat → Nat) (cy : Nat → ClassId) (sz : Nat) (B : Nat → Prop) (kS vS : Nat → Nat) (vg : Nat) (vgv : Nat) (vgm : Int32) (vgc : Int32) (vnb : Nat) (vgf : Nat → Int32) (p_vgf : sb_Fit vgf) (hB : ∀ q : Nat, va_A [(vg, .inr (0, [.ref vgv, .int 0, .int vgm, .int vgc])), (vgv, .inl (cy 3, vnb, .inl vgf))] sz q → B q) : Met l yJ5_length_8abf5 (wl yJ5_length_8abf5 cJ5_length_8abf5 1 (some .int)) ({ frames := 0, cells := 0, slots := 0, locals := 0 }) (Pw (dC, dI) vwCl cy [(vg, .inr (0, [.ref vgv, .int 0, .int vgm, .int vgc])), (vgv, .inl (cy 3, vnb, .inl vgf))] sz [.ref vg] (EnvB B kS vS)) (Qi (dC, dI) vwCl (fun (r : Int32) (u : Unit) => ((r : Int32).toInt = (vgc : Int32).toInt)) (O_b_length cy vg vgv vgm vgc vnb vgf) (va_A [(vg, .inr (0, [.ref vgv, .int 0, .int vgm, .int vgc])), (vgv, .inl (cy 3, vnb, .inl vgf))] sz)) 0 0 (va_A [(vg, .inr (0, [.ref vgv, .int 0, .int vgm, .int vgc])), (vgv, .inl (cy 3, vnb, .inl vgf))] sz) := by
  refine mw (Qc := Qi (dC, dI) vwCl (fun (r : Int32) (u : Unit) => ((r : Int32).toInt = (vgc : Int32).toInt)) (O_b_length cy vg vgv vgm vgc vnb vgf)) RJ5 rfl (by decide +kernel) (Nat.le_of_ble_eq_true rfl) ?_
  intro p e s m below meth c A hx hb hr hlocks av9 hav hts hown hnm hml hK hP hD hA hS hE hAe Q9 hQ9 ls hl
  have hAB : ∀ q : Nat, A q → B q := by rw [hAe]; exact hB
  have hEA := hE.narrow hAB
  have hl : lv_has ls 1 [(0, .ref vg)] := hl
  refine lv_aload_n hx hb dJ5_length_8abf5_0 rfl (lv_at hl 0 rfl) ?_
  refine gf_J5_79 hx hb hts hown hK hP 0 rfl rfl dJ5_length_8abf5_1 ?_
  rw [hQ9]
  exact re_i () hx hb hr hlocks (show (vgc : Int32).toInt = (vgc : Int32).toInt from (by omega)) (hP.sub [0, 1] rfl) (hD.sub [0, 1] rfl rfl) hS dJ5_length_8abf5_4
abbrev cJ4_length_8abf5 : ByteArray := prog_26_method_93_code
def yJ4_length_8abf5 : MethodName := ⟨RJ4, "length", "()I"⟩
theorem t1099 : Cond.code yJ4_length_8abf5 cJ4_length_8abf5 1 (some .int) ∈ GW := gw_mem 1213 (by decide +kernel) (by decide +kernel)
abbrev O_b_sblength (cy : Nat → ClassId) (vg : Nat) (vgv : Nat) (vgm : Int32) (vgc : Int32) (vnb : Nat) (vgf : Nat → Int32) (u : Unit) : va_W := [(vg, .inr (0, [.ref vgv, .int 0, .int vgm, .int vgc])), (vgv, .inl (cy 3, vnb, .inl vgf))]
theorem dJ4_length_8abf5_0 : decode cJ4_length_8abf5 0 = .ok (.aload_n 0, 1) := by decide +kernel
theorem dJ4_length_8abf5_1 : decode cJ4_length_8abf5 1 = .ok (.invokespecial 343, 3) := by decide +kernel
theorem t1100 : Cond.methodLink RJ4 343 yJ5_length_8abf5 ∈ GW := gw_mem 1214 (by decide +kernel) (by decide +kernel)
theorem t1101 : Cond.instanceMethod yJ5_length_8abf5 ∈ GW := gw_mem 1215 (by decide +kernel) (by decide +kernel)
theorem t2080 : Cond.sameMethod yJ5_length_8abf5.cls yJ5_length_8abf5.cls yJ5_length_8abf5.name yJ5_length_8abf5.desc ∈ GW := gw_mem 2194 (by decide +kernel) (by decide +kernel)
theorem cw_J4_343 {R : Room} {s : State} {args : Array Value} {rm : Room} {mc ms : Nat} (hts : ∀ w ∈ GW, w.before args s = true) (hrc : rm.cells = mc) (hrs : rm.slots = ms) (hR : rm.frames + 1 ≤ R.frames ∧ 8 + (1 + 11) + rm.locals ≤ R.locals) : va_CS R s args RJ4 343 yJ5_length_8abf5 cJ5_length_8abf5 1 (some .int) (wl yJ5_length_8abf5 cJ5_length_8abf5 1 (some .int)) rm mc ms 0 := va_cwSU 0 hts (gi_U t1100 t2080 t359 t1101 t13 t1102) rfl hrc hrs (by decide +kernel) hR
theorem dJ4_length_8abf5_4 : decode cJ4_length_8abf5 4 = .ok (.ireturn, 1) := by decide +kernel
set_option maxHeartbeats 4000000 in
set_option maxRecDepth 100000 in
theorem b_sblength (l : Launch) (dC : Nat → ClassId) (dI : Nat → Nat → Nat) (cy : Nat → ClassId) (sz : Nat) (B : Nat → Prop) (kS vS : Nat → Nat) (vg : Nat) (vgv : Nat) (vgm : Int32) (vgc : Int32) (vnb : Nat) (vgf : Nat → Int32) (p_vgf : sb_Fit vgf) (hB : ∀ q : Nat, va_A [(vg, .inr (0, [.ref vgv, .int 0, .int vgm, .int vgc])), (vgv, .inl (cy 3, vnb, .inl vgf))] sz q → B q) : Met l yJ4_length_8abf5 (wl yJ4_length_8abf5 cJ4_length_8abf5 1 (some .int)) ({ frames := 1, cells := 0, slots := 0, locals := 64 }) (Pw (dC, dI) vwCl cy [(vg, .inr (0, [.ref vgv, .int 0, .int vgm, .int vgc])), (vgv, .inl (cy 3, vnb, .inl vgf))] sz [.ref vg] (EnvB B kS vS)) (Qi (dC, dI) vwCl (fun (r : Int32) (u : Unit) => ((r : Int32).toInt = (vgc : Int32).toInt)) (O_b_sblength cy vg vgv vgm vgc vnb vgf) (va_A [(vg, .inr (0, [.ref vgv, .int 0, .int vgm, .int vgc])), (vgv, .inl (cy 3, vnb, .inl vgf))] sz)) 0 0 (va_A [(vg, .inr (0, [.ref vgv, .int 0, .int vgm, .int vgc])), (vgv, .inl (cy 3, vnb, .inl vgf))] sz) := by
  refine mw (Qc := Qi (dC, dI) vwCl (fun (r : Int32) (u : Unit) => ((r : Int32).toInt = (vgc : Int32).toInt)) (O_b_sblength cy vg vgv vgm vgc vnb vgf)) RJ4 rfl (by decide +kernel) (Nat.le_of_ble_eq_true rfl) ?_
  intro p e s m below meth c A hx hb hr hlocks av9 hav hts hown hnm hml hK hP hD hA hS hE hAe Q9 hQ9 ls hl
  have hAB : ∀ q : Nat, A q → B q := by rw [hAe]; exact hB
  have hEA := hE.narrow hAB
  have hl : lv_has ls 1 [(0, .ref vg)] := hl
  refine lv_aload_n hx hb dJ4_length_8abf5_0 rfl (lv_at hl 0 rfl) ?_
  refine jn_i (wr := []) (rU (As := []) (rest := []) (ci := 0) ⟨hx, hb, hml, hown, hts⟩ (b_length l dC dI cy _ B kS vS vg vgv vgm vgc vnb vgf p_vgf (fun q hq => hAB q (va_free hD hS hA [0, 1] rfl q hq))) (cw_J4_343 hts rfl rfl ⟨Nat.le_of_ble_eq_true rfl, Nat.le_of_ble_eq_true rfl⟩) hP hD hK [0, 1] rfl rfl rfl rfl EnvB.calling (EnvB.at hE hS hAB (fun _ h => h)) rfl hl.1 rfl (Nat.le_of_ble_eq_true rfl) dJ4_length_8abf5_1 ⟨Nat.le_of_ble_eq_true rfl, Nat.le_of_ble_eq_true rfl⟩) hP hD hS hA [0, 1] [] rfl rfl rfl (by decide) (fun r_1 u_3 H locs hp_2 hP hD hS => ?_)
  have hp_2 : ((r_1 : Int32).toInt = (vgc : Int32).toInt) := hp_2
  have q_4 := hp_2
  have hP : va_P (dC, dI) vwCl [(vg, .inr (0, [.ref vgv, .int 0, .int vgm, .int vgc])), (vgv, .inl (cy 3, vnb, .inl vgf))] H := hP
  have hD : va_D A [(vg, .inr (0, [.ref vgv, .int 0, .int vgm, .int vgc])), (vgv, .inl (cy 3, vnb, .inl vgf))] := hD
  rw [hQ9]
  exact re_i () hx hb hr hlocks (show (r_1 : Int32).toInt = (vgc : Int32).toInt from q_4) (hP.sub [0, 1] rfl) (hD.sub [0, 1] rfl rfl) hS dJ4_length_8abf5_4
