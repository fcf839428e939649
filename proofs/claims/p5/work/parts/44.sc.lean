set_option maxHeartbeats 4000000 in
set_option maxRecDepth 100000 in
theorem b_coder_0 (l : Launch) (dC : Nat → ClassId) (dI : Nat → Nat → Nat) (cy : Nat → ClassId) (sz : Nat) (B : Nat → Prop) (kS vS : Nat → Nat)   (hB : ∀ q : Nat, va_A [] sz q → B q) : Met l yJ0_coder_7d493 (wl yJ0_coder_7d493 cJ0_coder_7d493 1 (some .byte)) ({ frames := 0, cells := 0, slots := 0, locals := 0 }) (Pw (dC, dI) vwCl cy [] sz [.ref (kS 0)] (EnvB B kS vS)) (Qi (dC, dI) vwCl (fun (r : Int32) (u : Unit) => ((r = 0))) (fun (u : Unit) => []) (va_A [] sz)) 0 0 (va_A [] sz) := by
  refine mw (Qc := Qi (dC, dI) vwCl (fun (r : Int32) (u : Unit) => ((r = 0))) (fun (u : Unit) => [])) RJ0 rfl (by decide +kernel) (Nat.le_of_ble_eq_true rfl) ?_
  intro p e s m below meth c A hx hb hr hlocks av9 hav hts hown hnm hml hK hP hD hA hS hE hAe Q9 hQ9 ls hl
  have hAB : ∀ q : Nat, A q → B q := by rw [hAe]; exact hB
  have hEA := hE.narrow hAB
  have hl : lv_has ls 1 [(0, .ref (kS 0))] := hl
  refine va_gets hx hb hEA.2.2.2.2.2.1 hS hown (hts _ t52) (fun _ h => h) dJ0_coder_7d493_0 ?_
  refine lv_if_eq (tgt := 13) hx hb dJ0_coder_7d493_3 (by decide) (fun c9 => absurd c9 (by decide)) (fun _ => ?_)
  refine lv_aload_n hx hb dJ0_coder_7d493_6 rfl (lv_at hl 0 rfl) ?_
  refine vk_getf hx hb (hEA.2.2.2.2.1.1 0 (by decide)).2.1 hS hown (hts _ t2102) (fun _ h => h) dJ0_coder_7d493_7 ?_
  refine lv_goto (tgt := 14) hx hb dJ0_coder_7d493_10 (by decide) ?_
  have k_0 : (0 : Int32).toInt = 0 := by decide
  rw [hQ9]
  exact re_c () hx hb hr hlocks rfl (show ((0 : Int32) = 0) from (rfl)) (hP.sub [] rfl) (hD.sub [] rfl rfl) hS dJ0_coder_7d493_14
set_option maxHeartbeats 4000000 in
set_option maxRecDepth 100000 in
theorem b_slen_0 (l : Launch) (dC : Nat → ClassId) (dI : Nat → Nat → Nat) (cy : Nat → ClassId) (sz : Nat) (B : Nat → Prop) (kS vS : Nat → Nat)   (hB : ∀ q : Nat, va_A [] sz q → B q) : Met l yJ0_length_8abf5 (wl yJ0_length_8abf5 cJ0_length_8abf5 1 (some .int)) ({ frames := 1, cells := 0, slots := 0, locals := 64 }) (Pw (dC, dI) vwCl cy [] sz [.ref (kS 0)] (EnvB B kS vS)) (Qi (dC, dI) vwCl (fun (r : Int32) (u : Unit) => ((r = 7))) (fun (u : Unit) => []) (va_A [] sz)) 0 0 (va_A [] sz) := by
  refine mw (Qc := Qi (dC, dI) vwCl (fun (r : Int32) (u : Unit) => ((r = 7))) (fun (u : Unit) => [])) RJ0 rfl (by decide +kernel) (Nat.le_of_ble_eq_true rfl) ?_
  intro p e s m below meth c A hx hb hr hlocks av9 hav hts hown hnm hml hK hP hD hA hS hE hAe Q9 hQ9 ls hl
  have hAB : ∀ q : Nat, A q → B q := by rw [hAe]; exact hB
  have hEA := hE.narrow hAB
  have hl : lv_has ls 1 [(0, .ref (kS 0))] := hl
  refine lv_aload_n hx hb dJ0_length_8abf5_0 rfl (lv_at hl 0 rfl) ?_
  refine vk_getf hx hb (hEA.2.2.2.2.1.1 0 (by decide)).2.2.1 hS hown (hts _ t2101) (fun _ h => h) dJ0_length_8abf5_1 ?_
  refine va_tlen (v := 7) hx hb (hEA.2.2.2.2.1.1 0 (by decide)).2.2.2 hS rfl dJ0_length_8abf5_4 ?_
  refine lv_aload_n hx hb dJ0_length_8abf5_5 rfl (lv_at hl 0 rfl) ?_
  refine jn_i (wr := []) (rVs (As := []) (rest := [.int 7]) ⟨hx, hb, hml, hown, hts⟩ (b_coder_0 l dC dI cy _ B kS vS   (fun q hq => hAB q (va_free hD hS hA [] rfl q hq))) (cw_J0_335 hts rfl rfl ⟨Nat.le_of_ble_eq_true rfl, Nat.le_of_ble_eq_true rfl⟩) hP hD hK [] rfl rfl (vk_recv (i := 0) hEA.2.2.2.2.1 (by decide) hS) EnvB.calling (EnvB.at hE hS hAB (fun _ h => h)) rfl hl.1 rfl (Nat.le_of_ble_eq_true rfl) dJ0_length_8abf5_6 ⟨Nat.le_of_ble_eq_true rfl, Nat.le_of_ble_eq_true rfl⟩) hP hD hS hA [] [] rfl rfl rfl (by decide) (fun r_1 u_3 H locs hp_2 hP hD hS => ?_)
  have hp_2 : ((r_1 = 0)) := hp_2
  have q_4 := hp_2
  have hP : va_P (dC, dI) vwCl [] H := hP
  have hD : va_D A [] := hD
  refine as_i 0 q_4 ?_
  refine lv_ishr hx hb dJ0_length_8abf5_9 ?_
  refine as_i 7 (sb_shr0 _) ?_
  have k_7 : (7 : Int32).toInt = 7 := by decide
  rw [hQ9]
  exact re_i () hx hb hr hlocks (show ((7 : Int32) = 7) from (rfl)) (hP.sub [] rfl) (hD.sub [] rfl rfl) hS dJ0_length_8abf5_10
abbrev cJ0_getBytes_840e7 : ByteArray := prog_25_method_147_code
def yJ0_getBytes_840e7 : MethodName := ⟨RJ0, "getBytes", "([BIB)V"⟩
theorem t1093 : Cond.code yJ0_getBytes_840e7 cJ0_getBytes_840e7 4 none ∈ GW := gw_mem 1207 (by decide +kernel) (by decide +kernel)
abbrev O_b_getBytes_0 (cy : Nat → ClassId) (vgv : Nat) (vnb : Nat) (vgf : Nat → Int32) (vat : Int32) (u : (Nat → Int32)) : va_W := [(vgv, .inl (cy 3, vnb, .inl u))]
theorem dJ0_getBytes_840e7_0 : decode cJ0_getBytes_840e7 0 = .ok (.aload_n 0, 1) := by decide +kernel
theorem dJ0_getBytes_840e7_1 : decode cJ0_getBytes_840e7 1 = .ok (.invokevirtual 335, 3) := by decide +kernel
theorem dJ0_getBytes_840e7_4 : decode cJ0_getBytes_840e7 4 = .ok (.iload_n 3, 1) := by decide +kernel
theorem dJ0_getBytes_840e7_5 : decode cJ0_getBytes_840e7 5 = .ok (.if_icmp .ne 23, 3) := by decide +kernel
theorem dJ0_getBytes_840e7_8 : decode cJ0_getBytes_840e7 8 = .ok (.aload_n 0, 1) := by decide +kernel
theorem dJ0_getBytes_840e7_9 : decode cJ0_getBytes_840e7 9 = .ok (.getfield 9, 3) := by decide +kernel
theorem dJ0_getBytes_840e7_12 : decode cJ0_getBytes_840e7 12 = .ok (.iconst 0, 1) := by decide +kernel
theorem dJ0_getBytes_840e7_13 : decode cJ0_getBytes_840e7 13 = .ok (.aload_n 1, 1) := by decide +kernel
theorem dJ0_getBytes_840e7_14 : decode cJ0_getBytes_840e7 14 = .ok (.iload_n 2, 1) := by decide +kernel
theorem dJ0_getBytes_840e7_15 : decode cJ0_getBytes_840e7 15 = .ok (.iload_n 3, 1) := by decide +kernel
theorem dJ0_getBytes_840e7_16 : decode cJ0_getBytes_840e7 16 = .ok (.ishl, 1) := by decide +kernel
theorem dJ0_getBytes_840e7_17 : decode cJ0_getBytes_840e7 17 = .ok (.aload_n 0, 1) := by decide +kernel
theorem dJ0_getBytes_840e7_18 : decode cJ0_getBytes_840e7 18 = .ok (.getfield 9, 3) := by decide +kernel
theorem dJ0_getBytes_840e7_21 : decode cJ0_getBytes_840e7 21 = .ok (.arraylength, 1) := by decide +kernel
theorem dJ0_getBytes_840e7_22 : decode cJ0_getBytes_840e7 22 = .ok (.invokestatic 212, 3) := by decide +kernel
theorem t1094 : Cond.methodLink RJ0 212 arraycopyName ∈ GW := gw_mem 1208 (by decide +kernel) (by decide +kernel)
theorem dJ0_getBytes_840e7_25 : decode cJ0_getBytes_840e7 25 = .ok (.goto 18, 3) := by decide +kernel
theorem dJ0_getBytes_840e7_43 : decode cJ0_getBytes_840e7 43 = .ok (.return_, 1) := by decide +kernel
set_option maxHeartbeats 4000000 in
set_option maxRecDepth 100000 in
theorem b_getBytes_0 (l : Launch) (dC : Nat → ClassId) (dI : Nat → Nat → Nat) (cy : Nat → ClassId) (sz : Nat) (B : Nat → Prop) (kS vS : Nat → Nat) (vgv : Nat) (vnb : Nat) (vgf : Nat → Int32) (vat : Int32) (r_vat : 0 ≤ (vat : Int32).toInt ∧ (vat : Int32).toInt ≤ 42) (p_vgf : sb_Fit vgf) (hn : (vnb = 16 ∨ vnb = 34 ∨ vnb = 70)) (hat : (vat : Int32).toInt + 7 ≤ (vnb : Int)) (hB : ∀ q : Nat, va_A [(vgv, .inl (cy 3, vnb, .inl vgf))] sz q → B q) : Met l yJ0_getBytes_840e7 (wl yJ0_getBytes_840e7 cJ0_getBytes_840e7 4 none) ({ frames := 1, cells := 0, slots := 0, locals := 64 }) (Pw (dC, dI) vwCl cy [(vgv, .inl (cy 3, vnb, .inl vgf))] sz [.ref (kS 0), .ref vgv, .int vat, .int 0] (EnvB B kS vS)) (Qv (dC, dI) vwCl (fun (u : (Nat → Int32)) => (sb_Fit u)) (O_b_getBytes_0 cy vgv vnb vgf vat) (va_A [(vgv, .inl (cy 3, vnb, .inl vgf))] sz)) 0 0 (va_A [(vgv, .inl (cy 3, vnb, .inl vgf))] sz) := by
  refine mw (Qc := Qv (dC, dI) vwCl (fun (u : (Nat → Int32)) => (sb_Fit u)) (O_b_getBytes_0 cy vgv vnb vgf vat)) RJ0 rfl (by decide +kernel) (Nat.le_of_ble_eq_true rfl) ?_
  intro p e s m below meth c A hx hb hr hlocks av9 hav hts hown hnm hml hK hP hD hA hS hE hAe Q9 hQ9 ls hl
  have hAB : ∀ q : Nat, A q → B q := by rw [hAe]; exact hB
  have hEA := hE.narrow hAB
  have hl : lv_has ls 4 [(0, .ref (kS 0)), (1, .ref vgv), (2, .int vat), (3, .int 0)] := hl
  refine lv_aload_n hx hb dJ0_getBytes_840e7_0 rfl (lv_at hl 0 rfl) ?_
  refine jn_i (wr := [(vgv, .inl (cy 3, vnb, .inl vgf))]) (rVs (As := []) (rest := []) ⟨hx, hb, hml, hown, hts⟩ (b_coder_0 l dC dI cy _ B kS vS   (fun q hq => hAB q (va_free hD hS hA [] rfl q hq))) (cw_J0_335 hts rfl rfl ⟨Nat.le_of_ble_eq_true rfl, Nat.le_of_ble_eq_true rfl⟩) hP hD hK [] rfl rfl (vk_recv (i := 0) hEA.2.2.2.2.1 (by decide) hS) EnvB.calling (EnvB.at hE hS hAB (fun _ h => h)) rfl hl.1 rfl (Nat.le_of_ble_eq_true rfl) dJ0_getBytes_840e7_1 ⟨Nat.le_of_ble_eq_true rfl, Nat.le_of_ble_eq_true rfl⟩) hP hD hS hA [] [0] rfl rfl rfl (by decide) (fun r_1 u_3 H locs hp_2 hP hD hS => ?_)
  have hp_2 : ((r_1 = 0)) := hp_2
  have q_4 := hp_2
  have hP : va_P (dC, dI) vwCl [(vgv, .inl (cy 3, vnb, .inl vgf))] H := hP
  have hD : va_D A [(vgv, .inl (cy 3, vnb, .inl vgf))] := hD
  refine as_i 0 q_4 ?_
  refine lv_iload_n hx hb dJ0_getBytes_840e7_4 rfl (lv_at hl 3 rfl) ?_
  refine lv_icmp_ne (tgt := 28) hx hb dJ0_getBytes_840e7_5 (by decide) (fun c9 => absurd c9 (by decide)) (fun _ => ?_)
  refine lv_aload_n hx hb dJ0_getBytes_840e7_8 rfl (lv_at hl 0 rfl) ?_
  refine vk_getf hx hb (hEA.2.2.2.2.1.1 0 (by decide)).2.2.1 hS hown (hts _ t2101) (fun _ h => h) dJ0_getBytes_840e7_9 ?_
  refine lv_iconst (v := 0) hx hb dJ0_getBytes_840e7_12 (by decide) ?_
  refine lv_aload_n hx hb dJ0_getBytes_840e7_13 rfl (lv_at hl 1 rfl) ?_
  refine lv_iload_n hx hb dJ0_getBytes_840e7_14 rfl (lv_at hl 2 rfl) ?_
  refine lv_iload_n hx hb dJ0_getBytes_840e7_15 rfl (lv_at hl 3 rfl) ?_
  refine lv_ishl hx hb dJ0_getBytes_840e7_16 ?_
  refine as_i vat (sb_shl0 _) ?_
  refine lv_aload_n hx hb dJ0_getBytes_840e7_17 rfl (lv_at hl 0 rfl) ?_
  refine vk_getf hx hb (hEA.2.2.2.2.1.1 0 (by decide)).2.2.1 hS hown (hts _ t2101) (fun _ h => h) dJ0_getBytes_840e7_18 ?_
  refine va_tlen (v := 7) hx hb (hEA.2.2.2.2.1.1 0 (by decide)).2.2.2 hS rfl dJ0_getBytes_840e7_21 ?_
  have k_7 : (7 : Int32).toInt = 7 := by decide
  have k_0 : (0 : Int32).toInt = 0 := by decide
  refine vk_copyt (f := fun j => (sbB.getD 0 []).getD j 0) hx hb (by rw [hml, hl.1]) hown (hts _ t1094) (hts _ t769) (hts _ t768) (hts _ t23) hK hP hD hS (hEA.2.2.2.2.1.1 0 (by decide)).2.2.2 0 3 rfl rfl (fun h9 => absurd (i_lt.mp h9) (by have := k_0; omega)) (fun h9 => absurd (i_lt.mp h9) (by have := k_0; omega)) (fun h9 => absurd (i_lt.mp h9) (by have := k_0; omega)) (by have h1 := (cl_nn (x := (0 : Int32)) (by omega)); have h2 := (cl_nn (x := (7 : Int32)) (by omega)); show _ ≤ 7; omega) (by have h1 := (cl_nn (x := vat) (by omega)); have h2 := (cl_nn (x := (7 : Int32)) (by omega)); omega) (fun i _ => sb_list 0 _) (Nat.le_of_ble_eq_true rfl) (Nat.le_of_ble_eq_true rfl) dJ0_getBytes_840e7_22 (fun H locs hP hD hS => ?_)
  obtain ⟨f_5, ef_5⟩ : ∃ z : Nat → Int32, z = va_cpy (fun j => (sbB.getD 0 []).getD j 0) vgf (Int32.toNatClampNeg 0) (Int32.toNatClampNeg vat) (Int32.toNatClampNeg 7) := ⟨_, rfl⟩
  have hP : va_P (dC, dI) vwCl [(vgv, .inl (cy 3, vnb, .inl f_5))] H := by rw [ef_5]; exact hP
  have hD : va_D A [(vgv, .inl (cy 3, vnb, .inl f_5))] := by rw [ef_5]; exact hD
  have p_f_5 : sb_Fit f_5 := by rw [ef_5]; exact sb_fitC (fun j => sb_list 0 j) p_vgf
  refine lv_goto (tgt := 43) hx hb dJ0_getBytes_840e7_25 (by decide) ?_
  rw [hQ9]
  exact re_v f_5 hx hb hr hlocks (show sb_Fit f_5 from p_f_5) (hP.sub [0] rfl) (hD.sub [0] rfl rfl) hS dJ0_getBytes_840e7_43
abbrev cJ5_inflateIfNeededFor_a7421 : ByteArray := prog_15_method_71_code
def yJ5_inflateIfNeededFor_a7421 : MethodName := ⟨RJ5, "inflateIfNeededFor", "(Ljava/lang/String;)V"⟩
theorem t1069 : Cond.code yJ5_inflateIfNeededFor_a7421 cJ5_inflateIfNeededFor_a7421 2 none ∈ GW := gw_mem 1183 (by decide +kernel) (by decide +kernel)
abbrev O_b_inflate_0 (cy : Nat → ClassId) (vg : Nat) (vgv : Nat) (vgm : Int32) (vgc : Int32) (vnb : Nat) (vgf : Nat → Int32) (u : Unit) : va_W := [(vg, .inr (0, [.ref vgv, .int 0, .int vgm, .int vgc])), (vgv, .inl (cy 3, vnb, .inl vgf))]
theorem dJ5_inflateIfNeededFor_a7421_0 : decode cJ5_inflateIfNeededFor_a7421 0 = .ok (.getstatic 18, 3) := by decide +kernel
theorem dJ5_inflateIfNeededFor_a7421_3 : decode cJ5_inflateIfNeededFor_a7421 3 = .ok (.ifCond .eq 18, 3) := by decide +kernel
theorem dJ5_inflateIfNeededFor_a7421_6 : decode cJ5_inflateIfNeededFor_a7421 6 = .ok (.aload_n 0, 1) := by decide +kernel
theorem dJ5_inflateIfNeededFor_a7421_7 : decode cJ5_inflateIfNeededFor_a7421 7 = .ok (.getfield 22, 3) := by decide +kernel
theorem dJ5_inflateIfNeededFor_a7421_10 : decode cJ5_inflateIfNeededFor_a7421 10 = .ok (.aload_n 1, 1) := by decide +kernel
theorem dJ5_inflateIfNeededFor_a7421_11 : decode cJ5_inflateIfNeededFor_a7421 11 = .ok (.invokevirtual 40, 3) := by decide +kernel
theorem t1070 : Cond.methodLink RJ5 40 yJ0_coder_7d493 ∈ GW := gw_mem 1184 (by decide +kernel) (by decide +kernel)
theorem cw_J5_40 {R : Room} {s : State} {args : Array Value} {rm : Room} {mc ms : Nat} (hts : ∀ w ∈ GW, w.before args s = true) (hrc : rm.cells = mc) (hrs : rm.slots = ms) (hR : rm.frames + 1 ≤ R.frames ∧ 8 + (1 + 11) + rm.locals ≤ R.locals) : CallW R s args RJ5 RJ0 40 yJ0_coder_7d493 cJ0_coder_7d493 1 (some .byte) (wl yJ0_coder_7d493 cJ0_coder_7d493 1 (some .byte)) rm mc ms 0 := cwV 0 hts (gi_V t1070 t49 t50 t3 t51) rfl hrc hrs (by decide +kernel) hR
theorem dJ5_inflateIfNeededFor_a7421_14 : decode cJ5_inflateIfNeededFor_a7421 14 = .ok (.if_icmp .eq 7, 3) := by decide +kernel
theorem dJ5_inflateIfNeededFor_a7421_21 : decode cJ5_inflateIfNeededFor_a7421 21 = .ok (.return_, 1) := by decide +kernel
set_option maxHeartbeats 4000000 in
set_option maxRecDepth 100000 in
theorem b_inflate_0 (l : Launch) (dC : Nat → ClassId) (dI : Nat → Nat → Nat) (cy : Nat → ClassId) (sz : Nat) (B : Nat → Prop) (kS vS : Nat → Nat) (vg : Nat) (vgv : Nat) (vgm : Int32) (vgc : Int32) (vnb : Nat) (vgf : Nat → Int32) (p_vgf : sb_Fit vgf) (hB : ∀ q : Nat, va_A [(vg, .inr (0, [.ref vgv, .int 0, .int vgm, .int vgc])), (vgv, .inl (cy 3, vnb, .inl vgf))] sz q → B q) : Met l yJ5_inflateIfNeededFor_a7421 (wl yJ5_inflateIfNeededFor_a7421 cJ5_inflateIfNeededFor_a7421 2 none) ({ frames := 1, cells := 0, slots := 0, locals := 64 }) (Pw (dC, dI) vwCl cy [(vg, .inr (0, [.ref vgv, .int 0, .int vgm, .int vgc])), (vgv, .inl (cy 3, vnb, .inl vgf))] sz [.ref vg, .ref (kS 0)] (EnvB B kS vS)) (Qv (dC, dI) vwCl (fun (u : Unit) => True) (O_b_inflate_0 cy vg vgv vgm vgc vnb vgf) (va_A [(vg, .inr (0, [.ref vgv, .int 0, .int vgm, .int vgc])), (vgv, .inl (cy 3, vnb, .inl vgf))] sz)) 0 0 (va_A [(vg, .inr (0, [.ref vgv, .int 0, .int vgm, .int vgc])), (vgv, .inl (cy 3, vnb, .inl vgf))] sz) := by
  refine mw (Qc := Qv (dC, dI) vwCl (fun (u : Unit) => True) (O_b_inflate_0 cy vg vgv vgm vgc vnb vgf)) RJ5 rfl (by decide +kernel) (Nat.le_of_ble_eq_true rfl) ?_
  intro p e s m below meth c A hx hb hr hlocks av9 hav hts hown hnm hml hK hP hD hA hS hE hAe Q9 hQ9 ls hl
  have hAB : ∀ q : Nat, A q → B q := by rw [hAe]; exact hB
  have hEA := hE.narrow hAB
  have hl : lv_has ls 2 [(0, .ref vg), (1, .ref (kS 0))] := hl
  refine va_gets hx hb hEA.2.2.2.2.2.1 hS hown (hts _ t339) (fun _ h => h) dJ5_inflateIfNeededFor_a7421_0 ?_
  refine lv_if_eq (tgt := 21) hx hb dJ5_inflateIfNeededFor_a7421_3 (by decide) (fun c9 => absurd c9 (by decide)) (fun _ => ?_)
  refine lv_aload_n hx hb dJ5_inflateIfNeededFor_a7421_6 rfl (lv_at hl 0 rfl) ?_
  refine gf_J5_22 hx hb hts hown hK hP 0 rfl rfl dJ5_inflateIfNeededFor_a7421_7 ?_
  refine lv_aload_n hx hb dJ5_inflateIfNeededFor_a7421_10 rfl (lv_at hl 1 rfl) ?_
  refine jn_i (wr := [(vg, .inr (0, [.ref vgv, .int 0, .int vgm, .int vgc])), (vgv, .inl (cy 3, vnb, .inl vgf))]) (rVs (As := []) (rest := [.int 0]) ⟨hx, hb, hml, hown, hts⟩ (b_coder_0 l dC dI cy _ B kS vS   (fun q hq => hAB q (va_free hD hS hA [] rfl q hq))) (cw_J5_40 hts rfl rfl ⟨Nat.le_of_ble_eq_true rfl, Nat.le_of_ble_eq_true rfl⟩) hP hD hK [] rfl rfl (vk_recv (i := 0) hEA.2.2.2.2.1 (by decide) hS) EnvB.calling (EnvB.at hE hS hAB (fun _ h => h)) rfl hl.1 rfl (Nat.le_of_ble_eq_true rfl) dJ5_inflateIfNeededFor_a7421_11 ⟨Nat.le_of_ble_eq_true rfl, Nat.le_of_ble_eq_true rfl⟩) hP hD hS hA [] [0, 1] rfl rfl rfl (by decide) (fun r_1 u_3 H locs hp_2 hP hD hS => ?_)
  have hp_2 : ((r_1 = 0)) := hp_2
  have q_4 := hp_2
  have hP : va_P (dC, dI) vwCl [(vg, .inr (0, [.ref vgv, .int 0, .int vgm, .int vgc])), (vgv, .inl (cy 3, vnb, .inl vgf))] H := hP
  have hD : va_D A [(vg, .inr (0, [.ref vgv, .int 0, .int vgm, .int vgc])), (vgv, .inl (cy 3, vnb, .inl vgf))] := hD
  refine as_i 0 q_4 ?_
  refine lv_icmp_eq (tgt := 21) hx hb dJ5_inflateIfNeededFor_a7421_14 (by decide) (fun _ => ?_) (fun c9 => absurd (by decide) c9)
  rw [hQ9]
  exact re_v () hx hb hr hlocks trivial (hP.sub [0, 1] rfl) (hD.sub [0, 1] rfl rfl) hS dJ5_inflateIfNeededFor_a7421_21
abbrev cJ5_putStringAt_47b60 : ByteArray := prog_15_method_73_code
def yJ5_putStringAt_47b60 : MethodName := ⟨RJ5, "putStringAt", "(ILjava/lang/String;)V"⟩
theorem t1065 : Cond.code yJ5_putStringAt_47b60 cJ5_putStringAt_47b60 3 none ∈ GW := gw_mem 1179 (by decide +kernel) (by decide +kernel)
abbrev O_b_putString_0 (cy : Nat → ClassId) (vg : Nat) (vgv : Nat) (vgm : Int32) (vgc : Int32) (vnb : Nat) (vgf : Nat → Int32) (vat : Int32) (u : (Nat → Int32)) : va_W := [(vg, .inr (0, [.ref vgv, .int 0, .int vgm, .int vgc])), (vgv, .inl (cy 3, vnb, .inl u))]
theorem dJ5_putStringAt_47b60_0 : decode cJ5_putStringAt_47b60 0 = .ok (.aload_n 0, 1) := by decide +kernel
theorem dJ5_putStringAt_47b60_1 : decode cJ5_putStringAt_47b60 1 = .ok (.aload_n 2, 1) := by decide +kernel
theorem dJ5_putStringAt_47b60_2 : decode cJ5_putStringAt_47b60 2 = .ok (.invokevirtual 397, 3) := by decide +kernel
theorem t1066 : Cond.methodLink RJ5 397 yJ5_inflateIfNeededFor_a7421 ∈ GW := gw_mem 1180 (by decide +kernel) (by decide +kernel)
theorem t1068 : Cond.instanceMethod yJ5_inflateIfNeededFor_a7421 ∈ GW := gw_mem 1182 (by decide +kernel) (by decide +kernel)
theorem t2078 : Cond.sameMethod yJ5_inflateIfNeededFor_a7421.cls yJ5_inflateIfNeededFor_a7421.cls yJ5_inflateIfNeededFor_a7421.name yJ5_inflateIfNeededFor_a7421.desc ∈ GW := gw_mem 2192 (by decide +kernel) (by decide +kernel)
theorem cu_J5_397 {R : Room} {s : State} {args : Array Value} {rm : Room} {mc ms : Nat} (hts : ∀ w ∈ GW, w.before args s = true) (hsel : (Cond.selects RJ4 yJ5_inflateIfNeededFor_a7421 yJ5_inflateIfNeededFor_a7421).before args s = true) (hrc : rm.cells = mc) (hrs : rm.slots = ms) (hR : rm.frames + 1 ≤ R.frames ∧ 8 + (2 + 11) + rm.locals ≤ R.locals) : va_CU R s args RJ5 RJ4 yJ5_inflateIfNeededFor_a7421.cls 397 yJ5_inflateIfNeededFor_a7421 yJ5_inflateIfNeededFor_a7421 cJ5_inflateIfNeededFor_a7421 2 none (wl yJ5_inflateIfNeededFor_a7421 cJ5_inflateIfNeededFor_a7421 2 none) rm mc ms 1 := vb_cw 1 hts t1069 t13 t1066 t2078 t1068 hsel hrc hrs (by decide +kernel) hR
theorem dJ5_putStringAt_47b60_5 : decode cJ5_putStringAt_47b60 5 = .ok (.aload_n 2, 1) := by decide +kernel
theorem dJ5_putStringAt_47b60_6 : decode cJ5_putStringAt_47b60 6 = .ok (.aload_n 0, 1) := by decide +kernel
theorem dJ5_putStringAt_47b60_7 : decode cJ5_putStringAt_47b60 7 = .ok (.getfield 15, 3) := by decide +kernel
theorem dJ5_putStringAt_47b60_10 : decode cJ5_putStringAt_47b60 10 = .ok (.iload_n 1, 1) := by decide +kernel
theorem dJ5_putStringAt_47b60_11 : decode cJ5_putStringAt_47b60 11 = .ok (.aload_n 0, 1) := by decide +kernel
theorem dJ5_putStringAt_47b60_12 : decode cJ5_putStringAt_47b60 12 = .ok (.getfield 22, 3) := by decide +kernel
theorem dJ5_putStringAt_47b60_15 : decode cJ5_putStringAt_47b60 15 = .ok (.invokevirtual 399, 3) := by decide +kernel
theorem t1090 : Cond.methodLink RJ5 399 yJ0_getBytes_840e7 ∈ GW := gw_mem 1204 (by decide +kernel) (by decide +kernel)
theorem t1091 : Cond.instanceMethod yJ0_getBytes_840e7 ∈ GW := gw_mem 1205 (by decide +kernel) (by decide +kernel)
theorem t1092 : Cond.selects RJ0 yJ0_getBytes_840e7 yJ0_getBytes_840e7 ∈ GW := gw_mem 1206 (by decide +kernel) (by decide +kernel)
theorem cw_J5_399 {R : Room} {s : State} {args : Array Value} {rm : Room} {mc ms : Nat} (hts : ∀ w ∈ GW, w.before args s = true) (hrc : rm.cells = mc) (hrs : rm.slots = ms) (hR : rm.frames + 1 ≤ R.frames ∧ 8 + (4 + 11) + rm.locals ≤ R.locals) : CallW R s args RJ5 RJ0 399 yJ0_getBytes_840e7 cJ0_getBytes_840e7 4 none (wl yJ0_getBytes_840e7 cJ0_getBytes_840e7 4 none) rm mc ms 3 := cwV 3 hts (gi_V t1090 t1091 t1092 t3 t1093) rfl hrc hrs (by decide +kernel) hR
theorem dJ5_putStringAt_47b60_18 : decode cJ5_putStringAt_47b60 18 = .ok (.return_, 1) := by decide +kernel
set_option maxHeartbeats 4000000 in
set_option maxRecDepth 100000 in
theorem b_putString_0 (l : Launch) (dC : Nat → ClassId) (dI : Nat → Nat → Nat) (cy : Nat → ClassId) (sz : Nat) (B : Nat → Prop) (kS vS : Nat → Nat) (vg : Nat) (vgv : Nat) (vgm : Int32) (vgc : Int32) (vnb : Nat) (vgf : Nat → Int32) (vat : Int32) (r_vat : 0 ≤ (vat : Int32).toInt ∧ (vat : Int32).toInt ≤ 42) (p_vgf : sb_Fit vgf) (hn : (vnb = 16 ∨ vnb = 34 ∨ vnb = 70)) (hat : (vat : Int32).toInt + 7 ≤ (vnb : Int)) (hB : ∀ q : Nat, va_A [(vg, .inr (0, [.ref vgv, .int 0, .int vgm, .int vgc])), (vgv, .inl (cy 3, vnb, .inl vgf))] sz q → B q) : Met l yJ5_putStringAt_47b60 (wl yJ5_putStringAt_47b60 cJ5_putStringAt_47b60 3 none) ({ frames := 2, cells := 0, slots := 0, locals := 128 }) (Pw (dC, dI) vwCl cy [(vg, .inr (0, [.ref vgv, .int 0, .int vgm, .int vgc])), (vgv, .inl (cy 3, vnb, .inl vgf))] sz [.ref vg, .int vat, .ref (kS 0)] (EnvB B kS vS)) (Qv (dC, dI) vwCl (fun (u : (Nat → Int32)) => (sb_Fit u)) (O_b_putString_0 cy vg vgv vgm vgc vnb vgf vat) (va_A [(vg, .inr (0, [.ref vgv, .int 0, .int vgm, .int vgc])), (vgv, .inl (cy 3, vnb, .inl vgf))] sz)) 0 0 (va_A [(vg, .inr (0, [.ref vgv, .int 0, .int vgm, .int vgc])), (vgv, .inl (cy 3, vnb, .inl vgf))] sz) := by
  refine mw (Qc := Qv (dC, dI) vwCl (fun (u : (Nat → Int32)) => (sb_Fit u)) (O_b_putString_0 cy vg vgv vgm vgc vnb vgf vat)) RJ5 rfl (by decide +kernel) (Nat.le_of_ble_eq_true rfl) ?_
  intro p e s m below meth c A hx hb hr hlocks av9 hav hts hown hnm hml hK hP hD hA hS hE hAe Q9 hQ9 ls hl
  have hAB : ∀ q : Nat, A q → B q := by rw [hAe]; exact hB
  have hEA := hE.narrow hAB
  have hl : lv_has ls 3 [(0, .ref vg), (1, .int vat), (2, .ref (kS 0))] := hl
  refine lv_aload_n hx hb dJ5_putStringAt_47b60_0 rfl (lv_at hl 0 rfl) ?_
  refine lv_aload_n hx hb dJ5_putStringAt_47b60_1 rfl (lv_at hl 2 rfl) ?_
  refine jn_v (wr := []) (rVU (As := [.ref (kS 0)]) (rest := []) (ci := 0) ⟨hx, hb, hml, hown, hts⟩ (b_inflate_0 l dC dI cy _ B kS vS vg vgv vgm vgc vnb vgf p_vgf (fun q hq => hAB q (va_free hD hS hA [0, 1] rfl q hq))) (cu_J5_397 hts (va_tabs rfl rfl hEA.2.2.2.2.2.2.2.2.2.2.2.2.2.2) rfl rfl ⟨Nat.le_of_ble_eq_true rfl, Nat.le_of_ble_eq_true rfl⟩) hP hD hK [0, 1] rfl rfl rfl rfl EnvB.calling (EnvB.at hE hS hAB (fun _ h => h)) rfl hl.1 rfl (Nat.le_of_ble_eq_true rfl) dJ5_putStringAt_47b60_2 ⟨Nat.le_of_ble_eq_true rfl, Nat.le_of_ble_eq_true rfl⟩) hP hD hS hA [0, 1] [] rfl rfl rfl (by decide) (fun u_3 H locs hp_2 hP hD hS => ?_)
  have hP : va_P (dC, dI) vwCl [(vg, .inr (0, [.ref vgv, .int 0, .int vgm, .int vgc])), (vgv, .inl (cy 3, vnb, .inl vgf))] H := hP
  have hD : va_D A [(vg, .inr (0, [.ref vgv, .int 0, .int vgm, .int vgc])), (vgv, .inl (cy 3, vnb, .inl vgf))] := hD
  refine lv_aload_n hx hb dJ5_putStringAt_47b60_5 rfl (lv_at hl 2 rfl) ?_
  refine lv_aload_n hx hb dJ5_putStringAt_47b60_6 rfl (lv_at hl 0 rfl) ?_
  refine gf_J5_15 hx hb hts hown hK hP 0 rfl rfl dJ5_putStringAt_47b60_7 ?_
  refine lv_iload_n hx hb dJ5_putStringAt_47b60_10 rfl (lv_at hl 1 rfl) ?_
  refine lv_aload_n hx hb dJ5_putStringAt_47b60_11 rfl (lv_at hl 0 rfl) ?_
  refine gf_J5_22 hx hb hts hown hK hP 0 rfl rfl dJ5_putStringAt_47b60_12 ?_
  refine jn_v (wr := [(vg, .inr (0, [.ref vgv, .int 0, .int vgm, .int vgc]))]) (rVs (As := [.ref vgv, .int vat, .int 0]) (rest := []) ⟨hx, hb, hml, hown, hts⟩ (b_getBytes_0 l dC dI cy _ B kS vS vgv vnb vgf vat r_vat p_vgf hn hat (fun q hq => hAB q (va_free hD hS hA [1] rfl q hq))) (cw_J5_399 hts rfl rfl ⟨Nat.le_of_ble_eq_true rfl, Nat.le_of_ble_eq_true rfl⟩) hP hD hK [1] rfl rfl (vk_recv (i := 0) hEA.2.2.2.2.1 (by decide) hS) EnvB.calling (EnvB.at hE hS hAB (fun _ h => h)) rfl hl.1 rfl (Nat.le_of_ble_eq_true rfl) dJ5_putStringAt_47b60_15 ⟨Nat.le_of_ble_eq_true rfl, Nat.le_of_ble_eq_true rfl⟩) hP hD hS hA [1] [0] rfl rfl rfl (by decide) (fun u_6 H locs hp_5 hP hD hS => ?_)
  obtain ⟨vgf_7, rfl⟩ : ∃ z, z = u_6 := ⟨_, rfl⟩
  have hp_5 : (sb_Fit vgf_7) := hp_5
  have q_8 := hp_5
  have hP : va_P (dC, dI) vwCl [(vg, .inr (0, [.ref vgv, .int 0, .int vgm, .int vgc])), (vgv, .inl (cy 3, vnb, .inl vgf_7))] H := hP
  have hD : va_D A [(vg, .inr (0, [.ref vgv, .int 0, .int vgm, .int vgc])), (vgv, .inl (cy 3, vnb, .inl vgf_7))] := hD
  rw [hQ9]
  exact re_v vgf_7 hx hb hr hlocks (show sb_Fit vgf_7 from q_8) (hP.sub [0, 1] rfl) (hD.sub [0, 1] rfl rfl) hS dJ5_putStringAt_47b60_18
abbrev cJ5_append_cf1ce : ByteArray := prog_15_method_22_code
def yJ5_append_cf1ce : MethodName := ⟨RJ5, "append", "(Ljava/lang/String;)Ljava/lang/AbstractStringBuilder;"⟩
theorem t1041 : Cond.code yJ5_append_cf1ce cJ5_append_cf1ce 3 (some (.object "java/lang/AbstractStringBuilder")) ∈ GW := gw_mem 1155 (by decide +kernel) (by decide +kernel)
abbrev O_b_appS_0 (cy : Nat → ClassId) (vg : Nat) (vgv : Nat) (vgm : Int32) (vgc : Int32) (vnb : Nat) (vgf : Nat → Int32) (u : Nat × Nat × (Nat → Int32) × Int32) : va_W := [(vg, .inr (0, [.ref u.1, .int 0, .int vgm, .int u.2.2.2])), (u.1, .inl (cy 3, u.2.1, .inl u.2.2.1))]
theorem dJ5_append_cf1ce_0 : decode cJ5_append_cf1ce 0 = .ok (.aload_n 1, 1) := by decide +kernel
theorem dJ5_append_cf1ce_1 : decode cJ5_append_cf1ce 1 = .ok (.ifnonnull 8, 3) := by decide +kernel
theorem dJ5_append_cf1ce_9 : decode cJ5_append_cf1ce 9 = .ok (.aload_n 1, 1) := by decide +kernel
theorem dJ5_append_cf1ce_10 : decode cJ5_append_cf1ce 10 = .ok (.invokevirtual 32, 3) := by decide +kernel
theorem t1061 : Cond.methodLink RJ5 32 yJ0_length_8abf5 ∈ GW := gw_mem 1175 (by decide +kernel) (by decide +kernel)
theorem cw_J5_32 {R : Room} {s : State} {args : Array Value} {rm : Room} {mc ms : Nat} (hts : ∀ w ∈ GW, w.before args s = true) (hrc : rm.cells = mc) (hrs : rm.slots = ms) (hR : rm.frames + 1 ≤ R.frames ∧ 8 + (1 + 11) + rm.locals ≤ R.locals) : CallW R s args RJ5 RJ0 32 yJ0_length_8abf5 cJ0_length_8abf5 1 (some .int) (wl yJ0_length_8abf5 cJ0_length_8abf5 1 (some .int)) rm mc ms 0 := cwV 0 hts (gi_V t1061 t45 t46 t3 t47) rfl hrc hrs (by decide +kernel) hR
theorem dJ5_append_cf1ce_13 : decode cJ5_append_cf1ce 13 = .ok (.istore_n 2, 1) := by decide +kernel
theorem dJ5_append_cf1ce_14 : decode cJ5_append_cf1ce 14 = .ok (.aload_n 0, 1) := by decide +kernel
theorem dJ5_append_cf1ce_15 : decode cJ5_append_cf1ce 15 = .ok (.aload_n 0, 1) := by decide +kernel
theorem dJ5_append_cf1ce_16 : decode cJ5_append_cf1ce 16 = .ok (.getfield 79, 3) := by decide +kernel
theorem dJ5_append_cf1ce_19 : decode cJ5_append_cf1ce 19 = .ok (.iload_n 2, 1) := by decide +kernel
theorem dJ5_append_cf1ce_20 : decode cJ5_append_cf1ce 20 = .ok (.iadd, 1) := by decide +kernel
theorem dJ5_append_cf1ce_21 : decode cJ5_append_cf1ce 21 = .ok (.invokevirtual 100, 3) := by decide +kernel
theorem dJ5_append_cf1ce_24 : decode cJ5_append_cf1ce 24 = .ok (.aload_n 0, 1) := by decide +kernel
theorem dJ5_append_cf1ce_25 : decode cJ5_append_cf1ce 25 = .ok (.aload_n 0, 1) := by decide +kernel
theorem dJ5_append_cf1ce_26 : decode cJ5_append_cf1ce 26 = .ok (.getfield 79, 3) := by decide +kernel
theorem dJ5_append_cf1ce_29 : decode cJ5_append_cf1ce 29 = .ok (.aload_n 1, 1) := by decide +kernel
theorem dJ5_append_cf1ce_30 : decode cJ5_append_cf1ce 30 = .ok (.invokevirtual 208, 3) := by decide +kernel
theorem t1062 : Cond.methodLink RJ5 208 yJ5_putStringAt_47b60 ∈ GW := gw_mem 1176 (by decide +kernel) (by decide +kernel)
theorem t1064 : Cond.instanceMethod yJ5_putStringAt_47b60 ∈ GW := gw_mem 1178 (by decide +kernel) (by decide +kernel)
theorem t2077 : Cond.sameMethod yJ5_putStringAt_47b60.cls yJ5_putStringAt_47b60.cls yJ5_putStringAt_47b60.name yJ5_putStringAt_47b60.desc ∈ GW := gw_mem 2191 (by decide +kernel) (by decide +kernel)
theorem cu_J5_208 {R : Room} {s : State} {args : Array Value} {rm : Room} {mc ms : Nat} (hts : ∀ w ∈ GW, w.before args s = true) (hsel : (Cond.selects RJ4 yJ5_putStringAt_47b60 yJ5_putStringAt_47b60).before args s = true) (hrc : rm.cells = mc) (hrs : rm.slots = ms) (hR : rm.frames + 1 ≤ R.frames ∧ 8 + (3 + 11) + rm.locals ≤ R.locals) : va_CU R s args RJ5 RJ4 yJ5_putStringAt_47b60.cls 208 yJ5_putStringAt_47b60 yJ5_putStringAt_47b60 cJ5_putStringAt_47b60 3 none (wl yJ5_putStringAt_47b60 cJ5_putStringAt_47b60 3 none) rm mc ms 2 := vb_cw 2 hts t1065 t13 t1062 t2077 t1064 hsel hrc hrs (by decide +kernel) hR
theorem dJ5_append_cf1ce_33 : decode cJ5_append_cf1ce 33 = .ok (.aload_n 0, 1) := by decide +kernel
theorem dJ5_append_cf1ce_34 : decode cJ5_append_cf1ce 34 = .ok (.dup, 1) := by decide +kernel
theorem dJ5_append_cf1ce_35 : decode cJ5_append_cf1ce 35 = .ok (.getfield 79, 3) := by decide +kernel
theorem dJ5_append_cf1ce_38 : decode cJ5_append_cf1ce 38 = .ok (.iload_n 2, 1) := by decide +kernel
theorem dJ5_append_cf1ce_39 : decode cJ5_append_cf1ce 39 = .ok (.iadd, 1) := by decide +kernel
theorem dJ5_append_cf1ce_40 : decode cJ5_append_cf1ce 40 = .ok (.putfield 79, 3) := by decide +kernel
theorem dJ5_append_cf1ce_43 : decode cJ5_append_cf1ce 43 = .ok (.aload_n 0, 1) := by decide +kernel
theorem dJ5_append_cf1ce_44 : decode cJ5_append_cf1ce 44 = .ok (.areturn, 1) := by decide +kernel
set_option maxHeartbeats 4000000 in
set_option maxRecDepth 100000 in
theorem b_appS_0 (l : Launch) (dC : Nat → ClassId) (dI : Nat → Nat → Nat) (cy : Nat → ClassId) (sz : Nat) (B : Nat → Prop) (kS vS : Nat → Nat) (vg : Nat) (vgv : Nat) (vgm : Int32) (vgc : Int32) (vnb : Nat) (vgf : Nat → Int32) (r_vgc : 0 ≤ (vgc : Int32).toInt ∧ (vgc : Int32).toInt ≤ 35) (p_vgf : sb_Fit vgf) (hn : (vnb = 16 ∨ vnb = 34 ∨ vnb = 70)) (hgc : (vgc : Int32).toInt ≤ (vnb : Int)) (hB : ∀ q : Nat, va_A [(vg, .inr (0, [.ref vgv, .int 0, .int vgm, .int vgc])), (vgv, .inl (cy 3, vnb, .inl vgf))] sz q → B q) : Met l yJ5_append_cf1ce (wl yJ5_append_cf1ce cJ5_append_cf1ce 3 (some (.object "java/lang/AbstractStringBuilder"))) ({ frames := 4, cells := 1, slots := 70, locals := 256 }) (Pw (dC, dI) vwCl cy [(vg, .inr (0, [.ref vgv, .int 0, .int vgm, .int vgc])), (vgv, .inl (cy 3, vnb, .inl vgf))] sz [.ref vg, .ref (kS 0)] (EnvB B kS vS)) (Qr (dC, dI) vwCl (fun (u : Nat × Nat × (Nat → Int32) × Int32) => (sb_Fit u.2.2.1) ∧ (0 ≤ (u.2.2.2 : Int32).toInt ∧ (u.2.2.2 : Int32).toInt ≤ 42) ∧ ((u.2.1 = 16 ∨ u.2.1 = 34 ∨ u.2.1 = 70)) ∧ ((u.2.2.2 : Int32).toInt ≤ (u.2.1 : Int)) ∧ ((u.2.2.2 : Int32).toInt = (vgc : Int32).toInt + 7)) (O_b_appS_0 cy vg vgv vgm vgc vnb vgf) (fun (u : Nat × Nat × (Nat → Int32) × Int32) => vg) (va_A [(vg, .inr (0, [.ref vgv, .int 0, .int vgm, .int vgc])), (vgv, .inl (cy 3, vnb, .inl vgf))] sz)) 1 70 (va_A [(vg, .inr (0, [.ref vgv, .int 0, .int vgm, .int vgc])), (vgv, .inl (cy 3, vnb, .inl vgf))] sz) := by
  refine mw (Qc := Qr (dC, dI) vwCl (fun (u : Nat × Nat × (Nat → Int32) × Int32) => (sb_Fit u.2.2.1) ∧ (0 ≤ (u.2.2.2 : Int32).toInt ∧ (u.2.2.2 : Int32).toInt ≤ 42) ∧ ((u.2.1 = 16 ∨ u.2.1 = 34 ∨ u.2.1 = 70)) ∧ ((u.2.2.2 : Int32).toInt ≤ (u.2.1 : Int)) ∧ ((u.2.2.2 : Int32).toInt = (vgc : Int32).toInt + 7)) (O_b_appS_0 cy vg vgv vgm vgc vnb vgf) (fun (u : Nat × Nat × (Nat → Int32) × Int32) => vg)) RJ5 rfl (by decide +kernel) (Nat.le_of_ble_eq_true rfl) ?_
  intro p e s m below meth c A hx hb hr hlocks av9 hav hts hown hnm hml hK hP hD hA hS hE hAe Q9 hQ9 ls hl
  have hAB : ∀ q : Nat, A q → B q := by rw [hAe]; exact hB
  have hEA := hE.narrow hAB
  have hl : lv_has ls 3 [(0, .ref vg), (1, .ref (kS 0))] := hl
  refine lv_aload_n hx hb dJ5_append_cf1ce_0 rfl (lv_at hl 1 rfl) ?_
  refine lv_ifnonnull (tgt := 9) hx hb dJ5_append_cf1ce_1 (by decide) ?_
  refine lv_aload_n hx hb dJ5_append_cf1ce_9 rfl (lv_at hl 1 rfl) ?_
  refine jn_i (wr := [(vg, .inr (0, [.ref vgv, .int 0, .int vgm, .int vgc])), (vgv, .inl (cy 3, vnb, .inl vgf))]) (rVs (As := []) (rest := []) ⟨hx, hb, hml, hown, hts⟩ (b_slen_0 l dC dI cy _ B kS vS   (fun q hq => hAB q (va_free hD hS hA [] rfl q hq))) (cw_J5_32 hts rfl rfl ⟨Nat.le_of_ble_eq_true rfl, Nat.le_of_ble_eq_true rfl⟩) hP hD hK [] rfl rfl (vk_recv (i := 0) hEA.2.2.2.2.1 (by decide) hS) EnvB.calling (EnvB.at hE hS hAB (fun _ h => h)) rfl hl.1 rfl (Nat.le_of_ble_eq_true rfl) dJ5_append_cf1ce_10 ⟨Nat.le_of_ble_eq_true rfl, Nat.le_of_ble_eq_true rfl⟩) hP hD hS hA [] [0, 1] rfl rfl rfl (by decide) (fun r_1 u_3 H locs hp_2 hP hD hS => ?_)
  have hp_2 : ((r_1 = 7)) := hp_2
  have q_4 := hp_2
  have hP : va_P (dC, dI) vwCl [(vg, .inr (0, [.ref vgv, .int 0, .int vgm, .int vgc])), (vgv, .inl (cy 3, vnb, .inl vgf))] H := hP
  have hD : va_D A [(vg, .inr (0, [.ref vgv, .int 0, .int vgm, .int vgc])), (vgv, .inl (cy 3, vnb, .inl vgf))] := hD
  refine as_i 7 q_4 ?_
  refine lv_istore_n (lv' := [(2, .int 7), (0, .ref vg), (1, .ref (kS 0))]) hx hb dJ5_append_cf1ce_13 rfl hl (by decide) rfl (fun ls hl => ?_)
  refine lv_aload_n hx hb dJ5_append_cf1ce_14 rfl (lv_at hl 1 rfl) ?_
  refine lv_aload_n hx hb dJ5_append_cf1ce_15 rfl (lv_at hl 1 rfl) ?_
  refine gf_J5_79 hx hb hts hown hK hP 0 rfl rfl dJ5_append_cf1ce_16 ?_
  refine lv_iload_n hx hb dJ5_append_cf1ce_19 rfl (lv_at hl 0 rfl) ?_
  refine lv_iadd hx hb dJ5_append_cf1ce_20 ?_
  refine lv_topi (fun z_5 ez_5 => ?_)
  have k_7 : (7 : Int32).toInt = 7 := by decide
  have bz_5 : z_5.toInt = vgc.toInt + (7 : Int32).toInt := i_add ez_5 (by omega) (by omega)
  refine jn_v (wr := []) (rVU (As := [.int z_5]) (rest := []) (ci := 0) ⟨hx, hb, hml, hown, hts⟩ (b_ensure l dC dI cy _ B kS vS vg vgv vgm vgc vnb vgf z_5 ⟨by omega, by omega⟩ p_vgf hn (by omega) (fun q hq => hAB q (va_free hD hS hA [0, 1] rfl q hq))) (cu_J5_100 hts (va_tabs rfl rfl hEA.2.2.2.2.2.2.2.2.2.2.2.1) rfl rfl ⟨Nat.le_of_ble_eq_true rfl, Nat.le_of_ble_eq_true rfl⟩) hP hD hK [0, 1] rfl rfl rfl rfl EnvB.calling (EnvB.at hE hS hAB (fun _ h => h)) rfl hl.1 rfl (Nat.le_of_ble_eq_true rfl) dJ5_append_cf1ce_21 ⟨Nat.le_of_ble_eq_true rfl, Nat.le_of_ble_eq_true rfl⟩) hP hD hS hA [0, 1] [] rfl rfl rfl (by decide) (fun u_8 H locs hp_7 hP hD hS => ?_)
  obtain ⟨vgv_9, vnb_10, vgf_11⟩ := u_8
  have hp_7 : (sb_Fit vgf_11) ∧ ((vnb_10 = 16 ∨ vnb_10 = 34 ∨ vnb_10 = 70)) ∧ ((z_5 : Int32).toInt ≤ (vnb_10 : Int)) := hp_7
  obtain ⟨q_12, q_13, q_14⟩ := hp_7
  have hP : va_P (dC, dI) vwCl [(vg, .inr (0, [.ref vgv_9, .int 0, .int vgm, .int vgc])), (vgv_9, .inl (cy 3, vnb_10, .inl vgf_11))] H := hP
  have hD : va_D A [(vg, .inr (0, [.ref vgv_9, .int 0, .int vgm, .int vgc])), (vgv_9, .inl (cy 3, vnb_10, .inl vgf_11))] := hD
  refine W.widen (k := 1) (n := 70) (by decide) (by decide) ?_
  refine lv_aload_n hx hb dJ5_append_cf1ce_24 rfl (lv_at hl 1 rfl) ?_
  refine lv_aload_n hx hb dJ5_append_cf1ce_25 rfl (lv_at hl 1 rfl) ?_
  refine gf_J5_79 hx hb hts hown hK hP 0 rfl rfl dJ5_append_cf1ce_26 ?_
  refine lv_aload_n hx hb dJ5_append_cf1ce_29 rfl (lv_at hl 2 rfl) ?_
  refine jn_v (wr := []) (rVU (As := [.int vgc, .ref (kS 0)]) (rest := []) (ci := 0) ⟨hx, hb, hml, hown, hts⟩ (b_putString_0 l dC dI cy _ B kS vS vg vgv_9 vgm vgc vnb_10 vgf_11 vgc ⟨by omega, by omega⟩ q_12 q_13 (by omega) (fun q hq => hAB q (va_free hD hS hA [0, 1] rfl q hq))) (cu_J5_208 hts (va_tabs rfl rfl hEA.2.2.2.2.2.2.2.2.2.2.2.2.2.1) rfl rfl ⟨Nat.le_of_ble_eq_true rfl, Nat.le_of_ble_eq_true rfl⟩) hP hD hK [0, 1] rfl rfl rfl rfl EnvB.calling (EnvB.at hE hS hAB (fun _ h => h)) rfl hl.1 rfl (Nat.le_of_ble_eq_true rfl) dJ5_append_cf1ce_30 ⟨Nat.le_of_ble_eq_true rfl, Nat.le_of_ble_eq_true rfl⟩) hP hD hS hA [0, 1] [] rfl rfl rfl (by decide) (fun u_17 H locs hp_16 hP hD hS => ?_)
  obtain ⟨vgf_18, rfl⟩ : ∃ z, z = u_17 := ⟨_, rfl⟩
  have hp_16 : (sb_Fit vgf_18) := hp_16
  have q_19 := hp_16
  have hP : va_P (dC, dI) vwCl [(vg, .inr (0, [.ref vgv_9, .int 0, .int vgm, .int vgc])), (vgv_9, .inl (cy 3, vnb_10, .inl vgf_18))] H := hP
  have hD : va_D A [(vg, .inr (0, [.ref vgv_9, .int 0, .int vgm, .int vgc])), (vgv_9, .inl (cy 3, vnb_10, .inl vgf_18))] := hD
  refine lv_aload_n hx hb dJ5_append_cf1ce_33 rfl (lv_at hl 1 rfl) ?_
  refine lv_dup hx hb dJ5_append_cf1ce_34 rfl ?_
  refine gf_J5_79 hx hb hts hown hK hP 0 rfl rfl dJ5_append_cf1ce_35 ?_
  refine lv_iload_n hx hb dJ5_append_cf1ce_38 rfl (lv_at hl 0 rfl) ?_
  refine lv_iadd hx hb dJ5_append_cf1ce_39 ?_
  refine lv_topi (fun z_20 ez_20 => ?_)
  have bz_20 : z_20.toInt = vgc.toInt + (7 : Int32).toInt := i_add ez_20 (by omega) (by omega)
  refine pf_J5_79 hx hb hts hown hK hP hD hS 0 rfl rfl rfl (Nat.le_of_ble_eq_true rfl) dJ5_append_cf1ce_40 (fun H locs hP hD hS => ?_)
  have hP : va_P (dC, dI) vwCl [(vg, .inr (0, [.ref vgv_9, .int 0, .int vgm, .int z_20])), (vgv_9, .inl (cy 3, vnb_10, .inl vgf_18))] H := hP
  have hD : va_D A [(vg, .inr (0, [.ref vgv_9, .int 0, .int vgm, .int z_20])), (vgv_9, .inl (cy 3, vnb_10, .inl vgf_18))] := hD
  refine lv_aload_n hx hb dJ5_append_cf1ce_43 rfl (lv_at hl 1 rfl) ?_
  refine W.widen (k := 1) (n := 70) (by decide) (by decide) ?_
  rw [hQ9]
  exact re_r (vgv_9, vnb_10, vgf_18, z_20) hx hb hr (Or.inl ⟨_, rfl⟩) hlocks ⟨(show sb_Fit vgf_18 from q_19), (show 0 ≤ (z_20 : Int32).toInt ∧ (z_20 : Int32).toInt ≤ 42 from ⟨by omega, by omega⟩), (show (vnb_10 = 16 ∨ vnb_10 = 34 ∨ vnb_10 = 70) from q_13), (show (z_20 : Int32).toInt ≤ (vnb_10 : Int) from (by omega)), (show (z_20 : Int32).toInt = (vgc : Int32).toInt + 7 from (by omega))⟩ (hP.sub [0, 1] rfl) (hD.sub [0, 1] rfl rfl) hS dJ5_append_cf1ce_44
abbrev cJ4_append_15ec4 : ByteArray := prog_26_method_7_code
def yJ4_append_15ec4 : MethodName := ⟨RJ4, "append", "(Ljava/lang/String;)Ljava/lang/StringBuilder;"⟩
theorem t1038 : Cond.code yJ4_append_15ec4 cJ4_append_15ec4 2 (some (.object "java/lang/StringBuilder")) ∈ GW := gw_mem 1152 (by decide +kernel) (by decide +kernel)
abbrev O_b_sbappS_0 (cy : Nat → ClassId) (vg : Nat) (vgv : Nat) (vgm : Int32) (vgc : Int32) (vnb : Nat) (vgf : Nat → Int32) (u : Nat × Nat × (Nat → Int32) × Int32) : va_W := [(vg, .inr (0, [.ref u.1, .int 0, .int vgm, .int u.2.2.2])), (u.1, .inl (cy 3, u.2.1, .inl u.2.2.1))]
theorem dJ4_append_15ec4_0 : decode cJ4_append_15ec4 0 = .ok (.aload_n 0, 1) := by decide +kernel
theorem dJ4_append_15ec4_1 : decode cJ4_append_15ec4 1 = .ok (.aload_n 1, 1) := by decide +kernel
theorem dJ4_append_15ec4_2 : decode cJ4_append_15ec4 2 = .ok (.invokespecial 29, 3) := by decide +kernel
theorem t1039 : Cond.methodLink RJ4 29 yJ5_append_cf1ce ∈ GW := gw_mem 1153 (by decide +kernel) (by decide +kernel)
theorem t1040 : Cond.instanceMethod yJ5_append_cf1ce ∈ GW := gw_mem 1154 (by decide +kernel) (by decide +kernel)
theorem t2075 : Cond.sameMethod yJ5_append_cf1ce.cls yJ5_append_cf1ce.cls yJ5_append_cf1ce.name yJ5_append_cf1ce.desc ∈ GW := gw_mem 2189 (by decide +kernel) (by decide +kernel)
theorem cw_J4_29 {R : Room} {s : State} {args : Array Value} {rm : Room} {mc ms : Nat} (hts : ∀ w ∈ GW, w.before args s = true) (hrc : rm.cells = mc) (hrs : rm.slots = ms) (hR : rm.frames + 1 ≤ R.frames ∧ 8 + (3 + 11) + rm.locals ≤ R.locals) : va_CS R s args RJ4 29 yJ5_append_cf1ce cJ5_append_cf1ce 3 (some (.object "java/lang/AbstractStringBuilder")) (wl yJ5_append_cf1ce cJ5_append_cf1ce 3 (some (.object "java/lang/AbstractStringBuilder"))) rm mc ms 1 := va_cwSU 1 hts (gi_U t1039 t2075 t359 t1040 t13 t1041) rfl hrc hrs (by decide +kernel) hR
theorem dJ4_append_15ec4_5 : decode cJ4_append_15ec4 5 = .ok (.pop, 1) := by decide +kernel
theorem dJ4_append_15ec4_6 : decode cJ4_append_15ec4 6 = .ok (.aload_n 0, 1) := by decide +kernel
theorem dJ4_append_15ec4_7 : decode cJ4_append_15ec4 7 = .ok (.areturn, 1) := by decide +kernel
set_option maxHeartbeats 4000000 in
set_option maxRecDepth 100000 in
theorem b_sbappS_0 (l : Launch) (dC : Nat → ClassId) (dI : Nat → Nat → Nat) (cy : Nat → ClassId) (sz : Nat) (B : Nat → Prop) (kS vS : Nat → Nat) (vg : Nat) (vgv : Nat) (vgm : Int32) (vgc : Int32) (vnb : Nat) (vgf : Nat → Int32) (r_vgc : 0 ≤ (vgc : Int32).toInt ∧ (vgc : Int32).toInt ≤ 35) (p_vgf : sb_Fit vgf) (hn : (vnb = 16 ∨ vnb = 34 ∨ vnb = 70)) (hgc : (vgc : Int32).toInt ≤ (vnb : Int)) (hB : ∀ q : Nat, va_A [(vg, .inr (0, [.ref vgv, .int 0, .int vgm, .int vgc])), (vgv, .inl (cy 3, vnb, .inl vgf))] sz q → B q) : Met l yJ4_append_15ec4 (wl yJ4_append_15ec4 cJ4_append_15ec4 2 (some (.object "java/lang/StringBuilder"))) ({ frames := 5, cells := 1, slots := 70, locals := 320 }) (Pw (dC, dI) vwCl cy [(vg, .inr (0, [.ref vgv, .int 0, .int vgm, .int vgc])), (vgv, .inl (cy 3, vnb, .inl vgf))] sz [.ref vg, .ref (kS 0)] (EnvB B kS vS)) (Qr (dC, dI) vwCl (fun (u : Nat × Nat × (Nat → Int32) × Int32) => (sb_Fit u.2.2.1) ∧ (0 ≤ (u.2.2.2 : Int32).toInt ∧ (u.2.2.2 : Int32).toInt ≤ 42) ∧ ((u.2.1 = 16 ∨ u.2.1 = 34 ∨ u.2.1 = 70)) ∧ ((u.2.2.2 : Int32).toInt ≤ (u.2.1 : Int)) ∧ ((u.2.2.2 : Int32).toInt = (vgc : Int32).toInt + 7)) (O_b_sbappS_0 cy vg vgv vgm vgc vnb vgf) (fun (u : Nat × Nat × (Nat → Int32) × Int32) => vg) (va_A [(vg, .inr (0, [.ref vgv, .int 0, .int vgm, .int vgc])), (vgv, .inl (cy 3, vnb, .inl vgf))] sz)) 1 70 (va_A [(vg, .inr (0, [.ref vgv, .int 0, .int vgm, .int vgc])), (vgv, .inl (cy 3, vnb, .inl vgf))] sz) := by
  refine mw (Qc := Qr (dC, dI) vwCl (fun (u : Nat × Nat × (Nat → Int32) × Int32) => (sb_Fit u.2.2.1) ∧ (0 ≤ (u.2.2.2 : Int32).toInt ∧ (u.2.2.2 : Int32).toInt ≤ 42) ∧ ((u.2.1 = 16 ∨ u.2.1 = 34 ∨ u.2.1 = 70)) ∧ ((u.2.2.2 : Int32).toInt ≤ (u.2.1 : Int)) ∧ ((u.2.2.2 : Int32).toInt = (vgc : Int32).toInt + 7)) (O_b_sbappS_0 cy vg vgv vgm vgc vnb vgf) (fun (u : Nat × Nat × (Nat → Int32) × Int32) => vg)) RJ4 rfl (by decide +kernel) (Nat.le_of_ble_eq_true rfl) ?_
  intro p e s m below meth c A hx hb hr hlocks av9 hav hts hown hnm hml hK hP hD hA hS hE hAe Q9 hQ9 ls hl
  have hAB : ∀ q : Nat, A q → B q := by rw [hAe]; exact hB
  have hEA := hE.narrow hAB
  have hl : lv_has ls 2 [(0, .ref vg), (1, .ref (kS 0))] := hl
  refine lv_aload_n hx hb dJ4_append_15ec4_0 rfl (lv_at hl 0 rfl) ?_
  refine lv_aload_n hx hb dJ4_append_15ec4_1 rfl (lv_at hl 1 rfl) ?_
  refine jn_r (wr := []) (rU (As := [.ref (kS 0)]) (rest := []) (ci := 0) ⟨hx, hb, hml, hown, hts⟩ (b_appS_0 l dC dI cy _ B kS vS vg vgv vgm vgc vnb vgf r_vgc p_vgf hn hgc (fun q hq => hAB q (va_free hD hS hA [0, 1] rfl q hq))) (cw_J4_29 hts rfl rfl ⟨Nat.le_of_ble_eq_true rfl, Nat.le_of_ble_eq_true rfl⟩) hP hD hK [0, 1] rfl rfl rfl rfl EnvB.calling (EnvB.at hE hS hAB (fun _ h => h)) rfl hl.1 rfl (Nat.le_of_ble_eq_true rfl) dJ4_append_15ec4_2 ⟨Nat.le_of_ble_eq_true rfl, Nat.le_of_ble_eq_true rfl⟩) hP hD hS hA [0, 1] [] rfl rfl rfl (by decide) (fun u_3 H locs hp_2 hP hD hS => ?_)
  obtain ⟨vgv_4, vnb_5, vgf_6, vgc_7⟩ := u_3
  have hp_2 : (sb_Fit vgf_6) ∧ (0 ≤ (vgc_7 : Int32).toInt ∧ (vgc_7 : Int32).toInt ≤ 42) ∧ ((vnb_5 = 16 ∨ vnb_5 = 34 ∨ vnb_5 = 70)) ∧ ((vgc_7 : Int32).toInt ≤ (vnb_5 : Int)) ∧ ((vgc_7 : Int32).toInt = (vgc : Int32).toInt + 7) := hp_2
  obtain ⟨q_8, q_9, q_10, q_11, q_12⟩ := hp_2
  have hP : va_P (dC, dI) vwCl [(vg, .inr (0, [.ref vgv_4, .int 0, .int vgm, .int vgc_7])), (vgv_4, .inl (cy 3, vnb_5, .inl vgf_6))] H := hP
  have hD : va_D A [(vg, .inr (0, [.ref vgv_4, .int 0, .int vgm, .int vgc_7])), (vgv_4, .inl (cy 3, vnb_5, .inl vgf_6))] := hD
  refine W.widen (k := 1) (n := 70) (by decide) (by decide) ?_
  refine W.eq (g2 := F0 m 5 ls [.ref vg]) rfl ?_
  refine lv_pop hx hb dJ4_append_15ec4_5 rfl ?_
  refine lv_aload_n hx hb dJ4_append_15ec4_6 rfl (lv_at hl 0 rfl) ?_
  refine W.widen (k := 1) (n := 70) (by decide) (by decide) ?_
  rw [hQ9]
  exact re_r (vgv_4, vnb_5, vgf_6, vgc_7) hx hb hr (Or.inl ⟨_, rfl⟩) hlocks ⟨(show sb_Fit vgf_6 from q_8), (show 0 ≤ (vgc_7 : Int32).toInt ∧ (vgc_7 : Int32).toInt ≤ 42 from ⟨by omega, by omega⟩), (show (vnb_5 = 16 ∨ vnb_5 = 34 ∨ vnb_5 = 70) from q_10), (show (vgc_7 : Int32).toInt ≤ (vnb_5 : Int) from q_11), (show (vgc_7 : Int32).toInt = (vgc : Int32).toInt + 7 from q_12)⟩ (hP.sub [0, 1] rfl) (hD.sub [0, 1] rfl rfl) hS dJ4_append_15ec4_7
set_option maxHeartbeats 4000000 in
set_option maxRecDepth 100000 in
theorem b_coder_1 (l : Launch) (dC : Nat → ClassId) (dI : Nat → Nat → Nat) (cy : Nat → ClassId) (sz : Nat) (B : Nat → Prop) (kS vS : Nat → Nat)   (hB : ∀ q : Nat, va_A [] sz q → B q) : Met l yJ0_coder_7d493 (wl yJ0_coder_7d493 cJ0_coder_7d493 1 (some .byte)) ({ frames := 0, cells := 0, slots := 0, locals := 0 }) (Pw (dC, dI) vwCl cy [] sz [.ref (kS 1)] (EnvB B kS vS)) (Qi (dC, dI) vwCl (fun (r : Int32) (u : Unit) => ((r = 0))) (fun (u : Unit) => []) (va_A [] sz)) 0 0 (va_A [] sz) := by
  refine mw (Qc := Qi (dC, dI) vwCl (fun (r : Int32) (u : Unit) => ((r = 0))) (fun (u : Unit) => [])) RJ0 rfl (by decide +kernel) (Nat.le_of_ble_eq_true rfl) ?_
  intro p e s m below meth c A hx hb hr hlocks av9 hav hts hown hnm hml hK hP hD hA hS hE hAe Q9 hQ9 ls hl
  have hAB : ∀ q : Nat, A q → B q := by rw [hAe]; exact hB
  have hEA := hE.narrow hAB
  have hl : lv_has ls 1 [(0, .ref (kS 1))] := hl
  refine va_gets hx hb hEA.2.2.2.2.2.1 hS hown (hts _ t52) (fun _ h => h) dJ0_coder_7d493_0 ?_
  refine lv_if_eq (tgt := 13) hx hb dJ0_coder_7d493_3 (by decide) (fun c9 => absurd c9 (by decide)) (fun _ => ?_)
  refine lv_aload_n hx hb dJ0_coder_7d493_6 rfl (lv_at hl 0 rfl) ?_
  refine vk_getf hx hb (hEA.2.2.2.2.1.1 1 (by decide)).2.1 hS hown (hts _ t2102) (fun _ h => h) dJ0_coder_7d493_7 ?_
  refine lv_goto (tgt := 14) hx hb dJ0_coder_7d493_10 (by decide) ?_
  have k_0 : (0 : Int32).toInt = 0 := by decide
  rw [hQ9]
  exact re_c () hx hb hr hlocks rfl (show ((0 : Int32) = 0) from (rfl)) (hP.sub [] rfl) (hD.sub [] rfl rfl) hS dJ0_coder_7d493_14
set_option maxHeartbeats 4000000 in
set_option maxRecDepth 100000 in
theorem b_slen_1 (l : Launch) (dC : Nat → ClassId) (dI : Nat → Nat → Nat) (cy : Nat → ClassId) (sz : Nat) (B : Nat → Prop) (kS vS : Nat → Nat)   (hB : ∀ q : Nat, va_A [] sz q → B q) : Met l yJ0_length_8abf5 (wl yJ0_length_8abf5 cJ0_length_8abf5 1 (some .int)) ({ frames := 1, cells := 0, slots := 0, locals := 64 }) (Pw (dC, dI) vwCl cy [] sz [.ref (kS 1)] (EnvB B kS vS)) (Qi (dC, dI) vwCl (fun (r : Int32) (u : Unit) => ((r = 9))) (fun (u : Unit) => []) (va_A [] sz)) 0 0 (va_A [] sz) := by
  refine mw (Qc := Qi (dC, dI) vwCl (fun (r : Int32) (u : Unit) => ((r = 9))) (fun (u : Unit) => [])) RJ0 rfl (by decide +kernel) (Nat.le_of_ble_eq_true rfl) ?_
  intro p e s m below meth c A hx hb hr hlocks av9 hav hts hown hnm hml hK hP hD hA hS hE hAe Q9 hQ9 ls hl
  have hAB : ∀ q : Nat, A q → B q := by rw [hAe]; exact hB
  have hEA := hE.narrow hAB
  have hl : lv_has ls 1 [(0, .ref (kS 1))] := hl
  refine lv_aload_n hx hb dJ0_length_8abf5_0 rfl (lv_at hl 0 rfl) ?_
  refine vk_getf hx hb (hEA.2.2.2.2.1.1 1 (by decide)).2.2.1 hS hown (hts _ t2101) (fun _ h => h) dJ0_length_8abf5_1 ?_
  refine va_tlen (v := 9) hx hb (hEA.2.2.2.2.1.1 1 (by decide)).2.2.2 hS rfl dJ0_length_8abf5_4 ?_
  refine lv_aload_n hx hb dJ0_length_8abf5_5 rfl (lv_at hl 0 rfl) ?_
  refine jn_i (wr := []) (rVs (As := []) (rest := [.int 9]) ⟨hx, hb, hml, hown, hts⟩ (b_coder_1 l dC dI cy _ B kS vS   (fun q hq => hAB q (va_free hD hS hA [] rfl q hq))) (cw_J0_335 hts rfl rfl ⟨Nat.le_of_ble_eq_true rfl, Nat.le_of_ble_eq_true rfl⟩) hP hD hK [] rfl rfl (vk_recv (i := 1) hEA.2.2.2.2.1 (by decide) hS) EnvB.calling (EnvB.at hE hS hAB (fun _ h => h)) rfl hl.1 rfl (Nat.le_of_ble_eq_true rfl) dJ0_length_8abf5_6 ⟨Nat.le_of_ble_eq_true rfl, Nat.le_of_ble_eq_true rfl⟩) hP hD hS hA [] [] rfl rfl rfl (by decide) (fun r_1 u_3 H locs hp_2 hP hD hS => ?_)
  have hp_2 : ((r_1 = 0)) := hp_2
  have q_4 := hp_2
  have hP : va_P (dC, dI) vwCl [] H := hP
  have hD : va_D A [] := hD
  refine as_i 0 q_4 ?_
  refine lv_ishr hx hb dJ0_length_8abf5_9 ?_
  refine as_i 9 (sb_shr0 _) ?_
  have k_9 : (9 : Int32).toInt = 9 := by decide
  rw [hQ9]
  exact re_i () hx hb hr hlocks (show ((9 : Int32) = 9) from (rfl)) (hP.sub [] rfl) (hD.sub [] rfl rfl) hS dJ0_length_8abf5_10
abbrev O_b_getBytes_1 (cy : Nat → ClassId) (vgv : Nat) (vnb : Nat) (vgf : Nat → Int32) (vat : Int32) (u : (Nat → Int32)) : va_W := [(vgv, .inl (cy 3, vnb, .inl u))]
set_option maxHeartbeats 4000000 in
set_option maxRecDepth 100000 in
theorem b_getBytes_1 (l : Launch) (dC : Nat → ClassId) (dI : Nat → Nat → Nat) (cy : Nat → ClassId) (sz : Nat) (B : Nat → Prop) (kS vS : Nat → Nat) (vgv : Nat) (vnb : Nat) (vgf : Nat → Int32) (vat : Int32) (r_vat : 0 ≤ (vat : Int32).toInt ∧ (vat : Int32).toInt ≤ 42) (p_vgf : sb_Fit vgf) (hn : (vnb = 16 ∨ vnb = 34 ∨ vnb = 70)) (hat : (vat : Int32).toInt + 9 ≤ (vnb : Int)) (hB : ∀ q : Nat, va_A [(vgv, .inl (cy 3, vnb, .inl vgf))] sz q → B q) : Met l yJ0_getBytes_840e7 (wl yJ0_getBytes_840e7 cJ0_getBytes_840e7 4 none) ({ frames := 1, cells := 0, slots := 0, locals := 64 }) (Pw (dC, dI) vwCl cy [(vgv, .inl (cy 3, vnb, .inl vgf))] sz [.ref (kS 1), .ref vgv, .int vat, .int 0] (EnvB B kS vS)) (Qv (dC, dI) vwCl (fun (u : (Nat → Int32)) => (sb_Fit u)) (O_b_getBytes_1 cy vgv vnb vgf vat) (va_A [(vgv, .inl (cy 3, vnb, .inl vgf))] sz)) 0 0 (va_A [(vgv, .inl (cy 3, vnb, .inl vgf))] sz) := by
  refine mw (Qc := Qv (dC, dI) vwCl (fun (u : (Nat → Int32)) => (sb_Fit u)) (O_b_getBytes_1 cy vgv vnb vgf vat)) RJ0 rfl (by decide +kernel) (Nat.le_of_ble_eq_true rfl) ?_
  intro p e s m below meth c A hx hb hr hlocks av9 hav hts hown hnm hml hK hP hD hA hS hE hAe Q9 hQ9 ls hl
  have hAB : ∀ q : Nat, A q → B q := by rw [hAe]; exact hB
  have hEA := hE.narrow hAB
  have hl : lv_has ls 4 [(0, .ref (kS 1)), (1, .ref vgv), (2, .int vat), (3, .int 0)] := hl
  refine lv_aload_n hx hb dJ0_getBytes_840e7_0 rfl (lv_at hl 0 rfl) ?_
  refine jn_i (wr := [(vgv, .inl (cy 3, vnb, .inl vgf))]) (rVs (As := []) (rest := []) ⟨hx, hb, hml, hown, hts⟩ (b_coder_1 l dC dI cy _ B kS vS   (fun q hq => hAB q (va_free hD hS hA [] rfl q hq))) (cw_J0_335 hts rfl rfl ⟨Nat.le_of_ble_eq_true rfl, Nat.le_of_ble_eq_true rfl⟩) hP hD hK [] rfl rfl (vk_recv (i := 1) hEA.2.2.2.2.1 (by decide) hS) EnvB.calling (EnvB.at hE hS hAB (fun _ h => h)) rfl hl.1 rfl (Nat.le_of_ble_eq_true rfl) dJ0_getBytes_840e7_1 ⟨Nat.le_of_ble_eq_true rfl, Nat.le_of_ble_eq_true rfl⟩) hP hD hS hA [] [0] rfl rfl rfl (by decide) (fun r_1 u_3 H locs hp_2 hP hD hS => ?_)
  have hp_2 : ((r_1 = 0)) := hp_2
  have q_4 := hp_2
  have hP : va_P (dC, dI) vwCl [(vgv, .inl (cy 3, vnb, .inl vgf))] H := hP
  have hD : va_D A [(vgv, .inl (cy 3, vnb, .inl vgf))] := hD
  refine as_i 0 q_4 ?_
  refine lv_iload_n hx hb dJ0_getBytes_840e7_4 rfl (lv_at hl 3 rfl) ?_
  refine lv_icmp_ne (tgt := 28) hx hb dJ0_getBytes_840e7_5 (by decide) (fun c9 => absurd c9 (by decide)) (fun _ => ?_)
  refine lv_aload_n hx hb dJ0_getBytes_840e7_8 rfl (lv_at hl 0 rfl) ?_
  refine vk_getf hx hb (hEA.2.2.2.2.1.1 1 (by decide)).2.2.1 hS hown (hts _ t2101) (fun _ h => h) dJ0_getBytes_840e7_9 ?_
  refine lv_iconst (v := 0) hx hb dJ0_getBytes_840e7_12 (by decide) ?_
  refine lv_aload_n hx hb dJ0_getBytes_840e7_13 rfl (lv_at hl 1 rfl) ?_
  refine lv_iload_n hx hb dJ0_getBytes_840e7_14 rfl (lv_at hl 2 rfl) ?_
  refine lv_iload_n hx hb dJ0_getBytes_840e7_15 rfl (lv_at hl 3 rfl) ?_
  refine lv_ishl hx hb dJ0_getBytes_840e7_16 ?_
  refine as_i vat (sb_shl0 _) ?_
  refine lv_aload_n hx hb dJ0_getBytes_840e7_17 rfl (lv_at hl 0 rfl) ?_
  refine vk_getf hx hb (hEA.2.2.2.2.1.1 1 (by decide)).2.2.1 hS hown (hts _ t2101) (fun _ h => h) dJ0_getBytes_840e7_18 ?_
  refine va_tlen (v := 9) hx hb (hEA.2.2.2.2.1.1 1 (by decide)).2.2.2 hS rfl dJ0_getBytes_840e7_21 ?_
  have k_9 : (9 : Int32).toInt = 9 := by decide
  have k_0 : (0 : Int32).toInt = 0 := by decide
  refine vk_copyt (f := fun j => (sbB.getD 1 []).getD j 0) hx hb (by rw [hml, hl.1]) hown (hts _ t1094) (hts _ t769) (hts _ t768) (hts _ t23) hK hP hD hS (hEA.2.2.2.2.1.1 1 (by decide)).2.2.2 0 3 rfl rfl (fun h9 => absurd (i_lt.mp h9) (by have := k_0; omega)) (fun h9 => absurd (i_lt.mp h9) (by have := k_0; omega)) (fun h9 => absurd (i_lt.mp h9) (by have := k_0; omega)) (by have h1 := (cl_nn (x := (0 : Int32)) (by omega)); have h2 := (cl_nn (x := (9 : Int32)) (by omega)); show _ ≤ 9; omega) (by have h1 := (cl_nn (x := vat) (by omega)); have h2 := (cl_nn (x := (9 : Int32)) (by omega)); omega) (fun i _ => sb_list 1 _) (Nat.le_of_ble_eq_true rfl) (Nat.le_of_ble_eq_true rfl) dJ0_getBytes_840e7_22 (fun H locs hP hD hS => ?_)
  obtain ⟨f_5, ef_5⟩ : ∃ z : Nat → Int32, z = va_cpy (fun j => (sbB.getD 1 []).getD j 0) vgf (Int32.toNatClampNeg 0) (Int32.toNatClampNeg vat) (Int32.toNatClampNeg 9) := ⟨_, rfl⟩
  have hP : va_P (dC, dI) vwCl [(vgv, .inl (cy 3, vnb, .inl f_5))] H := by rw [ef_5]; exact hP
  have hD : va_D A [(vgv, .inl (cy 3, vnb, .inl f_5))] := by rw [ef_5]; exact hD
  have p_f_5 : sb_Fit f_5 := by rw [ef_5]; exact sb_fitC (fun j => sb_list 1 j) p_vgf
  refine lv_goto (tgt := 43) hx hb dJ0_getBytes_840e7_25 (by decide) ?_
  rw [hQ9]
  exact re_v f_5 hx hb hr hlocks (show sb_Fit f_5 from p_f_5) (hP.sub [0] rfl) (hD.sub [0] rfl rfl) hS dJ0_getBytes_840e7_43
abbrev O_b_inflate_1 (cy : Nat → ClassId) (vg : Nat) (vgv : Nat) (vgm : Int32) (vgc : Int32) (vnb : Nat) (vgf : Nat → Int32) (u : Unit) : va_W := [(vg, .inr (0, [.ref vgv, .int 0, .int vgm, .int vgc])), (vgv, .inl (cy 3, vnb, .inl vgf))]
set_option maxHeartbeats 4000000 in
set_option maxRecDepth 100000 in
theorem b_inflate_1 (l : Launch) (dC : Nat → ClassId) (dI : Nat → Nat → Nat) (cy : Nat → ClassId) (sz : Nat) (B : Nat → Prop) (kS vS : Nat → Nat) (vg : Nat) (vgv : Nat) (vgm : Int32) (vgc : Int32) (vnb : Nat) (vgf : Nat → Int32) (p_vgf : sb_Fit vgf) (hB : ∀ q : Nat, va_A [(vg, .inr (0, [.ref vgv, .int 0, .int vgm, .int vgc])), (vgv, .inl (cy 3, vnb, .inl vgf))] sz q → B q) : Met l yJ5_inflateIfNeededFor_a7421 (wl yJ5_inflateIfNeededFor_a7421 cJ5_inflateIfNeededFor_a7421 2 none) ({ frames := 1, cells := 0, slots := 0, locals := 64 }) (Pw (dC, dI) vwCl cy [(vg, .inr (0, [.ref vgv, .int 0, .int vgm, .int vgc])), (vgv, .inl (cy 3, vnb, .inl vgf))] sz [.ref vg, .ref (kS 1)] (EnvB B kS vS)) (Qv (dC, dI) vwCl (fun (u : Unit) => True) (O_b_inflate_1 cy vg vgv vgm vgc vnb vgf) (va_A [(vg, .inr (0, [.ref vgv, .int 0, .int vgm, .int vgc])), (vgv, .inl (cy 3, vnb, .inl vgf))] sz)) 0 0 (va_A [(vg, .inr (0, [.ref vgv, .int 0, .int vgm, .int vgc])), (vgv, .inl (cy 3, vnb, .inl vgf))] sz) := by
  refine mw (Qc := Qv (dC, dI) vwCl (fun (u : Unit) => True) (O_b_inflate_1 cy vg vgv vgm vgc vnb vgf)) RJ5 rfl (by decide +kernel) (Nat.le_of_ble_eq_true rfl) ?_
  intro p e s m below meth c A hx hb hr hlocks av9 hav hts hown hnm hml hK hP hD hA hS hE hAe Q9 hQ9 ls hl
  have hAB : ∀ q : Nat, A q → B q := by rw [hAe]; exact hB
  have hEA := hE.narrow hAB
  have hl : lv_has ls 2 [(0, .ref vg), (1, .ref (kS 1))] := hl
  refine va_gets hx hb hEA.2.2.2.2.2.1 hS hown (hts _ t339) (fun _ h => h) dJ5_inflateIfNeededFor_a7421_0 ?_
  refine lv_if_eq (tgt := 21) hx hb dJ5_inflateIfNeededFor_a7421_3 (by decide) (fun c9 => absurd c9 (by decide)) (fun _ => ?_)
  refine lv_aload_n hx hb dJ5_inflateIfNeededFor_a7421_6 rfl (lv_at hl 0 rfl) ?_
  refine gf_J5_22 hx hb hts hown hK hP 0 rfl rfl dJ5_inflateIfNeededFor_a7421_7 ?_
  refine lv_aload_n hx hb dJ5_inflateIfNeededFor_a7421_10 rfl (lv_at hl 1 rfl) ?_
  refine jn_i (wr := [(vg, .inr (0, [.ref vgv, .int 0, .int vgm, .int vgc])), (vgv, .inl (cy 3, vnb, .inl vgf))]) (rVs (As := []) (rest := [.int 0]) ⟨hx, hb, hml, hown, hts⟩ (b_coder_1 l dC dI cy _ B kS vS   (fun q hq => hAB q (va_free hD hS hA [] rfl q hq))) (cw_J5_40 hts rfl rfl ⟨Nat.le_of_ble_eq_true rfl, Nat.le_of_ble_eq_true rfl⟩) hP hD hK [] rfl rfl (vk_recv (i := 1) hEA.2.2.2.2.1 (by decide) hS) EnvB.calling (EnvB.at hE hS hAB (fun _ h => h)) rfl hl.1 rfl (Nat.le_of_ble_eq_true rfl) dJ5_inflateIfNeededFor_a7421_11 ⟨Nat.le_of_ble_eq_true rfl, Nat.le_of_ble_eq_true rfl⟩) hP hD hS hA [] [0, 1] rfl rfl rfl (by decide) (fun r_1 u_3 H locs hp_2 hP hD hS => ?_)
  have hp_2 : ((r_1 = 0)) := hp_2
  have q_4 := hp_2
  have hP : va_P (dC, dI) vwCl [(vg, .inr (0, [.ref vgv, .int 0, .int vgm, .int vgc])), (vgv, .inl (cy 3, vnb, .inl vgf))] H := hP
  have hD : va_D A [(vg, .inr (0, [.ref vgv, .int 0, .int vgm, .int vgc])), (vgv, .inl (cy 3, vnb, .inl vgf))] := hD
  refine as_i 0 q_4 ?_
  refine lv_icmp_eq (tgt := 21) hx hb dJ5_inflateIfNeededFor_a7421_14 (by decide) (fun _ => ?_) (fun c9 => absurd (by decide) c9)
  rw [hQ9]
  exact re_v () hx hb hr hlocks trivial (hP.sub [0, 1] rfl) (hD.sub [0, 1] rfl rfl) hS dJ5_inflateIfNeededFor_a7421_21
abbrev O_b_putString_1 (cy : Nat → ClassId) (vg : Nat) (vgv : Nat) (vgm : Int32) (vgc : Int32) (vnb : Nat) (vgf : Nat → Int32) (vat : Int32) (u : (Nat → Int32)) : va_W := [(vg, .inr (0, [.ref vgv, .int 0, .int vgm, .int vgc])), (vgv, .inl (cy 3, vnb, .inl u))]
set_option maxHeartbeats 4000000 in
set_option maxRecDepth 100000 in
theorem b_putString_1 (l : Launch) (dC : Nat → ClassId) (dI : Nat → Nat → Nat) (cy : Nat → ClassId) (sz : Nat) (B : Nat → Prop) (kS vS : Nat → Nat) (vg : Nat) (vgv : Nat) (vgm : Int32) (vgc : Int32) (vnb : Nat) (vgf : Nat → Int32) (vat : Int32) (r_vat : 0 ≤ (vat : Int32).toInt ∧ (vat : Int32).toInt ≤ 42) (p_vgf : sb_Fit vgf) (hn : (vnb = 16 ∨ vnb = 34 ∨ vnb = 70)) (hat : (vat : Int32).toInt + 9 ≤ (vnb : Int)) (hB : ∀ q : Nat, va_A [(vg, .inr (0, [.ref vgv, .int 0, .int vgm, .int vgc])), (vgv, .inl (cy 3, vnb, .inl vgf))] sz q → B q) : Met l yJ5_putStringAt_47b60 (wl yJ5_putStringAt_47b60 cJ5_putStringAt_47b60 3 none) ({ frames := 2, cells := 0, slots := 0, locals := 128 }) (Pw (dC, dI) vwCl cy [(vg, .inr (0, [.ref vgv, .int 0, .int vgm, .int vgc])), (vgv, .inl (cy 3, vnb, .inl vgf))] sz [.ref vg, .int vat, .ref (kS 1)] (EnvB B kS vS)) (Qv (dC, dI) vwCl (fun (u : (Nat → Int32)) => (sb_Fit u)) (O_b_putString_1 cy vg vgv vgm vgc vnb vgf vat) (va_A [(vg, .inr (0, [.ref vgv, .int 0, .int vgm, .int vgc])), (vgv, .inl (cy 3, vnb, .inl vgf))] sz)) 0 0 (va_A [(vg, .inr (0, [.ref vgv, .int 0, .int vgm, .int vgc])), (vgv, .inl (cy 3, vnb, .inl vgf))] sz) := by
  refine mw (Qc := Qv (dC, dI) vwCl (fun (u : (Nat → Int32)) => (sb_Fit u)) (O_b_putString_1 cy vg vgv vgm vgc vnb vgf vat)) RJ5 rfl (by decide +kernel) (Nat.le_of_ble_eq_true rfl) ?_
  intro p e s m below meth c A hx hb hr hlocks av9 hav hts hown hnm hml hK hP hD hA hS hE hAe Q9 hQ9 ls hl
  have hAB : ∀ q : Nat, A q → B q := by rw [hAe]; exact hB
  have hEA := hE.narrow hAB
  have hl : lv_has ls 3 [(0, .ref vg), (1, .int vat), (2, .ref (kS 1))] := hl
  refine lv_aload_n hx hb dJ5_putStringAt_47b60_0 rfl (lv_at hl 0 rfl) ?_
  refine lv_aload_n hx hb dJ5_putStringAt_47b60_1 rfl (lv_at hl 2 rfl) ?_
  refine jn_v (wr := []) (rVU (As := [.ref (kS 1)]) (rest := []) (ci := 0) ⟨hx, hb, hml, hown, hts⟩ (b_inflate_1 l dC dI cy _ B kS vS vg vgv vgm vgc vnb vgf p_vgf (fun q hq => hAB q (va_free hD hS hA [0, 1] rfl q hq))) (cu_J5_397 hts (va_tabs rfl rfl hEA.2.2.2.2.2.2.2.2.2.2.2.2.2.2) rfl rfl ⟨Nat.le_of_ble_eq_true rfl, Nat.le_of_ble_eq_true rfl⟩) hP hD hK [0, 1] rfl rfl rfl rfl EnvB.calling (EnvB.at hE hS hAB (fun _ h => h)) rfl hl.1 rfl (Nat.le_of_ble_eq_true rfl) dJ5_putStringAt_47b60_2 ⟨Nat.le_of_ble_eq_true rfl, Nat.le_of_ble_eq_true rfl⟩) hP hD hS hA [0, 1] [] rfl rfl rfl (by decide) (fun u_3 H locs hp_2 hP hD hS => ?_)
  have hP : va_P (dC, dI) vwCl [(vg, .inr (0, [.ref vgv, .int 0, .int vgm, .int vgc])), (vgv, .inl (cy 3, vnb, .inl vgf))] H := hP
  have hD : va_D A [(vg, .inr (0, [.ref vgv, .int 0, .int vgm, .int vgc])), (vgv, .inl (cy 3, vnb, .inl vgf))] := hD
  refine lv_aload_n hx hb dJ5_putStringAt_47b60_5 rfl (lv_at hl 2 rfl) ?_
  refine lv_aload_n hx hb dJ5_putStringAt_47b60_6 rfl (lv_at hl 0 rfl) ?_
  refine gf_J5_15 hx hb hts hown hK hP 0 rfl rfl dJ5_putStringAt_47b60_7 ?_
  refine lv_iload_n hx hb dJ5_putStringAt_47b60_10 rfl (lv_at hl 1 rfl) ?_
  refine lv_aload_n hx hb dJ5_putStringAt_47b60_11 rfl (lv_at hl 0 rfl) ?_
  refine gf_J5_22 hx hb hts hown hK hP 0 rfl rfl dJ5_putStringAt_47b60_12 ?_
  refine jn_v (wr := [(vg, .inr (0, [.ref vgv, .int 0, .int vgm, .int vgc]))]) (rVs (As := [.ref vgv, .int vat, .int 0]) (rest := []) ⟨hx, hb, hml, hown, hts⟩ (b_getBytes_1 l dC dI cy _ B kS vS vgv vnb vgf vat r_vat p_vgf hn hat (fun q hq => hAB q (va_free hD hS hA [1] rfl q hq))) (cw_J5_399 hts rfl rfl ⟨Nat.le_of_ble_eq_true rfl, Nat.le_of_ble_eq_true rfl⟩) hP hD hK [1] rfl rfl (vk_recv (i := 1) hEA.2.2.2.2.1 (by decide) hS) EnvB.calling (EnvB.at hE hS hAB (fun _ h => h)) rfl hl.1 rfl (Nat.le_of_ble_eq_true rfl) dJ5_putStringAt_47b60_15 ⟨Nat.le_of_ble_eq_true rfl, Nat.le_of_ble_eq_true rfl⟩) hP hD hS hA [1] [0] rfl rfl rfl (by decide) (fun u_6 H locs hp_5 hP hD hS => ?_)
  obtain ⟨vgf_7, rfl⟩ : ∃ z, z = u_6 := ⟨_, rfl⟩
  have hp_5 : (sb_Fit vgf_7) := hp_5
  have q_8 := hp_5
  have hP : va_P (dC, dI) vwCl [(vg, .inr (0, [.ref vgv, .int 0, .int vgm, .int vgc])), (vgv, .inl (cy 3, vnb, .inl vgf_7))] H := hP
  have hD : va_D A [(vg, .inr (0, [.ref vgv, .int 0, .int vgm, .int vgc])), (vgv, .inl (cy 3, vnb, .inl vgf_7))] := hD
  rw [hQ9]
  exact re_v vgf_7 hx hb hr hlocks (show sb_Fit vgf_7 from q_8) (hP.sub [0, 1] rfl) (hD.sub [0, 1] rfl rfl) hS dJ5_putStringAt_47b60_18
abbrev O_b_appS_1 (cy : Nat → ClassId) (vg : Nat) (vgv : Nat) (vgm : Int32) (vgc : Int32) (vnb : Nat) (vgf : Nat → Int32) (u : Nat × Nat × (Nat → Int32) × Int32) : va_W := [(vg, .inr (0, [.ref u.1, .int 0, .int vgm, .int u.2.2.2])), (u.1, .inl (cy 3, u.2.1, .inl u.2.2.1))]
set_option maxHeartbeats 4000000 in
set_option maxRecDepth 100000 in
theorem b_appS_1 (l : Launch) (dC : Nat → ClassId) (dI : Nat → Nat → Nat) (cy : Nat → ClassId) (sz : Nat) (B : Nat → Prop) (kS vS : Nat → Nat) (vg : Nat) (vgv : Nat) (vgm : Int32) (vgc : Int32) (vnb : Nat) (vgf : Nat → Int32) (r_vgc : 0 ≤ (vgc : Int32).toInt ∧ (vgc : Int32).toInt ≤ 33) (p_vgf : sb_Fit vgf) (hn : (vnb = 16 ∨ vnb = 34 ∨ vnb = 70)) (hgc : (vgc : Int32).toInt ≤ (vnb : Int)) (hB : ∀ q : Nat, va_A [(vg, .inr (0, [.ref vgv, .int 0, .int vgm, .int vgc])), (vgv, .inl (cy 3, vnb, .inl vgf))] sz q → B q) : Met l yJ5_append_cf1ce (wl yJ5_append_cf1ce cJ5_append_cf1ce 3 (some (.object "java/lang/AbstractStringBuilder"))) ({ frames := 4, cells := 1, slots := 70, locals := 256 }) (Pw (dC, dI) vwCl cy [(vg, .inr (0, [.ref vgv, .int 0, .int vgm, .int vgc])), (vgv, .inl (cy 3, vnb, .inl vgf))] sz [.ref vg, .ref (kS 1)] (EnvB B kS vS)) (Qr (dC, dI) vwCl (fun (u : Nat × Nat × (Nat → Int32) × Int32) => (sb_Fit u.2.2.1) ∧ (0 ≤ (u.2.2.2 : Int32).toInt ∧ (u.2.2.2 : Int32).toInt ≤ 42) ∧ ((u.2.1 = 16 ∨ u.2.1 = 34 ∨ u.2.1 = 70)) ∧ ((u.2.2.2 : Int32).toInt ≤ (u.2.1 : Int)) ∧ ((u.2.2.2 : Int32).toInt = (vgc : Int32).toInt + 9)) (O_b_appS_1 cy vg vgv vgm vgc vnb vgf) (fun (u : Nat × Nat × (Nat → Int32) × Int32) => vg) (va_A [(vg, .inr (0, [.ref vgv, .int 0, .int vgm, .int vgc])), (vgv, .inl (cy 3, vnb, .inl vgf))] sz)) 1 70 (va_A [(vg, .inr (0, [.ref vgv, .int 0, .int vgm, .int vgc])), (vgv, .inl (cy 3, vnb, .inl vgf))] sz) := by
  refine mw (Qc := Qr (dC, dI) vwCl (fun (u : Nat × Nat × (Nat → Int32) × Int32) => (sb_Fit u.2.2.1) ∧ (0 ≤ (u.2.2.2 : Int32).toInt ∧ (u.2.2.2 : Int32).toInt ≤ 42) ∧ ((u.2.1 = 16 ∨ u.2.1 = 34 ∨ u.2.1 = 70)) ∧ ((u.2.2.2 : Int32).toInt ≤ (u.2.1 : Int)) ∧ ((u.2.2.2 : Int32).toInt = (vgc : Int32).toInt + 9)) (O_b_appS_1 cy vg vgv vgm vgc vnb vgf) (fun (u : Nat × Nat × (Nat → Int32) × Int32) => vg)) RJ5 rfl (by decide +kernel) (Nat.le_of_ble_eq_true rfl) ?_
  intro p e s m below meth c A hx hb hr hlocks av9 hav hts hown hnm hml hK hP hD hA hS hE hAe Q9 hQ9 ls hl
  have hAB : ∀ q : Nat, A q → B q := by rw [hAe]; exact hB
  have hEA := hE.narrow hAB
  have hl : lv_has ls 3 [(0, .ref vg), (1, .ref (kS 1))] := hl
  refine lv_aload_n hx hb dJ5_append_cf1ce_0 rfl (lv_at hl 1 rfl) ?_
  refine lv_ifnonnull (tgt := 9) hx hb dJ5_append_cf1ce_1 (by decide) ?_
  refine lv_aload_n hx hb dJ5_append_cf1ce_9 rfl (lv_at hl 1 rfl) ?_
  refine jn_i (wr := [(vg, .inr (0, [.ref vgv, .int 0, .int vgm, .int vgc])), (vgv, .inl (cy 3, vnb, .inl vgf))]) (rVs (As := []) (rest := []) ⟨hx, hb, hml, hown, hts⟩ (b_slen_1 l dC dI cy _ B kS vS   (fun q hq => hAB q (va_free hD hS hA [] rfl q hq))) (cw_J5_32 hts rfl rfl ⟨Nat.le_of_ble_eq_true rfl, Nat.le_of_ble_eq_true rfl⟩) hP hD hK [] rfl rfl (vk_recv (i := 1) hEA.2.2.2.2.1 (by decide) hS) EnvB.calling (EnvB.at hE hS hAB (fun _ h => h)) rfl hl.1 rfl (Nat.le_of_ble_eq_true rfl) dJ5_append_cf1ce_10 ⟨Nat.le_of_ble_eq_true rfl, Nat.le_of_ble_eq_true rfl⟩) hP hD hS hA [] [0, 1] rfl rfl rfl (by decide) (fun r_1 u_3 H locs hp_2 hP hD hS => ?_)
  have hp_2 : ((r_1 = 9)) := hp_2
  have q_4 := hp_2
  have hP : va_P (dC, dI) vwCl [(vg, .inr (0, [.ref vgv, .int 0, .int vgm, .int vgc])), (vgv, .inl (cy 3, vnb, .inl vgf))] H := hP
  have hD : va_D A [(vg, .inr (0, [.ref vgv, .int 0, .int vgm, .int vgc])), (vgv, .inl (cy 3, vnb, .inl vgf))] := hD
  refine as_i 9 q_4 ?_
  refine lv_istore_n (lv' := [(2, .int 9), (0, .ref vg), (1, .ref (kS 1))]) hx hb dJ5_append_cf1ce_13 rfl hl (by decide) rfl (fun ls hl => ?_)
  refine lv_aload_n hx hb dJ5_append_cf1ce_14 rfl (lv_at hl 1 rfl) ?_
  refine lv_aload_n hx hb dJ5_append_cf1ce_15 rfl (lv_at hl 1 rfl) ?_
  refine gf_J5_79 hx hb hts hown hK hP 0 rfl rfl dJ5_append_cf1ce_16 ?_
  refine lv_iload_n hx hb dJ5_append_cf1ce_19 rfl (lv_at hl 0 rfl) ?_
  refine lv_iadd hx hb dJ5_append_cf1ce_20 ?_
  refine lv_topi (fun z_5 ez_5 => ?_)
  have k_9 : (9 : Int32).toInt = 9 := by decide
  have bz_5 : z_5.toInt = vgc.toInt + (9 : Int32).toInt := i_add ez_5 (by omega) (by omega)
  refine jn_v (wr := []) (rVU (As := [.int z_5]) (rest := []) (ci := 0) ⟨hx, hb, hml, hown, hts⟩ (b_ensure l dC dI cy _ B kS vS vg vgv vgm vgc vnb vgf z_5 ⟨by omega, by omega⟩ p_vgf hn (by omega) (fun q hq => hAB q (va_free hD hS hA [0, 1] rfl q hq))) (cu_J5_100 hts (va_tabs rfl rfl hEA.2.2.2.2.2.2.2.2.2.2.2.1) rfl rfl ⟨Nat.le_of_ble_eq_true rfl, Nat.le_of_ble_eq_true rfl⟩) hP hD hK [0, 1] rfl rfl rfl rfl EnvB.calling (EnvB.at hE hS hAB (fun _ h => h)) rfl hl.1 rfl (Nat.le_of_ble_eq_true rfl) dJ5_append_cf1ce_21 ⟨Nat.le_of_ble_eq_true rfl, Nat.le_of_ble_eq_true rfl⟩) hP hD hS hA [0, 1] [] rfl rfl rfl (by decide) (fun u_8 H locs hp_7 hP hD hS => ?_)
  obtain ⟨vgv_9, vnb_10, vgf_11⟩ := u_8
  have hp_7 : (sb_Fit vgf_11) ∧ ((vnb_10 = 16 ∨ vnb_10 = 34 ∨ vnb_10 = 70)) ∧ ((z_5 : Int32).toInt ≤ (vnb_10 : Int)) := hp_7
  obtain ⟨q_12, q_13, q_14⟩ := hp_7
  have hP : va_P (dC, dI) vwCl [(vg, .inr (0, [.ref vgv_9, .int 0, .int vgm, .int vgc])), (vgv_9, .inl (cy 3, vnb_10, .inl vgf_11))] H := hP
  have hD : va_D A [(vg, .inr (0, [.ref vgv_9, .int 0, .int vgm, .int vgc])), (vgv_9, .inl (cy 3, vnb_10, .inl vgf_11))] := hD
  refine W.widen (k := 1) (n := 70) (by decide) (by decide) ?_
  refine lv_aload_n hx hb dJ5_append_cf1ce_24 rfl (lv_at hl 1 rfl) ?_
  refine lv_aload_n hx hb dJ5_append_cf1ce_25 rfl (lv_at hl 1 rfl) ?_
  refine gf_J5_79 hx hb hts hown hK hP 0 rfl rfl dJ5_append_cf1ce_26 ?_
  refine lv_aload_n hx hb dJ5_append_cf1ce_29 rfl (lv_at hl 2 rfl) ?_
  refine jn_v (wr := []) (rVU (As := [.int vgc, .ref (kS 1)]) (rest := []) (ci := 0) ⟨hx, hb, hml, hown, hts⟩ (b_putString_1 l dC dI cy _ B kS vS vg vgv_9 vgm vgc vnb_10 vgf_11 vgc ⟨by omega, by omega⟩ q_12 q_13 (by omega) (fun q hq => hAB q (va_free hD hS hA [0, 1] rfl q hq))) (cu_J5_208 hts (va_tabs rfl rfl hEA.2.2.2.2.2.2.2.2.2.2.2.2.2.1) rfl rfl ⟨Nat.le_of_ble_eq_true rfl, Nat.le_of_ble_eq_true rfl⟩) hP hD hK [0, 1] rfl rfl rfl rfl EnvB.calling (EnvB.at hE hS hAB (fun _ h => h)) rfl hl.1 rfl (Nat.le_of_ble_eq_true rfl) dJ5_append_cf1ce_30 ⟨Nat.le_of_ble_eq_true rfl, Nat.le_of_ble_eq_true rfl⟩) hP hD hS hA [0, 1] [] rfl rfl rfl (by decide) (fun u_17 H locs hp_16 hP hD hS => ?_)
  obtain ⟨vgf_18, rfl⟩ : ∃ z, z = u_17 := ⟨_, rfl⟩
  have hp_16 : (sb_Fit vgf_18) := hp_16
  have q_19 := hp_16
  have hP : va_P (dC, dI) vwCl [(vg, .inr (0, [.ref vgv_9, .int 0, .int vgm, .int vgc])), (vgv_9, .inl (cy 3, vnb_10, .inl vgf_18))] H := hP
  have hD : va_D A [(vg, .inr (0, [.ref vgv_9, .int 0, .int vgm, .int vgc])), (vgv_9, .inl (cy 3, vnb_10, .inl vgf_18))] := hD
  refine lv_aload_n hx hb dJ5_append_cf1ce_33 rfl (lv_at hl 1 rfl) ?_
  refine lv_dup hx hb dJ5_append_cf1ce_34 rfl ?_
  refine gf_J5_79 hx hb hts hown hK hP 0 rfl rfl dJ5_append_cf1ce_35 ?_
  refine lv_iload_n hx hb dJ5_append_cf1ce_38 rfl (lv_at hl 0 rfl) ?_
  refine lv_iadd hx hb dJ5_append_cf1ce_39 ?_
  refine lv_topi (fun z_20 ez_20 => ?_)
  have bz_20 : z_20.toInt = vgc.toInt + (9 : Int32).toInt := i_add ez_20 (by omega) (by omega)
  refine pf_J5_79 hx hb hts hown hK hP hD hS 0 rfl rfl rfl (Nat.le_of_ble_eq_true rfl) dJ5_append_cf1ce_40 (fun H locs hP hD hS => ?_)
  have hP : va_P (dC, dI) vwCl [(vg, .inr (0, [.ref vgv_9, .int 0, .int vgm, .int z_20])), (vgv_9, .inl (cy 3, vnb_10, .inl vgf_18))] H := hP
  have hD : va_D A [(vg, .inr (0, [.ref vgv_9, .int 0, .int vgm, .int z_20])), (vgv_9, .inl (cy 3, vnb_10, .inl vgf_18))] := hD
  refine lv_aload_n hx hb dJ5_append_cf1ce_43 rfl (lv_at hl 1 rfl) ?_
  refine W.widen (k := 1) (n := 70) (by decide) (by decide) ?_
  rw [hQ9]
  exact re_r (vgv_9, vnb_10, vgf_18, z_20) hx hb hr (Or.inl ⟨_, rfl⟩) hlocks ⟨(show sb_Fit vgf_18 from q_19), (show 0 ≤ (z_20 : Int32).toInt ∧ (z_20 : Int32).toInt ≤ 42 from ⟨by omega, by omega⟩), (show (vnb_10 = 16 ∨ vnb_10 = 34 ∨ vnb_10 = 70) from q_13), (show (z_20 : Int32).toInt ≤ (vnb_10 : Int) from (by omega)), (show (z_20 : Int32).toInt = (vgc : Int32).toInt + 9 from (by omega))⟩ (hP.sub [0, 1] rfl) (hD.sub [0, 1] rfl rfl) hS dJ5_append_cf1ce_44
abbrev O_b_sbappS_1 (cy : Nat → ClassId) (vg : Nat) (vgv : Nat) (vgm : Int32) (vgc : Int32) (vnb : Nat) (vgf : Nat → Int32) (u : Nat × Nat × (Nat → Int32) × Int32) : va_W := [(vg, .inr (0, [.ref u.1, .int 0, .int vgm, .int u.2.2.2])), (u.1, .inl (cy 3, u.2.1, .inl u.2.2.1))]
set_option maxHeartbeats 4000000 in
set_option maxRecDepth 100000 in
theorem b_sbappS_1 (l : Launch) (dC : Nat → ClassId) (dI : Nat → Nat → Nat) (cy : Nat → ClassId) (sz : Nat) (B : Nat → Prop) (kS vS : Nat → Nat) (vg : Nat) (vgv : Nat) (vgm : Int32) (vgc : Int32) (vnb : Nat) (vgf : Nat → Int32) (r_vgc : 0 ≤ (vgc : Int32).toInt ∧ (vgc : Int32).toInt ≤ 33) (p_vgf : sb_Fit vgf) (hn : (vnb = 16 ∨ vnb = 34 ∨ vnb = 70)) (hgc : (vgc : Int32).toInt ≤ (vnb : Int)) (hB : ∀ q : Nat, va_A [(vg, .inr (0, [.ref vgv, .int 0, .int vgm, .int vgc])), (vgv, .inl (cy 3, vnb, .inl vgf))] sz q → B q) : Met l yJ4_append_15ec4 (wl yJ4_append_15ec4 cJ4_append_15ec4 2 (some (.object "java/lang/StringBuilder"))) ({ frames := 5, cells := 1, slots := 70, locals := 320 }) (Pw (dC, dI) vwCl cy [(vg, .inr (0, [.ref vgv, .int 0, .int vgm, .int vgc])), (vgv, .inl (cy 3, vnb, .inl vgf))] sz [.ref vg, .ref (kS 1)] (EnvB B kS vS)) (Qr (dC, dI) vwCl (fun (u : Nat × Nat × (Nat → Int32) × Int32) => (sb_Fit u.2.2.1) ∧ (0 ≤ (u.2.2.2 : Int32).toInt ∧ (u.2.2.2 : Int32).toInt ≤ 42) ∧ ((u.2.1 = 16 ∨ u.2.1 = 34 ∨ u.2.1 = 70)) ∧ ((u.2.2.2 : Int32).toInt ≤ (u.2.1 : Int)) ∧ ((u.2.2.2 : Int32).toInt = (vgc : Int32).toInt + 9)) (O_b_sbappS_1 cy vg vgv vgm vgc vnb vgf) (fun (u : Nat × Nat × (Nat → Int32) × Int32) => vg) (va_A [(vg, .inr (0, [.ref vgv, .int 0, .int vgm, .int vgc])), (vgv, .inl (cy 3, vnb, .inl vgf))] sz)) 1 70 (va_A [(vg, .inr (0, [.ref vgv, .int 0, .int vgm, .int vgc])), (vgv, .inl (cy 3, vnb, .inl vgf))] sz) := by
  refine mw (Qc := Qr (dC, dI) vwCl (fun (u : Nat × Nat × (Nat → Int32) × Int32) => (sb_Fit u.2.2.1) ∧ (0 ≤ (u.2.2.2 : Int32).toInt ∧ (u.2.2.2 : Int32).toInt ≤ 42) ∧ ((u.2.1 = 16 ∨ u.2.1 = 34 ∨ u.2.1 = 70)) ∧ ((u.2.2.2 : Int32).toInt ≤ (u.2.1 : Int)) ∧ ((u.2.2.2 : Int32).toInt = (vgc : Int32).toInt + 9)) (O_b_sbappS_1 cy vg vgv vgm vgc vnb vgf) (fun (u : Nat × Nat × (Nat → Int32) × Int32) => vg)) RJ4 rfl (by decide +kernel) (Nat.le_of_ble_eq_true rfl) ?_
  intro p e s m below meth c A hx hb hr hlocks av9 hav hts hown hnm hml hK hP hD hA hS hE hAe Q9 hQ9 ls hl
  have hAB : ∀ q : Nat, A q → B q := by rw [hAe]; exact hB
  have hEA := hE.narrow hAB
  have hl : lv_has ls 2 [(0, .ref vg), (1, .ref (kS 1))] := hl
  refine lv_aload_n hx hb dJ4_append_15ec4_0 rfl (lv_at hl 0 rfl) ?_
  refine lv_aload_n hx hb dJ4_append_15ec4_1 rfl (lv_at hl 1 rfl) ?_
  refine jn_r (wr := []) (rU (As := [.ref (kS 1)]) (rest := []) (ci := 0) ⟨hx, hb, hml, hown, hts⟩ (b_appS_1 l dC dI cy _ B kS vS vg vgv vgm vgc vnb vgf r_vgc p_vgf hn hgc (fun q hq => hAB q (va_free hD hS hA [0, 1] rfl q hq))) (cw_J4_29 hts rfl rfl ⟨Nat.le_of_ble_eq_true rfl, Nat.le_of_ble_eq_true rfl⟩) hP hD hK [0, 1] rfl rfl rfl rfl EnvB.calling (EnvB.at hE hS hAB (fun _ h => h)) rfl hl.1 rfl (Nat.le_of_ble_eq_true rfl) dJ4_append_15ec4_2 ⟨Nat.le_of_ble_eq_true rfl, Nat.le_of_ble_eq_true rfl⟩) hP hD hS hA [0, 1] [] rfl rfl rfl (by decide) (fun u_3 H locs hp_2 hP hD hS => ?_)
  obtain ⟨vgv_4, vnb_5, vgf_6, vgc_7⟩ := u_3
  have hp_2 : (sb_Fit vgf_6) ∧ (0 ≤ (vgc_7 : Int32).toInt ∧ (vgc_7 : Int32).toInt ≤ 42) ∧ ((vnb_5 = 16 ∨ vnb_5 = 34 ∨ vnb_5 = 70)) ∧ ((vgc_7 : Int32).toInt ≤ (vnb_5 : Int)) ∧ ((vgc_7 : Int32).toInt = (vgc : Int32).toInt + 9) := hp_2
  obtain ⟨q_8, q_9, q_10, q_11, q_12⟩ := hp_2
  have hP : va_P (dC, dI) vwCl [(vg, .inr (0, [.ref vgv_4, .int 0, .int vgm, .int vgc_7])), (vgv_4, .inl (cy 3, vnb_5, .inl vgf_6))] H := hP
  have hD : va_D A [(vg, .inr (0, [.ref vgv_4, .int 0, .int vgm, .int vgc_7])), (vgv_4, .inl (cy 3, vnb_5, .inl vgf_6))] := hD
  refine W.widen (k := 1) (n := 70) (by decide) (by decide) ?_
  refine W.eq (g2 := F0 m 5 ls [.ref vg]) rfl ?_
  refine lv_pop hx hb dJ4_append_15ec4_5 rfl ?_
  refine lv_aload_n hx hb dJ4_append_15ec4_6 rfl (lv_at hl 0 rfl) ?_
  refine W.widen (k := 1) (n := 70) (by decide) (by decide) ?_
  rw [hQ9]
  exact re_r (vgv_4, vnb_5, vgf_6, vgc_7) hx hb hr (Or.inl ⟨_, rfl⟩) hlocks ⟨(show sb_Fit vgf_6 from q_8), (show 0 ≤ (vgc_7 : Int32).toInt ∧ (vgc_7 : Int32).toInt ≤ 42 from ⟨by omega, by omega⟩), (show (vnb_5 = 16 ∨ vnb_5 = 34 ∨ vnb_5 = 70) from q_10), (show (vgc_7 : Int32).toInt ≤ (vnb_5 : Int) from q_11), (show (vgc_7 : Int32).toInt = (vgc : Int32).toInt + 9 from q_12)⟩ (hP.sub [0, 1] rfl) (hD.sub [0, 1] rfl rfl) hS dJ4_append_15ec4_7
set_option maxHeartbeats 4000000 in
set_option maxRecDepth 100000 in
theorem b_coder_2 (l : Launch) (dC : Nat → ClassId) (dI : Nat → Nat → Nat) (cy : Nat → ClassId) (sz : Nat) (B : Nat → Prop) (kS vS : Nat → Nat)   (hB : ∀ q : Nat, va_A [] sz q → B q) : Met l yJ0_coder_7d493 (wl yJ0_coder_7d493 cJ0_coder_7d493 1 (some .byte)) ({ frames := 0, cells := 0, slots := 0, locals := 0 }) (Pw (dC, dI) vwCl cy [] sz [.ref (kS 2)] (EnvB B kS vS)) (Qi (dC, dI) vwCl (fun (r : Int32) (u : Unit) => ((r = 0))) (fun (u : Unit) => []) (va_A [] sz)) 0 0 (va_A [] sz) := by
  refine mw (Qc := Qi (dC, dI) vwCl (fun (r : Int32) (u : Unit) => ((r = 0))) (fun (u : Unit) => [])) RJ0 rfl (by decide +kernel) (Nat.le_of_ble_eq_true rfl) ?_
  intro p e s m below meth c A hx hb hr hlocks av9 hav hts hown hnm hml hK hP hD hA hS hE hAe Q9 hQ9 ls hl
  have hAB : ∀ q : Nat, A q → B q := by rw [hAe]; exact hB
  have hEA := hE.narrow hAB
  have hl : lv_has ls 1 [(0, .ref (kS 2))] := hl
  refine va_gets hx hb hEA.2.2.2.2.2.1 hS hown (hts _ t52) (fun _ h => h) dJ0_coder_7d493_0 ?_
  refine lv_if_eq (tgt := 13) hx hb dJ0_coder_7d493_3 (by decide) (fun c9 => absurd c9 (by decide)) (fun _ => ?_)
  refine lv_aload_n hx hb dJ0_coder_7d493_6 rfl (lv_at hl 0 rfl) ?_
  refine vk_getf hx hb (hEA.2.2.2.2.1.1 2 (by decide)).2.1 hS hown (hts _ t2102) (fun _ h => h) dJ0_coder_7d493_7 ?_
  refine lv_goto (tgt := 14) hx hb dJ0_coder_7d493_10 (by decide) ?_
  have k_0 : (0 : Int32).toInt = 0 := by decide
  rw [hQ9]
  exact re_c () hx hb hr hlocks rfl (show ((0 : Int32) = 0) from (rfl)) (hP.sub [] rfl) (hD.sub [] rfl rfl) hS dJ0_coder_7d493_14
set_option maxHeartbeats 4000000 in
set_option maxRecDepth 100000 in
theorem b_slen_2 (l : Launch) (dC : Nat → ClassId) (dI : Nat → Nat → Nat) (cy : Nat → ClassId) (sz : Nat) (B : Nat → Prop) (kS vS : Nat → Nat)   (hB : ∀ q : Nat, va_A [] sz q → B q) : Met l yJ0_length_8abf5 (wl yJ0_length_8abf5 cJ0_length_8abf5 1 (some .int)) ({ frames := 1, cells := 0, slots := 0, locals := 64 }) (Pw (dC, dI) vwCl cy [] sz [.ref (kS 2)] (EnvB B kS vS)) (Qi (dC, dI) vwCl (fun (r : Int32) (u : Unit) => ((r = 7))) (fun (u : Unit) => []) (va_A [] sz)) 0 0 (va_A [] sz) := by
  refine mw (Qc := Qi (dC, dI) vwCl (fun (r : Int32) (u : Unit) => ((r = 7))) (fun (u : Unit) => [])) RJ0 rfl (by decide +kernel) (Nat.le_of_ble_eq_true rfl) ?_
  intro p e s m below meth c A hx hb hr hlocks av9 hav hts hown hnm hml hK hP hD hA hS hE hAe Q9 hQ9 ls hl
  have hAB : ∀ q : Nat, A q → B q := by rw [hAe]; exact hB
  have hEA := hE.narrow hAB
  have hl : lv_has ls 1 [(0, .ref (kS 2))] := hl
  refine lv_aload_n hx hb dJ0_length_8abf5_0 rfl (lv_at hl 0 rfl) ?_
  refine vk_getf hx hb (hEA.2.2.2.2.1.1 2 (by decide)).2.2.1 hS hown (hts _ t2101) (fun _ h => h) dJ0_length_8abf5_1 ?_
  refine va_tlen (v := 7) hx hb (hEA.2.2.2.2.1.1 2 (by decide)).2.2.2 hS rfl dJ0_length_8abf5_4 ?_
  refine lv_aload_n hx hb dJ0_length_8abf5_5 rfl (lv_at hl 0 rfl) ?_
  refine jn_i (wr := []) (rVs (As := []) (rest := [.int 7]) ⟨hx, hb, hml, hown, hts⟩ (b_coder_2 l dC dI cy _ B kS vS   (fun q hq => hAB q (va_free hD hS hA [] rfl q hq))) (cw_J0_335 hts rfl rfl ⟨Nat.le_of_ble_eq_true rfl, Nat.le_of_ble_eq_true rfl⟩) hP hD hK [] rfl rfl (vk_recv (i := 2) hEA.2.2.2.2.1 (by decide) hS) EnvB.calling (EnvB.at hE hS hAB (fun _ h => h)) rfl hl.1 rfl (Nat.le_of_ble_eq_true rfl) dJ0_length_8abf5_6 ⟨Nat.le_of_ble_eq_true rfl, Nat.le_of_ble_eq_true rfl⟩) hP hD hS hA [] [] rfl rfl rfl (by decide) (fun r_1 u_3 H locs hp_2 hP hD hS => ?_)
  have hp_2 : ((r_1 = 0)) := hp_2
  have q_4 := hp_2
  have hP : va_P (dC, dI) vwCl [] H := hP
  have hD : va_D A [] := hD
  refine as_i 0 q_4 ?_
  refine lv_ishr hx hb dJ0_length_8abf5_9 ?_
  refine as_i 7 (sb_shr0 _) ?_
  have k_7 : (7 : Int32).toInt = 7 := by decide
  rw [hQ9]
  exact re_i () hx hb hr hlocks (show ((7 : Int32) = 7) from (rfl)) (hP.sub [] rfl) (hD.sub [] rfl rfl) hS dJ0_length_8abf5_10
abbrev O_b_getBytes_2 (cy : Nat → ClassId) (vgv : Nat) (vnb : Nat) (vgf : Nat → Int32) (vat : Int32) (u : (Nat → Int32)) : va_W := [(vgv, .inl (cy 3, vnb, .inl u))]
set_option maxHeartbeats 4000000 in
set_option maxRecDepth 100000 in
theorem b_getBytes_2 (l : Launch) (dC : Nat → ClassId) (dI : Nat → Nat → Nat) (cy : Nat → ClassId) (sz : Nat) (B : Nat → Prop) (kS vS : Nat → Nat) (vgv : Nat) (vnb : Nat) (vgf : Nat → Int32) (vat : Int32) (r_vat : 0 ≤ (vat : Int32).toInt ∧ (vat : Int32).toInt ≤ 42) (p_vgf : sb_Fit vgf) (hn : (vnb = 16 ∨ vnb = 34 ∨ vnb = 70)) (hat : (vat : Int32).toInt + 7 ≤ (vnb : Int)) (hB : ∀ q : Nat, va_A [(vgv, .inl (cy 3, vnb, .inl vgf))] sz q → B q) : Met l yJ0_getBytes_840e7 (wl yJ0_getBytes_840e7 cJ0_getBytes_840e7 4 none) ({ frames := 1, cells := 0, slots := 0, locals := 64 }) (Pw (dC, dI) vwCl cy [(vgv, .inl (cy 3, vnb, .inl vgf))] sz [.ref (kS 2), .ref vgv, .int vat, .int 0] (EnvB B kS vS)) (Qv (dC, dI) vwCl (fun (u : (Nat → Int32)) => (sb_Fit u)) (O_b_getBytes_2 cy vgv vnb vgf vat) (va_A [(vgv, .inl (cy 3, vnb, .inl vgf))] sz)) 0 0 (va_A [(vgv, .inl (cy 3, vnb, .inl vgf))] sz) := by
  refine mw (Qc := Qv (dC, dI) vwCl (fun (u : (Nat → Int32)) => (sb_Fit u)) (O_b_getBytes_2 cy vgv vnb vgf vat)) RJ0 rfl (by decide +kernel) (Nat.le_of_ble_eq_true rfl) ?_
  intro p e s m below meth c A hx hb hr hlocks av9 hav hts hown hnm hml hK hP hD hA hS hE hAe Q9 hQ9 ls hl
  have hAB : ∀ q : Nat, A q → B q := by rw [hAe]; exact hB
  have hEA := hE.narrow hAB
  have hl : lv_has ls 4 [(0, .ref (kS 2)), (1, .ref vgv), (2, .int vat), (3, .int 0)] := hl
  refine lv_aload_n hx hb dJ0_getBytes_840e7_0 rfl (lv_at hl 0 rfl) ?_
  refine jn_i (wr := [(vgv, .inl (cy 3, vnb, .inl vgf))]) (rVs (As := []) (rest := []) ⟨hx, hb, hml, hown, hts⟩ (b_coder_2 l dC dI cy _ B kS vS   (fun q hq => hAB q (va_free hD hS hA [] rfl q hq))) (cw_J0_335 hts rfl rfl ⟨Nat.le_of_ble_eq_true rfl, Nat.le_of_ble_eq_true rfl⟩) hP hD hK [] rfl rfl (vk_recv (i := 2) hEA.2.2.2.2.1 (by decide) hS) EnvB.calling (EnvB.at hE hS hAB (fun _ h => h)) rfl hl.1 rfl (Nat.le_of_ble_eq_true rfl) dJ0_getBytes_840e7_1 ⟨Nat.le_of_ble_eq_true rfl, Nat.le_of_ble_eq_true rfl⟩) hP hD hS hA [] [0] rfl rfl rfl (by decide) (fun r_1 u_3 H locs hp_2 hP hD hS => ?_)
  have hp_2 : ((r_1 = 0)) := hp_2
  have q_4 := hp_2
  have hP : va_P (dC, dI) vwCl [(vgv, .inl (cy 3, vnb, .inl vgf))] H := hP
  have hD : va_D A [(vgv, .inl (cy 3, vnb, .inl vgf))] := hD
  refine as_i 0 q_4 ?_
  refine lv_iload_n hx hb dJ0_getBytes_840e7_4 rfl (lv_at hl 3 rfl) ?_
  refine lv_icmp_ne (tgt := 28) hx hb dJ0_getBytes_840e7_5 (by decide) (fun c9 => absurd c9 (by decide)) (fun _ => ?_)
  refine lv_aload_n hx hb dJ0_getBytes_840e7_8 rfl (lv_at hl 0 rfl) ?_
  refine vk_getf hx hb (hEA.2.2.2.2.1.1 2 (by decide)).2.2.1 hS hown (hts _ t2101) (fun _ h => h) dJ0_getBytes_840e7_9 ?_
  refine lv_iconst (v := 0) hx hb dJ0_getBytes_840e7_12 (by decide) ?_
  refine lv_aload_n hx hb dJ0_getBytes_840e7_13 rfl (lv_at hl 1 rfl) ?_
  refine lv_iload_n hx hb dJ0_getBytes_840e7_14 rfl (lv_at hl 2 rfl) ?_
  refine lv_iload_n hx hb dJ0_getBytes_840e7_15 rfl (lv_at hl 3 rfl) ?_
  refine lv_ishl hx hb dJ0_getBytes_840e7_16 ?_
  refine as_i vat (sb_shl0 _) ?_
  refine lv_aload_n hx hb dJ0_getBytes_840e7_17 rfl (lv_at hl 0 rfl) ?_
  refine vk_getf hx hb (hEA.2.2.2.2.1.1 2 (by decide)).2.2.1 hS hown (hts _ t2101) (fun _ h => h) dJ0_getBytes_840e7_18 ?_
  refine va_tlen (v := 7) hx hb (hEA.2.2.2.2.1.1 2 (by decide)).2.2.2 hS rfl dJ0_getBytes_840e7_21 ?_
  have k_7 : (7 : Int32).toInt = 7 := by decide
  have k_0 : (0 : Int32).toInt = 0 := by decide
  refine vk_copyt (f := fun j => (sbB.getD 2 []).getD j 0) hx hb (by rw [hml, hl.1]) hown (hts _ t1094) (hts _ t769) (hts _ t768) (hts _ t23) hK hP hD hS (hEA.2.2.2.2.1.1 2 (by decide)).2.2.2 0 3 rfl rfl (fun h9 => absurd (i_lt.mp h9) (by have := k_0; omega)) (fun h9 => absurd (i_lt.mp h9) (by have := k_0; omega)) (fun h9 => absurd (i_lt.mp h9) (by have := k_0; omega)) (by have h1 := (cl_nn (x := (0 : Int32)) (by omega)); have h2 := (cl_nn (x := (7 : Int32)) (by omega)); show _ ≤ 7; omega) (by have h1 := (cl_nn (x := vat) (by omega)); have h2 := (cl_nn (x := (7 : Int32)) (by omega)); omega) (fun i _ => sb_list 2 _) (Nat.le_of_ble_eq_true rfl) (Nat.le_of_ble_eq_true rfl) dJ0_getBytes_840e7_22 (fun H locs hP hD hS => ?_)
  obtain ⟨f_5, ef_5⟩ : ∃ z : Nat → Int32, z = va_cpy (fun j => (sbB.getD 2 []).getD j 0) vgf (Int32.toNatClampNeg 0) (Int32.toNatClampNeg vat) (Int32.toNatClampNeg 7) := ⟨_, rfl⟩
  have hP : va_P (dC, dI) vwCl [(vgv, .inl (cy 3, vnb, .inl f_5))] H := by rw [ef_5]; exact hP
  have hD : va_D A [(vgv, .inl (cy 3, vnb, .inl f_5))] := by rw [ef_5]; exact hD
  have p_f_5 : sb_Fit f_5 := by rw [ef_5]; exact sb_fitC (fun j => sb_list 2 j) p_vgf
  refine lv_goto (tgt := 43) hx hb dJ0_getBytes_840e7_25 (by decide) ?_
  rw [hQ9]
  exact re_v f_5 hx hb hr hlocks (show sb_Fit f_5 from p_f_5) (hP.sub [0] rfl) (hD.sub [0] rfl rfl) hS dJ0_getBytes_840e7_43
abbrev O_b_inflate_2 (cy : Nat → ClassId) (vg : Nat) (vgv : Nat) (vgm : Int32) (vgc : Int32) (vnb : Nat) (vgf : Nat → Int32) (u : Unit) : va_W := [(vg, .inr (0, [.ref vgv, .int 0, .int vgm, .int vgc])), (vgv, .inl (cy 3, vnb, .inl vgf))]
set_option maxHeartbeats 4000000 in
set_option maxRecDepth 100000 in
theorem b_inflate_2 (l : Launch) (dC : Nat → ClassId) (dI : Nat → Nat → Nat) (cy : Nat → ClassId) (sz : Nat) (B : Nat → Prop) (kS vS : Nat → Nat) (vg : Nat) (vgv : Nat) (vgm : Int32) (vgc : Int32) (vnb : Nat) (vgf : Nat → Int32) (p_vgf : sb_Fit vgf) (hB : ∀ q : Nat, va_A [(vg, .inr (0, [.ref vgv, .int 0, .int vgm, .int vgc])), (vgv, .inl (cy 3, vnb, .inl vgf))] sz q → B q) : Met l yJ5_inflateIfNeededFor_a7421 (wl yJ5_inflateIfNeededFor_a7421 cJ5_inflateIfNeededFor_a7421 2 none) ({ frames := 1, cells := 0, slots := 0, locals := 64 }) (Pw (dC, dI) vwCl cy [(vg, .inr (0, [.ref vgv, .int 0, .int vgm, .int vgc])), (vgv, .inl (cy 3, vnb, .inl vgf))] sz [.ref vg, .ref (kS 2)] (EnvB B kS vS)) (Qv (dC, dI) vwCl (fun (u : Unit) => True) (O_b_inflate_2 cy vg vgv vgm vgc vnb vgf) (va_A [(vg, .inr (0, [.ref vgv, .int 0, .int vgm, .int vgc])), (vgv, .inl (cy 3, vnb, .inl vgf))] sz)) 0 0 (va_A [(vg, .inr (0, [.ref vgv, .int 0, .int vgm, .int vgc])), (vgv, .inl (cy 3, vnb, .inl vgf))] sz) := by
  refine mw (Qc := Qv (dC, dI) vwCl (fun (u : Unit) => True) (O_b_inflate_2 cy vg vgv vgm vgc vnb vgf)) RJ5 rfl (by decide +kernel) (Nat.le_of_ble_eq_true rfl) ?_
  intro p e s m below meth c A hx hb hr hlocks av9 hav hts hown hnm hml hK hP hD hA hS hE hAe Q9 hQ9 ls hl
  have hAB : ∀ q : Nat, A q → B q := by rw [hAe]; exact hB
  have hEA := hE.narrow hAB
  have hl : lv_has ls 2 [(0, .ref vg), (1, .ref (kS 2))] := hl
  refine va_gets hx hb hEA.2.2.2.2.2.1 hS hown (hts _ t339) (fun _ h => h) dJ5_inflateIfNeededFor_a7421_0 ?_
  refine lv_if_eq (tgt := 21) hx hb dJ5_inflateIfNeededFor_a7421_3 (by decide) (fun c9 => absurd c9 (by decide)) (fun _ => ?_)
  refine lv_aload_n hx hb dJ5_inflateIfNeededFor_a7421_6 rfl (lv_at hl 0 rfl) ?_
  refine gf_J5_22 hx hb hts hown hK hP 0 rfl rfl dJ5_inflateIfNeededFor_a7421_7 ?_
  refine lv_aload_n hx hb dJ5_inflateIfNeededFor_a7421_10 rfl (lv_at hl 1 rfl) ?_
  refine jn_i (wr := [(vg, .inr (0, [.ref vgv, .int 0, .int vgm, .int vgc])), (vgv, .inl (cy 3, vnb, .inl vgf))]) (rVs (As := []) (rest := [.int 0]) ⟨hx, hb, hml, hown, hts⟩ (b_coder_2 l dC dI cy _ B kS vS   (fun q hq => hAB q (va_free hD hS hA [] rfl q hq))) (cw_J5_40 hts rfl rfl ⟨Nat.le_of_ble_eq_true rfl, Nat.le_of_ble_eq_true rfl⟩) hP hD hK [] rfl rfl (vk_recv (i := 2) hEA.2.2.2.2.1 (by decide) hS) EnvB.calling (EnvB.at hE hS hAB (fun _ h => h)) rfl hl.1 rfl (Nat.le_of_ble_eq_true rfl) dJ5_inflateIfNeededFor_a7421_11 ⟨Nat.le_of_ble_eq_true rfl, Nat.le_of_ble_eq_true rfl⟩) hP hD hS hA [] [0, 1] rfl rfl rfl (by decide) (fun r_1 u_3 H locs hp_2 hP hD hS => ?_)
  have hp_2 : ((r_1 = 0)) := hp_2
  have q_4 := hp_2
  have hP : va_P (dC, dI) vwCl [(vg, .inr (0, [.ref vgv, .int 0, .int vgm, .int vgc])), (vgv, .inl (cy 3, vnb, .inl vgf))] H := hP
  have hD : va_D A [(vg, .inr (0, [.ref vgv, .int 0, .int vgm, .int vgc])), (vgv, .inl (cy 3, vnb, .inl vgf))] := hD
  refine as_i 0 q_4 ?_
  refine lv_icmp_eq (tgt := 21) hx hb dJ5_inflateIfNeededFor_a7421_14 (by decide) (fun _ => ?_) (fun c9 => absurd (by decide) c9)
  rw [hQ9]
  exact re_v () hx hb hr hlocks trivial (hP.sub [0, 1] rfl) (hD.sub [0, 1] rfl rfl) hS dJ5_inflateIfNeededFor_a7421_21
abbrev O_b_putString_2 (cy : Nat → ClassId) (vg : Nat) (vgv : Nat) (vgm : Int32) (vgc : Int32) (vnb : Nat) (vgf : Nat → Int32) (vat : Int32) (u : (Nat → Int32)) : va_W := [(vg, .inr (0, [.ref vgv, .int 0, .int vgm, .int vgc])), (vgv, .inl (cy 3, vnb, .inl u))]
set_option maxHeartbeats 4000000 in
set_option maxRecDepth 100000 in
theorem b_putString_2 (l : Launch) (dC : Nat → ClassId) (dI : Nat → Nat → Nat) (cy : Nat → ClassId) (sz : Nat) (B : Nat → Prop) (kS vS : Nat → Nat) (vg : Nat) (vgv : Nat) (vgm : Int32) (vgc : Int32) (vnb : Nat) (vgf : Nat → Int32) (vat : Int32) (r_vat : 0 ≤ (vat : Int32).toInt ∧ (vat : Int32).toInt ≤ 42) (p_vgf : sb_Fit vgf) (hn : (vnb = 16 ∨ vnb = 34 ∨ vnb = 70)) (hat : (vat : Int32).toInt + 7 ≤ (vnb : Int)) (hB : ∀ q : Nat, va_A [(vg, .inr (0, [.ref vgv, .int 0, .int vgm, .int vgc])), (vgv, .inl (cy 3, vnb, .inl vgf))] sz q → B q) : Met l yJ5_putStringAt_47b60 (wl yJ5_putStringAt_47b60 cJ5_putStringAt_47b60 3 none) ({ frames := 2, cells := 0, slots := 0, locals := 128 }) (Pw (dC, dI) vwCl cy [(vg, .inr (0, [.ref vgv, .int 0, .int vgm, .int vgc])), (vgv, .inl (cy 3, vnb, .inl vgf))] sz [.ref vg, .int vat, .ref (kS 2)] (EnvB B kS vS)) (Qv (dC, dI) vwCl (fun (u : (Nat → Int32)) => (sb_Fit u)) (O_b_putString_2 cy vg vgv vgm vgc vnb vgf vat) (va_A [(vg, .inr (0, [.ref vgv, .int 0, .int vgm, .int vgc])), (vgv, .inl (cy 3, vnb, .inl vgf))] sz)) 0 0 (va_A [(vg, .inr (0, [.ref vgv, .int 0, .int vgm, .int vgc])), (vgv, .inl (cy 3, vnb, .inl vgf))] sz) := by
  refine mw (Qc := Qv (dC, dI) vwCl (fun (u : (Nat → Int32)) => (sb_Fit u)) (O_b_putString_2 cy vg vgv vgm vgc vnb vgf vat)) RJ5 rfl (by decide +kernel) (Nat.le_of_ble_eq_true rfl) ?_
  intro p e s m below meth c A hx hb hr hlocks av9 hav hts hown hnm hml hK hP hD hA hS hE hAe Q9 hQ9 ls hl
  have hAB : ∀ q : Nat, A q → B q := by rw [hAe]; exact hB
  have hEA := hE.narrow hAB
  have hl : lv_has ls 3 [(0, .ref vg), (1, .int vat), (2, .ref (kS 2))] := hl
  refine lv_aload_n hx hb dJ5_putStringAt_47b60_0 rfl (lv_at hl 0 rfl) ?_
  refine lv_aload_n hx hb dJ5_putStringAt_47b60_1 rfl (lv_at hl 2 rfl) ?_
  refine jn_v (wr := []) (rVU (As := [.ref (kS 2)]) (rest := []) (ci := 0) ⟨hx, hb, hml, hown, hts⟩ (b_inflate_2 l dC dI cy _ B kS vS vg vgv vgm vgc vnb vgf p_vgf (fun q hq => hAB q (va_free hD hS hA [0, 1] rfl q hq))) (cu_J5_397 hts (va_tabs rfl rfl hEA.2.2.2.2.2.2.2.2.2.2.2.2.2.2) rfl rfl ⟨Nat.le_of_ble_eq_true rfl, Nat.le_of_ble_eq_true rfl⟩) hP hD hK [0, 1] rfl rfl rfl rfl EnvB.calling (EnvB.at hE hS hAB (fun _ h => h)) rfl hl.1 rfl (Nat.le_of_ble_eq_true rfl) dJ5_putStringAt_47b60_2 ⟨Nat.le_of_ble_eq_true rfl, Nat.le_of_ble_eq_true rfl⟩) hP hD hS hA [0, 1] [] rfl rfl rfl (by decide) (fun u_3 H locs hp_2 hP hD hS => ?_)
  have hP : va_P (dC, dI) vwCl [(vg, .inr (0, [.ref vgv, .int 0, .int vgm, .int vgc])), (vgv, .inl (cy 3, vnb, .inl vgf))] H := hP
  have hD : va_D A [(vg, .inr (0, [.ref vgv, .int 0, .int vgm, .int vgc])), (vgv, .inl (cy 3, vnb, .inl vgf))] := hD
  refine lv_aload_n hx hb dJ5_putStringAt_47b60_5 rfl (lv_at hl 2 rfl) ?_
  refine lv_aload_n hx hb dJ5_putStringAt_47b60_6 rfl (lv_at hl 0 rfl) ?_
  refine gf_J5_15 hx hb hts hown hK hP 0 rfl rfl dJ5_putStringAt_47b60_7 ?_
  refine lv_iload_n hx hb dJ5_putStringAt_47b60_10 rfl (lv_at hl 1 rfl) ?_
  refine lv_aload_n hx hb dJ5_putStringAt_47b60_11 rfl (lv_at hl 0 rfl) ?_
  refine gf_J5_22 hx hb hts hown hK hP 0 rfl rfl dJ5_putStringAt_47b60_12 ?_
  refine jn_v (wr := [(vg, .inr (0, [.ref vgv, .int 0, .int vgm, .int vgc]))]) (rVs (As := [.ref vgv, .int vat, .int 0]) (rest := []) ⟨hx, hb, hml, hown, hts⟩ (b_getBytes_2 l dC dI cy _ B kS vS vgv vnb vgf vat r_vat p_vgf hn hat (fun q hq => hAB q (va_free hD hS hA [1] rfl q hq))) (cw_J5_399 hts rfl rfl ⟨Nat.le_of_ble_eq_true rfl, Nat.le_of_ble_eq_true rfl⟩) hP hD hK [1] rfl rfl (vk_recv (i := 2) hEA.2.2.2.2.1 (by decide) hS) EnvB.calling (EnvB.at hE hS hAB (fun _ h => h)) rfl hl.1 rfl (Nat.le_of_ble_eq_true rfl) dJ5_putStringAt_47b60_15 ⟨Nat.le_of_ble_eq_true rfl, Nat.le_of_ble_eq_true rfl⟩) hP hD hS hA [1] [0] rfl rfl rfl (by decide) (fun u_6 H locs hp_5 hP hD hS => ?_)
  obtain ⟨vgf_7, rfl⟩ : ∃ z, z = u_6 := ⟨_, rfl⟩
  have hp_5 : (sb_Fit vgf_7) := hp_5
  have q_8 := hp_5
  have hP : va_P (dC, dI) vwCl [(vg, .inr (0, [.ref vgv, .int 0, .int vgm, .int vgc])), (vgv, .inl (cy 3, vnb, .inl vgf_7))] H := hP
  have hD : va_D A [(vg, .inr (0, [.ref vgv, .int 0, .int vgm, .int vgc])), (vgv, .inl (cy 3, vnb, .inl vgf_7))] := hD
  rw [hQ9]
  exact re_v vgf_7 hx hb hr hlocks (show sb_Fit vgf_7 from q_8) (hP.sub [0, 1] rfl) (hD.sub [0, 1] rfl rfl) hS dJ5_putStringAt_47b60_18
abbrev O_b_appS_2 (cy : Nat → ClassId) (vg : Nat) (vgv : Nat) (vgm : Int32) (vgc : Int32) (vnb : Nat) (vgf : Nat → Int32) (u : Nat × Nat × (Nat → Int32) × Int32) : va_W := [(vg, .inr (0, [.ref u.1, .int 0, .int vgm, .int u.2.2.2])), (u.1, .inl (cy 3, u.2.1, .inl u.2.2.1))]
set_option maxHeartbeats 4000000 in
set_option maxRecDepth 100000 in
theorem b_appS_2 (l : Launch) (dC : Nat → ClassId) (dI : Nat → Nat → Nat) (cy : Nat → ClassId) (sz : Nat) (B : Nat → Prop) (kS vS : Nat → Nat) (vg : Nat) (vgv : Nat) (vgm : Int32) (vgc : Int32) (vnb : Nat) (vgf : Nat → Int32) (r_vgc : 0 ≤ (vgc : Int32).toInt ∧ (vgc : Int32).toInt ≤ 35) (p_vgf : sb_Fit vgf) (hn : (vnb = 16 ∨ vnb = 34 ∨ vnb = 70)) (hgc : (vgc : Int32).toInt ≤ (vnb : Int)) (hB : ∀ q : Nat, va_A [(vg, .inr (0, [.ref vgv, .int 0, .int vgm, .int vgc])), (vgv, .inl (cy 3, vnb, .inl vgf))] sz q → B q) : Met l yJ5_append_cf1ce (wl yJ5_append_cf1ce cJ5_append_cf1ce 3 (some (.object "java/lang/AbstractStringBuilder"))) ({ frames := 4, cells := 1, slots := 70, locals := 256 }) (Pw (dC, dI) vwCl cy [(vg, .inr (0, [.ref vgv, .int 0, .int vgm, .int vgc])), (vgv, .inl (cy 3, vnb, .inl vgf))] sz [.ref vg, .ref (kS 2)] (EnvB B kS vS)) (Qr (dC, dI) vwCl (fun (u : Nat × Nat × (Nat → Int32) × Int32) => (sb_Fit u.2.2.1) ∧ (0 ≤ (u.2.2.2 : Int32).toInt ∧ (u.2.2.2 : Int32).toInt ≤ 42) ∧ ((u.2.1 = 16 ∨ u.2.1 = 34 ∨ u.2.1 = 70)) ∧ ((u.2.2.2 : Int32).toInt ≤ (u.2.1 : Int)) ∧ ((u.2.2.2 : Int32).toInt = (vgc : Int32).toInt + 7)) (O_b_appS_2 cy vg vgv vgm vgc vnb vgf) (fun (u : Nat × Nat × (Nat → Int32) × Int32) => vg) (va_A [(vg, .inr (0, [.ref vgv, .int 0, .int vgm, .int vgc])), (vgv, .inl (cy 3, vnb, .inl vgf))] sz)) 1 70 (va_A [(vg, .inr (0, [.ref vgv, .int 0, .int vgm, .int vgc])), (vgv, .inl (cy 3, vnb, .inl vgf))] sz) := by
  refine mw (Qc := Qr (dC, dI) vwCl (fun (u : Nat × Nat × (Nat → Int32) × Int32) => (sb_Fit u.2.2.1) ∧ (0 ≤ (u.2.2.2 : Int32).toInt ∧ (u.2.2.2 : Int32).toInt ≤ 42) ∧ ((u.2.1 = 16 ∨ u.2.1 = 34 ∨ u.2.1 = 70)) ∧ ((u.2.2.2 : Int32).toInt ≤ (u.2.1 : Int)) ∧ ((u.2.2.2 : Int32).toInt = (vgc : Int32).toInt + 7)) (O_b_appS_2 cy vg vgv vgm vgc vnb vgf) (fun (u : Nat × Nat × (Nat → Int32) × Int32) => vg)) RJ5 rfl (by decide +kernel) (Nat.le_of_ble_eq_true rfl) ?_
  intro p e s m below meth c A hx hb hr hlocks av9 hav hts hown hnm hml hK hP hD hA hS hE hAe Q9 hQ9 ls hl
  have hAB : ∀ q : Nat, A q → B q := by rw [hAe]; exact hB
  have hEA := hE.narrow hAB
  have hl : lv_has ls 3 [(0, .ref vg), (1, .ref (kS 2))] := hl
  refine lv_aload_n hx hb dJ5_append_cf1ce_0 rfl (lv_at hl 1 rfl) ?_
  refine lv_ifnonnull (tgt := 9) hx hb dJ5_append_cf1ce_1 (by decide) ?_
  refine lv_aload_n hx hb dJ5_append_cf1ce_9 rfl (lv_at hl 1 rfl) ?_
  refine jn_i (wr := [(vg, .inr (0, [.ref vgv, .int 0, .int vgm, .int vgc])), (vgv, .inl (cy 3, vnb, .inl vgf))]) (rVs (As := []) (rest := []) ⟨hx, hb, hml, hown, hts⟩ (b_slen_2 l dC dI cy _ B kS vS   (fun q hq => hAB q (va_free hD hS hA [] rfl q hq))) (cw_J5_32 hts rfl rfl ⟨Nat.le_of_ble_eq_true rfl, Nat.le_of_ble_eq_true rfl⟩) hP hD hK [] rfl rfl (vk_recv (i := 2) hEA.2.2.2.2.1 (by decide) hS) EnvB.calling (EnvB.at hE hS hAB (fun _ h => h)) rfl hl.1 rfl (Nat.le_of_ble_eq_true rfl) dJ5_append_cf1ce_10 ⟨Nat.le_of_ble_eq_true rfl, Nat.le_of_ble_eq_true rfl⟩) hP hD hS hA [] [0, 1] rfl rfl rfl (by decide) (fun r_1 u_3 H locs hp_2 hP hD hS => ?_)
  have hp_2 : ((r_1 = 7)) := hp_2
  have q_4 := hp_2
  have hP : va_P (dC, dI) vwCl [(vg, .inr (0, [.ref vgv, .int 0, .int vgm, .int vgc])), (vgv, .inl (cy 3, vnb, .inl vgf))] H := hP
  have hD : va_D A [(vg, .inr (0, [.ref vgv, .int 0, .int vgm, .int vgc])), (vgv, .inl (cy 3, vnb, .inl vgf))] := hD
  refine as_i 7 q_4 ?_
  refine lv_istore_n (lv' := [(2, .int 7), (0, .ref vg), (1, .ref (kS 2))]) hx hb dJ5_append_cf1ce_13 rfl hl (by decide) rfl (fun ls hl => ?_)
  refine lv_aload_n hx hb dJ5_append_cf1ce_14 rfl (lv_at hl 1 rfl) ?_
  refine lv_aload_n hx hb dJ5_append_cf1ce_15 rfl (lv_at hl 1 rfl) ?_
  refine gf_J5_79 hx hb hts hown hK hP 0 rfl rfl dJ5_append_cf1ce_16 ?_
  refine lv_iload_n hx hb dJ5_append_cf1ce_19 rfl (lv_at hl 0 rfl) ?_
  refine lv_iadd hx hb dJ5_append_cf1ce_20 ?_
  refine lv_topi (fun z_5 ez_5 => ?_)
  have k_7 : (7 : Int32).toInt = 7 := by decide
  have bz_5 : z_5.toInt = vgc.toInt + (7 : Int32).toInt := i_add ez_5 (by omega) (by omega)
  refine jn_v (wr := []) (rVU (As := [.int z_5]) (rest := []) (ci := 0) ⟨hx, hb, hml, hown, hts⟩ (b_ensure l dC dI cy _ B kS vS vg vgv vgm vgc vnb vgf z_5 ⟨by omega, by omega⟩ p_vgf hn (by omega) (fun q hq => hAB q (va_free hD hS hA [0, 1] rfl q hq))) (cu_J5_100 hts (va_tabs rfl rfl hEA.2.2.2.2.2.2.2.2.2.2.2.1) rfl rfl ⟨Nat.le_of_ble_eq_true rfl, Nat.le_of_ble_eq_true rfl⟩) hP hD hK [0, 1] rfl rfl rfl rfl EnvB.calling (EnvB.at hE hS hAB (fun _ h => h)) rfl hl.1 rfl (Nat.le_of_ble_eq_true rfl) dJ5_append_cf1ce_21 ⟨Nat.le_of_ble_eq_true rfl, Nat.le_of_ble_eq_true rfl⟩) hP hD hS hA [0, 1] [] rfl rfl rfl (by decide) (fun u_8 H locs hp_7 hP hD hS => ?_)
  obtain ⟨vgv_9, vnb_10, vgf_11⟩ := u_8
  have hp_7 : (sb_Fit vgf_11) ∧ ((vnb_10 = 16 ∨ vnb_10 = 34 ∨ vnb_10 = 70)) ∧ ((z_5 : Int32).toInt ≤ (vnb_10 : Int)) := hp_7
  obtain ⟨q_12, q_13, q_14⟩ := hp_7
  have hP : va_P (dC, dI) vwCl [(vg, .inr (0, [.ref vgv_9, .int 0, .int vgm, .int vgc])), (vgv_9, .inl (cy 3, vnb_10, .inl vgf_11))] H := hP
  have hD : va_D A [(vg, .inr (0, [.ref vgv_9, .int 0, .int vgm, .int vgc])), (vgv_9, .inl (cy 3, vnb_10, .inl vgf_11))] := hD
  refine W.widen (k := 1) (n := 70) (by decide) (by decide) ?_
  refine lv_aload_n hx hb dJ5_append_cf1ce_24 rfl (lv_at hl 1 rfl) ?_
  refine lv_aload_n hx hb dJ5_append_cf1ce_25 rfl (lv_at hl 1 rfl) ?_
  refine gf_J5_79 hx hb hts hown hK hP 0 rfl rfl dJ5_append_cf1ce_26 ?_
  refine lv_aload_n hx hb dJ5_append_cf1ce_29 rfl (lv_at hl 2 rfl) ?_
  refine jn_v (wr := []) (rVU (As := [.int vgc, .ref (kS 2)]) (rest := []) (ci := 0) ⟨hx, hb, hml, hown, hts⟩ (b_putString_2 l dC dI cy _ B kS vS vg vgv_9 vgm vgc vnb_10 vgf_11 vgc ⟨by omega, by omega⟩ q_12 q_13 (by omega) (fun q hq => hAB q (va_free hD hS hA [0, 1] rfl q hq))) (cu_J5_208 hts (va_tabs rfl rfl hEA.2.2.2.2.2.2.2.2.2.2.2.2.2.1) rfl rfl ⟨Nat.le_of_ble_eq_true rfl, Nat.le_of_ble_eq_true rfl⟩) hP hD hK [0, 1] rfl rfl rfl rfl EnvB.calling (EnvB.at hE hS hAB (fun _ h => h)) rfl hl.1 rfl (Nat.le_of_ble_eq_true rfl) dJ5_append_cf1ce_30 ⟨Nat.le_of_ble_eq_true rfl, Nat.le_of_ble_eq_true rfl⟩) hP hD hS hA [0, 1] [] rfl rfl rfl (by decide) (fun u_17 H locs hp_16 hP hD hS => ?_)
  obtain ⟨vgf_18, rfl⟩ : ∃ z, z = u_17 := ⟨_, rfl⟩
  have hp_16 : (sb_Fit vgf_18) := hp_16
  have q_19 := hp_16
  have hP : va_P (dC, dI) vwCl [(vg, .inr (0, [.ref vgv_9, .int 0, .int vgm, .int vgc])), (vgv_9, .inl (cy 3, vnb_10, .inl vgf_18))] H := hP
  have hD : va_D A [(vg, .inr (0, [.ref vgv_9, .int 0, .int vgm, .int vgc])), (vgv_9, .inl (cy 3, vnb_10, .inl vgf_18))] := hD
  refine lv_aload_n hx hb dJ5_append_cf1ce_33 rfl (lv_at hl 1 rfl) ?_
  refine lv_dup hx hb dJ5_append_cf1ce_34 rfl ?_
  refine gf_J5_79 hx hb hts hown hK hP 0 rfl rfl dJ5_append_cf1ce_35 ?_
  refine lv_iload_n hx hb dJ5_append_cf1ce_38 rfl (lv_at hl 0 rfl) ?_
  refine lv_iadd hx hb dJ5_append_cf1ce_39 ?_
  refine lv_topi (fun z_20 ez_20 => ?_)
  have bz_20 : z_20.toInt = vgc.toInt + (7 : Int32).toInt := i_add ez_20 (by omega) (by omega)
  refine pf_J5_79 hx hb hts hown hK hP hD hS 0 rfl rfl rfl (Nat.le_of_ble_eq_true rfl) dJ5_append_cf1ce_40 (fun H locs hP hD hS => ?_)
  have hP : va_P (dC, dI) vwCl [(vg, .inr (0, [.ref vgv_9, .int 0, .int vgm, .int z_20])), (vgv_9, .inl (cy 3, vnb_10, .inl vgf_18))] H := hP
  have hD : va_D A [(vg, .inr (0, [.ref vgv_9, .int 0, .int vgm, .int z_20])), (vgv_9, .inl (cy 3, vnb_10, .inl vgf_18))] := hD
  refine lv_aload_n hx hb dJ5_append_cf1ce_43 rfl (lv_at hl 1 rfl) ?_
  refine W.widen (k := 1) (n := 70) (by decide) (by decide) ?_
  rw [hQ9]
  exact re_r (vgv_9, vnb_10, vgf_18, z_20) hx hb hr (Or.inl ⟨_, rfl⟩) hlocks ⟨(show sb_Fit vgf_18 from q_19), (show 0 ≤ (z_20 : Int32).toInt ∧ (z_20 : Int32).toInt ≤ 42 from ⟨by omega, by omega⟩), (show (vnb_10 = 16 ∨ vnb_10 = 34 ∨ vnb_10 = 70) from q_13), (show (z_20 : Int32).toInt ≤ (vnb_10 : Int) from (by omega)), (show (z_20 : Int32).toInt = (vgc : Int32).toInt + 7 from (by omega))⟩ (hP.sub [0, 1] rfl) (hD.sub [0, 1] rfl rfl) hS dJ5_append_cf1ce_44
abbrev O_b_sbappS_2 (cy : Nat → ClassId) (vg : Nat) (vgv : Nat) (vgm : Int32) (vgc : Int32) (vnb : Nat) (vgf : Nat → Int32) (u : Nat × Nat × (Nat → Int32) × Int32) : va_W := [(vg, .inr (0, [.ref u.1, .int 0, .int vgm, .int u.2.2.2])), (u.1, .inl (cy 3, u.2.1, .inl u.2.2.1))]
set_option maxHeartbeats 4000000 in
set_option maxRecDepth 100000 in
theorem b_sbappS_2 (l : Launch) (dC : Nat → ClassId) (dI : Nat → Nat → Nat) (cy : Nat → ClassId) (sz : Nat) (B : Nat → Prop) (kS vS : Nat → Nat) (vg : Nat) (vgv : Nat) (vgm : Int32) (vgc : Int32) (vnb : Nat) (vgf : Nat → Int32) (r_vgc : 0 ≤ (vgc : Int32).toInt ∧ (vgc : Int32).toInt ≤ 35) (p_vgf : sb_Fit vgf) (hn : (vnb = 16 ∨ vnb = 34 ∨ vnb = 70)) (hgc : (vgc : Int32).toInt ≤ (vnb : Int)) (hB : ∀ q : Nat, va_A [(vg, .inr (0, [.ref vgv, .int 0, .int vgm, .int vgc])), (vgv, .inl (cy 3, vnb, .inl vgf))] sz q → B q) : Met l yJ4_append_15ec4 (wl yJ4_append_15ec4 cJ4_append_15ec4 2 (some (.object "java/lang/StringBuilder"))) ({ frames := 5, cells := 1, slots := 70, locals := 320 }) (Pw (dC, dI) vwCl cy [(vg, .inr (0, [.ref vgv, .int 0, .int vgm, .int vgc])), (vgv, .inl (cy 3, vnb, .inl vgf))] sz [.ref vg, .ref (kS 2)] (EnvB B kS vS)) (Qr (dC, dI) vwCl (fun (u : Nat × Nat × (Nat → Int32) × Int32) => (sb_Fit u.2.2.1) ∧ (0 ≤ (u.2.2.2 : Int32).toInt ∧ (u.2.2.2 : Int32).toInt ≤ 42) ∧ ((u.2.1 = 16 ∨ u.2.1 = 34 ∨ u.2.1 = 70)) ∧ ((u.2.2.2 : Int32).toInt ≤ (u.2.1 : Int)) ∧ ((u.2.2.2 : Int32).toInt = (vgc : Int32).toInt + 7)) (O_b_sbappS_2 cy vg vgv vgm vgc vnb vgf) (fun (u : Nat × Nat × (Nat → Int32) × Int32) => vg) (va_A [(vg, .inr (0, [.ref vgv, .int 0, .int vgm, .int vgc])), (vgv, .inl (cy 3, vnb, .inl vgf))] sz)) 1 70 (va_A [(vg, .inr (0, [.ref vgv, .int 0, .int vgm, .int vgc])), (vgv, .inl (cy 3, vnb, .inl vgf))] sz) := by
  refine mw (Qc := Qr (dC, dI) vwCl (fun (u : Nat × Nat × (Nat → Int32) × Int32) => (sb_Fit u.2.2.1) ∧ (0 ≤ (u.2.2.2 : Int32).toInt ∧ (u.2.2.2 : Int32).toInt ≤ 42) ∧ ((u.2.1 = 16 ∨ u.2.1 = 34 ∨ u.2.1 = 70)) ∧ ((u.2.2.2 : Int32).toInt ≤ (u.2.1 : Int)) ∧ ((u.2.2.2 : Int32).toInt = (vgc : Int32).toInt + 7)) (O_b_sbappS_2 cy vg vgv vgm vgc vnb vgf) (fun (u : Nat × Nat × (Nat → Int32) × Int32) => vg)) RJ4 rfl (by decide +kernel) (Nat.le_of_ble_eq_true rfl) ?_
  intro p e s m below meth c A hx hb hr hlocks av9 hav hts hown hnm hml hK hP hD hA hS hE hAe Q9 hQ9 ls hl
  have hAB : ∀ q : Nat, A q → B q := by rw [hAe]; exact hB
  have hEA := hE.narrow hAB
  have hl : lv_has ls 2 [(0, .ref vg), (1, .ref (kS 2))] := hl
  refine lv_aload_n hx hb dJ4_append_15ec4_0 rfl (lv_at hl 0 rfl) ?_
  refine lv_aload_n hx hb dJ4_append_15ec4_1 rfl (lv_at hl 1 rfl) ?_
  refine jn_r (wr := []) (rU (As := [.ref (kS 2)]) (rest := []) (ci := 0) ⟨hx, hb, hml, hown, hts⟩ (b_appS_2 l dC dI cy _ B kS vS vg vgv vgm vgc vnb vgf r_vgc p_vgf hn hgc (fun q hq => hAB q (va_free hD hS hA [0, 1] rfl q hq))) (cw_J4_29 hts rfl rfl ⟨Nat.le_of_ble_eq_true rfl, Nat.le_of_ble_eq_true rfl⟩) hP hD hK [0, 1] rfl rfl rfl rfl EnvB.calling (EnvB.at hE hS hAB (fun _ h => h)) rfl hl.1 rfl (Nat.le_of_ble_eq_true rfl) dJ4_append_15ec4_2 ⟨Nat.le_of_ble_eq_true rfl, Nat.le_of_ble_eq_true rfl⟩) hP hD hS hA [0, 1] [] rfl rfl rfl (by decide) (fun u_3 H locs hp_2 hP hD hS => ?_)
  obtain ⟨vgv_4, vnb_5, vgf_6, vgc_7⟩ := u_3
  have hp_2 : (sb_Fit vgf_6) ∧ (0 ≤ (vgc_7 : Int32).toInt ∧ (vgc_7 : Int32).toInt ≤ 42) ∧ ((vnb_5 = 16 ∨ vnb_5 = 34 ∨ vnb_5 = 70)) ∧ ((vgc_7 : Int32).toInt ≤ (vnb_5 : Int)) ∧ ((vgc_7 : Int32).toInt = (vgc : Int32).toInt + 7) := hp_2
  obtain ⟨q_8, q_9, q_10, q_11, q_12⟩ := hp_2
  have hP : va_P (dC, dI) vwCl [(vg, .inr (0, [.ref vgv_4, .int 0, .int vgm, .int vgc_7])), (vgv_4, .inl (cy 3, vnb_5, .inl vgf_6))] H := hP
  have hD : va_D A [(vg, .inr (0, [.ref vgv_4, .int 0, .int vgm, .int vgc_7])), (vgv_4, .inl (cy 3, vnb_5, .inl vgf_6))] := hD
  refine W.widen (k := 1) (n := 70) (by decide) (by decide) ?_
  refine W.eq (g2 := F0 m 5 ls [.ref vg]) rfl ?_
  refine lv_pop hx hb dJ4_append_15ec4_5 rfl ?_
  refine lv_aload_n hx hb dJ4_append_15ec4_6 rfl (lv_at hl 0 rfl) ?_
  refine W.widen (k := 1) (n := 70) (by decide) (by decide) ?_
  rw [hQ9]
  exact re_r (vgv_4, vnb_5, vgf_6, vgc_7) hx hb hr (Or.inl ⟨_, rfl⟩) hlocks ⟨(show sb_Fit vgf_6 from q_8), (show 0 ≤ (vgc_7 : Int32).toInt ∧ (vgc_7 : Int32).toInt ≤ 42 from ⟨by omega, by omega⟩), (show (vnb_5 = 16 ∨ vnb_5 = 34 ∨ vnb_5 = 70) from q_10), (show (vgc_7 : Int32).toInt ≤ (vnb_5 : Int) from q_11), (show (vgc_7 : Int32).toInt = (vgc : Int32).toInt + 7 from q_12)⟩ (hP.sub [0, 1] rfl) (hD.sub [0, 1] rfl rfl) hS dJ4_append_15ec4_7
set_option maxHeartbeats 4000000 in
set_option maxRecDepth 100000 in
theorem b_coder_3 (l : Launch) (dC : Nat → ClassId) (dI : Nat → Nat → Nat) (cy : Nat → ClassId) (sz : Nat) (B : Nat → Prop) (kS vS : Nat → Nat)   (hB : ∀ q : Nat, va_A [] sz q → B q) : Met l yJ0_coder_7d493 (wl yJ0_coder_7d493 cJ0_coder_7d493 1 (some .byte)) ({ frames := 0, cells := 0, slots := 0, locals := 0 }) (Pw (dC, dI) vwCl cy [] sz [.ref (kS 3)] (EnvB B kS vS)) (Qi (dC, dI) vwCl (fun (r : Int32) (u : Unit) => ((r = 0))) (fun (u : Unit) => []) (va_A [] sz)) 0 0 (va_A [] sz) := by
  refine mw (Qc := Qi (dC, dI) vwCl (fun (r : Int32) (u : Unit) => ((r = 0))) (fun (u : Unit) => [])) RJ0 rfl (by decide +kernel) (Nat.le_of_ble_eq_true rfl) ?_
  intro p e s m below meth c A hx hb hr hlocks av9 hav hts hown hnm hml hK hP hD hA hS hE hAe Q9 hQ9 ls hl
  have hAB : ∀ q : Nat, A q → B q := by rw [hAe]; exact hB
  have hEA := hE.narrow hAB
  have hl : lv_has ls 1 [(0, .ref (kS 3))] := hl
  refine va_gets hx hb hEA.2.2.2.2.2.1 hS hown (hts _ t52) (fun _ h => h) dJ0_coder_7d493_0 ?_
  refine lv_if_eq (tgt := 13) hx hb dJ0_coder_7d493_3 (by decide) (fun c9 => absurd c9 (by decide)) (fun _ => ?_)
  refine lv_aload_n hx hb dJ0_coder_7d493_6 rfl (lv_at hl 0 rfl) ?_
  refine vk_getf hx hb (hEA.2.2.2.2.1.1 3 (by decide)).2.1 hS hown (hts _ t2102) (fun _ h => h) dJ0_coder_7d493_7 ?_
  refine lv_goto (tgt := 14) hx hb dJ0_coder_7d493_10 (by decide) ?_
  have k_0 : (0 : Int32).toInt = 0 := by decide
  rw [hQ9]
  exact re_c () hx hb hr hlocks rfl (show ((0 : Int32) = 0) from (rfl)) (hP.sub [] rfl) (hD.sub [] rfl rfl) hS dJ0_coder_7d493_14
set_option maxHeartbeats 4000000 in
set_option maxRecDepth 100000 in
theorem b_slen_3 (l : Launch) (dC : Nat → ClassId) (dI : Nat → Nat → Nat) (cy : Nat → ClassId) (sz : Nat) (B : Nat → Prop) (kS vS : Nat → Nat)   (hB : ∀ q : Nat, va_A [] sz q → B q) : Met l yJ0_length_8abf5 (wl yJ0_length_8abf5 cJ0_length_8abf5 1 (some .int)) ({ frames := 1, cells := 0, slots := 0, locals := 64 }) (Pw (dC, dI) vwCl cy [] sz [.ref (kS 3)] (EnvB B kS vS)) (Qi (dC, dI) vwCl (fun (r : Int32) (u : Unit) => ((r = 6))) (fun (u : Unit) => []) (va_A [] sz)) 0 0 (va_A [] sz) := by
  refine mw (Qc := Qi (dC, dI) vwCl (fun (r : Int32) (u : Unit) => ((r = 6))) (fun (u : Unit) => [])) RJ0 rfl (by decide +kernel) (Nat.le_of_ble_eq_true rfl) ?_
  intro p e s m below meth c A hx hb hr hlocks av9 hav hts hown hnm hml hK hP hD hA hS hE hAe Q9 hQ9 ls hl
  have hAB : ∀ q : Nat, A q → B q := by rw [hAe]; exact hB
  have hEA := hE.narrow hAB
  have hl : lv_has ls 1 [(0, .ref (kS 3))] := hl
  refine lv_aload_n hx hb dJ0_length_8abf5_0 rfl (lv_at hl 0 rfl) ?_
  refine vk_getf hx hb (hEA.2.2.2.2.1.1 3 (by decide)).2.2.1 hS hown (hts _ t2101) (fun _ h => h) dJ0_length_8abf5_1 ?_
  refine va_tlen (v := 6) hx hb (hEA.2.2.2.2.1.1 3 (by decide)).2.2.2 hS rfl dJ0_length_8abf5_4 ?_
  refine lv_aload_n hx hb dJ0_length_8abf5_5 rfl (lv_at hl 0 rfl) ?_
  refine jn_i (wr := []) (rVs (As := []) (rest := [.int 6]) ⟨hx, hb, hml, hown, hts⟩ (b_coder_3 l dC dI cy _ B kS vS   (fun q hq => hAB q (va_free hD hS hA [] rfl q hq))) (cw_J0_335 hts rfl rfl ⟨Nat.le_of_ble_eq_true rfl, Nat.le_of_ble_eq_true rfl⟩) hP hD hK [] rfl rfl (vk_recv (i := 3) hEA.2.2.2.2.1 (by decide) hS) EnvB.calling (EnvB.at hE hS hAB (fun _ h => h)) rfl hl.1 rfl (Nat.le_of_ble_eq_true rfl) dJ0_length_8abf5_6 ⟨Nat.le_of_ble_eq_true rfl, Nat.le_of_ble_eq_true rfl⟩) hP hD hS hA [] [] rfl rfl rfl (by decide) (fun r_1 u_3 H locs hp_2 hP hD hS => ?_)
  have hp_2 : ((r_1 = 0)) := hp_2
  have q_4 := hp_2
  have hP : va_P (dC, dI) vwCl [] H := hP
  have hD : va_D A [] := hD
  refine as_i 0 q_4 ?_
  refine lv_ishr hx hb dJ0_length_8abf5_9 ?_
  refine as_i 6 (sb_shr0 _) ?_
  have k_6 : (6 : Int32).toInt = 6 := by decide
  rw [hQ9]
  exact re_i () hx hb hr hlocks (show ((6 : Int32) = 6) from (rfl)) (hP.sub [] rfl) (hD.sub [] rfl rfl) hS dJ0_length_8abf5_10
abbrev O_b_getBytes_3 (cy : Nat → ClassId) (vgv : Nat) (vnb : Nat) (vgf : Nat → Int32) (vat : Int32) (u : (Nat → Int32)) : va_W := [(vgv, .inl (cy 3, vnb, .inl u))]
set_option maxHeartbeats 4000000 in
set_option maxRecDepth 100000 in
theorem b_getBytes_3 (l : Launch) (dC : Nat → ClassId) (dI : Nat → Nat → Nat) (cy : Nat → ClassId) (sz : Nat) (B : Nat → Prop) (kS vS : Nat → Nat) (vgv : Nat) (vnb : Nat) (vgf : Nat → Int32) (vat : Int32) (r_vat : 0 ≤ (vat : Int32).toInt ∧ (vat : Int32).toInt ≤ 42) (p_vgf : sb_Fit vgf) (hn : (vnb = 16 ∨ vnb = 34 ∨ vnb = 70)) (hat : (vat : Int32).toInt + 6 ≤ (vnb : Int)) (hB : ∀ q : Nat, va_A [(vgv, .inl (cy 3, vnb, .inl vgf))] sz q → B q) : Met l yJ0_getBytes_840e7 (wl yJ0_getBytes_840e7 cJ0_getBytes_840e7 4 none) ({ frames := 1, cells := 0, slots := 0, locals := 64 }) (Pw (dC, dI) vwCl cy [(vgv, .inl (cy 3, vnb, .inl vgf))] sz [.ref (kS 3), .ref vgv, .int vat, .int 0] (EnvB B kS vS)) (Qv (dC, dI) vwCl (fun (u : (Nat → Int32)) => (sb_Fit u)) (O_b_getBytes_3 cy vgv vnb vgf vat) (va_A [(vgv, .inl (cy 3, vnb, .inl vgf))] sz)) 0 0 (va_A [(vgv, .inl (cy 3, vnb, .inl vgf))] sz) := by
  refine mw (Qc := Qv (dC, dI) vwCl (fun (u : (Nat → Int32)) => (sb_Fit u)) (O_b_getBytes_3 cy vgv vnb vgf vat)) RJ0 rfl (by decide +kernel) (Nat.le_of_ble_eq_true rfl) ?_
  intro p e s m below meth c A hx hb hr hlocks av9 hav hts hown hnm hml hK hP hD hA hS hE hAe Q9 hQ9 ls hl
  have hAB : ∀ q : Nat, A q → B q := by rw [hAe]; exact hB
  have hEA := hE.narrow hAB
  have hl : lv_has ls 4 [(0, .ref (kS 3)), (1, .ref vgv), (2, .int vat), (3, .int 0)] := hl
  refine lv_aload_n hx hb dJ0_getBytes_840e7_0 rfl (lv_at hl 0 rfl) ?_
  refine jn_i (wr := [(vgv, .inl (cy 3, vnb, .inl vgf))]) (rVs (As := []) (rest := []) ⟨hx, hb, hml, hown, hts⟩ (b_coder_3 l dC dI cy _ B kS vS   (fun q hq => hAB q (va_free hD hS hA [] rfl q hq))) (cw_J0_335 hts rfl rfl ⟨Nat.le_of_ble_eq_true rfl, Nat.le_of_ble_eq_true rfl⟩) hP hD hK [] rfl rfl (vk_recv (i := 3) hEA.2.2.2.2.1 (by decide) hS) EnvB.calling (EnvB.at hE hS hAB (fun _ h => h)) rfl hl.1 rfl (Nat.le_of_ble_eq_true rfl) dJ0_getBytes_840e7_1 ⟨Nat.le_of_ble_eq_true rfl, Nat.le_of_ble_eq_true rfl⟩) hP hD hS hA [] [0] rfl rfl rfl (by decide) (fun r_1 u_3 H locs hp_2 hP hD hS => ?_)
  have hp_2 : ((r_1 = 0)) := hp_2
  have q_4 := hp_2
  have hP : va_P (dC, dI) vwCl [(vgv, .inl (cy 3, vnb, .inl vgf))] H := hP
  have hD : va_D A [(vgv, .inl (cy 3, vnb, .inl vgf))] := hD
  refine as_i 0 q_4 ?_
  refine lv_iload_n hx hb dJ0_getBytes_840e7_4 rfl (lv_at hl 3 rfl) ?_
  refine lv_icmp_ne (tgt := 28) hx hb dJ0_getBytes_840e7_5 (by decide) (fun c9 => absurd c9 (by decide)) (fun _ => ?_)
  refine lv_aload_n hx hb dJ0_getBytes_840e7_8 rfl (lv_at hl 0 rfl) ?_
  refine vk_getf hx hb (hEA.2.2.2.2.1.1 3 (by decide)).2.2.1 hS hown (hts _ t2101) (fun _ h => h) dJ0_getBytes_840e7_9 ?_
  refine lv_iconst (v := 0) hx hb dJ0_getBytes_840e7_12 (by decide) ?_
  refine lv_aload_n hx hb dJ0_getBytes_840e7_13 rfl (lv_at hl 1 rfl) ?_
  refine lv_iload_n hx hb dJ0_getBytes_840e7_14 rfl (lv_at hl 2 rfl) ?_
  refine lv_iload_n hx hb dJ0_getBytes_840e7_15 rfl (lv_at hl 3 rfl) ?_
  refine lv_ishl hx hb dJ0_getBytes_840e7_16 ?_
  refine as_i vat (sb_shl0 _) ?_
  refine lv_aload_n hx hb dJ0_getBytes_840e7_17 rfl (lv_at hl 0 rfl) ?_
  refine vk_getf hx hb (hEA.2.2.2.2.1.1 3 (by decide)).2.2.1 hS hown (hts _ t2101) (fun _ h => h) dJ0_getBytes_840e7_18 ?_
  refine va_tlen (v := 6) hx hb (hEA.2.2.2.2.1.1 3 (by decide)).2.2.2 hS rfl dJ0_getBytes_840e7_21 ?_
  have k_6 : (6 : Int32).toInt = 6 := by decide
  have k_0 : (0 : Int32).toInt = 0 := by decide
  refine vk_copyt (f := fun j => (sbB.getD 3 []).getD j 0) hx hb (by rw [hml, hl.1]) hown (hts _ t1094) (hts _ t769) (hts _ t768) (hts _ t23) hK hP hD hS (hEA.2.2.2.2.1.1 3 (by decide)).2.2.2 0 3 rfl rfl (fun h9 => absurd (i_lt.mp h9) (by have := k_0; omega)) (fun h9 => absurd (i_lt.mp h9) (by have := k_0; omega)) (fun h9 => absurd (i_lt.mp h9) (by have := k_0; omega)) (by have h1 := (cl_nn (x := (0 : Int32)) (by omega)); have h2 := (cl_nn (x := (6 : Int32)) (by omega)); show _ ≤ 6; omega) (by have h1 := (cl_nn (x := vat) (by omega)); have h2 := (cl_nn (x := (6 : Int32)) (by omega)); omega) (fun i _ => sb_list 3 _) (Nat.le_of_ble_eq_true rfl) (Nat.le_of_ble_eq_true rfl) dJ0_getBytes_840e7_22 (fun H locs hP hD hS => ?_)
  obtain ⟨f_5, ef_5⟩ : ∃ z : Nat → Int32, z = va_cpy (fun j => (sbB.getD 3 []).getD j 0) vgf (Int32.toNatClampNeg 0) (Int32.toNatClampNeg vat) (Int32.toNatClampNeg 6) := ⟨_, rfl⟩
  have hP : va_P (dC, dI) vwCl [(vgv, .inl (cy 3, vnb, .inl f_5))] H := by rw [ef_5]; exact hP
  have hD : va_D A [(vgv, .inl (cy 3, vnb, .inl f_5))] := by rw [ef_5]; exact hD
  have p_f_5 : sb_Fit f_5 := by rw [ef_5]; exact sb_fitC (fun j => sb_list 3 j) p_vgf
  refine lv_goto (tgt := 43) hx hb dJ0_getBytes_840e7_25 (by decide) ?_
  rw [hQ9]
  exact re_v f_5 hx hb hr hlocks (show sb_Fit f_5 from p_f_5) (hP.sub [0] rfl) (hD.sub [0] rfl rfl) hS dJ0_getBytes_840e7_43
abbrev O_b_inflate_3 (cy : Nat → ClassId) (vg : Nat) (vgv : Nat) (vgm : Int32) (vgc : Int32) (vnb : Nat) (vgf : Nat → Int32) (u : Unit) : va_W := [(vg, .inr (0, [.ref vgv, .int 0, .int vgm, .int vgc])), (vgv, .inl (cy 3, vnb, .inl vgf))]
set_option maxHeartbeats 4000000 in
set_option maxRecDepth 100000 in
theorem b_inflate_3 (l : Launch) (dC : Nat → ClassId) (dI : Nat → Nat → Nat) (cy : Nat → ClassId) (sz : Nat) (B : Nat → Prop) (kS vS : Nat → Nat) (vg : Nat) (vgv : Nat) (vgm : Int32) (vgc : Int32) (vnb : Nat) (vgf : Nat → Int32) (p_vgf : sb_Fit vgf) (hB : ∀ q : Nat, va_A [(vg, .inr (0, [.ref vgv, .int 0, .int vgm, .int vgc])), (vgv, .inl (cy 3, vnb, .inl vgf))] sz q → B q) : Met l yJ5_inflateIfNeededFor_a7421 (wl yJ5_inflateIfNeededFor_a7421 cJ5_inflateIfNeededFor_a7421 2 none) ({ frames := 1, cells := 0, slots := 0, locals := 64 }) (Pw (dC, dI) vwCl cy [(vg, .inr (0, [.ref vgv, .int 0, .int vgm, .int vgc])), (vgv, .inl (cy 3, vnb, .inl vgf))] sz [.ref vg, .ref (kS 3)] (EnvB B kS vS)) (Qv (dC, dI) vwCl (fun (u : Unit) => True) (O_b_inflate_3 cy vg vgv vgm vgc vnb vgf) (va_A [(vg, .inr (0, [.ref vgv, .int 0, .int vgm, .int vgc])), (vgv, .inl (cy 3, vnb, .inl vgf))] sz)) 0 0 (va_A [(vg, .inr (0, [.ref vgv, .int 0, .int vgm, .int vgc])), (vgv, .inl (cy 3, vnb, .inl vgf))] sz) := by
  refine mw (Qc := Qv (dC, dI) vwCl (fun (u : Unit) => True) (O_b_inflate_3 cy vg vgv vgm vgc vnb vgf)) RJ5 rfl (by decide +kernel) (Nat.le_of_ble_eq_true rfl) ?_
  intro p e s m below meth c A hx hb hr hlocks av9 hav hts hown hnm hml hK hP hD hA hS hE hAe Q9 hQ9 ls hl
  have hAB : ∀ q : Nat, A q → B q := by rw [hAe]; exact hB
  have hEA := hE.narrow hAB
  have hl : lv_has ls 2 [(0, .ref vg), (1, .ref (kS 3))] := hl
  refine va_gets hx hb hEA.2.2.2.2.2.1 hS hown (hts _ t339) (fun _ h => h) dJ5_inflateIfNeededFor_a7421_0 ?_
  refine lv_if_eq (tgt := 21) hx hb dJ5_inflateIfNeededFor_a7421_3 (by decide) (fun c9 => absurd c9 (by decide)) (fun _ => ?_)
  refine lv_aload_n hx hb dJ5_inflateIfNeededFor_a7421_6 rfl (lv_at hl 0 rfl) ?_
  refine gf_J5_22 hx hb hts hown hK hP 0 rfl rfl dJ5_inflateIfNeededFor_a7421_7 ?_
  refine lv_aload_n hx hb dJ5_inflateIfNeededFor_a7421_10 rfl (lv_at hl 1 rfl) ?_
  refine jn_i (wr := [(vg, .inr (0, [.ref vgv, .int 0, .int vgm, .int vgc])), (vgv, .inl (cy 3, vnb, .inl vgf))]) (rVs (As := []) (rest := [.int 0]) ⟨hx, hb, hml, hown, hts⟩ (b_coder_3 l dC dI cy _ B kS vS   (fun q hq => hAB q (va_free hD hS hA [] rfl q hq))) (cw_J5_40 hts rfl rfl ⟨Nat.le_of_ble_eq_true rfl, Nat.le_of_ble_eq_true rfl⟩) hP hD hK [] rfl rfl (vk_recv (i := 3) hEA.2.2.2.2.1 (by decide) hS) EnvB.calling (EnvB.at hE hS hAB (fun _ h => h)) rfl hl.1 rfl (Nat.le_of_ble_eq_true rfl) dJ5_inflateIfNeededFor_a7421_11 ⟨Nat.le_of_ble_eq_true rfl, Nat.le_of_ble_eq_true rfl⟩) hP hD hS hA [] [0, 1] rfl rfl rfl (by decide) (fun r_1 u_3 H locs hp_2 hP hD hS => ?_)
  have hp_2 : ((r_1 = 0)) := hp_2
  have q_4 := hp_2
  have hP : va_P (dC, dI) vwCl [(vg, .inr (0, [.ref vgv, .int 0, .int vgm, .int vgc])), (vgv, .inl (cy 3, vnb, .inl vgf))] H := hP
  have hD : va_D A [(vg, .inr (0, [.ref vgv, .int 0, .int vgm, .int vgc])), (vgv, .inl (cy 3, vnb, .inl vgf))] := hD
  refine as_i 0 q_4 ?_
  refine lv_icmp_eq (tgt := 21) hx hb dJ5_inflateIfNeededFor_a7421_14 (by decide) (fun _ => ?_) (fun c9 => absurd (by decide) c9)
  rw [hQ9]
  exact re_v () hx hb hr hlocks trivial (hP.sub [0, 1] rfl) (hD.sub [0, 1] rfl rfl) hS dJ5_inflateIfNeededFor_a7421_21
abbrev O_b_putString_3 (cy : Nat → ClassId) (vg : Nat) (vgv : Nat) (vgm : Int32) (vgc : Int32) (vnb : Nat) (vgf : Nat → Int32) (vat : Int32) (u : (Nat → Int32)) : va_W := [(vg, .inr (0, [.ref vgv, .int 0, .int vgm, .int vgc])), (vgv, .inl (cy 3, vnb, .inl u))]
set_option maxHeartbeats 4000000 in
set_option maxRecDepth 100000 in
theorem b_putString_3 (l : Launch) (dC : Nat → ClassId) (dI : Nat → Nat → Nat) (cy : Nat → ClassId) (sz : Nat) (B : Nat → Prop) (kS vS : Nat → Nat) (vg : Nat) (vgv : Nat) (vgm : Int32) (vgc : Int32) (vnb : Nat) (vgf : Nat → Int32) (vat : Int32) (r_vat : 0 ≤ (vat : Int32).toInt ∧ (vat : Int32).toInt ≤ 42) (p_vgf : sb_Fit vgf) (hn : (vnb = 16 ∨ vnb = 34 ∨ vnb = 70)) (hat : (vat : Int32).toInt + 6 ≤ (vnb : Int)) (hB : ∀ q : Nat, va_A [(vg, .inr (0, [.ref vgv, .int 0, .int vgm, .int vgc])), (vgv, .inl (cy 3, vnb, .inl vgf))] sz q → B q) : Met l yJ5_putStringAt_47b60 (wl yJ5_putStringAt_47b60 cJ5_putStringAt_47b60 3 none) ({ frames := 2, cells := 0, slots := 0, locals := 128 }) (Pw (dC, dI) vwCl cy [(vg, .inr (0, [.ref vgv, .int 0, .int vgm, .int vgc])), (vgv, .inl (cy 3, vnb, .inl vgf))] sz [.ref vg, .int vat, .ref (kS 3)] (EnvB B kS vS)) (Qv (dC, dI) vwCl (fun (u : (Nat → Int32)) => (sb_Fit u)) (O_b_putString_3 cy vg vgv vgm vgc vnb vgf vat) (va_A [(vg, .inr (0, [.ref vgv, .int 0, .int vgm, .int vgc])), (vgv, .inl (cy 3, vnb, .inl vgf))] sz)) 0 0 (va_A [(vg, .inr (0, [.ref vgv, .int 0, .int vgm, .int vgc])), (vgv, .inl (cy 3, vnb, .inl vgf))] sz) := by
  refine mw (Qc := Qv (dC, dI) vwCl (fun (u : (Nat → Int32)) => (sb_Fit u)) (O_b_putString_3 cy vg vgv vgm vgc vnb vgf vat)) RJ5 rfl (by decide +kernel) (Nat.le_of_ble_eq_true rfl) ?_
  intro p e s m below meth c A hx hb hr hlocks av9 hav hts hown hnm hml hK hP hD hA hS hE hAe Q9 hQ9 ls hl
  have hAB : ∀ q : Nat, A q → B q := by rw [hAe]; exact hB
  have hEA := hE.narrow hAB
  have hl : lv_has ls 3 [(0, .ref vg), (1, .int vat), (2, .ref (kS 3))] := hl
  refine lv_aload_n hx hb dJ5_putStringAt_47b60_0 rfl (lv_at hl 0 rfl) ?_
  refine lv_aload_n hx hb dJ5_putStringAt_47b60_1 rfl (lv_at hl 2 rfl) ?_
  refine jn_v (wr := []) (rVU (As := [.ref (kS 3)]) (rest := []) (ci := 0) ⟨hx, hb, hml, hown, hts⟩ (b_inflate_3 l dC dI cy _ B kS vS vg vgv vgm vgc vnb vgf p_vgf (fun q hq => hAB q (va_free hD hS hA [0, 1] rfl q hq))) (cu_J5_397 hts (va_tabs rfl rfl hEA.2.2.2.2.2.2.2.2.2.2.2.2.2.2) rfl rfl ⟨Nat.le_of_ble_eq_true rfl, Nat.le_of_ble_eq_true rfl⟩) hP hD hK [0, 1] rfl rfl rfl rfl EnvB.calling (EnvB.at hE hS hAB (fun _ h => h)) rfl hl.1 rfl (Nat.le_of_ble_eq_true rfl) dJ5_putStringAt_47b60_2 ⟨Nat.le_of_ble_eq_true rfl, Nat.le_of_ble_eq_true rfl⟩) hP hD hS hA [0, 1] [] rfl rfl rfl (by decide) (fun u_3 H locs hp_2 hP hD hS => ?_)
  have hP : va_P (dC, dI) vwCl [(vg, .inr (0, [.ref vgv, .int 0, .int vgm, .int vgc])), (vgv, .inl (cy 3, vnb, .inl vgf))] H := hP
  have hD : va_D A [(vg, .inr (0, [.ref vgv, .int 0, .int vgm, .int vgc])), (vgv, .inl (cy 3, vnb, .inl vgf))] := hD
  refine lv_aload_n hx hb dJ5_putStringAt_47b60_5 rfl (lv_at hl 2 rfl) ?_
  refine lv_aload_n hx hb dJ5_putStringAt_47b60_6 rfl (lv_at hl 0 rfl) ?_
  refine gf_J5_15 hx hb hts hown hK hP 0 rfl rfl dJ5_putStringAt_47b60_7 ?_
  refine lv_iload_n hx hb dJ5_putStringAt_47b60_10 rfl (lv_at hl 1 rfl) ?_
  refine lv_aload_n hx hb dJ5_putStringAt_47b60_11 rfl (lv_at hl 0 rfl) ?_
  refine gf_J5_22 hx hb hts hown hK hP 0 rfl rfl dJ5_putStringAt_47b60_12 ?_
  refine jn_v (wr := [(vg, .inr (0, [.ref vgv, .int 0, .int vgm, .int vgc]))]) (rVs (As := [.ref vgv, .int vat, .int 0]) (rest := []) ⟨hx, hb, hml, hown, hts⟩ (b_getBytes_3 l dC dI cy _ B kS vS vgv vnb vgf vat r_vat p_vgf hn hat (fun q hq => hAB q (va_free hD hS hA [1] rfl q hq))) (cw_J5_399 hts rfl rfl ⟨Nat.le_of_ble_eq_true rfl, Nat.le_of_ble_eq_true rfl⟩) hP hD hK [1] rfl rfl (vk_recv (i := 3) hEA.2.2.2.2.1 (by decide) hS) EnvB.calling (EnvB.at hE hS hAB (fun _ h => h)) rfl hl.1 rfl (Nat.le_of_ble_eq_true rfl) dJ5_putStringAt_47b60_15 ⟨Nat.le_of_ble_eq_true rfl, Nat.le_of_ble_eq_true rfl⟩) hP hD hS hA [1] [0] rfl rfl rfl (by decide) (fun u_6 H locs hp_5 hP hD hS => ?_)
  obtain ⟨vgf_7, rfl⟩ : ∃ z, z = u_6 := ⟨_, rfl⟩
  have hp_5 : (sb_Fit vgf_7) := hp_5
  have q_8 := hp_5
  have hP : va_P (dC, dI) vwCl [(vg, .inr (0, [.ref vgv, .int 0, .int vgm, .int vgc])), (vgv, .inl (cy 3, vnb, .inl vgf_7))] H := hP
  have hD : va_D A [(vg, .inr (0, [.ref vgv, .int 0, .int vgm, .int vgc])), (vgv, .inl (cy 3, vnb, .inl vgf_7))] := hD
  rw [hQ9]
  exact re_v vgf_7 hx hb hr hlocks (show sb_Fit vgf_7 from q_8) (hP.sub [0, 1] rfl) (hD.sub [0, 1] rfl rfl) hS dJ5_putStringAt_47b60_18
abbrev O_b_appS_3 (cy : Nat → ClassId) (vg : Nat) (vgv : Nat) (vgm : Int32) (vgc : Int32) (vnb : Nat) (vgf : Nat → Int32) (u : Nat × Nat × (Nat → Int32) × Int32) : va_W := [(vg, .inr (0, [.ref u.1, .int 0, .int vgm, .int u.2.2.2])), (u.1, .inl (cy 3, u.2.1, .inl u.2.2.1))]
set_option maxHeartbeats 4000000 in
set_option maxRecDepth 100000 in
theorem b_appS_3 (l : Launch) (dC : Nat → ClassId) (dI : Nat → Nat → Nat) (cy : Nat → ClassId) (sz : Nat) (B : Nat → Prop) (kS vS : Nat → Nat) (vg : Nat) (vgv : Nat) (vgm : Int32) (vgc : Int32) (vnb : Nat) (vgf : Nat → Int32) (r_vgc : 0 ≤ (vgc : Int32).toInt ∧ (vgc : Int32).toInt ≤ 36) (p_vgf : sb_Fit vgf) (hn : (vnb = 16 ∨ vnb = 34 ∨ vnb = 70)) (hgc : (vgc : Int32).toInt ≤ (vnb : Int)) (hB : ∀ q : Nat, va_A [(vg, .inr (0, [.ref vgv, .int 0, .int vgm, .int vgc])), (vgv, .inl (cy 3, vnb, .inl vgf))] sz q → B q) : Met l yJ5_append_cf1ce (wl yJ5_append_cf1ce cJ5_append_cf1ce 3 (some (.object "java/lang/AbstractStringBuilder"))) ({ frames := 4, cells := 1, slots := 70, locals := 256 }) (Pw (dC, dI) vwCl cy [(vg, .inr (0, [.ref vgv, .int 0, .int vgm, .int vgc])), (vgv, .inl (cy 3, vnb, .inl vgf))] sz [.ref vg, .ref (kS 3)] (EnvB B kS vS)) (Qr (dC, dI) vwCl (fun (u : Nat × Nat × (Nat → Int32) × Int32) => (sb_Fit u.2.2.1) ∧ (0 ≤ (u.2.2.2 : Int32).toInt ∧ (u.2.2.2 : Int32).toInt ≤ 42) ∧ ((u.2.1 = 16 ∨ u.2.1 = 34 ∨ u.2.1 = 70)) ∧ ((u.2.2.2 : Int32).toInt ≤ (u.2.1 : Int)) ∧ ((u.2.2.2 : Int32).toInt = (vgc : Int32).toInt + 6)) (O_b_appS_3 cy vg vgv vgm vgc vnb vgf) (fun (u : Nat × Nat × (Nat → Int32) × Int32) => vg) (va_A [(vg, .inr (0, [.ref vgv, .int 0, .int vgm, .int vgc])), (vgv, .inl (cy 3, vnb, .inl vgf))] sz)) 1 70 (va_A [(vg, .inr (0, [.ref vgv, .int 0, .int vgm, .int vgc])), (vgv, .inl (cy 3, vnb, .inl vgf))] sz) := by
  refine mw (Qc := Qr (dC, dI) vwCl (fun (u : Nat × Nat × (Nat → Int32) × Int32) => (sb_Fit u.2.2.1) ∧ (0 ≤ (u.2.2.2 : Int32).toInt ∧ (u.2.2.2 : Int32).toInt ≤ 42) ∧ ((u.2.1 = 16 ∨ u.2.1 = 34 ∨ u.2.1 = 70)) ∧ ((u.2.2.2 : Int32).toInt ≤ (u.2.1 : Int)) ∧ ((u.2.2.2 : Int32).toInt = (vgc : Int32).toInt + 6)) (O_b_appS_3 cy vg vgv vgm vgc vnb vgf) (fun (u : Nat × Nat × (Nat → Int32) × Int32) => vg)) RJ5 rfl (by decide +kernel) (Nat.le_of_ble_eq_true rfl) ?_
  intro p e s m below meth c A hx hb hr hlocks av9 hav hts hown hnm hml hK hP hD hA hS hE hAe Q9 hQ9 ls hl
  have hAB : ∀ q : Nat, A q → B q := by rw [hAe]; exact hB
  have hEA := hE.narrow hAB
  have hl : lv_has ls 3 [(0, .ref vg), (1, .ref (kS 3))] := hl
  refine lv_aload_n hx hb dJ5_append_cf1ce_0 rfl (lv_at hl 1 rfl) ?_
  refine lv_ifnonnull (tgt := 9) hx hb dJ5_append_cf1ce_1 (by decide) ?_
  refine lv_aload_n hx hb dJ5_append_cf1ce_9 rfl (lv_at hl 1 rfl) ?_
  refine jn_i (wr := [(vg, .inr (0, [.ref vgv, .int 0, .int vgm, .int vgc])), (vgv, .inl (cy 3, vnb, .inl vgf))]) (rVs (As := []) (rest := []) ⟨hx, hb, hml, hown, hts⟩ (b_slen_3 l dC dI cy _ B kS vS   (fun q hq => hAB q (va_free hD hS hA [] rfl q hq))) (cw_J5_32 hts rfl rfl ⟨Nat.le_of_ble_eq_true rfl, Nat.le_of_ble_eq_true rfl⟩) hP hD hK [] rfl rfl (vk_recv (i := 3) hEA.2.2.2.2.1 (by decide) hS) EnvB.calling (EnvB.at hE hS hAB (fun _ h => h)) rfl hl.1 rfl (Nat.le_of_ble_eq_true rfl) dJ5_append_cf1ce_10 ⟨Nat.le_of_ble_eq_true rfl, Nat.le_of_ble_eq_true rfl⟩) hP hD hS hA [] [0, 1] rfl rfl rfl (by decide) (fun r_1 u_3 H locs hp_2 hP hD hS => ?_)
  have hp_2 : ((r_1 = 6)) := hp_2
  have q_4 := hp_2
  have hP : va_P (dC, dI) vwCl [(vg, .inr (0, [.ref vgv, .int 0, .int vgm, .int vgc])), (vgv, .inl (cy 3, vnb, .inl vgf))] H := hP
  have hD : va_D A [(vg, .inr (0, [.ref vgv, .int 0, .int vgm, .int vgc])), (vgv, .inl (cy 3, vnb, .inl vgf))] := hD
  refine as_i 6 q_4 ?_
  refine lv_istore_n (lv' := [(2, .int 6), (0, .ref vg), (1, .ref (kS 3))]) hx hb dJ5_append_cf1ce_13 rfl hl (by decide) rfl (fun ls hl => ?_)
  refine lv_aload_n hx hb dJ5_append_cf1ce_14 rfl (lv_at hl 1 rfl) ?_
  refine lv_aload_n hx hb dJ5_append_cf1ce_15 rfl (lv_at hl 1 rfl) ?_
  refine gf_J5_79 hx hb hts hown hK hP 0 rfl rfl dJ5_append_cf1ce_16 ?_
  refine lv_iload_n hx hb dJ5_append_cf1ce_19 rfl (lv_at hl 0 rfl) ?_
  refine lv_iadd hx hb dJ5_append_cf1ce_20 ?_
  refine lv_topi (fun z_5 ez_5 => ?_)
  have k_6 : (6 : Int32).toInt = 6 := by decide
  have bz_5 : z_5.toInt = vgc.toInt + (6 : Int32).toInt := i_add ez_5 (by omega) (by omega)
  refine jn_v (wr := []) (rVU (As := [.int z_5]) (rest := []) (ci := 0) ⟨hx, hb, hml, hown, hts⟩ (b_ensure l dC dI cy _ B kS vS vg vgv vgm vgc vnb vgf z_5 ⟨by omega, by omega⟩ p_vgf hn (by omega) (fun q hq => hAB q (va_free hD hS hA [0, 1] rfl q hq))) (cu_J5_100 hts (va_tabs rfl rfl hEA.2.2.2.2.2.2.2.2.2.2.2.1) rfl rfl ⟨Nat.le_of_ble_eq_true rfl, Nat.le_of_ble_eq_true rfl⟩) hP hD hK [0, 1] rfl rfl rfl rfl EnvB.calling (EnvB.at hE hS hAB (fun _ h => h)) rfl hl.1 rfl (Nat.le_of_ble_eq_true rfl) dJ5_append_cf1ce_21 ⟨Nat.le_of_ble_eq_true rfl, Nat.le_of_ble_eq_true rfl⟩) hP hD hS hA [0, 1] [] rfl rfl rfl (by decide) (fun u_8 H locs hp_7 hP hD hS => ?_)
  obtain ⟨vgv_9, vnb_10, vgf_11⟩ := u_8
  have hp_7 : (sb_Fit vgf_11) ∧ ((vnb_10 = 16 ∨ vnb_10 = 34 ∨ vnb_10 = 70)) ∧ ((z_5 : Int32).toInt ≤ (vnb_10 : Int)) := hp_7
  obtain ⟨q_12, q_13, q_14⟩ := hp_7
  have hP : va_P (dC, dI) vwCl [(vg, .inr (0, [.ref vgv_9, .int 0, .int vgm, .int vgc])), (vgv_9, .inl (cy 3, vnb_10, .inl vgf_11))] H := hP
  have hD : va_D A [(vg, .inr (0, [.ref vgv_9, .int 0, .int vgm, .int vgc])), (vgv_9, .inl (cy 3, vnb_10, .inl vgf_11))] := hD
  refine W.widen (k := 1) (n := 70) (by decide) (by decide) ?_
  refine lv_aload_n hx hb dJ5_append_cf1ce_24 rfl (lv_at hl 1 rfl) ?_
  refine lv_aload_n hx hb dJ5_append_cf1ce_25 rfl (lv_at hl 1 rfl) ?_
  refine gf_J5_79 hx hb hts hown hK hP 0 rfl rfl dJ5_append_cf1ce_26 ?_
  refine lv_aload_n hx hb dJ5_append_cf1ce_29 rfl (lv_at hl 2 rfl) ?_
  refine jn_v (wr := []) (rVU (As := [.int vgc, .ref (kS 3)]) (rest := []) (ci := 0) ⟨hx, hb, hml, hown, hts⟩ (b_putString_3 l dC dI cy _ B kS vS vg vgv_9 vgm vgc vnb_10 vgf_11 vgc ⟨by omega, by omega⟩ q_12 q_13 (by omega) (fun q hq => hAB q (va_free hD hS hA [0, 1] rfl q hq))) (cu_J5_208 hts (va_tabs rfl rfl hEA.2.2.2.2.2.2.2.2.2.2.2.2.2.1) rfl rfl ⟨Nat.le_of_ble_eq_true rfl, Nat.le_of_ble_eq_true rfl⟩) hP hD hK [0, 1] rfl rfl rfl rfl EnvB.calling (EnvB.at hE hS hAB (fun _ h => h)) rfl hl.1 rfl (Nat.le_of_ble_eq_true rfl) dJ5_append_cf1ce_30 ⟨Nat.le_of_ble_eq_true rfl, Nat.le_of_ble_eq_true rfl⟩) hP hD hS hA [0, 1] [] rfl rfl rfl (by decide) (fun u_17 H locs hp_16 hP hD hS => ?_)
  obtain ⟨vgf_18, rfl⟩ : ∃ z, z = u_17 := ⟨_, rfl⟩
  have hp_16 : (sb_Fit vgf_18) := hp_16
  have q_19 := hp_16
  have hP : va_P (dC, dI) vwCl [(vg, .inr (0, [.ref vgv_9, .int 0, .int vgm, .int vgc])), (vgv_9, .inl (cy 3, vnb_10, .inl vgf_18))] H := hP
  have hD : va_D A [(vg, .inr (0, [.ref vgv_9, .int 0, .int vgm, .int vgc])), (vgv_9, .inl (cy 3, vnb_10, .inl vgf_18))] := hD
  refine lv_aload_n hx hb dJ5_append_cf1ce_33 rfl (lv_at hl 1 rfl) ?_
  refine lv_dup hx hb dJ5_append_cf1ce_34 rfl ?_
  refine gf_J5_79 hx hb hts hown hK hP 0 rfl rfl dJ5_append_cf1ce_35 ?_
  refine lv_iload_n hx hb dJ5_append_cf1ce_38 rfl (lv_at hl 0 rfl) ?_
  refine lv_iadd hx hb dJ5_append_cf1ce_39 ?_
  refine lv_topi (fun z_20 ez_20 => ?_)
  have bz_20 : z_20.toInt = vgc.toInt + (6 : Int32).toInt := i_add ez_20 (by omega) (by omega)
  refine pf_J5_79 hx hb hts hown hK hP hD hS 0 rfl rfl rfl (Nat.le_of_ble_eq_true rfl) dJ5_append_cf1ce_40 (fun H locs hP hD hS => ?_)
  have hP : va_P (dC, dI) vwCl [(vg, .inr (0, [.ref vgv_9, .int 0, .int vgm, .int z_20])), (vgv_9, .inl (cy 3, vnb_10, .inl vgf_18))] H := hP
  have hD : va_D A [(vg, .inr (0, [.ref vgv_9, .int 0, .int vgm, .int z_20])), (vgv_9, .inl (cy 3, vnb_10, .inl vgf_18))] := hD
  refine lv_aload_n hx hb dJ5_append_cf1ce_43 rfl (lv_at hl 1 rfl) ?_
  refine W.widen (k := 1) (n := 70) (by decide) (by decide) ?_
  rw [hQ9]
  exact re_r (vgv_9, vnb_10, vgf_18, z_20) hx hb hr (Or.inl ⟨_, rfl⟩) hlocks ⟨(show sb_Fit vgf_18 from q_19), (show 0 ≤ (z_20 : Int32).toInt ∧ (z_20 : Int32).toInt ≤ 42 from ⟨by omega, by omega⟩), (show (vnb_10 = 16 ∨ vnb_10 = 34 ∨ vnb_10 = 70) from q_13), (show (z_20 : Int32).toInt ≤ (vnb_10 : Int) from (by omega)), (show (z_20 : Int32).toInt = (vgc : Int32).toInt + 6 from (by omega))⟩ (hP.sub [0, 1] rfl) (hD.sub [0, 1] rfl rfl) hS dJ5_append_cf1ce_44
abbrev O_b_sbappS_3 (cy : Nat → ClassId) (vg : Nat) (vgv : Nat) (vgm : Int32) (vgc : Int32) (vnb : Nat) (vgf : Nat → Int32) (u : Nat × Nat × (Nat → Int32) × Int32) : va_W := [(vg, .inr (0, [.ref u.1, .int 0, .int vgm, .int u.2.2.2])), (u.1, .inl (cy 3, u.2.1, .inl u.2.2.1))]
set_option maxHeartbeats 4000000 in
set_option maxRecDepth 100000 in
theorem b_sbappS_3 (l : Launch) (dC : Nat → ClassId) (dI : Nat → Nat → Nat) (cy : Nat → ClassId) (sz : Nat) (B : Nat → Prop) (kS vS : Nat → Nat) (vg : Nat) (vgv : Nat) (vgm : Int32) (vgc : Int32) (vnb : Nat) (vgf : Nat → Int32) (r_vgc : 0 ≤ (vgc : Int32).toInt ∧ (vgc : Int32).toInt ≤ 36) (p_vgf : sb_Fit vgf) (hn : (vnb = 16 ∨ vnb = 34 ∨ vnb = 70)) (hgc : (vgc : Int32).toInt ≤ (vnb : Int)) (hB : ∀ q : Nat, va_A [(vg, .inr (0, [.ref vgv, .int 0, .int vgm, .int vgc])), (vgv, .inl (cy 3, vnb, .inl vgf))] sz q → B q) : Met l yJ4_append_15ec4 (wl yJ4_append_15ec4 cJ4_append_15ec4 2 (some (.object "java/lang/StringBuilder"))) ({ frames := 5, cells := 1, slots := 70, locals := 320 }) (Pw (dC, dI) vwCl cy [(vg, .inr (0, [.ref vgv, .int 0, .int vgm, .int vgc])), (vgv, .inl (cy 3, vnb, .inl vgf))] sz [.ref vg, .ref (kS 3)] (EnvB B kS vS)) (Qr (dC, dI) vwCl (fun (u : Nat × Nat × (Nat → Int32) × Int32) => (sb_Fit u.2.2.1) ∧ (0 ≤ (u.2.2.2 : Int32).toInt ∧ (u.2.2.2 : Int32).toInt ≤ 42) ∧ ((u.2.1 = 16 ∨ u.2.1 = 34 ∨ u.2.1 = 70)) ∧ ((u.2.2.2 : Int32).toInt ≤ (u.2.1 : Int)) ∧ ((u.2.2.2 : Int32).toInt = (vgc : Int32).toInt + 6)) (O_b_sbappS_3 cy vg vgv vgm vgc vnb vgf) (fun (u : Nat × Nat × (Nat → Int32) × Int32) => vg) (va_A [(vg, .inr (0, [.ref vgv, .int 0, .int vgm, .int vgc])), (vgv, .inl (cy 3, vnb, .inl vgf))] sz)) 1 70 (va_A [(vg, .inr (0, [.ref vgv, .int 0, .int vgm, .int vgc])), (vgv, .inl (cy 3, vnb, .inl vgf))] sz) := by
  refine mw (Qc := Qr (dC, dI) vwCl (fun (u : Nat × Nat × (Nat → Int32) × Int32) => (sb_Fit u.2.2.1) ∧ (0 ≤ (u.2.2.2 : Int32).toInt ∧ (u.2.2.2 : Int32).toInt ≤ 42) ∧ ((u.2.1 = 16 ∨ u.2.1 = 34 ∨ u.2.1 = 70)) ∧ ((u.2.2.2 : Int32).toInt ≤ (u.2.1 : Int)) ∧ ((u.2.2.2 : Int32).toInt = (vgc : Int32).toInt + 6)) (O_b_sbappS_3 cy vg vgv vgm vgc vnb vgf) (fun (u : Nat × Nat × (Nat → Int32) × Int32) => vg)) RJ4 rfl (by decide +kernel) (Nat.le_of_ble_eq_true rfl) ?_
  intro p e s m below meth c A hx hb hr hlocks av9 hav hts hown hnm hml hK hP hD hA hS hE hAe Q9 hQ9 ls hl
  have hAB : ∀ q : Nat, A q → B q := by rw [hAe]; exact hB
  have hEA := hE.narrow hAB
  have hl : lv_has ls 2 [(0, .ref vg), (1, .ref (kS 3))] := hl
  refine lv_aload_n hx hb dJ4_append_15ec4_0 rfl (lv_at hl 0 rfl) ?_
  refine lv_aload_n hx hb dJ4_append_15ec4_1 rfl (lv_at hl 1 rfl) ?_
  refine jn_r (wr := []) (rU (As := [.ref (kS 3)]) (rest := []) (ci := 0) ⟨hx, hb, hml, hown, hts⟩ (b_appS_3 l dC dI cy _ B kS vS vg vgv vgm vgc vnb vgf r_vgc p_vgf hn hgc (fun q hq => hAB q (va_free hD hS hA [0, 1] rfl q hq))) (cw_J4_29 hts rfl rfl ⟨Nat.le_of_ble_eq_true rfl, Nat.le_of_ble_eq_true rfl⟩) hP hD hK [0, 1] rfl rfl rfl rfl EnvB.calling (EnvB.at hE hS hAB (fun _ h => h)) rfl hl.1 rfl (Nat.le_of_ble_eq_true rfl) dJ4_append_15ec4_2 ⟨Nat.le_of_ble_eq_true rfl, Nat.le_of_ble_eq_true rfl⟩) hP hD hS hA [0, 1] [] rfl rfl rfl (by decide) (fun u_3 H locs hp_2 hP hD hS => ?_)
  obtain ⟨vgv_4, vnb_5, vgf_6, vgc_7⟩ := u_3
  have hp_2 : (sb_Fit vgf_6) ∧ (0 ≤ (vgc_7 : Int32).toInt ∧ (vgc_7 : Int32).toInt ≤ 42) ∧ ((vnb_5 = 16 ∨ vnb_5 = 34 ∨ vnb_5 = 70)) ∧ ((vgc_7 : Int32).toInt ≤ (vnb_5 : Int)) ∧ ((vgc_7 : Int32).toInt = (vgc : Int32).toInt + 6) := hp_2
  obtain ⟨q_8, q_9, q_10, q_11, q_12⟩ := hp_2
  have hP : va_P (dC, dI) vwCl [(vg, .inr (0, [.ref vgv_4, .int 0, .int vgm, .int vgc_7])), (vgv_4, .inl (cy 3, vnb_5, .inl vgf_6))] H := hP
  have hD : va_D A [(vg, .inr (0, [.ref vgv_4, .int 0, .int vgm, .int vgc_7])), (vgv_4, .inl (cy 3, vnb_5, .inl vgf_6))] := hD
  refine W.widen (k := 1) (n := 70) (by decide) (by decide) ?_
  refine W.eq (g2 := F0 m 5 ls [.ref vg]) rfl ?_
  refine lv_pop hx hb dJ4_append_15ec4_5 rfl ?_
  refine lv_aload_n hx hb dJ4_append_15ec4_6 rfl (lv_at hl 0 rfl) ?_
  refine W.widen (k := 1) (n := 70) (by decide) (by decide) ?_
  rw [hQ9]
  exact re_r (vgv_4, vnb_5, vgf_6, vgc_7) hx hb hr (Or.inl ⟨_, rfl⟩) hlocks ⟨(show sb_Fit vgf_6 from q_8), (show 0 ≤ (vgc_7 : Int32).toInt ∧ (vgc_7 : Int32).toInt ≤ 42 from ⟨by omega, by omega⟩), (show (vnb_5 = 16 ∨ vnb_5 = 34 ∨ vnb_5 = 70) from q_10), (show (vgc_7 : Int32).toInt ≤ (vnb_5 : Int) from q_11), (show (vgc_7 : Int32).toInt = (vgc : Int32).toInt + 6 from q_12)⟩ (hP.sub [0, 1] rfl) (hD.sub [0, 1] rfl rfl) hS dJ4_append_15ec4_7
