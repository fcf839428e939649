set_option maxHeartbeats 4000000 in
set_option maxRecDepth 100000 in
theorem b_pc0 (l : Launch) (dC : Nat → ClassId) (dI : Nat → Nat → Nat) (cy : Nat → ClassId) (sz : Nat) (B : Nat → Prop) (kS vS : Nat → Nat) (vi : Int32) (vn : Int32) (r_vi : 0 ≤ (vi : Int32).toInt ∧ (vi : Int32).toInt ≤ 42) (r_vn : 0 ≤ (vn : Int32).toInt ∧ (vn : Int32).toInt ≤ 70) (hi0 : 0 ≤ (vi : Int32).toInt) (hi1 : (vi : Int32).toInt < (vn : Int32).toInt) (hB : ∀ q : Nat, va_A [] sz q → B q) : Met l yJ3_checkIndex_8e157 (wl yJ3_checkIndex_8e157 cJ3_checkIndex_8e157 3 (some .int)) ({ frames := 0, cells := 0, slots := 0, locals := 0 }) (Pw (dC, dI) vwCl cy [] sz [.int vi, .int vn, .null] (EnvB B kS vS)) (Qi (dC, dI) vwCl (fun (r : Int32) (u : Unit) => True) (fun (u : Unit) => []) (va_A [] sz)) 0 0 (va_A [] sz) := by
  refine mw (Qc := Qi (dC, dI) vwCl (fun (r : Int32) (u : Unit) => True) (fun (u : Unit) => [])) RJ3 rfl (by decide +kernel) (Nat.le_of_ble_eq_true rfl) ?_
  intro p e s m below meth c A hx hb hr hlocks av9 hav hts hown hnm hml hK hP hD hA hS hE hAe Q9 hQ9 ls hl
  have hAB : ∀ q : Nat, A q → B q := by rw [hAe]; exact hB
  have hEA := hE.narrow hAB
  have hl : lv_has ls 3 [(0, .int vi), (1, .int vn), (2, .null)] := hl
  refine lv_iload_n hx hb dJ3_checkIndex_8e157_0 rfl (lv_at hl 0 rfl) ?_
  have k_0 : (0 : Int32).toInt = 0 := by decide
  refine lv_if_lt (tgt := 9) hx hb dJ3_checkIndex_8e157_1 (by decide) (fun c9 => absurd (i_lt.mp c9) (by omega)) (fun _ => ?_)
  refine lv_iload_n hx hb dJ3_checkIndex_8e157_4 rfl (lv_at hl 0 rfl) ?_
  refine lv_iload_n hx hb dJ3_checkIndex_8e157_5 rfl (lv_at hl 1 rfl) ?_
  refine lv_icmp_lt (tgt := 16) hx hb dJ3_checkIndex_8e157_6 (by decide) (fun _ => ?_) (fun c9 => (c9 (i_lt.mpr (by omega))).elim)
  refine lv_iload_n hx hb dJ3_checkIndex_8e157_16 rfl (lv_at hl 0 rfl) ?_
  rw [hQ9]
  exact re_i () hx hb hr hlocks trivial (hP.sub [] rfl) (hD.sub [] rfl rfl) hS dJ3_checkIndex_8e157_17
set_option maxHeartbeats 4000000 in
set_option maxRecDepth 100000 in
theorem b_pc1 (l : Launch) (dC : Nat → ClassId) (dI : Nat → Nat → Nat) (cy : Nat → ClassId) (sz : Nat) (B : Nat → Prop) (kS vS : Nat → Nat) (vi : Int32) (vn : Int32) (vt9 : Nat) (r_vi : 0 ≤ (vi : Int32).toInt ∧ (vi : Int32).toInt ≤ 42) (r_vn : 0 ≤ (vn : Int32).toInt ∧ (vn : Int32).toInt ≤ 70) (hi0 : 0 ≤ (vi : Int32).toInt) (hi1 : (vi : Int32).toInt < (vn : Int32).toInt) (hB : ∀ q : Nat, va_A [] sz q → B q) : Met l yJ3_checkIndex_8e157 (wl yJ3_checkIndex_8e157 cJ3_checkIndex_8e157 3 (some .int)) ({ frames := 0, cells := 0, slots := 0, locals := 0 }) (Pw (dC, dI) vwCl cy [] sz [.int vi, .int vn, .ref vt9] (EnvB B kS vS)) (Qi (dC, dI) vwCl (fun (r : Int32) (u : Unit) => True) (fun (u : Unit) => []) (va_A [] sz)) 0 0 (va_A [] sz) := by
  refine mw (Qc := Qi (dC, dI) vwCl (fun (r : Int32) (u : Unit) => True) (fun (u : Unit) => [])) RJ3 rfl (by decide +kernel) (Nat.le_of_ble_eq_true rfl) ?_
  intro p e s m below meth c A hx hb hr hlocks av9 hav hts hown hnm hml hK hP hD hA hS hE hAe Q9 hQ9 ls hl
  have hAB : ∀ q : Nat, A q → B q := by rw [hAe]; exact hB
  have hEA := hE.narrow hAB
  have hl : lv_has ls 3 [(0, .int vi), (1, .int vn), (2, .ref vt9)] := hl
  refine lv_iload_n hx hb dJ3_checkIndex_8e157_0 rfl (lv_at hl 0 rfl) ?_
  have k_0 : (0 : Int32).toInt = 0 := by decide
  refine lv_if_lt (tgt := 9) hx hb dJ3_checkIndex_8e157_1 (by decide) (fun c9 => absurd (i_lt.mp c9) (by omega)) (fun _ => ?_)
  refine lv_iload_n hx hb dJ3_checkIndex_8e157_4 rfl (lv_at hl 0 rfl) ?_
  refine lv_iload_n hx hb dJ3_checkIndex_8e157_5 rfl (lv_at hl 1 rfl) ?_
  refine lv_icmp_lt (tgt := 16) hx hb dJ3_checkIndex_8e157_6 (by decide) (fun _ => ?_) (fun c9 => (c9 (i_lt.mpr (by omega))).elim)
  refine lv_iload_n hx hb dJ3_checkIndex_8e157_16 rfl (lv_at hl 0 rfl) ?_
  rw [hQ9]
  exact re_i () hx hb hr hlocks trivial (hP.sub [] rfl) (hD.sub [] rfl rfl) hS dJ3_checkIndex_8e157_17
set_option maxHeartbeats 4000000 in
set_option maxRecDepth 100000 in
theorem b_check (l : Launch) (dC : Nat → ClassId) (dI : Nat → Nat → Nat) (cy : Nat → ClassId) (sz : Nat) (B : Nat → Prop) (kS vS : Nat → Nat) (vi : Int32) (vn : Int32) (r_vi : 0 ≤ (vi : Int32).toInt ∧ (vi : Int32).toInt ≤ 42) (r_vn : 0 ≤ (vn : Int32).toInt ∧ (vn : Int32).toInt ≤ 70) (hi0 : 0 ≤ (vi : Int32).toInt) (hi1 : (vi : Int32).toInt < (vn : Int32).toInt) (hB : ∀ q : Nat, va_A [] sz q → B q) : Met l yJ0_checkIndex_df160 (wl yJ0_checkIndex_df160 cJ0_checkIndex_df160 2 none) ({ frames := 1, cells := 0, slots := 0, locals := 64 }) (Pw (dC, dI) vwCl cy [] sz [.int vi, .int vn] (EnvB B kS vS)) (Qv (dC, dI) vwCl (fun (u : Unit) => True) (fun (u : Unit) => []) (va_A [] sz)) 0 0 (va_A [] sz) := by
  refine mw (Qc := Qv (dC, dI) vwCl (fun (u : Unit) => True) (fun (u : Unit) => [])) RJ0 rfl (by decide +kernel) (Nat.le_of_ble_eq_true rfl) ?_
  intro p e s m below meth c A hx hb hr hlocks av9 hav hts hown hnm hml hK hP hD hA hS hE hAe Q9 hQ9 ls hl
  have hAB : ∀ q : Nat, A q → B q := by rw [hAe]; exact hB
  have hEA := hE.narrow hAB
  have hl : lv_has ls 2 [(0, .int vi), (1, .int vn)] := hl
  refine lv_iload_n hx hb dJ0_checkIndex_df160_0 rfl (lv_at hl 0 rfl) ?_
  refine lv_iload_n hx hb dJ0_checkIndex_df160_1 rfl (lv_at hl 1 rfl) ?_
  rcases hEA.2.2.2.2.2.2.1 with hz9 | ⟨t9, hz9⟩
  · refine va_gets hx hb hz9 hS hown (hts _ t68) (fun _ h => h) dJ0_checkIndex_df160_2 ?_
    refine jn_i (wr := []) (rS (As := [.int vi, .int vn, .null]) (rest := []) ⟨hx, hb, hml, hown, hts⟩ (b_pc0 l dC dI cy _ B kS vS vi vn r_vi r_vn hi0 hi1 (fun q hq => hAB q (va_free hD hS hA [] rfl q hq))) (cw_J0_1059 hts rfl rfl ⟨Nat.le_of_ble_eq_true rfl, Nat.le_of_ble_eq_true rfl⟩) hP hD hK [] rfl rfl EnvB.calling (EnvB.at hE hS hAB (fun _ h => h)) rfl hl.1 rfl (Nat.le_of_ble_eq_true rfl) dJ0_checkIndex_df160_5 ⟨Nat.le_of_ble_eq_true rfl, Nat.le_of_ble_eq_true rfl⟩) hP hD hS hA [] [] rfl rfl rfl (by decide) (fun r_1 u_3 H locs hp_2 hP hD hS => ?_)
    have hP : va_P (dC, dI) vwCl [] H := hP
    have hD : va_D A [] := hD
    refine lv_pop hx hb dJ0_checkIndex_df160_8 rfl ?_
    rw [hQ9]
    exact re_v () hx hb hr hlocks trivial (hP.sub [] rfl) (hD.sub [] rfl rfl) hS dJ0_checkIndex_df160_9
  · refine va_gets hx hb hz9 hS hown (hts _ t68) (fun _ h => h) dJ0_checkIndex_df160_2 ?_
    refine jn_i (wr := []) (rS (As := [.int vi, .int vn, .ref t9]) (rest := []) ⟨hx, hb, hml, hown, hts⟩ (b_pc1 l dC dI cy _ B kS vS vi vn t9 r_vi r_vn hi0 hi1 (fun q hq => hAB q (va_free hD hS hA [] rfl q hq))) (cw_J0_1059 hts rfl rfl ⟨Nat.le_of_ble_eq_true rfl, Nat.le_of_ble_eq_true rfl⟩) hP hD hK [] rfl rfl EnvB.calling (EnvB.at hE hS hAB (fun _ h => h)) rfl hl.1 rfl (Nat.le_of_ble_eq_true rfl) dJ0_checkIndex_df160_5 ⟨Nat.le_of_ble_eq_true rfl, Nat.le_of_ble_eq_true rfl⟩) hP hD hS hA [] [] rfl rfl rfl (by decide) (fun r_4 u_6 H locs hp_5 hP hD hS => ?_)
    have hP : va_P (dC, dI) vwCl [] H := hP
    have hD : va_D A [] := hD
    refine lv_pop hx hb dJ0_checkIndex_df160_8 rfl ?_
    rw [hQ9]
    exact re_v () hx hb hr hlocks trivial (hP.sub [] rfl) (hD.sub [] rfl rfl) hS dJ0_checkIndex_df160_9
abbrev cJ5_charAt_5068e : ByteArray := prog_15_method_14_code
def yJ5_charAt_5068e : MethodName := ⟨RJ5, "charAt", "(I)C"⟩
theorem t1159 : Cond.code yJ5_charAt_5068e cJ5_charAt_5068e 5 (some .char) ∈ GW := gw_mem 1273 (by decide +kernel) (by decide +kernel)
abbrev O_b_charAt (cy : Nat → ClassId) (vg : Nat) (vgv : Nat) (vgm : Int32) (vgc : Int32) (vnb : Nat) (vgf : Nat → Int32) (vi : Int32) (u : Unit) : va_W := [(vg, .inr (0, [.ref vgv, .int 0, .int vgm, .int vgc])), (vgv, .inl (cy 3, vnb, .inl vgf))]
theorem dJ5_charAt_5068e_0 : decode cJ5_charAt_5068e 0 = .ok (.aload_n 0, 1) := by decide +kernel
theorem dJ5_charAt_5068e_1 : decode cJ5_charAt_5068e 1 = .ok (.getfield 22, 3) := by decide +kernel
theorem dJ5_charAt_5068e_4 : decode cJ5_charAt_5068e 4 = .ok (.istore_n 2, 1) := by decide +kernel
theorem dJ5_charAt_5068e_5 : decode cJ5_charAt_5068e 5 = .ok (.aload_n 0, 1) := by decide +kernel
theorem dJ5_charAt_5068e_6 : decode cJ5_charAt_5068e 6 = .ok (.getfield 15, 3) := by decide +kernel
theorem dJ5_charAt_5068e_9 : decode cJ5_charAt_5068e 9 = .ok (.astore_n 3, 1) := by decide +kernel
theorem dJ5_charAt_5068e_10 : decode cJ5_charAt_5068e 10 = .ok (.aload_n 0, 1) := by decide +kernel
theorem dJ5_charAt_5068e_11 : decode cJ5_charAt_5068e 11 = .ok (.getfield 79, 3) := by decide +kernel
theorem dJ5_charAt_5068e_14 : decode cJ5_charAt_5068e 14 = .ok (.aload_n 3, 1) := by decide +kernel
theorem dJ5_charAt_5068e_15 : decode cJ5_charAt_5068e 15 = .ok (.arraylength, 1) := by decide +kernel
theorem dJ5_charAt_5068e_16 : decode cJ5_charAt_5068e 16 = .ok (.iload_n 2, 1) := by decide +kernel
theorem dJ5_charAt_5068e_17 : decode cJ5_charAt_5068e 17 = .ok (.ishr, 1) := by decide +kernel
theorem dJ5_charAt_5068e_18 : decode cJ5_charAt_5068e 18 = .ok (.invokestatic 138, 3) := by decide +kernel
theorem t1160 : Cond.methodLink RJ5 138 Lib.Math.min.name ∈ GW := gw_mem 1274 (by decide +kernel) (by decide +kernel)
theorem dJ5_charAt_5068e_21 : decode cJ5_charAt_5068e 21 = .ok (.istore 4, 2) := by decide +kernel
theorem dJ5_charAt_5068e_23 : decode cJ5_charAt_5068e 23 = .ok (.iload_n 1, 1) := by decide +kernel
theorem dJ5_charAt_5068e_24 : decode cJ5_charAt_5068e 24 = .ok (.iload 4, 2) := by decide +kernel
theorem dJ5_charAt_5068e_26 : decode cJ5_charAt_5068e 26 = .ok (.invokestatic 144, 3) := by decide +kernel
theorem t1161 : Cond.methodLink RJ5 144 yJ0_checkIndex_df160 ∈ GW := gw_mem 1275 (by decide +kernel) (by decide +kernel)
theorem cw_J5_144 {R : Room} {s : State} {args : Array Value} {rm : Room} {mc ms : Nat} (hts : ∀ w ∈ GW, w.before args s = true) (hrc : rm.cells = mc) (hrs : rm.slots = ms) (hR : rm.frames + 1 ≤ R.frames ∧ 8 + (2 + 11) + rm.locals ≤ R.locals) : CallB R s args RJ5 144 yJ0_checkIndex_df160 cJ0_checkIndex_df160 2 none (wl yJ0_checkIndex_df160 cJ0_checkIndex_df160 2 none) rm mc ms 2 ∧ (Cond.static yJ0_checkIndex_df160).before args s = true := va_cwS 2 hts (gi_S t1161 t66 t3 t67) rfl hrc hrs (by decide +kernel) hR
theorem dJ5_charAt_5068e_29 : decode cJ5_charAt_5068e 29 = .ok (.iload_n 2, 1) := by decide +kernel
theorem dJ5_charAt_5068e_30 : decode cJ5_charAt_5068e 30 = .ok (.ifCond .ne 12, 3) := by decide +kernel
theorem dJ5_charAt_5068e_33 : decode cJ5_charAt_5068e 33 = .ok (.aload_n 3, 1) := by decide +kernel
theorem dJ5_charAt_5068e_34 : decode cJ5_charAt_5068e 34 = .ok (.iload_n 1, 1) := by decide +kernel
theorem dJ5_charAt_5068e_35 : decode cJ5_charAt_5068e 35 = .ok (.baload, 1) := by decide +kernel
theorem dJ5_charAt_5068e_36 : decode cJ5_charAt_5068e 36 = .ok (.sipush 255, 3) := by decide +kernel
theorem dJ5_charAt_5068e_39 : decode cJ5_charAt_5068e 39 = .ok (.iand, 1) := by decide +kernel
theorem dJ5_charAt_5068e_40 : decode cJ5_charAt_5068e 40 = .ok (.i2c, 1) := by decide +kernel
theorem dJ5_charAt_5068e_41 : decode cJ5_charAt_5068e 41 = .ok (.ireturn, 1) := by decide +kernel
set_option maxHeartbeats 4000000 in
set_option maxRecDepth 100000 in
theorem b_charAt (l : Launch) (dC : Nat → ClassId) (dI : Nat → Nat → Nat) (cy : Nat → ClassId) (sz : Nat) (B : Nat → Prop) (kS vS : Nat → Nat) (vg : Nat) (vgv : Nat) (vgm : Int32) (vgc : Int32) (vnb : Nat) (vgf : Nat → Int32) (vi : Int32) (r_vgc : 0 ≤ (vgc : Int32).toInt ∧ (vgc : Int32).toInt ≤ 42) (r_vi : 0 ≤ (vi : Int32).toInt ∧ (vi : Int32).toInt ≤ 41) (p_vgf : sb_Fit vgf) (hn : (vnb = 16 ∨ vnb = 34 ∨ vnb = 70)) (hgc : (vgc : Int32).toInt ≤ (vnb : Int)) (hi : (vi : Int32).toInt < (vgc : Int32).toInt) (hB : ∀ q : Nat, va_A [(vg, .inr (0, [.ref vgv, .int 0, .int vgm, .int vgc])), (vgv, .inl (cy 3, vnb, .inl vgf))] sz q → B q) : Met l yJ5_charAt_5068e (wl yJ5_charAt_5068e cJ5_charAt_5068e 5 (some .char)) ({ frames := 2, cells := 0, slots := 0, locals := 128 }) (Pw (dC, dI) vwCl cy [(vg, .inr (0, [.ref vgv, .int 0, .int vgm, .int vgc])), (vgv, .inl (cy 3, vnb, .inl vgf))] sz [.ref vg, .int vi] (EnvB B kS vS)) (Qi (dC, dI) vwCl (fun (r : Int32) (u : Unit) => (narrow .char (.int r) = .int r)) (O_b_charAt cy vg vgv vgm vgc vnb vgf vi) (va_A [(vg, .inr (0, [.ref vgv, .int 0, .int vgm, .int vgc])), (vgv, .inl (cy 3, vnb, .inl vgf))] sz)) 0 0 (va_A [(vg, .inr (0, [.ref vgv, .int 0, .int vgm, .int vgc])), (vgv, .inl (cy 3, vnb, .inl vgf))] sz) := by
  refine mw (Qc := Qi (dC, dI) vwCl (fun (r : Int32) (u : Unit) => (narrow .char (.int r) = .int r)) (O_b_charAt cy vg vgv vgm vgc vnb vgf vi)) RJ5 rfl (by decide +kernel) (Nat.le_of_ble_eq_true rfl) ?_
  intro p e s m below meth c A hx hb hr hlocks av9 hav hts hown hnm hml hK hP hD hA hS hE hAe Q9 hQ9 ls hl
  have hAB : ∀ q : Nat, A q → B q := by rw [hAe]; exact hB
  have hEA := hE.narrow hAB
  have hl : lv_has ls 5 [(0, .ref vg), (1, .int vi)] := hl
  refine lv_aload_n hx hb dJ5_charAt_5068e_0 rfl (lv_at hl 0 rfl) ?_
  refine gf_J5_22 hx hb hts hown hK hP 0 rfl rfl dJ5_charAt_5068e_1 ?_
  refine lv_istore_n (lv' := [(2, .int 0), (0, .ref vg), (1, .int vi)]) hx hb dJ5_charAt_5068e_4 rfl hl (by decide) rfl (fun ls hl => ?_)
  refine lv_aload_n hx hb dJ5_charAt_5068e_5 rfl (lv_at hl 1 rfl) ?_
  refine gf_J5_15 hx hb hts hown hK hP 0 rfl rfl dJ5_charAt_5068e_6 ?_
  refine lv_astore_n (lv' := [(3, .ref vgv), (2, .int 0), (0, .ref vg), (1, .int vi)]) hx hb dJ5_charAt_5068e_9 rfl hl (by decide) rfl (fun ls hl => ?_)
  refine lv_aload_n hx hb dJ5_charAt_5068e_10 rfl (lv_at hl 2 rfl) ?_
  refine gf_J5_79 hx hb hts hown hK hP 0 rfl rfl dJ5_charAt_5068e_11 ?_
  refine lv_aload_n hx hb dJ5_charAt_5068e_14 rfl (lv_at hl 0 rfl) ?_
  refine va_alen hx hb hK hP 1 3 rfl rfl rfl dJ5_charAt_5068e_15 ?_
  refine lv_topi (fun z_1 ez_1 => ?_)
  have bz_1 : z_1.toInt = ((vnb : Nat) : Int) := i_len ez_1 (by omega)
  refine lv_iload_n hx hb dJ5_charAt_5068e_16 rfl (lv_at hl 1 rfl) ?_
  refine lv_ishr hx hb dJ5_charAt_5068e_17 ?_
  refine as_i z_1 (sb_shr0 _) ?_
  refine va_mmin (rest := []) hx hb (by rw [hml, hl.1]) hown (hts _ t1160) (hts _ t783) (hts _ t24) (hts _ t784) (Nat.le_of_ble_eq_true rfl) (Nat.le_of_ble_eq_true rfl) (Nat.le_of_ble_eq_true rfl) (Nat.le_of_ble_eq_true rfl) dJ5_charAt_5068e_18 ?_
  refine lv_topi (fun z_2 ez_2 => ?_)
  have bz_2 : z_2.toInt ≤ vgc.toInt ∧ z_2.toInt ≤ z_1.toInt ∧ (z_2.toInt = vgc.toInt ∨ z_2.toInt = z_1.toInt) := i_min ez_2
  refine lv_istore (lv' := [(4, .int z_2), (3, .ref vgv), (2, .int 0), (0, .ref vg), (1, .int vi)]) hx hb dJ5_charAt_5068e_21 hl (by decide) rfl (fun ls hl => ?_)
  refine lv_iload_n hx hb dJ5_charAt_5068e_23 rfl (lv_at hl 4 rfl) ?_
  refine lv_iload hx hb dJ5_charAt_5068e_24 (lv_at hl 0 rfl) ?_
  refine jn_v (wr := [(vg, .inr (0, [.ref vgv, .int 0, .int vgm, .int vgc])), (vgv, .inl (cy 3, vnb, .inl vgf))]) (rS (As := [.int vi, .int z_2]) (rest := []) ⟨hx, hb, hml, hown, hts⟩ (b_check l dC dI cy _ B kS vS vi z_2 ⟨by omega, by omega⟩ ⟨by omega, by omega⟩ (by omega) (by omega) (fun q hq => hAB q (va_free hD hS hA [] rfl q hq))) (cw_J5_144 hts rfl rfl ⟨Nat.le_of_ble_eq_true rfl, Nat.le_of_ble_eq_true rfl⟩) hP hD hK [] rfl rfl EnvB.calling (EnvB.at hE hS hAB (fun _ h => h)) rfl hl.1 rfl (Nat.le_of_ble_eq_true rfl) dJ5_charAt_5068e_26 ⟨Nat.le_of_ble_eq_true rfl, Nat.le_of_ble_eq_true rfl⟩) hP hD hS hA [] [0, 1] rfl rfl rfl (by decide) (fun u_5 H locs hp_4 hP hD hS => ?_)
  have hP : va_P (dC, dI) vwCl [(vg, .inr (0, [.ref vgv, .int 0, .int vgm, .int vgc])), (vgv, .inl (cy 3, vnb, .inl vgf))] H := hP
  have hD : va_D A [(vg, .inr (0, [.ref vgv, .int 0, .int vgm, .int vgc])), (vgv, .inl (cy 3, vnb, .inl vgf))] := hD
  refine lv_iload_n hx hb dJ5_charAt_5068e_29 rfl (lv_at hl 2 rfl) ?_
  refine lv_if_ne (tgt := 42) hx hb dJ5_charAt_5068e_30 (by decide) (fun c9 => absurd c9 (by decide)) (fun _ => ?_)
  refine lv_aload_n hx hb dJ5_charAt_5068e_33 rfl (lv_at hl 1 rfl) ?_
  refine lv_iload_n hx hb dJ5_charAt_5068e_34 rfl (lv_at hl 4 rfl) ?_
  have hin_6 : vp_in vi vnb := vp_in_iff.mpr ⟨by omega, by omega⟩
  refine va_bald hx hb hK hP 1 3 rfl rfl hin_6 dJ5_charAt_5068e_35 ?_
  refine lv_topi (fun z_7 ez_7 => ?_)
  refine lv_sipush (v := 255) hx hb dJ5_charAt_5068e_36 (by decide) ?_
  refine lv_iand hx hb dJ5_charAt_5068e_39 ?_
  refine lv_topi (fun z_8 ez_8 => ?_)
  have k_255 : (255 : Int32).toInt = 255 := by decide
  have bz_8 : 0 ≤ z_8.toInt ∧ z_8.toInt ≤ 255 := i_and255 ez_8
  refine lv_i2c (v := z_8) hx hb dJ5_charAt_5068e_40 (by rw [ez_8]; exact sc_c2 _) ?_
  rw [hQ9]
  exact re_c () hx hb hr hlocks (by rw [ez_8]; exact sc_nar _) (show narrow .char (.int z_8) = .int z_8 from (by rw [ez_8]; exact sc_nar _)) (hP.sub [0, 1] rfl) (hD.sub [0, 1] rfl rfl) hS dJ5_charAt_5068e_41
abbrev cJ4_charAt_5068e : ByteArray := prog_26_method_88_code
def yJ4_charAt_5068e : MethodName := ⟨RJ4, "charAt", "(I)C"⟩
theorem t1156 : Cond.code yJ4_charAt_5068e cJ4_charAt_5068e 2 (some .char) ∈ GW := gw_mem 1270 (by decide +kernel) (by decide +kernel)
abbrev O_b_sbcharAt (cy : Nat → ClassId) (vg : Nat) (vgv : Nat) (vgm : Int32) (vgc : Int32) (vnb : Nat) (vgf : Nat → Int32) (vi : Int32) (u : Unit) : va_W := [(vg, .inr (0, [.ref vgv, .int 0, .int vgm, .int vgc])), (vgv, .inl (cy 3, vnb, .inl vgf))]
theorem dJ4_charAt_5068e_0 : decode cJ4_charAt_5068e 0 = .ok (.aload_n 0, 1) := by decide +kernel
theorem dJ4_charAt_5068e_1 : decode cJ4_charAt_5068e 1 = .ok (.iload_n 1, 1) := by decide +kernel
theorem dJ4_charAt_5068e_2 : decode cJ4_charAt_5068e 2 = .ok (.invokespecial 329, 3) := by decide +kernel
theorem t1157 : Cond.methodLink RJ4 329 yJ5_charAt_5068e ∈ GW := gw_mem 1271 (by decide +kernel) (by decide +kernel)
theorem t1158 : Cond.instanceMethod yJ5_charAt_5068e ∈ GW := gw_mem 1272 (by decide +kernel) (by decide +kernel)
theorem t2083 : Cond.sameMethod yJ5_charAt_5068e.cls yJ5_charAt_5068e.cls yJ5_charAt_5068e.name yJ5_charAt_5068e.desc ∈ GW := gw_mem 2197 (by decide +kernel) (by decide +kernel)
theorem cw_J4_329 {R : Room} {s : State} {args : Array Value} {rm : Room} {mc ms : Nat} (hts : ∀ w ∈ GW, w.before args s = true) (hrc : rm.cells = mc) (hrs : rm.slots = ms) (hR : rm.frames + 1 ≤ R.frames ∧ 8 + (5 + 11) + rm.locals ≤ R.locals) : va_CS R s args RJ4 329 yJ5_charAt_5068e cJ5_charAt_5068e 5 (some .char) (wl yJ5_charAt_5068e cJ5_charAt_5068e 5 (some .char)) rm mc ms 1 := va_cwSU 1 hts (gi_U t1157 t2083 t359 t1158 t13 t1159) rfl hrc hrs (by decide +kernel) hR
theorem dJ4_charAt_5068e_5 : decode cJ4_charAt_5068e 5 = .ok (.ireturn, 1) := by decide +kernel
set_option maxHeartbeats 4000000 in
set_option maxRecDepth 100000 in
theorem b_sbcharAt (l : Launch) (dC : Nat → ClassId) (dI : Nat → Nat → Nat) (cy : Nat → ClassId) (sz : Nat) (B : Nat → Prop) (kS vS : Nat → Nat) (vg : Nat) (vgv : Nat) (vgm : Int32) (vgc : Int32) (vnb : Nat) (vgf : Nat → Int32) (vi : Int32) (r_vgc : 0 ≤ (vgc : Int32).toInt ∧ (vgc : Int32).toInt ≤ 42) (r_vi : 0 ≤ (vi : Int32).toInt ∧ (vi : Int32).toInt ≤ 41) (p_vgf : sb_Fit vgf) (hn : (vnb = 16 ∨ vnb = 34 ∨ vnb = 70)) (hgc : (vgc : Int32).toInt ≤ (vnb : Int)) (hi : (vi : Int32).toInt < (vgc : Int32).toInt) (hB : ∀ q : Nat, va_A [(vg, .inr (0, [.ref vgv, .int 0, .int vgm, .int vgc])), (vgv, .inl (cy 3, vnb, .inl vgf))] sz q → B q) : Met l yJ4_charAt_5068e (wl yJ4_charAt_5068e cJ4_charAt_5068e 2 (some .char)) ({ frames := 3, cells := 0, slots := 0, locals := 192 }) (Pw (dC, dI) vwCl cy [(vg, .inr (0, [.ref vgv, .int 0, .int vgm, .int vgc])), (vgv, .inl (cy 3, vnb, .inl vgf))] sz [.ref vg, .int vi] (EnvB B kS vS)) (Qi (dC, dI) vwCl (fun (r : Int32) (u : Unit) => True) (O_b_sbcharAt cy vg vgv vgm vgc vnb vgf vi) (va_A [(vg, .inr (0, [.ref vgv, .int 0, .int vgm, .int vgc])), (vgv, .inl (cy 3, vnb, .inl vgf))] sz)) 0 0 (va_A [(vg, .inr (0, [.ref vgv, .int 0, .int vgm, .int vgc])), (vgv, .inl (cy 3, vnb, .inl vgf))] sz) := by
  refine mw (Qc := Qi (dC, dI) vwCl (fun (r : Int32) (u : Unit) => True) (O_b_sbcharAt cy vg vgv vgm vgc vnb vgf vi)) RJ4 rfl (by decide +kernel) (Nat.le_of_ble_eq_true rfl) ?_
  intro p e s m below meth c A hx hb hr hlocks av9 hav hts hown hnm hml hK hP hD hA hS hE hAe Q9 hQ9 ls hl
  have hAB : ∀ q : Nat, A q → B q := by rw [hAe]; exact hB
  have hEA := hE.narrow hAB
  have hl : lv_has ls 2 [(0, .ref vg), (1, .int vi)] := hl
  refine lv_aload_n hx hb dJ4_charAt_5068e_0 rfl (lv_at hl 0 rfl) ?_
  refine lv_iload_n hx hb dJ4_charAt_5068e_1 rfl (lv_at hl 1 rfl) ?_
  refine jn_i (wr := []) (rU (As := [.int vi]) (rest := []) (ci := 0) ⟨hx, hb, hml, hown, hts⟩ (b_charAt l dC dI cy _ B kS vS vg vgv vgm vgc vnb vgf vi r_vgc r_vi p_vgf hn hgc hi (fun q hq => hAB q (va_free hD hS hA [0, 1] rfl q hq))) (cw_J4_329 hts rfl rfl ⟨Nat.le_of_ble_eq_true rfl, Nat.le_of_ble_eq_true rfl⟩) hP hD hK [0, 1] rfl rfl rfl rfl EnvB.calling (EnvB.at hE hS hAB (fun _ h => h)) rfl hl.1 rfl (Nat.le_of_ble_eq_true rfl) dJ4_charAt_5068e_2 ⟨Nat.le_of_ble_eq_true rfl, Nat.le_of_ble_eq_true rfl⟩) hP hD hS hA [0, 1] [] rfl rfl rfl (by decide) (fun r_1 u_3 H locs hp_2 hP hD hS => ?_)
  have hp_2 : (narrow .char (.int r_1) = .int r_1) := hp_2
  have q_4 := hp_2
  have hP : va_P (dC, dI) vwCl [(vg, .inr (0, [.ref vgv, .int 0, .int vgm, .int vgc])), (vgv, .inl (cy 3, vnb, .inl vgf))] H := hP
  have hD : va_D A [(vg, .inr (0, [.ref vgv, .int 0, .int vgm, .int vgc])), (vgv, .inl (cy 3, vnb, .inl vgf))] := hD
  rw [hQ9]
  exact re_c () hx hb hr hlocks q_4 trivial (hP.sub [0, 1] rfl) (hD.sub [0, 1] rfl rfl) hS dJ4_charAt_5068e_5
