abbrev cX4_doDeed : ByteArray := prog_6_method_7_code
def yX4_doDeed : MethodName := ⟨RX4, "doDeed", "(II)I"⟩
theorem t773 : Cond.code yX4_doDeed cX4_doDeed 3 (some .int) ∈ GW := gw_mem 887 (by decide +kernel) (by decide +kernel)
abbrev O_g_doDeed (cy : Nat → ClassId) (vl : Nat) (vl1 : Nat) (vl2 : Nat) (vl3 : Nat) (vl4 : Nat) (vl5 : Nat) (vl6 : Nat) (vl7 : Nat) (vl8 : Nat) (vl9 : Nat) (vl10 : Nat) (vly : Int32) (vlf2 : Nat → Int32) (vm : Int32) (vd : Int32) (u : (Nat → Int32)) : va_W := [(vl, .inr (5, [.ref vl1, .ref vl2, .ref vl3, .ref vl4, .ref vl5, .ref vl6, .ref vl7, .ref vl8, .ref vl9, .ref vl10, .int vly])), (vl2, .inl (cy 0, 70, .inl u))]
theorem dX4_doDeed_0 : decode cX4_doDeed 0 = .ok (.aload_n 0, 1) := by decide +kernel
theorem dX4_doDeed_1 : decode cX4_doDeed 1 = .ok (.getfield 15, 3) := by decide +kernel
theorem dX4_doDeed_4 : decode cX4_doDeed 4 = .ok (.iload_n 1, 1) := by decide +kernel
theorem dX4_doDeed_5 : decode cX4_doDeed 5 = .ok (.bipush 10, 2) := by decide +kernel
theorem dX4_doDeed_7 : decode cX4_doDeed 7 = .ok (.imul, 1) := by decide +kernel
theorem dX4_doDeed_8 : decode cX4_doDeed 8 = .ok (.iload_n 2, 1) := by decide +kernel
theorem dX4_doDeed_9 : decode cX4_doDeed 9 = .ok (.iadd, 1) := by decide +kernel
theorem dX4_doDeed_10 : decode cX4_doDeed 10 = .ok (.iaload, 1) := by decide +kernel
theorem dX4_doDeed_11 : decode cX4_doDeed 11 = .ok (.bipush 9, 2) := by decide +kernel
theorem dX4_doDeed_13 : decode cX4_doDeed 13 = .ok (.if_icmp .lt 5, 3) := by decide +kernel
theorem dX4_doDeed_18 : decode cX4_doDeed 18 = .ok (.aload_n 0, 1) := by decide +kernel
theorem dX4_doDeed_19 : decode cX4_doDeed 19 = .ok (.getfield 15, 3) := by decide +kernel
theorem dX4_doDeed_22 : decode cX4_doDeed 22 = .ok (.iload_n 1, 1) := by decide +kernel
theorem dX4_doDeed_23 : decode cX4_doDeed 23 = .ok (.bipush 10, 2) := by decide +kernel
theorem dX4_doDeed_25 : decode cX4_doDeed 25 = .ok (.imul, 1) := by decide +kernel
theorem dX4_doDeed_26 : decode cX4_doDeed 26 = .ok (.iload_n 2, 1) := by decide +kernel
theorem dX4_doDeed_27 : decode cX4_doDeed 27 = .ok (.iadd, 1) := by decide +kernel
theorem dX4_doDeed_28 : decode cX4_doDeed 28 = .ok (.dup2, 1) := by decide +kernel
theorem dX4_doDeed_29 : decode cX4_doDeed 29 = .ok (.iaload, 1) := by decide +kernel
theorem dX4_doDeed_30 : decode cX4_doDeed 30 = .ok (.iconst 1, 1) := by decide +kernel
theorem dX4_doDeed_31 : decode cX4_doDeed 31 = .ok (.iadd, 1) := by decide +kernel
theorem dX4_doDeed_32 : decode cX4_doDeed 32 = .ok (.iastore, 1) := by decide +kernel
theorem dX4_doDeed_33 : decode cX4_doDeed 33 = .ok (.iconst 0, 1) := by decide +kernel
theorem dX4_doDeed_34 : decode cX4_doDeed 34 = .ok (.ireturn, 1) := by decide +kernel
theorem dX4_doDeed_16 : decode cX4_doDeed 16 = .ok (.iconst 1, 1) := by decide +kernel
theorem dX4_doDeed_17 : decode cX4_doDeed 17 = .ok (.ireturn, 1) := by decide +kernel
set_option maxHeartbeats 4000000 in
set_option maxRecDepth 100000 in
theorem g_doDeed (l : Launch) (dC : Nat → ClassId) (dI : Nat → Nat → Nat) (cy : Nat → ClassId) (sz : Nat) (vl : Nat) (vl1 : Nat) (vl2 : Nat) (vl3 : Nat) (vl4 : Nat) (vl5 : Nat) (vl6 : Nat) (vl7 : Nat) (vl8 : Nat) (vl9 : Nat) (vl10 : Nat) (vly : Int32) (vlf2 : Nat → Int32) (vm : Int32) (vd : Int32) (r_vm : 0 ≤ (vm : Int32).toInt ∧ (vm : Int32).toInt ≤ 6) (r_vd : 0 ≤ (vd : Int32).toInt ∧ (vd : Int32).toInt ≤ 9) (p_vlf2 : Rg vlf2 70 0 9) : Met l yX4_doDeed (wl yX4_doDeed cX4_doDeed 3 (some .int)) ({ frames := 0, cells := 0, slots := 0, locals := 0 }) (Pw (dC, dI) vwCl cy [(vl, .inr (5, [.ref vl1, .ref vl2, .ref vl3, .ref vl4, .ref vl5, .ref vl6, .ref vl7, .ref vl8, .ref vl9, .ref vl10, .int vly])), (vl2, .inl (cy 0, 70, .inl vlf2))] sz [.ref vl, .int vm, .int vd] nE) (Qi (dC, dI) vwCl (fun (r : Int32) (u : (Nat → Int32)) => (0 ≤ (r : Int32).toInt ∧ (r : Int32).toInt ≤ 1) ∧ (Rg u 70 0 9)) (O_g_doDeed cy vl vl1 vl2 vl3 vl4 vl5 vl6 vl7 vl8 vl9 vl10 vly vlf2 vm vd) (va_A [(vl, .inr (5, [.ref vl1, .ref vl2, .ref vl3, .ref vl4, .ref vl5, .ref vl6, .ref vl7, .ref vl8, .ref vl9, .ref vl10, .int vly])), (vl2, .inl (cy 0, 70, .inl vlf2))] sz)) 0 0 (va_A [(vl, .inr (5, [.ref vl1, .ref vl2, .ref vl3, .ref vl4, .ref vl5, .ref vl6, .ref vl7, .ref vl8, .ref vl9, .ref vl10, .int vly])), (vl2, .inl (cy 0, 70, .inl vlf2))] sz) := by
  refine mw (Qc := Qi (dC, dI) vwCl (fun (r : Int32) (u : (Nat → Int32)) => (0 ≤ (r : Int32).toInt ∧ (r : Int32).toInt ≤ 1) ∧ (Rg u 70 0 9)) (O_g_doDeed cy vl vl1 vl2 vl3 vl4 vl5 vl6 vl7 vl8 vl9 vl10 vly vlf2 vm vd)) RX4 rfl (by decide +kernel) (Nat.le_of_ble_eq_true rfl) ?_
  intro p e s m below meth c A hx hb hr hlocks av9 hav hts hown hnm hml hK hP hD hA hS hE hAe Q9 hQ9 ls hl
  have hl : lv_has ls 3 [(0, .ref vl), (1, .int vm), (2, .int vd)] := hl
  refine lv_aload_n hx hb dX4_doDeed_0 rfl (lv_at hl 0 rfl) ?_
  refine gf_X4_15 hx hb hts hown hK hP 0 rfl rfl dX4_doDeed_1 ?_
  refine lv_iload_n hx hb dX4_doDeed_4 rfl (lv_at hl 1 rfl) ?_
  refine lv_bipush (v := 10) hx hb dX4_doDeed_5 (by decide) ?_
  refine lv_imul hx hb dX4_doDeed_7 ?_
  refine lv_topi (fun z_1 ez_1 => ?_)
  have k_10 : (10 : Int32).toInt = 10 := by decide
  have bz_1 : z_1.toInt = vm.toInt * 10 := i_mulc k_10 ez_1 (by omega) (by omega)
  refine lv_iload_n hx hb dX4_doDeed_8 rfl (lv_at hl 2 rfl) ?_
  refine lv_iadd hx hb dX4_doDeed_9 ?_
  refine lv_topi (fun z_2 ez_2 => ?_)
  have bz_2 : z_2.toInt = z_1.toInt + vd.toInt := i_add ez_2 (by omega) (by omega)
  have hin_3 : vp_in z_2 70 := vp_in_iff.mpr ⟨by omega, by omega⟩
  refine va_iald hx hb hK hP 1 0 rfl rfl hin_3 dX4_doDeed_10 ?_
  refine lv_topi (fun z_4 ez_4 => ?_)
  have bz_4 := p_vlf2.at hin_3 ez_4
  refine lv_bipush (v := 9) hx hb dX4_doDeed_11 (by decide) ?_
  have k_9 : (9 : Int32).toInt = 9 := by decide
  refine lv_icmp_lt (tgt := 18) hx hb dX4_doDeed_13 (by decide) (fun c_5 => ?_) (fun c_5 => ?_)
  · skip
    have c_5 : z_4.toInt < (9 : Int32).toInt := i_lt.mp c_5
    refine lv_aload_n hx hb dX4_doDeed_18 rfl (lv_at hl 0 rfl) ?_
    refine gf_X4_15 hx hb hts hown hK hP 0 rfl rfl dX4_doDeed_19 ?_
    refine lv_iload_n hx hb dX4_doDeed_22 rfl (lv_at hl 1 rfl) ?_
    refine lv_bipush (v := 10) hx hb dX4_doDeed_23 (by decide) ?_
    refine lv_imul hx hb dX4_doDeed_25 ?_
    refine lv_topi (fun z_6 ez_6 => ?_)
    have bz_6 : z_6.toInt = vm.toInt * 10 := i_mulc k_10 ez_6 (by omega) (by omega)
    refine lv_iload_n hx hb dX4_doDeed_26 rfl (lv_at hl 2 rfl) ?_
    refine lv_iadd hx hb dX4_doDeed_27 ?_
    refine lv_topi (fun z_7 ez_7 => ?_)
    have bz_7 : z_7.toInt = z_6.toInt + vd.toInt := i_add ez_7 (by omega) (by omega)
    refine lv_dup2_11 hx hb dX4_doDeed_28 rfl rfl ?_
    have hin_8 : vp_in z_7 70 := vp_in_iff.mpr ⟨by omega, by omega⟩
    refine va_iald hx hb hK hP 1 0 rfl rfl hin_8 dX4_doDeed_29 ?_
    refine lv_topi (fun z_9 ez_9 => ?_)
    have bz_9 := p_vlf2.at hin_8 ez_9
    refine as_i z_4 (i_eq.mpr (i_same ez_4 ez_9 (by omega))) ?_
    refine lv_iconst (v := 1) hx hb dX4_doDeed_30 (by decide) ?_
    refine lv_iadd hx hb dX4_doDeed_31 ?_
    refine lv_topi (fun z_10 ez_10 => ?_)
    have k_1 : (1 : Int32).toInt = 1 := by decide
    have bz_10 : z_10.toInt = z_4.toInt + (1 : Int32).toInt := i_add ez_10 (by omega) (by omega)
    have hin_11 : vp_in z_7 70 := vp_in_iff.mpr ⟨by omega, by omega⟩
    refine va_iast hx hb hK hP hD hS 1 0 rfl rfl hin_11 dX4_doDeed_32 (fun H locs hP hD hS => ?_)
    obtain ⟨f_12, ef_12⟩ : ∃ z : Nat → Int32, z = upd vlf2 (Int32.toNatClampNeg z_7) z_10 := ⟨_, rfl⟩
    have hP : va_P (dC, dI) vwCl [(vl, .inr (5, [.ref vl1, .ref vl2, .ref vl3, .ref vl4, .ref vl5, .ref vl6, .ref vl7, .ref vl8, .ref vl9, .ref vl10, .int vly])), (vl2, .inl (cy 0, 70, .inl f_12))] H := by rw [ef_12]; exact hP
    have hD : va_D A [(vl, .inr (5, [.ref vl1, .ref vl2, .ref vl3, .ref vl4, .ref vl5, .ref vl6, .ref vl7, .ref vl8, .ref vl9, .ref vl10, .int vly])), (vl2, .inl (cy 0, 70, .inl f_12))] := by rw [ef_12]; exact hD
    have p_f_12 : Rg f_12 70 0 9 := by rw [ef_12]; exact p_vlf2.upd ⟨by omega, by omega⟩
    refine lv_iconst (v := 0) hx hb dX4_doDeed_33 (by decide) ?_
    have k_0 : (0 : Int32).toInt = 0 := by decide
    rw [hQ9]
    exact re_i f_12 hx hb hr hlocks ⟨(show 0 ≤ ((0 : Int32) : Int32).toInt ∧ ((0 : Int32) : Int32).toInt ≤ 1 from ⟨by omega, by omega⟩), (show Rg f_12 70 0 9 from p_f_12)⟩ (hP.sub [0, 1] rfl) (hD.sub [0, 1] rfl rfl) hS dX4_doDeed_34
  · skip
    have c_5 : ¬ (z_4.toInt < (9 : Int32).toInt) := fun h9 => c_5 (i_lt.mpr h9)
    refine lv_iconst (v := 1) hx hb dX4_doDeed_16 (by decide) ?_
    have k_1 : (1 : Int32).toInt = 1 := by decide
    rw [hQ9]
    exact re_i vlf2 hx hb hr hlocks ⟨(show 0 ≤ ((1 : Int32) : Int32).toInt ∧ ((1 : Int32) : Int32).toInt ≤ 1 from ⟨by omega, by omega⟩), (show Rg vlf2 70 0 9 from p_vlf2)⟩ (hP.sub [0, 1] rfl) (hD.sub [0, 1] rfl rfl) hS dX4_doDeed_17
abbrev cX4_takeBack : ByteArray := prog_6_method_8_code
def yX4_takeBack : MethodName := ⟨RX4, "takeBack", "(I)I"⟩
theorem t801 : Cond.code yX4_takeBack cX4_takeBack 2 (some .int) ∈ GW := gw_mem 915 (by decide +kernel) (by decide +kernel)
abbrev O_g_takeBack (cy : Nat → ClassId) (vl : Nat) (vl1 : Nat) (vl2 : Nat) (vl3 : Nat) (vl4 : Nat) (vl5 : Nat) (vl6 : Nat) (vl7 : Nat) (vl8 : Nat) (vl9 : Nat) (vl10 : Nat) (vly : Int32) (vlf4 : Nat → Int32) (vlf5 : Nat → Int32) (vm : Int32) (u : (Nat → Int32) × (Nat → Int32)) : va_W := [(vl, .inr (5, [.ref vl1, .ref vl2, .ref vl3, .ref vl4, .ref vl5, .ref vl6, .ref vl7, .ref vl8, .ref vl9, .ref vl10, .int vly])), (vl4, .inl (cy 0, 7, .inl u.1)), (vl5, .inl (cy 0, 7, .inl u.2))]
theorem dX4_takeBack_0 : decode cX4_takeBack 0 = .ok (.aload_n 0, 1) := by decide +kernel
theorem dX4_takeBack_1 : decode cX4_takeBack 1 = .ok (.getfield 21, 3) := by decide +kernel
theorem dX4_takeBack_4 : decode cX4_takeBack 4 = .ok (.iload_n 1, 1) := by decide +kernel
theorem dX4_takeBack_5 : decode cX4_takeBack 5 = .ok (.iaload, 1) := by decide +kernel
theorem dX4_takeBack_6 : decode cX4_takeBack 6 = .ok (.iconst (-1), 1) := by decide +kernel
theorem dX4_takeBack_7 : decode cX4_takeBack 7 = .ok (.if_icmp .ne 5, 3) := by decide +kernel
theorem dX4_takeBack_12 : decode cX4_takeBack 12 = .ok (.aload_n 0, 1) := by decide +kernel
theorem dX4_takeBack_13 : decode cX4_takeBack 13 = .ok (.getfield 21, 3) := by decide +kernel
theorem dX4_takeBack_16 : decode cX4_takeBack 16 = .ok (.iload_n 1, 1) := by decide +kernel
theorem dX4_takeBack_17 : decode cX4_takeBack 17 = .ok (.iconst (-1), 1) := by decide +kernel
theorem dX4_takeBack_18 : decode cX4_takeBack 18 = .ok (.iastore, 1) := by decide +kernel
theorem dX4_takeBack_19 : decode cX4_takeBack 19 = .ok (.aload_n 0, 1) := by decide +kernel
theorem dX4_takeBack_20 : decode cX4_takeBack 20 = .ok (.getfield 24, 3) := by decide +kernel
theorem dX4_takeBack_23 : decode cX4_takeBack 23 = .ok (.iload_n 1, 1) := by decide +kernel
theorem dX4_takeBack_24 : decode cX4_takeBack 24 = .ok (.iconst (-1), 1) := by decide +kernel
theorem dX4_takeBack_25 : decode cX4_takeBack 25 = .ok (.iastore, 1) := by decide +kernel
theorem dX4_takeBack_26 : decode cX4_takeBack 26 = .ok (.iconst 0, 1) := by decide +kernel
theorem dX4_takeBack_27 : decode cX4_takeBack 27 = .ok (.ireturn, 1) := by decide +kernel
theorem dX4_takeBack_10 : decode cX4_takeBack 10 = .ok (.iconst 1, 1) := by decide +kernel
theorem dX4_takeBack_11 : decode cX4_takeBack 11 = .ok (.ireturn, 1) := by decide +kernel
set_option maxHeartbeats 4000000 in
set_option maxRecDepth 100000 in
theorem g_takeBack (l : Launch) (dC : Nat → ClassId) (dI : Nat → Nat → Nat) (cy : Nat → ClassId) (sz : Nat) (vl : Nat) (vl1 : Nat) (vl2 : Nat) (vl3 : Nat) (vl4 : Nat) (vl5 : Nat) (vl6 : Nat) (vl7 : Nat) (vl8 : Nat) (vl9 : Nat) (vl10 : Nat) (vly : Int32) (vlf4 : Nat → Int32) (vlf5 : Nat → Int32) (vm : Int32) (r_vm : 0 ≤ (vm : Int32).toInt ∧ (vm : Int32).toInt ≤ 6) (p_vlf5 : Rg vlf5 7 (-1) 9) : Met l yX4_takeBack (wl yX4_takeBack cX4_takeBack 2 (some .int)) ({ frames := 0, cells := 0, slots := 0, locals := 0 }) (Pw (dC, dI) vwCl cy [(vl, .inr (5, [.ref vl1, .ref vl2, .ref vl3, .ref vl4, .ref vl5, .ref vl6, .ref vl7, .ref vl8, .ref vl9, .ref vl10, .int vly])), (vl4, .inl (cy 0, 7, .inl vlf4)), (vl5, .inl (cy 0, 7, .inl vlf5))] sz [.ref vl, .int vm] nE) (Qi (dC, dI) vwCl (fun (r : Int32) (u : (Nat → Int32) × (Nat → Int32)) => (0 ≤ (r : Int32).toInt ∧ (r : Int32).toInt ≤ 1) ∧ (Rg u.2 7 (-1) 9)) (O_g_takeBack cy vl vl1 vl2 vl3 vl4 vl5 vl6 vl7 vl8 vl9 vl10 vly vlf4 vlf5 vm) (va_A [(vl, .inr (5, [.ref vl1, .ref vl2, .ref vl3, .ref vl4, .ref vl5, .ref vl6, .ref vl7, .ref vl8, .ref vl9, .ref vl10, .int vly])), (vl4, .inl (cy 0, 7, .inl vlf4)), (vl5, .inl (cy 0, 7, .inl vlf5))] sz)) 0 0 (va_A [(vl, .inr (5, [.ref vl1, .ref vl2, .ref vl3, .ref vl4, .ref vl5, .ref vl6, .ref vl7, .ref vl8, .ref vl9, .ref vl10, .int vly])), (vl4, .inl (cy 0, 7, .inl vlf4)), (vl5, .inl (cy 0, 7, .inl vlf5))] sz) := by
  refine mw (Qc := Qi (dC, dI) vwCl (fun (r : Int32) (u : (Nat → Int32) × (Nat → Int32)) => (0 ≤ (r : Int32).toInt ∧ (r : Int32).toInt ≤ 1) ∧ (Rg u.2 7 (-1) 9)) (O_g_takeBack cy vl vl1 vl2 vl3 vl4 vl5 vl6 vl7 vl8 vl9 vl10 vly vlf4 vlf5 vm)) RX4 rfl (by decide +kernel) (Nat.le_of_ble_eq_true rfl) ?_
  intro p e s m below meth c A hx hb hr hlocks av9 hav hts hown hnm hml hK hP hD hA hS hE hAe Q9 hQ9 ls hl
  have hl : lv_has ls 2 [(0, .ref vl), (1, .int vm)] := hl
  refine lv_aload_n hx hb dX4_takeBack_0 rfl (lv_at hl 0 rfl) ?_
  refine gf_X4_21 hx hb hts hown hK hP 0 rfl rfl dX4_takeBack_1 ?_
  refine lv_iload_n hx hb dX4_takeBack_4 rfl (lv_at hl 1 rfl) ?_
  have hin_1 : vp_in vm 7 := vp_in_iff.mpr ⟨by omega, by omega⟩
  refine va_iald hx hb hK hP 1 0 rfl rfl hin_1 dX4_takeBack_5 ?_
  refine lv_topi (fun z_2 ez_2 => ?_)
  refine lv_iconst (v := (-1)) hx hb dX4_takeBack_6 (by decide) ?_
  have k_m1 : ((-1) : Int32).toInt = (-1) := by decide
  refine lv_icmp_ne (tgt := 12) hx hb dX4_takeBack_7 (by decide) (fun c_3 => ?_) (fun c_3 => ?_)
  · skip
    have c_3 : ¬ (z_2.toInt = ((-1) : Int32).toInt) := fun h9 => c_3 (i_eq.mpr h9)
    refine lv_aload_n hx hb dX4_takeBack_12 rfl (lv_at hl 0 rfl) ?_
    refine gf_X4_21 hx hb hts hown hK hP 0 rfl rfl dX4_takeBack_13 ?_
    refine lv_iload_n hx hb dX4_takeBack_16 rfl (lv_at hl 1 rfl) ?_
    refine lv_iconst (v := (-1)) hx hb dX4_takeBack_17 (by decide) ?_
    have hin_4 : vp_in vm 7 := vp_in_iff.mpr ⟨by omega, by omega⟩
    refine va_iast hx hb hK hP hD hS 1 0 rfl rfl hin_4 dX4_takeBack_18 (fun H locs hP hD hS => ?_)
    obtain ⟨f_5, ef_5⟩ : ∃ z : Nat → Int32, z = upd vlf4 (Int32.toNatClampNeg vm) (-1) := ⟨_, rfl⟩
    have hP : va_P (dC, dI) vwCl [(vl, .inr (5, [.ref vl1, .ref vl2, .ref vl3, .ref vl4, .ref vl5, .ref vl6, .ref vl7, .ref vl8, .ref vl9, .ref vl10, .int vly])), (vl4, .inl (cy 0, 7, .inl f_5)), (vl5, .inl (cy 0, 7, .inl vlf5))] H := by rw [ef_5]; exact hP
    have hD : va_D A [(vl, .inr (5, [.ref vl1, .ref vl2, .ref vl3, .ref vl4, .ref vl5, .ref vl6, .ref vl7, .ref vl8, .ref vl9, .ref vl10, .int vly])), (vl4, .inl (cy 0, 7, .inl f_5)), (vl5, .inl (cy 0, 7, .inl vlf5))] := by rw [ef_5]; exact hD
    refine lv_aload_n hx hb dX4_takeBack_19 rfl (lv_at hl 0 rfl) ?_
    refine gf_X4_24 hx hb hts hown hK hP 0 rfl rfl dX4_takeBack_20 ?_
    refine lv_iload_n hx hb dX4_takeBack_23 rfl (lv_at hl 1 rfl) ?_
    refine lv_iconst (v := (-1)) hx hb dX4_takeBack_24 (by decide) ?_
    have hin_6 : vp_in vm 7 := vp_in_iff.mpr ⟨by omega, by omega⟩
    refine va_iast hx hb hK hP hD hS 2 0 rfl rfl hin_6 dX4_takeBack_25 (fun H locs hP hD hS => ?_)
    obtain ⟨f_7, ef_7⟩ : ∃ z : Nat → Int32, z = upd vlf5 (Int32.toNatClampNeg vm) (-1) := ⟨_, rfl⟩
    have hP : va_P (dC, dI) vwCl [(vl, .inr (5, [.ref vl1, .ref vl2, .ref vl3, .ref vl4, .ref vl5, .ref vl6, .ref vl7, .ref vl8, .ref vl9, .ref vl10, .int vly])), (vl4, .inl (cy 0, 7, .inl f_5)), (vl5, .inl (cy 0, 7, .inl f_7))] H := by rw [ef_7]; exact hP
    have hD : va_D A [(vl, .inr (5, [.ref vl1, .ref vl2, .ref vl3, .ref vl4, .ref vl5, .ref vl6, .ref vl7, .ref vl8, .ref vl9, .ref vl10, .int vly])), (vl4, .inl (cy 0, 7, .inl f_5)), (vl5, .inl (cy 0, 7, .inl f_7))] := by rw [ef_7]; exact hD
    have p_f_7 : Rg f_7 7 (-1) 9 := by rw [ef_7]; exact p_vlf5.upd ⟨by omega, by omega⟩
    refine lv_iconst (v := 0) hx hb dX4_takeBack_26 (by decide) ?_
    have k_0 : (0 : Int32).toInt = 0 := by decide
    rw [hQ9]
    exact re_i (f_5, f_7) hx hb hr hlocks ⟨(show 0 ≤ ((0 : Int32) : Int32).toInt ∧ ((0 : Int32) : Int32).toInt ≤ 1 from ⟨by omega, by omega⟩), (show Rg f_7 7 (-1) 9 from p_f_7)⟩ (hP.sub [0, 1, 2] rfl) (hD.sub [0, 1, 2] rfl rfl) hS dX4_takeBack_27
  · skip
    have c_3 : z_2.toInt = ((-1) : Int32).toInt := i_eq.mp c_3
    refine lv_iconst (v := 1) hx hb dX4_takeBack_10 (by decide) ?_
    have k_1 : (1 : Int32).toInt = 1 := by decide
    rw [hQ9]
    exact re_i (vlf4, vlf5) hx hb hr hlocks ⟨(show 0 ≤ ((1 : Int32) : Int32).toInt ∧ ((1 : Int32) : Int32).toInt ≤ 1 from ⟨by omega, by omega⟩), (show Rg vlf5 7 (-1) 9 from p_vlf5)⟩ (hP.sub [0, 1, 2] rfl) (hD.sub [0, 1, 2] rfl rfl) hS dX4_takeBack_11
abbrev cX4_borrowOf : ByteArray := prog_6_method_9_code
def yX4_borrowOf : MethodName := ⟨RX4, "borrowOf", "(III)I"⟩
theorem t812 : Cond.code yX4_borrowOf cX4_borrowOf 4 (some .int) ∈ GW := gw_mem 926 (by decide +kernel) (by decide +kernel)
abbrev O_g_borrowOf (cy : Nat → ClassId) (vl : Nat) (vl1 : Nat) (vl2 : Nat) (vl3 : Nat) (vl4 : Nat) (vl5 : Nat) (vl6 : Nat) (vl7 : Nat) (vl8 : Nat) (vl9 : Nat) (vl10 : Nat) (vly : Int32) (vlf3 : Nat → Int32) (vm : Int32) (vk : Int32) (vn : Int32) (u : (Nat → Int32)) : va_W := [(vl, .inr (5, [.ref vl1, .ref vl2, .ref vl3, .ref vl4, .ref vl5, .ref vl6, .ref vl7, .ref vl8, .ref vl9, .ref vl10, .int vly])), (vl3, .inl (cy 0, 49, .inl u))]
theorem dX4_borrowOf_0 : decode cX4_borrowOf 0 = .ok (.iload_n 1, 1) := by decide +kernel
theorem dX4_borrowOf_1 : decode cX4_borrowOf 1 = .ok (.iload_n 2, 1) := by decide +kernel
theorem dX4_borrowOf_2 : decode cX4_borrowOf 2 = .ok (.if_icmp .ne 5, 3) := by decide +kernel
theorem dX4_borrowOf_7 : decode cX4_borrowOf 7 = .ok (.aload_n 0, 1) := by decide +kernel
theorem dX4_borrowOf_8 : decode cX4_borrowOf 8 = .ok (.getfield 18, 3) := by decide +kernel
theorem dX4_borrowOf_11 : decode cX4_borrowOf 11 = .ok (.iload_n 1, 1) := by decide +kernel
theorem dX4_borrowOf_12 : decode cX4_borrowOf 12 = .ok (.bipush 7, 2) := by decide +kernel
theorem dX4_borrowOf_14 : decode cX4_borrowOf 14 = .ok (.imul, 1) := by decide +kernel
theorem dX4_borrowOf_15 : decode cX4_borrowOf 15 = .ok (.iload_n 2, 1) := by decide +kernel
theorem dX4_borrowOf_16 : decode cX4_borrowOf 16 = .ok (.iadd, 1) := by decide +kernel
theorem dX4_borrowOf_17 : decode cX4_borrowOf 17 = .ok (.iaload, 1) := by decide +kernel
theorem dX4_borrowOf_18 : decode cX4_borrowOf 18 = .ok (.iload_n 3, 1) := by decide +kernel
theorem dX4_borrowOf_19 : decode cX4_borrowOf 19 = .ok (.iadd, 1) := by decide +kernel
theorem dX4_borrowOf_20 : decode cX4_borrowOf 20 = .ok (.bipush 99, 2) := by decide +kernel
theorem dX4_borrowOf_22 : decode cX4_borrowOf 22 = .ok (.if_icmp .le 5, 3) := by decide +kernel
theorem dX4_borrowOf_27 : decode cX4_borrowOf 27 = .ok (.aload_n 0, 1) := by decide +kernel
theorem dX4_borrowOf_28 : decode cX4_borrowOf 28 = .ok (.getfield 18, 3) := by decide +kernel
theorem dX4_borrowOf_31 : decode cX4_borrowOf 31 = .ok (.iload_n 1, 1) := by decide +kernel
theorem dX4_borrowOf_32 : decode cX4_borrowOf 32 = .ok (.bipush 7, 2) := by decide +kernel
theorem dX4_borrowOf_34 : decode cX4_borrowOf 34 = .ok (.imul, 1) := by decide +kernel
theorem dX4_borrowOf_35 : decode cX4_borrowOf 35 = .ok (.iload_n 2, 1) := by decide +kernel
theorem dX4_borrowOf_36 : decode cX4_borrowOf 36 = .ok (.iadd, 1) := by decide +kernel
theorem dX4_borrowOf_37 : decode cX4_borrowOf 37 = .ok (.dup2, 1) := by decide +kernel
theorem dX4_borrowOf_38 : decode cX4_borrowOf 38 = .ok (.iaload, 1) := by decide +kernel
theorem dX4_borrowOf_39 : decode cX4_borrowOf 39 = .ok (.iload_n 3, 1) := by decide +kernel
theorem dX4_borrowOf_40 : decode cX4_borrowOf 40 = .ok (.iadd, 1) := by decide +kernel
theorem dX4_borrowOf_41 : decode cX4_borrowOf 41 = .ok (.iastore, 1) := by decide +kernel
theorem dX4_borrowOf_42 : decode cX4_borrowOf 42 = .ok (.iconst 0, 1) := by decide +kernel
theorem dX4_borrowOf_43 : decode cX4_borrowOf 43 = .ok (.ireturn, 1) := by decide +kernel
theorem dX4_borrowOf_25 : decode cX4_borrowOf 25 = .ok (.iconst 2, 1) := by decide +kernel
theorem dX4_borrowOf_26 : decode cX4_borrowOf 26 = .ok (.ireturn, 1) := by decide +kernel
theorem dX4_borrowOf_5 : decode cX4_borrowOf 5 = .ok (.iconst 1, 1) := by decide +kernel
theorem dX4_borrowOf_6 : decode cX4_borrowOf 6 = .ok (.ireturn, 1) := by decide +kernel
set_option maxHeartbeats 4000000 in
set_option maxRecDepth 100000 in
theorem g_borrowOf (l : Launch) (dC : Nat → ClassId) (dI : Nat → Nat → Nat) (cy : Nat → ClassId) (sz : Nat) (vl : Nat) (vl1 : Nat) (vl2 : Nat) (vl3 : Nat) (vl4 : Nat) (vl5 : Nat) (vl6 : Nat) (vl7 : Nat) (vl8 : Nat) (vl9 : Nat) (vl10 : Nat) (vly : Int32) (vlf3 : Nat → Int32) (vm : Int32) (vk : Int32) (vn : Int32) (r_vm : 0 ≤ (vm : Int32).toInt ∧ (vm : Int32).toInt ≤ 6) (r_vk : 0 ≤ (vk : Int32).toInt ∧ (vk : Int32).toInt ≤ 6) : Met l yX4_borrowOf (wl yX4_borrowOf cX4_borrowOf 4 (some .int)) ({ frames := 0, cells := 0, slots := 0, locals := 0 }) (Pw (dC, dI) vwCl cy [(vl, .inr (5, [.ref vl1, .ref vl2, .ref vl3, .ref vl4, .ref vl5, .ref vl6, .ref vl7, .ref vl8, .ref vl9, .ref vl10, .int vly])), (vl3, .inl (cy 0, 49, .inl vlf3))] sz [.ref vl, .int vm, .int vk, .int vn] nE) (Qi (dC, dI) vwCl (fun (r : Int32) (u : (Nat → Int32)) => (0 ≤ (r : Int32).toInt ∧ (r : Int32).toInt ≤ 2)) (O_g_borrowOf cy vl vl1 vl2 vl3 vl4 vl5 vl6 vl7 vl8 vl9 vl10 vly vlf3 vm vk vn) (va_A [(vl, .inr (5, [.ref vl1, .ref vl2, .ref vl3, .ref vl4, .ref vl5, .ref vl6, .ref vl7, .ref vl8, .ref vl9, .ref vl10, .int vly])), (vl3, .inl (cy 0, 49, .inl vlf3))] sz)) 0 0 (va_A [(vl, .inr (5, [.ref vl1, .ref vl2, .ref vl3, .ref vl4, .ref vl5, .ref vl6, .ref vl7, .ref vl8, .ref vl9, .ref vl10, .int vly])), (vl3, .inl (cy 0, 49, .inl vlf3))] sz) := by
  refine mw (Qc := Qi (dC, dI) vwCl (fun (r : Int32) (u : (Nat → Int32)) => (0 ≤ (r : Int32).toInt ∧ (r : Int32).toInt ≤ 2)) (O_g_borrowOf cy vl vl1 vl2 vl3 vl4 vl5 vl6 vl7 vl8 vl9 vl10 vly vlf3 vm vk vn)) RX4 rfl (by decide +kernel) (Nat.le_of_ble_eq_true rfl) ?_
  intro p e s m below meth c A hx hb hr hlocks av9 hav hts hown hnm hml hK hP hD hA hS hE hAe Q9 hQ9 ls hl
  have hl : lv_has ls 4 [(0, .ref vl), (1, .int vm), (2, .int vk), (3, .int vn)] := hl
  refine lv_iload_n hx hb dX4_borrowOf_0 rfl (lv_at hl 1 rfl) ?_
  refine lv_iload_n hx hb dX4_borrowOf_1 rfl (lv_at hl 2 rfl) ?_
  refine lv_icmp_ne (tgt := 7) hx hb dX4_borrowOf_2 (by decide) (fun c_1 => ?_) (fun c_1 => ?_)
  · skip
    have c_1 : ¬ (vm.toInt = vk.toInt) := fun h9 => c_1 (i_eq.mpr h9)
    refine lv_aload_n hx hb dX4_borrowOf_7 rfl (lv_at hl 0 rfl) ?_
    refine gf_X4_18 hx hb hts hown hK hP 0 rfl rfl dX4_borrowOf_8 ?_
    refine lv_iload_n hx hb dX4_borrowOf_11 rfl (lv_at hl 1 rfl) ?_
    refine lv_bipush (v := 7) hx hb dX4_borrowOf_12 (by decide) ?_
    refine lv_imul hx hb dX4_borrowOf_14 ?_
    refine lv_topi (fun z_2 ez_2 => ?_)
    have k_7 : (7 : Int32).toInt = 7 := by decide
    have bz_2 : z_2.toInt = vm.toInt * 7 := i_mulc k_7 ez_2 (by omega) (by omega)
    refine lv_iload_n hx hb dX4_borrowOf_15 rfl (lv_at hl 2 rfl) ?_
    refine lv_iadd hx hb dX4_borrowOf_16 ?_
    refine lv_topi (fun z_3 ez_3 => ?_)
    have bz_3 : z_3.toInt = z_2.toInt + vk.toInt := i_add ez_3 (by omega) (by omega)
    have hin_4 : vp_in z_3 49 := vp_in_iff.mpr ⟨by omega, by omega⟩
    refine va_iald hx hb hK hP 1 0 rfl rfl hin_4 dX4_borrowOf_17 ?_
    refine lv_topi (fun z_5 ez_5 => ?_)
    refine lv_iload_n hx hb dX4_borrowOf_18 rfl (lv_at hl 3 rfl) ?_
    refine lv_iadd hx hb dX4_borrowOf_19 ?_
    refine lv_topi (fun z_6 ez_6 => ?_)
    refine lv_bipush (v := 99) hx hb dX4_borrowOf_20 (by decide) ?_
    have k_99 : (99 : Int32).toInt = 99 := by decide
    refine lv_icmp_le (tgt := 27) hx hb dX4_borrowOf_22 (by decide) (fun c_7 => ?_) (fun c_7 => ?_)
    · skip
      have c_7 : z_6.toInt ≤ (99 : Int32).toInt := i_le.mp c_7
      refine lv_aload_n hx hb dX4_borrowOf_27 rfl (lv_at hl 0 rfl) ?_
      refine gf_X4_18 hx hb hts hown hK hP 0 rfl rfl dX4_borrowOf_28 ?_
      refine lv_iload_n hx hb dX4_borrowOf_31 rfl (lv_at hl 1 rfl) ?_
      refine lv_bipush (v := 7) hx hb dX4_borrowOf_32 (by decide) ?_
      refine lv_imul hx hb dX4_borrowOf_34 ?_
      refine lv_topi (fun z_8 ez_8 => ?_)
      have bz_8 : z_8.toInt = vm.toInt * 7 := i_mulc k_7 ez_8 (by omega) (by omega)
      refine lv_iload_n hx hb dX4_borrowOf_35 rfl (lv_at hl 2 rfl) ?_
      refine lv_iadd hx hb dX4_borrowOf_36 ?_
      refine lv_topi (fun z_9 ez_9 => ?_)
      have bz_9 : z_9.toInt = z_8.toInt + vk.toInt := i_add ez_9 (by omega) (by omega)
      refine lv_dup2_11 hx hb dX4_borrowOf_37 rfl rfl ?_
      have hin_10 : vp_in z_9 49 := vp_in_iff.mpr ⟨by omega, by omega⟩
      refine va_iald hx hb hK hP 1 0 rfl rfl hin_10 dX4_borrowOf_38 ?_
      refine lv_topi (fun z_11 ez_11 => ?_)
      refine lv_iload_n hx hb dX4_borrowOf_39 rfl (lv_at hl 3 rfl) ?_
      refine lv_iadd hx hb dX4_borrowOf_40 ?_
      refine lv_topi (fun z_12 ez_12 => ?_)
      have hin_13 : vp_in z_9 49 := vp_in_iff.mpr ⟨by omega, by omega⟩
      refine va_iast hx hb hK hP hD hS 1 0 rfl rfl hin_13 dX4_borrowOf_41 (fun H locs hP hD hS => ?_)
      obtain ⟨f_14, ef_14⟩ : ∃ z : Nat → Int32, z = upd vlf3 (Int32.toNatClampNeg z_9) z_12 := ⟨_, rfl⟩
      have hP : va_P (dC, dI) vwCl [(vl, .inr (5, [.ref vl1, .ref vl2, .ref vl3, .ref vl4, .ref vl5, .ref vl6, .ref vl7, .ref vl8, .ref vl9, .ref vl10, .int vly])), (vl3, .inl (cy 0, 49, .inl f_14))] H := by rw [ef_14]; exact hP
      have hD : va_D A [(vl, .inr (5, [.ref vl1, .ref vl2, .ref vl3, .ref vl4, .ref vl5, .ref vl6, .ref vl7, .ref vl8, .ref vl9, .ref vl10, .int vly])), (vl3, .inl (cy 0, 49, .inl f_14))] := by rw [ef_14]; exact hD
      refine lv_iconst (v := 0) hx hb dX4_borrowOf_42 (by decide) ?_
      have k_0 : (0 : Int32).toInt = 0 := by decide
      rw [hQ9]
      exact re_i f_14 hx hb hr hlocks (show 0 ≤ ((0 : Int32) : Int32).toInt ∧ ((0 : Int32) : Int32).toInt ≤ 2 from ⟨by omega, by omega⟩) (hP.sub [0, 1] rfl) (hD.sub [0, 1] rfl rfl) hS dX4_borrowOf_43
    · skip
      have c_7 : ¬ (z_6.toInt ≤ (99 : Int32).toInt) := fun h9 => c_7 (i_le.mpr h9)
      refine lv_iconst (v := 2) hx hb dX4_borrowOf_25 (by decide) ?_
      have k_2 : (2 : Int32).toInt = 2 := by decide
      rw [hQ9]
      exact re_i vlf3 hx hb hr hlocks (show 0 ≤ ((2 : Int32) : Int32).toInt ∧ ((2 : Int32) : Int32).toInt ≤ 2 from ⟨by omega, by omega⟩) (hP.sub [0, 1] rfl) (hD.sub [0, 1] rfl rfl) hS dX4_borrowOf_26
  · skip
    have c_1 : vm.toInt = vk.toInt := i_eq.mp c_1
    refine lv_iconst (v := 1) hx hb dX4_borrowOf_5 (by decide) ?_
    have k_1 : (1 : Int32).toInt = 1 := by decide
    rw [hQ9]
    exact re_i vlf3 hx hb hr hlocks (show 0 ≤ ((1 : Int32) : Int32).toInt ∧ ((1 : Int32) : Int32).toInt ≤ 2 from ⟨by omega, by omega⟩) (hP.sub [0, 1] rfl) (hD.sub [0, 1] rfl rfl) hS dX4_borrowOf_6
abbrev cX4_payTo : ByteArray := prog_6_method_10_code
def yX4_payTo : MethodName := ⟨RX4, "payTo", "(III)I"⟩
theorem t820 : Cond.code yX4_payTo cX4_payTo 4 (some .int) ∈ GW := gw_mem 934 (by decide +kernel) (by decide +kernel)
abbrev O_g_payTo (cy : Nat → ClassId) (vl : Nat) (vl1 : Nat) (vl2 : Nat) (vl3 : Nat) (vl4 : Nat) (vl5 : Nat) (vl6 : Nat) (vl7 : Nat) (vl8 : Nat) (vl9 : Nat) (vl10 : Nat) (vly : Int32) (vlf3 : Nat → Int32) (vm : Int32) (vk : Int32) (vn : Int32) (u : (Nat → Int32)) : va_W := [(vl, .inr (5, [.ref vl1, .ref vl2, .ref vl3, .ref vl4, .ref vl5, .ref vl6, .ref vl7, .ref vl8, .ref vl9, .ref vl10, .int vly])), (vl3, .inl (cy 0, 49, .inl u))]
theorem dX4_payTo_0 : decode cX4_payTo 0 = .ok (.aload_n 0, 1) := by decide +kernel
theorem dX4_payTo_1 : decode cX4_payTo 1 = .ok (.getfield 18, 3) := by decide +kernel
theorem dX4_payTo_4 : decode cX4_payTo 4 = .ok (.iload_n 1, 1) := by decide +kernel
theorem dX4_payTo_5 : decode cX4_payTo 5 = .ok (.bipush 7, 2) := by decide +kernel
theorem dX4_payTo_7 : decode cX4_payTo 7 = .ok (.imul, 1) := by decide +kernel
theorem dX4_payTo_8 : decode cX4_payTo 8 = .ok (.iload_n 2, 1) := by decide +kernel
theorem dX4_payTo_9 : decode cX4_payTo 9 = .ok (.iadd, 1) := by decide +kernel
theorem dX4_payTo_10 : decode cX4_payTo 10 = .ok (.iaload, 1) := by decide +kernel
theorem dX4_payTo_11 : decode cX4_payTo 11 = .ok (.iload_n 3, 1) := by decide +kernel
theorem dX4_payTo_12 : decode cX4_payTo 12 = .ok (.if_icmp .ge 5, 3) := by decide +kernel
theorem dX4_payTo_17 : decode cX4_payTo 17 = .ok (.aload_n 0, 1) := by decide +kernel
theorem dX4_payTo_18 : decode cX4_payTo 18 = .ok (.getfield 18, 3) := by decide +kernel
theorem dX4_payTo_21 : decode cX4_payTo 21 = .ok (.iload_n 1, 1) := by decide +kernel
theorem dX4_payTo_22 : decode cX4_payTo 22 = .ok (.bipush 7, 2) := by decide +kernel
theorem dX4_payTo_24 : decode cX4_payTo 24 = .ok (.imul, 1) := by decide +kernel
theorem dX4_payTo_25 : decode cX4_payTo 25 = .ok (.iload_n 2, 1) := by decide +kernel
theorem dX4_payTo_26 : decode cX4_payTo 26 = .ok (.iadd, 1) := by decide +kernel
theorem dX4_payTo_27 : decode cX4_payTo 27 = .ok (.dup2, 1) := by decide +kernel
theorem dX4_payTo_28 : decode cX4_payTo 28 = .ok (.iaload, 1) := by decide +kernel
theorem dX4_payTo_29 : decode cX4_payTo 29 = .ok (.iload_n 3, 1) := by decide +kernel
theorem dX4_payTo_30 : decode cX4_payTo 30 = .ok (.isub, 1) := by decide +kernel
theorem dX4_payTo_31 : decode cX4_payTo 31 = .ok (.iastore, 1) := by decide +kernel
theorem dX4_payTo_32 : decode cX4_payTo 32 = .ok (.iconst 0, 1) := by decide +kernel
theorem dX4_payTo_33 : decode cX4_payTo 33 = .ok (.ireturn, 1) := by decide +kernel
theorem dX4_payTo_15 : decode cX4_payTo 15 = .ok (.iconst 1, 1) := by decide +kernel
theorem dX4_payTo_16 : decode cX4_payTo 16 = .ok (.ireturn, 1) := by decide +kernel
set_option maxHeartbeats 4000000 in
set_option maxRecDepth 100000 in
theorem g_payTo (l : Launch) (dC : Nat → ClassId) (dI : Nat → Nat → Nat) (cy : Nat → ClassId) (sz : Nat) (vl : Nat) (vl1 : Nat) (vl2 : Nat) (vl3 : Nat) (vl4 : Nat) (vl5 : Nat) (vl6 : Nat) (vl7 : Nat) (vl8 : Nat) (vl9 : Nat) (vl10 : Nat) (vly : Int32) (vlf3 : Nat → Int32) (vm : Int32) (vk : Int32) (vn : Int32) (r_vm : 0 ≤ (vm : Int32).toInt ∧ (vm : Int32).toInt ≤ 6) (r_vk : 0 ≤ (vk : Int32).toInt ∧ (vk : Int32).toInt ≤ 6) : Met l yX4_payTo (wl yX4_payTo cX4_payTo 4 (some .int)) ({ frames := 0, cells := 0, slots := 0, locals := 0 }) (Pw (dC, dI) vwCl cy [(vl, .inr (5, [.ref vl1, .ref vl2, .ref vl3, .ref vl4, .ref vl5, .ref vl6, .ref vl7, .ref vl8, .ref vl9, .ref vl10, .int vly])), (vl3, .inl (cy 0, 49, .inl vlf3))] sz [.ref vl, .int vm, .int vk, .int vn] nE) (Qi (dC, dI) vwCl (fun (r : Int32) (u : (Nat → Int32)) => (0 ≤ (r : Int32).toInt ∧ (r : Int32).toInt ≤ 1)) (O_g_payTo cy vl vl1 vl2 vl3 vl4 vl5 vl6 vl7 vl8 vl9 vl10 vly vlf3 vm vk vn) (va_A [(vl, .inr (5, [.ref vl1, .ref vl2, .ref vl3, .ref vl4, .ref vl5, .ref vl6, .ref vl7, .ref vl8, .ref vl9, .ref vl10, .int vly])), (vl3, .inl (cy 0, 49, .inl vlf3))] sz)) 0 0 (va_A [(vl, .inr (5, [.ref vl1, .ref vl2, .ref vl3, .ref vl4, .ref vl5, .ref vl6, .ref vl7, .ref vl8, .ref vl9, .ref vl10, .int vly])), (vl3, .inl (cy 0, 49, .inl vlf3))] sz) := by
  refine mw (Qc := Qi (dC, dI) vwCl (fun (r : Int32) (u : (Nat → Int32)) => (0 ≤ (r : Int32).toInt ∧ (r : Int32).toInt ≤ 1)) (O_g_payTo cy vl vl1 vl2 vl3 vl4 vl5 vl6 vl7 vl8 vl9 vl10 vly vlf3 vm vk vn)) RX4 rfl (by decide +kernel) (Nat.le_of_ble_eq_true rfl) ?_
  intro p e s m below meth c A hx hb hr hlocks av9 hav hts hown hnm hml hK hP hD hA hS hE hAe Q9 hQ9 ls hl
  have hl : lv_has ls 4 [(0, .ref vl), (1, .int vm), (2, .int vk), (3, .int vn)] := hl
  refine lv_aload_n hx hb dX4_payTo_0 rfl (lv_at hl 0 rfl) ?_
  refine gf_X4_18 hx hb hts hown hK hP 0 rfl rfl dX4_payTo_1 ?_
  refine lv_iload_n hx hb dX4_payTo_4 rfl (lv_at hl 1 rfl) ?_
  refine lv_bipush (v := 7) hx hb dX4_payTo_5 (by decide) ?_
  refine lv_imul hx hb dX4_payTo_7 ?_
  refine lv_topi (fun z_1 ez_1 => ?_)
  have k_7 : (7 : Int32).toInt = 7 := by decide
  have bz_1 : z_1.toInt = vm.toInt * 7 := i_mulc k_7 ez_1 (by omega) (by omega)
  refine lv_iload_n hx hb dX4_payTo_8 rfl (lv_at hl 2 rfl) ?_
  refine lv_iadd hx hb dX4_payTo_9 ?_
  refine lv_topi (fun z_2 ez_2 => ?_)
  have bz_2 : z_2.toInt = z_1.toInt + vk.toInt := i_add ez_2 (by omega) (by omega)
  have hin_3 : vp_in z_2 49 := vp_in_iff.mpr ⟨by omega, by omega⟩
  refine va_iald hx hb hK hP 1 0 rfl rfl hin_3 dX4_payTo_10 ?_
  refine lv_topi (fun z_4 ez_4 => ?_)
  refine lv_iload_n hx hb dX4_payTo_11 rfl (lv_at hl 3 rfl) ?_
  refine lv_icmp_ge (tgt := 17) hx hb dX4_payTo_12 (by decide) (fun c_5 => ?_) (fun c_5 => ?_)
  · skip
    have c_5 : vn.toInt ≤ z_4.toInt := i_le.mp c_5
    refine lv_aload_n hx hb dX4_payTo_17 rfl (lv_at hl 0 rfl) ?_
    refine gf_X4_18 hx hb hts hown hK hP 0 rfl rfl dX4_payTo_18 ?_
    refine lv_iload_n hx hb dX4_payTo_21 rfl (lv_at hl 1 rfl) ?_
    refine lv_bipush (v := 7) hx hb dX4_payTo_22 (by decide) ?_
    refine lv_imul hx hb dX4_payTo_24 ?_
    refine lv_topi (fun z_6 ez_6 => ?_)
    have bz_6 : z_6.toInt = vm.toInt * 7 := i_mulc k_7 ez_6 (by omega) (by omega)
    refine lv_iload_n hx hb dX4_payTo_25 rfl (lv_at hl 2 rfl) ?_
    refine lv_iadd hx hb dX4_payTo_26 ?_
    refine lv_topi (fun z_7 ez_7 => ?_)
    have bz_7 : z_7.toInt = z_6.toInt + vk.toInt := i_add ez_7 (by omega) (by omega)
    refine lv_dup2_11 hx hb dX4_payTo_27 rfl rfl ?_
    have hin_8 : vp_in z_7 49 := vp_in_iff.mpr ⟨by omega, by omega⟩
    refine va_iald hx hb hK hP 1 0 rfl rfl hin_8 dX4_payTo_28 ?_
    refine lv_topi (fun z_9 ez_9 => ?_)
    refine lv_iload_n hx hb dX4_payTo_29 rfl (lv_at hl 3 rfl) ?_
    refine lv_isub hx hb dX4_payTo_30 ?_
    refine lv_topi (fun z_10 ez_10 => ?_)
    have hin_11 : vp_in z_7 49 := vp_in_iff.mpr ⟨by omega, by omega⟩
    refine va_iast hx hb hK hP hD hS 1 0 rfl rfl hin_11 dX4_payTo_31 (fun H locs hP hD hS => ?_)
    obtain ⟨f_12, ef_12⟩ : ∃ z : Nat → Int32, z = upd vlf3 (Int32.toNatClampNeg z_7) z_10 := ⟨_, rfl⟩
    have hP : va_P (dC, dI) vwCl [(vl, .inr (5, [.ref vl1, .ref vl2, .ref vl3, .ref vl4, .ref vl5, .ref vl6, .ref vl7, .ref vl8, .ref vl9, .ref vl10, .int vly])), (vl3, .inl (cy 0, 49, .inl f_12))] H := by rw [ef_12]; exact hP
    have hD : va_D A [(vl, .inr (5, [.ref vl1, .ref vl2, .ref vl3, .ref vl4, .ref vl5, .ref vl6, .ref vl7, .ref vl8, .ref vl9, .ref vl10, .int vly])), (vl3, .inl (cy 0, 49, .inl f_12))] := by rw [ef_12]; exact hD
    refine lv_iconst (v := 0) hx hb dX4_payTo_32 (by decide) ?_
    have k_0 : (0 : Int32).toInt = 0 := by decide
    rw [hQ9]
    exact re_i f_12 hx hb hr hlocks (show 0 ≤ ((0 : Int32) : Int32).toInt ∧ ((0 : Int32) : Int32).toInt ≤ 1 from ⟨by omega, by omega⟩) (hP.sub [0, 1] rfl) (hD.sub [0, 1] rfl rfl) hS dX4_payTo_33
  · skip
    have c_5 : ¬ (vn.toInt ≤ z_4.toInt) := fun h9 => c_5 (i_le.mpr h9)
    refine lv_iconst (v := 1) hx hb dX4_payTo_15 (by decide) ?_
    have k_1 : (1 : Int32).toInt = 1 := by decide
    rw [hQ9]
    exact re_i vlf3 hx hb hr hlocks (show 0 ≤ ((1 : Int32) : Int32).toInt ∧ ((1 : Int32) : Int32).toInt ≤ 1 from ⟨by omega, by omega⟩) (hP.sub [0, 1] rfl) (hD.sub [0, 1] rfl rfl) hS dX4_payTo_16
abbrev O_g_Life_clear (cy : Nat → ClassId) (vl : Nat) (vl1 : Nat) (vl2 : Nat) (vl3 : Nat) (vl4 : Nat) (vl5 : Nat) (vl6 : Nat) (vl7 : Nat) (vl8 : Nat) (vl9 : Nat) (vl10 : Nat) (vly : Int32) (vlf1 : Nat → Int32) (vlf2 : Nat → Int32) (vlf3 : Nat → Int32) (vlf4 : Nat → Int32) (vlf5 : Nat → Int32) (vlf6 : Nat → Int32) (u : Int32 × (Nat → Int32) × (Nat → Int32) × (Nat → Int32) × (Nat → Int32) × (Nat → Int32) × (Nat → Int32)) : va_W := [(vl, .inr (5, [.ref vl1, .ref vl2, .ref vl3, .ref vl4, .ref vl5, .ref vl6, .ref vl7, .ref vl8, .ref vl9, .ref vl10, .int u.1])), (vl1, .inl (cy 0, 7, .inl u.2.1)), (vl2, .inl (cy 0, 70, .inl u.2.2.1)), (vl3, .inl (cy 0, 49, .inl u.2.2.2.1)), (vl4, .inl (cy 0, 7, .inl u.2.2.2.2.1)), (vl5, .inl (cy 0, 7, .inl u.2.2.2.2.2.1)), (vl6, .inl (cy 0, 7, .inl u.2.2.2.2.2.2))]
set_option maxHeartbeats 4000000 in
set_option maxRecDepth 100000 in
theorem g_Life_clear (l : Launch) (dC : Nat → ClassId) (dI : Nat → Nat → Nat) (cy : Nat → ClassId) (sz : Nat) (vl : Nat) (vl1 : Nat) (vl2 : Nat) (vl3 : Nat) (vl4 : Nat) (vl5 : Nat) (vl6 : Nat) (vl7 : Nat) (vl8 : Nat) (vl9 : Nat) (vl10 : Nat) (vly : Int32) (vlf1 : Nat → Int32) (vlf2 : Nat → Int32) (vlf3 : Nat → Int32) (vlf4 : Nat → Int32) (vlf5 : Nat → Int32) (vlf6 : Nat → Int32) (p_vlf2 : Rg vlf2 70 0 9) (p_vlf5 : Rg vlf5 7 (-1) 9) : Met l yX4_clear (wl yX4_clear cX4_clear 2 none) ({ frames := 0, cells := 0, slots := 0, locals := 0 }) (Pw (dC, dI) vwCl cy [(vl, .inr (5, [.ref vl1, .ref vl2, .ref vl3, .ref vl4, .ref vl5, .ref vl6, .ref vl7, .ref vl8, .ref vl9, .ref vl10, .int vly])), (vl1, .inl (cy 0, 7, .inl vlf1)), (vl2, .inl (cy 0, 70, .inl vlf2)), (vl3, .inl (cy 0, 49, .inl vlf3)), (vl4, .inl (cy 0, 7, .inl vlf4)), (vl5, .inl (cy 0, 7, .inl vlf5)), (vl6, .inl (cy 0, 7, .inl vlf6))] sz [.ref vl] nE) (Qv (dC, dI) vwCl (fun (u : Int32 × (Nat → Int32) × (Nat → Int32) × (Nat → Int32) × (Nat → Int32) × (Nat → Int32) × (Nat → Int32)) => (Rg u.2.2.1 70 0 9) ∧ (Rg u.2.2.2.2.2.1 7 (-1) 9)) (O_g_Life_clear cy vl vl1 vl2 vl3 vl4 vl5 vl6 vl7 vl8 vl9 vl10 vly vlf1 vlf2 vlf3 vlf4 vlf5 vlf6) (va_A [(vl, .inr (5, [.ref vl1, .ref vl2, .ref vl3, .ref vl4, .ref vl5, .ref vl6, .ref vl7, .ref vl8, .ref vl9, .ref vl10, .int vly])), (vl1, .inl (cy 0, 7, .inl vlf1)), (vl2, .inl (cy 0, 70, .inl vlf2)), (vl3, .inl (cy 0, 49, .inl vlf3)), (vl4, .inl (cy 0, 7, .inl vlf4)), (vl5, .inl (cy 0, 7, .inl vlf5)), (vl6, .inl (cy 0, 7, .inl vlf6))] sz)) 0 0 (va_A [(vl, .inr (5, [.ref vl1, .ref vl2, .ref vl3, .ref vl4, .ref vl5, .ref vl6, .ref vl7, .ref vl8, .ref vl9, .ref vl10, .int vly])), (vl1, .inl (cy 0, 7, .inl vlf1)), (vl2, .inl (cy 0, 70, .inl vlf2)), (vl3, .inl (cy 0, 49, .inl vlf3)), (vl4, .inl (cy 0, 7, .inl vlf4)), (vl5, .inl (cy 0, 7, .inl vlf5)), (vl6, .inl (cy 0, 7, .inl vlf6))] sz) := by
  refine mw (Qc := Qv (dC, dI) vwCl (fun (u : Int32 × (Nat → Int32) × (Nat → Int32) × (Nat → Int32) × (Nat → Int32) × (Nat → Int32) × (Nat → Int32)) => (Rg u.2.2.1 70 0 9) ∧ (Rg u.2.2.2.2.2.1 7 (-1) 9)) (O_g_Life_clear cy vl vl1 vl2 vl3 vl4 vl5 vl6 vl7 vl8 vl9 vl10 vly vlf1 vlf2 vlf3 vlf4 vlf5 vlf6)) RX4 rfl (by decide +kernel) (Nat.le_of_ble_eq_true rfl) ?_
  intro p e s m below meth c A hx hb hr hlocks av9 hav hts hown hnm hml hK hP hD hA hS hE hAe Q9 hQ9 ls hl
  have hl : lv_has ls 2 [(0, .ref vl)] := hl
  refine lv_aload_n hx hb dX4_clear_0 rfl (lv_at hl 0 rfl) ?_
  refine lv_iconst (v := 0) hx hb dX4_clear_1 (by decide) ?_
  refine pf_X4_45 hx hb hts hown hK hP hD hS 0 rfl rfl rfl (Nat.le_of_ble_eq_true rfl) dX4_clear_2 (fun H locs hP hD hS => ?_)
  have hP : va_P (dC, dI) vwCl [(vl, .inr (5, [.ref vl1, .ref vl2, .ref vl3, .ref vl4, .ref vl5, .ref vl6, .ref vl7, .ref vl8, .ref vl9, .ref vl10, .int 0])), (vl1, .inl (cy 0, 7, .inl vlf1)), (vl2, .inl (cy 0, 70, .inl vlf2)), (vl3, .inl (cy 0, 49, .inl vlf3)), (vl4, .inl (cy 0, 7, .inl vlf4)), (vl5, .inl (cy 0, 7, .inl vlf5)), (vl6, .inl (cy 0, 7, .inl vlf6))] H := hP
  have hD : va_D A [(vl, .inr (5, [.ref vl1, .ref vl2, .ref vl3, .ref vl4, .ref vl5, .ref vl6, .ref vl7, .ref vl8, .ref vl9, .ref vl10, .int 0])), (vl1, .inl (cy 0, 7, .inl vlf1)), (vl2, .inl (cy 0, 70, .inl vlf2)), (vl3, .inl (cy 0, 49, .inl vlf3)), (vl4, .inl (cy 0, 7, .inl vlf4)), (vl5, .inl (cy 0, 7, .inl vlf5)), (vl6, .inl (cy 0, 7, .inl vlf6))] := hD
  refine lv_iconst (v := 0) hx hb dX4_clear_5 (by decide) ?_
  refine lv_istore_n (lv' := [(1, .int 0), (0, .ref vl)]) hx hb dX4_clear_6 rfl hl (by decide) rfl (fun ls hl => ?_)
  have loop1 : ∀ (n1 : Nat) (x_2 : Int32) (g_3 : Nat → Int32) (g_4 : Nat → Int32) (g_5 : Nat → Int32) (g_6 : Nat → Int32), (0 ≤ x_2.toInt ∧ x_2.toInt ≤ 7) → Rg g_5 7 (-1) 9 → 7 - x_2.toInt < (n1 : Int) → ∀ (H : Heap) (locs : List Loc), va_P (dC, dI) vwCl [(vl, .inr (5, [.ref vl1, .ref vl2, .ref vl3, .ref vl4, .ref vl5, .ref vl6, .ref vl7, .ref vl8, .ref vl9, .ref vl10, .int 0])), (vl1, .inl (cy 0, 7, .inl g_3)), (vl2, .inl (cy 0, 70, .inl vlf2)), (vl3, .inl (cy 0, 49, .inl vlf3)), (vl4, .inl (cy 0, 7, .inl g_4)), (vl5, .inl (cy 0, 7, .inl g_5)), (vl6, .inl (cy 0, 7, .inl g_6))] H → va_D A [(vl, .inr (5, [.ref vl1, .ref vl2, .ref vl3, .ref vl4, .ref vl5, .ref vl6, .ref vl7, .ref vl8, .ref vl9, .ref vl10, .int 0])), (vl1, .inl (cy 0, 7, .inl g_3)), (vl2, .inl (cy 0, 70, .inl vlf2)), (vl3, .inl (cy 0, 49, .inl vlf3)), (vl4, .inl (cy 0, 7, .inl g_4)), (vl5, .inl (cy 0, 7, .inl g_5)), (vl6, .inl (cy 0, 7, .inl g_6))] → va_S A s.heap H locs → ∀ ls : Array Slot, lv_has ls 2 [(1, .int x_2), (0, .ref vl)] → W p l e ({ frames := 0, cells := 0, slots := 0, locals := 0 }) s m av9 below meth c H locs 0 0 Q9 (F0 m 7 ls []) := by
    intro n1
    induction n1 with
    | zero =>
      intro x_2 g_3 g_4 g_5 g_6 bx_2 p_g_5 hn1 H locs hP hD hS ls hl
      exfalso; omega
    | succ n1 ih1 =>
      intro x_2 g_3 g_4 g_5 g_6 bx_2 p_g_5 hn1 H locs hP hD hS ls hl
      refine lv_iload_n hx hb dX4_clear_7 rfl (lv_at hl 0 rfl) ?_
      refine lv_bipush (v := 7) hx hb dX4_clear_8 (by decide) ?_
      have k_7 : (7 : Int32).toInt = 7 := by decide
      refine lv_icmp_ge (tgt := 47) hx hb dX4_clear_10 (by decide) (fun c_7 => ?_) (fun c_7 => ?_)
      · skip
        have c_7 : (7 : Int32).toInt ≤ x_2.toInt := i_le.mp c_7
        refine lv_iconst (v := 0) hx hb dX4_clear_47 (by decide) ?_
        refine lv_istore_n (lv' := [(1, .int 0), (0, .ref vl)]) hx hb dX4_clear_48 rfl hl (by decide) rfl (fun ls hl => ?_)
        have loop8 : ∀ (n8 : Nat) (x_9 : Int32) (g_10 : Nat → Int32), (0 ≤ x_9.toInt ∧ x_9.toInt ≤ 70) → Rg g_10 70 0 9 → 70 - x_9.toInt < (n8 : Int) → ∀ (H : Heap) (locs : List Loc), va_P (dC, dI) vwCl [(vl, .inr (5, [.ref vl1, .ref vl2, .ref vl3, .ref vl4, .ref vl5, .ref vl6, .ref vl7, .ref vl8, .ref vl9, .ref vl10, .int 0])), (vl1, .inl (cy 0, 7, .inl g_3)), (vl2, .inl (cy 0, 70, .inl g_10)), (vl3, .inl (cy 0, 49, .inl vlf3)), (vl4, .inl (cy 0, 7, .inl g_4)), (vl5, .inl (cy 0, 7, .inl g_5)), (vl6, .inl (cy 0, 7, .inl g_6))] H → va_D A [(vl, .inr (5, [.ref vl1, .ref vl2, .ref vl3, .ref vl4, .ref vl5, .ref vl6, .ref vl7, .ref vl8, .ref vl9, .ref vl10, .int 0])), (vl1, .inl (cy 0, 7, .inl g_3)), (vl2, .inl (cy 0, 70, .inl g_10)), (vl3, .inl (cy 0, 49, .inl vlf3)), (vl4, .inl (cy 0, 7, .inl g_4)), (vl5, .inl (cy 0, 7, .inl g_5)), (vl6, .inl (cy 0, 7, .inl g_6))] → va_S A s.heap H locs → ∀ ls : Array Slot, lv_has ls 2 [(1, .int x_9), (0, .ref vl)] → W p l e ({ frames := 0, cells := 0, slots := 0, locals := 0 }) s m av9 below meth c H locs 0 0 Q9 (F0 m 49 ls []) := by
          intro n8
          induction n8 with
          | zero =>
            intro x_9 g_10 bx_9 p_g_10 hn8 H locs hP hD hS ls hl
            exfalso; omega
          | succ n8 ih8 =>
            intro x_9 g_10 bx_9 p_g_10 hn8 H locs hP hD hS ls hl
            refine lv_iload_n hx hb dX4_clear_49 rfl (lv_at hl 0 rfl) ?_
            refine lv_bipush (v := 70) hx hb dX4_clear_50 (by decide) ?_
            have k_70 : (70 : Int32).toInt = 70 := by decide
            refine lv_icmp_ge (tgt := 68) hx hb dX4_clear_52 (by decide) (fun c_11 => ?_) (fun c_11 => ?_)
            · skip
              have c_11 : (70 : Int32).toInt ≤ x_9.toInt := i_le.mp c_11
              refine lv_iconst (v := 0) hx hb dX4_clear_68 (by decide) ?_
              refine lv_istore_n (lv' := [(1, .int 0), (0, .ref vl)]) hx hb dX4_clear_69 rfl hl (by decide) rfl (fun ls hl => ?_)
              have loop12 : ∀ (n12 : Nat) (x_13 : Int32) (g_14 : Nat → Int32), (0 ≤ x_13.toInt ∧ x_13.toInt ≤ 49) → 49 - x_13.toInt < (n12 : Int) → ∀ (H : Heap) (locs : List Loc), va_P (dC, dI) vwCl [(vl, .inr (5, [.ref vl1, .ref vl2, .ref vl3, .ref vl4, .ref vl5, .ref vl6, .ref vl7, .ref vl8, .ref vl9, .ref vl10, .int 0])), (vl1, .inl (cy 0, 7, .inl g_3)), (vl2, .inl (cy 0, 70, .inl g_10)), (vl3, .inl (cy 0, 49, .inl g_14)), (vl4, .inl (cy 0, 7, .inl g_4)), (vl5, .inl (cy 0, 7, .inl g_5)), (vl6, .inl (cy 0, 7, .inl g_6))] H → va_D A [(vl, .inr (5, [.ref vl1, .ref vl2, .ref vl3, .ref vl4, .ref vl5, .ref vl6, .ref vl7, .ref vl8, .ref vl9, .ref vl10, .int 0])), (vl1, .inl (cy 0, 7, .inl g_3)), (vl2, .inl (cy 0, 70, .inl g_10)), (vl3, .inl (cy 0, 49, .inl g_14)), (vl4, .inl (cy 0, 7, .inl g_4)), (vl5, .inl (cy 0, 7, .inl g_5)), (vl6, .inl (cy 0, 7, .inl g_6))] → va_S A s.heap H locs → ∀ ls : Array Slot, lv_has ls 2 [(1, .int x_13), (0, .ref vl)] → W p l e ({ frames := 0, cells := 0, slots := 0, locals := 0 }) s m av9 below meth c H locs 0 0 Q9 (F0 m 70 ls []) := by
                intro n12
                induction n12 with
                | zero =>
                  intro x_13 g_14 bx_13 hn12 H locs hP hD hS ls hl
                  exfalso; omega
                | succ n12 ih12 =>
                  intro x_13 g_14 bx_13 hn12 H locs hP hD hS ls hl
                  refine lv_iload_n hx hb dX4_clear_70 rfl (lv_at hl 0 rfl) ?_
                  refine lv_bipush (v := 49) hx hb dX4_clear_71 (by decide) ?_
                  have k_49 : (49 : Int32).toInt = 49 := by decide
                  refine lv_icmp_ge (tgt := 89) hx hb dX4_clear_73 (by decide) (fun c_15 => ?_) (fun c_15 => ?_)
                  · skip
                    have c_15 : (49 : Int32).toInt ≤ x_13.toInt := i_le.mp c_15
                    have k_0 : (0 : Int32).toInt = 0 := by decide
                    rw [hQ9]
                    exact re_v ((0 : Int32), g_3, g_10, g_14, g_4, g_5, g_6) hx hb hr hlocks ⟨(show Rg g_10 70 0 9 from p_g_10), (show Rg g_5 7 (-1) 9 from p_g_5)⟩ (hP.sub [0, 1, 2, 3, 4, 5, 6] rfl) (hD.sub [0, 1, 2, 3, 4, 5, 6] rfl rfl) hS dX4_clear_89
                  · skip
                    have c_15 : ¬ ((49 : Int32).toInt ≤ x_13.toInt) := fun h9 => c_15 (i_le.mpr h9)
                    refine lv_aload_n hx hb dX4_clear_76 rfl (lv_at hl 1 rfl) ?_
                    refine gf_X4_18 hx hb hts hown hK hP 0 rfl rfl dX4_clear_77 ?_
                    refine lv_iload_n hx hb dX4_clear_80 rfl (lv_at hl 0 rfl) ?_
                    refine lv_iconst (v := 0) hx hb dX4_clear_81 (by decide) ?_
                    have hin_16 : vp_in x_13 49 := vp_in_iff.mpr ⟨by omega, by omega⟩
                    refine va_iast hx hb hK hP hD hS 3 0 rfl rfl hin_16 dX4_clear_82 (fun H locs hP hD hS => ?_)
                    obtain ⟨f_17, ef_17⟩ : ∃ z : Nat → Int32, z = upd g_14 (Int32.toNatClampNeg x_13) 0 := ⟨_, rfl⟩
                    have hP : va_P (dC, dI) vwCl [(vl, .inr (5, [.ref vl1, .ref vl2, .ref vl3, .ref vl4, .ref vl5, .ref vl6, .ref vl7, .ref vl8, .ref vl9, .ref vl10, .int 0])), (vl1, .inl (cy 0, 7, .inl g_3)), (vl2, .inl (cy 0, 70, .inl g_10)), (vl3, .inl (cy 0, 49, .inl f_17)), (vl4, .inl (cy 0, 7, .inl g_4)), (vl5, .inl (cy 0, 7, .inl g_5)), (vl6, .inl (cy 0, 7, .inl g_6))] H := by rw [ef_17]; exact hP
                    have hD : va_D A [(vl, .inr (5, [.ref vl1, .ref vl2, .ref vl3, .ref vl4, .ref vl5, .ref vl6, .ref vl7, .ref vl8, .ref vl9, .ref vl10, .int 0])), (vl1, .inl (cy 0, 7, .inl g_3)), (vl2, .inl (cy 0, 70, .inl g_10)), (vl3, .inl (cy 0, 49, .inl f_17)), (vl4, .inl (cy 0, 7, .inl g_4)), (vl5, .inl (cy 0, 7, .inl g_5)), (vl6, .inl (cy 0, 7, .inl g_6))] := by rw [ef_17]; exact hD
                    obtain ⟨z_18, ez_18⟩ : ∃ z : Int32, z = x_13 + 1 := ⟨_, rfl⟩
                    have k_1 : (1 : Int32).toInt = 1 := by decide
                    have bz_18 : z_18.toInt = x_13.toInt + (1 : Int32).toInt := i_add ez_18 (by omega) (by omega)
                    refine lv_iinc (v := z_18) (lv' := [(1, .int z_18), (0, .ref vl)]) hx hb dX4_clear_83 hl (k := 0) rfl ez_18.symm (by decide) rfl (fun ls hl => ?_)
                    refine lv_goto (tgt := 70) hx hb dX4_clear_86 (by decide) ?_
                    exact ih12 z_18 f_17 ⟨by omega, by omega⟩ (by omega) _ _ (hP.sub [0, 1, 2, 3, 4, 5, 6] rfl) (hD.sub [0, 1, 2, 3, 4, 5, 6] rfl rfl) hS ls (lv_sub hl [0, 1] rfl)
              have k_0 : (0 : Int32).toInt = 0 := by decide
              exact loop12 ((49 - (0 : Int32).toInt).toNat + 1) 0 vlf3 ⟨by omega, by omega⟩ (by omega) _ _ hP hD hS ls (lv_sub hl [0, 1] rfl)
            · skip
              have c_11 : ¬ ((70 : Int32).toInt ≤ x_9.toInt) := fun h9 => c_11 (i_le.mpr h9)
              refine lv_aload_n hx hb dX4_clear_55 rfl (lv_at hl 1 rfl) ?_
              refine gf_X4_15 hx hb hts hown hK hP 0 rfl rfl dX4_clear_56 ?_
              refine lv_iload_n hx hb dX4_clear_59 rfl (lv_at hl 0 rfl) ?_
              refine lv_iconst (v := 0) hx hb dX4_clear_60 (by decide) ?_
              have hin_19 : vp_in x_9 70 := vp_in_iff.mpr ⟨by omega, by omega⟩
              refine va_iast hx hb hK hP hD hS 2 0 rfl rfl hin_19 dX4_clear_61 (fun H locs hP hD hS => ?_)
              obtain ⟨f_20, ef_20⟩ : ∃ z : Nat → Int32, z = upd g_10 (Int32.toNatClampNeg x_9) 0 := ⟨_, rfl⟩
              have hP : va_P (dC, dI) vwCl [(vl, .inr (5, [.ref vl1, .ref vl2, .ref vl3, .ref vl4, .ref vl5, .ref vl6, .ref vl7, .ref vl8, .ref vl9, .ref vl10, .int 0])), (vl1, .inl (cy 0, 7, .inl g_3)), (vl2, .inl (cy 0, 70, .inl f_20)), (vl3, .inl (cy 0, 49, .inl vlf3)), (vl4, .inl (cy 0, 7, .inl g_4)), (vl5, .inl (cy 0, 7, .inl g_5)), (vl6, .inl (cy 0, 7, .inl g_6))] H := by rw [ef_20]; exact hP
              have hD : va_D A [(vl, .inr (5, [.ref vl1, .ref vl2, .ref vl3, .ref vl4, .ref vl5, .ref vl6, .ref vl7, .ref vl8, .ref vl9, .ref vl10, .int 0])), (vl1, .inl (cy 0, 7, .inl g_3)), (vl2, .inl (cy 0, 70, .inl f_20)), (vl3, .inl (cy 0, 49, .inl vlf3)), (vl4, .inl (cy 0, 7, .inl g_4)), (vl5, .inl (cy 0, 7, .inl g_5)), (vl6, .inl (cy 0, 7, .inl g_6))] := by rw [ef_20]; exact hD
              have k_0 : (0 : Int32).toInt = 0 := by decide
              have p_f_20 : Rg f_20 70 0 9 := by rw [ef_20]; exact p_g_10.upd ⟨by omega, by omega⟩
              obtain ⟨z_21, ez_21⟩ : ∃ z : Int32, z = x_9 + 1 := ⟨_, rfl⟩
              have k_1 : (1 : Int32).toInt = 1 := by decide
              have bz_21 : z_21.toInt = x_9.toInt + (1 : Int32).toInt := i_add ez_21 (by omega) (by omega)
              refine lv_iinc (v := z_21) (lv' := [(1, .int z_21), (0, .ref vl)]) hx hb dX4_clear_62 hl (k := 0) rfl ez_21.symm (by decide) rfl (fun ls hl => ?_)
              refine lv_goto (tgt := 49) hx hb dX4_clear_65 (by decide) ?_
              exact ih8 z_21 f_20 ⟨by omega, by omega⟩ p_f_20 (by omega) _ _ (hP.sub [0, 1, 2, 3, 4, 5, 6] rfl) (hD.sub [0, 1, 2, 3, 4, 5, 6] rfl rfl) hS ls (lv_sub hl [0, 1] rfl)
        have k_0 : (0 : Int32).toInt = 0 := by decide
        exact loop8 ((70 - (0 : Int32).toInt).toNat + 1) 0 vlf2 ⟨by omega, by omega⟩ p_vlf2 (by omega) _ _ hP hD hS ls (lv_sub hl [0, 1] rfl)
      · skip
        have c_7 : ¬ ((7 : Int32).toInt ≤ x_2.toInt) := fun h9 => c_7 (i_le.mpr h9)
        refine lv_aload_n hx hb dX4_clear_13 rfl (lv_at hl 1 rfl) ?_
        refine gf_X4_9 hx hb hts hown hK hP 0 rfl rfl dX4_clear_14 ?_
        refine lv_iload_n hx hb dX4_clear_17 rfl (lv_at hl 0 rfl) ?_
        refine lv_iconst (v := 0) hx hb dX4_clear_18 (by decide) ?_
        have hin_22 : vp_in x_2 7 := vp_in_iff.mpr ⟨by omega, by omega⟩
        refine va_iast hx hb hK hP hD hS 1 0 rfl rfl hin_22 dX4_clear_19 (fun H locs hP hD hS => ?_)
        obtain ⟨f_23, ef_23⟩ : ∃ z : Nat → Int32, z = upd g_3 (Int32.toNatClampNeg x_2) 0 := ⟨_, rfl⟩
        have hP : va_P (dC, dI) vwCl [(vl, .inr (5, [.ref vl1, .ref vl2, .ref vl3, .ref vl4, .ref vl5, .ref vl6, .ref vl7, .ref vl8, .ref vl9, .ref vl10, .int 0])), (vl1, .inl (cy 0, 7, .inl f_23)), (vl2, .inl (cy 0, 70, .inl vlf2)), (vl3, .inl (cy 0, 49, .inl vlf3)), (vl4, .inl (cy 0, 7, .inl g_4)), (vl5, .inl (cy 0, 7, .inl g_5)), (vl6, .inl (cy 0, 7, .inl g_6))] H := by rw [ef_23]; exact hP
        have hD : va_D A [(vl, .inr (5, [.ref vl1, .ref vl2, .ref vl3, .ref vl4, .ref vl5, .ref vl6, .ref vl7, .ref vl8, .ref vl9, .ref vl10, .int 0])), (vl1, .inl (cy 0, 7, .inl f_23)), (vl2, .inl (cy 0, 70, .inl vlf2)), (vl3, .inl (cy 0, 49, .inl vlf3)), (vl4, .inl (cy 0, 7, .inl g_4)), (vl5, .inl (cy 0, 7, .inl g_5)), (vl6, .inl (cy 0, 7, .inl g_6))] := by rw [ef_23]; exact hD
        refine lv_aload_n hx hb dX4_clear_20 rfl (lv_at hl 1 rfl) ?_
        refine gf_X4_21 hx hb hts hown hK hP 0 rfl rfl dX4_clear_21 ?_
        refine lv_iload_n hx hb dX4_clear_24 rfl (lv_at hl 0 rfl) ?_
        refine lv_iconst (v := (-1)) hx hb dX4_clear_25 (by decide) ?_
        have hin_24 : vp_in x_2 7 := vp_in_iff.mpr ⟨by omega, by omega⟩
        refine va_iast hx hb hK hP hD hS 4 0 rfl rfl hin_24 dX4_clear_26 (fun H locs hP hD hS => ?_)
        obtain ⟨f_25, ef_25⟩ : ∃ z : Nat → Int32, z = upd g_4 (Int32.toNatClampNeg x_2) (-1) := ⟨_, rfl⟩
        have hP : va_P (dC, dI) vwCl [(vl, .inr (5, [.ref vl1, .ref vl2, .ref vl3, .ref vl4, .ref vl5, .ref vl6, .ref vl7, .ref vl8, .ref vl9, .ref vl10, .int 0])), (vl1, .inl (cy 0, 7, .inl f_23)), (vl2, .inl (cy 0, 70, .inl vlf2)), (vl3, .inl (cy 0, 49, .inl vlf3)), (vl4, .inl (cy 0, 7, .inl f_25)), (vl5, .inl (cy 0, 7, .inl g_5)), (vl6, .inl (cy 0, 7, .inl g_6))] H := by rw [ef_25]; exact hP
        have hD : va_D A [(vl, .inr (5, [.ref vl1, .ref vl2, .ref vl3, .ref vl4, .ref vl5, .ref vl6, .ref vl7, .ref vl8, .ref vl9, .ref vl10, .int 0])), (vl1, .inl (cy 0, 7, .inl f_23)), (vl2, .inl (cy 0, 70, .inl vlf2)), (vl3, .inl (cy 0, 49, .inl vlf3)), (vl4, .inl (cy 0, 7, .inl f_25)), (vl5, .inl (cy 0, 7, .inl g_5)), (vl6, .inl (cy 0, 7, .inl g_6))] := by rw [ef_25]; exact hD
        refine lv_aload_n hx hb dX4_clear_27 rfl (lv_at hl 1 rfl) ?_
        refine gf_X4_24 hx hb hts hown hK hP 0 rfl rfl dX4_clear_28 ?_
        refine lv_iload_n hx hb dX4_clear_31 rfl (lv_at hl 0 rfl) ?_
        refine lv_iconst (v := (-1)) hx hb dX4_clear_32 (by decide) ?_
        have hin_26 : vp_in x_2 7 := vp_in_iff.mpr ⟨by omega, by omega⟩
        refine va_iast hx hb hK hP hD hS 5 0 rfl rfl hin_26 dX4_clear_33 (fun H locs hP hD hS => ?_)
        obtain ⟨f_27, ef_27⟩ : ∃ z : Nat → Int32, z = upd g_5 (Int32.toNatClampNeg x_2) (-1) := ⟨_, rfl⟩
        have hP : va_P (dC, dI) vwCl [(vl, .inr (5, [.ref vl1, .ref vl2, .ref vl3, .ref vl4, .ref vl5, .ref vl6, .ref vl7, .ref vl8, .ref vl9, .ref vl10, .int 0])), (vl1, .inl (cy 0, 7, .inl f_23)), (vl2, .inl (cy 0, 70, .inl vlf2)), (vl3, .inl (cy 0, 49, .inl vlf3)), (vl4, .inl (cy 0, 7, .inl f_25)), (vl5, .inl (cy 0, 7, .inl f_27)), (vl6, .inl (cy 0, 7, .inl g_6))] H := by rw [ef_27]; exact hP
        have hD : va_D A [(vl, .inr (5, [.ref vl1, .ref vl2, .ref vl3, .ref vl4, .ref vl5, .ref vl6, .ref vl7, .ref vl8, .ref vl9, .ref vl10, .int 0])), (vl1, .inl (cy 0, 7, .inl f_23)), (vl2, .inl (cy 0, 70, .inl vlf2)), (vl3, .inl (cy 0, 49, .inl vlf3)), (vl4, .inl (cy 0, 7, .inl f_25)), (vl5, .inl (cy 0, 7, .inl f_27)), (vl6, .inl (cy 0, 7, .inl g_6))] := by rw [ef_27]; exact hD
        have k_m1 : ((-1) : Int32).toInt = (-1) := by decide
        have p_f_27 : Rg f_27 7 (-1) 9 := by rw [ef_27]; exact p_g_5.upd ⟨by omega, by omega⟩
        refine lv_aload_n hx hb dX4_clear_34 rfl (lv_at hl 1 rfl) ?_
        refine gf_X4_27 hx hb hts hown hK hP 0 rfl rfl dX4_clear_35 ?_
        refine lv_iload_n hx hb dX4_clear_38 rfl (lv_at hl 0 rfl) ?_
        refine lv_iconst (v := 0) hx hb dX4_clear_39 (by decide) ?_
        have hin_28 : vp_in x_2 7 := vp_in_iff.mpr ⟨by omega, by omega⟩
        refine va_iast hx hb hK hP hD hS 6 0 rfl rfl hin_28 dX4_clear_40 (fun H locs hP hD hS => ?_)
        obtain ⟨f_29, ef_29⟩ : ∃ z : Nat → Int32, z = upd g_6 (Int32.toNatClampNeg x_2) 0 := ⟨_, rfl⟩
        have hP : va_P (dC, dI) vwCl [(vl, .inr (5, [.ref vl1, .ref vl2, .ref vl3, .ref vl4, .ref vl5, .ref vl6, .ref vl7, .ref vl8, .ref vl9, .ref vl10, .int 0])), (vl1, .inl (cy 0, 7, .inl f_23)), (vl2, .inl (cy 0, 70, .inl vlf2)), (vl3, .inl (cy 0, 49, .inl vlf3)), (vl4, .inl (cy 0, 7, .inl f_25)), (vl5, .inl (cy 0, 7, .inl f_27)), (vl6, .inl (cy 0, 7, .inl f_29))] H := by rw [ef_29]; exact hP
        have hD : va_D A [(vl, .inr (5, [.ref vl1, .ref vl2, .ref vl3, .ref vl4, .ref vl5, .ref vl6, .ref vl7, .ref vl8, .ref vl9, .ref vl10, .int 0])), (vl1, .inl (cy 0, 7, .inl f_23)), (vl2, .inl (cy 0, 70, .inl vlf2)), (vl3, .inl (cy 0, 49, .inl vlf3)), (vl4, .inl (cy 0, 7, .inl f_25)), (vl5, .inl (cy 0, 7, .inl f_27)), (vl6, .inl (cy 0, 7, .inl f_29))] := by rw [ef_29]; exact hD
        obtain ⟨z_30, ez_30⟩ : ∃ z : Int32, z = x_2 + 1 := ⟨_, rfl⟩
        have k_1 : (1 : Int32).toInt = 1 := by decide
        have bz_30 : z_30.toInt = x_2.toInt + (1 : Int32).toInt := i_add ez_30 (by omega) (by omega)
        refine lv_iinc (v := z_30) (lv' := [(1, .int z_30), (0, .ref vl)]) hx hb dX4_clear_41 hl (k := 0) rfl ez_30.symm (by decide) rfl (fun ls hl => ?_)
        refine lv_goto (tgt := 7) hx hb dX4_clear_44 (by decide) ?_
        exact ih1 z_30 f_23 f_25 f_27 f_29 ⟨by omega, by omega⟩ p_f_27 (by omega) _ _ (hP.sub [0, 1, 2, 3, 4, 5, 6] rfl) (hD.sub [0, 1, 2, 3, 4, 5, 6] rfl rfl) hS ls (lv_sub hl [0, 1] rfl)
  have k_0 : (0 : Int32).toInt = 0 := by decide
  exact loop1 ((7 - (0 : Int32).toInt).toNat + 1) 0 vlf1 vlf4 vlf5 vlf6 ⟨by omega, by omega⟩ p_vlf5 (by omega) _ _ hP hD hS ls (lv_sub hl [0, 1] rfl)
abbrev cX4_copyFrom : ByteArray := prog_6_method_3_code
def yX4_copyFrom : MethodName := ⟨RX4, "copyFrom", "(LLikenessPound$Life;)V"⟩
theorem t766 : Cond.code yX4_copyFrom cX4_copyFrom 2 none ∈ GW := gw_mem 880 (by decide +kernel) (by decide +kernel)
abbrev O_g_Life_copy (cy : Nat → ClassId) (vl : Nat) (vl1 : Nat) (vl2 : Nat) (vl3 : Nat) (vl4 : Nat) (vl5 : Nat) (vl6 : Nat) (vl7 : Nat) (vl8 : Nat) (vl9 : Nat) (vl10 : Nat) (vly : Int32) (vlf1 : Nat → Int32) (vlf2 : Nat → Int32) (vlf3 : Nat → Int32) (vlf4 : Nat → Int32) (vlf5 : Nat → Int32) (vlf6 : Nat → Int32) (vlf7 : Nat → Int32) (vlf8 : Nat → Int32) (vlf9 : Nat → Int32) (vlf10 : Nat → Int32) (vk : Nat) (vk1 : Nat) (vk2 : Nat) (vk3 : Nat) (vk4 : Nat) (vk5 : Nat) (vk6 : Nat) (vk7 : Nat) (vk8 : Nat) (vk9 : Nat) (vk10 : Nat) (vky : Int32) (vkf1 : Nat → Int32) (vkf2 : Nat → Int32) (vkf3 : Nat → Int32) (vkf4 : Nat → Int32) (vkf5 : Nat → Int32) (vkf6 : Nat → Int32) (vkf7 : Nat → Int32) (vkf8 : Nat → Int32) (vkf9 : Nat → Int32) (vkf10 : Nat → Int32) (u : Int32 × (Nat → Int32) × (Nat → Int32) × (Nat → Int32) × (Nat → Int32) × (Nat → Int32) × (Nat → Int32) × (Nat → Int32) × (Nat → Int32) × (Nat → Int32) × (Nat → Int32)) : va_W := [(vl, .inr (5, [.ref vl1, .ref vl2, .ref vl3, .ref vl4, .ref vl5, .ref vl6, .ref vl7, .ref vl8, .ref vl9, .ref vl10, .int u.1])), (vl1, .inl (cy 0, 7, .inl u.2.1)), (vl2, .inl (cy 0, 70, .inl u.2.2.1)), (vl3, .inl (cy 0, 49, .inl u.2.2.2.1)), (vl4, .inl (cy 0, 7, .inl u.2.2.2.2.1)), (vl5, .inl (cy 0, 7, .inl u.2.2.2.2.2.1)), (vl6, .inl (cy 0, 7, .inl u.2.2.2.2.2.2.1)), (vl7, .inl (cy 0, 7, .inl u.2.2.2.2.2.2.2.1)), (vl8, .inl (cy 0, 7, .inl u.2.2.2.2.2.2.2.2.1)), (vl9, .inl (cy 0, 7, .inl u.2.2.2.2.2.2.2.2.2.1)), (vl10, .inl (cy 0, 7, .inl u.2.2.2.2.2.2.2.2.2.2)), (vk, .inr (5, [.ref vk1, .ref vk2, .ref vk3, .ref vk4, .ref vk5, .ref vk6, .ref vk7, .ref vk8, .ref vk9, .ref vk10, .int vky])), (vk1, .inl (cy 0, 7, .inl vkf1)), (vk2, .inl (cy 0, 70, .inl vkf2)), (vk3, .inl (cy 0, 49, .inl vkf3)), (vk4, .inl (cy 0, 7, .inl vkf4)), (vk5, .inl (cy 0, 7, .inl vkf5)), (vk6, .inl (cy 0, 7, .inl vkf6)), (vk7, .inl (cy 0, 7, .inl vkf7)), (vk8, .inl (cy 0, 7, .inl vkf8)), (vk9, .inl (cy 0, 7, .inl vkf9)), (vk10, .inl (cy 0, 7, .inl vkf10))]
theorem dX4_copyFrom_0 : decode cX4_copyFrom 0 = .ok (.aload_n 0, 1) := by decide +kernel
theorem dX4_copyFrom_1 : decode cX4_copyFrom 1 = .ok (.aload_n 1, 1) := by decide +kernel
theorem dX4_copyFrom_2 : decode cX4_copyFrom 2 = .ok (.getfield 45, 3) := by decide +kernel
theorem gf_X4_45 {p : Program} {l : Launch} {e : Env} {R : Room} {s : State} {m : MethodId} {args : Array Value} {below : List Frame} {meth : Method} {c : Code} {H : Heap} {locs : List Loc} {cells slots : Nat} {Q : State → Prop} {cc : ByteArray} {pc : Nat} {ls : Array Slot} {rest : List Value} {D : va_G} {a : Nat} {tys : List (ClassId × FieldType)} {ws : va_W} (hx : p.tables.exec = Jvm.exec) (hb : c.code = cc) (hts : ∀ w ∈ GW, w.before args s = true) (hown : s.vm.findClass RX4 = some m.cls) (hK : va_K D vwCl tys s) (hP : va_P D vwCl ws H) (q0 : Nat) {fs : List Value} (he : ws[q0]? = some (a, .inr (5, fs))) {v : Value} (hv : fs[10]? = some v) (hdg : decode cc pc = .ok (.getfield 45, 3)) (kk : W p l e R s m args below meth c H locs cells slots Q (F0 m (pc + 3) ls (v :: rest))) : W p l e R s m args below meth c H locs cells slots Q (F0 m pc ls (.ref a :: rest)) := va_get (C := RX4) (T := TX4) (N := 11) (ci := 5) hx hb hts inX4 hown hK hP q0 he rfl 10 (by decide) (hts _ t266) (fun _ h => h) hv hdg kk
theorem dX4_copyFrom_5 : decode cX4_copyFrom 5 = .ok (.putfield 45, 3) := by decide +kernel
theorem dX4_copyFrom_8 : decode cX4_copyFrom 8 = .ok (.aload_n 1, 1) := by decide +kernel
theorem dX4_copyFrom_9 : decode cX4_copyFrom 9 = .ok (.getfield 9, 3) := by decide +kernel
theorem dX4_copyFrom_12 : decode cX4_copyFrom 12 = .ok (.iconst 0, 1) := by decide +kernel
theorem dX4_copyFrom_13 : decode cX4_copyFrom 13 = .ok (.aload_n 0, 1) := by decide +kernel
theorem dX4_copyFrom_14 : decode cX4_copyFrom 14 = .ok (.getfield 9, 3) := by decide +kernel
theorem dX4_copyFrom_17 : decode cX4_copyFrom 17 = .ok (.iconst 0, 1) := by decide +kernel
theorem dX4_copyFrom_18 : decode cX4_copyFrom 18 = .ok (.bipush 7, 2) := by decide +kernel
theorem dX4_copyFrom_20 : decode cX4_copyFrom 20 = .ok (.invokestatic 49, 3) := by decide +kernel
theorem t767 : Cond.methodLink RX4 49 arraycopyName ∈ GW := gw_mem 881 (by decide +kernel) (by decide +kernel)
theorem t769 : Cond.native arraycopyName ∈ GW := gw_mem 883 (by decide +kernel) (by decide +kernel)
theorem t768 : Cond.static arraycopyName ∈ GW := gw_mem 882 (by decide +kernel) (by decide +kernel)
theorem t23 : Cond.initialized "java/lang/System" ∈ GW := gw_mem 137 (by decide +kernel) (by decide +kernel)
theorem dX4_copyFrom_23 : decode cX4_copyFrom 23 = .ok (.aload_n 1, 1) := by decide +kernel
theorem dX4_copyFrom_24 : decode cX4_copyFrom 24 = .ok (.getfield 15, 3) := by decide +kernel
theorem dX4_copyFrom_27 : decode cX4_copyFrom 27 = .ok (.iconst 0, 1) := by decide +kernel
theorem dX4_copyFrom_28 : decode cX4_copyFrom 28 = .ok (.aload_n 0, 1) := by decide +kernel
theorem dX4_copyFrom_29 : decode cX4_copyFrom 29 = .ok (.getfield 15, 3) := by decide +kernel
theorem dX4_copyFrom_32 : decode cX4_copyFrom 32 = .ok (.iconst 0, 1) := by decide +kernel
theorem dX4_copyFrom_33 : decode cX4_copyFrom 33 = .ok (.bipush 70, 2) := by decide +kernel
theorem dX4_copyFrom_35 : decode cX4_copyFrom 35 = .ok (.invokestatic 49, 3) := by decide +kernel
theorem dX4_copyFrom_38 : decode cX4_copyFrom 38 = .ok (.aload_n 1, 1) := by decide +kernel
theorem dX4_copyFrom_39 : decode cX4_copyFrom 39 = .ok (.getfield 18, 3) := by decide +kernel
theorem dX4_copyFrom_42 : decode cX4_copyFrom 42 = .ok (.iconst 0, 1) := by decide +kernel
theorem dX4_copyFrom_43 : decode cX4_copyFrom 43 = .ok (.aload_n 0, 1) := by decide +kernel
theorem dX4_copyFrom_44 : decode cX4_copyFrom 44 = .ok (.getfield 18, 3) := by decide +kernel
theorem dX4_copyFrom_47 : decode cX4_copyFrom 47 = .ok (.iconst 0, 1) := by decide +kernel
theorem dX4_copyFrom_48 : decode cX4_copyFrom 48 = .ok (.bipush 49, 2) := by decide +kernel
theorem dX4_copyFrom_50 : decode cX4_copyFrom 50 = .ok (.invokestatic 49, 3) := by decide +kernel
theorem dX4_copyFrom_53 : decode cX4_copyFrom 53 = .ok (.aload_n 1, 1) := by decide +kernel
theorem dX4_copyFrom_54 : decode cX4_copyFrom 54 = .ok (.getfield 21, 3) := by decide +kernel
theorem dX4_copyFrom_57 : decode cX4_copyFrom 57 = .ok (.iconst 0, 1) := by decide +kernel
theorem dX4_copyFrom_58 : decode cX4_copyFrom 58 = .ok (.aload_n 0, 1) := by decide +kernel
theorem dX4_copyFrom_59 : decode cX4_copyFrom 59 = .ok (.getfield 21, 3) := by decide +kernel
theorem dX4_copyFrom_62 : decode cX4_copyFrom 62 = .ok (.iconst 0, 1) := by decide +kernel
theorem dX4_copyFrom_63 : decode cX4_copyFrom 63 = .ok (.bipush 7, 2) := by decide +kernel
theorem dX4_copyFrom_65 : decode cX4_copyFrom 65 = .ok (.invokestatic 49, 3) := by decide +kernel
theorem dX4_copyFrom_68 : decode cX4_copyFrom 68 = .ok (.aload_n 1, 1) := by decide +kernel
theorem dX4_copyFrom_69 : decode cX4_copyFrom 69 = .ok (.getfield 24, 3) := by decide +kernel
theorem dX4_copyFrom_72 : decode cX4_copyFrom 72 = .ok (.iconst 0, 1) := by decide +kernel
theorem dX4_copyFrom_73 : decode cX4_copyFrom 73 = .ok (.aload_n 0, 1) := by decide +kernel
theorem dX4_copyFrom_74 : decode cX4_copyFrom 74 = .ok (.getfield 24, 3) := by decide +kernel
theorem dX4_copyFrom_77 : decode cX4_copyFrom 77 = .ok (.iconst 0, 1) := by decide +kernel
theorem dX4_copyFrom_78 : decode cX4_copyFrom 78 = .ok (.bipush 7, 2) := by decide +kernel
theorem dX4_copyFrom_80 : decode cX4_copyFrom 80 = .ok (.invokestatic 49, 3) := by decide +kernel
theorem dX4_copyFrom_83 : decode cX4_copyFrom 83 = .ok (.aload_n 1, 1) := by decide +kernel
theorem dX4_copyFrom_84 : decode cX4_copyFrom 84 = .ok (.getfield 27, 3) := by decide +kernel
theorem dX4_copyFrom_87 : decode cX4_copyFrom 87 = .ok (.iconst 0, 1) := by decide +kernel
theorem dX4_copyFrom_88 : decode cX4_copyFrom 88 = .ok (.aload_n 0, 1) := by decide +kernel
theorem dX4_copyFrom_89 : decode cX4_copyFrom 89 = .ok (.getfield 27, 3) := by decide +kernel
theorem dX4_copyFrom_92 : decode cX4_copyFrom 92 = .ok (.iconst 0, 1) := by decide +kernel
theorem dX4_copyFrom_93 : decode cX4_copyFrom 93 = .ok (.bipush 7, 2) := by decide +kernel
theorem dX4_copyFrom_95 : decode cX4_copyFrom 95 = .ok (.invokestatic 49, 3) := by decide +kernel
theorem dX4_copyFrom_98 : decode cX4_copyFrom 98 = .ok (.aload_n 1, 1) := by decide +kernel
theorem dX4_copyFrom_99 : decode cX4_copyFrom 99 = .ok (.getfield 30, 3) := by decide +kernel
theorem t254 : Cond.fieldLink RX4 30 "LikenessPound$Life" "keptWhite" "[I" ∈ GW := gw_mem 368 (by decide +kernel) (by decide +kernel)
theorem gf_X4_30 {p : Program} {l : Launch} {e : Env} {R : Room} {s : State} {m : MethodId} {args : Array Value} {below : List Frame} {meth : Method} {c : Code} {H : Heap} {locs : List Loc} {cells slots : Nat} {Q : State → Prop} {cc : ByteArray} {pc : Nat} {ls : Array Slot} {rest : List Value} {D : va_G} {a : Nat} {tys : List (ClassId × FieldType)} {ws : va_W} (hx : p.tables.exec = Jvm.exec) (hb : c.code = cc) (hts : ∀ w ∈ GW, w.before args s = true) (hown : s.vm.findClass RX4 = some m.cls) (hK : va_K D vwCl tys s) (hP : va_P D vwCl ws H) (q0 : Nat) {fs : List Value} (he : ws[q0]? = some (a, .inr (5, fs))) {v : Value} (hv : fs[6]? = some v) (hdg : decode cc pc = .ok (.getfield 30, 3)) (kk : W p l e R s m args below meth c H locs cells slots Q (F0 m (pc + 3) ls (v :: rest))) : W p l e R s m args below meth c H locs cells slots Q (F0 m pc ls (.ref a :: rest)) := va_get (C := RX4) (T := TX4) (N := 11) (ci := 5) hx hb hts inX4 hown hK hP q0 he rfl 6 (by decide) (hts _ t254) (fun _ h => h) hv hdg kk
theorem dX4_copyFrom_102 : decode cX4_copyFrom 102 = .ok (.iconst 0, 1) := by decide +kernel
theorem dX4_copyFrom_103 : decode cX4_copyFrom 103 = .ok (.aload_n 0, 1) := by decide +kernel
theorem dX4_copyFrom_104 : decode cX4_copyFrom 104 = .ok (.getfield 30, 3) := by decide +kernel
theorem dX4_copyFrom_107 : decode cX4_copyFrom 107 = .ok (.iconst 0, 1) := by decide +kernel
theorem dX4_copyFrom_108 : decode cX4_copyFrom 108 = .ok (.bipush 7, 2) := by decide +kernel
theorem dX4_copyFrom_110 : decode cX4_copyFrom 110 = .ok (.invokestatic 49, 3) := by decide +kernel
theorem dX4_copyFrom_113 : decode cX4_copyFrom 113 = .ok (.aload_n 1, 1) := by decide +kernel
theorem dX4_copyFrom_114 : decode cX4_copyFrom 114 = .ok (.getfield 33, 3) := by decide +kernel
theorem t257 : Cond.fieldLink RX4 33 "LikenessPound$Life" "keptDark" "[I" ∈ GW := gw_mem 371 (by decide +kernel) (by decide +kernel)
theorem gf_X4_33 {p : Program} {l : Launch} {e : Env} {R : Room} {s : State} {m : MethodId} {args : Array Value} {below : List Frame} {meth : Method} {c : Code} {H : Heap} {locs : List Loc} {cells slots : Nat} {Q : State → Prop} {cc : ByteArray} {pc : Nat} {ls : Array Slot} {rest : List Value} {D : va_G} {a : Nat} {tys : List (ClassId × FieldType)} {ws : va_W} (hx : p.tables.exec = Jvm.exec) (hb : c.code = cc) (hts : ∀ w ∈ GW, w.before args s = true) (hown : s.vm.findClass RX4 = some m.cls) (hK : va_K D vwCl tys s) (hP : va_P D vwCl ws H) (q0 : Nat) {fs : List Value} (he : ws[q0]? = some (a, .inr (5, fs))) {v : Value} (hv : fs[7]? = some v) (hdg : decode cc pc = .ok (.getfield 33, 3)) (kk : W p l e R s m args below meth c H locs cells slots Q (F0 m (pc + 3) ls (v :: rest))) : W p l e R s m args below meth c H locs cells slots Q (F0 m pc ls (.ref a :: rest)) := va_get (C := RX4) (T := TX4) (N := 11) (ci := 5) hx hb hts inX4 hown hK hP q0 he rfl 7 (by decide) (hts _ t257) (fun _ h => h) hv hdg kk
theorem dX4_copyFrom_117 : decode cX4_copyFrom 117 = .ok (.iconst 0, 1) := by decide +kernel
theorem dX4_copyFrom_118 : decode cX4_copyFrom 118 = .ok (.aload_n 0, 1) := by decide +kernel
theorem dX4_copyFrom_119 : decode cX4_copyFrom 119 = .ok (.getfield 33, 3) := by decide +kernel
theorem dX4_copyFrom_122 : decode cX4_copyFrom 122 = .ok (.iconst 0, 1) := by decide +kernel
theorem dX4_copyFrom_123 : decode cX4_copyFrom 123 = .ok (.bipush 7, 2) := by decide +kernel
theorem dX4_copyFrom_125 : decode cX4_copyFrom 125 = .ok (.invokestatic 49, 3) := by decide +kernel
theorem dX4_copyFrom_128 : decode cX4_copyFrom 128 = .ok (.aload_n 1, 1) := by decide +kernel
theorem dX4_copyFrom_129 : decode cX4_copyFrom 129 = .ok (.getfield 36, 3) := by decide +kernel
theorem t260 : Cond.fieldLink RX4 36 "LikenessPound$Life" "keptYear" "[I" ∈ GW := gw_mem 374 (by decide +kernel) (by decide +kernel)
theorem gf_X4_36 {p : Program} {l : Launch} {e : Env} {R : Room} {s : State} {m : MethodId} {args : Array Value} {below : List Frame} {meth : Method} {c : Code} {H : Heap} {locs : List Loc} {cells slots : Nat} {Q : State → Prop} {cc : ByteArray} {pc : Nat} {ls : Array Slot} {rest : List Value} {D : va_G} {a : Nat} {tys : List (ClassId × FieldType)} {ws : va_W} (hx : p.tables.exec = Jvm.exec) (hb : c.code = cc) (hts : ∀ w ∈ GW, w.before args s = true) (hown : s.vm.findClass RX4 = some m.cls) (hK : va_K D vwCl tys s) (hP : va_P D vwCl ws H) (q0 : Nat) {fs : List Value} (he : ws[q0]? = some (a, .inr (5, fs))) {v : Value} (hv : fs[8]? = some v) (hdg : decode cc pc = .ok (.getfield 36, 3)) (kk : W p l e R s m args below meth c H locs cells slots Q (F0 m (pc + 3) ls (v :: rest))) : W p l e R s m args below meth c H locs cells slots Q (F0 m pc ls (.ref a :: rest)) := va_get (C := RX4) (T := TX4) (N := 11) (ci := 5) hx hb hts inX4 hown hK hP q0 he rfl 8 (by decide) (hts _ t260) (fun _ h => h) hv hdg kk
theorem dX4_copyFrom_132 : decode cX4_copyFrom 132 = .ok (.iconst 0, 1) := by decide +kernel
theorem dX4_copyFrom_133 : decode cX4_copyFrom 133 = .ok (.aload_n 0, 1) := by decide +kernel
theorem dX4_copyFrom_134 : decode cX4_copyFrom 134 = .ok (.getfield 36, 3) := by decide +kernel
theorem dX4_copyFrom_137 : decode cX4_copyFrom 137 = .ok (.iconst 0, 1) := by decide +kernel
theorem dX4_copyFrom_138 : decode cX4_copyFrom 138 = .ok (.bipush 7, 2) := by decide +kernel
theorem dX4_copyFrom_140 : decode cX4_copyFrom 140 = .ok (.invokestatic 49, 3) := by decide +kernel
theorem dX4_copyFrom_143 : decode cX4_copyFrom 143 = .ok (.aload_n 1, 1) := by decide +kernel
theorem dX4_copyFrom_144 : decode cX4_copyFrom 144 = .ok (.getfield 39, 3) := by decide +kernel
theorem t263 : Cond.fieldLink RX4 39 "LikenessPound$Life" "keptAge" "[I" ∈ GW := gw_mem 377 (by decide +kernel) (by decide +kernel)
theorem gf_X4_39 {p : Program} {l : Launch} {e : Env} {R : Room} {s : State} {m : MethodId} {args : Array Value} {below : List Frame} {meth : Method} {c : Code} {H : Heap} {locs : List Loc} {cells slots : Nat} {Q : State → Prop} {cc : ByteArray} {pc : Nat} {ls : Array Slot} {rest : List Value} {D : va_G} {a : Nat} {tys : List (ClassId × FieldType)} {ws : va_W} (hx : p.tables.exec = Jvm.exec) (hb : c.code = cc) (hts : ∀ w ∈ GW, w.before args s = true) (hown : s.vm.findClass RX4 = some m.cls) (hK : va_K D vwCl tys s) (hP : va_P D vwCl ws H) (q0 : Nat) {fs : List Value} (he : ws[q0]? = some (a, .inr (5, fs))) {v : Value} (hv : fs[9]? = some v) (hdg : decode cc pc = .ok (.getfield 39, 3)) (kk : W p l e R s m args below meth c H locs cells slots Q (F0 m (pc + 3) ls (v :: rest))) : W p l e R s m args below meth c H locs cells slots Q (F0 m pc ls (.ref a :: rest)) := va_get (C := RX4) (T := TX4) (N := 11) (ci := 5) hx hb hts inX4 hown hK hP q0 he rfl 9 (by decide) (hts _ t263) (fun _ h => h) hv hdg kk
theorem dX4_copyFrom_147 : decode cX4_copyFrom 147 = .ok (.iconst 0, 1) := by decide +kernel
theorem dX4_copyFrom_148 : decode cX4_copyFrom 148 = .ok (.aload_n 0, 1) := by decide +kernel
theorem dX4_copyFrom_149 : decode cX4_copyFrom 149 = .ok (.getfield 39, 3) := by decide +kernel
theorem dX4_copyFrom_152 : decode cX4_copyFrom 152 = .ok (.iconst 0, 1) := by decide +kernel
theorem dX4_copyFrom_153 : decode cX4_copyFrom 153 = .ok (.bipush 7, 2) := by decide +kernel
theorem dX4_copyFrom_155 : decode cX4_copyFrom 155 = .ok (.invokestatic 49, 3) := by decide +kernel
theorem dX4_copyFrom_158 : decode cX4_copyFrom 158 = .ok (.return_, 1) := by decide +kernel
set_option maxHeartbeats 4000000 in
set_option maxRecDepth 100000 in
theorem g_Life_copy (l : Launch) (dC : Nat → ClassId) (dI : Nat → Nat → Nat) (cy : Nat → ClassId) (sz : Nat) (vl : Nat) (vl1 : Nat) (vl2 : Nat) (vl3 : Nat) (vl4 : Nat) (vl5 : Nat) (vl6 : Nat) (vl7 : Nat) (vl8 : Nat) (vl9 : Nat) (vl10 : Nat) (vly : Int32) (vlf1 : Nat → Int32) (vlf2 : Nat → Int32) (vlf3 : Nat → Int32) (vlf4 : Nat → Int32) (vlf5 : Nat → Int32) (vlf6 : Nat → Int32) (vlf7 : Nat → Int32) (vlf8 : Nat → Int32) (vlf9 : Nat → Int32) (vlf10 : Nat → Int32) (vk : Nat) (vk1 : Nat) (vk2 : Nat) (vk3 : Nat) (vk4 : Nat) (vk5 : Nat) (vk6 : Nat) (vk7 : Nat) (vk8 : Nat) (vk9 : Nat) (vk10 : Nat) (vky : Int32) (vkf1 : Nat → Int32) (vkf2 : Nat → Int32) (vkf3 : Nat → Int32) (vkf4 : Nat → Int32) (vkf5 : Nat → Int32) (vkf6 : Nat → Int32) (vkf7 : Nat → Int32) (vkf8 : Nat → Int32) (vkf9 : Nat → Int32) (vkf10 : Nat → Int32) (p_vlf2 : Rg vlf2 70 0 9) (p_vlf5 : Rg vlf5 7 (-1) 9) (p_vkf2 : Rg vkf2 70 0 9) (p_vkf5 : Rg vkf5 7 (-1) 9) : Met l yX4_copyFrom (wl yX4_copyFrom cX4_copyFrom 2 none) ({ frames := 1, cells := 0, slots := 0, locals := 64 }) (Pw (dC, dI) vwCl cy [(vl, .inr (5, [.ref vl1, .ref vl2, .ref vl3, .ref vl4, .ref vl5, .ref vl6, .ref vl7, .ref vl8, .ref vl9, .ref vl10, .int vly])), (vl1, .inl (cy 0, 7, .inl vlf1)), (vl2, .inl (cy 0, 70, .inl vlf2)), (vl3, .inl (cy 0, 49, .inl vlf3)), (vl4, .inl (cy 0, 7, .inl vlf4)), (vl5, .inl (cy 0, 7, .inl vlf5)), (vl6, .inl (cy 0, 7, .inl vlf6)), (vl7, .inl (cy 0, 7, .inl vlf7)), (vl8, .inl (cy 0, 7, .inl vlf8)), (vl9, .inl (cy 0, 7, .inl vlf9)), (vl10, .inl (cy 0, 7, .inl vlf10)), (vk, .inr (5, [.ref vk1, .ref vk2, .ref vk3, .ref vk4, .ref vk5, .ref vk6, .ref vk7, .ref vk8, .ref vk9, .ref vk10, .int vky])), (vk1, .inl (cy 0, 7, .inl vkf1)), (vk2, .inl (cy 0, 70, .inl vkf2)), (vk3, .inl (cy 0, 49, .inl vkf3)), (vk4, .inl (cy 0, 7, .inl vkf4)), (vk5, .inl (cy 0, 7, .inl vkf5)), (vk6, .inl (cy 0, 7, .inl vkf6)), (vk7, .inl (cy 0, 7, .inl vkf7)), (vk8, .inl (cy 0, 7, .inl vkf8)), (vk9, .inl (cy 0, 7, .inl vkf9)), (vk10, .inl (cy 0, 7, .inl vkf10))] sz [.ref vl, .ref vk] nE) (Qv (dC, dI) vwCl (fun (u : Int32 × (Nat → Int32) × (Nat → Int32) × (Nat → Int32) × (Nat → Int32) × (Nat → Int32) × (Nat → Int32) × (Nat → Int32) × (Nat → Int32) × (Nat → Int32) × (Nat → Int32)) => (Rg u.2.2.1 70 0 9) ∧ (Rg u.2.2.2.2.2.1 7 (-1) 9)) (O_g_Life_copy cy vl vl1 vl2 vl3 vl4 vl5 vl6 vl7 vl8 vl9 vl10 vly vlf1 vlf2 vlf3 vlf4 vlf5 vlf6 vlf7 vlf8 vlf9 vlf10 vk vk1 vk2 vk3 vk4 vk5 vk6 vk7 vk8 vk9 vk10 vky vkf1 vkf2 vkf3 vkf4 vkf5 vkf6 vkf7 vkf8 vkf9 vkf10) (va_A [(vl, .inr (5, [.ref vl1, .ref vl2, .ref vl3, .ref vl4, .ref vl5, .ref vl6, .ref vl7, .ref vl8, .ref vl9, .ref vl10, .int vly])), (vl1, .inl (cy 0, 7, .inl vlf1)), (vl2, .inl (cy 0, 70, .inl vlf2)), (vl3, .inl (cy 0, 49, .inl vlf3)), (vl4, .inl (cy 0, 7, .inl vlf4)), (vl5, .inl (cy 0, 7, .inl vlf5)), (vl6, .inl (cy 0, 7, .inl vlf6)), (vl7, .inl (cy 0, 7, .inl vlf7)), (vl8, .inl (cy 0, 7, .inl vlf8)), (vl9, .inl (cy 0, 7, .inl vlf9)), (vl10, .inl (cy 0, 7, .inl vlf10)), (vk, .inr (5, [.ref vk1, .ref vk2, .ref vk3, .ref vk4, .ref vk5, .ref vk6, .ref vk7, .ref vk8, .ref vk9, .ref vk10, .int vky])), (vk1, .inl (cy 0, 7, .inl vkf1)), (vk2, .inl (cy 0, 70, .inl vkf2)), (vk3, .inl (cy 0, 49, .inl vkf3)), (vk4, .inl (cy 0, 7, .inl vkf4)), (vk5, .inl (cy 0, 7, .inl vkf5)), (vk6, .inl (cy 0, 7, .inl vkf6)), (vk7, .inl (cy 0, 7, .inl vkf7)), (vk8, .inl (cy 0, 7, .inl vkf8)), (vk9, .inl (cy 0, 7, .inl vkf9)), (vk10, .inl (cy 0, 7, .inl vkf10))] sz)) 0 0 (va_A [(vl, .inr (5, [.ref vl1, .ref vl2, .ref vl3, .ref vl4, .ref vl5, .ref vl6, .ref vl7, .ref vl8, .ref vl9, .ref vl10, .int vly])), (vl1, .inl (cy 0, 7, .inl vlf1)), (vl2, .inl (cy 0, 70, .inl vlf2)), (vl3, .inl (cy 0, 49, .inl vlf3)), (vl4, .inl (cy 0, 7, .inl vlf4)), (vl5, .inl (cy 0, 7, .inl vlf5)), (vl6, .inl (cy 0, 7, .inl vlf6)), (vl7, .inl (cy 0, 7, .inl vlf7)), (vl8, .inl (cy 0, 7, .inl vlf8)), (vl9, .inl (cy 0, 7, .inl vlf9)), (vl10, .inl (cy 0, 7, .inl vlf10)), (vk, .inr (5, [.ref vk1, .ref vk2, .ref vk3, .ref vk4, .ref vk5, .ref vk6, .ref vk7, .ref vk8, .ref vk9, .ref vk10, .int vky])), (vk1, .inl (cy 0, 7, .inl vkf1)), (vk2, .inl (cy 0, 70, .inl vkf2)), (vk3, .inl (cy 0, 49, .inl vkf3)), (vk4, .inl (cy 0, 7, .inl vkf4)), (vk5, .inl (cy 0, 7, .inl vkf5)), (vk6, .inl (cy 0, 7, .inl vkf6)), (vk7, .inl (cy 0, 7, .inl vkf7)), (vk8, .inl (cy 0, 7, .inl vkf8)), (vk9, .inl (cy 0, 7, .inl vkf9)), (vk10, .inl (cy 0, 7, .inl vkf10))] sz) := by
  refine mw (Qc := Qv (dC, dI) vwCl (fun (u : Int32 × (Nat → Int32) × (Nat → Int32) × (Nat → Int32) × (Nat → Int32) × (Nat → Int32) × (Nat → Int32) × (Nat → Int32) × (Nat → Int32) × (Nat → Int32) × (Nat → Int32)) => (Rg u.2.2.1 70 0 9) ∧ (Rg u.2.2.2.2.2.1 7 (-1) 9)) (O_g_Life_copy cy vl vl1 vl2 vl3 vl4 vl5 vl6 vl7 vl8 vl9 vl10 vly vlf1 vlf2 vlf3 vlf4 vlf5 vlf6 vlf7 vlf8 vlf9 vlf10 vk vk1 vk2 vk3 vk4 vk5 vk6 vk7 vk8 vk9 vk10 vky vkf1 vkf2 vkf3 vkf4 vkf5 vkf6 vkf7 vkf8 vkf9 vkf10)) RX4 rfl (by decide +kernel) (Nat.le_of_ble_eq_true rfl) ?_
  intro p e s m below meth c A hx hb hr hlocks av9 hav hts hown hnm hml hK hP hD hA hS hE hAe Q9 hQ9 ls hl
  have hl : lv_has ls 2 [(0, .ref vl), (1, .ref vk)] := hl
  refine lv_aload_n hx hb dX4_copyFrom_0 rfl (lv_at hl 0 rfl) ?_
  refine lv_aload_n hx hb dX4_copyFrom_1 rfl (lv_at hl 1 rfl) ?_
  refine gf_X4_45 hx hb hts hown hK hP 11 rfl rfl dX4_copyFrom_2 ?_
  refine pf_X4_45 hx hb hts hown hK hP hD hS 0 rfl rfl rfl (Nat.le_of_ble_eq_true rfl) dX4_copyFrom_5 (fun H locs hP hD hS => ?_)
  have hP : va_P (dC, dI) vwCl [(vl, .inr (5, [.ref vl1, .ref vl2, .ref vl3, .ref vl4, .ref vl5, .ref vl6, .ref vl7, .ref vl8, .ref vl9, .ref vl10, .int vky])), (vl1, .inl (cy 0, 7, .inl vlf1)), (vl2, .inl (cy 0, 70, .inl vlf2)), (vl3, .inl (cy 0, 49, .inl vlf3)), (vl4, .inl (cy 0, 7, .inl vlf4)), (vl5, .inl (cy 0, 7, .inl vlf5)), (vl6, .inl (cy 0, 7, .inl vlf6)), (vl7, .inl (cy 0, 7, .inl vlf7)), (vl8, .inl (cy 0, 7, .inl vlf8)), (vl9, .inl (cy 0, 7, .inl vlf9)), (vl10, .inl (cy 0, 7, .inl vlf10)), (vk, .inr (5, [.ref vk1, .ref vk2, .ref vk3, .ref vk4, .ref vk5, .ref vk6, .ref vk7, .ref vk8, .ref vk9, .ref vk10, .int vky])), (vk1, .inl (cy 0, 7, .inl vkf1)), (vk2, .inl (cy 0, 70, .inl vkf2)), (vk3, .inl (cy 0, 49, .inl vkf3)), (vk4, .inl (cy 0, 7, .inl vkf4)), (vk5, .inl (cy 0, 7, .inl vkf5)), (vk6, .inl (cy 0, 7, .inl vkf6)), (vk7, .inl (cy 0, 7, .inl vkf7)), (vk8, .inl (cy 0, 7, .inl vkf8)), (vk9, .inl (cy 0, 7, .inl vkf9)), (vk10, .inl (cy 0, 7, .inl vkf10))] H := hP
  have hD : va_D A [(vl, .inr (5, [.ref vl1, .ref vl2, .ref vl3, .ref vl4, .ref vl5, .ref vl6, .ref vl7, .ref vl8, .ref vl9, .ref vl10, .int vky])), (vl1, .inl (cy 0, 7, .inl vlf1)), (vl2, .inl (cy 0, 70, .inl vlf2)), (vl3, .inl (cy 0, 49, .inl vlf3)), (vl4, .inl (cy 0, 7, .inl vlf4)), (vl5, .inl (cy 0, 7, .inl vlf5)), (vl6, .inl (cy 0, 7, .inl vlf6)), (vl7, .inl (cy 0, 7, .inl vlf7)), (vl8, .inl (cy 0, 7, .inl vlf8)), (vl9, .inl (cy 0, 7, .inl vlf9)), (vl10, .inl (cy 0, 7, .inl vlf10)), (vk, .inr (5, [.ref vk1, .ref vk2, .ref vk3, .ref vk4, .ref vk5, .ref vk6, .ref vk7, .ref vk8, .ref vk9, .ref vk10, .int vky])), (vk1, .inl (cy 0, 7, .inl vkf1)), (vk2, .inl (cy 0, 70, .inl vkf2)), (vk3, .inl (cy 0, 49, .inl vkf3)), (vk4, .inl (cy 0, 7, .inl vkf4)), (vk5, .inl (cy 0, 7, .inl vkf5)), (vk6, .inl (cy 0, 7, .inl vkf6)), (vk7, .inl (cy 0, 7, .inl vkf7)), (vk8, .inl (cy 0, 7, .inl vkf8)), (vk9, .inl (cy 0, 7, .inl vkf9)), (vk10, .inl (cy 0, 7, .inl vkf10))] := hD
  refine lv_aload_n hx hb dX4_copyFrom_8 rfl (lv_at hl 1 rfl) ?_
  refine gf_X4_9 hx hb hts hown hK hP 11 rfl rfl dX4_copyFrom_9 ?_
  refine lv_iconst (v := 0) hx hb dX4_copyFrom_12 (by decide) ?_
  refine lv_aload_n hx hb dX4_copyFrom_13 rfl (lv_at hl 0 rfl) ?_
  refine gf_X4_9 hx hb hts hown hK hP 0 rfl rfl dX4_copyFrom_14 ?_
  refine lv_iconst (v := 0) hx hb dX4_copyFrom_17 (by decide) ?_
  refine lv_bipush (v := 7) hx hb dX4_copyFrom_18 (by decide) ?_
  refine va_copyi hx hb (by rw [hml, hl.1]) hown (hts _ t767) (hts _ t769) (hts _ t768) (hts _ t23) hK hP hD hS 12 1 0 0 rfl rfl rfl rfl rfl (by decide) (by decide) (by decide) (by decide) (by decide) (fun _ _ => rfl) (Nat.le_of_ble_eq_true rfl) (Nat.le_of_ble_eq_true rfl) dX4_copyFrom_20 (fun H locs hP hD hS => ?_)
  obtain ⟨f_1, ef_1⟩ : ∃ z : Nat → Int32, z = va_cpy vkf1 vlf1 (Int32.toNatClampNeg 0) (Int32.toNatClampNeg 0) (Int32.toNatClampNeg 7) := ⟨_, rfl⟩
  have hP : va_P (dC, dI) vwCl [(vl, .inr (5, [.ref vl1, .ref vl2, .ref vl3, .ref vl4, .ref vl5, .ref vl6, .ref vl7, .ref vl8, .ref vl9, .ref vl10, .int vky])), (vl1, .inl (cy 0, 7, .inl f_1)), (vl2, .inl (cy 0, 70, .inl vlf2)), (vl3, .inl (cy 0, 49, .inl vlf3)), (vl4, .inl (cy 0, 7, .inl vlf4)), (vl5, .inl (cy 0, 7, .inl vlf5)), (vl6, .inl (cy 0, 7, .inl vlf6)), (vl7, .inl (cy 0, 7, .inl vlf7)), (vl8, .inl (cy 0, 7, .inl vlf8)), (vl9, .inl (cy 0, 7, .inl vlf9)), (vl10, .inl (cy 0, 7, .inl vlf10)), (vk, .inr (5, [.ref vk1, .ref vk2, .ref vk3, .ref vk4, .ref vk5, .ref vk6, .ref vk7, .ref vk8, .ref vk9, .ref vk10, .int vky])), (vk1, .inl (cy 0, 7, .inl vkf1)), (vk2, .inl (cy 0, 70, .inl vkf2)), (vk3, .inl (cy 0, 49, .inl vkf3)), (vk4, .inl (cy 0, 7, .inl vkf4)), (vk5, .inl (cy 0, 7, .inl vkf5)), (vk6, .inl (cy 0, 7, .inl vkf6)), (vk7, .inl (cy 0, 7, .inl vkf7)), (vk8, .inl (cy 0, 7, .inl vkf8)), (vk9, .inl (cy 0, 7, .inl vkf9)), (vk10, .inl (cy 0, 7, .inl vkf10))] H := by rw [ef_1]; exact hP
  have hD : va_D A [(vl, .inr (5, [.ref vl1, .ref vl2, .ref vl3, .ref vl4, .ref vl5, .ref vl6, .ref vl7, .ref vl8, .ref vl9, .ref vl10, .int vky])), (vl1, .inl (cy 0, 7, .inl f_1)), (vl2, .inl (cy 0, 70, .inl vlf2)), (vl3, .inl (cy 0, 49, .inl vlf3)), (vl4, .inl (cy 0, 7, .inl vlf4)), (vl5, .inl (cy 0, 7, .inl vlf5)), (vl6, .inl (cy 0, 7, .inl vlf6)), (vl7, .inl (cy 0, 7, .inl vlf7)), (vl8, .inl (cy 0, 7, .inl vlf8)), (vl9, .inl (cy 0, 7, .inl vlf9)), (vl10, .inl (cy 0, 7, .inl vlf10)), (vk, .inr (5, [.ref vk1, .ref vk2, .ref vk3, .ref vk4, .ref vk5, .ref vk6, .ref vk7, .ref vk8, .ref vk9, .ref vk10, .int vky])), (vk1, .inl (cy 0, 7, .inl vkf1)), (vk2, .inl (cy 0, 70, .inl vkf2)), (vk3, .inl (cy 0, 49, .inl vkf3)), (vk4, .inl (cy 0, 7, .inl vkf4)), (vk5, .inl (cy 0, 7, .inl vkf5)), (vk6, .inl (cy 0, 7, .inl vkf6)), (vk7, .inl (cy 0, 7, .inl vkf7)), (vk8, .inl (cy 0, 7, .inl vkf8)), (vk9, .inl (cy 0, 7, .inl vkf9)), (vk10, .inl (cy 0, 7, .inl vkf10))] := by rw [ef_1]; exact hD
  refine lv_aload_n hx hb dX4_copyFrom_23 rfl (lv_at hl 1 rfl) ?_
  refine gf_X4_15 hx hb hts hown hK hP 11 rfl rfl dX4_copyFrom_24 ?_
  refine lv_iconst (v := 0) hx hb dX4_copyFrom_27 (by decide) ?_
  refine lv_aload_n hx hb dX4_copyFrom_28 rfl (lv_at hl 0 rfl) ?_
  refine gf_X4_15 hx hb hts hown hK hP 0 rfl rfl dX4_copyFrom_29 ?_
  refine lv_iconst (v := 0) hx hb dX4_copyFrom_32 (by decide) ?_
  refine lv_bipush (v := 70) hx hb dX4_copyFrom_33 (by decide) ?_
  refine va_copyi hx hb (by rw [hml, hl.1]) hown (hts _ t767) (hts _ t769) (hts _ t768) (hts _ t23) hK hP hD hS 13 2 0 0 rfl rfl rfl rfl rfl (by decide) (by decide) (by decide) (by decide) (by decide) (fun _ _ => rfl) (Nat.le_of_ble_eq_true rfl) (Nat.le_of_ble_eq_true rfl) dX4_copyFrom_35 (fun H locs hP hD hS => ?_)
  obtain ⟨f_2, ef_2⟩ : ∃ z : Nat → Int32, z = va_cpy vkf2 vlf2 (Int32.toNatClampNeg 0) (Int32.toNatClampNeg 0) (Int32.toNatClampNeg 70) := ⟨_, rfl⟩
  have hP : va_P (dC, dI) vwCl [(vl, .inr (5, [.ref vl1, .ref vl2, .ref vl3, .ref vl4, .ref vl5, .ref vl6, .ref vl7, .ref vl8, .ref vl9, .ref vl10, .int vky])), (vl1, .inl (cy 0, 7, .inl f_1)), (vl2, .inl (cy 0, 70, .inl f_2)), (vl3, .inl (cy 0, 49, .inl vlf3)), (vl4, .inl (cy 0, 7, .inl vlf4)), (vl5, .inl (cy 0, 7, .inl vlf5)), (vl6, .inl (cy 0, 7, .inl vlf6)), (vl7, .inl (cy 0, 7, .inl vlf7)), (vl8, .inl (cy 0, 7, .inl vlf8)), (vl9, .inl (cy 0, 7, .inl vlf9)), (vl10, .inl (cy 0, 7, .inl vlf10)), (vk, .inr (5, [.ref vk1, .ref vk2, .ref vk3, .ref vk4, .ref vk5, .ref vk6, .ref vk7, .ref vk8, .ref vk9, .ref vk10, .int vky])), (vk1, .inl (cy 0, 7, .inl vkf1)), (vk2, .inl (cy 0, 70, .inl vkf2)), (vk3, .inl (cy 0, 49, .inl vkf3)), (vk4, .inl (cy 0, 7, .inl vkf4)), (vk5, .inl (cy 0, 7, .inl vkf5)), (vk6, .inl (cy 0, 7, .inl vkf6)), (vk7, .inl (cy 0, 7, .inl vkf7)), (vk8, .inl (cy 0, 7, .inl vkf8)), (vk9, .inl (cy 0, 7, .inl vkf9)), (vk10, .inl (cy 0, 7, .inl vkf10))] H := by rw [ef_2]; exact hP
  have hD : va_D A [(vl, .inr (5, [.ref vl1, .ref vl2, .ref vl3, .ref vl4, .ref vl5, .ref vl6, .ref vl7, .ref vl8, .ref vl9, .ref vl10, .int vky])), (vl1, .inl (cy 0, 7, .inl f_1)), (vl2, .inl (cy 0, 70, .inl f_2)), (vl3, .inl (cy 0, 49, .inl vlf3)), (vl4, .inl (cy 0, 7, .inl vlf4)), (vl5, .inl (cy 0, 7, .inl vlf5)), (vl6, .inl (cy 0, 7, .inl vlf6)), (vl7, .inl (cy 0, 7, .inl vlf7)), (vl8, .inl (cy 0, 7, .inl vlf8)), (vl9, .inl (cy 0, 7, .inl vlf9)), (vl10, .inl (cy 0, 7, .inl vlf10)), (vk, .inr (5, [.ref vk1, .ref vk2, .ref vk3, .ref vk4, .ref vk5, .ref vk6, .ref vk7, .ref vk8, .ref vk9, .ref vk10, .int vky])), (vk1, .inl (cy 0, 7, .inl vkf1)), (vk2, .inl (cy 0, 70, .inl vkf2)), (vk3, .inl (cy 0, 49, .inl vkf3)), (vk4, .inl (cy 0, 7, .inl vkf4)), (vk5, .inl (cy 0, 7, .inl vkf5)), (vk6, .inl (cy 0, 7, .inl vkf6)), (vk7, .inl (cy 0, 7, .inl vkf7)), (vk8, .inl (cy 0, 7, .inl vkf8)), (vk9, .inl (cy 0, 7, .inl vkf9)), (vk10, .inl (cy 0, 7, .inl vkf10))] := by rw [ef_2]; exact hD
  have p_f_2 : Rg f_2 70 0 9 := by rw [ef_2]; exact Rg.cpy p_vkf2 (Nat.le_of_ble_eq_true rfl)
  refine lv_aload_n hx hb dX4_copyFrom_38 rfl (lv_at hl 1 rfl) ?_
  refine gf_X4_18 hx hb hts hown hK hP 11 rfl rfl dX4_copyFrom_39 ?_
  refine lv_iconst (v := 0) hx hb dX4_copyFrom_42 (by decide) ?_
  refine lv_aload_n hx hb dX4_copyFrom_43 rfl (lv_at hl 0 rfl) ?_
  refine gf_X4_18 hx hb hts hown hK hP 0 rfl rfl dX4_copyFrom_44 ?_
  refine lv_iconst (v := 0) hx hb dX4_copyFrom_47 (by decide) ?_
  refine lv_bipush (v := 49) hx hb dX4_copyFrom_48 (by decide) ?_
  refine va_copyi hx hb (by rw [hml, hl.1]) hown (hts _ t767) (hts _ t769) (hts _ t768) (hts _ t23) hK hP hD hS 14 3 0 0 rfl rfl rfl rfl rfl (by decide) (by decide) (by decide) (by decide) (by decide) (fun _ _ => rfl) (Nat.le_of_ble_eq_true rfl) (Nat.le_of_ble_eq_true rfl) dX4_copyFrom_50 (fun H locs hP hD hS => ?_)
  obtain ⟨f_3, ef_3⟩ : ∃ z : Nat → Int32, z = va_cpy vkf3 vlf3 (Int32.toNatClampNeg 0) (Int32.toNatClampNeg 0) (Int32.toNatClampNeg 49) := ⟨_, rfl⟩
  have hP : va_P (dC, dI) vwCl [(vl, .inr (5, [.ref vl1, .ref vl2, .ref vl3, .ref vl4, .ref vl5, .ref vl6, .ref vl7, .ref vl8, .ref vl9, .ref vl10, .int vky])), (vl1, .inl (cy 0, 7, .inl f_1)), (vl2, .inl (cy 0, 70, .inl f_2)), (vl3, .inl (cy 0, 49, .inl f_3)), (vl4, .inl (cy 0, 7, .inl vlf4)), (vl5, .inl (cy 0, 7, .inl vlf5)), (vl6, .inl (cy 0, 7, .inl vlf6)), (vl7, .inl (cy 0, 7, .inl vlf7)), (vl8, .inl (cy 0, 7, .inl vlf8)), (vl9, .inl (cy 0, 7, .inl vlf9)), (vl10, .inl (cy 0, 7, .inl vlf10)), (vk, .inr (5, [.ref vk1, .ref vk2, .ref vk3, .ref vk4, .ref vk5, .ref vk6, .ref vk7, .ref vk8, .ref vk9, .ref vk10, .int vky])), (vk1, .inl (cy 0, 7, .inl vkf1)), (vk2, .inl (cy 0, 70, .inl vkf2)), (vk3, .inl (cy 0, 49, .inl vkf3)), (vk4, .inl (cy 0, 7, .inl vkf4)), (vk5, .inl (cy 0, 7, .inl vkf5)), (vk6, .inl (cy 0, 7, .inl vkf6)), (vk7, .inl (cy 0, 7, .inl vkf7)), (vk8, .inl (cy 0, 7, .inl vkf8)), (vk9, .inl (cy 0, 7, .inl vkf9)), (vk10, .inl (cy 0, 7, .inl vkf10))] H := by rw [ef_3]; exact hP
  have hD : va_D A [(vl, .inr (5, [.ref vl1, .ref vl2, .ref vl3, .ref vl4, .ref vl5, .ref vl6, .ref vl7, .ref vl8, .ref vl9, .ref vl10, .int vky])), (vl1, .inl (cy 0, 7, .inl f_1)), (vl2, .inl (cy 0, 70, .inl f_2)), (vl3, .inl (cy 0, 49, .inl f_3)), (vl4, .inl (cy 0, 7, .inl vlf4)), (vl5, .inl (cy 0, 7, .inl vlf5)), (vl6, .inl (cy 0, 7, .inl vlf6)), (vl7, .inl (cy 0, 7, .inl vlf7)), (vl8, .inl (cy 0, 7, .inl vlf8)), (vl9, .inl (cy 0, 7, .inl vlf9)), (vl10, .inl (cy 0, 7, .inl vlf10)), (vk, .inr (5, [.ref vk1, .ref vk2, .ref vk3, .ref vk4, .ref vk5, .ref vk6, .ref vk7, .ref vk8, .ref vk9, .ref vk10, .int vky])), (vk1, .inl (cy 0, 7, .inl vkf1)), (vk2, .inl (cy 0, 70, .inl vkf2)), (vk3, .inl (cy 0, 49, .inl vkf3)), (vk4, .inl (cy 0, 7, .inl vkf4)), (vk5, .inl (cy 0, 7, .inl vkf5)), (vk6, .inl (cy 0, 7, .inl vkf6)), (vk7, .inl (cy 0, 7, .inl vkf7)), (vk8, .inl (cy 0, 7, .inl vkf8)), (vk9, .inl (cy 0, 7, .inl vkf9)), (vk10, .inl (cy 0, 7, .inl vkf10))] := by rw [ef_3]; exact hD
  refine lv_aload_n hx hb dX4_copyFrom_53 rfl (lv_at hl 1 rfl) ?_
  refine gf_X4_21 hx hb hts hown hK hP 11 rfl rfl dX4_copyFrom_54 ?_
  refine lv_iconst (v := 0) hx hb dX4_copyFrom_57 (by decide) ?_
  refine lv_aload_n hx hb dX4_copyFrom_58 rfl (lv_at hl 0 rfl) ?_
  refine gf_X4_21 hx hb hts hown hK hP 0 rfl rfl dX4_copyFrom_59 ?_
  refine lv_iconst (v := 0) hx hb dX4_copyFrom_62 (by decide) ?_
  refine lv_bipush (v := 7) hx hb dX4_copyFrom_63 (by decide) ?_
  refine va_copyi hx hb (by rw [hml, hl.1]) hown (hts _ t767) (hts _ t769) (hts _ t768) (hts _ t23) hK hP hD hS 15 4 0 0 rfl rfl rfl rfl rfl (by decide) (by decide) (by decide) (by decide) (by decide) (fun _ _ => rfl) (Nat.le_of_ble_eq_true rfl) (Nat.le_of_ble_eq_true rfl) dX4_copyFrom_65 (fun H locs hP hD hS => ?_)
  obtain ⟨f_4, ef_4⟩ : ∃ z : Nat → Int32, z = va_cpy vkf4 vlf4 (Int32.toNatClampNeg 0) (Int32.toNatClampNeg 0) (Int32.toNatClampNeg 7) := ⟨_, rfl⟩
  have hP : va_P (dC, dI) vwCl [(vl, .inr (5, [.ref vl1, .ref vl2, .ref vl3, .ref vl4, .ref vl5, .ref vl6, .ref vl7, .ref vl8, .ref vl9, .ref vl10, .int vky])), (vl1, .inl (cy 0, 7, .inl f_1)), (vl2, .inl (cy 0, 70, .inl f_2)), (vl3, .inl (cy 0, 49, .inl f_3)), (vl4, .inl (cy 0, 7, .inl f_4)), (vl5, .inl (cy 0, 7, .inl vlf5)), (vl6, .inl (cy 0, 7, .inl vlf6)), (vl7, .inl (cy 0, 7, .inl vlf7)), (vl8, .inl (cy 0, 7, .inl vlf8)), (vl9, .inl (cy 0, 7, .inl vlf9)), (vl10, .inl (cy 0, 7, .inl vlf10)), (vk, .inr (5, [.ref vk1, .ref vk2, .ref vk3, .ref vk4, .ref vk5, .ref vk6, .ref vk7, .ref vk8, .ref vk9, .ref vk10, .int vky])), (vk1, .inl (cy 0, 7, .inl vkf1)), (vk2, .inl (cy 0, 70, .inl vkf2)), (vk3, .inl (cy 0, 49, .inl vkf3)), (vk4, .inl (cy 0, 7, .inl vkf4)), (vk5, .inl (cy 0, 7, .inl vkf5)), (vk6, .inl (cy 0, 7, .inl vkf6)), (vk7, .inl (cy 0, 7, .inl vkf7)), (vk8, .inl (cy 0, 7, .inl vkf8)), (vk9, .inl (cy 0, 7, .inl vkf9)), (vk10, .inl (cy 0, 7, .inl vkf10))] H := by rw [ef_4]; exact hP
  have hD : va_D A [(vl, .inr (5, [.ref vl1, .ref vl2, .ref vl3, .ref vl4, .ref vl5, .ref vl6, .ref vl7, .ref vl8, .ref vl9, .ref vl10, .int vky])), (vl1, .inl (cy 0, 7, .inl f_1)), (vl2, .inl (cy 0, 70, .inl f_2)), (vl3, .inl (cy 0, 49, .inl f_3)), (vl4, .inl (cy 0, 7, .inl f_4)), (vl5, .inl (cy 0, 7, .inl vlf5)), (vl6, .inl (cy 0, 7, .inl vlf6)), (vl7, .inl (cy 0, 7, .inl vlf7)), (vl8, .inl (cy 0, 7, .inl vlf8)), (vl9, .inl (cy 0, 7, .inl vlf9)), (vl10, .inl (cy 0, 7, .inl vlf10)), (vk, .inr (5, [.ref vk1, .ref vk2, .ref vk3, .ref vk4, .ref vk5, .ref vk6, .ref vk7, .ref vk8, .ref vk9, .ref vk10, .int vky])), (vk1, .inl (cy 0, 7, .inl vkf1)), (vk2, .inl (cy 0, 70, .inl vkf2)), (vk3, .inl (cy 0, 49, .inl vkf3)), (vk4, .inl (cy 0, 7, .inl vkf4)), (vk5, .inl (cy 0, 7, .inl vkf5)), (vk6, .inl (cy 0, 7, .inl vkf6)), (vk7, .inl (cy 0, 7, .inl vkf7)), (vk8, .inl (cy 0, 7, .inl vkf8)), (vk9, .inl (cy 0, 7, .inl vkf9)), (vk10, .inl (cy 0, 7, .inl vkf10))] := by rw [ef_4]; exact hD
  refine lv_aload_n hx hb dX4_copyFrom_68 rfl (lv_at hl 1 rfl) ?_
  refine gf_X4_24 hx hb hts hown hK hP 11 rfl rfl dX4_copyFrom_69 ?_
  refine lv_iconst (v := 0) hx hb dX4_copyFrom_72 (by decide) ?_
  refine lv_aload_n hx hb dX4_copyFrom_73 rfl (lv_at hl 0 rfl) ?_
  refine gf_X4_24 hx hb hts hown hK hP 0 rfl rfl dX4_copyFrom_74 ?_
  refine lv_iconst (v := 0) hx hb dX4_copyFrom_77 (by decide) ?_
  refine lv_bipush (v := 7) hx hb dX4_copyFrom_78 (by decide) ?_
  refine va_copyi hx hb (by rw [hml, hl.1]) hown (hts _ t767) (hts _ t769) (hts _ t768) (hts _ t23) hK hP hD hS 16 5 0 0 rfl rfl rfl rfl rfl (by decide) (by decide) (by decide) (by decide) (by decide) (fun _ _ => rfl) (Nat.le_of_ble_eq_true rfl) (Nat.le_of_ble_eq_true rfl) dX4_copyFrom_80 (fun H locs hP hD hS => ?_)
  obtain ⟨f_5, ef_5⟩ : ∃ z : Nat → Int32, z = va_cpy vkf5 vlf5 (Int32.toNatClampNeg 0) (Int32.toNatClampNeg 0) (Int32.toNatClampNeg 7) := ⟨_, rfl⟩
  have hP : va_P (dC, dI) vwCl [(vl, .inr (5, [.ref vl1, .ref vl2, .ref vl3, .ref vl4, .ref vl5, .ref vl6, .ref vl7, .ref vl8, .ref vl9, .ref vl10, .int vky])), (vl1, .inl (cy 0, 7, .inl f_1)), (vl2, .inl (cy 0, 70, .inl f_2)), (vl3, .inl (cy 0, 49, .inl f_3)), (vl4, .inl (cy 0, 7, .inl f_4)), (vl5, .inl (cy 0, 7, .inl f_5)), (vl6, .inl (cy 0, 7, .inl vlf6)), (vl7, .inl (cy 0, 7, .inl vlf7)), (vl8, .inl (cy 0, 7, .inl vlf8)), (vl9, .inl (cy 0, 7, .inl vlf9)), (vl10, .inl (cy 0, 7, .inl vlf10)), (vk, .inr (5, [.ref vk1, .ref vk2, .ref vk3, .ref vk4, .ref vk5, .ref vk6, .ref vk7, .ref vk8, .ref vk9, .ref vk10, .int vky])), (vk1, .inl (cy 0, 7, .inl vkf1)), (vk2, .inl (cy 0, 70, .inl vkf2)), (vk3, .inl (cy 0, 49, .inl vkf3)), (vk4, .inl (cy 0, 7, .inl vkf4)), (vk5, .inl (cy 0, 7, .inl vkf5)), (vk6, .inl (cy 0, 7, .inl vkf6)), (vk7, .inl (cy 0, 7, .inl vkf7)), (vk8, .inl (cy 0, 7, .inl vkf8)), (vk9, .inl (cy 0, 7, .inl vkf9)), (vk10, .inl (cy 0, 7, .inl vkf10))] H := by rw [ef_5]; exact hP
  have hD : va_D A [(vl, .inr (5, [.ref vl1, .ref vl2, .ref vl3, .ref vl4, .ref vl5, .ref vl6, .ref vl7, .ref vl8, .ref vl9, .ref vl10, .int vky])), (vl1, .inl (cy 0, 7, .inl f_1)), (vl2, .inl (cy 0, 70, .inl f_2)), (vl3, .inl (cy 0, 49, .inl f_3)), (vl4, .inl (cy 0, 7, .inl f_4)), (vl5, .inl (cy 0, 7, .inl f_5)), (vl6, .inl (cy 0, 7, .inl vlf6)), (vl7, .inl (cy 0, 7, .inl vlf7)), (vl8, .inl (cy 0, 7, .inl vlf8)), (vl9, .inl (cy 0, 7, .inl vlf9)), (vl10, .inl (cy 0, 7, .inl vlf10)), (vk, .inr (5, [.ref vk1, .ref vk2, .ref vk3, .ref vk4, .ref vk5, .ref vk6, .ref vk7, .ref vk8, .ref vk9, .ref vk10, .int vky])), (vk1, .inl (cy 0, 7, .inl vkf1)), (vk2, .inl (cy 0, 70, .inl vkf2)), (vk3, .inl (cy 0, 49, .inl vkf3)), (vk4, .inl (cy 0, 7, .inl vkf4)), (vk5, .inl (cy 0, 7, .inl vkf5)), (vk6, .inl (cy 0, 7, .inl vkf6)), (vk7, .inl (cy 0, 7, .inl vkf7)), (vk8, .inl (cy 0, 7, .inl vkf8)), (vk9, .inl (cy 0, 7, .inl vkf9)), (vk10, .inl (cy 0, 7, .inl vkf10))] := by rw [ef_5]; exact hD
  have p_f_5 : Rg f_5 7 (-1) 9 := by rw [ef_5]; exact Rg.cpy p_vkf5 (Nat.le_of_ble_eq_true rfl)
  refine lv_aload_n hx hb dX4_copyFrom_83 rfl (lv_at hl 1 rfl) ?_
  refine gf_X4_27 hx hb hts hown hK hP 11 rfl rfl dX4_copyFrom_84 ?_
  refine lv_iconst (v := 0) hx hb dX4_copyFrom_87 (by decide) ?_
  refine lv_aload_n hx hb dX4_copyFrom_88 rfl (lv_at hl 0 rfl) ?_
  refine gf_X4_27 hx hb hts hown hK hP 0 rfl rfl dX4_copyFrom_89 ?_
  refine lv_iconst (v := 0) hx hb dX4_copyFrom_92 (by decide) ?_
  refine lv_bipush (v := 7) hx hb dX4_copyFrom_93 (by decide) ?_
  refine va_copyi hx hb (by rw [hml, hl.1]) hown (hts _ t767) (hts _ t769) (hts _ t768) (hts _ t23) hK hP hD hS 17 6 0 0 rfl rfl rfl rfl rfl (by decide) (by decide) (by decide) (by decide) (by decide) (fun _ _ => rfl) (Nat.le_of_ble_eq_true rfl) (Nat.le_of_ble_eq_true rfl) dX4_copyFrom_95 (fun H locs hP hD hS => ?_)
  obtain ⟨f_6, ef_6⟩ : ∃ z : Nat → Int32, z = va_cpy vkf6 vlf6 (Int32.toNatClampNeg 0) (Int32.toNatClampNeg 0) (Int32.toNatClampNeg 7) := ⟨_, rfl⟩
  have hP : va_P (dC, dI) vwCl [(vl, .inr (5, [.ref vl1, .ref vl2, .ref vl3, .ref vl4, .ref vl5, .ref vl6, .ref vl7, .ref vl8, .ref vl9, .ref vl10, .int vky])), (vl1, .inl (cy 0, 7, .inl f_1)), (vl2, .inl (cy 0, 70, .inl f_2)), (vl3, .inl (cy 0, 49, .inl f_3)), (vl4, .inl (cy 0, 7, .inl f_4)), (vl5, .inl (cy 0, 7, .inl f_5)), (vl6, .inl (cy 0, 7, .inl f_6)), (vl7, .inl (cy 0, 7, .inl vlf7)), (vl8, .inl (cy 0, 7, .inl vlf8)), (vl9, .inl (cy 0, 7, .inl vlf9)), (vl10, .inl (cy 0, 7, .inl vlf10)), (vk, .inr (5, [.ref vk1, .ref vk2, .ref vk3, .ref vk4, .ref vk5, .ref vk6, .ref vk7, .ref vk8, .ref vk9, .ref vk10, .int vky])), (vk1, .inl (cy 0, 7, .inl vkf1)), (vk2, .inl (cy 0, 70, .inl vkf2)), (vk3, .inl (cy 0, 49, .inl vkf3)), (vk4, .inl (cy 0, 7, .inl vkf4)), (vk5, .inl (cy 0, 7, .inl vkf5)), (vk6, .inl (cy 0, 7, .inl vkf6)), (vk7, .inl (cy 0, 7, .inl vkf7)), (vk8, .inl (cy 0, 7, .inl vkf8)), (vk9, .inl (cy 0, 7, .inl vkf9)), (vk10, .inl (cy 0, 7, .inl vkf10))] H := by rw [ef_6]; exact hP
  have hD : va_D A [(vl, .inr (5, [.ref vl1, .ref vl2, .ref vl3, .ref vl4, .ref vl5, .ref vl6, .ref vl7, .ref vl8, .ref vl9, .ref vl10, .int vky])), (vl1, .inl (cy 0, 7, .inl f_1)), (vl2, .inl (cy 0, 70, .inl f_2)), (vl3, .inl (cy 0, 49, .inl f_3)), (vl4, .inl (cy 0, 7, .inl f_4)), (vl5, .inl (cy 0, 7, .inl f_5)), (vl6, .inl (cy 0, 7, .inl f_6)), (vl7, .inl (cy 0, 7, .inl vlf7)), (vl8, .inl (cy 0, 7, .inl vlf8)), (vl9, .inl (cy 0, 7, .inl vlf9)), (vl10, .inl (cy 0, 7, .inl vlf10)), (vk, .inr (5, [.ref vk1, .ref vk2, .ref vk3, .ref vk4, .ref vk5, .ref vk6, .ref vk7, .ref vk8, .ref vk9, .ref vk10, .int vky])), (vk1, .inl (cy 0, 7, .inl vkf1)), (vk2, .inl (cy 0, 70, .inl vkf2)), (vk3, .inl (cy 0, 49, .inl vkf3)), (vk4, .inl (cy 0, 7, .inl vkf4)), (vk5, .inl (cy 0, 7, .inl vkf5)), (vk6, .inl (cy 0, 7, .inl vkf6)), (vk7, .inl (cy 0, 7, .inl vkf7)), (vk8, .inl (cy 0, 7, .inl vkf8)), (vk9, .inl (cy 0, 7, .inl vkf9)), (vk10, .inl (cy 0, 7, .inl vkf10))] := by rw [ef_6]; exact hD
  refine lv_aload_n hx hb dX4_copyFrom_98 rfl (lv_at hl 1 rfl) ?_
  refine gf_X4_30 hx hb hts hown hK hP 11 rfl rfl dX4_copyFrom_99 ?_
  refine lv_iconst (v := 0) hx hb dX4_copyFrom_102 (by decide) ?_
  refine lv_aload_n hx hb dX4_copyFrom_103 rfl (lv_at hl 0 rfl) ?_
  refine gf_X4_30 hx hb hts hown hK hP 0 rfl rfl dX4_copyFrom_104 ?_
  refine lv_iconst (v := 0) hx hb dX4_copyFrom_107 (by decide) ?_
  refine lv_bipush (v := 7) hx hb dX4_copyFrom_108 (by decide) ?_
  refine va_copyi hx hb (by rw [hml, hl.1]) hown (hts _ t767) (hts _ t769) (hts _ t768) (hts _ t23) hK hP hD hS 18 7 0 0 rfl rfl rfl rfl rfl (by decide) (by decide) (by decide) (by decide) (by decide) (fun _ _ => rfl) (Nat.le_of_ble_eq_true rfl) (Nat.le_of_ble_eq_true rfl) dX4_copyFrom_110 (fun H locs hP hD hS => ?_)
  obtain ⟨f_7, ef_7⟩ : ∃ z : Nat → Int32, z = va_cpy vkf7 vlf7 (Int32.toNatClampNeg 0) (Int32.toNatClampNeg 0) (Int32.toNatClampNeg 7) := ⟨_, rfl⟩
  have hP : va_P (dC, dI) vwCl [(vl, .inr (5, [.ref vl1, .ref vl2, .ref vl3, .ref vl4, .ref vl5, .ref vl6, .ref vl7, .ref vl8, .ref vl9, .ref vl10, .int vky])), (vl1, .inl (cy 0, 7, .inl f_1)), (vl2, .inl (cy 0, 70, .inl f_2)), (vl3, .inl (cy 0, 49, .inl f_3)), (vl4, .inl (cy 0, 7, .inl f_4)), (vl5, .inl (cy 0, 7, .inl f_5)), (vl6, .inl (cy 0, 7, .inl f_6)), (vl7, .inl (cy 0, 7, .inl f_7)), (vl8, .inl (cy 0, 7, .inl vlf8)), (vl9, .inl (cy 0, 7, .inl vlf9)), (vl10, .inl (cy 0, 7, .inl vlf10)), (vk, .inr (5, [.ref vk1, .ref vk2, .ref vk3, .ref vk4, .ref vk5, .ref vk6, .ref vk7, .ref vk8, .ref vk9, .ref vk10, .int vky])), (vk1, .inl (cy 0, 7, .inl vkf1)), (vk2, .inl (cy 0, 70, .inl vkf2)), (vk3, .inl (cy 0, 49, .inl vkf3)), (vk4, .inl (cy 0, 7, .inl vkf4)), (vk5, .inl (cy 0, 7, .inl vkf5)), (vk6, .inl (cy 0, 7, .inl vkf6)), (vk7, .inl (cy 0, 7, .inl vkf7)), (vk8, .inl (cy 0, 7, .inl vkf8)), (vk9, .inl (cy 0, 7, .inl vkf9)), (vk10, .inl (cy 0, 7, .inl vkf10))] H := by rw [ef_7]; exact hP
  have hD : va_D A [(vl, .inr (5, [.ref vl1, .ref vl2, .ref vl3, .ref vl4, .ref vl5, .ref vl6, .ref vl7, .ref vl8, .ref vl9, .ref vl10, .int vky])), (vl1, .inl (cy 0, 7, .inl f_1)), (vl2, .inl (cy 0, 70, .inl f_2)), (vl3, .inl (cy 0, 49, .inl f_3)), (vl4, .inl (cy 0, 7, .inl f_4)), (vl5, .inl (cy 0, 7, .inl f_5)), (vl6, .inl (cy 0, 7, .inl f_6)), (vl7, .inl (cy 0, 7, .inl f_7)), (vl8, .inl (cy 0, 7, .inl vlf8)), (vl9, .inl (cy 0, 7, .inl vlf9)), (vl10, .inl (cy 0, 7, .inl vlf10)), (vk, .inr (5, [.ref vk1, .ref vk2, .ref vk3, .ref vk4, .ref vk5, .ref vk6, .ref vk7, .ref vk8, .ref vk9, .ref vk10, .int vky])), (vk1, .inl (cy 0, 7, .inl vkf1)), (vk2, .inl (cy 0, 70, .inl vkf2)), (vk3, .inl (cy 0, 49, .inl vkf3)), (vk4, .inl (cy 0, 7, .inl vkf4)), (vk5, .inl (cy 0, 7, .inl vkf5)), (vk6, .inl (cy 0, 7, .inl vkf6)), (vk7, .inl (cy 0, 7, .inl vkf7)), (vk8, .inl (cy 0, 7, .inl vkf8)), (vk9, .inl (cy 0, 7, .inl vkf9)), (vk10, .inl (cy 0, 7, .inl vkf10))] := by rw [ef_7]; exact hD
  refine lv_aload_n hx hb dX4_copyFrom_113 rfl (lv_at hl 1 rfl) ?_
  refine gf_X4_33 hx hb hts hown hK hP 11 rfl rfl dX4_copyFrom_114 ?_
  refine lv_iconst (v := 0) hx hb dX4_copyFrom_117 (by decide) ?_
  refine lv_aload_n hx hb dX4_copyFrom_118 rfl (lv_at hl 0 rfl) ?_
  refine gf_X4_33 hx hb hts hown hK hP 0 rfl rfl dX4_copyFrom_119 ?_
  refine lv_iconst (v := 0) hx hb dX4_copyFrom_122 (by decide) ?_
  refine lv_bipush (v := 7) hx hb dX4_copyFrom_123 (by decide) ?_
  refine va_copyi hx hb (by rw [hml, hl.1]) hown (hts _ t767) (hts _ t769) (hts _ t768) (hts _ t23) hK hP hD hS 19 8 0 0 rfl rfl rfl rfl rfl (by decide) (by decide) (by decide) (by decide) (by decide) (fun _ _ => rfl) (Nat.le_of_ble_eq_true rfl) (Nat.le_of_ble_eq_true rfl) dX4_copyFrom_125 (fun H locs hP hD hS => ?_)
  obtain ⟨f_8, ef_8⟩ : ∃ z : Nat → Int32, z = va_cpy vkf8 vlf8 (Int32.toNatClampNeg 0) (Int32.toNatClampNeg 0) (Int32.toNatClampNeg 7) := ⟨_, rfl⟩
  have hP : va_P (dC, dI) vwCl [(vl, .inr (5, [.ref vl1, .ref vl2, .ref vl3, .ref vl4, .ref vl5, .ref vl6, .ref vl7, .ref vl8, .ref vl9, .ref vl10, .int vky])), (vl1, .inl (cy 0, 7, .inl f_1)), (vl2, .inl (cy 0, 70, .inl f_2)), (vl3, .inl (cy 0, 49, .inl f_3)), (vl4, .inl (cy 0, 7, .inl f_4)), (vl5, .inl (cy 0, 7, .inl f_5)), (vl6, .inl (cy 0, 7, .inl f_6)), (vl7, .inl (cy 0, 7, .inl f_7)), (vl8, .inl (cy 0, 7, .inl f_8)), (vl9, .inl (cy 0, 7, .inl vlf9)), (vl10, .inl (cy 0, 7, .inl vlf10)), (vk, .inr (5, [.ref vk1, .ref vk2, .ref vk3, .ref vk4, .ref vk5, .ref vk6, .ref vk7, .ref vk8, .ref vk9, .ref vk10, .int vky])), (vk1, .inl (cy 0, 7, .inl vkf1)), (vk2, .inl (cy 0, 70, .inl vkf2)), (vk3, .inl (cy 0, 49, .inl vkf3)), (vk4, .inl (cy 0, 7, .inl vkf4)), (vk5, .inl (cy 0, 7, .inl vkf5)), (vk6, .inl (cy 0, 7, .inl vkf6)), (vk7, .inl (cy 0, 7, .inl vkf7)), (vk8, .inl (cy 0, 7, .inl vkf8)), (vk9, .inl (cy 0, 7, .inl vkf9)), (vk10, .inl (cy 0, 7, .inl vkf10))] H := by rw [ef_8]; exact hP
  have hD : va_D A [(vl, .inr (5, [.ref vl1, .ref vl2, .ref vl3, .ref vl4, .ref vl5, .ref vl6, .ref vl7, .ref vl8, .ref vl9, .ref vl10, .int vky])), (vl1, .inl (cy 0, 7, .inl f_1)), (vl2, .inl (cy 0, 70, .inl f_2)), (vl3, .inl (cy 0, 49, .inl f_3)), (vl4, .inl (cy 0, 7, .inl f_4)), (vl5, .inl (cy 0, 7, .inl f_5)), (vl6, .inl (cy 0, 7, .inl f_6)), (vl7, .inl (cy 0, 7, .inl f_7)), (vl8, .inl (cy 0, 7, .inl f_8)), (vl9, .inl (cy 0, 7, .inl vlf9)), (vl10, .inl (cy 0, 7, .inl vlf10)), (vk, .inr (5, [.ref vk1, .ref vk2, .ref vk3, .ref vk4, .ref vk5, .ref vk6, .ref vk7, .ref vk8, .ref vk9, .ref vk10, .int vky])), (vk1, .inl (cy 0, 7, .inl vkf1)), (vk2, .inl (cy 0, 70, .inl vkf2)), (vk3, .inl (cy 0, 49, .inl vkf3)), (vk4, .inl (cy 0, 7, .inl vkf4)), (vk5, .inl (cy 0, 7, .inl vkf5)), (vk6, .inl (cy 0, 7, .inl vkf6)), (vk7, .inl (cy 0, 7, .inl vkf7)), (vk8, .inl (cy 0, 7, .inl vkf8)), (vk9, .inl (cy 0, 7, .inl vkf9)), (vk10, .inl (cy 0, 7, .inl vkf10))] := by rw [ef_8]; exact hD
  refine lv_aload_n hx hb dX4_copyFrom_128 rfl (lv_at hl 1 rfl) ?_
  refine gf_X4_36 hx hb hts hown hK hP 11 rfl rfl dX4_copyFrom_129 ?_
  refine lv_iconst (v := 0) hx hb dX4_copyFrom_132 (by decide) ?_
  refine lv_aload_n hx hb dX4_copyFrom_133 rfl (lv_at hl 0 rfl) ?_
  refine gf_X4_36 hx hb hts hown hK hP 0 rfl rfl dX4_copyFrom_134 ?_
  refine lv_iconst (v := 0) hx hb dX4_copyFrom_137 (by decide) ?_
  refine lv_bipush (v := 7) hx hb dX4_copyFrom_138 (by decide) ?_
  refine va_copyi hx hb (by rw [hml, hl.1]) hown (hts _ t767) (hts _ t769) (hts _ t768) (hts _ t23) hK hP hD hS 20 9 0 0 rfl rfl rfl rfl rfl (by decide) (by decide) (by decide) (by decide) (by decide) (fun _ _ => rfl) (Nat.le_of_ble_eq_true rfl) (Nat.le_of_ble_eq_true rfl) dX4_copyFrom_140 (fun H locs hP hD hS => ?_)
  obtain ⟨f_9, ef_9⟩ : ∃ z : Nat → Int32, z = va_cpy vkf9 vlf9 (Int32.toNatClampNeg 0) (Int32.toNatClampNeg 0) (Int32.toNatClampNeg 7) := ⟨_, rfl⟩
  have hP : va_P (dC, dI) vwCl [(vl, .inr (5, [.ref vl1, .ref vl2, .ref vl3, .ref vl4, .ref vl5, .ref vl6, .ref vl7, .ref vl8, .ref vl9, .ref vl10, .int vky])), (vl1, .inl (cy 0, 7, .inl f_1)), (vl2, .inl (cy 0, 70, .inl f_2)), (vl3, .inl (cy 0, 49, .inl f_3)), (vl4, .inl (cy 0, 7, .inl f_4)), (vl5, .inl (cy 0, 7, .inl f_5)), (vl6, .inl (cy 0, 7, .inl f_6)), (vl7, .inl (cy 0, 7, .inl f_7)), (vl8, .inl (cy 0, 7, .inl f_8)), (vl9, .inl (cy 0, 7, .inl f_9)), (vl10, .inl (cy 0, 7, .inl vlf10)), (vk, .inr (5, [.ref vk1, .ref vk2, .ref vk3, .ref vk4, .ref vk5, .ref vk6, .ref vk7, .ref vk8, .ref vk9, .ref vk10, .int vky])), (vk1, .inl (cy 0, 7, .inl vkf1)), (vk2, .inl (cy 0, 70, .inl vkf2)), (vk3, .inl (cy 0, 49, .inl vkf3)), (vk4, .inl (cy 0, 7, .inl vkf4)), (vk5, .inl (cy 0, 7, .inl vkf5)), (vk6, .inl (cy 0, 7, .inl vkf6)), (vk7, .inl (cy 0, 7, .inl vkf7)), (vk8, .inl (cy 0, 7, .inl vkf8)), (vk9, .inl (cy 0, 7, .inl vkf9)), (vk10, .inl (cy 0, 7, .inl vkf10))] H := by rw [ef_9]; exact hP
  have hD : va_D A [(vl, .inr (5, [.ref vl1, .ref vl2, .ref vl3, .ref vl4, .ref vl5, .ref vl6, .ref vl7, .ref vl8, .ref vl9, .ref vl10, .int vky])), (vl1, .inl (cy 0, 7, .inl f_1)), (vl2, .inl (cy 0, 70, .inl f_2)), (vl3, .inl (cy 0, 49, .inl f_3)), (vl4, .inl (cy 0, 7, .inl f_4)), (vl5, .inl (cy 0, 7, .inl f_5)), (vl6, .inl (cy 0, 7, .inl f_6)), (vl7, .inl (cy 0, 7, .inl f_7)), (vl8, .inl (cy 0, 7, .inl f_8)), (vl9, .inl (cy 0, 7, .inl f_9)), (vl10, .inl (cy 0, 7, .inl vlf10)), (vk, .inr (5, [.ref vk1, .ref vk2, .ref vk3, .ref vk4, .ref vk5, .ref vk6, .ref vk7, .ref vk8, .ref vk9, .ref vk10, .int vky])), (vk1, .inl (cy 0, 7, .inl vkf1)), (vk2, .inl (cy 0, 70, .inl vkf2)), (vk3, .inl (cy 0, 49, .inl vkf3)), (vk4, .inl (cy 0, 7, .inl vkf4)), (vk5, .inl (cy 0, 7, .inl vkf5)), (vk6, .inl (cy 0, 7, .inl vkf6)), (vk7, .inl (cy 0, 7, .inl vkf7)), (vk8, .inl (cy 0, 7, .inl vkf8)), (vk9, .inl (cy 0, 7, .inl vkf9)), (vk10, .inl (cy 0, 7, .inl vkf10))] := by rw [ef_9]; exact hD
  refine lv_aload_n hx hb dX4_copyFrom_143 rfl (lv_at hl 1 rfl) ?_
  refine gf_X4_39 hx hb hts hown hK hP 11 rfl rfl dX4_copyFrom_144 ?_
  refine lv_iconst (v := 0) hx hb dX4_copyFrom_147 (by decide) ?_
  refine lv_aload_n hx hb dX4_copyFrom_148 rfl (lv_at hl 0 rfl) ?_
  refine gf_X4_39 hx hb hts hown hK hP 0 rfl rfl dX4_copyFrom_149 ?_
  refine lv_iconst (v := 0) hx hb dX4_copyFrom_152 (by decide) ?_
  refine lv_bipush (v := 7) hx hb dX4_copyFrom_153 (by decide) ?_
  refine va_copyi hx hb (by rw [hml, hl.1]) hown (hts _ t767) (hts _ t769) (hts _ t768) (hts _ t23) hK hP hD hS 21 10 0 0 rfl rfl rfl rfl rfl (by decide) (by decide) (by decide) (by decide) (by decide) (fun _ _ => rfl) (Nat.le_of_ble_eq_true rfl) (Nat.le_of_ble_eq_true rfl) dX4_copyFrom_155 (fun H locs hP hD hS => ?_)
  obtain ⟨f_10, ef_10⟩ : ∃ z : Nat → Int32, z = va_cpy vkf10 vlf10 (Int32.toNatClampNeg 0) (Int32.toNatClampNeg 0) (Int32.toNatClampNeg 7) := ⟨_, rfl⟩
  have hP : va_P (dC, dI) vwCl [(vl, .inr (5, [.ref vl1, .ref vl2, .ref vl3, .ref vl4, .ref vl5, .ref vl6, .ref vl7, .ref vl8, .ref vl9, .ref vl10, .int vky])), (vl1, .inl (cy 0, 7, .inl f_1)), (vl2, .inl (cy 0, 70, .inl f_2)), (vl3, .inl (cy 0, 49, .inl f_3)), (vl4, .inl (cy 0, 7, .inl f_4)), (vl5, .inl (cy 0, 7, .inl f_5)), (vl6, .inl (cy 0, 7, .inl f_6)), (vl7, .inl (cy 0, 7, .inl f_7)), (vl8, .inl (cy 0, 7, .inl f_8)), (vl9, .inl (cy 0, 7, .inl f_9)), (vl10, .inl (cy 0, 7, .inl f_10)), (vk, .inr (5, [.ref vk1, .ref vk2, .ref vk3, .ref vk4, .ref vk5, .ref vk6, .ref vk7, .ref vk8, .ref vk9, .ref vk10, .int vky])), (vk1, .inl (cy 0, 7, .inl vkf1)), (vk2, .inl (cy 0, 70, .inl vkf2)), (vk3, .inl (cy 0, 49, .inl vkf3)), (vk4, .inl (cy 0, 7, .inl vkf4)), (vk5, .inl (cy 0, 7, .inl vkf5)), (vk6, .inl (cy 0, 7, .inl vkf6)), (vk7, .inl (cy 0, 7, .inl vkf7)), (vk8, .inl (cy 0, 7, .inl vkf8)), (vk9, .inl (cy 0, 7, .inl vkf9)), (vk10, .inl (cy 0, 7, .inl vkf10))] H := by rw [ef_10]; exact hP
  have hD : va_D A [(vl, .inr (5, [.ref vl1, .ref vl2, .ref vl3, .ref vl4, .ref vl5, .ref vl6, .ref vl7, .ref vl8, .ref vl9, .ref vl10, .int vky])), (vl1, .inl (cy 0, 7, .inl f_1)), (vl2, .inl (cy 0, 70, .inl f_2)), (vl3, .inl (cy 0, 49, .inl f_3)), (vl4, .inl (cy 0, 7, .inl f_4)), (vl5, .inl (cy 0, 7, .inl f_5)), (vl6, .inl (cy 0, 7, .inl f_6)), (vl7, .inl (cy 0, 7, .inl f_7)), (vl8, .inl (cy 0, 7, .inl f_8)), (vl9, .inl (cy 0, 7, .inl f_9)), (vl10, .inl (cy 0, 7, .inl f_10)), (vk, .inr (5, [.ref vk1, .ref vk2, .ref vk3, .ref vk4, .ref vk5, .ref vk6, .ref vk7, .ref vk8, .ref vk9, .ref vk10, .int vky])), (vk1, .inl (cy 0, 7, .inl vkf1)), (vk2, .inl (cy 0, 70, .inl vkf2)), (vk3, .inl (cy 0, 49, .inl vkf3)), (vk4, .inl (cy 0, 7, .inl vkf4)), (vk5, .inl (cy 0, 7, .inl vkf5)), (vk6, .inl (cy 0, 7, .inl vkf6)), (vk7, .inl (cy 0, 7, .inl vkf7)), (vk8, .inl (cy 0, 7, .inl vkf8)), (vk9, .inl (cy 0, 7, .inl vkf9)), (vk10, .inl (cy 0, 7, .inl vkf10))] := by rw [ef_10]; exact hD
  rw [hQ9]
  exact re_v (vky, f_1, f_2, f_3, f_4, f_5, f_6, f_7, f_8, f_9, f_10) hx hb hr hlocks ⟨(show Rg f_2 70 0 9 from p_f_2), (show Rg f_5 7 (-1) 9 from p_f_5)⟩ (hP.sub [0, 1, 2, 3, 4, 5, 6, 7, 8, 9, 10, 11, 12, 13, 14, 15, 16, 17, 18, 19, 20, 21] rfl) (hD.sub [0, 1, 2, 3, 4, 5, 6, 7, 8, 9, 10, 11, 12, 13, 14, 15, 16, 17, 18, 19, 20, 21] rfl rfl) hS dX4_copyFrom_158
abbrev cX1_copyFrom : ByteArray := prog_3_method_3_code
def yX1_copyFrom : MethodName := ⟨RX1, "copyFrom", "(LLikenessPound$Colony;)V"⟩
theorem t1193 : Cond.code yX1_copyFrom cX1_copyFrom 3 none ∈ GW := gw_mem 1307 (by decide +kernel) (by decide +kernel)
abbrev O_g_Col_copy (cy : Nat → ClassId) (vc : Nat) (vc1 : Nat) (vc2 : Nat) (vc3 : Nat) (vc4 : Nat) (vc5 : Nat) (vcm : Int32) (vcd : Int32) (vcr : Int32) (vcw : Int32) (vcf1 : Nat → Int64) (vcf2 : Nat → Int64) (vcf3 : Nat → Int32) (vcf4 : Nat → Int32) (vcf5 : Nat → Int32) (vk : Nat) (vk1 : Nat) (vk2 : Nat) (vk3 : Nat) (vk4 : Nat) (vk5 : Nat) (vkm : Int32) (vkd : Int32) (vkr : Int32) (vkw : Int32) (vkf1 : Nat → Int64) (vkf2 : Nat → Int64) (vkf3 : Nat → Int32) (vkf4 : Nat → Int32) (vkf5 : Nat → Int32) (u : Int32 × Int32 × Int32 × Int32 × (Nat → Int64) × (Nat → Int64) × (Nat → Int32) × (Nat → Int32) × (Nat → Int32)) : va_W := [(vc, .inr (2, [.ref vc1, .ref vc2, .ref vc3, .ref vc4, .ref vc5, .int u.1, .int u.2.1, .int u.2.2.1, .int u.2.2.2.1])), (vc1, .inl (cy 1, 7, .inr (.inl u.2.2.2.2.1))), (vc2, .inl (cy 1, 10, .inr (.inl u.2.2.2.2.2.1))), (vc3, .inl (cy 0, 10, .inl u.2.2.2.2.2.2.1)), (vc4, .inl (cy 2, 10, .inl u.2.2.2.2.2.2.2.1)), (vc5, .inl (cy 0, 7, .inl u.2.2.2.2.2.2.2.2)), (vk, .inr (2, [.ref vk1, .ref vk2, .ref vk3, .ref vk4, .ref vk5, .int vkm, .int vkd, .int vkr, .int vkw])), (vk1, .inl (cy 1, 7, .inr (.inl vkf1))), (vk2, .inl (cy 1, 10, .inr (.inl vkf2))), (vk3, .inl (cy 0, 10, .inl vkf3)), (vk4, .inl (cy 2, 10, .inl vkf4)), (vk5, .inl (cy 0, 7, .inl vkf5))]
theorem dX1_copyFrom_0 : decode cX1_copyFrom 0 = .ok (.aload_n 0, 1) := by decide +kernel
theorem dX1_copyFrom_1 : decode cX1_copyFrom 1 = .ok (.aload_n 1, 1) := by decide +kernel
theorem dX1_copyFrom_2 : decode cX1_copyFrom 2 = .ok (.getfield 36, 3) := by decide +kernel
theorem dX1_copyFrom_5 : decode cX1_copyFrom 5 = .ok (.putfield 36, 3) := by decide +kernel
theorem dX1_copyFrom_8 : decode cX1_copyFrom 8 = .ok (.aload_n 0, 1) := by decide +kernel
theorem dX1_copyFrom_9 : decode cX1_copyFrom 9 = .ok (.aload_n 1, 1) := by decide +kernel
theorem dX1_copyFrom_10 : decode cX1_copyFrom 10 = .ok (.getfield 39, 3) := by decide +kernel
theorem dX1_copyFrom_13 : decode cX1_copyFrom 13 = .ok (.putfield 39, 3) := by decide +kernel
theorem dX1_copyFrom_16 : decode cX1_copyFrom 16 = .ok (.aload_n 0, 1) := by decide +kernel
theorem dX1_copyFrom_17 : decode cX1_copyFrom 17 = .ok (.aload_n 1, 1) := by decide +kernel
theorem dX1_copyFrom_18 : decode cX1_copyFrom 18 = .ok (.getfield 29, 3) := by decide +kernel
theorem gf_X1_29 {p : Program} {l : Launch} {e : Env} {R : Room} {s : State} {m : MethodId} {args : Array Value} {below : List Frame} {meth : Method} {c : Code} {H : Heap} {locs : List Loc} {cells slots : Nat} {Q : State → Prop} {cc : ByteArray} {pc : Nat} {ls : Array Slot} {rest : List Value} {D : va_G} {a : Nat} {tys : List (ClassId × FieldType)} {ws : va_W} (hx : p.tables.exec = Jvm.exec) (hb : c.code = cc) (hts : ∀ w ∈ GW, w.before args s = true) (hown : s.vm.findClass RX1 = some m.cls) (hK : va_K D vwCl tys s) (hP : va_P D vwCl ws H) (q0 : Nat) {fs : List Value} (he : ws[q0]? = some (a, .inr (2, fs))) {v : Value} (hv : fs[7]? = some v) (hdg : decode cc pc = .ok (.getfield 29, 3)) (kk : W p l e R s m args below meth c H locs cells slots Q (F0 m (pc + 3) ls (v :: rest))) : W p l e R s m args below meth c H locs cells slots Q (F0 m pc ls (.ref a :: rest)) := va_get (C := RX1) (T := TX1) (N := 9) (ci := 2) hx hb hts inX1 hown hK hP q0 he rfl 7 (by decide) (hts _ t402) (fun _ h => h) hv hdg kk
theorem dX1_copyFrom_21 : decode cX1_copyFrom 21 = .ok (.putfield 29, 3) := by decide +kernel
theorem dX1_copyFrom_24 : decode cX1_copyFrom 24 = .ok (.aload_n 0, 1) := by decide +kernel
theorem dX1_copyFrom_25 : decode cX1_copyFrom 25 = .ok (.aload_n 1, 1) := by decide +kernel
theorem dX1_copyFrom_26 : decode cX1_copyFrom 26 = .ok (.getfield 33, 3) := by decide +kernel
theorem gf_X1_33 {p : Program} {l : Launch} {e : Env} {R : Room} {s : State} {m : MethodId} {args : Array Value} {below : List Frame} {meth : Method} {c : Code} {H : Heap} {locs : List Loc} {cells slots : Nat} {Q : State → Prop} {cc : ByteArray} {pc : Nat} {ls : Array Slot} {rest : List Value} {D : va_G} {a : Nat} {tys : List (ClassId × FieldType)} {ws : va_W} (hx : p.tables.exec = Jvm.exec) (hb : c.code = cc) (hts : ∀ w ∈ GW, w.before args s = true) (hown : s.vm.findClass RX1 = some m.cls) (hK : va_K D vwCl tys s) (hP : va_P D vwCl ws H) (q0 : Nat) {fs : List Value} (he : ws[q0]? = some (a, .inr (2, fs))) {v : Value} (hv : fs[8]? = some v) (hdg : decode cc pc = .ok (.getfield 33, 3)) (kk : W p l e R s m args below meth c H locs cells slots Q (F0 m (pc + 3) ls (v :: rest))) : W p l e R s m args below meth c H locs cells slots Q (F0 m pc ls (.ref a :: rest)) := va_get (C := RX1) (T := TX1) (N := 9) (ci := 2) hx hb hts inX1 hown hK hP q0 he rfl 8 (by decide) (hts _ t406) (fun _ h => h) hv hdg kk
theorem dX1_copyFrom_29 : decode cX1_copyFrom 29 = .ok (.putfield 33, 3) := by decide +kernel
theorem dX1_copyFrom_32 : decode cX1_copyFrom 32 = .ok (.iconst 0, 1) := by decide +kernel
theorem dX1_copyFrom_33 : decode cX1_copyFrom 33 = .ok (.istore_n 2, 1) := by decide +kernel
theorem dX1_copyFrom_34 : decode cX1_copyFrom 34 = .ok (.iload_n 2, 1) := by decide +kernel
theorem dX1_copyFrom_35 : decode cX1_copyFrom 35 = .ok (.bipush 7, 2) := by decide +kernel
theorem dX1_copyFrom_37 : decode cX1_copyFrom 37 = .ok (.if_icmp .ge 33, 3) := by decide +kernel
theorem dX1_copyFrom_70 : decode cX1_copyFrom 70 = .ok (.iconst 0, 1) := by decide +kernel
theorem dX1_copyFrom_71 : decode cX1_copyFrom 71 = .ok (.istore_n 2, 1) := by decide +kernel
theorem dX1_copyFrom_72 : decode cX1_copyFrom 72 = .ok (.iload_n 2, 1) := by decide +kernel
theorem dX1_copyFrom_73 : decode cX1_copyFrom 73 = .ok (.bipush 10, 2) := by decide +kernel
theorem dX1_copyFrom_75 : decode cX1_copyFrom 75 = .ok (.if_icmp .ge 45, 3) := by decide +kernel
theorem dX1_copyFrom_120 : decode cX1_copyFrom 120 = .ok (.return_, 1) := by decide +kernel
theorem dX1_copyFrom_78 : decode cX1_copyFrom 78 = .ok (.aload_n 0, 1) := by decide +kernel
theorem dX1_copyFrom_79 : decode cX1_copyFrom 79 = .ok (.getfield 15, 3) := by decide +kernel
theorem dX1_copyFrom_82 : decode cX1_copyFrom 82 = .ok (.iload_n 2, 1) := by decide +kernel
theorem dX1_copyFrom_83 : decode cX1_copyFrom 83 = .ok (.aload_n 1, 1) := by decide +kernel
theorem dX1_copyFrom_84 : decode cX1_copyFrom 84 = .ok (.getfield 15, 3) := by decide +kernel
theorem dX1_copyFrom_87 : decode cX1_copyFrom 87 = .ok (.iload_n 2, 1) := by decide +kernel
theorem dX1_copyFrom_88 : decode cX1_copyFrom 88 = .ok (.laload, 1) := by decide +kernel
theorem dX1_copyFrom_89 : decode cX1_copyFrom 89 = .ok (.lastore, 1) := by decide +kernel
theorem dX1_copyFrom_90 : decode cX1_copyFrom 90 = .ok (.aload_n 0, 1) := by decide +kernel
theorem dX1_copyFrom_91 : decode cX1_copyFrom 91 = .ok (.getfield 18, 3) := by decide +kernel
theorem t377 : Cond.fieldLink RX1 18 "LikenessPound$Colony" "weight" "[I" ∈ GW := gw_mem 491 (by decide +kernel) (by decide +kernel)
theorem gf_X1_18 {p : Program} {l : Launch} {e : Env} {R : Room} {s : State} {m : MethodId} {args : Array Value} {below : List Frame} {meth : Method} {c : Code} {H : Heap} {locs : List Loc} {cells slots : Nat} {Q : State → Prop} {cc : ByteArray} {pc : Nat} {ls : Array Slot} {rest : List Value} {D : va_G} {a : Nat} {tys : List (ClassId × FieldType)} {ws : va_W} (hx : p.tables.exec = Jvm.exec) (hb : c.code = cc) (hts : ∀ w ∈ GW, w.before args s = true) (hown : s.vm.findClass RX1 = some m.cls) (hK : va_K D vwCl tys s) (hP : va_P D vwCl ws H) (q0 : Nat) {fs : List Value} (he : ws[q0]? = some (a, .inr (2, fs))) {v : Value} (hv : fs[2]? = some v) (hdg : decode cc pc = .ok (.getfield 18, 3)) (kk : W p l e R s m args below meth c H locs cells slots Q (F0 m (pc + 3) ls (v :: rest))) : W p l e R s m args below meth c H locs cells slots Q (F0 m pc ls (.ref a :: rest)) := va_get (C := RX1) (T := TX1) (N := 9) (ci := 2) hx hb hts inX1 hown hK hP q0 he rfl 2 (by decide) (hts _ t377) (fun _ h => h) hv hdg kk
theorem dX1_copyFrom_94 : decode cX1_copyFrom 94 = .ok (.iload_n 2, 1) := by decide +kernel
theorem dX1_copyFrom_95 : decode cX1_copyFrom 95 = .ok (.aload_n 1, 1) := by decide +kernel
theorem dX1_copyFrom_96 : decode cX1_copyFrom 96 = .ok (.getfield 18, 3) := by decide +kernel
theorem dX1_copyFrom_99 : decode cX1_copyFrom 99 = .ok (.iload_n 2, 1) := by decide +kernel
theorem dX1_copyFrom_100 : decode cX1_copyFrom 100 = .ok (.iaload, 1) := by decide +kernel
theorem dX1_copyFrom_101 : decode cX1_copyFrom 101 = .ok (.iastore, 1) := by decide +kernel
theorem dX1_copyFrom_102 : decode cX1_copyFrom 102 = .ok (.aload_n 0, 1) := by decide +kernel
theorem dX1_copyFrom_103 : decode cX1_copyFrom 103 = .ok (.getfield 22, 3) := by decide +kernel
theorem t383 : Cond.fieldLink RX1 22 "LikenessPound$Colony" "crime" "[Z" ∈ GW := gw_mem 497 (by decide +kernel) (by decide +kernel)
theorem gf_X1_22 {p : Program} {l : Launch} {e : Env} {R : Room} {s : State} {m : MethodId} {args : Array Value} {below : List Frame} {meth : Method} {c : Code} {H : Heap} {locs : List Loc} {cells slots : Nat} {Q : State → Prop} {cc : ByteArray} {pc : Nat} {ls : Array Slot} {rest : List Value} {D : va_G} {a : Nat} {tys : List (ClassId × FieldType)} {ws : va_W} (hx : p.tables.exec = Jvm.exec) (hb : c.code = cc) (hts : ∀ w ∈ GW, w.before args s = true) (hown : s.vm.findClass RX1 = some m.cls) (hK : va_K D vwCl tys s) (hP : va_P D vwCl ws H) (q0 : Nat) {fs : List Value} (he : ws[q0]? = some (a, .inr (2, fs))) {v : Value} (hv : fs[3]? = some v) (hdg : decode cc pc = .ok (.getfield 22, 3)) (kk : W p l e R s m args below meth c H locs cells slots Q (F0 m (pc + 3) ls (v :: rest))) : W p l e R s m args below meth c H locs cells slots Q (F0 m pc ls (.ref a :: rest)) := va_get (C := RX1) (T := TX1) (N := 9) (ci := 2) hx hb hts inX1 hown hK hP q0 he rfl 3 (by decide) (hts _ t383) (fun _ h => h) hv hdg kk
theorem dX1_copyFrom_106 : decode cX1_copyFrom 106 = .ok (.iload_n 2, 1) := by decide +kernel
theorem dX1_copyFrom_107 : decode cX1_copyFrom 107 = .ok (.aload_n 1, 1) := by decide +kernel
theorem dX1_copyFrom_108 : decode cX1_copyFrom 108 = .ok (.getfield 22, 3) := by decide +kernel
theorem dX1_copyFrom_111 : decode cX1_copyFrom 111 = .ok (.iload_n 2, 1) := by decide +kernel
theorem dX1_copyFrom_112 : decode cX1_copyFrom 112 = .ok (.baload, 1) := by decide +kernel
theorem dX1_copyFrom_113 : decode cX1_copyFrom 113 = .ok (.bastore, 1) := by decide +kernel
theorem dX1_copyFrom_114 : decode cX1_copyFrom 114 = .ok (.iinc 2 1, 3) := by decide +kernel
theorem dX1_copyFrom_117 : decode cX1_copyFrom 117 = .ok (.goto (-45), 3) := by decide +kernel
theorem dX1_copyFrom_40 : decode cX1_copyFrom 40 = .ok (.aload_n 0, 1) := by decide +kernel
theorem dX1_copyFrom_41 : decode cX1_copyFrom 41 = .ok (.getfield 9, 3) := by decide +kernel
theorem dX1_copyFrom_44 : decode cX1_copyFrom 44 = .ok (.iload_n 2, 1) := by decide +kernel
theorem dX1_copyFrom_45 : decode cX1_copyFrom 45 = .ok (.aload_n 1, 1) := by decide +kernel
theorem dX1_copyFrom_46 : decode cX1_copyFrom 46 = .ok (.getfield 9, 3) := by decide +kernel
theorem dX1_copyFrom_49 : decode cX1_copyFrom 49 = .ok (.iload_n 2, 1) := by decide +kernel
theorem dX1_copyFrom_50 : decode cX1_copyFrom 50 = .ok (.laload, 1) := by decide +kernel
theorem dX1_copyFrom_51 : decode cX1_copyFrom 51 = .ok (.lastore, 1) := by decide +kernel
theorem dX1_copyFrom_52 : decode cX1_copyFrom 52 = .ok (.aload_n 0, 1) := by decide +kernel
theorem dX1_copyFrom_53 : decode cX1_copyFrom 53 = .ok (.getfield 26, 3) := by decide +kernel
theorem dX1_copyFrom_56 : decode cX1_copyFrom 56 = .ok (.iload_n 2, 1) := by decide +kernel
theorem dX1_copyFrom_57 : decode cX1_copyFrom 57 = .ok (.aload_n 1, 1) := by decide +kernel
theorem dX1_copyFrom_58 : decode cX1_copyFrom 58 = .ok (.getfield 26, 3) := by decide +kernel
theorem dX1_copyFrom_61 : decode cX1_copyFrom 61 = .ok (.iload_n 2, 1) := by decide +kernel
theorem dX1_copyFrom_62 : decode cX1_copyFrom 62 = .ok (.iaload, 1) := by decide +kernel
theorem dX1_copyFrom_63 : decode cX1_copyFrom 63 = .ok (.iastore, 1) := by decide +kernel
theorem dX1_copyFrom_64 : decode cX1_copyFrom 64 = .ok (.iinc 2 1, 3) := by decide +kernel
theorem dX1_copyFrom_67 : decode cX1_copyFrom 67 = .ok (.goto (-33), 3) := by decide +kernel
set_option maxHeartbeats 4000000 in
set_option maxRecDepth 100000 in
theorem g_Col_copy (l : Launch) (dC : Nat → ClassId) (dI : Nat → Nat → Nat) (cy : Nat → ClassId) (sz : Nat) (vc : Nat) (vc1 : Nat) (vc2 : Nat) (vc3 : Nat) (vc4 : Nat) (vc5 : Nat) (vcm : Int32) (vcd : Int32) (vcr : Int32) (vcw : Int32) (vcf1 : Nat → Int64) (vcf2 : Nat → Int64) (vcf3 : Nat → Int32) (vcf4 : Nat → Int32) (vcf5 : Nat → Int32) (vk : Nat) (vk1 : Nat) (vk2 : Nat) (vk3 : Nat) (vk4 : Nat) (vk5 : Nat) (vkm : Int32) (vkd : Int32) (vkr : Int32) (vkw : Int32) (vkf1 : Nat → Int64) (vkf2 : Nat → Int64) (vkf3 : Nat → Int32) (vkf4 : Nat → Int32) (vkf5 : Nat → Int32) (r_vkm : 0 ≤ (vkm : Int32).toInt ∧ (vkm : Int32).toInt ≤ 7) (r_vkd : 0 ≤ (vkd : Int32).toInt ∧ (vkd : Int32).toInt ≤ 10) (p_vcf3 : Rg vcf3 10 0 40) (p_vkf3 : Rg vkf3 10 0 40) : Met l yX1_copyFrom (wl yX1_copyFrom cX1_copyFrom 3 none) ({ frames := 1, cells := 0, slots := 0, locals := 64 }) (Pw (dC, dI) vwCl cy [(vc, .inr (2, [.ref vc1, .ref vc2, .ref vc3, .ref vc4, .ref vc5, .int vcm, .int vcd, .int vcr, .int vcw])), (vc1, .inl (cy 1, 7, .inr (.inl vcf1))), (vc2, .inl (cy 1, 10, .inr (.inl vcf2))), (vc3, .inl (cy 0, 10, .inl vcf3)), (vc4, .inl (cy 2, 10, .inl vcf4)), (vc5, .inl (cy 0, 7, .inl vcf5)), (vk, .inr (2, [.ref vk1, .ref vk2, .ref vk3, .ref vk4, .ref vk5, .int vkm, .int vkd, .int vkr, .int vkw])), (vk1, .inl (cy 1, 7, .inr (.inl vkf1))), (vk2, .inl (cy 1, 10, .inr (.inl vkf2))), (vk3, .inl (cy 0, 10, .inl vkf3)), (vk4, .inl (cy 2, 10, .inl vkf4)), (vk5, .inl (cy 0, 7, .inl vkf5))] sz [.ref vc, .ref vk] nE) (Qv (dC, dI) vwCl (fun (u : Int32 × Int32 × Int32 × Int32 × (Nat → Int64) × (Nat → Int64) × (Nat → Int32) × (Nat → Int32) × (Nat → Int32)) => (0 ≤ (u.1 : Int32).toInt ∧ (u.1 : Int32).toInt ≤ 7) ∧ (0 ≤ (u.2.1 : Int32).toInt ∧ (u.2.1 : Int32).toInt ≤ 10) ∧ (Rg u.2.2.2.2.2.2.1 10 0 40) ∧ (tkCC u.1 u.2.1 u.2.2.1 u.2.2.2.1 u.2.2.2.2.1 u.2.2.2.2.2.1 u.2.2.2.2.2.2.1 u.2.2.2.2.2.2.2.2 vkm vkd vkr vkw vkf1 vkf2 vkf3 vkf5)) (O_g_Col_copy cy vc vc1 vc2 vc3 vc4 vc5 vcm vcd vcr vcw vcf1 vcf2 vcf3 vcf4 vcf5 vk vk1 vk2 vk3 vk4 vk5 vkm vkd vkr vkw vkf1 vkf2 vkf3 vkf4 vkf5) (va_A [(vc, .inr (2, [.ref vc1, .ref vc2, .ref vc3, .ref vc4, .ref vc5, .int vcm, .int vcd, .int vcr, .int vcw])), (vc1, .inl (cy 1, 7, .inr (.inl vcf1))), (vc2, .inl (cy 1, 10, .inr (.inl vcf2))), (vc3, .inl (cy 0, 10, .inl vcf3)), (vc4, .inl (cy 2, 10, .inl vcf4)), (vc5, .inl (cy 0, 7, .inl vcf5)), (vk, .inr (2, [.ref vk1, .ref vk2, .ref vk3, .ref vk4, .ref vk5, .int vkm, .int vkd, .int vkr, .int vkw])), (vk1, .inl (cy 1, 7, .inr (.inl vkf1))), (vk2, .inl (cy 1, 10, .inr (.inl vkf2))), (vk3, .inl (cy 0, 10, .inl vkf3)), (vk4, .inl (cy 2, 10, .inl vkf4)), (vk5, .inl (cy 0, 7, .inl vkf5))] sz)) 0 0 (va_A [(vc, .inr (2, [.ref vc1, .ref vc2, .ref vc3, .ref vc4, .ref vc5, .int vcm, .int vcd, .int vcr, .int vcw])), (vc1, .inl (cy 1, 7, .inr (.inl vcf1))), (vc2, .inl (cy 1, 10, .inr (.inl vcf2))), (vc3, .inl (cy 0, 10, .inl vcf3)), (vc4, .inl (cy 2, 10, .inl vcf4)), (vc5, .inl (cy 0, 7, .inl vcf5)), (vk, .inr (2, [.ref vk1, .ref vk2, .ref vk3, .ref vk4, .ref vk5, .int vkm, .int vkd, .int vkr, .int vkw])), (vk1, .inl (cy 1, 7, .inr (.inl vkf1))), (vk2, .inl (cy 1, 10, .inr (.inl vkf2))), (vk3, .inl (cy 0, 10, .inl vkf3)), (vk4, .inl (cy 2, 10, .inl vkf4)), (vk5, .inl (cy 0, 7, .inl vkf5))] sz) := by
  refine mw (Qc := Qv (dC, dI) vwCl (fun (u : Int32 × Int32 × Int32 × Int32 × (Nat → Int64) × (Nat → Int64) × (Nat → Int32) × (Nat → Int32) × (Nat → Int32)) => (0 ≤ (u.1 : Int32).toInt ∧ (u.1 : Int32).toInt ≤ 7) ∧ (0 ≤ (u.2.1 : Int32).toInt ∧ (u.2.1 : Int32).toInt ≤ 10) ∧ (Rg u.2.2.2.2.2.2.1 10 0 40) ∧ (tkCC u.1 u.2.1 u.2.2.1 u.2.2.2.1 u.2.2.2.2.1 u.2.2.2.2.2.1 u.2.2.2.2.2.2.1 u.2.2.2.2.2.2.2.2 vkm vkd vkr vkw vkf1 vkf2 vkf3 vkf5)) (O_g_Col_copy cy vc vc1 vc2 vc3 vc4 vc5 vcm vcd vcr vcw vcf1 vcf2 vcf3 vcf4 vcf5 vk vk1 vk2 vk3 vk4 vk5 vkm vkd vkr vkw vkf1 vkf2 vkf3 vkf4 vkf5)) RX1 rfl (by decide +kernel) (Nat.le_of_ble_eq_true rfl) ?_
  intro p e s m below meth c A hx hb hr hlocks av9 hav hts hown hnm hml hK hP hD hA hS hE hAe Q9 hQ9 ls hl
  have hl : lv_has ls 3 [(0, .ref vc), (1, .ref vk)] := hl
  refine lv_aload_n hx hb dX1_copyFrom_0 rfl (lv_at hl 0 rfl) ?_
  refine lv_aload_n hx hb dX1_copyFrom_1 rfl (lv_at hl 1 rfl) ?_
  refine gf_X1_36 hx hb hts hown hK hP 6 rfl rfl dX1_copyFrom_2 ?_
  refine pf_X1_36 hx hb hts hown hK hP hD hS 0 rfl rfl rfl (Nat.le_of_ble_eq_true rfl) dX1_copyFrom_5 (fun H locs hP hD hS => ?_)
  have hP : va_P (dC, dI) vwCl [(vc, .inr (2, [.ref vc1, .ref vc2, .ref vc3, .ref vc4, .ref vc5, .int vkm, .int vcd, .int vcr, .int vcw])), (vc1, .inl (cy 1, 7, .inr (.inl vcf1))), (vc2, .inl (cy 1, 10, .inr (.inl vcf2))), (vc3, .inl (cy 0, 10, .inl vcf3)), (vc4, .inl (cy 2, 10, .inl vcf4)), (vc5, .inl (cy 0, 7, .inl vcf5)), (vk, .inr (2, [.ref vk1, .ref vk2, .ref vk3, .ref vk4, .ref vk5, .int vkm, .int vkd, .int vkr, .int vkw])), (vk1, .inl (cy 1, 7, .inr (.inl vkf1))), (vk2, .inl (cy 1, 10, .inr (.inl vkf2))), (vk3, .inl (cy 0, 10, .inl vkf3)), (vk4, .inl (cy 2, 10, .inl vkf4)), (vk5, .inl (cy 0, 7, .inl vkf5))] H := hP
  have hD : va_D A [(vc, .inr (2, [.ref vc1, .ref vc2, .ref vc3, .ref vc4, .ref vc5, .int vkm, .int vcd, .int vcr, .int vcw])), (vc1, .inl (cy 1, 7, .inr (.inl vcf1))), (vc2, .inl (cy 1, 10, .inr (.inl vcf2))), (vc3, .inl (cy 0, 10, .inl vcf3)), (vc4, .inl (cy 2, 10, .inl vcf4)), (vc5, .inl (cy 0, 7, .inl vcf5)), (vk, .inr (2, [.ref vk1, .ref vk2, .ref vk3, .ref vk4, .ref vk5, .int vkm, .int vkd, .int vkr, .int vkw])), (vk1, .inl (cy 1, 7, .inr (.inl vkf1))), (vk2, .inl (cy 1, 10, .inr (.inl vkf2))), (vk3, .inl (cy 0, 10, .inl vkf3)), (vk4, .inl (cy 2, 10, .inl vkf4)), (vk5, .inl (cy 0, 7, .inl vkf5))] := hD
  refine lv_aload_n hx hb dX1_copyFrom_8 rfl (lv_at hl 0 rfl) ?_
  refine lv_aload_n hx hb dX1_copyFrom_9 rfl (lv_at hl 1 rfl) ?_
  refine gf_X1_39 hx hb hts hown hK hP 6 rfl rfl dX1_copyFrom_10 ?_
  refine pf_X1_39 hx hb hts hown hK hP hD hS 0 rfl rfl rfl (Nat.le_of_ble_eq_true rfl) dX1_copyFrom_13 (fun H locs hP hD hS => ?_)
  have hP : va_P (dC, dI) vwCl [(vc, .inr (2, [.ref vc1, .ref vc2, .ref vc3, .ref vc4, .ref vc5, .int vkm, .int vkd, .int vcr, .int vcw])), (vc1, .inl (cy 1, 7, .inr (.inl vcf1))), (vc2, .inl (cy 1, 10, .inr (.inl vcf2))), (vc3, .inl (cy 0, 10, .inl vcf3)), (vc4, .inl (cy 2, 10, .inl vcf4)), (vc5, .inl (cy 0, 7, .inl vcf5)), (vk, .inr (2, [.ref vk1, .ref vk2, .ref vk3, .ref vk4, .ref vk5, .int vkm, .int vkd, .int vkr, .int vkw])), (vk1, .inl (cy 1, 7, .inr (.inl vkf1))), (vk2, .inl (cy 1, 10, .inr (.inl vkf2))), (vk3, .inl (cy 0, 10, .inl vkf3)), (vk4, .inl (cy 2, 10, .inl vkf4)), (vk5, .inl (cy 0, 7, .inl vkf5))] H := hP
  have hD : va_D A [(vc, .inr (2, [.ref vc1, .ref vc2, .ref vc3, .ref vc4, .ref vc5, .int vkm, .int vkd, .int vcr, .int vcw])), (vc1, .inl (cy 1, 7, .inr (.inl vcf1))), (vc2, .inl (cy 1, 10, .inr (.inl vcf2))), (vc3, .inl (cy 0, 10, .inl vcf3)), (vc4, .inl (cy 2, 10, .inl vcf4)), (vc5, .inl (cy 0, 7, .inl vcf5)), (vk, .inr (2, [.ref vk1, .ref vk2, .ref vk3, .ref vk4, .ref vk5, .int vkm, .int vkd, .int vkr, .int vkw])), (vk1, .inl (cy 1, 7, .inr (.inl vkf1))), (vk2, .inl (cy 1, 10, .inr (.inl vkf2))), (vk3, .inl (cy 0, 10, .inl vkf3)), (vk4, .inl (cy 2, 10, .inl vkf4)), (vk5, .inl (cy 0, 7, .inl vkf5))] := hD
  refine lv_aload_n hx hb dX1_copyFrom_16 rfl (lv_at hl 0 rfl) ?_
  refine lv_aload_n hx hb dX1_copyFrom_17 rfl (lv_at hl 1 rfl) ?_
  refine gf_X1_29 hx hb hts hown hK hP 6 rfl rfl dX1_copyFrom_18 ?_
  refine pf_X1_29 hx hb hts hown hK hP hD hS 0 rfl rfl rfl (Nat.le_of_ble_eq_true rfl) dX1_copyFrom_21 (fun H locs hP hD hS => ?_)
  have hP : va_P (dC, dI) vwCl [(vc, .inr (2, [.ref vc1, .ref vc2, .ref vc3, .ref vc4, .ref vc5, .int vkm, .int vkd, .int vkr, .int vcw])), (vc1, .inl (cy 1, 7, .inr (.inl vcf1))), (vc2, .inl (cy 1, 10, .inr (.inl vcf2))), (vc3, .inl (cy 0, 10, .inl vcf3)), (vc4, .inl (cy 2, 10, .inl vcf4)), (vc5, .inl (cy 0, 7, .inl vcf5)), (vk, .inr (2, [.ref vk1, .ref vk2, .ref vk3, .ref vk4, .ref vk5, .int vkm, .int vkd, .int vkr, .int vkw])), (vk1, .inl (cy 1, 7, .inr (.inl vkf1))), (vk2, .inl (cy 1, 10, .inr (.inl vkf2))), (vk3, .inl (cy 0, 10, .inl vkf3)), (vk4, .inl (cy 2, 10, .inl vkf4)), (vk5, .inl (cy 0, 7, .inl vkf5))] H := hP
  have hD : va_D A [(vc, .inr (2, [.ref vc1, .ref vc2, .ref vc3, .ref vc4, .ref vc5, .int vkm, .int vkd, .int vkr, .int vcw])), (vc1, .inl (cy 1, 7, .inr (.inl vcf1))), (vc2, .inl (cy 1, 10, .inr (.inl vcf2))), (vc3, .inl (cy 0, 10, .inl vcf3)), (vc4, .inl (cy 2, 10, .inl vcf4)), (vc5, .inl (cy 0, 7, .inl vcf5)), (vk, .inr (2, [.ref vk1, .ref vk2, .ref vk3, .ref vk4, .ref vk5, .int vkm, .int vkd, .int vkr, .int vkw])), (vk1, .inl (cy 1, 7, .inr (.inl vkf1))), (vk2, .inl (cy 1, 10, .inr (.inl vkf2))), (vk3, .inl (cy 0, 10, .inl vkf3)), (vk4, .inl (cy 2, 10, .inl vkf4)), (vk5, .inl (cy 0, 7, .inl vkf5))] := hD
  refine lv_aload_n hx hb dX1_copyFrom_24 rfl (lv_at hl 0 rfl) ?_
  refine lv_aload_n hx hb dX1_copyFrom_25 rfl (lv_at hl 1 rfl) ?_
  refine gf_X1_33 hx hb hts hown hK hP 6 rfl rfl dX1_copyFrom_26 ?_
  refine pf_X1_33 hx hb hts hown hK hP hD hS 0 rfl rfl rfl (Nat.le_of_ble_eq_true rfl) dX1_copyFrom_29 (fun H locs hP hD hS => ?_)
  have hP : va_P (dC, dI) vwCl [(vc, .inr (2, [.ref vc1, .ref vc2, .ref vc3, .ref vc4, .ref vc5, .int vkm, .int vkd, .int vkr, .int vkw])), (vc1, .inl (cy 1, 7, .inr (.inl vcf1))), (vc2, .inl (cy 1, 10, .inr (.inl vcf2))), (vc3, .inl (cy 0, 10, .inl vcf3)), (vc4, .inl (cy 2, 10, .inl vcf4)), (vc5, .inl (cy 0, 7, .inl vcf5)), (vk, .inr (2, [.ref vk1, .ref vk2, .ref vk3, .ref vk4, .ref vk5, .int vkm, .int vkd, .int vkr, .int vkw])), (vk1, .inl (cy 1, 7, .inr (.inl vkf1))), (vk2, .inl (cy 1, 10, .inr (.inl vkf2))), (vk3, .inl (cy 0, 10, .inl vkf3)), (vk4, .inl (cy 2, 10, .inl vkf4)), (vk5, .inl (cy 0, 7, .inl vkf5))] H := hP
  have hD : va_D A [(vc, .inr (2, [.ref vc1, .ref vc2, .ref vc3, .ref vc4, .ref vc5, .int vkm, .int vkd, .int vkr, .int vkw])), (vc1, .inl (cy 1, 7, .inr (.inl vcf1))), (vc2, .inl (cy 1, 10, .inr (.inl vcf2))), (vc3, .inl (cy 0, 10, .inl vcf3)), (vc4, .inl (cy 2, 10, .inl vcf4)), (vc5, .inl (cy 0, 7, .inl vcf5)), (vk, .inr (2, [.ref vk1, .ref vk2, .ref vk3, .ref vk4, .ref vk5, .int vkm, .int vkd, .int vkr, .int vkw])), (vk1, .inl (cy 1, 7, .inr (.inl vkf1))), (vk2, .inl (cy 1, 10, .inr (.inl vkf2))), (vk3, .inl (cy 0, 10, .inl vkf3)), (vk4, .inl (cy 2, 10, .inl vkf4)), (vk5, .inl (cy 0, 7, .inl vkf5))] := hD
  refine lv_iconst (v := 0) hx hb dX1_copyFrom_32 (by decide) ?_
  refine lv_istore_n (lv' := [(2, .int 0), (0, .ref vc), (1, .ref vk)]) hx hb dX1_copyFrom_33 rfl hl (by decide) rfl (fun ls hl => ?_)
  have loop1 : ∀ (n1 : Nat) (x_2 : Int32) (g_3 : Nat → Int64) (g_4 : Nat → Int32), (0 ≤ x_2.toInt ∧ x_2.toInt ≤ 7) → (tkEL g_3 vkf1 x_2.toInt) → (tkE g_4 vkf5 x_2.toInt) → 7 - x_2.toInt < (n1 : Int) → ∀ (H : Heap) (locs : List Loc), va_P (dC, dI) vwCl [(vc, .inr (2, [.ref vc1, .ref vc2, .ref vc3, .ref vc4, .ref vc5, .int vkm, .int vkd, .int vkr, .int vkw])), (vc1, .inl (cy 1, 7, .inr (.inl g_3))), (vc2, .inl (cy 1, 10, .inr (.inl vcf2))), (vc3, .inl (cy 0, 10, .inl vcf3)), (vc4, .inl (cy 2, 10, .inl vcf4)), (vc5, .inl (cy 0, 7, .inl g_4)), (vk, .inr (2, [.ref vk1, .ref vk2, .ref vk3, .ref vk4, .ref vk5, .int vkm, .int vkd, .int vkr, .int vkw])), (vk1, .inl (cy 1, 7, .inr (.inl vkf1))), (vk2, .inl (cy 1, 10, .inr (.inl vkf2))), (vk3, .inl (cy 0, 10, .inl vkf3)), (vk4, .inl (cy 2, 10, .inl vkf4)), (vk5, .inl (cy 0, 7, .inl vkf5))] H → va_D A [(vc, .inr (2, [.ref vc1, .ref vc2, .ref vc3, .ref vc4, .ref vc5, .int vkm, .int vkd, .int vkr, .int vkw])), (vc1, .inl (cy 1, 7, .inr (.inl g_3))), (vc2, .inl (cy 1, 10, .inr (.inl vcf2))), (vc3, .inl (cy 0, 10, .inl vcf3)), (vc4, .inl (cy 2, 10, .inl vcf4)), (vc5, .inl (cy 0, 7, .inl g_4)), (vk, .inr (2, [.ref vk1, .ref vk2, .ref vk3, .ref vk4, .ref vk5, .int vkm, .int vkd, .int vkr, .int vkw])), (vk1, .inl (cy 1, 7, .inr (.inl vkf1))), (vk2, .inl (cy 1, 10, .inr (.inl vkf2))), (vk3, .inl (cy 0, 10, .inl vkf3)), (vk4, .inl (cy 2, 10, .inl vkf4)), (vk5, .inl (cy 0, 7, .inl vkf5))] → va_S A s.heap H locs → ∀ ls : Array Slot, lv_has ls 3 [(2, .int x_2), (0, .ref vc), (1, .ref vk)] → W p l e ({ frames := 1, cells := 0, slots := 0, locals := 64 }) s m av9 below meth c H locs 0 0 Q9 (F0 m 34 ls []) := by
    intro n1
    induction n1 with
    | zero =>
      intro x_2 g_3 g_4 bx_2 v1_0 v1_1 hn1 H locs hP hD hS ls hl
      exfalso; omega
    | succ n1 ih1 =>
      intro x_2 g_3 g_4 bx_2 v1_0 v1_1 hn1 H locs hP hD hS ls hl
      refine lv_iload_n hx hb dX1_copyFrom_34 rfl (lv_at hl 0 rfl) ?_
      refine lv_bipush (v := 7) hx hb dX1_copyFrom_35 (by decide) ?_
      have k_7 : (7 : Int32).toInt = 7 := by decide
      refine lv_icmp_ge (tgt := 70) hx hb dX1_copyFrom_37 (by decide) (fun c_5 => ?_) (fun c_5 => ?_)
      · skip
        have c_5 : (7 : Int32).toInt ≤ x_2.toInt := i_le.mp c_5
        have hq1 : tkEL g_3 vkf1 7 := by have h9 := v1_0; rw [show x_2.toInt = 7 by omega] at h9; exact h9
        have hq5 : tkE g_4 vkf5 7 := by have h9 := v1_1; rw [show x_2.toInt = 7 by omega] at h9; exact h9
        refine lv_iconst (v := 0) hx hb dX1_copyFrom_70 (by decide) ?_
        refine lv_istore_n (lv' := [(2, .int 0), (0, .ref vc), (1, .ref vk)]) hx hb dX1_copyFrom_71 rfl hl (by decide) rfl (fun ls hl => ?_)
        have loop6 : ∀ (n6 : Nat) (x_7 : Int32) (g_8 : Nat → Int64) (g_9 : Nat → Int32) (g_10 : Nat → Int32), (0 ≤ x_7.toInt ∧ x_7.toInt ≤ 10) → Rg g_9 10 0 40 → (tkEL g_8 vkf2 x_7.toInt) → (tkE g_9 vkf3 x_7.toInt) → 10 - x_7.toInt < (n6 : Int) → ∀ (H : Heap) (locs : List Loc), va_P (dC, dI) vwCl [(vc, .inr (2, [.ref vc1, .ref vc2, .ref vc3, .ref vc4, .ref vc5, .int vkm, .int vkd, .int vkr, .int vkw])), (vc1, .inl (cy 1, 7, .inr (.inl g_3))), (vc2, .inl (cy 1, 10, .inr (.inl g_8))), (vc3, .inl (cy 0, 10, .inl g_9)), (vc4, .inl (cy 2, 10, .inl g_10)), (vc5, .inl (cy 0, 7, .inl g_4)), (vk, .inr (2, [.ref vk1, .ref vk2, .ref vk3, .ref vk4, .ref vk5, .int vkm, .int vkd, .int vkr, .int vkw])), (vk1, .inl (cy 1, 7, .inr (.inl vkf1))), (vk2, .inl (cy 1, 10, .inr (.inl vkf2))), (vk3, .inl (cy 0, 10, .inl vkf3)), (vk4, .inl (cy 2, 10, .inl vkf4)), (vk5, .inl (cy 0, 7, .inl vkf5))] H → va_D A [(vc, .inr (2, [.ref vc1, .ref vc2, .ref vc3, .ref vc4, .ref vc5, .int vkm, .int vkd, .int vkr, .int vkw])), (vc1, .inl (cy 1, 7, .inr (.inl g_3))), (vc2, .inl (cy 1, 10, .inr (.inl g_8))), (vc3, .inl (cy 0, 10, .inl g_9)), (vc4, .inl (cy 2, 10, .inl g_10)), (vc5, .inl (cy 0, 7, .inl g_4)), (vk, .inr (2, [.ref vk1, .ref vk2, .ref vk3, .ref vk4, .ref vk5, .int vkm, .int vkd, .int vkr, .int vkw])), (vk1, .inl (cy 1, 7, .inr (.inl vkf1))), (vk2, .inl (cy 1, 10, .inr (.inl vkf2))), (vk3, .inl (cy 0, 10, .inl vkf3)), (vk4, .inl (cy 2, 10, .inl vkf4)), (vk5, .inl (cy 0, 7, .inl vkf5))] → va_S A s.heap H locs → ∀ ls : Array Slot, lv_has ls 3 [(2, .int x_7), (0, .ref vc), (1, .ref vk)] → W p l e ({ frames := 1, cells := 0, slots := 0, locals := 64 }) s m av9 below meth c H locs 0 0 Q9 (F0 m 72 ls []) := by
          intro n6
          induction n6 with
          | zero =>
            intro x_7 g_8 g_9 g_10 bx_7 p_g_9 v6_0 v6_1 hn6 H locs hP hD hS ls hl
            exfalso; omega
          | succ n6 ih6 =>
            intro x_7 g_8 g_9 g_10 bx_7 p_g_9 v6_0 v6_1 hn6 H locs hP hD hS ls hl
            refine lv_iload_n hx hb dX1_copyFrom_72 rfl (lv_at hl 0 rfl) ?_
            refine lv_bipush (v := 10) hx hb dX1_copyFrom_73 (by decide) ?_
            have k_10 : (10 : Int32).toInt = 10 := by decide
            refine lv_icmp_ge (tgt := 120) hx hb dX1_copyFrom_75 (by decide) (fun c_11 => ?_) (fun c_11 => ?_)
            · skip
              have c_11 : (10 : Int32).toInt ≤ x_7.toInt := i_le.mp c_11
              have hq2 : tkEL g_8 vkf2 10 := by have h9 := v6_0; rw [show x_7.toInt = 10 by omega] at h9; exact h9
              have hq3 : tkE g_9 vkf3 10 := by have h9 := v6_1; rw [show x_7.toInt = 10 by omega] at h9; exact h9
              rw [hQ9]
              exact re_v (vkm, vkd, vkr, vkw, g_3, g_8, g_9, g_10, g_4) hx hb hr hlocks ⟨(show 0 ≤ (vkm : Int32).toInt ∧ (vkm : Int32).toInt ≤ 7 from ⟨by omega, by omega⟩), (show 0 ≤ (vkd : Int32).toInt ∧ (vkd : Int32).toInt ≤ 10 from ⟨by omega, by omega⟩), (show Rg g_9 10 0 40 from p_g_9), (show tkCC vkm vkd vkr vkw g_3 g_8 g_9 g_4 vkm vkd vkr vkw vkf1 vkf2 vkf3 vkf5 from ⟨rfl, rfl, rfl, rfl, hq1, hq2, hq3, hq5⟩)⟩ (hP.sub [0, 1, 2, 3, 4, 5, 6, 7, 8, 9, 10, 11] rfl) (hD.sub [0, 1, 2, 3, 4, 5, 6, 7, 8, 9, 10, 11] rfl rfl) hS dX1_copyFrom_120
            · skip
              have c_11 : ¬ ((10 : Int32).toInt ≤ x_7.toInt) := fun h9 => c_11 (i_le.mpr h9)
              refine lv_aload_n hx hb dX1_copyFrom_78 rfl (lv_at hl 1 rfl) ?_
              refine gf_X1_15 hx hb hts hown hK hP 0 rfl rfl dX1_copyFrom_79 ?_
              refine lv_iload_n hx hb dX1_copyFrom_82 rfl (lv_at hl 0 rfl) ?_
              refine lv_aload_n hx hb dX1_copyFrom_83 rfl (lv_at hl 2 rfl) ?_
              refine gf_X1_15 hx hb hts hown hK hP 6 rfl rfl dX1_copyFrom_84 ?_
              refine lv_iload_n hx hb dX1_copyFrom_87 rfl (lv_at hl 0 rfl) ?_
              have hin_12 : vp_in x_7 10 := vp_in_iff.mpr ⟨by omega, by omega⟩
              refine va_lald hx hb hK hP 8 1 rfl rfl hin_12 dX1_copyFrom_88 ?_
              refine lv_topl (fun y_13 ey_13 => ?_)
              have hin_14 : vp_in x_7 10 := vp_in_iff.mpr ⟨by omega, by omega⟩
              refine va_last hx hb hK hP hD hS 2 1 rfl rfl hin_14 dX1_copyFrom_89 (fun H locs hP hD hS => ?_)
              obtain ⟨f_15, ef_15⟩ : ∃ z : Nat → Int64, z = vp_updL g_8 (Int32.toNatClampNeg x_7) y_13 := ⟨_, rfl⟩
              have hP : va_P (dC, dI) vwCl [(vc, .inr (2, [.ref vc1, .ref vc2, .ref vc3, .ref vc4, .ref vc5, .int vkm, .int vkd, .int vkr, .int vkw])), (vc1, .inl (cy 1, 7, .inr (.inl g_3))), (vc2, .inl (cy 1, 10, .inr (.inl f_15))), (vc3, .inl (cy 0, 10, .inl g_9)), (vc4, .inl (cy 2, 10, .inl g_10)), (vc5, .inl (cy 0, 7, .inl g_4)), (vk, .inr (2, [.ref vk1, .ref vk2, .ref vk3, .ref vk4, .ref vk5, .int vkm, .int vkd, .int vkr, .int vkw])), (vk1, .inl (cy 1, 7, .inr (.inl vkf1))), (vk2, .inl (cy 1, 10, .inr (.inl vkf2))), (vk3, .inl (cy 0, 10, .inl vkf3)), (vk4, .inl (cy 2, 10, .inl vkf4)), (vk5, .inl (cy 0, 7, .inl vkf5))] H := by rw [ef_15]; exact hP
              have hD : va_D A [(vc, .inr (2, [.ref vc1, .ref vc2, .ref vc3, .ref vc4, .ref vc5, .int vkm, .int vkd, .int vkr, .int vkw])), (vc1, .inl (cy 1, 7, .inr (.inl g_3))), (vc2, .inl (cy 1, 10, .inr (.inl f_15))), (vc3, .inl (cy 0, 10, .inl g_9)), (vc4, .inl (cy 2, 10, .inl g_10)), (vc5, .inl (cy 0, 7, .inl g_4)), (vk, .inr (2, [.ref vk1, .ref vk2, .ref vk3, .ref vk4, .ref vk5, .int vkm, .int vkd, .int vkr, .int vkw])), (vk1, .inl (cy 1, 7, .inr (.inl vkf1))), (vk2, .inl (cy 1, 10, .inr (.inl vkf2))), (vk3, .inl (cy 0, 10, .inl vkf3)), (vk4, .inl (cy 2, 10, .inl vkf4)), (vk5, .inl (cy 0, 7, .inl vkf5))] := by rw [ef_15]; exact hD
              refine lv_aload_n hx hb dX1_copyFrom_90 rfl (lv_at hl 1 rfl) ?_
              refine gf_X1_18 hx hb hts hown hK hP 0 rfl rfl dX1_copyFrom_91 ?_
              refine lv_iload_n hx hb dX1_copyFrom_94 rfl (lv_at hl 0 rfl) ?_
              refine lv_aload_n hx hb dX1_copyFrom_95 rfl (lv_at hl 2 rfl) ?_
              refine gf_X1_18 hx hb hts hown hK hP 6 rfl rfl dX1_copyFrom_96 ?_
              refine lv_iload_n hx hb dX1_copyFrom_99 rfl (lv_at hl 0 rfl) ?_
              have hin_16 : vp_in x_7 10 := vp_in_iff.mpr ⟨by omega, by omega⟩
              refine va_iald hx hb hK hP 9 0 rfl rfl hin_16 dX1_copyFrom_100 ?_
              refine lv_topi (fun z_17 ez_17 => ?_)
              have bz_17 := p_vkf3.at hin_16 ez_17
              have hin_18 : vp_in x_7 10 := vp_in_iff.mpr ⟨by omega, by omega⟩
              refine va_iast hx hb hK hP hD hS 3 0 rfl rfl hin_18 dX1_copyFrom_101 (fun H locs hP hD hS => ?_)
              obtain ⟨f_19, ef_19⟩ : ∃ z : Nat → Int32, z = upd g_9 (Int32.toNatClampNeg x_7) z_17 := ⟨_, rfl⟩
              have hP : va_P (dC, dI) vwCl [(vc, .inr (2, [.ref vc1, .ref vc2, .ref vc3, .ref vc4, .ref vc5, .int vkm, .int vkd, .int vkr, .int vkw])), (vc1, .inl (cy 1, 7, .inr (.inl g_3))), (vc2, .inl (cy 1, 10, .inr (.inl f_15))), (vc3, .inl (cy 0, 10, .inl f_19)), (vc4, .inl (cy 2, 10, .inl g_10)), (vc5, .inl (cy 0, 7, .inl g_4)), (vk, .inr (2, [.ref vk1, .ref vk2, .ref vk3, .ref vk4, .ref vk5, .int vkm, .int vkd, .int vkr, .int vkw])), (vk1, .inl (cy 1, 7, .inr (.inl vkf1))), (vk2, .inl (cy 1, 10, .inr (.inl vkf2))), (vk3, .inl (cy 0, 10, .inl vkf3)), (vk4, .inl (cy 2, 10, .inl vkf4)), (vk5, .inl (cy 0, 7, .inl vkf5))] H := by rw [ef_19]; exact hP
              have hD : va_D A [(vc, .inr (2, [.ref vc1, .ref vc2, .ref vc3, .ref vc4, .ref vc5, .int vkm, .int vkd, .int vkr, .int vkw])), (vc1, .inl (cy 1, 7, .inr (.inl g_3))), (vc2, .inl (cy 1, 10, .inr (.inl f_15))), (vc3, .inl (cy 0, 10, .inl f_19)), (vc4, .inl (cy 2, 10, .inl g_10)), (vc5, .inl (cy 0, 7, .inl g_4)), (vk, .inr (2, [.ref vk1, .ref vk2, .ref vk3, .ref vk4, .ref vk5, .int vkm, .int vkd, .int vkr, .int vkw])), (vk1, .inl (cy 1, 7, .inr (.inl vkf1))), (vk2, .inl (cy 1, 10, .inr (.inl vkf2))), (vk3, .inl (cy 0, 10, .inl vkf3)), (vk4, .inl (cy 2, 10, .inl vkf4)), (vk5, .inl (cy 0, 7, .inl vkf5))] := by rw [ef_19]; exact hD
              have p_f_19 : Rg f_19 10 0 40 := by rw [ef_19]; exact p_g_9.upd ⟨by omega, by omega⟩
              refine lv_aload_n hx hb dX1_copyFrom_102 rfl (lv_at hl 1 rfl) ?_
              refine gf_X1_22 hx hb hts hown hK hP 0 rfl rfl dX1_copyFrom_103 ?_
              refine lv_iload_n hx hb dX1_copyFrom_106 rfl (lv_at hl 0 rfl) ?_
              refine lv_aload_n hx hb dX1_copyFrom_107 rfl (lv_at hl 2 rfl) ?_
              refine gf_X1_22 hx hb hts hown hK hP 6 rfl rfl dX1_copyFrom_108 ?_
              refine lv_iload_n hx hb dX1_copyFrom_111 rfl (lv_at hl 0 rfl) ?_
              have hin_20 : vp_in x_7 10 := vp_in_iff.mpr ⟨by omega, by omega⟩
              refine va_zald hx hb hK hP 10 2 rfl rfl hin_20 dX1_copyFrom_112 ?_
              refine lv_topi (fun z_21 ez_21 => ?_)
              have hin_22 : vp_in x_7 10 := vp_in_iff.mpr ⟨by omega, by omega⟩
              refine va_zast hx hb hK hP hD hS 4 2 rfl rfl hin_22 dX1_copyFrom_113 (fun H locs hP hD hS => ?_)
              obtain ⟨f_23, ef_23⟩ : ∃ z : Nat → Int32, z = upd g_10 (Int32.toNatClampNeg x_7) (vp_nar .boolean z_21) := ⟨_, rfl⟩
              have hP : va_P (dC, dI) vwCl [(vc, .inr (2, [.ref vc1, .ref vc2, .ref vc3, .ref vc4, .ref vc5, .int vkm, .int vkd, .int vkr, .int vkw])), (vc1, .inl (cy 1, 7, .inr (.inl g_3))), (vc2, .inl (cy 1, 10, .inr (.inl f_15))), (vc3, .inl (cy 0, 10, .inl f_19)), (vc4, .inl (cy 2, 10, .inl f_23)), (vc5, .inl (cy 0, 7, .inl g_4)), (vk, .inr (2, [.ref vk1, .ref vk2, .ref vk3, .ref vk4, .ref vk5, .int vkm, .int vkd, .int vkr, .int vkw])), (vk1, .inl (cy 1, 7, .inr (.inl vkf1))), (vk2, .inl (cy 1, 10, .inr (.inl vkf2))), (vk3, .inl (cy 0, 10, .inl vkf3)), (vk4, .inl (cy 2, 10, .inl vkf4)), (vk5, .inl (cy 0, 7, .inl vkf5))] H := by rw [ef_23]; exact hP
              have hD : va_D A [(vc, .inr (2, [.ref vc1, .ref vc2, .ref vc3, .ref vc4, .ref vc5, .int vkm, .int vkd, .int vkr, .int vkw])), (vc1, .inl (cy 1, 7, .inr (.inl g_3))), (vc2, .inl (cy 1, 10, .inr (.inl f_15))), (vc3, .inl (cy 0, 10, .inl f_19)), (vc4, .inl (cy 2, 10, .inl f_23)), (vc5, .inl (cy 0, 7, .inl g_4)), (vk, .inr (2, [.ref vk1, .ref vk2, .ref vk3, .ref vk4, .ref vk5, .int vkm, .int vkd, .int vkr, .int vkw])), (vk1, .inl (cy 1, 7, .inr (.inl vkf1))), (vk2, .inl (cy 1, 10, .inr (.inl vkf2))), (vk3, .inl (cy 0, 10, .inl vkf3)), (vk4, .inl (cy 2, 10, .inl vkf4)), (vk5, .inl (cy 0, 7, .inl vkf5))] := by rw [ef_23]; exact hD
              obtain ⟨z_24, ez_24⟩ : ∃ z : Int32, z = x_7 + 1 := ⟨_, rfl⟩
              have k_1 : (1 : Int32).toInt = 1 := by decide
              have bz_24 : z_24.toInt = x_7.toInt + (1 : Int32).toInt := i_add ez_24 (by omega) (by omega)
              refine lv_iinc (v := z_24) (lv' := [(2, .int z_24), (0, .ref vc), (1, .ref vk)]) hx hb dX1_copyFrom_114 hl (k := 0) rfl ez_24.symm (by decide) rfl (fun ls hl => ?_)
              refine lv_goto (tgt := 72) hx hb dX1_copyFrom_117 (by decide) ?_
              exact ih6 z_24 f_15 f_19 f_23 ⟨by omega, by omega⟩ p_f_19 (tkEL_s v6_0 (by omega) (by omega) ey_13 (by omega) ef_15) (tkE_s v6_1 (by omega) (by omega) ez_17 (by omega) ef_19) (by omega) _ _ (hP.sub [0, 1, 2, 3, 4, 5, 6, 7, 8, 9, 10, 11] rfl) (hD.sub [0, 1, 2, 3, 4, 5, 6, 7, 8, 9, 10, 11] rfl rfl) hS ls (lv_sub hl [0, 1, 2] rfl)
        have k_0 : (0 : Int32).toInt = 0 := by decide
        exact loop6 ((10 - (0 : Int32).toInt).toNat + 1) 0 vcf2 vcf3 vcf4 ⟨by omega, by omega⟩ p_vcf3 (tkEL_0 (by omega)) (tkE_0 (by omega)) (by omega) _ _ hP hD hS ls (lv_sub hl [0, 1, 2] rfl)
      · skip
        have c_5 : ¬ ((7 : Int32).toInt ≤ x_2.toInt) := fun h9 => c_5 (i_le.mpr h9)
        refine lv_aload_n hx hb dX1_copyFrom_40 rfl (lv_at hl 1 rfl) ?_
        refine gf_X1_9 hx hb hts hown hK hP 0 rfl rfl dX1_copyFrom_41 ?_
        refine lv_iload_n hx hb dX1_copyFrom_44 rfl (lv_at hl 0 rfl) ?_
        refine lv_aload_n hx hb dX1_copyFrom_45 rfl (lv_at hl 2 rfl) ?_
        refine gf_X1_9 hx hb hts hown hK hP 6 rfl rfl dX1_copyFrom_46 ?_
        refine lv_iload_n hx hb dX1_copyFrom_49 rfl (lv_at hl 0 rfl) ?_
        have hin_25 : vp_in x_2 7 := vp_in_iff.mpr ⟨by omega, by omega⟩
        refine va_lald hx hb hK hP 7 1 rfl rfl hin_25 dX1_copyFrom_50 ?_
        refine lv_topl (fun y_26 ey_26 => ?_)
        have hin_27 : vp_in x_2 7 := vp_in_iff.mpr ⟨by omega, by omega⟩
        refine va_last hx hb hK hP hD hS 1 1 rfl rfl hin_27 dX1_copyFrom_51 (fun H locs hP hD hS => ?_)
        obtain ⟨f_28, ef_28⟩ : ∃ z : Nat → Int64, z = vp_updL g_3 (Int32.toNatClampNeg x_2) y_26 := ⟨_, rfl⟩
        have hP : va_P (dC, dI) vwCl [(vc, .inr (2, [.ref vc1, .ref vc2, .ref vc3, .ref vc4, .ref vc5, .int vkm, .int vkd, .int vkr, .int vkw])), (vc1, .inl (cy 1, 7, .inr (.inl f_28))), (vc2, .inl (cy 1, 10, .inr (.inl vcf2))), (vc3, .inl (cy 0, 10, .inl vcf3)), (vc4, .inl (cy 2, 10, .inl vcf4)), (vc5, .inl (cy 0, 7, .inl g_4)), (vk, .inr (2, [.ref vk1, .ref vk2, .ref vk3, .ref vk4, .ref vk5, .int vkm, .int vkd, .int vkr, .int vkw])), (vk1, .inl (cy 1, 7, .inr (.inl vkf1))), (vk2, .inl (cy 1, 10, .inr (.inl vkf2))), (vk3, .inl (cy 0, 10, .inl vkf3)), (vk4, .inl (cy 2, 10, .inl vkf4)), (vk5, .inl (cy 0, 7, .inl vkf5))] H := by rw [ef_28]; exact hP
        have hD : va_D A [(vc, .inr (2, [.ref vc1, .ref vc2, .ref vc3, .ref vc4, .ref vc5, .int vkm, .int vkd, .int vkr, .int vkw])), (vc1, .inl (cy 1, 7, .inr (.inl f_28))), (vc2, .inl (cy 1, 10, .inr (.inl vcf2))), (vc3, .inl (cy 0, 10, .inl vcf3)), (vc4, .inl (cy 2, 10, .inl vcf4)), (vc5, .inl (cy 0, 7, .inl g_4)), (vk, .inr (2, [.ref vk1, .ref vk2, .ref vk3, .ref vk4, .ref vk5, .int vkm, .int vkd, .int vkr, .int vkw])), (vk1, .inl (cy 1, 7, .inr (.inl vkf1))), (vk2, .inl (cy 1, 10, .inr (.inl vkf2))), (vk3, .inl (cy 0, 10, .inl vkf3)), (vk4, .inl (cy 2, 10, .inl vkf4)), (vk5, .inl (cy 0, 7, .inl vkf5))] := by rw [ef_28]; exact hD
        refine lv_aload_n hx hb dX1_copyFrom_52 rfl (lv_at hl 1 rfl) ?_
        refine gf_X1_26 hx hb hts hown hK hP 0 rfl rfl dX1_copyFrom_53 ?_
        refine lv_iload_n hx hb dX1_copyFrom_56 rfl (lv_at hl 0 rfl) ?_
        refine lv_aload_n hx hb dX1_copyFrom_57 rfl (lv_at hl 2 rfl) ?_
        refine gf_X1_26 hx hb hts hown hK hP 6 rfl rfl dX1_copyFrom_58 ?_
        refine lv_iload_n hx hb dX1_copyFrom_61 rfl (lv_at hl 0 rfl) ?_
        have hin_29 : vp_in x_2 7 := vp_in_iff.mpr ⟨by omega, by omega⟩
        refine va_iald hx hb hK hP 11 0 rfl rfl hin_29 dX1_copyFrom_62 ?_
        refine lv_topi (fun z_30 ez_30 => ?_)
        have hin_31 : vp_in x_2 7 := vp_in_iff.mpr ⟨by omega, by omega⟩
        refine va_iast hx hb hK hP hD hS 5 0 rfl rfl hin_31 dX1_copyFrom_63 (fun H locs hP hD hS => ?_)
        obtain ⟨f_32, ef_32⟩ : ∃ z : Nat → Int32, z = upd g_4 (Int32.toNatClampNeg x_2) z_30 := ⟨_, rfl⟩
        have hP : va_P (dC, dI) vwCl [(vc, .inr (2, [.ref vc1, .ref vc2, .ref vc3, .ref vc4, .ref vc5, .int vkm, .int vkd, .int vkr, .int vkw])), (vc1, .inl (cy 1, 7, .inr (.inl f_28))), (vc2, .inl (cy 1, 10, .inr (.inl vcf2))), (vc3, .inl (cy 0, 10, .inl vcf3)), (vc4, .inl (cy 2, 10, .inl vcf4)), (vc5, .inl (cy 0, 7, .inl f_32)), (vk, .inr (2, [.ref vk1, .ref vk2, .ref vk3, .ref vk4, .ref vk5, .int vkm, .int vkd, .int vkr, .int vkw])), (vk1, .inl (cy 1, 7, .inr (.inl vkf1))), (vk2, .inl (cy 1, 10, .inr (.inl vkf2))), (vk3, .inl (cy 0, 10, .inl vkf3)), (vk4, .inl (cy 2, 10, .inl vkf4)), (vk5, .inl (cy 0, 7, .inl vkf5))] H := by rw [ef_32]; exact hP
        have hD : va_D A [(vc, .inr (2, [.ref vc1, .ref vc2, .ref vc3, .ref vc4, .ref vc5, .int vkm, .int vkd, .int vkr, .int vkw])), (vc1, .inl (cy 1, 7, .inr (.inl f_28))), (vc2, .inl (cy 1, 10, .inr (.inl vcf2))), (vc3, .inl (cy 0, 10, .inl vcf3)), (vc4, .inl (cy 2, 10, .inl vcf4)), (vc5, .inl (cy 0, 7, .inl f_32)), (vk, .inr (2, [.ref vk1, .ref vk2, .ref vk3, .ref vk4, .ref vk5, .int vkm, .int vkd, .int vkr, .int vkw])), (vk1, .inl (cy 1, 7, .inr (.inl vkf1))), (vk2, .inl (cy 1, 10, .inr (.inl vkf2))), (vk3, .inl (cy 0, 10, .inl vkf3)), (vk4, .inl (cy 2, 10, .inl vkf4)), (vk5, .inl (cy 0, 7, .inl vkf5))] := by rw [ef_32]; exact hD
        obtain ⟨z_33, ez_33⟩ : ∃ z : Int32, z = x_2 + 1 := ⟨_, rfl⟩
        have k_1 : (1 : Int32).toInt = 1 := by decide
        have bz_33 : z_33.toInt = x_2.toInt + (1 : Int32).toInt := i_add ez_33 (by omega) (by omega)
        refine lv_iinc (v := z_33) (lv' := [(2, .int z_33), (0, .ref vc), (1, .ref vk)]) hx hb dX1_copyFrom_64 hl (k := 0) rfl ez_33.symm (by decide) rfl (fun ls hl => ?_)
        refine lv_goto (tgt := 34) hx hb dX1_copyFrom_67 (by decide) ?_
        exact ih1 z_33 f_28 f_32 ⟨by omega, by omega⟩ (tkEL_s v1_0 (by omega) (by omega) ey_26 (by omega) ef_28) (tkE_s v1_1 (by omega) (by omega) ez_30 (by omega) ef_32) (by omega) _ _ (hP.sub [0, 1, 2, 3, 4, 5, 6, 7, 8, 9, 10, 11] rfl) (hD.sub [0, 1, 2, 3, 4, 5, 6, 7, 8, 9, 10, 11] rfl rfl) hS ls (lv_sub hl [0, 1, 2] rfl)
  have k_0 : (0 : Int32).toInt = 0 := by decide
  exact loop1 ((7 - (0 : Int32).toInt).toNat + 1) 0 vcf1 vcf5 ⟨by omega, by omega⟩ (tkEL_0 (by omega)) (tkE_0 (by omega)) (by omega) _ _ hP hD hS ls (lv_sub hl [0, 1, 2] rfl)
abbrev cX9_lendDeed : ByteArray := prog_11_method_13_code
def yX9_lendDeed : MethodName := ⟨RX9, "lendDeed", "(III)I"⟩
theorem t792 : Cond.code yX9_lendDeed cX9_lendDeed 4 (some .int) ∈ GW := gw_mem 906 (by decide +kernel) (by decide +kernel)
abbrev O_g_lendDeed (cy : Nat → ClassId) (vw : Nat) (vwc : Nat) (vwl : Nat) (vws : Nat) (vwc1 : Nat) (vwc2 : Nat) (vwc3 : Nat) (vwc4 : Nat) (vwc5 : Nat) (vwcm : Int32) (vwcd : Int32) (vwcr : Int32) (vwcw : Int32) (vwcf5 : Nat → Int32) (vwl1 : Nat) (vwl2 : Nat) (vwl3 : Nat) (vwl4 : Nat) (vwl5 : Nat) (vwl6 : Nat) (vwl7 : Nat) (vwl8 : Nat) (vwl9 : Nat) (vwl10 : Nat) (vwly : Int32) (vwlf2 : Nat → Int32) (vwlf4 : Nat → Int32) (vwlf5 : Nat → Int32) (vm : Int32) (vk : Int32) (vd : Int32) (u : (Nat → Int32) × (Nat → Int32)) : va_W := [(vw, .inr (10, [.ref vwc, .ref vwl, .ref vws])), (vwc, .inr (2, [.ref vwc1, .ref vwc2, .ref vwc3, .ref vwc4, .ref vwc5, .int vwcm, .int vwcd, .int vwcr, .int vwcw])), (vwc5, .inl (cy 0, 7, .inl vwcf5)), (vwl, .inr (5, [.ref vwl1, .ref vwl2, .ref vwl3, .ref vwl4, .ref vwl5, .ref vwl6, .ref vwl7, .ref vwl8, .ref vwl9, .ref vwl10, .int vwly])), (vwl2, .inl (cy 0, 70, .inl vwlf2)), (vwl4, .inl (cy 0, 7, .inl u.1)), (vwl5, .inl (cy 0, 7, .inl u.2))]
theorem dX9_lendDeed_0 : decode cX9_lendDeed 0 = .ok (.aload_n 0, 1) := by decide +kernel
theorem dX9_lendDeed_1 : decode cX9_lendDeed 1 = .ok (.getfield 12, 3) := by decide +kernel
theorem dX9_lendDeed_4 : decode cX9_lendDeed 4 = .ok (.iload_n 1, 1) := by decide +kernel
theorem dX9_lendDeed_5 : decode cX9_lendDeed 5 = .ok (.iload_n 2, 1) := by decide +kernel
theorem dX9_lendDeed_6 : decode cX9_lendDeed 6 = .ok (.invokevirtual 92, 3) := by decide +kernel
theorem t793 : Cond.methodLink RX9 92 yX1_areKin ∈ GW := gw_mem 907 (by decide +kernel) (by decide +kernel)
theorem cw_X9_92 {R : Room} {s : State} {args : Array Value} {rm : Room} {mc ms : Nat} (hts : ∀ w ∈ GW, w.before args s = true) (hrc : rm.cells = mc) (hrs : rm.slots = ms) (hR : rm.frames + 1 ≤ R.frames ∧ 8 + (3 + 11) + rm.locals ≤ R.locals) : CallW R s args RX9 RX1 92 yX1_areKin cX1_areKin 3 (some .boolean) (wl yX1_areKin cX1_areKin 3 (some .boolean)) rm mc ms 2 := cwV 2 hts (gi_V t793 t638 t639 t16 t640) rfl hrc hrs (by decide +kernel) hR
theorem dX9_lendDeed_9 : decode cX9_lendDeed 9 = .ok (.ifCond .ne 5, 3) := by decide +kernel
theorem dX9_lendDeed_12 : decode cX9_lendDeed 12 = .ok (.iconst 1, 1) := by decide +kernel
theorem dX9_lendDeed_13 : decode cX9_lendDeed 13 = .ok (.ireturn, 1) := by decide +kernel
theorem dX9_lendDeed_14 : decode cX9_lendDeed 14 = .ok (.aload_n 0, 1) := by decide +kernel
theorem dX9_lendDeed_15 : decode cX9_lendDeed 15 = .ok (.getfield 21, 3) := by decide +kernel
theorem dX9_lendDeed_18 : decode cX9_lendDeed 18 = .ok (.getfield 71, 3) := by decide +kernel
theorem dX9_lendDeed_21 : decode cX9_lendDeed 21 = .ok (.iload_n 1, 1) := by decide +kernel
theorem dX9_lendDeed_22 : decode cX9_lendDeed 22 = .ok (.iaload, 1) := by decide +kernel
theorem dX9_lendDeed_23 : decode cX9_lendDeed 23 = .ok (.iconst (-1), 1) := by decide +kernel
theorem dX9_lendDeed_24 : decode cX9_lendDeed 24 = .ok (.if_icmp .eq 5, 3) := by decide +kernel
theorem dX9_lendDeed_29 : decode cX9_lendDeed 29 = .ok (.aload_n 0, 1) := by decide +kernel
theorem dX9_lendDeed_30 : decode cX9_lendDeed 30 = .ok (.getfield 21, 3) := by decide +kernel
theorem dX9_lendDeed_33 : decode cX9_lendDeed 33 = .ok (.getfield 58, 3) := by decide +kernel
theorem dX9_lendDeed_36 : decode cX9_lendDeed 36 = .ok (.iload_n 1, 1) := by decide +kernel
theorem dX9_lendDeed_37 : decode cX9_lendDeed 37 = .ok (.bipush 10, 2) := by decide +kernel
theorem dX9_lendDeed_39 : decode cX9_lendDeed 39 = .ok (.imul, 1) := by decide +kernel
theorem dX9_lendDeed_40 : decode cX9_lendDeed 40 = .ok (.iload_n 3, 1) := by decide +kernel
theorem dX9_lendDeed_41 : decode cX9_lendDeed 41 = .ok (.iadd, 1) := by decide +kernel
theorem dX9_lendDeed_42 : decode cX9_lendDeed 42 = .ok (.iaload, 1) := by decide +kernel
theorem dX9_lendDeed_43 : decode cX9_lendDeed 43 = .ok (.ifCond .ne 5, 3) := by decide +kernel
theorem dX9_lendDeed_48 : decode cX9_lendDeed 48 = .ok (.aload_n 0, 1) := by decide +kernel
theorem dX9_lendDeed_49 : decode cX9_lendDeed 49 = .ok (.getfield 21, 3) := by decide +kernel
theorem dX9_lendDeed_52 : decode cX9_lendDeed 52 = .ok (.getfield 71, 3) := by decide +kernel
theorem dX9_lendDeed_55 : decode cX9_lendDeed 55 = .ok (.iload_n 1, 1) := by decide +kernel
theorem dX9_lendDeed_56 : decode cX9_lendDeed 56 = .ok (.iload_n 2, 1) := by decide +kernel
theorem dX9_lendDeed_57 : decode cX9_lendDeed 57 = .ok (.iastore, 1) := by decide +kernel
theorem dX9_lendDeed_58 : decode cX9_lendDeed 58 = .ok (.aload_n 0, 1) := by decide +kernel
theorem dX9_lendDeed_59 : decode cX9_lendDeed 59 = .ok (.getfield 21, 3) := by decide +kernel
theorem dX9_lendDeed_62 : decode cX9_lendDeed 62 = .ok (.getfield 68, 3) := by decide +kernel
theorem dX9_lendDeed_65 : decode cX9_lendDeed 65 = .ok (.iload_n 1, 1) := by decide +kernel
theorem dX9_lendDeed_66 : decode cX9_lendDeed 66 = .ok (.iload_n 3, 1) := by decide +kernel
theorem dX9_lendDeed_67 : decode cX9_lendDeed 67 = .ok (.iastore, 1) := by decide +kernel
theorem dX9_lendDeed_68 : decode cX9_lendDeed 68 = .ok (.iconst 0, 1) := by decide +kernel
theorem dX9_lendDeed_69 : decode cX9_lendDeed 69 = .ok (.ireturn, 1) := by decide +kernel
theorem dX9_lendDeed_46 : decode cX9_lendDeed 46 = .ok (.iconst 3, 1) := by decide +kernel
theorem dX9_lendDeed_47 : decode cX9_lendDeed 47 = .ok (.ireturn, 1) := by decide +kernel
theorem dX9_lendDeed_27 : decode cX9_lendDeed 27 = .ok (.iconst 2, 1) := by decide +kernel
theorem dX9_lendDeed_28 : decode cX9_lendDeed 28 = .ok (.ireturn, 1) := by decide +kernel
set_option maxHeartbeats 4000000 in
set_option maxRecDepth 100000 in
theorem g_lendDeed (l : Launch) (dC : Nat → ClassId) (dI : Nat → Nat → Nat) (cy : Nat → ClassId) (sz : Nat) (vw : Nat) (vwc : Nat) (vwl : Nat) (vws : Nat) (vwc1 : Nat) (vwc2 : Nat) (vwc3 : Nat) (vwc4 : Nat) (vwc5 : Nat) (vwcm : Int32) (vwcd : Int32) (vwcr : Int32) (vwcw : Int32) (vwcf5 : Nat → Int32) (vwl1 : Nat) (vwl2 : Nat) (vwl3 : Nat) (vwl4 : Nat) (vwl5 : Nat) (vwl6 : Nat) (vwl7 : Nat) (vwl8 : Nat) (vwl9 : Nat) (vwl10 : Nat) (vwly : Int32) (vwlf2 : Nat → Int32) (vwlf4 : Nat → Int32) (vwlf5 : Nat → Int32) (vm : Int32) (vk : Int32) (vd : Int32) (r_vwcm : 0 ≤ (vwcm : Int32).toInt ∧ (vwcm : Int32).toInt ≤ 7) (r_vwcd : 0 ≤ (vwcd : Int32).toInt ∧ (vwcd : Int32).toInt ≤ 10) (r_vm : 0 ≤ (vm : Int32).toInt ∧ (vm : Int32).toInt ≤ 6) (r_vd : 0 ≤ (vd : Int32).toInt ∧ (vd : Int32).toInt ≤ 9) (p_vwlf2 : Rg vwlf2 70 0 9) (p_vwlf5 : Rg vwlf5 7 (-1) 9) : Met l yX9_lendDeed (wl yX9_lendDeed cX9_lendDeed 4 (some .int)) ({ frames := 1, cells := 0, slots := 0, locals := 64 }) (Pw (dC, dI) vwCl cy [(vw, .inr (10, [.ref vwc, .ref vwl, .ref vws])), (vwc, .inr (2, [.ref vwc1, .ref vwc2, .ref vwc3, .ref vwc4, .ref vwc5, .int vwcm, .int vwcd, .int vwcr, .int vwcw])), (vwc5, .inl (cy 0, 7, .inl vwcf5)), (vwl, .inr (5, [.ref vwl1, .ref vwl2, .ref vwl3, .ref vwl4, .ref vwl5, .ref vwl6, .ref vwl7, .ref vwl8, .ref vwl9, .ref vwl10, .int vwly])), (vwl2, .inl (cy 0, 70, .inl vwlf2)), (vwl4, .inl (cy 0, 7, .inl vwlf4)), (vwl5, .inl (cy 0, 7, .inl vwlf5))] sz [.ref vw, .int vm, .int vk, .int vd] nE) (Qi (dC, dI) vwCl (fun (r : Int32) (u : (Nat → Int32) × (Nat → Int32)) => (0 ≤ (r : Int32).toInt ∧ (r : Int32).toInt ≤ 3) ∧ (Rg u.2 7 (-1) 9)) (O_g_lendDeed cy vw vwc vwl vws vwc1 vwc2 vwc3 vwc4 vwc5 vwcm vwcd vwcr vwcw vwcf5 vwl1 vwl2 vwl3 vwl4 vwl5 vwl6 vwl7 vwl8 vwl9 vwl10 vwly vwlf2 vwlf4 vwlf5 vm vk vd) (va_A [(vw, .inr (10, [.ref vwc, .ref vwl, .ref vws])), (vwc, .inr (2, [.ref vwc1, .ref vwc2, .ref vwc3, .ref vwc4, .ref vwc5, .int vwcm, .int vwcd, .int vwcr, .int vwcw])), (vwc5, .inl (cy 0, 7, .inl vwcf5)), (vwl, .inr (5, [.ref vwl1, .ref vwl2, .ref vwl3, .ref vwl4, .ref vwl5, .ref vwl6, .ref vwl7, .ref vwl8, .ref vwl9, .ref vwl10, .int vwly])), (vwl2, .inl (cy 0, 70, .inl vwlf2)), (vwl4, .inl (cy 0, 7, .inl vwlf4)), (vwl5, .inl (cy 0, 7, .inl vwlf5))] sz)) 0 0 (va_A [(vw, .inr (10, [.ref vwc, .ref vwl, .ref vws])), (vwc, .inr (2, [.ref vwc1, .ref vwc2, .ref vwc3, .ref vwc4, .ref vwc5, .int vwcm, .int vwcd, .int vwcr, .int vwcw])), (vwc5, .inl (cy 0, 7, .inl vwcf5)), (vwl, .inr (5, [.ref vwl1, .ref vwl2, .ref vwl3, .ref vwl4, .ref vwl5, .ref vwl6, .ref vwl7, .ref vwl8, .ref vwl9, .ref vwl10, .int vwly])), (vwl2, .inl (cy 0, 70, .inl vwlf2)), (vwl4, .inl (cy 0, 7, .inl vwlf4)), (vwl5, .inl (cy 0, 7, .inl vwlf5))] sz) := by
  refine mw (Qc := Qi (dC, dI) vwCl (fun (r : Int32) (u : (Nat → Int32) × (Nat → Int32)) => (0 ≤ (r : Int32).toInt ∧ (r : Int32).toInt ≤ 3) ∧ (Rg u.2 7 (-1) 9)) (O_g_lendDeed cy vw vwc vwl vws vwc1 vwc2 vwc3 vwc4 vwc5 vwcm vwcd vwcr vwcw vwcf5 vwl1 vwl2 vwl3 vwl4 vwl5 vwl6 vwl7 vwl8 vwl9 vwl10 vwly vwlf2 vwlf4 vwlf5 vm vk vd)) RX9 rfl (by decide +kernel) (Nat.le_of_ble_eq_true rfl) ?_
  intro p e s m below meth c A hx hb hr hlocks av9 hav hts hown hnm hml hK hP hD hA hS hE hAe Q9 hQ9 ls hl
  have hl : lv_has ls 4 [(0, .ref vw), (1, .int vm), (2, .int vk), (3, .int vd)] := hl
  refine lv_aload_n hx hb dX9_lendDeed_0 rfl (lv_at hl 0 rfl) ?_
  refine gf_X9_12 hx hb hts hown hK hP 0 rfl rfl dX9_lendDeed_1 ?_
  refine lv_iload_n hx hb dX9_lendDeed_4 rfl (lv_at hl 1 rfl) ?_
  refine lv_iload_n hx hb dX9_lendDeed_5 rfl (lv_at hl 2 rfl) ?_
  refine jr_i (rVr (As := [.int vm, .int vk]) (rest := []) (ci := 2) ⟨hx, hb, hml, hown, hts⟩ (g_areKin l dC dI cy vwc vwc1 vwc2 vwc3 vwc4 vwc5 vwcm vwcd vwcr vwcw vwcf5 vm vk r_vwcm r_vwcd r_vm) (cw_X9_92 hts rfl rfl ⟨Nat.le_of_ble_eq_true rfl, Nat.le_of_ble_eq_true rfl⟩) hP hK [1, 2] rfl rfl rfl rfl hl.1 rfl (Nat.le_of_ble_eq_true rfl) dX9_lendDeed_6 ⟨Nat.le_of_ble_eq_true rfl, Nat.le_of_ble_eq_true rfl⟩) hP hS (fun r_1 H locs hp_2 hP hS => ?_)
  have hp_2 : ((r_1 = 0) ∨ (r_1 = 1)) := hp_2
  have q_3 := hp_2
  rcases q_3 with aq_3 | aq_3
  · skip
    refine as_i 0 aq_3 ?_
    refine lv_if_ne (tgt := 14) hx hb dX9_lendDeed_9 (by decide) (fun c9 => absurd c9 (by decide)) (fun _ => ?_)
    refine lv_iconst (v := 1) hx hb dX9_lendDeed_12 (by decide) ?_
    have k_1 : (1 : Int32).toInt = 1 := by decide
    rw [hQ9]
    exact re_i (vwlf4, vwlf5) hx hb hr hlocks ⟨(show 0 ≤ ((1 : Int32) : Int32).toInt ∧ ((1 : Int32) : Int32).toInt ≤ 3 from ⟨by omega, by omega⟩), (show Rg vwlf5 7 (-1) 9 from p_vwlf5)⟩ (hP.sub [0, 1, 2, 3, 4, 5, 6] rfl) (hD.sub [0, 1, 2, 3, 4, 5, 6] rfl rfl) hS dX9_lendDeed_13
  · skip
    refine as_i 1 aq_3 ?_
    refine lv_if_ne (tgt := 14) hx hb dX9_lendDeed_9 (by decide) (fun _ => ?_) (fun c9 => absurd c9 (by decide))
    refine lv_aload_n hx hb dX9_lendDeed_14 rfl (lv_at hl 0 rfl) ?_
    refine gf_X9_21 hx hb hts hown hK hP 0 rfl rfl dX9_lendDeed_15 ?_
    refine gf_X9_71 hx hb hts hown hK hP 3 rfl rfl dX9_lendDeed_18 ?_
    refine lv_iload_n hx hb dX9_lendDeed_21 rfl (lv_at hl 1 rfl) ?_
    have hin_4 : vp_in vm 7 := vp_in_iff.mpr ⟨by omega, by omega⟩
    refine va_iald hx hb hK hP 5 0 rfl rfl hin_4 dX9_lendDeed_22 ?_
    refine lv_topi (fun z_5 ez_5 => ?_)
    refine lv_iconst (v := (-1)) hx hb dX9_lendDeed_23 (by decide) ?_
    have k_m1 : ((-1) : Int32).toInt = (-1) := by decide
    refine lv_icmp_eq (tgt := 29) hx hb dX9_lendDeed_24 (by decide) (fun c_6 => ?_) (fun c_6 => ?_)
    · skip
      have c_6 : z_5.toInt = ((-1) : Int32).toInt := i_eq.mp c_6
      refine lv_aload_n hx hb dX9_lendDeed_29 rfl (lv_at hl 0 rfl) ?_
      refine gf_X9_21 hx hb hts hown hK hP 0 rfl rfl dX9_lendDeed_30 ?_
      refine gf_X9_58 hx hb hts hown hK hP 3 rfl rfl dX9_lendDeed_33 ?_
      refine lv_iload_n hx hb dX9_lendDeed_36 rfl (lv_at hl 1 rfl) ?_
      refine lv_bipush (v := 10) hx hb dX9_lendDeed_37 (by decide) ?_
      refine lv_imul hx hb dX9_lendDeed_39 ?_
      refine lv_topi (fun z_7 ez_7 => ?_)
      have k_10 : (10 : Int32).toInt = 10 := by decide
      have bz_7 : z_7.toInt = vm.toInt * 10 := i_mulc k_10 ez_7 (by omega) (by omega)
      refine lv_iload_n hx hb dX9_lendDeed_40 rfl (lv_at hl 3 rfl) ?_
      refine lv_iadd hx hb dX9_lendDeed_41 ?_
      refine lv_topi (fun z_8 ez_8 => ?_)
      have bz_8 : z_8.toInt = z_7.toInt + vd.toInt := i_add ez_8 (by omega) (by omega)
      have hin_9 : vp_in z_8 70 := vp_in_iff.mpr ⟨by omega, by omega⟩
      refine va_iald hx hb hK hP 4 0 rfl rfl hin_9 dX9_lendDeed_42 ?_
      refine lv_topi (fun z_10 ez_10 => ?_)
      have bz_10 := p_vwlf2.at hin_9 ez_10
      have k_0 : (0 : Int32).toInt = 0 := by decide
      refine lv_if_ne (tgt := 48) hx hb dX9_lendDeed_43 (by decide) (fun c_11 => ?_) (fun c_11 => ?_)
      · skip
        have c_11 : ¬ (z_10.toInt = (0 : Int32).toInt) := fun h9 => c_11 (i_eq.mpr h9)
        refine lv_aload_n hx hb dX9_lendDeed_48 rfl (lv_at hl 0 rfl) ?_
        refine gf_X9_21 hx hb hts hown hK hP 0 rfl rfl dX9_lendDeed_49 ?_
        refine gf_X9_71 hx hb hts hown hK hP 3 rfl rfl dX9_lendDeed_52 ?_
        refine lv_iload_n hx hb dX9_lendDeed_55 rfl (lv_at hl 1 rfl) ?_
        refine lv_iload_n hx hb dX9_lendDeed_56 rfl (lv_at hl 2 rfl) ?_
        have hin_12 : vp_in vm 7 := vp_in_iff.mpr ⟨by omega, by omega⟩
        refine va_iast hx hb hK hP hD hS 5 0 rfl rfl hin_12 dX9_lendDeed_57 (fun H locs hP hD hS => ?_)
        obtain ⟨f_13, ef_13⟩ : ∃ z : Nat → Int32, z = upd vwlf4 (Int32.toNatClampNeg vm) vk := ⟨_, rfl⟩
        have hP : va_P (dC, dI) vwCl [(vw, .inr (10, [.ref vwc, .ref vwl, .ref vws])), (vwc, .inr (2, [.ref vwc1, .ref vwc2, .ref vwc3, .ref vwc4, .ref vwc5, .int vwcm, .int vwcd, .int vwcr, .int vwcw])), (vwc5, .inl (cy 0, 7, .inl vwcf5)), (vwl, .inr (5, [.ref vwl1, .ref vwl2, .ref vwl3, .ref vwl4, .ref vwl5, .ref vwl6, .ref vwl7, .ref vwl8, .ref vwl9, .ref vwl10, .int vwly])), (vwl2, .inl (cy 0, 70, .inl vwlf2)), (vwl4, .inl (cy 0, 7, .inl f_13)), (vwl5, .inl (cy 0, 7, .inl vwlf5))] H := by rw [ef_13]; exact hP
        have hD : va_D A [(vw, .inr (10, [.ref vwc, .ref vwl, .ref vws])), (vwc, .inr (2, [.ref vwc1, .ref vwc2, .ref vwc3, .ref vwc4, .ref vwc5, .int vwcm, .int vwcd, .int vwcr, .int vwcw])), (vwc5, .inl (cy 0, 7, .inl vwcf5)), (vwl, .inr (5, [.ref vwl1, .ref vwl2, .ref vwl3, .ref vwl4, .ref vwl5, .ref vwl6, .ref vwl7, .ref vwl8, .ref vwl9, .ref vwl10, .int vwly])), (vwl2, .inl (cy 0, 70, .inl vwlf2)), (vwl4, .inl (cy 0, 7, .inl f_13)), (vwl5, .inl (cy 0, 7, .inl vwlf5))] := by rw [ef_13]; exact hD
        refine lv_aload_n hx hb dX9_lendDeed_58 rfl (lv_at hl 0 rfl) ?_
        refine gf_X9_21 hx hb hts hown hK hP 0 rfl rfl dX9_lendDeed_59 ?_
        refine gf_X9_68 hx hb hts hown hK hP 3 rfl rfl dX9_lendDeed_62 ?_
        refine lv_iload_n hx hb dX9_lendDeed_65 rfl (lv_at hl 1 rfl) ?_
        refine lv_iload_n hx hb dX9_lendDeed_66 rfl (lv_at hl 3 rfl) ?_
        have hin_14 : vp_in vm 7 := vp_in_iff.mpr ⟨by omega, by omega⟩
        refine va_iast hx hb hK hP hD hS 6 0 rfl rfl hin_14 dX9_lendDeed_67 (fun H locs hP hD hS => ?_)
        obtain ⟨f_15, ef_15⟩ : ∃ z : Nat → Int32, z = upd vwlf5 (Int32.toNatClampNeg vm) vd := ⟨_, rfl⟩
        have hP : va_P (dC, dI) vwCl [(vw, .inr (10, [.ref vwc, .ref vwl, .ref vws])), (vwc, .inr (2, [.ref vwc1, .ref vwc2, .ref vwc3, .ref vwc4, .ref vwc5, .int vwcm, .int vwcd, .int vwcr, .int vwcw])), (vwc5, .inl (cy 0, 7, .inl vwcf5)), (vwl, .inr (5, [.ref vwl1, .ref vwl2, .ref vwl3, .ref vwl4, .ref vwl5, .ref vwl6, .ref vwl7, .ref vwl8, .ref vwl9, .ref vwl10, .int vwly])), (vwl2, .inl (cy 0, 70, .inl vwlf2)), (vwl4, .inl (cy 0, 7, .inl f_13)), (vwl5, .inl (cy 0, 7, .inl f_15))] H := by rw [ef_15]; exact hP
        have hD : va_D A [(vw, .inr (10, [.ref vwc, .ref vwl, .ref vws])), (vwc, .inr (2, [.ref vwc1, .ref vwc2, .ref vwc3, .ref vwc4, .ref vwc5, .int vwcm, .int vwcd, .int vwcr, .int vwcw])), (vwc5, .inl (cy 0, 7, .inl vwcf5)), (vwl, .inr (5, [.ref vwl1, .ref vwl2, .ref vwl3, .ref vwl4, .ref vwl5, .ref vwl6, .ref vwl7, .ref vwl8, .ref vwl9, .ref vwl10, .int vwly])), (vwl2, .inl (cy 0, 70, .inl vwlf2)), (vwl4, .inl (cy 0, 7, .inl f_13)), (vwl5, .inl (cy 0, 7, .inl f_15))] := by rw [ef_15]; exact hD
        have p_f_15 : Rg f_15 7 (-1) 9 := by rw [ef_15]; exact p_vwlf5.upd ⟨by omega, by omega⟩
        refine lv_iconst (v := 0) hx hb dX9_lendDeed_68 (by decide) ?_
        rw [hQ9]
        exact re_i (f_13, f_15) hx hb hr hlocks ⟨(show 0 ≤ ((0 : Int32) : Int32).toInt ∧ ((0 : Int32) : Int32).toInt ≤ 3 from ⟨by omega, by omega⟩), (show Rg f_15 7 (-1) 9 from p_f_15)⟩ (hP.sub [0, 1, 2, 3, 4, 5, 6] rfl) (hD.sub [0, 1, 2, 3, 4, 5, 6] rfl rfl) hS dX9_lendDeed_69
      · skip
        have c_11 : z_10.toInt = (0 : Int32).toInt := i_eq.mp c_11
        refine lv_iconst (v := 3) hx hb dX9_lendDeed_46 (by decide) ?_
        have k_3 : (3 : Int32).toInt = 3 := by decide
        rw [hQ9]
        exact re_i (vwlf4, vwlf5) hx hb hr hlocks ⟨(show 0 ≤ ((3 : Int32) : Int32).toInt ∧ ((3 : Int32) : Int32).toInt ≤ 3 from ⟨by omega, by omega⟩), (show Rg vwlf5 7 (-1) 9 from p_vwlf5)⟩ (hP.sub [0, 1, 2, 3, 4, 5, 6] rfl) (hD.sub [0, 1, 2, 3, 4, 5, 6] rfl rfl) hS dX9_lendDeed_47
    · skip
      have c_6 : ¬ (z_5.toInt = ((-1) : Int32).toInt) := fun h9 => c_6 (i_eq.mpr h9)
      refine lv_iconst (v := 2) hx hb dX9_lendDeed_27 (by decide) ?_
      have k_2 : (2 : Int32).toInt = 2 := by decide
      rw [hQ9]
      exact re_i (vwlf4, vwlf5) hx hb hr hlocks ⟨(show 0 ≤ ((2 : Int32) : Int32).toInt ∧ ((2 : Int32) : Int32).toInt ≤ 3 from ⟨by omega, by omega⟩), (show Rg vwlf5 7 (-1) 9 from p_vwlf5)⟩ (hP.sub [0, 1, 2, 3, 4, 5, 6] rfl) (hD.sub [0, 1, 2, 3, 4, 5, 6] rfl rfl) hS dX9_lendDeed_28
abbrev cX9_sitDown : ByteArray := prog_11_method_14_code
def yX9_sitDown : MethodName := ⟨RX9, "sitDown", "(I)I"⟩
theorem t828 : Cond.code yX9_sitDown cX9_sitDown 3 (some .int) ∈ GW := gw_mem 942 (by decide +kernel) (by decide +kernel)
abbrev O_g_sitDown (cy : Nat → ClassId) (vw : Nat) (vwc : Nat) (vwl : Nat) (vws : Nat) (vwc1 : Nat) (vwc2 : Nat) (vwc3 : Nat) (vwc4 : Nat) (vwc5 : Nat) (vwcm : Int32) (vwcd : Int32) (vwcr : Int32) (vwcw : Int32) (vwcf3 : Nat → Int32) (vwcf4 : Nat → Int32) (vwl1 : Nat) (vwl2 : Nat) (vwl3 : Nat) (vwl4 : Nat) (vwl5 : Nat) (vwl6 : Nat) (vwl7 : Nat) (vwl8 : Nat) (vwl9 : Nat) (vwl10 : Nat) (vwly : Int32) (vwlf1 : Nat → Int32) (vwlf2 : Nat → Int32) (vwlf3 : Nat → Int32) (vwlf4 : Nat → Int32) (vwlf5 : Nat → Int32) (vwlf6 : Nat → Int32) (vwlf7 : Nat → Int32) (vwlf8 : Nat → Int32) (vwlf9 : Nat → Int32) (vwlf10 : Nat → Int32) (vm : Int32) (u : (Nat → Int32) × (Nat → Int32) × (Nat → Int32) × (Nat → Int32) × (Nat → Int32)) : va_W := [(vw, .inr (10, [.ref vwc, .ref vwl, .ref vws])), (vwc, .inr (2, [.ref vwc1, .ref vwc2, .ref vwc3, .ref vwc4, .ref vwc5, .int vwcm, .int vwcd, .int vwcr, .int vwcw])), (vwc3, .inl (cy 0, 10, .inl vwcf3)), (vwc4, .inl (cy 2, 10, .inl vwcf4)), (vwl, .inr (5, [.ref vwl1, .ref vwl2, .ref vwl3, .ref vwl4, .ref vwl5, .ref vwl6, .ref vwl7, .ref vwl8, .ref vwl9, .ref vwl10, .int vwly])), (vwl1, .inl (cy 0, 7, .inl vwlf1)), (vwl2, .inl (cy 0, 70, .inl vwlf2)), (vwl3, .inl (cy 0, 49, .inl vwlf3)), (vwl4, .inl (cy 0, 7, .inl vwlf4)), (vwl5, .inl (cy 0, 7, .inl vwlf5)), (vwl6, .inl (cy 0, 7, .inl u.1)), (vwl7, .inl (cy 0, 7, .inl u.2.1)), (vwl8, .inl (cy 0, 7, .inl u.2.2.1)), (vwl9, .inl (cy 0, 7, .inl u.2.2.2.1)), (vwl10, .inl (cy 0, 7, .inl u.2.2.2.2))]
theorem dX9_sitDown_0 : decode cX9_sitDown 0 = .ok (.aload_n 0, 1) := by decide +kernel
theorem dX9_sitDown_1 : decode cX9_sitDown 1 = .ok (.getfield 21, 3) := by decide +kernel
theorem dX9_sitDown_4 : decode cX9_sitDown 4 = .ok (.getfield 96, 3) := by decide +kernel
theorem t231 : Cond.fieldLink RX9 96 "LikenessPound$Life" "age" "[I" ∈ GW := gw_mem 345 (by decide +kernel) (by decide +kernel)
theorem gf_X9_96 {p : Program} {l : Launch} {e : Env} {R : Room} {s : State} {m : MethodId} {args : Array Value} {below : List Frame} {meth : Method} {c : Code} {H : Heap} {locs : List Loc} {cells slots : Nat} {Q : State → Prop} {cc : ByteArray} {pc : Nat} {ls : Array Slot} {rest : List Value} {D : va_G} {a : Nat} {tys : List (ClassId × FieldType)} {ws : va_W} (hx : p.tables.exec = Jvm.exec) (hb : c.code = cc) (hts : ∀ w ∈ GW, w.before args s = true) (hown : s.vm.findClass RX9 = some m.cls) (hK : va_K D vwCl tys s) (hP : va_P D vwCl ws H) (q0 : Nat) {fs : List Value} (he : ws[q0]? = some (a, .inr (5, fs))) {v : Value} (hv : fs[0]? = some v) (hdg : decode cc pc = .ok (.getfield 96, 3)) (kk : W p l e R s m args below meth c H locs cells slots Q (F0 m (pc + 3) ls (v :: rest))) : W p l e R s m args below meth c H locs cells slots Q (F0 m pc ls (.ref a :: rest)) := va_get (C := RX4) (T := TX4) (N := 11) (ci := 5) hx hb hts inX4 hown hK hP q0 he rfl 0 (by decide) (hts _ t231) (fun _ h => h) hv hdg kk
theorem dX9_sitDown_7 : decode cX9_sitDown 7 = .ok (.iload_n 1, 1) := by decide +kernel
theorem dX9_sitDown_8 : decode cX9_sitDown 8 = .ok (.iaload, 1) := by decide +kernel
theorem dX9_sitDown_9 : decode cX9_sitDown 9 = .ok (.bipush 60, 2) := by decide +kernel
theorem dX9_sitDown_11 : decode cX9_sitDown 11 = .ok (.if_icmp .lt 21, 3) := by decide +kernel
theorem dX9_sitDown_32 : decode cX9_sitDown 32 = .ok (.iconst 0, 1) := by decide +kernel
theorem dX9_sitDown_33 : decode cX9_sitDown 33 = .ok (.istore_n 2, 1) := by decide +kernel
theorem dX9_sitDown_34 : decode cX9_sitDown 34 = .ok (.aload_n 0, 1) := by decide +kernel
theorem dX9_sitDown_35 : decode cX9_sitDown 35 = .ok (.getfield 21, 3) := by decide +kernel
theorem dX9_sitDown_38 : decode cX9_sitDown 38 = .ok (.getfield 102, 3) := by decide +kernel
theorem t252 : Cond.fieldLink RX9 102 "LikenessPound$Life" "sat" "[I" ∈ GW := gw_mem 366 (by decide +kernel) (by decide +kernel)
theorem gf_X9_102 {p : Program} {l : Launch} {e : Env} {R : Room} {s : State} {m : MethodId} {args : Array Value} {below : List Frame} {meth : Method} {c : Code} {H : Heap} {locs : List Loc} {cells slots : Nat} {Q : State → Prop} {cc : ByteArray} {pc : Nat} {ls : Array Slot} {rest : List Value} {D : va_G} {a : Nat} {tys : List (ClassId × FieldType)} {ws : va_W} (hx : p.tables.exec = Jvm.exec) (hb : c.code = cc) (hts : ∀ w ∈ GW, w.before args s = true) (hown : s.vm.findClass RX9 = some m.cls) (hK : va_K D vwCl tys s) (hP : va_P D vwCl ws H) (q0 : Nat) {fs : List Value} (he : ws[q0]? = some (a, .inr (5, fs))) {v : Value} (hv : fs[5]? = some v) (hdg : decode cc pc = .ok (.getfield 102, 3)) (kk : W p l e R s m args below meth c H locs cells slots Q (F0 m (pc + 3) ls (v :: rest))) : W p l e R s m args below meth c H locs cells slots Q (F0 m pc ls (.ref a :: rest)) := va_get (C := RX4) (T := TX4) (N := 11) (ci := 5) hx hb hts inX4 hown hK hP q0 he rfl 5 (by decide) (hts _ t252) (fun _ h => h) hv hdg kk
theorem dX9_sitDown_41 : decode cX9_sitDown 41 = .ok (.iload_n 1, 1) := by decide +kernel
theorem dX9_sitDown_42 : decode cX9_sitDown 42 = .ok (.iaload, 1) := by decide +kernel
theorem dX9_sitDown_43 : decode cX9_sitDown 43 = .ok (.ifCond .le 9, 3) := by decide +kernel
theorem dX9_sitDown_52 : decode cX9_sitDown 52 = .ok (.aload_n 0, 1) := by decide +kernel
theorem dX9_sitDown_53 : decode cX9_sitDown 53 = .ok (.getfield 21, 3) := by decide +kernel
theorem dX9_sitDown_56 : decode cX9_sitDown 56 = .ok (.getfield 102, 3) := by decide +kernel
theorem dX9_sitDown_59 : decode cX9_sitDown 59 = .ok (.iload_n 1, 1) := by decide +kernel
theorem dX9_sitDown_60 : decode cX9_sitDown 60 = .ok (.dup2, 1) := by decide +kernel
theorem dX9_sitDown_61 : decode cX9_sitDown 61 = .ok (.iaload, 1) := by decide +kernel
theorem dX9_sitDown_62 : decode cX9_sitDown 62 = .ok (.iconst 1, 1) := by decide +kernel
theorem dX9_sitDown_63 : decode cX9_sitDown 63 = .ok (.iadd, 1) := by decide +kernel
theorem dX9_sitDown_64 : decode cX9_sitDown 64 = .ok (.iastore, 1) := by decide +kernel
theorem dX9_sitDown_65 : decode cX9_sitDown 65 = .ok (.aload_n 0, 1) := by decide +kernel
theorem dX9_sitDown_66 : decode cX9_sitDown 66 = .ok (.getfield 21, 3) := by decide +kernel
theorem dX9_sitDown_69 : decode cX9_sitDown 69 = .ok (.getfield 105, 3) := by decide +kernel
theorem t256 : Cond.fieldLink RX9 105 "LikenessPound$Life" "keptWhite" "[I" ∈ GW := gw_mem 370 (by decide +kernel) (by decide +kernel)
theorem gf_X9_105 {p : Program} {l : Launch} {e : Env} {R : Room} {s : State} {m : MethodId} {args : Array Value} {below : List Frame} {meth : Method} {c : Code} {H : Heap} {locs : List Loc} {cells slots : Nat} {Q : State → Prop} {cc : ByteArray} {pc : Nat} {ls : Array Slot} {rest : List Value} {D : va_G} {a : Nat} {tys : List (ClassId × FieldType)} {ws : va_W} (hx : p.tables.exec = Jvm.exec) (hb : c.code = cc) (hts : ∀ w ∈ GW, w.before args s = true) (hown : s.vm.findClass RX9 = some m.cls) (hK : va_K D vwCl tys s) (hP : va_P D vwCl ws H) (q0 : Nat) {fs : List Value} (he : ws[q0]? = some (a, .inr (5, fs))) {v : Value} (hv : fs[6]? = some v) (hdg : decode cc pc = .ok (.getfield 105, 3)) (kk : W p l e R s m args below meth c H locs cells slots Q (F0 m (pc + 3) ls (v :: rest))) : W p l e R s m args below meth c H locs cells slots Q (F0 m pc ls (.ref a :: rest)) := va_get (C := RX4) (T := TX4) (N := 11) (ci := 5) hx hb hts inX4 hown hK hP q0 he rfl 6 (by decide) (hts _ t256) (fun _ h => h) hv hdg kk
theorem dX9_sitDown_72 : decode cX9_sitDown 72 = .ok (.iload_n 1, 1) := by decide +kernel
theorem dX9_sitDown_73 : decode cX9_sitDown 73 = .ok (.aload_n 0, 1) := by decide +kernel
theorem dX9_sitDown_74 : decode cX9_sitDown 74 = .ok (.iload_n 1, 1) := by decide +kernel
theorem dX9_sitDown_75 : decode cX9_sitDown 75 = .ok (.invokevirtual 86, 3) := by decide +kernel
theorem dX9_sitDown_78 : decode cX9_sitDown 78 = .ok (.iastore, 1) := by decide +kernel
theorem dX9_sitDown_79 : decode cX9_sitDown 79 = .ok (.aload_n 0, 1) := by decide +kernel
theorem dX9_sitDown_80 : decode cX9_sitDown 80 = .ok (.getfield 21, 3) := by decide +kernel
theorem dX9_sitDown_83 : decode cX9_sitDown 83 = .ok (.getfield 108, 3) := by decide +kernel
theorem t259 : Cond.fieldLink RX9 108 "LikenessPound$Life" "keptDark" "[I" ∈ GW := gw_mem 373 (by decide +kernel) (by decide +kernel)
theorem gf_X9_108 {p : Program} {l : Launch} {e : Env} {R : Room} {s : State} {m : MethodId} {args : Array Value} {below : List Frame} {meth : Method} {c : Code} {H : Heap} {locs : List Loc} {cells slots : Nat} {Q : State → Prop} {cc : ByteArray} {pc : Nat} {ls : Array Slot} {rest : List Value} {D : va_G} {a : Nat} {tys : List (ClassId × FieldType)} {ws : va_W} (hx : p.tables.exec = Jvm.exec) (hb : c.code = cc) (hts : ∀ w ∈ GW, w.before args s = true) (hown : s.vm.findClass RX9 = some m.cls) (hK : va_K D vwCl tys s) (hP : va_P D vwCl ws H) (q0 : Nat) {fs : List Value} (he : ws[q0]? = some (a, .inr (5, fs))) {v : Value} (hv : fs[7]? = some v) (hdg : decode cc pc = .ok (.getfield 108, 3)) (kk : W p l e R s m args below meth c H locs cells slots Q (F0 m (pc + 3) ls (v :: rest))) : W p l e R s m args below meth c H locs cells slots Q (F0 m pc ls (.ref a :: rest)) := va_get (C := RX4) (T := TX4) (N := 11) (ci := 5) hx hb hts inX4 hown hK hP q0 he rfl 7 (by decide) (hts _ t259) (fun _ h => h) hv hdg kk
theorem dX9_sitDown_86 : decode cX9_sitDown 86 = .ok (.iload_n 1, 1) := by decide +kernel
theorem dX9_sitDown_87 : decode cX9_sitDown 87 = .ok (.aload_n 0, 1) := by decide +kernel
theorem dX9_sitDown_88 : decode cX9_sitDown 88 = .ok (.iload_n 1, 1) := by decide +kernel
theorem dX9_sitDown_89 : decode cX9_sitDown 89 = .ok (.invokevirtual 89, 3) := by decide +kernel
theorem dX9_sitDown_92 : decode cX9_sitDown 92 = .ok (.iastore, 1) := by decide +kernel
theorem dX9_sitDown_93 : decode cX9_sitDown 93 = .ok (.aload_n 0, 1) := by decide +kernel
theorem dX9_sitDown_94 : decode cX9_sitDown 94 = .ok (.getfield 21, 3) := by decide +kernel
theorem dX9_sitDown_97 : decode cX9_sitDown 97 = .ok (.getfield 111, 3) := by decide +kernel
theorem t262 : Cond.fieldLink RX9 111 "LikenessPound$Life" "keptYear" "[I" ∈ GW := gw_mem 376 (by decide +kernel) (by decide +kernel)
theorem gf_X9_111 {p : Program} {l : Launch} {e : Env} {R : Room} {s : State} {m : MethodId} {args : Array Value} {below : List Frame} {meth : Method} {c : Code} {H : Heap} {locs : List Loc} {cells slots : Nat} {Q : State → Prop} {cc : ByteArray} {pc : Nat} {ls : Array Slot} {rest : List Value} {D : va_G} {a : Nat} {tys : List (ClassId × FieldType)} {ws : va_W} (hx : p.tables.exec = Jvm.exec) (hb : c.code = cc) (hts : ∀ w ∈ GW, w.before args s = true) (hown : s.vm.findClass RX9 = some m.cls) (hK : va_K D vwCl tys s) (hP : va_P D vwCl ws H) (q0 : Nat) {fs : List Value} (he : ws[q0]? = some (a, .inr (5, fs))) {v : Value} (hv : fs[8]? = some v) (hdg : decode cc pc = .ok (.getfield 111, 3)) (kk : W p l e R s m args below meth c H locs cells slots Q (F0 m (pc + 3) ls (v :: rest))) : W p l e R s m args below meth c H locs cells slots Q (F0 m pc ls (.ref a :: rest)) := va_get (C := RX4) (T := TX4) (N := 11) (ci := 5) hx hb hts inX4 hown hK hP q0 he rfl 8 (by decide) (hts _ t262) (fun _ h => h) hv hdg kk
theorem dX9_sitDown_100 : decode cX9_sitDown 100 = .ok (.iload_n 1, 1) := by decide +kernel
theorem dX9_sitDown_101 : decode cX9_sitDown 101 = .ok (.aload_n 0, 1) := by decide +kernel
theorem dX9_sitDown_102 : decode cX9_sitDown 102 = .ok (.getfield 21, 3) := by decide +kernel
theorem dX9_sitDown_105 : decode cX9_sitDown 105 = .ok (.getfield 114, 3) := by decide +kernel
theorem t269 : Cond.fieldLink RX9 114 "LikenessPound$Life" "year" "I" ∈ GW := gw_mem 383 (by decide +kernel) (by decide +kernel)
theorem gf_X9_114 {p : Program} {l : Launch} {e : Env} {R : Room} {s : State} {m : MethodId} {args : Array Value} {below : List Frame} {meth : Method} {c : Code} {H : Heap} {locs : List Loc} {cells slots : Nat} {Q : State → Prop} {cc : ByteArray} {pc : Nat} {ls : Array Slot} {rest : List Value} {D : va_G} {a : Nat} {tys : List (ClassId × FieldType)} {ws : va_W} (hx : p.tables.exec = Jvm.exec) (hb : c.code = cc) (hts : ∀ w ∈ GW, w.before args s = true) (hown : s.vm.findClass RX9 = some m.cls) (hK : va_K D vwCl tys s) (hP : va_P D vwCl ws H) (q0 : Nat) {fs : List Value} (he : ws[q0]? = some (a, .inr (5, fs))) {v : Value} (hv : fs[10]? = some v) (hdg : decode cc pc = .ok (.getfield 114, 3)) (kk : W p l e R s m args below meth c H locs cells slots Q (F0 m (pc + 3) ls (v :: rest))) : W p l e R s m args below meth c H locs cells slots Q (F0 m pc ls (.ref a :: rest)) := va_get (C := RX4) (T := TX4) (N := 11) (ci := 5) hx hb hts inX4 hown hK hP q0 he rfl 10 (by decide) (hts _ t269) (fun _ h => h) hv hdg kk
theorem dX9_sitDown_108 : decode cX9_sitDown 108 = .ok (.iastore, 1) := by decide +kernel
theorem dX9_sitDown_109 : decode cX9_sitDown 109 = .ok (.aload_n 0, 1) := by decide +kernel
theorem dX9_sitDown_110 : decode cX9_sitDown 110 = .ok (.getfield 21, 3) := by decide +kernel
theorem dX9_sitDown_113 : decode cX9_sitDown 113 = .ok (.getfield 99, 3) := by decide +kernel
theorem t265 : Cond.fieldLink RX9 99 "LikenessPound$Life" "keptAge" "[I" ∈ GW := gw_mem 379 (by decide +kernel) (by decide +kernel)
theorem gf_X9_99 {p : Program} {l : Launch} {e : Env} {R : Room} {s : State} {m : MethodId} {args : Array Value} {below : List Frame} {meth : Method} {c : Code} {H : Heap} {locs : List Loc} {cells slots : Nat} {Q : State → Prop} {cc : ByteArray} {pc : Nat} {ls : Array Slot} {rest : List Value} {D : va_G} {a : Nat} {tys : List (ClassId × FieldType)} {ws : va_W} (hx : p.tables.exec = Jvm.exec) (hb : c.code = cc) (hts : ∀ w ∈ GW, w.before args s = true) (hown : s.vm.findClass RX9 = some m.cls) (hK : va_K D vwCl tys s) (hP : va_P D vwCl ws H) (q0 : Nat) {fs : List Value} (he : ws[q0]? = some (a, .inr (5, fs))) {v : Value} (hv : fs[9]? = some v) (hdg : decode cc pc = .ok (.getfield 99, 3)) (kk : W p l e R s m args below meth c H locs cells slots Q (F0 m (pc + 3) ls (v :: rest))) : W p l e R s m args below meth c H locs cells slots Q (F0 m pc ls (.ref a :: rest)) := va_get (C := RX4) (T := TX4) (N := 11) (ci := 5) hx hb hts inX4 hown hK hP q0 he rfl 9 (by decide) (hts _ t265) (fun _ h => h) hv hdg kk
theorem dX9_sitDown_116 : decode cX9_sitDown 116 = .ok (.iload_n 1, 1) := by decide +kernel
theorem dX9_sitDown_117 : decode cX9_sitDown 117 = .ok (.aload_n 0, 1) := by decide +kernel
theorem dX9_sitDown_118 : decode cX9_sitDown 118 = .ok (.getfield 21, 3) := by decide +kernel
theorem dX9_sitDown_121 : decode cX9_sitDown 121 = .ok (.getfield 96, 3) := by decide +kernel
theorem dX9_sitDown_124 : decode cX9_sitDown 124 = .ok (.iload_n 1, 1) := by decide +kernel
theorem dX9_sitDown_125 : decode cX9_sitDown 125 = .ok (.iaload, 1) := by decide +kernel
theorem dX9_sitDown_126 : decode cX9_sitDown 126 = .ok (.iastore, 1) := by decide +kernel
theorem dX9_sitDown_127 : decode cX9_sitDown 127 = .ok (.iconst 0, 1) := by decide +kernel
theorem dX9_sitDown_128 : decode cX9_sitDown 128 = .ok (.ireturn, 1) := by decide +kernel
theorem dX9_sitDown_46 : decode cX9_sitDown 46 = .ok (.iload_n 2, 1) := by decide +kernel
theorem dX9_sitDown_47 : decode cX9_sitDown 47 = .ok (.ifCond .ne 5, 3) := by decide +kernel
theorem dX9_sitDown_50 : decode cX9_sitDown 50 = .ok (.iconst 1, 1) := by decide +kernel
theorem dX9_sitDown_51 : decode cX9_sitDown 51 = .ok (.ireturn, 1) := by decide +kernel
theorem dX9_sitDown_14 : decode cX9_sitDown 14 = .ok (.aload_n 0, 1) := by decide +kernel
theorem dX9_sitDown_15 : decode cX9_sitDown 15 = .ok (.getfield 21, 3) := by decide +kernel
theorem dX9_sitDown_18 : decode cX9_sitDown 18 = .ok (.getfield 99, 3) := by decide +kernel
theorem dX9_sitDown_21 : decode cX9_sitDown 21 = .ok (.iload_n 1, 1) := by decide +kernel
theorem dX9_sitDown_22 : decode cX9_sitDown 22 = .ok (.iaload, 1) := by decide +kernel
theorem dX9_sitDown_23 : decode cX9_sitDown 23 = .ok (.bipush 60, 2) := by decide +kernel
theorem dX9_sitDown_25 : decode cX9_sitDown 25 = .ok (.if_icmp .ge 7, 3) := by decide +kernel
theorem dX9_sitDown_28 : decode cX9_sitDown 28 = .ok (.iconst 1, 1) := by decide +kernel
theorem dX9_sitDown_29 : decode cX9_sitDown 29 = .ok (.goto 4, 3) := by decide +kernel
set_option maxHeartbeats 4000000 in
set_option maxRecDepth 100000 in
theorem g_sitDown (l : Launch) (dC : Nat → ClassId) (dI : Nat → Nat → Nat) (cy : Nat → ClassId) (sz : Nat) (vw : Nat) (vwc : Nat) (vwl : Nat) (vws : Nat) (vwc1 : Nat) (vwc2 : Nat) (vwc3 : Nat) (vwc4 : Nat) (vwc5 : Nat) (vwcm : Int32) (vwcd : Int32) (vwcr : Int32) (vwcw : Int32) (vwcf3 : Nat → Int32) (vwcf4 : Nat → Int32) (vwl1 : Nat) (vwl2 : Nat) (vwl3 : Nat) (vwl4 : Nat) (vwl5 : Nat) (vwl6 : Nat) (vwl7 : Nat) (vwl8 : Nat) (vwl9 : Nat) (vwl10 : Nat) (vwly : Int32) (vwlf1 : Nat → Int32) (vwlf2 : Nat → Int32) (vwlf3 : Nat → Int32) (vwlf4 : Nat → Int32) (vwlf5 : Nat → Int32) (vwlf6 : Nat → Int32) (vwlf7 : Nat → Int32) (vwlf8 : Nat → Int32) (vwlf9 : Nat → Int32) (vwlf10 : Nat → Int32) (vm : Int32) (r_vwcm : 0 ≤ (vwcm : Int32).toInt ∧ (vwcm : Int32).toInt ≤ 7) (r_vwcd : 0 ≤ (vwcd : Int32).toInt ∧ (vwcd : Int32).toInt ≤ 10) (r_vm : 0 ≤ (vm : Int32).toInt ∧ (vm : Int32).toInt ≤ 6) (p_vwcf3 : Rg vwcf3 10 0 40) (p_vwlf2 : Rg vwlf2 70 0 9) (p_vwlf5 : Rg vwlf5 7 (-1) 9) : Met l yX9_sitDown (wl yX9_sitDown cX9_sitDown 3 (some .int)) ({ frames := 2, cells := 0, slots := 0, locals := 128 }) (Pw (dC, dI) vwCl cy [(vw, .inr (10, [.ref vwc, .ref vwl, .ref vws])), (vwc, .inr (2, [.ref vwc1, .ref vwc2, .ref vwc3, .ref vwc4, .ref vwc5, .int vwcm, .int vwcd, .int vwcr, .int vwcw])), (vwc3, .inl (cy 0, 10, .inl vwcf3)), (vwc4, .inl (cy 2, 10, .inl vwcf4)), (vwl, .inr (5, [.ref vwl1, .ref vwl2, .ref vwl3, .ref vwl4, .ref vwl5, .ref vwl6, .ref vwl7, .ref vwl8, .ref vwl9, .ref vwl10, .int vwly])), (vwl1, .inl (cy 0, 7, .inl vwlf1)), (vwl2, .inl (cy 0, 70, .inl vwlf2)), (vwl3, .inl (cy 0, 49, .inl vwlf3)), (vwl4, .inl (cy 0, 7, .inl vwlf4)), (vwl5, .inl (cy 0, 7, .inl vwlf5)), (vwl6, .inl (cy 0, 7, .inl vwlf6)), (vwl7, .inl (cy 0, 7, .inl vwlf7)), (vwl8, .inl (cy 0, 7, .inl vwlf8)), (vwl9, .inl (cy 0, 7, .inl vwlf9)), (vwl10, .inl (cy 0, 7, .inl vwlf10))] sz [.ref vw, .int vm] nE) (Qi (dC, dI) vwCl (fun (r : Int32) (u : (Nat → Int32) × (Nat → Int32) × (Nat → Int32) × (Nat → Int32) × (Nat → Int32)) => (0 ≤ (r : Int32).toInt ∧ (r : Int32).toInt ≤ 1)) (O_g_sitDown cy vw vwc vwl vws vwc1 vwc2 vwc3 vwc4 vwc5 vwcm vwcd vwcr vwcw vwcf3 vwcf4 vwl1 vwl2 vwl3 vwl4 vwl5 vwl6 vwl7 vwl8 vwl9 vwl10 vwly vwlf1 vwlf2 vwlf3 vwlf4 vwlf5 vwlf6 vwlf7 vwlf8 vwlf9 vwlf10 vm) (va_A [(vw, .inr (10, [.ref vwc, .ref vwl, .ref vws])), (vwc, .inr (2, [.ref vwc1, .ref vwc2, .ref vwc3, .ref vwc4, .ref vwc5, .int vwcm, .int vwcd, .int vwcr, .int vwcw])), (vwc3, .inl (cy 0, 10, .inl vwcf3)), (vwc4, .inl (cy 2, 10, .inl vwcf4)), (vwl, .inr (5, [.ref vwl1, .ref vwl2, .ref vwl3, .ref vwl4, .ref vwl5, .ref vwl6, .ref vwl7, .ref vwl8, .ref vwl9, .ref vwl10, .int vwly])), (vwl1, .inl (cy 0, 7, .inl vwlf1)), (vwl2, .inl (cy 0, 70, .inl vwlf2)), (vwl3, .inl (cy 0, 49, .inl vwlf3)), (vwl4, .inl (cy 0, 7, .inl vwlf4)), (vwl5, .inl (cy 0, 7, .inl vwlf5)), (vwl6, .inl (cy 0, 7, .inl vwlf6)), (vwl7, .inl (cy 0, 7, .inl vwlf7)), (vwl8, .inl (cy 0, 7, .inl vwlf8)), (vwl9, .inl (cy 0, 7, .inl vwlf9)), (vwl10, .inl (cy 0, 7, .inl vwlf10))] sz)) 0 0 (va_A [(vw, .inr (10, [.ref vwc, .ref vwl, .ref vws])), (vwc, .inr (2, [.ref vwc1, .ref vwc2, .ref vwc3, .ref vwc4, .ref vwc5, .int vwcm, .int vwcd, .int vwcr, .int vwcw])), (vwc3, .inl (cy 0, 10, .inl vwcf3)), (vwc4, .inl (cy 2, 10, .inl vwcf4)), (vwl, .inr (5, [.ref vwl1, .ref vwl2, .ref vwl3, .ref vwl4, .ref vwl5, .ref vwl6, .ref vwl7, .ref vwl8, .ref vwl9, .ref vwl10, .int vwly])), (vwl1, .inl (cy 0, 7, .inl vwlf1)), (vwl2, .inl (cy 0, 70, .inl vwlf2)), (vwl3, .inl (cy 0, 49, .inl vwlf3)), (vwl4, .inl (cy 0, 7, .inl vwlf4)), (vwl5, .inl (cy 0, 7, .inl vwlf5)), (vwl6, .inl (cy 0, 7, .inl vwlf6)), (vwl7, .inl (cy 0, 7, .inl vwlf7)), (vwl8, .inl (cy 0, 7, .inl vwlf8)), (vwl9, .inl (cy 0, 7, .inl vwlf9)), (vwl10, .inl (cy 0, 7, .inl vwlf10))] sz) := by
  refine mw (Qc := Qi (dC, dI) vwCl (fun (r : Int32) (u : (Nat → Int32) × (Nat → Int32) × (Nat → Int32) × (Nat → Int32) × (Nat → Int32)) => (0 ≤ (r : Int32).toInt ∧ (r : Int32).toInt ≤ 1)) (O_g_sitDown cy vw vwc vwl vws vwc1 vwc2 vwc3 vwc4 vwc5 vwcm vwcd vwcr vwcw vwcf3 vwcf4 vwl1 vwl2 vwl3 vwl4 vwl5 vwl6 vwl7 vwl8 vwl9 vwl10 vwly vwlf1 vwlf2 vwlf3 vwlf4 vwlf5 vwlf6 vwlf7 vwlf8 vwlf9 vwlf10 vm)) RX9 rfl (by decide +kernel) (Nat.le_of_ble_eq_true rfl) ?_
  intro p e s m below meth c A hx hb hr hlocks av9 hav hts hown hnm hml hK hP hD hA hS hE hAe Q9 hQ9 ls hl
  have hl : lv_has ls 3 [(0, .ref vw), (1, .int vm)] := hl
  refine lv_aload_n hx hb dX9_sitDown_0 rfl (lv_at hl 0 rfl) ?_
  refine gf_X9_21 hx hb hts hown hK hP 0 rfl rfl dX9_sitDown_1 ?_
  refine gf_X9_96 hx hb hts hown hK hP 4 rfl rfl dX9_sitDown_4 ?_
  refine lv_iload_n hx hb dX9_sitDown_7 rfl (lv_at hl 1 rfl) ?_
  have hin_1 : vp_in vm 7 := vp_in_iff.mpr ⟨by omega, by omega⟩
  refine va_iald hx hb hK hP 5 0 rfl rfl hin_1 dX9_sitDown_8 ?_
  refine lv_topi (fun z_2 ez_2 => ?_)
  refine lv_bipush (v := 60) hx hb dX9_sitDown_9 (by decide) ?_
  have k_60 : (60 : Int32).toInt = 60 := by decide
  refine lv_icmp_lt (tgt := 32) hx hb dX9_sitDown_11 (by decide) (fun c_3 => ?_) (fun c_3 => ?_)
  · skip
    have c_3 : z_2.toInt < (60 : Int32).toInt := i_lt.mp c_3
    refine lv_iconst (v := 0) hx hb dX9_sitDown_32 (by decide) ?_
    refine lv_istore_n (lv' := [(2, .int 0), (0, .ref vw), (1, .int vm)]) hx hb dX9_sitDown_33 rfl hl (by decide) rfl (fun ls hl => ?_)
    refine lv_aload_n hx hb dX9_sitDown_34 rfl (lv_at hl 1 rfl) ?_
    refine gf_X9_21 hx hb hts hown hK hP 0 rfl rfl dX9_sitDown_35 ?_
    refine gf_X9_102 hx hb hts hown hK hP 4 rfl rfl dX9_sitDown_38 ?_
    refine lv_iload_n hx hb dX9_sitDown_41 rfl (lv_at hl 2 rfl) ?_
    have hin_4 : vp_in vm 7 := vp_in_iff.mpr ⟨by omega, by omega⟩
    refine va_iald hx hb hK hP 10 0 rfl rfl hin_4 dX9_sitDown_42 ?_
    refine lv_topi (fun z_5 ez_5 => ?_)
    have k_0 : (0 : Int32).toInt = 0 := by decide
    refine lv_if_le (tgt := 52) hx hb dX9_sitDown_43 (by decide) (fun c_6 => ?_) (fun c_6 => ?_)
    · skip
      have c_6 : z_5.toInt ≤ (0 : Int32).toInt := i_le.mp c_6
      refine lv_aload_n hx hb dX9_sitDown_52 rfl (lv_at hl 1 rfl) ?_
      refine gf_X9_21 hx hb hts hown hK hP 0 rfl rfl dX9_sitDown_53 ?_
      refine gf_X9_102 hx hb hts hown hK hP 4 rfl rfl dX9_sitDown_56 ?_
      refine lv_iload_n hx hb dX9_sitDown_59 rfl (lv_at hl 2 rfl) ?_
      refine lv_dup2_11 hx hb dX9_sitDown_60 rfl rfl ?_
      have hin_7 : vp_in vm 7 := vp_in_iff.mpr ⟨by omega, by omega⟩
      refine va_iald hx hb hK hP 10 0 rfl rfl hin_7 dX9_sitDown_61 ?_
      refine lv_topi (fun z_8 ez_8 => ?_)
      refine lv_iconst (v := 1) hx hb dX9_sitDown_62 (by decide) ?_
      refine lv_iadd hx hb dX9_sitDown_63 ?_
      refine lv_topi (fun z_9 ez_9 => ?_)
      have hin_10 : vp_in vm 7 := vp_in_iff.mpr ⟨by omega, by omega⟩
      refine va_iast hx hb hK hP hD hS 10 0 rfl rfl hin_10 dX9_sitDown_64 (fun H locs hP hD hS => ?_)
      obtain ⟨f_11, ef_11⟩ : ∃ z : Nat → Int32, z = upd vwlf6 (Int32.toNatClampNeg vm) z_9 := ⟨_, rfl⟩
      have hP : va_P (dC, dI) vwCl [(vw, .inr (10, [.ref vwc, .ref vwl, .ref vws])), (vwc, .inr (2, [.ref vwc1, .ref vwc2, .ref vwc3, .ref vwc4, .ref vwc5, .int vwcm, .int vwcd, .int vwcr, .int vwcw])), (vwc3, .inl (cy 0, 10, .inl vwcf3)), (vwc4, .inl (cy 2, 10, .inl vwcf4)), (vwl, .inr (5, [.ref vwl1, .ref vwl2, .ref vwl3, .ref vwl4, .ref vwl5, .ref vwl6, .ref vwl7, .ref vwl8, .ref vwl9, .ref vwl10, .int vwly])), (vwl1, .inl (cy 0, 7, .inl vwlf1)), (vwl2, .inl (cy 0, 70, .inl vwlf2)), (vwl3, .inl (cy 0, 49, .inl vwlf3)), (vwl4, .inl (cy 0, 7, .inl vwlf4)), (vwl5, .inl (cy 0, 7, .inl vwlf5)), (vwl6, .inl (cy 0, 7, .inl f_11)), (vwl7, .inl (cy 0, 7, .inl vwlf7)), (vwl8, .inl (cy 0, 7, .inl vwlf8)), (vwl9, .inl (cy 0, 7, .inl vwlf9)), (vwl10, .inl (cy 0, 7, .inl vwlf10))] H := by rw [ef_11]; exact hP
      have hD : va_D A [(vw, .inr (10, [.ref vwc, .ref vwl, .ref vws])), (vwc, .inr (2, [.ref vwc1, .ref vwc2, .ref vwc3, .ref vwc4, .ref vwc5, .int vwcm, .int vwcd, .int vwcr, .int vwcw])), (vwc3, .inl (cy 0, 10, .inl vwcf3)), (vwc4, .inl (cy 2, 10, .inl vwcf4)), (vwl, .inr (5, [.ref vwl1, .ref vwl2, .ref vwl3, .ref vwl4, .ref vwl5, .ref vwl6, .ref vwl7, .ref vwl8, .ref vwl9, .ref vwl10, .int vwly])), (vwl1, .inl (cy 0, 7, .inl vwlf1)), (vwl2, .inl (cy 0, 70, .inl vwlf2)), (vwl3, .inl (cy 0, 49, .inl vwlf3)), (vwl4, .inl (cy 0, 7, .inl vwlf4)), (vwl5, .inl (cy 0, 7, .inl vwlf5)), (vwl6, .inl (cy 0, 7, .inl f_11)), (vwl7, .inl (cy 0, 7, .inl vwlf7)), (vwl8, .inl (cy 0, 7, .inl vwlf8)), (vwl9, .inl (cy 0, 7, .inl vwlf9)), (vwl10, .inl (cy 0, 7, .inl vwlf10))] := by rw [ef_11]; exact hD
      refine lv_aload_n hx hb dX9_sitDown_65 rfl (lv_at hl 1 rfl) ?_
      refine gf_X9_21 hx hb hts hown hK hP 0 rfl rfl dX9_sitDown_66 ?_
      refine gf_X9_105 hx hb hts hown hK hP 4 rfl rfl dX9_sitDown_69 ?_
      refine lv_iload_n hx hb dX9_sitDown_72 rfl (lv_at hl 2 rfl) ?_
      refine lv_aload_n hx hb dX9_sitDown_73 rfl (lv_at hl 1 rfl) ?_
      refine lv_iload_n hx hb dX9_sitDown_74 rfl (lv_at hl 2 rfl) ?_
      refine jr_i (rVr (As := [.int vm]) (rest := [.int vm, .ref vwl7]) (ci := 10) ⟨hx, hb, hml, hown, hts⟩ (g_whiteOf l dC dI cy vw vwc vwl vws vwc1 vwc2 vwc3 vwc4 vwc5 vwcm vwcd vwcr vwcw vwcf3 vwcf4 vwl1 vwl2 vwl3 vwl4 vwl5 vwl6 vwl7 vwl8 vwl9 vwl10 vwly vwlf2 vwlf3 vwlf4 vwlf5 vm r_vwcm r_vwcd r_vm p_vwcf3 p_vwlf2 p_vwlf5) (cw_X9_86 hts rfl rfl ⟨Nat.le_of_ble_eq_true rfl, Nat.le_of_ble_eq_true rfl⟩) hP hK [0, 1, 2, 3, 4, 6, 7, 8, 9] rfl rfl rfl rfl hl.1 rfl (Nat.le_of_ble_eq_true rfl) dX9_sitDown_75 ⟨Nat.le_of_ble_eq_true rfl, Nat.le_of_ble_eq_true rfl⟩) hP hS (fun r_12 H locs hp_13 hP hS => ?_)
      have hin_14 : vp_in vm 7 := vp_in_iff.mpr ⟨by omega, by omega⟩
      refine va_iast hx hb hK hP hD hS 11 0 rfl rfl hin_14 dX9_sitDown_78 (fun H locs hP hD hS => ?_)
      obtain ⟨f_15, ef_15⟩ : ∃ z : Nat → Int32, z = upd vwlf7 (Int32.toNatClampNeg vm) r_12 := ⟨_, rfl⟩
      have hP : va_P (dC, dI) vwCl [(vw, .inr (10, [.ref vwc, .ref vwl, .ref vws])), (vwc, .inr (2, [.ref vwc1, .ref vwc2, .ref vwc3, .ref vwc4, .ref vwc5, .int vwcm, .int vwcd, .int vwcr, .int vwcw])), (vwc3, .inl (cy 0, 10, .inl vwcf3)), (vwc4, .inl (cy 2, 10, .inl vwcf4)), (vwl, .inr (5, [.ref vwl1, .ref vwl2, .ref vwl3, .ref vwl4, .ref vwl5, .ref vwl6, .ref vwl7, .ref vwl8, .ref vwl9, .ref vwl10, .int vwly])), (vwl1, .inl (cy 0, 7, .inl vwlf1)), (vwl2, .inl (cy 0, 70, .inl vwlf2)), (vwl3, .inl (cy 0, 49, .inl vwlf3)), (vwl4, .inl (cy 0, 7, .inl vwlf4)), (vwl5, .inl (cy 0, 7, .inl vwlf5)), (vwl6, .inl (cy 0, 7, .inl f_11)), (vwl7, .inl (cy 0, 7, .inl f_15)), (vwl8, .inl (cy 0, 7, .inl vwlf8)), (vwl9, .inl (cy 0, 7, .inl vwlf9)), (vwl10, .inl (cy 0, 7, .inl vwlf10))] H := by rw [ef_15]; exact hP
      have hD : va_D A [(vw, .inr (10, [.ref vwc, .ref vwl, .ref vws])), (vwc, .inr (2, [.ref vwc1, .ref vwc2, .ref vwc3, .ref vwc4, .ref vwc5, .int vwcm, .int vwcd, .int vwcr, .int vwcw])), (vwc3, .inl (cy 0, 10, .inl vwcf3)), (vwc4, .inl (cy 2, 10, .inl vwcf4)), (vwl, .inr (5, [.ref vwl1, .ref vwl2, .ref vwl3, .ref vwl4, .ref vwl5, .ref vwl6, .ref vwl7, .ref vwl8, .ref vwl9, .ref vwl10, .int vwly])), (vwl1, .inl (cy 0, 7, .inl vwlf1)), (vwl2, .inl (cy 0, 70, .inl vwlf2)), (vwl3, .inl (cy 0, 49, .inl vwlf3)), (vwl4, .inl (cy 0, 7, .inl vwlf4)), (vwl5, .inl (cy 0, 7, .inl vwlf5)), (vwl6, .inl (cy 0, 7, .inl f_11)), (vwl7, .inl (cy 0, 7, .inl f_15)), (vwl8, .inl (cy 0, 7, .inl vwlf8)), (vwl9, .inl (cy 0, 7, .inl vwlf9)), (vwl10, .inl (cy 0, 7, .inl vwlf10))] := by rw [ef_15]; exact hD
      refine lv_aload_n hx hb dX9_sitDown_79 rfl (lv_at hl 1 rfl) ?_
      refine gf_X9_21 hx hb hts hown hK hP 0 rfl rfl dX9_sitDown_80 ?_
      refine gf_X9_108 hx hb hts hown hK hP 4 rfl rfl dX9_sitDown_83 ?_
      refine lv_iload_n hx hb dX9_sitDown_86 rfl (lv_at hl 2 rfl) ?_
      refine lv_aload_n hx hb dX9_sitDown_87 rfl (lv_at hl 1 rfl) ?_
      refine lv_iload_n hx hb dX9_sitDown_88 rfl (lv_at hl 2 rfl) ?_
      refine jr_i (rVr (As := [.int vm]) (rest := [.int vm, .ref vwl8]) (ci := 10) ⟨hx, hb, hml, hown, hts⟩ (g_darkOf l dC dI cy vw vwc vwl vws vwc1 vwc2 vwc3 vwc4 vwc5 vwcm vwcd vwcr vwcw vwcf3 vwcf4 vwl1 vwl2 vwl3 vwl4 vwl5 vwl6 vwl7 vwl8 vwl9 vwl10 vwly vwlf2 vwlf3 vwlf4 vwlf5 vm r_vwcm r_vwcd r_vm p_vwcf3 p_vwlf2 p_vwlf5) (cw_X9_89 hts rfl rfl ⟨Nat.le_of_ble_eq_true rfl, Nat.le_of_ble_eq_true rfl⟩) hP hK [0, 1, 2, 3, 4, 6, 7, 8, 9] rfl rfl rfl rfl hl.1 rfl (Nat.le_of_ble_eq_true rfl) dX9_sitDown_89 ⟨Nat.le_of_ble_eq_true rfl, Nat.le_of_ble_eq_true rfl⟩) hP hS (fun r_16 H locs hp_17 hP hS => ?_)
      have hin_18 : vp_in vm 7 := vp_in_iff.mpr ⟨by omega, by omega⟩
      refine va_iast hx hb hK hP hD hS 12 0 rfl rfl hin_18 dX9_sitDown_92 (fun H locs hP hD hS => ?_)
      obtain ⟨f_19, ef_19⟩ : ∃ z : Nat → Int32, z = upd vwlf8 (Int32.toNatClampNeg vm) r_16 := ⟨_, rfl⟩
      have hP : va_P (dC, dI) vwCl [(vw, .inr (10, [.ref vwc, .ref vwl, .ref vws])), (vwc, .inr (2, [.ref vwc1, .ref vwc2, .ref vwc3, .ref vwc4, .ref vwc5, .int vwcm, .int vwcd, .int vwcr, .int vwcw])), (vwc3, .inl (cy 0, 10, .inl vwcf3)), (vwc4, .inl (cy 2, 10, .inl vwcf4)), (vwl, .inr (5, [.ref vwl1, .ref vwl2, .ref vwl3, .ref vwl4, .ref vwl5, .ref vwl6, .ref vwl7, .ref vwl8, .ref vwl9, .ref vwl10, .int vwly])), (vwl1, .inl (cy 0, 7, .inl vwlf1)), (vwl2, .inl (cy 0, 70, .inl vwlf2)), (vwl3, .inl (cy 0, 49, .inl vwlf3)), (vwl4, .inl (cy 0, 7, .inl vwlf4)), (vwl5, .inl (cy 0, 7, .inl vwlf5)), (vwl6, .inl (cy 0, 7, .inl f_11)), (vwl7, .inl (cy 0, 7, .inl f_15)), (vwl8, .inl (cy 0, 7, .inl f_19)), (vwl9, .inl (cy 0, 7, .inl vwlf9)), (vwl10, .inl (cy 0, 7, .inl vwlf10))] H := by rw [ef_19]; exact hP
      have hD : va_D A [(vw, .inr (10, [.ref vwc, .ref vwl, .ref vws])), (vwc, .inr (2, [.ref vwc1, .ref vwc2, .ref vwc3, .ref vwc4, .ref vwc5, .int vwcm, .int vwcd, .int vwcr, .int vwcw])), (vwc3, .inl (cy 0, 10, .inl vwcf3)), (vwc4, .inl (cy 2, 10, .inl vwcf4)), (vwl, .inr (5, [.ref vwl1, .ref vwl2, .ref vwl3, .ref vwl4, .ref vwl5, .ref vwl6, .ref vwl7, .ref vwl8, .ref vwl9, .ref vwl10, .int vwly])), (vwl1, .inl (cy 0, 7, .inl vwlf1)), (vwl2, .inl (cy 0, 70, .inl vwlf2)), (vwl3, .inl (cy 0, 49, .inl vwlf3)), (vwl4, .inl (cy 0, 7, .inl vwlf4)), (vwl5, .inl (cy 0, 7, .inl vwlf5)), (vwl6, .inl (cy 0, 7, .inl f_11)), (vwl7, .inl (cy 0, 7, .inl f_15)), (vwl8, .inl (cy 0, 7, .inl f_19)), (vwl9, .inl (cy 0, 7, .inl vwlf9)), (vwl10, .inl (cy 0, 7, .inl vwlf10))] := by rw [ef_19]; exact hD
      refine lv_aload_n hx hb dX9_sitDown_93 rfl (lv_at hl 1 rfl) ?_
      refine gf_X9_21 hx hb hts hown hK hP 0 rfl rfl dX9_sitDown_94 ?_
      refine gf_X9_111 hx hb hts hown hK hP 4 rfl rfl dX9_sitDown_97 ?_
      refine lv_iload_n hx hb dX9_sitDown_100 rfl (lv_at hl 2 rfl) ?_
      refine lv_aload_n hx hb dX9_sitDown_101 rfl (lv_at hl 1 rfl) ?_
      refine gf_X9_21 hx hb hts hown hK hP 0 rfl rfl dX9_sitDown_102 ?_
      refine gf_X9_114 hx hb hts hown hK hP 4 rfl rfl dX9_sitDown_105 ?_
      have hin_20 : vp_in vm 7 := vp_in_iff.mpr ⟨by omega, by omega⟩
      refine va_iast hx hb hK hP hD hS 13 0 rfl rfl hin_20 dX9_sitDown_108 (fun H locs hP hD hS => ?_)
      obtain ⟨f_21, ef_21⟩ : ∃ z : Nat → Int32, z = upd vwlf9 (Int32.toNatClampNeg vm) vwly := ⟨_, rfl⟩
      have hP : va_P (dC, dI) vwCl [(vw, .inr (10, [.ref vwc, .ref vwl, .ref vws])), (vwc, .inr (2, [.ref vwc1, .ref vwc2, .ref vwc3, .ref vwc4, .ref vwc5, .int vwcm, .int vwcd, .int vwcr, .int vwcw])), (vwc3, .inl (cy 0, 10, .inl vwcf3)), (vwc4, .inl (cy 2, 10, .inl vwcf4)), (vwl, .inr (5, [.ref vwl1, .ref vwl2, .ref vwl3, .ref vwl4, .ref vwl5, .ref vwl6, .ref vwl7, .ref vwl8, .ref vwl9, .ref vwl10, .int vwly])), (vwl1, .inl (cy 0, 7, .inl vwlf1)), (vwl2, .inl (cy 0, 70, .inl vwlf2)), (vwl3, .inl (cy 0, 49, .inl vwlf3)), (vwl4, .inl (cy 0, 7, .inl vwlf4)), (vwl5, .inl (cy 0, 7, .inl vwlf5)), (vwl6, .inl (cy 0, 7, .inl f_11)), (vwl7, .inl (cy 0, 7, .inl f_15)), (vwl8, .inl (cy 0, 7, .inl f_19)), (vwl9, .inl (cy 0, 7, .inl f_21)), (vwl10, .inl (cy 0, 7, .inl vwlf10))] H := by rw [ef_21]; exact hP
      have hD : va_D A [(vw, .inr (10, [.ref vwc, .ref vwl, .ref vws])), (vwc, .inr (2, [.ref vwc1, .ref vwc2, .ref vwc3, .ref vwc4, .ref vwc5, .int vwcm, .int vwcd, .int vwcr, .int vwcw])), (vwc3, .inl (cy 0, 10, .inl vwcf3)), (vwc4, .inl (cy 2, 10, .inl vwcf4)), (vwl, .inr (5, [.ref vwl1, .ref vwl2, .ref vwl3, .ref vwl4, .ref vwl5, .ref vwl6, .ref vwl7, .ref vwl8, .ref vwl9, .ref vwl10, .int vwly])), (vwl1, .inl (cy 0, 7, .inl vwlf1)), (vwl2, .inl (cy 0, 70, .inl vwlf2)), (vwl3, .inl (cy 0, 49, .inl vwlf3)), (vwl4, .inl (cy 0, 7, .inl vwlf4)), (vwl5, .inl (cy 0, 7, .inl vwlf5)), (vwl6, .inl (cy 0, 7, .inl f_11)), (vwl7, .inl (cy 0, 7, .inl f_15)), (vwl8, .inl (cy 0, 7, .inl f_19)), (vwl9, .inl (cy 0, 7, .inl f_21)), (vwl10, .inl (cy 0, 7, .inl vwlf10))] := by rw [ef_21]; exact hD
      refine lv_aload_n hx hb dX9_sitDown_109 rfl (lv_at hl 1 rfl) ?_
      refine gf_X9_21 hx hb hts hown hK hP 0 rfl rfl dX9_sitDown_110 ?_
      refine gf_X9_99 hx hb hts hown hK hP 4 rfl rfl dX9_sitDown_113 ?_
      refine lv_iload_n hx hb dX9_sitDown_116 rfl (lv_at hl 2 rfl) ?_
      refine lv_aload_n hx hb dX9_sitDown_117 rfl (lv_at hl 1 rfl) ?_
      refine gf_X9_21 hx hb hts hown hK hP 0 rfl rfl dX9_sitDown_118 ?_
      refine gf_X9_96 hx hb hts hown hK hP 4 rfl rfl dX9_sitDown_121 ?_
      refine lv_iload_n hx hb dX9_sitDown_124 rfl (lv_at hl 2 rfl) ?_
      have hin_22 : vp_in vm 7 := vp_in_iff.mpr ⟨by omega, by omega⟩
      refine va_iald hx hb hK hP 5 0 rfl rfl hin_22 dX9_sitDown_125 ?_
      refine lv_topi (fun z_23 ez_23 => ?_)
      have hin_24 : vp_in vm 7 := vp_in_iff.mpr ⟨by omega, by omega⟩
      refine va_iast hx hb hK hP hD hS 14 0 rfl rfl hin_24 dX9_sitDown_126 (fun H locs hP hD hS => ?_)
      obtain ⟨f_25, ef_25⟩ : ∃ z : Nat → Int32, z = upd vwlf10 (Int32.toNatClampNeg vm) z_23 := ⟨_, rfl⟩
      have hP : va_P (dC, dI) vwCl [(vw, .inr (10, [.ref vwc, .ref vwl, .ref vws])), (vwc, .inr (2, [.ref vwc1, .ref vwc2, .ref vwc3, .ref vwc4, .ref vwc5, .int vwcm, .int vwcd, .int vwcr, .int vwcw])), (vwc3, .inl (cy 0, 10, .inl vwcf3)), (vwc4, .inl (cy 2, 10, .inl vwcf4)), (vwl, .inr (5, [.ref vwl1, .ref vwl2, .ref vwl3, .ref vwl4, .ref vwl5, .ref vwl6, .ref vwl7, .ref vwl8, .ref vwl9, .ref vwl10, .int vwly])), (vwl1, .inl (cy 0, 7, .inl vwlf1)), (vwl2, .inl (cy 0, 70, .inl vwlf2)), (vwl3, .inl (cy 0, 49, .inl vwlf3)), (vwl4, .inl (cy 0, 7, .inl vwlf4)), (vwl5, .inl (cy 0, 7, .inl vwlf5)), (vwl6, .inl (cy 0, 7, .inl f_11)), (vwl7, .inl (cy 0, 7, .inl f_15)), (vwl8, .inl (cy 0, 7, .inl f_19)), (vwl9, .inl (cy 0, 7, .inl f_21)), (vwl10, .inl (cy 0, 7, .inl f_25))] H := by rw [ef_25]; exact hP
      have hD : va_D A [(vw, .inr (10, [.ref vwc, .ref vwl, .ref vws])), (vwc, .inr (2, [.ref vwc1, .ref vwc2, .ref vwc3, .ref vwc4, .ref vwc5, .int vwcm, .int vwcd, .int vwcr, .int vwcw])), (vwc3, .inl (cy 0, 10, .inl vwcf3)), (vwc4, .inl (cy 2, 10, .inl vwcf4)), (vwl, .inr (5, [.ref vwl1, .ref vwl2, .ref vwl3, .ref vwl4, .ref vwl5, .ref vwl6, .ref vwl7, .ref vwl8, .ref vwl9, .ref vwl10, .int vwly])), (vwl1, .inl (cy 0, 7, .inl vwlf1)), (vwl2, .inl (cy 0, 70, .inl vwlf2)), (vwl3, .inl (cy 0, 49, .inl vwlf3)), (vwl4, .inl (cy 0, 7, .inl vwlf4)), (vwl5, .inl (cy 0, 7, .inl vwlf5)), (vwl6, .inl (cy 0, 7, .inl f_11)), (vwl7, .inl (cy 0, 7, .inl f_15)), (vwl8, .inl (cy 0, 7, .inl f_19)), (vwl9, .inl (cy 0, 7, .inl f_21)), (vwl10, .inl (cy 0, 7, .inl f_25))] := by rw [ef_25]; exact hD
      refine lv_iconst (v := 0) hx hb dX9_sitDown_127 (by decide) ?_
      rw [hQ9]
      exact re_i (f_11, f_15, f_19, f_21, f_25) hx hb hr hlocks (show 0 ≤ ((0 : Int32) : Int32).toInt ∧ ((0 : Int32) : Int32).toInt ≤ 1 from ⟨by omega, by omega⟩) (hP.sub [0, 1, 2, 3, 4, 5, 6, 7, 8, 9, 10, 11, 12, 13, 14] rfl) (hD.sub [0, 1, 2, 3, 4, 5, 6, 7, 8, 9, 10, 11, 12, 13, 14] rfl rfl) hS dX9_sitDown_128
    · skip
      have c_6 : ¬ (z_5.toInt ≤ (0 : Int32).toInt) := fun h9 => c_6 (i_le.mpr h9)
      refine lv_iload_n hx hb dX9_sitDown_46 rfl (lv_at hl 0 rfl) ?_
      refine lv_if_ne (tgt := 52) hx hb dX9_sitDown_47 (by decide) (fun c9 => absurd c9 (by decide)) (fun _ => ?_)
      refine lv_iconst (v := 1) hx hb dX9_sitDown_50 (by decide) ?_
      have k_1 : (1 : Int32).toInt = 1 := by decide
      rw [hQ9]
      exact re_i (vwlf6, vwlf7, vwlf8, vwlf9, vwlf10) hx hb hr hlocks (show 0 ≤ ((1 : Int32) : Int32).toInt ∧ ((1 : Int32) : Int32).toInt ≤ 1 from ⟨by omega, by omega⟩) (hP.sub [0, 1, 2, 3, 4, 5, 6, 7, 8, 9, 10, 11, 12, 13, 14] rfl) (hD.sub [0, 1, 2, 3, 4, 5, 6, 7, 8, 9, 10, 11, 12, 13, 14] rfl rfl) hS dX9_sitDown_51
  · skip
    have c_3 : ¬ (z_2.toInt < (60 : Int32).toInt) := fun h9 => c_3 (i_lt.mpr h9)
    refine lv_aload_n hx hb dX9_sitDown_14 rfl (lv_at hl 0 rfl) ?_
    refine gf_X9_21 hx hb hts hown hK hP 0 rfl rfl dX9_sitDown_15 ?_
    refine gf_X9_99 hx hb hts hown hK hP 4 rfl rfl dX9_sitDown_18 ?_
    refine lv_iload_n hx hb dX9_sitDown_21 rfl (lv_at hl 1 rfl) ?_
    have hin_26 : vp_in vm 7 := vp_in_iff.mpr ⟨by omega, by omega⟩
    refine va_iald hx hb hK hP 14 0 rfl rfl hin_26 dX9_sitDown_22 ?_
    refine lv_topi (fun z_27 ez_27 => ?_)
    refine lv_bipush (v := 60) hx hb dX9_sitDown_23 (by decide) ?_
    refine lv_icmp_ge (tgt := 32) hx hb dX9_sitDown_25 (by decide) (fun c_28 => ?_) (fun c_28 => ?_)
    · skip
      have c_28 : (60 : Int32).toInt ≤ z_27.toInt := i_le.mp c_28
      refine lv_iconst (v := 0) hx hb dX9_sitDown_32 (by decide) ?_
      refine lv_istore_n (lv' := [(2, .int 0), (0, .ref vw), (1, .int vm)]) hx hb dX9_sitDown_33 rfl hl (by decide) rfl (fun ls hl => ?_)
      refine lv_aload_n hx hb dX9_sitDown_34 rfl (lv_at hl 1 rfl) ?_
      refine gf_X9_21 hx hb hts hown hK hP 0 rfl rfl dX9_sitDown_35 ?_
      refine gf_X9_102 hx hb hts hown hK hP 4 rfl rfl dX9_sitDown_38 ?_
      refine lv_iload_n hx hb dX9_sitDown_41 rfl (lv_at hl 2 rfl) ?_
      have hin_29 : vp_in vm 7 := vp_in_iff.mpr ⟨by omega, by omega⟩
      refine va_iald hx hb hK hP 10 0 rfl rfl hin_29 dX9_sitDown_42 ?_
      refine lv_topi (fun z_30 ez_30 => ?_)
      have k_0 : (0 : Int32).toInt = 0 := by decide
      refine lv_if_le (tgt := 52) hx hb dX9_sitDown_43 (by decide) (fun c_31 => ?_) (fun c_31 => ?_)
      · skip
        have c_31 : z_30.toInt ≤ (0 : Int32).toInt := i_le.mp c_31
        refine lv_aload_n hx hb dX9_sitDown_52 rfl (lv_at hl 1 rfl) ?_
        refine gf_X9_21 hx hb hts hown hK hP 0 rfl rfl dX9_sitDown_53 ?_
        refine gf_X9_102 hx hb hts hown hK hP 4 rfl rfl dX9_sitDown_56 ?_
        refine lv_iload_n hx hb dX9_sitDown_59 rfl (lv_at hl 2 rfl) ?_
        refine lv_dup2_11 hx hb dX9_sitDown_60 rfl rfl ?_
        have hin_32 : vp_in vm 7 := vp_in_iff.mpr ⟨by omega, by omega⟩
        refine va_iald hx hb hK hP 10 0 rfl rfl hin_32 dX9_sitDown_61 ?_
        refine lv_topi (fun z_33 ez_33 => ?_)
        refine lv_iconst (v := 1) hx hb dX9_sitDown_62 (by decide) ?_
        refine lv_iadd hx hb dX9_sitDown_63 ?_
        refine lv_topi (fun z_34 ez_34 => ?_)
        have hin_35 : vp_in vm 7 := vp_in_iff.mpr ⟨by omega, by omega⟩
        refine va_iast hx hb hK hP hD hS 10 0 rfl rfl hin_35 dX9_sitDown_64 (fun H locs hP hD hS => ?_)
        obtain ⟨f_36, ef_36⟩ : ∃ z : Nat → Int32, z = upd vwlf6 (Int32.toNatClampNeg vm) z_34 := ⟨_, rfl⟩
        have hP : va_P (dC, dI) vwCl [(vw, .inr (10, [.ref vwc, .ref vwl, .ref vws])), (vwc, .inr (2, [.ref vwc1, .ref vwc2, .ref vwc3, .ref vwc4, .ref vwc5, .int vwcm, .int vwcd, .int vwcr, .int vwcw])), (vwc3, .inl (cy 0, 10, .inl vwcf3)), (vwc4, .inl (cy 2, 10, .inl vwcf4)), (vwl, .inr (5, [.ref vwl1, .ref vwl2, .ref vwl3, .ref vwl4, .ref vwl5, .ref vwl6, .ref vwl7, .ref vwl8, .ref vwl9, .ref vwl10, .int vwly])), (vwl1, .inl (cy 0, 7, .inl vwlf1)), (vwl2, .inl (cy 0, 70, .inl vwlf2)), (vwl3, .inl (cy 0, 49, .inl vwlf3)), (vwl4, .inl (cy 0, 7, .inl vwlf4)), (vwl5, .inl (cy 0, 7, .inl vwlf5)), (vwl6, .inl (cy 0, 7, .inl f_36)), (vwl7, .inl (cy 0, 7, .inl vwlf7)), (vwl8, .inl (cy 0, 7, .inl vwlf8)), (vwl9, .inl (cy 0, 7, .inl vwlf9)), (vwl10, .inl (cy 0, 7, .inl vwlf10))] H := by rw [ef_36]; exact hP
        have hD : va_D A [(vw, .inr (10, [.ref vwc, .ref vwl, .ref vws])), (vwc, .inr (2, [.ref vwc1, .ref vwc2, .ref vwc3, .ref vwc4, .ref vwc5, .int vwcm, .int vwcd, .int vwcr, .int vwcw])), (vwc3, .inl (cy 0, 10, .inl vwcf3)), (vwc4, .inl (cy 2, 10, .inl vwcf4)), (vwl, .inr (5, [.ref vwl1, .ref vwl2, .ref vwl3, .ref vwl4, .ref vwl5, .ref vwl6, .ref vwl7, .ref vwl8, .ref vwl9, .ref vwl10, .int vwly])), (vwl1, .inl (cy 0, 7, .inl vwlf1)), (vwl2, .inl (cy 0, 70, .inl vwlf2)), (vwl3, .inl (cy 0, 49, .inl vwlf3)), (vwl4, .inl (cy 0, 7, .inl vwlf4)), (vwl5, .inl (cy 0, 7, .inl vwlf5)), (vwl6, .inl (cy 0, 7, .inl f_36)), (vwl7, .inl (cy 0, 7, .inl vwlf7)), (vwl8, .inl (cy 0, 7, .inl vwlf8)), (vwl9, .inl (cy 0, 7, .inl vwlf9)), (vwl10, .inl (cy 0, 7, .inl vwlf10))] := by rw [ef_36]; exact hD
        refine lv_aload_n hx hb dX9_sitDown_65 rfl (lv_at hl 1 rfl) ?_
        refine gf_X9_21 hx hb hts hown hK hP 0 rfl rfl dX9_sitDown_66 ?_
        refine gf_X9_105 hx hb hts hown hK hP 4 rfl rfl dX9_sitDown_69 ?_
        refine lv_iload_n hx hb dX9_sitDown_72 rfl (lv_at hl 2 rfl) ?_
        refine lv_aload_n hx hb dX9_sitDown_73 rfl (lv_at hl 1 rfl) ?_
        refine lv_iload_n hx hb dX9_sitDown_74 rfl (lv_at hl 2 rfl) ?_
        refine jr_i (rVr (As := [.int vm]) (rest := [.int vm, .ref vwl7]) (ci := 10) ⟨hx, hb, hml, hown, hts⟩ (g_whiteOf l dC dI cy vw vwc vwl vws vwc1 vwc2 vwc3 vwc4 vwc5 vwcm vwcd vwcr vwcw vwcf3 vwcf4 vwl1 vwl2 vwl3 vwl4 vwl5 vwl6 vwl7 vwl8 vwl9 vwl10 vwly vwlf2 vwlf3 vwlf4 vwlf5 vm r_vwcm r_vwcd r_vm p_vwcf3 p_vwlf2 p_vwlf5) (cw_X9_86 hts rfl rfl ⟨Nat.le_of_ble_eq_true rfl, Nat.le_of_ble_eq_true rfl⟩) hP hK [0, 1, 2, 3, 4, 6, 7, 8, 9] rfl rfl rfl rfl hl.1 rfl (Nat.le_of_ble_eq_true rfl) dX9_sitDown_75 ⟨Nat.le_of_ble_eq_true rfl, Nat.le_of_ble_eq_true rfl⟩) hP hS (fun r_37 H locs hp_38 hP hS => ?_)
        have hin_39 : vp_in vm 7 := vp_in_iff.mpr ⟨by omega, by omega⟩
        refine va_iast hx hb hK hP hD hS 11 0 rfl rfl hin_39 dX9_sitDown_78 (fun H locs hP hD hS => ?_)
        obtain ⟨f_40, ef_40⟩ : ∃ z : Nat → Int32, z = upd vwlf7 (Int32.toNatClampNeg vm) r_37 := ⟨_, rfl⟩
        have hP : va_P (dC, dI) vwCl [(vw, .inr (10, [.ref vwc, .ref vwl, .ref vws])), (vwc, .inr (2, [.ref vwc1, .ref vwc2, .ref vwc3, .ref vwc4, .ref vwc5, .int vwcm, .int vwcd, .int vwcr, .int vwcw])), (vwc3, .inl (cy 0, 10, .inl vwcf3)), (vwc4, .inl (cy 2, 10, .inl vwcf4)), (vwl, .inr (5, [.ref vwl1, .ref vwl2, .ref vwl3, .ref vwl4, .ref vwl5, .ref vwl6, .ref vwl7, .ref vwl8, .ref vwl9, .ref vwl10, .int vwly])), (vwl1, .inl (cy 0, 7, .inl vwlf1)), (vwl2, .inl (cy 0, 70, .inl vwlf2)), (vwl3, .inl (cy 0, 49, .inl vwlf3)), (vwl4, .inl (cy 0, 7, .inl vwlf4)), (vwl5, .inl (cy 0, 7, .inl vwlf5)), (vwl6, .inl (cy 0, 7, .inl f_36)), (vwl7, .inl (cy 0, 7, .inl f_40)), (vwl8, .inl (cy 0, 7, .inl vwlf8)), (vwl9, .inl (cy 0, 7, .inl vwlf9)), (vwl10, .inl (cy 0, 7, .inl vwlf10))] H := by rw [ef_40]; exact hP
        have hD : va_D A [(vw, .inr (10, [.ref vwc, .ref vwl, .ref vws])), (vwc, .inr (2, [.ref vwc1, .ref vwc2, .ref vwc3, .ref vwc4, .ref vwc5, .int vwcm, .int vwcd, .int vwcr, .int vwcw])), (vwc3, .inl (cy 0, 10, .inl vwcf3)), (vwc4, .inl (cy 2, 10, .inl vwcf4)), (vwl, .inr (5, [.ref vwl1, .ref vwl2, .ref vwl3, .ref vwl4, .ref vwl5, .ref vwl6, .ref vwl7, .ref vwl8, .ref vwl9, .ref vwl10, .int vwly])), (vwl1, .inl (cy 0, 7, .inl vwlf1)), (vwl2, .inl (cy 0, 70, .inl vwlf2)), (vwl3, .inl (cy 0, 49, .inl vwlf3)), (vwl4, .inl (cy 0, 7, .inl vwlf4)), (vwl5, .inl (cy 0, 7, .inl vwlf5)), (vwl6, .inl (cy 0, 7, .inl f_36)), (vwl7, .inl (cy 0, 7, .inl f_40)), (vwl8, .inl (cy 0, 7, .inl vwlf8)), (vwl9, .inl (cy 0, 7, .inl vwlf9)), (vwl10, .inl (cy 0, 7, .inl vwlf10))] := by rw [ef_40]; exact hD
        refine lv_aload_n hx hb dX9_sitDown_79 rfl (lv_at hl 1 rfl) ?_
        refine gf_X9_21 hx hb hts hown hK hP 0 rfl rfl dX9_sitDown_80 ?_
        refine gf_X9_108 hx hb hts hown hK hP 4 rfl rfl dX9_sitDown_83 ?_
        refine lv_iload_n hx hb dX9_sitDown_86 rfl (lv_at hl 2 rfl) ?_
        refine lv_aload_n hx hb dX9_sitDown_87 rfl (lv_at hl 1 rfl) ?_
        refine lv_iload_n hx hb dX9_sitDown_88 rfl (lv_at hl 2 rfl) ?_
        refine jr_i (rVr (As := [.int vm]) (rest := [.int vm, .ref vwl8]) (ci := 10) ⟨hx, hb, hml, hown, hts⟩ (g_darkOf l dC dI cy vw vwc vwl vws vwc1 vwc2 vwc3 vwc4 vwc5 vwcm vwcd vwcr vwcw vwcf3 vwcf4 vwl1 vwl2 vwl3 vwl4 vwl5 vwl6 vwl7 vwl8 vwl9 vwl10 vwly vwlf2 vwlf3 vwlf4 vwlf5 vm r_vwcm r_vwcd r_vm p_vwcf3 p_vwlf2 p_vwlf5) (cw_X9_89 hts rfl rfl ⟨Nat.le_of_ble_eq_true rfl, Nat.le_of_ble_eq_true rfl⟩) hP hK [0, 1, 2, 3, 4, 6, 7, 8, 9] rfl rfl rfl rfl hl.1 rfl (Nat.le_of_ble_eq_true rfl) dX9_sitDown_89 ⟨Nat.le_of_ble_eq_true rfl, Nat.le_of_ble_eq_true rfl⟩) hP hS (fun r_41 H locs hp_42 hP hS => ?_)
        have hin_43 : vp_in vm 7 := vp_in_iff.mpr ⟨by omega, by omega⟩
        refine va_iast hx hb hK hP hD hS 12 0 rfl rfl hin_43 dX9_sitDown_92 (fun H locs hP hD hS => ?_)
        obtain ⟨f_44, ef_44⟩ : ∃ z : Nat → Int32, z = upd vwlf8 (Int32.toNatClampNeg vm) r_41 := ⟨_, rfl⟩
        have hP : va_P (dC, dI) vwCl [(vw, .inr (10, [.ref vwc, .ref vwl, .ref vws])), (vwc, .inr (2, [.ref vwc1, .ref vwc2, .ref vwc3, .ref vwc4, .ref vwc5, .int vwcm, .int vwcd, .int vwcr, .int vwcw])), (vwc3, .inl (cy 0, 10, .inl vwcf3)), (vwc4, .inl (cy 2, 10, .inl vwcf4)), (vwl, .inr (5, [.ref vwl1, .ref vwl2, .ref vwl3, .ref vwl4, .ref vwl5, .ref vwl6, .ref vwl7, .ref vwl8, .ref vwl9, .ref vwl10, .int vwly])), (vwl1, .inl (cy 0, 7, .inl vwlf1)), (vwl2, .inl (cy 0, 70, .inl vwlf2)), (vwl3, .inl (cy 0, 49, .inl vwlf3)), (vwl4, .inl (cy 0, 7, .inl vwlf4)), (vwl5, .inl (cy 0, 7, .inl vwlf5)), (vwl6, .inl (cy 0, 7, .inl f_36)), (vwl7, .inl (cy 0, 7, .inl f_40)), (vwl8, .inl (cy 0, 7, .inl f_44)), (vwl9, .inl (cy 0, 7, .inl vwlf9)), (vwl10, .inl (cy 0, 7, .inl vwlf10))] H := by rw [ef_44]; exact hP
        have hD : va_D A [(vw, .inr (10, [.ref vwc, .ref vwl, .ref vws])), (vwc, .inr (2, [.ref vwc1, .ref vwc2, .ref vwc3, .ref vwc4, .ref vwc5, .int vwcm, .int vwcd, .int vwcr, .int vwcw])), (vwc3, .inl (cy 0, 10, .inl vwcf3)), (vwc4, .inl (cy 2, 10, .inl vwcf4)), (vwl, .inr (5, [.ref vwl1, .ref vwl2, .ref vwl3, .ref vwl4, .ref vwl5, .ref vwl6, .ref vwl7, .ref vwl8, .ref vwl9, .ref vwl10, .int vwly])), (vwl1, .inl (cy 0, 7, .inl vwlf1)), (vwl2, .inl (cy 0, 70, .inl vwlf2)), (vwl3, .inl (cy 0, 49, .inl vwlf3)), (vwl4, .inl (cy 0, 7, .inl vwlf4)), (vwl5, .inl (cy 0, 7, .inl vwlf5)), (vwl6, .inl (cy 0, 7, .inl f_36)), (vwl7, .inl (cy 0, 7, .inl f_40)), (vwl8, .inl (cy 0, 7, .inl f_44)), (vwl9, .inl (cy 0, 7, .inl vwlf9)), (vwl10, .inl (cy 0, 7, .inl vwlf10))] := by rw [ef_44]; exact hD
        refine lv_aload_n hx hb dX9_sitDown_93 rfl (lv_at hl 1 rfl) ?_
        refine gf_X9_21 hx hb hts hown hK hP 0 rfl rfl dX9_sitDown_94 ?_
        refine gf_X9_111 hx hb hts hown hK hP 4 rfl rfl dX9_sitDown_97 ?_
        refine lv_iload_n hx hb dX9_sitDown_100 rfl (lv_at hl 2 rfl) ?_
        refine lv_aload_n hx hb dX9_sitDown_101 rfl (lv_at hl 1 rfl) ?_
        refine gf_X9_21 hx hb hts hown hK hP 0 rfl rfl dX9_sitDown_102 ?_
        refine gf_X9_114 hx hb hts hown hK hP 4 rfl rfl dX9_sitDown_105 ?_
        have hin_45 : vp_in vm 7 := vp_in_iff.mpr ⟨by omega, by omega⟩
        refine va_iast hx hb hK hP hD hS 13 0 rfl rfl hin_45 dX9_sitDown_108 (fun H locs hP hD hS => ?_)
        obtain ⟨f_46, ef_46⟩ : ∃ z : Nat → Int32, z = upd vwlf9 (Int32.toNatClampNeg vm) vwly := ⟨_, rfl⟩
        have hP : va_P (dC, dI) vwCl [(vw, .inr (10, [.ref vwc, .ref vwl, .ref vws])), (vwc, .inr (2, [.ref vwc1, .ref vwc2, .ref vwc3, .ref vwc4, .ref vwc5, .int vwcm, .int vwcd, .int vwcr, .int vwcw])), (vwc3, .inl (cy 0, 10, .inl vwcf3)), (vwc4, .inl (cy 2, 10, .inl vwcf4)), (vwl, .inr (5, [.ref vwl1, .ref vwl2, .ref vwl3, .ref vwl4, .ref vwl5, .ref vwl6, .ref vwl7, .ref vwl8, .ref vwl9, .ref vwl10, .int vwly])), (vwl1, .inl (cy 0, 7, .inl vwlf1)), (vwl2, .inl (cy 0, 70, .inl vwlf2)), (vwl3, .inl (cy 0, 49, .inl vwlf3)), (vwl4, .inl (cy 0, 7, .inl vwlf4)), (vwl5, .inl (cy 0, 7, .inl vwlf5)), (vwl6, .inl (cy 0, 7, .inl f_36)), (vwl7, .inl (cy 0, 7, .inl f_40)), (vwl8, .inl (cy 0, 7, .inl f_44)), (vwl9, .inl (cy 0, 7, .inl f_46)), (vwl10, .inl (cy 0, 7, .inl vwlf10))] H := by rw [ef_46]; exact hP
        have hD : va_D A [(vw, .inr (10, [.ref vwc, .ref vwl, .ref vws])), (vwc, .inr (2, [.ref vwc1, .ref vwc2, .ref vwc3, .ref vwc4, .ref vwc5, .int vwcm, .int vwcd, .int vwcr, .int vwcw])), (vwc3, .inl (cy 0, 10, .inl vwcf3)), (vwc4, .inl (cy 2, 10, .inl vwcf4)), (vwl, .inr (5, [.ref vwl1, .ref vwl2, .ref vwl3, .ref vwl4, .ref vwl5, .ref vwl6, .ref vwl7, .ref vwl8, .ref vwl9, .ref vwl10, .int vwly])), (vwl1, .inl (cy 0, 7, .inl vwlf1)), (vwl2, .inl (cy 0, 70, .inl vwlf2)), (vwl3, .inl (cy 0, 49, .inl vwlf3)), (vwl4, .inl (cy 0, 7, .inl vwlf4)), (vwl5, .inl (cy 0, 7, .inl vwlf5)), (vwl6, .inl (cy 0, 7, .inl f_36)), (vwl7, .inl (cy 0, 7, .inl f_40)), (vwl8, .inl (cy 0, 7, .inl f_44)), (vwl9, .inl (cy 0, 7, .inl f_46)), (vwl10, .inl (cy 0, 7, .inl vwlf10))] := by rw [ef_46]; exact hD
        refine lv_aload_n hx hb dX9_sitDown_109 rfl (lv_at hl 1 rfl) ?_
        refine gf_X9_21 hx hb hts hown hK hP 0 rfl rfl dX9_sitDown_110 ?_
        refine gf_X9_99 hx hb hts hown hK hP 4 rfl rfl dX9_sitDown_113 ?_
        refine lv_iload_n hx hb dX9_sitDown_116 rfl (lv_at hl 2 rfl) ?_
        refine lv_aload_n hx hb dX9_sitDown_117 rfl (lv_at hl 1 rfl) ?_
        refine gf_X9_21 hx hb hts hown hK hP 0 rfl rfl dX9_sitDown_118 ?_
        refine gf_X9_96 hx hb hts hown hK hP 4 rfl rfl dX9_sitDown_121 ?_
        refine lv_iload_n hx hb dX9_sitDown_124 rfl (lv_at hl 2 rfl) ?_
        have hin_47 : vp_in vm 7 := vp_in_iff.mpr ⟨by omega, by omega⟩
        refine va_iald hx hb hK hP 5 0 rfl rfl hin_47 dX9_sitDown_125 ?_
        refine lv_topi (fun z_48 ez_48 => ?_)
        have hin_49 : vp_in vm 7 := vp_in_iff.mpr ⟨by omega, by omega⟩
        refine va_iast hx hb hK hP hD hS 14 0 rfl rfl hin_49 dX9_sitDown_126 (fun H locs hP hD hS => ?_)
        obtain ⟨f_50, ef_50⟩ : ∃ z : Nat → Int32, z = upd vwlf10 (Int32.toNatClampNeg vm) z_48 := ⟨_, rfl⟩
        have hP : va_P (dC, dI) vwCl [(vw, .inr (10, [.ref vwc, .ref vwl, .ref vws])), (vwc, .inr (2, [.ref vwc1, .ref vwc2, .ref vwc3, .ref vwc4, .ref vwc5, .int vwcm, .int vwcd, .int vwcr, .int vwcw])), (vwc3, .inl (cy 0, 10, .inl vwcf3)), (vwc4, .inl (cy 2, 10, .inl vwcf4)), (vwl, .inr (5, [.ref vwl1, .ref vwl2, .ref vwl3, .ref vwl4, .ref vwl5, .ref vwl6, .ref vwl7, .ref vwl8, .ref vwl9, .ref vwl10, .int vwly])), (vwl1, .inl (cy 0, 7, .inl vwlf1)), (vwl2, .inl (cy 0, 70, .inl vwlf2)), (vwl3, .inl (cy 0, 49, .inl vwlf3)), (vwl4, .inl (cy 0, 7, .inl vwlf4)), (vwl5, .inl (cy 0, 7, .inl vwlf5)), (vwl6, .inl (cy 0, 7, .inl f_36)), (vwl7, .inl (cy 0, 7, .inl f_40)), (vwl8, .inl (cy 0, 7, .inl f_44)), (vwl9, .inl (cy 0, 7, .inl f_46)), (vwl10, .inl (cy 0, 7, .inl f_50))] H := by rw [ef_50]; exact hP
        have hD : va_D A [(vw, .inr (10, [.ref vwc, .ref vwl, .ref vws])), (vwc, .inr (2, [.ref vwc1, .ref vwc2, .ref vwc3, .ref vwc4, .ref vwc5, .int vwcm, .int vwcd, .int vwcr, .int vwcw])), (vwc3, .inl (cy 0, 10, .inl vwcf3)), (vwc4, .inl (cy 2, 10, .inl vwcf4)), (vwl, .inr (5, [.ref vwl1, .ref vwl2, .ref vwl3, .ref vwl4, .ref vwl5, .ref vwl6, .ref vwl7, .ref vwl8, .ref vwl9, .ref vwl10, .int vwly])), (vwl1, .inl (cy 0, 7, .inl vwlf1)), (vwl2, .inl (cy 0, 70, .inl vwlf2)), (vwl3, .inl (cy 0, 49, .inl vwlf3)), (vwl4, .inl (cy 0, 7, .inl vwlf4)), (vwl5, .inl (cy 0, 7, .inl vwlf5)), (vwl6, .inl (cy 0, 7, .inl f_36)), (vwl7, .inl (cy 0, 7, .inl f_40)), (vwl8, .inl (cy 0, 7, .inl f_44)), (vwl9, .inl (cy 0, 7, .inl f_46)), (vwl10, .inl (cy 0, 7, .inl f_50))] := by rw [ef_50]; exact hD
        refine lv_iconst (v := 0) hx hb dX9_sitDown_127 (by decide) ?_
        rw [hQ9]
        exact re_i (f_36, f_40, f_44, f_46, f_50) hx hb hr hlocks (show 0 ≤ ((0 : Int32) : Int32).toInt ∧ ((0 : Int32) : Int32).toInt ≤ 1 from ⟨by omega, by omega⟩) (hP.sub [0, 1, 2, 3, 4, 5, 6, 7, 8, 9, 10, 11, 12, 13, 14] rfl) (hD.sub [0, 1, 2, 3, 4, 5, 6, 7, 8, 9, 10, 11, 12, 13, 14] rfl rfl) hS dX9_sitDown_128
      · skip
        have c_31 : ¬ (z_30.toInt ≤ (0 : Int32).toInt) := fun h9 => c_31 (i_le.mpr h9)
        refine lv_iload_n hx hb dX9_sitDown_46 rfl (lv_at hl 0 rfl) ?_
        refine lv_if_ne (tgt := 52) hx hb dX9_sitDown_47 (by decide) (fun c9 => absurd c9 (by decide)) (fun _ => ?_)
        refine lv_iconst (v := 1) hx hb dX9_sitDown_50 (by decide) ?_
        have k_1 : (1 : Int32).toInt = 1 := by decide
        rw [hQ9]
        exact re_i (vwlf6, vwlf7, vwlf8, vwlf9, vwlf10) hx hb hr hlocks (show 0 ≤ ((1 : Int32) : Int32).toInt ∧ ((1 : Int32) : Int32).toInt ≤ 1 from ⟨by omega, by omega⟩) (hP.sub [0, 1, 2, 3, 4, 5, 6, 7, 8, 9, 10, 11, 12, 13, 14] rfl) (hD.sub [0, 1, 2, 3, 4, 5, 6, 7, 8, 9, 10, 11, 12, 13, 14] rfl rfl) hS dX9_sitDown_51
    · skip
      have c_28 : ¬ ((60 : Int32).toInt ≤ z_27.toInt) := fun h9 => c_28 (i_le.mpr h9)
      refine lv_iconst (v := 1) hx hb dX9_sitDown_28 (by decide) ?_
      refine lv_goto (tgt := 33) hx hb dX9_sitDown_29 (by decide) ?_
      refine lv_istore_n (lv' := [(2, .int 1), (0, .ref vw), (1, .int vm)]) hx hb dX9_sitDown_33 rfl hl (by decide) rfl (fun ls hl => ?_)
      refine lv_aload_n hx hb dX9_sitDown_34 rfl (lv_at hl 1 rfl) ?_
      refine gf_X9_21 hx hb hts hown hK hP 0 rfl rfl dX9_sitDown_35 ?_
      refine gf_X9_102 hx hb hts hown hK hP 4 rfl rfl dX9_sitDown_38 ?_
      refine lv_iload_n hx hb dX9_sitDown_41 rfl (lv_at hl 2 rfl) ?_
      have hin_51 : vp_in vm 7 := vp_in_iff.mpr ⟨by omega, by omega⟩
      refine va_iald hx hb hK hP 10 0 rfl rfl hin_51 dX9_sitDown_42 ?_
      refine lv_topi (fun z_52 ez_52 => ?_)
      have k_0 : (0 : Int32).toInt = 0 := by decide
      refine lv_if_le (tgt := 52) hx hb dX9_sitDown_43 (by decide) (fun c_53 => ?_) (fun c_53 => ?_)
      · skip
        have c_53 : z_52.toInt ≤ (0 : Int32).toInt := i_le.mp c_53
        refine lv_aload_n hx hb dX9_sitDown_52 rfl (lv_at hl 1 rfl) ?_
        refine gf_X9_21 hx hb hts hown hK hP 0 rfl rfl dX9_sitDown_53 ?_
        refine gf_X9_102 hx hb hts hown hK hP 4 rfl rfl dX9_sitDown_56 ?_
        refine lv_iload_n hx hb dX9_sitDown_59 rfl (lv_at hl 2 rfl) ?_
        refine lv_dup2_11 hx hb dX9_sitDown_60 rfl rfl ?_
        have hin_54 : vp_in vm 7 := vp_in_iff.mpr ⟨by omega, by omega⟩
        refine va_iald hx hb hK hP 10 0 rfl rfl hin_54 dX9_sitDown_61 ?_
        refine lv_topi (fun z_55 ez_55 => ?_)
        refine lv_iconst (v := 1) hx hb dX9_sitDown_62 (by decide) ?_
        refine lv_iadd hx hb dX9_sitDown_63 ?_
        refine lv_topi (fun z_56 ez_56 => ?_)
        have hin_57 : vp_in vm 7 := vp_in_iff.mpr ⟨by omega, by omega⟩
        refine va_iast hx hb hK hP hD hS 10 0 rfl rfl hin_57 dX9_sitDown_64 (fun H locs hP hD hS => ?_)
        obtain ⟨f_58, ef_58⟩ : ∃ z : Nat → Int32, z = upd vwlf6 (Int32.toNatClampNeg vm) z_56 := ⟨_, rfl⟩
        have hP : va_P (dC, dI) vwCl [(vw, .inr (10, [.ref vwc, .ref vwl, .ref vws])), (vwc, .inr (2, [.ref vwc1, .ref vwc2, .ref vwc3, .ref vwc4, .ref vwc5, .int vwcm, .int vwcd, .int vwcr, .int vwcw])), (vwc3, .inl (cy 0, 10, .inl vwcf3)), (vwc4, .inl (cy 2, 10, .inl vwcf4)), (vwl, .inr (5, [.ref vwl1, .ref vwl2, .ref vwl3, .ref vwl4, .ref vwl5, .ref vwl6, .ref vwl7, .ref vwl8, .ref vwl9, .ref vwl10, .int vwly])), (vwl1, .inl (cy 0, 7, .inl vwlf1)), (vwl2, .inl (cy 0, 70, .inl vwlf2)), (vwl3, .inl (cy 0, 49, .inl vwlf3)), (vwl4, .inl (cy 0, 7, .inl vwlf4)), (vwl5, .inl (cy 0, 7, .inl vwlf5)), (vwl6, .inl (cy 0, 7, .inl f_58)), (vwl7, .inl (cy 0, 7, .inl vwlf7)), (vwl8, .inl (cy 0, 7, .inl vwlf8)), (vwl9, .inl (cy 0, 7, .inl vwlf9)), (vwl10, .inl (cy 0, 7, .inl vwlf10))] H := by rw [ef_58]; exact hP
        have hD : va_D A [(vw, .inr (10, [.ref vwc, .ref vwl, .ref vws])), (vwc, .inr (2, [.ref vwc1, .ref vwc2, .ref vwc3, .ref vwc4, .ref vwc5, .int vwcm, .int vwcd, .int vwcr, .int vwcw])), (vwc3, .inl (cy 0, 10, .inl vwcf3)), (vwc4, .inl (cy 2, 10, .inl vwcf4)), (vwl, .inr (5, [.ref vwl1, .ref vwl2, .ref vwl3, .ref vwl4, .ref vwl5, .ref vwl6, .ref vwl7, .ref vwl8, .ref vwl9, .ref vwl10, .int vwly])), (vwl1, .inl (cy 0, 7, .inl vwlf1)), (vwl2, .inl (cy 0, 70, .inl vwlf2)), (vwl3, .inl (cy 0, 49, .inl vwlf3)), (vwl4, .inl (cy 0, 7, .inl vwlf4)), (vwl5, .inl (cy 0, 7, .inl vwlf5)), (vwl6, .inl (cy 0, 7, .inl f_58)), (vwl7, .inl (cy 0, 7, .inl vwlf7)), (vwl8, .inl (cy 0, 7, .inl vwlf8)), (vwl9, .inl (cy 0, 7, .inl vwlf9)), (vwl10, .inl (cy 0, 7, .inl vwlf10))] := by rw [ef_58]; exact hD
        refine lv_aload_n hx hb dX9_sitDown_65 rfl (lv_at hl 1 rfl) ?_
        refine gf_X9_21 hx hb hts hown hK hP 0 rfl rfl dX9_sitDown_66 ?_
        refine gf_X9_105 hx hb hts hown hK hP 4 rfl rfl dX9_sitDown_69 ?_
        refine lv_iload_n hx hb dX9_sitDown_72 rfl (lv_at hl 2 rfl) ?_
        refine lv_aload_n hx hb dX9_sitDown_73 rfl (lv_at hl 1 rfl) ?_
        refine lv_iload_n hx hb dX9_sitDown_74 rfl (lv_at hl 2 rfl) ?_
        refine jr_i (rVr (As := [.int vm]) (rest := [.int vm, .ref vwl7]) (ci := 10) ⟨hx, hb, hml, hown, hts⟩ (g_whiteOf l dC dI cy vw vwc vwl vws vwc1 vwc2 vwc3 vwc4 vwc5 vwcm vwcd vwcr vwcw vwcf3 vwcf4 vwl1 vwl2 vwl3 vwl4 vwl5 vwl6 vwl7 vwl8 vwl9 vwl10 vwly vwlf2 vwlf3 vwlf4 vwlf5 vm r_vwcm r_vwcd r_vm p_vwcf3 p_vwlf2 p_vwlf5) (cw_X9_86 hts rfl rfl ⟨Nat.le_of_ble_eq_true rfl, Nat.le_of_ble_eq_true rfl⟩) hP hK [0, 1, 2, 3, 4, 6, 7, 8, 9] rfl rfl rfl rfl hl.1 rfl (Nat.le_of_ble_eq_true rfl) dX9_sitDown_75 ⟨Nat.le_of_ble_eq_true rfl, Nat.le_of_ble_eq_true rfl⟩) hP hS (fun r_59 H locs hp_60 hP hS => ?_)
        have hin_61 : vp_in vm 7 := vp_in_iff.mpr ⟨by omega, by omega⟩
        refine va_iast hx hb hK hP hD hS 11 0 rfl rfl hin_61 dX9_sitDown_78 (fun H locs hP hD hS => ?_)
        obtain ⟨f_62, ef_62⟩ : ∃ z : Nat → Int32, z = upd vwlf7 (Int32.toNatClampNeg vm) r_59 := ⟨_, rfl⟩
        have hP : va_P (dC, dI) vwCl [(vw, .inr (10, [.ref vwc, .ref vwl, .ref vws])), (vwc, .inr (2, [.ref vwc1, .ref vwc2, .ref vwc3, .ref vwc4, .ref vwc5, .int vwcm, .int vwcd, .int vwcr, .int vwcw])), (vwc3, .inl (cy 0, 10, .inl vwcf3)), (vwc4, .inl (cy 2, 10, .inl vwcf4)), (vwl, .inr (5, [.ref vwl1, .ref vwl2, .ref vwl3, .ref vwl4, .ref vwl5, .ref vwl6, .ref vwl7, .ref vwl8, .ref vwl9, .ref vwl10, .int vwly])), (vwl1, .inl (cy 0, 7, .inl vwlf1)), (vwl2, .inl (cy 0, 70, .inl vwlf2)), (vwl3, .inl (cy 0, 49, .inl vwlf3)), (vwl4, .inl (cy 0, 7, .inl vwlf4)), (vwl5, .inl (cy 0, 7, .inl vwlf5)), (vwl6, .inl (cy 0, 7, .inl f_58)), (vwl7, .inl (cy 0, 7, .inl f_62)), (vwl8, .inl (cy 0, 7, .inl vwlf8)), (vwl9, .inl (cy 0, 7, .inl vwlf9)), (vwl10, .inl (cy 0, 7, .inl vwlf10))] H := by rw [ef_62]; exact hP
        have hD : va_D A [(vw, .inr (10, [.ref vwc, .ref vwl, .ref vws])), (vwc, .inr (2, [.ref vwc1, .ref vwc2, .ref vwc3, .ref vwc4, .ref vwc5, .int vwcm, .int vwcd, .int vwcr, .int vwcw])), (vwc3, .inl (cy 0, 10, .inl vwcf3)), (vwc4, .inl (cy 2, 10, .inl vwcf4)), (vwl, .inr (5, [.ref vwl1, .ref vwl2, .ref vwl3, .ref vwl4, .ref vwl5, .ref vwl6, .ref vwl7, .ref vwl8, .ref vwl9, .ref vwl10, .int vwly])), (vwl1, .inl (cy 0, 7, .inl vwlf1)), (vwl2, .inl (cy 0, 70, .inl vwlf2)), (vwl3, .inl (cy 0, 49, .inl vwlf3)), (vwl4, .inl (cy 0, 7, .inl vwlf4)), (vwl5, .inl (cy 0, 7, .inl vwlf5)), (vwl6, .inl (cy 0, 7, .inl f_58)), (vwl7, .inl (cy 0, 7, .inl f_62)), (vwl8, .inl (cy 0, 7, .inl vwlf8)), (vwl9, .inl (cy 0, 7, .inl vwlf9)), (vwl10, .inl (cy 0, 7, .inl vwlf10))] := by rw [ef_62]; exact hD
        refine lv_aload_n hx hb dX9_sitDown_79 rfl (lv_at hl 1 rfl) ?_
        refine gf_X9_21 hx hb hts hown hK hP 0 rfl rfl dX9_sitDown_80 ?_
        refine gf_X9_108 hx hb hts hown hK hP 4 rfl rfl dX9_sitDown_83 ?_
        refine lv_iload_n hx hb dX9_sitDown_86 rfl (lv_at hl 2 rfl) ?_
        refine lv_aload_n hx hb dX9_sitDown_87 rfl (lv_at hl 1 rfl) ?_
        refine lv_iload_n hx hb dX9_sitDown_88 rfl (lv_at hl 2 rfl) ?_
        refine jr_i (rVr (As := [.int vm]) (rest := [.int vm, .ref vwl8]) (ci := 10) ⟨hx, hb, hml, hown, hts⟩ (g_darkOf l dC dI cy vw vwc vwl vws vwc1 vwc2 vwc3 vwc4 vwc5 vwcm vwcd vwcr vwcw vwcf3 vwcf4 vwl1 vwl2 vwl3 vwl4 vwl5 vwl6 vwl7 vwl8 vwl9 vwl10 vwly vwlf2 vwlf3 vwlf4 vwlf5 vm r_vwcm r_vwcd r_vm p_vwcf3 p_vwlf2 p_vwlf5) (cw_X9_89 hts rfl rfl ⟨Nat.le_of_ble_eq_true rfl, Nat.le_of_ble_eq_true rfl⟩) hP hK [0, 1, 2, 3, 4, 6, 7, 8, 9] rfl rfl rfl rfl hl.1 rfl (Nat.le_of_ble_eq_true rfl) dX9_sitDown_89 ⟨Nat.le_of_ble_eq_true rfl, Nat.le_of_ble_eq_true rfl⟩) hP hS (fun r_63 H locs hp_64 hP hS => ?_)
        have hin_65 : vp_in vm 7 := vp_in_iff.mpr ⟨by omega, by omega⟩
        refine va_iast hx hb hK hP hD hS 12 0 rfl rfl hin_65 dX9_sitDown_92 (fun H locs hP hD hS => ?_)
        obtain ⟨f_66, ef_66⟩ : ∃ z : Nat → Int32, z = upd vwlf8 (Int32.toNatClampNeg vm) r_63 := ⟨_, rfl⟩
        have hP : va_P (dC, dI) vwCl [(vw, .inr (10, [.ref vwc, .ref vwl, .ref vws])), (vwc, .inr (2, [.ref vwc1, .ref vwc2, .ref vwc3, .ref vwc4, .ref vwc5, .int vwcm, .int vwcd, .int vwcr, .int vwcw])), (vwc3, .inl (cy 0, 10, .inl vwcf3)), (vwc4, .inl (cy 2, 10, .inl vwcf4)), (vwl, .inr (5, [.ref vwl1, .ref vwl2, .ref vwl3, .ref vwl4, .ref vwl5, .ref vwl6, .ref vwl7, .ref vwl8, .ref vwl9, .ref vwl10, .int vwly])), (vwl1, .inl (cy 0, 7, .inl vwlf1)), (vwl2, .inl (cy 0, 70, .inl vwlf2)), (vwl3, .inl (cy 0, 49, .inl vwlf3)), (vwl4, .inl (cy 0, 7, .inl vwlf4)), (vwl5, .inl (cy 0, 7, .inl vwlf5)), (vwl6, .inl (cy 0, 7, .inl f_58)), (vwl7, .inl (cy 0, 7, .inl f_62)), (vwl8, .inl (cy 0, 7, .inl f_66)), (vwl9, .inl (cy 0, 7, .inl vwlf9)), (vwl10, .inl (cy 0, 7, .inl vwlf10))] H := by rw [ef_66]; exact hP
        have hD : va_D A [(vw, .inr (10, [.ref vwc, .ref vwl, .ref vws])), (vwc, .inr (2, [.ref vwc1, .ref vwc2, .ref vwc3, .ref vwc4, .ref vwc5, .int vwcm, .int vwcd, .int vwcr, .int vwcw])), (vwc3, .inl (cy 0, 10, .inl vwcf3)), (vwc4, .inl (cy 2, 10, .inl vwcf4)), (vwl, .inr (5, [.ref vwl1, .ref vwl2, .ref vwl3, .ref vwl4, .ref vwl5, .ref vwl6, .ref vwl7, .ref vwl8, .ref vwl9, .ref vwl10, .int vwly])), (vwl1, .inl (cy 0, 7, .inl vwlf1)), (vwl2, .inl (cy 0, 70, .inl vwlf2)), (vwl3, .inl (cy 0, 49, .inl vwlf3)), (vwl4, .inl (cy 0, 7, .inl vwlf4)), (vwl5, .inl (cy 0, 7, .inl vwlf5)), (vwl6, .inl (cy 0, 7, .inl f_58)), (vwl7, .inl (cy 0, 7, .inl f_62)), (vwl8, .inl (cy 0, 7, .inl f_66)), (vwl9, .inl (cy 0, 7, .inl vwlf9)), (vwl10, .inl (cy 0, 7, .inl vwlf10))] := by rw [ef_66]; exact hD
        refine lv_aload_n hx hb dX9_sitDown_93 rfl (lv_at hl 1 rfl) ?_
        refine gf_X9_21 hx hb hts hown hK hP 0 rfl rfl dX9_sitDown_94 ?_
        refine gf_X9_111 hx hb hts hown hK hP 4 rfl rfl dX9_sitDown_97 ?_
        refine lv_iload_n hx hb dX9_sitDown_100 rfl (lv_at hl 2 rfl) ?_
        refine lv_aload_n hx hb dX9_sitDown_101 rfl (lv_at hl 1 rfl) ?_
        refine gf_X9_21 hx hb hts hown hK hP 0 rfl rfl dX9_sitDown_102 ?_
        refine gf_X9_114 hx hb hts hown hK hP 4 rfl rfl dX9_sitDown_105 ?_
        have hin_67 : vp_in vm 7 := vp_in_iff.mpr ⟨by omega, by omega⟩
        refine va_iast hx hb hK hP hD hS 13 0 rfl rfl hin_67 dX9_sitDown_108 (fun H locs hP hD hS => ?_)
        obtain ⟨f_68, ef_68⟩ : ∃ z : Nat → Int32, z = upd vwlf9 (Int32.toNatClampNeg vm) vwly := ⟨_, rfl⟩
        have hP : va_P (dC, dI) vwCl [(vw, .inr (10, [.ref vwc, .ref vwl, .ref vws])), (vwc, .inr (2, [.ref vwc1, .ref vwc2, .ref vwc3, .ref vwc4, .ref vwc5, .int vwcm, .int vwcd, .int vwcr, .int vwcw])), (vwc3, .inl (cy 0, 10, .inl vwcf3)), (vwc4, .inl (cy 2, 10, .inl vwcf4)), (vwl, .inr (5, [.ref vwl1, .ref vwl2, .ref vwl3, .ref vwl4, .ref vwl5, .ref vwl6, .ref vwl7, .ref vwl8, .ref vwl9, .ref vwl10, .int vwly])), (vwl1, .inl (cy 0, 7, .inl vwlf1)), (vwl2, .inl (cy 0, 70, .inl vwlf2)), (vwl3, .inl (cy 0, 49, .inl vwlf3)), (vwl4, .inl (cy 0, 7, .inl vwlf4)), (vwl5, .inl (cy 0, 7, .inl vwlf5)), (vwl6, .inl (cy 0, 7, .inl f_58)), (vwl7, .inl (cy 0, 7, .inl f_62)), (vwl8, .inl (cy 0, 7, .inl f_66)), (vwl9, .inl (cy 0, 7, .inl f_68)), (vwl10, .inl (cy 0, 7, .inl vwlf10))] H := by rw [ef_68]; exact hP
        have hD : va_D A [(vw, .inr (10, [.ref vwc, .ref vwl, .ref vws])), (vwc, .inr (2, [.ref vwc1, .ref vwc2, .ref vwc3, .ref vwc4, .ref vwc5, .int vwcm, .int vwcd, .int vwcr, .int vwcw])), (vwc3, .inl (cy 0, 10, .inl vwcf3)), (vwc4, .inl (cy 2, 10, .inl vwcf4)), (vwl, .inr (5, [.ref vwl1, .ref vwl2, .ref vwl3, .ref vwl4, .ref vwl5, .ref vwl6, .ref vwl7, .ref vwl8, .ref vwl9, .ref vwl10, .int vwly])), (vwl1, .inl (cy 0, 7, .inl vwlf1)), (vwl2, .inl (cy 0, 70, .inl vwlf2)), (vwl3, .inl (cy 0, 49, .inl vwlf3)), (vwl4, .inl (cy 0, 7, .inl vwlf4)), (vwl5, .inl (cy 0, 7, .inl vwlf5)), (vwl6, .inl (cy 0, 7, .inl f_58)), (vwl7, .inl (cy 0, 7, .inl f_62)), (vwl8, .inl (cy 0, 7, .inl f_66)), (vwl9, .inl (cy 0, 7, .inl f_68)), (vwl10, .inl (cy 0, 7, .inl vwlf10))] := by rw [ef_68]; exact hD
        refine lv_aload_n hx hb dX9_sitDown_109 rfl (lv_at hl 1 rfl) ?_
        refine gf_X9_21 hx hb hts hown hK hP 0 rfl rfl dX9_sitDown_110 ?_
        refine gf_X9_99 hx hb hts hown hK hP 4 rfl rfl dX9_sitDown_113 ?_
        refine lv_iload_n hx hb dX9_sitDown_116 rfl (lv_at hl 2 rfl) ?_
        refine lv_aload_n hx hb dX9_sitDown_117 rfl (lv_at hl 1 rfl) ?_
        refine gf_X9_21 hx hb hts hown hK hP 0 rfl rfl dX9_sitDown_118 ?_
        refine gf_X9_96 hx hb hts hown hK hP 4 rfl rfl dX9_sitDown_121 ?_
        refine lv_iload_n hx hb dX9_sitDown_124 rfl (lv_at hl 2 rfl) ?_
        have hin_69 : vp_in vm 7 := vp_in_iff.mpr ⟨by omega, by omega⟩
        refine va_iald hx hb hK hP 5 0 rfl rfl hin_69 dX9_sitDown_125 ?_
        refine lv_topi (fun z_70 ez_70 => ?_)
        have hin_71 : vp_in vm 7 := vp_in_iff.mpr ⟨by omega, by omega⟩
        refine va_iast hx hb hK hP hD hS 14 0 rfl rfl hin_71 dX9_sitDown_126 (fun H locs hP hD hS => ?_)
        obtain ⟨f_72, ef_72⟩ : ∃ z : Nat → Int32, z = upd vwlf10 (Int32.toNatClampNeg vm) z_70 := ⟨_, rfl⟩
        have hP : va_P (dC, dI) vwCl [(vw, .inr (10, [.ref vwc, .ref vwl, .ref vws])), (vwc, .inr (2, [.ref vwc1, .ref vwc2, .ref vwc3, .ref vwc4, .ref vwc5, .int vwcm, .int vwcd, .int vwcr, .int vwcw])), (vwc3, .inl (cy 0, 10, .inl vwcf3)), (vwc4, .inl (cy 2, 10, .inl vwcf4)), (vwl, .inr (5, [.ref vwl1, .ref vwl2, .ref vwl3, .ref vwl4, .ref vwl5, .ref vwl6, .ref vwl7, .ref vwl8, .ref vwl9, .ref vwl10, .int vwly])), (vwl1, .inl (cy 0, 7, .inl vwlf1)), (vwl2, .inl (cy 0, 70, .inl vwlf2)), (vwl3, .inl (cy 0, 49, .inl vwlf3)), (vwl4, .inl (cy 0, 7, .inl vwlf4)), (vwl5, .inl (cy 0, 7, .inl vwlf5)), (vwl6, .inl (cy 0, 7, .inl f_58)), (vwl7, .inl (cy 0, 7, .inl f_62)), (vwl8, .inl (cy 0, 7, .inl f_66)), (vwl9, .inl (cy 0, 7, .inl f_68)), (vwl10, .inl (cy 0, 7, .inl f_72))] H := by rw [ef_72]; exact hP
        have hD : va_D A [(vw, .inr (10, [.ref vwc, .ref vwl, .ref vws])), (vwc, .inr (2, [.ref vwc1, .ref vwc2, .ref vwc3, .ref vwc4, .ref vwc5, .int vwcm, .int vwcd, .int vwcr, .int vwcw])), (vwc3, .inl (cy 0, 10, .inl vwcf3)), (vwc4, .inl (cy 2, 10, .inl vwcf4)), (vwl, .inr (5, [.ref vwl1, .ref vwl2, .ref vwl3, .ref vwl4, .ref vwl5, .ref vwl6, .ref vwl7, .ref vwl8, .ref vwl9, .ref vwl10, .int vwly])), (vwl1, .inl (cy 0, 7, .inl vwlf1)), (vwl2, .inl (cy 0, 70, .inl vwlf2)), (vwl3, .inl (cy 0, 49, .inl vwlf3)), (vwl4, .inl (cy 0, 7, .inl vwlf4)), (vwl5, .inl (cy 0, 7, .inl vwlf5)), (vwl6, .inl (cy 0, 7, .inl f_58)), (vwl7, .inl (cy 0, 7, .inl f_62)), (vwl8, .inl (cy 0, 7, .inl f_66)), (vwl9, .inl (cy 0, 7, .inl f_68)), (vwl10, .inl (cy 0, 7, .inl f_72))] := by rw [ef_72]; exact hD
        refine lv_iconst (v := 0) hx hb dX9_sitDown_127 (by decide) ?_
        rw [hQ9]
        exact re_i (f_58, f_62, f_66, f_68, f_72) hx hb hr hlocks (show 0 ≤ ((0 : Int32) : Int32).toInt ∧ ((0 : Int32) : Int32).toInt ≤ 1 from ⟨by omega, by omega⟩) (hP.sub [0, 1, 2, 3, 4, 5, 6, 7, 8, 9, 10, 11, 12, 13, 14] rfl) (hD.sub [0, 1, 2, 3, 4, 5, 6, 7, 8, 9, 10, 11, 12, 13, 14] rfl rfl) hS dX9_sitDown_128
      · skip
        have c_53 : ¬ (z_52.toInt ≤ (0 : Int32).toInt) := fun h9 => c_53 (i_le.mpr h9)
        refine lv_iload_n hx hb dX9_sitDown_46 rfl (lv_at hl 0 rfl) ?_
        refine lv_if_ne (tgt := 52) hx hb dX9_sitDown_47 (by decide) (fun _ => ?_) (fun c9 => absurd c9 (by decide))
        refine lv_aload_n hx hb dX9_sitDown_52 rfl (lv_at hl 1 rfl) ?_
        refine gf_X9_21 hx hb hts hown hK hP 0 rfl rfl dX9_sitDown_53 ?_
        refine gf_X9_102 hx hb hts hown hK hP 4 rfl rfl dX9_sitDown_56 ?_
        refine lv_iload_n hx hb dX9_sitDown_59 rfl (lv_at hl 2 rfl) ?_
        refine lv_dup2_11 hx hb dX9_sitDown_60 rfl rfl ?_
        have hin_73 : vp_in vm 7 := vp_in_iff.mpr ⟨by omega, by omega⟩
        refine va_iald hx hb hK hP 10 0 rfl rfl hin_73 dX9_sitDown_61 ?_
        refine lv_topi (fun z_74 ez_74 => ?_)
        refine lv_iconst (v := 1) hx hb dX9_sitDown_62 (by decide) ?_
        refine lv_iadd hx hb dX9_sitDown_63 ?_
        refine lv_topi (fun z_75 ez_75 => ?_)
        have hin_76 : vp_in vm 7 := vp_in_iff.mpr ⟨by omega, by omega⟩
        refine va_iast hx hb hK hP hD hS 10 0 rfl rfl hin_76 dX9_sitDown_64 (fun H locs hP hD hS => ?_)
        obtain ⟨f_77, ef_77⟩ : ∃ z : Nat → Int32, z = upd vwlf6 (Int32.toNatClampNeg vm) z_75 := ⟨_, rfl⟩
        have hP : va_P (dC, dI) vwCl [(vw, .inr (10, [.ref vwc, .ref vwl, .ref vws])), (vwc, .inr (2, [.ref vwc1, .ref vwc2, .ref vwc3, .ref vwc4, .ref vwc5, .int vwcm, .int vwcd, .int vwcr, .int vwcw])), (vwc3, .inl (cy 0, 10, .inl vwcf3)), (vwc4, .inl (cy 2, 10, .inl vwcf4)), (vwl, .inr (5, [.ref vwl1, .ref vwl2, .ref vwl3, .ref vwl4, .ref vwl5, .ref vwl6, .ref vwl7, .ref vwl8, .ref vwl9, .ref vwl10, .int vwly])), (vwl1, .inl (cy 0, 7, .inl vwlf1)), (vwl2, .inl (cy 0, 70, .inl vwlf2)), (vwl3, .inl (cy 0, 49, .inl vwlf3)), (vwl4, .inl (cy 0, 7, .inl vwlf4)), (vwl5, .inl (cy 0, 7, .inl vwlf5)), (vwl6, .inl (cy 0, 7, .inl f_77)), (vwl7, .inl (cy 0, 7, .inl vwlf7)), (vwl8, .inl (cy 0, 7, .inl vwlf8)), (vwl9, .inl (cy 0, 7, .inl vwlf9)), (vwl10, .inl (cy 0, 7, .inl vwlf10))] H := by rw [ef_77]; exact hP
        have hD : va_D A [(vw, .inr (10, [.ref vwc, .ref vwl, .ref vws])), (vwc, .inr (2, [.ref vwc1, .ref vwc2, .ref vwc3, .ref vwc4, .ref vwc5, .int vwcm, .int vwcd, .int vwcr, .int vwcw])), (vwc3, .inl (cy 0, 10, .inl vwcf3)), (vwc4, .inl (cy 2, 10, .inl vwcf4)), (vwl, .inr (5, [.ref vwl1, .ref vwl2, .ref vwl3, .ref vwl4, .ref vwl5, .ref vwl6, .ref vwl7, .ref vwl8, .ref vwl9, .ref vwl10, .int vwly])), (vwl1, .inl (cy 0, 7, .inl vwlf1)), (vwl2, .inl (cy 0, 70, .inl vwlf2)), (vwl3, .inl (cy 0, 49, .inl vwlf3)), (vwl4, .inl (cy 0, 7, .inl vwlf4)), (vwl5, .inl (cy 0, 7, .inl vwlf5)), (vwl6, .inl (cy 0, 7, .inl f_77)), (vwl7, .inl (cy 0, 7, .inl vwlf7)), (vwl8, .inl (cy 0, 7, .inl vwlf8)), (vwl9, .inl (cy 0, 7, .inl vwlf9)), (vwl10, .inl (cy 0, 7, .inl vwlf10))] := by rw [ef_77]; exact hD
        refine lv_aload_n hx hb dX9_sitDown_65 rfl (lv_at hl 1 rfl) ?_
        refine gf_X9_21 hx hb hts hown hK hP 0 rfl rfl dX9_sitDown_66 ?_
        refine gf_X9_105 hx hb hts hown hK hP 4 rfl rfl dX9_sitDown_69 ?_
        refine lv_iload_n hx hb dX9_sitDown_72 rfl (lv_at hl 2 rfl) ?_
        refine lv_aload_n hx hb dX9_sitDown_73 rfl (lv_at hl 1 rfl) ?_
        refine lv_iload_n hx hb dX9_sitDown_74 rfl (lv_at hl 2 rfl) ?_
        refine jr_i (rVr (As := [.int vm]) (rest := [.int vm, .ref vwl7]) (ci := 10) ⟨hx, hb, hml, hown, hts⟩ (g_whiteOf l dC dI cy vw vwc vwl vws vwc1 vwc2 vwc3 vwc4 vwc5 vwcm vwcd vwcr vwcw vwcf3 vwcf4 vwl1 vwl2 vwl3 vwl4 vwl5 vwl6 vwl7 vwl8 vwl9 vwl10 vwly vwlf2 vwlf3 vwlf4 vwlf5 vm r_vwcm r_vwcd r_vm p_vwcf3 p_vwlf2 p_vwlf5) (cw_X9_86 hts rfl rfl ⟨Nat.le_of_ble_eq_true rfl, Nat.le_of_ble_eq_true rfl⟩) hP hK [0, 1, 2, 3, 4, 6, 7, 8, 9] rfl rfl rfl rfl hl.1 rfl (Nat.le_of_ble_eq_true rfl) dX9_sitDown_75 ⟨Nat.le_of_ble_eq_true rfl, Nat.le_of_ble_eq_true rfl⟩) hP hS (fun r_78 H locs hp_79 hP hS => ?_)
        have hin_80 : vp_in vm 7 := vp_in_iff.mpr ⟨by omega, by omega⟩
        refine va_iast hx hb hK hP hD hS 11 0 rfl rfl hin_80 dX9_sitDown_78 (fun H locs hP hD hS => ?_)
        obtain ⟨f_81, ef_81⟩ : ∃ z : Nat → Int32, z = upd vwlf7 (Int32.toNatClampNeg vm) r_78 := ⟨_, rfl⟩
        have hP : va_P (dC, dI) vwCl [(vw, .inr (10, [.ref vwc, .ref vwl, .ref vws])), (vwc, .inr (2, [.ref vwc1, .ref vwc2, .ref vwc3, .ref vwc4, .ref vwc5, .int vwcm, .int vwcd, .int vwcr, .int vwcw])), (vwc3, .inl (cy 0, 10, .inl vwcf3)), (vwc4, .inl (cy 2, 10, .inl vwcf4)), (vwl, .inr (5, [.ref vwl1, .ref vwl2, .ref vwl3, .ref vwl4, .ref vwl5, .ref vwl6, .ref vwl7, .ref vwl8, .ref vwl9, .ref vwl10, .int vwly])), (vwl1, .inl (cy 0, 7, .inl vwlf1)), (vwl2, .inl (cy 0, 70, .inl vwlf2)), (vwl3, .inl (cy 0, 49, .inl vwlf3)), (vwl4, .inl (cy 0, 7, .inl vwlf4)), (vwl5, .inl (cy 0, 7, .inl vwlf5)), (vwl6, .inl (cy 0, 7, .inl f_77)), (vwl7, .inl (cy 0, 7, .inl f_81)), (vwl8, .inl (cy 0, 7, .inl vwlf8)), (vwl9, .inl (cy 0, 7, .inl vwlf9)), (vwl10, .inl (cy 0, 7, .inl vwlf10))] H := by rw [ef_81]; exact hP
        have hD : va_D A [(vw, .inr (10, [.ref vwc, .ref vwl, .ref vws])), (vwc, .inr (2, [.ref vwc1, .ref vwc2, .ref vwc3, .ref vwc4, .ref vwc5, .int vwcm, .int vwcd, .int vwcr, .int vwcw])), (vwc3, .inl (cy 0, 10, .inl vwcf3)), (vwc4, .inl (cy 2, 10, .inl vwcf4)), (vwl, .inr (5, [.ref vwl1, .ref vwl2, .ref vwl3, .ref vwl4, .ref vwl5, .ref vwl6, .ref vwl7, .ref vwl8, .ref vwl9, .ref vwl10, .int vwly])), (vwl1, .inl (cy 0, 7, .inl vwlf1)), (vwl2, .inl (cy 0, 70, .inl vwlf2)), (vwl3, .inl (cy 0, 49, .inl vwlf3)), (vwl4, .inl (cy 0, 7, .inl vwlf4)), (vwl5, .inl (cy 0, 7, .inl vwlf5)), (vwl6, .inl (cy 0, 7, .inl f_77)), (vwl7, .inl (cy 0, 7, .inl f_81)), (vwl8, .inl (cy 0, 7, .inl vwlf8)), (vwl9, .inl (cy 0, 7, .inl vwlf9)), (vwl10, .inl (cy 0, 7, .inl vwlf10))] := by rw [ef_81]; exact hD
        refine lv_aload_n hx hb dX9_sitDown_79 rfl (lv_at hl 1 rfl) ?_
        refine gf_X9_21 hx hb hts hown hK hP 0 rfl rfl dX9_sitDown_80 ?_
        refine gf_X9_108 hx hb hts hown hK hP 4 rfl rfl dX9_sitDown_83 ?_
        refine lv_iload_n hx hb dX9_sitDown_86 rfl (lv_at hl 2 rfl) ?_
        refine lv_aload_n hx hb dX9_sitDown_87 rfl (lv_at hl 1 rfl) ?_
        refine lv_iload_n hx hb dX9_sitDown_88 rfl (lv_at hl 2 rfl) ?_
        refine jr_i (rVr (As := [.int vm]) (rest := [.int vm, .ref vwl8]) (ci := 10) ⟨hx, hb, hml, hown, hts⟩ (g_darkOf l dC dI cy vw vwc vwl vws vwc1 vwc2 vwc3 vwc4 vwc5 vwcm vwcd vwcr vwcw vwcf3 vwcf4 vwl1 vwl2 vwl3 vwl4 vwl5 vwl6 vwl7 vwl8 vwl9 vwl10 vwly vwlf2 vwlf3 vwlf4 vwlf5 vm r_vwcm r_vwcd r_vm p_vwcf3 p_vwlf2 p_vwlf5) (cw_X9_89 hts rfl rfl ⟨Nat.le_of_ble_eq_true rfl, Nat.le_of_ble_eq_true rfl⟩) hP hK [0, 1, 2, 3, 4, 6, 7, 8, 9] rfl rfl rfl rfl hl.1 rfl (Nat.le_of_ble_eq_true rfl) dX9_sitDown_89 ⟨Nat.le_of_ble_eq_true rfl, Nat.le_of_ble_eq_true rfl⟩) hP hS (fun r_82 H locs hp_83 hP hS => ?_)
        have hin_84 : vp_in vm 7 := vp_in_iff.mpr ⟨by omega, by omega⟩
        refine va_iast hx hb hK hP hD hS 12 0 rfl rfl hin_84 dX9_sitDown_92 (fun H locs hP hD hS => ?_)
        obtain ⟨f_85, ef_85⟩ : ∃ z : Nat → Int32, z = upd vwlf8 (Int32.toNatClampNeg vm) r_82 := ⟨_, rfl⟩
        have hP : va_P (dC, dI) vwCl [(vw, .inr (10, [.ref vwc, .ref vwl, .ref vws])), (vwc, .inr (2, [.ref vwc1, .ref vwc2, .ref vwc3, .ref vwc4, .ref vwc5, .int vwcm, .int vwcd, .int vwcr, .int vwcw])), (vwc3, .inl (cy 0, 10, .inl vwcf3)), (vwc4, .inl (cy 2, 10, .inl vwcf4)), (vwl, .inr (5, [.ref vwl1, .ref vwl2, .ref vwl3, .ref vwl4, .ref vwl5, .ref vwl6, .ref vwl7, .ref vwl8, .ref vwl9, .ref vwl10, .int vwly])), (vwl1, .inl (cy 0, 7, .inl vwlf1)), (vwl2, .inl (cy 0, 70, .inl vwlf2)), (vwl3, .inl (cy 0, 49, .inl vwlf3)), (vwl4, .inl (cy 0, 7, .inl vwlf4)), (vwl5, .inl (cy 0, 7, .inl vwlf5)), (vwl6, .inl (cy 0, 7, .inl f_77)), (vwl7, .inl (cy 0, 7, .inl f_81)), (vwl8, .inl (cy 0, 7, .inl f_85)), (vwl9, .inl (cy 0, 7, .inl vwlf9)), (vwl10, .inl (cy 0, 7, .inl vwlf10))] H := by rw [ef_85]; exact hP
        have hD : va_D A [(vw, .inr (10, [.ref vwc, .ref vwl, .ref vws])), (vwc, .inr (2, [.ref vwc1, .ref vwc2, .ref vwc3, .ref vwc4, .ref vwc5, .int vwcm, .int vwcd, .int vwcr, .int vwcw])), (vwc3, .inl (cy 0, 10, .inl vwcf3)), (vwc4, .inl (cy 2, 10, .inl vwcf4)), (vwl, .inr (5, [.ref vwl1, .ref vwl2, .ref vwl3, .ref vwl4, .ref vwl5, .ref vwl6, .ref vwl7, .ref vwl8, .ref vwl9, .ref vwl10, .int vwly])), (vwl1, .inl (cy 0, 7, .inl vwlf1)), (vwl2, .inl (cy 0, 70, .inl vwlf2)), (vwl3, .inl (cy 0, 49, .inl vwlf3)), (vwl4, .inl (cy 0, 7, .inl vwlf4)), (vwl5, .inl (cy 0, 7, .inl vwlf5)), (vwl6, .inl (cy 0, 7, .inl f_77)), (vwl7, .inl (cy 0, 7, .inl f_81)), (vwl8, .inl (cy 0, 7, .inl f_85)), (vwl9, .inl (cy 0, 7, .inl vwlf9)), (vwl10, .inl (cy 0, 7, .inl vwlf10))] := by rw [ef_85]; exact hD
        refine lv_aload_n hx hb dX9_sitDown_93 rfl (lv_at hl 1 rfl) ?_
        refine gf_X9_21 hx hb hts hown hK hP 0 rfl rfl dX9_sitDown_94 ?_
        refine gf_X9_111 hx hb hts hown hK hP 4 rfl rfl dX9_sitDown_97 ?_
        refine lv_iload_n hx hb dX9_sitDown_100 rfl (lv_at hl 2 rfl) ?_
        refine lv_aload_n hx hb dX9_sitDown_101 rfl (lv_at hl 1 rfl) ?_
        refine gf_X9_21 hx hb hts hown hK hP 0 rfl rfl dX9_sitDown_102 ?_
        refine gf_X9_114 hx hb hts hown hK hP 4 rfl rfl dX9_sitDown_105 ?_
        have hin_86 : vp_in vm 7 := vp_in_iff.mpr ⟨by omega, by omega⟩
        refine va_iast hx hb hK hP hD hS 13 0 rfl rfl hin_86 dX9_sitDown_108 (fun H locs hP hD hS => ?_)
        obtain ⟨f_87, ef_87⟩ : ∃ z : Nat → Int32, z = upd vwlf9 (Int32.toNatClampNeg vm) vwly := ⟨_, rfl⟩
        have hP : va_P (dC, dI) vwCl [(vw, .inr (10, [.ref vwc, .ref vwl, .ref vws])), (vwc, .inr (2, [.ref vwc1, .ref vwc2, .ref vwc3, .ref vwc4, .ref vwc5, .int vwcm, .int vwcd, .int vwcr, .int vwcw])), (vwc3, .inl (cy 0, 10, .inl vwcf3)), (vwc4, .inl (cy 2, 10, .inl vwcf4)), (vwl, .inr (5, [.ref vwl1, .ref vwl2, .ref vwl3, .ref vwl4, .ref vwl5, .ref vwl6, .ref vwl7, .ref vwl8, .ref vwl9, .ref vwl10, .int vwly])), (vwl1, .inl (cy 0, 7, .inl vwlf1)), (vwl2, .inl (cy 0, 70, .inl vwlf2)), (vwl3, .inl (cy 0, 49, .inl vwlf3)), (vwl4, .inl (cy 0, 7, .inl vwlf4)), (vwl5, .inl (cy 0, 7, .inl vwlf5)), (vwl6, .inl (cy 0, 7, .inl f_77)), (vwl7, .inl (cy 0, 7, .inl f_81)), (vwl8, .inl (cy 0, 7, .inl f_85)), (vwl9, .inl (cy 0, 7, .inl f_87)), (vwl10, .inl (cy 0, 7, .inl vwlf10))] H := by rw [ef_87]; exact hP
        have hD : va_D A [(vw, .inr (10, [.ref vwc, .ref vwl, .ref vws])), (vwc, .inr (2, [.ref vwc1, .ref vwc2, .ref vwc3, .ref vwc4, .ref vwc5, .int vwcm, .int vwcd, .int vwcr, .int vwcw])), (vwc3, .inl (cy 0, 10, .inl vwcf3)), (vwc4, .inl (cy 2, 10, .inl vwcf4)), (vwl, .inr (5, [.ref vwl1, .ref vwl2, .ref vwl3, .ref vwl4, .ref vwl5, .ref vwl6, .ref vwl7, .ref vwl8, .ref vwl9, .ref vwl10, .int vwly])), (vwl1, .inl (cy 0, 7, .inl vwlf1)), (vwl2, .inl (cy 0, 70, .inl vwlf2)), (vwl3, .inl (cy 0, 49, .inl vwlf3)), (vwl4, .inl (cy 0, 7, .inl vwlf4)), (vwl5, .inl (cy 0, 7, .inl vwlf5)), (vwl6, .inl (cy 0, 7, .inl f_77)), (vwl7, .inl (cy 0, 7, .inl f_81)), (vwl8, .inl (cy 0, 7, .inl f_85)), (vwl9, .inl (cy 0, 7, .inl f_87)), (vwl10, .inl (cy 0, 7, .inl vwlf10))] := by rw [ef_87]; exact hD
        refine lv_aload_n hx hb dX9_sitDown_109 rfl (lv_at hl 1 rfl) ?_
        refine gf_X9_21 hx hb hts hown hK hP 0 rfl rfl dX9_sitDown_110 ?_
        refine gf_X9_99 hx hb hts hown hK hP 4 rfl rfl dX9_sitDown_113 ?_
        refine lv_iload_n hx hb dX9_sitDown_116 rfl (lv_at hl 2 rfl) ?_
        refine lv_aload_n hx hb dX9_sitDown_117 rfl (lv_at hl 1 rfl) ?_
        refine gf_X9_21 hx hb hts hown hK hP 0 rfl rfl dX9_sitDown_118 ?_
        refine gf_X9_96 hx hb hts hown hK hP 4 rfl rfl dX9_sitDown_121 ?_
        refine lv_iload_n hx hb dX9_sitDown_124 rfl (lv_at hl 2 rfl) ?_
        have hin_88 : vp_in vm 7 := vp_in_iff.mpr ⟨by omega, by omega⟩
        refine va_iald hx hb hK hP 5 0 rfl rfl hin_88 dX9_sitDown_125 ?_
        refine lv_topi (fun z_89 ez_89 => ?_)
        have hin_90 : vp_in vm 7 := vp_in_iff.mpr ⟨by omega, by omega⟩
        refine va_iast hx hb hK hP hD hS 14 0 rfl rfl hin_90 dX9_sitDown_126 (fun H locs hP hD hS => ?_)
        obtain ⟨f_91, ef_91⟩ : ∃ z : Nat → Int32, z = upd vwlf10 (Int32.toNatClampNeg vm) z_89 := ⟨_, rfl⟩
        have hP : va_P (dC, dI) vwCl [(vw, .inr (10, [.ref vwc, .ref vwl, .ref vws])), (vwc, .inr (2, [.ref vwc1, .ref vwc2, .ref vwc3, .ref vwc4, .ref vwc5, .int vwcm, .int vwcd, .int vwcr, .int vwcw])), (vwc3, .inl (cy 0, 10, .inl vwcf3)), (vwc4, .inl (cy 2, 10, .inl vwcf4)), (vwl, .inr (5, [.ref vwl1, .ref vwl2, .ref vwl3, .ref vwl4, .ref vwl5, .ref vwl6, .ref vwl7, .ref vwl8, .ref vwl9, .ref vwl10, .int vwly])), (vwl1, .inl (cy 0, 7, .inl vwlf1)), (vwl2, .inl (cy 0, 70, .inl vwlf2)), (vwl3, .inl (cy 0, 49, .inl vwlf3)), (vwl4, .inl (cy 0, 7, .inl vwlf4)), (vwl5, .inl (cy 0, 7, .inl vwlf5)), (vwl6, .inl (cy 0, 7, .inl f_77)), (vwl7, .inl (cy 0, 7, .inl f_81)), (vwl8, .inl (cy 0, 7, .inl f_85)), (vwl9, .inl (cy 0, 7, .inl f_87)), (vwl10, .inl (cy 0, 7, .inl f_91))] H := by rw [ef_91]; exact hP
        have hD : va_D A [(vw, .inr (10, [.ref vwc, .ref vwl, .ref vws])), (vwc, .inr (2, [.ref vwc1, .ref vwc2, .ref vwc3, .ref vwc4, .ref vwc5, .int vwcm, .int vwcd, .int vwcr, .int vwcw])), (vwc3, .inl (cy 0, 10, .inl vwcf3)), (vwc4, .inl (cy 2, 10, .inl vwcf4)), (vwl, .inr (5, [.ref vwl1, .ref vwl2, .ref vwl3, .ref vwl4, .ref vwl5, .ref vwl6, .ref vwl7, .ref vwl8, .ref vwl9, .ref vwl10, .int vwly])), (vwl1, .inl (cy 0, 7, .inl vwlf1)), (vwl2, .inl (cy 0, 70, .inl vwlf2)), (vwl3, .inl (cy 0, 49, .inl vwlf3)), (vwl4, .inl (cy 0, 7, .inl vwlf4)), (vwl5, .inl (cy 0, 7, .inl vwlf5)), (vwl6, .inl (cy 0, 7, .inl f_77)), (vwl7, .inl (cy 0, 7, .inl f_81)), (vwl8, .inl (cy 0, 7, .inl f_85)), (vwl9, .inl (cy 0, 7, .inl f_87)), (vwl10, .inl (cy 0, 7, .inl f_91))] := by rw [ef_91]; exact hD
        refine lv_iconst (v := 0) hx hb dX9_sitDown_127 (by decide) ?_
        rw [hQ9]
        exact re_i (f_77, f_81, f_85, f_87, f_91) hx hb hr hlocks (show 0 ≤ ((0 : Int32) : Int32).toInt ∧ ((0 : Int32) : Int32).toInt ≤ 1 from ⟨by omega, by omega⟩) (hP.sub [0, 1, 2, 3, 4, 5, 6, 7, 8, 9, 10, 11, 12, 13, 14] rfl) (hD.sub [0, 1, 2, 3, 4, 5, 6, 7, 8, 9, 10, 11, 12, 13, 14] rfl rfl) hS dX9_sitDown_128
abbrev cX9_passYear : ByteArray := prog_11_method_15_code
def yX9_passYear : MethodName := ⟨RX9, "passYear", "()Z"⟩
theorem t836 : Cond.code yX9_passYear cX9_passYear 2 (some .boolean) ∈ GW := gw_mem 950 (by decide +kernel) (by decide +kernel)
abbrev O_g_passYear (cy : Nat → ClassId) (vw : Nat) (vwc : Nat) (vwl : Nat) (vws : Nat) (vwc1 : Nat) (vwc2 : Nat) (vwc3 : Nat) (vwc4 : Nat) (vwc5 : Nat) (vwcm : Int32) (vwcd : Int32) (vwcr : Int32) (vwcw : Int32) (vwl1 : Nat) (vwl2 : Nat) (vwl3 : Nat) (vwl4 : Nat) (vwl5 : Nat) (vwl6 : Nat) (vwl7 : Nat) (vwl8 : Nat) (vwl9 : Nat) (vwl10 : Nat) (vwly : Int32) (vwlf1 : Nat → Int32) (vwlf4 : Nat → Int32) (vwlf5 : Nat → Int32) (u : Int32 × (Nat → Int32) × (Nat → Int32) × (Nat → Int32)) : va_W := [(vw, .inr (10, [.ref vwc, .ref vwl, .ref vws])), (vwc, .inr (2, [.ref vwc1, .ref vwc2, .ref vwc3, .ref vwc4, .ref vwc5, .int vwcm, .int vwcd, .int vwcr, .int vwcw])), (vwl, .inr (5, [.ref vwl1, .ref vwl2, .ref vwl3, .ref vwl4, .ref vwl5, .ref vwl6, .ref vwl7, .ref vwl8, .ref vwl9, .ref vwl10, .int u.1])), (vwl1, .inl (cy 0, 7, .inl u.2.1)), (vwl4, .inl (cy 0, 7, .inl u.2.2.1)), (vwl5, .inl (cy 0, 7, .inl u.2.2.2))]
theorem dX9_passYear_0 : decode cX9_passYear 0 = .ok (.aload_n 0, 1) := by decide +kernel
theorem dX9_passYear_1 : decode cX9_passYear 1 = .ok (.getfield 21, 3) := by decide +kernel
theorem dX9_passYear_4 : decode cX9_passYear 4 = .ok (.getfield 114, 3) := by decide +kernel
theorem dX9_passYear_7 : decode cX9_passYear 7 = .ok (.sipush 200, 3) := by decide +kernel
theorem dX9_passYear_10 : decode cX9_passYear 10 = .ok (.if_icmp .lt 5, 3) := by decide +kernel
theorem dX9_passYear_15 : decode cX9_passYear 15 = .ok (.aload_n 0, 1) := by decide +kernel
theorem dX9_passYear_16 : decode cX9_passYear 16 = .ok (.getfield 21, 3) := by decide +kernel
theorem dX9_passYear_19 : decode cX9_passYear 19 = .ok (.dup, 1) := by decide +kernel
theorem dX9_passYear_20 : decode cX9_passYear 20 = .ok (.getfield 114, 3) := by decide +kernel
theorem dX9_passYear_23 : decode cX9_passYear 23 = .ok (.iconst 1, 1) := by decide +kernel
theorem dX9_passYear_24 : decode cX9_passYear 24 = .ok (.iadd, 1) := by decide +kernel
theorem dX9_passYear_25 : decode cX9_passYear 25 = .ok (.putfield 114, 3) := by decide +kernel
theorem pf_X9_114 {p : Program} {l : Launch} {e : Env} {R : Room} {s : State} {m : MethodId} {args : Array Value} {below : List Frame} {meth : Method} {c : Code} {H : Heap} {locs : List Loc} {cells slots : Nat} {Q : State → Prop} {cc : ByteArray} {pc : Nat} {ls : Array Slot} {rest : List Value} {D : va_G} {A : Nat → Prop} {a : Nat} {tys : List (ClassId × FieldType)} {ws : va_W} {H0 : Heap} (hx : p.tables.exec = Jvm.exec) (hb : c.code = cc) (hts : ∀ w ∈ GW, w.before args s = true) (hown : s.vm.findClass RX9 = some m.cls) (hK : va_K D vwCl tys s) (hP : va_P D vwCl ws H) (hD : va_D A ws) (hS0 : va_S A H0 H locs) (q0 : Nat) {fs : List Value} (he : ws[q0]? = some (a, .inr (5, fs))) {v : Value} (hn : narrow (tyX4 10) v = v) (hfit : fits (tyX4 10) v = true) (hl : 10 < fs.length) (hdg : decode cc pc = .ok (.putfield 114, 3)) (kk : ∀ (H1 : Heap) (locs1 : List Loc), va_P D vwCl (ws.set q0 (a, .inr (5, fs.set 10 v))) H1 → va_D A (ws.set q0 (a, .inr (5, fs.set 10 v))) → va_S A H0 H1 locs1 → W p l e R s m args below meth c H1 locs1 cells slots Q (F0 m (pc + 3) ls rest)) : W p l e R s m args below meth c H locs cells slots Q (F0 m pc ls (v :: .ref a :: rest)) := va_put (C := RX4) (T := TX4) (N := 11) (ci := 5) hx hb hts inX4 tyX4 tkX4 nmX4 hown hK hP hD hS0 q0 he rfl 10 (by decide) (hts _ t269) (fun _ h => h) rfl (tkX4 10 (by decide)) hn hfit hl hdg kk
theorem dX9_passYear_28 : decode cX9_passYear 28 = .ok (.iconst 0, 1) := by decide +kernel
theorem dX9_passYear_29 : decode cX9_passYear 29 = .ok (.istore_n 1, 1) := by decide +kernel
theorem dX9_passYear_30 : decode cX9_passYear 30 = .ok (.iload_n 1, 1) := by decide +kernel
theorem dX9_passYear_31 : decode cX9_passYear 31 = .ok (.aload_n 0, 1) := by decide +kernel
theorem dX9_passYear_32 : decode cX9_passYear 32 = .ok (.getfield 12, 3) := by decide +kernel
theorem dX9_passYear_35 : decode cX9_passYear 35 = .ok (.getfield 65, 3) := by decide +kernel
theorem dX9_passYear_38 : decode cX9_passYear 38 = .ok (.if_icmp .ge 31, 3) := by decide +kernel
theorem dX9_passYear_69 : decode cX9_passYear 69 = .ok (.iconst 1, 1) := by decide +kernel
theorem dX9_passYear_70 : decode cX9_passYear 70 = .ok (.ireturn, 1) := by decide +kernel
theorem dX9_passYear_41 : decode cX9_passYear 41 = .ok (.aload_n 0, 1) := by decide +kernel
theorem dX9_passYear_42 : decode cX9_passYear 42 = .ok (.getfield 21, 3) := by decide +kernel
theorem dX9_passYear_45 : decode cX9_passYear 45 = .ok (.getfield 96, 3) := by decide +kernel
theorem dX9_passYear_48 : decode cX9_passYear 48 = .ok (.iload_n 1, 1) := by decide +kernel
theorem dX9_passYear_49 : decode cX9_passYear 49 = .ok (.dup2, 1) := by decide +kernel
theorem dX9_passYear_50 : decode cX9_passYear 50 = .ok (.iaload, 1) := by decide +kernel
theorem dX9_passYear_51 : decode cX9_passYear 51 = .ok (.iconst 1, 1) := by decide +kernel
theorem dX9_passYear_52 : decode cX9_passYear 52 = .ok (.iadd, 1) := by decide +kernel
theorem dX9_passYear_53 : decode cX9_passYear 53 = .ok (.iastore, 1) := by decide +kernel
theorem dX9_passYear_54 : decode cX9_passYear 54 = .ok (.aload_n 0, 1) := by decide +kernel
theorem dX9_passYear_55 : decode cX9_passYear 55 = .ok (.getfield 21, 3) := by decide +kernel
theorem dX9_passYear_58 : decode cX9_passYear 58 = .ok (.iload_n 1, 1) := by decide +kernel
theorem dX9_passYear_59 : decode cX9_passYear 59 = .ok (.invokevirtual 117, 3) := by decide +kernel
theorem t837 : Cond.methodLink RX9 117 yX4_takeBack ∈ GW := gw_mem 951 (by decide +kernel) (by decide +kernel)
theorem t799 : Cond.instanceMethod yX4_takeBack ∈ GW := gw_mem 913 (by decide +kernel) (by decide +kernel)
theorem t800 : Cond.selects RX4 yX4_takeBack yX4_takeBack ∈ GW := gw_mem 914 (by decide +kernel) (by decide +kernel)
theorem cw_X9_117 {R : Room} {s : State} {args : Array Value} {rm : Room} {mc ms : Nat} (hts : ∀ w ∈ GW, w.before args s = true) (hrc : rm.cells = mc) (hrs : rm.slots = ms) (hR : rm.frames + 1 ≤ R.frames ∧ 8 + (2 + 11) + rm.locals ≤ R.locals) : CallW R s args RX9 RX4 117 yX4_takeBack cX4_takeBack 2 (some .int) (wl yX4_takeBack cX4_takeBack 2 (some .int)) rm mc ms 1 := cwV 1 hts (gi_V t837 t799 t800 t10 t801) rfl hrc hrs (by decide +kernel) hR
theorem dX9_passYear_62 : decode cX9_passYear 62 = .ok (.pop, 1) := by decide +kernel
theorem dX9_passYear_63 : decode cX9_passYear 63 = .ok (.iinc 1 1, 3) := by decide +kernel
theorem dX9_passYear_66 : decode cX9_passYear 66 = .ok (.goto (-36), 3) := by decide +kernel
theorem dX9_passYear_13 : decode cX9_passYear 13 = .ok (.iconst 0, 1) := by decide +kernel
theorem dX9_passYear_14 : decode cX9_passYear 14 = .ok (.ireturn, 1) := by decide +kernel
set_option maxHeartbeats 4000000 in
set_option maxRecDepth 100000 in
theorem g_passYear (l : Launch) (dC : Nat → ClassId) (dI : Nat → Nat → Nat) (cy : Nat → ClassId) (sz : Nat) (vw : Nat) (vwc : Nat) (vwl : Nat) (vws : Nat) (vwc1 : Nat) (vwc2 : Nat) (vwc3 : Nat) (vwc4 : Nat) (vwc5 : Nat) (vwcm : Int32) (vwcd : Int32) (vwcr : Int32) (vwcw : Int32) (vwl1 : Nat) (vwl2 : Nat) (vwl3 : Nat) (vwl4 : Nat) (vwl5 : Nat) (vwl6 : Nat) (vwl7 : Nat) (vwl8 : Nat) (vwl9 : Nat) (vwl10 : Nat) (vwly : Int32) (vwlf1 : Nat → Int32) (vwlf4 : Nat → Int32) (vwlf5 : Nat → Int32) (r_vwcm : 0 ≤ (vwcm : Int32).toInt ∧ (vwcm : Int32).toInt ≤ 7) (r_vwcd : 0 ≤ (vwcd : Int32).toInt ∧ (vwcd : Int32).toInt ≤ 10) (p_vwlf5 : Rg vwlf5 7 (-1) 9) : Met l yX9_passYear (wl yX9_passYear cX9_passYear 2 (some .boolean)) ({ frames := 1, cells := 0, slots := 0, locals := 64 }) (Pw (dC, dI) vwCl cy [(vw, .inr (10, [.ref vwc, .ref vwl, .ref vws])), (vwc, .inr (2, [.ref vwc1, .ref vwc2, .ref vwc3, .ref vwc4, .ref vwc5, .int vwcm, .int vwcd, .int vwcr, .int vwcw])), (vwl, .inr (5, [.ref vwl1, .ref vwl2, .ref vwl3, .ref vwl4, .ref vwl5, .ref vwl6, .ref vwl7, .ref vwl8, .ref vwl9, .ref vwl10, .int vwly])), (vwl1, .inl (cy 0, 7, .inl vwlf1)), (vwl4, .inl (cy 0, 7, .inl vwlf4)), (vwl5, .inl (cy 0, 7, .inl vwlf5))] sz [.ref vw] nE) (Qi (dC, dI) vwCl (fun (r : Int32) (u : Int32 × (Nat → Int32) × (Nat → Int32) × (Nat → Int32)) => ((r = 0) ∨ (r = 1)) ∧ (Rg u.2.2.2 7 (-1) 9)) (O_g_passYear cy vw vwc vwl vws vwc1 vwc2 vwc3 vwc4 vwc5 vwcm vwcd vwcr vwcw vwl1 vwl2 vwl3 vwl4 vwl5 vwl6 vwl7 vwl8 vwl9 vwl10 vwly vwlf1 vwlf4 vwlf5) (va_A [(vw, .inr (10, [.ref vwc, .ref vwl, .ref vws])), (vwc, .inr (2, [.ref vwc1, .ref vwc2, .ref vwc3, .ref vwc4, .ref vwc5, .int vwcm, .int vwcd, .int vwcr, .int vwcw])), (vwl, .inr (5, [.ref vwl1, .ref vwl2, .ref vwl3, .ref vwl4, .ref vwl5, .ref vwl6, .ref vwl7, .ref vwl8, .ref vwl9, .ref vwl10, .int vwly])), (vwl1, .inl (cy 0, 7, .inl vwlf1)), (vwl4, .inl (cy 0, 7, .inl vwlf4)), (vwl5, .inl (cy 0, 7, .inl vwlf5))] sz)) 0 0 (va_A [(vw, .inr (10, [.ref vwc, .ref vwl, .ref vws])), (vwc, .inr (2, [.ref vwc1, .ref vwc2, .ref vwc3, .ref vwc4, .ref vwc5, .int vwcm, .int vwcd, .int vwcr, .int vwcw])), (vwl, .inr (5, [.ref vwl1, .ref vwl2, .ref vwl3, .ref vwl4, .ref vwl5, .ref vwl6, .ref vwl7, .ref vwl8, .ref vwl9, .ref vwl10, .int vwly])), (vwl1, .inl (cy 0, 7, .inl vwlf1)), (vwl4, .inl (cy 0, 7, .inl vwlf4)), (vwl5, .inl (cy 0, 7, .inl vwlf5))] sz) := by
  refine mw (Qc := Qi (dC, dI) vwCl (fun (r : Int32) (u : Int32 × (Nat → Int32) × (Nat → Int32) × (Nat → Int32)) => ((r = 0) ∨ (r = 1)) ∧ (Rg u.2.2.2 7 (-1) 9)) (O_g_passYear cy vw vwc vwl vws vwc1 vwc2 vwc3 vwc4 vwc5 vwcm vwcd vwcr vwcw vwl1 vwl2 vwl3 vwl4 vwl5 vwl6 vwl7 vwl8 vwl9 vwl10 vwly vwlf1 vwlf4 vwlf5)) RX9 rfl (by decide +kernel) (Nat.le_of_ble_eq_true rfl) ?_
  intro p e s m below meth c A hx hb hr hlocks av9 hav hts hown hnm hml hK hP hD hA hS hE hAe Q9 hQ9 ls hl
  have hl : lv_has ls 2 [(0, .ref vw)] := hl
  refine lv_aload_n hx hb dX9_passYear_0 rfl (lv_at hl 0 rfl) ?_
  refine gf_X9_21 hx hb hts hown hK hP 0 rfl rfl dX9_passYear_1 ?_
  refine gf_X9_114 hx hb hts hown hK hP 2 rfl rfl dX9_passYear_4 ?_
  refine lv_sipush (v := 200) hx hb dX9_passYear_7 (by decide) ?_
  have k_200 : (200 : Int32).toInt = 200 := by decide
  refine lv_icmp_lt (tgt := 15) hx hb dX9_passYear_10 (by decide) (fun c_1 => ?_) (fun c_1 => ?_)
  · skip
    have c_1 : vwly.toInt < (200 : Int32).toInt := i_lt.mp c_1
    refine lv_aload_n hx hb dX9_passYear_15 rfl (lv_at hl 0 rfl) ?_
    refine gf_X9_21 hx hb hts hown hK hP 0 rfl rfl dX9_passYear_16 ?_
    refine lv_dup hx hb dX9_passYear_19 rfl ?_
    refine gf_X9_114 hx hb hts hown hK hP 2 rfl rfl dX9_passYear_20 ?_
    refine lv_iconst (v := 1) hx hb dX9_passYear_23 (by decide) ?_
    refine lv_iadd hx hb dX9_passYear_24 ?_
    refine lv_topi (fun z_2 ez_2 => ?_)
    have k_1 : (1 : Int32).toInt = 1 := by decide
    have wh_3 := i_rng vwly
    have bz_2 : z_2.toInt = vwly.toInt + (1 : Int32).toInt := i_add ez_2 (by omega) (by omega)
    refine pf_X9_114 hx hb hts hown hK hP hD hS 2 rfl rfl rfl (Nat.le_of_ble_eq_true rfl) dX9_passYear_25 (fun H locs hP hD hS => ?_)
    have hP : va_P (dC, dI) vwCl [(vw, .inr (10, [.ref vwc, .ref vwl, .ref vws])), (vwc, .inr (2, [.ref vwc1, .ref vwc2, .ref vwc3, .ref vwc4, .ref vwc5, .int vwcm, .int vwcd, .int vwcr, .int vwcw])), (vwl, .inr (5, [.ref vwl1, .ref vwl2, .ref vwl3, .ref vwl4, .ref vwl5, .ref vwl6, .ref vwl7, .ref vwl8, .ref vwl9, .ref vwl10, .int z_2])), (vwl1, .inl (cy 0, 7, .inl vwlf1)), (vwl4, .inl (cy 0, 7, .inl vwlf4)), (vwl5, .inl (cy 0, 7, .inl vwlf5))] H := hP
    have hD : va_D A [(vw, .inr (10, [.ref vwc, .ref vwl, .ref vws])), (vwc, .inr (2, [.ref vwc1, .ref vwc2, .ref vwc3, .ref vwc4, .ref vwc5, .int vwcm, .int vwcd, .int vwcr, .int vwcw])), (vwl, .inr (5, [.ref vwl1, .ref vwl2, .ref vwl3, .ref vwl4, .ref vwl5, .ref vwl6, .ref vwl7, .ref vwl8, .ref vwl9, .ref vwl10, .int z_2])), (vwl1, .inl (cy 0, 7, .inl vwlf1)), (vwl4, .inl (cy 0, 7, .inl vwlf4)), (vwl5, .inl (cy 0, 7, .inl vwlf5))] := hD
    refine lv_iconst (v := 0) hx hb dX9_passYear_28 (by decide) ?_
    refine lv_istore_n (lv' := [(1, .int 0), (0, .ref vw)]) hx hb dX9_passYear_29 rfl hl (by decide) rfl (fun ls hl => ?_)
    have loop4 : ∀ (n4 : Nat) (x_5 : Int32) (g_6 : Nat → Int32) (g_7 : Nat → Int32) (g_8 : Nat → Int32), (0 ≤ x_5.toInt ∧ x_5.toInt ≤ 7) → Rg g_8 7 (-1) 9 → 7 - x_5.toInt < (n4 : Int) → ∀ (H : Heap) (locs : List Loc), va_P (dC, dI) vwCl [(vw, .inr (10, [.ref vwc, .ref vwl, .ref vws])), (vwc, .inr (2, [.ref vwc1, .ref vwc2, .ref vwc3, .ref vwc4, .ref vwc5, .int vwcm, .int vwcd, .int vwcr, .int vwcw])), (vwl, .inr (5, [.ref vwl1, .ref vwl2, .ref vwl3, .ref vwl4, .ref vwl5, .ref vwl6, .ref vwl7, .ref vwl8, .ref vwl9, .ref vwl10, .int z_2])), (vwl1, .inl (cy 0, 7, .inl g_6)), (vwl4, .inl (cy 0, 7, .inl g_7)), (vwl5, .inl (cy 0, 7, .inl g_8))] H → va_D A [(vw, .inr (10, [.ref vwc, .ref vwl, .ref vws])), (vwc, .inr (2, [.ref vwc1, .ref vwc2, .ref vwc3, .ref vwc4, .ref vwc5, .int vwcm, .int vwcd, .int vwcr, .int vwcw])), (vwl, .inr (5, [.ref vwl1, .ref vwl2, .ref vwl3, .ref vwl4, .ref vwl5, .ref vwl6, .ref vwl7, .ref vwl8, .ref vwl9, .ref vwl10, .int z_2])), (vwl1, .inl (cy 0, 7, .inl g_6)), (vwl4, .inl (cy 0, 7, .inl g_7)), (vwl5, .inl (cy 0, 7, .inl g_8))] → va_S A s.heap H locs → ∀ ls : Array Slot, lv_has ls 2 [(1, .int x_5), (0, .ref vw)] → W p l e ({ frames := 1, cells := 0, slots := 0, locals := 64 }) s m av9 below meth c H locs 0 0 Q9 (F0 m 30 ls []) := by
      intro n4
      induction n4 with
      | zero =>
        intro x_5 g_6 g_7 g_8 bx_5 p_g_8 hn4 H locs hP hD hS ls hl
        exfalso; omega
      | succ n4 ih4 =>
        intro x_5 g_6 g_7 g_8 bx_5 p_g_8 hn4 H locs hP hD hS ls hl
        refine lv_iload_n hx hb dX9_passYear_30 rfl (lv_at hl 0 rfl) ?_
        refine lv_aload_n hx hb dX9_passYear_31 rfl (lv_at hl 1 rfl) ?_
        refine gf_X9_12 hx hb hts hown hK hP 0 rfl rfl dX9_passYear_32 ?_
        refine gf_X9_65 hx hb hts hown hK hP 1 rfl rfl dX9_passYear_35 ?_
        refine lv_icmp_ge (tgt := 69) hx hb dX9_passYear_38 (by decide) (fun c_9 => ?_) (fun c_9 => ?_)
        · skip
          have c_9 : vwcm.toInt ≤ x_5.toInt := i_le.mp c_9
          refine lv_iconst (v := 1) hx hb dX9_passYear_69 (by decide) ?_
          rw [hQ9]
          exact re_z (z_2, g_6, g_7, g_8) hx hb hr hlocks (Or.inr rfl) ⟨(show ((1 : Int32) = 0) ∨ ((1 : Int32) = 1) from (Or.inr (rfl))), (show Rg g_8 7 (-1) 9 from p_g_8)⟩ (hP.sub [0, 1, 2, 3, 4, 5] rfl) (hD.sub [0, 1, 2, 3, 4, 5] rfl rfl) hS dX9_passYear_70
        · skip
          have c_9 : ¬ (vwcm.toInt ≤ x_5.toInt) := fun h9 => c_9 (i_le.mpr h9)
          refine lv_aload_n hx hb dX9_passYear_41 rfl (lv_at hl 1 rfl) ?_
          refine gf_X9_21 hx hb hts hown hK hP 0 rfl rfl dX9_passYear_42 ?_
          refine gf_X9_96 hx hb hts hown hK hP 2 rfl rfl dX9_passYear_45 ?_
          refine lv_iload_n hx hb dX9_passYear_48 rfl (lv_at hl 0 rfl) ?_
          refine lv_dup2_11 hx hb dX9_passYear_49 rfl rfl ?_
          have hin_10 : vp_in x_5 7 := vp_in_iff.mpr ⟨by omega, by omega⟩
          refine va_iald hx hb hK hP 3 0 rfl rfl hin_10 dX9_passYear_50 ?_
          refine lv_topi (fun z_11 ez_11 => ?_)
          refine lv_iconst (v := 1) hx hb dX9_passYear_51 (by decide) ?_
          refine lv_iadd hx hb dX9_passYear_52 ?_
          refine lv_topi (fun z_12 ez_12 => ?_)
          have hin_13 : vp_in x_5 7 := vp_in_iff.mpr ⟨by omega, by omega⟩
          refine va_iast hx hb hK hP hD hS 3 0 rfl rfl hin_13 dX9_passYear_53 (fun H locs hP hD hS => ?_)
          obtain ⟨f_14, ef_14⟩ : ∃ z : Nat → Int32, z = upd g_6 (Int32.toNatClampNeg x_5) z_12 := ⟨_, rfl⟩
          have hP : va_P (dC, dI) vwCl [(vw, .inr (10, [.ref vwc, .ref vwl, .ref vws])), (vwc, .inr (2, [.ref vwc1, .ref vwc2, .ref vwc3, .ref vwc4, .ref vwc5, .int vwcm, .int vwcd, .int vwcr, .int vwcw])), (vwl, .inr (5, [.ref vwl1, .ref vwl2, .ref vwl3, .ref vwl4, .ref vwl5, .ref vwl6, .ref vwl7, .ref vwl8, .ref vwl9, .ref vwl10, .int z_2])), (vwl1, .inl (cy 0, 7, .inl f_14)), (vwl4, .inl (cy 0, 7, .inl g_7)), (vwl5, .inl (cy 0, 7, .inl g_8))] H := by rw [ef_14]; exact hP
          have hD : va_D A [(vw, .inr (10, [.ref vwc, .ref vwl, .ref vws])), (vwc, .inr (2, [.ref vwc1, .ref vwc2, .ref vwc3, .ref vwc4, .ref vwc5, .int vwcm, .int vwcd, .int vwcr, .int vwcw])), (vwl, .inr (5, [.ref vwl1, .ref vwl2, .ref vwl3, .ref vwl4, .ref vwl5, .ref vwl6, .ref vwl7, .ref vwl8, .ref vwl9, .ref vwl10, .int z_2])), (vwl1, .inl (cy 0, 7, .inl f_14)), (vwl4, .inl (cy 0, 7, .inl g_7)), (vwl5, .inl (cy 0, 7, .inl g_8))] := by rw [ef_14]; exact hD
          refine lv_aload_n hx hb dX9_passYear_54 rfl (lv_at hl 1 rfl) ?_
          refine gf_X9_21 hx hb hts hown hK hP 0 rfl rfl dX9_passYear_55 ?_
          refine lv_iload_n hx hb dX9_passYear_58 rfl (lv_at hl 0 rfl) ?_
          refine jn_i (wr := [(vw, .inr (10, [.ref vwc, .ref vwl, .ref vws])), (vwc, .inr (2, [.ref vwc1, .ref vwc2, .ref vwc3, .ref vwc4, .ref vwc5, .int vwcm, .int vwcd, .int vwcr, .int vwcw])), (vwl1, .inl (cy 0, 7, .inl f_14))]) (rV (As := [.int x_5]) (rest := []) (ci := 5) ⟨hx, hb, hml, hown, hts⟩ (g_takeBack l dC dI cy _ vwl vwl1 vwl2 vwl3 vwl4 vwl5 vwl6 vwl7 vwl8 vwl9 vwl10 z_2 g_7 g_8 x_5 ⟨by omega, by omega⟩ p_g_8) (cw_X9_117 hts rfl rfl ⟨Nat.le_of_ble_eq_true rfl, Nat.le_of_ble_eq_true rfl⟩) hP hD hK [2, 4, 5] rfl rfl rfl rfl bl0 e0 rfl hl.1 rfl (Nat.le_of_ble_eq_true rfl) dX9_passYear_59 ⟨Nat.le_of_ble_eq_true rfl, Nat.le_of_ble_eq_true rfl⟩) hP hD hS hA [2, 4, 5] [0, 1, 3] rfl rfl rfl (by decide) (fun r_15 u_17 H locs hp_16 hP hD hS => ?_)
          obtain ⟨vlf4_18, vlf5_19⟩ := u_17
          have hp_16 : (0 ≤ (r_15 : Int32).toInt ∧ (r_15 : Int32).toInt ≤ 1) ∧ (Rg vlf5_19 7 (-1) 9) := hp_16
          obtain ⟨q_20, q_21⟩ := hp_16
          have hP : va_P (dC, dI) vwCl [(vw, .inr (10, [.ref vwc, .ref vwl, .ref vws])), (vwc, .inr (2, [.ref vwc1, .ref vwc2, .ref vwc3, .ref vwc4, .ref vwc5, .int vwcm, .int vwcd, .int vwcr, .int vwcw])), (vwl1, .inl (cy 0, 7, .inl f_14)), (vwl, .inr (5, [.ref vwl1, .ref vwl2, .ref vwl3, .ref vwl4, .ref vwl5, .ref vwl6, .ref vwl7, .ref vwl8, .ref vwl9, .ref vwl10, .int z_2])), (vwl4, .inl (cy 0, 7, .inl vlf4_18)), (vwl5, .inl (cy 0, 7, .inl vlf5_19))] H := hP
          have hD : va_D A [(vw, .inr (10, [.ref vwc, .ref vwl, .ref vws])), (vwc, .inr (2, [.ref vwc1, .ref vwc2, .ref vwc3, .ref vwc4, .ref vwc5, .int vwcm, .int vwcd, .int vwcr, .int vwcw])), (vwl1, .inl (cy 0, 7, .inl f_14)), (vwl, .inr (5, [.ref vwl1, .ref vwl2, .ref vwl3, .ref vwl4, .ref vwl5, .ref vwl6, .ref vwl7, .ref vwl8, .ref vwl9, .ref vwl10, .int z_2])), (vwl4, .inl (cy 0, 7, .inl vlf4_18)), (vwl5, .inl (cy 0, 7, .inl vlf5_19))] := hD
          refine lv_pop hx hb dX9_passYear_62 rfl ?_
          obtain ⟨z_22, ez_22⟩ : ∃ z : Int32, z = x_5 + 1 := ⟨_, rfl⟩
          have bz_22 : z_22.toInt = x_5.toInt + (1 : Int32).toInt := i_add ez_22 (by omega) (by omega)
          refine lv_iinc (v := z_22) (lv' := [(1, .int z_22), (0, .ref vw)]) hx hb dX9_passYear_63 hl (k := 0) rfl ez_22.symm (by decide) rfl (fun ls hl => ?_)
          refine lv_goto (tgt := 30) hx hb dX9_passYear_66 (by decide) ?_
          exact ih4 z_22 f_14 vlf4_18 vlf5_19 ⟨by omega, by omega⟩ q_21 (by omega) _ _ (hP.sub [0, 1, 3, 2, 4, 5] rfl) (hD.sub [0, 1, 3, 2, 4, 5] rfl rfl) hS ls (lv_sub hl [0, 1] rfl)
    have k_0 : (0 : Int32).toInt = 0 := by decide
    exact loop4 ((7 - (0 : Int32).toInt).toNat + 1) 0 vwlf1 vwlf4 vwlf5 ⟨by omega, by omega⟩ p_vwlf5 (by omega) _ _ hP hD hS ls (lv_sub hl [0, 1] rfl)
  · skip
    have c_1 : ¬ (vwly.toInt < (200 : Int32).toInt) := fun h9 => c_1 (i_lt.mpr h9)
    refine lv_iconst (v := 0) hx hb dX9_passYear_13 (by decide) ?_
    have k_0 : (0 : Int32).toInt = 0 := by decide
    rw [hQ9]
    exact re_z (vwly, vwlf1, vwlf4, vwlf5) hx hb hr hlocks (Or.inl rfl) ⟨(show ((0 : Int32) = 0) ∨ ((0 : Int32) = 1) from (Or.inl rfl)), (show Rg vwlf5 7 (-1) 9 from p_vwlf5)⟩ (hP.sub [0, 1, 2, 3, 4, 5] rfl) (hD.sub [0, 1, 2, 3, 4, 5] rfl rfl) hS dX9_passYear_14
abbrev cX9_nextDraw : ByteArray := prog_11_method_18_code
def yX9_nextDraw : MethodName := ⟨RX9, "nextDraw", "(I)I"⟩
theorem t1177 : Cond.code yX9_nextDraw cX9_nextDraw 1 (some .int) ∈ GW := gw_mem 1291 (by decide +kernel) (by decide +kernel)
theorem dX9_nextDraw_0 : decode cX9_nextDraw 0 = .ok (.iload_n 0, 1) := by decide +kernel
theorem dX9_nextDraw_1 : decode cX9_nextDraw 1 = .ok (.ldc 144, 2) := by decide +kernel
theorem t1178 : Cond.constant RX9 144 1103515245 ∈ GW := gw_mem 1292 (by decide +kernel) (by decide +kernel)
theorem dX9_nextDraw_3 : decode cX9_nextDraw 3 = .ok (.imul, 1) := by decide +kernel
theorem dX9_nextDraw_4 : decode cX9_nextDraw 4 = .ok (.sipush 12345, 3) := by decide +kernel
theorem dX9_nextDraw_7 : decode cX9_nextDraw 7 = .ok (.iadd, 1) := by decide +kernel
theorem dX9_nextDraw_8 : decode cX9_nextDraw 8 = .ok (.ireturn, 1) := by decide +kernel
set_option maxHeartbeats 4000000 in
set_option maxRecDepth 100000 in
theorem g_nextDraw (l : Launch) (dC : Nat → ClassId) (dI : Nat → Nat → Nat) (cy : Nat → ClassId) (vx : Int32)  : Met l yX9_nextDraw (wl yX9_nextDraw cX9_nextDraw 1 (some .int)) ({ frames := 0, cells := 0, slots := 0, locals := 0 }) (Pr (dC, dI) vwCl cy [] [.int vx]) (Ri (fun r => True)) 0 0 (fun _ => False) := by
  refine mr RX9 rfl (by decide +kernel) (Nat.le_of_ble_eq_true rfl) ?_
  intro p e s m below meth c hx hb hr hlocks av9 hav hts hown hml hK hP hS Q9 hQ9 ls hl
  have hl : lv_has ls 1 [(0, .int vx)] := hl
  refine lv_iload_n hx hb dX9_nextDraw_0 rfl (lv_at hl 0 rfl) ?_
  refine lv_ldc hx hb hown (hts _ t1178) dX9_nextDraw_1 ?_
  refine lv_imul hx hb dX9_nextDraw_3 ?_
  refine lv_topi (fun z_1 ez_1 => ?_)
  refine lv_sipush (v := 12345) hx hb dX9_nextDraw_4 (by decide) ?_
  refine lv_iadd hx hb dX9_nextDraw_7 ?_
  refine lv_topi (fun z_2 ez_2 => ?_)
  rw [hQ9]
  exact rr_i hx hb hr hlocks trivial hS dX9_nextDraw_8
abbrev cX9_drawOf : ByteArray := prog_11_method_19_code
def yX9_drawOf : MethodName := ⟨RX9, "drawOf", "(II)I"⟩
theorem t1181 : Cond.code yX9_drawOf cX9_drawOf 2 (some .int) ∈ GW := gw_mem 1295 (by decide +kernel) (by decide +kernel)
theorem dX9_drawOf_0 : decode cX9_drawOf 0 = .ok (.iload_n 0, 1) := by decide +kernel
theorem dX9_drawOf_1 : decode cX9_drawOf 1 = .ok (.ifCond .le 12, 3) := by decide +kernel
theorem dX9_drawOf_13 : decode cX9_drawOf 13 = .ok (.iconst 0, 1) := by decide +kernel
theorem dX9_drawOf_14 : decode cX9_drawOf 14 = .ok (.ireturn, 1) := by decide +kernel
theorem dX9_drawOf_4 : decode cX9_drawOf 4 = .ok (.iload_n 1, 1) := by decide +kernel
theorem dX9_drawOf_5 : decode cX9_drawOf 5 = .ok (.bipush 8, 2) := by decide +kernel
theorem dX9_drawOf_7 : decode cX9_drawOf 7 = .ok (.iushr, 1) := by decide +kernel
theorem dX9_drawOf_8 : decode cX9_drawOf 8 = .ok (.iload_n 0, 1) := by decide +kernel
theorem dX9_drawOf_9 : decode cX9_drawOf 9 = .ok (.irem, 1) := by decide +kernel
theorem dX9_drawOf_10 : decode cX9_drawOf 10 = .ok (.goto 4, 3) := by decide +kernel
set_option maxHeartbeats 4000000 in
set_option maxRecDepth 100000 in
theorem g_drawOf (l : Launch) (dC : Nat → ClassId) (dI : Nat → Nat → Nat) (cy : Nat → ClassId) (vn : Int32) (vx : Int32) (r_vn : 0 ≤ (vn : Int32).toInt ∧ (vn : Int32).toInt ≤ 10) : Met l yX9_drawOf (wl yX9_drawOf cX9_drawOf 2 (some .int)) ({ frames := 0, cells := 0, slots := 0, locals := 0 }) (Pr (dC, dI) vwCl cy [] [.int vn, .int vx]) (Ri (fun r => (0 ≤ (r : Int32).toInt ∧ (r : Int32).toInt ≤ 9) ∧ ((r : Int32).toInt < (vn : Int32).toInt ∨ (r : Int32).toInt = 0))) 0 0 (fun _ => False) := by
  refine mr RX9 rfl (by decide +kernel) (Nat.le_of_ble_eq_true rfl) ?_
  intro p e s m below meth c hx hb hr hlocks av9 hav hts hown hml hK hP hS Q9 hQ9 ls hl
  have hl : lv_has ls 2 [(0, .int vn), (1, .int vx)] := hl
  refine lv_iload_n hx hb dX9_drawOf_0 rfl (lv_at hl 0 rfl) ?_
  have k_0 : (0 : Int32).toInt = 0 := by decide
  refine lv_if_le (tgt := 13) hx hb dX9_drawOf_1 (by decide) (fun c_1 => ?_) (fun c_1 => ?_)
  · skip
    have c_1 : vn.toInt ≤ (0 : Int32).toInt := i_le.mp c_1
    refine lv_iconst (v := 0) hx hb dX9_drawOf_13 (by decide) ?_
    rw [hQ9]
    exact rr_i hx hb hr hlocks ⟨(show 0 ≤ ((0 : Int32) : Int32).toInt ∧ ((0 : Int32) : Int32).toInt ≤ 9 from ⟨by omega, by omega⟩), (show ((0 : Int32) : Int32).toInt < (vn : Int32).toInt ∨ ((0 : Int32) : Int32).toInt = 0 from (by omega))⟩ hS dX9_drawOf_14
  · skip
    have c_1 : ¬ (vn.toInt ≤ (0 : Int32).toInt) := fun h9 => c_1 (i_le.mpr h9)
    refine lv_iload_n hx hb dX9_drawOf_4 rfl (lv_at hl 1 rfl) ?_
    refine lv_bipush (v := 8) hx hb dX9_drawOf_5 (by decide) ?_
    obtain ⟨z_2, ez_2⟩ : ∃ z : Int32, (Int32.toUInt32 vx >>> (Int32.toUInt32 8 &&& Int32.toUInt32 31)).toInt32 = z := ⟨_, rfl⟩
    refine lv_iushr (v := z_2) hx hb dX9_drawOf_7 ez_2 ?_
    have bz_2 : 0 ≤ z_2.toInt ∧ z_2.toInt ≤ 16777215 := i_ushr8 ez_2
    refine lv_iload_n hx hb dX9_drawOf_8 rfl (lv_at hl 0 rfl) ?_
    refine lv_irem hx hb dX9_drawOf_9 (fun h9 => absurd (i_eq.mp h9) (by have := k_0; omega)) ?_
    refine lv_topi (fun z_3 ez_3 => ?_)
    have bz_3 : 0 ≤ z_3.toInt ∧ z_3.toInt < vn.toInt := i_rem ez_3 (by omega) (by omega)
    refine lv_goto (tgt := 14) hx hb dX9_drawOf_10 (by decide) ?_
    rw [hQ9]
    exact rr_i hx hb hr hlocks ⟨(show 0 ≤ (z_3 : Int32).toInt ∧ (z_3 : Int32).toInt ≤ 9 from ⟨by omega, by omega⟩), (show (z_3 : Int32).toInt < (vn : Int32).toInt ∨ (z_3 : Int32).toInt = 0 from (by omega))⟩ hS dX9_drawOf_14
abbrev cX9_drawAct : ByteArray := prog_11_method_17_code
def yX9_drawAct : MethodName := ⟨RX9, "drawAct", "(II)I"⟩
theorem t1174 : Cond.code yX9_drawAct cX9_drawAct 7 (some .int) ∈ GW := gw_mem 1288 (by decide +kernel) (by decide +kernel)
abbrev O_g_drawAct (cy : Nat → ClassId) (vw : Nat) (vwc : Nat) (vwl : Nat) (vws : Nat) (vwc1 : Nat) (vwc2 : Nat) (vwc3 : Nat) (vwc4 : Nat) (vwc5 : Nat) (vwcm : Int32) (vwcd : Int32) (vwcr : Int32) (vwcw : Int32) (vwcf3 : Nat → Int32) (vwcf4 : Nat → Int32) (vwcf5 : Nat → Int32) (vwl1 : Nat) (vwl2 : Nat) (vwl3 : Nat) (vwl4 : Nat) (vwl5 : Nat) (vwl6 : Nat) (vwl7 : Nat) (vwl8 : Nat) (vwl9 : Nat) (vwl10 : Nat) (vwly : Int32) (vwlf1 : Nat → Int32) (vwlf2 : Nat → Int32) (vwlf3 : Nat → Int32) (vwlf4 : Nat → Int32) (vwlf5 : Nat → Int32) (vwlf6 : Nat → Int32) (vwlf7 : Nat → Int32) (vwlf8 : Nat → Int32) (vwlf9 : Nat → Int32) (vwlf10 : Nat → Int32) (vm : Int32) (vx : Int32) (u : (Nat → Int32) × (Nat → Int32) × (Nat → Int32) × (Nat → Int32) × (Nat → Int32) × (Nat → Int32) × (Nat → Int32) × (Nat → Int32)) : va_W := [(vw, .inr (10, [.ref vwc, .ref vwl, .ref vws])), (vwc, .inr (2, [.ref vwc1, .ref vwc2, .ref vwc3, .ref vwc4, .ref vwc5, .int vwcm, .int vwcd, .int vwcr, .int vwcw])), (vwc3, .inl (cy 0, 10, .inl vwcf3)), (vwc4, .inl (cy 2, 10, .inl vwcf4)), (vwc5, .inl (cy 0, 7, .inl vwcf5)), (vwl, .inr (5, [.ref vwl1, .ref vwl2, .ref vwl3, .ref vwl4, .ref vwl5, .ref vwl6, .ref vwl7, .ref vwl8, .ref vwl9, .ref vwl10, .int vwly])), (vwl1, .inl (cy 0, 7, .inl vwlf1)), (vwl2, .inl (cy 0, 70, .inl u.1)), (vwl3, .inl (cy 0, 49, .inl vwlf3)), (vwl4, .inl (cy 0, 7, .inl u.2.1)), (vwl5, .inl (cy 0, 7, .inl u.2.2.1)), (vwl6, .inl (cy 0, 7, .inl u.2.2.2.1)), (vwl7, .inl (cy 0, 7, .inl u.2.2.2.2.1)), (vwl8, .inl (cy 0, 7, .inl u.2.2.2.2.2.1)), (vwl9, .inl (cy 0, 7, .inl u.2.2.2.2.2.2.1)), (vwl10, .inl (cy 0, 7, .inl u.2.2.2.2.2.2.2))]
theorem dX9_drawAct_0 : decode cX9_drawAct 0 = .ok (.iload_n 2, 1) := by decide +kernel
theorem dX9_drawAct_1 : decode cX9_drawAct 1 = .ok (.invokestatic 128, 3) := by decide +kernel
theorem t1175 : Cond.methodLink RX9 128 yX9_nextDraw ∈ GW := gw_mem 1289 (by decide +kernel) (by decide +kernel)
theorem t1176 : Cond.static yX9_nextDraw ∈ GW := gw_mem 1290 (by decide +kernel) (by decide +kernel)
theorem cw_X9_128 {R : Room} {s : State} {args : Array Value} {rm : Room} {mc ms : Nat} (hts : ∀ w ∈ GW, w.before args s = true) (hrc : rm.cells = mc) (hrs : rm.slots = ms) (hR : rm.frames + 1 ≤ R.frames ∧ 8 + (1 + 11) + rm.locals ≤ R.locals) : CallB R s args RX9 128 yX9_nextDraw cX9_nextDraw 1 (some .int) (wl yX9_nextDraw cX9_nextDraw 1 (some .int)) rm mc ms 1 ∧ (Cond.static yX9_nextDraw).before args s = true := va_cwS 1 hts (gi_S t1175 t1176 t15 t1177) rfl hrc hrs (by decide +kernel) hR
theorem dX9_drawAct_4 : decode cX9_drawAct 4 = .ok (.istore_n 3, 1) := by decide +kernel
theorem dX9_drawAct_5 : decode cX9_drawAct 5 = .ok (.bipush 6, 2) := by decide +kernel
theorem dX9_drawAct_7 : decode cX9_drawAct 7 = .ok (.iload_n 3, 1) := by decide +kernel
theorem dX9_drawAct_8 : decode cX9_drawAct 8 = .ok (.invokestatic 131, 3) := by decide +kernel
theorem t1179 : Cond.methodLink RX9 131 yX9_drawOf ∈ GW := gw_mem 1293 (by decide +kernel) (by decide +kernel)
theorem t1180 : Cond.static yX9_drawOf ∈ GW := gw_mem 1294 (by decide +kernel) (by decide +kernel)
theorem cw_X9_131 {R : Room} {s : State} {args : Array Value} {rm : Room} {mc ms : Nat} (hts : ∀ w ∈ GW, w.before args s = true) (hrc : rm.cells = mc) (hrs : rm.slots = ms) (hR : rm.frames + 1 ≤ R.frames ∧ 8 + (2 + 11) + rm.locals ≤ R.locals) : CallB R s args RX9 131 yX9_drawOf cX9_drawOf 2 (some .int) (wl yX9_drawOf cX9_drawOf 2 (some .int)) rm mc ms 2 ∧ (Cond.static yX9_drawOf).before args s = true := va_cwS 2 hts (gi_S t1179 t1180 t15 t1181) rfl hrc hrs (by decide +kernel) hR
theorem dX9_drawAct_11 : decode cX9_drawAct 11 = .ok (.istore 4, 2) := by decide +kernel
theorem dX9_drawAct_13 : decode cX9_drawAct 13 = .ok (.iload 4, 2) := by decide +kernel
theorem dX9_drawAct_15 : decode cX9_drawAct 15 = .ok (.iconst 3, 1) := by decide +kernel
theorem dX9_drawAct_16 : decode cX9_drawAct 16 = .ok (.if_icmp .ne 9, 3) := by decide +kernel
theorem dX9_drawAct_25 : decode cX9_drawAct 25 = .ok (.iload 4, 2) := by decide +kernel
theorem dX9_drawAct_27 : decode cX9_drawAct 27 = .ok (.iconst 2, 1) := by decide +kernel
theorem dX9_drawAct_28 : decode cX9_drawAct 28 = .ok (.if_icmp .le 5, 3) := by decide +kernel
theorem dX9_drawAct_33 : decode cX9_drawAct 33 = .ok (.iconst (-1), 1) := by decide +kernel
theorem dX9_drawAct_34 : decode cX9_drawAct 34 = .ok (.istore 5, 2) := by decide +kernel
theorem dX9_drawAct_36 : decode cX9_drawAct 36 = .ok (.iload 4, 2) := by decide +kernel
theorem dX9_drawAct_38 : decode cX9_drawAct 38 = .ok (.iconst 2, 1) := by decide +kernel
theorem dX9_drawAct_39 : decode cX9_drawAct 39 = .ok (.if_icmp .ne 21, 3) := by decide +kernel
theorem dX9_drawAct_60 : decode cX9_drawAct 60 = .ok (.aload_n 0, 1) := by decide +kernel
theorem dX9_drawAct_61 : decode cX9_drawAct 61 = .ok (.getfield 12, 3) := by decide +kernel
theorem dX9_drawAct_64 : decode cX9_drawAct 64 = .ok (.getfield 50, 3) := by decide +kernel
theorem dX9_drawAct_67 : decode cX9_drawAct 67 = .ok (.ifCond .ne 5, 3) := by decide +kernel
theorem dX9_drawAct_72 : decode cX9_drawAct 72 = .ok (.iload_n 3, 1) := by decide +kernel
theorem dX9_drawAct_73 : decode cX9_drawAct 73 = .ok (.invokestatic 128, 3) := by decide +kernel
theorem dX9_drawAct_76 : decode cX9_drawAct 76 = .ok (.istore_n 3, 1) := by decide +kernel
theorem dX9_drawAct_77 : decode cX9_drawAct 77 = .ok (.aload_n 0, 1) := by decide +kernel
theorem dX9_drawAct_78 : decode cX9_drawAct 78 = .ok (.getfield 12, 3) := by decide +kernel
theorem dX9_drawAct_81 : decode cX9_drawAct 81 = .ok (.getfield 50, 3) := by decide +kernel
theorem dX9_drawAct_84 : decode cX9_drawAct 84 = .ok (.iload_n 3, 1) := by decide +kernel
theorem dX9_drawAct_85 : decode cX9_drawAct 85 = .ok (.invokestatic 131, 3) := by decide +kernel
theorem dX9_drawAct_88 : decode cX9_drawAct 88 = .ok (.istore 6, 2) := by decide +kernel
theorem dX9_drawAct_90 : decode cX9_drawAct 90 = .ok (.iload 4, 2) := by decide +kernel
theorem dX9_drawAct_92 : decode cX9_drawAct 92 = .ok (.iconst 2, 1) := by decide +kernel
theorem dX9_drawAct_93 : decode cX9_drawAct 93 = .ok (.if_icmp .ne 16, 3) := by decide +kernel
theorem dX9_drawAct_109 : decode cX9_drawAct 109 = .ok (.aload_n 0, 1) := by decide +kernel
theorem dX9_drawAct_110 : decode cX9_drawAct 110 = .ok (.getfield 21, 3) := by decide +kernel
theorem dX9_drawAct_113 : decode cX9_drawAct 113 = .ok (.iload_n 1, 1) := by decide +kernel
theorem dX9_drawAct_114 : decode cX9_drawAct 114 = .ok (.iload 6, 2) := by decide +kernel
theorem dX9_drawAct_116 : decode cX9_drawAct 116 = .ok (.invokevirtual 141, 3) := by decide +kernel
theorem t1184 : Cond.methodLink RX9 141 yX4_doDeed ∈ GW := gw_mem 1298 (by decide +kernel) (by decide +kernel)
theorem t771 : Cond.instanceMethod yX4_doDeed ∈ GW := gw_mem 885 (by decide +kernel) (by decide +kernel)
theorem t772 : Cond.selects RX4 yX4_doDeed yX4_doDeed ∈ GW := gw_mem 886 (by decide +kernel) (by decide +kernel)
theorem cw_X9_141 {R : Room} {s : State} {args : Array Value} {rm : Room} {mc ms : Nat} (hts : ∀ w ∈ GW, w.before args s = true) (hrc : rm.cells = mc) (hrs : rm.slots = ms) (hR : rm.frames + 1 ≤ R.frames ∧ 8 + (3 + 11) + rm.locals ≤ R.locals) : CallW R s args RX9 RX4 141 yX4_doDeed cX4_doDeed 3 (some .int) (wl yX4_doDeed cX4_doDeed 3 (some .int)) rm mc ms 2 := cwV 2 hts (gi_V t1184 t771 t772 t10 t773) rfl hrc hrs (by decide +kernel) hR
theorem dX9_drawAct_119 : decode cX9_drawAct 119 = .ok (.pop, 1) := by decide +kernel
theorem dX9_drawAct_120 : decode cX9_drawAct 120 = .ok (.iload_n 3, 1) := by decide +kernel
theorem dX9_drawAct_121 : decode cX9_drawAct 121 = .ok (.ireturn, 1) := by decide +kernel
theorem dX9_drawAct_70 : decode cX9_drawAct 70 = .ok (.iload_n 3, 1) := by decide +kernel
theorem dX9_drawAct_71 : decode cX9_drawAct 71 = .ok (.ireturn, 1) := by decide +kernel
theorem dX9_drawAct_42 : decode cX9_drawAct 42 = .ok (.iload_n 3, 1) := by decide +kernel
theorem dX9_drawAct_43 : decode cX9_drawAct 43 = .ok (.invokestatic 128, 3) := by decide +kernel
theorem dX9_drawAct_46 : decode cX9_drawAct 46 = .ok (.istore_n 3, 1) := by decide +kernel
theorem dX9_drawAct_47 : decode cX9_drawAct 47 = .ok (.aload_n 0, 1) := by decide +kernel
theorem dX9_drawAct_48 : decode cX9_drawAct 48 = .ok (.getfield 12, 3) := by decide +kernel
theorem dX9_drawAct_51 : decode cX9_drawAct 51 = .ok (.getfield 65, 3) := by decide +kernel
theorem dX9_drawAct_54 : decode cX9_drawAct 54 = .ok (.iload_n 3, 1) := by decide +kernel
theorem dX9_drawAct_55 : decode cX9_drawAct 55 = .ok (.invokestatic 131, 3) := by decide +kernel
theorem dX9_drawAct_58 : decode cX9_drawAct 58 = .ok (.istore 5, 2) := by decide +kernel
theorem dX9_drawAct_96 : decode cX9_drawAct 96 = .ok (.aload_n 0, 1) := by decide +kernel
theorem dX9_drawAct_97 : decode cX9_drawAct 97 = .ok (.iload_n 1, 1) := by decide +kernel
theorem dX9_drawAct_98 : decode cX9_drawAct 98 = .ok (.iload 5, 2) := by decide +kernel
theorem dX9_drawAct_100 : decode cX9_drawAct 100 = .ok (.iload 6, 2) := by decide +kernel
theorem dX9_drawAct_102 : decode cX9_drawAct 102 = .ok (.invokevirtual 137, 3) := by decide +kernel
theorem t1183 : Cond.methodLink RX9 137 yX9_lendDeed ∈ GW := gw_mem 1297 (by decide +kernel) (by decide +kernel)
theorem t790 : Cond.instanceMethod yX9_lendDeed ∈ GW := gw_mem 904 (by decide +kernel) (by decide +kernel)
theorem t791 : Cond.selects RX9 yX9_lendDeed yX9_lendDeed ∈ GW := gw_mem 905 (by decide +kernel) (by decide +kernel)
theorem cw_X9_137 {R : Room} {s : State} {args : Array Value} {rm : Room} {mc ms : Nat} (hts : ∀ w ∈ GW, w.before args s = true) (hrc : rm.cells = mc) (hrs : rm.slots = ms) (hR : rm.frames + 1 ≤ R.frames ∧ 8 + (4 + 11) + rm.locals ≤ R.locals) : CallW R s args RX9 RX9 137 yX9_lendDeed cX9_lendDeed 4 (some .int) (wl yX9_lendDeed cX9_lendDeed 4 (some .int)) rm mc ms 3 := cwV 3 hts (gi_V t1183 t790 t791 t15 t792) rfl hrc hrs (by decide +kernel) hR
theorem dX9_drawAct_105 : decode cX9_drawAct 105 = .ok (.pop, 1) := by decide +kernel
theorem dX9_drawAct_106 : decode cX9_drawAct 106 = .ok (.goto 14, 3) := by decide +kernel
theorem dX9_drawAct_31 : decode cX9_drawAct 31 = .ok (.iload_n 3, 1) := by decide +kernel
theorem dX9_drawAct_32 : decode cX9_drawAct 32 = .ok (.ireturn, 1) := by decide +kernel
theorem dX9_drawAct_19 : decode cX9_drawAct 19 = .ok (.aload_n 0, 1) := by decide +kernel
theorem dX9_drawAct_20 : decode cX9_drawAct 20 = .ok (.iload_n 1, 1) := by decide +kernel
theorem dX9_drawAct_21 : decode cX9_drawAct 21 = .ok (.invokevirtual 134, 3) := by decide +kernel
theorem t1182 : Cond.methodLink RX9 134 yX9_sitDown ∈ GW := gw_mem 1296 (by decide +kernel) (by decide +kernel)
theorem t826 : Cond.instanceMethod yX9_sitDown ∈ GW := gw_mem 940 (by decide +kernel) (by decide +kernel)
theorem t827 : Cond.selects RX9 yX9_sitDown yX9_sitDown ∈ GW := gw_mem 941 (by decide +kernel) (by decide +kernel)
theorem cw_X9_134 {R : Room} {s : State} {args : Array Value} {rm : Room} {mc ms : Nat} (hts : ∀ w ∈ GW, w.before args s = true) (hrc : rm.cells = mc) (hrs : rm.slots = ms) (hR : rm.frames + 1 ≤ R.frames ∧ 8 + (3 + 11) + rm.locals ≤ R.locals) : CallW R s args RX9 RX9 134 yX9_sitDown cX9_sitDown 3 (some .int) (wl yX9_sitDown cX9_sitDown 3 (some .int)) rm mc ms 1 := cwV 1 hts (gi_V t1182 t826 t827 t15 t828) rfl hrc hrs (by decide +kernel) hR
theorem dX9_drawAct_24 : decode cX9_drawAct 24 = .ok (.pop, 1) := by decide +kernel
set_option maxHeartbeats 4000000 in
set_option maxRecDepth 100000 in
theorem g_drawAct (l : Launch) (dC : Nat → ClassId) (dI : Nat → Nat → Nat) (cy : Nat → ClassId) (sz : Nat) (vw : Nat) (vwc : Nat) (vwl : Nat) (vws : Nat) (vwc1 : Nat) (vwc2 : Nat) (vwc3 : Nat) (vwc4 : Nat) (vwc5 : Nat) (vwcm : Int32) (vwcd : Int32) (vwcr : Int32) (vwcw : Int32) (vwcf3 : Nat → Int32) (vwcf4 : Nat → Int32) (vwcf5 : Nat → Int32) (vwl1 : Nat) (vwl2 : Nat) (vwl3 : Nat) (vwl4 : Nat) (vwl5 : Nat) (vwl6 : Nat) (vwl7 : Nat) (vwl8 : Nat) (vwl9 : Nat) (vwl10 : Nat) (vwly : Int32) (vwlf1 : Nat → Int32) (vwlf2 : Nat → Int32) (vwlf3 : Nat → Int32) (vwlf4 : Nat → Int32) (vwlf5 : Nat → Int32) (vwlf6 : Nat → Int32) (vwlf7 : Nat → Int32) (vwlf8 : Nat → Int32) (vwlf9 : Nat → Int32) (vwlf10 : Nat → Int32) (vm : Int32) (vx : Int32) (r_vwcm : 0 ≤ (vwcm : Int32).toInt ∧ (vwcm : Int32).toInt ≤ 7) (r_vwcd : 0 ≤ (vwcd : Int32).toInt ∧ (vwcd : Int32).toInt ≤ 10) (r_vm : 0 ≤ (vm : Int32).toInt ∧ (vm : Int32).toInt ≤ 6) (p_vwcf3 : Rg vwcf3 10 0 40) (p_vwlf2 : Rg vwlf2 70 0 9) (p_vwlf5 : Rg vwlf5 7 (-1) 9) : Met l yX9_drawAct (wl yX9_drawAct cX9_drawAct 7 (some .int)) ({ frames := 3, cells := 0, slots := 0, locals := 192 }) (Pw (dC, dI) vwCl cy [(vw, .inr (10, [.ref vwc, .ref vwl, .ref vws])), (vwc, .inr (2, [.ref vwc1, .ref vwc2, .ref vwc3, .ref vwc4, .ref vwc5, .int vwcm, .int vwcd, .int vwcr, .int vwcw])), (vwc3, .inl (cy 0, 10, .inl vwcf3)), (vwc4, .inl (cy 2, 10, .inl vwcf4)), (vwc5, .inl (cy 0, 7, .inl vwcf5)), (vwl, .inr (5, [.ref vwl1, .ref vwl2, .ref vwl3, .ref vwl4, .ref vwl5, .ref vwl6, .ref vwl7, .ref vwl8, .ref vwl9, .ref vwl10, .int vwly])), (vwl1, .inl (cy 0, 7, .inl vwlf1)), (vwl2, .inl (cy 0, 70, .inl vwlf2)), (vwl3, .inl (cy 0, 49, .inl vwlf3)), (vwl4, .inl (cy 0, 7, .inl vwlf4)), (vwl5, .inl (cy 0, 7, .inl vwlf5)), (vwl6, .inl (cy 0, 7, .inl vwlf6)), (vwl7, .inl (cy 0, 7, .inl vwlf7)), (vwl8, .inl (cy 0, 7, .inl vwlf8)), (vwl9, .inl (cy 0, 7, .inl vwlf9)), (vwl10, .inl (cy 0, 7, .inl vwlf10))] sz [.ref vw, .int vm, .int vx] nE) (Qi (dC, dI) vwCl (fun (r : Int32) (u : (Nat → Int32) × (Nat → Int32) × (Nat → Int32) × (Nat → Int32) × (Nat → Int32) × (Nat → Int32) × (Nat → Int32) × (Nat → Int32)) => (Rg u.1 70 0 9) ∧ (Rg u.2.2.1 7 (-1) 9)) (O_g_drawAct cy vw vwc vwl vws vwc1 vwc2 vwc3 vwc4 vwc5 vwcm vwcd vwcr vwcw vwcf3 vwcf4 vwcf5 vwl1 vwl2 vwl3 vwl4 vwl5 vwl6 vwl7 vwl8 vwl9 vwl10 vwly vwlf1 vwlf2 vwlf3 vwlf4 vwlf5 vwlf6 vwlf7 vwlf8 vwlf9 vwlf10 vm vx) (va_A [(vw, .inr (10, [.ref vwc, .ref vwl, .ref vws])), (vwc, .inr (2, [.ref vwc1, .ref vwc2, .ref vwc3, .ref vwc4, .ref vwc5, .int vwcm, .int vwcd, .int vwcr, .int vwcw])), (vwc3, .inl (cy 0, 10, .inl vwcf3)), (vwc4, .inl (cy 2, 10, .inl vwcf4)), (vwc5, .inl (cy 0, 7, .inl vwcf5)), (vwl, .inr (5, [.ref vwl1, .ref vwl2, .ref vwl3, .ref vwl4, .ref vwl5, .ref vwl6, .ref vwl7, .ref vwl8, .ref vwl9, .ref vwl10, .int vwly])), (vwl1, .inl (cy 0, 7, .inl vwlf1)), (vwl2, .inl (cy 0, 70, .inl vwlf2)), (vwl3, .inl (cy 0, 49, .inl vwlf3)), (vwl4, .inl (cy 0, 7, .inl vwlf4)), (vwl5, .inl (cy 0, 7, .inl vwlf5)), (vwl6, .inl (cy 0, 7, .inl vwlf6)), (vwl7, .inl (cy 0, 7, .inl vwlf7)), (vwl8, .inl (cy 0, 7, .inl vwlf8)), (vwl9, .inl (cy 0, 7, .inl vwlf9)), (vwl10, .inl (cy 0, 7, .inl vwlf10))] sz)) 0 0 (va_A [(vw, .inr (10, [.ref vwc, .ref vwl, .ref vws])), (vwc, .inr (2, [.ref vwc1, .ref vwc2, .ref vwc3, .ref vwc4, .ref vwc5, .int vwcm, .int vwcd, .int vwcr, .int vwcw])), (vwc3, .inl (cy 0, 10, .inl vwcf3)), (vwc4, .inl (cy 2, 10, .inl vwcf4)), (vwc5, .inl (cy 0, 7, .inl vwcf5)), (vwl, .inr (5, [.ref vwl1, .ref vwl2, .ref vwl3, .ref vwl4, .ref vwl5, .ref vwl6, .ref vwl7, .ref vwl8, .ref vwl9, .ref vwl10, .int vwly])), (vwl1, .inl (cy 0, 7, .inl vwlf1)), (vwl2, .inl (cy 0, 70, .inl vwlf2)), (vwl3, .inl (cy 0, 49, .inl vwlf3)), (vwl4, .inl (cy 0, 7, .inl vwlf4)), (vwl5, .inl (cy 0, 7, .inl vwlf5)), (vwl6, .inl (cy 0, 7, .inl vwlf6)), (vwl7, .inl (cy 0, 7, .inl vwlf7)), (vwl8, .inl (cy 0, 7, .inl vwlf8)), (vwl9, .inl (cy 0, 7, .inl vwlf9)), (vwl10, .inl (cy 0, 7, .inl vwlf10))] sz) := by
  refine mw (Qc := Qi (dC, dI) vwCl (fun (r : Int32) (u : (Nat → Int32) × (Nat → Int32) × (Nat → Int32) × (Nat → Int32) × (Nat → Int32) × (Nat → Int32) × (Nat → Int32) × (Nat → Int32)) => (Rg u.1 70 0 9) ∧ (Rg u.2.2.1 7 (-1) 9)) (O_g_drawAct cy vw vwc vwl vws vwc1 vwc2 vwc3 vwc4 vwc5 vwcm vwcd vwcr vwcw vwcf3 vwcf4 vwcf5 vwl1 vwl2 vwl3 vwl4 vwl5 vwl6 vwl7 vwl8 vwl9 vwl10 vwly vwlf1 vwlf2 vwlf3 vwlf4 vwlf5 vwlf6 vwlf7 vwlf8 vwlf9 vwlf10 vm vx)) RX9 rfl (by decide +kernel) (Nat.le_of_ble_eq_true rfl) ?_
  intro p e s m below meth c A hx hb hr hlocks av9 hav hts hown hnm hml hK hP hD hA hS hE hAe Q9 hQ9 ls hl
  have hl : lv_has ls 7 [(0, .ref vw), (1, .int vm), (2, .int vx)] := hl
  refine lv_iload_n hx hb dX9_drawAct_0 rfl (lv_at hl 2 rfl) ?_
  refine jr_i (rSr (As := [.int vx]) (rest := []) ⟨hx, hb, hml, hown, hts⟩ (g_nextDraw l dC dI cy vx ) (cw_X9_128 hts rfl rfl ⟨Nat.le_of_ble_eq_true rfl, Nat.le_of_ble_eq_true rfl⟩) hP hK [] rfl rfl hl.1 rfl (Nat.le_of_ble_eq_true rfl) dX9_drawAct_1 ⟨Nat.le_of_ble_eq_true rfl, Nat.le_of_ble_eq_true rfl⟩) hP hS (fun r_1 H locs hp_2 hP hS => ?_)
  refine lv_istore_n (lv' := [(3, .int r_1), (0, .ref vw), (1, .int vm), (2, .int vx)]) hx hb dX9_drawAct_4 rfl hl (by decide) rfl (fun ls hl => ?_)
  refine lv_bipush (v := 6) hx hb dX9_drawAct_5 (by decide) ?_
  refine lv_iload_n hx hb dX9_drawAct_7 rfl (lv_at hl 0 rfl) ?_
  have k_6 : (6 : Int32).toInt = 6 := by decide
  refine jr_i (rSr (As := [.int 6, .int r_1]) (rest := []) ⟨hx, hb, hml, hown, hts⟩ (g_drawOf l dC dI cy 6 r_1 ⟨by omega, by omega⟩) (cw_X9_131 hts rfl rfl ⟨Nat.le_of_ble_eq_true rfl, Nat.le_of_ble_eq_true rfl⟩) hP hK [] rfl rfl hl.1 rfl (Nat.le_of_ble_eq_true rfl) dX9_drawAct_8 ⟨Nat.le_of_ble_eq_true rfl, Nat.le_of_ble_eq_true rfl⟩) hP hS (fun r_3 H locs hp_4 hP hS => ?_)
  have hp_4 : (0 ≤ (r_3 : Int32).toInt ∧ (r_3 : Int32).toInt ≤ 9) ∧ ((r_3 : Int32).toInt < (6 : Int32).toInt ∨ (r_3 : Int32).toInt = 0) := hp_4
  obtain ⟨q_5, q_6⟩ := hp_4
  refine lv_istore (lv' := [(4, .int r_3), (3, .int r_1), (0, .ref vw), (1, .int vm), (2, .int vx)]) hx hb dX9_drawAct_11 hl (by decide) rfl (fun ls hl => ?_)
  refine lv_iload hx hb dX9_drawAct_13 (lv_at hl 0 rfl) ?_
  refine lv_iconst (v := 3) hx hb dX9_drawAct_15 (by decide) ?_
  have k_3 : (3 : Int32).toInt = 3 := by decide
  refine lv_icmp_ne (tgt := 25) hx hb dX9_drawAct_16 (by decide) (fun c_7 => ?_) (fun c_7 => ?_)
  · skip
    have c_7 : ¬ (r_3.toInt = (3 : Int32).toInt) := fun h9 => c_7 (i_eq.mpr h9)
    refine lv_iload hx hb dX9_drawAct_25 (lv_at hl 0 rfl) ?_
    refine lv_iconst (v := 2) hx hb dX9_drawAct_27 (by decide) ?_
    have k_2 : (2 : Int32).toInt = 2 := by decide
    refine lv_icmp_le (tgt := 33) hx hb dX9_drawAct_28 (by decide) (fun c_8 => ?_) (fun c_8 => ?_)
    · skip
      have c_8 : r_3.toInt ≤ (2 : Int32).toInt := i_le.mp c_8
      refine lv_iconst (v := (-1)) hx hb dX9_drawAct_33 (by decide) ?_
      refine lv_istore (lv' := [(5, .int (-1)), (4, .int r_3), (3, .int r_1), (0, .ref vw), (1, .int vm), (2, .int vx)]) hx hb dX9_drawAct_34 hl (by decide) rfl (fun ls hl => ?_)
      refine lv_iload hx hb dX9_drawAct_36 (lv_at hl 1 rfl) ?_
      refine lv_iconst (v := 2) hx hb dX9_drawAct_38 (by decide) ?_
      refine lv_icmp_ne (tgt := 60) hx hb dX9_drawAct_39 (by decide) (fun c_9 => ?_) (fun c_9 => ?_)
      · skip
        have c_9 : ¬ (r_3.toInt = (2 : Int32).toInt) := fun h9 => c_9 (i_eq.mpr h9)
        refine lv_aload_n hx hb dX9_drawAct_60 rfl (lv_at hl 3 rfl) ?_
        refine gf_X9_12 hx hb hts hown hK hP 0 rfl rfl dX9_drawAct_61 ?_
        refine gf_X9_50 hx hb hts hown hK hP 1 rfl rfl dX9_drawAct_64 ?_
        have k_0 : (0 : Int32).toInt = 0 := by decide
        refine lv_if_ne (tgt := 72) hx hb dX9_drawAct_67 (by decide) (fun c_10 => ?_) (fun c_10 => ?_)
        · skip
          have c_10 : ¬ (vwcd.toInt = (0 : Int32).toInt) := fun h9 => c_10 (i_eq.mpr h9)
          refine lv_iload_n hx hb dX9_drawAct_72 rfl (lv_at hl 2 rfl) ?_
          refine jr_i (rSr (As := [.int r_1]) (rest := []) ⟨hx, hb, hml, hown, hts⟩ (g_nextDraw l dC dI cy r_1 ) (cw_X9_128 hts rfl rfl ⟨Nat.le_of_ble_eq_true rfl, Nat.le_of_ble_eq_true rfl⟩) hP hK [] rfl rfl hl.1 rfl (Nat.le_of_ble_eq_true rfl) dX9_drawAct_73 ⟨Nat.le_of_ble_eq_true rfl, Nat.le_of_ble_eq_true rfl⟩) hP hS (fun r_11 H locs hp_12 hP hS => ?_)
          refine lv_istore_n (lv' := [(3, .int r_11), (5, .int (-1)), (4, .int r_3), (0, .ref vw), (1, .int vm), (2, .int vx)]) hx hb dX9_drawAct_76 rfl hl (by decide) rfl (fun ls hl => ?_)
          refine lv_aload_n hx hb dX9_drawAct_77 rfl (lv_at hl 3 rfl) ?_
          refine gf_X9_12 hx hb hts hown hK hP 0 rfl rfl dX9_drawAct_78 ?_
          refine gf_X9_50 hx hb hts hown hK hP 1 rfl rfl dX9_drawAct_81 ?_
          refine lv_iload_n hx hb dX9_drawAct_84 rfl (lv_at hl 0 rfl) ?_
          refine jr_i (rSr (As := [.int vwcd, .int r_11]) (rest := []) ⟨hx, hb, hml, hown, hts⟩ (g_drawOf l dC dI cy vwcd r_11 r_vwcd) (cw_X9_131 hts rfl rfl ⟨Nat.le_of_ble_eq_true rfl, Nat.le_of_ble_eq_true rfl⟩) hP hK [] rfl rfl hl.1 rfl (Nat.le_of_ble_eq_true rfl) dX9_drawAct_85 ⟨Nat.le_of_ble_eq_true rfl, Nat.le_of_ble_eq_true rfl⟩) hP hS (fun r_13 H locs hp_14 hP hS => ?_)
          have hp_14 : (0 ≤ (r_13 : Int32).toInt ∧ (r_13 : Int32).toInt ≤ 9) ∧ ((r_13 : Int32).toInt < (vwcd : Int32).toInt ∨ (r_13 : Int32).toInt = 0) := hp_14
          obtain ⟨q_15, q_16⟩ := hp_14
          refine lv_istore (lv' := [(6, .int r_13), (3, .int r_11), (5, .int (-1)), (4, .int r_3), (0, .ref vw), (1, .int vm), (2, .int vx)]) hx hb dX9_drawAct_88 hl (by decide) rfl (fun ls hl => ?_)
          refine lv_iload hx hb dX9_drawAct_90 (lv_at hl 3 rfl) ?_
          refine lv_iconst (v := 2) hx hb dX9_drawAct_92 (by decide) ?_
          refine lv_icmp_ne (tgt := 109) hx hb dX9_drawAct_93 (by decide) (fun _ => ?_) (fun c9 => absurd (i_eq.mp c9) (by omega))
          refine lv_aload_n hx hb dX9_drawAct_109 rfl (lv_at hl 4 rfl) ?_
          refine gf_X9_21 hx hb hts hown hK hP 0 rfl rfl dX9_drawAct_110 ?_
          refine lv_iload_n hx hb dX9_drawAct_113 rfl (lv_at hl 5 rfl) ?_
          refine lv_iload hx hb dX9_drawAct_114 (lv_at hl 0 rfl) ?_
          refine jn_i (wr := [(vw, .inr (10, [.ref vwc, .ref vwl, .ref vws])), (vwc, .inr (2, [.ref vwc1, .ref vwc2, .ref vwc3, .ref vwc4, .ref vwc5, .int vwcm, .int vwcd, .int vwcr, .int vwcw])), (vwc3, .inl (cy 0, 10, .inl vwcf3)), (vwc4, .inl (cy 2, 10, .inl vwcf4)), (vwc5, .inl (cy 0, 7, .inl vwcf5)), (vwl1, .inl (cy 0, 7, .inl vwlf1)), (vwl3, .inl (cy 0, 49, .inl vwlf3)), (vwl4, .inl (cy 0, 7, .inl vwlf4)), (vwl5, .inl (cy 0, 7, .inl vwlf5)), (vwl6, .inl (cy 0, 7, .inl vwlf6)), (vwl7, .inl (cy 0, 7, .inl vwlf7)), (vwl8, .inl (cy 0, 7, .inl vwlf8)), (vwl9, .inl (cy 0, 7, .inl vwlf9)), (vwl10, .inl (cy 0, 7, .inl vwlf10))]) (rV (As := [.int vm, .int r_13]) (rest := []) (ci := 5) ⟨hx, hb, hml, hown, hts⟩ (g_doDeed l dC dI cy _ vwl vwl1 vwl2 vwl3 vwl4 vwl5 vwl6 vwl7 vwl8 vwl9 vwl10 vwly vwlf2 vm r_13 r_vm ⟨by omega, by omega⟩ p_vwlf2) (cw_X9_141 hts rfl rfl ⟨Nat.le_of_ble_eq_true rfl, Nat.le_of_ble_eq_true rfl⟩) hP hD hK [5, 7] rfl rfl rfl rfl bl0 e0 rfl hl.1 rfl (Nat.le_of_ble_eq_true rfl) dX9_drawAct_116 ⟨Nat.le_of_ble_eq_true rfl, Nat.le_of_ble_eq_true rfl⟩) hP hD hS hA [5, 7] [0, 1, 2, 3, 4, 6, 8, 9, 10, 11, 12, 13, 14, 15] rfl rfl rfl (by decide) (fun r_17 u_19 H locs hp_18 hP hD hS => ?_)
          obtain ⟨vlf2_20, rfl⟩ : ∃ z, z = u_19 := ⟨_, rfl⟩
          have hp_18 : (0 ≤ (r_17 : Int32).toInt ∧ (r_17 : Int32).toInt ≤ 1) ∧ (Rg vlf2_20 70 0 9) := hp_18
          obtain ⟨q_21, q_22⟩ := hp_18
          have hP : va_P (dC, dI) vwCl [(vw, .inr (10, [.ref vwc, .ref vwl, .ref vws])), (vwc, .inr (2, [.ref vwc1, .ref vwc2, .ref vwc3, .ref vwc4, .ref vwc5, .int vwcm, .int vwcd, .int vwcr, .int vwcw])), (vwc3, .inl (cy 0, 10, .inl vwcf3)), (vwc4, .inl (cy 2, 10, .inl vwcf4)), (vwc5, .inl (cy 0, 7, .inl vwcf5)), (vwl1, .inl (cy 0, 7, .inl vwlf1)), (vwl3, .inl (cy 0, 49, .inl vwlf3)), (vwl4, .inl (cy 0, 7, .inl vwlf4)), (vwl5, .inl (cy 0, 7, .inl vwlf5)), (vwl6, .inl (cy 0, 7, .inl vwlf6)), (vwl7, .inl (cy 0, 7, .inl vwlf7)), (vwl8, .inl (cy 0, 7, .inl vwlf8)), (vwl9, .inl (cy 0, 7, .inl vwlf9)), (vwl10, .inl (cy 0, 7, .inl vwlf10)), (vwl, .inr (5, [.ref vwl1, .ref vwl2, .ref vwl3, .ref vwl4, .ref vwl5, .ref vwl6, .ref vwl7, .ref vwl8, .ref vwl9, .ref vwl10, .int vwly])), (vwl2, .inl (cy 0, 70, .inl vlf2_20))] H := hP
          have hD : va_D A [(vw, .inr (10, [.ref vwc, .ref vwl, .ref vws])), (vwc, .inr (2, [.ref vwc1, .ref vwc2, .ref vwc3, .ref vwc4, .ref vwc5, .int vwcm, .int vwcd, .int vwcr, .int vwcw])), (vwc3, .inl (cy 0, 10, .inl vwcf3)), (vwc4, .inl (cy 2, 10, .inl vwcf4)), (vwc5, .inl (cy 0, 7, .inl vwcf5)), (vwl1, .inl (cy 0, 7, .inl vwlf1)), (vwl3, .inl (cy 0, 49, .inl vwlf3)), (vwl4, .inl (cy 0, 7, .inl vwlf4)), (vwl5, .inl (cy 0, 7, .inl vwlf5)), (vwl6, .inl (cy 0, 7, .inl vwlf6)), (vwl7, .inl (cy 0, 7, .inl vwlf7)), (vwl8, .inl (cy 0, 7, .inl vwlf8)), (vwl9, .inl (cy 0, 7, .inl vwlf9)), (vwl10, .inl (cy 0, 7, .inl vwlf10)), (vwl, .inr (5, [.ref vwl1, .ref vwl2, .ref vwl3, .ref vwl4, .ref vwl5, .ref vwl6, .ref vwl7, .ref vwl8, .ref vwl9, .ref vwl10, .int vwly])), (vwl2, .inl (cy 0, 70, .inl vlf2_20))] := hD
          refine lv_pop hx hb dX9_drawAct_119 rfl ?_
          refine lv_iload_n hx hb dX9_drawAct_120 rfl (lv_at hl 1 rfl) ?_
          rw [hQ9]
          exact re_i (vlf2_20, vwlf4, vwlf5, vwlf6, vwlf7, vwlf8, vwlf9, vwlf10) hx hb hr hlocks ⟨(show Rg vlf2_20 70 0 9 from q_22), (show Rg vwlf5 7 (-1) 9 from p_vwlf5)⟩ (hP.sub [0, 1, 2, 3, 4, 14, 5, 15, 6, 7, 8, 9, 10, 11, 12, 13] rfl) (hD.sub [0, 1, 2, 3, 4, 14, 5, 15, 6, 7, 8, 9, 10, 11, 12, 13] rfl rfl) hS dX9_drawAct_121
        · skip
          have c_10 : vwcd.toInt = (0 : Int32).toInt := i_eq.mp c_10
          refine lv_iload_n hx hb dX9_drawAct_70 rfl (lv_at hl 2 rfl) ?_
          rw [hQ9]
          exact re_i (vwlf2, vwlf4, vwlf5, vwlf6, vwlf7, vwlf8, vwlf9, vwlf10) hx hb hr hlocks ⟨(show Rg vwlf2 70 0 9 from p_vwlf2), (show Rg vwlf5 7 (-1) 9 from p_vwlf5)⟩ (hP.sub [0, 1, 2, 3, 4, 5, 6, 7, 8, 9, 10, 11, 12, 13, 14, 15] rfl) (hD.sub [0, 1, 2, 3, 4, 5, 6, 7, 8, 9, 10, 11, 12, 13, 14, 15] rfl rfl) hS dX9_drawAct_71
      · skip
        have c_9 : r_3.toInt = (2 : Int32).toInt := i_eq.mp c_9
        refine lv_iload_n hx hb dX9_drawAct_42 rfl (lv_at hl 2 rfl) ?_
        refine jr_i (rSr (As := [.int r_1]) (rest := []) ⟨hx, hb, hml, hown, hts⟩ (g_nextDraw l dC dI cy r_1 ) (cw_X9_128 hts rfl rfl ⟨Nat.le_of_ble_eq_true rfl, Nat.le_of_ble_eq_true rfl⟩) hP hK [] rfl rfl hl.1 rfl (Nat.le_of_ble_eq_true rfl) dX9_drawAct_43 ⟨Nat.le_of_ble_eq_true rfl, Nat.le_of_ble_eq_true rfl⟩) hP hS (fun r_23 H locs hp_24 hP hS => ?_)
        refine lv_istore_n (lv' := [(3, .int r_23), (5, .int (-1)), (4, .int r_3), (0, .ref vw), (1, .int vm), (2, .int vx)]) hx hb dX9_drawAct_46 rfl hl (by decide) rfl (fun ls hl => ?_)
        refine lv_aload_n hx hb dX9_drawAct_47 rfl (lv_at hl 3 rfl) ?_
        refine gf_X9_12 hx hb hts hown hK hP 0 rfl rfl dX9_drawAct_48 ?_
        refine gf_X9_65 hx hb hts hown hK hP 1 rfl rfl dX9_drawAct_51 ?_
        refine lv_iload_n hx hb dX9_drawAct_54 rfl (lv_at hl 0 rfl) ?_
        refine jr_i (rSr (As := [.int vwcm, .int r_23]) (rest := []) ⟨hx, hb, hml, hown, hts⟩ (g_drawOf l dC dI cy vwcm r_23 ⟨by omega, by omega⟩) (cw_X9_131 hts rfl rfl ⟨Nat.le_of_ble_eq_true rfl, Nat.le_of_ble_eq_true rfl⟩) hP hK [] rfl rfl hl.1 rfl (Nat.le_of_ble_eq_true rfl) dX9_drawAct_55 ⟨Nat.le_of_ble_eq_true rfl, Nat.le_of_ble_eq_true rfl⟩) hP hS (fun r_25 H locs hp_26 hP hS => ?_)
        have hp_26 : (0 ≤ (r_25 : Int32).toInt ∧ (r_25 : Int32).toInt ≤ 9) ∧ ((r_25 : Int32).toInt < (vwcm : Int32).toInt ∨ (r_25 : Int32).toInt = 0) := hp_26
        obtain ⟨q_27, q_28⟩ := hp_26
        refine lv_istore (lv' := [(5, .int r_25), (3, .int r_23), (4, .int r_3), (0, .ref vw), (1, .int vm), (2, .int vx)]) hx hb dX9_drawAct_58 hl (by decide) rfl (fun ls hl => ?_)
        refine lv_aload_n hx hb dX9_drawAct_60 rfl (lv_at hl 3 rfl) ?_
        refine gf_X9_12 hx hb hts hown hK hP 0 rfl rfl dX9_drawAct_61 ?_
        refine gf_X9_50 hx hb hts hown hK hP 1 rfl rfl dX9_drawAct_64 ?_
        have k_0 : (0 : Int32).toInt = 0 := by decide
        refine lv_if_ne (tgt := 72) hx hb dX9_drawAct_67 (by decide) (fun c_29 => ?_) (fun c_29 => ?_)
        · skip
          have c_29 : ¬ (vwcd.toInt = (0 : Int32).toInt) := fun h9 => c_29 (i_eq.mpr h9)
          refine lv_iload_n hx hb dX9_drawAct_72 rfl (lv_at hl 1 rfl) ?_
          refine jr_i (rSr (As := [.int r_23]) (rest := []) ⟨hx, hb, hml, hown, hts⟩ (g_nextDraw l dC dI cy r_23 ) (cw_X9_128 hts rfl rfl ⟨Nat.le_of_ble_eq_true rfl, Nat.le_of_ble_eq_true rfl⟩) hP hK [] rfl rfl hl.1 rfl (Nat.le_of_ble_eq_true rfl) dX9_drawAct_73 ⟨Nat.le_of_ble_eq_true rfl, Nat.le_of_ble_eq_true rfl⟩) hP hS (fun r_30 H locs hp_31 hP hS => ?_)
          refine lv_istore_n (lv' := [(3, .int r_30), (5, .int r_25), (4, .int r_3), (0, .ref vw), (1, .int vm), (2, .int vx)]) hx hb dX9_drawAct_76 rfl hl (by decide) rfl (fun ls hl => ?_)
          refine lv_aload_n hx hb dX9_drawAct_77 rfl (lv_at hl 3 rfl) ?_
          refine gf_X9_12 hx hb hts hown hK hP 0 rfl rfl dX9_drawAct_78 ?_
          refine gf_X9_50 hx hb hts hown hK hP 1 rfl rfl dX9_drawAct_81 ?_
          refine lv_iload_n hx hb dX9_drawAct_84 rfl (lv_at hl 0 rfl) ?_
          refine jr_i (rSr (As := [.int vwcd, .int r_30]) (rest := []) ⟨hx, hb, hml, hown, hts⟩ (g_drawOf l dC dI cy vwcd r_30 r_vwcd) (cw_X9_131 hts rfl rfl ⟨Nat.le_of_ble_eq_true rfl, Nat.le_of_ble_eq_true rfl⟩) hP hK [] rfl rfl hl.1 rfl (Nat.le_of_ble_eq_true rfl) dX9_drawAct_85 ⟨Nat.le_of_ble_eq_true rfl, Nat.le_of_ble_eq_true rfl⟩) hP hS (fun r_32 H locs hp_33 hP hS => ?_)
          have hp_33 : (0 ≤ (r_32 : Int32).toInt ∧ (r_32 : Int32).toInt ≤ 9) ∧ ((r_32 : Int32).toInt < (vwcd : Int32).toInt ∨ (r_32 : Int32).toInt = 0) := hp_33
          obtain ⟨q_34, q_35⟩ := hp_33
          refine lv_istore (lv' := [(6, .int r_32), (3, .int r_30), (5, .int r_25), (4, .int r_3), (0, .ref vw), (1, .int vm), (2, .int vx)]) hx hb dX9_drawAct_88 hl (by decide) rfl (fun ls hl => ?_)
          refine lv_iload hx hb dX9_drawAct_90 (lv_at hl 3 rfl) ?_
          refine lv_iconst (v := 2) hx hb dX9_drawAct_92 (by decide) ?_
          refine lv_icmp_ne (tgt := 109) hx hb dX9_drawAct_93 (by decide) (fun c9 => (c9 (i_eq.mpr (by omega))).elim) (fun _ => ?_)
          refine lv_aload_n hx hb dX9_drawAct_96 rfl (lv_at hl 4 rfl) ?_
          refine lv_iload_n hx hb dX9_drawAct_97 rfl (lv_at hl 5 rfl) ?_
          refine lv_iload hx hb dX9_drawAct_98 (lv_at hl 2 rfl) ?_
          refine lv_iload hx hb dX9_drawAct_100 (lv_at hl 0 rfl) ?_
          refine jn_i (wr := [(vwc3, .inl (cy 0, 10, .inl vwcf3)), (vwc4, .inl (cy 2, 10, .inl vwcf4)), (vwl1, .inl (cy 0, 7, .inl vwlf1)), (vwl3, .inl (cy 0, 49, .inl vwlf3)), (vwl6, .inl (cy 0, 7, .inl vwlf6)), (vwl7, .inl (cy 0, 7, .inl vwlf7)), (vwl8, .inl (cy 0, 7, .inl vwlf8)), (vwl9, .inl (cy 0, 7, .inl vwlf9)), (vwl10, .inl (cy 0, 7, .inl vwlf10))]) (rV (As := [.int vm, .int r_25, .int r_32]) (rest := []) (ci := 10) ⟨hx, hb, hml, hown, hts⟩ (g_lendDeed l dC dI cy _ vw vwc vwl vws vwc1 vwc2 vwc3 vwc4 vwc5 vwcm vwcd vwcr vwcw vwcf5 vwl1 vwl2 vwl3 vwl4 vwl5 vwl6 vwl7 vwl8 vwl9 vwl10 vwly vwlf2 vwlf4 vwlf5 vm r_25 r_32 r_vwcm r_vwcd r_vm ⟨by omega, by omega⟩ p_vwlf2 p_vwlf5) (cw_X9_137 hts rfl rfl ⟨Nat.le_of_ble_eq_true rfl, Nat.le_of_ble_eq_true rfl⟩) hP hD hK [0, 1, 4, 5, 7, 9, 10] rfl rfl rfl rfl bl0 e0 rfl hl.1 rfl (Nat.le_of_ble_eq_true rfl) dX9_drawAct_102 ⟨Nat.le_of_ble_eq_true rfl, Nat.le_of_ble_eq_true rfl⟩) hP hD hS hA [0, 1, 4, 5, 7, 9, 10] [2, 3, 6, 8, 11, 12, 13, 14, 15] rfl rfl rfl (by decide) (fun r_36 u_38 H locs hp_37 hP hD hS => ?_)
          obtain ⟨vwlf4_39, vwlf5_40⟩ := u_38
          have hp_37 : (0 ≤ (r_36 : Int32).toInt ∧ (r_36 : Int32).toInt ≤ 3) ∧ (Rg vwlf5_40 7 (-1) 9) := hp_37
          obtain ⟨q_41, q_42⟩ := hp_37
          have hP : va_P (dC, dI) vwCl [(vwc3, .inl (cy 0, 10, .inl vwcf3)), (vwc4, .inl (cy 2, 10, .inl vwcf4)), (vwl1, .inl (cy 0, 7, .inl vwlf1)), (vwl3, .inl (cy 0, 49, .inl vwlf3)), (vwl6, .inl (cy 0, 7, .inl vwlf6)), (vwl7, .inl (cy 0, 7, .inl vwlf7)), (vwl8, .inl (cy 0, 7, .inl vwlf8)), (vwl9, .inl (cy 0, 7, .inl vwlf9)), (vwl10, .inl (cy 0, 7, .inl vwlf10)), (vw, .inr (10, [.ref vwc, .ref vwl, .ref vws])), (vwc, .inr (2, [.ref vwc1, .ref vwc2, .ref vwc3, .ref vwc4, .ref vwc5, .int vwcm, .int vwcd, .int vwcr, .int vwcw])), (vwc5, .inl (cy 0, 7, .inl vwcf5)), (vwl, .inr (5, [.ref vwl1, .ref vwl2, .ref vwl3, .ref vwl4, .ref vwl5, .ref vwl6, .ref vwl7, .ref vwl8, .ref vwl9, .ref vwl10, .int vwly])), (vwl2, .inl (cy 0, 70, .inl vwlf2)), (vwl4, .inl (cy 0, 7, .inl vwlf4_39)), (vwl5, .inl (cy 0, 7, .inl vwlf5_40))] H := hP
          have hD : va_D A [(vwc3, .inl (cy 0, 10, .inl vwcf3)), (vwc4, .inl (cy 2, 10, .inl vwcf4)), (vwl1, .inl (cy 0, 7, .inl vwlf1)), (vwl3, .inl (cy 0, 49, .inl vwlf3)), (vwl6, .inl (cy 0, 7, .inl vwlf6)), (vwl7, .inl (cy 0, 7, .inl vwlf7)), (vwl8, .inl (cy 0, 7, .inl vwlf8)), (vwl9, .inl (cy 0, 7, .inl vwlf9)), (vwl10, .inl (cy 0, 7, .inl vwlf10)), (vw, .inr (10, [.ref vwc, .ref vwl, .ref vws])), (vwc, .inr (2, [.ref vwc1, .ref vwc2, .ref vwc3, .ref vwc4, .ref vwc5, .int vwcm, .int vwcd, .int vwcr, .int vwcw])), (vwc5, .inl (cy 0, 7, .inl vwcf5)), (vwl, .inr (5, [.ref vwl1, .ref vwl2, .ref vwl3, .ref vwl4, .ref vwl5, .ref vwl6, .ref vwl7, .ref vwl8, .ref vwl9, .ref vwl10, .int vwly])), (vwl2, .inl (cy 0, 70, .inl vwlf2)), (vwl4, .inl (cy 0, 7, .inl vwlf4_39)), (vwl5, .inl (cy 0, 7, .inl vwlf5_40))] := hD
          refine lv_pop hx hb dX9_drawAct_105 rfl ?_
          refine lv_goto (tgt := 120) hx hb dX9_drawAct_106 (by decide) ?_
          refine lv_iload_n hx hb dX9_drawAct_120 rfl (lv_at hl 1 rfl) ?_
          rw [hQ9]
          exact re_i (vwlf2, vwlf4_39, vwlf5_40, vwlf6, vwlf7, vwlf8, vwlf9, vwlf10) hx hb hr hlocks ⟨(show Rg vwlf2 70 0 9 from p_vwlf2), (show Rg vwlf5_40 7 (-1) 9 from q_42)⟩ (hP.sub [9, 10, 0, 1, 11, 12, 2, 13, 3, 14, 15, 4, 5, 6, 7, 8] rfl) (hD.sub [9, 10, 0, 1, 11, 12, 2, 13, 3, 14, 15, 4, 5, 6, 7, 8] rfl rfl) hS dX9_drawAct_121
        · skip
          have c_29 : vwcd.toInt = (0 : Int32).toInt := i_eq.mp c_29
          refine lv_iload_n hx hb dX9_drawAct_70 rfl (lv_at hl 1 rfl) ?_
          rw [hQ9]
          exact re_i (vwlf2, vwlf4, vwlf5, vwlf6, vwlf7, vwlf8, vwlf9, vwlf10) hx hb hr hlocks ⟨(show Rg vwlf2 70 0 9 from p_vwlf2), (show Rg vwlf5 7 (-1) 9 from p_vwlf5)⟩ (hP.sub [0, 1, 2, 3, 4, 5, 6, 7, 8, 9, 10, 11, 12, 13, 14, 15] rfl) (hD.sub [0, 1, 2, 3, 4, 5, 6, 7, 8, 9, 10, 11, 12, 13, 14, 15] rfl rfl) hS dX9_drawAct_71
    · skip
      have c_8 : ¬ (r_3.toInt ≤ (2 : Int32).toInt) := fun h9 => c_8 (i_le.mpr h9)
      refine lv_iload_n hx hb dX9_drawAct_31 rfl (lv_at hl 1 rfl) ?_
      rw [hQ9]
      exact re_i (vwlf2, vwlf4, vwlf5, vwlf6, vwlf7, vwlf8, vwlf9, vwlf10) hx hb hr hlocks ⟨(show Rg vwlf2 70 0 9 from p_vwlf2), (show Rg vwlf5 7 (-1) 9 from p_vwlf5)⟩ (hP.sub [0, 1, 2, 3, 4, 5, 6, 7, 8, 9, 10, 11, 12, 13, 14, 15] rfl) (hD.sub [0, 1, 2, 3, 4, 5, 6, 7, 8, 9, 10, 11, 12, 13, 14, 15] rfl rfl) hS dX9_drawAct_32
  · skip
    have c_7 : r_3.toInt = (3 : Int32).toInt := i_eq.mp c_7
    refine lv_aload_n hx hb dX9_drawAct_19 rfl (lv_at hl 2 rfl) ?_
    refine lv_iload_n hx hb dX9_drawAct_20 rfl (lv_at hl 3 rfl) ?_
    refine jn_i (wr := [(vwc5, .inl (cy 0, 7, .inl vwcf5))]) (rV (As := [.int vm]) (rest := []) (ci := 10) ⟨hx, hb, hml, hown, hts⟩ (g_sitDown l dC dI cy _ vw vwc vwl vws vwc1 vwc2 vwc3 vwc4 vwc5 vwcm vwcd vwcr vwcw vwcf3 vwcf4 vwl1 vwl2 vwl3 vwl4 vwl5 vwl6 vwl7 vwl8 vwl9 vwl10 vwly vwlf1 vwlf2 vwlf3 vwlf4 vwlf5 vwlf6 vwlf7 vwlf8 vwlf9 vwlf10 vm r_vwcm r_vwcd r_vm p_vwcf3 p_vwlf2 p_vwlf5) (cw_X9_134 hts rfl rfl ⟨Nat.le_of_ble_eq_true rfl, Nat.le_of_ble_eq_true rfl⟩) hP hD hK [0, 1, 2, 3, 5, 6, 7, 8, 9, 10, 11, 12, 13, 14, 15] rfl rfl rfl rfl bl0 e0 rfl hl.1 rfl (Nat.le_of_ble_eq_true rfl) dX9_drawAct_21 ⟨Nat.le_of_ble_eq_true rfl, Nat.le_of_ble_eq_true rfl⟩) hP hD hS hA [0, 1, 2, 3, 5, 6, 7, 8, 9, 10, 11, 12, 13, 14, 15] [4] rfl rfl rfl (by decide) (fun r_43 u_45 H locs hp_44 hP hD hS => ?_)
    obtain ⟨vwlf6_46, vwlf7_47, vwlf8_48, vwlf9_49, vwlf10_50⟩ := u_45
    have hp_44 : (0 ≤ (r_43 : Int32).toInt ∧ (r_43 : Int32).toInt ≤ 1) := hp_44
    have q_51 := hp_44
    have hP : va_P (dC, dI) vwCl [(vwc5, .inl (cy 0, 7, .inl vwcf5)), (vw, .inr (10, [.ref vwc, .ref vwl, .ref vws])), (vwc, .inr (2, [.ref vwc1, .ref vwc2, .ref vwc3, .ref vwc4, .ref vwc5, .int vwcm, .int vwcd, .int vwcr, .int vwcw])), (vwc3, .inl (cy 0, 10, .inl vwcf3)), (vwc4, .inl (cy 2, 10, .inl vwcf4)), (vwl, .inr (5, [.ref vwl1, .ref vwl2, .ref vwl3, .ref vwl4, .ref vwl5, .ref vwl6, .ref vwl7, .ref vwl8, .ref vwl9, .ref vwl10, .int vwly])), (vwl1, .inl (cy 0, 7, .inl vwlf1)), (vwl2, .inl (cy 0, 70, .inl vwlf2)), (vwl3, .inl (cy 0, 49, .inl vwlf3)), (vwl4, .inl (cy 0, 7, .inl vwlf4)), (vwl5, .inl (cy 0, 7, .inl vwlf5)), (vwl6, .inl (cy 0, 7, .inl vwlf6_46)), (vwl7, .inl (cy 0, 7, .inl vwlf7_47)), (vwl8, .inl (cy 0, 7, .inl vwlf8_48)), (vwl9, .inl (cy 0, 7, .inl vwlf9_49)), (vwl10, .inl (cy 0, 7, .inl vwlf10_50))] H := hP
    have hD : va_D A [(vwc5, .inl (cy 0, 7, .inl vwcf5)), (vw, .inr (10, [.ref vwc, .ref vwl, .ref vws])), (vwc, .inr (2, [.ref vwc1, .ref vwc2, .ref vwc3, .ref vwc4, .ref vwc5, .int vwcm, .int vwcd, .int vwcr, .int vwcw])), (vwc3, .inl (cy 0, 10, .inl vwcf3)), (vwc4, .inl (cy 2, 10, .inl vwcf4)), (vwl, .inr (5, [.ref vwl1, .ref vwl2, .ref vwl3, .ref vwl4, .ref vwl5, .ref vwl6, .ref vwl7, .ref vwl8, .ref vwl9, .ref vwl10, .int vwly])), (vwl1, .inl (cy 0, 7, .inl vwlf1)), (vwl2, .inl (cy 0, 70, .inl vwlf2)), (vwl3, .inl (cy 0, 49, .inl vwlf3)), (vwl4, .inl (cy 0, 7, .inl vwlf4)), (vwl5, .inl (cy 0, 7, .inl vwlf5)), (vwl6, .inl (cy 0, 7, .inl vwlf6_46)), (vwl7, .inl (cy 0, 7, .inl vwlf7_47)), (vwl8, .inl (cy 0, 7, .inl vwlf8_48)), (vwl9, .inl (cy 0, 7, .inl vwlf9_49)), (vwl10, .inl (cy 0, 7, .inl vwlf10_50))] := hD
    refine lv_pop hx hb dX9_drawAct_24 rfl ?_
    refine lv_iload hx hb dX9_drawAct_25 (lv_at hl 0 rfl) ?_
    refine lv_iconst (v := 2) hx hb dX9_drawAct_27 (by decide) ?_
    have k_2 : (2 : Int32).toInt = 2 := by decide
    refine lv_icmp_le (tgt := 33) hx hb dX9_drawAct_28 (by decide) (fun c9 => absurd (i_le.mp c9) (by omega)) (fun _ => ?_)
    refine lv_iload_n hx hb dX9_drawAct_31 rfl (lv_at hl 1 rfl) ?_
    rw [hQ9]
    exact re_i (vwlf2, vwlf4, vwlf5, vwlf6_46, vwlf7_47, vwlf8_48, vwlf9_49, vwlf10_50) hx hb hr hlocks ⟨(show Rg vwlf2 70 0 9 from p_vwlf2), (show Rg vwlf5 7 (-1) 9 from p_vwlf5)⟩ (hP.sub [1, 2, 3, 4, 0, 5, 6, 7, 8, 9, 10, 11, 12, 13, 14, 15] rfl) (hD.sub [1, 2, 3, 4, 0, 5, 6, 7, 8, 9, 10, 11, 12, 13, 14, 15] rfl rfl) hS dX9_drawAct_32
abbrev cX9_drawYears : ByteArray := prog_11_method_16_code
def yX9_drawYears : MethodName := ⟨RX9, "drawYears", "(II)I"⟩
theorem t1170 : Cond.code yX9_drawYears cX9_drawYears 6 (some .int) ∈ GW := gw_mem 1284 (by decide +kernel) (by decide +kernel)
abbrev O_g_drawYears (cy : Nat → ClassId) (vw : Nat) (vwc : Nat) (vwl : Nat) (vws : Nat) (vwc1 : Nat) (vwc2 : Nat) (vwc3 : Nat) (vwc4 : Nat) (vwc5 : Nat) (vwcm : Int32) (vwcd : Int32) (vwcr : Int32) (vwcw : Int32) (vwcf3 : Nat → Int32) (vwcf4 : Nat → Int32) (vwcf5 : Nat → Int32) (vwl1 : Nat) (vwl2 : Nat) (vwl3 : Nat) (vwl4 : Nat) (vwl5 : Nat) (vwl6 : Nat) (vwl7 : Nat) (vwl8 : Nat) (vwl9 : Nat) (vwl10 : Nat) (vwly : Int32) (vwlf1 : Nat → Int32) (vwlf2 : Nat → Int32) (vwlf3 : Nat → Int32) (vwlf4 : Nat → Int32) (vwlf5 : Nat → Int32) (vwlf6 : Nat → Int32) (vwlf7 : Nat → Int32) (vwlf8 : Nat → Int32) (vwlf9 : Nat → Int32) (vwlf10 : Nat → Int32) (vn : Int32) (vsd : Int32) (u : Int32 × (Nat → Int32) × (Nat → Int32) × (Nat → Int32) × (Nat → Int32) × (Nat → Int32) × (Nat → Int32) × (Nat → Int32) × (Nat → Int32) × (Nat → Int32)) : va_W := [(vw, .inr (10, [.ref vwc, .ref vwl, .ref vws])), (vwc, .inr (2, [.ref vwc1, .ref vwc2, .ref vwc3, .ref vwc4, .ref vwc5, .int vwcm, .int vwcd, .int vwcr, .int vwcw])), (vwc3, .inl (cy 0, 10, .inl vwcf3)), (vwc4, .inl (cy 2, 10, .inl vwcf4)), (vwc5, .inl (cy 0, 7, .inl vwcf5)), (vwl, .inr (5, [.ref vwl1, .ref vwl2, .ref vwl3, .ref vwl4, .ref vwl5, .ref vwl6, .ref vwl7, .ref vwl8, .ref vwl9, .ref vwl10, .int u.1])), (vwl1, .inl (cy 0, 7, .inl u.2.1)), (vwl2, .inl (cy 0, 70, .inl u.2.2.1)), (vwl3, .inl (cy 0, 49, .inl vwlf3)), (vwl4, .inl (cy 0, 7, .inl u.2.2.2.1)), (vwl5, .inl (cy 0, 7, .inl u.2.2.2.2.1)), (vwl6, .inl (cy 0, 7, .inl u.2.2.2.2.2.1)), (vwl7, .inl (cy 0, 7, .inl u.2.2.2.2.2.2.1)), (vwl8, .inl (cy 0, 7, .inl u.2.2.2.2.2.2.2.1)), (vwl9, .inl (cy 0, 7, .inl u.2.2.2.2.2.2.2.2.1)), (vwl10, .inl (cy 0, 7, .inl u.2.2.2.2.2.2.2.2.2))]
theorem dX9_drawYears_0 : decode cX9_drawYears 0 = .ok (.iload_n 2, 1) := by decide +kernel
theorem dX9_drawYears_1 : decode cX9_drawYears 1 = .ok (.istore_n 3, 1) := by decide +kernel
theorem dX9_drawYears_2 : decode cX9_drawYears 2 = .ok (.iconst 0, 1) := by decide +kernel
theorem dX9_drawYears_3 : decode cX9_drawYears 3 = .ok (.istore 4, 2) := by decide +kernel
theorem dX9_drawYears_5 : decode cX9_drawYears 5 = .ok (.iload 4, 2) := by decide +kernel
theorem dX9_drawYears_7 : decode cX9_drawYears 7 = .ok (.iload_n 1, 1) := by decide +kernel
theorem dX9_drawYears_8 : decode cX9_drawYears 8 = .ok (.if_icmp .ge 56, 3) := by decide +kernel
theorem dX9_drawYears_64 : decode cX9_drawYears 64 = .ok (.iload 4, 2) := by decide +kernel
theorem dX9_drawYears_66 : decode cX9_drawYears 66 = .ok (.ireturn, 1) := by decide +kernel
theorem dX9_drawYears_11 : decode cX9_drawYears 11 = .ok (.aload_n 0, 1) := by decide +kernel
theorem dX9_drawYears_12 : decode cX9_drawYears 12 = .ok (.getfield 21, 3) := by decide +kernel
theorem dX9_drawYears_15 : decode cX9_drawYears 15 = .ok (.getfield 114, 3) := by decide +kernel
theorem dX9_drawYears_18 : decode cX9_drawYears 18 = .ok (.sipush 200, 3) := by decide +kernel
theorem dX9_drawYears_21 : decode cX9_drawYears 21 = .ok (.if_icmp .ge 43, 3) := by decide +kernel
theorem dX9_drawYears_24 : decode cX9_drawYears 24 = .ok (.iconst 0, 1) := by decide +kernel
theorem dX9_drawYears_25 : decode cX9_drawYears 25 = .ok (.istore 5, 2) := by decide +kernel
theorem dX9_drawYears_27 : decode cX9_drawYears 27 = .ok (.iload 5, 2) := by decide +kernel
theorem dX9_drawYears_29 : decode cX9_drawYears 29 = .ok (.aload_n 0, 1) := by decide +kernel
theorem dX9_drawYears_30 : decode cX9_drawYears 30 = .ok (.getfield 12, 3) := by decide +kernel
theorem dX9_drawYears_33 : decode cX9_drawYears 33 = .ok (.getfield 65, 3) := by decide +kernel
theorem dX9_drawYears_36 : decode cX9_drawYears 36 = .ok (.if_icmp .ge 17, 3) := by decide +kernel
theorem dX9_drawYears_53 : decode cX9_drawYears 53 = .ok (.aload_n 0, 1) := by decide +kernel
theorem dX9_drawYears_54 : decode cX9_drawYears 54 = .ok (.invokevirtual 124, 3) := by decide +kernel
theorem t1185 : Cond.methodLink RX9 124 yX9_passYear ∈ GW := gw_mem 1299 (by decide +kernel) (by decide +kernel)
theorem t834 : Cond.instanceMethod yX9_passYear ∈ GW := gw_mem 948 (by decide +kernel) (by decide +kernel)
theorem t835 : Cond.selects RX9 yX9_passYear yX9_passYear ∈ GW := gw_mem 949 (by decide +kernel) (by decide +kernel)
theorem cw_X9_124 {R : Room} {s : State} {args : Array Value} {rm : Room} {mc ms : Nat} (hts : ∀ w ∈ GW, w.before args s = true) (hrc : rm.cells = mc) (hrs : rm.slots = ms) (hR : rm.frames + 1 ≤ R.frames ∧ 8 + (2 + 11) + rm.locals ≤ R.locals) : CallW R s args RX9 RX9 124 yX9_passYear cX9_passYear 2 (some .boolean) (wl yX9_passYear cX9_passYear 2 (some .boolean)) rm mc ms 0 := cwV 0 hts (gi_V t1185 t834 t835 t15 t836) rfl hrc hrs (by decide +kernel) hR
theorem dX9_drawYears_57 : decode cX9_drawYears 57 = .ok (.pop, 1) := by decide +kernel
theorem dX9_drawYears_58 : decode cX9_drawYears 58 = .ok (.iinc 4 1, 3) := by decide +kernel
theorem dX9_drawYears_61 : decode cX9_drawYears 61 = .ok (.goto (-56), 3) := by decide +kernel
theorem dX9_drawYears_39 : decode cX9_drawYears 39 = .ok (.aload_n 0, 1) := by decide +kernel
theorem dX9_drawYears_40 : decode cX9_drawYears 40 = .ok (.iload 5, 2) := by decide +kernel
theorem dX9_drawYears_42 : decode cX9_drawYears 42 = .ok (.iload_n 3, 1) := by decide +kernel
theorem dX9_drawYears_43 : decode cX9_drawYears 43 = .ok (.invokevirtual 120, 3) := by decide +kernel
theorem t1171 : Cond.methodLink RX9 120 yX9_drawAct ∈ GW := gw_mem 1285 (by decide +kernel) (by decide +kernel)
theorem t1173 : Cond.instanceMethod yX9_drawAct ∈ GW := gw_mem 1287 (by decide +kernel) (by decide +kernel)
theorem s21 : Cond.selects RX9 yX9_drawAct yX9_drawAct ∈ GW := gw_mem 21 (by decide +kernel) (by decide +kernel)
theorem cw_X9_120 {R : Room} {s : State} {args : Array Value} {rm : Room} {mc ms : Nat} (hts : ∀ w ∈ GW, w.before args s = true) (hrc : rm.cells = mc) (hrs : rm.slots = ms) (hR : rm.frames + 1 ≤ R.frames ∧ 8 + (7 + 11) + rm.locals ≤ R.locals) : CallW R s args RX9 RX9 120 yX9_drawAct cX9_drawAct 7 (some .int) (wl yX9_drawAct cX9_drawAct 7 (some .int)) rm mc ms 2 := cwV 2 hts (gi_V t1171 t1173 s21 t15 t1174) rfl hrc hrs (by decide +kernel) hR
theorem dX9_drawYears_46 : decode cX9_drawYears 46 = .ok (.istore_n 3, 1) := by decide +kernel
theorem dX9_drawYears_47 : decode cX9_drawYears 47 = .ok (.iinc 5 1, 3) := by decide +kernel
theorem dX9_drawYears_50 : decode cX9_drawYears 50 = .ok (.goto (-23), 3) := by decide +kernel
set_option maxHeartbeats 4000000 in
set_option maxRecDepth 100000 in
theorem g_drawYears (l : Launch) (dC : Nat → ClassId) (dI : Nat → Nat → Nat) (cy : Nat → ClassId) (sz : Nat) (vw : Nat) (vwc : Nat) (vwl : Nat) (vws : Nat) (vwc1 : Nat) (vwc2 : Nat) (vwc3 : Nat) (vwc4 : Nat) (vwc5 : Nat) (vwcm : Int32) (vwcd : Int32) (vwcr : Int32) (vwcw : Int32) (vwcf3 : Nat → Int32) (vwcf4 : Nat → Int32) (vwcf5 : Nat → Int32) (vwl1 : Nat) (vwl2 : Nat) (vwl3 : Nat) (vwl4 : Nat) (vwl5 : Nat) (vwl6 : Nat) (vwl7 : Nat) (vwl8 : Nat) (vwl9 : Nat) (vwl10 : Nat) (vwly : Int32) (vwlf1 : Nat → Int32) (vwlf2 : Nat → Int32) (vwlf3 : Nat → Int32) (vwlf4 : Nat → Int32) (vwlf5 : Nat → Int32) (vwlf6 : Nat → Int32) (vwlf7 : Nat → Int32) (vwlf8 : Nat → Int32) (vwlf9 : Nat → Int32) (vwlf10 : Nat → Int32) (vn : Int32) (vsd : Int32) (r_vwcm : 0 ≤ (vwcm : Int32).toInt ∧ (vwcm : Int32).toInt ≤ 7) (r_vwcd : 0 ≤ (vwcd : Int32).toInt ∧ (vwcd : Int32).toInt ≤ 10) (r_vn : 0 ≤ (vn : Int32).toInt ∧ (vn : Int32).toInt ≤ 30) (p_vwcf3 : Rg vwcf3 10 0 40) (p_vwlf2 : Rg vwlf2 70 0 9) (p_vwlf5 : Rg vwlf5 7 (-1) 9) : Met l yX9_drawYears (wl yX9_drawYears cX9_drawYears 6 (some .int)) ({ frames := 4, cells := 0, slots := 0, locals := 256 }) (Pw (dC, dI) vwCl cy [(vw, .inr (10, [.ref vwc, .ref vwl, .ref vws])), (vwc, .inr (2, [.ref vwc1, .ref vwc2, .ref vwc3, .ref vwc4, .ref vwc5, .int vwcm, .int vwcd, .int vwcr, .int vwcw])), (vwc3, .inl (cy 0, 10, .inl vwcf3)), (vwc4, .inl (cy 2, 10, .inl vwcf4)), (vwc5, .inl (cy 0, 7, .inl vwcf5)), (vwl, .inr (5, [.ref vwl1, .ref vwl2, .ref vwl3, .ref vwl4, .ref vwl5, .ref vwl6, .ref vwl7, .ref vwl8, .ref vwl9, .ref vwl10, .int vwly])), (vwl1, .inl (cy 0, 7, .inl vwlf1)), (vwl2, .inl (cy 0, 70, .inl vwlf2)), (vwl3, .inl (cy 0, 49, .inl vwlf3)), (vwl4, .inl (cy 0, 7, .inl vwlf4)), (vwl5, .inl (cy 0, 7, .inl vwlf5)), (vwl6, .inl (cy 0, 7, .inl vwlf6)), (vwl7, .inl (cy 0, 7, .inl vwlf7)), (vwl8, .inl (cy 0, 7, .inl vwlf8)), (vwl9, .inl (cy 0, 7, .inl vwlf9)), (vwl10, .inl (cy 0, 7, .inl vwlf10))] sz [.ref vw, .int vn, .int vsd] nE) (Qi (dC, dI) vwCl (fun (r : Int32) (u : Int32 × (Nat → Int32) × (Nat → Int32) × (Nat → Int32) × (Nat → Int32) × (Nat → Int32) × (Nat → Int32) × (Nat → Int32) × (Nat → Int32) × (Nat → Int32)) => (0 ≤ (r : Int32).toInt ∧ (r : Int32).toInt ≤ 30) ∧ (Rg u.2.2.1 70 0 9) ∧ (Rg u.2.2.2.2.1 7 (-1) 9)) (O_g_drawYears cy vw vwc vwl vws vwc1 vwc2 vwc3 vwc4 vwc5 vwcm vwcd vwcr vwcw vwcf3 vwcf4 vwcf5 vwl1 vwl2 vwl3 vwl4 vwl5 vwl6 vwl7 vwl8 vwl9 vwl10 vwly vwlf1 vwlf2 vwlf3 vwlf4 vwlf5 vwlf6 vwlf7 vwlf8 vwlf9 vwlf10 vn vsd) (va_A [(vw, .inr (10, [.ref vwc, .ref vwl, .ref vws])), (vwc, .inr (2, [.ref vwc1, .ref vwc2, .ref vwc3, .ref vwc4, .ref vwc5, .int vwcm, .int vwcd, .int vwcr, .int vwcw])), (vwc3, .inl (cy 0, 10, .inl vwcf3)), (vwc4, .inl (cy 2, 10, .inl vwcf4)), (vwc5, .inl (cy 0, 7, .inl vwcf5)), (vwl, .inr (5, [.ref vwl1, .ref vwl2, .ref vwl3, .ref vwl4, .ref vwl5, .ref vwl6, .ref vwl7, .ref vwl8, .ref vwl9, .ref vwl10, .int vwly])), (vwl1, .inl (cy 0, 7, .inl vwlf1)), (vwl2, .inl (cy 0, 70, .inl vwlf2)), (vwl3, .inl (cy 0, 49, .inl vwlf3)), (vwl4, .inl (cy 0, 7, .inl vwlf4)), (vwl5, .inl (cy 0, 7, .inl vwlf5)), (vwl6, .inl (cy 0, 7, .inl vwlf6)), (vwl7, .inl (cy 0, 7, .inl vwlf7)), (vwl8, .inl (cy 0, 7, .inl vwlf8)), (vwl9, .inl (cy 0, 7, .inl vwlf9)), (vwl10, .inl (cy 0, 7, .inl vwlf10))] sz)) 0 0 (va_A [(vw, .inr (10, [.ref vwc, .ref vwl, .ref vws])), (vwc, .inr (2, [.ref vwc1, .ref vwc2, .ref vwc3, .ref vwc4, .ref vwc5, .int vwcm, .int vwcd, .int vwcr, .int vwcw])), (vwc3, .inl (cy 0, 10, .inl vwcf3)), (vwc4, .inl (cy 2, 10, .inl vwcf4)), (vwc5, .inl (cy 0, 7, .inl vwcf5)), (vwl, .inr (5, [.ref vwl1, .ref vwl2, .ref vwl3, .ref vwl4, .ref vwl5, .ref vwl6, .ref vwl7, .ref vwl8, .ref vwl9, .ref vwl10, .int vwly])), (vwl1, .inl (cy 0, 7, .inl vwlf1)), (vwl2, .inl (cy 0, 70, .inl vwlf2)), (vwl3, .inl (cy 0, 49, .inl vwlf3)), (vwl4, .inl (cy 0, 7, .inl vwlf4)), (vwl5, .inl (cy 0, 7, .inl vwlf5)), (vwl6, .inl (cy 0, 7, .inl vwlf6)), (vwl7, .inl (cy 0, 7, .inl vwlf7)), (vwl8, .inl (cy 0, 7, .inl vwlf8)), (vwl9, .inl (cy 0, 7, .inl vwlf9)), (vwl10, .inl (cy 0, 7, .inl vwlf10))] sz) := by
  refine mw (Qc := Qi (dC, dI) vwCl (fun (r : Int32) (u : Int32 × (Nat → Int32) × (Nat → Int32) × (Nat → Int32) × (Nat → Int32) × (Nat → Int32) × (Nat → Int32) × (Nat → Int32) × (Nat → Int32) × (Nat → Int32)) => (0 ≤ (r : Int32).toInt ∧ (r : Int32).toInt ≤ 30) ∧ (Rg u.2.2.1 70 0 9) ∧ (Rg u.2.2.2.2.1 7 (-1) 9)) (O_g_drawYears cy vw vwc vwl vws vwc1 vwc2 vwc3 vwc4 vwc5 vwcm vwcd vwcr vwcw vwcf3 vwcf4 vwcf5 vwl1 vwl2 vwl3 vwl4 vwl5 vwl6 vwl7 vwl8 vwl9 vwl10 vwly vwlf1 vwlf2 vwlf3 vwlf4 vwlf5 vwlf6 vwlf7 vwlf8 vwlf9 vwlf10 vn vsd)) RX9 rfl (by decide +kernel) (Nat.le_of_ble_eq_true rfl) ?_
  intro p e s m below meth c A hx hb hr hlocks av9 hav hts hown hnm hml hK hP hD hA hS hE hAe Q9 hQ9 ls hl
  have hl : lv_has ls 6 [(0, .ref vw), (1, .int vn), (2, .int vsd)] := hl
  refine lv_iload_n hx hb dX9_drawYears_0 rfl (lv_at hl 2 rfl) ?_
  refine lv_istore_n (lv' := [(3, .int vsd), (0, .ref vw), (1, .int vn), (2, .int vsd)]) hx hb dX9_drawYears_1 rfl hl (by decide) rfl (fun ls hl => ?_)
  refine lv_iconst (v := 0) hx hb dX9_drawYears_2 (by decide) ?_
  refine lv_istore (lv' := [(4, .int 0), (3, .int vsd), (0, .ref vw), (1, .int vn), (2, .int vsd)]) hx hb dX9_drawYears_3 hl (by decide) rfl (fun ls hl => ?_)
  have loop1 : ∀ (n1 : Nat) (x_3 : Int32) (x_2 : Int32) (x_4 : Int32) (g_5 : Nat → Int32) (g_6 : Nat → Int32) (g_7 : Nat → Int32) (g_8 : Nat → Int32) (g_9 : Nat → Int32) (g_10 : Nat → Int32) (g_11 : Nat → Int32) (g_12 : Nat → Int32) (g_13 : Nat → Int32), (0 ≤ x_2.toInt ∧ x_2.toInt ≤ 30) → Rg g_6 70 0 9 → Rg g_8 7 (-1) 9 → 30 - x_2.toInt < (n1 : Int) → ∀ (H : Heap) (locs : List Loc), va_P (dC, dI) vwCl [(vw, .inr (10, [.ref vwc, .ref vwl, .ref vws])), (vwc, .inr (2, [.ref vwc1, .ref vwc2, .ref vwc3, .ref vwc4, .ref vwc5, .int vwcm, .int vwcd, .int vwcr, .int vwcw])), (vwc3, .inl (cy 0, 10, .inl vwcf3)), (vwc4, .inl (cy 2, 10, .inl vwcf4)), (vwc5, .inl (cy 0, 7, .inl vwcf5)), (vwl, .inr (5, [.ref vwl1, .ref vwl2, .ref vwl3, .ref vwl4, .ref vwl5, .ref vwl6, .ref vwl7, .ref vwl8, .ref vwl9, .ref vwl10, .int x_4])), (vwl1, .inl (cy 0, 7, .inl g_5)), (vwl2, .inl (cy 0, 70, .inl g_6)), (vwl3, .inl (cy 0, 49, .inl vwlf3)), (vwl4, .inl (cy 0, 7, .inl g_7)), (vwl5, .inl (cy 0, 7, .inl g_8)), (vwl6, .inl (cy 0, 7, .inl g_9)), (vwl7, .inl (cy 0, 7, .inl g_10)), (vwl8, .inl (cy 0, 7, .inl g_11)), (vwl9, .inl (cy 0, 7, .inl g_12)), (vwl10, .inl (cy 0, 7, .inl g_13))] H → va_D A [(vw, .inr (10, [.ref vwc, .ref vwl, .ref vws])), (vwc, .inr (2, [.ref vwc1, .ref vwc2, .ref vwc3, .ref vwc4, .ref vwc5, .int vwcm, .int vwcd, .int vwcr, .int vwcw])), (vwc3, .inl (cy 0, 10, .inl vwcf3)), (vwc4, .inl (cy 2, 10, .inl vwcf4)), (vwc5, .inl (cy 0, 7, .inl vwcf5)), (vwl, .inr (5, [.ref vwl1, .ref vwl2, .ref vwl3, .ref vwl4, .ref vwl5, .ref vwl6, .ref vwl7, .ref vwl8, .ref vwl9, .ref vwl10, .int x_4])), (vwl1, .inl (cy 0, 7, .inl g_5)), (vwl2, .inl (cy 0, 70, .inl g_6)), (vwl3, .inl (cy 0, 49, .inl vwlf3)), (vwl4, .inl (cy 0, 7, .inl g_7)), (vwl5, .inl (cy 0, 7, .inl g_8)), (vwl6, .inl (cy 0, 7, .inl g_9)), (vwl7, .inl (cy 0, 7, .inl g_10)), (vwl8, .inl (cy 0, 7, .inl g_11)), (vwl9, .inl (cy 0, 7, .inl g_12)), (vwl10, .inl (cy 0, 7, .inl g_13))] → va_S A s.heap H locs → ∀ ls : Array Slot, lv_has ls 6 [(4, .int x_2), (3, .int x_3), (0, .ref vw), (1, .int vn), (2, .int vsd)] → W p l e ({ frames := 4, cells := 0, slots := 0, locals := 256 }) s m av9 below meth c H locs 0 0 Q9 (F0 m 5 ls []) := by
    intro n1
    induction n1 with
    | zero =>
      intro x_3 x_2 x_4 g_5 g_6 g_7 g_8 g_9 g_10 g_11 g_12 g_13 bx_2 p_g_6 p_g_8 hn1 H locs hP hD hS ls hl
      exfalso; omega
    | succ n1 ih1 =>
      intro x_3 x_2 x_4 g_5 g_6 g_7 g_8 g_9 g_10 g_11 g_12 g_13 bx_2 p_g_6 p_g_8 hn1 H locs hP hD hS ls hl
      refine lv_iload hx hb dX9_drawYears_5 (lv_at hl 0 rfl) ?_
      refine lv_iload_n hx hb dX9_drawYears_7 rfl (lv_at hl 3 rfl) ?_
      refine lv_icmp_ge (tgt := 64) hx hb dX9_drawYears_8 (by decide) (fun c_14 => ?_) (fun c_14 => ?_)
      · skip
        have c_14 : vn.toInt ≤ x_2.toInt := i_le.mp c_14
        refine lv_iload hx hb dX9_drawYears_64 (lv_at hl 0 rfl) ?_
        rw [hQ9]
        exact re_i (x_4, g_5, g_6, g_7, g_8, g_9, g_10, g_11, g_12, g_13) hx hb hr hlocks ⟨(show 0 ≤ (x_2 : Int32).toInt ∧ (x_2 : Int32).toInt ≤ 30 from ⟨by omega, by omega⟩), (show Rg g_6 70 0 9 from p_g_6), (show Rg g_8 7 (-1) 9 from p_g_8)⟩ (hP.sub [0, 1, 2, 3, 4, 5, 6, 7, 8, 9, 10, 11, 12, 13, 14, 15] rfl) (hD.sub [0, 1, 2, 3, 4, 5, 6, 7, 8, 9, 10, 11, 12, 13, 14, 15] rfl rfl) hS dX9_drawYears_66
      · skip
        have c_14 : ¬ (vn.toInt ≤ x_2.toInt) := fun h9 => c_14 (i_le.mpr h9)
        refine lv_aload_n hx hb dX9_drawYears_11 rfl (lv_at hl 2 rfl) ?_
        refine gf_X9_21 hx hb hts hown hK hP 0 rfl rfl dX9_drawYears_12 ?_
        refine gf_X9_114 hx hb hts hown hK hP 5 rfl rfl dX9_drawYears_15 ?_
        refine lv_sipush (v := 200) hx hb dX9_drawYears_18 (by decide) ?_
        have k_200 : (200 : Int32).toInt = 200 := by decide
        refine lv_icmp_ge (tgt := 64) hx hb dX9_drawYears_21 (by decide) (fun c_15 => ?_) (fun c_15 => ?_)
        · skip
          have c_15 : (200 : Int32).toInt ≤ x_4.toInt := i_le.mp c_15
          refine lv_iload hx hb dX9_drawYears_64 (lv_at hl 0 rfl) ?_
          rw [hQ9]
          exact re_i (x_4, g_5, g_6, g_7, g_8, g_9, g_10, g_11, g_12, g_13) hx hb hr hlocks ⟨(show 0 ≤ (x_2 : Int32).toInt ∧ (x_2 : Int32).toInt ≤ 30 from ⟨by omega, by omega⟩), (show Rg g_6 70 0 9 from p_g_6), (show Rg g_8 7 (-1) 9 from p_g_8)⟩ (hP.sub [0, 1, 2, 3, 4, 5, 6, 7, 8, 9, 10, 11, 12, 13, 14, 15] rfl) (hD.sub [0, 1, 2, 3, 4, 5, 6, 7, 8, 9, 10, 11, 12, 13, 14, 15] rfl rfl) hS dX9_drawYears_66
        · skip
          have c_15 : ¬ ((200 : Int32).toInt ≤ x_4.toInt) := fun h9 => c_15 (i_le.mpr h9)
          refine lv_iconst (v := 0) hx hb dX9_drawYears_24 (by decide) ?_
          refine lv_istore (lv' := [(5, .int 0), (4, .int x_2), (3, .int x_3), (0, .ref vw), (1, .int vn), (2, .int vsd)]) hx hb dX9_drawYears_25 hl (by decide) rfl (fun ls hl => ?_)
          have loop16 : ∀ (n16 : Nat) (x_18 : Int32) (x_17 : Int32) (g_19 : Nat → Int32) (g_20 : Nat → Int32) (g_21 : Nat → Int32) (g_22 : Nat → Int32) (g_23 : Nat → Int32) (g_24 : Nat → Int32) (g_25 : Nat → Int32) (g_26 : Nat → Int32), (0 ≤ x_17.toInt ∧ x_17.toInt ≤ 7) → Rg g_19 70 0 9 → Rg g_21 7 (-1) 9 → 7 - x_17.toInt < (n16 : Int) → ∀ (H : Heap) (locs : List Loc), va_P (dC, dI) vwCl [(vw, .inr (10, [.ref vwc, .ref vwl, .ref vws])), (vwc, .inr (2, [.ref vwc1, .ref vwc2, .ref vwc3, .ref vwc4, .ref vwc5, .int vwcm, .int vwcd, .int vwcr, .int vwcw])), (vwc3, .inl (cy 0, 10, .inl vwcf3)), (vwc4, .inl (cy 2, 10, .inl vwcf4)), (vwc5, .inl (cy 0, 7, .inl vwcf5)), (vwl, .inr (5, [.ref vwl1, .ref vwl2, .ref vwl3, .ref vwl4, .ref vwl5, .ref vwl6, .ref vwl7, .ref vwl8, .ref vwl9, .ref vwl10, .int x_4])), (vwl1, .inl (cy 0, 7, .inl g_5)), (vwl2, .inl (cy 0, 70, .inl g_19)), (vwl3, .inl (cy 0, 49, .inl vwlf3)), (vwl4, .inl (cy 0, 7, .inl g_20)), (vwl5, .inl (cy 0, 7, .inl g_21)), (vwl6, .inl (cy 0, 7, .inl g_22)), (vwl7, .inl (cy 0, 7, .inl g_23)), (vwl8, .inl (cy 0, 7, .inl g_24)), (vwl9, .inl (cy 0, 7, .inl g_25)), (vwl10, .inl (cy 0, 7, .inl g_26))] H → va_D A [(vw, .inr (10, [.ref vwc, .ref vwl, .ref vws])), (vwc, .inr (2, [.ref vwc1, .ref vwc2, .ref vwc3, .ref vwc4, .ref vwc5, .int vwcm, .int vwcd, .int vwcr, .int vwcw])), (vwc3, .inl (cy 0, 10, .inl vwcf3)), (vwc4, .inl (cy 2, 10, .inl vwcf4)), (vwc5, .inl (cy 0, 7, .inl vwcf5)), (vwl, .inr (5, [.ref vwl1, .ref vwl2, .ref vwl3, .ref vwl4, .ref vwl5, .ref vwl6, .ref vwl7, .ref vwl8, .ref vwl9, .ref vwl10, .int x_4])), (vwl1, .inl (cy 0, 7, .inl g_5)), (vwl2, .inl (cy 0, 70, .inl g_19)), (vwl3, .inl (cy 0, 49, .inl vwlf3)), (vwl4, .inl (cy 0, 7, .inl g_20)), (vwl5, .inl (cy 0, 7, .inl g_21)), (vwl6, .inl (cy 0, 7, .inl g_22)), (vwl7, .inl (cy 0, 7, .inl g_23)), (vwl8, .inl (cy 0, 7, .inl g_24)), (vwl9, .inl (cy 0, 7, .inl g_25)), (vwl10, .inl (cy 0, 7, .inl g_26))] → va_S A s.heap H locs → ∀ ls : Array Slot, lv_has ls 6 [(5, .int x_17), (4, .int x_2), (3, .int x_18), (0, .ref vw), (1, .int vn), (2, .int vsd)] → W p l e ({ frames := 4, cells := 0, slots := 0, locals := 256 }) s m av9 below meth c H locs 0 0 Q9 (F0 m 27 ls []) := by
            intro n16
            induction n16 with
            | zero =>
              intro x_18 x_17 g_19 g_20 g_21 g_22 g_23 g_24 g_25 g_26 bx_17 p_g_19 p_g_21 hn16 H locs hP hD hS ls hl
              exfalso; omega
            | succ n16 ih16 =>
              intro x_18 x_17 g_19 g_20 g_21 g_22 g_23 g_24 g_25 g_26 bx_17 p_g_19 p_g_21 hn16 H locs hP hD hS ls hl
              refine lv_iload hx hb dX9_drawYears_27 (lv_at hl 0 rfl) ?_
              refine lv_aload_n hx hb dX9_drawYears_29 rfl (lv_at hl 3 rfl) ?_
              refine gf_X9_12 hx hb hts hown hK hP 0 rfl rfl dX9_drawYears_30 ?_
              refine gf_X9_65 hx hb hts hown hK hP 1 rfl rfl dX9_drawYears_33 ?_
              refine lv_icmp_ge (tgt := 53) hx hb dX9_drawYears_36 (by decide) (fun c_27 => ?_) (fun c_27 => ?_)
              · skip
                have c_27 : vwcm.toInt ≤ x_17.toInt := i_le.mp c_27
                refine lv_aload_n hx hb dX9_drawYears_53 rfl (lv_at hl 3 rfl) ?_
                refine jn_i (wr := [(vwc3, .inl (cy 0, 10, .inl vwcf3)), (vwc4, .inl (cy 2, 10, .inl vwcf4)), (vwc5, .inl (cy 0, 7, .inl vwcf5)), (vwl2, .inl (cy 0, 70, .inl g_19)), (vwl3, .inl (cy 0, 49, .inl vwlf3)), (vwl6, .inl (cy 0, 7, .inl g_22)), (vwl7, .inl (cy 0, 7, .inl g_23)), (vwl8, .inl (cy 0, 7, .inl g_24)), (vwl9, .inl (cy 0, 7, .inl g_25)), (vwl10, .inl (cy 0, 7, .inl g_26))]) (rV (As := []) (rest := []) (ci := 10) ⟨hx, hb, hml, hown, hts⟩ (g_passYear l dC dI cy _ vw vwc vwl vws vwc1 vwc2 vwc3 vwc4 vwc5 vwcm vwcd vwcr vwcw vwl1 vwl2 vwl3 vwl4 vwl5 vwl6 vwl7 vwl8 vwl9 vwl10 x_4 g_5 g_20 g_21 r_vwcm r_vwcd p_g_21) (cw_X9_124 hts rfl rfl ⟨Nat.le_of_ble_eq_true rfl, Nat.le_of_ble_eq_true rfl⟩) hP hD hK [0, 1, 5, 6, 9, 10] rfl rfl rfl rfl bl0 e0 rfl hl.1 rfl (Nat.le_of_ble_eq_true rfl) dX9_drawYears_54 ⟨Nat.le_of_ble_eq_true rfl, Nat.le_of_ble_eq_true rfl⟩) hP hD hS hA [0, 1, 5, 6, 9, 10] [2, 3, 4, 7, 8, 11, 12, 13, 14, 15] rfl rfl rfl (by decide) (fun r_28 u_30 H locs hp_29 hP hD hS => ?_)
                obtain ⟨vwly_31, vwlf1_32, vwlf4_33, vwlf5_34⟩ := u_30
                have hp_29 : ((r_28 = 0) ∨ (r_28 = 1)) ∧ (Rg vwlf5_34 7 (-1) 9) := hp_29
                obtain ⟨q_35, q_36⟩ := hp_29
                have hP : va_P (dC, dI) vwCl [(vwc3, .inl (cy 0, 10, .inl vwcf3)), (vwc4, .inl (cy 2, 10, .inl vwcf4)), (vwc5, .inl (cy 0, 7, .inl vwcf5)), (vwl2, .inl (cy 0, 70, .inl g_19)), (vwl3, .inl (cy 0, 49, .inl vwlf3)), (vwl6, .inl (cy 0, 7, .inl g_22)), (vwl7, .inl (cy 0, 7, .inl g_23)), (vwl8, .inl (cy 0, 7, .inl g_24)), (vwl9, .inl (cy 0, 7, .inl g_25)), (vwl10, .inl (cy 0, 7, .inl g_26)), (vw, .inr (10, [.ref vwc, .ref vwl, .ref vws])), (vwc, .inr (2, [.ref vwc1, .ref vwc2, .ref vwc3, .ref vwc4, .ref vwc5, .int vwcm, .int vwcd, .int vwcr, .int vwcw])), (vwl, .inr (5, [.ref vwl1, .ref vwl2, .ref vwl3, .ref vwl4, .ref vwl5, .ref vwl6, .ref vwl7, .ref vwl8, .ref vwl9, .ref vwl10, .int vwly_31])), (vwl1, .inl (cy 0, 7, .inl vwlf1_32)), (vwl4, .inl (cy 0, 7, .inl vwlf4_33)), (vwl5, .inl (cy 0, 7, .inl vwlf5_34))] H := hP
                have hD : va_D A [(vwc3, .inl (cy 0, 10, .inl vwcf3)), (vwc4, .inl (cy 2, 10, .inl vwcf4)), (vwc5, .inl (cy 0, 7, .inl vwcf5)), (vwl2, .inl (cy 0, 70, .inl g_19)), (vwl3, .inl (cy 0, 49, .inl vwlf3)), (vwl6, .inl (cy 0, 7, .inl g_22)), (vwl7, .inl (cy 0, 7, .inl g_23)), (vwl8, .inl (cy 0, 7, .inl g_24)), (vwl9, .inl (cy 0, 7, .inl g_25)), (vwl10, .inl (cy 0, 7, .inl g_26)), (vw, .inr (10, [.ref vwc, .ref vwl, .ref vws])), (vwc, .inr (2, [.ref vwc1, .ref vwc2, .ref vwc3, .ref vwc4, .ref vwc5, .int vwcm, .int vwcd, .int vwcr, .int vwcw])), (vwl, .inr (5, [.ref vwl1, .ref vwl2, .ref vwl3, .ref vwl4, .ref vwl5, .ref vwl6, .ref vwl7, .ref vwl8, .ref vwl9, .ref vwl10, .int vwly_31])), (vwl1, .inl (cy 0, 7, .inl vwlf1_32)), (vwl4, .inl (cy 0, 7, .inl vwlf4_33)), (vwl5, .inl (cy 0, 7, .inl vwlf5_34))] := hD
                rcases q_35 with aq_35 | aq_35
                · skip
                  refine as_i 0 aq_35 ?_
                  refine lv_pop hx hb dX9_drawYears_57 rfl ?_
                  obtain ⟨z_37, ez_37⟩ : ∃ z : Int32, z = x_2 + 1 := ⟨_, rfl⟩
                  have k_1 : (1 : Int32).toInt = 1 := by decide
                  have bz_37 : z_37.toInt = x_2.toInt + (1 : Int32).toInt := i_add ez_37 (by omega) (by omega)
                  refine lv_iinc (v := z_37) (lv' := [(4, .int z_37), (5, .int x_17), (3, .int x_18), (0, .ref vw), (1, .int vn), (2, .int vsd)]) hx hb dX9_drawYears_58 hl (k := 1) rfl ez_37.symm (by decide) rfl (fun ls hl => ?_)
                  refine lv_goto (tgt := 5) hx hb dX9_drawYears_61 (by decide) ?_
                  exact ih1 x_18 z_37 vwly_31 vwlf1_32 g_19 vwlf4_33 vwlf5_34 g_22 g_23 g_24 g_25 g_26 ⟨by omega, by omega⟩ p_g_19 q_36 (by omega) _ _ (hP.sub [10, 11, 0, 1, 2, 12, 13, 3, 4, 14, 15, 5, 6, 7, 8, 9] rfl) (hD.sub [10, 11, 0, 1, 2, 12, 13, 3, 4, 14, 15, 5, 6, 7, 8, 9] rfl rfl) hS ls (lv_sub hl [0, 2, 3, 4, 5] rfl)
                · skip
                  refine as_i 1 aq_35 ?_
                  refine lv_pop hx hb dX9_drawYears_57 rfl ?_
                  obtain ⟨z_38, ez_38⟩ : ∃ z : Int32, z = x_2 + 1 := ⟨_, rfl⟩
                  have k_1 : (1 : Int32).toInt = 1 := by decide
                  have bz_38 : z_38.toInt = x_2.toInt + (1 : Int32).toInt := i_add ez_38 (by omega) (by omega)
                  refine lv_iinc (v := z_38) (lv' := [(4, .int z_38), (5, .int x_17), (3, .int x_18), (0, .ref vw), (1, .int vn), (2, .int vsd)]) hx hb dX9_drawYears_58 hl (k := 1) rfl ez_38.symm (by decide) rfl (fun ls hl => ?_)
                  refine lv_goto (tgt := 5) hx hb dX9_drawYears_61 (by decide) ?_
                  exact ih1 x_18 z_38 vwly_31 vwlf1_32 g_19 vwlf4_33 vwlf5_34 g_22 g_23 g_24 g_25 g_26 ⟨by omega, by omega⟩ p_g_19 q_36 (by omega) _ _ (hP.sub [10, 11, 0, 1, 2, 12, 13, 3, 4, 14, 15, 5, 6, 7, 8, 9] rfl) (hD.sub [10, 11, 0, 1, 2, 12, 13, 3, 4, 14, 15, 5, 6, 7, 8, 9] rfl rfl) hS ls (lv_sub hl [0, 2, 3, 4, 5] rfl)
              · skip
                have c_27 : ¬ (vwcm.toInt ≤ x_17.toInt) := fun h9 => c_27 (i_le.mpr h9)
                refine lv_aload_n hx hb dX9_drawYears_39 rfl (lv_at hl 3 rfl) ?_
                refine lv_iload hx hb dX9_drawYears_40 (lv_at hl 0 rfl) ?_
                refine lv_iload_n hx hb dX9_drawYears_42 rfl (lv_at hl 2 rfl) ?_
                refine jn_i (wr := []) (rV (As := [.int x_17, .int x_18]) (rest := []) (ci := 10) ⟨hx, hb, hml, hown, hts⟩ (g_drawAct l dC dI cy _ vw vwc vwl vws vwc1 vwc2 vwc3 vwc4 vwc5 vwcm vwcd vwcr vwcw vwcf3 vwcf4 vwcf5 vwl1 vwl2 vwl3 vwl4 vwl5 vwl6 vwl7 vwl8 vwl9 vwl10 x_4 g_5 g_19 vwlf3 g_20 g_21 g_22 g_23 g_24 g_25 g_26 x_17 x_18 r_vwcm r_vwcd ⟨by omega, by omega⟩ p_vwcf3 p_g_19 p_g_21) (cw_X9_120 hts rfl rfl ⟨Nat.le_of_ble_eq_true rfl, Nat.le_of_ble_eq_true rfl⟩) hP hD hK [0, 1, 2, 3, 4, 5, 6, 7, 8, 9, 10, 11, 12, 13, 14, 15] rfl rfl rfl rfl bl0 e0 rfl hl.1 rfl (Nat.le_of_ble_eq_true rfl) dX9_drawYears_43 ⟨Nat.le_of_ble_eq_true rfl, Nat.le_of_ble_eq_true rfl⟩) hP hD hS hA [0, 1, 2, 3, 4, 5, 6, 7, 8, 9, 10, 11, 12, 13, 14, 15] [] rfl rfl rfl (by decide) (fun r_39 u_41 H locs hp_40 hP hD hS => ?_)
                obtain ⟨vwlf2_42, vwlf4_43, vwlf5_44, vwlf6_45, vwlf7_46, vwlf8_47, vwlf9_48, vwlf10_49⟩ := u_41
                have hp_40 : (Rg vwlf2_42 70 0 9) ∧ (Rg vwlf5_44 7 (-1) 9) := hp_40
                obtain ⟨q_50, q_51⟩ := hp_40
                have hP : va_P (dC, dI) vwCl [(vw, .inr (10, [.ref vwc, .ref vwl, .ref vws])), (vwc, .inr (2, [.ref vwc1, .ref vwc2, .ref vwc3, .ref vwc4, .ref vwc5, .int vwcm, .int vwcd, .int vwcr, .int vwcw])), (vwc3, .inl (cy 0, 10, .inl vwcf3)), (vwc4, .inl (cy 2, 10, .inl vwcf4)), (vwc5, .inl (cy 0, 7, .inl vwcf5)), (vwl, .inr (5, [.ref vwl1, .ref vwl2, .ref vwl3, .ref vwl4, .ref vwl5, .ref vwl6, .ref vwl7, .ref vwl8, .ref vwl9, .ref vwl10, .int x_4])), (vwl1, .inl (cy 0, 7, .inl g_5)), (vwl2, .inl (cy 0, 70, .inl vwlf2_42)), (vwl3, .inl (cy 0, 49, .inl vwlf3)), (vwl4, .inl (cy 0, 7, .inl vwlf4_43)), (vwl5, .inl (cy 0, 7, .inl vwlf5_44)), (vwl6, .inl (cy 0, 7, .inl vwlf6_45)), (vwl7, .inl (cy 0, 7, .inl vwlf7_46)), (vwl8, .inl (cy 0, 7, .inl vwlf8_47)), (vwl9, .inl (cy 0, 7, .inl vwlf9_48)), (vwl10, .inl (cy 0, 7, .inl vwlf10_49))] H := hP
                have hD : va_D A [(vw, .inr (10, [.ref vwc, .ref vwl, .ref vws])), (vwc, .inr (2, [.ref vwc1, .ref vwc2, .ref vwc3, .ref vwc4, .ref vwc5, .int vwcm, .int vwcd, .int vwcr, .int vwcw])), (vwc3, .inl (cy 0, 10, .inl vwcf3)), (vwc4, .inl (cy 2, 10, .inl vwcf4)), (vwc5, .inl (cy 0, 7, .inl vwcf5)), (vwl, .inr (5, [.ref vwl1, .ref vwl2, .ref vwl3, .ref vwl4, .ref vwl5, .ref vwl6, .ref vwl7, .ref vwl8, .ref vwl9, .ref vwl10, .int x_4])), (vwl1, .inl (cy 0, 7, .inl g_5)), (vwl2, .inl (cy 0, 70, .inl vwlf2_42)), (vwl3, .inl (cy 0, 49, .inl vwlf3)), (vwl4, .inl (cy 0, 7, .inl vwlf4_43)), (vwl5, .inl (cy 0, 7, .inl vwlf5_44)), (vwl6, .inl (cy 0, 7, .inl vwlf6_45)), (vwl7, .inl (cy 0, 7, .inl vwlf7_46)), (vwl8, .inl (cy 0, 7, .inl vwlf8_47)), (vwl9, .inl (cy 0, 7, .inl vwlf9_48)), (vwl10, .inl (cy 0, 7, .inl vwlf10_49))] := hD
                refine lv_istore_n (lv' := [(3, .int r_39), (5, .int x_17), (4, .int x_2), (0, .ref vw), (1, .int vn), (2, .int vsd)]) hx hb dX9_drawYears_46 rfl hl (by decide) rfl (fun ls hl => ?_)
                obtain ⟨z_52, ez_52⟩ : ∃ z : Int32, z = x_17 + 1 := ⟨_, rfl⟩
                have k_1 : (1 : Int32).toInt = 1 := by decide
                have bz_52 : z_52.toInt = x_17.toInt + (1 : Int32).toInt := i_add ez_52 (by omega) (by omega)
                refine lv_iinc (v := z_52) (lv' := [(5, .int z_52), (3, .int r_39), (4, .int x_2), (0, .ref vw), (1, .int vn), (2, .int vsd)]) hx hb dX9_drawYears_47 hl (k := 1) rfl ez_52.symm (by decide) rfl (fun ls hl => ?_)
                refine lv_goto (tgt := 27) hx hb dX9_drawYears_50 (by decide) ?_
                exact ih16 r_39 z_52 vwlf2_42 vwlf4_43 vwlf5_44 vwlf6_45 vwlf7_46 vwlf8_47 vwlf9_48 vwlf10_49 ⟨by omega, by omega⟩ q_50 q_51 (by omega) _ _ (hP.sub [0, 1, 2, 3, 4, 5, 6, 7, 8, 9, 10, 11, 12, 13, 14, 15] rfl) (hD.sub [0, 1, 2, 3, 4, 5, 6, 7, 8, 9, 10, 11, 12, 13, 14, 15] rfl rfl) hS ls (lv_sub hl [0, 2, 1, 3, 4, 5] rfl)
          have k_0 : (0 : Int32).toInt = 0 := by decide
          exact loop16 ((7 - (0 : Int32).toInt).toNat + 1) x_3 0 g_6 g_7 g_8 g_9 g_10 g_11 g_12 g_13 ⟨by omega, by omega⟩ p_g_6 p_g_8 (by omega) _ _ hP hD hS ls (lv_sub hl [0, 1, 2, 3, 4, 5] rfl)
  have k_0 : (0 : Int32).toInt = 0 := by decide
  exact loop1 ((30 - (0 : Int32).toInt).toNat + 1) vsd 0 vwly vwlf1 vwlf2 vwlf4 vwlf5 vwlf6 vwlf7 vwlf8 vwlf9 vwlf10 ⟨by omega, by omega⟩ p_vwlf2 p_vwlf5 (by omega) _ _ hP hD hS ls (lv_sub hl [0, 1, 2, 3, 4] rfl)
