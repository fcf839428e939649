def RJ8 : String := "jdk/internal/util/ArraysSupport"
abbrev cJ8_newLength_cabcc : ByteArray := prog_35_method_27_code
def yJ8_newLength_cabcc : MethodName := ⟨RJ8, "newLength", "(III)I"⟩
theorem t994 : Cond.code yJ8_newLength_cabcc cJ8_newLength_cabcc 4 (some .int) ∈ GW := gw_mem 1108 (by decide +kernel) (by decide +kernel)
theorem dJ8_newLength_cabcc_0 : decode cJ8_newLength_cabcc 0 = .ok (.iload_n 0, 1) := by decide +kernel
theorem dJ8_newLength_cabcc_1 : decode cJ8_newLength_cabcc 1 = .ok (.iload_n 1, 1) := by decide +kernel
theorem dJ8_newLength_cabcc_2 : decode cJ8_newLength_cabcc 2 = .ok (.iload_n 2, 1) := by decide +kernel
theorem dJ8_newLength_cabcc_3 : decode cJ8_newLength_cabcc 3 = .ok (.invokestatic 194, 3) := by decide +kernel
theorem t995 : Cond.methodLink RJ8 194 Lib.Math.max.name ∈ GW := gw_mem 1109 (by decide +kernel) (by decide +kernel)
theorem t996 : Cond.static Lib.Math.max.name ∈ GW := gw_mem 1110 (by decide +kernel) (by decide +kernel)
theorem t997 : Cond.code Lib.Math.max.name Lib.Math.max.code 2 (some .int) ∈ GW := gw_mem 1111 (by decide +kernel) (by decide +kernel)
theorem dJ8_newLength_cabcc_6 : decode cJ8_newLength_cabcc 6 = .ok (.iadd, 1) := by decide +kernel
theorem dJ8_newLength_cabcc_7 : decode cJ8_newLength_cabcc 7 = .ok (.istore_n 3, 1) := by decide +kernel
theorem dJ8_newLength_cabcc_8 : decode cJ8_newLength_cabcc 8 = .ok (.iconst 0, 1) := by decide +kernel
theorem dJ8_newLength_cabcc_9 : decode cJ8_newLength_cabcc 9 = .ok (.iload_n 3, 1) := by decide +kernel
theorem dJ8_newLength_cabcc_10 : decode cJ8_newLength_cabcc 10 = .ok (.if_icmp .ge 11, 3) := by decide +kernel
theorem dJ8_newLength_cabcc_13 : decode cJ8_newLength_cabcc 13 = .ok (.iload_n 3, 1) := by decide +kernel
theorem dJ8_newLength_cabcc_14 : decode cJ8_newLength_cabcc 14 = .ok (.ldc 200, 2) := by decide +kernel
theorem t998 : Cond.constant RJ8 200 2147483639 ∈ GW := gw_mem 1112 (by decide +kernel) (by decide +kernel)
theorem dJ8_newLength_cabcc_16 : decode cJ8_newLength_cabcc 16 = .ok (.if_icmp .gt 5, 3) := by decide +kernel
theorem dJ8_newLength_cabcc_19 : decode cJ8_newLength_cabcc 19 = .ok (.iload_n 3, 1) := by decide +kernel
theorem dJ8_newLength_cabcc_20 : decode cJ8_newLength_cabcc 20 = .ok (.ireturn, 1) := by decide +kernel
set_option maxHeartbeats 4000000 in
set_option maxRecDepth 100000 in
theorem b_newLength (l : Launch) (dC : Nat → ClassId) (dI : Nat → Nat → Nat) (cy : Nat → ClassId) (vo : Int32) (vmg : Int32) (vpr : Int32) (r_vo : 16 ≤ (vo : Int32).toInt ∧ (vo : Int32).toInt ≤ 70) (r_vmg : 1 ≤ (vmg : Int32).toInt ∧ (vmg : Int32).toInt ≤ 100) (r_vpr : 18 ≤ (vpr : Int32).toInt ∧ (vpr : Int32).toInt ≤ 72) : Met l yJ8_newLength_cabcc (wl yJ8_newLength_cabcc cJ8_newLength_cabcc 4 (some .int)) ({ frames := 1, cells := 0, slots := 0, locals := 64 }) (Pr (dC, dI) vwCl cy [] [.int vo, .int vmg, .int vpr]) (Ri (fun r => (34 ≤ (r : Int32).toInt ∧ (r : Int32).toInt ≤ 170) ∧ ((vo : Int32).toInt + (vmg : Int32).toInt ≤ (r : Int32).toInt) ∧ ((vo : Int32).toInt + (vpr : Int32).toInt ≤ (r : Int32).toInt) ∧ (((r : Int32).toInt = (vo : Int32).toInt + (vmg : Int32).toInt ∨ (r : Int32).toInt = (vo : Int32).toInt + (vpr : Int32).toInt)))) 0 0 (fun _ => False) := by
  refine mr RJ8 rfl (by decide +kernel) (Nat.le_of_ble_eq_true rfl) ?_
  intro p e s m below meth c hx hb hr hlocks av9 hav hts hown hml hK hP hS Q9 hQ9 ls hl
  have hl : lv_has ls 4 [(0, .int vo), (1, .int vmg), (2, .int vpr)] := hl
  refine lv_iload_n hx hb dJ8_newLength_cabcc_0 rfl (lv_at hl 0 rfl) ?_
  refine lv_iload_n hx hb dJ8_newLength_cabcc_1 rfl (lv_at hl 1 rfl) ?_
  refine lv_iload_n hx hb dJ8_newLength_cabcc_2 rfl (lv_at hl 2 rfl) ?_
  refine va_mmax hx hb (by rw [hml, hl.1]) hown (hts _ t995) (hts _ t996) (hts _ t24) (hts _ t997) (Nat.le_of_ble_eq_true rfl) (Nat.le_of_ble_eq_true rfl) (Nat.zero_le _) (Nat.zero_le _) dJ8_newLength_cabcc_3 ?_
  refine lv_topi (fun z_1 ez_1 => ?_)
  have bz_1 : vmg.toInt ≤ z_1.toInt ∧ vpr.toInt ≤ z_1.toInt ∧ (z_1.toInt = vmg.toInt ∨ z_1.toInt = vpr.toInt) := i_max ez_1
  refine lv_iadd hx hb dJ8_newLength_cabcc_6 ?_
  refine lv_topi (fun z_2 ez_2 => ?_)
  have bz_2 : z_2.toInt = vo.toInt + z_1.toInt := i_add ez_2 (by omega) (by omega)
  refine lv_istore_n (lv' := [(3, .int z_2), (0, .int vo), (1, .int vmg), (2, .int vpr)]) hx hb dJ8_newLength_cabcc_7 rfl hl (by decide) rfl (fun ls hl => ?_)
  refine lv_iconst (v := 0) hx hb dJ8_newLength_cabcc_8 (by decide) ?_
  refine lv_iload_n hx hb dJ8_newLength_cabcc_9 rfl (lv_at hl 0 rfl) ?_
  have k_0 : (0 : Int32).toInt = 0 := by decide
  refine lv_icmp_ge (tgt := 21) hx hb dJ8_newLength_cabcc_10 (by decide) (fun c9 => absurd (i_le.mp c9) (by omega)) (fun _ => ?_)
  refine lv_iload_n hx hb dJ8_newLength_cabcc_13 rfl (lv_at hl 0 rfl) ?_
  refine lv_ldc hx hb hown (hts _ t998) dJ8_newLength_cabcc_14 ?_
  have k_2147483639 : (2147483639 : Int32).toInt = 2147483639 := by decide
  refine lv_icmp_gt (tgt := 21) hx hb dJ8_newLength_cabcc_16 (by decide) (fun c9 => absurd (i_lt.mp c9) (by omega)) (fun _ => ?_)
  refine lv_iload_n hx hb dJ8_newLength_cabcc_19 rfl (lv_at hl 0 rfl) ?_
  rw [hQ9]
  exact rr_i hx hb hr hlocks ⟨(show 34 ≤ (z_2 : Int32).toInt ∧ (z_2 : Int32).toInt ≤ 170 from ⟨by omega, by omega⟩), (show (vo : Int32).toInt + (vmg : Int32).toInt ≤ (z_2 : Int32).toInt from (by omega)), (show (vo : Int32).toInt + (vpr : Int32).toInt ≤ (z_2 : Int32).toInt from (by omega)), (show ((z_2 : Int32).toInt = (vo : Int32).toInt + (vmg : Int32).toInt ∨ (z_2 : Int32).toInt = (vo : Int32).toInt + (vpr : Int32).toInt) from (by omega))⟩ hS dJ8_newLength_cabcc_20
abbrev cJ1_canEncode_fc78d : ByteArray := prog_27_method_3_code
def yJ1_canEncode_fc78d : MethodName := ⟨RJ1, "canEncode", "(C)Z"⟩
theorem t1117 : Cond.code yJ1_canEncode_fc78d cJ1_canEncode_fc78d 1 (some .boolean) ∈ GW := gw_mem 1231 (by decide +kernel) (by decide +kernel)
theorem dJ1_canEncode_fc78d_0 : decode cJ1_canEncode_fc78d 0 = .ok (.iload_n 0, 1) := by decide +kernel
theorem dJ1_canEncode_fc78d_1 : decode cJ1_canEncode_fc78d 1 = .ok (.sipush 255, 3) := by decide +kernel
theorem dJ1_canEncode_fc78d_4 : decode cJ1_canEncode_fc78d 4 = .ok (.if_icmp .gt 7, 3) := by decide +kernel
theorem dJ1_canEncode_fc78d_7 : decode cJ1_canEncode_fc78d 7 = .ok (.iconst 1, 1) := by decide +kernel
theorem dJ1_canEncode_fc78d_8 : decode cJ1_canEncode_fc78d 8 = .ok (.goto 4, 3) := by decide +kernel
theorem dJ1_canEncode_fc78d_12 : decode cJ1_canEncode_fc78d 12 = .ok (.ireturn, 1) := by decide +kernel
set_option maxHeartbeats 4000000 in
set_option maxRecDepth 100000 in
theorem b_canEncode (l : Launch) (dC : Nat → ClassId) (dI : Nat → Nat → Nat) (cy : Nat → ClassId) (vx : Int32) (r_vx : 0 ≤ (vx : Int32).toInt ∧ (vx : Int32).toInt ≤ 255) : Met l yJ1_canEncode_fc78d (wl yJ1_canEncode_fc78d cJ1_canEncode_fc78d 1 (some .boolean)) ({ frames := 0, cells := 0, slots := 0, locals := 0 }) (Pr (dC, dI) vwCl cy [] [.int vx]) (Ri (fun r => ((r = 1)))) 0 0 (fun _ => False) := by
  refine mr RJ1 rfl (by decide +kernel) (Nat.le_of_ble_eq_true rfl) ?_
  intro p e s m below meth c hx hb hr hlocks av9 hav hts hown hml hK hP hS Q9 hQ9 ls hl
  have hl : lv_has ls 1 [(0, .int vx)] := hl
  refine lv_iload_n hx hb dJ1_canEncode_fc78d_0 rfl (lv_at hl 0 rfl) ?_
  refine lv_sipush (v := 255) hx hb dJ1_canEncode_fc78d_1 (by decide) ?_
  have k_255 : (255 : Int32).toInt = 255 := by decide
  refine lv_icmp_gt (tgt := 11) hx hb dJ1_canEncode_fc78d_4 (by decide) (fun c9 => absurd (i_lt.mp c9) (by omega)) (fun _ => ?_)
  refine lv_iconst (v := 1) hx hb dJ1_canEncode_fc78d_7 (by decide) ?_
  refine lv_goto (tgt := 12) hx hb dJ1_canEncode_fc78d_8 (by decide) ?_
  have k_1 : (1 : Int32).toInt = 1 := by decide
  rw [hQ9]
  exact rr_z hx hb hr hlocks (Or.inr rfl) (show ((1 : Int32) = 1) from (rfl)) hS dJ1_canEncode_fc78d_12
abbrev cJ6_stringSize_0f7a4 : ByteArray := prog_21_method_13_code
def yJ6_stringSize_0f7a4 : MethodName := ⟨RJ6, "stringSize", "(I)I"⟩
theorem t1132 : Cond.code yJ6_stringSize_0f7a4 cJ6_stringSize_0f7a4 4 (some .int) ∈ GW := gw_mem 1246 (by decide +kernel) (by decide +kernel)
theorem dJ6_stringSize_0f7a4_0 : decode cJ6_stringSize_0f7a4 0 = .ok (.iconst 1, 1) := by decide +kernel
theorem dJ6_stringSize_0f7a4_1 : decode cJ6_stringSize_0f7a4 1 = .ok (.istore_n 1, 1) := by decide +kernel
theorem dJ6_stringSize_0f7a4_2 : decode cJ6_stringSize_0f7a4 2 = .ok (.iload_n 0, 1) := by decide +kernel
theorem dJ6_stringSize_0f7a4_3 : decode cJ6_stringSize_0f7a4 3 = .ok (.ifCond .lt 8, 3) := by decide +kernel
theorem dJ6_stringSize_0f7a4_11 : decode cJ6_stringSize_0f7a4 11 = .ok (.bipush (-10), 2) := by decide +kernel
theorem dJ6_stringSize_0f7a4_13 : decode cJ6_stringSize_0f7a4 13 = .ok (.istore_n 2, 1) := by decide +kernel
theorem dJ6_stringSize_0f7a4_14 : decode cJ6_stringSize_0f7a4 14 = .ok (.iconst 1, 1) := by decide +kernel
theorem dJ6_stringSize_0f7a4_15 : decode cJ6_stringSize_0f7a4 15 = .ok (.istore_n 3, 1) := by decide +kernel
theorem dJ6_stringSize_0f7a4_16 : decode cJ6_stringSize_0f7a4 16 = .ok (.iload_n 3, 1) := by decide +kernel
theorem dJ6_stringSize_0f7a4_17 : decode cJ6_stringSize_0f7a4 17 = .ok (.bipush 10, 2) := by decide +kernel
theorem dJ6_stringSize_0f7a4_19 : decode cJ6_stringSize_0f7a4 19 = .ok (.if_icmp .ge 23, 3) := by decide +kernel
theorem dJ6_stringSize_0f7a4_22 : decode cJ6_stringSize_0f7a4 22 = .ok (.iload_n 0, 1) := by decide +kernel
theorem dJ6_stringSize_0f7a4_23 : decode cJ6_stringSize_0f7a4 23 = .ok (.iload_n 2, 1) := by decide +kernel
theorem dJ6_stringSize_0f7a4_24 : decode cJ6_stringSize_0f7a4 24 = .ok (.if_icmp .le 7, 3) := by decide +kernel
theorem dJ6_stringSize_0f7a4_31 : decode cJ6_stringSize_0f7a4 31 = .ok (.bipush 10, 2) := by decide +kernel
theorem dJ6_stringSize_0f7a4_33 : decode cJ6_stringSize_0f7a4 33 = .ok (.iload_n 2, 1) := by decide +kernel
theorem dJ6_stringSize_0f7a4_34 : decode cJ6_stringSize_0f7a4 34 = .ok (.imul, 1) := by decide +kernel
theorem dJ6_stringSize_0f7a4_35 : decode cJ6_stringSize_0f7a4 35 = .ok (.istore_n 2, 1) := by decide +kernel
theorem dJ6_stringSize_0f7a4_36 : decode cJ6_stringSize_0f7a4 36 = .ok (.iinc 3 1, 3) := by decide +kernel
theorem dJ6_stringSize_0f7a4_39 : decode cJ6_stringSize_0f7a4 39 = .ok (.goto (-23), 3) := by decide +kernel
theorem dJ6_stringSize_0f7a4_42 : decode cJ6_stringSize_0f7a4 42 = .ok (.bipush 10, 2) := by decide +kernel
theorem dJ6_stringSize_0f7a4_44 : decode cJ6_stringSize_0f7a4 44 = .ok (.iload_n 1, 1) := by decide +kernel
theorem dJ6_stringSize_0f7a4_45 : decode cJ6_stringSize_0f7a4 45 = .ok (.iadd, 1) := by decide +kernel
theorem dJ6_stringSize_0f7a4_46 : decode cJ6_stringSize_0f7a4 46 = .ok (.ireturn, 1) := by decide +kernel
theorem dJ6_stringSize_0f7a4_27 : decode cJ6_stringSize_0f7a4 27 = .ok (.iload_n 3, 1) := by decide +kernel
theorem dJ6_stringSize_0f7a4_28 : decode cJ6_stringSize_0f7a4 28 = .ok (.iload_n 1, 1) := by decide +kernel
theorem dJ6_stringSize_0f7a4_29 : decode cJ6_stringSize_0f7a4 29 = .ok (.iadd, 1) := by decide +kernel
theorem dJ6_stringSize_0f7a4_30 : decode cJ6_stringSize_0f7a4 30 = .ok (.ireturn, 1) := by decide +kernel
theorem dJ6_stringSize_0f7a4_6 : decode cJ6_stringSize_0f7a4 6 = .ok (.iconst 0, 1) := by decide +kernel
theorem dJ6_stringSize_0f7a4_7 : decode cJ6_stringSize_0f7a4 7 = .ok (.istore_n 1, 1) := by decide +kernel
theorem dJ6_stringSize_0f7a4_8 : decode cJ6_stringSize_0f7a4 8 = .ok (.iload_n 0, 1) := by decide +kernel
theorem dJ6_stringSize_0f7a4_9 : decode cJ6_stringSize_0f7a4 9 = .ok (.ineg, 1) := by decide +kernel
theorem dJ6_stringSize_0f7a4_10 : decode cJ6_stringSize_0f7a4 10 = .ok (.istore_n 0, 1) := by decide +kernel
set_option maxHeartbeats 4000000 in
set_option maxRecDepth 100000 in
theorem b_stringSize (l : Launch) (dC : Nat → ClassId) (dI : Nat → Nat → Nat) (cy : Nat → ClassId) (vx : Int32)  : Met l yJ6_stringSize_0f7a4 (wl yJ6_stringSize_0f7a4 cJ6_stringSize_0f7a4 4 (some .int)) ({ frames := 0, cells := 0, slots := 0, locals := 0 }) (Pr (dC, dI) vwCl cy [] [.int vx]) (Ri (fun r => (1 ≤ (r : Int32).toInt ∧ (r : Int32).toInt ≤ 11) ∧ (0 ≤ (vx : Int32).toInt → GD (-(vx : Int32).toInt) (r : Int32).toInt 0) ∧ ((vx : Int32).toInt < 0 → GD (vx : Int32).toInt ((r : Int32).toInt - 1) 0))) 0 0 (fun _ => False) := by
  refine mr RJ6 rfl (by decide +kernel) (Nat.le_of_ble_eq_true rfl) ?_
  intro p e s m below meth c hx hb hr hlocks av9 hav hts hown hml hK hP hS Q9 hQ9 ls hl
  have hl : lv_has ls 4 [(0, .int vx)] := hl
  have wh_1 := i_rng vx
  refine lv_iconst (v := 1) hx hb dJ6_stringSize_0f7a4_0 (by decide) ?_
  refine lv_istore_n (lv' := [(1, .int 1), (0, .int vx)]) hx hb dJ6_stringSize_0f7a4_1 rfl hl (by decide) rfl (fun ls hl => ?_)
  refine lv_iload_n hx hb dJ6_stringSize_0f7a4_2 rfl (lv_at hl 1 rfl) ?_
  have k_0 : (0 : Int32).toInt = 0 := by decide
  refine lv_if_lt (tgt := 11) hx hb dJ6_stringSize_0f7a4_3 (by decide) (fun c_2 => ?_) (fun c_2 => ?_)
  · skip
    have c_2 : vx.toInt < (0 : Int32).toInt := i_lt.mp c_2
    refine lv_bipush (v := (-10)) hx hb dJ6_stringSize_0f7a4_11 (by decide) ?_
    refine lv_istore_n (lv' := [(2, .int (-10)), (1, .int 1), (0, .int vx)]) hx hb dJ6_stringSize_0f7a4_13 rfl hl (by decide) rfl (fun ls hl => ?_)
    refine lv_iconst (v := 1) hx hb dJ6_stringSize_0f7a4_14 (by decide) ?_
    refine lv_istore_n (lv' := [(3, .int 1), (2, .int (-10)), (1, .int 1), (0, .int vx)]) hx hb dJ6_stringSize_0f7a4_15 rfl hl (by decide) rfl (fun ls hl => ?_)
    refine lv_iload_n hx hb dJ6_stringSize_0f7a4_16 rfl (lv_at hl 0 rfl) ?_
    refine lv_bipush (v := 10) hx hb dJ6_stringSize_0f7a4_17 (by decide) ?_
    refine lv_icmp_ge (tgt := 42) hx hb dJ6_stringSize_0f7a4_19 (by decide) (fun c9 => absurd c9 (by decide)) (fun _ => ?_)
    refine lv_iload_n hx hb dJ6_stringSize_0f7a4_22 rfl (lv_at hl 3 rfl) ?_
    refine lv_iload_n hx hb dJ6_stringSize_0f7a4_23 rfl (lv_at hl 1 rfl) ?_
    have k_m10 : ((-10) : Int32).toInt = (-10) := by decide
    refine lv_icmp_le (tgt := 31) hx hb dJ6_stringSize_0f7a4_24 (by decide) (fun c_3 => ?_) (fun c_3 => ?_)
    · skip
      have c_3 : vx.toInt ≤ ((-10) : Int32).toInt := i_le.mp c_3
      refine lv_bipush (v := 10) hx hb dJ6_stringSize_0f7a4_31 (by decide) ?_
      refine lv_iload_n hx hb dJ6_stringSize_0f7a4_33 rfl (lv_at hl 1 rfl) ?_
      refine lv_imul hx hb dJ6_stringSize_0f7a4_34 ?_
      refine as_i (-100) (by decide) ?_
      refine lv_istore_n (lv' := [(2, .int (-100)), (3, .int 1), (1, .int 1), (0, .int vx)]) hx hb dJ6_stringSize_0f7a4_35 rfl hl (by decide) rfl (fun ls hl => ?_)
      refine lv_iinc (v := 2) (lv' := [(3, .int 2), (2, .int (-100)), (1, .int 1), (0, .int vx)]) hx hb dJ6_stringSize_0f7a4_36 hl (k := 1) rfl (by decide) (by decide) rfl (fun ls hl => ?_)
      refine lv_goto (tgt := 16) hx hb dJ6_stringSize_0f7a4_39 (by decide) ?_
      refine lv_iload_n hx hb dJ6_stringSize_0f7a4_16 rfl (lv_at hl 0 rfl) ?_
      refine lv_bipush (v := 10) hx hb dJ6_stringSize_0f7a4_17 (by decide) ?_
      refine lv_icmp_ge (tgt := 42) hx hb dJ6_stringSize_0f7a4_19 (by decide) (fun c9 => absurd c9 (by decide)) (fun _ => ?_)
      refine lv_iload_n hx hb dJ6_stringSize_0f7a4_22 rfl (lv_at hl 3 rfl) ?_
      refine lv_iload_n hx hb dJ6_stringSize_0f7a4_23 rfl (lv_at hl 1 rfl) ?_
      have k_m100 : ((-100) : Int32).toInt = (-100) := by decide
      refine lv_icmp_le (tgt := 31) hx hb dJ6_stringSize_0f7a4_24 (by decide) (fun c_4 => ?_) (fun c_4 => ?_)
      · skip
        have c_4 : vx.toInt ≤ ((-100) : Int32).toInt := i_le.mp c_4
        refine lv_bipush (v := 10) hx hb dJ6_stringSize_0f7a4_31 (by decide) ?_
        refine lv_iload_n hx hb dJ6_stringSize_0f7a4_33 rfl (lv_at hl 1 rfl) ?_
        refine lv_imul hx hb dJ6_stringSize_0f7a4_34 ?_
        refine as_i (-1000) (by decide) ?_
        refine lv_istore_n (lv' := [(2, .int (-1000)), (3, .int 2), (1, .int 1), (0, .int vx)]) hx hb dJ6_stringSize_0f7a4_35 rfl hl (by decide) rfl (fun ls hl => ?_)
        refine lv_iinc (v := 3) (lv' := [(3, .int 3), (2, .int (-1000)), (1, .int 1), (0, .int vx)]) hx hb dJ6_stringSize_0f7a4_36 hl (k := 1) rfl (by decide) (by decide) rfl (fun ls hl => ?_)
        refine lv_goto (tgt := 16) hx hb dJ6_stringSize_0f7a4_39 (by decide) ?_
        refine lv_iload_n hx hb dJ6_stringSize_0f7a4_16 rfl (lv_at hl 0 rfl) ?_
        refine lv_bipush (v := 10) hx hb dJ6_stringSize_0f7a4_17 (by decide) ?_
        refine lv_icmp_ge (tgt := 42) hx hb dJ6_stringSize_0f7a4_19 (by decide) (fun c9 => absurd c9 (by decide)) (fun _ => ?_)
        refine lv_iload_n hx hb dJ6_stringSize_0f7a4_22 rfl (lv_at hl 3 rfl) ?_
        refine lv_iload_n hx hb dJ6_stringSize_0f7a4_23 rfl (lv_at hl 1 rfl) ?_
        have k_m1000 : ((-1000) : Int32).toInt = (-1000) := by decide
        refine lv_icmp_le (tgt := 31) hx hb dJ6_stringSize_0f7a4_24 (by decide) (fun c_5 => ?_) (fun c_5 => ?_)
        · skip
          have c_5 : vx.toInt ≤ ((-1000) : Int32).toInt := i_le.mp c_5
          refine lv_bipush (v := 10) hx hb dJ6_stringSize_0f7a4_31 (by decide) ?_
          refine lv_iload_n hx hb dJ6_stringSize_0f7a4_33 rfl (lv_at hl 1 rfl) ?_
          refine lv_imul hx hb dJ6_stringSize_0f7a4_34 ?_
          refine as_i (-10000) (by decide) ?_
          refine lv_istore_n (lv' := [(2, .int (-10000)), (3, .int 3), (1, .int 1), (0, .int vx)]) hx hb dJ6_stringSize_0f7a4_35 rfl hl (by decide) rfl (fun ls hl => ?_)
          refine lv_iinc (v := 4) (lv' := [(3, .int 4), (2, .int (-10000)), (1, .int 1), (0, .int vx)]) hx hb dJ6_stringSize_0f7a4_36 hl (k := 1) rfl (by decide) (by decide) rfl (fun ls hl => ?_)
          refine lv_goto (tgt := 16) hx hb dJ6_stringSize_0f7a4_39 (by decide) ?_
          refine lv_iload_n hx hb dJ6_stringSize_0f7a4_16 rfl (lv_at hl 0 rfl) ?_
          refine lv_bipush (v := 10) hx hb dJ6_stringSize_0f7a4_17 (by decide) ?_
          refine lv_icmp_ge (tgt := 42) hx hb dJ6_stringSize_0f7a4_19 (by decide) (fun c9 => absurd c9 (by decide)) (fun _ => ?_)
          refine lv_iload_n hx hb dJ6_stringSize_0f7a4_22 rfl (lv_at hl 3 rfl) ?_
          refine lv_iload_n hx hb dJ6_stringSize_0f7a4_23 rfl (lv_at hl 1 rfl) ?_
          have k_m10000 : ((-10000) : Int32).toInt = (-10000) := by decide
          refine lv_icmp_le (tgt := 31) hx hb dJ6_stringSize_0f7a4_24 (by decide) (fun c_6 => ?_) (fun c_6 => ?_)
          · skip
            have c_6 : vx.toInt ≤ ((-10000) : Int32).toInt := i_le.mp c_6
            refine lv_bipush (v := 10) hx hb dJ6_stringSize_0f7a4_31 (by decide) ?_
            refine lv_iload_n hx hb dJ6_stringSize_0f7a4_33 rfl (lv_at hl 1 rfl) ?_
            refine lv_imul hx hb dJ6_stringSize_0f7a4_34 ?_
            refine as_i (-100000) (by decide) ?_
            refine lv_istore_n (lv' := [(2, .int (-100000)), (3, .int 4), (1, .int 1), (0, .int vx)]) hx hb dJ6_stringSize_0f7a4_35 rfl hl (by decide) rfl (fun ls hl => ?_)
            refine lv_iinc (v := 5) (lv' := [(3, .int 5), (2, .int (-100000)), (1, .int 1), (0, .int vx)]) hx hb dJ6_stringSize_0f7a4_36 hl (k := 1) rfl (by decide) (by decide) rfl (fun ls hl => ?_)
            refine lv_goto (tgt := 16) hx hb dJ6_stringSize_0f7a4_39 (by decide) ?_
            refine lv_iload_n hx hb dJ6_stringSize_0f7a4_16 rfl (lv_at hl 0 rfl) ?_
            refine lv_bipush (v := 10) hx hb dJ6_stringSize_0f7a4_17 (by decide) ?_
            refine lv_icmp_ge (tgt := 42) hx hb dJ6_stringSize_0f7a4_19 (by decide) (fun c9 => absurd c9 (by decide)) (fun _ => ?_)
            refine lv_iload_n hx hb dJ6_stringSize_0f7a4_22 rfl (lv_at hl 3 rfl) ?_
            refine lv_iload_n hx hb dJ6_stringSize_0f7a4_23 rfl (lv_at hl 1 rfl) ?_
            have k_m100000 : ((-100000) : Int32).toInt = (-100000) := by decide
            refine lv_icmp_le (tgt := 31) hx hb dJ6_stringSize_0f7a4_24 (by decide) (fun c_7 => ?_) (fun c_7 => ?_)
            · skip
              have c_7 : vx.toInt ≤ ((-100000) : Int32).toInt := i_le.mp c_7
              refine lv_bipush (v := 10) hx hb dJ6_stringSize_0f7a4_31 (by decide) ?_
              refine lv_iload_n hx hb dJ6_stringSize_0f7a4_33 rfl (lv_at hl 1 rfl) ?_
              refine lv_imul hx hb dJ6_stringSize_0f7a4_34 ?_
              refine as_i (-1000000) (by decide) ?_
              refine lv_istore_n (lv' := [(2, .int (-1000000)), (3, .int 5), (1, .int 1), (0, .int vx)]) hx hb dJ6_stringSize_0f7a4_35 rfl hl (by decide) rfl (fun ls hl => ?_)
              refine lv_iinc (v := 6) (lv' := [(3, .int 6), (2, .int (-1000000)), (1, .int 1), (0, .int vx)]) hx hb dJ6_stringSize_0f7a4_36 hl (k := 1) rfl (by decide) (by decide) rfl (fun ls hl => ?_)
              refine lv_goto (tgt := 16) hx hb dJ6_stringSize_0f7a4_39 (by decide) ?_
              refine lv_iload_n hx hb dJ6_stringSize_0f7a4_16 rfl (lv_at hl 0 rfl) ?_
              refine lv_bipush (v := 10) hx hb dJ6_stringSize_0f7a4_17 (by decide) ?_
              refine lv_icmp_ge (tgt := 42) hx hb dJ6_stringSize_0f7a4_19 (by decide) (fun c9 => absurd c9 (by decide)) (fun _ => ?_)
              refine lv_iload_n hx hb dJ6_stringSize_0f7a4_22 rfl (lv_at hl 3 rfl) ?_
              refine lv_iload_n hx hb dJ6_stringSize_0f7a4_23 rfl (lv_at hl 1 rfl) ?_
              have k_m1000000 : ((-1000000) : Int32).toInt = (-1000000) := by decide
              refine lv_icmp_le (tgt := 31) hx hb dJ6_stringSize_0f7a4_24 (by decide) (fun c_8 => ?_) (fun c_8 => ?_)
              · skip
                have c_8 : vx.toInt ≤ ((-1000000) : Int32).toInt := i_le.mp c_8
                refine lv_bipush (v := 10) hx hb dJ6_stringSize_0f7a4_31 (by decide) ?_
                refine lv_iload_n hx hb dJ6_stringSize_0f7a4_33 rfl (lv_at hl 1 rfl) ?_
                refine lv_imul hx hb dJ6_stringSize_0f7a4_34 ?_
                refine as_i (-10000000) (by decide) ?_
                refine lv_istore_n (lv' := [(2, .int (-10000000)), (3, .int 6), (1, .int 1), (0, .int vx)]) hx hb dJ6_stringSize_0f7a4_35 rfl hl (by decide) rfl (fun ls hl => ?_)
                refine lv_iinc (v := 7) (lv' := [(3, .int 7), (2, .int (-10000000)), (1, .int 1), (0, .int vx)]) hx hb dJ6_stringSize_0f7a4_36 hl (k := 1) rfl (by decide) (by decide) rfl (fun ls hl => ?_)
                refine lv_goto (tgt := 16) hx hb dJ6_stringSize_0f7a4_39 (by decide) ?_
                refine lv_iload_n hx hb dJ6_stringSize_0f7a4_16 rfl (lv_at hl 0 rfl) ?_
                refine lv_bipush (v := 10) hx hb dJ6_stringSize_0f7a4_17 (by decide) ?_
                refine lv_icmp_ge (tgt := 42) hx hb dJ6_stringSize_0f7a4_19 (by decide) (fun c9 => absurd c9 (by decide)) (fun _ => ?_)
                refine lv_iload_n hx hb dJ6_stringSize_0f7a4_22 rfl (lv_at hl 3 rfl) ?_
                refine lv_iload_n hx hb dJ6_stringSize_0f7a4_23 rfl (lv_at hl 1 rfl) ?_
                have k_m10000000 : ((-10000000) : Int32).toInt = (-10000000) := by decide
                refine lv_icmp_le (tgt := 31) hx hb dJ6_stringSize_0f7a4_24 (by decide) (fun c_9 => ?_) (fun c_9 => ?_)
                · skip
                  have c_9 : vx.toInt ≤ ((-10000000) : Int32).toInt := i_le.mp c_9
                  refine lv_bipush (v := 10) hx hb dJ6_stringSize_0f7a4_31 (by decide) ?_
                  refine lv_iload_n hx hb dJ6_stringSize_0f7a4_33 rfl (lv_at hl 1 rfl) ?_
                  refine lv_imul hx hb dJ6_stringSize_0f7a4_34 ?_
                  refine as_i (-100000000) (by decide) ?_
                  refine lv_istore_n (lv' := [(2, .int (-100000000)), (3, .int 7), (1, .int 1), (0, .int vx)]) hx hb dJ6_stringSize_0f7a4_35 rfl hl (by decide) rfl (fun ls hl => ?_)
                  refine lv_iinc (v := 8) (lv' := [(3, .int 8), (2, .int (-100000000)), (1, .int 1), (0, .int vx)]) hx hb dJ6_stringSize_0f7a4_36 hl (k := 1) rfl (by decide) (by decide) rfl (fun ls hl => ?_)
                  refine lv_goto (tgt := 16) hx hb dJ6_stringSize_0f7a4_39 (by decide) ?_
                  refine lv_iload_n hx hb dJ6_stringSize_0f7a4_16 rfl (lv_at hl 0 rfl) ?_
                  refine lv_bipush (v := 10) hx hb dJ6_stringSize_0f7a4_17 (by decide) ?_
                  refine lv_icmp_ge (tgt := 42) hx hb dJ6_stringSize_0f7a4_19 (by decide) (fun c9 => absurd c9 (by decide)) (fun _ => ?_)
                  refine lv_iload_n hx hb dJ6_stringSize_0f7a4_22 rfl (lv_at hl 3 rfl) ?_
                  refine lv_iload_n hx hb dJ6_stringSize_0f7a4_23 rfl (lv_at hl 1 rfl) ?_
                  have k_m100000000 : ((-100000000) : Int32).toInt = (-100000000) := by decide
                  refine lv_icmp_le (tgt := 31) hx hb dJ6_stringSize_0f7a4_24 (by decide) (fun c_10 => ?_) (fun c_10 => ?_)
                  · skip
                    have c_10 : vx.toInt ≤ ((-100000000) : Int32).toInt := i_le.mp c_10
                    refine lv_bipush (v := 10) hx hb dJ6_stringSize_0f7a4_31 (by decide) ?_
                    refine lv_iload_n hx hb dJ6_stringSize_0f7a4_33 rfl (lv_at hl 1 rfl) ?_
                    refine lv_imul hx hb dJ6_stringSize_0f7a4_34 ?_
                    refine as_i (-1000000000) (by decide) ?_
                    refine lv_istore_n (lv' := [(2, .int (-1000000000)), (3, .int 8), (1, .int 1), (0, .int vx)]) hx hb dJ6_stringSize_0f7a4_35 rfl hl (by decide) rfl (fun ls hl => ?_)
                    refine lv_iinc (v := 9) (lv' := [(3, .int 9), (2, .int (-1000000000)), (1, .int 1), (0, .int vx)]) hx hb dJ6_stringSize_0f7a4_36 hl (k := 1) rfl (by decide) (by decide) rfl (fun ls hl => ?_)
                    refine lv_goto (tgt := 16) hx hb dJ6_stringSize_0f7a4_39 (by decide) ?_
                    refine lv_iload_n hx hb dJ6_stringSize_0f7a4_16 rfl (lv_at hl 0 rfl) ?_
                    refine lv_bipush (v := 10) hx hb dJ6_stringSize_0f7a4_17 (by decide) ?_
                    refine lv_icmp_ge (tgt := 42) hx hb dJ6_stringSize_0f7a4_19 (by decide) (fun c9 => absurd c9 (by decide)) (fun _ => ?_)
                    refine lv_iload_n hx hb dJ6_stringSize_0f7a4_22 rfl (lv_at hl 3 rfl) ?_
                    refine lv_iload_n hx hb dJ6_stringSize_0f7a4_23 rfl (lv_at hl 1 rfl) ?_
                    have k_m1000000000 : ((-1000000000) : Int32).toInt = (-1000000000) := by decide
                    refine lv_icmp_le (tgt := 31) hx hb dJ6_stringSize_0f7a4_24 (by decide) (fun c_11 => ?_) (fun c_11 => ?_)
                    · skip
                      have c_11 : vx.toInt ≤ ((-1000000000) : Int32).toInt := i_le.mp c_11
                      refine lv_bipush (v := 10) hx hb dJ6_stringSize_0f7a4_31 (by decide) ?_
                      refine lv_iload_n hx hb dJ6_stringSize_0f7a4_33 rfl (lv_at hl 1 rfl) ?_
                      refine lv_imul hx hb dJ6_stringSize_0f7a4_34 ?_
                      refine as_i (-1410065408) (by decide) ?_
                      refine lv_istore_n (lv' := [(2, .int (-1410065408)), (3, .int 9), (1, .int 1), (0, .int vx)]) hx hb dJ6_stringSize_0f7a4_35 rfl hl (by decide) rfl (fun ls hl => ?_)
                      refine lv_iinc (v := 10) (lv' := [(3, .int 10), (2, .int (-1410065408)), (1, .int 1), (0, .int vx)]) hx hb dJ6_stringSize_0f7a4_36 hl (k := 1) rfl (by decide) (by decide) rfl (fun ls hl => ?_)
                      refine lv_goto (tgt := 16) hx hb dJ6_stringSize_0f7a4_39 (by decide) ?_
                      refine lv_iload_n hx hb dJ6_stringSize_0f7a4_16 rfl (lv_at hl 0 rfl) ?_
                      refine lv_bipush (v := 10) hx hb dJ6_stringSize_0f7a4_17 (by decide) ?_
                      refine lv_icmp_ge (tgt := 42) hx hb dJ6_stringSize_0f7a4_19 (by decide) (fun _ => ?_) (fun c9 => absurd (by decide) c9)
                      refine lv_bipush (v := 10) hx hb dJ6_stringSize_0f7a4_42 (by decide) ?_
                      refine lv_iload_n hx hb dJ6_stringSize_0f7a4_44 rfl (lv_at hl 2 rfl) ?_
                      refine lv_iadd hx hb dJ6_stringSize_0f7a4_45 ?_
                      refine as_i 11 (by decide) ?_
                      have k_11 : (11 : Int32).toInt = 11 := by decide
                      rw [hQ9]
                      exact rr_i hx hb hr hlocks ⟨(show 1 ≤ ((11 : Int32) : Int32).toInt ∧ ((11 : Int32) : Int32).toInt ≤ 11 from ⟨by omega, by omega⟩), (show 0 ≤ (vx : Int32).toInt → GD (-(vx : Int32).toInt) ((11 : Int32) : Int32).toInt 0 from (fun h9 => absurd h9 (by omega))), (show (vx : Int32).toInt < 0 → GD (vx : Int32).toInt (((11 : Int32) : Int32).toInt - 1) 0 from (fun h9 => GD.of 10 (n := 10000000000) (by decide) (by omega) (by decide) (by omega)))⟩ hS dJ6_stringSize_0f7a4_46
                    · skip
                      have c_11 : ¬ (vx.toInt ≤ ((-1000000000) : Int32).toInt) := fun h9 => c_11 (i_le.mpr h9)
                      refine lv_iload_n hx hb dJ6_stringSize_0f7a4_27 rfl (lv_at hl 0 rfl) ?_
                      refine lv_iload_n hx hb dJ6_stringSize_0f7a4_28 rfl (lv_at hl 2 rfl) ?_
                      refine lv_iadd hx hb dJ6_stringSize_0f7a4_29 ?_
                      refine as_i 10 (by decide) ?_
                      have k_10 : (10 : Int32).toInt = 10 := by decide
                      rw [hQ9]
                      exact rr_i hx hb hr hlocks ⟨(show 1 ≤ ((10 : Int32) : Int32).toInt ∧ ((10 : Int32) : Int32).toInt ≤ 11 from ⟨by omega, by omega⟩), (show 0 ≤ (vx : Int32).toInt → GD (-(vx : Int32).toInt) ((10 : Int32) : Int32).toInt 0 from (fun h9 => absurd h9 (by omega))), (show (vx : Int32).toInt < 0 → GD (vx : Int32).toInt (((10 : Int32) : Int32).toInt - 1) 0 from (fun h9 => GD.of 9 (n := 1000000000) (by decide) (by omega) (by decide) (by omega)))⟩ hS dJ6_stringSize_0f7a4_30
                  · skip
                    have c_10 : ¬ (vx.toInt ≤ ((-100000000) : Int32).toInt) := fun h9 => c_10 (i_le.mpr h9)
                    refine lv_iload_n hx hb dJ6_stringSize_0f7a4_27 rfl (lv_at hl 0 rfl) ?_
                    refine lv_iload_n hx hb dJ6_stringSize_0f7a4_28 rfl (lv_at hl 2 rfl) ?_
                    refine lv_iadd hx hb dJ6_stringSize_0f7a4_29 ?_
                    refine as_i 9 (by decide) ?_
                    have k_9 : (9 : Int32).toInt = 9 := by decide
                    rw [hQ9]
                    exact rr_i hx hb hr hlocks ⟨(show 1 ≤ ((9 : Int32) : Int32).toInt ∧ ((9 : Int32) : Int32).toInt ≤ 11 from ⟨by omega, by omega⟩), (show 0 ≤ (vx : Int32).toInt → GD (-(vx : Int32).toInt) ((9 : Int32) : Int32).toInt 0 from (fun h9 => absurd h9 (by omega))), (show (vx : Int32).toInt < 0 → GD (vx : Int32).toInt (((9 : Int32) : Int32).toInt - 1) 0 from (fun h9 => GD.of 8 (n := 100000000) (by decide) (by omega) (by decide) (by omega)))⟩ hS dJ6_stringSize_0f7a4_30
                · skip
                  have c_9 : ¬ (vx.toInt ≤ ((-10000000) : Int32).toInt) := fun h9 => c_9 (i_le.mpr h9)
                  refine lv_iload_n hx hb dJ6_stringSize_0f7a4_27 rfl (lv_at hl 0 rfl) ?_
                  refine lv_iload_n hx hb dJ6_stringSize_0f7a4_28 rfl (lv_at hl 2 rfl) ?_
                  refine lv_iadd hx hb dJ6_stringSize_0f7a4_29 ?_
                  refine as_i 8 (by decide) ?_
                  have k_8 : (8 : Int32).toInt = 8 := by decide
                  rw [hQ9]
                  exact rr_i hx hb hr hlocks ⟨(show 1 ≤ ((8 : Int32) : Int32).toInt ∧ ((8 : Int32) : Int32).toInt ≤ 11 from ⟨by omega, by omega⟩), (show 0 ≤ (vx : Int32).toInt → GD (-(vx : Int32).toInt) ((8 : Int32) : Int32).toInt 0 from (fun h9 => absurd h9 (by omega))), (show (vx : Int32).toInt < 0 → GD (vx : Int32).toInt (((8 : Int32) : Int32).toInt - 1) 0 from (fun h9 => GD.of 7 (n := 10000000) (by decide) (by omega) (by decide) (by omega)))⟩ hS dJ6_stringSize_0f7a4_30
              · skip
                have c_8 : ¬ (vx.toInt ≤ ((-1000000) : Int32).toInt) := fun h9 => c_8 (i_le.mpr h9)
                refine lv_iload_n hx hb dJ6_stringSize_0f7a4_27 rfl (lv_at hl 0 rfl) ?_
                refine lv_iload_n hx hb dJ6_stringSize_0f7a4_28 rfl (lv_at hl 2 rfl) ?_
                refine lv_iadd hx hb dJ6_stringSize_0f7a4_29 ?_
                refine as_i 7 (by decide) ?_
                have k_7 : (7 : Int32).toInt = 7 := by decide
                rw [hQ9]
                exact rr_i hx hb hr hlocks ⟨(show 1 ≤ ((7 : Int32) : Int32).toInt ∧ ((7 : Int32) : Int32).toInt ≤ 11 from ⟨by omega, by omega⟩), (show 0 ≤ (vx : Int32).toInt → GD (-(vx : Int32).toInt) ((7 : Int32) : Int32).toInt 0 from (fun h9 => absurd h9 (by omega))), (show (vx : Int32).toInt < 0 → GD (vx : Int32).toInt (((7 : Int32) : Int32).toInt - 1) 0 from (fun h9 => GD.of 6 (n := 1000000) (by decide) (by omega) (by decide) (by omega)))⟩ hS dJ6_stringSize_0f7a4_30
            · skip
              have c_7 : ¬ (vx.toInt ≤ ((-100000) : Int32).toInt) := fun h9 => c_7 (i_le.mpr h9)
              refine lv_iload_n hx hb dJ6_stringSize_0f7a4_27 rfl (lv_at hl 0 rfl) ?_
              refine lv_iload_n hx hb dJ6_stringSize_0f7a4_28 rfl (lv_at hl 2 rfl) ?_
              refine lv_iadd hx hb dJ6_stringSize_0f7a4_29 ?_
              refine as_i 6 (by decide) ?_
              have k_6 : (6 : Int32).toInt = 6 := by decide
              rw [hQ9]
              exact rr_i hx hb hr hlocks ⟨(show 1 ≤ ((6 : Int32) : Int32).toInt ∧ ((6 : Int32) : Int32).toInt ≤ 11 from ⟨by omega, by omega⟩), (show 0 ≤ (vx : Int32).toInt → GD (-(vx : Int32).toInt) ((6 : Int32) : Int32).toInt 0 from (fun h9 => absurd h9 (by omega))), (show (vx : Int32).toInt < 0 → GD (vx : Int32).toInt (((6 : Int32) : Int32).toInt - 1) 0 from (fun h9 => GD.of 5 (n := 100000) (by decide) (by omega) (by decide) (by omega)))⟩ hS dJ6_stringSize_0f7a4_30
          · skip
            have c_6 : ¬ (vx.toInt ≤ ((-10000) : Int32).toInt) := fun h9 => c_6 (i_le.mpr h9)
            refine lv_iload_n hx hb dJ6_stringSize_0f7a4_27 rfl (lv_at hl 0 rfl) ?_
            refine lv_iload_n hx hb dJ6_stringSize_0f7a4_28 rfl (lv_at hl 2 rfl) ?_
            refine lv_iadd hx hb dJ6_stringSize_0f7a4_29 ?_
            refine as_i 5 (by decide) ?_
            have k_5 : (5 : Int32).toInt = 5 := by decide
            rw [hQ9]
            exact rr_i hx hb hr hlocks ⟨(show 1 ≤ ((5 : Int32) : Int32).toInt ∧ ((5 : Int32) : Int32).toInt ≤ 11 from ⟨by omega, by omega⟩), (show 0 ≤ (vx : Int32).toInt → GD (-(vx : Int32).toInt) ((5 : Int32) : Int32).toInt 0 from (fun h9 => absurd h9 (by omega))), (show (vx : Int32).toInt < 0 → GD (vx : Int32).toInt (((5 : Int32) : Int32).toInt - 1) 0 from (fun h9 => GD.of 4 (n := 10000) (by decide) (by omega) (by decide) (by omega)))⟩ hS dJ6_stringSize_0f7a4_30
        · skip
          have c_5 : ¬ (vx.toInt ≤ ((-1000) : Int32).toInt) := fun h9 => c_5 (i_le.mpr h9)
          refine lv_iload_n hx hb dJ6_stringSize_0f7a4_27 rfl (lv_at hl 0 rfl) ?_
          refine lv_iload_n hx hb dJ6_stringSize_0f7a4_28 rfl (lv_at hl 2 rfl) ?_
          refine lv_iadd hx hb dJ6_stringSize_0f7a4_29 ?_
          refine as_i 4 (by decide) ?_
          have k_4 : (4 : Int32).toInt = 4 := by decide
          rw [hQ9]
          exact rr_i hx hb hr hlocks ⟨(show 1 ≤ ((4 : Int32) : Int32).toInt ∧ ((4 : Int32) : Int32).toInt ≤ 11 from ⟨by omega, by omega⟩), (show 0 ≤ (vx : Int32).toInt → GD (-(vx : Int32).toInt) ((4 : Int32) : Int32).toInt 0 from (fun h9 => absurd h9 (by omega))), (show (vx : Int32).toInt < 0 → GD (vx : Int32).toInt (((4 : Int32) : Int32).toInt - 1) 0 from (fun h9 => GD.of 3 (n := 1000) (by decide) (by omega) (by decide) (by omega)))⟩ hS dJ6_stringSize_0f7a4_30
      · skip
        have c_4 : ¬ (vx.toInt ≤ ((-100) : Int32).toInt) := fun h9 => c_4 (i_le.mpr h9)
        refine lv_iload_n hx hb dJ6_stringSize_0f7a4_27 rfl (lv_at hl 0 rfl) ?_
        refine lv_iload_n hx hb dJ6_stringSize_0f7a4_28 rfl (lv_at hl 2 rfl) ?_
        refine lv_iadd hx hb dJ6_stringSize_0f7a4_29 ?_
        refine as_i 3 (by decide) ?_
        have k_3 : (3 : Int32).toInt = 3 := by decide
        rw [hQ9]
        exact rr_i hx hb hr hlocks ⟨(show 1 ≤ ((3 : Int32) : Int32).toInt ∧ ((3 : Int32) : Int32).toInt ≤ 11 from ⟨by omega, by omega⟩), (show 0 ≤ (vx : Int32).toInt → GD (-(vx : Int32).toInt) ((3 : Int32) : Int32).toInt 0 from (fun h9 => absurd h9 (by omega))), (show (vx : Int32).toInt < 0 → GD (vx : Int32).toInt (((3 : Int32) : Int32).toInt - 1) 0 from (fun h9 => GD.of 2 (n := 100) (by decide) (by omega) (by decide) (by omega)))⟩ hS dJ6_stringSize_0f7a4_30
    · skip
      have c_3 : ¬ (vx.toInt ≤ ((-10) : Int32).toInt) := fun h9 => c_3 (i_le.mpr h9)
      refine lv_iload_n hx hb dJ6_stringSize_0f7a4_27 rfl (lv_at hl 0 rfl) ?_
      refine lv_iload_n hx hb dJ6_stringSize_0f7a4_28 rfl (lv_at hl 2 rfl) ?_
      refine lv_iadd hx hb dJ6_stringSize_0f7a4_29 ?_
      refine as_i 2 (by decide) ?_
      have k_2 : (2 : Int32).toInt = 2 := by decide
      rw [hQ9]
      exact rr_i hx hb hr hlocks ⟨(show 1 ≤ ((2 : Int32) : Int32).toInt ∧ ((2 : Int32) : Int32).toInt ≤ 11 from ⟨by omega, by omega⟩), (show 0 ≤ (vx : Int32).toInt → GD (-(vx : Int32).toInt) ((2 : Int32) : Int32).toInt 0 from (fun h9 => absurd h9 (by omega))), (show (vx : Int32).toInt < 0 → GD (vx : Int32).toInt (((2 : Int32) : Int32).toInt - 1) 0 from (fun h9 => GD.of 1 (n := 10) (by decide) (by omega) (by decide) (by omega)))⟩ hS dJ6_stringSize_0f7a4_30
  · skip
    have c_2 : ¬ (vx.toInt < (0 : Int32).toInt) := fun h9 => c_2 (i_lt.mpr h9)
    refine lv_iconst (v := 0) hx hb dJ6_stringSize_0f7a4_6 (by decide) ?_
    refine lv_istore_n (lv' := [(1, .int 0), (0, .int vx)]) hx hb dJ6_stringSize_0f7a4_7 rfl hl (by decide) rfl (fun ls hl => ?_)
    refine lv_iload_n hx hb dJ6_stringSize_0f7a4_8 rfl (lv_at hl 1 rfl) ?_
    refine lv_ineg hx hb dJ6_stringSize_0f7a4_9 ?_
    refine lv_topi (fun z_12 ez_12 => ?_)
    have bz_12 : z_12.toInt = -vx.toInt := i_neg ez_12 (by omega)
    refine lv_istore_n (lv' := [(0, .int z_12), (1, .int 0)]) hx hb dJ6_stringSize_0f7a4_10 rfl hl (by decide) rfl (fun ls hl => ?_)
    refine lv_bipush (v := (-10)) hx hb dJ6_stringSize_0f7a4_11 (by decide) ?_
    refine lv_istore_n (lv' := [(2, .int (-10)), (0, .int z_12), (1, .int 0)]) hx hb dJ6_stringSize_0f7a4_13 rfl hl (by decide) rfl (fun ls hl => ?_)
    refine lv_iconst (v := 1) hx hb dJ6_stringSize_0f7a4_14 (by decide) ?_
    refine lv_istore_n (lv' := [(3, .int 1), (2, .int (-10)), (0, .int z_12), (1, .int 0)]) hx hb dJ6_stringSize_0f7a4_15 rfl hl (by decide) rfl (fun ls hl => ?_)
    refine lv_iload_n hx hb dJ6_stringSize_0f7a4_16 rfl (lv_at hl 0 rfl) ?_
    refine lv_bipush (v := 10) hx hb dJ6_stringSize_0f7a4_17 (by decide) ?_
    refine lv_icmp_ge (tgt := 42) hx hb dJ6_stringSize_0f7a4_19 (by decide) (fun c9 => absurd c9 (by decide)) (fun _ => ?_)
    refine lv_iload_n hx hb dJ6_stringSize_0f7a4_22 rfl (lv_at hl 2 rfl) ?_
    refine lv_iload_n hx hb dJ6_stringSize_0f7a4_23 rfl (lv_at hl 1 rfl) ?_
    have k_m10 : ((-10) : Int32).toInt = (-10) := by decide
    refine lv_icmp_le (tgt := 31) hx hb dJ6_stringSize_0f7a4_24 (by decide) (fun c_13 => ?_) (fun c_13 => ?_)
    · skip
      have c_13 : z_12.toInt ≤ ((-10) : Int32).toInt := i_le.mp c_13
      refine lv_bipush (v := 10) hx hb dJ6_stringSize_0f7a4_31 (by decide) ?_
      refine lv_iload_n hx hb dJ6_stringSize_0f7a4_33 rfl (lv_at hl 1 rfl) ?_
      refine lv_imul hx hb dJ6_stringSize_0f7a4_34 ?_
      refine as_i (-100) (by decide) ?_
      refine lv_istore_n (lv' := [(2, .int (-100)), (3, .int 1), (0, .int z_12), (1, .int 0)]) hx hb dJ6_stringSize_0f7a4_35 rfl hl (by decide) rfl (fun ls hl => ?_)
      refine lv_iinc (v := 2) (lv' := [(3, .int 2), (2, .int (-100)), (0, .int z_12), (1, .int 0)]) hx hb dJ6_stringSize_0f7a4_36 hl (k := 1) rfl (by decide) (by decide) rfl (fun ls hl => ?_)
      refine lv_goto (tgt := 16) hx hb dJ6_stringSize_0f7a4_39 (by decide) ?_
      refine lv_iload_n hx hb dJ6_stringSize_0f7a4_16 rfl (lv_at hl 0 rfl) ?_
      refine lv_bipush (v := 10) hx hb dJ6_stringSize_0f7a4_17 (by decide) ?_
      refine lv_icmp_ge (tgt := 42) hx hb dJ6_stringSize_0f7a4_19 (by decide) (fun c9 => absurd c9 (by decide)) (fun _ => ?_)
      refine lv_iload_n hx hb dJ6_stringSize_0f7a4_22 rfl (lv_at hl 2 rfl) ?_
      refine lv_iload_n hx hb dJ6_stringSize_0f7a4_23 rfl (lv_at hl 1 rfl) ?_
      have k_m100 : ((-100) : Int32).toInt = (-100) := by decide
      refine lv_icmp_le (tgt := 31) hx hb dJ6_stringSize_0f7a4_24 (by decide) (fun c_14 => ?_) (fun c_14 => ?_)
      · skip
        have c_14 : z_12.toInt ≤ ((-100) : Int32).toInt := i_le.mp c_14
        refine lv_bipush (v := 10) hx hb dJ6_stringSize_0f7a4_31 (by decide) ?_
        refine lv_iload_n hx hb dJ6_stringSize_0f7a4_33 rfl (lv_at hl 1 rfl) ?_
        refine lv_imul hx hb dJ6_stringSize_0f7a4_34 ?_
        refine as_i (-1000) (by decide) ?_
        refine lv_istore_n (lv' := [(2, .int (-1000)), (3, .int 2), (0, .int z_12), (1, .int 0)]) hx hb dJ6_stringSize_0f7a4_35 rfl hl (by decide) rfl (fun ls hl => ?_)
        refine lv_iinc (v := 3) (lv' := [(3, .int 3), (2, .int (-1000)), (0, .int z_12), (1, .int 0)]) hx hb dJ6_stringSize_0f7a4_36 hl (k := 1) rfl (by decide) (by decide) rfl (fun ls hl => ?_)
        refine lv_goto (tgt := 16) hx hb dJ6_stringSize_0f7a4_39 (by decide) ?_
        refine lv_iload_n hx hb dJ6_stringSize_0f7a4_16 rfl (lv_at hl 0 rfl) ?_
        refine lv_bipush (v := 10) hx hb dJ6_stringSize_0f7a4_17 (by decide) ?_
        refine lv_icmp_ge (tgt := 42) hx hb dJ6_stringSize_0f7a4_19 (by decide) (fun c9 => absurd c9 (by decide)) (fun _ => ?_)
        refine lv_iload_n hx hb dJ6_stringSize_0f7a4_22 rfl (lv_at hl 2 rfl) ?_
        refine lv_iload_n hx hb dJ6_stringSize_0f7a4_23 rfl (lv_at hl 1 rfl) ?_
        have k_m1000 : ((-1000) : Int32).toInt = (-1000) := by decide
        refine lv_icmp_le (tgt := 31) hx hb dJ6_stringSize_0f7a4_24 (by decide) (fun c_15 => ?_) (fun c_15 => ?_)
        · skip
          have c_15 : z_12.toInt ≤ ((-1000) : Int32).toInt := i_le.mp c_15
          refine lv_bipush (v := 10) hx hb dJ6_stringSize_0f7a4_31 (by decide) ?_
          refine lv_iload_n hx hb dJ6_stringSize_0f7a4_33 rfl (lv_at hl 1 rfl) ?_
          refine lv_imul hx hb dJ6_stringSize_0f7a4_34 ?_
          refine as_i (-10000) (by decide) ?_
          refine lv_istore_n (lv' := [(2, .int (-10000)), (3, .int 3), (0, .int z_12), (1, .int 0)]) hx hb dJ6_stringSize_0f7a4_35 rfl hl (by decide) rfl (fun ls hl => ?_)
          refine lv_iinc (v := 4) (lv' := [(3, .int 4), (2, .int (-10000)), (0, .int z_12), (1, .int 0)]) hx hb dJ6_stringSize_0f7a4_36 hl (k := 1) rfl (by decide) (by decide) rfl (fun ls hl => ?_)
          refine lv_goto (tgt := 16) hx hb dJ6_stringSize_0f7a4_39 (by decide) ?_
          refine lv_iload_n hx hb dJ6_stringSize_0f7a4_16 rfl (lv_at hl 0 rfl) ?_
          refine lv_bipush (v := 10) hx hb dJ6_stringSize_0f7a4_17 (by decide) ?_
          refine lv_icmp_ge (tgt := 42) hx hb dJ6_stringSize_0f7a4_19 (by decide) (fun c9 => absurd c9 (by decide)) (fun _ => ?_)
          refine lv_iload_n hx hb dJ6_stringSize_0f7a4_22 rfl (lv_at hl 2 rfl) ?_
          refine lv_iload_n hx hb dJ6_stringSize_0f7a4_23 rfl (lv_at hl 1 rfl) ?_
          have k_m10000 : ((-10000) : Int32).toInt = (-10000) := by decide
          refine lv_icmp_le (tgt := 31) hx hb dJ6_stringSize_0f7a4_24 (by decide) (fun c_16 => ?_) (fun c_16 => ?_)
          · skip
            have c_16 : z_12.toInt ≤ ((-10000) : Int32).toInt := i_le.mp c_16
            refine lv_bipush (v := 10) hx hb dJ6_stringSize_0f7a4_31 (by decide) ?_
            refine lv_iload_n hx hb dJ6_stringSize_0f7a4_33 rfl (lv_at hl 1 rfl) ?_
            refine lv_imul hx hb dJ6_stringSize_0f7a4_34 ?_
            refine as_i (-100000) (by decide) ?_
            refine lv_istore_n (lv' := [(2, .int (-100000)), (3, .int 4), (0, .int z_12), (1, .int 0)]) hx hb dJ6_stringSize_0f7a4_35 rfl hl (by decide) rfl (fun ls hl => ?_)
            refine lv_iinc (v := 5) (lv' := [(3, .int 5), (2, .int (-100000)), (0, .int z_12), (1, .int 0)]) hx hb dJ6_stringSize_0f7a4_36 hl (k := 1) rfl (by decide) (by decide) rfl (fun ls hl => ?_)
            refine lv_goto (tgt := 16) hx hb dJ6_stringSize_0f7a4_39 (by decide) ?_
            refine lv_iload_n hx hb dJ6_stringSize_0f7a4_16 rfl (lv_at hl 0 rfl) ?_
            refine lv_bipush (v := 10) hx hb dJ6_stringSize_0f7a4_17 (by decide) ?_
            refine lv_icmp_ge (tgt := 42) hx hb dJ6_stringSize_0f7a4_19 (by decide) (fun c9 => absurd c9 (by decide)) (fun _ => ?_)
            refine lv_iload_n hx hb dJ6_stringSize_0f7a4_22 rfl (lv_at hl 2 rfl) ?_
            refine lv_iload_n hx hb dJ6_stringSize_0f7a4_23 rfl (lv_at hl 1 rfl) ?_
            have k_m100000 : ((-100000) : Int32).toInt = (-100000) := by decide
            refine lv_icmp_le (tgt := 31) hx hb dJ6_stringSize_0f7a4_24 (by decide) (fun c_17 => ?_) (fun c_17 => ?_)
            · skip
              have c_17 : z_12.toInt ≤ ((-100000) : Int32).toInt := i_le.mp c_17
              refine lv_bipush (v := 10) hx hb dJ6_stringSize_0f7a4_31 (by decide) ?_
              refine lv_iload_n hx hb dJ6_stringSize_0f7a4_33 rfl (lv_at hl 1 rfl) ?_
              refine lv_imul hx hb dJ6_stringSize_0f7a4_34 ?_
              refine as_i (-1000000) (by decide) ?_
              refine lv_istore_n (lv' := [(2, .int (-1000000)), (3, .int 5), (0, .int z_12), (1, .int 0)]) hx hb dJ6_stringSize_0f7a4_35 rfl hl (by decide) rfl (fun ls hl => ?_)
              refine lv_iinc (v := 6) (lv' := [(3, .int 6), (2, .int (-1000000)), (0, .int z_12), (1, .int 0)]) hx hb dJ6_stringSize_0f7a4_36 hl (k := 1) rfl (by decide) (by decide) rfl (fun ls hl => ?_)
              refine lv_goto (tgt := 16) hx hb dJ6_stringSize_0f7a4_39 (by decide) ?_
              refine lv_iload_n hx hb dJ6_stringSize_0f7a4_16 rfl (lv_at hl 0 rfl) ?_
              refine lv_bipush (v := 10) hx hb dJ6_stringSize_0f7a4_17 (by decide) ?_
              refine lv_icmp_ge (tgt := 42) hx hb dJ6_stringSize_0f7a4_19 (by decide) (fun c9 => absurd c9 (by decide)) (fun _ => ?_)
              refine lv_iload_n hx hb dJ6_stringSize_0f7a4_22 rfl (lv_at hl 2 rfl) ?_
              refine lv_iload_n hx hb dJ6_stringSize_0f7a4_23 rfl (lv_at hl 1 rfl) ?_
              have k_m1000000 : ((-1000000) : Int32).toInt = (-1000000) := by decide
              refine lv_icmp_le (tgt := 31) hx hb dJ6_stringSize_0f7a4_24 (by decide) (fun c_18 => ?_) (fun c_18 => ?_)
              · skip
                have c_18 : z_12.toInt ≤ ((-1000000) : Int32).toInt := i_le.mp c_18
                refine lv_bipush (v := 10) hx hb dJ6_stringSize_0f7a4_31 (by decide) ?_
                refine lv_iload_n hx hb dJ6_stringSize_0f7a4_33 rfl (lv_at hl 1 rfl) ?_
                refine lv_imul hx hb dJ6_stringSize_0f7a4_34 ?_
                refine as_i (-10000000) (by decide) ?_
                refine lv_istore_n (lv' := [(2, .int (-10000000)), (3, .int 6), (0, .int z_12), (1, .int 0)]) hx hb dJ6_stringSize_0f7a4_35 rfl hl (by decide) rfl (fun ls hl => ?_)
                refine lv_iinc (v := 7) (lv' := [(3, .int 7), (2, .int (-10000000)), (0, .int z_12), (1, .int 0)]) hx hb dJ6_stringSize_0f7a4_36 hl (k := 1) rfl (by decide) (by decide) rfl (fun ls hl => ?_)
                refine lv_goto (tgt := 16) hx hb dJ6_stringSize_0f7a4_39 (by decide) ?_
                refine lv_iload_n hx hb dJ6_stringSize_0f7a4_16 rfl (lv_at hl 0 rfl) ?_
                refine lv_bipush (v := 10) hx hb dJ6_stringSize_0f7a4_17 (by decide) ?_
                refine lv_icmp_ge (tgt := 42) hx hb dJ6_stringSize_0f7a4_19 (by decide) (fun c9 => absurd c9 (by decide)) (fun _ => ?_)
                refine lv_iload_n hx hb dJ6_stringSize_0f7a4_22 rfl (lv_at hl 2 rfl) ?_
                refine lv_iload_n hx hb dJ6_stringSize_0f7a4_23 rfl (lv_at hl 1 rfl) ?_
                have k_m10000000 : ((-10000000) : Int32).toInt = (-10000000) := by decide
                refine lv_icmp_le (tgt := 31) hx hb dJ6_stringSize_0f7a4_24 (by decide) (fun c_19 => ?_) (fun c_19 => ?_)
                · skip
                  have c_19 : z_12.toInt ≤ ((-10000000) : Int32).toInt := i_le.mp c_19
                  refine lv_bipush (v := 10) hx hb dJ6_stringSize_0f7a4_31 (by decide) ?_
                  refine lv_iload_n hx hb dJ6_stringSize_0f7a4_33 rfl (lv_at hl 1 rfl) ?_
                  refine lv_imul hx hb dJ6_stringSize_0f7a4_34 ?_
                  refine as_i (-100000000) (by decide) ?_
                  refine lv_istore_n (lv' := [(2, .int (-100000000)), (3, .int 7), (0, .int z_12), (1, .int 0)]) hx hb dJ6_stringSize_0f7a4_35 rfl hl (by decide) rfl (fun ls hl => ?_)
                  refine lv_iinc (v := 8) (lv' := [(3, .int 8), (2, .int (-100000000)), (0, .int z_12), (1, .int 0)]) hx hb dJ6_stringSize_0f7a4_36 hl (k := 1) rfl (by decide) (by decide) rfl (fun ls hl => ?_)
                  refine lv_goto (tgt := 16) hx hb dJ6_stringSize_0f7a4_39 (by decide) ?_
                  refine lv_iload_n hx hb dJ6_stringSize_0f7a4_16 rfl (lv_at hl 0 rfl) ?_
                  refine lv_bipush (v := 10) hx hb dJ6_stringSize_0f7a4_17 (by decide) ?_
                  refine lv_icmp_ge (tgt := 42) hx hb dJ6_stringSize_0f7a4_19 (by decide) (fun c9 => absurd c9 (by decide)) (fun _ => ?_)
                  refine lv_iload_n hx hb dJ6_stringSize_0f7a4_22 rfl (lv_at hl 2 rfl) ?_
                  refine lv_iload_n hx hb dJ6_stringSize_0f7a4_23 rfl (lv_at hl 1 rfl) ?_
                  have k_m100000000 : ((-100000000) : Int32).toInt = (-100000000) := by decide
                  refine lv_icmp_le (tgt := 31) hx hb dJ6_stringSize_0f7a4_24 (by decide) (fun c_20 => ?_) (fun c_20 => ?_)
                  · skip
                    have c_20 : z_12.toInt ≤ ((-100000000) : Int32).toInt := i_le.mp c_20
                    refine lv_bipush (v := 10) hx hb dJ6_stringSize_0f7a4_31 (by decide) ?_
                    refine lv_iload_n hx hb dJ6_stringSize_0f7a4_33 rfl (lv_at hl 1 rfl) ?_
                    refine lv_imul hx hb dJ6_stringSize_0f7a4_34 ?_
                    refine as_i (-1000000000) (by decide) ?_
                    refine lv_istore_n (lv' := [(2, .int (-1000000000)), (3, .int 8), (0, .int z_12), (1, .int 0)]) hx hb dJ6_stringSize_0f7a4_35 rfl hl (by decide) rfl (fun ls hl => ?_)
                    refine lv_iinc (v := 9) (lv' := [(3, .int 9), (2, .int (-1000000000)), (0, .int z_12), (1, .int 0)]) hx hb dJ6_stringSize_0f7a4_36 hl (k := 1) rfl (by decide) (by decide) rfl (fun ls hl => ?_)
                    refine lv_goto (tgt := 16) hx hb dJ6_stringSize_0f7a4_39 (by decide) ?_
                    refine lv_iload_n hx hb dJ6_stringSize_0f7a4_16 rfl (lv_at hl 0 rfl) ?_
                    refine lv_bipush (v := 10) hx hb dJ6_stringSize_0f7a4_17 (by decide) ?_
                    refine lv_icmp_ge (tgt := 42) hx hb dJ6_stringSize_0f7a4_19 (by decide) (fun c9 => absurd c9 (by decide)) (fun _ => ?_)
                    refine lv_iload_n hx hb dJ6_stringSize_0f7a4_22 rfl (lv_at hl 2 rfl) ?_
                    refine lv_iload_n hx hb dJ6_stringSize_0f7a4_23 rfl (lv_at hl 1 rfl) ?_
                    have k_m1000000000 : ((-1000000000) : Int32).toInt = (-1000000000) := by decide
                    refine lv_icmp_le (tgt := 31) hx hb dJ6_stringSize_0f7a4_24 (by decide) (fun c_21 => ?_) (fun c_21 => ?_)
                    · skip
                      have c_21 : z_12.toInt ≤ ((-1000000000) : Int32).toInt := i_le.mp c_21
                      refine lv_bipush (v := 10) hx hb dJ6_stringSize_0f7a4_31 (by decide) ?_
                      refine lv_iload_n hx hb dJ6_stringSize_0f7a4_33 rfl (lv_at hl 1 rfl) ?_
                      refine lv_imul hx hb dJ6_stringSize_0f7a4_34 ?_
                      refine as_i (-1410065408) (by decide) ?_
                      refine lv_istore_n (lv' := [(2, .int (-1410065408)), (3, .int 9), (0, .int z_12), (1, .int 0)]) hx hb dJ6_stringSize_0f7a4_35 rfl hl (by decide) rfl (fun ls hl => ?_)
                      refine lv_iinc (v := 10) (lv' := [(3, .int 10), (2, .int (-1410065408)), (0, .int z_12), (1, .int 0)]) hx hb dJ6_stringSize_0f7a4_36 hl (k := 1) rfl (by decide) (by decide) rfl (fun ls hl => ?_)
                      refine lv_goto (tgt := 16) hx hb dJ6_stringSize_0f7a4_39 (by decide) ?_
                      refine lv_iload_n hx hb dJ6_stringSize_0f7a4_16 rfl (lv_at hl 0 rfl) ?_
                      refine lv_bipush (v := 10) hx hb dJ6_stringSize_0f7a4_17 (by decide) ?_
                      refine lv_icmp_ge (tgt := 42) hx hb dJ6_stringSize_0f7a4_19 (by decide) (fun _ => ?_) (fun c9 => absurd (by decide) c9)
                      refine lv_bipush (v := 10) hx hb dJ6_stringSize_0f7a4_42 (by decide) ?_
                      refine lv_iload_n hx hb dJ6_stringSize_0f7a4_44 rfl (lv_at hl 3 rfl) ?_
                      refine lv_iadd hx hb dJ6_stringSize_0f7a4_45 ?_
                      refine as_i 10 (by decide) ?_
                      have k_10 : (10 : Int32).toInt = 10 := by decide
                      rw [hQ9]
                      exact rr_i hx hb hr hlocks ⟨(show 1 ≤ ((10 : Int32) : Int32).toInt ∧ ((10 : Int32) : Int32).toInt ≤ 11 from ⟨by omega, by omega⟩), (show 0 ≤ (vx : Int32).toInt → GD (-(vx : Int32).toInt) ((10 : Int32) : Int32).toInt 0 from (fun h9 => GD.of 10 (n := 10000000000) (by decide) (by omega) (by decide) (by omega))), (show (vx : Int32).toInt < 0 → GD (vx : Int32).toInt (((10 : Int32) : Int32).toInt - 1) 0 from (fun h9 => absurd h9 (by omega)))⟩ hS dJ6_stringSize_0f7a4_46
                    · skip
                      have c_21 : ¬ (z_12.toInt ≤ ((-1000000000) : Int32).toInt) := fun h9 => c_21 (i_le.mpr h9)
                      refine lv_iload_n hx hb dJ6_stringSize_0f7a4_27 rfl (lv_at hl 0 rfl) ?_
                      refine lv_iload_n hx hb dJ6_stringSize_0f7a4_28 rfl (lv_at hl 3 rfl) ?_
                      refine lv_iadd hx hb dJ6_stringSize_0f7a4_29 ?_
                      refine as_i 9 (by decide) ?_
                      have k_9 : (9 : Int32).toInt = 9 := by decide
                      rw [hQ9]
                      exact rr_i hx hb hr hlocks ⟨(show 1 ≤ ((9 : Int32) : Int32).toInt ∧ ((9 : Int32) : Int32).toInt ≤ 11 from ⟨by omega, by omega⟩), (show 0 ≤ (vx : Int32).toInt → GD (-(vx : Int32).toInt) ((9 : Int32) : Int32).toInt 0 from (fun h9 => GD.of 9 (n := 1000000000) (by decide) (by omega) (by decide) (by omega))), (show (vx : Int32).toInt < 0 → GD (vx : Int32).toInt (((9 : Int32) : Int32).toInt - 1) 0 from (fun h9 => absurd h9 (by omega)))⟩ hS dJ6_stringSize_0f7a4_30
                  · skip
                    have c_20 : ¬ (z_12.toInt ≤ ((-100000000) : Int32).toInt) := fun h9 => c_20 (i_le.mpr h9)
                    refine lv_iload_n hx hb dJ6_stringSize_0f7a4_27 rfl (lv_at hl 0 rfl) ?_
                    refine lv_iload_n hx hb dJ6_stringSize_0f7a4_28 rfl (lv_at hl 3 rfl) ?_
                    refine lv_iadd hx hb dJ6_stringSize_0f7a4_29 ?_
                    refine as_i 8 (by decide) ?_
                    have k_8 : (8 : Int32).toInt = 8 := by decide
                    rw [hQ9]
                    exact rr_i hx hb hr hlocks ⟨(show 1 ≤ ((8 : Int32) : Int32).toInt ∧ ((8 : Int32) : Int32).toInt ≤ 11 from ⟨by omega, by omega⟩), (show 0 ≤ (vx : Int32).toInt → GD (-(vx : Int32).toInt) ((8 : Int32) : Int32).toInt 0 from (fun h9 => GD.of 8 (n := 100000000) (by decide) (by omega) (by decide) (by omega))), (show (vx : Int32).toInt < 0 → GD (vx : Int32).toInt (((8 : Int32) : Int32).toInt - 1) 0 from (fun h9 => absurd h9 (by omega)))⟩ hS dJ6_stringSize_0f7a4_30
                · skip
                  have c_19 : ¬ (z_12.toInt ≤ ((-10000000) : Int32).toInt) := fun h9 => c_19 (i_le.mpr h9)
                  refine lv_iload_n hx hb dJ6_stringSize_0f7a4_27 rfl (lv_at hl 0 rfl) ?_
                  refine lv_iload_n hx hb dJ6_stringSize_0f7a4_28 rfl (lv_at hl 3 rfl) ?_
                  refine lv_iadd hx hb dJ6_stringSize_0f7a4_29 ?_
                  refine as_i 7 (by decide) ?_
                  have k_7 : (7 : Int32).toInt = 7 := by decide
                  rw [hQ9]
                  exact rr_i hx hb hr hlocks ⟨(show 1 ≤ ((7 : Int32) : Int32).toInt ∧ ((7 : Int32) : Int32).toInt ≤ 11 from ⟨by omega, by omega⟩), (show 0 ≤ (vx : Int32).toInt → GD (-(vx : Int32).toInt) ((7 : Int32) : Int32).toInt 0 from (fun h9 => GD.of 7 (n := 10000000) (by decide) (by omega) (by decide) (by omega))), (show (vx : Int32).toInt < 0 → GD (vx : Int32).toInt (((7 : Int32) : Int32).toInt - 1) 0 from (fun h9 => absurd h9 (by omega)))⟩ hS dJ6_stringSize_0f7a4_30
              · skip
                have c_18 : ¬ (z_12.toInt ≤ ((-1000000) : Int32).toInt) := fun h9 => c_18 (i_le.mpr h9)
                refine lv_iload_n hx hb dJ6_stringSize_0f7a4_27 rfl (lv_at hl 0 rfl) ?_
                refine lv_iload_n hx hb dJ6_stringSize_0f7a4_28 rfl (lv_at hl 3 rfl) ?_
                refine lv_iadd hx hb dJ6_stringSize_0f7a4_29 ?_
                refine as_i 6 (by decide) ?_
                have k_6 : (6 : Int32).toInt = 6 := by decide
                rw [hQ9]
                exact rr_i hx hb hr hlocks ⟨(show 1 ≤ ((6 : Int32) : Int32).toInt ∧ ((6 : Int32) : Int32).toInt ≤ 11 from ⟨by omega, by omega⟩), (show 0 ≤ (vx : Int32).toInt → GD (-(vx : Int32).toInt) ((6 : Int32) : Int32).toInt 0 from (fun h9 => GD.of 6 (n := 1000000) (by decide) (by omega) (by decide) (by omega))), (show (vx : Int32).toInt < 0 → GD (vx : Int32).toInt (((6 : Int32) : Int32).toInt - 1) 0 from (fun h9 => absurd h9 (by omega)))⟩ hS dJ6_stringSize_0f7a4_30
            · skip
              have c_17 : ¬ (z_12.toInt ≤ ((-100000) : Int32).toInt) := fun h9 => c_17 (i_le.mpr h9)
              refine lv_iload_n hx hb dJ6_stringSize_0f7a4_27 rfl (lv_at hl 0 rfl) ?_
              refine lv_iload_n hx hb dJ6_stringSize_0f7a4_28 rfl (lv_at hl 3 rfl) ?_
              refine lv_iadd hx hb dJ6_stringSize_0f7a4_29 ?_
              refine as_i 5 (by decide) ?_
              have k_5 : (5 : Int32).toInt = 5 := by decide
              rw [hQ9]
              exact rr_i hx hb hr hlocks ⟨(show 1 ≤ ((5 : Int32) : Int32).toInt ∧ ((5 : Int32) : Int32).toInt ≤ 11 from ⟨by omega, by omega⟩), (show 0 ≤ (vx : Int32).toInt → GD (-(vx : Int32).toInt) ((5 : Int32) : Int32).toInt 0 from (fun h9 => GD.of 5 (n := 100000) (by decide) (by omega) (by decide) (by omega))), (show (vx : Int32).toInt < 0 → GD (vx : Int32).toInt (((5 : Int32) : Int32).toInt - 1) 0 from (fun h9 => absurd h9 (by omega)))⟩ hS dJ6_stringSize_0f7a4_30
          · skip
            have c_16 : ¬ (z_12.toInt ≤ ((-10000) : Int32).toInt) := fun h9 => c_16 (i_le.mpr h9)
            refine lv_iload_n hx hb dJ6_stringSize_0f7a4_27 rfl (lv_at hl 0 rfl) ?_
            refine lv_iload_n hx hb dJ6_stringSize_0f7a4_28 rfl (lv_at hl 3 rfl) ?_
            refine lv_iadd hx hb dJ6_stringSize_0f7a4_29 ?_
            refine as_i 4 (by decide) ?_
            have k_4 : (4 : Int32).toInt = 4 := by decide
            rw [hQ9]
            exact rr_i hx hb hr hlocks ⟨(show 1 ≤ ((4 : Int32) : Int32).toInt ∧ ((4 : Int32) : Int32).toInt ≤ 11 from ⟨by omega, by omega⟩), (show 0 ≤ (vx : Int32).toInt → GD (-(vx : Int32).toInt) ((4 : Int32) : Int32).toInt 0 from (fun h9 => GD.of 4 (n := 10000) (by decide) (by omega) (by decide) (by omega))), (show (vx : Int32).toInt < 0 → GD (vx : Int32).toInt (((4 : Int32) : Int32).toInt - 1) 0 from (fun h9 => absurd h9 (by omega)))⟩ hS dJ6_stringSize_0f7a4_30
        · skip
          have c_15 : ¬ (z_12.toInt ≤ ((-1000) : Int32).toInt) := fun h9 => c_15 (i_le.mpr h9)
          refine lv_iload_n hx hb dJ6_stringSize_0f7a4_27 rfl (lv_at hl 0 rfl) ?_
          refine lv_iload_n hx hb dJ6_stringSize_0f7a4_28 rfl (lv_at hl 3 rfl) ?_
          refine lv_iadd hx hb dJ6_stringSize_0f7a4_29 ?_
          refine as_i 3 (by decide) ?_
          have k_3 : (3 : Int32).toInt = 3 := by decide
          rw [hQ9]
          exact rr_i hx hb hr hlocks ⟨(show 1 ≤ ((3 : Int32) : Int32).toInt ∧ ((3 : Int32) : Int32).toInt ≤ 11 from ⟨by omega, by omega⟩), (show 0 ≤ (vx : Int32).toInt → GD (-(vx : Int32).toInt) ((3 : Int32) : Int32).toInt 0 from (fun h9 => GD.of 3 (n := 1000) (by decide) (by omega) (by decide) (by omega))), (show (vx : Int32).toInt < 0 → GD (vx : Int32).toInt (((3 : Int32) : Int32).toInt - 1) 0 from (fun h9 => absurd h9 (by omega)))⟩ hS dJ6_stringSize_0f7a4_30
      · skip
        have c_14 : ¬ (z_12.toInt ≤ ((-100) : Int32).toInt) := fun h9 => c_14 (i_le.mpr h9)
        refine lv_iload_n hx hb dJ6_stringSize_0f7a4_27 rfl (lv_at hl 0 rfl) ?_
        refine lv_iload_n hx hb dJ6_stringSize_0f7a4_28 rfl (lv_at hl 3 rfl) ?_
        refine lv_iadd hx hb dJ6_stringSize_0f7a4_29 ?_
        refine as_i 2 (by decide) ?_
        have k_2 : (2 : Int32).toInt = 2 := by decide
        rw [hQ9]
        exact rr_i hx hb hr hlocks ⟨(show 1 ≤ ((2 : Int32) : Int32).toInt ∧ ((2 : Int32) : Int32).toInt ≤ 11 from ⟨by omega, by omega⟩), (show 0 ≤ (vx : Int32).toInt → GD (-(vx : Int32).toInt) ((2 : Int32) : Int32).toInt 0 from (fun h9 => GD.of 2 (n := 100) (by decide) (by omega) (by decide) (by omega))), (show (vx : Int32).toInt < 0 → GD (vx : Int32).toInt (((2 : Int32) : Int32).toInt - 1) 0 from (fun h9 => absurd h9 (by omega)))⟩ hS dJ6_stringSize_0f7a4_30
    · skip
      have c_13 : ¬ (z_12.toInt ≤ ((-10) : Int32).toInt) := fun h9 => c_13 (i_le.mpr h9)
      refine lv_iload_n hx hb dJ6_stringSize_0f7a4_27 rfl (lv_at hl 0 rfl) ?_
      refine lv_iload_n hx hb dJ6_stringSize_0f7a4_28 rfl (lv_at hl 3 rfl) ?_
      refine lv_iadd hx hb dJ6_stringSize_0f7a4_29 ?_
      refine as_i 1 (by decide) ?_
      have k_1 : (1 : Int32).toInt = 1 := by decide
      rw [hQ9]
      exact rr_i hx hb hr hlocks ⟨(show 1 ≤ ((1 : Int32) : Int32).toInt ∧ ((1 : Int32) : Int32).toInt ≤ 11 from ⟨by omega, by omega⟩), (show 0 ≤ (vx : Int32).toInt → GD (-(vx : Int32).toInt) ((1 : Int32) : Int32).toInt 0 from (fun h9 => GD.of 1 (n := 10) (by decide) (by omega) (by decide) (by omega))), (show (vx : Int32).toInt < 0 → GD (vx : Int32).toInt (((1 : Int32) : Int32).toInt - 1) 0 from (fun h9 => absurd h9 (by omega)))⟩ hS dJ6_stringSize_0f7a4_30
