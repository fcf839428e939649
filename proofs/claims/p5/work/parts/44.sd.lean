abbrev cJ6_getChars_ba4f3 : ByteArray := prog_21_method_12_code
def yJ6_getChars_ba4f3 : MethodName := ⟨RJ6, "getChars", "(II[B)I"⟩
theorem t1135 : Cond.code yJ6_getChars_ba4f3 cJ6_getChars_ba4f3 7 (some .int) ∈ GW := gw_mem 1249 (by decide +kernel) (by decide +kernel)
abbrev O_b_getChars (cy : Nat → ClassId) (vgv : Nat) (vnb : Nat) (vgf : Nat → Int32) (vx : Int32) (vix : Int32) (u : (Nat → Int32)) : va_W := [(vgv, .inl (cy 3, vnb, .inl u))]
theorem dJ6_getChars_ba4f3_0 : decode cJ6_getChars_ba4f3 0 = .ok (.iload_n 1, 1) := by decide +kernel
theorem dJ6_getChars_ba4f3_1 : decode cJ6_getChars_ba4f3 1 = .ok (.istore 5, 2) := by decide +kernel
theorem dJ6_getChars_ba4f3_3 : decode cJ6_getChars_ba4f3 3 = .ok (.iload_n 0, 1) := by decide +kernel
theorem dJ6_getChars_ba4f3_4 : decode cJ6_getChars_ba4f3 4 = .ok (.ifCond .ge 7, 3) := by decide +kernel
theorem dJ6_getChars_ba4f3_11 : decode cJ6_getChars_ba4f3 11 = .ok (.iconst 0, 1) := by decide +kernel
theorem dJ6_getChars_ba4f3_12 : decode cJ6_getChars_ba4f3 12 = .ok (.istore 6, 2) := by decide +kernel
theorem dJ6_getChars_ba4f3_14 : decode cJ6_getChars_ba4f3 14 = .ok (.iload 6, 2) := by decide +kernel
theorem dJ6_getChars_ba4f3_16 : decode cJ6_getChars_ba4f3 16 = .ok (.ifCond .ne 6, 3) := by decide +kernel
theorem dJ6_getChars_ba4f3_19 : decode cJ6_getChars_ba4f3 19 = .ok (.iload_n 0, 1) := by decide +kernel
theorem dJ6_getChars_ba4f3_20 : decode cJ6_getChars_ba4f3 20 = .ok (.ineg, 1) := by decide +kernel
theorem dJ6_getChars_ba4f3_21 : decode cJ6_getChars_ba4f3 21 = .ok (.istore_n 0, 1) := by decide +kernel
theorem dJ6_getChars_ba4f3_22 : decode cJ6_getChars_ba4f3 22 = .ok (.iload_n 0, 1) := by decide +kernel
theorem dJ6_getChars_ba4f3_23 : decode cJ6_getChars_ba4f3 23 = .ok (.bipush (-100), 2) := by decide +kernel
theorem dJ6_getChars_ba4f3_25 : decode cJ6_getChars_ba4f3 25 = .ok (.if_icmp .gt 47, 3) := by decide +kernel
theorem dJ6_getChars_ba4f3_72 : decode cJ6_getChars_ba4f3 72 = .ok (.aload_n 2, 1) := by decide +kernel
theorem dJ6_getChars_ba4f3_73 : decode cJ6_getChars_ba4f3 73 = .ok (.iinc 5 (-1), 3) := by decide +kernel
theorem dJ6_getChars_ba4f3_76 : decode cJ6_getChars_ba4f3 76 = .ok (.iload 5, 2) := by decide +kernel
theorem dJ6_getChars_ba4f3_78 : decode cJ6_getChars_ba4f3 78 = .ok (.getstatic 83, 3) := by decide +kernel
theorem t1136 : Cond.fieldLink RJ6 83 "java/lang/Integer" "DigitOnes" "[B" ∈ GW := gw_mem 1250 (by decide +kernel) (by decide +kernel)
theorem dJ6_getChars_ba4f3_81 : decode cJ6_getChars_ba4f3 81 = .ok (.iload_n 0, 1) := by decide +kernel
theorem dJ6_getChars_ba4f3_82 : decode cJ6_getChars_ba4f3 82 = .ok (.ineg, 1) := by decide +kernel
theorem dJ6_getChars_ba4f3_83 : decode cJ6_getChars_ba4f3 83 = .ok (.baload, 1) := by decide +kernel
theorem dJ6_getChars_ba4f3_84 : decode cJ6_getChars_ba4f3 84 = .ok (.bastore, 1) := by decide +kernel
theorem dJ6_getChars_ba4f3_85 : decode cJ6_getChars_ba4f3 85 = .ok (.iload_n 0, 1) := by decide +kernel
theorem dJ6_getChars_ba4f3_86 : decode cJ6_getChars_ba4f3 86 = .ok (.bipush (-9), 2) := by decide +kernel
theorem dJ6_getChars_ba4f3_88 : decode cJ6_getChars_ba4f3 88 = .ok (.if_icmp .ge 16, 3) := by decide +kernel
theorem dJ6_getChars_ba4f3_104 : decode cJ6_getChars_ba4f3 104 = .ok (.iload 6, 2) := by decide +kernel
theorem dJ6_getChars_ba4f3_106 : decode cJ6_getChars_ba4f3 106 = .ok (.ifCond .eq 12, 3) := by decide +kernel
theorem dJ6_getChars_ba4f3_118 : decode cJ6_getChars_ba4f3 118 = .ok (.iload 5, 2) := by decide +kernel
theorem dJ6_getChars_ba4f3_120 : decode cJ6_getChars_ba4f3 120 = .ok (.ireturn, 1) := by decide +kernel
theorem dJ6_getChars_ba4f3_91 : decode cJ6_getChars_ba4f3 91 = .ok (.aload_n 2, 1) := by decide +kernel
theorem dJ6_getChars_ba4f3_92 : decode cJ6_getChars_ba4f3 92 = .ok (.iinc 5 (-1), 3) := by decide +kernel
theorem dJ6_getChars_ba4f3_95 : decode cJ6_getChars_ba4f3 95 = .ok (.iload 5, 2) := by decide +kernel
theorem dJ6_getChars_ba4f3_97 : decode cJ6_getChars_ba4f3 97 = .ok (.getstatic 87, 3) := by decide +kernel
theorem t1138 : Cond.fieldLink RJ6 87 "java/lang/Integer" "DigitTens" "[B" ∈ GW := gw_mem 1252 (by decide +kernel) (by decide +kernel)
theorem dJ6_getChars_ba4f3_100 : decode cJ6_getChars_ba4f3 100 = .ok (.iload_n 0, 1) := by decide +kernel
theorem dJ6_getChars_ba4f3_101 : decode cJ6_getChars_ba4f3 101 = .ok (.ineg, 1) := by decide +kernel
theorem dJ6_getChars_ba4f3_102 : decode cJ6_getChars_ba4f3 102 = .ok (.baload, 1) := by decide +kernel
theorem dJ6_getChars_ba4f3_103 : decode cJ6_getChars_ba4f3 103 = .ok (.bastore, 1) := by decide +kernel
theorem dJ6_getChars_ba4f3_28 : decode cJ6_getChars_ba4f3 28 = .ok (.iload_n 0, 1) := by decide +kernel
theorem dJ6_getChars_ba4f3_29 : decode cJ6_getChars_ba4f3 29 = .ok (.bipush 100, 2) := by decide +kernel
theorem dJ6_getChars_ba4f3_31 : decode cJ6_getChars_ba4f3 31 = .ok (.idiv, 1) := by decide +kernel
theorem dJ6_getChars_ba4f3_32 : decode cJ6_getChars_ba4f3 32 = .ok (.istore_n 3, 1) := by decide +kernel
theorem dJ6_getChars_ba4f3_33 : decode cJ6_getChars_ba4f3 33 = .ok (.iload_n 3, 1) := by decide +kernel
theorem dJ6_getChars_ba4f3_34 : decode cJ6_getChars_ba4f3 34 = .ok (.bipush 100, 2) := by decide +kernel
theorem dJ6_getChars_ba4f3_36 : decode cJ6_getChars_ba4f3 36 = .ok (.imul, 1) := by decide +kernel
theorem dJ6_getChars_ba4f3_37 : decode cJ6_getChars_ba4f3 37 = .ok (.iload_n 0, 1) := by decide +kernel
theorem dJ6_getChars_ba4f3_38 : decode cJ6_getChars_ba4f3 38 = .ok (.isub, 1) := by decide +kernel
theorem dJ6_getChars_ba4f3_39 : decode cJ6_getChars_ba4f3 39 = .ok (.istore 4, 2) := by decide +kernel
theorem dJ6_getChars_ba4f3_41 : decode cJ6_getChars_ba4f3 41 = .ok (.iload_n 3, 1) := by decide +kernel
theorem dJ6_getChars_ba4f3_42 : decode cJ6_getChars_ba4f3 42 = .ok (.istore_n 0, 1) := by decide +kernel
theorem dJ6_getChars_ba4f3_43 : decode cJ6_getChars_ba4f3 43 = .ok (.aload_n 2, 1) := by decide +kernel
theorem dJ6_getChars_ba4f3_44 : decode cJ6_getChars_ba4f3 44 = .ok (.iinc 5 (-1), 3) := by decide +kernel
theorem dJ6_getChars_ba4f3_47 : decode cJ6_getChars_ba4f3 47 = .ok (.iload 5, 2) := by decide +kernel
theorem dJ6_getChars_ba4f3_49 : decode cJ6_getChars_ba4f3 49 = .ok (.getstatic 83, 3) := by decide +kernel
theorem dJ6_getChars_ba4f3_52 : decode cJ6_getChars_ba4f3 52 = .ok (.iload 4, 2) := by decide +kernel
theorem dJ6_getChars_ba4f3_54 : decode cJ6_getChars_ba4f3 54 = .ok (.baload, 1) := by decide +kernel
theorem dJ6_getChars_ba4f3_55 : decode cJ6_getChars_ba4f3 55 = .ok (.bastore, 1) := by decide +kernel
theorem dJ6_getChars_ba4f3_56 : decode cJ6_getChars_ba4f3 56 = .ok (.aload_n 2, 1) := by decide +kernel
theorem dJ6_getChars_ba4f3_57 : decode cJ6_getChars_ba4f3 57 = .ok (.iinc 5 (-1), 3) := by decide +kernel
theorem dJ6_getChars_ba4f3_60 : decode cJ6_getChars_ba4f3 60 = .ok (.iload 5, 2) := by decide +kernel
theorem dJ6_getChars_ba4f3_62 : decode cJ6_getChars_ba4f3 62 = .ok (.getstatic 87, 3) := by decide +kernel
theorem dJ6_getChars_ba4f3_65 : decode cJ6_getChars_ba4f3 65 = .ok (.iload 4, 2) := by decide +kernel
theorem dJ6_getChars_ba4f3_67 : decode cJ6_getChars_ba4f3 67 = .ok (.baload, 1) := by decide +kernel
theorem dJ6_getChars_ba4f3_68 : decode cJ6_getChars_ba4f3 68 = .ok (.bastore, 1) := by decide +kernel
theorem dJ6_getChars_ba4f3_69 : decode cJ6_getChars_ba4f3 69 = .ok (.goto (-47), 3) := by decide +kernel
theorem dJ6_getChars_ba4f3_7 : decode cJ6_getChars_ba4f3 7 = .ok (.iconst 1, 1) := by decide +kernel
theorem dJ6_getChars_ba4f3_8 : decode cJ6_getChars_ba4f3 8 = .ok (.goto 4, 3) := by decide +kernel
theorem dJ6_getChars_ba4f3_109 : decode cJ6_getChars_ba4f3 109 = .ok (.aload_n 2, 1) := by decide +kernel
theorem dJ6_getChars_ba4f3_110 : decode cJ6_getChars_ba4f3 110 = .ok (.iinc 5 (-1), 3) := by decide +kernel
theorem dJ6_getChars_ba4f3_113 : decode cJ6_getChars_ba4f3 113 = .ok (.iload 5, 2) := by decide +kernel
theorem dJ6_getChars_ba4f3_115 : decode cJ6_getChars_ba4f3 115 = .ok (.bipush 45, 2) := by decide +kernel
theorem dJ6_getChars_ba4f3_117 : decode cJ6_getChars_ba4f3 117 = .ok (.bastore, 1) := by decide +kernel
set_option maxHeartbeats 4000000 in
set_option maxRecDepth 100000 in
theorem b_getChars (l : Launch) (dC : Nat → ClassId) (dI : Nat → Nat → Nat) (cy : Nat → ClassId) (sz : Nat) (B : Nat → Prop) (kS vS : Nat → Nat) (vgv : Nat) (vnb : Nat) (vgf : Nat → Int32) (vx : Int32) (vix : Int32) (r_vix : 0 ≤ (vix : Int32).toInt ∧ (vix : Int32).toInt ≤ 70) (p_vgf : sb_Fit vgf) (hn : (vnb = 16 ∨ vnb = 34 ∨ vnb = 70)) (hix : (vix : Int32).toInt ≤ (vnb : Int)) (hp0 : 0 ≤ (vx : Int32).toInt → GD (-(vx : Int32).toInt) (vix : Int32).toInt 0) (hp1 : (vx : Int32).toInt < 0 → GD (vx : Int32).toInt (vix : Int32).toInt 1) (hB : ∀ q : Nat, va_A [(vgv, .inl (cy 3, vnb, .inl vgf))] sz q → B q) : Met l yJ6_getChars_ba4f3 (wl yJ6_getChars_ba4f3 cJ6_getChars_ba4f3 7 (some .int)) ({ frames := 1, cells := 0, slots := 0, locals := 64 }) (Pw (dC, dI) vwCl cy [(vgv, .inl (cy 3, vnb, .inl vgf))] sz [.int vx, .int vix, .ref vgv] (EnvB B kS vS)) (Qi (dC, dI) vwCl (fun (r : Int32) (u : (Nat → Int32)) => (sb_Fit u)) (O_b_getChars cy vgv vnb vgf vx vix) (va_A [(vgv, .inl (cy 3, vnb, .inl vgf))] sz)) 0 0 (va_A [(vgv, .inl (cy 3, vnb, .inl vgf))] sz) := by
  refine mw (Qc := Qi (dC, dI) vwCl (fun (r : Int32) (u : (Nat → Int32)) => (sb_Fit u)) (O_b_getChars cy vgv vnb vgf vx vix)) RJ6 rfl (by decide +kernel) (Nat.le_of_ble_eq_true rfl) ?_
  intro p e s m below meth c A hx hb hr hlocks av9 hav hts hown hnm hml hK hP hD hA hS hE hAe Q9 hQ9 ls hl
  have hAB : ∀ q : Nat, A q → B q := by rw [hAe]; exact hB
  have hEA := hE.narrow hAB
  have hl : lv_has ls 7 [(0, .int vx), (1, .int vix), (2, .ref vgv)] := hl
  have wh_1 := i_rng vx
  refine lv_iload_n hx hb dJ6_getChars_ba4f3_0 rfl (lv_at hl 1 rfl) ?_
  refine lv_istore (lv' := [(5, .int vix), (0, .int vx), (1, .int vix), (2, .ref vgv)]) hx hb dJ6_getChars_ba4f3_1 hl (by decide) rfl (fun ls hl => ?_)
  refine lv_iload_n hx hb dJ6_getChars_ba4f3_3 rfl (lv_at hl 1 rfl) ?_
  have k_0 : (0 : Int32).toInt = 0 := by decide
  refine lv_if_ge (tgt := 11) hx hb dJ6_getChars_ba4f3_4 (by decide) (fun c_2 => ?_) (fun c_2 => ?_)
  · skip
    have c_2 : (0 : Int32).toInt ≤ vx.toInt := i_le.mp c_2
    refine lv_iconst (v := 0) hx hb dJ6_getChars_ba4f3_11 (by decide) ?_
    refine lv_istore (lv' := [(6, .int 0), (5, .int vix), (0, .int vx), (1, .int vix), (2, .ref vgv)]) hx hb dJ6_getChars_ba4f3_12 hl (by decide) rfl (fun ls hl => ?_)
    refine lv_iload hx hb dJ6_getChars_ba4f3_14 (lv_at hl 0 rfl) ?_
    refine lv_if_ne (tgt := 22) hx hb dJ6_getChars_ba4f3_16 (by decide) (fun c9 => absurd c9 (by decide)) (fun _ => ?_)
    refine lv_iload_n hx hb dJ6_getChars_ba4f3_19 rfl (lv_at hl 2 rfl) ?_
    refine lv_ineg hx hb dJ6_getChars_ba4f3_20 ?_
    refine lv_topi (fun z_3 ez_3 => ?_)
    have bz_3 : z_3.toInt = -vx.toInt := i_neg ez_3 (by omega)
    refine lv_istore_n (lv' := [(0, .int z_3), (6, .int 0), (5, .int vix), (1, .int vix), (2, .ref vgv)]) hx hb dJ6_getChars_ba4f3_21 rfl hl (by decide) rfl (fun ls hl => ?_)
    have loop4 : ∀ (n4 : Nat) (x_5 : Int32) (x_6 : Int32) (g_7 : Nat → Int32), (-2147483648 ≤ x_5.toInt ∧ x_5.toInt ≤ 0) → (0 ≤ x_6.toInt ∧ x_6.toInt ≤ 70) → sb_Fit g_7 → (GD x_5.toInt x_6.toInt 0) → (x_6.toInt ≤ vix.toInt) → -x_5.toInt < (n4 : Int) → ∀ (H : Heap) (locs : List Loc), va_P (dC, dI) vwCl [(vgv, .inl (cy 3, vnb, .inl g_7))] H → va_D A [(vgv, .inl (cy 3, vnb, .inl g_7))] → va_S A s.heap H locs → ∀ ls : Array Slot, lv_has ls 7 [(0, .int x_5), (2, .ref vgv), (5, .int x_6), (6, .int 0)] → W p l e ({ frames := 1, cells := 0, slots := 0, locals := 64 }) s m av9 below meth c H locs 0 0 Q9 (F0 m 22 ls []) := by
      intro n4
      induction n4 with
      | zero =>
        intro x_5 x_6 g_7 bx_5 bx_6 p_g_7 v4_0 v4_1 hn4 H locs hP hD hS ls hl
        exfalso; omega
      | succ n4 ih4 =>
        intro x_5 x_6 g_7 bx_5 bx_6 p_g_7 v4_0 v4_1 hn4 H locs hP hD hS ls hl
        refine lv_iload_n hx hb dJ6_getChars_ba4f3_22 rfl (lv_at hl 0 rfl) ?_
        refine lv_bipush (v := (-100)) hx hb dJ6_getChars_ba4f3_23 (by decide) ?_
        have k_m100 : ((-100) : Int32).toInt = (-100) := by decide
        refine lv_icmp_gt (tgt := 72) hx hb dJ6_getChars_ba4f3_25 (by decide) (fun c_8 => ?_) (fun c_8 => ?_)
        · skip
          have c_8 : ((-100) : Int32).toInt < x_5.toInt := i_lt.mp c_8
          have g1_8 := GD.one v4_0
          refine lv_aload_n hx hb dJ6_getChars_ba4f3_72 rfl (lv_at hl 1 rfl) ?_
          obtain ⟨z_9, ez_9⟩ : ∃ z : Int32, z = x_6 + (-1) := ⟨_, rfl⟩
          have k_m1 : ((-1) : Int32).toInt = (-1) := by decide
          have bz_9 : z_9.toInt = x_6.toInt + ((-1) : Int32).toInt := i_add ez_9 (by omega) (by omega)
          refine lv_iinc (v := z_9) (lv' := [(5, .int z_9), (0, .int x_5), (2, .ref vgv), (6, .int 0)]) hx hb dJ6_getChars_ba4f3_73 hl (k := 2) rfl ez_9.symm (by decide) rfl (fun ls hl => ?_)
          refine lv_iload hx hb dJ6_getChars_ba4f3_76 (lv_at hl 0 rfl) ?_
          refine va_gets hx hb hEA.2.2.2.2.2.2.2.1 hS hown (hts _ t1136) (fun _ h => h) dJ6_getChars_ba4f3_78 ?_
          refine lv_iload_n hx hb dJ6_getChars_ba4f3_81 rfl (lv_at hl 1 rfl) ?_
          refine lv_ineg hx hb dJ6_getChars_ba4f3_82 ?_
          refine lv_topi (fun z_10 ez_10 => ?_)
          have bz_10 : z_10.toInt = -x_5.toInt := i_neg ez_10 (by omega)
          have hin_11 : vp_in z_10 100 := vp_in_iff.mpr ⟨by omega, by omega⟩
          refine va_tb hx hb hEA.2.2.2.2.2.2.2.2.1 hS hin_11 rfl dJ6_getChars_ba4f3_83 ?_
          refine lv_topi (fun b_12 _ => ?_)
          have hin_13 : vp_in z_9 vnb := vp_in_iff.mpr ⟨by omega, by omega⟩
          refine va_bast hx hb hK hP hD hS 0 3 rfl rfl hin_13 dJ6_getChars_ba4f3_84 (fun H locs hP hD hS => ?_)
          obtain ⟨f_14, ef_14⟩ : ∃ z : Nat → Int32, z = upd g_7 (Int32.toNatClampNeg z_9) (vp_nar .byte b_12) := ⟨_, rfl⟩
          have hP : va_P (dC, dI) vwCl [(vgv, .inl (cy 3, vnb, .inl f_14))] H := by rw [ef_14]; exact hP
          have hD : va_D A [(vgv, .inl (cy 3, vnb, .inl f_14))] := by rw [ef_14]; exact hD
          have p_f_14 : sb_Fit f_14 := by rw [ef_14]; exact fit_up p_g_7
          refine lv_iload_n hx hb dJ6_getChars_ba4f3_85 rfl (lv_at hl 1 rfl) ?_
          refine lv_bipush (v := (-9)) hx hb dJ6_getChars_ba4f3_86 (by decide) ?_
          have k_m9 : ((-9) : Int32).toInt = (-9) := by decide
          refine lv_icmp_ge (tgt := 104) hx hb dJ6_getChars_ba4f3_88 (by decide) (fun c_15 => ?_) (fun c_15 => ?_)
          · skip
            have c_15 : ((-9) : Int32).toInt ≤ x_5.toInt := i_le.mp c_15
            refine lv_iload hx hb dJ6_getChars_ba4f3_104 (lv_at hl 3 rfl) ?_
            refine lv_if_eq (tgt := 118) hx hb dJ6_getChars_ba4f3_106 (by decide) (fun _ => ?_) (fun c9 => absurd (by decide) c9)
            refine lv_iload hx hb dJ6_getChars_ba4f3_118 (lv_at hl 0 rfl) ?_
            rw [hQ9]
            exact re_i f_14 hx hb hr hlocks (show sb_Fit f_14 from p_f_14) (hP.sub [0] rfl) (hD.sub [0] rfl rfl) hS dJ6_getChars_ba4f3_120
          · skip
            have c_15 : ¬ (((-9) : Int32).toInt ≤ x_5.toInt) := fun h9 => c_15 (i_le.mpr h9)
            have g2_15 := GD.two v4_0 (by omega)
            refine lv_aload_n hx hb dJ6_getChars_ba4f3_91 rfl (lv_at hl 2 rfl) ?_
            obtain ⟨z_16, ez_16⟩ : ∃ z : Int32, z = z_9 + (-1) := ⟨_, rfl⟩
            have bz_16 : z_16.toInt = z_9.toInt + ((-1) : Int32).toInt := i_add ez_16 (by omega) (by omega)
            refine lv_iinc (v := z_16) (lv' := [(5, .int z_16), (0, .int x_5), (2, .ref vgv), (6, .int 0)]) hx hb dJ6_getChars_ba4f3_92 hl (k := 0) rfl ez_16.symm (by decide) rfl (fun ls hl => ?_)
            refine lv_iload hx hb dJ6_getChars_ba4f3_95 (lv_at hl 0 rfl) ?_
            refine va_gets hx hb hEA.2.2.2.2.2.2.2.2.2.1 hS hown (hts _ t1138) (fun _ h => h) dJ6_getChars_ba4f3_97 ?_
            refine lv_iload_n hx hb dJ6_getChars_ba4f3_100 rfl (lv_at hl 1 rfl) ?_
            refine lv_ineg hx hb dJ6_getChars_ba4f3_101 ?_
            refine lv_topi (fun z_17 ez_17 => ?_)
            have bz_17 : z_17.toInt = -x_5.toInt := i_neg ez_17 (by omega)
            have hin_18 : vp_in z_17 100 := vp_in_iff.mpr ⟨by omega, by omega⟩
            refine va_tb hx hb hEA.2.2.2.2.2.2.2.2.2.2.1 hS hin_18 rfl dJ6_getChars_ba4f3_102 ?_
            refine lv_topi (fun b_19 _ => ?_)
            have hin_20 : vp_in z_16 vnb := vp_in_iff.mpr ⟨by omega, by omega⟩
            refine va_bast hx hb hK hP hD hS 0 3 rfl rfl hin_20 dJ6_getChars_ba4f3_103 (fun H locs hP hD hS => ?_)
            obtain ⟨f_21, ef_21⟩ : ∃ z : Nat → Int32, z = upd f_14 (Int32.toNatClampNeg z_16) (vp_nar .byte b_19) := ⟨_, rfl⟩
            have hP : va_P (dC, dI) vwCl [(vgv, .inl (cy 3, vnb, .inl f_21))] H := by rw [ef_21]; exact hP
            have hD : va_D A [(vgv, .inl (cy 3, vnb, .inl f_21))] := by rw [ef_21]; exact hD
            have p_f_21 : sb_Fit f_21 := by rw [ef_21]; exact fit_up p_f_14
            refine lv_iload hx hb dJ6_getChars_ba4f3_104 (lv_at hl 3 rfl) ?_
            refine lv_if_eq (tgt := 118) hx hb dJ6_getChars_ba4f3_106 (by decide) (fun _ => ?_) (fun c9 => absurd (by decide) c9)
            refine lv_iload hx hb dJ6_getChars_ba4f3_118 (lv_at hl 0 rfl) ?_
            rw [hQ9]
            exact re_i f_21 hx hb hr hlocks (show sb_Fit f_21 from p_f_21) (hP.sub [0] rfl) (hD.sub [0] rfl rfl) hS dJ6_getChars_ba4f3_120
        · skip
          have c_8 : ¬ (((-100) : Int32).toInt < x_5.toInt) := fun h9 => c_8 (i_lt.mpr h9)
          have wh_22 := i_rng x_5
          have g3_22 := GD.three v4_0 (by omega)
          refine lv_iload_n hx hb dJ6_getChars_ba4f3_28 rfl (lv_at hl 0 rfl) ?_
          refine lv_bipush (v := 100) hx hb dJ6_getChars_ba4f3_29 (by decide) ?_
          refine lv_idiv hx hb dJ6_getChars_ba4f3_31 (by decide) ?_
          refine lv_topi (fun z_23 ez_23 => ?_)
          have bz_23 := i_tdiv100 ez_23 (by omega)
          refine lv_istore_n (lv' := [(3, .int z_23), (0, .int x_5), (2, .ref vgv), (5, .int x_6), (6, .int 0)]) hx hb dJ6_getChars_ba4f3_32 rfl hl (by decide) rfl (fun ls hl => ?_)
          refine lv_iload_n hx hb dJ6_getChars_ba4f3_33 rfl (lv_at hl 0 rfl) ?_
          refine lv_bipush (v := 100) hx hb dJ6_getChars_ba4f3_34 (by decide) ?_
          refine lv_imul hx hb dJ6_getChars_ba4f3_36 ?_
          refine lv_topi (fun z_24 ez_24 => ?_)
          have k_100 : (100 : Int32).toInt = 100 := by decide
          have bz_24 : z_24.toInt = z_23.toInt * 100 := i_mulc k_100 ez_24 (by omega) (by omega)
          refine lv_iload_n hx hb dJ6_getChars_ba4f3_37 rfl (lv_at hl 1 rfl) ?_
          refine lv_isub hx hb dJ6_getChars_ba4f3_38 ?_
          refine lv_topi (fun z_25 ez_25 => ?_)
          have bz_25 : z_25.toInt = z_24.toInt - x_5.toInt := i_sub ez_25 (by omega) (by omega)
          refine lv_istore (lv' := [(4, .int z_25), (3, .int z_23), (0, .int x_5), (2, .ref vgv), (5, .int x_6), (6, .int 0)]) hx hb dJ6_getChars_ba4f3_39 hl (by decide) rfl (fun ls hl => ?_)
          refine lv_iload_n hx hb dJ6_getChars_ba4f3_41 rfl (lv_at hl 1 rfl) ?_
          refine lv_istore_n (lv' := [(0, .int z_23), (4, .int z_25), (3, .int z_23), (2, .ref vgv), (5, .int x_6), (6, .int 0)]) hx hb dJ6_getChars_ba4f3_42 rfl hl (by decide) rfl (fun ls hl => ?_)
          refine lv_aload_n hx hb dJ6_getChars_ba4f3_43 rfl (lv_at hl 3 rfl) ?_
          obtain ⟨z_26, ez_26⟩ : ∃ z : Int32, z = x_6 + (-1) := ⟨_, rfl⟩
          have k_m1 : ((-1) : Int32).toInt = (-1) := by decide
          have bz_26 : z_26.toInt = x_6.toInt + ((-1) : Int32).toInt := i_add ez_26 (by omega) (by omega)
          refine lv_iinc (v := z_26) (lv' := [(5, .int z_26), (0, .int z_23), (4, .int z_25), (3, .int z_23), (2, .ref vgv), (6, .int 0)]) hx hb dJ6_getChars_ba4f3_44 hl (k := 4) rfl ez_26.symm (by decide) rfl (fun ls hl => ?_)
          refine lv_iload hx hb dJ6_getChars_ba4f3_47 (lv_at hl 0 rfl) ?_
          refine va_gets hx hb hEA.2.2.2.2.2.2.2.1 hS hown (hts _ t1136) (fun _ h => h) dJ6_getChars_ba4f3_49 ?_
          refine lv_iload hx hb dJ6_getChars_ba4f3_52 (lv_at hl 2 rfl) ?_
          have hin_27 : vp_in z_25 100 := vp_in_iff.mpr ⟨by omega, by omega⟩
          refine va_tb hx hb hEA.2.2.2.2.2.2.2.2.1 hS hin_27 rfl dJ6_getChars_ba4f3_54 ?_
          refine lv_topi (fun b_28 _ => ?_)
          have hin_29 : vp_in z_26 vnb := vp_in_iff.mpr ⟨by omega, by omega⟩
          refine va_bast hx hb hK hP hD hS 0 3 rfl rfl hin_29 dJ6_getChars_ba4f3_55 (fun H locs hP hD hS => ?_)
          obtain ⟨f_30, ef_30⟩ : ∃ z : Nat → Int32, z = upd g_7 (Int32.toNatClampNeg z_26) (vp_nar .byte b_28) := ⟨_, rfl⟩
          have hP : va_P (dC, dI) vwCl [(vgv, .inl (cy 3, vnb, .inl f_30))] H := by rw [ef_30]; exact hP
          have hD : va_D A [(vgv, .inl (cy 3, vnb, .inl f_30))] := by rw [ef_30]; exact hD
          have p_f_30 : sb_Fit f_30 := by rw [ef_30]; exact fit_up p_g_7
          refine lv_aload_n hx hb dJ6_getChars_ba4f3_56 rfl (lv_at hl 4 rfl) ?_
          obtain ⟨z_31, ez_31⟩ : ∃ z : Int32, z = z_26 + (-1) := ⟨_, rfl⟩
          have bz_31 : z_31.toInt = z_26.toInt + ((-1) : Int32).toInt := i_add ez_31 (by omega) (by omega)
          refine lv_iinc (v := z_31) (lv' := [(5, .int z_31), (0, .int z_23), (4, .int z_25), (3, .int z_23), (2, .ref vgv), (6, .int 0)]) hx hb dJ6_getChars_ba4f3_57 hl (k := 0) rfl ez_31.symm (by decide) rfl (fun ls hl => ?_)
          refine lv_iload hx hb dJ6_getChars_ba4f3_60 (lv_at hl 0 rfl) ?_
          refine va_gets hx hb hEA.2.2.2.2.2.2.2.2.2.1 hS hown (hts _ t1138) (fun _ h => h) dJ6_getChars_ba4f3_62 ?_
          refine lv_iload hx hb dJ6_getChars_ba4f3_65 (lv_at hl 2 rfl) ?_
          have hin_32 : vp_in z_25 100 := vp_in_iff.mpr ⟨by omega, by omega⟩
          refine va_tb hx hb hEA.2.2.2.2.2.2.2.2.2.2.1 hS hin_32 rfl dJ6_getChars_ba4f3_67 ?_
          refine lv_topi (fun b_33 _ => ?_)
          have hin_34 : vp_in z_31 vnb := vp_in_iff.mpr ⟨by omega, by omega⟩
          refine va_bast hx hb hK hP hD hS 0 3 rfl rfl hin_34 dJ6_getChars_ba4f3_68 (fun H locs hP hD hS => ?_)
          obtain ⟨f_35, ef_35⟩ : ∃ z : Nat → Int32, z = upd f_30 (Int32.toNatClampNeg z_31) (vp_nar .byte b_33) := ⟨_, rfl⟩
          have hP : va_P (dC, dI) vwCl [(vgv, .inl (cy 3, vnb, .inl f_35))] H := by rw [ef_35]; exact hP
          have hD : va_D A [(vgv, .inl (cy 3, vnb, .inl f_35))] := by rw [ef_35]; exact hD
          have p_f_35 : sb_Fit f_35 := by rw [ef_35]; exact fit_up p_f_30
          refine lv_goto (tgt := 22) hx hb dJ6_getChars_ba4f3_69 (by decide) ?_
          exact ih4 z_23 z_31 f_35 ⟨by omega, by omega⟩ ⟨by omega, by omega⟩ p_f_35 (GD.step v4_0 (by omega) bz_23 (by omega)) (by omega) (by omega) _ _ (hP.sub [0] rfl) (hD.sub [0] rfl rfl) hS ls (lv_sub hl [1, 4, 0, 5] rfl)
    exact loop4 ((-z_3.toInt).toNat + 1) z_3 vix vgf ⟨by omega, by omega⟩ ⟨by omega, by omega⟩ p_vgf (bz_3 ▸ hp0 (by omega)) (by omega) (by omega) _ _ hP hD hS ls (lv_sub hl [0, 4, 2, 1] rfl)
  · skip
    have c_2 : ¬ ((0 : Int32).toInt ≤ vx.toInt) := fun h9 => c_2 (i_le.mpr h9)
    refine lv_iconst (v := 1) hx hb dJ6_getChars_ba4f3_7 (by decide) ?_
    refine lv_goto (tgt := 12) hx hb dJ6_getChars_ba4f3_8 (by decide) ?_
    refine lv_istore (lv' := [(6, .int 1), (5, .int vix), (0, .int vx), (1, .int vix), (2, .ref vgv)]) hx hb dJ6_getChars_ba4f3_12 hl (by decide) rfl (fun ls hl => ?_)
    refine lv_iload hx hb dJ6_getChars_ba4f3_14 (lv_at hl 0 rfl) ?_
    refine lv_if_ne (tgt := 22) hx hb dJ6_getChars_ba4f3_16 (by decide) (fun _ => ?_) (fun c9 => absurd c9 (by decide))
    have loop36 : ∀ (n36 : Nat) (x_37 : Int32) (x_38 : Int32) (g_39 : Nat → Int32), (-2147483648 ≤ x_37.toInt ∧ x_37.toInt ≤ 0) → (0 ≤ x_38.toInt ∧ x_38.toInt ≤ 70) → sb_Fit g_39 → (GD x_37.toInt x_38.toInt 1) → (x_38.toInt ≤ vix.toInt) → -x_37.toInt < (n36 : Int) → ∀ (H : Heap) (locs : List Loc), va_P (dC, dI) vwCl [(vgv, .inl (cy 3, vnb, .inl g_39))] H → va_D A [(vgv, .inl (cy 3, vnb, .inl g_39))] → va_S A s.heap H locs → ∀ ls : Array Slot, lv_has ls 7 [(0, .int x_37), (2, .ref vgv), (5, .int x_38), (6, .int 1)] → W p l e ({ frames := 1, cells := 0, slots := 0, locals := 64 }) s m av9 below meth c H locs 0 0 Q9 (F0 m 22 ls []) := by
      intro n36
      induction n36 with
      | zero =>
        intro x_37 x_38 g_39 bx_37 bx_38 p_g_39 v36_0 v36_1 hn36 H locs hP hD hS ls hl
        exfalso; omega
      | succ n36 ih36 =>
        intro x_37 x_38 g_39 bx_37 bx_38 p_g_39 v36_0 v36_1 hn36 H locs hP hD hS ls hl
        refine lv_iload_n hx hb dJ6_getChars_ba4f3_22 rfl (lv_at hl 0 rfl) ?_
        refine lv_bipush (v := (-100)) hx hb dJ6_getChars_ba4f3_23 (by decide) ?_
        have k_m100 : ((-100) : Int32).toInt = (-100) := by decide
        refine lv_icmp_gt (tgt := 72) hx hb dJ6_getChars_ba4f3_25 (by decide) (fun c_40 => ?_) (fun c_40 => ?_)
        · skip
          have c_40 : ((-100) : Int32).toInt < x_37.toInt := i_lt.mp c_40
          have g1_40 := GD.one v36_0
          refine lv_aload_n hx hb dJ6_getChars_ba4f3_72 rfl (lv_at hl 1 rfl) ?_
          obtain ⟨z_41, ez_41⟩ : ∃ z : Int32, z = x_38 + (-1) := ⟨_, rfl⟩
          have k_m1 : ((-1) : Int32).toInt = (-1) := by decide
          have bz_41 : z_41.toInt = x_38.toInt + ((-1) : Int32).toInt := i_add ez_41 (by omega) (by omega)
          refine lv_iinc (v := z_41) (lv' := [(5, .int z_41), (0, .int x_37), (2, .ref vgv), (6, .int 1)]) hx hb dJ6_getChars_ba4f3_73 hl (k := 2) rfl ez_41.symm (by decide) rfl (fun ls hl => ?_)
          refine lv_iload hx hb dJ6_getChars_ba4f3_76 (lv_at hl 0 rfl) ?_
          refine va_gets hx hb hEA.2.2.2.2.2.2.2.1 hS hown (hts _ t1136) (fun _ h => h) dJ6_getChars_ba4f3_78 ?_
          refine lv_iload_n hx hb dJ6_getChars_ba4f3_81 rfl (lv_at hl 1 rfl) ?_
          refine lv_ineg hx hb dJ6_getChars_ba4f3_82 ?_
          refine lv_topi (fun z_42 ez_42 => ?_)
          have bz_42 : z_42.toInt = -x_37.toInt := i_neg ez_42 (by omega)
          have hin_43 : vp_in z_42 100 := vp_in_iff.mpr ⟨by omega, by omega⟩
          refine va_tb hx hb hEA.2.2.2.2.2.2.2.2.1 hS hin_43 rfl dJ6_getChars_ba4f3_83 ?_
          refine lv_topi (fun b_44 _ => ?_)
          have hin_45 : vp_in z_41 vnb := vp_in_iff.mpr ⟨by omega, by omega⟩
          refine va_bast hx hb hK hP hD hS 0 3 rfl rfl hin_45 dJ6_getChars_ba4f3_84 (fun H locs hP hD hS => ?_)
          obtain ⟨f_46, ef_46⟩ : ∃ z : Nat → Int32, z = upd g_39 (Int32.toNatClampNeg z_41) (vp_nar .byte b_44) := ⟨_, rfl⟩
          have hP : va_P (dC, dI) vwCl [(vgv, .inl (cy 3, vnb, .inl f_46))] H := by rw [ef_46]; exact hP
          have hD : va_D A [(vgv, .inl (cy 3, vnb, .inl f_46))] := by rw [ef_46]; exact hD
          have p_f_46 : sb_Fit f_46 := by rw [ef_46]; exact fit_up p_g_39
          refine lv_iload_n hx hb dJ6_getChars_ba4f3_85 rfl (lv_at hl 1 rfl) ?_
          refine lv_bipush (v := (-9)) hx hb dJ6_getChars_ba4f3_86 (by decide) ?_
          have k_m9 : ((-9) : Int32).toInt = (-9) := by decide
          refine lv_icmp_ge (tgt := 104) hx hb dJ6_getChars_ba4f3_88 (by decide) (fun c_47 => ?_) (fun c_47 => ?_)
          · skip
            have c_47 : ((-9) : Int32).toInt ≤ x_37.toInt := i_le.mp c_47
            refine lv_iload hx hb dJ6_getChars_ba4f3_104 (lv_at hl 3 rfl) ?_
            refine lv_if_eq (tgt := 118) hx hb dJ6_getChars_ba4f3_106 (by decide) (fun c9 => absurd c9 (by decide)) (fun _ => ?_)
            refine lv_aload_n hx hb dJ6_getChars_ba4f3_109 rfl (lv_at hl 2 rfl) ?_
            obtain ⟨z_48, ez_48⟩ : ∃ z : Int32, z = z_41 + (-1) := ⟨_, rfl⟩
            have bz_48 : z_48.toInt = z_41.toInt + ((-1) : Int32).toInt := i_add ez_48 (by omega) (by omega)
            refine lv_iinc (v := z_48) (lv' := [(5, .int z_48), (0, .int x_37), (2, .ref vgv), (6, .int 1)]) hx hb dJ6_getChars_ba4f3_110 hl (k := 0) rfl ez_48.symm (by decide) rfl (fun ls hl => ?_)
            refine lv_iload hx hb dJ6_getChars_ba4f3_113 (lv_at hl 0 rfl) ?_
            refine lv_bipush (v := 45) hx hb dJ6_getChars_ba4f3_115 (by decide) ?_
            have hin_49 : vp_in z_48 vnb := vp_in_iff.mpr ⟨by omega, by omega⟩
            refine va_bast hx hb hK hP hD hS 0 3 rfl rfl hin_49 dJ6_getChars_ba4f3_117 (fun H locs hP hD hS => ?_)
            obtain ⟨f_50, ef_50⟩ : ∃ z : Nat → Int32, z = upd f_46 (Int32.toNatClampNeg z_48) (vp_nar .byte 45) := ⟨_, rfl⟩
            have hP : va_P (dC, dI) vwCl [(vgv, .inl (cy 3, vnb, .inl f_50))] H := by rw [ef_50]; exact hP
            have hD : va_D A [(vgv, .inl (cy 3, vnb, .inl f_50))] := by rw [ef_50]; exact hD
            have k_45 : (45 : Int32).toInt = 45 := by decide
            have p_f_50 : sb_Fit f_50 := by rw [ef_50]; exact fit_up p_f_46
            refine lv_iload hx hb dJ6_getChars_ba4f3_118 (lv_at hl 0 rfl) ?_
            rw [hQ9]
            exact re_i f_50 hx hb hr hlocks (show sb_Fit f_50 from p_f_50) (hP.sub [0] rfl) (hD.sub [0] rfl rfl) hS dJ6_getChars_ba4f3_120
          · skip
            have c_47 : ¬ (((-9) : Int32).toInt ≤ x_37.toInt) := fun h9 => c_47 (i_le.mpr h9)
            have g2_50 := GD.two v36_0 (by omega)
            refine lv_aload_n hx hb dJ6_getChars_ba4f3_91 rfl (lv_at hl 2 rfl) ?_
            obtain ⟨z_51, ez_51⟩ : ∃ z : Int32, z = z_41 + (-1) := ⟨_, rfl⟩
            have bz_51 : z_51.toInt = z_41.toInt + ((-1) : Int32).toInt := i_add ez_51 (by omega) (by omega)
            refine lv_iinc (v := z_51) (lv' := [(5, .int z_51), (0, .int x_37), (2, .ref vgv), (6, .int 1)]) hx hb dJ6_getChars_ba4f3_92 hl (k := 0) rfl ez_51.symm (by decide) rfl (fun ls hl => ?_)
            refine lv_iload hx hb dJ6_getChars_ba4f3_95 (lv_at hl 0 rfl) ?_
            refine va_gets hx hb hEA.2.2.2.2.2.2.2.2.2.1 hS hown (hts _ t1138) (fun _ h => h) dJ6_getChars_ba4f3_97 ?_
            refine lv_iload_n hx hb dJ6_getChars_ba4f3_100 rfl (lv_at hl 1 rfl) ?_
            refine lv_ineg hx hb dJ6_getChars_ba4f3_101 ?_
            refine lv_topi (fun z_52 ez_52 => ?_)
            have bz_52 : z_52.toInt = -x_37.toInt := i_neg ez_52 (by omega)
            have hin_53 : vp_in z_52 100 := vp_in_iff.mpr ⟨by omega, by omega⟩
            refine va_tb hx hb hEA.2.2.2.2.2.2.2.2.2.2.1 hS hin_53 rfl dJ6_getChars_ba4f3_102 ?_
            refine lv_topi (fun b_54 _ => ?_)
            have hin_55 : vp_in z_51 vnb := vp_in_iff.mpr ⟨by omega, by omega⟩
            refine va_bast hx hb hK hP hD hS 0 3 rfl rfl hin_55 dJ6_getChars_ba4f3_103 (fun H locs hP hD hS => ?_)
            obtain ⟨f_56, ef_56⟩ : ∃ z : Nat → Int32, z = upd f_46 (Int32.toNatClampNeg z_51) (vp_nar .byte b_54) := ⟨_, rfl⟩
            have hP : va_P (dC, dI) vwCl [(vgv, .inl (cy 3, vnb, .inl f_56))] H := by rw [ef_56]; exact hP
            have hD : va_D A [(vgv, .inl (cy 3, vnb, .inl f_56))] := by rw [ef_56]; exact hD
            have p_f_56 : sb_Fit f_56 := by rw [ef_56]; exact fit_up p_f_46
            refine lv_iload hx hb dJ6_getChars_ba4f3_104 (lv_at hl 3 rfl) ?_
            refine lv_if_eq (tgt := 118) hx hb dJ6_getChars_ba4f3_106 (by decide) (fun c9 => absurd c9 (by decide)) (fun _ => ?_)
            refine lv_aload_n hx hb dJ6_getChars_ba4f3_109 rfl (lv_at hl 2 rfl) ?_
            obtain ⟨z_57, ez_57⟩ : ∃ z : Int32, z = z_51 + (-1) := ⟨_, rfl⟩
            have bz_57 : z_57.toInt = z_51.toInt + ((-1) : Int32).toInt := i_add ez_57 (by omega) (by omega)
            refine lv_iinc (v := z_57) (lv' := [(5, .int z_57), (0, .int x_37), (2, .ref vgv), (6, .int 1)]) hx hb dJ6_getChars_ba4f3_110 hl (k := 0) rfl ez_57.symm (by decide) rfl (fun ls hl => ?_)
            refine lv_iload hx hb dJ6_getChars_ba4f3_113 (lv_at hl 0 rfl) ?_
            refine lv_bipush (v := 45) hx hb dJ6_getChars_ba4f3_115 (by decide) ?_
            have hin_58 : vp_in z_57 vnb := vp_in_iff.mpr ⟨by omega, by omega⟩
            refine va_bast hx hb hK hP hD hS 0 3 rfl rfl hin_58 dJ6_getChars_ba4f3_117 (fun H locs hP hD hS => ?_)
            obtain ⟨f_59, ef_59⟩ : ∃ z : Nat → Int32, z = upd f_56 (Int32.toNatClampNeg z_57) (vp_nar .byte 45) := ⟨_, rfl⟩
            have hP : va_P (dC, dI) vwCl [(vgv, .inl (cy 3, vnb, .inl f_59))] H := by rw [ef_59]; exact hP
            have hD : va_D A [(vgv, .inl (cy 3, vnb, .inl f_59))] := by rw [ef_59]; exact hD
            have k_45 : (45 : Int32).toInt = 45 := by decide
            have p_f_59 : sb_Fit f_59 := by rw [ef_59]; exact fit_up p_f_56
            refine lv_iload hx hb dJ6_getChars_ba4f3_118 (lv_at hl 0 rfl) ?_
            rw [hQ9]
            exact re_i f_59 hx hb hr hlocks (show sb_Fit f_59 from p_f_59) (hP.sub [0] rfl) (hD.sub [0] rfl rfl) hS dJ6_getChars_ba4f3_120
        · skip
          have c_40 : ¬ (((-100) : Int32).toInt < x_37.toInt) := fun h9 => c_40 (i_lt.mpr h9)
          have wh_60 := i_rng x_37
          have g3_60 := GD.three v36_0 (by omega)
          refine lv_iload_n hx hb dJ6_getChars_ba4f3_28 rfl (lv_at hl 0 rfl) ?_
          refine lv_bipush (v := 100) hx hb dJ6_getChars_ba4f3_29 (by decide) ?_
          refine lv_idiv hx hb dJ6_getChars_ba4f3_31 (by decide) ?_
          refine lv_topi (fun z_61 ez_61 => ?_)
          have bz_61 := i_tdiv100 ez_61 (by omega)
          refine lv_istore_n (lv' := [(3, .int z_61), (0, .int x_37), (2, .ref vgv), (5, .int x_38), (6, .int 1)]) hx hb dJ6_getChars_ba4f3_32 rfl hl (by decide) rfl (fun ls hl => ?_)
          refine lv_iload_n hx hb dJ6_getChars_ba4f3_33 rfl (lv_at hl 0 rfl) ?_
          refine lv_bipush (v := 100) hx hb dJ6_getChars_ba4f3_34 (by decide) ?_
          refine lv_imul hx hb dJ6_getChars_ba4f3_36 ?_
          refine lv_topi (fun z_62 ez_62 => ?_)
          have k_100 : (100 : Int32).toInt = 100 := by decide
          have bz_62 : z_62.toInt = z_61.toInt * 100 := i_mulc k_100 ez_62 (by omega) (by omega)
          refine lv_iload_n hx hb dJ6_getChars_ba4f3_37 rfl (lv_at hl 1 rfl) ?_
          refine lv_isub hx hb dJ6_getChars_ba4f3_38 ?_
          refine lv_topi (fun z_63 ez_63 => ?_)
          have bz_63 : z_63.toInt = z_62.toInt - x_37.toInt := i_sub ez_63 (by omega) (by omega)
          refine lv_istore (lv' := [(4, .int z_63), (3, .int z_61), (0, .int x_37), (2, .ref vgv), (5, .int x_38), (6, .int 1)]) hx hb dJ6_getChars_ba4f3_39 hl (by decide) rfl (fun ls hl => ?_)
          refine lv_iload_n hx hb dJ6_getChars_ba4f3_41 rfl (lv_at hl 1 rfl) ?_
          refine lv_istore_n (lv' := [(0, .int z_61), (4, .int z_63), (3, .int z_61), (2, .ref vgv), (5, .int x_38), (6, .int 1)]) hx hb dJ6_getChars_ba4f3_42 rfl hl (by decide) rfl (fun ls hl => ?_)
          refine lv_aload_n hx hb dJ6_getChars_ba4f3_43 rfl (lv_at hl 3 rfl) ?_
          obtain ⟨z_64, ez_64⟩ : ∃ z : Int32, z = x_38 + (-1) := ⟨_, rfl⟩
          have k_m1 : ((-1) : Int32).toInt = (-1) := by decide
          have bz_64 : z_64.toInt = x_38.toInt + ((-1) : Int32).toInt := i_add ez_64 (by omega) (by omega)
          refine lv_iinc (v := z_64) (lv' := [(5, .int z_64), (0, .int z_61), (4, .int z_63), (3, .int z_61), (2, .ref vgv), (6, .int 1)]) hx hb dJ6_getChars_ba4f3_44 hl (k := 4) rfl ez_64.symm (by decide) rfl (fun ls hl => ?_)
          refine lv_iload hx hb dJ6_getChars_ba4f3_47 (lv_at hl 0 rfl) ?_
          refine va_gets hx hb hEA.2.2.2.2.2.2.2.1 hS hown (hts _ t1136) (fun _ h => h) dJ6_getChars_ba4f3_49 ?_
          refine lv_iload hx hb dJ6_getChars_ba4f3_52 (lv_at hl 2 rfl) ?_
          have hin_65 : vp_in z_63 100 := vp_in_iff.mpr ⟨by omega, by omega⟩
          refine va_tb hx hb hEA.2.2.2.2.2.2.2.2.1 hS hin_65 rfl dJ6_getChars_ba4f3_54 ?_
          refine lv_topi (fun b_66 _ => ?_)
          have hin_67 : vp_in z_64 vnb := vp_in_iff.mpr ⟨by omega, by omega⟩
          refine va_bast hx hb hK hP hD hS 0 3 rfl rfl hin_67 dJ6_getChars_ba4f3_55 (fun H locs hP hD hS => ?_)
          obtain ⟨f_68, ef_68⟩ : ∃ z : Nat → Int32, z = upd g_39 (Int32.toNatClampNeg z_64) (vp_nar .byte b_66) := ⟨_, rfl⟩
          have hP : va_P (dC, dI) vwCl [(vgv, .inl (cy 3, vnb, .inl f_68))] H := by rw [ef_68]; exact hP
          have hD : va_D A [(vgv, .inl (cy 3, vnb, .inl f_68))] := by rw [ef_68]; exact hD
          have p_f_68 : sb_Fit f_68 := by rw [ef_68]; exact fit_up p_g_39
          refine lv_aload_n hx hb dJ6_getChars_ba4f3_56 rfl (lv_at hl 4 rfl) ?_
          obtain ⟨z_69, ez_69⟩ : ∃ z : Int32, z = z_64 + (-1) := ⟨_, rfl⟩
          have bz_69 : z_69.toInt = z_64.toInt + ((-1) : Int32).toInt := i_add ez_69 (by omega) (by omega)
          refine lv_iinc (v := z_69) (lv' := [(5, .int z_69), (0, .int z_61), (4, .int z_63), (3, .int z_61), (2, .ref vgv), (6, .int 1)]) hx hb dJ6_getChars_ba4f3_57 hl (k := 0) rfl ez_69.symm (by decide) rfl (fun ls hl => ?_)
          refine lv_iload hx hb dJ6_getChars_ba4f3_60 (lv_at hl 0 rfl) ?_
          refine va_gets hx hb hEA.2.2.2.2.2.2.2.2.2.1 hS hown (hts _ t1138) (fun _ h => h) dJ6_getChars_ba4f3_62 ?_
          refine lv_iload hx hb dJ6_getChars_ba4f3_65 (lv_at hl 2 rfl) ?_
          have hin_70 : vp_in z_63 100 := vp_in_iff.mpr ⟨by omega, by omega⟩
          refine va_tb hx hb hEA.2.2.2.2.2.2.2.2.2.2.1 hS hin_70 rfl dJ6_getChars_ba4f3_67 ?_
          refine lv_topi (fun b_71 _ => ?_)
          have hin_72 : vp_in z_69 vnb := vp_in_iff.mpr ⟨by omega, by omega⟩
          refine va_bast hx hb hK hP hD hS 0 3 rfl rfl hin_72 dJ6_getChars_ba4f3_68 (fun H locs hP hD hS => ?_)
          obtain ⟨f_73, ef_73⟩ : ∃ z : Nat → Int32, z = upd f_68 (Int32.toNatClampNeg z_69) (vp_nar .byte b_71) := ⟨_, rfl⟩
          have hP : va_P (dC, dI) vwCl [(vgv, .inl (cy 3, vnb, .inl f_73))] H := by rw [ef_73]; exact hP
          have hD : va_D A [(vgv, .inl (cy 3, vnb, .inl f_73))] := by rw [ef_73]; exact hD
          have p_f_73 : sb_Fit f_73 := by rw [ef_73]; exact fit_up p_f_68
          refine lv_goto (tgt := 22) hx hb dJ6_getChars_ba4f3_69 (by decide) ?_
          exact ih36 z_61 z_69 f_73 ⟨by omega, by omega⟩ ⟨by omega, by omega⟩ p_f_73 (GD.step v36_0 (by omega) bz_61 (by omega)) (by omega) (by omega) _ _ (hP.sub [0] rfl) (hD.sub [0] rfl rfl) hS ls (lv_sub hl [1, 4, 0, 5] rfl)
    exact loop36 ((-vx.toInt).toNat + 1) vx vix vgf ⟨by omega, by omega⟩ ⟨by omega, by omega⟩ p_vgf (hp1 (by omega)) (by omega) (by omega) _ _ hP hD hS ls (lv_sub hl [2, 4, 1, 0] rfl)
abbrev cJ5_append_c97b9 : ByteArray := prog_15_method_32_code
def yJ5_append_c97b9 : MethodName := ⟨RJ5, "append", "(I)Ljava/lang/AbstractStringBuilder;"⟩
theorem t1129 : Cond.code yJ5_append_c97b9 cJ5_append_c97b9 4 (some (.object "java/lang/AbstractStringBuilder")) ∈ GW := gw_mem 1243 (by decide +kernel) (by decide +kernel)
abbrev O_b_appI (cy : Nat → ClassId) (vg : Nat) (vgv : Nat) (vgm : Int32) (vgc : Int32) (vnb : Nat) (vgf : Nat → Int32) (vx : Int32) (u : Nat × Nat × (Nat → Int32) × Int32) : va_W := [(vg, .inr (0, [.ref u.1, .int 0, .int vgm, .int u.2.2.2])), (u.1, .inl (cy 3, u.2.1, .inl u.2.2.1))]
theorem dJ5_append_c97b9_0 : decode cJ5_append_c97b9 0 = .ok (.aload_n 0, 1) := by decide +kernel
theorem dJ5_append_c97b9_1 : decode cJ5_append_c97b9 1 = .ok (.getfield 79, 3) := by decide +kernel
theorem dJ5_append_c97b9_4 : decode cJ5_append_c97b9 4 = .ok (.istore_n 2, 1) := by decide +kernel
theorem dJ5_append_c97b9_5 : decode cJ5_append_c97b9 5 = .ok (.iload_n 2, 1) := by decide +kernel
theorem dJ5_append_c97b9_6 : decode cJ5_append_c97b9 6 = .ok (.iload_n 1, 1) := by decide +kernel
theorem dJ5_append_c97b9_7 : decode cJ5_append_c97b9 7 = .ok (.invokestatic 245, 3) := by decide +kernel
theorem t1130 : Cond.methodLink RJ5 245 yJ6_stringSize_0f7a4 ∈ GW := gw_mem 1244 (by decide +kernel) (by decide +kernel)
theorem t1131 : Cond.static yJ6_stringSize_0f7a4 ∈ GW := gw_mem 1245 (by decide +kernel) (by decide +kernel)
theorem cw_J5_245 {R : Room} {s : State} {args : Array Value} {rm : Room} {mc ms : Nat} (hts : ∀ w ∈ GW, w.before args s = true) (hrc : rm.cells = mc) (hrs : rm.slots = ms) (hR : rm.frames + 1 ≤ R.frames ∧ 8 + (4 + 11) + rm.locals ≤ R.locals) : CallB R s args RJ5 245 yJ6_stringSize_0f7a4 cJ6_stringSize_0f7a4 4 (some .int) (wl yJ6_stringSize_0f7a4 cJ6_stringSize_0f7a4 4 (some .int)) rm mc ms 1 ∧ (Cond.static yJ6_stringSize_0f7a4).before args s = true := va_cwS 1 hts (gi_S t1130 t1131 t26 t1132) rfl hrc hrs (by decide +kernel) hR
theorem dJ5_append_c97b9_10 : decode cJ5_append_c97b9 10 = .ok (.iadd, 1) := by decide +kernel
theorem dJ5_append_c97b9_11 : decode cJ5_append_c97b9 11 = .ok (.istore_n 3, 1) := by decide +kernel
theorem dJ5_append_c97b9_12 : decode cJ5_append_c97b9 12 = .ok (.aload_n 0, 1) := by decide +kernel
theorem dJ5_append_c97b9_13 : decode cJ5_append_c97b9 13 = .ok (.iload_n 3, 1) := by decide +kernel
theorem dJ5_append_c97b9_14 : decode cJ5_append_c97b9 14 = .ok (.invokevirtual 100, 3) := by decide +kernel
theorem dJ5_append_c97b9_17 : decode cJ5_append_c97b9 17 = .ok (.aload_n 0, 1) := by decide +kernel
theorem dJ5_append_c97b9_18 : decode cJ5_append_c97b9 18 = .ok (.invokevirtual 83, 3) := by decide +kernel
theorem dJ5_append_c97b9_21 : decode cJ5_append_c97b9 21 = .ok (.ifCond .eq 16, 3) := by decide +kernel
theorem dJ5_append_c97b9_24 : decode cJ5_append_c97b9 24 = .ok (.iload_n 1, 1) := by decide +kernel
theorem dJ5_append_c97b9_25 : decode cJ5_append_c97b9 25 = .ok (.iload_n 3, 1) := by decide +kernel
theorem dJ5_append_c97b9_26 : decode cJ5_append_c97b9 26 = .ok (.aload_n 0, 1) := by decide +kernel
theorem dJ5_append_c97b9_27 : decode cJ5_append_c97b9 27 = .ok (.getfield 15, 3) := by decide +kernel
theorem dJ5_append_c97b9_30 : decode cJ5_append_c97b9 30 = .ok (.invokestatic 248, 3) := by decide +kernel
theorem t1133 : Cond.methodLink RJ5 248 yJ6_getChars_ba4f3 ∈ GW := gw_mem 1247 (by decide +kernel) (by decide +kernel)
theorem t1134 : Cond.static yJ6_getChars_ba4f3 ∈ GW := gw_mem 1248 (by decide +kernel) (by decide +kernel)
theorem cw_J5_248 {R : Room} {s : State} {args : Array Value} {rm : Room} {mc ms : Nat} (hts : ∀ w ∈ GW, w.before args s = true) (hrc : rm.cells = mc) (hrs : rm.slots = ms) (hR : rm.frames + 1 ≤ R.frames ∧ 8 + (7 + 11) + rm.locals ≤ R.locals) : CallB R s args RJ5 248 yJ6_getChars_ba4f3 cJ6_getChars_ba4f3 7 (some .int) (wl yJ6_getChars_ba4f3 cJ6_getChars_ba4f3 7 (some .int)) rm mc ms 3 ∧ (Cond.static yJ6_getChars_ba4f3).before args s = true := va_cwS 3 hts (gi_S t1133 t1134 t26 t1135) rfl hrc hrs (by decide +kernel) hR
theorem dJ5_append_c97b9_33 : decode cJ5_append_c97b9 33 = .ok (.pop, 1) := by decide +kernel
theorem dJ5_append_c97b9_34 : decode cJ5_append_c97b9 34 = .ok (.goto 14, 3) := by decide +kernel
theorem dJ5_append_c97b9_48 : decode cJ5_append_c97b9 48 = .ok (.aload_n 0, 1) := by decide +kernel
theorem dJ5_append_c97b9_49 : decode cJ5_append_c97b9 49 = .ok (.iload_n 3, 1) := by decide +kernel
theorem dJ5_append_c97b9_50 : decode cJ5_append_c97b9 50 = .ok (.putfield 79, 3) := by decide +kernel
theorem dJ5_append_c97b9_53 : decode cJ5_append_c97b9 53 = .ok (.aload_n 0, 1) := by decide +kernel
theorem dJ5_append_c97b9_54 : decode cJ5_append_c97b9 54 = .ok (.areturn, 1) := by decide +kernel
set_option maxHeartbeats 4000000 in
set_option maxRecDepth 100000 in
theorem b_appI (l : Launch) (dC : Nat → ClassId) (dI : Nat → Nat → Nat) (cy : Nat → ClassId) (sz : Nat) (B : Nat → Prop) (kS vS : Nat → Nat) (vg : Nat) (vgv : Nat) (vgm : Int32) (vgc : Int32) (vnb : Nat) (vgf : Nat → Int32) (vx : Int32) (r_vgc : 0 ≤ (vgc : Int32).toInt ∧ (vgc : Int32).toInt ≤ 31) (p_vgf : sb_Fit vgf) (hn : (vnb = 16 ∨ vnb = 34 ∨ vnb = 70)) (hgc : (vgc : Int32).toInt ≤ (vnb : Int)) (hB : ∀ q : Nat, va_A [(vg, .inr (0, [.ref vgv, .int 0, .int vgm, .int vgc])), (vgv, .inl (cy 3, vnb, .inl vgf))] sz q → B q) : Met l yJ5_append_c97b9 (wl yJ5_append_c97b9 cJ5_append_c97b9 4 (some (.object "java/lang/AbstractStringBuilder"))) ({ frames := 4, cells := 1, slots := 70, locals := 256 }) (Pw (dC, dI) vwCl cy [(vg, .inr (0, [.ref vgv, .int 0, .int vgm, .int vgc])), (vgv, .inl (cy 3, vnb, .inl vgf))] sz [.ref vg, .int vx] (EnvB B kS vS)) (Qr (dC, dI) vwCl (fun (u : Nat × Nat × (Nat → Int32) × Int32) => (sb_Fit u.2.2.1) ∧ (0 ≤ (u.2.2.2 : Int32).toInt ∧ (u.2.2.2 : Int32).toInt ≤ 42) ∧ ((u.2.1 = 16 ∨ u.2.1 = 34 ∨ u.2.1 = 70)) ∧ ((u.2.2.2 : Int32).toInt ≤ (u.2.1 : Int)) ∧ ((u.2.2.2 : Int32).toInt ≤ (vgc : Int32).toInt + 11) ∧ ((vgc : Int32).toInt ≤ (u.2.2.2 : Int32).toInt)) (O_b_appI cy vg vgv vgm vgc vnb vgf vx) (fun (u : Nat × Nat × (Nat → Int32) × Int32) => vg) (va_A [(vg, .inr (0, [.ref vgv, .int 0, .int vgm, .int vgc])), (vgv, .inl (cy 3, vnb, .inl vgf))] sz)) 1 70 (va_A [(vg, .inr (0, [.ref vgv, .int 0, .int vgm, .int vgc])), (vgv, .inl (cy 3, vnb, .inl vgf))] sz) := by
  refine mw (Qc := Qr (dC, dI) vwCl (fun (u : Nat × Nat × (Nat → Int32) × Int32) => (sb_Fit u.2.2.1) ∧ (0 ≤ (u.2.2.2 : Int32).toInt ∧ (u.2.2.2 : Int32).toInt ≤ 42) ∧ ((u.2.1 = 16 ∨ u.2.1 = 34 ∨ u.2.1 = 70)) ∧ ((u.2.2.2 : Int32).toInt ≤ (u.2.1 : Int)) ∧ ((u.2.2.2 : Int32).toInt ≤ (vgc : Int32).toInt + 11) ∧ ((vgc : Int32).toInt ≤ (u.2.2.2 : Int32).toInt)) (O_b_appI cy vg vgv vgm vgc vnb vgf vx) (fun (u : Nat × Nat × (Nat → Int32) × Int32) => vg)) RJ5 rfl (by decide +kernel) (Nat.le_of_ble_eq_true rfl) ?_
  intro p e s m below meth c A hx hb hr hlocks av9 hav hts hown hnm hml hK hP hD hA hS hE hAe Q9 hQ9 ls hl
  have hAB : ∀ q : Nat, A q → B q := by rw [hAe]; exact hB
  have hEA := hE.narrow hAB
  have hl : lv_has ls 4 [(0, .ref vg), (1, .int vx)] := hl
  refine lv_aload_n hx hb dJ5_append_c97b9_0 rfl (lv_at hl 0 rfl) ?_
  refine gf_J5_79 hx hb hts hown hK hP 0 rfl rfl dJ5_append_c97b9_1 ?_
  refine lv_istore_n (lv' := [(2, .int vgc), (0, .ref vg), (1, .int vx)]) hx hb dJ5_append_c97b9_4 rfl hl (by decide) rfl (fun ls hl => ?_)
  refine lv_iload_n hx hb dJ5_append_c97b9_5 rfl (lv_at hl 0 rfl) ?_
  refine lv_iload_n hx hb dJ5_append_c97b9_6 rfl (lv_at hl 2 rfl) ?_
  refine jr_i (rSr (As := [.int vx]) (rest := [.int vgc]) ⟨hx, hb, hml, hown, hts⟩ (b_stringSize l dC dI cy vx ) (cw_J5_245 hts rfl rfl ⟨Nat.le_of_ble_eq_true rfl, Nat.le_of_ble_eq_true rfl⟩) hP hK [] rfl rfl hl.1 rfl (Nat.le_of_ble_eq_true rfl) dJ5_append_c97b9_7 ⟨Nat.le_of_ble_eq_true rfl, Nat.le_of_ble_eq_true rfl⟩) hP hS (fun r_1 H locs hp_2 hP hS => ?_)
  have hp_2 : (1 ≤ (r_1 : Int32).toInt ∧ (r_1 : Int32).toInt ≤ 11) ∧ (0 ≤ (vx : Int32).toInt → GD (-(vx : Int32).toInt) (r_1 : Int32).toInt 0) ∧ ((vx : Int32).toInt < 0 → GD (vx : Int32).toInt ((r_1 : Int32).toInt - 1) 0) := hp_2
  obtain ⟨q_3, q_4, q_5⟩ := hp_2
  refine lv_iadd hx hb dJ5_append_c97b9_10 ?_
  refine lv_topi (fun z_6 ez_6 => ?_)
  have bz_6 : z_6.toInt = vgc.toInt + r_1.toInt := i_add ez_6 (by omega) (by omega)
  refine lv_istore_n (lv' := [(3, .int z_6), (2, .int vgc), (0, .ref vg), (1, .int vx)]) hx hb dJ5_append_c97b9_11 rfl hl (by decide) rfl (fun ls hl => ?_)
  refine lv_aload_n hx hb dJ5_append_c97b9_12 rfl (lv_at hl 2 rfl) ?_
  refine lv_iload_n hx hb dJ5_append_c97b9_13 rfl (lv_at hl 0 rfl) ?_
  refine jn_v (wr := []) (rVU (As := [.int z_6]) (rest := []) (ci := 0) ⟨hx, hb, hml, hown, hts⟩ (b_ensure l dC dI cy _ B kS vS vg vgv vgm vgc vnb vgf z_6 ⟨by omega, by omega⟩ p_vgf hn (by omega) (fun q hq => hAB q (va_free hD hS hA [0, 1] rfl q hq))) (cu_J5_100 hts (va_tabs rfl rfl hEA.2.2.2.2.2.2.2.2.2.2.2.1) rfl rfl ⟨Nat.le_of_ble_eq_true rfl, Nat.le_of_ble_eq_true rfl⟩) hP hD hK [0, 1] rfl rfl rfl rfl EnvB.calling (EnvB.at hE hS hAB (fun _ h => h)) rfl hl.1 rfl (Nat.le_of_ble_eq_true rfl) dJ5_append_c97b9_14 ⟨Nat.le_of_ble_eq_true rfl, Nat.le_of_ble_eq_true rfl⟩) hP hD hS hA [0, 1] [] rfl rfl rfl (by decide) (fun u_9 H locs hp_8 hP hD hS => ?_)
  obtain ⟨vgv_10, vnb_11, vgf_12⟩ := u_9
  have hp_8 : (sb_Fit vgf_12) ∧ ((vnb_11 = 16 ∨ vnb_11 = 34 ∨ vnb_11 = 70)) ∧ ((z_6 : Int32).toInt ≤ (vnb_11 : Int)) := hp_8
  obtain ⟨q_13, q_14, q_15⟩ := hp_8
  have hP : va_P (dC, dI) vwCl [(vg, .inr (0, [.ref vgv_10, .int 0, .int vgm, .int vgc])), (vgv_10, .inl (cy 3, vnb_11, .inl vgf_12))] H := hP
  have hD : va_D A [(vg, .inr (0, [.ref vgv_10, .int 0, .int vgm, .int vgc])), (vgv_10, .inl (cy 3, vnb_11, .inl vgf_12))] := hD
  refine W.widen (k := 1) (n := 70) (by decide) (by decide) ?_
  refine lv_aload_n hx hb dJ5_append_c97b9_17 rfl (lv_at hl 2 rfl) ?_
  refine jn_i (wr := []) (rVU (As := []) (rest := []) (ci := 0) ⟨hx, hb, hml, hown, hts⟩ (b_isLatin1 l dC dI cy _ B kS vS vg vgv_10 vgm vgc vnb_11 vgf_12 q_13 (fun q hq => hAB q (va_free hD hS hA [0, 1] rfl q hq))) (cu_J5_83 hts rfl rfl ⟨Nat.le_of_ble_eq_true rfl, Nat.le_of_ble_eq_true rfl⟩) hP hD hK [0, 1] rfl rfl rfl rfl EnvB.calling (EnvB.at hE hS hAB (fun _ h => h)) rfl hl.1 rfl (Nat.le_of_ble_eq_true rfl) dJ5_append_c97b9_18 ⟨Nat.le_of_ble_eq_true rfl, Nat.le_of_ble_eq_true rfl⟩) hP hD hS hA [0, 1] [] rfl rfl rfl (by decide) (fun r_16 u_18 H locs hp_17 hP hD hS => ?_)
  have hp_17 : ((r_16 = 1)) := hp_17
  have q_19 := hp_17
  have hP : va_P (dC, dI) vwCl [(vg, .inr (0, [.ref vgv_10, .int 0, .int vgm, .int vgc])), (vgv_10, .inl (cy 3, vnb_11, .inl vgf_12))] H := hP
  have hD : va_D A [(vg, .inr (0, [.ref vgv_10, .int 0, .int vgm, .int vgc])), (vgv_10, .inl (cy 3, vnb_11, .inl vgf_12))] := hD
  refine as_i 1 q_19 ?_
  refine lv_if_eq (tgt := 37) hx hb dJ5_append_c97b9_21 (by decide) (fun c9 => absurd c9 (by decide)) (fun _ => ?_)
  refine lv_iload_n hx hb dJ5_append_c97b9_24 rfl (lv_at hl 3 rfl) ?_
  refine lv_iload_n hx hb dJ5_append_c97b9_25 rfl (lv_at hl 0 rfl) ?_
  refine lv_aload_n hx hb dJ5_append_c97b9_26 rfl (lv_at hl 2 rfl) ?_
  refine gf_J5_15 hx hb hts hown hK hP 0 rfl rfl dJ5_append_c97b9_27 ?_
  refine jn_i (wr := [(vg, .inr (0, [.ref vgv_10, .int 0, .int vgm, .int vgc]))]) (rS (As := [.int vx, .int z_6, .ref vgv_10]) (rest := []) ⟨hx, hb, hml, hown, hts⟩ (b_getChars l dC dI cy _ B kS vS vgv_10 vnb_11 vgf_12 vx z_6 ⟨by omega, by omega⟩ q_13 q_14 q_15 (fun h9 => GD.mono (q_4 h9) (by omega)) (fun h9 => GD.mono (q_5 h9) (by omega)) (fun q hq => hAB q (va_free hD hS hA [1] rfl q hq))) (cw_J5_248 hts rfl rfl ⟨Nat.le_of_ble_eq_true rfl, Nat.le_of_ble_eq_true rfl⟩) hP hD hK [1] rfl rfl EnvB.calling (EnvB.at hE hS hAB (fun _ h => h)) rfl hl.1 rfl (Nat.le_of_ble_eq_true rfl) dJ5_append_c97b9_30 ⟨Nat.le_of_ble_eq_true rfl, Nat.le_of_ble_eq_true rfl⟩) hP hD hS hA [1] [0] rfl rfl rfl (by decide) (fun r_20 u_22 H locs hp_21 hP hD hS => ?_)
  obtain ⟨vgf_23, rfl⟩ : ∃ z, z = u_22 := ⟨_, rfl⟩
  have hp_21 : (sb_Fit vgf_23) := hp_21
  have q_24 := hp_21
  have hP : va_P (dC, dI) vwCl [(vg, .inr (0, [.ref vgv_10, .int 0, .int vgm, .int vgc])), (vgv_10, .inl (cy 3, vnb_11, .inl vgf_23))] H := hP
  have hD : va_D A [(vg, .inr (0, [.ref vgv_10, .int 0, .int vgm, .int vgc])), (vgv_10, .inl (cy 3, vnb_11, .inl vgf_23))] := hD
  refine lv_pop hx hb dJ5_append_c97b9_33 rfl ?_
  refine lv_goto (tgt := 48) hx hb dJ5_append_c97b9_34 (by decide) ?_
  refine lv_aload_n hx hb dJ5_append_c97b9_48 rfl (lv_at hl 2 rfl) ?_
  refine lv_iload_n hx hb dJ5_append_c97b9_49 rfl (lv_at hl 0 rfl) ?_
  refine pf_J5_79 hx hb hts hown hK hP hD hS 0 rfl rfl rfl (Nat.le_of_ble_eq_true rfl) dJ5_append_c97b9_50 (fun H locs hP hD hS => ?_)
  have hP : va_P (dC, dI) vwCl [(vg, .inr (0, [.ref vgv_10, .int 0, .int vgm, .int z_6])), (vgv_10, .inl (cy 3, vnb_11, .inl vgf_23))] H := hP
  have hD : va_D A [(vg, .inr (0, [.ref vgv_10, .int 0, .int vgm, .int z_6])), (vgv_10, .inl (cy 3, vnb_11, .inl vgf_23))] := hD
  refine lv_aload_n hx hb dJ5_append_c97b9_53 rfl (lv_at hl 2 rfl) ?_
  refine W.widen (k := 1) (n := 70) (by decide) (by decide) ?_
  rw [hQ9]
  exact re_r (vgv_10, vnb_11, vgf_23, z_6) hx hb hr (Or.inl ⟨_, rfl⟩) hlocks ⟨(show sb_Fit vgf_23 from q_24), (show 0 ≤ (z_6 : Int32).toInt ∧ (z_6 : Int32).toInt ≤ 42 from ⟨by omega, by omega⟩), (show (vnb_11 = 16 ∨ vnb_11 = 34 ∨ vnb_11 = 70) from q_14), (show (z_6 : Int32).toInt ≤ (vnb_11 : Int) from q_15), (show (z_6 : Int32).toInt ≤ (vgc : Int32).toInt + 11 from (by omega)), (show (vgc : Int32).toInt ≤ (z_6 : Int32).toInt from (by omega))⟩ (hP.sub [0, 1] rfl) (hD.sub [0, 1] rfl rfl) hS dJ5_append_c97b9_54
abbrev cJ4_append_bf812 : ByteArray := prog_26_method_15_code
def yJ4_append_bf812 : MethodName := ⟨RJ4, "append", "(I)Ljava/lang/StringBuilder;"⟩
theorem t1126 : Cond.code yJ4_append_bf812 cJ4_append_bf812 2 (some (.object "java/lang/StringBuilder")) ∈ GW := gw_mem 1240 (by decide +kernel) (by decide +kernel)
abbrev O_b_sbappI (cy : Nat → ClassId) (vg : Nat) (vgv : Nat) (vgm : Int32) (vgc : Int32) (vnb : Nat) (vgf : Nat → Int32) (vx : Int32) (u : Nat × Nat × (Nat → Int32) × Int32) : va_W := [(vg, .inr (0, [.ref u.1, .int 0, .int vgm, .int u.2.2.2])), (u.1, .inl (cy 3, u.2.1, .inl u.2.2.1))]
theorem dJ4_append_bf812_0 : decode cJ4_append_bf812 0 = .ok (.aload_n 0, 1) := by decide +kernel
theorem dJ4_append_bf812_1 : decode cJ4_append_bf812 1 = .ok (.iload_n 1, 1) := by decide +kernel
theorem dJ4_append_bf812_2 : decode cJ4_append_bf812 2 = .ok (.invokespecial 53, 3) := by decide +kernel
theorem t1127 : Cond.methodLink RJ4 53 yJ5_append_c97b9 ∈ GW := gw_mem 1241 (by decide +kernel) (by decide +kernel)
theorem t1128 : Cond.instanceMethod yJ5_append_c97b9 ∈ GW := gw_mem 1242 (by decide +kernel) (by decide +kernel)
theorem t2082 : Cond.sameMethod yJ5_append_c97b9.cls yJ5_append_c97b9.cls yJ5_append_c97b9.name yJ5_append_c97b9.desc ∈ GW := gw_mem 2196 (by decide +kernel) (by decide +kernel)
theorem cw_J4_53 {R : Room} {s : State} {args : Array Value} {rm : Room} {mc ms : Nat} (hts : ∀ w ∈ GW, w.before args s = true) (hrc : rm.cells = mc) (hrs : rm.slots = ms) (hR : rm.frames + 1 ≤ R.frames ∧ 8 + (4 + 11) + rm.locals ≤ R.locals) : va_CS R s args RJ4 53 yJ5_append_c97b9 cJ5_append_c97b9 4 (some (.object "java/lang/AbstractStringBuilder")) (wl yJ5_append_c97b9 cJ5_append_c97b9 4 (some (.object "java/lang/AbstractStringBuilder"))) rm mc ms 1 := va_cwSU 1 hts (gi_U t1127 t2082 t359 t1128 t13 t1129) rfl hrc hrs (by decide +kernel) hR
theorem dJ4_append_bf812_5 : decode cJ4_append_bf812 5 = .ok (.pop, 1) := by decide +kernel
theorem dJ4_append_bf812_6 : decode cJ4_append_bf812 6 = .ok (.aload_n 0, 1) := by decide +kernel
theorem dJ4_append_bf812_7 : decode cJ4_append_bf812 7 = .ok (.areturn, 1) := by decide +kernel
set_option maxHeartbeats 4000000 in
set_option maxRecDepth 100000 in
theorem b_sbappI (l : Launch) (dC : Nat → ClassId) (dI : Nat → Nat → Nat) (cy : Nat → ClassId) (sz : Nat) (B : Nat → Prop) (kS vS : Nat → Nat) (vg : Nat) (vgv : Nat) (vgm : Int32) (vgc : Int32) (vnb : Nat) (vgf : Nat → Int32) (vx : Int32) (r_vgc : 0 ≤ (vgc : Int32).toInt ∧ (vgc : Int32).toInt ≤ 31) (p_vgf : sb_Fit vgf) (hn : (vnb = 16 ∨ vnb = 34 ∨ vnb = 70)) (hgc : (vgc : Int32).toInt ≤ (vnb : Int)) (hB : ∀ q : Nat, va_A [(vg, .inr (0, [.ref vgv, .int 0, .int vgm, .int vgc])), (vgv, .inl (cy 3, vnb, .inl vgf))] sz q → B q) : Met l yJ4_append_bf812 (wl yJ4_append_bf812 cJ4_append_bf812 2 (some (.object "java/lang/StringBuilder"))) ({ frames := 5, cells := 1, slots := 70, locals := 320 }) (Pw (dC, dI) vwCl cy [(vg, .inr (0, [.ref vgv, .int 0, .int vgm, .int vgc])), (vgv, .inl (cy 3, vnb, .inl vgf))] sz [.ref vg, .int vx] (EnvB B kS vS)) (Qr (dC, dI) vwCl (fun (u : Nat × Nat × (Nat → Int32) × Int32) => (sb_Fit u.2.2.1) ∧ (0 ≤ (u.2.2.2 : Int32).toInt ∧ (u.2.2.2 : Int32).toInt ≤ 42) ∧ ((u.2.1 = 16 ∨ u.2.1 = 34 ∨ u.2.1 = 70)) ∧ ((u.2.2.2 : Int32).toInt ≤ (u.2.1 : Int)) ∧ ((u.2.2.2 : Int32).toInt ≤ (vgc : Int32).toInt + 11) ∧ ((vgc : Int32).toInt ≤ (u.2.2.2 : Int32).toInt)) (O_b_sbappI cy vg vgv vgm vgc vnb vgf vx) (fun (u : Nat × Nat × (Nat → Int32) × Int32) => vg) (va_A [(vg, .inr (0, [.ref vgv, .int 0, .int vgm, .int vgc])), (vgv, .inl (cy 3, vnb, .inl vgf))] sz)) 1 70 (va_A [(vg, .inr (0, [.ref vgv, .int 0, .int vgm, .int vgc])), (vgv, .inl (cy 3, vnb, .inl vgf))] sz) := by
  refine mw (Qc := Qr (dC, dI) vwCl (fun (u : Nat × Nat × (Nat → Int32) × Int32) => (sb_Fit u.2.2.1) ∧ (0 ≤ (u.2.2.2 : Int32).toInt ∧ (u.2.2.2 : Int32).toInt ≤ 42) ∧ ((u.2.1 = 16 ∨ u.2.1 = 34 ∨ u.2.1 = 70)) ∧ ((u.2.2.2 : Int32).toInt ≤ (u.2.1 : Int)) ∧ ((u.2.2.2 : Int32).toInt ≤ (vgc : Int32).toInt + 11) ∧ ((vgc : Int32).toInt ≤ (u.2.2.2 : Int32).toInt)) (O_b_sbappI cy vg vgv vgm vgc vnb vgf vx) (fun (u : Nat × Nat × (Nat → Int32) × Int32) => vg)) RJ4 rfl (by decide +kernel) (Nat.le_of_ble_eq_true rfl) ?_
  intro p e s m below meth c A hx hb hr hlocks av9 hav hts hown hnm hml hK hP hD hA hS hE hAe Q9 hQ9 ls hl
  have hAB : ∀ q : Nat, A q → B q := by rw [hAe]; exact hB
  have hEA := hE.narrow hAB
  have hl : lv_has ls 2 [(0, .ref vg), (1, .int vx)] := hl
  refine lv_aload_n hx hb dJ4_append_bf812_0 rfl (lv_at hl 0 rfl) ?_
  refine lv_iload_n hx hb dJ4_append_bf812_1 rfl (lv_at hl 1 rfl) ?_
  refine jn_r (wr := []) (rU (As := [.int vx]) (rest := []) (ci := 0) ⟨hx, hb, hml, hown, hts⟩ (b_appI l dC dI cy _ B kS vS vg vgv vgm vgc vnb vgf vx r_vgc p_vgf hn hgc (fun q hq => hAB q (va_free hD hS hA [0, 1] rfl q hq))) (cw_J4_53 hts rfl rfl ⟨Nat.le_of_ble_eq_true rfl, Nat.le_of_ble_eq_true rfl⟩) hP hD hK [0, 1] rfl rfl rfl rfl EnvB.calling (EnvB.at hE hS hAB (fun _ h => h)) rfl hl.1 rfl (Nat.le_of_ble_eq_true rfl) dJ4_append_bf812_2 ⟨Nat.le_of_ble_eq_true rfl, Nat.le_of_ble_eq_true rfl⟩) hP hD hS hA [0, 1] [] rfl rfl rfl (by decide) (fun u_3 H locs hp_2 hP hD hS => ?_)
  obtain ⟨vgv_4, vnb_5, vgf_6, vgc_7⟩ := u_3
  have hp_2 : (sb_Fit vgf_6) ∧ (0 ≤ (vgc_7 : Int32).toInt ∧ (vgc_7 : Int32).toInt ≤ 42) ∧ ((vnb_5 = 16 ∨ vnb_5 = 34 ∨ vnb_5 = 70)) ∧ ((vgc_7 : Int32).toInt ≤ (vnb_5 : Int)) ∧ ((vgc_7 : Int32).toInt ≤ (vgc : Int32).toInt + 11) ∧ ((vgc : Int32).toInt ≤ (vgc_7 : Int32).toInt) := hp_2
  obtain ⟨q_8, q_9, q_10, q_11, q_12, q_13⟩ := hp_2
  have hP : va_P (dC, dI) vwCl [(vg, .inr (0, [.ref vgv_4, .int 0, .int vgm, .int vgc_7])), (vgv_4, .inl (cy 3, vnb_5, .inl vgf_6))] H := hP
  have hD : va_D A [(vg, .inr (0, [.ref vgv_4, .int 0, .int vgm, .int vgc_7])), (vgv_4, .inl (cy 3, vnb_5, .inl vgf_6))] := hD
  refine W.widen (k := 1) (n := 70) (by decide) (by decide) ?_
  refine W.eq (g2 := F0 m 5 ls [.ref vg]) rfl ?_
  refine lv_pop hx hb dJ4_append_bf812_5 rfl ?_
  refine lv_aload_n hx hb dJ4_append_bf812_6 rfl (lv_at hl 0 rfl) ?_
  refine W.widen (k := 1) (n := 70) (by decide) (by decide) ?_
  rw [hQ9]
  exact re_r (vgv_4, vnb_5, vgf_6, vgc_7) hx hb hr (Or.inl ⟨_, rfl⟩) hlocks ⟨(show sb_Fit vgf_6 from q_8), (show 0 ≤ (vgc_7 : Int32).toInt ∧ (vgc_7 : Int32).toInt ≤ 42 from ⟨by omega, by omega⟩), (show (vnb_5 = 16 ∨ vnb_5 = 34 ∨ vnb_5 = 70) from q_10), (show (vgc_7 : Int32).toInt ≤ (vnb_5 : Int) from q_11), (show (vgc_7 : Int32).toInt ≤ (vgc : Int32).toInt + 11 from q_12), (show (vgc : Int32).toInt ≤ (vgc_7 : Int32).toInt from q_13)⟩ (hP.sub [0, 1] rfl) (hD.sub [0, 1] rfl rfl) hS dJ4_append_bf812_7
