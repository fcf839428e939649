abbrev cX6_holds : ByteArray := prog_8_method_16_code
def yX6_holds : MethodName := ⟨RX6, "holds", "(II)Z"⟩
theorem t1329 : Cond.code yX6_holds cX6_holds 3 (some .boolean) ∈ GW := gw_mem 1443 (by decide +kernel) (by decide +kernel)
theorem dX6_holds_0 : decode cX6_holds 0 = .ok (.aload_n 0, 1) := by decide +kernel
theorem dX6_holds_1 : decode cX6_holds 1 = .ok (.getfield 15, 3) := by decide +kernel
theorem dX6_holds_4 : decode cX6_holds 4 = .ok (.iload_n 2, 1) := by decide +kernel
theorem dX6_holds_5 : decode cX6_holds 5 = .ok (.iaload, 1) := by decide +kernel
theorem dX6_holds_6 : decode cX6_holds 6 = .ok (.lookupswitch 58 #[(60, 26), (62, 42)], 26) := by decide +kernel
theorem dX6_holds_32 : decode cX6_holds 32 = .ok (.iload_n 1, 1) := by decide +kernel
theorem dX6_holds_33 : decode cX6_holds 33 = .ok (.aload_n 0, 1) := by decide +kernel
theorem dX6_holds_34 : decode cX6_holds 34 = .ok (.getfield 18, 3) := by decide +kernel
theorem dX6_holds_37 : decode cX6_holds 37 = .ok (.iload_n 2, 1) := by decide +kernel
theorem dX6_holds_38 : decode cX6_holds 38 = .ok (.iaload, 1) := by decide +kernel
theorem dX6_holds_39 : decode cX6_holds 39 = .ok (.if_icmp .ge 7, 3) := by decide +kernel
theorem dX6_holds_46 : decode cX6_holds 46 = .ok (.iconst 0, 1) := by decide +kernel
theorem dX6_holds_47 : decode cX6_holds 47 = .ok (.ireturn, 1) := by decide +kernel
theorem dX6_holds_42 : decode cX6_holds 42 = .ok (.iconst 1, 1) := by decide +kernel
theorem dX6_holds_43 : decode cX6_holds 43 = .ok (.goto 4, 3) := by decide +kernel
theorem dX6_holds_48 : decode cX6_holds 48 = .ok (.iload_n 1, 1) := by decide +kernel
theorem dX6_holds_49 : decode cX6_holds 49 = .ok (.aload_n 0, 1) := by decide +kernel
theorem dX6_holds_50 : decode cX6_holds 50 = .ok (.getfield 18, 3) := by decide +kernel
theorem dX6_holds_53 : decode cX6_holds 53 = .ok (.iload_n 2, 1) := by decide +kernel
theorem dX6_holds_54 : decode cX6_holds 54 = .ok (.iaload, 1) := by decide +kernel
theorem dX6_holds_55 : decode cX6_holds 55 = .ok (.if_icmp .le 7, 3) := by decide +kernel
theorem dX6_holds_62 : decode cX6_holds 62 = .ok (.iconst 0, 1) := by decide +kernel
theorem dX6_holds_63 : decode cX6_holds 63 = .ok (.ireturn, 1) := by decide +kernel
theorem dX6_holds_58 : decode cX6_holds 58 = .ok (.iconst 1, 1) := by decide +kernel
theorem dX6_holds_59 : decode cX6_holds 59 = .ok (.goto 4, 3) := by decide +kernel
theorem dX6_holds_64 : decode cX6_holds 64 = .ok (.iload_n 1, 1) := by decide +kernel
theorem dX6_holds_65 : decode cX6_holds 65 = .ok (.aload_n 0, 1) := by decide +kernel
theorem dX6_holds_66 : decode cX6_holds 66 = .ok (.getfield 18, 3) := by decide +kernel
theorem dX6_holds_69 : decode cX6_holds 69 = .ok (.iload_n 2, 1) := by decide +kernel
theorem dX6_holds_70 : decode cX6_holds 70 = .ok (.iaload, 1) := by decide +kernel
theorem dX6_holds_71 : decode cX6_holds 71 = .ok (.if_icmp .ne 7, 3) := by decide +kernel
theorem dX6_holds_78 : decode cX6_holds 78 = .ok (.iconst 0, 1) := by decide +kernel
theorem dX6_holds_79 : decode cX6_holds 79 = .ok (.ireturn, 1) := by decide +kernel
theorem dX6_holds_74 : decode cX6_holds 74 = .ok (.iconst 1, 1) := by decide +kernel
theorem dX6_holds_75 : decode cX6_holds 75 = .ok (.goto 4, 3) := by decide +kernel
set_option maxHeartbeats 4000000 in
set_option maxRecDepth 100000 in
theorem g_se_holds (l : Launch) (dC : Nat → ClassId) (dI : Nat → Nat → Nat) (cy : Nat → ClassId) (vz : Nat) (vz1 : Nat) (vz2 : Nat) (vz3 : Nat) (vz4 : Nat) (vzs : Int32) (vzo : Int32) (vzf2 : Nat → Int32) (vzf3 : Nat → Int32) (vv : Int32) (vi : Int32) (r_vi : 0 ≤ (vi : Int32).toInt ∧ (vi : Int32).toInt ≤ 39) : Met l yX6_holds (wl yX6_holds cX6_holds 3 (some .boolean)) ({ frames := 0, cells := 0, slots := 0, locals := 0 }) (Pr (dC, dI) vwCl cy [(vz, .inr (7, [.ref vz1, .ref vz2, .ref vz3, .ref vz4, .int vzs, .int vzo])), (vz2, .inl (cy 0, 40, .inl vzf2)), (vz3, .inl (cy 0, 40, .inl vzf3))] [.ref vz, .int vv, .int vi]) (Ri (fun r => ((r = 0) ∨ (r = 1)))) 0 0 (fun _ => False) := by
  refine mr RX6 rfl (by decide +kernel) (Nat.le_of_ble_eq_true rfl) ?_
  intro p e s m below meth c hx hb hr hlocks av9 hav hts hown hml hK hP hS Q9 hQ9 ls hl
  have hl : lv_has ls 3 [(0, .ref vz), (1, .int vv), (2, .int vi)] := hl
  refine lv_aload_n hx hb dX6_holds_0 rfl (lv_at hl 0 rfl) ?_
  refine gf_X6_15 hx hb hts hown hK hP 0 rfl rfl dX6_holds_1 ?_
  refine lv_iload_n hx hb dX6_holds_4 rfl (lv_at hl 2 rfl) ?_
  have hin_1 : vp_in vi 40 := vp_in_iff.mpr ⟨by omega, by omega⟩
  refine va_iald hx hb hK hP 1 0 rfl rfl hin_1 dX6_holds_5 ?_
  refine lv_topi (fun z_2 ez_2 => ?_)
  have k_60 : (60 : Int32).toInt = 60 := by decide
  have k_62 : (62 : Int32).toInt = 62 := by decide
  by_cases sw_3_60 : z_2.toInt = 60
  · refine as_i 60 (i_eq.mpr (sw_3_60.trans k_60.symm)) ?_
    refine lv_lookup (off := 26) (tgt := 32) hx hb dX6_holds_6 (by decide) (by decide) (by decide) ?_
    refine lv_iload_n hx hb dX6_holds_32 rfl (lv_at hl 1 rfl) ?_
    refine lv_aload_n hx hb dX6_holds_33 rfl (lv_at hl 0 rfl) ?_
    refine gf_X6_18 hx hb hts hown hK hP 0 rfl rfl dX6_holds_34 ?_
    refine lv_iload_n hx hb dX6_holds_37 rfl (lv_at hl 2 rfl) ?_
    have hin_4 : vp_in vi 40 := vp_in_iff.mpr ⟨by omega, by omega⟩
    refine va_iald hx hb hK hP 2 0 rfl rfl hin_4 dX6_holds_38 ?_
    refine lv_topi (fun z_5 ez_5 => ?_)
    refine lv_icmp_ge (tgt := 46) hx hb dX6_holds_39 (by decide) (fun c_6 => ?_) (fun c_6 => ?_)
    · skip
      have c_6 : z_5.toInt ≤ vv.toInt := i_le.mp c_6
      refine lv_iconst (v := 0) hx hb dX6_holds_46 (by decide) ?_
      have k_0 : (0 : Int32).toInt = 0 := by decide
      rw [hQ9]
      exact rr_z hx hb hr hlocks (Or.inl rfl) (show ((0 : Int32) = 0) ∨ ((0 : Int32) = 1) from (Or.inl rfl)) hS dX6_holds_47
    · skip
      have c_6 : ¬ (z_5.toInt ≤ vv.toInt) := fun h9 => c_6 (i_le.mpr h9)
      refine lv_iconst (v := 1) hx hb dX6_holds_42 (by decide) ?_
      refine lv_goto (tgt := 47) hx hb dX6_holds_43 (by decide) ?_
      have k_1 : (1 : Int32).toInt = 1 := by decide
      rw [hQ9]
      exact rr_z hx hb hr hlocks (Or.inr rfl) (show ((1 : Int32) = 0) ∨ ((1 : Int32) = 1) from (Or.inr (rfl))) hS dX6_holds_47
  by_cases sw_3_62 : z_2.toInt = 62
  · refine as_i 62 (i_eq.mpr (sw_3_62.trans k_62.symm)) ?_
    refine lv_lookup (off := 42) (tgt := 48) hx hb dX6_holds_6 (by decide) (by decide) (by decide) ?_
    refine lv_iload_n hx hb dX6_holds_48 rfl (lv_at hl 1 rfl) ?_
    refine lv_aload_n hx hb dX6_holds_49 rfl (lv_at hl 0 rfl) ?_
    refine gf_X6_18 hx hb hts hown hK hP 0 rfl rfl dX6_holds_50 ?_
    refine lv_iload_n hx hb dX6_holds_53 rfl (lv_at hl 2 rfl) ?_
    have hin_7 : vp_in vi 40 := vp_in_iff.mpr ⟨by omega, by omega⟩
    refine va_iald hx hb hK hP 2 0 rfl rfl hin_7 dX6_holds_54 ?_
    refine lv_topi (fun z_8 ez_8 => ?_)
    refine lv_icmp_le (tgt := 62) hx hb dX6_holds_55 (by decide) (fun c_9 => ?_) (fun c_9 => ?_)
    · skip
      have c_9 : vv.toInt ≤ z_8.toInt := i_le.mp c_9
      refine lv_iconst (v := 0) hx hb dX6_holds_62 (by decide) ?_
      have k_0 : (0 : Int32).toInt = 0 := by decide
      rw [hQ9]
      exact rr_z hx hb hr hlocks (Or.inl rfl) (show ((0 : Int32) = 0) ∨ ((0 : Int32) = 1) from (Or.inl rfl)) hS dX6_holds_63
    · skip
      have c_9 : ¬ (vv.toInt ≤ z_8.toInt) := fun h9 => c_9 (i_le.mpr h9)
      refine lv_iconst (v := 1) hx hb dX6_holds_58 (by decide) ?_
      refine lv_goto (tgt := 63) hx hb dX6_holds_59 (by decide) ?_
      have k_1 : (1 : Int32).toInt = 1 := by decide
      rw [hQ9]
      exact rr_z hx hb hr hlocks (Or.inr rfl) (show ((1 : Int32) = 0) ∨ ((1 : Int32) = 1) from (Or.inr (rfl))) hS dX6_holds_63
  have nsw_3_60 : ¬ ((60 : Int) = z_2.toInt) := by omega
  have nsw_3_62 : ¬ ((62 : Int) = z_2.toInt) := by omega
  refine lv_lookup (off := 58) (tgt := 64) hx hb dX6_holds_6 (by decide) (by simp only [Op.lookupswitch.offset, if_neg nsw_3_60, if_neg nsw_3_62]) (by decide) ?_
  refine lv_iload_n hx hb dX6_holds_64 rfl (lv_at hl 1 rfl) ?_
  refine lv_aload_n hx hb dX6_holds_65 rfl (lv_at hl 0 rfl) ?_
  refine gf_X6_18 hx hb hts hown hK hP 0 rfl rfl dX6_holds_66 ?_
  refine lv_iload_n hx hb dX6_holds_69 rfl (lv_at hl 2 rfl) ?_
  have hin_10 : vp_in vi 40 := vp_in_iff.mpr ⟨by omega, by omega⟩
  refine va_iald hx hb hK hP 2 0 rfl rfl hin_10 dX6_holds_70 ?_
  refine lv_topi (fun z_11 ez_11 => ?_)
  refine lv_icmp_ne (tgt := 78) hx hb dX6_holds_71 (by decide) (fun c_12 => ?_) (fun c_12 => ?_)
  · skip
    have c_12 : ¬ (vv.toInt = z_11.toInt) := fun h9 => c_12 (i_eq.mpr h9)
    refine lv_iconst (v := 0) hx hb dX6_holds_78 (by decide) ?_
    have k_0 : (0 : Int32).toInt = 0 := by decide
    rw [hQ9]
    exact rr_z hx hb hr hlocks (Or.inl rfl) (show ((0 : Int32) = 0) ∨ ((0 : Int32) = 1) from (Or.inl rfl)) hS dX6_holds_79
  · skip
    have c_12 : vv.toInt = z_11.toInt := i_eq.mp c_12
    refine lv_iconst (v := 1) hx hb dX6_holds_74 (by decide) ?_
    refine lv_goto (tgt := 79) hx hb dX6_holds_75 (by decide) ?_
    have k_1 : (1 : Int32).toInt = 1 := by decide
    rw [hQ9]
    exact rr_z hx hb hr hlocks (Or.inr rfl) (show ((1 : Int32) = 0) ∨ ((1 : Int32) = 1) from (Or.inr (rfl))) hS dX6_holds_79
abbrev cX6_isTrue : ByteArray := prog_8_method_15_code
def yX6_isTrue : MethodName := ⟨RX6, "isTrue", "(IILLikenessPound$World;)Z"⟩
theorem t1322 : Cond.code yX6_isTrue cX6_isTrue 4 (some .boolean) ∈ GW := gw_mem 1436 (by decide +kernel) (by decide +kernel)
theorem dX6_isTrue_0 : decode cX6_isTrue 0 = .ok (.aload_n 0, 1) := by decide +kernel
theorem dX6_isTrue_1 : decode cX6_isTrue 1 = .ok (.getfield 11, 3) := by decide +kernel
theorem dX6_isTrue_4 : decode cX6_isTrue 4 = .ok (.iload_n 1, 1) := by decide +kernel
theorem dX6_isTrue_5 : decode cX6_isTrue 5 = .ok (.iaload, 1) := by decide +kernel
theorem dX6_isTrue_6 : decode cX6_isTrue 6 = .ok (.tableswitch 266 8 27 #[109, 266, 266, 266, 266, 266, 266, 266, 266, 266, 266, 94, 123, 138, 156, 175, 203, 229, 240, 251], 94) := by decide +kernel
theorem dX6_isTrue_115 : decode cX6_isTrue 115 = .ok (.aload_n 3, 1) := by decide +kernel
theorem dX6_isTrue_116 : decode cX6_isTrue 116 = .ok (.iload_n 2, 1) := by decide +kernel
theorem dX6_isTrue_117 : decode cX6_isTrue 117 = .ok (.invokevirtual 122, 3) := by decide +kernel
theorem t1323 : Cond.methodLink RX6 122 yX9_howIs ∈ GW := gw_mem 1437 (by decide +kernel) (by decide +kernel)
theorem cw_X6_122 {R : Room} {s : State} {args : Array Value} {rm : Room} {mc ms : Nat} (hts : ∀ w ∈ GW, w.before args s = true) (hrc : rm.cells = mc) (hrs : rm.slots = ms) (hR : rm.frames + 1 ≤ R.frames ∧ 8 + (3 + 11) + rm.locals ≤ R.locals) : CallW R s args RX6 RX9 122 yX9_howIs cX9_howIs 3 (some .int) (wl yX9_howIs cX9_howIs 3 (some .int)) rm mc ms 1 := cwV 1 hts (gi_V t1323 t730 t731 t15 t732) rfl hrc hrs (by decide +kernel) hR
theorem dX6_isTrue_120 : decode cX6_isTrue 120 = .ok (.ifCond .ne 7, 3) := by decide +kernel
theorem dX6_isTrue_127 : decode cX6_isTrue 127 = .ok (.iconst 0, 1) := by decide +kernel
theorem dX6_isTrue_128 : decode cX6_isTrue 128 = .ok (.ireturn, 1) := by decide +kernel
theorem dX6_isTrue_123 : decode cX6_isTrue 123 = .ok (.iconst 1, 1) := by decide +kernel
theorem dX6_isTrue_124 : decode cX6_isTrue 124 = .ok (.goto 4, 3) := by decide +kernel
theorem dX6_isTrue_272 : decode cX6_isTrue 272 = .ok (.aload_n 0, 1) := by decide +kernel
theorem dX6_isTrue_273 : decode cX6_isTrue 273 = .ok (.iload_n 2, 1) := by decide +kernel
theorem dX6_isTrue_274 : decode cX6_isTrue 274 = .ok (.iload_n 1, 1) := by decide +kernel
theorem dX6_isTrue_275 : decode cX6_isTrue 275 = .ok (.invokevirtual 147, 3) := by decide +kernel
theorem t1326 : Cond.methodLink RX6 147 yX6_holds ∈ GW := gw_mem 1440 (by decide +kernel) (by decide +kernel)
theorem t1328 : Cond.instanceMethod yX6_holds ∈ GW := gw_mem 1442 (by decide +kernel) (by decide +kernel)
theorem s36 : Cond.selects RX6 yX6_holds yX6_holds ∈ GW := gw_mem 36 (by decide +kernel) (by decide +kernel)
theorem cw_X6_147 {R : Room} {s : State} {args : Array Value} {rm : Room} {mc ms : Nat} (hts : ∀ w ∈ GW, w.before args s = true) (hrc : rm.cells = mc) (hrs : rm.slots = ms) (hR : rm.frames + 1 ≤ R.frames ∧ 8 + (3 + 11) + rm.locals ≤ R.locals) : CallW R s args RX6 RX6 147 yX6_holds cX6_holds 3 (some .boolean) (wl yX6_holds cX6_holds 3 (some .boolean)) rm mc ms 2 := cwV 2 hts (gi_V t1326 t1328 s36 t17 t1329) rfl hrc hrs (by decide +kernel) hR
theorem dX6_isTrue_278 : decode cX6_isTrue 278 = .ok (.ireturn, 1) := by decide +kernel
theorem dX6_isTrue_100 : decode cX6_isTrue 100 = .ok (.aload_n 3, 1) := by decide +kernel
theorem dX6_isTrue_101 : decode cX6_isTrue 101 = .ok (.iload_n 2, 1) := by decide +kernel
theorem dX6_isTrue_102 : decode cX6_isTrue 102 = .ok (.invokevirtual 122, 3) := by decide +kernel
theorem dX6_isTrue_105 : decode cX6_isTrue 105 = .ok (.iconst 1, 1) := by decide +kernel
theorem dX6_isTrue_106 : decode cX6_isTrue 106 = .ok (.if_icmp .ne 7, 3) := by decide +kernel
theorem dX6_isTrue_113 : decode cX6_isTrue 113 = .ok (.iconst 0, 1) := by decide +kernel
theorem dX6_isTrue_114 : decode cX6_isTrue 114 = .ok (.ireturn, 1) := by decide +kernel
theorem dX6_isTrue_109 : decode cX6_isTrue 109 = .ok (.iconst 1, 1) := by decide +kernel
theorem dX6_isTrue_110 : decode cX6_isTrue 110 = .ok (.goto 4, 3) := by decide +kernel
theorem dX6_isTrue_129 : decode cX6_isTrue 129 = .ok (.aload_n 3, 1) := by decide +kernel
theorem dX6_isTrue_130 : decode cX6_isTrue 130 = .ok (.iload_n 2, 1) := by decide +kernel
theorem dX6_isTrue_131 : decode cX6_isTrue 131 = .ok (.invokevirtual 122, 3) := by decide +kernel
theorem dX6_isTrue_134 : decode cX6_isTrue 134 = .ok (.iconst 2, 1) := by decide +kernel
theorem dX6_isTrue_135 : decode cX6_isTrue 135 = .ok (.if_icmp .ne 7, 3) := by decide +kernel
theorem dX6_isTrue_142 : decode cX6_isTrue 142 = .ok (.iconst 0, 1) := by decide +kernel
theorem dX6_isTrue_143 : decode cX6_isTrue 143 = .ok (.ireturn, 1) := by decide +kernel
theorem dX6_isTrue_138 : decode cX6_isTrue 138 = .ok (.iconst 1, 1) := by decide +kernel
theorem dX6_isTrue_139 : decode cX6_isTrue 139 = .ok (.goto 4, 3) := by decide +kernel
theorem dX6_isTrue_144 : decode cX6_isTrue 144 = .ok (.aload_n 3, 1) := by decide +kernel
theorem dX6_isTrue_145 : decode cX6_isTrue 145 = .ok (.getfield 126, 3) := by decide +kernel
theorem t467 : Cond.fieldLink RX6 126 "LikenessPound$World" "life" "LLikenessPound$Life;" ∈ GW := gw_mem 581 (by decide +kernel) (by decide +kernel)
theorem gf_X6_126 {p : Program} {l : Launch} {e : Env} {R : Room} {s : State} {m : MethodId} {args : Array Value} {below : List Frame} {meth : Method} {c : Code} {H : Heap} {locs : List Loc} {cells slots : Nat} {Q : State → Prop} {cc : ByteArray} {pc : Nat} {ls : Array Slot} {rest : List Value} {D : va_G} {a : Nat} {tys : List (ClassId × FieldType)} {ws : va_W} (hx : p.tables.exec = Jvm.exec) (hb : c.code = cc) (hts : ∀ w ∈ GW, w.before args s = true) (hown : s.vm.findClass RX6 = some m.cls) (hK : va_K D vwCl tys s) (hP : va_P D vwCl ws H) (q0 : Nat) {fs : List Value} (he : ws[q0]? = some (a, .inr (10, fs))) {v : Value} (hv : fs[1]? = some v) (hdg : decode cc pc = .ok (.getfield 126, 3)) (kk : W p l e R s m args below meth c H locs cells slots Q (F0 m (pc + 3) ls (v :: rest))) : W p l e R s m args below meth c H locs cells slots Q (F0 m pc ls (.ref a :: rest)) := va_get (C := RX9) (T := TX9) (N := 3) (ci := 10) hx hb hts inX9 hown hK hP q0 he rfl 1 (by decide) (hts _ t467) (fun _ h => h) hv hdg kk
theorem dX6_isTrue_148 : decode cX6_isTrue 148 = .ok (.getfield 130, 3) := by decide +kernel
theorem t253 : Cond.fieldLink RX6 130 "LikenessPound$Life" "sat" "[I" ∈ GW := gw_mem 367 (by decide +kernel) (by decide +kernel)
theorem gf_X6_130 {p : Program} {l : Launch} {e : Env} {R : Room} {s : State} {m : MethodId} {args : Array Value} {below : List Frame} {meth : Method} {c : Code} {H : Heap} {locs : List Loc} {cells slots : Nat} {Q : State → Prop} {cc : ByteArray} {pc : Nat} {ls : Array Slot} {rest : List Value} {D : va_G} {a : Nat} {tys : List (ClassId × FieldType)} {ws : va_W} (hx : p.tables.exec = Jvm.exec) (hb : c.code = cc) (hts : ∀ w ∈ GW, w.before args s = true) (hown : s.vm.findClass RX6 = some m.cls) (hK : va_K D vwCl tys s) (hP : va_P D vwCl ws H) (q0 : Nat) {fs : List Value} (he : ws[q0]? = some (a, .inr (5, fs))) {v : Value} (hv : fs[5]? = some v) (hdg : decode cc pc = .ok (.getfield 130, 3)) (kk : W p l e R s m args below meth c H locs cells slots Q (F0 m (pc + 3) ls (v :: rest))) : W p l e R s m args below meth c H locs cells slots Q (F0 m pc ls (.ref a :: rest)) := va_get (C := RX4) (T := TX4) (N := 11) (ci := 5) hx hb hts inX4 hown hK hP q0 he rfl 5 (by decide) (hts _ t253) (fun _ h => h) hv hdg kk
theorem dX6_isTrue_151 : decode cX6_isTrue 151 = .ok (.iload_n 2, 1) := by decide +kernel
theorem dX6_isTrue_152 : decode cX6_isTrue 152 = .ok (.iaload, 1) := by decide +kernel
theorem dX6_isTrue_153 : decode cX6_isTrue 153 = .ok (.ifCond .le 7, 3) := by decide +kernel
theorem dX6_isTrue_160 : decode cX6_isTrue 160 = .ok (.iconst 0, 1) := by decide +kernel
theorem dX6_isTrue_161 : decode cX6_isTrue 161 = .ok (.ireturn, 1) := by decide +kernel
theorem dX6_isTrue_156 : decode cX6_isTrue 156 = .ok (.iconst 1, 1) := by decide +kernel
theorem dX6_isTrue_157 : decode cX6_isTrue 157 = .ok (.goto 4, 3) := by decide +kernel
theorem dX6_isTrue_162 : decode cX6_isTrue 162 = .ok (.aload_n 3, 1) := by decide +kernel
theorem dX6_isTrue_163 : decode cX6_isTrue 163 = .ok (.getfield 126, 3) := by decide +kernel
theorem dX6_isTrue_166 : decode cX6_isTrue 166 = .ok (.getfield 135, 3) := by decide +kernel
theorem t246 : Cond.fieldLink RX6 135 "LikenessPound$Life" "lentTo" "[I" ∈ GW := gw_mem 360 (by decide +kernel) (by decide +kernel)
theorem gf_X6_135 {p : Program} {l : Launch} {e : Env} {R : Room} {s : State} {m : MethodId} {args : Array Value} {below : List Frame} {meth : Method} {c : Code} {H : Heap} {locs : List Loc} {cells slots : Nat} {Q : State → Prop} {cc : ByteArray} {pc : Nat} {ls : Array Slot} {rest : List Value} {D : va_G} {a : Nat} {tys : List (ClassId × FieldType)} {ws : va_W} (hx : p.tables.exec = Jvm.exec) (hb : c.code = cc) (hts : ∀ w ∈ GW, w.before args s = true) (hown : s.vm.findClass RX6 = some m.cls) (hK : va_K D vwCl tys s) (hP : va_P D vwCl ws H) (q0 : Nat) {fs : List Value} (he : ws[q0]? = some (a, .inr (5, fs))) {v : Value} (hv : fs[3]? = some v) (hdg : decode cc pc = .ok (.getfield 135, 3)) (kk : W p l e R s m args below meth c H locs cells slots Q (F0 m (pc + 3) ls (v :: rest))) : W p l e R s m args below meth c H locs cells slots Q (F0 m pc ls (.ref a :: rest)) := va_get (C := RX4) (T := TX4) (N := 11) (ci := 5) hx hb hts inX4 hown hK hP q0 he rfl 3 (by decide) (hts _ t246) (fun _ h => h) hv hdg kk
theorem dX6_isTrue_169 : decode cX6_isTrue 169 = .ok (.iload_n 2, 1) := by decide +kernel
theorem dX6_isTrue_170 : decode cX6_isTrue 170 = .ok (.iaload, 1) := by decide +kernel
theorem dX6_isTrue_171 : decode cX6_isTrue 171 = .ok (.iconst (-1), 1) := by decide +kernel
theorem dX6_isTrue_172 : decode cX6_isTrue 172 = .ok (.if_icmp .eq 7, 3) := by decide +kernel
theorem dX6_isTrue_179 : decode cX6_isTrue 179 = .ok (.iconst 0, 1) := by decide +kernel
theorem dX6_isTrue_180 : decode cX6_isTrue 180 = .ok (.ireturn, 1) := by decide +kernel
theorem dX6_isTrue_175 : decode cX6_isTrue 175 = .ok (.iconst 1, 1) := by decide +kernel
theorem dX6_isTrue_176 : decode cX6_isTrue 176 = .ok (.goto 4, 3) := by decide +kernel
theorem dX6_isTrue_181 : decode cX6_isTrue 181 = .ok (.aload_n 3, 1) := by decide +kernel
theorem dX6_isTrue_182 : decode cX6_isTrue 182 = .ok (.getfield 126, 3) := by decide +kernel
theorem dX6_isTrue_185 : decode cX6_isTrue 185 = .ok (.getfield 138, 3) := by decide +kernel
theorem t238 : Cond.fieldLink RX6 138 "LikenessPound$Life" "did" "[I" ∈ GW := gw_mem 352 (by decide +kernel) (by decide +kernel)
theorem gf_X6_138 {p : Program} {l : Launch} {e : Env} {R : Room} {s : State} {m : MethodId} {args : Array Value} {below : List Frame} {meth : Method} {c : Code} {H : Heap} {locs : List Loc} {cells slots : Nat} {Q : State → Prop} {cc : ByteArray} {pc : Nat} {ls : Array Slot} {rest : List Value} {D : va_G} {a : Nat} {tys : List (ClassId × FieldType)} {ws : va_W} (hx : p.tables.exec = Jvm.exec) (hb : c.code = cc) (hts : ∀ w ∈ GW, w.before args s = true) (hown : s.vm.findClass RX6 = some m.cls) (hK : va_K D vwCl tys s) (hP : va_P D vwCl ws H) (q0 : Nat) {fs : List Value} (he : ws[q0]? = some (a, .inr (5, fs))) {v : Value} (hv : fs[1]? = some v) (hdg : decode cc pc = .ok (.getfield 138, 3)) (kk : W p l e R s m args below meth c H locs cells slots Q (F0 m (pc + 3) ls (v :: rest))) : W p l e R s m args below meth c H locs cells slots Q (F0 m pc ls (.ref a :: rest)) := va_get (C := RX4) (T := TX4) (N := 11) (ci := 5) hx hb hts inX4 hown hK hP q0 he rfl 1 (by decide) (hts _ t238) (fun _ h => h) hv hdg kk
theorem dX6_isTrue_188 : decode cX6_isTrue 188 = .ok (.iload_n 2, 1) := by decide +kernel
theorem dX6_isTrue_189 : decode cX6_isTrue 189 = .ok (.bipush 10, 2) := by decide +kernel
theorem dX6_isTrue_191 : decode cX6_isTrue 191 = .ok (.imul, 1) := by decide +kernel
theorem dX6_isTrue_192 : decode cX6_isTrue 192 = .ok (.aload_n 0, 1) := by decide +kernel
theorem dX6_isTrue_193 : decode cX6_isTrue 193 = .ok (.getfield 18, 3) := by decide +kernel
theorem dX6_isTrue_196 : decode cX6_isTrue 196 = .ok (.iload_n 1, 1) := by decide +kernel
theorem dX6_isTrue_197 : decode cX6_isTrue 197 = .ok (.iaload, 1) := by decide +kernel
theorem dX6_isTrue_198 : decode cX6_isTrue 198 = .ok (.iadd, 1) := by decide +kernel
theorem dX6_isTrue_199 : decode cX6_isTrue 199 = .ok (.iaload, 1) := by decide +kernel
theorem dX6_isTrue_200 : decode cX6_isTrue 200 = .ok (.ifCond .le 7, 3) := by decide +kernel
theorem dX6_isTrue_207 : decode cX6_isTrue 207 = .ok (.iconst 0, 1) := by decide +kernel
theorem dX6_isTrue_208 : decode cX6_isTrue 208 = .ok (.ireturn, 1) := by decide +kernel
theorem dX6_isTrue_203 : decode cX6_isTrue 203 = .ok (.iconst 1, 1) := by decide +kernel
theorem dX6_isTrue_204 : decode cX6_isTrue 204 = .ok (.goto 4, 3) := by decide +kernel
theorem dX6_isTrue_209 : decode cX6_isTrue 209 = .ok (.aload_n 3, 1) := by decide +kernel
theorem dX6_isTrue_210 : decode cX6_isTrue 210 = .ok (.getfield 101, 3) := by decide +kernel
theorem t462 : Cond.fieldLink RX6 101 "LikenessPound$World" "colony" "LLikenessPound$Colony;" ∈ GW := gw_mem 576 (by decide +kernel) (by decide +kernel)
theorem gf_X6_101 {p : Program} {l : Launch} {e : Env} {R : Room} {s : State} {m : MethodId} {args : Array Value} {below : List Frame} {meth : Method} {c : Code} {H : Heap} {locs : List Loc} {cells slots : Nat} {Q : State → Prop} {cc : ByteArray} {pc : Nat} {ls : Array Slot} {rest : List Value} {D : va_G} {a : Nat} {tys : List (ClassId × FieldType)} {ws : va_W} (hx : p.tables.exec = Jvm.exec) (hb : c.code = cc) (hts : ∀ w ∈ GW, w.before args s = true) (hown : s.vm.findClass RX6 = some m.cls) (hK : va_K D vwCl tys s) (hP : va_P D vwCl ws H) (q0 : Nat) {fs : List Value} (he : ws[q0]? = some (a, .inr (10, fs))) {v : Value} (hv : fs[0]? = some v) (hdg : decode cc pc = .ok (.getfield 101, 3)) (kk : W p l e R s m args below meth c H locs cells slots Q (F0 m (pc + 3) ls (v :: rest))) : W p l e R s m args below meth c H locs cells slots Q (F0 m pc ls (.ref a :: rest)) := va_get (C := RX9) (T := TX9) (N := 3) (ci := 10) hx hb hts inX9 hown hK hP q0 he rfl 0 (by decide) (hts _ t462) (fun _ h => h) hv hdg kk
theorem dX6_isTrue_213 : decode cX6_isTrue 213 = .ok (.iload_n 2, 1) := by decide +kernel
theorem dX6_isTrue_214 : decode cX6_isTrue 214 = .ok (.invokevirtual 141, 3) := by decide +kernel
theorem t1324 : Cond.methodLink RX6 141 yX1_familyOf ∈ GW := gw_mem 1438 (by decide +kernel) (by decide +kernel)
theorem t855 : Cond.instanceMethod yX1_familyOf ∈ GW := gw_mem 969 (by decide +kernel) (by decide +kernel)
theorem t856 : Cond.selects RX1 yX1_familyOf yX1_familyOf ∈ GW := gw_mem 970 (by decide +kernel) (by decide +kernel)
theorem cw_X6_141 {R : Room} {s : State} {args : Array Value} {rm : Room} {mc ms : Nat} (hts : ∀ w ∈ GW, w.before args s = true) (hrc : rm.cells = mc) (hrs : rm.slots = ms) (hR : rm.frames + 1 ≤ R.frames ∧ 8 + (5 + 11) + rm.locals ≤ R.locals) : CallW R s args RX6 RX1 141 yX1_familyOf cX1_familyOf 5 (some .int) (wl yX1_familyOf cX1_familyOf 5 (some .int)) rm mc ms 1 := cwV 1 hts (gi_V t1324 t855 t856 t16 t857) rfl hrc hrs (by decide +kernel) hR
theorem dX6_isTrue_217 : decode cX6_isTrue 217 = .ok (.aload_n 0, 1) := by decide +kernel
theorem dX6_isTrue_218 : decode cX6_isTrue 218 = .ok (.getfield 18, 3) := by decide +kernel
theorem dX6_isTrue_221 : decode cX6_isTrue 221 = .ok (.iload_n 1, 1) := by decide +kernel
theorem dX6_isTrue_222 : decode cX6_isTrue 222 = .ok (.iaload, 1) := by decide +kernel
theorem dX6_isTrue_223 : decode cX6_isTrue 223 = .ok (.ishr, 1) := by decide +kernel
theorem dX6_isTrue_224 : decode cX6_isTrue 224 = .ok (.iconst 1, 1) := by decide +kernel
theorem dX6_isTrue_225 : decode cX6_isTrue 225 = .ok (.iand, 1) := by decide +kernel
theorem dX6_isTrue_226 : decode cX6_isTrue 226 = .ok (.ifCond .eq 7, 3) := by decide +kernel
theorem dX6_isTrue_233 : decode cX6_isTrue 233 = .ok (.iconst 0, 1) := by decide +kernel
theorem dX6_isTrue_234 : decode cX6_isTrue 234 = .ok (.ireturn, 1) := by decide +kernel
theorem dX6_isTrue_229 : decode cX6_isTrue 229 = .ok (.iconst 1, 1) := by decide +kernel
theorem dX6_isTrue_230 : decode cX6_isTrue 230 = .ok (.goto 4, 3) := by decide +kernel
theorem dX6_isTrue_235 : decode cX6_isTrue 235 = .ok (.aload_n 0, 1) := by decide +kernel
theorem dX6_isTrue_236 : decode cX6_isTrue 236 = .ok (.aload_n 3, 1) := by decide +kernel
theorem dX6_isTrue_237 : decode cX6_isTrue 237 = .ok (.iload_n 2, 1) := by decide +kernel
theorem dX6_isTrue_238 : decode cX6_isTrue 238 = .ok (.invokevirtual 144, 3) := by decide +kernel
theorem t1325 : Cond.methodLink RX6 144 yX9_whiteOf ∈ GW := gw_mem 1439 (by decide +kernel) (by decide +kernel)
theorem cw_X6_144 {R : Room} {s : State} {args : Array Value} {rm : Room} {mc ms : Nat} (hts : ∀ w ∈ GW, w.before args s = true) (hrc : rm.cells = mc) (hrs : rm.slots = ms) (hR : rm.frames + 1 ≤ R.frames ∧ 8 + (2 + 11) + rm.locals ≤ R.locals) : CallW R s args RX6 RX9 144 yX9_whiteOf cX9_whiteOf 2 (some .int) (wl yX9_whiteOf cX9_whiteOf 2 (some .int)) rm mc ms 1 := cwV 1 hts (gi_V t1325 t702 t703 t15 t704) rfl hrc hrs (by decide +kernel) hR
theorem dX6_isTrue_241 : decode cX6_isTrue 241 = .ok (.iload_n 1, 1) := by decide +kernel
theorem dX6_isTrue_242 : decode cX6_isTrue 242 = .ok (.invokevirtual 147, 3) := by decide +kernel
theorem dX6_isTrue_245 : decode cX6_isTrue 245 = .ok (.ireturn, 1) := by decide +kernel
theorem dX6_isTrue_246 : decode cX6_isTrue 246 = .ok (.aload_n 0, 1) := by decide +kernel
theorem dX6_isTrue_247 : decode cX6_isTrue 247 = .ok (.aload_n 3, 1) := by decide +kernel
theorem dX6_isTrue_248 : decode cX6_isTrue 248 = .ok (.iload_n 2, 1) := by decide +kernel
theorem dX6_isTrue_249 : decode cX6_isTrue 249 = .ok (.invokevirtual 151, 3) := by decide +kernel
theorem t1330 : Cond.methodLink RX6 151 yX9_darkOf ∈ GW := gw_mem 1444 (by decide +kernel) (by decide +kernel)
theorem cw_X6_151 {R : Room} {s : State} {args : Array Value} {rm : Room} {mc ms : Nat} (hts : ∀ w ∈ GW, w.before args s = true) (hrc : rm.cells = mc) (hrs : rm.slots = ms) (hR : rm.frames + 1 ≤ R.frames ∧ 8 + (2 + 11) + rm.locals ≤ R.locals) : CallW R s args RX6 RX9 151 yX9_darkOf cX9_darkOf 2 (some .int) (wl yX9_darkOf cX9_darkOf 2 (some .int)) rm mc ms 1 := cwV 1 hts (gi_V t1330 t710 t711 t15 t712) rfl hrc hrs (by decide +kernel) hR
theorem dX6_isTrue_252 : decode cX6_isTrue 252 = .ok (.iload_n 1, 1) := by decide +kernel
theorem dX6_isTrue_253 : decode cX6_isTrue 253 = .ok (.invokevirtual 147, 3) := by decide +kernel
theorem dX6_isTrue_256 : decode cX6_isTrue 256 = .ok (.ireturn, 1) := by decide +kernel
theorem dX6_isTrue_257 : decode cX6_isTrue 257 = .ok (.aload_n 0, 1) := by decide +kernel
theorem dX6_isTrue_258 : decode cX6_isTrue 258 = .ok (.aload_n 3, 1) := by decide +kernel
theorem dX6_isTrue_259 : decode cX6_isTrue 259 = .ok (.getfield 126, 3) := by decide +kernel
theorem dX6_isTrue_262 : decode cX6_isTrue 262 = .ok (.getfield 154, 3) := by decide +kernel
theorem t232 : Cond.fieldLink RX6 154 "LikenessPound$Life" "age" "[I" ∈ GW := gw_mem 346 (by decide +kernel) (by decide +kernel)
theorem gf_X6_154 {p : Program} {l : Launch} {e : Env} {R : Room} {s : State} {m : MethodId} {args : Array Value} {below : List Frame} {meth : Method} {c : Code} {H : Heap} {locs : List Loc} {cells slots : Nat} {Q : State → Prop} {cc : ByteArray} {pc : Nat} {ls : Array Slot} {rest : List Value} {D : va_G} {a : Nat} {tys : List (ClassId × FieldType)} {ws : va_W} (hx : p.tables.exec = Jvm.exec) (hb : c.code = cc) (hts : ∀ w ∈ GW, w.before args s = true) (hown : s.vm.findClass RX6 = some m.cls) (hK : va_K D vwCl tys s) (hP : va_P D vwCl ws H) (q0 : Nat) {fs : List Value} (he : ws[q0]? = some (a, .inr (5, fs))) {v : Value} (hv : fs[0]? = some v) (hdg : decode cc pc = .ok (.getfield 154, 3)) (kk : W p l e R s m args below meth c H locs cells slots Q (F0 m (pc + 3) ls (v :: rest))) : W p l e R s m args below meth c H locs cells slots Q (F0 m pc ls (.ref a :: rest)) := va_get (C := RX4) (T := TX4) (N := 11) (ci := 5) hx hb hts inX4 hown hK hP q0 he rfl 0 (by decide) (hts _ t232) (fun _ h => h) hv hdg kk
theorem dX6_isTrue_265 : decode cX6_isTrue 265 = .ok (.iload_n 2, 1) := by decide +kernel
theorem dX6_isTrue_266 : decode cX6_isTrue 266 = .ok (.iaload, 1) := by decide +kernel
theorem dX6_isTrue_267 : decode cX6_isTrue 267 = .ok (.iload_n 1, 1) := by decide +kernel
theorem dX6_isTrue_268 : decode cX6_isTrue 268 = .ok (.invokevirtual 147, 3) := by decide +kernel
theorem dX6_isTrue_271 : decode cX6_isTrue 271 = .ok (.ireturn, 1) := by decide +kernel
set_option maxHeartbeats 4000000 in
set_option maxRecDepth 100000 in
theorem g_isTrue (l : Launch) (dC : Nat → ClassId) (dI : Nat → Nat → Nat) (cy : Nat → ClassId) (vz : Nat) (vz1 : Nat) (vz2 : Nat) (vz3 : Nat) (vz4 : Nat) (vzs : Int32) (vzo : Int32) (vzf1 : Nat → Int32) (vzf2 : Nat → Int32) (vzf3 : Nat → Int32) (vw : Nat) (vwc : Nat) (vwl : Nat) (vws : Nat) (vwc1 : Nat) (vwc2 : Nat) (vwc3 : Nat) (vwc4 : Nat) (vwc5 : Nat) (vwcm : Int32) (vwcd : Int32) (vwcr : Int32) (vwcw : Int32) (vwcf3 : Nat → Int32) (vwcf4 : Nat → Int32) (vwcf5 : Nat → Int32) (vwl1 : Nat) (vwl2 : Nat) (vwl3 : Nat) (vwl4 : Nat) (vwl5 : Nat) (vwl6 : Nat) (vwl7 : Nat) (vwl8 : Nat) (vwl9 : Nat) (vwl10 : Nat) (vwly : Int32) (vwlf2 : Nat → Int32) (vwlf3 : Nat → Int32) (vwlf4 : Nat → Int32) (vwlf5 : Nat → Int32) (vwlf6 : Nat → Int32) (vwlf1 : Nat → Int32) (vi : Int32) (vm : Int32) (r_vzs : 0 ≤ (vzs : Int32).toInt ∧ (vzs : Int32).toInt ≤ 40) (r_vwcm : 0 ≤ (vwcm : Int32).toInt ∧ (vwcm : Int32).toInt ≤ 7) (r_vwcd : 0 ≤ (vwcd : Int32).toInt ∧ (vwcd : Int32).toInt ≤ 10) (r_vi : 0 ≤ (vi : Int32).toInt ∧ (vi : Int32).toInt ≤ 39) (r_vm : 0 ≤ (vm : Int32).toInt ∧ (vm : Int32).toInt ≤ 6) (p_vwcf3 : Rg vwcf3 10 0 40) (p_vwlf2 : Rg vwlf2 70 0 9) (p_vwlf5 : Rg vwlf5 7 (-1) 9) (hs : SOK vzf1 vzf3) : Met l yX6_isTrue (wl yX6_isTrue cX6_isTrue 4 (some .boolean)) ({ frames := 4, cells := 0, slots := 0, locals := 256 }) (Pr (dC, dI) vwCl cy [(vz, .inr (7, [.ref vz1, .ref vz2, .ref vz3, .ref vz4, .int vzs, .int vzo])), (vz1, .inl (cy 0, 40, .inl vzf1)), (vz2, .inl (cy 0, 40, .inl vzf2)), (vz3, .inl (cy 0, 40, .inl vzf3)), (vw, .inr (10, [.ref vwc, .ref vwl, .ref vws])), (vwc, .inr (2, [.ref vwc1, .ref vwc2, .ref vwc3, .ref vwc4, .ref vwc5, .int vwcm, .int vwcd, .int vwcr, .int vwcw])), (vwc3, .inl (cy 0, 10, .inl vwcf3)), (vwc4, .inl (cy 2, 10, .inl vwcf4)), (vwc5, .inl (cy 0, 7, .inl vwcf5)), (vwl, .inr (5, [.ref vwl1, .ref vwl2, .ref vwl3, .ref vwl4, .ref vwl5, .ref vwl6, .ref vwl7, .ref vwl8, .ref vwl9, .ref vwl10, .int vwly])), (vwl2, .inl (cy 0, 70, .inl vwlf2)), (vwl3, .inl (cy 0, 49, .inl vwlf3)), (vwl4, .inl (cy 0, 7, .inl vwlf4)), (vwl5, .inl (cy 0, 7, .inl vwlf5)), (vwl6, .inl (cy 0, 7, .inl vwlf6)), (vwl1, .inl (cy 0, 7, .inl vwlf1))] [.ref vz, .int vi, .int vm, .ref vw]) (Ri (fun r => ((r = 0) ∨ (r = 1)))) 0 0 (fun _ => False) := by
  refine mr RX6 rfl (by decide +kernel) (Nat.le_of_ble_eq_true rfl) ?_
  intro p e s m below meth c hx hb hr hlocks av9 hav hts hown hml hK hP hS Q9 hQ9 ls hl
  have hl : lv_has ls 4 [(0, .ref vz), (1, .int vi), (2, .int vm), (3, .ref vw)] := hl
  refine lv_aload_n hx hb dX6_isTrue_0 rfl (lv_at hl 0 rfl) ?_
  refine gf_X6_11 hx hb hts hown hK hP 0 rfl rfl dX6_isTrue_1 ?_
  refine lv_iload_n hx hb dX6_isTrue_4 rfl (lv_at hl 1 rfl) ?_
  have hin_1 : vp_in vi 40 := vp_in_iff.mpr ⟨by omega, by omega⟩
  refine va_iald hx hb hK hP 1 0 rfl rfl hin_1 dX6_isTrue_5 ?_
  refine lv_topi (fun z_2 ez_2 => ?_)
  have k_8 : (8 : Int32).toInt = 8 := by decide
  have k_9 : (9 : Int32).toInt = 9 := by decide
  have k_10 : (10 : Int32).toInt = 10 := by decide
  have k_11 : (11 : Int32).toInt = 11 := by decide
  have k_12 : (12 : Int32).toInt = 12 := by decide
  have k_13 : (13 : Int32).toInt = 13 := by decide
  have k_14 : (14 : Int32).toInt = 14 := by decide
  have k_15 : (15 : Int32).toInt = 15 := by decide
  have k_16 : (16 : Int32).toInt = 16 := by decide
  have k_17 : (17 : Int32).toInt = 17 := by decide
  have k_18 : (18 : Int32).toInt = 18 := by decide
  have k_19 : (19 : Int32).toInt = 19 := by decide
  have k_20 : (20 : Int32).toInt = 20 := by decide
  have k_21 : (21 : Int32).toInt = 21 := by decide
  have k_22 : (22 : Int32).toInt = 22 := by decide
  have k_23 : (23 : Int32).toInt = 23 := by decide
  have k_24 : (24 : Int32).toInt = 24 := by decide
  have k_25 : (25 : Int32).toInt = 25 := by decide
  have k_26 : (26 : Int32).toInt = 26 := by decide
  have k_27 : (27 : Int32).toInt = 27 := by decide
  by_cases sw_3_8 : z_2.toInt = 8
  · refine as_i 8 (i_eq.mpr (sw_3_8.trans k_8.symm)) ?_
    refine lv_tableIn (off := 109) (tgt := 115) hx hb dX6_isTrue_6 (by decide) (by decide) (by decide) (by decide) ?_
    refine lv_aload_n hx hb dX6_isTrue_115 rfl (lv_at hl 3 rfl) ?_
    refine lv_iload_n hx hb dX6_isTrue_116 rfl (lv_at hl 2 rfl) ?_
    refine jr_i (rVr (As := [.int vm]) (rest := []) (ci := 10) ⟨hx, hb, hml, hown, hts⟩ (g_howIs l dC dI cy vw vwc vwl vws vwc1 vwc2 vwc3 vwc4 vwc5 vwcm vwcd vwcr vwcw vwcf3 vwcf4 vwl1 vwl2 vwl3 vwl4 vwl5 vwl6 vwl7 vwl8 vwl9 vwl10 vwly vwlf2 vwlf3 vwlf4 vwlf5 vm r_vwcm r_vwcd r_vm p_vwcf3 p_vwlf2 p_vwlf5) (cw_X6_122 hts rfl rfl ⟨Nat.le_of_ble_eq_true rfl, Nat.le_of_ble_eq_true rfl⟩) hP hK [4, 5, 6, 7, 9, 10, 11, 12, 13] rfl rfl rfl rfl hl.1 rfl (Nat.le_of_ble_eq_true rfl) dX6_isTrue_117 ⟨Nat.le_of_ble_eq_true rfl, Nat.le_of_ble_eq_true rfl⟩) hP hS (fun r_4 H locs hp_5 hP hS => ?_)
    have hp_5 : (0 ≤ (r_4 : Int32).toInt ∧ (r_4 : Int32).toInt ≤ 2) := hp_5
    have q_6 := hp_5
    have k_0 : (0 : Int32).toInt = 0 := by decide
    refine lv_if_ne (tgt := 127) hx hb dX6_isTrue_120 (by decide) (fun c_7 => ?_) (fun c_7 => ?_)
    · skip
      have c_7 : ¬ (r_4.toInt = (0 : Int32).toInt) := fun h9 => c_7 (i_eq.mpr h9)
      refine lv_iconst (v := 0) hx hb dX6_isTrue_127 (by decide) ?_
      rw [hQ9]
      exact rr_z hx hb hr hlocks (Or.inl rfl) (show ((0 : Int32) = 0) ∨ ((0 : Int32) = 1) from (Or.inl rfl)) hS dX6_isTrue_128
    · skip
      have c_7 : r_4.toInt = (0 : Int32).toInt := i_eq.mp c_7
      refine lv_iconst (v := 1) hx hb dX6_isTrue_123 (by decide) ?_
      refine lv_goto (tgt := 128) hx hb dX6_isTrue_124 (by decide) ?_
      have k_1 : (1 : Int32).toInt = 1 := by decide
      rw [hQ9]
      exact rr_z hx hb hr hlocks (Or.inr rfl) (show ((1 : Int32) = 0) ∨ ((1 : Int32) = 1) from (Or.inr (rfl))) hS dX6_isTrue_128
  by_cases sw_3_9 : z_2.toInt = 9
  · refine as_i 9 (i_eq.mpr (sw_3_9.trans k_9.symm)) ?_
    refine lv_tableIn (off := 266) (tgt := 272) hx hb dX6_isTrue_6 (by decide) (by decide) (by decide) (by decide) ?_
    refine lv_aload_n hx hb dX6_isTrue_272 rfl (lv_at hl 0 rfl) ?_
    refine lv_iload_n hx hb dX6_isTrue_273 rfl (lv_at hl 2 rfl) ?_
    refine lv_iload_n hx hb dX6_isTrue_274 rfl (lv_at hl 1 rfl) ?_
    refine jr_i (rVr (As := [.int vm, .int vi]) (rest := []) (ci := 7) ⟨hx, hb, hml, hown, hts⟩ (g_se_holds l dC dI cy vz vz1 vz2 vz3 vz4 vzs vzo vzf2 vzf3 vm vi r_vi) (cw_X6_147 hts rfl rfl ⟨Nat.le_of_ble_eq_true rfl, Nat.le_of_ble_eq_true rfl⟩) hP hK [0, 2, 3] rfl rfl rfl rfl hl.1 rfl (Nat.le_of_ble_eq_true rfl) dX6_isTrue_275 ⟨Nat.le_of_ble_eq_true rfl, Nat.le_of_ble_eq_true rfl⟩) hP hS (fun r_8 H locs hp_9 hP hS => ?_)
    have hp_9 : ((r_8 = 0) ∨ (r_8 = 1)) := hp_9
    have q_10 := hp_9
    rcases q_10 with aq_10 | aq_10
    · skip
      refine as_i 0 aq_10 ?_
      have k_0 : (0 : Int32).toInt = 0 := by decide
      rw [hQ9]
      exact rr_z hx hb hr hlocks (Or.inl rfl) (show ((0 : Int32) = 0) ∨ ((0 : Int32) = 1) from (Or.inl rfl)) hS dX6_isTrue_278
    · skip
      refine as_i 1 aq_10 ?_
      have k_1 : (1 : Int32).toInt = 1 := by decide
      rw [hQ9]
      exact rr_z hx hb hr hlocks (Or.inr rfl) (show ((1 : Int32) = 0) ∨ ((1 : Int32) = 1) from (Or.inr (rfl))) hS dX6_isTrue_278
  by_cases sw_3_10 : z_2.toInt = 10
  · refine as_i 10 (i_eq.mpr (sw_3_10.trans k_10.symm)) ?_
    refine lv_tableIn (off := 266) (tgt := 272) hx hb dX6_isTrue_6 (by decide) (by decide) (by decide) (by decide) ?_
    refine lv_aload_n hx hb dX6_isTrue_272 rfl (lv_at hl 0 rfl) ?_
    refine lv_iload_n hx hb dX6_isTrue_273 rfl (lv_at hl 2 rfl) ?_
    refine lv_iload_n hx hb dX6_isTrue_274 rfl (lv_at hl 1 rfl) ?_
    refine jr_i (rVr (As := [.int vm, .int vi]) (rest := []) (ci := 7) ⟨hx, hb, hml, hown, hts⟩ (g_se_holds l dC dI cy vz vz1 vz2 vz3 vz4 vzs vzo vzf2 vzf3 vm vi r_vi) (cw_X6_147 hts rfl rfl ⟨Nat.le_of_ble_eq_true rfl, Nat.le_of_ble_eq_true rfl⟩) hP hK [0, 2, 3] rfl rfl rfl rfl hl.1 rfl (Nat.le_of_ble_eq_true rfl) dX6_isTrue_275 ⟨Nat.le_of_ble_eq_true rfl, Nat.le_of_ble_eq_true rfl⟩) hP hS (fun r_11 H locs hp_12 hP hS => ?_)
    have hp_12 : ((r_11 = 0) ∨ (r_11 = 1)) := hp_12
    have q_13 := hp_12
    rcases q_13 with aq_13 | aq_13
    · skip
      refine as_i 0 aq_13 ?_
      have k_0 : (0 : Int32).toInt = 0 := by decide
      rw [hQ9]
      exact rr_z hx hb hr hlocks (Or.inl rfl) (show ((0 : Int32) = 0) ∨ ((0 : Int32) = 1) from (Or.inl rfl)) hS dX6_isTrue_278
    · skip
      refine as_i 1 aq_13 ?_
      have k_1 : (1 : Int32).toInt = 1 := by decide
      rw [hQ9]
      exact rr_z hx hb hr hlocks (Or.inr rfl) (show ((1 : Int32) = 0) ∨ ((1 : Int32) = 1) from (Or.inr (rfl))) hS dX6_isTrue_278
  by_cases sw_3_11 : z_2.toInt = 11
  · refine as_i 11 (i_eq.mpr (sw_3_11.trans k_11.symm)) ?_
    refine lv_tableIn (off := 266) (tgt := 272) hx hb dX6_isTrue_6 (by decide) (by decide) (by decide) (by decide) ?_
    refine lv_aload_n hx hb dX6_isTrue_272 rfl (lv_at hl 0 rfl) ?_
    refine lv_iload_n hx hb dX6_isTrue_273 rfl (lv_at hl 2 rfl) ?_
    refine lv_iload_n hx hb dX6_isTrue_274 rfl (lv_at hl 1 rfl) ?_
    refine jr_i (rVr (As := [.int vm, .int vi]) (rest := []) (ci := 7) ⟨hx, hb, hml, hown, hts⟩ (g_se_holds l dC dI cy vz vz1 vz2 vz3 vz4 vzs vzo vzf2 vzf3 vm vi r_vi) (cw_X6_147 hts rfl rfl ⟨Nat.le_of_ble_eq_true rfl, Nat.le_of_ble_eq_true rfl⟩) hP hK [0, 2, 3] rfl rfl rfl rfl hl.1 rfl (Nat.le_of_ble_eq_true rfl) dX6_isTrue_275 ⟨Nat.le_of_ble_eq_true rfl, Nat.le_of_ble_eq_true rfl⟩) hP hS (fun r_14 H locs hp_15 hP hS => ?_)
    have hp_15 : ((r_14 = 0) ∨ (r_14 = 1)) := hp_15
    have q_16 := hp_15
    rcases q_16 with aq_16 | aq_16
    · skip
      refine as_i 0 aq_16 ?_
      have k_0 : (0 : Int32).toInt = 0 := by decide
      rw [hQ9]
      exact rr_z hx hb hr hlocks (Or.inl rfl) (show ((0 : Int32) = 0) ∨ ((0 : Int32) = 1) from (Or.inl rfl)) hS dX6_isTrue_278
    · skip
      refine as_i 1 aq_16 ?_
      have k_1 : (1 : Int32).toInt = 1 := by decide
      rw [hQ9]
      exact rr_z hx hb hr hlocks (Or.inr rfl) (show ((1 : Int32) = 0) ∨ ((1 : Int32) = 1) from (Or.inr (rfl))) hS dX6_isTrue_278
  by_cases sw_3_12 : z_2.toInt = 12
  · refine as_i 12 (i_eq.mpr (sw_3_12.trans k_12.symm)) ?_
    refine lv_tableIn (off := 266) (tgt := 272) hx hb dX6_isTrue_6 (by decide) (by decide) (by decide) (by decide) ?_
    refine lv_aload_n hx hb dX6_isTrue_272 rfl (lv_at hl 0 rfl) ?_
    refine lv_iload_n hx hb dX6_isTrue_273 rfl (lv_at hl 2 rfl) ?_
    refine lv_iload_n hx hb dX6_isTrue_274 rfl (lv_at hl 1 rfl) ?_
    refine jr_i (rVr (As := [.int vm, .int vi]) (rest := []) (ci := 7) ⟨hx, hb, hml, hown, hts⟩ (g_se_holds l dC dI cy vz vz1 vz2 vz3 vz4 vzs vzo vzf2 vzf3 vm vi r_vi) (cw_X6_147 hts rfl rfl ⟨Nat.le_of_ble_eq_true rfl, Nat.le_of_ble_eq_true rfl⟩) hP hK [0, 2, 3] rfl rfl rfl rfl hl.1 rfl (Nat.le_of_ble_eq_true rfl) dX6_isTrue_275 ⟨Nat.le_of_ble_eq_true rfl, Nat.le_of_ble_eq_true rfl⟩) hP hS (fun r_17 H locs hp_18 hP hS => ?_)
    have hp_18 : ((r_17 = 0) ∨ (r_17 = 1)) := hp_18
    have q_19 := hp_18
    rcases q_19 with aq_19 | aq_19
    · skip
      refine as_i 0 aq_19 ?_
      have k_0 : (0 : Int32).toInt = 0 := by decide
      rw [hQ9]
      exact rr_z hx hb hr hlocks (Or.inl rfl) (show ((0 : Int32) = 0) ∨ ((0 : Int32) = 1) from (Or.inl rfl)) hS dX6_isTrue_278
    · skip
      refine as_i 1 aq_19 ?_
      have k_1 : (1 : Int32).toInt = 1 := by decide
      rw [hQ9]
      exact rr_z hx hb hr hlocks (Or.inr rfl) (show ((1 : Int32) = 0) ∨ ((1 : Int32) = 1) from (Or.inr (rfl))) hS dX6_isTrue_278
  by_cases sw_3_13 : z_2.toInt = 13
  · refine as_i 13 (i_eq.mpr (sw_3_13.trans k_13.symm)) ?_
    refine lv_tableIn (off := 266) (tgt := 272) hx hb dX6_isTrue_6 (by decide) (by decide) (by decide) (by decide) ?_
    refine lv_aload_n hx hb dX6_isTrue_272 rfl (lv_at hl 0 rfl) ?_
    refine lv_iload_n hx hb dX6_isTrue_273 rfl (lv_at hl 2 rfl) ?_
    refine lv_iload_n hx hb dX6_isTrue_274 rfl (lv_at hl 1 rfl) ?_
    refine jr_i (rVr (As := [.int vm, .int vi]) (rest := []) (ci := 7) ⟨hx, hb, hml, hown, hts⟩ (g_se_holds l dC dI cy vz vz1 vz2 vz3 vz4 vzs vzo vzf2 vzf3 vm vi r_vi) (cw_X6_147 hts rfl rfl ⟨Nat.le_of_ble_eq_true rfl, Nat.le_of_ble_eq_true rfl⟩) hP hK [0, 2, 3] rfl rfl rfl rfl hl.1 rfl (Nat.le_of_ble_eq_true rfl) dX6_isTrue_275 ⟨Nat.le_of_ble_eq_true rfl, Nat.le_of_ble_eq_true rfl⟩) hP hS (fun r_20 H locs hp_21 hP hS => ?_)
    have hp_21 : ((r_20 = 0) ∨ (r_20 = 1)) := hp_21
    have q_22 := hp_21
    rcases q_22 with aq_22 | aq_22
    · skip
      refine as_i 0 aq_22 ?_
      have k_0 : (0 : Int32).toInt = 0 := by decide
      rw [hQ9]
      exact rr_z hx hb hr hlocks (Or.inl rfl) (show ((0 : Int32) = 0) ∨ ((0 : Int32) = 1) from (Or.inl rfl)) hS dX6_isTrue_278
    · skip
      refine as_i 1 aq_22 ?_
      have k_1 : (1 : Int32).toInt = 1 := by decide
      rw [hQ9]
      exact rr_z hx hb hr hlocks (Or.inr rfl) (show ((1 : Int32) = 0) ∨ ((1 : Int32) = 1) from (Or.inr (rfl))) hS dX6_isTrue_278
  by_cases sw_3_14 : z_2.toInt = 14
  · refine as_i 14 (i_eq.mpr (sw_3_14.trans k_14.symm)) ?_
    refine lv_tableIn (off := 266) (tgt := 272) hx hb dX6_isTrue_6 (by decide) (by decide) (by decide) (by decide) ?_
    refine lv_aload_n hx hb dX6_isTrue_272 rfl (lv_at hl 0 rfl) ?_
    refine lv_iload_n hx hb dX6_isTrue_273 rfl (lv_at hl 2 rfl) ?_
    refine lv_iload_n hx hb dX6_isTrue_274 rfl (lv_at hl 1 rfl) ?_
    refine jr_i (rVr (As := [.int vm, .int vi]) (rest := []) (ci := 7) ⟨hx, hb, hml, hown, hts⟩ (g_se_holds l dC dI cy vz vz1 vz2 vz3 vz4 vzs vzo vzf2 vzf3 vm vi r_vi) (cw_X6_147 hts rfl rfl ⟨Nat.le_of_ble_eq_true rfl, Nat.le_of_ble_eq_true rfl⟩) hP hK [0, 2, 3] rfl rfl rfl rfl hl.1 rfl (Nat.le_of_ble_eq_true rfl) dX6_isTrue_275 ⟨Nat.le_of_ble_eq_true rfl, Nat.le_of_ble_eq_true rfl⟩) hP hS (fun r_23 H locs hp_24 hP hS => ?_)
    have hp_24 : ((r_23 = 0) ∨ (r_23 = 1)) := hp_24
    have q_25 := hp_24
    rcases q_25 with aq_25 | aq_25
    · skip
      refine as_i 0 aq_25 ?_
      have k_0 : (0 : Int32).toInt = 0 := by decide
      rw [hQ9]
      exact rr_z hx hb hr hlocks (Or.inl rfl) (show ((0 : Int32) = 0) ∨ ((0 : Int32) = 1) from (Or.inl rfl)) hS dX6_isTrue_278
    · skip
      refine as_i 1 aq_25 ?_
      have k_1 : (1 : Int32).toInt = 1 := by decide
      rw [hQ9]
      exact rr_z hx hb hr hlocks (Or.inr rfl) (show ((1 : Int32) = 0) ∨ ((1 : Int32) = 1) from (Or.inr (rfl))) hS dX6_isTrue_278
  by_cases sw_3_15 : z_2.toInt = 15
  · refine as_i 15 (i_eq.mpr (sw_3_15.trans k_15.symm)) ?_
    refine lv_tableIn (off := 266) (tgt := 272) hx hb dX6_isTrue_6 (by decide) (by decide) (by decide) (by decide) ?_
    refine lv_aload_n hx hb dX6_isTrue_272 rfl (lv_at hl 0 rfl) ?_
    refine lv_iload_n hx hb dX6_isTrue_273 rfl (lv_at hl 2 rfl) ?_
    refine lv_iload_n hx hb dX6_isTrue_274 rfl (lv_at hl 1 rfl) ?_
    refine jr_i (rVr (As := [.int vm, .int vi]) (rest := []) (ci := 7) ⟨hx, hb, hml, hown, hts⟩ (g_se_holds l dC dI cy vz vz1 vz2 vz3 vz4 vzs vzo vzf2 vzf3 vm vi r_vi) (cw_X6_147 hts rfl rfl ⟨Nat.le_of_ble_eq_true rfl, Nat.le_of_ble_eq_true rfl⟩) hP hK [0, 2, 3] rfl rfl rfl rfl hl.1 rfl (Nat.le_of_ble_eq_true rfl) dX6_isTrue_275 ⟨Nat.le_of_ble_eq_true rfl, Nat.le_of_ble_eq_true rfl⟩) hP hS (fun r_26 H locs hp_27 hP hS => ?_)
    have hp_27 : ((r_26 = 0) ∨ (r_26 = 1)) := hp_27
    have q_28 := hp_27
    rcases q_28 with aq_28 | aq_28
    · skip
      refine as_i 0 aq_28 ?_
      have k_0 : (0 : Int32).toInt = 0 := by decide
      rw [hQ9]
      exact rr_z hx hb hr hlocks (Or.inl rfl) (show ((0 : Int32) = 0) ∨ ((0 : Int32) = 1) from (Or.inl rfl)) hS dX6_isTrue_278
    · skip
      refine as_i 1 aq_28 ?_
      have k_1 : (1 : Int32).toInt = 1 := by decide
      rw [hQ9]
      exact rr_z hx hb hr hlocks (Or.inr rfl) (show ((1 : Int32) = 0) ∨ ((1 : Int32) = 1) from (Or.inr (rfl))) hS dX6_isTrue_278
  by_cases sw_3_16 : z_2.toInt = 16
  · refine as_i 16 (i_eq.mpr (sw_3_16.trans k_16.symm)) ?_
    refine lv_tableIn (off := 266) (tgt := 272) hx hb dX6_isTrue_6 (by decide) (by decide) (by decide) (by decide) ?_
    refine lv_aload_n hx hb dX6_isTrue_272 rfl (lv_at hl 0 rfl) ?_
    refine lv_iload_n hx hb dX6_isTrue_273 rfl (lv_at hl 2 rfl) ?_
    refine lv_iload_n hx hb dX6_isTrue_274 rfl (lv_at hl 1 rfl) ?_
    refine jr_i (rVr (As := [.int vm, .int vi]) (rest := []) (ci := 7) ⟨hx, hb, hml, hown, hts⟩ (g_se_holds l dC dI cy vz vz1 vz2 vz3 vz4 vzs vzo vzf2 vzf3 vm vi r_vi) (cw_X6_147 hts rfl rfl ⟨Nat.le_of_ble_eq_true rfl, Nat.le_of_ble_eq_true rfl⟩) hP hK [0, 2, 3] rfl rfl rfl rfl hl.1 rfl (Nat.le_of_ble_eq_true rfl) dX6_isTrue_275 ⟨Nat.le_of_ble_eq_true rfl, Nat.le_of_ble_eq_true rfl⟩) hP hS (fun r_29 H locs hp_30 hP hS => ?_)
    have hp_30 : ((r_29 = 0) ∨ (r_29 = 1)) := hp_30
    have q_31 := hp_30
    rcases q_31 with aq_31 | aq_31
    · skip
      refine as_i 0 aq_31 ?_
      have k_0 : (0 : Int32).toInt = 0 := by decide
      rw [hQ9]
      exact rr_z hx hb hr hlocks (Or.inl rfl) (show ((0 : Int32) = 0) ∨ ((0 : Int32) = 1) from (Or.inl rfl)) hS dX6_isTrue_278
    · skip
      refine as_i 1 aq_31 ?_
      have k_1 : (1 : Int32).toInt = 1 := by decide
      rw [hQ9]
      exact rr_z hx hb hr hlocks (Or.inr rfl) (show ((1 : Int32) = 0) ∨ ((1 : Int32) = 1) from (Or.inr (rfl))) hS dX6_isTrue_278
  by_cases sw_3_17 : z_2.toInt = 17
  · refine as_i 17 (i_eq.mpr (sw_3_17.trans k_17.symm)) ?_
    refine lv_tableIn (off := 266) (tgt := 272) hx hb dX6_isTrue_6 (by decide) (by decide) (by decide) (by decide) ?_
    refine lv_aload_n hx hb dX6_isTrue_272 rfl (lv_at hl 0 rfl) ?_
    refine lv_iload_n hx hb dX6_isTrue_273 rfl (lv_at hl 2 rfl) ?_
    refine lv_iload_n hx hb dX6_isTrue_274 rfl (lv_at hl 1 rfl) ?_
    refine jr_i (rVr (As := [.int vm, .int vi]) (rest := []) (ci := 7) ⟨hx, hb, hml, hown, hts⟩ (g_se_holds l dC dI cy vz vz1 vz2 vz3 vz4 vzs vzo vzf2 vzf3 vm vi r_vi) (cw_X6_147 hts rfl rfl ⟨Nat.le_of_ble_eq_true rfl, Nat.le_of_ble_eq_true rfl⟩) hP hK [0, 2, 3] rfl rfl rfl rfl hl.1 rfl (Nat.le_of_ble_eq_true rfl) dX6_isTrue_275 ⟨Nat.le_of_ble_eq_true rfl, Nat.le_of_ble_eq_true rfl⟩) hP hS (fun r_32 H locs hp_33 hP hS => ?_)
    have hp_33 : ((r_32 = 0) ∨ (r_32 = 1)) := hp_33
    have q_34 := hp_33
    rcases q_34 with aq_34 | aq_34
    · skip
      refine as_i 0 aq_34 ?_
      have k_0 : (0 : Int32).toInt = 0 := by decide
      rw [hQ9]
      exact rr_z hx hb hr hlocks (Or.inl rfl) (show ((0 : Int32) = 0) ∨ ((0 : Int32) = 1) from (Or.inl rfl)) hS dX6_isTrue_278
    · skip
      refine as_i 1 aq_34 ?_
      have k_1 : (1 : Int32).toInt = 1 := by decide
      rw [hQ9]
      exact rr_z hx hb hr hlocks (Or.inr rfl) (show ((1 : Int32) = 0) ∨ ((1 : Int32) = 1) from (Or.inr (rfl))) hS dX6_isTrue_278
  by_cases sw_3_18 : z_2.toInt = 18
  · refine as_i 18 (i_eq.mpr (sw_3_18.trans k_18.symm)) ?_
    refine lv_tableIn (off := 266) (tgt := 272) hx hb dX6_isTrue_6 (by decide) (by decide) (by decide) (by decide) ?_
    refine lv_aload_n hx hb dX6_isTrue_272 rfl (lv_at hl 0 rfl) ?_
    refine lv_iload_n hx hb dX6_isTrue_273 rfl (lv_at hl 2 rfl) ?_
    refine lv_iload_n hx hb dX6_isTrue_274 rfl (lv_at hl 1 rfl) ?_
    refine jr_i (rVr (As := [.int vm, .int vi]) (rest := []) (ci := 7) ⟨hx, hb, hml, hown, hts⟩ (g_se_holds l dC dI cy vz vz1 vz2 vz3 vz4 vzs vzo vzf2 vzf3 vm vi r_vi) (cw_X6_147 hts rfl rfl ⟨Nat.le_of_ble_eq_true rfl, Nat.le_of_ble_eq_true rfl⟩) hP hK [0, 2, 3] rfl rfl rfl rfl hl.1 rfl (Nat.le_of_ble_eq_true rfl) dX6_isTrue_275 ⟨Nat.le_of_ble_eq_true rfl, Nat.le_of_ble_eq_true rfl⟩) hP hS (fun r_35 H locs hp_36 hP hS => ?_)
    have hp_36 : ((r_35 = 0) ∨ (r_35 = 1)) := hp_36
    have q_37 := hp_36
    rcases q_37 with aq_37 | aq_37
    · skip
      refine as_i 0 aq_37 ?_
      have k_0 : (0 : Int32).toInt = 0 := by decide
      rw [hQ9]
      exact rr_z hx hb hr hlocks (Or.inl rfl) (show ((0 : Int32) = 0) ∨ ((0 : Int32) = 1) from (Or.inl rfl)) hS dX6_isTrue_278
    · skip
      refine as_i 1 aq_37 ?_
      have k_1 : (1 : Int32).toInt = 1 := by decide
      rw [hQ9]
      exact rr_z hx hb hr hlocks (Or.inr rfl) (show ((1 : Int32) = 0) ∨ ((1 : Int32) = 1) from (Or.inr (rfl))) hS dX6_isTrue_278
  by_cases sw_3_19 : z_2.toInt = 19
  · refine as_i 19 (i_eq.mpr (sw_3_19.trans k_19.symm)) ?_
    refine lv_tableIn (off := 94) (tgt := 100) hx hb dX6_isTrue_6 (by decide) (by decide) (by decide) (by decide) ?_
    refine lv_aload_n hx hb dX6_isTrue_100 rfl (lv_at hl 3 rfl) ?_
    refine lv_iload_n hx hb dX6_isTrue_101 rfl (lv_at hl 2 rfl) ?_
    refine jr_i (rVr (As := [.int vm]) (rest := []) (ci := 10) ⟨hx, hb, hml, hown, hts⟩ (g_howIs l dC dI cy vw vwc vwl vws vwc1 vwc2 vwc3 vwc4 vwc5 vwcm vwcd vwcr vwcw vwcf3 vwcf4 vwl1 vwl2 vwl3 vwl4 vwl5 vwl6 vwl7 vwl8 vwl9 vwl10 vwly vwlf2 vwlf3 vwlf4 vwlf5 vm r_vwcm r_vwcd r_vm p_vwcf3 p_vwlf2 p_vwlf5) (cw_X6_122 hts rfl rfl ⟨Nat.le_of_ble_eq_true rfl, Nat.le_of_ble_eq_true rfl⟩) hP hK [4, 5, 6, 7, 9, 10, 11, 12, 13] rfl rfl rfl rfl hl.1 rfl (Nat.le_of_ble_eq_true rfl) dX6_isTrue_102 ⟨Nat.le_of_ble_eq_true rfl, Nat.le_of_ble_eq_true rfl⟩) hP hS (fun r_38 H locs hp_39 hP hS => ?_)
    have hp_39 : (0 ≤ (r_38 : Int32).toInt ∧ (r_38 : Int32).toInt ≤ 2) := hp_39
    have q_40 := hp_39
    refine lv_iconst (v := 1) hx hb dX6_isTrue_105 (by decide) ?_
    have k_1 : (1 : Int32).toInt = 1 := by decide
    refine lv_icmp_ne (tgt := 113) hx hb dX6_isTrue_106 (by decide) (fun c_41 => ?_) (fun c_41 => ?_)
    · skip
      have c_41 : ¬ (r_38.toInt = (1 : Int32).toInt) := fun h9 => c_41 (i_eq.mpr h9)
      refine lv_iconst (v := 0) hx hb dX6_isTrue_113 (by decide) ?_
      have k_0 : (0 : Int32).toInt = 0 := by decide
      rw [hQ9]
      exact rr_z hx hb hr hlocks (Or.inl rfl) (show ((0 : Int32) = 0) ∨ ((0 : Int32) = 1) from (Or.inl rfl)) hS dX6_isTrue_114
    · skip
      have c_41 : r_38.toInt = (1 : Int32).toInt := i_eq.mp c_41
      refine lv_iconst (v := 1) hx hb dX6_isTrue_109 (by decide) ?_
      refine lv_goto (tgt := 114) hx hb dX6_isTrue_110 (by decide) ?_
      rw [hQ9]
      exact rr_z hx hb hr hlocks (Or.inr rfl) (show ((1 : Int32) = 0) ∨ ((1 : Int32) = 1) from (Or.inr (rfl))) hS dX6_isTrue_114
  by_cases sw_3_20 : z_2.toInt = 20
  · refine as_i 20 (i_eq.mpr (sw_3_20.trans k_20.symm)) ?_
    refine lv_tableIn (off := 123) (tgt := 129) hx hb dX6_isTrue_6 (by decide) (by decide) (by decide) (by decide) ?_
    refine lv_aload_n hx hb dX6_isTrue_129 rfl (lv_at hl 3 rfl) ?_
    refine lv_iload_n hx hb dX6_isTrue_130 rfl (lv_at hl 2 rfl) ?_
    refine jr_i (rVr (As := [.int vm]) (rest := []) (ci := 10) ⟨hx, hb, hml, hown, hts⟩ (g_howIs l dC dI cy vw vwc vwl vws vwc1 vwc2 vwc3 vwc4 vwc5 vwcm vwcd vwcr vwcw vwcf3 vwcf4 vwl1 vwl2 vwl3 vwl4 vwl5 vwl6 vwl7 vwl8 vwl9 vwl10 vwly vwlf2 vwlf3 vwlf4 vwlf5 vm r_vwcm r_vwcd r_vm p_vwcf3 p_vwlf2 p_vwlf5) (cw_X6_122 hts rfl rfl ⟨Nat.le_of_ble_eq_true rfl, Nat.le_of_ble_eq_true rfl⟩) hP hK [4, 5, 6, 7, 9, 10, 11, 12, 13] rfl rfl rfl rfl hl.1 rfl (Nat.le_of_ble_eq_true rfl) dX6_isTrue_131 ⟨Nat.le_of_ble_eq_true rfl, Nat.le_of_ble_eq_true rfl⟩) hP hS (fun r_42 H locs hp_43 hP hS => ?_)
    have hp_43 : (0 ≤ (r_42 : Int32).toInt ∧ (r_42 : Int32).toInt ≤ 2) := hp_43
    have q_44 := hp_43
    refine lv_iconst (v := 2) hx hb dX6_isTrue_134 (by decide) ?_
    have k_2 : (2 : Int32).toInt = 2 := by decide
    refine lv_icmp_ne (tgt := 142) hx hb dX6_isTrue_135 (by decide) (fun c_45 => ?_) (fun c_45 => ?_)
    · skip
      have c_45 : ¬ (r_42.toInt = (2 : Int32).toInt) := fun h9 => c_45 (i_eq.mpr h9)
      refine lv_iconst (v := 0) hx hb dX6_isTrue_142 (by decide) ?_
      have k_0 : (0 : Int32).toInt = 0 := by decide
      rw [hQ9]
      exact rr_z hx hb hr hlocks (Or.inl rfl) (show ((0 : Int32) = 0) ∨ ((0 : Int32) = 1) from (Or.inl rfl)) hS dX6_isTrue_143
    · skip
      have c_45 : r_42.toInt = (2 : Int32).toInt := i_eq.mp c_45
      refine lv_iconst (v := 1) hx hb dX6_isTrue_138 (by decide) ?_
      refine lv_goto (tgt := 143) hx hb dX6_isTrue_139 (by decide) ?_
      have k_1 : (1 : Int32).toInt = 1 := by decide
      rw [hQ9]
      exact rr_z hx hb hr hlocks (Or.inr rfl) (show ((1 : Int32) = 0) ∨ ((1 : Int32) = 1) from (Or.inr (rfl))) hS dX6_isTrue_143
  by_cases sw_3_21 : z_2.toInt = 21
  · refine as_i 21 (i_eq.mpr (sw_3_21.trans k_21.symm)) ?_
    refine lv_tableIn (off := 138) (tgt := 144) hx hb dX6_isTrue_6 (by decide) (by decide) (by decide) (by decide) ?_
    refine lv_aload_n hx hb dX6_isTrue_144 rfl (lv_at hl 3 rfl) ?_
    refine gf_X6_126 hx hb hts hown hK hP 4 rfl rfl dX6_isTrue_145 ?_
    refine gf_X6_130 hx hb hts hown hK hP 9 rfl rfl dX6_isTrue_148 ?_
    refine lv_iload_n hx hb dX6_isTrue_151 rfl (lv_at hl 2 rfl) ?_
    have hin_46 : vp_in vm 7 := vp_in_iff.mpr ⟨by omega, by omega⟩
    refine va_iald hx hb hK hP 14 0 rfl rfl hin_46 dX6_isTrue_152 ?_
    refine lv_topi (fun z_47 ez_47 => ?_)
    have k_0 : (0 : Int32).toInt = 0 := by decide
    refine lv_if_le (tgt := 160) hx hb dX6_isTrue_153 (by decide) (fun c_48 => ?_) (fun c_48 => ?_)
    · skip
      have c_48 : z_47.toInt ≤ (0 : Int32).toInt := i_le.mp c_48
      refine lv_iconst (v := 0) hx hb dX6_isTrue_160 (by decide) ?_
      rw [hQ9]
      exact rr_z hx hb hr hlocks (Or.inl rfl) (show ((0 : Int32) = 0) ∨ ((0 : Int32) = 1) from (Or.inl rfl)) hS dX6_isTrue_161
    · skip
      have c_48 : ¬ (z_47.toInt ≤ (0 : Int32).toInt) := fun h9 => c_48 (i_le.mpr h9)
      refine lv_iconst (v := 1) hx hb dX6_isTrue_156 (by decide) ?_
      refine lv_goto (tgt := 161) hx hb dX6_isTrue_157 (by decide) ?_
      have k_1 : (1 : Int32).toInt = 1 := by decide
      rw [hQ9]
      exact rr_z hx hb hr hlocks (Or.inr rfl) (show ((1 : Int32) = 0) ∨ ((1 : Int32) = 1) from (Or.inr (rfl))) hS dX6_isTrue_161
  by_cases sw_3_22 : z_2.toInt = 22
  · refine as_i 22 (i_eq.mpr (sw_3_22.trans k_22.symm)) ?_
    refine lv_tableIn (off := 156) (tgt := 162) hx hb dX6_isTrue_6 (by decide) (by decide) (by decide) (by decide) ?_
    refine lv_aload_n hx hb dX6_isTrue_162 rfl (lv_at hl 3 rfl) ?_
    refine gf_X6_126 hx hb hts hown hK hP 4 rfl rfl dX6_isTrue_163 ?_
    refine gf_X6_135 hx hb hts hown hK hP 9 rfl rfl dX6_isTrue_166 ?_
    refine lv_iload_n hx hb dX6_isTrue_169 rfl (lv_at hl 2 rfl) ?_
    have hin_49 : vp_in vm 7 := vp_in_iff.mpr ⟨by omega, by omega⟩
    refine va_iald hx hb hK hP 12 0 rfl rfl hin_49 dX6_isTrue_170 ?_
    refine lv_topi (fun z_50 ez_50 => ?_)
    refine lv_iconst (v := (-1)) hx hb dX6_isTrue_171 (by decide) ?_
    have k_m1 : ((-1) : Int32).toInt = (-1) := by decide
    refine lv_icmp_eq (tgt := 179) hx hb dX6_isTrue_172 (by decide) (fun c_51 => ?_) (fun c_51 => ?_)
    · skip
      have c_51 : z_50.toInt = ((-1) : Int32).toInt := i_eq.mp c_51
      refine lv_iconst (v := 0) hx hb dX6_isTrue_179 (by decide) ?_
      have k_0 : (0 : Int32).toInt = 0 := by decide
      rw [hQ9]
      exact rr_z hx hb hr hlocks (Or.inl rfl) (show ((0 : Int32) = 0) ∨ ((0 : Int32) = 1) from (Or.inl rfl)) hS dX6_isTrue_180
    · skip
      have c_51 : ¬ (z_50.toInt = ((-1) : Int32).toInt) := fun h9 => c_51 (i_eq.mpr h9)
      refine lv_iconst (v := 1) hx hb dX6_isTrue_175 (by decide) ?_
      refine lv_goto (tgt := 180) hx hb dX6_isTrue_176 (by decide) ?_
      have k_1 : (1 : Int32).toInt = 1 := by decide
      rw [hQ9]
      exact rr_z hx hb hr hlocks (Or.inr rfl) (show ((1 : Int32) = 0) ∨ ((1 : Int32) = 1) from (Or.inr (rfl))) hS dX6_isTrue_180
  by_cases sw_3_23 : z_2.toInt = 23
  · refine as_i 23 (i_eq.mpr (sw_3_23.trans k_23.symm)) ?_
    refine lv_tableIn (off := 175) (tgt := 181) hx hb dX6_isTrue_6 (by decide) (by decide) (by decide) (by decide) ?_
    refine lv_aload_n hx hb dX6_isTrue_181 rfl (lv_at hl 3 rfl) ?_
    refine gf_X6_126 hx hb hts hown hK hP 4 rfl rfl dX6_isTrue_182 ?_
    refine gf_X6_138 hx hb hts hown hK hP 9 rfl rfl dX6_isTrue_185 ?_
    refine lv_iload_n hx hb dX6_isTrue_188 rfl (lv_at hl 2 rfl) ?_
    refine lv_bipush (v := 10) hx hb dX6_isTrue_189 (by decide) ?_
    refine lv_imul hx hb dX6_isTrue_191 ?_
    refine lv_topi (fun z_52 ez_52 => ?_)
    have bz_52 : z_52.toInt = vm.toInt * 10 := i_mulc k_10 ez_52 (by omega) (by omega)
    refine lv_aload_n hx hb dX6_isTrue_192 rfl (lv_at hl 0 rfl) ?_
    refine gf_X6_18 hx hb hts hown hK hP 0 rfl rfl dX6_isTrue_193 ?_
    refine lv_iload_n hx hb dX6_isTrue_196 rfl (lv_at hl 1 rfl) ?_
    have hin_53 : vp_in vi 40 := vp_in_iff.mpr ⟨by omega, by omega⟩
    refine va_iald hx hb hK hP 3 0 rfl rfl hin_53 dX6_isTrue_197 ?_
    refine lv_topi (fun z_54 ez_54 => ?_)
    have tz_54 := SOK.at hs hin_1 ez_2 (by omega) hin_53 rfl ez_54
    refine lv_iadd hx hb dX6_isTrue_198 ?_
    refine lv_topi (fun z_55 ez_55 => ?_)
    have bz_55 : z_55.toInt = z_52.toInt + z_54.toInt := i_add ez_55 (by omega) (by omega)
    have hin_56 : vp_in z_55 70 := vp_in_iff.mpr ⟨by omega, by omega⟩
    refine va_iald hx hb hK hP 10 0 rfl rfl hin_56 dX6_isTrue_199 ?_
    refine lv_topi (fun z_57 ez_57 => ?_)
    have bz_57 := p_vwlf2.at hin_56 ez_57
    have k_0 : (0 : Int32).toInt = 0 := by decide
    refine lv_if_le (tgt := 207) hx hb dX6_isTrue_200 (by decide) (fun c_58 => ?_) (fun c_58 => ?_)
    · skip
      have c_58 : z_57.toInt ≤ (0 : Int32).toInt := i_le.mp c_58
      refine lv_iconst (v := 0) hx hb dX6_isTrue_207 (by decide) ?_
      rw [hQ9]
      exact rr_z hx hb hr hlocks (Or.inl rfl) (show ((0 : Int32) = 0) ∨ ((0 : Int32) = 1) from (Or.inl rfl)) hS dX6_isTrue_208
    · skip
      have c_58 : ¬ (z_57.toInt ≤ (0 : Int32).toInt) := fun h9 => c_58 (i_le.mpr h9)
      refine lv_iconst (v := 1) hx hb dX6_isTrue_203 (by decide) ?_
      refine lv_goto (tgt := 208) hx hb dX6_isTrue_204 (by decide) ?_
      have k_1 : (1 : Int32).toInt = 1 := by decide
      rw [hQ9]
      exact rr_z hx hb hr hlocks (Or.inr rfl) (show ((1 : Int32) = 0) ∨ ((1 : Int32) = 1) from (Or.inr (rfl))) hS dX6_isTrue_208
  by_cases sw_3_24 : z_2.toInt = 24
  · refine as_i 24 (i_eq.mpr (sw_3_24.trans k_24.symm)) ?_
    refine lv_tableIn (off := 203) (tgt := 209) hx hb dX6_isTrue_6 (by decide) (by decide) (by decide) (by decide) ?_
    refine lv_aload_n hx hb dX6_isTrue_209 rfl (lv_at hl 3 rfl) ?_
    refine gf_X6_101 hx hb hts hown hK hP 4 rfl rfl dX6_isTrue_210 ?_
    refine lv_iload_n hx hb dX6_isTrue_213 rfl (lv_at hl 2 rfl) ?_
    refine jr_i (rVr (As := [.int vm]) (rest := []) (ci := 2) ⟨hx, hb, hml, hown, hts⟩ (g_familyOf l dC dI cy vwc vwc1 vwc2 vwc3 vwc4 vwc5 vwcm vwcd vwcr vwcw vwcf5 vm r_vwcm r_vwcd) (cw_X6_141 hts rfl rfl ⟨Nat.le_of_ble_eq_true rfl, Nat.le_of_ble_eq_true rfl⟩) hP hK [5, 8] rfl rfl rfl rfl hl.1 rfl (Nat.le_of_ble_eq_true rfl) dX6_isTrue_214 ⟨Nat.le_of_ble_eq_true rfl, Nat.le_of_ble_eq_true rfl⟩) hP hS (fun r_59 H locs hp_60 hP hS => ?_)
    refine lv_aload_n hx hb dX6_isTrue_217 rfl (lv_at hl 0 rfl) ?_
    refine gf_X6_18 hx hb hts hown hK hP 0 rfl rfl dX6_isTrue_218 ?_
    refine lv_iload_n hx hb dX6_isTrue_221 rfl (lv_at hl 1 rfl) ?_
    have hin_61 : vp_in vi 40 := vp_in_iff.mpr ⟨by omega, by omega⟩
    refine va_iald hx hb hK hP 3 0 rfl rfl hin_61 dX6_isTrue_222 ?_
    refine lv_topi (fun z_62 ez_62 => ?_)
    refine lv_ishr hx hb dX6_isTrue_223 ?_
    refine lv_topi (fun z_63 ez_63 => ?_)
    refine lv_iconst (v := 1) hx hb dX6_isTrue_224 (by decide) ?_
    refine lv_iand hx hb dX6_isTrue_225 ?_
    refine lv_topi (fun z_64 ez_64 => ?_)
    have k_1 : (1 : Int32).toInt = 1 := by decide
    have bz_64 : 0 ≤ z_64.toInt ∧ z_64.toInt ≤ 1 := i_and1 ez_64
    have k_0 : (0 : Int32).toInt = 0 := by decide
    refine lv_if_eq (tgt := 233) hx hb dX6_isTrue_226 (by decide) (fun c_65 => ?_) (fun c_65 => ?_)
    · skip
      have c_65 : z_64.toInt = (0 : Int32).toInt := i_eq.mp c_65
      refine lv_iconst (v := 0) hx hb dX6_isTrue_233 (by decide) ?_
      rw [hQ9]
      exact rr_z hx hb hr hlocks (Or.inl rfl) (show ((0 : Int32) = 0) ∨ ((0 : Int32) = 1) from (Or.inl rfl)) hS dX6_isTrue_234
    · skip
      have c_65 : ¬ (z_64.toInt = (0 : Int32).toInt) := fun h9 => c_65 (i_eq.mpr h9)
      refine lv_iconst (v := 1) hx hb dX6_isTrue_229 (by decide) ?_
      refine lv_goto (tgt := 234) hx hb dX6_isTrue_230 (by decide) ?_
      rw [hQ9]
      exact rr_z hx hb hr hlocks (Or.inr rfl) (show ((1 : Int32) = 0) ∨ ((1 : Int32) = 1) from (Or.inr (rfl))) hS dX6_isTrue_234
  by_cases sw_3_25 : z_2.toInt = 25
  · refine as_i 25 (i_eq.mpr (sw_3_25.trans k_25.symm)) ?_
    refine lv_tableIn (off := 229) (tgt := 235) hx hb dX6_isTrue_6 (by decide) (by decide) (by decide) (by decide) ?_
    refine lv_aload_n hx hb dX6_isTrue_235 rfl (lv_at hl 0 rfl) ?_
    refine lv_aload_n hx hb dX6_isTrue_236 rfl (lv_at hl 3 rfl) ?_
    refine lv_iload_n hx hb dX6_isTrue_237 rfl (lv_at hl 2 rfl) ?_
    refine jr_i (rVr (As := [.int vm]) (rest := [.ref vz]) (ci := 10) ⟨hx, hb, hml, hown, hts⟩ (g_whiteOf l dC dI cy vw vwc vwl vws vwc1 vwc2 vwc3 vwc4 vwc5 vwcm vwcd vwcr vwcw vwcf3 vwcf4 vwl1 vwl2 vwl3 vwl4 vwl5 vwl6 vwl7 vwl8 vwl9 vwl10 vwly vwlf2 vwlf3 vwlf4 vwlf5 vm r_vwcm r_vwcd r_vm p_vwcf3 p_vwlf2 p_vwlf5) (cw_X6_144 hts rfl rfl ⟨Nat.le_of_ble_eq_true rfl, Nat.le_of_ble_eq_true rfl⟩) hP hK [4, 5, 6, 7, 9, 10, 11, 12, 13] rfl rfl rfl rfl hl.1 rfl (Nat.le_of_ble_eq_true rfl) dX6_isTrue_238 ⟨Nat.le_of_ble_eq_true rfl, Nat.le_of_ble_eq_true rfl⟩) hP hS (fun r_66 H locs hp_67 hP hS => ?_)
    refine lv_iload_n hx hb dX6_isTrue_241 rfl (lv_at hl 1 rfl) ?_
    refine jr_i (rVr (As := [.int r_66, .int vi]) (rest := []) (ci := 7) ⟨hx, hb, hml, hown, hts⟩ (g_se_holds l dC dI cy vz vz1 vz2 vz3 vz4 vzs vzo vzf2 vzf3 r_66 vi r_vi) (cw_X6_147 hts rfl rfl ⟨Nat.le_of_ble_eq_true rfl, Nat.le_of_ble_eq_true rfl⟩) hP hK [0, 2, 3] rfl rfl rfl rfl hl.1 rfl (Nat.le_of_ble_eq_true rfl) dX6_isTrue_242 ⟨Nat.le_of_ble_eq_true rfl, Nat.le_of_ble_eq_true rfl⟩) hP hS (fun r_68 H locs hp_69 hP hS => ?_)
    have hp_69 : ((r_68 = 0) ∨ (r_68 = 1)) := hp_69
    have q_70 := hp_69
    rcases q_70 with aq_70 | aq_70
    · skip
      refine as_i 0 aq_70 ?_
      have k_0 : (0 : Int32).toInt = 0 := by decide
      rw [hQ9]
      exact rr_z hx hb hr hlocks (Or.inl rfl) (show ((0 : Int32) = 0) ∨ ((0 : Int32) = 1) from (Or.inl rfl)) hS dX6_isTrue_245
    · skip
      refine as_i 1 aq_70 ?_
      have k_1 : (1 : Int32).toInt = 1 := by decide
      rw [hQ9]
      exact rr_z hx hb hr hlocks (Or.inr rfl) (show ((1 : Int32) = 0) ∨ ((1 : Int32) = 1) from (Or.inr (rfl))) hS dX6_isTrue_245
  by_cases sw_3_26 : z_2.toInt = 26
  · refine as_i 26 (i_eq.mpr (sw_3_26.trans k_26.symm)) ?_
    refine lv_tableIn (off := 240) (tgt := 246) hx hb dX6_isTrue_6 (by decide) (by decide) (by decide) (by decide) ?_
    refine lv_aload_n hx hb dX6_isTrue_246 rfl (lv_at hl 0 rfl) ?_
    refine lv_aload_n hx hb dX6_isTrue_247 rfl (lv_at hl 3 rfl) ?_
    refine lv_iload_n hx hb dX6_isTrue_248 rfl (lv_at hl 2 rfl) ?_
    refine jr_i (rVr (As := [.int vm]) (rest := [.ref vz]) (ci := 10) ⟨hx, hb, hml, hown, hts⟩ (g_darkOf l dC dI cy vw vwc vwl vws vwc1 vwc2 vwc3 vwc4 vwc5 vwcm vwcd vwcr vwcw vwcf3 vwcf4 vwl1 vwl2 vwl3 vwl4 vwl5 vwl6 vwl7 vwl8 vwl9 vwl10 vwly vwlf2 vwlf3 vwlf4 vwlf5 vm r_vwcm r_vwcd r_vm p_vwcf3 p_vwlf2 p_vwlf5) (cw_X6_151 hts rfl rfl ⟨Nat.le_of_ble_eq_true rfl, Nat.le_of_ble_eq_true rfl⟩) hP hK [4, 5, 6, 7, 9, 10, 11, 12, 13] rfl rfl rfl rfl hl.1 rfl (Nat.le_of_ble_eq_true rfl) dX6_isTrue_249 ⟨Nat.le_of_ble_eq_true rfl, Nat.le_of_ble_eq_true rfl⟩) hP hS (fun r_71 H locs hp_72 hP hS => ?_)
    refine lv_iload_n hx hb dX6_isTrue_252 rfl (lv_at hl 1 rfl) ?_
    refine jr_i (rVr (As := [.int r_71, .int vi]) (rest := []) (ci := 7) ⟨hx, hb, hml, hown, hts⟩ (g_se_holds l dC dI cy vz vz1 vz2 vz3 vz4 vzs vzo vzf2 vzf3 r_71 vi r_vi) (cw_X6_147 hts rfl rfl ⟨Nat.le_of_ble_eq_true rfl, Nat.le_of_ble_eq_true rfl⟩) hP hK [0, 2, 3] rfl rfl rfl rfl hl.1 rfl (Nat.le_of_ble_eq_true rfl) dX6_isTrue_253 ⟨Nat.le_of_ble_eq_true rfl, Nat.le_of_ble_eq_true rfl⟩) hP hS (fun r_73 H locs hp_74 hP hS => ?_)
    have hp_74 : ((r_73 = 0) ∨ (r_73 = 1)) := hp_74
    have q_75 := hp_74
    rcases q_75 with aq_75 | aq_75
    · skip
      refine as_i 0 aq_75 ?_
      have k_0 : (0 : Int32).toInt = 0 := by decide
      rw [hQ9]
      exact rr_z hx hb hr hlocks (Or.inl rfl) (show ((0 : Int32) = 0) ∨ ((0 : Int32) = 1) from (Or.inl rfl)) hS dX6_isTrue_256
    · skip
      refine as_i 1 aq_75 ?_
      have k_1 : (1 : Int32).toInt = 1 := by decide
      rw [hQ9]
      exact rr_z hx hb hr hlocks (Or.inr rfl) (show ((1 : Int32) = 0) ∨ ((1 : Int32) = 1) from (Or.inr (rfl))) hS dX6_isTrue_256
  by_cases sw_3_27 : z_2.toInt = 27
  · refine as_i 27 (i_eq.mpr (sw_3_27.trans k_27.symm)) ?_
    refine lv_tableIn (off := 251) (tgt := 257) hx hb dX6_isTrue_6 (by decide) (by decide) (by decide) (by decide) ?_
    refine lv_aload_n hx hb dX6_isTrue_257 rfl (lv_at hl 0 rfl) ?_
    refine lv_aload_n hx hb dX6_isTrue_258 rfl (lv_at hl 3 rfl) ?_
    refine gf_X6_126 hx hb hts hown hK hP 4 rfl rfl dX6_isTrue_259 ?_
    refine gf_X6_154 hx hb hts hown hK hP 9 rfl rfl dX6_isTrue_262 ?_
    refine lv_iload_n hx hb dX6_isTrue_265 rfl (lv_at hl 2 rfl) ?_
    have hin_76 : vp_in vm 7 := vp_in_iff.mpr ⟨by omega, by omega⟩
    refine va_iald hx hb hK hP 15 0 rfl rfl hin_76 dX6_isTrue_266 ?_
    refine lv_topi (fun z_77 ez_77 => ?_)
    refine lv_iload_n hx hb dX6_isTrue_267 rfl (lv_at hl 1 rfl) ?_
    refine jr_i (rVr (As := [.int z_77, .int vi]) (rest := []) (ci := 7) ⟨hx, hb, hml, hown, hts⟩ (g_se_holds l dC dI cy vz vz1 vz2 vz3 vz4 vzs vzo vzf2 vzf3 z_77 vi r_vi) (cw_X6_147 hts rfl rfl ⟨Nat.le_of_ble_eq_true rfl, Nat.le_of_ble_eq_true rfl⟩) hP hK [0, 2, 3] rfl rfl rfl rfl hl.1 rfl (Nat.le_of_ble_eq_true rfl) dX6_isTrue_268 ⟨Nat.le_of_ble_eq_true rfl, Nat.le_of_ble_eq_true rfl⟩) hP hS (fun r_78 H locs hp_79 hP hS => ?_)
    have hp_79 : ((r_78 = 0) ∨ (r_78 = 1)) := hp_79
    have q_80 := hp_79
    rcases q_80 with aq_80 | aq_80
    · skip
      refine as_i 0 aq_80 ?_
      have k_0 : (0 : Int32).toInt = 0 := by decide
      rw [hQ9]
      exact rr_z hx hb hr hlocks (Or.inl rfl) (show ((0 : Int32) = 0) ∨ ((0 : Int32) = 1) from (Or.inl rfl)) hS dX6_isTrue_271
    · skip
      refine as_i 1 aq_80 ?_
      have k_1 : (1 : Int32).toInt = 1 := by decide
      rw [hQ9]
      exact rr_z hx hb hr hlocks (Or.inr rfl) (show ((1 : Int32) = 0) ∨ ((1 : Int32) = 1) from (Or.inr (rfl))) hS dX6_isTrue_271
  refine lv_tableOut (tgt := 272) hx hb dX6_isTrue_6 (by omega) (by decide) ?_
  refine lv_aload_n hx hb dX6_isTrue_272 rfl (lv_at hl 0 rfl) ?_
  refine lv_iload_n hx hb dX6_isTrue_273 rfl (lv_at hl 2 rfl) ?_
  refine lv_iload_n hx hb dX6_isTrue_274 rfl (lv_at hl 1 rfl) ?_
  refine jr_i (rVr (As := [.int vm, .int vi]) (rest := []) (ci := 7) ⟨hx, hb, hml, hown, hts⟩ (g_se_holds l dC dI cy vz vz1 vz2 vz3 vz4 vzs vzo vzf2 vzf3 vm vi r_vi) (cw_X6_147 hts rfl rfl ⟨Nat.le_of_ble_eq_true rfl, Nat.le_of_ble_eq_true rfl⟩) hP hK [0, 2, 3] rfl rfl rfl rfl hl.1 rfl (Nat.le_of_ble_eq_true rfl) dX6_isTrue_275 ⟨Nat.le_of_ble_eq_true rfl, Nat.le_of_ble_eq_true rfl⟩) hP hS (fun r_81 H locs hp_82 hP hS => ?_)
  have hp_82 : ((r_81 = 0) ∨ (r_81 = 1)) := hp_82
  have q_83 := hp_82
  rcases q_83 with aq_83 | aq_83
  · skip
    refine as_i 0 aq_83 ?_
    have k_0 : (0 : Int32).toInt = 0 := by decide
    rw [hQ9]
    exact rr_z hx hb hr hlocks (Or.inl rfl) (show ((0 : Int32) = 0) ∨ ((0 : Int32) = 1) from (Or.inl rfl)) hS dX6_isTrue_278
  · skip
    refine as_i 1 aq_83 ?_
    have k_1 : (1 : Int32).toInt = 1 := by decide
    rw [hQ9]
    exact rr_z hx hb hr hlocks (Or.inr rfl) (show ((1 : Int32) = 0) ∨ ((1 : Int32) = 1) from (Or.inr (rfl))) hS dX6_isTrue_278
abbrev cX6_plainTrueOf : ByteArray := prog_8_method_14_code
def yX6_plainTrueOf : MethodName := ⟨RX6, "plainTrueOf", "(ILLikenessPound$World;)I"⟩
theorem t1318 : Cond.code yX6_plainTrueOf cX6_plainTrueOf 5 (some .int) ∈ GW := gw_mem 1432 (by decide +kernel) (by decide +kernel)
theorem dX6_plainTrueOf_0 : decode cX6_plainTrueOf 0 = .ok (.iconst 0, 1) := by decide +kernel
theorem dX6_plainTrueOf_1 : decode cX6_plainTrueOf 1 = .ok (.istore_n 3, 1) := by decide +kernel
theorem dX6_plainTrueOf_2 : decode cX6_plainTrueOf 2 = .ok (.iconst 0, 1) := by decide +kernel
theorem dX6_plainTrueOf_3 : decode cX6_plainTrueOf 3 = .ok (.istore 4, 2) := by decide +kernel
theorem dX6_plainTrueOf_5 : decode cX6_plainTrueOf 5 = .ok (.iload 4, 2) := by decide +kernel
theorem dX6_plainTrueOf_7 : decode cX6_plainTrueOf 7 = .ok (.aload_n 2, 1) := by decide +kernel
theorem dX6_plainTrueOf_8 : decode cX6_plainTrueOf 8 = .ok (.getfield 101, 3) := by decide +kernel
theorem dX6_plainTrueOf_11 : decode cX6_plainTrueOf 11 = .ok (.getfield 115, 3) := by decide +kernel
theorem t394 : Cond.fieldLink RX6 115 "LikenessPound$Colony" "men" "I" ∈ GW := gw_mem 508 (by decide +kernel) (by decide +kernel)
theorem gf_X6_115 {p : Program} {l : Launch} {e : Env} {R : Room} {s : State} {m : MethodId} {args : Array Value} {below : List Frame} {meth : Method} {c : Code} {H : Heap} {locs : List Loc} {cells slots : Nat} {Q : State → Prop} {cc : ByteArray} {pc : Nat} {ls : Array Slot} {rest : List Value} {D : va_G} {a : Nat} {tys : List (ClassId × FieldType)} {ws : va_W} (hx : p.tables.exec = Jvm.exec) (hb : c.code = cc) (hts : ∀ w ∈ GW, w.before args s = true) (hown : s.vm.findClass RX6 = some m.cls) (hK : va_K D vwCl tys s) (hP : va_P D vwCl ws H) (q0 : Nat) {fs : List Value} (he : ws[q0]? = some (a, .inr (2, fs))) {v : Value} (hv : fs[5]? = some v) (hdg : decode cc pc = .ok (.getfield 115, 3)) (kk : W p l e R s m args below meth c H locs cells slots Q (F0 m (pc + 3) ls (v :: rest))) : W p l e R s m args below meth c H locs cells slots Q (F0 m pc ls (.ref a :: rest)) := va_get (C := RX1) (T := TX1) (N := 9) (ci := 2) hx hb hts inX1 hown hK hP q0 he rfl 5 (by decide) (hts _ t394) (fun _ h => h) hv hdg kk
theorem dX6_plainTrueOf_14 : decode cX6_plainTrueOf 14 = .ok (.if_icmp .ge 27, 3) := by decide +kernel
theorem dX6_plainTrueOf_41 : decode cX6_plainTrueOf 41 = .ok (.iload_n 3, 1) := by decide +kernel
theorem dX6_plainTrueOf_42 : decode cX6_plainTrueOf 42 = .ok (.ireturn, 1) := by decide +kernel
theorem dX6_plainTrueOf_17 : decode cX6_plainTrueOf 17 = .ok (.aload_n 0, 1) := by decide +kernel
theorem dX6_plainTrueOf_18 : decode cX6_plainTrueOf 18 = .ok (.iload_n 1, 1) := by decide +kernel
theorem dX6_plainTrueOf_19 : decode cX6_plainTrueOf 19 = .ok (.iload 4, 2) := by decide +kernel
theorem dX6_plainTrueOf_21 : decode cX6_plainTrueOf 21 = .ok (.aload_n 2, 1) := by decide +kernel
theorem dX6_plainTrueOf_22 : decode cX6_plainTrueOf 22 = .ok (.invokevirtual 118, 3) := by decide +kernel
theorem t1319 : Cond.methodLink RX6 118 yX6_isTrue ∈ GW := gw_mem 1433 (by decide +kernel) (by decide +kernel)
theorem t1321 : Cond.instanceMethod yX6_isTrue ∈ GW := gw_mem 1435 (by decide +kernel) (by decide +kernel)
theorem s35 : Cond.selects RX6 yX6_isTrue yX6_isTrue ∈ GW := gw_mem 35 (by decide +kernel) (by decide +kernel)
theorem cw_X6_118 {R : Room} {s : State} {args : Array Value} {rm : Room} {mc ms : Nat} (hts : ∀ w ∈ GW, w.before args s = true) (hrc : rm.cells = mc) (hrs : rm.slots = ms) (hR : rm.frames + 1 ≤ R.frames ∧ 8 + (4 + 11) + rm.locals ≤ R.locals) : CallW R s args RX6 RX6 118 yX6_isTrue cX6_isTrue 4 (some .boolean) (wl yX6_isTrue cX6_isTrue 4 (some .boolean)) rm mc ms 3 := cwV 3 hts (gi_V t1319 t1321 s35 t17 t1322) rfl hrc hrs (by decide +kernel) hR
theorem dX6_plainTrueOf_25 : decode cX6_plainTrueOf 25 = .ok (.ifCond .eq 10, 3) := by decide +kernel
theorem dX6_plainTrueOf_35 : decode cX6_plainTrueOf 35 = .ok (.iinc 4 1, 3) := by decide +kernel
theorem dX6_plainTrueOf_38 : decode cX6_plainTrueOf 38 = .ok (.goto (-33), 3) := by decide +kernel
theorem dX6_plainTrueOf_28 : decode cX6_plainTrueOf 28 = .ok (.iload_n 3, 1) := by decide +kernel
theorem dX6_plainTrueOf_29 : decode cX6_plainTrueOf 29 = .ok (.iconst 1, 1) := by decide +kernel
theorem dX6_plainTrueOf_30 : decode cX6_plainTrueOf 30 = .ok (.iload 4, 2) := by decide +kernel
theorem dX6_plainTrueOf_32 : decode cX6_plainTrueOf 32 = .ok (.ishl, 1) := by decide +kernel
theorem dX6_plainTrueOf_33 : decode cX6_plainTrueOf 33 = .ok (.ior, 1) := by decide +kernel
theorem dX6_plainTrueOf_34 : decode cX6_plainTrueOf 34 = .ok (.istore_n 3, 1) := by decide +kernel
set_option maxHeartbeats 4000000 in
set_option maxRecDepth 100000 in
theorem g_plainTrueOf (l : Launch) (dC : Nat → ClassId) (dI : Nat → Nat → Nat) (cy : Nat → ClassId) (vz : Nat) (vz1 : Nat) (vz2 : Nat) (vz3 : Nat) (vz4 : Nat) (vzs : Int32) (vzo : Int32) (vzf1 : Nat → Int32) (vzf2 : Nat → Int32) (vzf3 : Nat → Int32) (vw : Nat) (vwc : Nat) (vwl : Nat) (vws : Nat) (vwc1 : Nat) (vwc2 : Nat) (vwc3 : Nat) (vwc4 : Nat) (vwc5 : Nat) (vwcm : Int32) (vwcd : Int32) (vwcr : Int32) (vwcw : Int32) (vwcf3 : Nat → Int32) (vwcf4 : Nat → Int32) (vwcf5 : Nat → Int32) (vwl1 : Nat) (vwl2 : Nat) (vwl3 : Nat) (vwl4 : Nat) (vwl5 : Nat) (vwl6 : Nat) (vwl7 : Nat) (vwl8 : Nat) (vwl9 : Nat) (vwl10 : Nat) (vwly : Int32) (vwlf2 : Nat → Int32) (vwlf3 : Nat → Int32) (vwlf4 : Nat → Int32) (vwlf5 : Nat → Int32) (vwlf6 : Nat → Int32) (vwlf1 : Nat → Int32) (vi : Int32) (r_vzs : 0 ≤ (vzs : Int32).toInt ∧ (vzs : Int32).toInt ≤ 40) (r_vwcm : 0 ≤ (vwcm : Int32).toInt ∧ (vwcm : Int32).toInt ≤ 7) (r_vwcd : 0 ≤ (vwcd : Int32).toInt ∧ (vwcd : Int32).toInt ≤ 10) (r_vi : 0 ≤ (vi : Int32).toInt ∧ (vi : Int32).toInt ≤ 39) (p_vwcf3 : Rg vwcf3 10 0 40) (p_vwlf2 : Rg vwlf2 70 0 9) (p_vwlf5 : Rg vwlf5 7 (-1) 9) (hs : SOK vzf1 vzf3) : Met l yX6_plainTrueOf (wl yX6_plainTrueOf cX6_plainTrueOf 5 (some .int)) ({ frames := 5, cells := 0, slots := 0, locals := 320 }) (Pr (dC, dI) vwCl cy [(vz, .inr (7, [.ref vz1, .ref vz2, .ref vz3, .ref vz4, .int vzs, .int vzo])), (vz1, .inl (cy 0, 40, .inl vzf1)), (vz2, .inl (cy 0, 40, .inl vzf2)), (vz3, .inl (cy 0, 40, .inl vzf3)), (vw, .inr (10, [.ref vwc, .ref vwl, .ref vws])), (vwc, .inr (2, [.ref vwc1, .ref vwc2, .ref vwc3, .ref vwc4, .ref vwc5, .int vwcm, .int vwcd, .int vwcr, .int vwcw])), (vwc3, .inl (cy 0, 10, .inl vwcf3)), (vwc4, .inl (cy 2, 10, .inl vwcf4)), (vwc5, .inl (cy 0, 7, .inl vwcf5)), (vwl, .inr (5, [.ref vwl1, .ref vwl2, .ref vwl3, .ref vwl4, .ref vwl5, .ref vwl6, .ref vwl7, .ref vwl8, .ref vwl9, .ref vwl10, .int vwly])), (vwl2, .inl (cy 0, 70, .inl vwlf2)), (vwl3, .inl (cy 0, 49, .inl vwlf3)), (vwl4, .inl (cy 0, 7, .inl vwlf4)), (vwl5, .inl (cy 0, 7, .inl vwlf5)), (vwl6, .inl (cy 0, 7, .inl vwlf6)), (vwl1, .inl (cy 0, 7, .inl vwlf1))] [.ref vz, .int vi, .ref vw]) (Ri (fun r => True)) 0 0 (fun _ => False) := by
  refine mr RX6 rfl (by decide +kernel) (Nat.le_of_ble_eq_true rfl) ?_
  intro p e s m below meth c hx hb hr hlocks av9 hav hts hown hml hK hP hS Q9 hQ9 ls hl
  have hl : lv_has ls 5 [(0, .ref vz), (1, .int vi), (2, .ref vw)] := hl
  refine lv_iconst (v := 0) hx hb dX6_plainTrueOf_0 (by decide) ?_
  refine lv_istore_n (lv' := [(3, .int 0), (0, .ref vz), (1, .int vi), (2, .ref vw)]) hx hb dX6_plainTrueOf_1 rfl hl (by decide) rfl (fun ls hl => ?_)
  refine lv_iconst (v := 0) hx hb dX6_plainTrueOf_2 (by decide) ?_
  refine lv_istore (lv' := [(4, .int 0), (3, .int 0), (0, .ref vz), (1, .int vi), (2, .ref vw)]) hx hb dX6_plainTrueOf_3 hl (by decide) rfl (fun ls hl => ?_)
  have loop1 : ∀ (n1 : Nat) (x_3 : Int32) (x_2 : Int32), (0 ≤ x_2.toInt ∧ x_2.toInt ≤ 7) → 7 - x_2.toInt < (n1 : Int) → ∀ (H : Heap) (locs : List Loc), va_P (dC, dI) vwCl [(vz, .inr (7, [.ref vz1, .ref vz2, .ref vz3, .ref vz4, .int vzs, .int vzo])), (vz1, .inl (cy 0, 40, .inl vzf1)), (vz2, .inl (cy 0, 40, .inl vzf2)), (vz3, .inl (cy 0, 40, .inl vzf3)), (vw, .inr (10, [.ref vwc, .ref vwl, .ref vws])), (vwc, .inr (2, [.ref vwc1, .ref vwc2, .ref vwc3, .ref vwc4, .ref vwc5, .int vwcm, .int vwcd, .int vwcr, .int vwcw])), (vwc3, .inl (cy 0, 10, .inl vwcf3)), (vwc4, .inl (cy 2, 10, .inl vwcf4)), (vwc5, .inl (cy 0, 7, .inl vwcf5)), (vwl, .inr (5, [.ref vwl1, .ref vwl2, .ref vwl3, .ref vwl4, .ref vwl5, .ref vwl6, .ref vwl7, .ref vwl8, .ref vwl9, .ref vwl10, .int vwly])), (vwl2, .inl (cy 0, 70, .inl vwlf2)), (vwl3, .inl (cy 0, 49, .inl vwlf3)), (vwl4, .inl (cy 0, 7, .inl vwlf4)), (vwl5, .inl (cy 0, 7, .inl vwlf5)), (vwl6, .inl (cy 0, 7, .inl vwlf6)), (vwl1, .inl (cy 0, 7, .inl vwlf1))] H → va_S (fun _ => False) s.heap H locs → ∀ ls : Array Slot, lv_has ls 5 [(4, .int x_2), (3, .int x_3), (0, .ref vz), (1, .int vi), (2, .ref vw)] → W p l e ({ frames := 5, cells := 0, slots := 0, locals := 320 }) s m av9 below meth c H locs 0 0 Q9 (F0 m 5 ls []) := by
    intro n1
    induction n1 with
    | zero =>
      intro x_3 x_2 bx_2 hn1 H locs hP hS ls hl
      exfalso; omega
    | succ n1 ih1 =>
      intro x_3 x_2 bx_2 hn1 H locs hP hS ls hl
      refine lv_iload hx hb dX6_plainTrueOf_5 (lv_at hl 0 rfl) ?_
      refine lv_aload_n hx hb dX6_plainTrueOf_7 rfl (lv_at hl 4 rfl) ?_
      refine gf_X6_101 hx hb hts hown hK hP 4 rfl rfl dX6_plainTrueOf_8 ?_
      refine gf_X6_115 hx hb hts hown hK hP 5 rfl rfl dX6_plainTrueOf_11 ?_
      refine lv_icmp_ge (tgt := 41) hx hb dX6_plainTrueOf_14 (by decide) (fun c_4 => ?_) (fun c_4 => ?_)
      · skip
        have c_4 : vwcm.toInt ≤ x_2.toInt := i_le.mp c_4
        refine lv_iload_n hx hb dX6_plainTrueOf_41 rfl (lv_at hl 1 rfl) ?_
        rw [hQ9]
        exact rr_i hx hb hr hlocks trivial hS dX6_plainTrueOf_42
      · skip
        have c_4 : ¬ (vwcm.toInt ≤ x_2.toInt) := fun h9 => c_4 (i_le.mpr h9)
        refine lv_aload_n hx hb dX6_plainTrueOf_17 rfl (lv_at hl 2 rfl) ?_
        refine lv_iload_n hx hb dX6_plainTrueOf_18 rfl (lv_at hl 3 rfl) ?_
        refine lv_iload hx hb dX6_plainTrueOf_19 (lv_at hl 0 rfl) ?_
        refine lv_aload_n hx hb dX6_plainTrueOf_21 rfl (lv_at hl 4 rfl) ?_
        refine jr_i (rVr (As := [.int vi, .int x_2, .ref vw]) (rest := []) (ci := 7) ⟨hx, hb, hml, hown, hts⟩ (g_isTrue l dC dI cy vz vz1 vz2 vz3 vz4 vzs vzo vzf1 vzf2 vzf3 vw vwc vwl vws vwc1 vwc2 vwc3 vwc4 vwc5 vwcm vwcd vwcr vwcw vwcf3 vwcf4 vwcf5 vwl1 vwl2 vwl3 vwl4 vwl5 vwl6 vwl7 vwl8 vwl9 vwl10 vwly vwlf2 vwlf3 vwlf4 vwlf5 vwlf6 vwlf1 vi x_2 r_vzs r_vwcm r_vwcd r_vi ⟨by omega, by omega⟩ p_vwcf3 p_vwlf2 p_vwlf5 hs) (cw_X6_118 hts rfl rfl ⟨Nat.le_of_ble_eq_true rfl, Nat.le_of_ble_eq_true rfl⟩) hP hK [0, 1, 2, 3, 4, 5, 6, 7, 8, 9, 10, 11, 12, 13, 14, 15] rfl rfl rfl rfl hl.1 rfl (Nat.le_of_ble_eq_true rfl) dX6_plainTrueOf_22 ⟨Nat.le_of_ble_eq_true rfl, Nat.le_of_ble_eq_true rfl⟩) hP hS (fun r_5 H locs hp_6 hP hS => ?_)
        have hp_6 : ((r_5 = 0) ∨ (r_5 = 1)) := hp_6
        have q_7 := hp_6
        rcases q_7 with aq_7 | aq_7
        · skip
          refine as_i 0 aq_7 ?_
          refine lv_if_eq (tgt := 35) hx hb dX6_plainTrueOf_25 (by decide) (fun _ => ?_) (fun c9 => absurd (by decide) c9)
          obtain ⟨z_8, ez_8⟩ : ∃ z : Int32, z = x_2 + 1 := ⟨_, rfl⟩
          have k_1 : (1 : Int32).toInt = 1 := by decide
          have bz_8 : z_8.toInt = x_2.toInt + (1 : Int32).toInt := i_add ez_8 (by omega) (by omega)
          refine lv_iinc (v := z_8) (lv' := [(4, .int z_8), (3, .int x_3), (0, .ref vz), (1, .int vi), (2, .ref vw)]) hx hb dX6_plainTrueOf_35 hl (k := 0) rfl ez_8.symm (by decide) rfl (fun ls hl => ?_)
          refine lv_goto (tgt := 5) hx hb dX6_plainTrueOf_38 (by decide) ?_
          exact ih1 x_3 z_8 ⟨by omega, by omega⟩ (by omega) _ _ (hP.sub [0, 1, 2, 3, 4, 5, 6, 7, 8, 9, 10, 11, 12, 13, 14, 15] rfl) hS ls (lv_sub hl [0, 1, 2, 3, 4] rfl)
        · skip
          refine as_i 1 aq_7 ?_
          refine lv_if_eq (tgt := 35) hx hb dX6_plainTrueOf_25 (by decide) (fun c9 => absurd c9 (by decide)) (fun _ => ?_)
          refine lv_iload_n hx hb dX6_plainTrueOf_28 rfl (lv_at hl 1 rfl) ?_
          refine lv_iconst (v := 1) hx hb dX6_plainTrueOf_29 (by decide) ?_
          refine lv_iload hx hb dX6_plainTrueOf_30 (lv_at hl 0 rfl) ?_
          refine lv_ishl hx hb dX6_plainTrueOf_32 ?_
          refine lv_topi (fun z_9 ez_9 => ?_)
          have bz_9 : 1 ≤ z_9.toInt ∧ z_9.toInt ≤ 128 := i_shl7 ez_9 ⟨by omega, by omega⟩
          refine lv_ior hx hb dX6_plainTrueOf_33 ?_
          refine lv_topi (fun z_10 ez_10 => ?_)
          refine lv_istore_n (lv' := [(3, .int z_10), (4, .int x_2), (0, .ref vz), (1, .int vi), (2, .ref vw)]) hx hb dX6_plainTrueOf_34 rfl hl (by decide) rfl (fun ls hl => ?_)
          obtain ⟨z_11, ez_11⟩ : ∃ z : Int32, z = x_2 + 1 := ⟨_, rfl⟩
          have k_1 : (1 : Int32).toInt = 1 := by decide
          have bz_11 : z_11.toInt = x_2.toInt + (1 : Int32).toInt := i_add ez_11 (by omega) (by omega)
          refine lv_iinc (v := z_11) (lv' := [(4, .int z_11), (3, .int z_10), (0, .ref vz), (1, .int vi), (2, .ref vw)]) hx hb dX6_plainTrueOf_35 hl (k := 1) rfl ez_11.symm (by decide) rfl (fun ls hl => ?_)
          refine lv_goto (tgt := 5) hx hb dX6_plainTrueOf_38 (by decide) ?_
          exact ih1 z_10 z_11 ⟨by omega, by omega⟩ (by omega) _ _ (hP.sub [0, 1, 2, 3, 4, 5, 6, 7, 8, 9, 10, 11, 12, 13, 14, 15] rfl) hS ls (lv_sub hl [0, 1, 2, 3, 4] rfl)
  have k_0 : (0 : Int32).toInt = 0 := by decide
  exact loop1 ((7 - (0 : Int32).toInt).toNat + 1) 0 0 ⟨by omega, by omega⟩ (by omega) _ _ hP hS ls (lv_sub hl [0, 1, 2, 3, 4] rfl)
abbrev cX6_trueOf : ByteArray := prog_8_method_13_code
def yX6_trueOf : MethodName := ⟨RX6, "trueOf", "(LLikenessPound$World;)I"⟩
theorem t1313 : Cond.code yX6_trueOf cX6_trueOf 4 (some .int) ∈ GW := gw_mem 1427 (by decide +kernel) (by decide +kernel)
abbrev O_g_trueOf (cy : Nat → ClassId) (vz : Nat) (vz1 : Nat) (vz2 : Nat) (vz3 : Nat) (vz4 : Nat) (vzs : Int32) (vzo : Int32) (vzf1 : Nat → Int32) (vzf2 : Nat → Int32) (vzf3 : Nat → Int32) (vzf4 : Nat → Int32) (vw : Nat) (vwc : Nat) (vwl : Nat) (vws : Nat) (vwc1 : Nat) (vwc2 : Nat) (vwc3 : Nat) (vwc4 : Nat) (vwc5 : Nat) (vwcm : Int32) (vwcd : Int32) (vwcr : Int32) (vwcw : Int32) (vwcf3 : Nat → Int32) (vwcf4 : Nat → Int32) (vwcf5 : Nat → Int32) (vwl1 : Nat) (vwl2 : Nat) (vwl3 : Nat) (vwl4 : Nat) (vwl5 : Nat) (vwl6 : Nat) (vwl7 : Nat) (vwl8 : Nat) (vwl9 : Nat) (vwl10 : Nat) (vwly : Int32) (vwlf2 : Nat → Int32) (vwlf3 : Nat → Int32) (vwlf4 : Nat → Int32) (vwlf5 : Nat → Int32) (vwlf6 : Nat → Int32) (vwlf1 : Nat → Int32) (u : (Nat → Int32)) : va_W := [(vz, .inr (7, [.ref vz1, .ref vz2, .ref vz3, .ref vz4, .int vzs, .int vzo])), (vz1, .inl (cy 0, 40, .inl vzf1)), (vz2, .inl (cy 0, 40, .inl vzf2)), (vz3, .inl (cy 0, 40, .inl vzf3)), (vz4, .inl (cy 0, 20, .inl u)), (vw, .inr (10, [.ref vwc, .ref vwl, .ref vws])), (vwc, .inr (2, [.ref vwc1, .ref vwc2, .ref vwc3, .ref vwc4, .ref vwc5, .int vwcm, .int vwcd, .int vwcr, .int vwcw])), (vwc3, .inl (cy 0, 10, .inl vwcf3)), (vwc4, .inl (cy 2, 10, .inl vwcf4)), (vwc5, .inl (cy 0, 7, .inl vwcf5)), (vwl, .inr (5, [.ref vwl1, .ref vwl2, .ref vwl3, .ref vwl4, .ref vwl5, .ref vwl6, .ref vwl7, .ref vwl8, .ref vwl9, .ref vwl10, .int vwly])), (vwl2, .inl (cy 0, 70, .inl vwlf2)), (vwl3, .inl (cy 0, 49, .inl vwlf3)), (vwl4, .inl (cy 0, 7, .inl vwlf4)), (vwl5, .inl (cy 0, 7, .inl vwlf5)), (vwl6, .inl (cy 0, 7, .inl vwlf6)), (vwl1, .inl (cy 0, 7, .inl vwlf1))]
theorem dX6_trueOf_0 : decode cX6_trueOf 0 = .ok (.iconst (-1), 1) := by decide +kernel
theorem dX6_trueOf_1 : decode cX6_trueOf 1 = .ok (.istore_n 2, 1) := by decide +kernel
theorem dX6_trueOf_2 : decode cX6_trueOf 2 = .ok (.iconst 0, 1) := by decide +kernel
theorem dX6_trueOf_3 : decode cX6_trueOf 3 = .ok (.istore_n 3, 1) := by decide +kernel
theorem dX6_trueOf_4 : decode cX6_trueOf 4 = .ok (.iload_n 3, 1) := by decide +kernel
theorem dX6_trueOf_5 : decode cX6_trueOf 5 = .ok (.aload_n 0, 1) := by decide +kernel
theorem dX6_trueOf_6 : decode cX6_trueOf 6 = .ok (.getfield 24, 3) := by decide +kernel
theorem dX6_trueOf_9 : decode cX6_trueOf 9 = .ok (.if_icmp .ge 150, 3) := by decide +kernel
theorem dX6_trueOf_159 : decode cX6_trueOf 159 = .ok (.iload_n 2, 1) := by decide +kernel
theorem dX6_trueOf_160 : decode cX6_trueOf 160 = .ok (.ifCond .lt 12, 3) := by decide +kernel
theorem dX6_trueOf_172 : decode cX6_trueOf 172 = .ok (.iconst 0, 1) := by decide +kernel
theorem dX6_trueOf_173 : decode cX6_trueOf 173 = .ok (.ireturn, 1) := by decide +kernel
theorem dX6_trueOf_163 : decode cX6_trueOf 163 = .ok (.aload_n 0, 1) := by decide +kernel
theorem dX6_trueOf_164 : decode cX6_trueOf 164 = .ok (.getfield 21, 3) := by decide +kernel
theorem t442 : Cond.fieldLink RX6 21 "LikenessPound$Sentence" "waiting" "[I" ∈ GW := gw_mem 556 (by decide +kernel) (by decide +kernel)
theorem gf_X6_21 {p : Program} {l : Launch} {e : Env} {R : Room} {s : State} {m : MethodId} {args : Array Value} {below : List Frame} {meth : Method} {c : Code} {H : Heap} {locs : List Loc} {cells slots : Nat} {Q : State → Prop} {cc : ByteArray} {pc : Nat} {ls : Array Slot} {rest : List Value} {D : va_G} {a : Nat} {tys : List (ClassId × FieldType)} {ws : va_W} (hx : p.tables.exec = Jvm.exec) (hb : c.code = cc) (hts : ∀ w ∈ GW, w.before args s = true) (hown : s.vm.findClass RX6 = some m.cls) (hK : va_K D vwCl tys s) (hP : va_P D vwCl ws H) (q0 : Nat) {fs : List Value} (he : ws[q0]? = some (a, .inr (7, fs))) {v : Value} (hv : fs[3]? = some v) (hdg : decode cc pc = .ok (.getfield 21, 3)) (kk : W p l e R s m args below meth c H locs cells slots Q (F0 m (pc + 3) ls (v :: rest))) : W p l e R s m args below meth c H locs cells slots Q (F0 m pc ls (.ref a :: rest)) := va_get (C := RX6) (T := TX6) (N := 6) (ci := 7) hx hb hts inX6 hown hK hP q0 he rfl 3 (by decide) (hts _ t442) (fun _ h => h) hv hdg kk
theorem dX6_trueOf_167 : decode cX6_trueOf 167 = .ok (.iload_n 2, 1) := by decide +kernel
theorem dX6_trueOf_168 : decode cX6_trueOf 168 = .ok (.iaload, 1) := by decide +kernel
theorem dX6_trueOf_169 : decode cX6_trueOf 169 = .ok (.goto 4, 3) := by decide +kernel
theorem dX6_trueOf_12 : decode cX6_trueOf 12 = .ok (.aload_n 0, 1) := by decide +kernel
theorem dX6_trueOf_13 : decode cX6_trueOf 13 = .ok (.getfield 11, 3) := by decide +kernel
theorem dX6_trueOf_16 : decode cX6_trueOf 16 = .ok (.iload_n 3, 1) := by decide +kernel
theorem dX6_trueOf_17 : decode cX6_trueOf 17 = .ok (.iaload, 1) := by decide +kernel
theorem dX6_trueOf_18 : decode cX6_trueOf 18 = .ok (.bipush 18, 2) := by decide +kernel
theorem dX6_trueOf_20 : decode cX6_trueOf 20 = .ok (.if_icmp .ne 32, 3) := by decide +kernel
theorem dX6_trueOf_52 : decode cX6_trueOf 52 = .ok (.aload_n 0, 1) := by decide +kernel
theorem dX6_trueOf_53 : decode cX6_trueOf 53 = .ok (.getfield 11, 3) := by decide +kernel
theorem dX6_trueOf_56 : decode cX6_trueOf 56 = .ok (.iload_n 3, 1) := by decide +kernel
theorem dX6_trueOf_57 : decode cX6_trueOf 57 = .ok (.iaload, 1) := by decide +kernel
theorem dX6_trueOf_58 : decode cX6_trueOf 58 = .ok (.bipush 17, 2) := by decide +kernel
theorem dX6_trueOf_60 : decode cX6_trueOf 60 = .ok (.if_icmp .ne 31, 3) := by decide +kernel
theorem dX6_trueOf_91 : decode cX6_trueOf 91 = .ok (.aload_n 0, 1) := by decide +kernel
theorem dX6_trueOf_92 : decode cX6_trueOf 92 = .ok (.getfield 11, 3) := by decide +kernel
theorem dX6_trueOf_95 : decode cX6_trueOf 95 = .ok (.iload_n 3, 1) := by decide +kernel
theorem dX6_trueOf_96 : decode cX6_trueOf 96 = .ok (.iaload, 1) := by decide +kernel
theorem dX6_trueOf_97 : decode cX6_trueOf 97 = .ok (.bipush 16, 2) := by decide +kernel
theorem dX6_trueOf_99 : decode cX6_trueOf 99 = .ok (.if_icmp .ne 31, 3) := by decide +kernel
theorem dX6_trueOf_130 : decode cX6_trueOf 130 = .ok (.iload_n 2, 1) := by decide +kernel
theorem dX6_trueOf_131 : decode cX6_trueOf 131 = .ok (.iconst 1, 1) := by decide +kernel
theorem dX6_trueOf_132 : decode cX6_trueOf 132 = .ok (.iadd, 1) := by decide +kernel
theorem dX6_trueOf_133 : decode cX6_trueOf 133 = .ok (.bipush 20, 2) := by decide +kernel
theorem dX6_trueOf_135 : decode cX6_trueOf 135 = .ok (.if_icmp .ge 18, 3) := by decide +kernel
theorem dX6_trueOf_153 : decode cX6_trueOf 153 = .ok (.iinc 3 1, 3) := by decide +kernel
theorem dX6_trueOf_156 : decode cX6_trueOf 156 = .ok (.goto (-152), 3) := by decide +kernel
theorem dX6_trueOf_138 : decode cX6_trueOf 138 = .ok (.iinc 2 1, 3) := by decide +kernel
theorem dX6_trueOf_141 : decode cX6_trueOf 141 = .ok (.aload_n 0, 1) := by decide +kernel
theorem dX6_trueOf_142 : decode cX6_trueOf 142 = .ok (.getfield 21, 3) := by decide +kernel
theorem dX6_trueOf_145 : decode cX6_trueOf 145 = .ok (.iload_n 2, 1) := by decide +kernel
theorem dX6_trueOf_146 : decode cX6_trueOf 146 = .ok (.aload_n 0, 1) := by decide +kernel
theorem dX6_trueOf_147 : decode cX6_trueOf 147 = .ok (.iload_n 3, 1) := by decide +kernel
theorem dX6_trueOf_148 : decode cX6_trueOf 148 = .ok (.aload_n 1, 1) := by decide +kernel
theorem dX6_trueOf_149 : decode cX6_trueOf 149 = .ok (.invokevirtual 111, 3) := by decide +kernel
theorem t1315 : Cond.methodLink RX6 111 yX6_plainTrueOf ∈ GW := gw_mem 1429 (by decide +kernel) (by decide +kernel)
theorem t1317 : Cond.instanceMethod yX6_plainTrueOf ∈ GW := gw_mem 1431 (by decide +kernel) (by decide +kernel)
theorem s34 : Cond.selects RX6 yX6_plainTrueOf yX6_plainTrueOf ∈ GW := gw_mem 34 (by decide +kernel) (by decide +kernel)
theorem cw_X6_111 {R : Room} {s : State} {args : Array Value} {rm : Room} {mc ms : Nat} (hts : ∀ w ∈ GW, w.before args s = true) (hrc : rm.cells = mc) (hrs : rm.slots = ms) (hR : rm.frames + 1 ≤ R.frames ∧ 8 + (5 + 11) + rm.locals ≤ R.locals) : CallW R s args RX6 RX6 111 yX6_plainTrueOf cX6_plainTrueOf 5 (some .int) (wl yX6_plainTrueOf cX6_plainTrueOf 5 (some .int)) rm mc ms 2 := cwV 2 hts (gi_V t1315 t1317 s34 t17 t1318) rfl hrc hrs (by decide +kernel) hR
theorem dX6_trueOf_152 : decode cX6_trueOf 152 = .ok (.iastore, 1) := by decide +kernel
theorem dX6_trueOf_102 : decode cX6_trueOf 102 = .ok (.iload_n 2, 1) := by decide +kernel
theorem dX6_trueOf_103 : decode cX6_trueOf 103 = .ok (.iconst 1, 1) := by decide +kernel
theorem dX6_trueOf_104 : decode cX6_trueOf 104 = .ok (.if_icmp .lt 26, 3) := by decide +kernel
theorem dX6_trueOf_107 : decode cX6_trueOf 107 = .ok (.aload_n 0, 1) := by decide +kernel
theorem dX6_trueOf_108 : decode cX6_trueOf 108 = .ok (.getfield 21, 3) := by decide +kernel
theorem dX6_trueOf_111 : decode cX6_trueOf 111 = .ok (.iload_n 2, 1) := by decide +kernel
theorem dX6_trueOf_112 : decode cX6_trueOf 112 = .ok (.iconst 1, 1) := by decide +kernel
theorem dX6_trueOf_113 : decode cX6_trueOf 113 = .ok (.isub, 1) := by decide +kernel
theorem dX6_trueOf_114 : decode cX6_trueOf 114 = .ok (.dup2, 1) := by decide +kernel
theorem dX6_trueOf_115 : decode cX6_trueOf 115 = .ok (.iaload, 1) := by decide +kernel
theorem dX6_trueOf_116 : decode cX6_trueOf 116 = .ok (.aload_n 0, 1) := by decide +kernel
theorem dX6_trueOf_117 : decode cX6_trueOf 117 = .ok (.getfield 21, 3) := by decide +kernel
theorem dX6_trueOf_120 : decode cX6_trueOf 120 = .ok (.iload_n 2, 1) := by decide +kernel
theorem dX6_trueOf_121 : decode cX6_trueOf 121 = .ok (.iaload, 1) := by decide +kernel
theorem dX6_trueOf_122 : decode cX6_trueOf 122 = .ok (.ior, 1) := by decide +kernel
theorem dX6_trueOf_123 : decode cX6_trueOf 123 = .ok (.iastore, 1) := by decide +kernel
theorem dX6_trueOf_124 : decode cX6_trueOf 124 = .ok (.iinc 2 (-1), 3) := by decide +kernel
theorem dX6_trueOf_127 : decode cX6_trueOf 127 = .ok (.goto 26, 3) := by decide +kernel
theorem dX6_trueOf_63 : decode cX6_trueOf 63 = .ok (.iload_n 2, 1) := by decide +kernel
theorem dX6_trueOf_64 : decode cX6_trueOf 64 = .ok (.iconst 1, 1) := by decide +kernel
theorem dX6_trueOf_65 : decode cX6_trueOf 65 = .ok (.if_icmp .lt 26, 3) := by decide +kernel
theorem dX6_trueOf_68 : decode cX6_trueOf 68 = .ok (.aload_n 0, 1) := by decide +kernel
theorem dX6_trueOf_69 : decode cX6_trueOf 69 = .ok (.getfield 21, 3) := by decide +kernel
theorem dX6_trueOf_72 : decode cX6_trueOf 72 = .ok (.iload_n 2, 1) := by decide +kernel
theorem dX6_trueOf_73 : decode cX6_trueOf 73 = .ok (.iconst 1, 1) := by decide +kernel
theorem dX6_trueOf_74 : decode cX6_trueOf 74 = .ok (.isub, 1) := by decide +kernel
theorem dX6_trueOf_75 : decode cX6_trueOf 75 = .ok (.dup2, 1) := by decide +kernel
theorem dX6_trueOf_76 : decode cX6_trueOf 76 = .ok (.iaload, 1) := by decide +kernel
theorem dX6_trueOf_77 : decode cX6_trueOf 77 = .ok (.aload_n 0, 1) := by decide +kernel
theorem dX6_trueOf_78 : decode cX6_trueOf 78 = .ok (.getfield 21, 3) := by decide +kernel
theorem dX6_trueOf_81 : decode cX6_trueOf 81 = .ok (.iload_n 2, 1) := by decide +kernel
theorem dX6_trueOf_82 : decode cX6_trueOf 82 = .ok (.iaload, 1) := by decide +kernel
theorem dX6_trueOf_83 : decode cX6_trueOf 83 = .ok (.iand, 1) := by decide +kernel
theorem dX6_trueOf_84 : decode cX6_trueOf 84 = .ok (.iastore, 1) := by decide +kernel
theorem dX6_trueOf_85 : decode cX6_trueOf 85 = .ok (.iinc 2 (-1), 3) := by decide +kernel
theorem dX6_trueOf_88 : decode cX6_trueOf 88 = .ok (.goto 65, 3) := by decide +kernel
theorem dX6_trueOf_23 : decode cX6_trueOf 23 = .ok (.iload_n 2, 1) := by decide +kernel
theorem dX6_trueOf_24 : decode cX6_trueOf 24 = .ok (.ifCond .lt 28, 3) := by decide +kernel
theorem dX6_trueOf_27 : decode cX6_trueOf 27 = .ok (.aload_n 0, 1) := by decide +kernel
theorem dX6_trueOf_28 : decode cX6_trueOf 28 = .ok (.getfield 21, 3) := by decide +kernel
theorem dX6_trueOf_31 : decode cX6_trueOf 31 = .ok (.iload_n 2, 1) := by decide +kernel
theorem dX6_trueOf_32 : decode cX6_trueOf 32 = .ok (.aload_n 1, 1) := by decide +kernel
theorem dX6_trueOf_33 : decode cX6_trueOf 33 = .ok (.getfield 101, 3) := by decide +kernel
theorem dX6_trueOf_36 : decode cX6_trueOf 36 = .ok (.invokevirtual 107, 3) := by decide +kernel
theorem t1314 : Cond.methodLink RX6 107 yX1_allMen ∈ GW := gw_mem 1428 (by decide +kernel) (by decide +kernel)
theorem cw_X6_107 {R : Room} {s : State} {args : Array Value} {rm : Room} {mc ms : Nat} (hts : ∀ w ∈ GW, w.before args s = true) (hrc : rm.cells = mc) (hrs : rm.slots = ms) (hR : rm.frames + 1 ≤ R.frames ∧ 8 + (1 + 11) + rm.locals ≤ R.locals) : CallW R s args RX6 RX1 107 yX1_allMen cX1_allMen 1 (some .int) (wl yX1_allMen cX1_allMen 1 (some .int)) rm mc ms 0 := cwV 0 hts (gi_V t1314 t863 t864 t16 t865) rfl hrc hrs (by decide +kernel) hR
theorem dX6_trueOf_39 : decode cX6_trueOf 39 = .ok (.aload_n 0, 1) := by decide +kernel
theorem dX6_trueOf_40 : decode cX6_trueOf 40 = .ok (.getfield 21, 3) := by decide +kernel
theorem dX6_trueOf_43 : decode cX6_trueOf 43 = .ok (.iload_n 2, 1) := by decide +kernel
theorem dX6_trueOf_44 : decode cX6_trueOf 44 = .ok (.iaload, 1) := by decide +kernel
theorem dX6_trueOf_45 : decode cX6_trueOf 45 = .ok (.iconst (-1), 1) := by decide +kernel
theorem dX6_trueOf_46 : decode cX6_trueOf 46 = .ok (.ixor, 1) := by decide +kernel
theorem dX6_trueOf_47 : decode cX6_trueOf 47 = .ok (.iand, 1) := by decide +kernel
theorem dX6_trueOf_48 : decode cX6_trueOf 48 = .ok (.iastore, 1) := by decide +kernel
theorem dX6_trueOf_49 : decode cX6_trueOf 49 = .ok (.goto 104, 3) := by decide +kernel
set_option maxHeartbeats 4000000 in
set_option maxRecDepth 100000 in
theorem g_trueOf (l : Launch) (dC : Nat → ClassId) (dI : Nat → Nat → Nat) (cy : Nat → ClassId) (sz : Nat) (vz : Nat) (vz1 : Nat) (vz2 : Nat) (vz3 : Nat) (vz4 : Nat) (vzs : Int32) (vzo : Int32) (vzf1 : Nat → Int32) (vzf2 : Nat → Int32) (vzf3 : Nat → Int32) (vzf4 : Nat → Int32) (vw : Nat) (vwc : Nat) (vwl : Nat) (vws : Nat) (vwc1 : Nat) (vwc2 : Nat) (vwc3 : Nat) (vwc4 : Nat) (vwc5 : Nat) (vwcm : Int32) (vwcd : Int32) (vwcr : Int32) (vwcw : Int32) (vwcf3 : Nat → Int32) (vwcf4 : Nat → Int32) (vwcf5 : Nat → Int32) (vwl1 : Nat) (vwl2 : Nat) (vwl3 : Nat) (vwl4 : Nat) (vwl5 : Nat) (vwl6 : Nat) (vwl7 : Nat) (vwl8 : Nat) (vwl9 : Nat) (vwl10 : Nat) (vwly : Int32) (vwlf2 : Nat → Int32) (vwlf3 : Nat → Int32) (vwlf4 : Nat → Int32) (vwlf5 : Nat → Int32) (vwlf6 : Nat → Int32) (vwlf1 : Nat → Int32) (r_vzs : 0 ≤ (vzs : Int32).toInt ∧ (vzs : Int32).toInt ≤ 40) (r_vwcm : 0 ≤ (vwcm : Int32).toInt ∧ (vwcm : Int32).toInt ≤ 7) (r_vwcd : 0 ≤ (vwcd : Int32).toInt ∧ (vwcd : Int32).toInt ≤ 10) (p_vwcf3 : Rg vwcf3 10 0 40) (p_vwlf2 : Rg vwlf2 70 0 9) (p_vwlf5 : Rg vwlf5 7 (-1) 9) (hs : SOK vzf1 vzf3) : Met l yX6_trueOf (wl yX6_trueOf cX6_trueOf 4 (some .int)) ({ frames := 6, cells := 0, slots := 0, locals := 384 }) (Pw (dC, dI) vwCl cy [(vz, .inr (7, [.ref vz1, .ref vz2, .ref vz3, .ref vz4, .int vzs, .int vzo])), (vz1, .inl (cy 0, 40, .inl vzf1)), (vz2, .inl (cy 0, 40, .inl vzf2)), (vz3, .inl (cy 0, 40, .inl vzf3)), (vz4, .inl (cy 0, 20, .inl vzf4)), (vw, .inr (10, [.ref vwc, .ref vwl, .ref vws])), (vwc, .inr (2, [.ref vwc1, .ref vwc2, .ref vwc3, .ref vwc4, .ref vwc5, .int vwcm, .int vwcd, .int vwcr, .int vwcw])), (vwc3, .inl (cy 0, 10, .inl vwcf3)), (vwc4, .inl (cy 2, 10, .inl vwcf4)), (vwc5, .inl (cy 0, 7, .inl vwcf5)), (vwl, .inr (5, [.ref vwl1, .ref vwl2, .ref vwl3, .ref vwl4, .ref vwl5, .ref vwl6, .ref vwl7, .ref vwl8, .ref vwl9, .ref vwl10, .int vwly])), (vwl2, .inl (cy 0, 70, .inl vwlf2)), (vwl3, .inl (cy 0, 49, .inl vwlf3)), (vwl4, .inl (cy 0, 7, .inl vwlf4)), (vwl5, .inl (cy 0, 7, .inl vwlf5)), (vwl6, .inl (cy 0, 7, .inl vwlf6)), (vwl1, .inl (cy 0, 7, .inl vwlf1))] sz [.ref vz, .ref vw] nE) (Qi (dC, dI) vwCl (fun (r : Int32) (u : (Nat → Int32)) => True) (O_g_trueOf cy vz vz1 vz2 vz3 vz4 vzs vzo vzf1 vzf2 vzf3 vzf4 vw vwc vwl vws vwc1 vwc2 vwc3 vwc4 vwc5 vwcm vwcd vwcr vwcw vwcf3 vwcf4 vwcf5 vwl1 vwl2 vwl3 vwl4 vwl5 vwl6 vwl7 vwl8 vwl9 vwl10 vwly vwlf2 vwlf3 vwlf4 vwlf5 vwlf6 vwlf1) (va_A [(vz, .inr (7, [.ref vz1, .ref vz2, .ref vz3, .ref vz4, .int vzs, .int vzo])), (vz1, .inl (cy 0, 40, .inl vzf1)), (vz2, .inl (cy 0, 40, .inl vzf2)), (vz3, .inl (cy 0, 40, .inl vzf3)), (vz4, .inl (cy 0, 20, .inl vzf4)), (vw, .inr (10, [.ref vwc, .ref vwl, .ref vws])), (vwc, .inr (2, [.ref vwc1, .ref vwc2, .ref vwc3, .ref vwc4, .ref vwc5, .int vwcm, .int vwcd, .int vwcr, .int vwcw])), (vwc3, .inl (cy 0, 10, .inl vwcf3)), (vwc4, .inl (cy 2, 10, .inl vwcf4)), (vwc5, .inl (cy 0, 7, .inl vwcf5)), (vwl, .inr (5, [.ref vwl1, .ref vwl2, .ref vwl3, .ref vwl4, .ref vwl5, .ref vwl6, .ref vwl7, .ref vwl8, .ref vwl9, .ref vwl10, .int vwly])), (vwl2, .inl (cy 0, 70, .inl vwlf2)), (vwl3, .inl (cy 0, 49, .inl vwlf3)), (vwl4, .inl (cy 0, 7, .inl vwlf4)), (vwl5, .inl (cy 0, 7, .inl vwlf5)), (vwl6, .inl (cy 0, 7, .inl vwlf6)), (vwl1, .inl (cy 0, 7, .inl vwlf1))] sz)) 0 0 (va_A [(vz, .inr (7, [.ref vz1, .ref vz2, .ref vz3, .ref vz4, .int vzs, .int vzo])), (vz1, .inl (cy 0, 40, .inl vzf1)), (vz2, .inl (cy 0, 40, .inl vzf2)), (vz3, .inl (cy 0, 40, .inl vzf3)), (vz4, .inl (cy 0, 20, .inl vzf4)), (vw, .inr (10, [.ref vwc, .ref vwl, .ref vws])), (vwc, .inr (2, [.ref vwc1, .ref vwc2, .ref vwc3, .ref vwc4, .ref vwc5, .int vwcm, .int vwcd, .int vwcr, .int vwcw])), (vwc3, .inl (cy 0, 10, .inl vwcf3)), (vwc4, .inl (cy 2, 10, .inl vwcf4)), (vwc5, .inl (cy 0, 7, .inl vwcf5)), (vwl, .inr (5, [.ref vwl1, .ref vwl2, .ref vwl3, .ref vwl4, .ref vwl5, .ref vwl6, .ref vwl7, .ref vwl8, .ref vwl9, .ref vwl10, .int vwly])), (vwl2, .inl (cy 0, 70, .inl vwlf2)), (vwl3, .inl (cy 0, 49, .inl vwlf3)), (vwl4, .inl (cy 0, 7, .inl vwlf4)), (vwl5, .inl (cy 0, 7, .inl vwlf5)), (vwl6, .inl (cy 0, 7, .inl vwlf6)), (vwl1, .inl (cy 0, 7, .inl vwlf1))] sz) := by
  refine mw (Qc := Qi (dC, dI) vwCl (fun (r : Int32) (u : (Nat → Int32)) => True) (O_g_trueOf cy vz vz1 vz2 vz3 vz4 vzs vzo vzf1 vzf2 vzf3 vzf4 vw vwc vwl vws vwc1 vwc2 vwc3 vwc4 vwc5 vwcm vwcd vwcr vwcw vwcf3 vwcf4 vwcf5 vwl1 vwl2 vwl3 vwl4 vwl5 vwl6 vwl7 vwl8 vwl9 vwl10 vwly vwlf2 vwlf3 vwlf4 vwlf5 vwlf6 vwlf1)) RX6 rfl (by decide +kernel) (Nat.le_of_ble_eq_true rfl) ?_
  intro p e s m below meth c A hx hb hr hlocks av9 hav hts hown hnm hml hK hP hD hA hS hE hAe Q9 hQ9 ls hl
  have hl : lv_has ls 4 [(0, .ref vz), (1, .ref vw)] := hl
  refine lv_iconst (v := (-1)) hx hb dX6_trueOf_0 (by decide) ?_
  refine lv_istore_n (lv' := [(2, .int (-1)), (0, .ref vz), (1, .ref vw)]) hx hb dX6_trueOf_1 rfl hl (by decide) rfl (fun ls hl => ?_)
  refine lv_iconst (v := 0) hx hb dX6_trueOf_2 (by decide) ?_
  refine lv_istore_n (lv' := [(3, .int 0), (2, .int (-1)), (0, .ref vz), (1, .ref vw)]) hx hb dX6_trueOf_3 rfl hl (by decide) rfl (fun ls hl => ?_)
  have loop1 : ∀ (n1 : Nat) (x_3 : Int32) (x_2 : Int32) (g_4 : Nat → Int32), (-1 ≤ x_3.toInt ∧ x_3.toInt ≤ 19) → (0 ≤ x_2.toInt ∧ x_2.toInt ≤ 40) → 40 - x_2.toInt < (n1 : Int) → ∀ (H : Heap) (locs : List Loc), va_P (dC, dI) vwCl [(vz, .inr (7, [.ref vz1, .ref vz2, .ref vz3, .ref vz4, .int vzs, .int vzo])), (vz1, .inl (cy 0, 40, .inl vzf1)), (vz2, .inl (cy 0, 40, .inl vzf2)), (vz3, .inl (cy 0, 40, .inl vzf3)), (vz4, .inl (cy 0, 20, .inl g_4)), (vw, .inr (10, [.ref vwc, .ref vwl, .ref vws])), (vwc, .inr (2, [.ref vwc1, .ref vwc2, .ref vwc3, .ref vwc4, .ref vwc5, .int vwcm, .int vwcd, .int vwcr, .int vwcw])), (vwc3, .inl (cy 0, 10, .inl vwcf3)), (vwc4, .inl (cy 2, 10, .inl vwcf4)), (vwc5, .inl (cy 0, 7, .inl vwcf5)), (vwl, .inr (5, [.ref vwl1, .ref vwl2, .ref vwl3, .ref vwl4, .ref vwl5, .ref vwl6, .ref vwl7, .ref vwl8, .ref vwl9, .ref vwl10, .int vwly])), (vwl2, .inl (cy 0, 70, .inl vwlf2)), (vwl3, .inl (cy 0, 49, .inl vwlf3)), (vwl4, .inl (cy 0, 7, .inl vwlf4)), (vwl5, .inl (cy 0, 7, .inl vwlf5)), (vwl6, .inl (cy 0, 7, .inl vwlf6)), (vwl1, .inl (cy 0, 7, .inl vwlf1))] H → va_D A [(vz, .inr (7, [.ref vz1, .ref vz2, .ref vz3, .ref vz4, .int vzs, .int vzo])), (vz1, .inl (cy 0, 40, .inl vzf1)), (vz2, .inl (cy 0, 40, .inl vzf2)), (vz3, .inl (cy 0, 40, .inl vzf3)), (vz4, .inl (cy 0, 20, .inl g_4)), (vw, .inr (10, [.ref vwc, .ref vwl, .ref vws])), (vwc, .inr (2, [.ref vwc1, .ref vwc2, .ref vwc3, .ref vwc4, .ref vwc5, .int vwcm, .int vwcd, .int vwcr, .int vwcw])), (vwc3, .inl (cy 0, 10, .inl vwcf3)), (vwc4, .inl (cy 2, 10, .inl vwcf4)), (vwc5, .inl (cy 0, 7, .inl vwcf5)), (vwl, .inr (5, [.ref vwl1, .ref vwl2, .ref vwl3, .ref vwl4, .ref vwl5, .ref vwl6, .ref vwl7, .ref vwl8, .ref vwl9, .ref vwl10, .int vwly])), (vwl2, .inl (cy 0, 70, .inl vwlf2)), (vwl3, .inl (cy 0, 49, .inl vwlf3)), (vwl4, .inl (cy 0, 7, .inl vwlf4)), (vwl5, .inl (cy 0, 7, .inl vwlf5)), (vwl6, .inl (cy 0, 7, .inl vwlf6)), (vwl1, .inl (cy 0, 7, .inl vwlf1))] → va_S A s.heap H locs → ∀ ls : Array Slot, lv_has ls 4 [(3, .int x_2), (2, .int x_3), (0, .ref vz), (1, .ref vw)] → W p l e ({ frames := 6, cells := 0, slots := 0, locals := 384 }) s m av9 below meth c H locs 0 0 Q9 (F0 m 4 ls []) := by
    intro n1
    induction n1 with
    | zero =>
      intro x_3 x_2 g_4 bx_3 bx_2 hn1 H locs hP hD hS ls hl
      exfalso; omega
    | succ n1 ih1 =>
      intro x_3 x_2 g_4 bx_3 bx_2 hn1 H locs hP hD hS ls hl
      refine lv_iload_n hx hb dX6_trueOf_4 rfl (lv_at hl 0 rfl) ?_
      refine lv_aload_n hx hb dX6_trueOf_5 rfl (lv_at hl 2 rfl) ?_
      refine gf_X6_24 hx hb hts hown hK hP 0 rfl rfl dX6_trueOf_6 ?_
      refine lv_icmp_ge (tgt := 159) hx hb dX6_trueOf_9 (by decide) (fun c_5 => ?_) (fun c_5 => ?_)
      · skip
        have c_5 : vzs.toInt ≤ x_2.toInt := i_le.mp c_5
        refine lv_iload_n hx hb dX6_trueOf_159 rfl (lv_at hl 1 rfl) ?_
        have k_0 : (0 : Int32).toInt = 0 := by decide
        refine lv_if_lt (tgt := 172) hx hb dX6_trueOf_160 (by decide) (fun c_6 => ?_) (fun c_6 => ?_)
        · skip
          have c_6 : x_3.toInt < (0 : Int32).toInt := i_lt.mp c_6
          refine lv_iconst (v := 0) hx hb dX6_trueOf_172 (by decide) ?_
          rw [hQ9]
          exact re_i g_4 hx hb hr hlocks trivial (hP.sub [0, 1, 2, 3, 4, 5, 6, 7, 8, 9, 10, 11, 12, 13, 14, 15, 16] rfl) (hD.sub [0, 1, 2, 3, 4, 5, 6, 7, 8, 9, 10, 11, 12, 13, 14, 15, 16] rfl rfl) hS dX6_trueOf_173
        · skip
          have c_6 : ¬ (x_3.toInt < (0 : Int32).toInt) := fun h9 => c_6 (i_lt.mpr h9)
          refine lv_aload_n hx hb dX6_trueOf_163 rfl (lv_at hl 2 rfl) ?_
          refine gf_X6_21 hx hb hts hown hK hP 0 rfl rfl dX6_trueOf_164 ?_
          refine lv_iload_n hx hb dX6_trueOf_167 rfl (lv_at hl 1 rfl) ?_
          have hin_7 : vp_in x_3 20 := vp_in_iff.mpr ⟨by omega, by omega⟩
          refine va_iald hx hb hK hP 4 0 rfl rfl hin_7 dX6_trueOf_168 ?_
          refine lv_topi (fun z_8 ez_8 => ?_)
          refine lv_goto (tgt := 173) hx hb dX6_trueOf_169 (by decide) ?_
          rw [hQ9]
          exact re_i g_4 hx hb hr hlocks trivial (hP.sub [0, 1, 2, 3, 4, 5, 6, 7, 8, 9, 10, 11, 12, 13, 14, 15, 16] rfl) (hD.sub [0, 1, 2, 3, 4, 5, 6, 7, 8, 9, 10, 11, 12, 13, 14, 15, 16] rfl rfl) hS dX6_trueOf_173
      · skip
        have c_5 : ¬ (vzs.toInt ≤ x_2.toInt) := fun h9 => c_5 (i_le.mpr h9)
        refine lv_aload_n hx hb dX6_trueOf_12 rfl (lv_at hl 2 rfl) ?_
        refine gf_X6_11 hx hb hts hown hK hP 0 rfl rfl dX6_trueOf_13 ?_
        refine lv_iload_n hx hb dX6_trueOf_16 rfl (lv_at hl 0 rfl) ?_
        have hin_9 : vp_in x_2 40 := vp_in_iff.mpr ⟨by omega, by omega⟩
        refine va_iald hx hb hK hP 1 0 rfl rfl hin_9 dX6_trueOf_17 ?_
        refine lv_topi (fun z_10 ez_10 => ?_)
        refine lv_bipush (v := 18) hx hb dX6_trueOf_18 (by decide) ?_
        have k_18 : (18 : Int32).toInt = 18 := by decide
        refine lv_icmp_ne (tgt := 52) hx hb dX6_trueOf_20 (by decide) (fun c_11 => ?_) (fun c_11 => ?_)
        · skip
          have c_11 : ¬ (z_10.toInt = (18 : Int32).toInt) := fun h9 => c_11 (i_eq.mpr h9)
          refine lv_aload_n hx hb dX6_trueOf_52 rfl (lv_at hl 2 rfl) ?_
          refine gf_X6_11 hx hb hts hown hK hP 0 rfl rfl dX6_trueOf_53 ?_
          refine lv_iload_n hx hb dX6_trueOf_56 rfl (lv_at hl 0 rfl) ?_
          have hin_12 : vp_in x_2 40 := vp_in_iff.mpr ⟨by omega, by omega⟩
          refine va_iald hx hb hK hP 1 0 rfl rfl hin_12 dX6_trueOf_57 ?_
          refine lv_topi (fun z_13 ez_13 => ?_)
          refine lv_bipush (v := 17) hx hb dX6_trueOf_58 (by decide) ?_
          have k_17 : (17 : Int32).toInt = 17 := by decide
          refine lv_icmp_ne (tgt := 91) hx hb dX6_trueOf_60 (by decide) (fun c_14 => ?_) (fun c_14 => ?_)
          · skip
            have c_14 : ¬ (z_13.toInt = (17 : Int32).toInt) := fun h9 => c_14 (i_eq.mpr h9)
            refine lv_aload_n hx hb dX6_trueOf_91 rfl (lv_at hl 2 rfl) ?_
            refine gf_X6_11 hx hb hts hown hK hP 0 rfl rfl dX6_trueOf_92 ?_
            refine lv_iload_n hx hb dX6_trueOf_95 rfl (lv_at hl 0 rfl) ?_
            have hin_15 : vp_in x_2 40 := vp_in_iff.mpr ⟨by omega, by omega⟩
            refine va_iald hx hb hK hP 1 0 rfl rfl hin_15 dX6_trueOf_96 ?_
            refine lv_topi (fun z_16 ez_16 => ?_)
            refine lv_bipush (v := 16) hx hb dX6_trueOf_97 (by decide) ?_
            have k_16 : (16 : Int32).toInt = 16 := by decide
            refine lv_icmp_ne (tgt := 130) hx hb dX6_trueOf_99 (by decide) (fun c_17 => ?_) (fun c_17 => ?_)
            · skip
              have c_17 : ¬ (z_16.toInt = (16 : Int32).toInt) := fun h9 => c_17 (i_eq.mpr h9)
              refine lv_iload_n hx hb dX6_trueOf_130 rfl (lv_at hl 1 rfl) ?_
              refine lv_iconst (v := 1) hx hb dX6_trueOf_131 (by decide) ?_
              refine lv_iadd hx hb dX6_trueOf_132 ?_
              refine lv_topi (fun z_18 ez_18 => ?_)
              have k_1 : (1 : Int32).toInt = 1 := by decide
              have bz_18 : z_18.toInt = x_3.toInt + (1 : Int32).toInt := i_add ez_18 (by omega) (by omega)
              refine lv_bipush (v := 20) hx hb dX6_trueOf_133 (by decide) ?_
              have k_20 : (20 : Int32).toInt = 20 := by decide
              refine lv_icmp_ge (tgt := 153) hx hb dX6_trueOf_135 (by decide) (fun c_19 => ?_) (fun c_19 => ?_)
              · skip
                have c_19 : (20 : Int32).toInt ≤ z_18.toInt := i_le.mp c_19
                obtain ⟨z_20, ez_20⟩ : ∃ z : Int32, z = x_2 + 1 := ⟨_, rfl⟩
                have bz_20 : z_20.toInt = x_2.toInt + (1 : Int32).toInt := i_add ez_20 (by omega) (by omega)
                refine lv_iinc (v := z_20) (lv' := [(3, .int z_20), (2, .int x_3), (0, .ref vz), (1, .ref vw)]) hx hb dX6_trueOf_153 hl (k := 0) rfl ez_20.symm (by decide) rfl (fun ls hl => ?_)
                refine lv_goto (tgt := 4) hx hb dX6_trueOf_156 (by decide) ?_
                exact ih1 x_3 z_20 g_4 ⟨by omega, by omega⟩ ⟨by omega, by omega⟩ (by omega) _ _ (hP.sub [0, 1, 2, 3, 4, 5, 6, 7, 8, 9, 10, 11, 12, 13, 14, 15, 16] rfl) (hD.sub [0, 1, 2, 3, 4, 5, 6, 7, 8, 9, 10, 11, 12, 13, 14, 15, 16] rfl rfl) hS ls (lv_sub hl [0, 1, 2, 3] rfl)
              · skip
                have c_19 : ¬ ((20 : Int32).toInt ≤ z_18.toInt) := fun h9 => c_19 (i_le.mpr h9)
                obtain ⟨z_21, ez_21⟩ : ∃ z : Int32, z = x_3 + 1 := ⟨_, rfl⟩
                have bz_21 : z_21.toInt = x_3.toInt + (1 : Int32).toInt := i_add ez_21 (by omega) (by omega)
                refine lv_iinc (v := z_21) (lv' := [(2, .int z_21), (3, .int x_2), (0, .ref vz), (1, .ref vw)]) hx hb dX6_trueOf_138 hl (k := 1) rfl ez_21.symm (by decide) rfl (fun ls hl => ?_)
                refine lv_aload_n hx hb dX6_trueOf_141 rfl (lv_at hl 2 rfl) ?_
                refine gf_X6_21 hx hb hts hown hK hP 0 rfl rfl dX6_trueOf_142 ?_
                refine lv_iload_n hx hb dX6_trueOf_145 rfl (lv_at hl 0 rfl) ?_
                refine lv_aload_n hx hb dX6_trueOf_146 rfl (lv_at hl 2 rfl) ?_
                refine lv_iload_n hx hb dX6_trueOf_147 rfl (lv_at hl 1 rfl) ?_
                refine lv_aload_n hx hb dX6_trueOf_148 rfl (lv_at hl 3 rfl) ?_
                refine jr_i (rVr (As := [.int x_2, .ref vw]) (rest := [.int z_21, .ref vz4]) (ci := 7) ⟨hx, hb, hml, hown, hts⟩ (g_plainTrueOf l dC dI cy vz vz1 vz2 vz3 vz4 vzs vzo vzf1 vzf2 vzf3 vw vwc vwl vws vwc1 vwc2 vwc3 vwc4 vwc5 vwcm vwcd vwcr vwcw vwcf3 vwcf4 vwcf5 vwl1 vwl2 vwl3 vwl4 vwl5 vwl6 vwl7 vwl8 vwl9 vwl10 vwly vwlf2 vwlf3 vwlf4 vwlf5 vwlf6 vwlf1 x_2 r_vzs r_vwcm r_vwcd ⟨by omega, by omega⟩ p_vwcf3 p_vwlf2 p_vwlf5 hs) (cw_X6_111 hts rfl rfl ⟨Nat.le_of_ble_eq_true rfl, Nat.le_of_ble_eq_true rfl⟩) hP hK [0, 1, 2, 3, 5, 6, 7, 8, 9, 10, 11, 12, 13, 14, 15, 16] rfl rfl rfl rfl hl.1 rfl (Nat.le_of_ble_eq_true rfl) dX6_trueOf_149 ⟨Nat.le_of_ble_eq_true rfl, Nat.le_of_ble_eq_true rfl⟩) hP hS (fun r_22 H locs hp_23 hP hS => ?_)
                have hin_24 : vp_in z_21 20 := vp_in_iff.mpr ⟨by omega, by omega⟩
                refine va_iast hx hb hK hP hD hS 4 0 rfl rfl hin_24 dX6_trueOf_152 (fun H locs hP hD hS => ?_)
                obtain ⟨f_25, ef_25⟩ : ∃ z : Nat → Int32, z = upd g_4 (Int32.toNatClampNeg z_21) r_22 := ⟨_, rfl⟩
                have hP : va_P (dC, dI) vwCl [(vz, .inr (7, [.ref vz1, .ref vz2, .ref vz3, .ref vz4, .int vzs, .int vzo])), (vz1, .inl (cy 0, 40, .inl vzf1)), (vz2, .inl (cy 0, 40, .inl vzf2)), (vz3, .inl (cy 0, 40, .inl vzf3)), (vz4, .inl (cy 0, 20, .inl f_25)), (vw, .inr (10, [.ref vwc, .ref vwl, .ref vws])), (vwc, .inr (2, [.ref vwc1, .ref vwc2, .ref vwc3, .ref vwc4, .ref vwc5, .int vwcm, .int vwcd, .int vwcr, .int vwcw])), (vwc3, .inl (cy 0, 10, .inl vwcf3)), (vwc4, .inl (cy 2, 10, .inl vwcf4)), (vwc5, .inl (cy 0, 7, .inl vwcf5)), (vwl, .inr (5, [.ref vwl1, .ref vwl2, .ref vwl3, .ref vwl4, .ref vwl5, .ref vwl6, .ref vwl7, .ref vwl8, .ref vwl9, .ref vwl10, .int vwly])), (vwl2, .inl (cy 0, 70, .inl vwlf2)), (vwl3, .inl (cy 0, 49, .inl vwlf3)), (vwl4, .inl (cy 0, 7, .inl vwlf4)), (vwl5, .inl (cy 0, 7, .inl vwlf5)), (vwl6, .inl (cy 0, 7, .inl vwlf6)), (vwl1, .inl (cy 0, 7, .inl vwlf1))] H := by rw [ef_25]; exact hP
                have hD : va_D A [(vz, .inr (7, [.ref vz1, .ref vz2, .ref vz3, .ref vz4, .int vzs, .int vzo])), (vz1, .inl (cy 0, 40, .inl vzf1)), (vz2, .inl (cy 0, 40, .inl vzf2)), (vz3, .inl (cy 0, 40, .inl vzf3)), (vz4, .inl (cy 0, 20, .inl f_25)), (vw, .inr (10, [.ref vwc, .ref vwl, .ref vws])), (vwc, .inr (2, [.ref vwc1, .ref vwc2, .ref vwc3, .ref vwc4, .ref vwc5, .int vwcm, .int vwcd, .int vwcr, .int vwcw])), (vwc3, .inl (cy 0, 10, .inl vwcf3)), (vwc4, .inl (cy 2, 10, .inl vwcf4)), (vwc5, .inl (cy 0, 7, .inl vwcf5)), (vwl, .inr (5, [.ref vwl1, .ref vwl2, .ref vwl3, .ref vwl4, .ref vwl5, .ref vwl6, .ref vwl7, .ref vwl8, .ref vwl9, .ref vwl10, .int vwly])), (vwl2, .inl (cy 0, 70, .inl vwlf2)), (vwl3, .inl (cy 0, 49, .inl vwlf3)), (vwl4, .inl (cy 0, 7, .inl vwlf4)), (vwl5, .inl (cy 0, 7, .inl vwlf5)), (vwl6, .inl (cy 0, 7, .inl vwlf6)), (vwl1, .inl (cy 0, 7, .inl vwlf1))] := by rw [ef_25]; exact hD
                obtain ⟨z_26, ez_26⟩ : ∃ z : Int32, z = x_2 + 1 := ⟨_, rfl⟩
                have bz_26 : z_26.toInt = x_2.toInt + (1 : Int32).toInt := i_add ez_26 (by omega) (by omega)
                refine lv_iinc (v := z_26) (lv' := [(3, .int z_26), (2, .int z_21), (0, .ref vz), (1, .ref vw)]) hx hb dX6_trueOf_153 hl (k := 1) rfl ez_26.symm (by decide) rfl (fun ls hl => ?_)
                refine lv_goto (tgt := 4) hx hb dX6_trueOf_156 (by decide) ?_
                exact ih1 z_21 z_26 f_25 ⟨by omega, by omega⟩ ⟨by omega, by omega⟩ (by omega) _ _ (hP.sub [0, 1, 2, 3, 4, 5, 6, 7, 8, 9, 10, 11, 12, 13, 14, 15, 16] rfl) (hD.sub [0, 1, 2, 3, 4, 5, 6, 7, 8, 9, 10, 11, 12, 13, 14, 15, 16] rfl rfl) hS ls (lv_sub hl [0, 1, 2, 3] rfl)
            · skip
              have c_17 : z_16.toInt = (16 : Int32).toInt := i_eq.mp c_17
              refine lv_iload_n hx hb dX6_trueOf_102 rfl (lv_at hl 1 rfl) ?_
              refine lv_iconst (v := 1) hx hb dX6_trueOf_103 (by decide) ?_
              have k_1 : (1 : Int32).toInt = 1 := by decide
              refine lv_icmp_lt (tgt := 130) hx hb dX6_trueOf_104 (by decide) (fun c_27 => ?_) (fun c_27 => ?_)
              · skip
                have c_27 : x_3.toInt < (1 : Int32).toInt := i_lt.mp c_27
                refine lv_iload_n hx hb dX6_trueOf_130 rfl (lv_at hl 1 rfl) ?_
                refine lv_iconst (v := 1) hx hb dX6_trueOf_131 (by decide) ?_
                refine lv_iadd hx hb dX6_trueOf_132 ?_
                refine lv_topi (fun z_28 ez_28 => ?_)
                have bz_28 : z_28.toInt = x_3.toInt + (1 : Int32).toInt := i_add ez_28 (by omega) (by omega)
                refine lv_bipush (v := 20) hx hb dX6_trueOf_133 (by decide) ?_
                have k_20 : (20 : Int32).toInt = 20 := by decide
                refine lv_icmp_ge (tgt := 153) hx hb dX6_trueOf_135 (by decide) (fun c9 => absurd (i_le.mp c9) (by omega)) (fun _ => ?_)
                obtain ⟨z_29, ez_29⟩ : ∃ z : Int32, z = x_3 + 1 := ⟨_, rfl⟩
                have bz_29 : z_29.toInt = x_3.toInt + (1 : Int32).toInt := i_add ez_29 (by omega) (by omega)
                refine lv_iinc (v := z_29) (lv' := [(2, .int z_29), (3, .int x_2), (0, .ref vz), (1, .ref vw)]) hx hb dX6_trueOf_138 hl (k := 1) rfl ez_29.symm (by decide) rfl (fun ls hl => ?_)
                refine lv_aload_n hx hb dX6_trueOf_141 rfl (lv_at hl 2 rfl) ?_
                refine gf_X6_21 hx hb hts hown hK hP 0 rfl rfl dX6_trueOf_142 ?_
                refine lv_iload_n hx hb dX6_trueOf_145 rfl (lv_at hl 0 rfl) ?_
                refine lv_aload_n hx hb dX6_trueOf_146 rfl (lv_at hl 2 rfl) ?_
                refine lv_iload_n hx hb dX6_trueOf_147 rfl (lv_at hl 1 rfl) ?_
                refine lv_aload_n hx hb dX6_trueOf_148 rfl (lv_at hl 3 rfl) ?_
                refine jr_i (rVr (As := [.int x_2, .ref vw]) (rest := [.int z_29, .ref vz4]) (ci := 7) ⟨hx, hb, hml, hown, hts⟩ (g_plainTrueOf l dC dI cy vz vz1 vz2 vz3 vz4 vzs vzo vzf1 vzf2 vzf3 vw vwc vwl vws vwc1 vwc2 vwc3 vwc4 vwc5 vwcm vwcd vwcr vwcw vwcf3 vwcf4 vwcf5 vwl1 vwl2 vwl3 vwl4 vwl5 vwl6 vwl7 vwl8 vwl9 vwl10 vwly vwlf2 vwlf3 vwlf4 vwlf5 vwlf6 vwlf1 x_2 r_vzs r_vwcm r_vwcd ⟨by omega, by omega⟩ p_vwcf3 p_vwlf2 p_vwlf5 hs) (cw_X6_111 hts rfl rfl ⟨Nat.le_of_ble_eq_true rfl, Nat.le_of_ble_eq_true rfl⟩) hP hK [0, 1, 2, 3, 5, 6, 7, 8, 9, 10, 11, 12, 13, 14, 15, 16] rfl rfl rfl rfl hl.1 rfl (Nat.le_of_ble_eq_true rfl) dX6_trueOf_149 ⟨Nat.le_of_ble_eq_true rfl, Nat.le_of_ble_eq_true rfl⟩) hP hS (fun r_30 H locs hp_31 hP hS => ?_)
                have hin_32 : vp_in z_29 20 := vp_in_iff.mpr ⟨by omega, by omega⟩
                refine va_iast hx hb hK hP hD hS 4 0 rfl rfl hin_32 dX6_trueOf_152 (fun H locs hP hD hS => ?_)
                obtain ⟨f_33, ef_33⟩ : ∃ z : Nat → Int32, z = upd g_4 (Int32.toNatClampNeg z_29) r_30 := ⟨_, rfl⟩
                have hP : va_P (dC, dI) vwCl [(vz, .inr (7, [.ref vz1, .ref vz2, .ref vz3, .ref vz4, .int vzs, .int vzo])), (vz1, .inl (cy 0, 40, .inl vzf1)), (vz2, .inl (cy 0, 40, .inl vzf2)), (vz3, .inl (cy 0, 40, .inl vzf3)), (vz4, .inl (cy 0, 20, .inl f_33)), (vw, .inr (10, [.ref vwc, .ref vwl, .ref vws])), (vwc, .inr (2, [.ref vwc1, .ref vwc2, .ref vwc3, .ref vwc4, .ref vwc5, .int vwcm, .int vwcd, .int vwcr, .int vwcw])), (vwc3, .inl (cy 0, 10, .inl vwcf3)), (vwc4, .inl (cy 2, 10, .inl vwcf4)), (vwc5, .inl (cy 0, 7, .inl vwcf5)), (vwl, .inr (5, [.ref vwl1, .ref vwl2, .ref vwl3, .ref vwl4, .ref vwl5, .ref vwl6, .ref vwl7, .ref vwl8, .ref vwl9, .ref vwl10, .int vwly])), (vwl2, .inl (cy 0, 70, .inl vwlf2)), (vwl3, .inl (cy 0, 49, .inl vwlf3)), (vwl4, .inl (cy 0, 7, .inl vwlf4)), (vwl5, .inl (cy 0, 7, .inl vwlf5)), (vwl6, .inl (cy 0, 7, .inl vwlf6)), (vwl1, .inl (cy 0, 7, .inl vwlf1))] H := by rw [ef_33]; exact hP
                have hD : va_D A [(vz, .inr (7, [.ref vz1, .ref vz2, .ref vz3, .ref vz4, .int vzs, .int vzo])), (vz1, .inl (cy 0, 40, .inl vzf1)), (vz2, .inl (cy 0, 40, .inl vzf2)), (vz3, .inl (cy 0, 40, .inl vzf3)), (vz4, .inl (cy 0, 20, .inl f_33)), (vw, .inr (10, [.ref vwc, .ref vwl, .ref vws])), (vwc, .inr (2, [.ref vwc1, .ref vwc2, .ref vwc3, .ref vwc4, .ref vwc5, .int vwcm, .int vwcd, .int vwcr, .int vwcw])), (vwc3, .inl (cy 0, 10, .inl vwcf3)), (vwc4, .inl (cy 2, 10, .inl vwcf4)), (vwc5, .inl (cy 0, 7, .inl vwcf5)), (vwl, .inr (5, [.ref vwl1, .ref vwl2, .ref vwl3, .ref vwl4, .ref vwl5, .ref vwl6, .ref vwl7, .ref vwl8, .ref vwl9, .ref vwl10, .int vwly])), (vwl2, .inl (cy 0, 70, .inl vwlf2)), (vwl3, .inl (cy 0, 49, .inl vwlf3)), (vwl4, .inl (cy 0, 7, .inl vwlf4)), (vwl5, .inl (cy 0, 7, .inl vwlf5)), (vwl6, .inl (cy 0, 7, .inl vwlf6)), (vwl1, .inl (cy 0, 7, .inl vwlf1))] := by rw [ef_33]; exact hD
                obtain ⟨z_34, ez_34⟩ : ∃ z : Int32, z = x_2 + 1 := ⟨_, rfl⟩
                have bz_34 : z_34.toInt = x_2.toInt + (1 : Int32).toInt := i_add ez_34 (by omega) (by omega)
                refine lv_iinc (v := z_34) (lv' := [(3, .int z_34), (2, .int z_29), (0, .ref vz), (1, .ref vw)]) hx hb dX6_trueOf_153 hl (k := 1) rfl ez_34.symm (by decide) rfl (fun ls hl => ?_)
                refine lv_goto (tgt := 4) hx hb dX6_trueOf_156 (by decide) ?_
                exact ih1 z_29 z_34 f_33 ⟨by omega, by omega⟩ ⟨by omega, by omega⟩ (by omega) _ _ (hP.sub [0, 1, 2, 3, 4, 5, 6, 7, 8, 9, 10, 11, 12, 13, 14, 15, 16] rfl) (hD.sub [0, 1, 2, 3, 4, 5, 6, 7, 8, 9, 10, 11, 12, 13, 14, 15, 16] rfl rfl) hS ls (lv_sub hl [0, 1, 2, 3] rfl)
              · skip
                have c_27 : ¬ (x_3.toInt < (1 : Int32).toInt) := fun h9 => c_27 (i_lt.mpr h9)
                refine lv_aload_n hx hb dX6_trueOf_107 rfl (lv_at hl 2 rfl) ?_
                refine gf_X6_21 hx hb hts hown hK hP 0 rfl rfl dX6_trueOf_108 ?_
                refine lv_iload_n hx hb dX6_trueOf_111 rfl (lv_at hl 1 rfl) ?_
                refine lv_iconst (v := 1) hx hb dX6_trueOf_112 (by decide) ?_
                refine lv_isub hx hb dX6_trueOf_113 ?_
                refine lv_topi (fun z_35 ez_35 => ?_)
                have bz_35 : z_35.toInt = x_3.toInt - (1 : Int32).toInt := i_sub ez_35 (by omega) (by omega)
                refine lv_dup2_11 hx hb dX6_trueOf_114 rfl rfl ?_
                have hin_36 : vp_in z_35 20 := vp_in_iff.mpr ⟨by omega, by omega⟩
                refine va_iald hx hb hK hP 4 0 rfl rfl hin_36 dX6_trueOf_115 ?_
                refine lv_topi (fun z_37 ez_37 => ?_)
                refine lv_aload_n hx hb dX6_trueOf_116 rfl (lv_at hl 2 rfl) ?_
                refine gf_X6_21 hx hb hts hown hK hP 0 rfl rfl dX6_trueOf_117 ?_
                refine lv_iload_n hx hb dX6_trueOf_120 rfl (lv_at hl 1 rfl) ?_
                have hin_38 : vp_in x_3 20 := vp_in_iff.mpr ⟨by omega, by omega⟩
                refine va_iald hx hb hK hP 4 0 rfl rfl hin_38 dX6_trueOf_121 ?_
                refine lv_topi (fun z_39 ez_39 => ?_)
                refine lv_ior hx hb dX6_trueOf_122 ?_
                refine lv_topi (fun z_40 ez_40 => ?_)
                have hin_41 : vp_in z_35 20 := vp_in_iff.mpr ⟨by omega, by omega⟩
                refine va_iast hx hb hK hP hD hS 4 0 rfl rfl hin_41 dX6_trueOf_123 (fun H locs hP hD hS => ?_)
                obtain ⟨f_42, ef_42⟩ : ∃ z : Nat → Int32, z = upd g_4 (Int32.toNatClampNeg z_35) z_40 := ⟨_, rfl⟩
                have hP : va_P (dC, dI) vwCl [(vz, .inr (7, [.ref vz1, .ref vz2, .ref vz3, .ref vz4, .int vzs, .int vzo])), (vz1, .inl (cy 0, 40, .inl vzf1)), (vz2, .inl (cy 0, 40, .inl vzf2)), (vz3, .inl (cy 0, 40, .inl vzf3)), (vz4, .inl (cy 0, 20, .inl f_42)), (vw, .inr (10, [.ref vwc, .ref vwl, .ref vws])), (vwc, .inr (2, [.ref vwc1, .ref vwc2, .ref vwc3, .ref vwc4, .ref vwc5, .int vwcm, .int vwcd, .int vwcr, .int vwcw])), (vwc3, .inl (cy 0, 10, .inl vwcf3)), (vwc4, .inl (cy 2, 10, .inl vwcf4)), (vwc5, .inl (cy 0, 7, .inl vwcf5)), (vwl, .inr (5, [.ref vwl1, .ref vwl2, .ref vwl3, .ref vwl4, .ref vwl5, .ref vwl6, .ref vwl7, .ref vwl8, .ref vwl9, .ref vwl10, .int vwly])), (vwl2, .inl (cy 0, 70, .inl vwlf2)), (vwl3, .inl (cy 0, 49, .inl vwlf3)), (vwl4, .inl (cy 0, 7, .inl vwlf4)), (vwl5, .inl (cy 0, 7, .inl vwlf5)), (vwl6, .inl (cy 0, 7, .inl vwlf6)), (vwl1, .inl (cy 0, 7, .inl vwlf1))] H := by rw [ef_42]; exact hP
                have hD : va_D A [(vz, .inr (7, [.ref vz1, .ref vz2, .ref vz3, .ref vz4, .int vzs, .int vzo])), (vz1, .inl (cy 0, 40, .inl vzf1)), (vz2, .inl (cy 0, 40, .inl vzf2)), (vz3, .inl (cy 0, 40, .inl vzf3)), (vz4, .inl (cy 0, 20, .inl f_42)), (vw, .inr (10, [.ref vwc, .ref vwl, .ref vws])), (vwc, .inr (2, [.ref vwc1, .ref vwc2, .ref vwc3, .ref vwc4, .ref vwc5, .int vwcm, .int vwcd, .int vwcr, .int vwcw])), (vwc3, .inl (cy 0, 10, .inl vwcf3)), (vwc4, .inl (cy 2, 10, .inl vwcf4)), (vwc5, .inl (cy 0, 7, .inl vwcf5)), (vwl, .inr (5, [.ref vwl1, .ref vwl2, .ref vwl3, .ref vwl4, .ref vwl5, .ref vwl6, .ref vwl7, .ref vwl8, .ref vwl9, .ref vwl10, .int vwly])), (vwl2, .inl (cy 0, 70, .inl vwlf2)), (vwl3, .inl (cy 0, 49, .inl vwlf3)), (vwl4, .inl (cy 0, 7, .inl vwlf4)), (vwl5, .inl (cy 0, 7, .inl vwlf5)), (vwl6, .inl (cy 0, 7, .inl vwlf6)), (vwl1, .inl (cy 0, 7, .inl vwlf1))] := by rw [ef_42]; exact hD
                obtain ⟨z_43, ez_43⟩ : ∃ z : Int32, z = x_3 + (-1) := ⟨_, rfl⟩
                have k_m1 : ((-1) : Int32).toInt = (-1) := by decide
                have bz_43 : z_43.toInt = x_3.toInt + ((-1) : Int32).toInt := i_add ez_43 (by omega) (by omega)
                refine lv_iinc (v := z_43) (lv' := [(2, .int z_43), (3, .int x_2), (0, .ref vz), (1, .ref vw)]) hx hb dX6_trueOf_124 hl (k := 1) rfl ez_43.symm (by decide) rfl (fun ls hl => ?_)
                refine lv_goto (tgt := 153) hx hb dX6_trueOf_127 (by decide) ?_
                obtain ⟨z_44, ez_44⟩ : ∃ z : Int32, z = x_2 + 1 := ⟨_, rfl⟩
                have bz_44 : z_44.toInt = x_2.toInt + (1 : Int32).toInt := i_add ez_44 (by omega) (by omega)
                refine lv_iinc (v := z_44) (lv' := [(3, .int z_44), (2, .int z_43), (0, .ref vz), (1, .ref vw)]) hx hb dX6_trueOf_153 hl (k := 1) rfl ez_44.symm (by decide) rfl (fun ls hl => ?_)
                refine lv_goto (tgt := 4) hx hb dX6_trueOf_156 (by decide) ?_
                exact ih1 z_43 z_44 f_42 ⟨by omega, by omega⟩ ⟨by omega, by omega⟩ (by omega) _ _ (hP.sub [0, 1, 2, 3, 4, 5, 6, 7, 8, 9, 10, 11, 12, 13, 14, 15, 16] rfl) (hD.sub [0, 1, 2, 3, 4, 5, 6, 7, 8, 9, 10, 11, 12, 13, 14, 15, 16] rfl rfl) hS ls (lv_sub hl [0, 1, 2, 3] rfl)
          · skip
            have c_14 : z_13.toInt = (17 : Int32).toInt := i_eq.mp c_14
            refine lv_iload_n hx hb dX6_trueOf_63 rfl (lv_at hl 1 rfl) ?_
            refine lv_iconst (v := 1) hx hb dX6_trueOf_64 (by decide) ?_
            have k_1 : (1 : Int32).toInt = 1 := by decide
            refine lv_icmp_lt (tgt := 91) hx hb dX6_trueOf_65 (by decide) (fun c_45 => ?_) (fun c_45 => ?_)
            · skip
              have c_45 : x_3.toInt < (1 : Int32).toInt := i_lt.mp c_45
              refine lv_aload_n hx hb dX6_trueOf_91 rfl (lv_at hl 2 rfl) ?_
              refine gf_X6_11 hx hb hts hown hK hP 0 rfl rfl dX6_trueOf_92 ?_
              refine lv_iload_n hx hb dX6_trueOf_95 rfl (lv_at hl 0 rfl) ?_
              have hin_46 : vp_in x_2 40 := vp_in_iff.mpr ⟨by omega, by omega⟩
              refine va_iald hx hb hK hP 1 0 rfl rfl hin_46 dX6_trueOf_96 ?_
              refine lv_topi (fun z_47 ez_47 => ?_)
              refine lv_bipush (v := 16) hx hb dX6_trueOf_97 (by decide) ?_
              have k_16 : (16 : Int32).toInt = 16 := by decide
              refine lv_icmp_ne (tgt := 130) hx hb dX6_trueOf_99 (by decide) (fun c_48 => ?_) (fun c_48 => ?_)
              · skip
                have c_48 : ¬ (z_47.toInt = (16 : Int32).toInt) := fun h9 => c_48 (i_eq.mpr h9)
                refine lv_iload_n hx hb dX6_trueOf_130 rfl (lv_at hl 1 rfl) ?_
                refine lv_iconst (v := 1) hx hb dX6_trueOf_131 (by decide) ?_
                refine lv_iadd hx hb dX6_trueOf_132 ?_
                refine lv_topi (fun z_49 ez_49 => ?_)
                have bz_49 : z_49.toInt = x_3.toInt + (1 : Int32).toInt := i_add ez_49 (by omega) (by omega)
                refine lv_bipush (v := 20) hx hb dX6_trueOf_133 (by decide) ?_
                have k_20 : (20 : Int32).toInt = 20 := by decide
                refine lv_icmp_ge (tgt := 153) hx hb dX6_trueOf_135 (by decide) (fun c9 => absurd (i_le.mp c9) (by omega)) (fun _ => ?_)
                obtain ⟨z_50, ez_50⟩ : ∃ z : Int32, z = x_3 + 1 := ⟨_, rfl⟩
                have bz_50 : z_50.toInt = x_3.toInt + (1 : Int32).toInt := i_add ez_50 (by omega) (by omega)
                refine lv_iinc (v := z_50) (lv' := [(2, .int z_50), (3, .int x_2), (0, .ref vz), (1, .ref vw)]) hx hb dX6_trueOf_138 hl (k := 1) rfl ez_50.symm (by decide) rfl (fun ls hl => ?_)
                refine lv_aload_n hx hb dX6_trueOf_141 rfl (lv_at hl 2 rfl) ?_
                refine gf_X6_21 hx hb hts hown hK hP 0 rfl rfl dX6_trueOf_142 ?_
                refine lv_iload_n hx hb dX6_trueOf_145 rfl (lv_at hl 0 rfl) ?_
                refine lv_aload_n hx hb dX6_trueOf_146 rfl (lv_at hl 2 rfl) ?_
                refine lv_iload_n hx hb dX6_trueOf_147 rfl (lv_at hl 1 rfl) ?_
                refine lv_aload_n hx hb dX6_trueOf_148 rfl (lv_at hl 3 rfl) ?_
                refine jr_i (rVr (As := [.int x_2, .ref vw]) (rest := [.int z_50, .ref vz4]) (ci := 7) ⟨hx, hb, hml, hown, hts⟩ (g_plainTrueOf l dC dI cy vz vz1 vz2 vz3 vz4 vzs vzo vzf1 vzf2 vzf3 vw vwc vwl vws vwc1 vwc2 vwc3 vwc4 vwc5 vwcm vwcd vwcr vwcw vwcf3 vwcf4 vwcf5 vwl1 vwl2 vwl3 vwl4 vwl5 vwl6 vwl7 vwl8 vwl9 vwl10 vwly vwlf2 vwlf3 vwlf4 vwlf5 vwlf6 vwlf1 x_2 r_vzs r_vwcm r_vwcd ⟨by omega, by omega⟩ p_vwcf3 p_vwlf2 p_vwlf5 hs) (cw_X6_111 hts rfl rfl ⟨Nat.le_of_ble_eq_true rfl, Nat.le_of_ble_eq_true rfl⟩) hP hK [0, 1, 2, 3, 5, 6, 7, 8, 9, 10, 11, 12, 13, 14, 15, 16] rfl rfl rfl rfl hl.1 rfl (Nat.le_of_ble_eq_true rfl) dX6_trueOf_149 ⟨Nat.le_of_ble_eq_true rfl, Nat.le_of_ble_eq_true rfl⟩) hP hS (fun r_51 H locs hp_52 hP hS => ?_)
                have hin_53 : vp_in z_50 20 := vp_in_iff.mpr ⟨by omega, by omega⟩
                refine va_iast hx hb hK hP hD hS 4 0 rfl rfl hin_53 dX6_trueOf_152 (fun H locs hP hD hS => ?_)
                obtain ⟨f_54, ef_54⟩ : ∃ z : Nat → Int32, z = upd g_4 (Int32.toNatClampNeg z_50) r_51 := ⟨_, rfl⟩
                have hP : va_P (dC, dI) vwCl [(vz, .inr (7, [.ref vz1, .ref vz2, .ref vz3, .ref vz4, .int vzs, .int vzo])), (vz1, .inl (cy 0, 40, .inl vzf1)), (vz2, .inl (cy 0, 40, .inl vzf2)), (vz3, .inl (cy 0, 40, .inl vzf3)), (vz4, .inl (cy 0, 20, .inl f_54)), (vw, .inr (10, [.ref vwc, .ref vwl, .ref vws])), (vwc, .inr (2, [.ref vwc1, .ref vwc2, .ref vwc3, .ref vwc4, .ref vwc5, .int vwcm, .int vwcd, .int vwcr, .int vwcw])), (vwc3, .inl (cy 0, 10, .inl vwcf3)), (vwc4, .inl (cy 2, 10, .inl vwcf4)), (vwc5, .inl (cy 0, 7, .inl vwcf5)), (vwl, .inr (5, [.ref vwl1, .ref vwl2, .ref vwl3, .ref vwl4, .ref vwl5, .ref vwl6, .ref vwl7, .ref vwl8, .ref vwl9, .ref vwl10, .int vwly])), (vwl2, .inl (cy 0, 70, .inl vwlf2)), (vwl3, .inl (cy 0, 49, .inl vwlf3)), (vwl4, .inl (cy 0, 7, .inl vwlf4)), (vwl5, .inl (cy 0, 7, .inl vwlf5)), (vwl6, .inl (cy 0, 7, .inl vwlf6)), (vwl1, .inl (cy 0, 7, .inl vwlf1))] H := by rw [ef_54]; exact hP
                have hD : va_D A [(vz, .inr (7, [.ref vz1, .ref vz2, .ref vz3, .ref vz4, .int vzs, .int vzo])), (vz1, .inl (cy 0, 40, .inl vzf1)), (vz2, .inl (cy 0, 40, .inl vzf2)), (vz3, .inl (cy 0, 40, .inl vzf3)), (vz4, .inl (cy 0, 20, .inl f_54)), (vw, .inr (10, [.ref vwc, .ref vwl, .ref vws])), (vwc, .inr (2, [.ref vwc1, .ref vwc2, .ref vwc3, .ref vwc4, .ref vwc5, .int vwcm, .int vwcd, .int vwcr, .int vwcw])), (vwc3, .inl (cy 0, 10, .inl vwcf3)), (vwc4, .inl (cy 2, 10, .inl vwcf4)), (vwc5, .inl (cy 0, 7, .inl vwcf5)), (vwl, .inr (5, [.ref vwl1, .ref vwl2, .ref vwl3, .ref vwl4, .ref vwl5, .ref vwl6, .ref vwl7, .ref vwl8, .ref vwl9, .ref vwl10, .int vwly])), (vwl2, .inl (cy 0, 70, .inl vwlf2)), (vwl3, .inl (cy 0, 49, .inl vwlf3)), (vwl4, .inl (cy 0, 7, .inl vwlf4)), (vwl5, .inl (cy 0, 7, .inl vwlf5)), (vwl6, .inl (cy 0, 7, .inl vwlf6)), (vwl1, .inl (cy 0, 7, .inl vwlf1))] := by rw [ef_54]; exact hD
                obtain ⟨z_55, ez_55⟩ : ∃ z : Int32, z = x_2 + 1 := ⟨_, rfl⟩
                have bz_55 : z_55.toInt = x_2.toInt + (1 : Int32).toInt := i_add ez_55 (by omega) (by omega)
                refine lv_iinc (v := z_55) (lv' := [(3, .int z_55), (2, .int z_50), (0, .ref vz), (1, .ref vw)]) hx hb dX6_trueOf_153 hl (k := 1) rfl ez_55.symm (by decide) rfl (fun ls hl => ?_)
                refine lv_goto (tgt := 4) hx hb dX6_trueOf_156 (by decide) ?_
                exact ih1 z_50 z_55 f_54 ⟨by omega, by omega⟩ ⟨by omega, by omega⟩ (by omega) _ _ (hP.sub [0, 1, 2, 3, 4, 5, 6, 7, 8, 9, 10, 11, 12, 13, 14, 15, 16] rfl) (hD.sub [0, 1, 2, 3, 4, 5, 6, 7, 8, 9, 10, 11, 12, 13, 14, 15, 16] rfl rfl) hS ls (lv_sub hl [0, 1, 2, 3] rfl)
              · skip
                have c_48 : z_47.toInt = (16 : Int32).toInt := i_eq.mp c_48
                refine lv_iload_n hx hb dX6_trueOf_102 rfl (lv_at hl 1 rfl) ?_
                refine lv_iconst (v := 1) hx hb dX6_trueOf_103 (by decide) ?_
                refine lv_icmp_lt (tgt := 130) hx hb dX6_trueOf_104 (by decide) (fun _ => ?_) (fun c9 => (c9 (i_lt.mpr (by omega))).elim)
                refine lv_iload_n hx hb dX6_trueOf_130 rfl (lv_at hl 1 rfl) ?_
                refine lv_iconst (v := 1) hx hb dX6_trueOf_131 (by decide) ?_
                refine lv_iadd hx hb dX6_trueOf_132 ?_
                refine lv_topi (fun z_56 ez_56 => ?_)
                have bz_56 : z_56.toInt = x_3.toInt + (1 : Int32).toInt := i_add ez_56 (by omega) (by omega)
                refine lv_bipush (v := 20) hx hb dX6_trueOf_133 (by decide) ?_
                have k_20 : (20 : Int32).toInt = 20 := by decide
                refine lv_icmp_ge (tgt := 153) hx hb dX6_trueOf_135 (by decide) (fun c9 => absurd (i_le.mp c9) (by omega)) (fun _ => ?_)
                obtain ⟨z_57, ez_57⟩ : ∃ z : Int32, z = x_3 + 1 := ⟨_, rfl⟩
                have bz_57 : z_57.toInt = x_3.toInt + (1 : Int32).toInt := i_add ez_57 (by omega) (by omega)
                refine lv_iinc (v := z_57) (lv' := [(2, .int z_57), (3, .int x_2), (0, .ref vz), (1, .ref vw)]) hx hb dX6_trueOf_138 hl (k := 1) rfl ez_57.symm (by decide) rfl (fun ls hl => ?_)
                refine lv_aload_n hx hb dX6_trueOf_141 rfl (lv_at hl 2 rfl) ?_
                refine gf_X6_21 hx hb hts hown hK hP 0 rfl rfl dX6_trueOf_142 ?_
                refine lv_iload_n hx hb dX6_trueOf_145 rfl (lv_at hl 0 rfl) ?_
                refine lv_aload_n hx hb dX6_trueOf_146 rfl (lv_at hl 2 rfl) ?_
                refine lv_iload_n hx hb dX6_trueOf_147 rfl (lv_at hl 1 rfl) ?_
                refine lv_aload_n hx hb dX6_trueOf_148 rfl (lv_at hl 3 rfl) ?_
                refine jr_i (rVr (As := [.int x_2, .ref vw]) (rest := [.int z_57, .ref vz4]) (ci := 7) ⟨hx, hb, hml, hown, hts⟩ (g_plainTrueOf l dC dI cy vz vz1 vz2 vz3 vz4 vzs vzo vzf1 vzf2 vzf3 vw vwc vwl vws vwc1 vwc2 vwc3 vwc4 vwc5 vwcm vwcd vwcr vwcw vwcf3 vwcf4 vwcf5 vwl1 vwl2 vwl3 vwl4 vwl5 vwl6 vwl7 vwl8 vwl9 vwl10 vwly vwlf2 vwlf3 vwlf4 vwlf5 vwlf6 vwlf1 x_2 r_vzs r_vwcm r_vwcd ⟨by omega, by omega⟩ p_vwcf3 p_vwlf2 p_vwlf5 hs) (cw_X6_111 hts rfl rfl ⟨Nat.le_of_ble_eq_true rfl, Nat.le_of_ble_eq_true rfl⟩) hP hK [0, 1, 2, 3, 5, 6, 7, 8, 9, 10, 11, 12, 13, 14, 15, 16] rfl rfl rfl rfl hl.1 rfl (Nat.le_of_ble_eq_true rfl) dX6_trueOf_149 ⟨Nat.le_of_ble_eq_true rfl, Nat.le_of_ble_eq_true rfl⟩) hP hS (fun r_58 H locs hp_59 hP hS => ?_)
                have hin_60 : vp_in z_57 20 := vp_in_iff.mpr ⟨by omega, by omega⟩
                refine va_iast hx hb hK hP hD hS 4 0 rfl rfl hin_60 dX6_trueOf_152 (fun H locs hP hD hS => ?_)
                obtain ⟨f_61, ef_61⟩ : ∃ z : Nat → Int32, z = upd g_4 (Int32.toNatClampNeg z_57) r_58 := ⟨_, rfl⟩
                have hP : va_P (dC, dI) vwCl [(vz, .inr (7, [.ref vz1, .ref vz2, .ref vz3, .ref vz4, .int vzs, .int vzo])), (vz1, .inl (cy 0, 40, .inl vzf1)), (vz2, .inl (cy 0, 40, .inl vzf2)), (vz3, .inl (cy 0, 40, .inl vzf3)), (vz4, .inl (cy 0, 20, .inl f_61)), (vw, .inr (10, [.ref vwc, .ref vwl, .ref vws])), (vwc, .inr (2, [.ref vwc1, .ref vwc2, .ref vwc3, .ref vwc4, .ref vwc5, .int vwcm, .int vwcd, .int vwcr, .int vwcw])), (vwc3, .inl (cy 0, 10, .inl vwcf3)), (vwc4, .inl (cy 2, 10, .inl vwcf4)), (vwc5, .inl (cy 0, 7, .inl vwcf5)), (vwl, .inr (5, [.ref vwl1, .ref vwl2, .ref vwl3, .ref vwl4, .ref vwl5, .ref vwl6, .ref vwl7, .ref vwl8, .ref vwl9, .ref vwl10, .int vwly])), (vwl2, .inl (cy 0, 70, .inl vwlf2)), (vwl3, .inl (cy 0, 49, .inl vwlf3)), (vwl4, .inl (cy 0, 7, .inl vwlf4)), (vwl5, .inl (cy 0, 7, .inl vwlf5)), (vwl6, .inl (cy 0, 7, .inl vwlf6)), (vwl1, .inl (cy 0, 7, .inl vwlf1))] H := by rw [ef_61]; exact hP
                have hD : va_D A [(vz, .inr (7, [.ref vz1, .ref vz2, .ref vz3, .ref vz4, .int vzs, .int vzo])), (vz1, .inl (cy 0, 40, .inl vzf1)), (vz2, .inl (cy 0, 40, .inl vzf2)), (vz3, .inl (cy 0, 40, .inl vzf3)), (vz4, .inl (cy 0, 20, .inl f_61)), (vw, .inr (10, [.ref vwc, .ref vwl, .ref vws])), (vwc, .inr (2, [.ref vwc1, .ref vwc2, .ref vwc3, .ref vwc4, .ref vwc5, .int vwcm, .int vwcd, .int vwcr, .int vwcw])), (vwc3, .inl (cy 0, 10, .inl vwcf3)), (vwc4, .inl (cy 2, 10, .inl vwcf4)), (vwc5, .inl (cy 0, 7, .inl vwcf5)), (vwl, .inr (5, [.ref vwl1, .ref vwl2, .ref vwl3, .ref vwl4, .ref vwl5, .ref vwl6, .ref vwl7, .ref vwl8, .ref vwl9, .ref vwl10, .int vwly])), (vwl2, .inl (cy 0, 70, .inl vwlf2)), (vwl3, .inl (cy 0, 49, .inl vwlf3)), (vwl4, .inl (cy 0, 7, .inl vwlf4)), (vwl5, .inl (cy 0, 7, .inl vwlf5)), (vwl6, .inl (cy 0, 7, .inl vwlf6)), (vwl1, .inl (cy 0, 7, .inl vwlf1))] := by rw [ef_61]; exact hD
                obtain ⟨z_62, ez_62⟩ : ∃ z : Int32, z = x_2 + 1 := ⟨_, rfl⟩
                have bz_62 : z_62.toInt = x_2.toInt + (1 : Int32).toInt := i_add ez_62 (by omega) (by omega)
                refine lv_iinc (v := z_62) (lv' := [(3, .int z_62), (2, .int z_57), (0, .ref vz), (1, .ref vw)]) hx hb dX6_trueOf_153 hl (k := 1) rfl ez_62.symm (by decide) rfl (fun ls hl => ?_)
                refine lv_goto (tgt := 4) hx hb dX6_trueOf_156 (by decide) ?_
                exact ih1 z_57 z_62 f_61 ⟨by omega, by omega⟩ ⟨by omega, by omega⟩ (by omega) _ _ (hP.sub [0, 1, 2, 3, 4, 5, 6, 7, 8, 9, 10, 11, 12, 13, 14, 15, 16] rfl) (hD.sub [0, 1, 2, 3, 4, 5, 6, 7, 8, 9, 10, 11, 12, 13, 14, 15, 16] rfl rfl) hS ls (lv_sub hl [0, 1, 2, 3] rfl)
            · skip
              have c_45 : ¬ (x_3.toInt < (1 : Int32).toInt) := fun h9 => c_45 (i_lt.mpr h9)
              refine lv_aload_n hx hb dX6_trueOf_68 rfl (lv_at hl 2 rfl) ?_
              refine gf_X6_21 hx hb hts hown hK hP 0 rfl rfl dX6_trueOf_69 ?_
              refine lv_iload_n hx hb dX6_trueOf_72 rfl (lv_at hl 1 rfl) ?_
              refine lv_iconst (v := 1) hx hb dX6_trueOf_73 (by decide) ?_
              refine lv_isub hx hb dX6_trueOf_74 ?_
              refine lv_topi (fun z_63 ez_63 => ?_)
              have bz_63 : z_63.toInt = x_3.toInt - (1 : Int32).toInt := i_sub ez_63 (by omega) (by omega)
              refine lv_dup2_11 hx hb dX6_trueOf_75 rfl rfl ?_
              have hin_64 : vp_in z_63 20 := vp_in_iff.mpr ⟨by omega, by omega⟩
              refine va_iald hx hb hK hP 4 0 rfl rfl hin_64 dX6_trueOf_76 ?_
              refine lv_topi (fun z_65 ez_65 => ?_)
              refine lv_aload_n hx hb dX6_trueOf_77 rfl (lv_at hl 2 rfl) ?_
              refine gf_X6_21 hx hb hts hown hK hP 0 rfl rfl dX6_trueOf_78 ?_
              refine lv_iload_n hx hb dX6_trueOf_81 rfl (lv_at hl 1 rfl) ?_
              have hin_66 : vp_in x_3 20 := vp_in_iff.mpr ⟨by omega, by omega⟩
              refine va_iald hx hb hK hP 4 0 rfl rfl hin_66 dX6_trueOf_82 ?_
              refine lv_topi (fun z_67 ez_67 => ?_)
              refine lv_iand hx hb dX6_trueOf_83 ?_
              refine lv_topi (fun z_68 ez_68 => ?_)
              have hin_69 : vp_in z_63 20 := vp_in_iff.mpr ⟨by omega, by omega⟩
              refine va_iast hx hb hK hP hD hS 4 0 rfl rfl hin_69 dX6_trueOf_84 (fun H locs hP hD hS => ?_)
              obtain ⟨f_70, ef_70⟩ : ∃ z : Nat → Int32, z = upd g_4 (Int32.toNatClampNeg z_63) z_68 := ⟨_, rfl⟩
              have hP : va_P (dC, dI) vwCl [(vz, .inr (7, [.ref vz1, .ref vz2, .ref vz3, .ref vz4, .int vzs, .int vzo])), (vz1, .inl (cy 0, 40, .inl vzf1)), (vz2, .inl (cy 0, 40, .inl vzf2)), (vz3, .inl (cy 0, 40, .inl vzf3)), (vz4, .inl (cy 0, 20, .inl f_70)), (vw, .inr (10, [.ref vwc, .ref vwl, .ref vws])), (vwc, .inr (2, [.ref vwc1, .ref vwc2, .ref vwc3, .ref vwc4, .ref vwc5, .int vwcm, .int vwcd, .int vwcr, .int vwcw])), (vwc3, .inl (cy 0, 10, .inl vwcf3)), (vwc4, .inl (cy 2, 10, .inl vwcf4)), (vwc5, .inl (cy 0, 7, .inl vwcf5)), (vwl, .inr (5, [.ref vwl1, .ref vwl2, .ref vwl3, .ref vwl4, .ref vwl5, .ref vwl6, .ref vwl7, .ref vwl8, .ref vwl9, .ref vwl10, .int vwly])), (vwl2, .inl (cy 0, 70, .inl vwlf2)), (vwl3, .inl (cy 0, 49, .inl vwlf3)), (vwl4, .inl (cy 0, 7, .inl vwlf4)), (vwl5, .inl (cy 0, 7, .inl vwlf5)), (vwl6, .inl (cy 0, 7, .inl vwlf6)), (vwl1, .inl (cy 0, 7, .inl vwlf1))] H := by rw [ef_70]; exact hP
              have hD : va_D A [(vz, .inr (7, [.ref vz1, .ref vz2, .ref vz3, .ref vz4, .int vzs, .int vzo])), (vz1, .inl (cy 0, 40, .inl vzf1)), (vz2, .inl (cy 0, 40, .inl vzf2)), (vz3, .inl (cy 0, 40, .inl vzf3)), (vz4, .inl (cy 0, 20, .inl f_70)), (vw, .inr (10, [.ref vwc, .ref vwl, .ref vws])), (vwc, .inr (2, [.ref vwc1, .ref vwc2, .ref vwc3, .ref vwc4, .ref vwc5, .int vwcm, .int vwcd, .int vwcr, .int vwcw])), (vwc3, .inl (cy 0, 10, .inl vwcf3)), (vwc4, .inl (cy 2, 10, .inl vwcf4)), (vwc5, .inl (cy 0, 7, .inl vwcf5)), (vwl, .inr (5, [.ref vwl1, .ref vwl2, .ref vwl3, .ref vwl4, .ref vwl5, .ref vwl6, .ref vwl7, .ref vwl8, .ref vwl9, .ref vwl10, .int vwly])), (vwl2, .inl (cy 0, 70, .inl vwlf2)), (vwl3, .inl (cy 0, 49, .inl vwlf3)), (vwl4, .inl (cy 0, 7, .inl vwlf4)), (vwl5, .inl (cy 0, 7, .inl vwlf5)), (vwl6, .inl (cy 0, 7, .inl vwlf6)), (vwl1, .inl (cy 0, 7, .inl vwlf1))] := by rw [ef_70]; exact hD
              obtain ⟨z_71, ez_71⟩ : ∃ z : Int32, z = x_3 + (-1) := ⟨_, rfl⟩
              have k_m1 : ((-1) : Int32).toInt = (-1) := by decide
              have bz_71 : z_71.toInt = x_3.toInt + ((-1) : Int32).toInt := i_add ez_71 (by omega) (by omega)
              refine lv_iinc (v := z_71) (lv' := [(2, .int z_71), (3, .int x_2), (0, .ref vz), (1, .ref vw)]) hx hb dX6_trueOf_85 hl (k := 1) rfl ez_71.symm (by decide) rfl (fun ls hl => ?_)
              refine lv_goto (tgt := 153) hx hb dX6_trueOf_88 (by decide) ?_
              obtain ⟨z_72, ez_72⟩ : ∃ z : Int32, z = x_2 + 1 := ⟨_, rfl⟩
              have bz_72 : z_72.toInt = x_2.toInt + (1 : Int32).toInt := i_add ez_72 (by omega) (by omega)
              refine lv_iinc (v := z_72) (lv' := [(3, .int z_72), (2, .int z_71), (0, .ref vz), (1, .ref vw)]) hx hb dX6_trueOf_153 hl (k := 1) rfl ez_72.symm (by decide) rfl (fun ls hl => ?_)
              refine lv_goto (tgt := 4) hx hb dX6_trueOf_156 (by decide) ?_
              exact ih1 z_71 z_72 f_70 ⟨by omega, by omega⟩ ⟨by omega, by omega⟩ (by omega) _ _ (hP.sub [0, 1, 2, 3, 4, 5, 6, 7, 8, 9, 10, 11, 12, 13, 14, 15, 16] rfl) (hD.sub [0, 1, 2, 3, 4, 5, 6, 7, 8, 9, 10, 11, 12, 13, 14, 15, 16] rfl rfl) hS ls (lv_sub hl [0, 1, 2, 3] rfl)
        · skip
          have c_11 : z_10.toInt = (18 : Int32).toInt := i_eq.mp c_11
          refine lv_iload_n hx hb dX6_trueOf_23 rfl (lv_at hl 1 rfl) ?_
          have k_0 : (0 : Int32).toInt = 0 := by decide
          refine lv_if_lt (tgt := 52) hx hb dX6_trueOf_24 (by decide) (fun c_73 => ?_) (fun c_73 => ?_)
          · skip
            have c_73 : x_3.toInt < (0 : Int32).toInt := i_lt.mp c_73
            refine lv_aload_n hx hb dX6_trueOf_52 rfl (lv_at hl 2 rfl) ?_
            refine gf_X6_11 hx hb hts hown hK hP 0 rfl rfl dX6_trueOf_53 ?_
            refine lv_iload_n hx hb dX6_trueOf_56 rfl (lv_at hl 0 rfl) ?_
            have hin_74 : vp_in x_2 40 := vp_in_iff.mpr ⟨by omega, by omega⟩
            refine va_iald hx hb hK hP 1 0 rfl rfl hin_74 dX6_trueOf_57 ?_
            refine lv_topi (fun z_75 ez_75 => ?_)
            refine lv_bipush (v := 17) hx hb dX6_trueOf_58 (by decide) ?_
            have k_17 : (17 : Int32).toInt = 17 := by decide
            refine lv_icmp_ne (tgt := 91) hx hb dX6_trueOf_60 (by decide) (fun c_76 => ?_) (fun c_76 => ?_)
            · skip
              have c_76 : ¬ (z_75.toInt = (17 : Int32).toInt) := fun h9 => c_76 (i_eq.mpr h9)
              refine lv_aload_n hx hb dX6_trueOf_91 rfl (lv_at hl 2 rfl) ?_
              refine gf_X6_11 hx hb hts hown hK hP 0 rfl rfl dX6_trueOf_92 ?_
              refine lv_iload_n hx hb dX6_trueOf_95 rfl (lv_at hl 0 rfl) ?_
              have hin_77 : vp_in x_2 40 := vp_in_iff.mpr ⟨by omega, by omega⟩
              refine va_iald hx hb hK hP 1 0 rfl rfl hin_77 dX6_trueOf_96 ?_
              refine lv_topi (fun z_78 ez_78 => ?_)
              refine lv_bipush (v := 16) hx hb dX6_trueOf_97 (by decide) ?_
              have k_16 : (16 : Int32).toInt = 16 := by decide
              refine lv_icmp_ne (tgt := 130) hx hb dX6_trueOf_99 (by decide) (fun c_79 => ?_) (fun c_79 => ?_)
              · skip
                have c_79 : ¬ (z_78.toInt = (16 : Int32).toInt) := fun h9 => c_79 (i_eq.mpr h9)
                refine lv_iload_n hx hb dX6_trueOf_130 rfl (lv_at hl 1 rfl) ?_
                refine lv_iconst (v := 1) hx hb dX6_trueOf_131 (by decide) ?_
                refine lv_iadd hx hb dX6_trueOf_132 ?_
                refine lv_topi (fun z_80 ez_80 => ?_)
                have k_1 : (1 : Int32).toInt = 1 := by decide
                have bz_80 : z_80.toInt = x_3.toInt + (1 : Int32).toInt := i_add ez_80 (by omega) (by omega)
                refine lv_bipush (v := 20) hx hb dX6_trueOf_133 (by decide) ?_
                have k_20 : (20 : Int32).toInt = 20 := by decide
                refine lv_icmp_ge (tgt := 153) hx hb dX6_trueOf_135 (by decide) (fun c9 => absurd (i_le.mp c9) (by omega)) (fun _ => ?_)
                obtain ⟨z_81, ez_81⟩ : ∃ z : Int32, z = x_3 + 1 := ⟨_, rfl⟩
                have bz_81 : z_81.toInt = x_3.toInt + (1 : Int32).toInt := i_add ez_81 (by omega) (by omega)
                refine lv_iinc (v := z_81) (lv' := [(2, .int z_81), (3, .int x_2), (0, .ref vz), (1, .ref vw)]) hx hb dX6_trueOf_138 hl (k := 1) rfl ez_81.symm (by decide) rfl (fun ls hl => ?_)
                refine lv_aload_n hx hb dX6_trueOf_141 rfl (lv_at hl 2 rfl) ?_
                refine gf_X6_21 hx hb hts hown hK hP 0 rfl rfl dX6_trueOf_142 ?_
                refine lv_iload_n hx hb dX6_trueOf_145 rfl (lv_at hl 0 rfl) ?_
                refine lv_aload_n hx hb dX6_trueOf_146 rfl (lv_at hl 2 rfl) ?_
                refine lv_iload_n hx hb dX6_trueOf_147 rfl (lv_at hl 1 rfl) ?_
                refine lv_aload_n hx hb dX6_trueOf_148 rfl (lv_at hl 3 rfl) ?_
                refine jr_i (rVr (As := [.int x_2, .ref vw]) (rest := [.int z_81, .ref vz4]) (ci := 7) ⟨hx, hb, hml, hown, hts⟩ (g_plainTrueOf l dC dI cy vz vz1 vz2 vz3 vz4 vzs vzo vzf1 vzf2 vzf3 vw vwc vwl vws vwc1 vwc2 vwc3 vwc4 vwc5 vwcm vwcd vwcr vwcw vwcf3 vwcf4 vwcf5 vwl1 vwl2 vwl3 vwl4 vwl5 vwl6 vwl7 vwl8 vwl9 vwl10 vwly vwlf2 vwlf3 vwlf4 vwlf5 vwlf6 vwlf1 x_2 r_vzs r_vwcm r_vwcd ⟨by omega, by omega⟩ p_vwcf3 p_vwlf2 p_vwlf5 hs) (cw_X6_111 hts rfl rfl ⟨Nat.le_of_ble_eq_true rfl, Nat.le_of_ble_eq_true rfl⟩) hP hK [0, 1, 2, 3, 5, 6, 7, 8, 9, 10, 11, 12, 13, 14, 15, 16] rfl rfl rfl rfl hl.1 rfl (Nat.le_of_ble_eq_true rfl) dX6_trueOf_149 ⟨Nat.le_of_ble_eq_true rfl, Nat.le_of_ble_eq_true rfl⟩) hP hS (fun r_82 H locs hp_83 hP hS => ?_)
                have hin_84 : vp_in z_81 20 := vp_in_iff.mpr ⟨by omega, by omega⟩
                refine va_iast hx hb hK hP hD hS 4 0 rfl rfl hin_84 dX6_trueOf_152 (fun H locs hP hD hS => ?_)
                obtain ⟨f_85, ef_85⟩ : ∃ z : Nat → Int32, z = upd g_4 (Int32.toNatClampNeg z_81) r_82 := ⟨_, rfl⟩
                have hP : va_P (dC, dI) vwCl [(vz, .inr (7, [.ref vz1, .ref vz2, .ref vz3, .ref vz4, .int vzs, .int vzo])), (vz1, .inl (cy 0, 40, .inl vzf1)), (vz2, .inl (cy 0, 40, .inl vzf2)), (vz3, .inl (cy 0, 40, .inl vzf3)), (vz4, .inl (cy 0, 20, .inl f_85)), (vw, .inr (10, [.ref vwc, .ref vwl, .ref vws])), (vwc, .inr (2, [.ref vwc1, .ref vwc2, .ref vwc3, .ref vwc4, .ref vwc5, .int vwcm, .int vwcd, .int vwcr, .int vwcw])), (vwc3, .inl (cy 0, 10, .inl vwcf3)), (vwc4, .inl (cy 2, 10, .inl vwcf4)), (vwc5, .inl (cy 0, 7, .inl vwcf5)), (vwl, .inr (5, [.ref vwl1, .ref vwl2, .ref vwl3, .ref vwl4, .ref vwl5, .ref vwl6, .ref vwl7, .ref vwl8, .ref vwl9, .ref vwl10, .int vwly])), (vwl2, .inl (cy 0, 70, .inl vwlf2)), (vwl3, .inl (cy 0, 49, .inl vwlf3)), (vwl4, .inl (cy 0, 7, .inl vwlf4)), (vwl5, .inl (cy 0, 7, .inl vwlf5)), (vwl6, .inl (cy 0, 7, .inl vwlf6)), (vwl1, .inl (cy 0, 7, .inl vwlf1))] H := by rw [ef_85]; exact hP
                have hD : va_D A [(vz, .inr (7, [.ref vz1, .ref vz2, .ref vz3, .ref vz4, .int vzs, .int vzo])), (vz1, .inl (cy 0, 40, .inl vzf1)), (vz2, .inl (cy 0, 40, .inl vzf2)), (vz3, .inl (cy 0, 40, .inl vzf3)), (vz4, .inl (cy 0, 20, .inl f_85)), (vw, .inr (10, [.ref vwc, .ref vwl, .ref vws])), (vwc, .inr (2, [.ref vwc1, .ref vwc2, .ref vwc3, .ref vwc4, .ref vwc5, .int vwcm, .int vwcd, .int vwcr, .int vwcw])), (vwc3, .inl (cy 0, 10, .inl vwcf3)), (vwc4, .inl (cy 2, 10, .inl vwcf4)), (vwc5, .inl (cy 0, 7, .inl vwcf5)), (vwl, .inr (5, [.ref vwl1, .ref vwl2, .ref vwl3, .ref vwl4, .ref vwl5, .ref vwl6, .ref vwl7, .ref vwl8, .ref vwl9, .ref vwl10, .int vwly])), (vwl2, .inl (cy 0, 70, .inl vwlf2)), (vwl3, .inl (cy 0, 49, .inl vwlf3)), (vwl4, .inl (cy 0, 7, .inl vwlf4)), (vwl5, .inl (cy 0, 7, .inl vwlf5)), (vwl6, .inl (cy 0, 7, .inl vwlf6)), (vwl1, .inl (cy 0, 7, .inl vwlf1))] := by rw [ef_85]; exact hD
                obtain ⟨z_86, ez_86⟩ : ∃ z : Int32, z = x_2 + 1 := ⟨_, rfl⟩
                have bz_86 : z_86.toInt = x_2.toInt + (1 : Int32).toInt := i_add ez_86 (by omega) (by omega)
                refine lv_iinc (v := z_86) (lv' := [(3, .int z_86), (2, .int z_81), (0, .ref vz), (1, .ref vw)]) hx hb dX6_trueOf_153 hl (k := 1) rfl ez_86.symm (by decide) rfl (fun ls hl => ?_)
                refine lv_goto (tgt := 4) hx hb dX6_trueOf_156 (by decide) ?_
                exact ih1 z_81 z_86 f_85 ⟨by omega, by omega⟩ ⟨by omega, by omega⟩ (by omega) _ _ (hP.sub [0, 1, 2, 3, 4, 5, 6, 7, 8, 9, 10, 11, 12, 13, 14, 15, 16] rfl) (hD.sub [0, 1, 2, 3, 4, 5, 6, 7, 8, 9, 10, 11, 12, 13, 14, 15, 16] rfl rfl) hS ls (lv_sub hl [0, 1, 2, 3] rfl)
              · skip
                have c_79 : z_78.toInt = (16 : Int32).toInt := i_eq.mp c_79
                refine lv_iload_n hx hb dX6_trueOf_102 rfl (lv_at hl 1 rfl) ?_
                refine lv_iconst (v := 1) hx hb dX6_trueOf_103 (by decide) ?_
                have k_1 : (1 : Int32).toInt = 1 := by decide
                refine lv_icmp_lt (tgt := 130) hx hb dX6_trueOf_104 (by decide) (fun _ => ?_) (fun c9 => (c9 (i_lt.mpr (by omega))).elim)
                refine lv_iload_n hx hb dX6_trueOf_130 rfl (lv_at hl 1 rfl) ?_
                refine lv_iconst (v := 1) hx hb dX6_trueOf_131 (by decide) ?_
                refine lv_iadd hx hb dX6_trueOf_132 ?_
                refine lv_topi (fun z_87 ez_87 => ?_)
                have bz_87 : z_87.toInt = x_3.toInt + (1 : Int32).toInt := i_add ez_87 (by omega) (by omega)
                refine lv_bipush (v := 20) hx hb dX6_trueOf_133 (by decide) ?_
                have k_20 : (20 : Int32).toInt = 20 := by decide
                refine lv_icmp_ge (tgt := 153) hx hb dX6_trueOf_135 (by decide) (fun c9 => absurd (i_le.mp c9) (by omega)) (fun _ => ?_)
                obtain ⟨z_88, ez_88⟩ : ∃ z : Int32, z = x_3 + 1 := ⟨_, rfl⟩
                have bz_88 : z_88.toInt = x_3.toInt + (1 : Int32).toInt := i_add ez_88 (by omega) (by omega)
                refine lv_iinc (v := z_88) (lv' := [(2, .int z_88), (3, .int x_2), (0, .ref vz), (1, .ref vw)]) hx hb dX6_trueOf_138 hl (k := 1) rfl ez_88.symm (by decide) rfl (fun ls hl => ?_)
                refine lv_aload_n hx hb dX6_trueOf_141 rfl (lv_at hl 2 rfl) ?_
                refine gf_X6_21 hx hb hts hown hK hP 0 rfl rfl dX6_trueOf_142 ?_
                refine lv_iload_n hx hb dX6_trueOf_145 rfl (lv_at hl 0 rfl) ?_
                refine lv_aload_n hx hb dX6_trueOf_146 rfl (lv_at hl 2 rfl) ?_
                refine lv_iload_n hx hb dX6_trueOf_147 rfl (lv_at hl 1 rfl) ?_
                refine lv_aload_n hx hb dX6_trueOf_148 rfl (lv_at hl 3 rfl) ?_
                refine jr_i (rVr (As := [.int x_2, .ref vw]) (rest := [.int z_88, .ref vz4]) (ci := 7) ⟨hx, hb, hml, hown, hts⟩ (g_plainTrueOf l dC dI cy vz vz1 vz2 vz3 vz4 vzs vzo vzf1 vzf2 vzf3 vw vwc vwl vws vwc1 vwc2 vwc3 vwc4 vwc5 vwcm vwcd vwcr vwcw vwcf3 vwcf4 vwcf5 vwl1 vwl2 vwl3 vwl4 vwl5 vwl6 vwl7 vwl8 vwl9 vwl10 vwly vwlf2 vwlf3 vwlf4 vwlf5 vwlf6 vwlf1 x_2 r_vzs r_vwcm r_vwcd ⟨by omega, by omega⟩ p_vwcf3 p_vwlf2 p_vwlf5 hs) (cw_X6_111 hts rfl rfl ⟨Nat.le_of_ble_eq_true rfl, Nat.le_of_ble_eq_true rfl⟩) hP hK [0, 1, 2, 3, 5, 6, 7, 8, 9, 10, 11, 12, 13, 14, 15, 16] rfl rfl rfl rfl hl.1 rfl (Nat.le_of_ble_eq_true rfl) dX6_trueOf_149 ⟨Nat.le_of_ble_eq_true rfl, Nat.le_of_ble_eq_true rfl⟩) hP hS (fun r_89 H locs hp_90 hP hS => ?_)
                have hin_91 : vp_in z_88 20 := vp_in_iff.mpr ⟨by omega, by omega⟩
                refine va_iast hx hb hK hP hD hS 4 0 rfl rfl hin_91 dX6_trueOf_152 (fun H locs hP hD hS => ?_)
                obtain ⟨f_92, ef_92⟩ : ∃ z : Nat → Int32, z = upd g_4 (Int32.toNatClampNeg z_88) r_89 := ⟨_, rfl⟩
                have hP : va_P (dC, dI) vwCl [(vz, .inr (7, [.ref vz1, .ref vz2, .ref vz3, .ref vz4, .int vzs, .int vzo])), (vz1, .inl (cy 0, 40, .inl vzf1)), (vz2, .inl (cy 0, 40, .inl vzf2)), (vz3, .inl (cy 0, 40, .inl vzf3)), (vz4, .inl (cy 0, 20, .inl f_92)), (vw, .inr (10, [.ref vwc, .ref vwl, .ref vws])), (vwc, .inr (2, [.ref vwc1, .ref vwc2, .ref vwc3, .ref vwc4, .ref vwc5, .int vwcm, .int vwcd, .int vwcr, .int vwcw])), (vwc3, .inl (cy 0, 10, .inl vwcf3)), (vwc4, .inl (cy 2, 10, .inl vwcf4)), (vwc5, .inl (cy 0, 7, .inl vwcf5)), (vwl, .inr (5, [.ref vwl1, .ref vwl2, .ref vwl3, .ref vwl4, .ref vwl5, .ref vwl6, .ref vwl7, .ref vwl8, .ref vwl9, .ref vwl10, .int vwly])), (vwl2, .inl (cy 0, 70, .inl vwlf2)), (vwl3, .inl (cy 0, 49, .inl vwlf3)), (vwl4, .inl (cy 0, 7, .inl vwlf4)), (vwl5, .inl (cy 0, 7, .inl vwlf5)), (vwl6, .inl (cy 0, 7, .inl vwlf6)), (vwl1, .inl (cy 0, 7, .inl vwlf1))] H := by rw [ef_92]; exact hP
                have hD : va_D A [(vz, .inr (7, [.ref vz1, .ref vz2, .ref vz3, .ref vz4, .int vzs, .int vzo])), (vz1, .inl (cy 0, 40, .inl vzf1)), (vz2, .inl (cy 0, 40, .inl vzf2)), (vz3, .inl (cy 0, 40, .inl vzf3)), (vz4, .inl (cy 0, 20, .inl f_92)), (vw, .inr (10, [.ref vwc, .ref vwl, .ref vws])), (vwc, .inr (2, [.ref vwc1, .ref vwc2, .ref vwc3, .ref vwc4, .ref vwc5, .int vwcm, .int vwcd, .int vwcr, .int vwcw])), (vwc3, .inl (cy 0, 10, .inl vwcf3)), (vwc4, .inl (cy 2, 10, .inl vwcf4)), (vwc5, .inl (cy 0, 7, .inl vwcf5)), (vwl, .inr (5, [.ref vwl1, .ref vwl2, .ref vwl3, .ref vwl4, .ref vwl5, .ref vwl6, .ref vwl7, .ref vwl8, .ref vwl9, .ref vwl10, .int vwly])), (vwl2, .inl (cy 0, 70, .inl vwlf2)), (vwl3, .inl (cy 0, 49, .inl vwlf3)), (vwl4, .inl (cy 0, 7, .inl vwlf4)), (vwl5, .inl (cy 0, 7, .inl vwlf5)), (vwl6, .inl (cy 0, 7, .inl vwlf6)), (vwl1, .inl (cy 0, 7, .inl vwlf1))] := by rw [ef_92]; exact hD
                obtain ⟨z_93, ez_93⟩ : ∃ z : Int32, z = x_2 + 1 := ⟨_, rfl⟩
                have bz_93 : z_93.toInt = x_2.toInt + (1 : Int32).toInt := i_add ez_93 (by omega) (by omega)
                refine lv_iinc (v := z_93) (lv' := [(3, .int z_93), (2, .int z_88), (0, .ref vz), (1, .ref vw)]) hx hb dX6_trueOf_153 hl (k := 1) rfl ez_93.symm (by decide) rfl (fun ls hl => ?_)
                refine lv_goto (tgt := 4) hx hb dX6_trueOf_156 (by decide) ?_
                exact ih1 z_88 z_93 f_92 ⟨by omega, by omega⟩ ⟨by omega, by omega⟩ (by omega) _ _ (hP.sub [0, 1, 2, 3, 4, 5, 6, 7, 8, 9, 10, 11, 12, 13, 14, 15, 16] rfl) (hD.sub [0, 1, 2, 3, 4, 5, 6, 7, 8, 9, 10, 11, 12, 13, 14, 15, 16] rfl rfl) hS ls (lv_sub hl [0, 1, 2, 3] rfl)
            · skip
              have c_76 : z_75.toInt = (17 : Int32).toInt := i_eq.mp c_76
              refine lv_iload_n hx hb dX6_trueOf_63 rfl (lv_at hl 1 rfl) ?_
              refine lv_iconst (v := 1) hx hb dX6_trueOf_64 (by decide) ?_
              have k_1 : (1 : Int32).toInt = 1 := by decide
              refine lv_icmp_lt (tgt := 91) hx hb dX6_trueOf_65 (by decide) (fun _ => ?_) (fun c9 => (c9 (i_lt.mpr (by omega))).elim)
              refine lv_aload_n hx hb dX6_trueOf_91 rfl (lv_at hl 2 rfl) ?_
              refine gf_X6_11 hx hb hts hown hK hP 0 rfl rfl dX6_trueOf_92 ?_
              refine lv_iload_n hx hb dX6_trueOf_95 rfl (lv_at hl 0 rfl) ?_
              have hin_94 : vp_in x_2 40 := vp_in_iff.mpr ⟨by omega, by omega⟩
              refine va_iald hx hb hK hP 1 0 rfl rfl hin_94 dX6_trueOf_96 ?_
              refine lv_topi (fun z_95 ez_95 => ?_)
              refine lv_bipush (v := 16) hx hb dX6_trueOf_97 (by decide) ?_
              have k_16 : (16 : Int32).toInt = 16 := by decide
              refine lv_icmp_ne (tgt := 130) hx hb dX6_trueOf_99 (by decide) (fun c_96 => ?_) (fun c_96 => ?_)
              · skip
                have c_96 : ¬ (z_95.toInt = (16 : Int32).toInt) := fun h9 => c_96 (i_eq.mpr h9)
                refine lv_iload_n hx hb dX6_trueOf_130 rfl (lv_at hl 1 rfl) ?_
                refine lv_iconst (v := 1) hx hb dX6_trueOf_131 (by decide) ?_
                refine lv_iadd hx hb dX6_trueOf_132 ?_
                refine lv_topi (fun z_97 ez_97 => ?_)
                have bz_97 : z_97.toInt = x_3.toInt + (1 : Int32).toInt := i_add ez_97 (by omega) (by omega)
                refine lv_bipush (v := 20) hx hb dX6_trueOf_133 (by decide) ?_
                have k_20 : (20 : Int32).toInt = 20 := by decide
                refine lv_icmp_ge (tgt := 153) hx hb dX6_trueOf_135 (by decide) (fun c9 => absurd (i_le.mp c9) (by omega)) (fun _ => ?_)
                obtain ⟨z_98, ez_98⟩ : ∃ z : Int32, z = x_3 + 1 := ⟨_, rfl⟩
                have bz_98 : z_98.toInt = x_3.toInt + (1 : Int32).toInt := i_add ez_98 (by omega) (by omega)
                refine lv_iinc (v := z_98) (lv' := [(2, .int z_98), (3, .int x_2), (0, .ref vz), (1, .ref vw)]) hx hb dX6_trueOf_138 hl (k := 1) rfl ez_98.symm (by decide) rfl (fun ls hl => ?_)
                refine lv_aload_n hx hb dX6_trueOf_141 rfl (lv_at hl 2 rfl) ?_
                refine gf_X6_21 hx hb hts hown hK hP 0 rfl rfl dX6_trueOf_142 ?_
                refine lv_iload_n hx hb dX6_trueOf_145 rfl (lv_at hl 0 rfl) ?_
                refine lv_aload_n hx hb dX6_trueOf_146 rfl (lv_at hl 2 rfl) ?_
                refine lv_iload_n hx hb dX6_trueOf_147 rfl (lv_at hl 1 rfl) ?_
                refine lv_aload_n hx hb dX6_trueOf_148 rfl (lv_at hl 3 rfl) ?_
                refine jr_i (rVr (As := [.int x_2, .ref vw]) (rest := [.int z_98, .ref vz4]) (ci := 7) ⟨hx, hb, hml, hown, hts⟩ (g_plainTrueOf l dC dI cy vz vz1 vz2 vz3 vz4 vzs vzo vzf1 vzf2 vzf3 vw vwc vwl vws vwc1 vwc2 vwc3 vwc4 vwc5 vwcm vwcd vwcr vwcw vwcf3 vwcf4 vwcf5 vwl1 vwl2 vwl3 vwl4 vwl5 vwl6 vwl7 vwl8 vwl9 vwl10 vwly vwlf2 vwlf3 vwlf4 vwlf5 vwlf6 vwlf1 x_2 r_vzs r_vwcm r_vwcd ⟨by omega, by omega⟩ p_vwcf3 p_vwlf2 p_vwlf5 hs) (cw_X6_111 hts rfl rfl ⟨Nat.le_of_ble_eq_true rfl, Nat.le_of_ble_eq_true rfl⟩) hP hK [0, 1, 2, 3, 5, 6, 7, 8, 9, 10, 11, 12, 13, 14, 15, 16] rfl rfl rfl rfl hl.1 rfl (Nat.le_of_ble_eq_true rfl) dX6_trueOf_149 ⟨Nat.le_of_ble_eq_true rfl, Nat.le_of_ble_eq_true rfl⟩) hP hS (fun r_99 H locs hp_100 hP hS => ?_)
                have hin_101 : vp_in z_98 20 := vp_in_iff.mpr ⟨by omega, by omega⟩
                refine va_iast hx hb hK hP hD hS 4 0 rfl rfl hin_101 dX6_trueOf_152 (fun H locs hP hD hS => ?_)
                obtain ⟨f_102, ef_102⟩ : ∃ z : Nat → Int32, z = upd g_4 (Int32.toNatClampNeg z_98) r_99 := ⟨_, rfl⟩
                have hP : va_P (dC, dI) vwCl [(vz, .inr (7, [.ref vz1, .ref vz2, .ref vz3, .ref vz4, .int vzs, .int vzo])), (vz1, .inl (cy 0, 40, .inl vzf1)), (vz2, .inl (cy 0, 40, .inl vzf2)), (vz3, .inl (cy 0, 40, .inl vzf3)), (vz4, .inl (cy 0, 20, .inl f_102)), (vw, .inr (10, [.ref vwc, .ref vwl, .ref vws])), (vwc, .inr (2, [.ref vwc1, .ref vwc2, .ref vwc3, .ref vwc4, .ref vwc5, .int vwcm, .int vwcd, .int vwcr, .int vwcw])), (vwc3, .inl (cy 0, 10, .inl vwcf3)), (vwc4, .inl (cy 2, 10, .inl vwcf4)), (vwc5, .inl (cy 0, 7, .inl vwcf5)), (vwl, .inr (5, [.ref vwl1, .ref vwl2, .ref vwl3, .ref vwl4, .ref vwl5, .ref vwl6, .ref vwl7, .ref vwl8, .ref vwl9, .ref vwl10, .int vwly])), (vwl2, .inl (cy 0, 70, .inl vwlf2)), (vwl3, .inl (cy 0, 49, .inl vwlf3)), (vwl4, .inl (cy 0, 7, .inl vwlf4)), (vwl5, .inl (cy 0, 7, .inl vwlf5)), (vwl6, .inl (cy 0, 7, .inl vwlf6)), (vwl1, .inl (cy 0, 7, .inl vwlf1))] H := by rw [ef_102]; exact hP
                have hD : va_D A [(vz, .inr (7, [.ref vz1, .ref vz2, .ref vz3, .ref vz4, .int vzs, .int vzo])), (vz1, .inl (cy 0, 40, .inl vzf1)), (vz2, .inl (cy 0, 40, .inl vzf2)), (vz3, .inl (cy 0, 40, .inl vzf3)), (vz4, .inl (cy 0, 20, .inl f_102)), (vw, .inr (10, [.ref vwc, .ref vwl, .ref vws])), (vwc, .inr (2, [.ref vwc1, .ref vwc2, .ref vwc3, .ref vwc4, .ref vwc5, .int vwcm, .int vwcd, .int vwcr, .int vwcw])), (vwc3, .inl (cy 0, 10, .inl vwcf3)), (vwc4, .inl (cy 2, 10, .inl vwcf4)), (vwc5, .inl (cy 0, 7, .inl vwcf5)), (vwl, .inr (5, [.ref vwl1, .ref vwl2, .ref vwl3, .ref vwl4, .ref vwl5, .ref vwl6, .ref vwl7, .ref vwl8, .ref vwl9, .ref vwl10, .int vwly])), (vwl2, .inl (cy 0, 70, .inl vwlf2)), (vwl3, .inl (cy 0, 49, .inl vwlf3)), (vwl4, .inl (cy 0, 7, .inl vwlf4)), (vwl5, .inl (cy 0, 7, .inl vwlf5)), (vwl6, .inl (cy 0, 7, .inl vwlf6)), (vwl1, .inl (cy 0, 7, .inl vwlf1))] := by rw [ef_102]; exact hD
                obtain ⟨z_103, ez_103⟩ : ∃ z : Int32, z = x_2 + 1 := ⟨_, rfl⟩
                have bz_103 : z_103.toInt = x_2.toInt + (1 : Int32).toInt := i_add ez_103 (by omega) (by omega)
                refine lv_iinc (v := z_103) (lv' := [(3, .int z_103), (2, .int z_98), (0, .ref vz), (1, .ref vw)]) hx hb dX6_trueOf_153 hl (k := 1) rfl ez_103.symm (by decide) rfl (fun ls hl => ?_)
                refine lv_goto (tgt := 4) hx hb dX6_trueOf_156 (by decide) ?_
                exact ih1 z_98 z_103 f_102 ⟨by omega, by omega⟩ ⟨by omega, by omega⟩ (by omega) _ _ (hP.sub [0, 1, 2, 3, 4, 5, 6, 7, 8, 9, 10, 11, 12, 13, 14, 15, 16] rfl) (hD.sub [0, 1, 2, 3, 4, 5, 6, 7, 8, 9, 10, 11, 12, 13, 14, 15, 16] rfl rfl) hS ls (lv_sub hl [0, 1, 2, 3] rfl)
              · skip
                have c_96 : z_95.toInt = (16 : Int32).toInt := i_eq.mp c_96
                refine lv_iload_n hx hb dX6_trueOf_102 rfl (lv_at hl 1 rfl) ?_
                refine lv_iconst (v := 1) hx hb dX6_trueOf_103 (by decide) ?_
                refine lv_icmp_lt (tgt := 130) hx hb dX6_trueOf_104 (by decide) (fun _ => ?_) (fun c9 => (c9 (i_lt.mpr (by omega))).elim)
                refine lv_iload_n hx hb dX6_trueOf_130 rfl (lv_at hl 1 rfl) ?_
                refine lv_iconst (v := 1) hx hb dX6_trueOf_131 (by decide) ?_
                refine lv_iadd hx hb dX6_trueOf_132 ?_
                refine lv_topi (fun z_104 ez_104 => ?_)
                have bz_104 : z_104.toInt = x_3.toInt + (1 : Int32).toInt := i_add ez_104 (by omega) (by omega)
                refine lv_bipush (v := 20) hx hb dX6_trueOf_133 (by decide) ?_
                have k_20 : (20 : Int32).toInt = 20 := by decide
                refine lv_icmp_ge (tgt := 153) hx hb dX6_trueOf_135 (by decide) (fun c9 => absurd (i_le.mp c9) (by omega)) (fun _ => ?_)
                obtain ⟨z_105, ez_105⟩ : ∃ z : Int32, z = x_3 + 1 := ⟨_, rfl⟩
                have bz_105 : z_105.toInt = x_3.toInt + (1 : Int32).toInt := i_add ez_105 (by omega) (by omega)
                refine lv_iinc (v := z_105) (lv' := [(2, .int z_105), (3, .int x_2), (0, .ref vz), (1, .ref vw)]) hx hb dX6_trueOf_138 hl (k := 1) rfl ez_105.symm (by decide) rfl (fun ls hl => ?_)
                refine lv_aload_n hx hb dX6_trueOf_141 rfl (lv_at hl 2 rfl) ?_
                refine gf_X6_21 hx hb hts hown hK hP 0 rfl rfl dX6_trueOf_142 ?_
                refine lv_iload_n hx hb dX6_trueOf_145 rfl (lv_at hl 0 rfl) ?_
                refine lv_aload_n hx hb dX6_trueOf_146 rfl (lv_at hl 2 rfl) ?_
                refine lv_iload_n hx hb dX6_trueOf_147 rfl (lv_at hl 1 rfl) ?_
                refine lv_aload_n hx hb dX6_trueOf_148 rfl (lv_at hl 3 rfl) ?_
                refine jr_i (rVr (As := [.int x_2, .ref vw]) (rest := [.int z_105, .ref vz4]) (ci := 7) ⟨hx, hb, hml, hown, hts⟩ (g_plainTrueOf l dC dI cy vz vz1 vz2 vz3 vz4 vzs vzo vzf1 vzf2 vzf3 vw vwc vwl vws vwc1 vwc2 vwc3 vwc4 vwc5 vwcm vwcd vwcr vwcw vwcf3 vwcf4 vwcf5 vwl1 vwl2 vwl3 vwl4 vwl5 vwl6 vwl7 vwl8 vwl9 vwl10 vwly vwlf2 vwlf3 vwlf4 vwlf5 vwlf6 vwlf1 x_2 r_vzs r_vwcm r_vwcd ⟨by omega, by omega⟩ p_vwcf3 p_vwlf2 p_vwlf5 hs) (cw_X6_111 hts rfl rfl ⟨Nat.le_of_ble_eq_true rfl, Nat.le_of_ble_eq_true rfl⟩) hP hK [0, 1, 2, 3, 5, 6, 7, 8, 9, 10, 11, 12, 13, 14, 15, 16] rfl rfl rfl rfl hl.1 rfl (Nat.le_of_ble_eq_true rfl) dX6_trueOf_149 ⟨Nat.le_of_ble_eq_true rfl, Nat.le_of_ble_eq_true rfl⟩) hP hS (fun r_106 H locs hp_107 hP hS => ?_)
                have hin_108 : vp_in z_105 20 := vp_in_iff.mpr ⟨by omega, by omega⟩
                refine va_iast hx hb hK hP hD hS 4 0 rfl rfl hin_108 dX6_trueOf_152 (fun H locs hP hD hS => ?_)
                obtain ⟨f_109, ef_109⟩ : ∃ z : Nat → Int32, z = upd g_4 (Int32.toNatClampNeg z_105) r_106 := ⟨_, rfl⟩
                have hP : va_P (dC, dI) vwCl [(vz, .inr (7, [.ref vz1, .ref vz2, .ref vz3, .ref vz4, .int vzs, .int vzo])), (vz1, .inl (cy 0, 40, .inl vzf1)), (vz2, .inl (cy 0, 40, .inl vzf2)), (vz3, .inl (cy 0, 40, .inl vzf3)), (vz4, .inl (cy 0, 20, .inl f_109)), (vw, .inr (10, [.ref vwc, .ref vwl, .ref vws])), (vwc, .inr (2, [.ref vwc1, .ref vwc2, .ref vwc3, .ref vwc4, .ref vwc5, .int vwcm, .int vwcd, .int vwcr, .int vwcw])), (vwc3, .inl (cy 0, 10, .inl vwcf3)), (vwc4, .inl (cy 2, 10, .inl vwcf4)), (vwc5, .inl (cy 0, 7, .inl vwcf5)), (vwl, .inr (5, [.ref vwl1, .ref vwl2, .ref vwl3, .ref vwl4, .ref vwl5, .ref vwl6, .ref vwl7, .ref vwl8, .ref vwl9, .ref vwl10, .int vwly])), (vwl2, .inl (cy 0, 70, .inl vwlf2)), (vwl3, .inl (cy 0, 49, .inl vwlf3)), (vwl4, .inl (cy 0, 7, .inl vwlf4)), (vwl5, .inl (cy 0, 7, .inl vwlf5)), (vwl6, .inl (cy 0, 7, .inl vwlf6)), (vwl1, .inl (cy 0, 7, .inl vwlf1))] H := by rw [ef_109]; exact hP
                have hD : va_D A [(vz, .inr (7, [.ref vz1, .ref vz2, .ref vz3, .ref vz4, .int vzs, .int vzo])), (vz1, .inl (cy 0, 40, .inl vzf1)), (vz2, .inl (cy 0, 40, .inl vzf2)), (vz3, .inl (cy 0, 40, .inl vzf3)), (vz4, .inl (cy 0, 20, .inl f_109)), (vw, .inr (10, [.ref vwc, .ref vwl, .ref vws])), (vwc, .inr (2, [.ref vwc1, .ref vwc2, .ref vwc3, .ref vwc4, .ref vwc5, .int vwcm, .int vwcd, .int vwcr, .int vwcw])), (vwc3, .inl (cy 0, 10, .inl vwcf3)), (vwc4, .inl (cy 2, 10, .inl vwcf4)), (vwc5, .inl (cy 0, 7, .inl vwcf5)), (vwl, .inr (5, [.ref vwl1, .ref vwl2, .ref vwl3, .ref vwl4, .ref vwl5, .ref vwl6, .ref vwl7, .ref vwl8, .ref vwl9, .ref vwl10, .int vwly])), (vwl2, .inl (cy 0, 70, .inl vwlf2)), (vwl3, .inl (cy 0, 49, .inl vwlf3)), (vwl4, .inl (cy 0, 7, .inl vwlf4)), (vwl5, .inl (cy 0, 7, .inl vwlf5)), (vwl6, .inl (cy 0, 7, .inl vwlf6)), (vwl1, .inl (cy 0, 7, .inl vwlf1))] := by rw [ef_109]; exact hD
                obtain ⟨z_110, ez_110⟩ : ∃ z : Int32, z = x_2 + 1 := ⟨_, rfl⟩
                have bz_110 : z_110.toInt = x_2.toInt + (1 : Int32).toInt := i_add ez_110 (by omega) (by omega)
                refine lv_iinc (v := z_110) (lv' := [(3, .int z_110), (2, .int z_105), (0, .ref vz), (1, .ref vw)]) hx hb dX6_trueOf_153 hl (k := 1) rfl ez_110.symm (by decide) rfl (fun ls hl => ?_)
                refine lv_goto (tgt := 4) hx hb dX6_trueOf_156 (by decide) ?_
                exact ih1 z_105 z_110 f_109 ⟨by omega, by omega⟩ ⟨by omega, by omega⟩ (by omega) _ _ (hP.sub [0, 1, 2, 3, 4, 5, 6, 7, 8, 9, 10, 11, 12, 13, 14, 15, 16] rfl) (hD.sub [0, 1, 2, 3, 4, 5, 6, 7, 8, 9, 10, 11, 12, 13, 14, 15, 16] rfl rfl) hS ls (lv_sub hl [0, 1, 2, 3] rfl)
          · skip
            have c_73 : ¬ (x_3.toInt < (0 : Int32).toInt) := fun h9 => c_73 (i_lt.mpr h9)
            refine lv_aload_n hx hb dX6_trueOf_27 rfl (lv_at hl 2 rfl) ?_
            refine gf_X6_21 hx hb hts hown hK hP 0 rfl rfl dX6_trueOf_28 ?_
            refine lv_iload_n hx hb dX6_trueOf_31 rfl (lv_at hl 1 rfl) ?_
            refine lv_aload_n hx hb dX6_trueOf_32 rfl (lv_at hl 3 rfl) ?_
            refine gf_X6_101 hx hb hts hown hK hP 5 rfl rfl dX6_trueOf_33 ?_
            refine jr_i (rVr (As := []) (rest := [.int x_3, .ref vz4]) (ci := 2) ⟨hx, hb, hml, hown, hts⟩ (g_allMen l dC dI cy vwc vwc1 vwc2 vwc3 vwc4 vwc5 vwcm vwcd vwcr vwcw r_vwcm r_vwcd) (cw_X6_107 hts rfl rfl ⟨Nat.le_of_ble_eq_true rfl, Nat.le_of_ble_eq_true rfl⟩) hP hK [6] rfl rfl rfl rfl hl.1 rfl (Nat.le_of_ble_eq_true rfl) dX6_trueOf_36 ⟨Nat.le_of_ble_eq_true rfl, Nat.le_of_ble_eq_true rfl⟩) hP hS (fun r_111 H locs hp_112 hP hS => ?_)
            have hp_112 : (0 ≤ (r_111 : Int32).toInt ∧ (r_111 : Int32).toInt ≤ 127) := hp_112
            have q_113 := hp_112
            refine lv_aload_n hx hb dX6_trueOf_39 rfl (lv_at hl 2 rfl) ?_
            refine gf_X6_21 hx hb hts hown hK hP 0 rfl rfl dX6_trueOf_40 ?_
            refine lv_iload_n hx hb dX6_trueOf_43 rfl (lv_at hl 1 rfl) ?_
            have hin_114 : vp_in x_3 20 := vp_in_iff.mpr ⟨by omega, by omega⟩
            refine va_iald hx hb hK hP 4 0 rfl rfl hin_114 dX6_trueOf_44 ?_
            refine lv_topi (fun z_115 ez_115 => ?_)
            refine lv_iconst (v := (-1)) hx hb dX6_trueOf_45 (by decide) ?_
            refine lv_ixor hx hb dX6_trueOf_46 ?_
            refine lv_topi (fun z_116 ez_116 => ?_)
            refine lv_iand hx hb dX6_trueOf_47 ?_
            refine lv_topi (fun z_117 ez_117 => ?_)
            have hin_118 : vp_in x_3 20 := vp_in_iff.mpr ⟨by omega, by omega⟩
            refine va_iast hx hb hK hP hD hS 4 0 rfl rfl hin_118 dX6_trueOf_48 (fun H locs hP hD hS => ?_)
            obtain ⟨f_119, ef_119⟩ : ∃ z : Nat → Int32, z = upd g_4 (Int32.toNatClampNeg x_3) z_117 := ⟨_, rfl⟩
            have hP : va_P (dC, dI) vwCl [(vz, .inr (7, [.ref vz1, .ref vz2, .ref vz3, .ref vz4, .int vzs, .int vzo])), (vz1, .inl (cy 0, 40, .inl vzf1)), (vz2, .inl (cy 0, 40, .inl vzf2)), (vz3, .inl (cy 0, 40, .inl vzf3)), (vz4, .inl (cy 0, 20, .inl f_119)), (vw, .inr (10, [.ref vwc, .ref vwl, .ref vws])), (vwc, .inr (2, [.ref vwc1, .ref vwc2, .ref vwc3, .ref vwc4, .ref vwc5, .int vwcm, .int vwcd, .int vwcr, .int vwcw])), (vwc3, .inl (cy 0, 10, .inl vwcf3)), (vwc4, .inl (cy 2, 10, .inl vwcf4)), (vwc5, .inl (cy 0, 7, .inl vwcf5)), (vwl, .inr (5, [.ref vwl1, .ref vwl2, .ref vwl3, .ref vwl4, .ref vwl5, .ref vwl6, .ref vwl7, .ref vwl8, .ref vwl9, .ref vwl10, .int vwly])), (vwl2, .inl (cy 0, 70, .inl vwlf2)), (vwl3, .inl (cy 0, 49, .inl vwlf3)), (vwl4, .inl (cy 0, 7, .inl vwlf4)), (vwl5, .inl (cy 0, 7, .inl vwlf5)), (vwl6, .inl (cy 0, 7, .inl vwlf6)), (vwl1, .inl (cy 0, 7, .inl vwlf1))] H := by rw [ef_119]; exact hP
            have hD : va_D A [(vz, .inr (7, [.ref vz1, .ref vz2, .ref vz3, .ref vz4, .int vzs, .int vzo])), (vz1, .inl (cy 0, 40, .inl vzf1)), (vz2, .inl (cy 0, 40, .inl vzf2)), (vz3, .inl (cy 0, 40, .inl vzf3)), (vz4, .inl (cy 0, 20, .inl f_119)), (vw, .inr (10, [.ref vwc, .ref vwl, .ref vws])), (vwc, .inr (2, [.ref vwc1, .ref vwc2, .ref vwc3, .ref vwc4, .ref vwc5, .int vwcm, .int vwcd, .int vwcr, .int vwcw])), (vwc3, .inl (cy 0, 10, .inl vwcf3)), (vwc4, .inl (cy 2, 10, .inl vwcf4)), (vwc5, .inl (cy 0, 7, .inl vwcf5)), (vwl, .inr (5, [.ref vwl1, .ref vwl2, .ref vwl3, .ref vwl4, .ref vwl5, .ref vwl6, .ref vwl7, .ref vwl8, .ref vwl9, .ref vwl10, .int vwly])), (vwl2, .inl (cy 0, 70, .inl vwlf2)), (vwl3, .inl (cy 0, 49, .inl vwlf3)), (vwl4, .inl (cy 0, 7, .inl vwlf4)), (vwl5, .inl (cy 0, 7, .inl vwlf5)), (vwl6, .inl (cy 0, 7, .inl vwlf6)), (vwl1, .inl (cy 0, 7, .inl vwlf1))] := by rw [ef_119]; exact hD
            refine lv_goto (tgt := 153) hx hb dX6_trueOf_49 (by decide) ?_
            obtain ⟨z_120, ez_120⟩ : ∃ z : Int32, z = x_2 + 1 := ⟨_, rfl⟩
            have k_1 : (1 : Int32).toInt = 1 := by decide
            have bz_120 : z_120.toInt = x_2.toInt + (1 : Int32).toInt := i_add ez_120 (by omega) (by omega)
            refine lv_iinc (v := z_120) (lv' := [(3, .int z_120), (2, .int x_3), (0, .ref vz), (1, .ref vw)]) hx hb dX6_trueOf_153 hl (k := 0) rfl ez_120.symm (by decide) rfl (fun ls hl => ?_)
            refine lv_goto (tgt := 4) hx hb dX6_trueOf_156 (by decide) ?_
            exact ih1 x_3 z_120 f_119 ⟨by omega, by omega⟩ ⟨by omega, by omega⟩ (by omega) _ _ (hP.sub [0, 1, 2, 3, 4, 5, 6, 7, 8, 9, 10, 11, 12, 13, 14, 15, 16] rfl) (hD.sub [0, 1, 2, 3, 4, 5, 6, 7, 8, 9, 10, 11, 12, 13, 14, 15, 16] rfl rfl) hS ls (lv_sub hl [0, 1, 2, 3] rfl)
  have k_m1 : ((-1) : Int32).toInt = (-1) := by decide
  have k_0 : (0 : Int32).toInt = 0 := by decide
  exact loop1 ((40 - (0 : Int32).toInt).toNat + 1) (-1) 0 vzf4 ⟨by omega, by omega⟩ ⟨by omega, by omega⟩ (by omega) _ _ hP hD hS ls (lv_sub hl [0, 1, 2, 3] rfl)
