abbrev cX1_writeName : ByteArray := prog_3_method_7_code
def yX1_writeName : MethodName := ⟨RX1, "writeName", "(ILjava/lang/StringBuilder;)V"⟩
theorem t1106 : Cond.code yX1_writeName cX1_writeName 5 none ∈ GW := gw_mem 1220 (by decide +kernel) (by decide +kernel)
abbrev O_b_writeName (cy : Nat → ClassId) (vc : Nat) (vc1 : Nat) (vc2 : Nat) (vc3 : Nat) (vc4 : Nat) (vc5 : Nat) (vcm : Int32) (vcd : Int32) (vcr : Int32) (vcw : Int32) (vcf1 : Nat → Int64) (vg : Nat) (vgv : Nat) (vgm : Int32) (vgc : Int32) (vnb : Nat) (vgf : Nat → Int32) (vm : Int32) (u : Nat × Nat × (Nat → Int32) × Int32 × Int32) : va_W := [(vc, .inr (2, [.ref vc1, .ref vc2, .ref vc3, .ref vc4, .ref vc5, .int vcm, .int vcd, .int vcr, .int vcw])), (vc1, .inl (cy 1, 7, .inr (.inl vcf1))), (vg, .inr (0, [.ref u.1, .int 0, .int u.2.2.2.1, .int u.2.2.2.2])), (u.1, .inl (cy 3, u.2.1, .inl u.2.2.1))]
theorem dX1_writeName_0 : decode cX1_writeName 0 = .ok (.bipush 30, 2) := by decide +kernel
theorem dX1_writeName_2 : decode cX1_writeName 2 = .ok (.istore_n 3, 1) := by decide +kernel
theorem dX1_writeName_3 : decode cX1_writeName 3 = .ok (.iload_n 3, 1) := by decide +kernel
theorem dX1_writeName_4 : decode cX1_writeName 4 = .ok (.ifCond .lt 42, 3) := by decide +kernel
theorem dX1_writeName_7 : decode cX1_writeName 7 = .ok (.aload_n 0, 1) := by decide +kernel
theorem dX1_writeName_8 : decode cX1_writeName 8 = .ok (.getfield 9, 3) := by decide +kernel
theorem dX1_writeName_11 : decode cX1_writeName 11 = .ok (.iload_n 1, 1) := by decide +kernel
theorem dX1_writeName_12 : decode cX1_writeName 12 = .ok (.laload, 1) := by decide +kernel
theorem dX1_writeName_13 : decode cX1_writeName 13 = .ok (.iload_n 3, 1) := by decide +kernel
theorem dX1_writeName_14 : decode cX1_writeName 14 = .ok (.lshr, 1) := by decide +kernel
theorem dX1_writeName_15 : decode cX1_writeName 15 = .ok (.ldc2_w 42, 3) := by decide +kernel
theorem t1107 : Cond.constantLong RX1 42 31 ∈ GW := gw_mem 1221 (by decide +kernel) (by decide +kernel)
theorem dX1_writeName_18 : decode cX1_writeName 18 = .ok (.land, 1) := by decide +kernel
theorem dX1_writeName_19 : decode cX1_writeName 19 = .ok (.l2i, 1) := by decide +kernel
theorem dX1_writeName_20 : decode cX1_writeName 20 = .ok (.istore 4, 2) := by decide +kernel
theorem dX1_writeName_40 : decode cX1_writeName 40 = .ok (.iinc 3 (-5), 3) := by decide +kernel
theorem dX1_writeName_43 : decode cX1_writeName 43 = .ok (.goto (-40), 3) := by decide +kernel
theorem dX1_writeName_46 : decode cX1_writeName 46 = .ok (.return_, 1) := by decide +kernel
theorem dX1_writeName_22 : decode cX1_writeName 22 = .ok (.iload 4, 2) := by decide +kernel
theorem dX1_writeName_24 : decode cX1_writeName 24 = .ok (.ifCond .eq 16, 3) := by decide +kernel
theorem dX1_writeName_27 : decode cX1_writeName 27 = .ok (.aload_n 2, 1) := by decide +kernel
theorem dX1_writeName_28 : decode cX1_writeName 28 = .ok (.bipush 97, 2) := by decide +kernel
theorem dX1_writeName_30 : decode cX1_writeName 30 = .ok (.iload 4, 2) := by decide +kernel
theorem dX1_writeName_32 : decode cX1_writeName 32 = .ok (.iadd, 1) := by decide +kernel
theorem dX1_writeName_33 : decode cX1_writeName 33 = .ok (.iconst 1, 1) := by decide +kernel
theorem dX1_writeName_34 : decode cX1_writeName 34 = .ok (.isub, 1) := by decide +kernel
theorem dX1_writeName_35 : decode cX1_writeName 35 = .ok (.i2c, 1) := by decide +kernel
theorem dX1_writeName_36 : decode cX1_writeName 36 = .ok (.invokevirtual 44, 3) := by decide +kernel
theorem t1108 : Cond.methodLink RX1 44 yJ4_append_cf468 ∈ GW := gw_mem 1222 (by decide +kernel) (by decide +kernel)
theorem t1109 : Cond.instanceMethod yJ4_append_cf468 ∈ GW := gw_mem 1223 (by decide +kernel) (by decide +kernel)
theorem t1110 : Cond.selects RJ4 yJ4_append_cf468 yJ4_append_cf468 ∈ GW := gw_mem 1224 (by decide +kernel) (by decide +kernel)
theorem cw_X1_44 {R : Room} {s : State} {args : Array Value} {rm : Room} {mc ms : Nat} (hts : ∀ w ∈ GW, w.before args s = true) (hrc : rm.cells = mc) (hrs : rm.slots = ms) (hR : rm.frames + 1 ≤ R.frames ∧ 8 + (2 + 11) + rm.locals ≤ R.locals) : CallW R s args RX1 RJ4 44 yJ4_append_cf468 cJ4_append_cf468 2 (some (.object "java/lang/StringBuilder")) (wl yJ4_append_cf468 cJ4_append_cf468 2 (some (.object "java/lang/StringBuilder"))) rm mc ms 1 := cwV 1 hts (gi_V t1108 t1109 t1110 t14 t1111) rfl hrc hrs (by decide +kernel) hR
theorem dX1_writeName_39 : decode cX1_writeName 39 = .ok (.pop, 1) := by decide +kernel
set_option maxHeartbeats 4000000 in
set_option maxRecDepth 100000 in
theorem b_writeName (l : Launch) (dC : Nat → ClassId) (dI : Nat → Nat → Nat) (cy : Nat → ClassId) (sz : Nat) (B : Nat → Prop) (kS vS : Nat → Nat) (vc : Nat) (vc1 : Nat) (vc2 : Nat) (vc3 : Nat) (vc4 : Nat) (vc5 : Nat) (vcm : Int32) (vcd : Int32) (vcr : Int32) (vcw : Int32) (vcf1 : Nat → Int64) (vg : Nat) (vgv : Nat) (vgm : Int32) (vgc : Int32) (vnb : Nat) (vgf : Nat → Int32) (vm : Int32) (r_vgc : 0 ≤ (vgc : Int32).toInt ∧ (vgc : Int32).toInt ≤ 0) (r_vm : 0 ≤ (vm : Int32).toInt ∧ (vm : Int32).toInt ≤ 6) (p_vgf : sb_Fit vgf) (hn : (vnb = 16 ∨ vnb = 34 ∨ vnb = 70)) (hgc : (vgc : Int32).toInt ≤ (vnb : Int)) (hB : ∀ q : Nat, va_A [(vc, .inr (2, [.ref vc1, .ref vc2, .ref vc3, .ref vc4, .ref vc5, .int vcm, .int vcd, .int vcr, .int vcw])), (vc1, .inl (cy 1, 7, .inr (.inl vcf1))), (vg, .inr (0, [.ref vgv, .int 0, .int vgm, .int vgc])), (vgv, .inl (cy 3, vnb, .inl vgf))] sz q → B q) : Met l yX1_writeName (wl yX1_writeName cX1_writeName 5 none) ({ frames := 6, cells := 7, slots := 490, locals := 384 }) (Pw (dC, dI) vwCl cy [(vc, .inr (2, [.ref vc1, .ref vc2, .ref vc3, .ref vc4, .ref vc5, .int vcm, .int vcd, .int vcr, .int vcw])), (vc1, .inl (cy 1, 7, .inr (.inl vcf1))), (vg, .inr (0, [.ref vgv, .int 0, .int vgm, .int vgc])), (vgv, .inl (cy 3, vnb, .inl vgf))] sz [.ref vc, .int vm, .ref vg] (EnvB B kS vS)) (Qv (dC, dI) vwCl (fun (u : Nat × Nat × (Nat → Int32) × Int32 × Int32) => (sb_Fit u.2.2.1) ∧ (0 ≤ (u.2.2.2.2 : Int32).toInt ∧ (u.2.2.2.2 : Int32).toInt ≤ 7) ∧ ((u.2.1 = 16 ∨ u.2.1 = 34 ∨ u.2.1 = 70)) ∧ ((u.2.2.2.2 : Int32).toInt ≤ (u.2.1 : Int))) (O_b_writeName cy vc vc1 vc2 vc3 vc4 vc5 vcm vcd vcr vcw vcf1 vg vgv vgm vgc vnb vgf vm) (va_A [(vc, .inr (2, [.ref vc1, .ref vc2, .ref vc3, .ref vc4, .ref vc5, .int vcm, .int vcd, .int vcr, .int vcw])), (vc1, .inl (cy 1, 7, .inr (.inl vcf1))), (vg, .inr (0, [.ref vgv, .int 0, .int vgm, .int vgc])), (vgv, .inl (cy 3, vnb, .inl vgf))] sz)) 7 490 (va_A [(vc, .inr (2, [.ref vc1, .ref vc2, .ref vc3, .ref vc4, .ref vc5, .int vcm, .int vcd, .int vcr, .int vcw])), (vc1, .inl (cy 1, 7, .inr (.inl vcf1))), (vg, .inr (0, [.ref vgv, .int 0, .int vgm, .int vgc])), (vgv, .inl (cy 3, vnb, .inl vgf))] sz) := by
  refine mw (Qc := Qv (dC, dI) vwCl (fun (u : Nat × Nat × (Nat → Int32) × Int32 × Int32) => (sb_Fit u.2.2.1) ∧ (0 ≤ (u.2.2.2.2 : Int32).toInt ∧ (u.2.2.2.2 : Int32).toInt ≤ 7) ∧ ((u.2.1 = 16 ∨ u.2.1 = 34 ∨ u.2.1 = 70)) ∧ ((u.2.2.2.2 : Int32).toInt ≤ (u.2.1 : Int))) (O_b_writeName cy vc vc1 vc2 vc3 vc4 vc5 vcm vcd vcr vcw vcf1 vg vgv vgm vgc vnb vgf vm)) RX1 rfl (by decide +kernel) (Nat.le_of_ble_eq_true rfl) ?_
  intro p e s m below meth c A hx hb hr hlocks av9 hav hts hown hnm hml hK hP hD hA hS hE hAe Q9 hQ9 ls hl
  have hAB : ∀ q : Nat, A q → B q := by rw [hAe]; exact hB
  have hEA := hE.narrow hAB
  have hl : lv_has ls 5 [(0, .ref vc), (1, .int vm), (2, .ref vg)] := hl
  refine lv_bipush (v := 30) hx hb dX1_writeName_0 (by decide) ?_
  refine lv_istore_n (lv' := [(3, .int 30), (0, .ref vc), (1, .int vm), (2, .ref vg)]) hx hb dX1_writeName_2 rfl hl (by decide) rfl (fun ls hl => ?_)
  refine lv_iload_n hx hb dX1_writeName_3 rfl (lv_at hl 0 rfl) ?_
  refine lv_if_lt (tgt := 46) hx hb dX1_writeName_4 (by decide) (fun c9 => absurd c9 (by decide)) (fun _ => ?_)
  refine lv_aload_n hx hb dX1_writeName_7 rfl (lv_at hl 1 rfl) ?_
  refine gf_X1_9 hx hb hts hown hK hP 0 rfl rfl dX1_writeName_8 ?_
  refine lv_iload_n hx hb dX1_writeName_11 rfl (lv_at hl 2 rfl) ?_
  have hin_1 : vp_in vm 7 := vp_in_iff.mpr ⟨by omega, by omega⟩
  refine va_lald hx hb hK hP 1 1 rfl rfl hin_1 dX1_writeName_12 ?_
  refine lv_topl (fun y_2 ey_2 => ?_)
  refine lv_iload_n hx hb dX1_writeName_13 rfl (lv_at hl 0 rfl) ?_
  refine lv_lshr hx hb dX1_writeName_14 rfl ?_
  refine lv_topl (fun y_3 ey_3 => ?_)
  refine lv_ldc2 hx hb hown (hts _ t1107) dX1_writeName_15 ?_
  refine lv_land hx hb dX1_writeName_18 ?_
  refine lv_topl (fun y_4 ey_4 => ?_)
  refine lv_l2i hx hb dX1_writeName_19 rfl ?_
  refine lv_topi (fun z_5 ez_5 => ?_)
  have bz_5 := l31 ey_4 ez_5
  refine lv_istore (lv' := [(4, .int z_5), (3, .int 30), (0, .ref vc), (1, .int vm), (2, .ref vg)]) hx hb dX1_writeName_20 hl (by decide) rfl (fun ls hl => ?_)
  have join6 : ∀ (jv_6 jn_6 : Nat) (jf_6 : Nat → Int32) (jm_6 jc_6 : Int32), sb_Fit jf_6 → (jn_6 = 16 ∨ jn_6 = 34 ∨ jn_6 = 70) → (jc_6 : Int32).toInt ≤ (jn_6 : Int) → (0 ≤ jc_6.toInt ∧ jc_6.toInt ≤ 1) → ∀ (H : Heap) (locs : List Loc), va_P (dC, dI) vwCl [(vc, .inr (2, [.ref vc1, .ref vc2, .ref vc3, .ref vc4, .ref vc5, .int vcm, .int vcd, .int vcr, .int vcw])), (vc1, .inl (cy 1, 7, .inr (.inl vcf1))), (vg, .inr (0, [.ref jv_6, .int 0, .int jm_6, .int jc_6])), (jv_6, .inl (cy 3, jn_6, .inl jf_6))] H → va_D A [(vc, .inr (2, [.ref vc1, .ref vc2, .ref vc3, .ref vc4, .ref vc5, .int vcm, .int vcd, .int vcr, .int vcw])), (vc1, .inl (cy 1, 7, .inr (.inl vcf1))), (vg, .inr (0, [.ref jv_6, .int 0, .int jm_6, .int jc_6])), (jv_6, .inl (cy 3, jn_6, .inl jf_6))] → va_S A s.heap H locs → ∀ ls : Array Slot, lv_has ls 5 [(3, .int 30), (0, .ref vc), (1, .int vm), (2, .ref vg)] → W p l e ({ frames := 6, cells := 7, slots := 490, locals := 384 }) s m av9 below meth c H locs 1 70 Q9 (F0 m 40 ls []) := by
    intro jv_6 jn_6 jf_6 jm_6 jc_6 jh_6 jn1_6 jn2_6 jr_6 H locs hP hD hS ls hl
    refine lv_iinc (v := 25) (lv' := [(3, .int 25), (0, .ref vc), (1, .int vm), (2, .ref vg)]) hx hb dX1_writeName_40 hl (k := 0) rfl (by decide) (by decide) rfl (fun ls hl => ?_)
    refine lv_goto (tgt := 3) hx hb dX1_writeName_43 (by decide) ?_
    refine lv_iload_n hx hb dX1_writeName_3 rfl (lv_at hl 0 rfl) ?_
    refine lv_if_lt (tgt := 46) hx hb dX1_writeName_4 (by decide) (fun c9 => absurd c9 (by decide)) (fun _ => ?_)
    refine lv_aload_n hx hb dX1_writeName_7 rfl (lv_at hl 1 rfl) ?_
    refine gf_X1_9 hx hb hts hown hK hP 0 rfl rfl dX1_writeName_8 ?_
    refine lv_iload_n hx hb dX1_writeName_11 rfl (lv_at hl 2 rfl) ?_
    have hin_7 : vp_in vm 7 := vp_in_iff.mpr ⟨by omega, by omega⟩
    refine va_lald hx hb hK hP 1 1 rfl rfl hin_7 dX1_writeName_12 ?_
    refine lv_topl (fun y_8 ey_8 => ?_)
    refine lv_iload_n hx hb dX1_writeName_13 rfl (lv_at hl 0 rfl) ?_
    refine lv_lshr hx hb dX1_writeName_14 rfl ?_
    refine lv_topl (fun y_9 ey_9 => ?_)
    refine lv_ldc2 hx hb hown (hts _ t1107) dX1_writeName_15 ?_
    refine lv_land hx hb dX1_writeName_18 ?_
    refine lv_topl (fun y_10 ey_10 => ?_)
    refine lv_l2i hx hb dX1_writeName_19 rfl ?_
    refine lv_topi (fun z_11 ez_11 => ?_)
    have bz_11 := l31 ey_10 ez_11
    refine lv_istore (lv' := [(4, .int z_11), (3, .int 25), (0, .ref vc), (1, .int vm), (2, .ref vg)]) hx hb dX1_writeName_20 hl (by decide) rfl (fun ls hl => ?_)
    have join12 : ∀ (jv_12 jn_12 : Nat) (jf_12 : Nat → Int32) (jm_12 jc_12 : Int32), sb_Fit jf_12 → (jn_12 = 16 ∨ jn_12 = 34 ∨ jn_12 = 70) → (jc_12 : Int32).toInt ≤ (jn_12 : Int) → (0 ≤ jc_12.toInt ∧ jc_12.toInt ≤ 2) → ∀ (H : Heap) (locs : List Loc), va_P (dC, dI) vwCl [(vc, .inr (2, [.ref vc1, .ref vc2, .ref vc3, .ref vc4, .ref vc5, .int vcm, .int vcd, .int vcr, .int vcw])), (vc1, .inl (cy 1, 7, .inr (.inl vcf1))), (vg, .inr (0, [.ref jv_12, .int 0, .int jm_12, .int jc_12])), (jv_12, .inl (cy 3, jn_12, .inl jf_12))] H → va_D A [(vc, .inr (2, [.ref vc1, .ref vc2, .ref vc3, .ref vc4, .ref vc5, .int vcm, .int vcd, .int vcr, .int vcw])), (vc1, .inl (cy 1, 7, .inr (.inl vcf1))), (vg, .inr (0, [.ref jv_12, .int 0, .int jm_12, .int jc_12])), (jv_12, .inl (cy 3, jn_12, .inl jf_12))] → va_S A s.heap H locs → ∀ ls : Array Slot, lv_has ls 5 [(3, .int 25), (0, .ref vc), (1, .int vm), (2, .ref vg)] → W p l e ({ frames := 6, cells := 7, slots := 490, locals := 384 }) s m av9 below meth c H locs 2 140 Q9 (F0 m 40 ls []) := by
      intro jv_12 jn_12 jf_12 jm_12 jc_12 jh_12 jn1_12 jn2_12 jr_12 H locs hP hD hS ls hl
      refine lv_iinc (v := 20) (lv' := [(3, .int 20), (0, .ref vc), (1, .int vm), (2, .ref vg)]) hx hb dX1_writeName_40 hl (k := 0) rfl (by decide) (by decide) rfl (fun ls hl => ?_)
      refine lv_goto (tgt := 3) hx hb dX1_writeName_43 (by decide) ?_
      refine lv_iload_n hx hb dX1_writeName_3 rfl (lv_at hl 0 rfl) ?_
      refine lv_if_lt (tgt := 46) hx hb dX1_writeName_4 (by decide) (fun c9 => absurd c9 (by decide)) (fun _ => ?_)
      refine lv_aload_n hx hb dX1_writeName_7 rfl (lv_at hl 1 rfl) ?_
      refine gf_X1_9 hx hb hts hown hK hP 0 rfl rfl dX1_writeName_8 ?_
      refine lv_iload_n hx hb dX1_writeName_11 rfl (lv_at hl 2 rfl) ?_
      have hin_13 : vp_in vm 7 := vp_in_iff.mpr ⟨by omega, by omega⟩
      refine va_lald hx hb hK hP 1 1 rfl rfl hin_13 dX1_writeName_12 ?_
      refine lv_topl (fun y_14 ey_14 => ?_)
      refine lv_iload_n hx hb dX1_writeName_13 rfl (lv_at hl 0 rfl) ?_
      refine lv_lshr hx hb dX1_writeName_14 rfl ?_
      refine lv_topl (fun y_15 ey_15 => ?_)
      refine lv_ldc2 hx hb hown (hts _ t1107) dX1_writeName_15 ?_
      refine lv_land hx hb dX1_writeName_18 ?_
      refine lv_topl (fun y_16 ey_16 => ?_)
      refine lv_l2i hx hb dX1_writeName_19 rfl ?_
      refine lv_topi (fun z_17 ez_17 => ?_)
      have bz_17 := l31 ey_16 ez_17
      refine lv_istore (lv' := [(4, .int z_17), (3, .int 20), (0, .ref vc), (1, .int vm), (2, .ref vg)]) hx hb dX1_writeName_20 hl (by decide) rfl (fun ls hl => ?_)
      have join18 : ∀ (jv_18 jn_18 : Nat) (jf_18 : Nat → Int32) (jm_18 jc_18 : Int32), sb_Fit jf_18 → (jn_18 = 16 ∨ jn_18 = 34 ∨ jn_18 = 70) → (jc_18 : Int32).toInt ≤ (jn_18 : Int) → (0 ≤ jc_18.toInt ∧ jc_18.toInt ≤ 3) → ∀ (H : Heap) (locs : List Loc), va_P (dC, dI) vwCl [(vc, .inr (2, [.ref vc1, .ref vc2, .ref vc3, .ref vc4, .ref vc5, .int vcm, .int vcd, .int vcr, .int vcw])), (vc1, .inl (cy 1, 7, .inr (.inl vcf1))), (vg, .inr (0, [.ref jv_18, .int 0, .int jm_18, .int jc_18])), (jv_18, .inl (cy 3, jn_18, .inl jf_18))] H → va_D A [(vc, .inr (2, [.ref vc1, .ref vc2, .ref vc3, .ref vc4, .ref vc5, .int vcm, .int vcd, .int vcr, .int vcw])), (vc1, .inl (cy 1, 7, .inr (.inl vcf1))), (vg, .inr (0, [.ref jv_18, .int 0, .int jm_18, .int jc_18])), (jv_18, .inl (cy 3, jn_18, .inl jf_18))] → va_S A s.heap H locs → ∀ ls : Array Slot, lv_has ls 5 [(3, .int 20), (0, .ref vc), (1, .int vm), (2, .ref vg)] → W p l e ({ frames := 6, cells := 7, slots := 490, locals := 384 }) s m av9 below meth c H locs 3 210 Q9 (F0 m 40 ls []) := by
        intro jv_18 jn_18 jf_18 jm_18 jc_18 jh_18 jn1_18 jn2_18 jr_18 H locs hP hD hS ls hl
        refine lv_iinc (v := 15) (lv' := [(3, .int 15), (0, .ref vc), (1, .int vm), (2, .ref vg)]) hx hb dX1_writeName_40 hl (k := 0) rfl (by decide) (by decide) rfl (fun ls hl => ?_)
        refine lv_goto (tgt := 3) hx hb dX1_writeName_43 (by decide) ?_
        refine lv_iload_n hx hb dX1_writeName_3 rfl (lv_at hl 0 rfl) ?_
        refine lv_if_lt (tgt := 46) hx hb dX1_writeName_4 (by decide) (fun c9 => absurd c9 (by decide)) (fun _ => ?_)
        refine lv_aload_n hx hb dX1_writeName_7 rfl (lv_at hl 1 rfl) ?_
        refine gf_X1_9 hx hb hts hown hK hP 0 rfl rfl dX1_writeName_8 ?_
        refine lv_iload_n hx hb dX1_writeName_11 rfl (lv_at hl 2 rfl) ?_
        have hin_19 : vp_in vm 7 := vp_in_iff.mpr ⟨by omega, by omega⟩
        refine va_lald hx hb hK hP 1 1 rfl rfl hin_19 dX1_writeName_12 ?_
        refine lv_topl (fun y_20 ey_20 => ?_)
        refine lv_iload_n hx hb dX1_writeName_13 rfl (lv_at hl 0 rfl) ?_
        refine lv_lshr hx hb dX1_writeName_14 rfl ?_
        refine lv_topl (fun y_21 ey_21 => ?_)
        refine lv_ldc2 hx hb hown (hts _ t1107) dX1_writeName_15 ?_
        refine lv_land hx hb dX1_writeName_18 ?_
        refine lv_topl (fun y_22 ey_22 => ?_)
        refine lv_l2i hx hb dX1_writeName_19 rfl ?_
        refine lv_topi (fun z_23 ez_23 => ?_)
        have bz_23 := l31 ey_22 ez_23
        refine lv_istore (lv' := [(4, .int z_23), (3, .int 15), (0, .ref vc), (1, .int vm), (2, .ref vg)]) hx hb dX1_writeName_20 hl (by decide) rfl (fun ls hl => ?_)
        have join24 : ∀ (jv_24 jn_24 : Nat) (jf_24 : Nat → Int32) (jm_24 jc_24 : Int32), sb_Fit jf_24 → (jn_24 = 16 ∨ jn_24 = 34 ∨ jn_24 = 70) → (jc_24 : Int32).toInt ≤ (jn_24 : Int) → (0 ≤ jc_24.toInt ∧ jc_24.toInt ≤ 4) → ∀ (H : Heap) (locs : List Loc), va_P (dC, dI) vwCl [(vc, .inr (2, [.ref vc1, .ref vc2, .ref vc3, .ref vc4, .ref vc5, .int vcm, .int vcd, .int vcr, .int vcw])), (vc1, .inl (cy 1, 7, .inr (.inl vcf1))), (vg, .inr (0, [.ref jv_24, .int 0, .int jm_24, .int jc_24])), (jv_24, .inl (cy 3, jn_24, .inl jf_24))] H → va_D A [(vc, .inr (2, [.ref vc1, .ref vc2, .ref vc3, .ref vc4, .ref vc5, .int vcm, .int vcd, .int vcr, .int vcw])), (vc1, .inl (cy 1, 7, .inr (.inl vcf1))), (vg, .inr (0, [.ref jv_24, .int 0, .int jm_24, .int jc_24])), (jv_24, .inl (cy 3, jn_24, .inl jf_24))] → va_S A s.heap H locs → ∀ ls : Array Slot, lv_has ls 5 [(3, .int 15), (0, .ref vc), (1, .int vm), (2, .ref vg)] → W p l e ({ frames := 6, cells := 7, slots := 490, locals := 384 }) s m av9 below meth c H locs 4 280 Q9 (F0 m 40 ls []) := by
          intro jv_24 jn_24 jf_24 jm_24 jc_24 jh_24 jn1_24 jn2_24 jr_24 H locs hP hD hS ls hl
          refine lv_iinc (v := 10) (lv' := [(3, .int 10), (0, .ref vc), (1, .int vm), (2, .ref vg)]) hx hb dX1_writeName_40 hl (k := 0) rfl (by decide) (by decide) rfl (fun ls hl => ?_)
          refine lv_goto (tgt := 3) hx hb dX1_writeName_43 (by decide) ?_
          refine lv_iload_n hx hb dX1_writeName_3 rfl (lv_at hl 0 rfl) ?_
          refine lv_if_lt (tgt := 46) hx hb dX1_writeName_4 (by decide) (fun c9 => absurd c9 (by decide)) (fun _ => ?_)
          refine lv_aload_n hx hb dX1_writeName_7 rfl (lv_at hl 1 rfl) ?_
          refine gf_X1_9 hx hb hts hown hK hP 0 rfl rfl dX1_writeName_8 ?_
          refine lv_iload_n hx hb dX1_writeName_11 rfl (lv_at hl 2 rfl) ?_
          have hin_25 : vp_in vm 7 := vp_in_iff.mpr ⟨by omega, by omega⟩
          refine va_lald hx hb hK hP 1 1 rfl rfl hin_25 dX1_writeName_12 ?_
          refine lv_topl (fun y_26 ey_26 => ?_)
          refine lv_iload_n hx hb dX1_writeName_13 rfl (lv_at hl 0 rfl) ?_
          refine lv_lshr hx hb dX1_writeName_14 rfl ?_
          refine lv_topl (fun y_27 ey_27 => ?_)
          refine lv_ldc2 hx hb hown (hts _ t1107) dX1_writeName_15 ?_
          refine lv_land hx hb dX1_writeName_18 ?_
          refine lv_topl (fun y_28 ey_28 => ?_)
          refine lv_l2i hx hb dX1_writeName_19 rfl ?_
          refine lv_topi (fun z_29 ez_29 => ?_)
          have bz_29 := l31 ey_28 ez_29
          refine lv_istore (lv' := [(4, .int z_29), (3, .int 10), (0, .ref vc), (1, .int vm), (2, .ref vg)]) hx hb dX1_writeName_20 hl (by decide) rfl (fun ls hl => ?_)
          have join30 : ∀ (jv_30 jn_30 : Nat) (jf_30 : Nat → Int32) (jm_30 jc_30 : Int32), sb_Fit jf_30 → (jn_30 = 16 ∨ jn_30 = 34 ∨ jn_30 = 70) → (jc_30 : Int32).toInt ≤ (jn_30 : Int) → (0 ≤ jc_30.toInt ∧ jc_30.toInt ≤ 5) → ∀ (H : Heap) (locs : List Loc), va_P (dC, dI) vwCl [(vc, .inr (2, [.ref vc1, .ref vc2, .ref vc3, .ref vc4, .ref vc5, .int vcm, .int vcd, .int vcr, .int vcw])), (vc1, .inl (cy 1, 7, .inr (.inl vcf1))), (vg, .inr (0, [.ref jv_30, .int 0, .int jm_30, .int jc_30])), (jv_30, .inl (cy 3, jn_30, .inl jf_30))] H → va_D A [(vc, .inr (2, [.ref vc1, .ref vc2, .ref vc3, .ref vc4, .ref vc5, .int vcm, .int vcd, .int vcr, .int vcw])), (vc1, .inl (cy 1, 7, .inr (.inl vcf1))), (vg, .inr (0, [.ref jv_30, .int 0, .int jm_30, .int jc_30])), (jv_30, .inl (cy 3, jn_30, .inl jf_30))] → va_S A s.heap H locs → ∀ ls : Array Slot, lv_has ls 5 [(3, .int 10), (0, .ref vc), (1, .int vm), (2, .ref vg)] → W p l e ({ frames := 6, cells := 7, slots := 490, locals := 384 }) s m av9 below meth c H locs 5 350 Q9 (F0 m 40 ls []) := by
            intro jv_30 jn_30 jf_30 jm_30 jc_30 jh_30 jn1_30 jn2_30 jr_30 H locs hP hD hS ls hl
            refine lv_iinc (v := 5) (lv' := [(3, .int 5), (0, .ref vc), (1, .int vm), (2, .ref vg)]) hx hb dX1_writeName_40 hl (k := 0) rfl (by decide) (by decide) rfl (fun ls hl => ?_)
            refine lv_goto (tgt := 3) hx hb dX1_writeName_43 (by decide) ?_
            refine lv_iload_n hx hb dX1_writeName_3 rfl (lv_at hl 0 rfl) ?_
            refine lv_if_lt (tgt := 46) hx hb dX1_writeName_4 (by decide) (fun c9 => absurd c9 (by decide)) (fun _ => ?_)
            refine lv_aload_n hx hb dX1_writeName_7 rfl (lv_at hl 1 rfl) ?_
            refine gf_X1_9 hx hb hts hown hK hP 0 rfl rfl dX1_writeName_8 ?_
            refine lv_iload_n hx hb dX1_writeName_11 rfl (lv_at hl 2 rfl) ?_
            have hin_31 : vp_in vm 7 := vp_in_iff.mpr ⟨by omega, by omega⟩
            refine va_lald hx hb hK hP 1 1 rfl rfl hin_31 dX1_writeName_12 ?_
            refine lv_topl (fun y_32 ey_32 => ?_)
            refine lv_iload_n hx hb dX1_writeName_13 rfl (lv_at hl 0 rfl) ?_
            refine lv_lshr hx hb dX1_writeName_14 rfl ?_
            refine lv_topl (fun y_33 ey_33 => ?_)
            refine lv_ldc2 hx hb hown (hts _ t1107) dX1_writeName_15 ?_
            refine lv_land hx hb dX1_writeName_18 ?_
            refine lv_topl (fun y_34 ey_34 => ?_)
            refine lv_l2i hx hb dX1_writeName_19 rfl ?_
            refine lv_topi (fun z_35 ez_35 => ?_)
            have bz_35 := l31 ey_34 ez_35
            refine lv_istore (lv' := [(4, .int z_35), (3, .int 5), (0, .ref vc), (1, .int vm), (2, .ref vg)]) hx hb dX1_writeName_20 hl (by decide) rfl (fun ls hl => ?_)
            have join36 : ∀ (jv_36 jn_36 : Nat) (jf_36 : Nat → Int32) (jm_36 jc_36 : Int32), sb_Fit jf_36 → (jn_36 = 16 ∨ jn_36 = 34 ∨ jn_36 = 70) → (jc_36 : Int32).toInt ≤ (jn_36 : Int) → (0 ≤ jc_36.toInt ∧ jc_36.toInt ≤ 6) → ∀ (H : Heap) (locs : List Loc), va_P (dC, dI) vwCl [(vc, .inr (2, [.ref vc1, .ref vc2, .ref vc3, .ref vc4, .ref vc5, .int vcm, .int vcd, .int vcr, .int vcw])), (vc1, .inl (cy 1, 7, .inr (.inl vcf1))), (vg, .inr (0, [.ref jv_36, .int 0, .int jm_36, .int jc_36])), (jv_36, .inl (cy 3, jn_36, .inl jf_36))] H → va_D A [(vc, .inr (2, [.ref vc1, .ref vc2, .ref vc3, .ref vc4, .ref vc5, .int vcm, .int vcd, .int vcr, .int vcw])), (vc1, .inl (cy 1, 7, .inr (.inl vcf1))), (vg, .inr (0, [.ref jv_36, .int 0, .int jm_36, .int jc_36])), (jv_36, .inl (cy 3, jn_36, .inl jf_36))] → va_S A s.heap H locs → ∀ ls : Array Slot, lv_has ls 5 [(3, .int 5), (0, .ref vc), (1, .int vm), (2, .ref vg)] → W p l e ({ frames := 6, cells := 7, slots := 490, locals := 384 }) s m av9 below meth c H locs 6 420 Q9 (F0 m 40 ls []) := by
              intro jv_36 jn_36 jf_36 jm_36 jc_36 jh_36 jn1_36 jn2_36 jr_36 H locs hP hD hS ls hl
              refine lv_iinc (v := 0) (lv' := [(3, .int 0), (0, .ref vc), (1, .int vm), (2, .ref vg)]) hx hb dX1_writeName_40 hl (k := 0) rfl (by decide) (by decide) rfl (fun ls hl => ?_)
              refine lv_goto (tgt := 3) hx hb dX1_writeName_43 (by decide) ?_
              refine lv_iload_n hx hb dX1_writeName_3 rfl (lv_at hl 0 rfl) ?_
              refine lv_if_lt (tgt := 46) hx hb dX1_writeName_4 (by decide) (fun c9 => absurd c9 (by decide)) (fun _ => ?_)
              refine lv_aload_n hx hb dX1_writeName_7 rfl (lv_at hl 1 rfl) ?_
              refine gf_X1_9 hx hb hts hown hK hP 0 rfl rfl dX1_writeName_8 ?_
              refine lv_iload_n hx hb dX1_writeName_11 rfl (lv_at hl 2 rfl) ?_
              have hin_37 : vp_in vm 7 := vp_in_iff.mpr ⟨by omega, by omega⟩
              refine va_lald hx hb hK hP 1 1 rfl rfl hin_37 dX1_writeName_12 ?_
              refine lv_topl (fun y_38 ey_38 => ?_)
              refine lv_iload_n hx hb dX1_writeName_13 rfl (lv_at hl 0 rfl) ?_
              refine lv_lshr hx hb dX1_writeName_14 rfl ?_
              refine lv_topl (fun y_39 ey_39 => ?_)
              refine lv_ldc2 hx hb hown (hts _ t1107) dX1_writeName_15 ?_
              refine lv_land hx hb dX1_writeName_18 ?_
              refine lv_topl (fun y_40 ey_40 => ?_)
              refine lv_l2i hx hb dX1_writeName_19 rfl ?_
              refine lv_topi (fun z_41 ez_41 => ?_)
              have bz_41 := l31 ey_40 ez_41
              refine lv_istore (lv' := [(4, .int z_41), (3, .int 0), (0, .ref vc), (1, .int vm), (2, .ref vg)]) hx hb dX1_writeName_20 hl (by decide) rfl (fun ls hl => ?_)
              have join42 : ∀ (jv_42 jn_42 : Nat) (jf_42 : Nat → Int32) (jm_42 jc_42 : Int32), sb_Fit jf_42 → (jn_42 = 16 ∨ jn_42 = 34 ∨ jn_42 = 70) → (jc_42 : Int32).toInt ≤ (jn_42 : Int) → (0 ≤ jc_42.toInt ∧ jc_42.toInt ≤ 7) → ∀ (H : Heap) (locs : List Loc), va_P (dC, dI) vwCl [(vc, .inr (2, [.ref vc1, .ref vc2, .ref vc3, .ref vc4, .ref vc5, .int vcm, .int vcd, .int vcr, .int vcw])), (vc1, .inl (cy 1, 7, .inr (.inl vcf1))), (vg, .inr (0, [.ref jv_42, .int 0, .int jm_42, .int jc_42])), (jv_42, .inl (cy 3, jn_42, .inl jf_42))] H → va_D A [(vc, .inr (2, [.ref vc1, .ref vc2, .ref vc3, .ref vc4, .ref vc5, .int vcm, .int vcd, .int vcr, .int vcw])), (vc1, .inl (cy 1, 7, .inr (.inl vcf1))), (vg, .inr (0, [.ref jv_42, .int 0, .int jm_42, .int jc_42])), (jv_42, .inl (cy 3, jn_42, .inl jf_42))] → va_S A s.heap H locs → ∀ ls : Array Slot, lv_has ls 5 [(3, .int 0), (0, .ref vc), (1, .int vm), (2, .ref vg)] → W p l e ({ frames := 6, cells := 7, slots := 490, locals := 384 }) s m av9 below meth c H locs 7 490 Q9 (F0 m 40 ls []) := by
                intro jv_42 jn_42 jf_42 jm_42 jc_42 jh_42 jn1_42 jn2_42 jr_42 H locs hP hD hS ls hl
                refine lv_iinc (v := (-5)) (lv' := [(3, .int (-5)), (0, .ref vc), (1, .int vm), (2, .ref vg)]) hx hb dX1_writeName_40 hl (k := 0) rfl (by decide) (by decide) rfl (fun ls hl => ?_)
                refine lv_goto (tgt := 3) hx hb dX1_writeName_43 (by decide) ?_
                refine lv_iload_n hx hb dX1_writeName_3 rfl (lv_at hl 0 rfl) ?_
                refine lv_if_lt (tgt := 46) hx hb dX1_writeName_4 (by decide) (fun _ => ?_) (fun c9 => absurd (by decide) c9)
                refine W.widen (k := 7) (n := 490) (by decide) (by decide) ?_
                rw [hQ9]
                exact re_v (jv_42, jn_42, jf_42, jm_42, jc_42) hx hb hr hlocks ⟨(show sb_Fit jf_42 from jh_42), (show 0 ≤ (jc_42 : Int32).toInt ∧ (jc_42 : Int32).toInt ≤ 7 from ⟨by omega, by omega⟩), (show (jn_42 = 16 ∨ jn_42 = 34 ∨ jn_42 = 70) from jn1_42), (show (jc_42 : Int32).toInt ≤ (jn_42 : Int) from jn2_42)⟩ (hP.sub [0, 1, 2, 3] rfl) (hD.sub [0, 1, 2, 3] rfl rfl) hS dX1_writeName_46
              refine lv_iload hx hb dX1_writeName_22 (lv_at hl 0 rfl) ?_
              have k_0 : (0 : Int32).toInt = 0 := by decide
              refine lv_if_eq (tgt := 40) hx hb dX1_writeName_24 (by decide) (fun c_43 => ?_) (fun c_43 => ?_)
              · skip
                have c_43 : z_41.toInt = (0 : Int32).toInt := i_eq.mp c_43
                refine W.widen (k := 7) (n := 490) (by decide) (by decide) ?_
                exact join42 jv_36 jn_36 jf_36 jm_36 jc_36 jh_36 jn1_36 jn2_36 ⟨by omega, by omega⟩ _ _ (hP.sub [0, 1, 2, 3] rfl) (hD.sub [0, 1, 2, 3] rfl rfl) hS ls (lv_sub hl [1, 2, 3, 4] rfl)
              · skip
                have c_43 : ¬ (z_41.toInt = (0 : Int32).toInt) := fun h9 => c_43 (i_eq.mpr h9)
                refine lv_aload_n hx hb dX1_writeName_27 rfl (lv_at hl 4 rfl) ?_
                refine lv_bipush (v := 97) hx hb dX1_writeName_28 (by decide) ?_
                refine lv_iload hx hb dX1_writeName_30 (lv_at hl 0 rfl) ?_
                refine lv_iadd hx hb dX1_writeName_32 ?_
                refine lv_topi (fun z_44 ez_44 => ?_)
                have k_97 : (97 : Int32).toInt = 97 := by decide
                have bz_44 : z_44.toInt = (97 : Int32).toInt + z_41.toInt := i_add ez_44 (by omega) (by omega)
                refine lv_iconst (v := 1) hx hb dX1_writeName_33 (by decide) ?_
                refine lv_isub hx hb dX1_writeName_34 ?_
                refine lv_topi (fun z_45 ez_45 => ?_)
                have k_1 : (1 : Int32).toInt = 1 := by decide
                have bz_45 : z_45.toInt = z_44.toInt - (1 : Int32).toInt := i_sub ez_45 (by omega) (by omega)
                refine lv_i2c hx hb dX1_writeName_35 rfl ?_
                refine lv_topi (fun z_46 ez_46 => ?_)
                have bz_46 := c_id ez_46 ⟨by omega, by omega⟩
                refine jn_r (wr := [(vc, .inr (2, [.ref vc1, .ref vc2, .ref vc3, .ref vc4, .ref vc5, .int vcm, .int vcd, .int vcr, .int vcw])), (vc1, .inl (cy 1, 7, .inr (.inl vcf1)))]) (rV (As := [.int z_46]) (rest := []) (ci := 0) ⟨hx, hb, hml, hown, hts⟩ (b_sbappC l dC dI cy _ B kS vS vg jv_36 jm_36 jc_36 jn_36 jf_36 z_46 ⟨by omega, by omega⟩ ⟨by omega, by omega⟩ jh_36 jn1_36 jn2_36 (fun q hq => hAB q (va_free hD hS hA [2, 3] rfl q hq))) (cw_X1_44 hts rfl rfl ⟨Nat.le_of_ble_eq_true rfl, Nat.le_of_ble_eq_true rfl⟩) hP hD hK [2, 3] rfl rfl rfl rfl EnvB.calling (EnvB.at hE hS hAB (fun _ h => h)) rfl hl.1 rfl (Nat.le_of_ble_eq_true rfl) dX1_writeName_36 ⟨Nat.le_of_ble_eq_true rfl, Nat.le_of_ble_eq_true rfl⟩) hP hD hS hA [2, 3] [0, 1] rfl rfl rfl (by decide) (fun u_49 H locs hp_48 hP hD hS => ?_)
                obtain ⟨vgv_50, vnb_51, vgf_52, vgc_53⟩ := u_49
                have hp_48 : (sb_Fit vgf_52) ∧ (0 ≤ (vgc_53 : Int32).toInt ∧ (vgc_53 : Int32).toInt ≤ 42) ∧ ((vnb_51 = 16 ∨ vnb_51 = 34 ∨ vnb_51 = 70)) ∧ ((vgc_53 : Int32).toInt ≤ (vnb_51 : Int)) ∧ ((vgc_53 : Int32).toInt = (jc_36 : Int32).toInt + 1) := hp_48
                obtain ⟨q_54, q_55, q_56, q_57, q_58⟩ := hp_48
                have hP : va_P (dC, dI) vwCl [(vc, .inr (2, [.ref vc1, .ref vc2, .ref vc3, .ref vc4, .ref vc5, .int vcm, .int vcd, .int vcr, .int vcw])), (vc1, .inl (cy 1, 7, .inr (.inl vcf1))), (vg, .inr (0, [.ref vgv_50, .int 0, .int jm_36, .int vgc_53])), (vgv_50, .inl (cy 3, vnb_51, .inl vgf_52))] H := hP
                have hD : va_D A [(vc, .inr (2, [.ref vc1, .ref vc2, .ref vc3, .ref vc4, .ref vc5, .int vcm, .int vcd, .int vcr, .int vcw])), (vc1, .inl (cy 1, 7, .inr (.inl vcf1))), (vg, .inr (0, [.ref vgv_50, .int 0, .int jm_36, .int vgc_53])), (vgv_50, .inl (cy 3, vnb_51, .inl vgf_52))] := hD
                refine W.widen (k := 7) (n := 490) (by decide) (by decide) ?_
                refine W.eq (g2 := F0 m 39 ls [.ref vg]) rfl ?_
                refine lv_pop hx hb dX1_writeName_39 rfl ?_
                refine W.widen (k := 7) (n := 490) (by decide) (by decide) ?_
                exact join42 vgv_50 vnb_51 vgf_52 jm_36 vgc_53 q_54 q_56 q_57 ⟨by omega, by omega⟩ _ _ (hP.sub [0, 1, 2, 3] rfl) (hD.sub [0, 1, 2, 3] rfl rfl) hS ls (lv_sub hl [1, 2, 3, 4] rfl)
            refine lv_iload hx hb dX1_writeName_22 (lv_at hl 0 rfl) ?_
            have k_0 : (0 : Int32).toInt = 0 := by decide
            refine lv_if_eq (tgt := 40) hx hb dX1_writeName_24 (by decide) (fun c_59 => ?_) (fun c_59 => ?_)
            · skip
              have c_59 : z_35.toInt = (0 : Int32).toInt := i_eq.mp c_59
              refine W.widen (k := 6) (n := 420) (by decide) (by decide) ?_
              exact join36 jv_30 jn_30 jf_30 jm_30 jc_30 jh_30 jn1_30 jn2_30 ⟨by omega, by omega⟩ _ _ (hP.sub [0, 1, 2, 3] rfl) (hD.sub [0, 1, 2, 3] rfl rfl) hS ls (lv_sub hl [1, 2, 3, 4] rfl)
            · skip
              have c_59 : ¬ (z_35.toInt = (0 : Int32).toInt) := fun h9 => c_59 (i_eq.mpr h9)
              refine lv_aload_n hx hb dX1_writeName_27 rfl (lv_at hl 4 rfl) ?_
              refine lv_bipush (v := 97) hx hb dX1_writeName_28 (by decide) ?_
              refine lv_iload hx hb dX1_writeName_30 (lv_at hl 0 rfl) ?_
              refine lv_iadd hx hb dX1_writeName_32 ?_
              refine lv_topi (fun z_60 ez_60 => ?_)
              have k_97 : (97 : Int32).toInt = 97 := by decide
              have bz_60 : z_60.toInt = (97 : Int32).toInt + z_35.toInt := i_add ez_60 (by omega) (by omega)
              refine lv_iconst (v := 1) hx hb dX1_writeName_33 (by decide) ?_
              refine lv_isub hx hb dX1_writeName_34 ?_
              refine lv_topi (fun z_61 ez_61 => ?_)
              have k_1 : (1 : Int32).toInt = 1 := by decide
              have bz_61 : z_61.toInt = z_60.toInt - (1 : Int32).toInt := i_sub ez_61 (by omega) (by omega)
              refine lv_i2c hx hb dX1_writeName_35 rfl ?_
              refine lv_topi (fun z_62 ez_62 => ?_)
              have bz_62 := c_id ez_62 ⟨by omega, by omega⟩
              refine jn_r (wr := [(vc, .inr (2, [.ref vc1, .ref vc2, .ref vc3, .ref vc4, .ref vc5, .int vcm, .int vcd, .int vcr, .int vcw])), (vc1, .inl (cy 1, 7, .inr (.inl vcf1)))]) (rV (As := [.int z_62]) (rest := []) (ci := 0) ⟨hx, hb, hml, hown, hts⟩ (b_sbappC l dC dI cy _ B kS vS vg jv_30 jm_30 jc_30 jn_30 jf_30 z_62 ⟨by omega, by omega⟩ ⟨by omega, by omega⟩ jh_30 jn1_30 jn2_30 (fun q hq => hAB q (va_free hD hS hA [2, 3] rfl q hq))) (cw_X1_44 hts rfl rfl ⟨Nat.le_of_ble_eq_true rfl, Nat.le_of_ble_eq_true rfl⟩) hP hD hK [2, 3] rfl rfl rfl rfl EnvB.calling (EnvB.at hE hS hAB (fun _ h => h)) rfl hl.1 rfl (Nat.le_of_ble_eq_true rfl) dX1_writeName_36 ⟨Nat.le_of_ble_eq_true rfl, Nat.le_of_ble_eq_true rfl⟩) hP hD hS hA [2, 3] [0, 1] rfl rfl rfl (by decide) (fun u_65 H locs hp_64 hP hD hS => ?_)
              obtain ⟨vgv_66, vnb_67, vgf_68, vgc_69⟩ := u_65
              have hp_64 : (sb_Fit vgf_68) ∧ (0 ≤ (vgc_69 : Int32).toInt ∧ (vgc_69 : Int32).toInt ≤ 42) ∧ ((vnb_67 = 16 ∨ vnb_67 = 34 ∨ vnb_67 = 70)) ∧ ((vgc_69 : Int32).toInt ≤ (vnb_67 : Int)) ∧ ((vgc_69 : Int32).toInt = (jc_30 : Int32).toInt + 1) := hp_64
              obtain ⟨q_70, q_71, q_72, q_73, q_74⟩ := hp_64
              have hP : va_P (dC, dI) vwCl [(vc, .inr (2, [.ref vc1, .ref vc2, .ref vc3, .ref vc4, .ref vc5, .int vcm, .int vcd, .int vcr, .int vcw])), (vc1, .inl (cy 1, 7, .inr (.inl vcf1))), (vg, .inr (0, [.ref vgv_66, .int 0, .int jm_30, .int vgc_69])), (vgv_66, .inl (cy 3, vnb_67, .inl vgf_68))] H := hP
              have hD : va_D A [(vc, .inr (2, [.ref vc1, .ref vc2, .ref vc3, .ref vc4, .ref vc5, .int vcm, .int vcd, .int vcr, .int vcw])), (vc1, .inl (cy 1, 7, .inr (.inl vcf1))), (vg, .inr (0, [.ref vgv_66, .int 0, .int jm_30, .int vgc_69])), (vgv_66, .inl (cy 3, vnb_67, .inl vgf_68))] := hD
              refine W.widen (k := 6) (n := 420) (by decide) (by decide) ?_
              refine W.eq (g2 := F0 m 39 ls [.ref vg]) rfl ?_
              refine lv_pop hx hb dX1_writeName_39 rfl ?_
              refine W.widen (k := 6) (n := 420) (by decide) (by decide) ?_
              exact join36 vgv_66 vnb_67 vgf_68 jm_30 vgc_69 q_70 q_72 q_73 ⟨by omega, by omega⟩ _ _ (hP.sub [0, 1, 2, 3] rfl) (hD.sub [0, 1, 2, 3] rfl rfl) hS ls (lv_sub hl [1, 2, 3, 4] rfl)
          refine lv_iload hx hb dX1_writeName_22 (lv_at hl 0 rfl) ?_
          have k_0 : (0 : Int32).toInt = 0 := by decide
          refine lv_if_eq (tgt := 40) hx hb dX1_writeName_24 (by decide) (fun c_75 => ?_) (fun c_75 => ?_)
          · skip
            have c_75 : z_29.toInt = (0 : Int32).toInt := i_eq.mp c_75
            refine W.widen (k := 5) (n := 350) (by decide) (by decide) ?_
            exact join30 jv_24 jn_24 jf_24 jm_24 jc_24 jh_24 jn1_24 jn2_24 ⟨by omega, by omega⟩ _ _ (hP.sub [0, 1, 2, 3] rfl) (hD.sub [0, 1, 2, 3] rfl rfl) hS ls (lv_sub hl [1, 2, 3, 4] rfl)
          · skip
            have c_75 : ¬ (z_29.toInt = (0 : Int32).toInt) := fun h9 => c_75 (i_eq.mpr h9)
            refine lv_aload_n hx hb dX1_writeName_27 rfl (lv_at hl 4 rfl) ?_
            refine lv_bipush (v := 97) hx hb dX1_writeName_28 (by decide) ?_
            refine lv_iload hx hb dX1_writeName_30 (lv_at hl 0 rfl) ?_
            refine lv_iadd hx hb dX1_writeName_32 ?_
            refine lv_topi (fun z_76 ez_76 => ?_)
            have k_97 : (97 : Int32).toInt = 97 := by decide
            have bz_76 : z_76.toInt = (97 : Int32).toInt + z_29.toInt := i_add ez_76 (by omega) (by omega)
            refine lv_iconst (v := 1) hx hb dX1_writeName_33 (by decide) ?_
            refine lv_isub hx hb dX1_writeName_34 ?_
            refine lv_topi (fun z_77 ez_77 => ?_)
            have k_1 : (1 : Int32).toInt = 1 := by decide
            have bz_77 : z_77.toInt = z_76.toInt - (1 : Int32).toInt := i_sub ez_77 (by omega) (by omega)
            refine lv_i2c hx hb dX1_writeName_35 rfl ?_
            refine lv_topi (fun z_78 ez_78 => ?_)
            have bz_78 := c_id ez_78 ⟨by omega, by omega⟩
            refine jn_r (wr := [(vc, .inr (2, [.ref vc1, .ref vc2, .ref vc3, .ref vc4, .ref vc5, .int vcm, .int vcd, .int vcr, .int vcw])), (vc1, .inl (cy 1, 7, .inr (.inl vcf1)))]) (rV (As := [.int z_78]) (rest := []) (ci := 0) ⟨hx, hb, hml, hown, hts⟩ (b_sbappC l dC dI cy _ B kS vS vg jv_24 jm_24 jc_24 jn_24 jf_24 z_78 ⟨by omega, by omega⟩ ⟨by omega, by omega⟩ jh_24 jn1_24 jn2_24 (fun q hq => hAB q (va_free hD hS hA [2, 3] rfl q hq))) (cw_X1_44 hts rfl rfl ⟨Nat.le_of_ble_eq_true rfl, Nat.le_of_ble_eq_true rfl⟩) hP hD hK [2, 3] rfl rfl rfl rfl EnvB.calling (EnvB.at hE hS hAB (fun _ h => h)) rfl hl.1 rfl (Nat.le_of_ble_eq_true rfl) dX1_writeName_36 ⟨Nat.le_of_ble_eq_true rfl, Nat.le_of_ble_eq_true rfl⟩) hP hD hS hA [2, 3] [0, 1] rfl rfl rfl (by decide) (fun u_81 H locs hp_80 hP hD hS => ?_)
            obtain ⟨vgv_82, vnb_83, vgf_84, vgc_85⟩ := u_81
            have hp_80 : (sb_Fit vgf_84) ∧ (0 ≤ (vgc_85 : Int32).toInt ∧ (vgc_85 : Int32).toInt ≤ 42) ∧ ((vnb_83 = 16 ∨ vnb_83 = 34 ∨ vnb_83 = 70)) ∧ ((vgc_85 : Int32).toInt ≤ (vnb_83 : Int)) ∧ ((vgc_85 : Int32).toInt = (jc_24 : Int32).toInt + 1) := hp_80
            obtain ⟨q_86, q_87, q_88, q_89, q_90⟩ := hp_80
            have hP : va_P (dC, dI) vwCl [(vc, .inr (2, [.ref vc1, .ref vc2, .ref vc3, .ref vc4, .ref vc5, .int vcm, .int vcd, .int vcr, .int vcw])), (vc1, .inl (cy 1, 7, .inr (.inl vcf1))), (vg, .inr (0, [.ref vgv_82, .int 0, .int jm_24, .int vgc_85])), (vgv_82, .inl (cy 3, vnb_83, .inl vgf_84))] H := hP
            have hD : va_D A [(vc, .inr (2, [.ref vc1, .ref vc2, .ref vc3, .ref vc4, .ref vc5, .int vcm, .int vcd, .int vcr, .int vcw])), (vc1, .inl (cy 1, 7, .inr (.inl vcf1))), (vg, .inr (0, [.ref vgv_82, .int 0, .int jm_24, .int vgc_85])), (vgv_82, .inl (cy 3, vnb_83, .inl vgf_84))] := hD
            refine W.widen (k := 5) (n := 350) (by decide) (by decide) ?_
            refine W.eq (g2 := F0 m 39 ls [.ref vg]) rfl ?_
            refine lv_pop hx hb dX1_writeName_39 rfl ?_
            refine W.widen (k := 5) (n := 350) (by decide) (by decide) ?_
            exact join30 vgv_82 vnb_83 vgf_84 jm_24 vgc_85 q_86 q_88 q_89 ⟨by omega, by omega⟩ _ _ (hP.sub [0, 1, 2, 3] rfl) (hD.sub [0, 1, 2, 3] rfl rfl) hS ls (lv_sub hl [1, 2, 3, 4] rfl)
        refine lv_iload hx hb dX1_writeName_22 (lv_at hl 0 rfl) ?_
        have k_0 : (0 : Int32).toInt = 0 := by decide
        refine lv_if_eq (tgt := 40) hx hb dX1_writeName_24 (by decide) (fun c_91 => ?_) (fun c_91 => ?_)
        · skip
          have c_91 : z_23.toInt = (0 : Int32).toInt := i_eq.mp c_91
          refine W.widen (k := 4) (n := 280) (by decide) (by decide) ?_
          exact join24 jv_18 jn_18 jf_18 jm_18 jc_18 jh_18 jn1_18 jn2_18 ⟨by omega, by omega⟩ _ _ (hP.sub [0, 1, 2, 3] rfl) (hD.sub [0, 1, 2, 3] rfl rfl) hS ls (lv_sub hl [1, 2, 3, 4] rfl)
        · skip
          have c_91 : ¬ (z_23.toInt = (0 : Int32).toInt) := fun h9 => c_91 (i_eq.mpr h9)
          refine lv_aload_n hx hb dX1_writeName_27 rfl (lv_at hl 4 rfl) ?_
          refine lv_bipush (v := 97) hx hb dX1_writeName_28 (by decide) ?_
          refine lv_iload hx hb dX1_writeName_30 (lv_at hl 0 rfl) ?_
          refine lv_iadd hx hb dX1_writeName_32 ?_
          refine lv_topi (fun z_92 ez_92 => ?_)
          have k_97 : (97 : Int32).toInt = 97 := by decide
          have bz_92 : z_92.toInt = (97 : Int32).toInt + z_23.toInt := i_add ez_92 (by omega) (by omega)
          refine lv_iconst (v := 1) hx hb dX1_writeName_33 (by decide) ?_
          refine lv_isub hx hb dX1_writeName_34 ?_
          refine lv_topi (fun z_93 ez_93 => ?_)
          have k_1 : (1 : Int32).toInt = 1 := by decide
          have bz_93 : z_93.toInt = z_92.toInt - (1 : Int32).toInt := i_sub ez_93 (by omega) (by omega)
          refine lv_i2c hx hb dX1_writeName_35 rfl ?_
          refine lv_topi (fun z_94 ez_94 => ?_)
          have bz_94 := c_id ez_94 ⟨by omega, by omega⟩
          refine jn_r (wr := [(vc, .inr (2, [.ref vc1, .ref vc2, .ref vc3, .ref vc4, .ref vc5, .int vcm, .int vcd, .int vcr, .int vcw])), (vc1, .inl (cy 1, 7, .inr (.inl vcf1)))]) (rV (As := [.int z_94]) (rest := []) (ci := 0) ⟨hx, hb, hml, hown, hts⟩ (b_sbappC l dC dI cy _ B kS vS vg jv_18 jm_18 jc_18 jn_18 jf_18 z_94 ⟨by omega, by omega⟩ ⟨by omega, by omega⟩ jh_18 jn1_18 jn2_18 (fun q hq => hAB q (va_free hD hS hA [2, 3] rfl q hq))) (cw_X1_44 hts rfl rfl ⟨Nat.le_of_ble_eq_true rfl, Nat.le_of_ble_eq_true rfl⟩) hP hD hK [2, 3] rfl rfl rfl rfl EnvB.calling (EnvB.at hE hS hAB (fun _ h => h)) rfl hl.1 rfl (Nat.le_of_ble_eq_true rfl) dX1_writeName_36 ⟨Nat.le_of_ble_eq_true rfl, Nat.le_of_ble_eq_true rfl⟩) hP hD hS hA [2, 3] [0, 1] rfl rfl rfl (by decide) (fun u_97 H locs hp_96 hP hD hS => ?_)
          obtain ⟨vgv_98, vnb_99, vgf_100, vgc_101⟩ := u_97
          have hp_96 : (sb_Fit vgf_100) ∧ (0 ≤ (vgc_101 : Int32).toInt ∧ (vgc_101 : Int32).toInt ≤ 42) ∧ ((vnb_99 = 16 ∨ vnb_99 = 34 ∨ vnb_99 = 70)) ∧ ((vgc_101 : Int32).toInt ≤ (vnb_99 : Int)) ∧ ((vgc_101 : Int32).toInt = (jc_18 : Int32).toInt + 1) := hp_96
          obtain ⟨q_102, q_103, q_104, q_105, q_106⟩ := hp_96
          have hP : va_P (dC, dI) vwCl [(vc, .inr (2, [.ref vc1, .ref vc2, .ref vc3, .ref vc4, .ref vc5, .int vcm, .int vcd, .int vcr, .int vcw])), (vc1, .inl (cy 1, 7, .inr (.inl vcf1))), (vg, .inr (0, [.ref vgv_98, .int 0, .int jm_18, .int vgc_101])), (vgv_98, .inl (cy 3, vnb_99, .inl vgf_100))] H := hP
          have hD : va_D A [(vc, .inr (2, [.ref vc1, .ref vc2, .ref vc3, .ref vc4, .ref vc5, .int vcm, .int vcd, .int vcr, .int vcw])), (vc1, .inl (cy 1, 7, .inr (.inl vcf1))), (vg, .inr (0, [.ref vgv_98, .int 0, .int jm_18, .int vgc_101])), (vgv_98, .inl (cy 3, vnb_99, .inl vgf_100))] := hD
          refine W.widen (k := 4) (n := 280) (by decide) (by decide) ?_
          refine W.eq (g2 := F0 m 39 ls [.ref vg]) rfl ?_
          refine lv_pop hx hb dX1_writeName_39 rfl ?_
          refine W.widen (k := 4) (n := 280) (by decide) (by decide) ?_
          exact join24 vgv_98 vnb_99 vgf_100 jm_18 vgc_101 q_102 q_104 q_105 ⟨by omega, by omega⟩ _ _ (hP.sub [0, 1, 2, 3] rfl) (hD.sub [0, 1, 2, 3] rfl rfl) hS ls (lv_sub hl [1, 2, 3, 4] rfl)
      refine lv_iload hx hb dX1_writeName_22 (lv_at hl 0 rfl) ?_
      have k_0 : (0 : Int32).toInt = 0 := by decide
      refine lv_if_eq (tgt := 40) hx hb dX1_writeName_24 (by decide) (fun c_107 => ?_) (fun c_107 => ?_)
      · skip
        have c_107 : z_17.toInt = (0 : Int32).toInt := i_eq.mp c_107
        refine W.widen (k := 3) (n := 210) (by decide) (by decide) ?_
        exact join18 jv_12 jn_12 jf_12 jm_12 jc_12 jh_12 jn1_12 jn2_12 ⟨by omega, by omega⟩ _ _ (hP.sub [0, 1, 2, 3] rfl) (hD.sub [0, 1, 2, 3] rfl rfl) hS ls (lv_sub hl [1, 2, 3, 4] rfl)
      · skip
        have c_107 : ¬ (z_17.toInt = (0 : Int32).toInt) := fun h9 => c_107 (i_eq.mpr h9)
        refine lv_aload_n hx hb dX1_writeName_27 rfl (lv_at hl 4 rfl) ?_
        refine lv_bipush (v := 97) hx hb dX1_writeName_28 (by decide) ?_
        refine lv_iload hx hb dX1_writeName_30 (lv_at hl 0 rfl) ?_
        refine lv_iadd hx hb dX1_writeName_32 ?_
        refine lv_topi (fun z_108 ez_108 => ?_)
        have k_97 : (97 : Int32).toInt = 97 := by decide
        have bz_108 : z_108.toInt = (97 : Int32).toInt + z_17.toInt := i_add ez_108 (by omega) (by omega)
        refine lv_iconst (v := 1) hx hb dX1_writeName_33 (by decide) ?_
        refine lv_isub hx hb dX1_writeName_34 ?_
        refine lv_topi (fun z_109 ez_109 => ?_)
        have k_1 : (1 : Int32).toInt = 1 := by decide
        have bz_109 : z_109.toInt = z_108.toInt - (1 : Int32).toInt := i_sub ez_109 (by omega) (by omega)
        refine lv_i2c hx hb dX1_writeName_35 rfl ?_
        refine lv_topi (fun z_110 ez_110 => ?_)
        have bz_110 := c_id ez_110 ⟨by omega, by omega⟩
        refine jn_r (wr := [(vc, .inr (2, [.ref vc1, .ref vc2, .ref vc3, .ref vc4, .ref vc5, .int vcm, .int vcd, .int vcr, .int vcw])), (vc1, .inl (cy 1, 7, .inr (.inl vcf1)))]) (rV (As := [.int z_110]) (rest := []) (ci := 0) ⟨hx, hb, hml, hown, hts⟩ (b_sbappC l dC dI cy _ B kS vS vg jv_12 jm_12 jc_12 jn_12 jf_12 z_110 ⟨by omega, by omega⟩ ⟨by omega, by omega⟩ jh_12 jn1_12 jn2_12 (fun q hq => hAB q (va_free hD hS hA [2, 3] rfl q hq))) (cw_X1_44 hts rfl rfl ⟨Nat.le_of_ble_eq_true rfl, Nat.le_of_ble_eq_true rfl⟩) hP hD hK [2, 3] rfl rfl rfl rfl EnvB.calling (EnvB.at hE hS hAB (fun _ h => h)) rfl hl.1 rfl (Nat.le_of_ble_eq_true rfl) dX1_writeName_36 ⟨Nat.le_of_ble_eq_true rfl, Nat.le_of_ble_eq_true rfl⟩) hP hD hS hA [2, 3] [0, 1] rfl rfl rfl (by decide) (fun u_113 H locs hp_112 hP hD hS => ?_)
        obtain ⟨vgv_114, vnb_115, vgf_116, vgc_117⟩ := u_113
        have hp_112 : (sb_Fit vgf_116) ∧ (0 ≤ (vgc_117 : Int32).toInt ∧ (vgc_117 : Int32).toInt ≤ 42) ∧ ((vnb_115 = 16 ∨ vnb_115 = 34 ∨ vnb_115 = 70)) ∧ ((vgc_117 : Int32).toInt ≤ (vnb_115 : Int)) ∧ ((vgc_117 : Int32).toInt = (jc_12 : Int32).toInt + 1) := hp_112
        obtain ⟨q_118, q_119, q_120, q_121, q_122⟩ := hp_112
        have hP : va_P (dC, dI) vwCl [(vc, .inr (2, [.ref vc1, .ref vc2, .ref vc3, .ref vc4, .ref vc5, .int vcm, .int vcd, .int vcr, .int vcw])), (vc1, .inl (cy 1, 7, .inr (.inl vcf1))), (vg, .inr (0, [.ref vgv_114, .int 0, .int jm_12, .int vgc_117])), (vgv_114, .inl (cy 3, vnb_115, .inl vgf_116))] H := hP
        have hD : va_D A [(vc, .inr (2, [.ref vc1, .ref vc2, .ref vc3, .ref vc4, .ref vc5, .int vcm, .int vcd, .int vcr, .int vcw])), (vc1, .inl (cy 1, 7, .inr (.inl vcf1))), (vg, .inr (0, [.ref vgv_114, .int 0, .int jm_12, .int vgc_117])), (vgv_114, .inl (cy 3, vnb_115, .inl vgf_116))] := hD
        refine W.widen (k := 3) (n := 210) (by decide) (by decide) ?_
        refine W.eq (g2 := F0 m 39 ls [.ref vg]) rfl ?_
        refine lv_pop hx hb dX1_writeName_39 rfl ?_
        refine W.widen (k := 3) (n := 210) (by decide) (by decide) ?_
        exact join18 vgv_114 vnb_115 vgf_116 jm_12 vgc_117 q_118 q_120 q_121 ⟨by omega, by omega⟩ _ _ (hP.sub [0, 1, 2, 3] rfl) (hD.sub [0, 1, 2, 3] rfl rfl) hS ls (lv_sub hl [1, 2, 3, 4] rfl)
    refine lv_iload hx hb dX1_writeName_22 (lv_at hl 0 rfl) ?_
    have k_0 : (0 : Int32).toInt = 0 := by decide
    refine lv_if_eq (tgt := 40) hx hb dX1_writeName_24 (by decide) (fun c_123 => ?_) (fun c_123 => ?_)
    · skip
      have c_123 : z_11.toInt = (0 : Int32).toInt := i_eq.mp c_123
      refine W.widen (k := 2) (n := 140) (by decide) (by decide) ?_
      exact join12 jv_6 jn_6 jf_6 jm_6 jc_6 jh_6 jn1_6 jn2_6 ⟨by omega, by omega⟩ _ _ (hP.sub [0, 1, 2, 3] rfl) (hD.sub [0, 1, 2, 3] rfl rfl) hS ls (lv_sub hl [1, 2, 3, 4] rfl)
    · skip
      have c_123 : ¬ (z_11.toInt = (0 : Int32).toInt) := fun h9 => c_123 (i_eq.mpr h9)
      refine lv_aload_n hx hb dX1_writeName_27 rfl (lv_at hl 4 rfl) ?_
      refine lv_bipush (v := 97) hx hb dX1_writeName_28 (by decide) ?_
      refine lv_iload hx hb dX1_writeName_30 (lv_at hl 0 rfl) ?_
      refine lv_iadd hx hb dX1_writeName_32 ?_
      refine lv_topi (fun z_124 ez_124 => ?_)
      have k_97 : (97 : Int32).toInt = 97 := by decide
      have bz_124 : z_124.toInt = (97 : Int32).toInt + z_11.toInt := i_add ez_124 (by omega) (by omega)
      refine lv_iconst (v := 1) hx hb dX1_writeName_33 (by decide) ?_
      refine lv_isub hx hb dX1_writeName_34 ?_
      refine lv_topi (fun z_125 ez_125 => ?_)
      have k_1 : (1 : Int32).toInt = 1 := by decide
      have bz_125 : z_125.toInt = z_124.toInt - (1 : Int32).toInt := i_sub ez_125 (by omega) (by omega)
      refine lv_i2c hx hb dX1_writeName_35 rfl ?_
      refine lv_topi (fun z_126 ez_126 => ?_)
      have bz_126 := c_id ez_126 ⟨by omega, by omega⟩
      refine jn_r (wr := [(vc, .inr (2, [.ref vc1, .ref vc2, .ref vc3, .ref vc4, .ref vc5, .int vcm, .int vcd, .int vcr, .int vcw])), (vc1, .inl (cy 1, 7, .inr (.inl vcf1)))]) (rV (As := [.int z_126]) (rest := []) (ci := 0) ⟨hx, hb, hml, hown, hts⟩ (b_sbappC l dC dI cy _ B kS vS vg jv_6 jm_6 jc_6 jn_6 jf_6 z_126 ⟨by omega, by omega⟩ ⟨by omega, by omega⟩ jh_6 jn1_6 jn2_6 (fun q hq => hAB q (va_free hD hS hA [2, 3] rfl q hq))) (cw_X1_44 hts rfl rfl ⟨Nat.le_of_ble_eq_true rfl, Nat.le_of_ble_eq_true rfl⟩) hP hD hK [2, 3] rfl rfl rfl rfl EnvB.calling (EnvB.at hE hS hAB (fun _ h => h)) rfl hl.1 rfl (Nat.le_of_ble_eq_true rfl) dX1_writeName_36 ⟨Nat.le_of_ble_eq_true rfl, Nat.le_of_ble_eq_true rfl⟩) hP hD hS hA [2, 3] [0, 1] rfl rfl rfl (by decide) (fun u_129 H locs hp_128 hP hD hS => ?_)
      obtain ⟨vgv_130, vnb_131, vgf_132, vgc_133⟩ := u_129
      have hp_128 : (sb_Fit vgf_132) ∧ (0 ≤ (vgc_133 : Int32).toInt ∧ (vgc_133 : Int32).toInt ≤ 42) ∧ ((vnb_131 = 16 ∨ vnb_131 = 34 ∨ vnb_131 = 70)) ∧ ((vgc_133 : Int32).toInt ≤ (vnb_131 : Int)) ∧ ((vgc_133 : Int32).toInt = (jc_6 : Int32).toInt + 1) := hp_128
      obtain ⟨q_134, q_135, q_136, q_137, q_138⟩ := hp_128
      have hP : va_P (dC, dI) vwCl [(vc, .inr (2, [.ref vc1, .ref vc2, .ref vc3, .ref vc4, .ref vc5, .int vcm, .int vcd, .int vcr, .int vcw])), (vc1, .inl (cy 1, 7, .inr (.inl vcf1))), (vg, .inr (0, [.ref vgv_130, .int 0, .int jm_6, .int vgc_133])), (vgv_130, .inl (cy 3, vnb_131, .inl vgf_132))] H := hP
      have hD : va_D A [(vc, .inr (2, [.ref vc1, .ref vc2, .ref vc3, .ref vc4, .ref vc5, .int vcm, .int vcd, .int vcr, .int vcw])), (vc1, .inl (cy 1, 7, .inr (.inl vcf1))), (vg, .inr (0, [.ref vgv_130, .int 0, .int jm_6, .int vgc_133])), (vgv_130, .inl (cy 3, vnb_131, .inl vgf_132))] := hD
      refine W.widen (k := 2) (n := 140) (by decide) (by decide) ?_
      refine W.eq (g2 := F0 m 39 ls [.ref vg]) rfl ?_
      refine lv_pop hx hb dX1_writeName_39 rfl ?_
      refine W.widen (k := 2) (n := 140) (by decide) (by decide) ?_
      exact join12 vgv_130 vnb_131 vgf_132 jm_6 vgc_133 q_134 q_136 q_137 ⟨by omega, by omega⟩ _ _ (hP.sub [0, 1, 2, 3] rfl) (hD.sub [0, 1, 2, 3] rfl rfl) hS ls (lv_sub hl [1, 2, 3, 4] rfl)
  refine lv_iload hx hb dX1_writeName_22 (lv_at hl 0 rfl) ?_
  have k_0 : (0 : Int32).toInt = 0 := by decide
  refine lv_if_eq (tgt := 40) hx hb dX1_writeName_24 (by decide) (fun c_139 => ?_) (fun c_139 => ?_)
  · skip
    have c_139 : z_5.toInt = (0 : Int32).toInt := i_eq.mp c_139
    refine W.widen (k := 1) (n := 70) (by decide) (by decide) ?_
    exact join6 vgv vnb vgf vgm vgc p_vgf hn hgc ⟨by omega, by omega⟩ _ _ (hP.sub [0, 1, 2, 3] rfl) (hD.sub [0, 1, 2, 3] rfl rfl) hS ls (lv_sub hl [1, 2, 3, 4] rfl)
  · skip
    have c_139 : ¬ (z_5.toInt = (0 : Int32).toInt) := fun h9 => c_139 (i_eq.mpr h9)
    refine lv_aload_n hx hb dX1_writeName_27 rfl (lv_at hl 4 rfl) ?_
    refine lv_bipush (v := 97) hx hb dX1_writeName_28 (by decide) ?_
    refine lv_iload hx hb dX1_writeName_30 (lv_at hl 0 rfl) ?_
    refine lv_iadd hx hb dX1_writeName_32 ?_
    refine lv_topi (fun z_140 ez_140 => ?_)
    have k_97 : (97 : Int32).toInt = 97 := by decide
    have bz_140 : z_140.toInt = (97 : Int32).toInt + z_5.toInt := i_add ez_140 (by omega) (by omega)
    refine lv_iconst (v := 1) hx hb dX1_writeName_33 (by decide) ?_
    refine lv_isub hx hb dX1_writeName_34 ?_
    refine lv_topi (fun z_141 ez_141 => ?_)
    have k_1 : (1 : Int32).toInt = 1 := by decide
    have bz_141 : z_141.toInt = z_140.toInt - (1 : Int32).toInt := i_sub ez_141 (by omega) (by omega)
    refine lv_i2c hx hb dX1_writeName_35 rfl ?_
    refine lv_topi (fun z_142 ez_142 => ?_)
    have bz_142 := c_id ez_142 ⟨by omega, by omega⟩
    refine jn_r (wr := [(vc, .inr (2, [.ref vc1, .ref vc2, .ref vc3, .ref vc4, .ref vc5, .int vcm, .int vcd, .int vcr, .int vcw])), (vc1, .inl (cy 1, 7, .inr (.inl vcf1)))]) (rV (As := [.int z_142]) (rest := []) (ci := 0) ⟨hx, hb, hml, hown, hts⟩ (b_sbappC l dC dI cy _ B kS vS vg vgv vgm vgc vnb vgf z_142 ⟨by omega, by omega⟩ ⟨by omega, by omega⟩ p_vgf hn hgc (fun q hq => hAB q (va_free hD hS hA [2, 3] rfl q hq))) (cw_X1_44 hts rfl rfl ⟨Nat.le_of_ble_eq_true rfl, Nat.le_of_ble_eq_true rfl⟩) hP hD hK [2, 3] rfl rfl rfl rfl EnvB.calling (EnvB.at hE hS hAB (fun _ h => h)) rfl hl.1 rfl (Nat.le_of_ble_eq_true rfl) dX1_writeName_36 ⟨Nat.le_of_ble_eq_true rfl, Nat.le_of_ble_eq_true rfl⟩) hP hD hS hA [2, 3] [0, 1] rfl rfl rfl (by decide) (fun u_145 H locs hp_144 hP hD hS => ?_)
    obtain ⟨vgv_146, vnb_147, vgf_148, vgc_149⟩ := u_145
    have hp_144 : (sb_Fit vgf_148) ∧ (0 ≤ (vgc_149 : Int32).toInt ∧ (vgc_149 : Int32).toInt ≤ 42) ∧ ((vnb_147 = 16 ∨ vnb_147 = 34 ∨ vnb_147 = 70)) ∧ ((vgc_149 : Int32).toInt ≤ (vnb_147 : Int)) ∧ ((vgc_149 : Int32).toInt = (vgc : Int32).toInt + 1) := hp_144
    obtain ⟨q_150, q_151, q_152, q_153, q_154⟩ := hp_144
    have hP : va_P (dC, dI) vwCl [(vc, .inr (2, [.ref vc1, .ref vc2, .ref vc3, .ref vc4, .ref vc5, .int vcm, .int vcd, .int vcr, .int vcw])), (vc1, .inl (cy 1, 7, .inr (.inl vcf1))), (vg, .inr (0, [.ref vgv_146, .int 0, .int vgm, .int vgc_149])), (vgv_146, .inl (cy 3, vnb_147, .inl vgf_148))] H := hP
    have hD : va_D A [(vc, .inr (2, [.ref vc1, .ref vc2, .ref vc3, .ref vc4, .ref vc5, .int vcm, .int vcd, .int vcr, .int vcw])), (vc1, .inl (cy 1, 7, .inr (.inl vcf1))), (vg, .inr (0, [.ref vgv_146, .int 0, .int vgm, .int vgc_149])), (vgv_146, .inl (cy 3, vnb_147, .inl vgf_148))] := hD
    refine W.widen (k := 1) (n := 70) (by decide) (by decide) ?_
    refine W.eq (g2 := F0 m 39 ls [.ref vg]) rfl ?_
    refine lv_pop hx hb dX1_writeName_39 rfl ?_
    refine W.widen (k := 1) (n := 70) (by decide) (by decide) ?_
    exact join6 vgv_146 vnb_147 vgf_148 vgm vgc_149 q_150 q_152 q_153 ⟨by omega, by omega⟩ _ _ (hP.sub [0, 1, 2, 3] rfl) (hD.sub [0, 1, 2, 3] rfl rfl) hS ls (lv_sub hl [1, 2, 3, 4] rfl)
