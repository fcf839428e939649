abbrev cX7_addWays : ByteArray := prog_9_method_3_code
def yX7_addWays : MethodName := ⟨RX7, "addWays", "(III)V"⟩
theorem t919 : Cond.code yX7_addWays cX7_addWays 6 none ∈ GW := gw_mem 1033 (by decide +kernel) (by decide +kernel)
abbrev O_g_addWays (cy : Nat → ClassId) (vs : Nat) (vs1 : Nat) (vs2 : Nat) (vs3 : Nat) (vsw : Nat → Int64) (vti : Int32) (vwe : Int32) (vsu : Int32) (u : (Nat → Int64)) : va_W := [(vs, .inr (8, [.ref vs1, .ref vs2, .ref vs3])), (vs3, .inl (cy 1, 256, .inr (.inl u)))]
theorem dX7_addWays_0 : decode cX7_addWays 0 = .ok (.iload_n 3, 1) := by decide +kernel
theorem dX7_addWays_1 : decode cX7_addWays 1 = .ok (.sipush 255, 3) := by decide +kernel
theorem dX7_addWays_4 : decode cX7_addWays 4 = .ok (.invokestatic 35, 3) := by decide +kernel
theorem t920 : Cond.methodLink RX7 35 Lib.Math.min.name ∈ GW := gw_mem 1034 (by decide +kernel) (by decide +kernel)
theorem t783 : Cond.static Lib.Math.min.name ∈ GW := gw_mem 897 (by decide +kernel) (by decide +kernel)
theorem t24 : Cond.initialized "java/lang/Math" ∈ GW := gw_mem 138 (by decide +kernel) (by decide +kernel)
theorem t784 : Cond.code Lib.Math.min.name Lib.Math.min.code 2 (some .int) ∈ GW := gw_mem 898 (by decide +kernel) (by decide +kernel)
theorem dX7_addWays_7 : decode cX7_addWays 7 = .ok (.istore 4, 2) := by decide +kernel
theorem dX7_addWays_9 : decode cX7_addWays 9 = .ok (.iload 4, 2) := by decide +kernel
theorem dX7_addWays_11 : decode cX7_addWays 11 = .ok (.iload_n 2, 1) := by decide +kernel
theorem dX7_addWays_12 : decode cX7_addWays 12 = .ok (.if_icmp .lt 55, 3) := by decide +kernel
theorem dX7_addWays_67 : decode cX7_addWays 67 = .ok (.return_, 1) := by decide +kernel
theorem dX7_addWays_15 : decode cX7_addWays 15 = .ok (.iconst 1, 1) := by decide +kernel
theorem dX7_addWays_16 : decode cX7_addWays 16 = .ok (.istore 5, 2) := by decide +kernel
theorem dX7_addWays_18 : decode cX7_addWays 18 = .ok (.iload 5, 2) := by decide +kernel
theorem dX7_addWays_20 : decode cX7_addWays 20 = .ok (.iload_n 1, 1) := by decide +kernel
theorem dX7_addWays_21 : decode cX7_addWays 21 = .ok (.if_icmp .gt 40, 3) := by decide +kernel
theorem dX7_addWays_61 : decode cX7_addWays 61 = .ok (.iinc 4 (-1), 3) := by decide +kernel
theorem dX7_addWays_64 : decode cX7_addWays 64 = .ok (.goto (-55), 3) := by decide +kernel
theorem dX7_addWays_24 : decode cX7_addWays 24 = .ok (.iload 5, 2) := by decide +kernel
theorem dX7_addWays_26 : decode cX7_addWays 26 = .ok (.iload_n 2, 1) := by decide +kernel
theorem dX7_addWays_27 : decode cX7_addWays 27 = .ok (.imul, 1) := by decide +kernel
theorem dX7_addWays_28 : decode cX7_addWays 28 = .ok (.iload 4, 2) := by decide +kernel
theorem dX7_addWays_30 : decode cX7_addWays 30 = .ok (.if_icmp .gt 31, 3) := by decide +kernel
theorem dX7_addWays_33 : decode cX7_addWays 33 = .ok (.aload_n 0, 1) := by decide +kernel
theorem dX7_addWays_34 : decode cX7_addWays 34 = .ok (.getfield 18, 3) := by decide +kernel
theorem t322 : Cond.fieldLink RX7 18 "LikenessPound$Sums" "ways" "[J" ∈ GW := gw_mem 436 (by decide +kernel) (by decide +kernel)
theorem gf_X7_18 {p : Program} {l : Launch} {e : Env} {R : Room} {s : State} {m : MethodId} {args : Array Value} {below : List Frame} {meth : Method} {c : Code} {H : Heap} {locs : List Loc} {cells slots : Nat} {Q : State → Prop} {cc : ByteArray} {pc : Nat} {ls : Array Slot} {rest : List Value} {D : va_G} {a : Nat} {tys : List (ClassId × FieldType)} {ws : va_W} (hx : p.tables.exec = Jvm.exec) (hb : c.code = cc) (hts : ∀ w ∈ GW, w.before args s = true) (hown : s.vm.findClass RX7 = some m.cls) (hK : va_K D vwCl tys s) (hP : va_P D vwCl ws H) (q0 : Nat) {fs : List Value} (he : ws[q0]? = some (a, .inr (8, fs))) {v : Value} (hv : fs[2]? = some v) (hdg : decode cc pc = .ok (.getfield 18, 3)) (kk : W p l e R s m args below meth c H locs cells slots Q (F0 m (pc + 3) ls (v :: rest))) : W p l e R s m args below meth c H locs cells slots Q (F0 m pc ls (.ref a :: rest)) := va_get (C := RX7) (T := TX7) (N := 3) (ci := 8) hx hb hts inX7 hown hK hP q0 he rfl 2 (by decide) (hts _ t322) (fun _ h => h) hv hdg kk
theorem dX7_addWays_37 : decode cX7_addWays 37 = .ok (.iload 4, 2) := by decide +kernel
theorem dX7_addWays_39 : decode cX7_addWays 39 = .ok (.dup2, 1) := by decide +kernel
theorem dX7_addWays_40 : decode cX7_addWays 40 = .ok (.laload, 1) := by decide +kernel
theorem dX7_addWays_41 : decode cX7_addWays 41 = .ok (.aload_n 0, 1) := by decide +kernel
theorem dX7_addWays_42 : decode cX7_addWays 42 = .ok (.getfield 18, 3) := by decide +kernel
theorem dX7_addWays_45 : decode cX7_addWays 45 = .ok (.iload 4, 2) := by decide +kernel
theorem dX7_addWays_47 : decode cX7_addWays 47 = .ok (.iload 5, 2) := by decide +kernel
theorem dX7_addWays_49 : decode cX7_addWays 49 = .ok (.iload_n 2, 1) := by decide +kernel
theorem dX7_addWays_50 : decode cX7_addWays 50 = .ok (.imul, 1) := by decide +kernel
theorem dX7_addWays_51 : decode cX7_addWays 51 = .ok (.isub, 1) := by decide +kernel
theorem dX7_addWays_52 : decode cX7_addWays 52 = .ok (.laload, 1) := by decide +kernel
theorem dX7_addWays_53 : decode cX7_addWays 53 = .ok (.ladd, 1) := by decide +kernel
theorem dX7_addWays_54 : decode cX7_addWays 54 = .ok (.lastore, 1) := by decide +kernel
theorem dX7_addWays_55 : decode cX7_addWays 55 = .ok (.iinc 5 1, 3) := by decide +kernel
theorem dX7_addWays_58 : decode cX7_addWays 58 = .ok (.goto (-40), 3) := by decide +kernel
set_option maxHeartbeats 4000000 in
set_option maxRecDepth 100000 in
theorem g_addWays (l : Launch) (dC : Nat → ClassId) (dI : Nat → Nat → Nat) (cy : Nat → ClassId) (sz : Nat) (vs : Nat) (vs1 : Nat) (vs2 : Nat) (vs3 : Nat) (vsw : Nat → Int64) (vti : Int32) (vwe : Int32) (vsu : Int32) (r_vti : 0 ≤ (vti : Int32).toInt ∧ (vti : Int32).toInt ≤ 9) (r_vwe : 0 ≤ (vwe : Int32).toInt ∧ (vwe : Int32).toInt ≤ 40) : Met l yX7_addWays (wl yX7_addWays cX7_addWays 6 none) ({ frames := 1, cells := 0, slots := 0, locals := 64 }) (Pw (dC, dI) vwCl cy [(vs, .inr (8, [.ref vs1, .ref vs2, .ref vs3])), (vs3, .inl (cy 1, 256, .inr (.inl vsw)))] sz [.ref vs, .int vti, .int vwe, .int vsu] nE) (Qv (dC, dI) vwCl (fun (u : (Nat → Int64)) => True) (O_g_addWays cy vs vs1 vs2 vs3 vsw vti vwe vsu) (va_A [(vs, .inr (8, [.ref vs1, .ref vs2, .ref vs3])), (vs3, .inl (cy 1, 256, .inr (.inl vsw)))] sz)) 0 0 (va_A [(vs, .inr (8, [.ref vs1, .ref vs2, .ref vs3])), (vs3, .inl (cy 1, 256, .inr (.inl vsw)))] sz) := by
  refine mw (Qc := Qv (dC, dI) vwCl (fun (u : (Nat → Int64)) => True) (O_g_addWays cy vs vs1 vs2 vs3 vsw vti vwe vsu)) RX7 rfl (by decide +kernel) (Nat.le_of_ble_eq_true rfl) ?_
  intro p e s m below meth c A hx hb hr hlocks av9 hav hts hown hnm hml hK hP hD hA hS hE hAe Q9 hQ9 ls hl
  have hl : lv_has ls 6 [(0, .ref vs), (1, .int vti), (2, .int vwe), (3, .int vsu)] := hl
  refine lv_iload_n hx hb dX7_addWays_0 rfl (lv_at hl 3 rfl) ?_
  refine lv_sipush (v := 255) hx hb dX7_addWays_1 (by decide) ?_
  refine va_mmin hx hb (by rw [hml, hl.1]) hown (hts _ t920) (hts _ t783) (hts _ t24) (hts _ t784) (Nat.le_of_ble_eq_true rfl) (Nat.le_of_ble_eq_true rfl) (Nat.zero_le _) (Nat.zero_le _) dX7_addWays_4 ?_
  refine lv_topi (fun z_1 ez_1 => ?_)
  have k_255 : (255 : Int32).toInt = 255 := by decide
  have bz_1 : z_1.toInt ≤ vsu.toInt ∧ z_1.toInt ≤ (255 : Int32).toInt ∧ (z_1.toInt = vsu.toInt ∨ z_1.toInt = (255 : Int32).toInt) := i_min ez_1
  refine lv_istore (lv' := [(4, .int z_1), (0, .ref vs), (1, .int vti), (2, .int vwe), (3, .int vsu)]) hx hb dX7_addWays_7 hl (by decide) rfl (fun ls hl => ?_)
  have loop2 : ∀ (n2 : Nat) (x_3 : Int32) (g_4 : Nat → Int64), (-2147483648 ≤ x_3.toInt ∧ x_3.toInt ≤ 255) → ((x_3.toInt + 1).toNat : Int) < (n2 : Int) → ∀ (H : Heap) (locs : List Loc), va_P (dC, dI) vwCl [(vs, .inr (8, [.ref vs1, .ref vs2, .ref vs3])), (vs3, .inl (cy 1, 256, .inr (.inl g_4)))] H → va_D A [(vs, .inr (8, [.ref vs1, .ref vs2, .ref vs3])), (vs3, .inl (cy 1, 256, .inr (.inl g_4)))] → va_S A s.heap H locs → ∀ ls : Array Slot, lv_has ls 6 [(4, .int x_3), (0, .ref vs), (1, .int vti), (2, .int vwe), (3, .int vsu)] → W p l e ({ frames := 1, cells := 0, slots := 0, locals := 64 }) s m av9 below meth c H locs 0 0 Q9 (F0 m 9 ls []) := by
    intro n2
    induction n2 with
    | zero =>
      intro x_3 g_4 bx_3 hn2 H locs hP hD hS ls hl
      exfalso; omega
    | succ n2 ih2 =>
      intro x_3 g_4 bx_3 hn2 H locs hP hD hS ls hl
      refine lv_iload hx hb dX7_addWays_9 (lv_at hl 0 rfl) ?_
      refine lv_iload_n hx hb dX7_addWays_11 rfl (lv_at hl 3 rfl) ?_
      refine lv_icmp_lt (tgt := 67) hx hb dX7_addWays_12 (by decide) (fun c_5 => ?_) (fun c_5 => ?_)
      · skip
        have c_5 : x_3.toInt < vwe.toInt := i_lt.mp c_5
        rw [hQ9]
        exact re_v g_4 hx hb hr hlocks trivial (hP.sub [0, 1] rfl) (hD.sub [0, 1] rfl rfl) hS dX7_addWays_67
      · skip
        have c_5 : ¬ (x_3.toInt < vwe.toInt) := fun h9 => c_5 (i_lt.mpr h9)
        refine lv_iconst (v := 1) hx hb dX7_addWays_15 (by decide) ?_
        refine lv_istore (lv' := [(5, .int 1), (4, .int x_3), (0, .ref vs), (1, .int vti), (2, .int vwe), (3, .int vsu)]) hx hb dX7_addWays_16 hl (by decide) rfl (fun ls hl => ?_)
        have loop6 : ∀ (n6 : Nat) (x_7 : Int32) (g_8 : Nat → Int64), (1 ≤ x_7.toInt ∧ x_7.toInt ≤ 10) → 10 - x_7.toInt < (n6 : Int) → ∀ (H : Heap) (locs : List Loc), va_P (dC, dI) vwCl [(vs, .inr (8, [.ref vs1, .ref vs2, .ref vs3])), (vs3, .inl (cy 1, 256, .inr (.inl g_8)))] H → va_D A [(vs, .inr (8, [.ref vs1, .ref vs2, .ref vs3])), (vs3, .inl (cy 1, 256, .inr (.inl g_8)))] → va_S A s.heap H locs → ∀ ls : Array Slot, lv_has ls 6 [(5, .int x_7), (4, .int x_3), (0, .ref vs), (1, .int vti), (2, .int vwe), (3, .int vsu)] → W p l e ({ frames := 1, cells := 0, slots := 0, locals := 64 }) s m av9 below meth c H locs 0 0 Q9 (F0 m 18 ls []) := by
          intro n6
          induction n6 with
          | zero =>
            intro x_7 g_8 bx_7 hn6 H locs hP hD hS ls hl
            exfalso; omega
          | succ n6 ih6 =>
            intro x_7 g_8 bx_7 hn6 H locs hP hD hS ls hl
            refine lv_iload hx hb dX7_addWays_18 (lv_at hl 0 rfl) ?_
            refine lv_iload_n hx hb dX7_addWays_20 rfl (lv_at hl 3 rfl) ?_
            refine lv_icmp_gt (tgt := 61) hx hb dX7_addWays_21 (by decide) (fun c_9 => ?_) (fun c_9 => ?_)
            · skip
              have c_9 : vti.toInt < x_7.toInt := i_lt.mp c_9
              obtain ⟨z_10, ez_10⟩ : ∃ z : Int32, z = x_3 + (-1) := ⟨_, rfl⟩
              have k_m1 : ((-1) : Int32).toInt = (-1) := by decide
              have bz_10 : z_10.toInt = x_3.toInt + ((-1) : Int32).toInt := i_add ez_10 (by omega) (by omega)
              refine lv_iinc (v := z_10) (lv' := [(4, .int z_10), (5, .int x_7), (0, .ref vs), (1, .int vti), (2, .int vwe), (3, .int vsu)]) hx hb dX7_addWays_61 hl (k := 1) rfl ez_10.symm (by decide) rfl (fun ls hl => ?_)
              refine lv_goto (tgt := 9) hx hb dX7_addWays_64 (by decide) ?_
              exact ih2 z_10 g_8 ⟨by omega, by omega⟩ (by omega) _ _ (hP.sub [0, 1] rfl) (hD.sub [0, 1] rfl rfl) hS ls (lv_sub hl [0, 2, 3, 4, 5] rfl)
            · skip
              have c_9 : ¬ (vti.toInt < x_7.toInt) := fun h9 => c_9 (i_lt.mpr h9)
              refine lv_iload hx hb dX7_addWays_24 (lv_at hl 0 rfl) ?_
              refine lv_iload_n hx hb dX7_addWays_26 rfl (lv_at hl 4 rfl) ?_
              refine lv_imul hx hb dX7_addWays_27 ?_
              refine lv_topi (fun z_11 ez_11 => ?_)
              have bz_11 : 0 ≤ z_11.toInt ∧ z_11.toInt ≤ 360 ∧ z_11.toInt = x_7.toInt * vwe.toInt := i_mulb (A := 9) (B := 40) ez_11 ⟨by omega, by omega⟩ ⟨by omega, by omega⟩ (by decide)
              refine lv_iload hx hb dX7_addWays_28 (lv_at hl 1 rfl) ?_
              refine lv_icmp_gt (tgt := 61) hx hb dX7_addWays_30 (by decide) (fun c_12 => ?_) (fun c_12 => ?_)
              · skip
                have c_12 : x_3.toInt < z_11.toInt := i_lt.mp c_12
                obtain ⟨z_13, ez_13⟩ : ∃ z : Int32, z = x_3 + (-1) := ⟨_, rfl⟩
                have k_m1 : ((-1) : Int32).toInt = (-1) := by decide
                have bz_13 : z_13.toInt = x_3.toInt + ((-1) : Int32).toInt := i_add ez_13 (by omega) (by omega)
                refine lv_iinc (v := z_13) (lv' := [(4, .int z_13), (5, .int x_7), (0, .ref vs), (1, .int vti), (2, .int vwe), (3, .int vsu)]) hx hb dX7_addWays_61 hl (k := 1) rfl ez_13.symm (by decide) rfl (fun ls hl => ?_)
                refine lv_goto (tgt := 9) hx hb dX7_addWays_64 (by decide) ?_
                exact ih2 z_13 g_8 ⟨by omega, by omega⟩ (by omega) _ _ (hP.sub [0, 1] rfl) (hD.sub [0, 1] rfl rfl) hS ls (lv_sub hl [0, 2, 3, 4, 5] rfl)
              · skip
                have c_12 : ¬ (x_3.toInt < z_11.toInt) := fun h9 => c_12 (i_lt.mpr h9)
                refine lv_aload_n hx hb dX7_addWays_33 rfl (lv_at hl 2 rfl) ?_
                refine gf_X7_18 hx hb hts hown hK hP 0 rfl rfl dX7_addWays_34 ?_
                refine lv_iload hx hb dX7_addWays_37 (lv_at hl 1 rfl) ?_
                refine lv_dup2_11 hx hb dX7_addWays_39 rfl rfl ?_
                have hin_14 : vp_in x_3 256 := vp_in_iff.mpr ⟨by omega, by omega⟩
                refine va_lald hx hb hK hP 1 1 rfl rfl hin_14 dX7_addWays_40 ?_
                refine lv_topl (fun y_15 ey_15 => ?_)
                refine lv_aload_n hx hb dX7_addWays_41 rfl (lv_at hl 2 rfl) ?_
                refine gf_X7_18 hx hb hts hown hK hP 0 rfl rfl dX7_addWays_42 ?_
                refine lv_iload hx hb dX7_addWays_45 (lv_at hl 1 rfl) ?_
                refine lv_iload hx hb dX7_addWays_47 (lv_at hl 0 rfl) ?_
                refine lv_iload_n hx hb dX7_addWays_49 rfl (lv_at hl 4 rfl) ?_
                refine lv_imul hx hb dX7_addWays_50 ?_
                refine lv_topi (fun z_16 ez_16 => ?_)
                have bz_16 : 0 ≤ z_16.toInt ∧ z_16.toInt ≤ 360 ∧ z_16.toInt = x_7.toInt * vwe.toInt := i_mulb (A := 9) (B := 40) ez_16 ⟨by omega, by omega⟩ ⟨by omega, by omega⟩ (by decide)
                refine lv_isub hx hb dX7_addWays_51 ?_
                refine lv_topi (fun z_17 ez_17 => ?_)
                have bz_17 : z_17.toInt = x_3.toInt - z_16.toInt := i_sub ez_17 (by omega) (by omega)
                have hin_18 : vp_in z_17 256 := vp_in_iff.mpr ⟨by omega, by omega⟩
                refine va_lald hx hb hK hP 1 1 rfl rfl hin_18 dX7_addWays_52 ?_
                refine lv_topl (fun y_19 ey_19 => ?_)
                refine lv_ladd hx hb dX7_addWays_53 ?_
                refine lv_topl (fun y_20 ey_20 => ?_)
                have hin_21 : vp_in x_3 256 := vp_in_iff.mpr ⟨by omega, by omega⟩
                refine va_last hx hb hK hP hD hS 1 1 rfl rfl hin_21 dX7_addWays_54 (fun H locs hP hD hS => ?_)
                obtain ⟨f_22, ef_22⟩ : ∃ z : Nat → Int64, z = vp_updL g_8 (Int32.toNatClampNeg x_3) y_20 := ⟨_, rfl⟩
                have hP : va_P (dC, dI) vwCl [(vs, .inr (8, [.ref vs1, .ref vs2, .ref vs3])), (vs3, .inl (cy 1, 256, .inr (.inl f_22)))] H := by rw [ef_22]; exact hP
                have hD : va_D A [(vs, .inr (8, [.ref vs1, .ref vs2, .ref vs3])), (vs3, .inl (cy 1, 256, .inr (.inl f_22)))] := by rw [ef_22]; exact hD
                obtain ⟨z_23, ez_23⟩ : ∃ z : Int32, z = x_7 + 1 := ⟨_, rfl⟩
                have k_1 : (1 : Int32).toInt = 1 := by decide
                have bz_23 : z_23.toInt = x_7.toInt + (1 : Int32).toInt := i_add ez_23 (by omega) (by omega)
                refine lv_iinc (v := z_23) (lv' := [(5, .int z_23), (4, .int x_3), (0, .ref vs), (1, .int vti), (2, .int vwe), (3, .int vsu)]) hx hb dX7_addWays_55 hl (k := 0) rfl ez_23.symm (by decide) rfl (fun ls hl => ?_)
                refine lv_goto (tgt := 18) hx hb dX7_addWays_58 (by decide) ?_
                exact ih6 z_23 f_22 ⟨by omega, by omega⟩ (by omega) _ _ (hP.sub [0, 1] rfl) (hD.sub [0, 1] rfl rfl) hS ls (lv_sub hl [0, 1, 2, 3, 4, 5] rfl)
        have k_1 : (1 : Int32).toInt = 1 := by decide
        exact loop6 ((10 - (1 : Int32).toInt).toNat + 1) 1 g_4 ⟨by omega, by omega⟩ (by omega) _ _ hP hD hS ls (lv_sub hl [0, 1, 2, 3, 4, 5] rfl)
  have wh_24 := i_rng z_1
  exact loop2 ((((z_1.toInt + 1).toNat : Int)).toNat + 1) z_1 vsw ⟨by omega, by omega⟩ (by omega) _ _ hP hD hS ls (lv_sub hl [0, 1, 2, 3, 4] rfl)
abbrev cX7_countWays : ByteArray := prog_9_method_2_code
def yX7_countWays : MethodName := ⟨RX7, "countWays", "(LLikenessPound$Colony;I)J"⟩
theorem t915 : Cond.code yX7_countWays cX7_countWays 4 (some .long) ∈ GW := gw_mem 1029 (by decide +kernel) (by decide +kernel)
abbrev O_g_countWays (cy : Nat → ClassId) (vs : Nat) (vs1 : Nat) (vs2 : Nat) (vs3 : Nat) (vsm : Nat → Int32) (vsw : Nat → Int64) (vc : Nat) (vc1 : Nat) (vc2 : Nat) (vc3 : Nat) (vc4 : Nat) (vc5 : Nat) (vcm : Int32) (vcd : Int32) (vcr : Int32) (vcw : Int32) (vcf3 : Nat → Int32) (vsu : Int32) (u : (Nat → Int64)) : va_W := [(vs, .inr (8, [.ref vs1, .ref vs2, .ref vs3])), (vs1, .inl (cy 0, 10, .inl vsm)), (vs3, .inl (cy 1, 256, .inr (.inl u))), (vc, .inr (2, [.ref vc1, .ref vc2, .ref vc3, .ref vc4, .ref vc5, .int vcm, .int vcd, .int vcr, .int vcw])), (vc3, .inl (cy 0, 10, .inl vcf3))]
theorem dX7_countWays_0 : decode cX7_countWays 0 = .ok (.iconst 0, 1) := by decide +kernel
theorem dX7_countWays_1 : decode cX7_countWays 1 = .ok (.istore_n 3, 1) := by decide +kernel
theorem dX7_countWays_2 : decode cX7_countWays 2 = .ok (.iload_n 3, 1) := by decide +kernel
theorem dX7_countWays_3 : decode cX7_countWays 3 = .ok (.iload_n 2, 1) := by decide +kernel
theorem dX7_countWays_4 : decode cX7_countWays 4 = .ok (.if_icmp .gt 31, 3) := by decide +kernel
theorem dX7_countWays_35 : decode cX7_countWays 35 = .ok (.iconst 0, 1) := by decide +kernel
theorem dX7_countWays_36 : decode cX7_countWays 36 = .ok (.istore_n 3, 1) := by decide +kernel
theorem dX7_countWays_37 : decode cX7_countWays 37 = .ok (.iload_n 3, 1) := by decide +kernel
theorem dX7_countWays_38 : decode cX7_countWays 38 = .ok (.aload_n 1, 1) := by decide +kernel
theorem dX7_countWays_39 : decode cX7_countWays 39 = .ok (.getfield 22, 3) := by decide +kernel
theorem t397 : Cond.fieldLink RX7 22 "LikenessPound$Colony" "deeds" "I" ∈ GW := gw_mem 511 (by decide +kernel) (by decide +kernel)
theorem gf_X7_22 {p : Program} {l : Launch} {e : Env} {R : Room} {s : State} {m : MethodId} {args : Array Value} {below : List Frame} {meth : Method} {c : Code} {H : Heap} {locs : List Loc} {cells slots : Nat} {Q : State → Prop} {cc : ByteArray} {pc : Nat} {ls : Array Slot} {rest : List Value} {D : va_G} {a : Nat} {tys : List (ClassId × FieldType)} {ws : va_W} (hx : p.tables.exec = Jvm.exec) (hb : c.code = cc) (hts : ∀ w ∈ GW, w.before args s = true) (hown : s.vm.findClass RX7 = some m.cls) (hK : va_K D vwCl tys s) (hP : va_P D vwCl ws H) (q0 : Nat) {fs : List Value} (he : ws[q0]? = some (a, .inr (2, fs))) {v : Value} (hv : fs[6]? = some v) (hdg : decode cc pc = .ok (.getfield 22, 3)) (kk : W p l e R s m args below meth c H locs cells slots Q (F0 m (pc + 3) ls (v :: rest))) : W p l e R s m args below meth c H locs cells slots Q (F0 m pc ls (.ref a :: rest)) := va_get (C := RX1) (T := TX1) (N := 9) (ci := 2) hx hb hts inX1 hown hK hP q0 he rfl 6 (by decide) (hts _ t397) (fun _ h => h) hv hdg kk
theorem dX7_countWays_42 : decode cX7_countWays 42 = .ok (.if_icmp .ge 26, 3) := by decide +kernel
theorem dX7_countWays_68 : decode cX7_countWays 68 = .ok (.iload_n 2, 1) := by decide +kernel
theorem dX7_countWays_69 : decode cX7_countWays 69 = .ok (.ifCond .lt 19, 3) := by decide +kernel
theorem dX7_countWays_88 : decode cX7_countWays 88 = .ok (.lconst 0, 1) := by decide +kernel
theorem dX7_countWays_89 : decode cX7_countWays 89 = .ok (.lreturn, 1) := by decide +kernel
theorem dX7_countWays_72 : decode cX7_countWays 72 = .ok (.iload_n 2, 1) := by decide +kernel
theorem dX7_countWays_73 : decode cX7_countWays 73 = .ok (.sipush 256, 3) := by decide +kernel
theorem dX7_countWays_76 : decode cX7_countWays 76 = .ok (.if_icmp .ge 12, 3) := by decide +kernel
theorem dX7_countWays_79 : decode cX7_countWays 79 = .ok (.aload_n 0, 1) := by decide +kernel
theorem dX7_countWays_80 : decode cX7_countWays 80 = .ok (.getfield 18, 3) := by decide +kernel
theorem dX7_countWays_83 : decode cX7_countWays 83 = .ok (.iload_n 2, 1) := by decide +kernel
theorem dX7_countWays_84 : decode cX7_countWays 84 = .ok (.laload, 1) := by decide +kernel
theorem dX7_countWays_85 : decode cX7_countWays 85 = .ok (.goto 4, 3) := by decide +kernel
theorem dX7_countWays_45 : decode cX7_countWays 45 = .ok (.aload_n 0, 1) := by decide +kernel
theorem dX7_countWays_46 : decode cX7_countWays 46 = .ok (.aload_n 0, 1) := by decide +kernel
theorem dX7_countWays_47 : decode cX7_countWays 47 = .ok (.getfield 9, 3) := by decide +kernel
theorem t319 : Cond.fieldLink RX7 9 "LikenessPound$Sums" "most" "[I" ∈ GW := gw_mem 433 (by decide +kernel) (by decide +kernel)
theorem gf_X7_9 {p : Program} {l : Launch} {e : Env} {R : Room} {s : State} {m : MethodId} {args : Array Value} {below : List Frame} {meth : Method} {c : Code} {H : Heap} {locs : List Loc} {cells slots : Nat} {Q : State → Prop} {cc : ByteArray} {pc : Nat} {ls : Array Slot} {rest : List Value} {D : va_G} {a : Nat} {tys : List (ClassId × FieldType)} {ws : va_W} (hx : p.tables.exec = Jvm.exec) (hb : c.code = cc) (hts : ∀ w ∈ GW, w.before args s = true) (hown : s.vm.findClass RX7 = some m.cls) (hK : va_K D vwCl tys s) (hP : va_P D vwCl ws H) (q0 : Nat) {fs : List Value} (he : ws[q0]? = some (a, .inr (8, fs))) {v : Value} (hv : fs[0]? = some v) (hdg : decode cc pc = .ok (.getfield 9, 3)) (kk : W p l e R s m args below meth c H locs cells slots Q (F0 m (pc + 3) ls (v :: rest))) : W p l e R s m args below meth c H locs cells slots Q (F0 m pc ls (.ref a :: rest)) := va_get (C := RX7) (T := TX7) (N := 3) (ci := 8) hx hb hts inX7 hown hK hP q0 he rfl 0 (by decide) (hts _ t319) (fun _ h => h) hv hdg kk
theorem dX7_countWays_50 : decode cX7_countWays 50 = .ok (.iload_n 3, 1) := by decide +kernel
theorem dX7_countWays_51 : decode cX7_countWays 51 = .ok (.iaload, 1) := by decide +kernel
theorem dX7_countWays_52 : decode cX7_countWays 52 = .ok (.aload_n 1, 1) := by decide +kernel
theorem dX7_countWays_53 : decode cX7_countWays 53 = .ok (.getfield 28, 3) := by decide +kernel
theorem t378 : Cond.fieldLink RX7 28 "LikenessPound$Colony" "weight" "[I" ∈ GW := gw_mem 492 (by decide +kernel) (by decide +kernel)
theorem gf_X7_28 {p : Program} {l : Launch} {e : Env} {R : Room} {s : State} {m : MethodId} {args : Array Value} {below : List Frame} {meth : Method} {c : Code} {H : Heap} {locs : List Loc} {cells slots : Nat} {Q : State → Prop} {cc : ByteArray} {pc : Nat} {ls : Array Slot} {rest : List Value} {D : va_G} {a : Nat} {tys : List (ClassId × FieldType)} {ws : va_W} (hx : p.tables.exec = Jvm.exec) (hb : c.code = cc) (hts : ∀ w ∈ GW, w.before args s = true) (hown : s.vm.findClass RX7 = some m.cls) (hK : va_K D vwCl tys s) (hP : va_P D vwCl ws H) (q0 : Nat) {fs : List Value} (he : ws[q0]? = some (a, .inr (2, fs))) {v : Value} (hv : fs[2]? = some v) (hdg : decode cc pc = .ok (.getfield 28, 3)) (kk : W p l e R s m args below meth c H locs cells slots Q (F0 m (pc + 3) ls (v :: rest))) : W p l e R s m args below meth c H locs cells slots Q (F0 m pc ls (.ref a :: rest)) := va_get (C := RX1) (T := TX1) (N := 9) (ci := 2) hx hb hts inX1 hown hK hP q0 he rfl 2 (by decide) (hts _ t378) (fun _ h => h) hv hdg kk
theorem dX7_countWays_56 : decode cX7_countWays 56 = .ok (.iload_n 3, 1) := by decide +kernel
theorem dX7_countWays_57 : decode cX7_countWays 57 = .ok (.iaload, 1) := by decide +kernel
theorem dX7_countWays_58 : decode cX7_countWays 58 = .ok (.iload_n 2, 1) := by decide +kernel
theorem dX7_countWays_59 : decode cX7_countWays 59 = .ok (.invokevirtual 31, 3) := by decide +kernel
theorem t916 : Cond.methodLink RX7 31 yX7_addWays ∈ GW := gw_mem 1030 (by decide +kernel) (by decide +kernel)
theorem t12 : Cond.initialized RX7 ∈ GW := gw_mem 126 (by decide +kernel) (by decide +kernel)
theorem t918 : Cond.instanceMethod yX7_addWays ∈ GW := gw_mem 1032 (by decide +kernel) (by decide +kernel)
theorem s16 : Cond.selects RX7 yX7_addWays yX7_addWays ∈ GW := gw_mem 16 (by decide +kernel) (by decide +kernel)
theorem cw_X7_31 {R : Room} {s : State} {args : Array Value} {rm : Room} {mc ms : Nat} (hts : ∀ w ∈ GW, w.before args s = true) (hrc : rm.cells = mc) (hrs : rm.slots = ms) (hR : rm.frames + 1 ≤ R.frames ∧ 8 + (6 + 11) + rm.locals ≤ R.locals) : CallW R s args RX7 RX7 31 yX7_addWays cX7_addWays 6 none (wl yX7_addWays cX7_addWays 6 none) rm mc ms 3 := cwV 3 hts (gi_V t916 t918 s16 t12 t919) rfl hrc hrs (by decide +kernel) hR
theorem dX7_countWays_62 : decode cX7_countWays 62 = .ok (.iinc 3 1, 3) := by decide +kernel
theorem dX7_countWays_65 : decode cX7_countWays 65 = .ok (.goto (-28), 3) := by decide +kernel
theorem dX7_countWays_7 : decode cX7_countWays 7 = .ok (.iload_n 3, 1) := by decide +kernel
theorem dX7_countWays_8 : decode cX7_countWays 8 = .ok (.sipush 256, 3) := by decide +kernel
theorem dX7_countWays_11 : decode cX7_countWays 11 = .ok (.if_icmp .ge 24, 3) := by decide +kernel
theorem dX7_countWays_14 : decode cX7_countWays 14 = .ok (.aload_n 0, 1) := by decide +kernel
theorem dX7_countWays_15 : decode cX7_countWays 15 = .ok (.getfield 18, 3) := by decide +kernel
theorem dX7_countWays_18 : decode cX7_countWays 18 = .ok (.iload_n 3, 1) := by decide +kernel
theorem dX7_countWays_19 : decode cX7_countWays 19 = .ok (.iload_n 3, 1) := by decide +kernel
theorem dX7_countWays_20 : decode cX7_countWays 20 = .ok (.ifCond .ne 7, 3) := by decide +kernel
theorem dX7_countWays_27 : decode cX7_countWays 27 = .ok (.lconst 0, 1) := by decide +kernel
theorem dX7_countWays_28 : decode cX7_countWays 28 = .ok (.lastore, 1) := by decide +kernel
theorem dX7_countWays_29 : decode cX7_countWays 29 = .ok (.iinc 3 1, 3) := by decide +kernel
theorem dX7_countWays_32 : decode cX7_countWays 32 = .ok (.goto (-30), 3) := by decide +kernel
theorem dX7_countWays_23 : decode cX7_countWays 23 = .ok (.lconst 1, 1) := by decide +kernel
theorem dX7_countWays_24 : decode cX7_countWays 24 = .ok (.goto 4, 3) := by decide +kernel
set_option maxHeartbeats 4000000 in
set_option maxRecDepth 100000 in
theorem g_countWays (l : Launch) (dC : Nat → ClassId) (dI : Nat → Nat → Nat) (cy : Nat → ClassId) (sz : Nat) (vs : Nat) (vs1 : Nat) (vs2 : Nat) (vs3 : Nat) (vsm : Nat → Int32) (vsw : Nat → Int64) (vc : Nat) (vc1 : Nat) (vc2 : Nat) (vc3 : Nat) (vc4 : Nat) (vc5 : Nat) (vcm : Int32) (vcd : Int32) (vcr : Int32) (vcw : Int32) (vcf3 : Nat → Int32) (vsu : Int32) (r_vcm : 0 ≤ (vcm : Int32).toInt ∧ (vcm : Int32).toInt ≤ 7) (r_vcd : 0 ≤ (vcd : Int32).toInt ∧ (vcd : Int32).toInt ≤ 10) (p_vsm : Rg vsm 10 0 9) (p_vcf3 : Rg vcf3 10 0 40) : Met l yX7_countWays (wl yX7_countWays cX7_countWays 4 (some .long)) ({ frames := 2, cells := 0, slots := 0, locals := 128 }) (Pw (dC, dI) vwCl cy [(vs, .inr (8, [.ref vs1, .ref vs2, .ref vs3])), (vs1, .inl (cy 0, 10, .inl vsm)), (vs3, .inl (cy 1, 256, .inr (.inl vsw))), (vc, .inr (2, [.ref vc1, .ref vc2, .ref vc3, .ref vc4, .ref vc5, .int vcm, .int vcd, .int vcr, .int vcw])), (vc3, .inl (cy 0, 10, .inl vcf3))] sz [.ref vs, .ref vc, .int vsu] nE) (Ql (dC, dI) vwCl (fun (r : Int64) (u : (Nat → Int64)) => True) (O_g_countWays cy vs vs1 vs2 vs3 vsm vsw vc vc1 vc2 vc3 vc4 vc5 vcm vcd vcr vcw vcf3 vsu) (va_A [(vs, .inr (8, [.ref vs1, .ref vs2, .ref vs3])), (vs1, .inl (cy 0, 10, .inl vsm)), (vs3, .inl (cy 1, 256, .inr (.inl vsw))), (vc, .inr (2, [.ref vc1, .ref vc2, .ref vc3, .ref vc4, .ref vc5, .int vcm, .int vcd, .int vcr, .int vcw])), (vc3, .inl (cy 0, 10, .inl vcf3))] sz)) 0 0 (va_A [(vs, .inr (8, [.ref vs1, .ref vs2, .ref vs3])), (vs1, .inl (cy 0, 10, .inl vsm)), (vs3, .inl (cy 1, 256, .inr (.inl vsw))), (vc, .inr (2, [.ref vc1, .ref vc2, .ref vc3, .ref vc4, .ref vc5, .int vcm, .int vcd, .int vcr, .int vcw])), (vc3, .inl (cy 0, 10, .inl vcf3))] sz) := by
  refine mw (Qc := Ql (dC, dI) vwCl (fun (r : Int64) (u : (Nat → Int64)) => True) (O_g_countWays cy vs vs1 vs2 vs3 vsm vsw vc vc1 vc2 vc3 vc4 vc5 vcm vcd vcr vcw vcf3 vsu)) RX7 rfl (by decide +kernel) (Nat.le_of_ble_eq_true rfl) ?_
  intro p e s m below meth c A hx hb hr hlocks av9 hav hts hown hnm hml hK hP hD hA hS hE hAe Q9 hQ9 ls hl
  have hl : lv_has ls 4 [(0, .ref vs), (1, .ref vc), (2, .int vsu)] := hl
  refine lv_iconst (v := 0) hx hb dX7_countWays_0 (by decide) ?_
  refine lv_istore_n (lv' := [(3, .int 0), (0, .ref vs), (1, .ref vc), (2, .int vsu)]) hx hb dX7_countWays_1 rfl hl (by decide) rfl (fun ls hl => ?_)
  have loop1 : ∀ (n1 : Nat) (x_2 : Int32) (g_3 : Nat → Int64), (0 ≤ x_2.toInt ∧ x_2.toInt ≤ 256) → 256 - x_2.toInt < (n1 : Int) → ∀ (H : Heap) (locs : List Loc), va_P (dC, dI) vwCl [(vs, .inr (8, [.ref vs1, .ref vs2, .ref vs3])), (vs1, .inl (cy 0, 10, .inl vsm)), (vs3, .inl (cy 1, 256, .inr (.inl g_3))), (vc, .inr (2, [.ref vc1, .ref vc2, .ref vc3, .ref vc4, .ref vc5, .int vcm, .int vcd, .int vcr, .int vcw])), (vc3, .inl (cy 0, 10, .inl vcf3))] H → va_D A [(vs, .inr (8, [.ref vs1, .ref vs2, .ref vs3])), (vs1, .inl (cy 0, 10, .inl vsm)), (vs3, .inl (cy 1, 256, .inr (.inl g_3))), (vc, .inr (2, [.ref vc1, .ref vc2, .ref vc3, .ref vc4, .ref vc5, .int vcm, .int vcd, .int vcr, .int vcw])), (vc3, .inl (cy 0, 10, .inl vcf3))] → va_S A s.heap H locs → ∀ ls : Array Slot, lv_has ls 4 [(3, .int x_2), (0, .ref vs), (1, .ref vc), (2, .int vsu)] → W p l e ({ frames := 2, cells := 0, slots := 0, locals := 128 }) s m av9 below meth c H locs 0 0 Q9 (F0 m 2 ls []) := by
    intro n1
    induction n1 with
    | zero =>
      intro x_2 g_3 bx_2 hn1 H locs hP hD hS ls hl
      exfalso; omega
    | succ n1 ih1 =>
      intro x_2 g_3 bx_2 hn1 H locs hP hD hS ls hl
      refine lv_iload_n hx hb dX7_countWays_2 rfl (lv_at hl 0 rfl) ?_
      refine lv_iload_n hx hb dX7_countWays_3 rfl (lv_at hl 3 rfl) ?_
      refine lv_icmp_gt (tgt := 35) hx hb dX7_countWays_4 (by decide) (fun c_4 => ?_) (fun c_4 => ?_)
      · skip
        have c_4 : vsu.toInt < x_2.toInt := i_lt.mp c_4
        refine lv_iconst (v := 0) hx hb dX7_countWays_35 (by decide) ?_
        refine lv_istore_n (lv' := [(3, .int 0), (0, .ref vs), (1, .ref vc), (2, .int vsu)]) hx hb dX7_countWays_36 rfl hl (by decide) rfl (fun ls hl => ?_)
        have loop5 : ∀ (n5 : Nat) (x_6 : Int32) (g_7 : Nat → Int64), (0 ≤ x_6.toInt ∧ x_6.toInt ≤ 10) → 10 - x_6.toInt < (n5 : Int) → ∀ (H : Heap) (locs : List Loc), va_P (dC, dI) vwCl [(vs, .inr (8, [.ref vs1, .ref vs2, .ref vs3])), (vs1, .inl (cy 0, 10, .inl vsm)), (vs3, .inl (cy 1, 256, .inr (.inl g_7))), (vc, .inr (2, [.ref vc1, .ref vc2, .ref vc3, .ref vc4, .ref vc5, .int vcm, .int vcd, .int vcr, .int vcw])), (vc3, .inl (cy 0, 10, .inl vcf3))] H → va_D A [(vs, .inr (8, [.ref vs1, .ref vs2, .ref vs3])), (vs1, .inl (cy 0, 10, .inl vsm)), (vs3, .inl (cy 1, 256, .inr (.inl g_7))), (vc, .inr (2, [.ref vc1, .ref vc2, .ref vc3, .ref vc4, .ref vc5, .int vcm, .int vcd, .int vcr, .int vcw])), (vc3, .inl (cy 0, 10, .inl vcf3))] → va_S A s.heap H locs → ∀ ls : Array Slot, lv_has ls 4 [(3, .int x_6), (0, .ref vs), (1, .ref vc), (2, .int vsu)] → W p l e ({ frames := 2, cells := 0, slots := 0, locals := 128 }) s m av9 below meth c H locs 0 0 Q9 (F0 m 37 ls []) := by
          intro n5
          induction n5 with
          | zero =>
            intro x_6 g_7 bx_6 hn5 H locs hP hD hS ls hl
            exfalso; omega
          | succ n5 ih5 =>
            intro x_6 g_7 bx_6 hn5 H locs hP hD hS ls hl
            refine lv_iload_n hx hb dX7_countWays_37 rfl (lv_at hl 0 rfl) ?_
            refine lv_aload_n hx hb dX7_countWays_38 rfl (lv_at hl 2 rfl) ?_
            refine gf_X7_22 hx hb hts hown hK hP 3 rfl rfl dX7_countWays_39 ?_
            refine lv_icmp_ge (tgt := 68) hx hb dX7_countWays_42 (by decide) (fun c_8 => ?_) (fun c_8 => ?_)
            · skip
              have c_8 : vcd.toInt ≤ x_6.toInt := i_le.mp c_8
              refine lv_iload_n hx hb dX7_countWays_68 rfl (lv_at hl 3 rfl) ?_
              have k_0 : (0 : Int32).toInt = 0 := by decide
              refine lv_if_lt (tgt := 88) hx hb dX7_countWays_69 (by decide) (fun c_9 => ?_) (fun c_9 => ?_)
              · skip
                have c_9 : vsu.toInt < (0 : Int32).toInt := i_lt.mp c_9
                refine lv_lconst (v := 0) hx hb dX7_countWays_88 (by decide) ?_
                rw [hQ9]
                exact re_l g_7 hx hb hr hlocks trivial (hP.sub [0, 1, 2, 3, 4] rfl) (hD.sub [0, 1, 2, 3, 4] rfl rfl) hS dX7_countWays_89
              · skip
                have c_9 : ¬ (vsu.toInt < (0 : Int32).toInt) := fun h9 => c_9 (i_lt.mpr h9)
                refine lv_iload_n hx hb dX7_countWays_72 rfl (lv_at hl 3 rfl) ?_
                refine lv_sipush (v := 256) hx hb dX7_countWays_73 (by decide) ?_
                have k_256 : (256 : Int32).toInt = 256 := by decide
                refine lv_icmp_ge (tgt := 88) hx hb dX7_countWays_76 (by decide) (fun c9 => absurd (i_le.mp c9) (by omega)) (fun _ => ?_)
                refine lv_aload_n hx hb dX7_countWays_79 rfl (lv_at hl 1 rfl) ?_
                refine gf_X7_18 hx hb hts hown hK hP 0 rfl rfl dX7_countWays_80 ?_
                refine lv_iload_n hx hb dX7_countWays_83 rfl (lv_at hl 3 rfl) ?_
                have hin_10 : vp_in vsu 256 := vp_in_iff.mpr ⟨by omega, by omega⟩
                refine va_lald hx hb hK hP 2 1 rfl rfl hin_10 dX7_countWays_84 ?_
                refine lv_topl (fun y_11 ey_11 => ?_)
                refine lv_goto (tgt := 89) hx hb dX7_countWays_85 (by decide) ?_
                rw [hQ9]
                exact re_l g_7 hx hb hr hlocks trivial (hP.sub [0, 1, 2, 3, 4] rfl) (hD.sub [0, 1, 2, 3, 4] rfl rfl) hS dX7_countWays_89
            · skip
              have c_8 : ¬ (vcd.toInt ≤ x_6.toInt) := fun h9 => c_8 (i_le.mpr h9)
              refine lv_aload_n hx hb dX7_countWays_45 rfl (lv_at hl 1 rfl) ?_
              refine lv_aload_n hx hb dX7_countWays_46 rfl (lv_at hl 1 rfl) ?_
              refine gf_X7_9 hx hb hts hown hK hP 0 rfl rfl dX7_countWays_47 ?_
              refine lv_iload_n hx hb dX7_countWays_50 rfl (lv_at hl 0 rfl) ?_
              have hin_12 : vp_in x_6 10 := vp_in_iff.mpr ⟨by omega, by omega⟩
              refine va_iald hx hb hK hP 1 0 rfl rfl hin_12 dX7_countWays_51 ?_
              refine lv_topi (fun z_13 ez_13 => ?_)
              have bz_13 := p_vsm.at hin_12 ez_13
              refine lv_aload_n hx hb dX7_countWays_52 rfl (lv_at hl 2 rfl) ?_
              refine gf_X7_28 hx hb hts hown hK hP 3 rfl rfl dX7_countWays_53 ?_
              refine lv_iload_n hx hb dX7_countWays_56 rfl (lv_at hl 0 rfl) ?_
              have hin_14 : vp_in x_6 10 := vp_in_iff.mpr ⟨by omega, by omega⟩
              refine va_iald hx hb hK hP 4 0 rfl rfl hin_14 dX7_countWays_57 ?_
              refine lv_topi (fun z_15 ez_15 => ?_)
              have bz_15 := p_vcf3.at hin_14 ez_15
              refine lv_iload_n hx hb dX7_countWays_58 rfl (lv_at hl 3 rfl) ?_
              refine jn_v (wr := [(vs1, .inl (cy 0, 10, .inl vsm)), (vc, .inr (2, [.ref vc1, .ref vc2, .ref vc3, .ref vc4, .ref vc5, .int vcm, .int vcd, .int vcr, .int vcw])), (vc3, .inl (cy 0, 10, .inl vcf3))]) (rV (As := [.int z_13, .int z_15, .int vsu]) (rest := []) (ci := 8) ⟨hx, hb, hml, hown, hts⟩ (g_addWays l dC dI cy _ vs vs1 vs2 vs3 g_7 z_13 z_15 vsu ⟨by omega, by omega⟩ ⟨by omega, by omega⟩) (cw_X7_31 hts rfl rfl ⟨Nat.le_of_ble_eq_true rfl, Nat.le_of_ble_eq_true rfl⟩) hP hD hK [0, 2] rfl rfl rfl rfl bl0 e0 rfl hl.1 rfl (Nat.le_of_ble_eq_true rfl) dX7_countWays_59 ⟨Nat.le_of_ble_eq_true rfl, Nat.le_of_ble_eq_true rfl⟩) hP hD hS hA [0, 2] [1, 3, 4] rfl rfl rfl (by decide) (fun u_18 H locs hp_17 hP hD hS => ?_)
              obtain ⟨vsw_19, rfl⟩ : ∃ z, z = u_18 := ⟨_, rfl⟩
              have hP : va_P (dC, dI) vwCl [(vs1, .inl (cy 0, 10, .inl vsm)), (vc, .inr (2, [.ref vc1, .ref vc2, .ref vc3, .ref vc4, .ref vc5, .int vcm, .int vcd, .int vcr, .int vcw])), (vc3, .inl (cy 0, 10, .inl vcf3)), (vs, .inr (8, [.ref vs1, .ref vs2, .ref vs3])), (vs3, .inl (cy 1, 256, .inr (.inl vsw_19)))] H := hP
              have hD : va_D A [(vs1, .inl (cy 0, 10, .inl vsm)), (vc, .inr (2, [.ref vc1, .ref vc2, .ref vc3, .ref vc4, .ref vc5, .int vcm, .int vcd, .int vcr, .int vcw])), (vc3, .inl (cy 0, 10, .inl vcf3)), (vs, .inr (8, [.ref vs1, .ref vs2, .ref vs3])), (vs3, .inl (cy 1, 256, .inr (.inl vsw_19)))] := hD
              obtain ⟨z_20, ez_20⟩ : ∃ z : Int32, z = x_6 + 1 := ⟨_, rfl⟩
              have k_1 : (1 : Int32).toInt = 1 := by decide
              have bz_20 : z_20.toInt = x_6.toInt + (1 : Int32).toInt := i_add ez_20 (by omega) (by omega)
              refine lv_iinc (v := z_20) (lv' := [(3, .int z_20), (0, .ref vs), (1, .ref vc), (2, .int vsu)]) hx hb dX7_countWays_62 hl (k := 0) rfl ez_20.symm (by decide) rfl (fun ls hl => ?_)
              refine lv_goto (tgt := 37) hx hb dX7_countWays_65 (by decide) ?_
              exact ih5 z_20 vsw_19 ⟨by omega, by omega⟩ (by omega) _ _ (hP.sub [3, 0, 4, 1, 2] rfl) (hD.sub [3, 0, 4, 1, 2] rfl rfl) hS ls (lv_sub hl [0, 1, 2, 3] rfl)
        have k_0 : (0 : Int32).toInt = 0 := by decide
        exact loop5 ((10 - (0 : Int32).toInt).toNat + 1) 0 g_3 ⟨by omega, by omega⟩ (by omega) _ _ hP hD hS ls (lv_sub hl [0, 1, 2, 3] rfl)
      · skip
        have c_4 : ¬ (vsu.toInt < x_2.toInt) := fun h9 => c_4 (i_lt.mpr h9)
        refine lv_iload_n hx hb dX7_countWays_7 rfl (lv_at hl 0 rfl) ?_
        refine lv_sipush (v := 256) hx hb dX7_countWays_8 (by decide) ?_
        have k_256 : (256 : Int32).toInt = 256 := by decide
        refine lv_icmp_ge (tgt := 35) hx hb dX7_countWays_11 (by decide) (fun c_21 => ?_) (fun c_21 => ?_)
        · skip
          have c_21 : (256 : Int32).toInt ≤ x_2.toInt := i_le.mp c_21
          refine lv_iconst (v := 0) hx hb dX7_countWays_35 (by decide) ?_
          refine lv_istore_n (lv' := [(3, .int 0), (0, .ref vs), (1, .ref vc), (2, .int vsu)]) hx hb dX7_countWays_36 rfl hl (by decide) rfl (fun ls hl => ?_)
          have loop22 : ∀ (n22 : Nat) (x_23 : Int32) (g_24 : Nat → Int64), (0 ≤ x_23.toInt ∧ x_23.toInt ≤ 10) → 10 - x_23.toInt < (n22 : Int) → ∀ (H : Heap) (locs : List Loc), va_P (dC, dI) vwCl [(vs, .inr (8, [.ref vs1, .ref vs2, .ref vs3])), (vs1, .inl (cy 0, 10, .inl vsm)), (vs3, .inl (cy 1, 256, .inr (.inl g_24))), (vc, .inr (2, [.ref vc1, .ref vc2, .ref vc3, .ref vc4, .ref vc5, .int vcm, .int vcd, .int vcr, .int vcw])), (vc3, .inl (cy 0, 10, .inl vcf3))] H → va_D A [(vs, .inr (8, [.ref vs1, .ref vs2, .ref vs3])), (vs1, .inl (cy 0, 10, .inl vsm)), (vs3, .inl (cy 1, 256, .inr (.inl g_24))), (vc, .inr (2, [.ref vc1, .ref vc2, .ref vc3, .ref vc4, .ref vc5, .int vcm, .int vcd, .int vcr, .int vcw])), (vc3, .inl (cy 0, 10, .inl vcf3))] → va_S A s.heap H locs → ∀ ls : Array Slot, lv_has ls 4 [(3, .int x_23), (0, .ref vs), (1, .ref vc), (2, .int vsu)] → W p l e ({ frames := 2, cells := 0, slots := 0, locals := 128 }) s m av9 below meth c H locs 0 0 Q9 (F0 m 37 ls []) := by
            intro n22
            induction n22 with
            | zero =>
              intro x_23 g_24 bx_23 hn22 H locs hP hD hS ls hl
              exfalso; omega
            | succ n22 ih22 =>
              intro x_23 g_24 bx_23 hn22 H locs hP hD hS ls hl
              refine lv_iload_n hx hb dX7_countWays_37 rfl (lv_at hl 0 rfl) ?_
              refine lv_aload_n hx hb dX7_countWays_38 rfl (lv_at hl 2 rfl) ?_
              refine gf_X7_22 hx hb hts hown hK hP 3 rfl rfl dX7_countWays_39 ?_
              refine lv_icmp_ge (tgt := 68) hx hb dX7_countWays_42 (by decide) (fun c_25 => ?_) (fun c_25 => ?_)
              · skip
                have c_25 : vcd.toInt ≤ x_23.toInt := i_le.mp c_25
                refine lv_iload_n hx hb dX7_countWays_68 rfl (lv_at hl 3 rfl) ?_
                have k_0 : (0 : Int32).toInt = 0 := by decide
                refine lv_if_lt (tgt := 88) hx hb dX7_countWays_69 (by decide) (fun c9 => absurd (i_lt.mp c9) (by omega)) (fun _ => ?_)
                refine lv_iload_n hx hb dX7_countWays_72 rfl (lv_at hl 3 rfl) ?_
                refine lv_sipush (v := 256) hx hb dX7_countWays_73 (by decide) ?_
                refine lv_icmp_ge (tgt := 88) hx hb dX7_countWays_76 (by decide) (fun c_26 => ?_) (fun c_26 => ?_)
                · skip
                  have c_26 : (256 : Int32).toInt ≤ vsu.toInt := i_le.mp c_26
                  refine lv_lconst (v := 0) hx hb dX7_countWays_88 (by decide) ?_
                  rw [hQ9]
                  exact re_l g_24 hx hb hr hlocks trivial (hP.sub [0, 1, 2, 3, 4] rfl) (hD.sub [0, 1, 2, 3, 4] rfl rfl) hS dX7_countWays_89
                · skip
                  have c_26 : ¬ ((256 : Int32).toInt ≤ vsu.toInt) := fun h9 => c_26 (i_le.mpr h9)
                  refine lv_aload_n hx hb dX7_countWays_79 rfl (lv_at hl 1 rfl) ?_
                  refine gf_X7_18 hx hb hts hown hK hP 0 rfl rfl dX7_countWays_80 ?_
                  refine lv_iload_n hx hb dX7_countWays_83 rfl (lv_at hl 3 rfl) ?_
                  have hin_27 : vp_in vsu 256 := vp_in_iff.mpr ⟨by omega, by omega⟩
                  refine va_lald hx hb hK hP 2 1 rfl rfl hin_27 dX7_countWays_84 ?_
                  refine lv_topl (fun y_28 ey_28 => ?_)
                  refine lv_goto (tgt := 89) hx hb dX7_countWays_85 (by decide) ?_
                  rw [hQ9]
                  exact re_l g_24 hx hb hr hlocks trivial (hP.sub [0, 1, 2, 3, 4] rfl) (hD.sub [0, 1, 2, 3, 4] rfl rfl) hS dX7_countWays_89
              · skip
                have c_25 : ¬ (vcd.toInt ≤ x_23.toInt) := fun h9 => c_25 (i_le.mpr h9)
                refine lv_aload_n hx hb dX7_countWays_45 rfl (lv_at hl 1 rfl) ?_
                refine lv_aload_n hx hb dX7_countWays_46 rfl (lv_at hl 1 rfl) ?_
                refine gf_X7_9 hx hb hts hown hK hP 0 rfl rfl dX7_countWays_47 ?_
                refine lv_iload_n hx hb dX7_countWays_50 rfl (lv_at hl 0 rfl) ?_
                have hin_29 : vp_in x_23 10 := vp_in_iff.mpr ⟨by omega, by omega⟩
                refine va_iald hx hb hK hP 1 0 rfl rfl hin_29 dX7_countWays_51 ?_
                refine lv_topi (fun z_30 ez_30 => ?_)
                have bz_30 := p_vsm.at hin_29 ez_30
                refine lv_aload_n hx hb dX7_countWays_52 rfl (lv_at hl 2 rfl) ?_
                refine gf_X7_28 hx hb hts hown hK hP 3 rfl rfl dX7_countWays_53 ?_
                refine lv_iload_n hx hb dX7_countWays_56 rfl (lv_at hl 0 rfl) ?_
                have hin_31 : vp_in x_23 10 := vp_in_iff.mpr ⟨by omega, by omega⟩
                refine va_iald hx hb hK hP 4 0 rfl rfl hin_31 dX7_countWays_57 ?_
                refine lv_topi (fun z_32 ez_32 => ?_)
                have bz_32 := p_vcf3.at hin_31 ez_32
                refine lv_iload_n hx hb dX7_countWays_58 rfl (lv_at hl 3 rfl) ?_
                refine jn_v (wr := [(vs1, .inl (cy 0, 10, .inl vsm)), (vc, .inr (2, [.ref vc1, .ref vc2, .ref vc3, .ref vc4, .ref vc5, .int vcm, .int vcd, .int vcr, .int vcw])), (vc3, .inl (cy 0, 10, .inl vcf3))]) (rV (As := [.int z_30, .int z_32, .int vsu]) (rest := []) (ci := 8) ⟨hx, hb, hml, hown, hts⟩ (g_addWays l dC dI cy _ vs vs1 vs2 vs3 g_24 z_30 z_32 vsu ⟨by omega, by omega⟩ ⟨by omega, by omega⟩) (cw_X7_31 hts rfl rfl ⟨Nat.le_of_ble_eq_true rfl, Nat.le_of_ble_eq_true rfl⟩) hP hD hK [0, 2] rfl rfl rfl rfl bl0 e0 rfl hl.1 rfl (Nat.le_of_ble_eq_true rfl) dX7_countWays_59 ⟨Nat.le_of_ble_eq_true rfl, Nat.le_of_ble_eq_true rfl⟩) hP hD hS hA [0, 2] [1, 3, 4] rfl rfl rfl (by decide) (fun u_35 H locs hp_34 hP hD hS => ?_)
                obtain ⟨vsw_36, rfl⟩ : ∃ z, z = u_35 := ⟨_, rfl⟩
                have hP : va_P (dC, dI) vwCl [(vs1, .inl (cy 0, 10, .inl vsm)), (vc, .inr (2, [.ref vc1, .ref vc2, .ref vc3, .ref vc4, .ref vc5, .int vcm, .int vcd, .int vcr, .int vcw])), (vc3, .inl (cy 0, 10, .inl vcf3)), (vs, .inr (8, [.ref vs1, .ref vs2, .ref vs3])), (vs3, .inl (cy 1, 256, .inr (.inl vsw_36)))] H := hP
                have hD : va_D A [(vs1, .inl (cy 0, 10, .inl vsm)), (vc, .inr (2, [.ref vc1, .ref vc2, .ref vc3, .ref vc4, .ref vc5, .int vcm, .int vcd, .int vcr, .int vcw])), (vc3, .inl (cy 0, 10, .inl vcf3)), (vs, .inr (8, [.ref vs1, .ref vs2, .ref vs3])), (vs3, .inl (cy 1, 256, .inr (.inl vsw_36)))] := hD
                obtain ⟨z_37, ez_37⟩ : ∃ z : Int32, z = x_23 + 1 := ⟨_, rfl⟩
                have k_1 : (1 : Int32).toInt = 1 := by decide
                have bz_37 : z_37.toInt = x_23.toInt + (1 : Int32).toInt := i_add ez_37 (by omega) (by omega)
                refine lv_iinc (v := z_37) (lv' := [(3, .int z_37), (0, .ref vs), (1, .ref vc), (2, .int vsu)]) hx hb dX7_countWays_62 hl (k := 0) rfl ez_37.symm (by decide) rfl (fun ls hl => ?_)
                refine lv_goto (tgt := 37) hx hb dX7_countWays_65 (by decide) ?_
                exact ih22 z_37 vsw_36 ⟨by omega, by omega⟩ (by omega) _ _ (hP.sub [3, 0, 4, 1, 2] rfl) (hD.sub [3, 0, 4, 1, 2] rfl rfl) hS ls (lv_sub hl [0, 1, 2, 3] rfl)
          have k_0 : (0 : Int32).toInt = 0 := by decide
          exact loop22 ((10 - (0 : Int32).toInt).toNat + 1) 0 g_3 ⟨by omega, by omega⟩ (by omega) _ _ hP hD hS ls (lv_sub hl [0, 1, 2, 3] rfl)
        · skip
          have c_21 : ¬ ((256 : Int32).toInt ≤ x_2.toInt) := fun h9 => c_21 (i_le.mpr h9)
          refine lv_aload_n hx hb dX7_countWays_14 rfl (lv_at hl 1 rfl) ?_
          refine gf_X7_18 hx hb hts hown hK hP 0 rfl rfl dX7_countWays_15 ?_
          refine lv_iload_n hx hb dX7_countWays_18 rfl (lv_at hl 0 rfl) ?_
          refine lv_iload_n hx hb dX7_countWays_19 rfl (lv_at hl 0 rfl) ?_
          have k_0 : (0 : Int32).toInt = 0 := by decide
          refine lv_if_ne (tgt := 27) hx hb dX7_countWays_20 (by decide) (fun c_38 => ?_) (fun c_38 => ?_)
          · skip
            have c_38 : ¬ (x_2.toInt = (0 : Int32).toInt) := fun h9 => c_38 (i_eq.mpr h9)
            refine lv_lconst (v := 0) hx hb dX7_countWays_27 (by decide) ?_
            have hin_39 : vp_in x_2 256 := vp_in_iff.mpr ⟨by omega, by omega⟩
            refine va_last hx hb hK hP hD hS 2 1 rfl rfl hin_39 dX7_countWays_28 (fun H locs hP hD hS => ?_)
            obtain ⟨f_40, ef_40⟩ : ∃ z : Nat → Int64, z = vp_updL g_3 (Int32.toNatClampNeg x_2) 0 := ⟨_, rfl⟩
            have hP : va_P (dC, dI) vwCl [(vs, .inr (8, [.ref vs1, .ref vs2, .ref vs3])), (vs1, .inl (cy 0, 10, .inl vsm)), (vs3, .inl (cy 1, 256, .inr (.inl f_40))), (vc, .inr (2, [.ref vc1, .ref vc2, .ref vc3, .ref vc4, .ref vc5, .int vcm, .int vcd, .int vcr, .int vcw])), (vc3, .inl (cy 0, 10, .inl vcf3))] H := by rw [ef_40]; exact hP
            have hD : va_D A [(vs, .inr (8, [.ref vs1, .ref vs2, .ref vs3])), (vs1, .inl (cy 0, 10, .inl vsm)), (vs3, .inl (cy 1, 256, .inr (.inl f_40))), (vc, .inr (2, [.ref vc1, .ref vc2, .ref vc3, .ref vc4, .ref vc5, .int vcm, .int vcd, .int vcr, .int vcw])), (vc3, .inl (cy 0, 10, .inl vcf3))] := by rw [ef_40]; exact hD
            obtain ⟨z_41, ez_41⟩ : ∃ z : Int32, z = x_2 + 1 := ⟨_, rfl⟩
            have k_1 : (1 : Int32).toInt = 1 := by decide
            have bz_41 : z_41.toInt = x_2.toInt + (1 : Int32).toInt := i_add ez_41 (by omega) (by omega)
            refine lv_iinc (v := z_41) (lv' := [(3, .int z_41), (0, .ref vs), (1, .ref vc), (2, .int vsu)]) hx hb dX7_countWays_29 hl (k := 0) rfl ez_41.symm (by decide) rfl (fun ls hl => ?_)
            refine lv_goto (tgt := 2) hx hb dX7_countWays_32 (by decide) ?_
            exact ih1 z_41 f_40 ⟨by omega, by omega⟩ (by omega) _ _ (hP.sub [0, 1, 2, 3, 4] rfl) (hD.sub [0, 1, 2, 3, 4] rfl rfl) hS ls (lv_sub hl [0, 1, 2, 3] rfl)
          · skip
            have c_38 : x_2.toInt = (0 : Int32).toInt := i_eq.mp c_38
            refine lv_lconst (v := 1) hx hb dX7_countWays_23 (by decide) ?_
            refine lv_goto (tgt := 28) hx hb dX7_countWays_24 (by decide) ?_
            have hin_42 : vp_in x_2 256 := vp_in_iff.mpr ⟨by omega, by omega⟩
            refine va_last hx hb hK hP hD hS 2 1 rfl rfl hin_42 dX7_countWays_28 (fun H locs hP hD hS => ?_)
            obtain ⟨f_43, ef_43⟩ : ∃ z : Nat → Int64, z = vp_updL g_3 (Int32.toNatClampNeg x_2) 1 := ⟨_, rfl⟩
            have hP : va_P (dC, dI) vwCl [(vs, .inr (8, [.ref vs1, .ref vs2, .ref vs3])), (vs1, .inl (cy 0, 10, .inl vsm)), (vs3, .inl (cy 1, 256, .inr (.inl f_43))), (vc, .inr (2, [.ref vc1, .ref vc2, .ref vc3, .ref vc4, .ref vc5, .int vcm, .int vcd, .int vcr, .int vcw])), (vc3, .inl (cy 0, 10, .inl vcf3))] H := by rw [ef_43]; exact hP
            have hD : va_D A [(vs, .inr (8, [.ref vs1, .ref vs2, .ref vs3])), (vs1, .inl (cy 0, 10, .inl vsm)), (vs3, .inl (cy 1, 256, .inr (.inl f_43))), (vc, .inr (2, [.ref vc1, .ref vc2, .ref vc3, .ref vc4, .ref vc5, .int vcm, .int vcd, .int vcr, .int vcw])), (vc3, .inl (cy 0, 10, .inl vcf3))] := by rw [ef_43]; exact hD
            obtain ⟨z_44, ez_44⟩ : ∃ z : Int32, z = x_2 + 1 := ⟨_, rfl⟩
            have k_1 : (1 : Int32).toInt = 1 := by decide
            have bz_44 : z_44.toInt = x_2.toInt + (1 : Int32).toInt := i_add ez_44 (by omega) (by omega)
            refine lv_iinc (v := z_44) (lv' := [(3, .int z_44), (0, .ref vs), (1, .ref vc), (2, .int vsu)]) hx hb dX7_countWays_29 hl (k := 0) rfl ez_44.symm (by decide) rfl (fun ls hl => ?_)
            refine lv_goto (tgt := 2) hx hb dX7_countWays_32 (by decide) ?_
            exact ih1 z_44 f_43 ⟨by omega, by omega⟩ (by omega) _ _ (hP.sub [0, 1, 2, 3, 4] rfl) (hD.sub [0, 1, 2, 3, 4] rfl rfl) hS ls (lv_sub hl [0, 1, 2, 3] rfl)
  have k_0 : (0 : Int32).toInt = 0 := by decide
  exact loop1 ((256 - (0 : Int32).toInt).toNat + 1) 0 vsw ⟨by omega, by omega⟩ (by omega) _ _ hP hD hS ls (lv_sub hl [0, 1, 2, 3] rfl)
abbrev cX7_fewestFrom : ByteArray := prog_9_method_5_code
def yX7_fewestFrom : MethodName := ⟨RX7, "fewestFrom", "(III)I"⟩
theorem t935 : Cond.code yX7_fewestFrom cX7_fewestFrom 6 (some .int) ∈ GW := gw_mem 1049 (by decide +kernel) (by decide +kernel)
theorem dX7_fewestFrom_0 : decode cX7_fewestFrom 0 = .ok (.sipush 1000, 3) := by decide +kernel
theorem dX7_fewestFrom_3 : decode cX7_fewestFrom 3 = .ok (.istore 4, 2) := by decide +kernel
theorem dX7_fewestFrom_5 : decode cX7_fewestFrom 5 = .ok (.iconst 0, 1) := by decide +kernel
theorem dX7_fewestFrom_6 : decode cX7_fewestFrom 6 = .ok (.istore 5, 2) := by decide +kernel
theorem dX7_fewestFrom_8 : decode cX7_fewestFrom 8 = .ok (.iload 5, 2) := by decide +kernel
theorem dX7_fewestFrom_10 : decode cX7_fewestFrom 10 = .ok (.aload_n 0, 1) := by decide +kernel
theorem dX7_fewestFrom_11 : decode cX7_fewestFrom 11 = .ok (.getfield 9, 3) := by decide +kernel
theorem dX7_fewestFrom_14 : decode cX7_fewestFrom 14 = .ok (.iload_n 1, 1) := by decide +kernel
theorem dX7_fewestFrom_15 : decode cX7_fewestFrom 15 = .ok (.iaload, 1) := by decide +kernel
theorem dX7_fewestFrom_16 : decode cX7_fewestFrom 16 = .ok (.if_icmp .gt 46, 3) := by decide +kernel
theorem dX7_fewestFrom_62 : decode cX7_fewestFrom 62 = .ok (.iload 4, 2) := by decide +kernel
theorem dX7_fewestFrom_64 : decode cX7_fewestFrom 64 = .ok (.ireturn, 1) := by decide +kernel
theorem dX7_fewestFrom_19 : decode cX7_fewestFrom 19 = .ok (.iload 5, 2) := by decide +kernel
theorem dX7_fewestFrom_21 : decode cX7_fewestFrom 21 = .ok (.iload_n 3, 1) := by decide +kernel
theorem dX7_fewestFrom_22 : decode cX7_fewestFrom 22 = .ok (.imul, 1) := by decide +kernel
theorem dX7_fewestFrom_23 : decode cX7_fewestFrom 23 = .ok (.iload_n 2, 1) := by decide +kernel
theorem dX7_fewestFrom_24 : decode cX7_fewestFrom 24 = .ok (.if_icmp .gt 38, 3) := by decide +kernel
theorem dX7_fewestFrom_27 : decode cX7_fewestFrom 27 = .ok (.iload 4, 2) := by decide +kernel
theorem dX7_fewestFrom_29 : decode cX7_fewestFrom 29 = .ok (.aload_n 0, 1) := by decide +kernel
theorem dX7_fewestFrom_30 : decode cX7_fewestFrom 30 = .ok (.getfield 15, 3) := by decide +kernel
theorem t321 : Cond.fieldLink RX7 15 "LikenessPound$Sums" "fewest" "[I" ∈ GW := gw_mem 435 (by decide +kernel) (by decide +kernel)
theorem gf_X7_15 {p : Program} {l : Launch} {e : Env} {R : Room} {s : State} {m : MethodId} {args : Array Value} {below : List Frame} {meth : Method} {c : Code} {H : Heap} {locs : List Loc} {cells slots : Nat} {Q : State → Prop} {cc : ByteArray} {pc : Nat} {ls : Array Slot} {rest : List Value} {D : va_G} {a : Nat} {tys : List (ClassId × FieldType)} {ws : va_W} (hx : p.tables.exec = Jvm.exec) (hb : c.code = cc) (hts : ∀ w ∈ GW, w.before args s = true) (hown : s.vm.findClass RX7 = some m.cls) (hK : va_K D vwCl tys s) (hP : va_P D vwCl ws H) (q0 : Nat) {fs : List Value} (he : ws[q0]? = some (a, .inr (8, fs))) {v : Value} (hv : fs[1]? = some v) (hdg : decode cc pc = .ok (.getfield 15, 3)) (kk : W p l e R s m args below meth c H locs cells slots Q (F0 m (pc + 3) ls (v :: rest))) : W p l e R s m args below meth c H locs cells slots Q (F0 m pc ls (.ref a :: rest)) := va_get (C := RX7) (T := TX7) (N := 3) (ci := 8) hx hb hts inX7 hown hK hP q0 he rfl 1 (by decide) (hts _ t321) (fun _ h => h) hv hdg kk
theorem dX7_fewestFrom_33 : decode cX7_fewestFrom 33 = .ok (.iload_n 1, 1) := by decide +kernel
theorem dX7_fewestFrom_34 : decode cX7_fewestFrom 34 = .ok (.iconst 1, 1) := by decide +kernel
theorem dX7_fewestFrom_35 : decode cX7_fewestFrom 35 = .ok (.iadd, 1) := by decide +kernel
theorem dX7_fewestFrom_36 : decode cX7_fewestFrom 36 = .ok (.sipush 256, 3) := by decide +kernel
theorem dX7_fewestFrom_39 : decode cX7_fewestFrom 39 = .ok (.imul, 1) := by decide +kernel
theorem dX7_fewestFrom_40 : decode cX7_fewestFrom 40 = .ok (.iload_n 2, 1) := by decide +kernel
theorem dX7_fewestFrom_41 : decode cX7_fewestFrom 41 = .ok (.iadd, 1) := by decide +kernel
theorem dX7_fewestFrom_42 : decode cX7_fewestFrom 42 = .ok (.iload 5, 2) := by decide +kernel
theorem dX7_fewestFrom_44 : decode cX7_fewestFrom 44 = .ok (.iload_n 3, 1) := by decide +kernel
theorem dX7_fewestFrom_45 : decode cX7_fewestFrom 45 = .ok (.imul, 1) := by decide +kernel
theorem dX7_fewestFrom_46 : decode cX7_fewestFrom 46 = .ok (.isub, 1) := by decide +kernel
theorem dX7_fewestFrom_47 : decode cX7_fewestFrom 47 = .ok (.iaload, 1) := by decide +kernel
theorem dX7_fewestFrom_48 : decode cX7_fewestFrom 48 = .ok (.iload 5, 2) := by decide +kernel
theorem dX7_fewestFrom_50 : decode cX7_fewestFrom 50 = .ok (.iadd, 1) := by decide +kernel
theorem dX7_fewestFrom_51 : decode cX7_fewestFrom 51 = .ok (.invokestatic 35, 3) := by decide +kernel
theorem dX7_fewestFrom_54 : decode cX7_fewestFrom 54 = .ok (.istore 4, 2) := by decide +kernel
theorem dX7_fewestFrom_56 : decode cX7_fewestFrom 56 = .ok (.iinc 5 1, 3) := by decide +kernel
theorem dX7_fewestFrom_59 : decode cX7_fewestFrom 59 = .ok (.goto (-51), 3) := by decide +kernel
set_option maxHeartbeats 4000000 in
set_option maxRecDepth 100000 in
theorem g_fewestFrom (l : Launch) (dC : Nat → ClassId) (dI : Nat → Nat → Nat) (cy : Nat → ClassId) (vs : Nat) (vs1 : Nat) (vs2 : Nat) (vs3 : Nat) (vsm : Nat → Int32) (vsf : Nat → Int32) (vd : Int32) (vx : Int32) (vwe : Int32) (r_vd : 0 ≤ (vd : Int32).toInt ∧ (vd : Int32).toInt ≤ 9) (r_vx : 0 ≤ (vx : Int32).toInt ∧ (vx : Int32).toInt ≤ 255) (r_vwe : 0 ≤ (vwe : Int32).toInt ∧ (vwe : Int32).toInt ≤ 40) (p_vsm : Rg vsm 10 0 9) : Met l yX7_fewestFrom (wl yX7_fewestFrom cX7_fewestFrom 6 (some .int)) ({ frames := 1, cells := 0, slots := 0, locals := 64 }) (Pr (dC, dI) vwCl cy [(vs, .inr (8, [.ref vs1, .ref vs2, .ref vs3])), (vs1, .inl (cy 0, 10, .inl vsm)), (vs2, .inl (cy 0, 2816, .inl vsf))] [.ref vs, .int vd, .int vx, .int vwe]) (Ri (fun r => True)) 0 0 (fun _ => False) := by
  refine mr RX7 rfl (by decide +kernel) (Nat.le_of_ble_eq_true rfl) ?_
  intro p e s m below meth c hx hb hr hlocks av9 hav hts hown hml hK hP hS Q9 hQ9 ls hl
  have hl : lv_has ls 6 [(0, .ref vs), (1, .int vd), (2, .int vx), (3, .int vwe)] := hl
  refine lv_sipush (v := 1000) hx hb dX7_fewestFrom_0 (by decide) ?_
  refine lv_istore (lv' := [(4, .int 1000), (0, .ref vs), (1, .int vd), (2, .int vx), (3, .int vwe)]) hx hb dX7_fewestFrom_3 hl (by decide) rfl (fun ls hl => ?_)
  refine lv_iconst (v := 0) hx hb dX7_fewestFrom_5 (by decide) ?_
  refine lv_istore (lv' := [(5, .int 0), (4, .int 1000), (0, .ref vs), (1, .int vd), (2, .int vx), (3, .int vwe)]) hx hb dX7_fewestFrom_6 hl (by decide) rfl (fun ls hl => ?_)
  have loop1 : ∀ (n1 : Nat) (x_3 : Int32) (x_2 : Int32), (0 ≤ x_2.toInt ∧ x_2.toInt ≤ 10) → 10 - x_2.toInt < (n1 : Int) → ∀ (H : Heap) (locs : List Loc), va_P (dC, dI) vwCl [(vs, .inr (8, [.ref vs1, .ref vs2, .ref vs3])), (vs1, .inl (cy 0, 10, .inl vsm)), (vs2, .inl (cy 0, 2816, .inl vsf))] H → va_S (fun _ => False) s.heap H locs → ∀ ls : Array Slot, lv_has ls 6 [(5, .int x_2), (4, .int x_3), (0, .ref vs), (1, .int vd), (2, .int vx), (3, .int vwe)] → W p l e ({ frames := 1, cells := 0, slots := 0, locals := 64 }) s m av9 below meth c H locs 0 0 Q9 (F0 m 8 ls []) := by
    intro n1
    induction n1 with
    | zero =>
      intro x_3 x_2 bx_2 hn1 H locs hP hS ls hl
      exfalso; omega
    | succ n1 ih1 =>
      intro x_3 x_2 bx_2 hn1 H locs hP hS ls hl
      refine lv_iload hx hb dX7_fewestFrom_8 (lv_at hl 0 rfl) ?_
      refine lv_aload_n hx hb dX7_fewestFrom_10 rfl (lv_at hl 2 rfl) ?_
      refine gf_X7_9 hx hb hts hown hK hP 0 rfl rfl dX7_fewestFrom_11 ?_
      refine lv_iload_n hx hb dX7_fewestFrom_14 rfl (lv_at hl 3 rfl) ?_
      have hin_4 : vp_in vd 10 := vp_in_iff.mpr ⟨by omega, by omega⟩
      refine va_iald hx hb hK hP 1 0 rfl rfl hin_4 dX7_fewestFrom_15 ?_
      refine lv_topi (fun z_5 ez_5 => ?_)
      have bz_5 := p_vsm.at hin_4 ez_5
      refine lv_icmp_gt (tgt := 62) hx hb dX7_fewestFrom_16 (by decide) (fun c_6 => ?_) (fun c_6 => ?_)
      · skip
        have c_6 : z_5.toInt < x_2.toInt := i_lt.mp c_6
        refine lv_iload hx hb dX7_fewestFrom_62 (lv_at hl 1 rfl) ?_
        rw [hQ9]
        exact rr_i hx hb hr hlocks trivial hS dX7_fewestFrom_64
      · skip
        have c_6 : ¬ (z_5.toInt < x_2.toInt) := fun h9 => c_6 (i_lt.mpr h9)
        refine lv_iload hx hb dX7_fewestFrom_19 (lv_at hl 0 rfl) ?_
        refine lv_iload_n hx hb dX7_fewestFrom_21 rfl (lv_at hl 5 rfl) ?_
        refine lv_imul hx hb dX7_fewestFrom_22 ?_
        refine lv_topi (fun z_7 ez_7 => ?_)
        have bz_7 : 0 ≤ z_7.toInt ∧ z_7.toInt ≤ 360 ∧ z_7.toInt = x_2.toInt * vwe.toInt := i_mulb (A := 9) (B := 40) ez_7 ⟨by omega, by omega⟩ ⟨by omega, by omega⟩ (by decide)
        refine lv_iload_n hx hb dX7_fewestFrom_23 rfl (lv_at hl 4 rfl) ?_
        refine lv_icmp_gt (tgt := 62) hx hb dX7_fewestFrom_24 (by decide) (fun c_8 => ?_) (fun c_8 => ?_)
        · skip
          have c_8 : vx.toInt < z_7.toInt := i_lt.mp c_8
          refine lv_iload hx hb dX7_fewestFrom_62 (lv_at hl 1 rfl) ?_
          rw [hQ9]
          exact rr_i hx hb hr hlocks trivial hS dX7_fewestFrom_64
        · skip
          have c_8 : ¬ (vx.toInt < z_7.toInt) := fun h9 => c_8 (i_lt.mpr h9)
          refine lv_iload hx hb dX7_fewestFrom_27 (lv_at hl 1 rfl) ?_
          refine lv_aload_n hx hb dX7_fewestFrom_29 rfl (lv_at hl 2 rfl) ?_
          refine gf_X7_15 hx hb hts hown hK hP 0 rfl rfl dX7_fewestFrom_30 ?_
          refine lv_iload_n hx hb dX7_fewestFrom_33 rfl (lv_at hl 3 rfl) ?_
          refine lv_iconst (v := 1) hx hb dX7_fewestFrom_34 (by decide) ?_
          refine lv_iadd hx hb dX7_fewestFrom_35 ?_
          refine lv_topi (fun z_9 ez_9 => ?_)
          have k_1 : (1 : Int32).toInt = 1 := by decide
          have bz_9 : z_9.toInt = vd.toInt + (1 : Int32).toInt := i_add ez_9 (by omega) (by omega)
          refine lv_sipush (v := 256) hx hb dX7_fewestFrom_36 (by decide) ?_
          refine lv_imul hx hb dX7_fewestFrom_39 ?_
          refine lv_topi (fun z_10 ez_10 => ?_)
          have k_256 : (256 : Int32).toInt = 256 := by decide
          have bz_10 : z_10.toInt = z_9.toInt * 256 := i_mulc k_256 ez_10 (by omega) (by omega)
          refine lv_iload_n hx hb dX7_fewestFrom_40 rfl (lv_at hl 4 rfl) ?_
          refine lv_iadd hx hb dX7_fewestFrom_41 ?_
          refine lv_topi (fun z_11 ez_11 => ?_)
          have bz_11 : z_11.toInt = z_10.toInt + vx.toInt := i_add ez_11 (by omega) (by omega)
          refine lv_iload hx hb dX7_fewestFrom_42 (lv_at hl 0 rfl) ?_
          refine lv_iload_n hx hb dX7_fewestFrom_44 rfl (lv_at hl 5 rfl) ?_
          refine lv_imul hx hb dX7_fewestFrom_45 ?_
          refine lv_topi (fun z_12 ez_12 => ?_)
          have bz_12 : 0 ≤ z_12.toInt ∧ z_12.toInt ≤ 360 ∧ z_12.toInt = x_2.toInt * vwe.toInt := i_mulb (A := 9) (B := 40) ez_12 ⟨by omega, by omega⟩ ⟨by omega, by omega⟩ (by decide)
          refine lv_isub hx hb dX7_fewestFrom_46 ?_
          refine lv_topi (fun z_13 ez_13 => ?_)
          have bz_13 : z_13.toInt = z_11.toInt - z_12.toInt := i_sub ez_13 (by omega) (by omega)
          have hin_14 : vp_in z_13 2816 := vp_in_iff.mpr ⟨by omega, by omega⟩
          refine va_iald hx hb hK hP 2 0 rfl rfl hin_14 dX7_fewestFrom_47 ?_
          refine lv_topi (fun z_15 ez_15 => ?_)
          refine lv_iload hx hb dX7_fewestFrom_48 (lv_at hl 0 rfl) ?_
          refine lv_iadd hx hb dX7_fewestFrom_50 ?_
          refine lv_topi (fun z_16 ez_16 => ?_)
          refine va_mmin hx hb (by rw [hml, hl.1]) hown (hts _ t920) (hts _ t783) (hts _ t24) (hts _ t784) (Nat.le_of_ble_eq_true rfl) (Nat.le_of_ble_eq_true rfl) (Nat.zero_le _) (Nat.zero_le _) dX7_fewestFrom_51 ?_
          refine lv_topi (fun z_17 ez_17 => ?_)
          have bz_17 : z_17.toInt ≤ x_3.toInt ∧ z_17.toInt ≤ z_16.toInt ∧ (z_17.toInt = x_3.toInt ∨ z_17.toInt = z_16.toInt) := i_min ez_17
          refine lv_istore (lv' := [(4, .int z_17), (5, .int x_2), (0, .ref vs), (1, .int vd), (2, .int vx), (3, .int vwe)]) hx hb dX7_fewestFrom_54 hl (by decide) rfl (fun ls hl => ?_)
          obtain ⟨z_18, ez_18⟩ : ∃ z : Int32, z = x_2 + 1 := ⟨_, rfl⟩
          have bz_18 : z_18.toInt = x_2.toInt + (1 : Int32).toInt := i_add ez_18 (by omega) (by omega)
          refine lv_iinc (v := z_18) (lv' := [(5, .int z_18), (4, .int z_17), (0, .ref vs), (1, .int vd), (2, .int vx), (3, .int vwe)]) hx hb dX7_fewestFrom_56 hl (k := 1) rfl ez_18.symm (by decide) rfl (fun ls hl => ?_)
          refine lv_goto (tgt := 8) hx hb dX7_fewestFrom_59 (by decide) ?_
          exact ih1 z_17 z_18 ⟨by omega, by omega⟩ (by omega) _ _ (hP.sub [0, 1, 2] rfl) hS ls (lv_sub hl [0, 1, 2, 3, 4, 5] rfl)
  have k_1000 : (1000 : Int32).toInt = 1000 := by decide
  have k_0 : (0 : Int32).toInt = 0 := by decide
  exact loop1 ((10 - (0 : Int32).toInt).toNat + 1) 1000 0 ⟨by omega, by omega⟩ (by omega) _ _ hP hS ls (lv_sub hl [0, 1, 2, 3, 4, 5] rfl)
abbrev cX7_findFewest : ByteArray := prog_9_method_4_code
def yX7_findFewest : MethodName := ⟨RX7, "findFewest", "(LLikenessPound$Colony;I)V"⟩
theorem t931 : Cond.code yX7_findFewest cX7_findFewest 6 none ∈ GW := gw_mem 1045 (by decide +kernel) (by decide +kernel)
abbrev O_g_findFewest (cy : Nat → ClassId) (vs : Nat) (vs1 : Nat) (vs2 : Nat) (vs3 : Nat) (vsm : Nat → Int32) (vsf : Nat → Int32) (vc : Nat) (vc1 : Nat) (vc2 : Nat) (vc3 : Nat) (vc4 : Nat) (vc5 : Nat) (vcm : Int32) (vcd : Int32) (vcr : Int32) (vcw : Int32) (vcf3 : Nat → Int32) (vsu : Int32) (u : (Nat → Int32)) : va_W := [(vs, .inr (8, [.ref vs1, .ref vs2, .ref vs3])), (vs1, .inl (cy 0, 10, .inl vsm)), (vs2, .inl (cy 0, 2816, .inl u)), (vc, .inr (2, [.ref vc1, .ref vc2, .ref vc3, .ref vc4, .ref vc5, .int vcm, .int vcd, .int vcr, .int vcw])), (vc3, .inl (cy 0, 10, .inl vcf3))]
theorem dX7_findFewest_0 : decode cX7_findFewest 0 = .ok (.iload_n 2, 1) := by decide +kernel
theorem dX7_findFewest_1 : decode cX7_findFewest 1 = .ok (.sipush 255, 3) := by decide +kernel
theorem dX7_findFewest_4 : decode cX7_findFewest 4 = .ok (.invokestatic 35, 3) := by decide +kernel
theorem dX7_findFewest_7 : decode cX7_findFewest 7 = .ok (.istore_n 3, 1) := by decide +kernel
theorem dX7_findFewest_8 : decode cX7_findFewest 8 = .ok (.iconst 0, 1) := by decide +kernel
theorem dX7_findFewest_9 : decode cX7_findFewest 9 = .ok (.istore 4, 2) := by decide +kernel
theorem dX7_findFewest_11 : decode cX7_findFewest 11 = .ok (.iload 4, 2) := by decide +kernel
theorem dX7_findFewest_13 : decode cX7_findFewest 13 = .ok (.iload_n 3, 1) := by decide +kernel
theorem dX7_findFewest_14 : decode cX7_findFewest 14 = .ok (.if_icmp .gt 37, 3) := by decide +kernel
theorem dX7_findFewest_51 : decode cX7_findFewest 51 = .ok (.aload_n 1, 1) := by decide +kernel
theorem dX7_findFewest_52 : decode cX7_findFewest 52 = .ok (.getfield 22, 3) := by decide +kernel
theorem dX7_findFewest_55 : decode cX7_findFewest 55 = .ok (.iconst 1, 1) := by decide +kernel
theorem dX7_findFewest_56 : decode cX7_findFewest 56 = .ok (.isub, 1) := by decide +kernel
theorem dX7_findFewest_57 : decode cX7_findFewest 57 = .ok (.istore 4, 2) := by decide +kernel
theorem dX7_findFewest_59 : decode cX7_findFewest 59 = .ok (.iload 4, 2) := by decide +kernel
theorem dX7_findFewest_61 : decode cX7_findFewest 61 = .ok (.ifCond .lt 53, 3) := by decide +kernel
theorem dX7_findFewest_114 : decode cX7_findFewest 114 = .ok (.return_, 1) := by decide +kernel
theorem dX7_findFewest_64 : decode cX7_findFewest 64 = .ok (.iconst 0, 1) := by decide +kernel
theorem dX7_findFewest_65 : decode cX7_findFewest 65 = .ok (.istore 5, 2) := by decide +kernel
theorem dX7_findFewest_67 : decode cX7_findFewest 67 = .ok (.iload 5, 2) := by decide +kernel
theorem dX7_findFewest_69 : decode cX7_findFewest 69 = .ok (.iload_n 3, 1) := by decide +kernel
theorem dX7_findFewest_70 : decode cX7_findFewest 70 = .ok (.if_icmp .gt 38, 3) := by decide +kernel
theorem dX7_findFewest_108 : decode cX7_findFewest 108 = .ok (.iinc 4 (-1), 3) := by decide +kernel
theorem dX7_findFewest_111 : decode cX7_findFewest 111 = .ok (.goto (-52), 3) := by decide +kernel
theorem dX7_findFewest_73 : decode cX7_findFewest 73 = .ok (.aload_n 0, 1) := by decide +kernel
theorem dX7_findFewest_74 : decode cX7_findFewest 74 = .ok (.getfield 15, 3) := by decide +kernel
theorem dX7_findFewest_77 : decode cX7_findFewest 77 = .ok (.iload 4, 2) := by decide +kernel
theorem dX7_findFewest_79 : decode cX7_findFewest 79 = .ok (.sipush 256, 3) := by decide +kernel
theorem dX7_findFewest_82 : decode cX7_findFewest 82 = .ok (.imul, 1) := by decide +kernel
theorem dX7_findFewest_83 : decode cX7_findFewest 83 = .ok (.iload 5, 2) := by decide +kernel
theorem dX7_findFewest_85 : decode cX7_findFewest 85 = .ok (.iadd, 1) := by decide +kernel
theorem dX7_findFewest_86 : decode cX7_findFewest 86 = .ok (.aload_n 0, 1) := by decide +kernel
theorem dX7_findFewest_87 : decode cX7_findFewest 87 = .ok (.iload 4, 2) := by decide +kernel
theorem dX7_findFewest_89 : decode cX7_findFewest 89 = .ok (.iload 5, 2) := by decide +kernel
theorem dX7_findFewest_91 : decode cX7_findFewest 91 = .ok (.aload_n 1, 1) := by decide +kernel
theorem dX7_findFewest_92 : decode cX7_findFewest 92 = .ok (.getfield 28, 3) := by decide +kernel
theorem dX7_findFewest_95 : decode cX7_findFewest 95 = .ok (.iload 4, 2) := by decide +kernel
theorem dX7_findFewest_97 : decode cX7_findFewest 97 = .ok (.iaload, 1) := by decide +kernel
theorem dX7_findFewest_98 : decode cX7_findFewest 98 = .ok (.invokevirtual 41, 3) := by decide +kernel
theorem t932 : Cond.methodLink RX7 41 yX7_fewestFrom ∈ GW := gw_mem 1046 (by decide +kernel) (by decide +kernel)
theorem t934 : Cond.instanceMethod yX7_fewestFrom ∈ GW := gw_mem 1048 (by decide +kernel) (by decide +kernel)
theorem s18 : Cond.selects RX7 yX7_fewestFrom yX7_fewestFrom ∈ GW := gw_mem 18 (by decide +kernel) (by decide +kernel)
theorem cw_X7_41 {R : Room} {s : State} {args : Array Value} {rm : Room} {mc ms : Nat} (hts : ∀ w ∈ GW, w.before args s = true) (hrc : rm.cells = mc) (hrs : rm.slots = ms) (hR : rm.frames + 1 ≤ R.frames ∧ 8 + (6 + 11) + rm.locals ≤ R.locals) : CallW R s args RX7 RX7 41 yX7_fewestFrom cX7_fewestFrom 6 (some .int) (wl yX7_fewestFrom cX7_fewestFrom 6 (some .int)) rm mc ms 3 := cwV 3 hts (gi_V t932 t934 s18 t12 t935) rfl hrc hrs (by decide +kernel) hR
theorem dX7_findFewest_101 : decode cX7_findFewest 101 = .ok (.iastore, 1) := by decide +kernel
theorem dX7_findFewest_102 : decode cX7_findFewest 102 = .ok (.iinc 5 1, 3) := by decide +kernel
theorem dX7_findFewest_105 : decode cX7_findFewest 105 = .ok (.goto (-38), 3) := by decide +kernel
theorem dX7_findFewest_17 : decode cX7_findFewest 17 = .ok (.aload_n 0, 1) := by decide +kernel
theorem dX7_findFewest_18 : decode cX7_findFewest 18 = .ok (.getfield 15, 3) := by decide +kernel
theorem dX7_findFewest_21 : decode cX7_findFewest 21 = .ok (.aload_n 1, 1) := by decide +kernel
theorem dX7_findFewest_22 : decode cX7_findFewest 22 = .ok (.getfield 22, 3) := by decide +kernel
theorem dX7_findFewest_25 : decode cX7_findFewest 25 = .ok (.sipush 256, 3) := by decide +kernel
theorem dX7_findFewest_28 : decode cX7_findFewest 28 = .ok (.imul, 1) := by decide +kernel
theorem dX7_findFewest_29 : decode cX7_findFewest 29 = .ok (.iload 4, 2) := by decide +kernel
theorem dX7_findFewest_31 : decode cX7_findFewest 31 = .ok (.iadd, 1) := by decide +kernel
theorem dX7_findFewest_32 : decode cX7_findFewest 32 = .ok (.iload 4, 2) := by decide +kernel
theorem dX7_findFewest_34 : decode cX7_findFewest 34 = .ok (.ifCond .ne 7, 3) := by decide +kernel
theorem dX7_findFewest_41 : decode cX7_findFewest 41 = .ok (.sipush 1000, 3) := by decide +kernel
theorem dX7_findFewest_44 : decode cX7_findFewest 44 = .ok (.iastore, 1) := by decide +kernel
theorem dX7_findFewest_45 : decode cX7_findFewest 45 = .ok (.iinc 4 1, 3) := by decide +kernel
theorem dX7_findFewest_48 : decode cX7_findFewest 48 = .ok (.goto (-37), 3) := by decide +kernel
theorem dX7_findFewest_37 : decode cX7_findFewest 37 = .ok (.iconst 0, 1) := by decide +kernel
theorem dX7_findFewest_38 : decode cX7_findFewest 38 = .ok (.goto 6, 3) := by decide +kernel
set_option maxHeartbeats 4000000 in
set_option maxRecDepth 100000 in
theorem g_findFewest (l : Launch) (dC : Nat → ClassId) (dI : Nat → Nat → Nat) (cy : Nat → ClassId) (sz : Nat) (vs : Nat) (vs1 : Nat) (vs2 : Nat) (vs3 : Nat) (vsm : Nat → Int32) (vsf : Nat → Int32) (vc : Nat) (vc1 : Nat) (vc2 : Nat) (vc3 : Nat) (vc4 : Nat) (vc5 : Nat) (vcm : Int32) (vcd : Int32) (vcr : Int32) (vcw : Int32) (vcf3 : Nat → Int32) (vsu : Int32) (r_vcm : 0 ≤ (vcm : Int32).toInt ∧ (vcm : Int32).toInt ≤ 7) (r_vcd : 0 ≤ (vcd : Int32).toInt ∧ (vcd : Int32).toInt ≤ 10) (p_vsm : Rg vsm 10 0 9) (p_vcf3 : Rg vcf3 10 0 40) : Met l yX7_findFewest (wl yX7_findFewest cX7_findFewest 6 none) ({ frames := 2, cells := 0, slots := 0, locals := 128 }) (Pw (dC, dI) vwCl cy [(vs, .inr (8, [.ref vs1, .ref vs2, .ref vs3])), (vs1, .inl (cy 0, 10, .inl vsm)), (vs2, .inl (cy 0, 2816, .inl vsf)), (vc, .inr (2, [.ref vc1, .ref vc2, .ref vc3, .ref vc4, .ref vc5, .int vcm, .int vcd, .int vcr, .int vcw])), (vc3, .inl (cy 0, 10, .inl vcf3))] sz [.ref vs, .ref vc, .int vsu] nE) (Qv (dC, dI) vwCl (fun (u : (Nat → Int32)) => True) (O_g_findFewest cy vs vs1 vs2 vs3 vsm vsf vc vc1 vc2 vc3 vc4 vc5 vcm vcd vcr vcw vcf3 vsu) (va_A [(vs, .inr (8, [.ref vs1, .ref vs2, .ref vs3])), (vs1, .inl (cy 0, 10, .inl vsm)), (vs2, .inl (cy 0, 2816, .inl vsf)), (vc, .inr (2, [.ref vc1, .ref vc2, .ref vc3, .ref vc4, .ref vc5, .int vcm, .int vcd, .int vcr, .int vcw])), (vc3, .inl (cy 0, 10, .inl vcf3))] sz)) 0 0 (va_A [(vs, .inr (8, [.ref vs1, .ref vs2, .ref vs3])), (vs1, .inl (cy 0, 10, .inl vsm)), (vs2, .inl (cy 0, 2816, .inl vsf)), (vc, .inr (2, [.ref vc1, .ref vc2, .ref vc3, .ref vc4, .ref vc5, .int vcm, .int vcd, .int vcr, .int vcw])), (vc3, .inl (cy 0, 10, .inl vcf3))] sz) := by
  refine mw (Qc := Qv (dC, dI) vwCl (fun (u : (Nat → Int32)) => True) (O_g_findFewest cy vs vs1 vs2 vs3 vsm vsf vc vc1 vc2 vc3 vc4 vc5 vcm vcd vcr vcw vcf3 vsu)) RX7 rfl (by decide +kernel) (Nat.le_of_ble_eq_true rfl) ?_
  intro p e s m below meth c A hx hb hr hlocks av9 hav hts hown hnm hml hK hP hD hA hS hE hAe Q9 hQ9 ls hl
  have hl : lv_has ls 6 [(0, .ref vs), (1, .ref vc), (2, .int vsu)] := hl
  refine lv_iload_n hx hb dX7_findFewest_0 rfl (lv_at hl 2 rfl) ?_
  refine lv_sipush (v := 255) hx hb dX7_findFewest_1 (by decide) ?_
  refine va_mmin hx hb (by rw [hml, hl.1]) hown (hts _ t920) (hts _ t783) (hts _ t24) (hts _ t784) (Nat.le_of_ble_eq_true rfl) (Nat.le_of_ble_eq_true rfl) (Nat.zero_le _) (Nat.zero_le _) dX7_findFewest_4 ?_
  refine lv_topi (fun z_1 ez_1 => ?_)
  have k_255 : (255 : Int32).toInt = 255 := by decide
  have bz_1 : z_1.toInt ≤ vsu.toInt ∧ z_1.toInt ≤ (255 : Int32).toInt ∧ (z_1.toInt = vsu.toInt ∨ z_1.toInt = (255 : Int32).toInt) := i_min ez_1
  refine lv_istore_n (lv' := [(3, .int z_1), (0, .ref vs), (1, .ref vc), (2, .int vsu)]) hx hb dX7_findFewest_7 rfl hl (by decide) rfl (fun ls hl => ?_)
  refine lv_iconst (v := 0) hx hb dX7_findFewest_8 (by decide) ?_
  refine lv_istore (lv' := [(4, .int 0), (3, .int z_1), (0, .ref vs), (1, .ref vc), (2, .int vsu)]) hx hb dX7_findFewest_9 hl (by decide) rfl (fun ls hl => ?_)
  have loop2 : ∀ (n2 : Nat) (x_3 : Int32) (g_4 : Nat → Int32), (0 ≤ x_3.toInt ∧ x_3.toInt ≤ 256) → 256 - x_3.toInt < (n2 : Int) → ∀ (H : Heap) (locs : List Loc), va_P (dC, dI) vwCl [(vs, .inr (8, [.ref vs1, .ref vs2, .ref vs3])), (vs1, .inl (cy 0, 10, .inl vsm)), (vs2, .inl (cy 0, 2816, .inl g_4)), (vc, .inr (2, [.ref vc1, .ref vc2, .ref vc3, .ref vc4, .ref vc5, .int vcm, .int vcd, .int vcr, .int vcw])), (vc3, .inl (cy 0, 10, .inl vcf3))] H → va_D A [(vs, .inr (8, [.ref vs1, .ref vs2, .ref vs3])), (vs1, .inl (cy 0, 10, .inl vsm)), (vs2, .inl (cy 0, 2816, .inl g_4)), (vc, .inr (2, [.ref vc1, .ref vc2, .ref vc3, .ref vc4, .ref vc5, .int vcm, .int vcd, .int vcr, .int vcw])), (vc3, .inl (cy 0, 10, .inl vcf3))] → va_S A s.heap H locs → ∀ ls : Array Slot, lv_has ls 6 [(4, .int x_3), (3, .int z_1), (0, .ref vs), (1, .ref vc), (2, .int vsu)] → W p l e ({ frames := 2, cells := 0, slots := 0, locals := 128 }) s m av9 below meth c H locs 0 0 Q9 (F0 m 11 ls []) := by
    intro n2
    induction n2 with
    | zero =>
      intro x_3 g_4 bx_3 hn2 H locs hP hD hS ls hl
      exfalso; omega
    | succ n2 ih2 =>
      intro x_3 g_4 bx_3 hn2 H locs hP hD hS ls hl
      refine lv_iload hx hb dX7_findFewest_11 (lv_at hl 0 rfl) ?_
      refine lv_iload_n hx hb dX7_findFewest_13 rfl (lv_at hl 1 rfl) ?_
      refine lv_icmp_gt (tgt := 51) hx hb dX7_findFewest_14 (by decide) (fun c_5 => ?_) (fun c_5 => ?_)
      · skip
        have c_5 : z_1.toInt < x_3.toInt := i_lt.mp c_5
        refine lv_aload_n hx hb dX7_findFewest_51 rfl (lv_at hl 3 rfl) ?_
        refine gf_X7_22 hx hb hts hown hK hP 3 rfl rfl dX7_findFewest_52 ?_
        refine lv_iconst (v := 1) hx hb dX7_findFewest_55 (by decide) ?_
        refine lv_isub hx hb dX7_findFewest_56 ?_
        refine lv_topi (fun z_6 ez_6 => ?_)
        have k_1 : (1 : Int32).toInt = 1 := by decide
        have bz_6 : z_6.toInt = vcd.toInt - (1 : Int32).toInt := i_sub ez_6 (by omega) (by omega)
        refine lv_istore (lv' := [(4, .int z_6), (3, .int z_1), (0, .ref vs), (1, .ref vc), (2, .int vsu)]) hx hb dX7_findFewest_57 hl (by decide) rfl (fun ls hl => ?_)
        have loop7 : ∀ (n7 : Nat) (x_8 : Int32) (g_9 : Nat → Int32), (-1 ≤ x_8.toInt ∧ x_8.toInt ≤ 9) → x_8.toInt + 1 < (n7 : Int) → ∀ (H : Heap) (locs : List Loc), va_P (dC, dI) vwCl [(vs, .inr (8, [.ref vs1, .ref vs2, .ref vs3])), (vs1, .inl (cy 0, 10, .inl vsm)), (vs2, .inl (cy 0, 2816, .inl g_9)), (vc, .inr (2, [.ref vc1, .ref vc2, .ref vc3, .ref vc4, .ref vc5, .int vcm, .int vcd, .int vcr, .int vcw])), (vc3, .inl (cy 0, 10, .inl vcf3))] H → va_D A [(vs, .inr (8, [.ref vs1, .ref vs2, .ref vs3])), (vs1, .inl (cy 0, 10, .inl vsm)), (vs2, .inl (cy 0, 2816, .inl g_9)), (vc, .inr (2, [.ref vc1, .ref vc2, .ref vc3, .ref vc4, .ref vc5, .int vcm, .int vcd, .int vcr, .int vcw])), (vc3, .inl (cy 0, 10, .inl vcf3))] → va_S A s.heap H locs → ∀ ls : Array Slot, lv_has ls 6 [(4, .int x_8), (3, .int z_1), (0, .ref vs), (1, .ref vc), (2, .int vsu)] → W p l e ({ frames := 2, cells := 0, slots := 0, locals := 128 }) s m av9 below meth c H locs 0 0 Q9 (F0 m 59 ls []) := by
          intro n7
          induction n7 with
          | zero =>
            intro x_8 g_9 bx_8 hn7 H locs hP hD hS ls hl
            exfalso; omega
          | succ n7 ih7 =>
            intro x_8 g_9 bx_8 hn7 H locs hP hD hS ls hl
            refine lv_iload hx hb dX7_findFewest_59 (lv_at hl 0 rfl) ?_
            have k_0 : (0 : Int32).toInt = 0 := by decide
            refine lv_if_lt (tgt := 114) hx hb dX7_findFewest_61 (by decide) (fun c_10 => ?_) (fun c_10 => ?_)
            · skip
              have c_10 : x_8.toInt < (0 : Int32).toInt := i_lt.mp c_10
              rw [hQ9]
              exact re_v g_9 hx hb hr hlocks trivial (hP.sub [0, 1, 2, 3, 4] rfl) (hD.sub [0, 1, 2, 3, 4] rfl rfl) hS dX7_findFewest_114
            · skip
              have c_10 : ¬ (x_8.toInt < (0 : Int32).toInt) := fun h9 => c_10 (i_lt.mpr h9)
              refine lv_iconst (v := 0) hx hb dX7_findFewest_64 (by decide) ?_
              refine lv_istore (lv' := [(5, .int 0), (4, .int x_8), (3, .int z_1), (0, .ref vs), (1, .ref vc), (2, .int vsu)]) hx hb dX7_findFewest_65 hl (by decide) rfl (fun ls hl => ?_)
              have loop11 : ∀ (n11 : Nat) (x_12 : Int32) (g_13 : Nat → Int32), (0 ≤ x_12.toInt ∧ x_12.toInt ≤ 256) → 256 - x_12.toInt < (n11 : Int) → ∀ (H : Heap) (locs : List Loc), va_P (dC, dI) vwCl [(vs, .inr (8, [.ref vs1, .ref vs2, .ref vs3])), (vs1, .inl (cy 0, 10, .inl vsm)), (vs2, .inl (cy 0, 2816, .inl g_13)), (vc, .inr (2, [.ref vc1, .ref vc2, .ref vc3, .ref vc4, .ref vc5, .int vcm, .int vcd, .int vcr, .int vcw])), (vc3, .inl (cy 0, 10, .inl vcf3))] H → va_D A [(vs, .inr (8, [.ref vs1, .ref vs2, .ref vs3])), (vs1, .inl (cy 0, 10, .inl vsm)), (vs2, .inl (cy 0, 2816, .inl g_13)), (vc, .inr (2, [.ref vc1, .ref vc2, .ref vc3, .ref vc4, .ref vc5, .int vcm, .int vcd, .int vcr, .int vcw])), (vc3, .inl (cy 0, 10, .inl vcf3))] → va_S A s.heap H locs → ∀ ls : Array Slot, lv_has ls 6 [(5, .int x_12), (4, .int x_8), (3, .int z_1), (0, .ref vs), (1, .ref vc), (2, .int vsu)] → W p l e ({ frames := 2, cells := 0, slots := 0, locals := 128 }) s m av9 below meth c H locs 0 0 Q9 (F0 m 67 ls []) := by
                intro n11
                induction n11 with
                | zero =>
                  intro x_12 g_13 bx_12 hn11 H locs hP hD hS ls hl
                  exfalso; omega
                | succ n11 ih11 =>
                  intro x_12 g_13 bx_12 hn11 H locs hP hD hS ls hl
                  refine lv_iload hx hb dX7_findFewest_67 (lv_at hl 0 rfl) ?_
                  refine lv_iload_n hx hb dX7_findFewest_69 rfl (lv_at hl 2 rfl) ?_
                  refine lv_icmp_gt (tgt := 108) hx hb dX7_findFewest_70 (by decide) (fun c_14 => ?_) (fun c_14 => ?_)
                  · skip
                    have c_14 : z_1.toInt < x_12.toInt := i_lt.mp c_14
                    obtain ⟨z_15, ez_15⟩ : ∃ z : Int32, z = x_8 + (-1) := ⟨_, rfl⟩
                    have k_m1 : ((-1) : Int32).toInt = (-1) := by decide
                    have bz_15 : z_15.toInt = x_8.toInt + ((-1) : Int32).toInt := i_add ez_15 (by omega) (by omega)
                    refine lv_iinc (v := z_15) (lv' := [(4, .int z_15), (5, .int x_12), (3, .int z_1), (0, .ref vs), (1, .ref vc), (2, .int vsu)]) hx hb dX7_findFewest_108 hl (k := 1) rfl ez_15.symm (by decide) rfl (fun ls hl => ?_)
                    refine lv_goto (tgt := 59) hx hb dX7_findFewest_111 (by decide) ?_
                    exact ih7 z_15 g_13 ⟨by omega, by omega⟩ (by omega) _ _ (hP.sub [0, 1, 2, 3, 4] rfl) (hD.sub [0, 1, 2, 3, 4] rfl rfl) hS ls (lv_sub hl [0, 2, 3, 4, 5] rfl)
                  · skip
                    have c_14 : ¬ (z_1.toInt < x_12.toInt) := fun h9 => c_14 (i_lt.mpr h9)
                    refine lv_aload_n hx hb dX7_findFewest_73 rfl (lv_at hl 3 rfl) ?_
                    refine gf_X7_15 hx hb hts hown hK hP 0 rfl rfl dX7_findFewest_74 ?_
                    refine lv_iload hx hb dX7_findFewest_77 (lv_at hl 1 rfl) ?_
                    refine lv_sipush (v := 256) hx hb dX7_findFewest_79 (by decide) ?_
                    refine lv_imul hx hb dX7_findFewest_82 ?_
                    refine lv_topi (fun z_16 ez_16 => ?_)
                    have k_256 : (256 : Int32).toInt = 256 := by decide
                    have bz_16 : z_16.toInt = x_8.toInt * 256 := i_mulc k_256 ez_16 (by omega) (by omega)
                    refine lv_iload hx hb dX7_findFewest_83 (lv_at hl 0 rfl) ?_
                    refine lv_iadd hx hb dX7_findFewest_85 ?_
                    refine lv_topi (fun z_17 ez_17 => ?_)
                    have bz_17 : z_17.toInt = z_16.toInt + x_12.toInt := i_add ez_17 (by omega) (by omega)
                    refine lv_aload_n hx hb dX7_findFewest_86 rfl (lv_at hl 3 rfl) ?_
                    refine lv_iload hx hb dX7_findFewest_87 (lv_at hl 1 rfl) ?_
                    refine lv_iload hx hb dX7_findFewest_89 (lv_at hl 0 rfl) ?_
                    refine lv_aload_n hx hb dX7_findFewest_91 rfl (lv_at hl 4 rfl) ?_
                    refine gf_X7_28 hx hb hts hown hK hP 3 rfl rfl dX7_findFewest_92 ?_
                    refine lv_iload hx hb dX7_findFewest_95 (lv_at hl 1 rfl) ?_
                    have hin_18 : vp_in x_8 10 := vp_in_iff.mpr ⟨by omega, by omega⟩
                    refine va_iald hx hb hK hP 4 0 rfl rfl hin_18 dX7_findFewest_97 ?_
                    refine lv_topi (fun z_19 ez_19 => ?_)
                    have bz_19 := p_vcf3.at hin_18 ez_19
                    refine jr_i (rVr (As := [.int x_8, .int x_12, .int z_19]) (rest := [.int z_17, .ref vs2]) (ci := 8) ⟨hx, hb, hml, hown, hts⟩ (g_fewestFrom l dC dI cy vs vs1 vs2 vs3 vsm g_13 x_8 x_12 z_19 ⟨by omega, by omega⟩ ⟨by omega, by omega⟩ ⟨by omega, by omega⟩ p_vsm) (cw_X7_41 hts rfl rfl ⟨Nat.le_of_ble_eq_true rfl, Nat.le_of_ble_eq_true rfl⟩) hP hK [0, 1, 2] rfl rfl rfl rfl hl.1 rfl (Nat.le_of_ble_eq_true rfl) dX7_findFewest_98 ⟨Nat.le_of_ble_eq_true rfl, Nat.le_of_ble_eq_true rfl⟩) hP hS (fun r_20 H locs hp_21 hP hS => ?_)
                    have hin_22 : vp_in z_17 2816 := vp_in_iff.mpr ⟨by omega, by omega⟩
                    refine va_iast hx hb hK hP hD hS 2 0 rfl rfl hin_22 dX7_findFewest_101 (fun H locs hP hD hS => ?_)
                    obtain ⟨f_23, ef_23⟩ : ∃ z : Nat → Int32, z = upd g_13 (Int32.toNatClampNeg z_17) r_20 := ⟨_, rfl⟩
                    have hP : va_P (dC, dI) vwCl [(vs, .inr (8, [.ref vs1, .ref vs2, .ref vs3])), (vs1, .inl (cy 0, 10, .inl vsm)), (vs2, .inl (cy 0, 2816, .inl f_23)), (vc, .inr (2, [.ref vc1, .ref vc2, .ref vc3, .ref vc4, .ref vc5, .int vcm, .int vcd, .int vcr, .int vcw])), (vc3, .inl (cy 0, 10, .inl vcf3))] H := by rw [ef_23]; exact hP
                    have hD : va_D A [(vs, .inr (8, [.ref vs1, .ref vs2, .ref vs3])), (vs1, .inl (cy 0, 10, .inl vsm)), (vs2, .inl (cy 0, 2816, .inl f_23)), (vc, .inr (2, [.ref vc1, .ref vc2, .ref vc3, .ref vc4, .ref vc5, .int vcm, .int vcd, .int vcr, .int vcw])), (vc3, .inl (cy 0, 10, .inl vcf3))] := by rw [ef_23]; exact hD
                    obtain ⟨z_24, ez_24⟩ : ∃ z : Int32, z = x_12 + 1 := ⟨_, rfl⟩
                    have bz_24 : z_24.toInt = x_12.toInt + (1 : Int32).toInt := i_add ez_24 (by omega) (by omega)
                    refine lv_iinc (v := z_24) (lv' := [(5, .int z_24), (4, .int x_8), (3, .int z_1), (0, .ref vs), (1, .ref vc), (2, .int vsu)]) hx hb dX7_findFewest_102 hl (k := 0) rfl ez_24.symm (by decide) rfl (fun ls hl => ?_)
                    refine lv_goto (tgt := 67) hx hb dX7_findFewest_105 (by decide) ?_
                    exact ih11 z_24 f_23 ⟨by omega, by omega⟩ (by omega) _ _ (hP.sub [0, 1, 2, 3, 4] rfl) (hD.sub [0, 1, 2, 3, 4] rfl rfl) hS ls (lv_sub hl [0, 1, 2, 3, 4, 5] rfl)
              exact loop11 ((256 - (0 : Int32).toInt).toNat + 1) 0 g_9 ⟨by omega, by omega⟩ (by omega) _ _ hP hD hS ls (lv_sub hl [0, 1, 2, 3, 4, 5] rfl)
        exact loop7 ((z_6.toInt + 1).toNat + 1) z_6 g_4 ⟨by omega, by omega⟩ (by omega) _ _ hP hD hS ls (lv_sub hl [0, 1, 2, 3, 4] rfl)
      · skip
        have c_5 : ¬ (z_1.toInt < x_3.toInt) := fun h9 => c_5 (i_lt.mpr h9)
        refine lv_aload_n hx hb dX7_findFewest_17 rfl (lv_at hl 2 rfl) ?_
        refine gf_X7_15 hx hb hts hown hK hP 0 rfl rfl dX7_findFewest_18 ?_
        refine lv_aload_n hx hb dX7_findFewest_21 rfl (lv_at hl 3 rfl) ?_
        refine gf_X7_22 hx hb hts hown hK hP 3 rfl rfl dX7_findFewest_22 ?_
        refine lv_sipush (v := 256) hx hb dX7_findFewest_25 (by decide) ?_
        refine lv_imul hx hb dX7_findFewest_28 ?_
        refine lv_topi (fun z_25 ez_25 => ?_)
        have k_256 : (256 : Int32).toInt = 256 := by decide
        have bz_25 : z_25.toInt = vcd.toInt * 256 := i_mulc k_256 ez_25 (by omega) (by omega)
        refine lv_iload hx hb dX7_findFewest_29 (lv_at hl 0 rfl) ?_
        refine lv_iadd hx hb dX7_findFewest_31 ?_
        refine lv_topi (fun z_26 ez_26 => ?_)
        have bz_26 : z_26.toInt = z_25.toInt + x_3.toInt := i_add ez_26 (by omega) (by omega)
        refine lv_iload hx hb dX7_findFewest_32 (lv_at hl 0 rfl) ?_
        have k_0 : (0 : Int32).toInt = 0 := by decide
        refine lv_if_ne (tgt := 41) hx hb dX7_findFewest_34 (by decide) (fun c_27 => ?_) (fun c_27 => ?_)
        · skip
          have c_27 : ¬ (x_3.toInt = (0 : Int32).toInt) := fun h9 => c_27 (i_eq.mpr h9)
          refine lv_sipush (v := 1000) hx hb dX7_findFewest_41 (by decide) ?_
          have hin_28 : vp_in z_26 2816 := vp_in_iff.mpr ⟨by omega, by omega⟩
          refine va_iast hx hb hK hP hD hS 2 0 rfl rfl hin_28 dX7_findFewest_44 (fun H locs hP hD hS => ?_)
          obtain ⟨f_29, ef_29⟩ : ∃ z : Nat → Int32, z = upd g_4 (Int32.toNatClampNeg z_26) 1000 := ⟨_, rfl⟩
          have hP : va_P (dC, dI) vwCl [(vs, .inr (8, [.ref vs1, .ref vs2, .ref vs3])), (vs1, .inl (cy 0, 10, .inl vsm)), (vs2, .inl (cy 0, 2816, .inl f_29)), (vc, .inr (2, [.ref vc1, .ref vc2, .ref vc3, .ref vc4, .ref vc5, .int vcm, .int vcd, .int vcr, .int vcw])), (vc3, .inl (cy 0, 10, .inl vcf3))] H := by rw [ef_29]; exact hP
          have hD : va_D A [(vs, .inr (8, [.ref vs1, .ref vs2, .ref vs3])), (vs1, .inl (cy 0, 10, .inl vsm)), (vs2, .inl (cy 0, 2816, .inl f_29)), (vc, .inr (2, [.ref vc1, .ref vc2, .ref vc3, .ref vc4, .ref vc5, .int vcm, .int vcd, .int vcr, .int vcw])), (vc3, .inl (cy 0, 10, .inl vcf3))] := by rw [ef_29]; exact hD
          obtain ⟨z_30, ez_30⟩ : ∃ z : Int32, z = x_3 + 1 := ⟨_, rfl⟩
          have k_1 : (1 : Int32).toInt = 1 := by decide
          have bz_30 : z_30.toInt = x_3.toInt + (1 : Int32).toInt := i_add ez_30 (by omega) (by omega)
          refine lv_iinc (v := z_30) (lv' := [(4, .int z_30), (3, .int z_1), (0, .ref vs), (1, .ref vc), (2, .int vsu)]) hx hb dX7_findFewest_45 hl (k := 0) rfl ez_30.symm (by decide) rfl (fun ls hl => ?_)
          refine lv_goto (tgt := 11) hx hb dX7_findFewest_48 (by decide) ?_
          exact ih2 z_30 f_29 ⟨by omega, by omega⟩ (by omega) _ _ (hP.sub [0, 1, 2, 3, 4] rfl) (hD.sub [0, 1, 2, 3, 4] rfl rfl) hS ls (lv_sub hl [0, 1, 2, 3, 4] rfl)
        · skip
          have c_27 : x_3.toInt = (0 : Int32).toInt := i_eq.mp c_27
          refine lv_iconst (v := 0) hx hb dX7_findFewest_37 (by decide) ?_
          refine lv_goto (tgt := 44) hx hb dX7_findFewest_38 (by decide) ?_
          have hin_31 : vp_in z_26 2816 := vp_in_iff.mpr ⟨by omega, by omega⟩
          refine va_iast hx hb hK hP hD hS 2 0 rfl rfl hin_31 dX7_findFewest_44 (fun H locs hP hD hS => ?_)
          obtain ⟨f_32, ef_32⟩ : ∃ z : Nat → Int32, z = upd g_4 (Int32.toNatClampNeg z_26) 0 := ⟨_, rfl⟩
          have hP : va_P (dC, dI) vwCl [(vs, .inr (8, [.ref vs1, .ref vs2, .ref vs3])), (vs1, .inl (cy 0, 10, .inl vsm)), (vs2, .inl (cy 0, 2816, .inl f_32)), (vc, .inr (2, [.ref vc1, .ref vc2, .ref vc3, .ref vc4, .ref vc5, .int vcm, .int vcd, .int vcr, .int vcw])), (vc3, .inl (cy 0, 10, .inl vcf3))] H := by rw [ef_32]; exact hP
          have hD : va_D A [(vs, .inr (8, [.ref vs1, .ref vs2, .ref vs3])), (vs1, .inl (cy 0, 10, .inl vsm)), (vs2, .inl (cy 0, 2816, .inl f_32)), (vc, .inr (2, [.ref vc1, .ref vc2, .ref vc3, .ref vc4, .ref vc5, .int vcm, .int vcd, .int vcr, .int vcw])), (vc3, .inl (cy 0, 10, .inl vcf3))] := by rw [ef_32]; exact hD
          obtain ⟨z_33, ez_33⟩ : ∃ z : Int32, z = x_3 + 1 := ⟨_, rfl⟩
          have k_1 : (1 : Int32).toInt = 1 := by decide
          have bz_33 : z_33.toInt = x_3.toInt + (1 : Int32).toInt := i_add ez_33 (by omega) (by omega)
          refine lv_iinc (v := z_33) (lv' := [(4, .int z_33), (3, .int z_1), (0, .ref vs), (1, .ref vc), (2, .int vsu)]) hx hb dX7_findFewest_45 hl (k := 0) rfl ez_33.symm (by decide) rfl (fun ls hl => ?_)
          refine lv_goto (tgt := 11) hx hb dX7_findFewest_48 (by decide) ?_
          exact ih2 z_33 f_32 ⟨by omega, by omega⟩ (by omega) _ _ (hP.sub [0, 1, 2, 3, 4] rfl) (hD.sub [0, 1, 2, 3, 4] rfl rfl) hS ls (lv_sub hl [0, 1, 2, 3, 4] rfl)
  have k_0 : (0 : Int32).toInt = 0 := by decide
  exact loop2 ((256 - (0 : Int32).toInt).toNat + 1) 0 vsf ⟨by omega, by omega⟩ (by omega) _ _ hP hD hS ls (lv_sub hl [0, 1, 2, 3, 4] rfl)
abbrev cX7_highestWithin : ByteArray := prog_9_method_6_code
def yX7_highestWithin : MethodName := ⟨RX7, "highestWithin", "(II)I"⟩
theorem t956 : Cond.code yX7_highestWithin cX7_highestWithin 4 (some .int) ∈ GW := gw_mem 1070 (by decide +kernel) (by decide +kernel)
theorem dX7_highestWithin_0 : decode cX7_highestWithin 0 = .ok (.iload_n 1, 1) := by decide +kernel
theorem dX7_highestWithin_1 : decode cX7_highestWithin 1 = .ok (.sipush 255, 3) := by decide +kernel
theorem dX7_highestWithin_4 : decode cX7_highestWithin 4 = .ok (.invokestatic 35, 3) := by decide +kernel
theorem dX7_highestWithin_7 : decode cX7_highestWithin 7 = .ok (.istore_n 3, 1) := by decide +kernel
theorem dX7_highestWithin_8 : decode cX7_highestWithin 8 = .ok (.iload_n 3, 1) := by decide +kernel
theorem dX7_highestWithin_9 : decode cX7_highestWithin 9 = .ok (.ifCond .le 21, 3) := by decide +kernel
theorem dX7_highestWithin_30 : decode cX7_highestWithin 30 = .ok (.iconst 0, 1) := by decide +kernel
theorem dX7_highestWithin_31 : decode cX7_highestWithin 31 = .ok (.ireturn, 1) := by decide +kernel
theorem dX7_highestWithin_12 : decode cX7_highestWithin 12 = .ok (.aload_n 0, 1) := by decide +kernel
theorem dX7_highestWithin_13 : decode cX7_highestWithin 13 = .ok (.getfield 15, 3) := by decide +kernel
theorem dX7_highestWithin_16 : decode cX7_highestWithin 16 = .ok (.iload_n 3, 1) := by decide +kernel
theorem dX7_highestWithin_17 : decode cX7_highestWithin 17 = .ok (.iaload, 1) := by decide +kernel
theorem dX7_highestWithin_18 : decode cX7_highestWithin 18 = .ok (.iload_n 2, 1) := by decide +kernel
theorem dX7_highestWithin_19 : decode cX7_highestWithin 19 = .ok (.if_icmp .gt 5, 3) := by decide +kernel
theorem dX7_highestWithin_24 : decode cX7_highestWithin 24 = .ok (.iinc 3 (-1), 3) := by decide +kernel
theorem dX7_highestWithin_27 : decode cX7_highestWithin 27 = .ok (.goto (-19), 3) := by decide +kernel
theorem dX7_highestWithin_22 : decode cX7_highestWithin 22 = .ok (.iload_n 3, 1) := by decide +kernel
theorem dX7_highestWithin_23 : decode cX7_highestWithin 23 = .ok (.ireturn, 1) := by decide +kernel
set_option maxHeartbeats 4000000 in
set_option maxRecDepth 100000 in
theorem g_highestWithin (l : Launch) (dC : Nat → ClassId) (dI : Nat → Nat → Nat) (cy : Nat → ClassId) (vs : Nat) (vs1 : Nat) (vs2 : Nat) (vs3 : Nat) (vsf : Nat → Int32) (vsu : Int32) (vti : Int32)  : Met l yX7_highestWithin (wl yX7_highestWithin cX7_highestWithin 4 (some .int)) ({ frames := 1, cells := 0, slots := 0, locals := 64 }) (Pr (dC, dI) vwCl cy [(vs, .inr (8, [.ref vs1, .ref vs2, .ref vs3])), (vs2, .inl (cy 0, 2816, .inl vsf))] [.ref vs, .int vsu, .int vti]) (Ri (fun r => (0 ≤ (r : Int32).toInt ∧ (r : Int32).toInt ≤ 255))) 0 0 (fun _ => False) := by
  refine mr RX7 rfl (by decide +kernel) (Nat.le_of_ble_eq_true rfl) ?_
  intro p e s m below meth c hx hb hr hlocks av9 hav hts hown hml hK hP hS Q9 hQ9 ls hl
  have hl : lv_has ls 4 [(0, .ref vs), (1, .int vsu), (2, .int vti)] := hl
  refine lv_iload_n hx hb dX7_highestWithin_0 rfl (lv_at hl 1 rfl) ?_
  refine lv_sipush (v := 255) hx hb dX7_highestWithin_1 (by decide) ?_
  refine va_mmin hx hb (by rw [hml, hl.1]) hown (hts _ t920) (hts _ t783) (hts _ t24) (hts _ t784) (Nat.le_of_ble_eq_true rfl) (Nat.le_of_ble_eq_true rfl) (Nat.zero_le _) (Nat.zero_le _) dX7_highestWithin_4 ?_
  refine lv_topi (fun z_1 ez_1 => ?_)
  have k_255 : (255 : Int32).toInt = 255 := by decide
  have bz_1 : z_1.toInt ≤ vsu.toInt ∧ z_1.toInt ≤ (255 : Int32).toInt ∧ (z_1.toInt = vsu.toInt ∨ z_1.toInt = (255 : Int32).toInt) := i_min ez_1
  refine lv_istore_n (lv' := [(3, .int z_1), (0, .ref vs), (1, .int vsu), (2, .int vti)]) hx hb dX7_highestWithin_7 rfl hl (by decide) rfl (fun ls hl => ?_)
  have loop2 : ∀ (n2 : Nat) (x_3 : Int32), (-2147483648 ≤ x_3.toInt ∧ x_3.toInt ≤ 255) → ((x_3.toInt + 1).toNat : Int) < (n2 : Int) → ∀ (H : Heap) (locs : List Loc), va_P (dC, dI) vwCl [(vs, .inr (8, [.ref vs1, .ref vs2, .ref vs3])), (vs2, .inl (cy 0, 2816, .inl vsf))] H → va_S (fun _ => False) s.heap H locs → ∀ ls : Array Slot, lv_has ls 4 [(3, .int x_3), (0, .ref vs), (1, .int vsu), (2, .int vti)] → W p l e ({ frames := 1, cells := 0, slots := 0, locals := 64 }) s m av9 below meth c H locs 0 0 Q9 (F0 m 8 ls []) := by
    intro n2
    induction n2 with
    | zero =>
      intro x_3 bx_3 hn2 H locs hP hS ls hl
      exfalso; omega
    | succ n2 ih2 =>
      intro x_3 bx_3 hn2 H locs hP hS ls hl
      refine lv_iload_n hx hb dX7_highestWithin_8 rfl (lv_at hl 0 rfl) ?_
      have k_0 : (0 : Int32).toInt = 0 := by decide
      refine lv_if_le (tgt := 30) hx hb dX7_highestWithin_9 (by decide) (fun c_4 => ?_) (fun c_4 => ?_)
      · skip
        have c_4 : x_3.toInt ≤ (0 : Int32).toInt := i_le.mp c_4
        refine lv_iconst (v := 0) hx hb dX7_highestWithin_30 (by decide) ?_
        rw [hQ9]
        exact rr_i hx hb hr hlocks (show 0 ≤ ((0 : Int32) : Int32).toInt ∧ ((0 : Int32) : Int32).toInt ≤ 255 from ⟨by omega, by omega⟩) hS dX7_highestWithin_31
      · skip
        have c_4 : ¬ (x_3.toInt ≤ (0 : Int32).toInt) := fun h9 => c_4 (i_le.mpr h9)
        refine lv_aload_n hx hb dX7_highestWithin_12 rfl (lv_at hl 1 rfl) ?_
        refine gf_X7_15 hx hb hts hown hK hP 0 rfl rfl dX7_highestWithin_13 ?_
        refine lv_iload_n hx hb dX7_highestWithin_16 rfl (lv_at hl 0 rfl) ?_
        have hin_5 : vp_in x_3 2816 := vp_in_iff.mpr ⟨by omega, by omega⟩
        refine va_iald hx hb hK hP 1 0 rfl rfl hin_5 dX7_highestWithin_17 ?_
        refine lv_topi (fun z_6 ez_6 => ?_)
        refine lv_iload_n hx hb dX7_highestWithin_18 rfl (lv_at hl 3 rfl) ?_
        refine lv_icmp_gt (tgt := 24) hx hb dX7_highestWithin_19 (by decide) (fun c_7 => ?_) (fun c_7 => ?_)
        · skip
          have c_7 : vti.toInt < z_6.toInt := i_lt.mp c_7
          obtain ⟨z_8, ez_8⟩ : ∃ z : Int32, z = x_3 + (-1) := ⟨_, rfl⟩
          have k_m1 : ((-1) : Int32).toInt = (-1) := by decide
          have bz_8 : z_8.toInt = x_3.toInt + ((-1) : Int32).toInt := i_add ez_8 (by omega) (by omega)
          refine lv_iinc (v := z_8) (lv' := [(3, .int z_8), (0, .ref vs), (1, .int vsu), (2, .int vti)]) hx hb dX7_highestWithin_24 hl (k := 0) rfl ez_8.symm (by decide) rfl (fun ls hl => ?_)
          refine lv_goto (tgt := 8) hx hb dX7_highestWithin_27 (by decide) ?_
          exact ih2 z_8 ⟨by omega, by omega⟩ (by omega) _ _ (hP.sub [0, 1] rfl) hS ls (lv_sub hl [0, 1, 2, 3] rfl)
        · skip
          have c_7 : ¬ (vti.toInt < z_6.toInt) := fun h9 => c_7 (i_lt.mpr h9)
          refine lv_iload_n hx hb dX7_highestWithin_22 rfl (lv_at hl 0 rfl) ?_
          rw [hQ9]
          exact rr_i hx hb hr hlocks (show 0 ≤ (x_3 : Int32).toInt ∧ (x_3 : Int32).toInt ≤ 255 from ⟨by omega, by omega⟩) hS dX7_highestWithin_23
  have wh_9 := i_rng z_1
  exact loop2 ((((z_1.toInt + 1).toNat : Int)).toNat + 1) z_1 ⟨by omega, by omega⟩ (by omega) _ _ hP hS ls (lv_sub hl [0, 1, 2, 3] rfl)
abbrev cX7_firstTimes : ByteArray := prog_9_method_8_code
def yX7_firstTimes : MethodName := ⟨RX7, "firstTimes", "(III)I"⟩
theorem t943 : Cond.code yX7_firstTimes cX7_firstTimes 5 (some .int) ∈ GW := gw_mem 1057 (by decide +kernel) (by decide +kernel)
theorem dX7_firstTimes_0 : decode cX7_firstTimes 0 = .ok (.iconst 0, 1) := by decide +kernel
theorem dX7_firstTimes_1 : decode cX7_firstTimes 1 = .ok (.istore 4, 2) := by decide +kernel
theorem dX7_firstTimes_3 : decode cX7_firstTimes 3 = .ok (.iload 4, 2) := by decide +kernel
theorem dX7_firstTimes_5 : decode cX7_firstTimes 5 = .ok (.aload_n 0, 1) := by decide +kernel
theorem dX7_firstTimes_6 : decode cX7_firstTimes 6 = .ok (.getfield 9, 3) := by decide +kernel
theorem dX7_firstTimes_9 : decode cX7_firstTimes 9 = .ok (.iload_n 1, 1) := by decide +kernel
theorem dX7_firstTimes_10 : decode cX7_firstTimes 10 = .ok (.iaload, 1) := by decide +kernel
theorem dX7_firstTimes_11 : decode cX7_firstTimes 11 = .ok (.if_icmp .gt 57, 3) := by decide +kernel
theorem dX7_firstTimes_68 : decode cX7_firstTimes 68 = .ok (.iconst 0, 1) := by decide +kernel
theorem dX7_firstTimes_69 : decode cX7_firstTimes 69 = .ok (.ireturn, 1) := by decide +kernel
theorem dX7_firstTimes_14 : decode cX7_firstTimes 14 = .ok (.iload 4, 2) := by decide +kernel
theorem dX7_firstTimes_16 : decode cX7_firstTimes 16 = .ok (.iload_n 3, 1) := by decide +kernel
theorem dX7_firstTimes_17 : decode cX7_firstTimes 17 = .ok (.imul, 1) := by decide +kernel
theorem dX7_firstTimes_18 : decode cX7_firstTimes 18 = .ok (.iload_n 2, 1) := by decide +kernel
theorem dX7_firstTimes_19 : decode cX7_firstTimes 19 = .ok (.if_icmp .gt 49, 3) := by decide +kernel
theorem dX7_firstTimes_22 : decode cX7_firstTimes 22 = .ok (.aload_n 0, 1) := by decide +kernel
theorem dX7_firstTimes_23 : decode cX7_firstTimes 23 = .ok (.getfield 15, 3) := by decide +kernel
theorem dX7_firstTimes_26 : decode cX7_firstTimes 26 = .ok (.iload_n 1, 1) := by decide +kernel
theorem dX7_firstTimes_27 : decode cX7_firstTimes 27 = .ok (.iconst 1, 1) := by decide +kernel
theorem dX7_firstTimes_28 : decode cX7_firstTimes 28 = .ok (.iadd, 1) := by decide +kernel
theorem dX7_firstTimes_29 : decode cX7_firstTimes 29 = .ok (.sipush 256, 3) := by decide +kernel
theorem dX7_firstTimes_32 : decode cX7_firstTimes 32 = .ok (.imul, 1) := by decide +kernel
theorem dX7_firstTimes_33 : decode cX7_firstTimes 33 = .ok (.iload_n 2, 1) := by decide +kernel
theorem dX7_firstTimes_34 : decode cX7_firstTimes 34 = .ok (.iadd, 1) := by decide +kernel
theorem dX7_firstTimes_35 : decode cX7_firstTimes 35 = .ok (.iload 4, 2) := by decide +kernel
theorem dX7_firstTimes_37 : decode cX7_firstTimes 37 = .ok (.iload_n 3, 1) := by decide +kernel
theorem dX7_firstTimes_38 : decode cX7_firstTimes 38 = .ok (.imul, 1) := by decide +kernel
theorem dX7_firstTimes_39 : decode cX7_firstTimes 39 = .ok (.isub, 1) := by decide +kernel
theorem dX7_firstTimes_40 : decode cX7_firstTimes 40 = .ok (.iaload, 1) := by decide +kernel
theorem dX7_firstTimes_41 : decode cX7_firstTimes 41 = .ok (.iload 4, 2) := by decide +kernel
theorem dX7_firstTimes_43 : decode cX7_firstTimes 43 = .ok (.iadd, 1) := by decide +kernel
theorem dX7_firstTimes_44 : decode cX7_firstTimes 44 = .ok (.aload_n 0, 1) := by decide +kernel
theorem dX7_firstTimes_45 : decode cX7_firstTimes 45 = .ok (.getfield 15, 3) := by decide +kernel
theorem dX7_firstTimes_48 : decode cX7_firstTimes 48 = .ok (.iload_n 1, 1) := by decide +kernel
theorem dX7_firstTimes_49 : decode cX7_firstTimes 49 = .ok (.sipush 256, 3) := by decide +kernel
theorem dX7_firstTimes_52 : decode cX7_firstTimes 52 = .ok (.imul, 1) := by decide +kernel
theorem dX7_firstTimes_53 : decode cX7_firstTimes 53 = .ok (.iload_n 2, 1) := by decide +kernel
theorem dX7_firstTimes_54 : decode cX7_firstTimes 54 = .ok (.iadd, 1) := by decide +kernel
theorem dX7_firstTimes_55 : decode cX7_firstTimes 55 = .ok (.iaload, 1) := by decide +kernel
theorem dX7_firstTimes_56 : decode cX7_firstTimes 56 = .ok (.if_icmp .ne 6, 3) := by decide +kernel
theorem dX7_firstTimes_62 : decode cX7_firstTimes 62 = .ok (.iinc 4 1, 3) := by decide +kernel
theorem dX7_firstTimes_65 : decode cX7_firstTimes 65 = .ok (.goto (-62), 3) := by decide +kernel
theorem dX7_firstTimes_59 : decode cX7_firstTimes 59 = .ok (.iload 4, 2) := by decide +kernel
theorem dX7_firstTimes_61 : decode cX7_firstTimes 61 = .ok (.ireturn, 1) := by decide +kernel
set_option maxHeartbeats 4000000 in
set_option maxRecDepth 100000 in
theorem g_firstTimes (l : Launch) (dC : Nat → ClassId) (dI : Nat → Nat → Nat) (cy : Nat → ClassId) (vs : Nat) (vs1 : Nat) (vs2 : Nat) (vs3 : Nat) (vsm : Nat → Int32) (vsf : Nat → Int32) (vd : Int32) (vx : Int32) (vwe : Int32) (r_vd : 0 ≤ (vd : Int32).toInt ∧ (vd : Int32).toInt ≤ 9) (r_vx : 0 ≤ (vx : Int32).toInt ∧ (vx : Int32).toInt ≤ 255) (r_vwe : 0 ≤ (vwe : Int32).toInt ∧ (vwe : Int32).toInt ≤ 40) (p_vsm : Rg vsm 10 0 9) : Met l yX7_firstTimes (wl yX7_firstTimes cX7_firstTimes 5 (some .int)) ({ frames := 0, cells := 0, slots := 0, locals := 0 }) (Pr (dC, dI) vwCl cy [(vs, .inr (8, [.ref vs1, .ref vs2, .ref vs3])), (vs1, .inl (cy 0, 10, .inl vsm)), (vs2, .inl (cy 0, 2816, .inl vsf))] [.ref vs, .int vd, .int vx, .int vwe]) (Ri (fun r => (0 ≤ (r : Int32).toInt ∧ (r : Int32).toInt ≤ 9) ∧ ((r : Int32).toInt * (vwe : Int32).toInt ≤ (vx : Int32).toInt))) 0 0 (fun _ => False) := by
  refine mr RX7 rfl (by decide +kernel) (Nat.le_of_ble_eq_true rfl) ?_
  intro p e s m below meth c hx hb hr hlocks av9 hav hts hown hml hK hP hS Q9 hQ9 ls hl
  have hl : lv_has ls 5 [(0, .ref vs), (1, .int vd), (2, .int vx), (3, .int vwe)] := hl
  refine lv_iconst (v := 0) hx hb dX7_firstTimes_0 (by decide) ?_
  refine lv_istore (lv' := [(4, .int 0), (0, .ref vs), (1, .int vd), (2, .int vx), (3, .int vwe)]) hx hb dX7_firstTimes_1 hl (by decide) rfl (fun ls hl => ?_)
  have loop1 : ∀ (n1 : Nat) (x_2 : Int32), (0 ≤ x_2.toInt ∧ x_2.toInt ≤ 10) → 10 - x_2.toInt < (n1 : Int) → ∀ (H : Heap) (locs : List Loc), va_P (dC, dI) vwCl [(vs, .inr (8, [.ref vs1, .ref vs2, .ref vs3])), (vs1, .inl (cy 0, 10, .inl vsm)), (vs2, .inl (cy 0, 2816, .inl vsf))] H → va_S (fun _ => False) s.heap H locs → ∀ ls : Array Slot, lv_has ls 5 [(4, .int x_2), (0, .ref vs), (1, .int vd), (2, .int vx), (3, .int vwe)] → W p l e ({ frames := 0, cells := 0, slots := 0, locals := 0 }) s m av9 below meth c H locs 0 0 Q9 (F0 m 3 ls []) := by
    intro n1
    induction n1 with
    | zero =>
      intro x_2 bx_2 hn1 H locs hP hS ls hl
      exfalso; omega
    | succ n1 ih1 =>
      intro x_2 bx_2 hn1 H locs hP hS ls hl
      refine lv_iload hx hb dX7_firstTimes_3 (lv_at hl 0 rfl) ?_
      refine lv_aload_n hx hb dX7_firstTimes_5 rfl (lv_at hl 1 rfl) ?_
      refine gf_X7_9 hx hb hts hown hK hP 0 rfl rfl dX7_firstTimes_6 ?_
      refine lv_iload_n hx hb dX7_firstTimes_9 rfl (lv_at hl 2 rfl) ?_
      have hin_3 : vp_in vd 10 := vp_in_iff.mpr ⟨by omega, by omega⟩
      refine va_iald hx hb hK hP 1 0 rfl rfl hin_3 dX7_firstTimes_10 ?_
      refine lv_topi (fun z_4 ez_4 => ?_)
      have bz_4 := p_vsm.at hin_3 ez_4
      refine lv_icmp_gt (tgt := 68) hx hb dX7_firstTimes_11 (by decide) (fun c_5 => ?_) (fun c_5 => ?_)
      · skip
        have c_5 : z_4.toInt < x_2.toInt := i_lt.mp c_5
        refine lv_iconst (v := 0) hx hb dX7_firstTimes_68 (by decide) ?_
        have k_0 : (0 : Int32).toInt = 0 := by decide
        rw [hQ9]
        exact rr_i hx hb hr hlocks ⟨(show 0 ≤ ((0 : Int32) : Int32).toInt ∧ ((0 : Int32) : Int32).toInt ≤ 9 from ⟨by omega, by omega⟩), (show ((0 : Int32) : Int32).toInt * (vwe : Int32).toInt ≤ (vx : Int32).toInt from (by rw [k_0, Int.zero_mul]; omega))⟩ hS dX7_firstTimes_69
      · skip
        have c_5 : ¬ (z_4.toInt < x_2.toInt) := fun h9 => c_5 (i_lt.mpr h9)
        refine lv_iload hx hb dX7_firstTimes_14 (lv_at hl 0 rfl) ?_
        refine lv_iload_n hx hb dX7_firstTimes_16 rfl (lv_at hl 4 rfl) ?_
        refine lv_imul hx hb dX7_firstTimes_17 ?_
        refine lv_topi (fun z_6 ez_6 => ?_)
        have bz_6 : 0 ≤ z_6.toInt ∧ z_6.toInt ≤ 360 ∧ z_6.toInt = x_2.toInt * vwe.toInt := i_mulb (A := 9) (B := 40) ez_6 ⟨by omega, by omega⟩ ⟨by omega, by omega⟩ (by decide)
        refine lv_iload_n hx hb dX7_firstTimes_18 rfl (lv_at hl 3 rfl) ?_
        refine lv_icmp_gt (tgt := 68) hx hb dX7_firstTimes_19 (by decide) (fun c_7 => ?_) (fun c_7 => ?_)
        · skip
          have c_7 : vx.toInt < z_6.toInt := i_lt.mp c_7
          refine lv_iconst (v := 0) hx hb dX7_firstTimes_68 (by decide) ?_
          have k_0 : (0 : Int32).toInt = 0 := by decide
          rw [hQ9]
          exact rr_i hx hb hr hlocks ⟨(show 0 ≤ ((0 : Int32) : Int32).toInt ∧ ((0 : Int32) : Int32).toInt ≤ 9 from ⟨by omega, by omega⟩), (show ((0 : Int32) : Int32).toInt * (vwe : Int32).toInt ≤ (vx : Int32).toInt from (by rw [k_0, Int.zero_mul]; omega))⟩ hS dX7_firstTimes_69
        · skip
          have c_7 : ¬ (vx.toInt < z_6.toInt) := fun h9 => c_7 (i_lt.mpr h9)
          refine lv_aload_n hx hb dX7_firstTimes_22 rfl (lv_at hl 1 rfl) ?_
          refine gf_X7_15 hx hb hts hown hK hP 0 rfl rfl dX7_firstTimes_23 ?_
          refine lv_iload_n hx hb dX7_firstTimes_26 rfl (lv_at hl 2 rfl) ?_
          refine lv_iconst (v := 1) hx hb dX7_firstTimes_27 (by decide) ?_
          refine lv_iadd hx hb dX7_firstTimes_28 ?_
          refine lv_topi (fun z_8 ez_8 => ?_)
          have k_1 : (1 : Int32).toInt = 1 := by decide
          have bz_8 : z_8.toInt = vd.toInt + (1 : Int32).toInt := i_add ez_8 (by omega) (by omega)
          refine lv_sipush (v := 256) hx hb dX7_firstTimes_29 (by decide) ?_
          refine lv_imul hx hb dX7_firstTimes_32 ?_
          refine lv_topi (fun z_9 ez_9 => ?_)
          have k_256 : (256 : Int32).toInt = 256 := by decide
          have bz_9 : z_9.toInt = z_8.toInt * 256 := i_mulc k_256 ez_9 (by omega) (by omega)
          refine lv_iload_n hx hb dX7_firstTimes_33 rfl (lv_at hl 3 rfl) ?_
          refine lv_iadd hx hb dX7_firstTimes_34 ?_
          refine lv_topi (fun z_10 ez_10 => ?_)
          have bz_10 : z_10.toInt = z_9.toInt + vx.toInt := i_add ez_10 (by omega) (by omega)
          refine lv_iload hx hb dX7_firstTimes_35 (lv_at hl 0 rfl) ?_
          refine lv_iload_n hx hb dX7_firstTimes_37 rfl (lv_at hl 4 rfl) ?_
          refine lv_imul hx hb dX7_firstTimes_38 ?_
          refine lv_topi (fun z_11 ez_11 => ?_)
          have bz_11 : 0 ≤ z_11.toInt ∧ z_11.toInt ≤ 360 ∧ z_11.toInt = x_2.toInt * vwe.toInt := i_mulb (A := 9) (B := 40) ez_11 ⟨by omega, by omega⟩ ⟨by omega, by omega⟩ (by decide)
          refine lv_isub hx hb dX7_firstTimes_39 ?_
          refine lv_topi (fun z_12 ez_12 => ?_)
          have bz_12 : z_12.toInt = z_10.toInt - z_11.toInt := i_sub ez_12 (by omega) (by omega)
          have hin_13 : vp_in z_12 2816 := vp_in_iff.mpr ⟨by omega, by omega⟩
          refine va_iald hx hb hK hP 2 0 rfl rfl hin_13 dX7_firstTimes_40 ?_
          refine lv_topi (fun z_14 ez_14 => ?_)
          refine lv_iload hx hb dX7_firstTimes_41 (lv_at hl 0 rfl) ?_
          refine lv_iadd hx hb dX7_firstTimes_43 ?_
          refine lv_topi (fun z_15 ez_15 => ?_)
          refine lv_aload_n hx hb dX7_firstTimes_44 rfl (lv_at hl 1 rfl) ?_
          refine gf_X7_15 hx hb hts hown hK hP 0 rfl rfl dX7_firstTimes_45 ?_
          refine lv_iload_n hx hb dX7_firstTimes_48 rfl (lv_at hl 2 rfl) ?_
          refine lv_sipush (v := 256) hx hb dX7_firstTimes_49 (by decide) ?_
          refine lv_imul hx hb dX7_firstTimes_52 ?_
          refine lv_topi (fun z_16 ez_16 => ?_)
          have bz_16 : z_16.toInt = vd.toInt * 256 := i_mulc k_256 ez_16 (by omega) (by omega)
          refine lv_iload_n hx hb dX7_firstTimes_53 rfl (lv_at hl 3 rfl) ?_
          refine lv_iadd hx hb dX7_firstTimes_54 ?_
          refine lv_topi (fun z_17 ez_17 => ?_)
          have bz_17 : z_17.toInt = z_16.toInt + vx.toInt := i_add ez_17 (by omega) (by omega)
          have hin_18 : vp_in z_17 2816 := vp_in_iff.mpr ⟨by omega, by omega⟩
          refine va_iald hx hb hK hP 2 0 rfl rfl hin_18 dX7_firstTimes_55 ?_
          refine lv_topi (fun z_19 ez_19 => ?_)
          refine lv_icmp_ne (tgt := 62) hx hb dX7_firstTimes_56 (by decide) (fun c_20 => ?_) (fun c_20 => ?_)
          · skip
            have c_20 : ¬ (z_15.toInt = z_19.toInt) := fun h9 => c_20 (i_eq.mpr h9)
            obtain ⟨z_21, ez_21⟩ : ∃ z : Int32, z = x_2 + 1 := ⟨_, rfl⟩
            have bz_21 : z_21.toInt = x_2.toInt + (1 : Int32).toInt := i_add ez_21 (by omega) (by omega)
            refine lv_iinc (v := z_21) (lv' := [(4, .int z_21), (0, .ref vs), (1, .int vd), (2, .int vx), (3, .int vwe)]) hx hb dX7_firstTimes_62 hl (k := 0) rfl ez_21.symm (by decide) rfl (fun ls hl => ?_)
            refine lv_goto (tgt := 3) hx hb dX7_firstTimes_65 (by decide) ?_
            exact ih1 z_21 ⟨by omega, by omega⟩ (by omega) _ _ (hP.sub [0, 1, 2] rfl) hS ls (lv_sub hl [0, 1, 2, 3, 4] rfl)
          · skip
            have c_20 : z_15.toInt = z_19.toInt := i_eq.mp c_20
            refine lv_iload hx hb dX7_firstTimes_59 (lv_at hl 0 rfl) ?_
            rw [hQ9]
            exact rr_i hx hb hr hlocks ⟨(show 0 ≤ (x_2 : Int32).toInt ∧ (x_2 : Int32).toInt ≤ 9 from ⟨by omega, by omega⟩), (show (x_2 : Int32).toInt * (vwe : Int32).toInt ≤ (vx : Int32).toInt from (by omega))⟩ hS dX7_firstTimes_61
  have k_0 : (0 : Int32).toInt = 0 := by decide
  exact loop1 ((10 - (0 : Int32).toInt).toNat + 1) 0 ⟨by omega, by omega⟩ (by omega) _ _ hP hS ls (lv_sub hl [0, 1, 2, 3, 4] rfl)
abbrev cX7_addFirst : ByteArray := prog_9_method_7_code
def yX7_addFirst : MethodName := ⟨RX7, "addFirst", "(LLikenessPound$Colony;I[I)V"⟩
theorem t939 : Cond.code yX7_addFirst cX7_addFirst 7 none ∈ GW := gw_mem 1053 (by decide +kernel) (by decide +kernel)
abbrev O_g_addFirst (cy : Nat → ClassId) (vs : Nat) (vs1 : Nat) (vs2 : Nat) (vs3 : Nat) (vsm : Nat → Int32) (vsf : Nat → Int32) (vc : Nat) (vc1 : Nat) (vc2 : Nat) (vc3 : Nat) (vc4 : Nat) (vc5 : Nat) (vcm : Int32) (vcd : Int32) (vcr : Int32) (vcw : Int32) (vcf3 : Nat → Int32) (vq : Nat) (vqf : Nat → Int32) (vsu : Int32) (u : (Nat → Int32)) : va_W := [(vs, .inr (8, [.ref vs1, .ref vs2, .ref vs3])), (vs1, .inl (cy 0, 10, .inl vsm)), (vs2, .inl (cy 0, 2816, .inl vsf)), (vc, .inr (2, [.ref vc1, .ref vc2, .ref vc3, .ref vc4, .ref vc5, .int vcm, .int vcd, .int vcr, .int vcw])), (vc3, .inl (cy 0, 10, .inl vcf3)), (vq, .inl (cy 0, 10, .inl u))]
theorem dX7_addFirst_0 : decode cX7_addFirst 0 = .ok (.iload_n 2, 1) := by decide +kernel
theorem dX7_addFirst_1 : decode cX7_addFirst 1 = .ok (.istore 4, 2) := by decide +kernel
theorem dX7_addFirst_3 : decode cX7_addFirst 3 = .ok (.iconst 0, 1) := by decide +kernel
theorem dX7_addFirst_4 : decode cX7_addFirst 4 = .ok (.istore 5, 2) := by decide +kernel
theorem dX7_addFirst_6 : decode cX7_addFirst 6 = .ok (.iload 5, 2) := by decide +kernel
theorem dX7_addFirst_8 : decode cX7_addFirst 8 = .ok (.aload_n 1, 1) := by decide +kernel
theorem dX7_addFirst_9 : decode cX7_addFirst 9 = .ok (.getfield 22, 3) := by decide +kernel
theorem dX7_addFirst_12 : decode cX7_addFirst 12 = .ok (.if_icmp .ge 50, 3) := by decide +kernel
theorem dX7_addFirst_62 : decode cX7_addFirst 62 = .ok (.return_, 1) := by decide +kernel
theorem dX7_addFirst_15 : decode cX7_addFirst 15 = .ok (.aload_n 0, 1) := by decide +kernel
theorem dX7_addFirst_16 : decode cX7_addFirst 16 = .ok (.iload 5, 2) := by decide +kernel
theorem dX7_addFirst_18 : decode cX7_addFirst 18 = .ok (.iload 4, 2) := by decide +kernel
theorem dX7_addFirst_20 : decode cX7_addFirst 20 = .ok (.aload_n 1, 1) := by decide +kernel
theorem dX7_addFirst_21 : decode cX7_addFirst 21 = .ok (.getfield 28, 3) := by decide +kernel
theorem dX7_addFirst_24 : decode cX7_addFirst 24 = .ok (.iload 5, 2) := by decide +kernel
theorem dX7_addFirst_26 : decode cX7_addFirst 26 = .ok (.iaload, 1) := by decide +kernel
theorem dX7_addFirst_27 : decode cX7_addFirst 27 = .ok (.invokevirtual 45, 3) := by decide +kernel
theorem t940 : Cond.methodLink RX7 45 yX7_firstTimes ∈ GW := gw_mem 1054 (by decide +kernel) (by decide +kernel)
theorem t942 : Cond.instanceMethod yX7_firstTimes ∈ GW := gw_mem 1056 (by decide +kernel) (by decide +kernel)
theorem s19 : Cond.selects RX7 yX7_firstTimes yX7_firstTimes ∈ GW := gw_mem 19 (by decide +kernel) (by decide +kernel)
theorem cw_X7_45 {R : Room} {s : State} {args : Array Value} {rm : Room} {mc ms : Nat} (hts : ∀ w ∈ GW, w.before args s = true) (hrc : rm.cells = mc) (hrs : rm.slots = ms) (hR : rm.frames + 1 ≤ R.frames ∧ 8 + (5 + 11) + rm.locals ≤ R.locals) : CallW R s args RX7 RX7 45 yX7_firstTimes cX7_firstTimes 5 (some .int) (wl yX7_firstTimes cX7_firstTimes 5 (some .int)) rm mc ms 3 := cwV 3 hts (gi_V t940 t942 s19 t12 t943) rfl hrc hrs (by decide +kernel) hR
theorem dX7_addFirst_30 : decode cX7_addFirst 30 = .ok (.istore 6, 2) := by decide +kernel
theorem dX7_addFirst_32 : decode cX7_addFirst 32 = .ok (.aload_n 3, 1) := by decide +kernel
theorem dX7_addFirst_33 : decode cX7_addFirst 33 = .ok (.iload 5, 2) := by decide +kernel
theorem dX7_addFirst_35 : decode cX7_addFirst 35 = .ok (.dup2, 1) := by decide +kernel
theorem dX7_addFirst_36 : decode cX7_addFirst 36 = .ok (.iaload, 1) := by decide +kernel
theorem dX7_addFirst_37 : decode cX7_addFirst 37 = .ok (.iload 6, 2) := by decide +kernel
theorem dX7_addFirst_39 : decode cX7_addFirst 39 = .ok (.iadd, 1) := by decide +kernel
theorem dX7_addFirst_40 : decode cX7_addFirst 40 = .ok (.iastore, 1) := by decide +kernel
theorem dX7_addFirst_41 : decode cX7_addFirst 41 = .ok (.iload 4, 2) := by decide +kernel
theorem dX7_addFirst_43 : decode cX7_addFirst 43 = .ok (.iload 6, 2) := by decide +kernel
theorem dX7_addFirst_45 : decode cX7_addFirst 45 = .ok (.aload_n 1, 1) := by decide +kernel
theorem dX7_addFirst_46 : decode cX7_addFirst 46 = .ok (.getfield 28, 3) := by decide +kernel
theorem dX7_addFirst_49 : decode cX7_addFirst 49 = .ok (.iload 5, 2) := by decide +kernel
theorem dX7_addFirst_51 : decode cX7_addFirst 51 = .ok (.iaload, 1) := by decide +kernel
theorem dX7_addFirst_52 : decode cX7_addFirst 52 = .ok (.imul, 1) := by decide +kernel
theorem dX7_addFirst_53 : decode cX7_addFirst 53 = .ok (.isub, 1) := by decide +kernel
theorem dX7_addFirst_54 : decode cX7_addFirst 54 = .ok (.istore 4, 2) := by decide +kernel
theorem dX7_addFirst_56 : decode cX7_addFirst 56 = .ok (.iinc 5 1, 3) := by decide +kernel
theorem dX7_addFirst_59 : decode cX7_addFirst 59 = .ok (.goto (-53), 3) := by decide +kernel
set_option maxHeartbeats 4000000 in
set_option maxRecDepth 100000 in
theorem g_addFirst (l : Launch) (dC : Nat → ClassId) (dI : Nat → Nat → Nat) (cy : Nat → ClassId) (sz : Nat) (vs : Nat) (vs1 : Nat) (vs2 : Nat) (vs3 : Nat) (vsm : Nat → Int32) (vsf : Nat → Int32) (vc : Nat) (vc1 : Nat) (vc2 : Nat) (vc3 : Nat) (vc4 : Nat) (vc5 : Nat) (vcm : Int32) (vcd : Int32) (vcr : Int32) (vcw : Int32) (vcf3 : Nat → Int32) (vq : Nat) (vqf : Nat → Int32) (vsu : Int32) (r_vcm : 0 ≤ (vcm : Int32).toInt ∧ (vcm : Int32).toInt ≤ 7) (r_vcd : 0 ≤ (vcd : Int32).toInt ∧ (vcd : Int32).toInt ≤ 10) (r_vsu : 0 ≤ (vsu : Int32).toInt ∧ (vsu : Int32).toInt ≤ 255) (p_vsm : Rg vsm 10 0 9) (p_vcf3 : Rg vcf3 10 0 40) : Met l yX7_addFirst (wl yX7_addFirst cX7_addFirst 7 none) ({ frames := 1, cells := 0, slots := 0, locals := 64 }) (Pw (dC, dI) vwCl cy [(vs, .inr (8, [.ref vs1, .ref vs2, .ref vs3])), (vs1, .inl (cy 0, 10, .inl vsm)), (vs2, .inl (cy 0, 2816, .inl vsf)), (vc, .inr (2, [.ref vc1, .ref vc2, .ref vc3, .ref vc4, .ref vc5, .int vcm, .int vcd, .int vcr, .int vcw])), (vc3, .inl (cy 0, 10, .inl vcf3)), (vq, .inl (cy 0, 10, .inl vqf))] sz [.ref vs, .ref vc, .int vsu, .ref vq] nE) (Qv (dC, dI) vwCl (fun (u : (Nat → Int32)) => True) (O_g_addFirst cy vs vs1 vs2 vs3 vsm vsf vc vc1 vc2 vc3 vc4 vc5 vcm vcd vcr vcw vcf3 vq vqf vsu) (va_A [(vs, .inr (8, [.ref vs1, .ref vs2, .ref vs3])), (vs1, .inl (cy 0, 10, .inl vsm)), (vs2, .inl (cy 0, 2816, .inl vsf)), (vc, .inr (2, [.ref vc1, .ref vc2, .ref vc3, .ref vc4, .ref vc5, .int vcm, .int vcd, .int vcr, .int vcw])), (vc3, .inl (cy 0, 10, .inl vcf3)), (vq, .inl (cy 0, 10, .inl vqf))] sz)) 0 0 (va_A [(vs, .inr (8, [.ref vs1, .ref vs2, .ref vs3])), (vs1, .inl (cy 0, 10, .inl vsm)), (vs2, .inl (cy 0, 2816, .inl vsf)), (vc, .inr (2, [.ref vc1, .ref vc2, .ref vc3, .ref vc4, .ref vc5, .int vcm, .int vcd, .int vcr, .int vcw])), (vc3, .inl (cy 0, 10, .inl vcf3)), (vq, .inl (cy 0, 10, .inl vqf))] sz) := by
  refine mw (Qc := Qv (dC, dI) vwCl (fun (u : (Nat → Int32)) => True) (O_g_addFirst cy vs vs1 vs2 vs3 vsm vsf vc vc1 vc2 vc3 vc4 vc5 vcm vcd vcr vcw vcf3 vq vqf vsu)) RX7 rfl (by decide +kernel) (Nat.le_of_ble_eq_true rfl) ?_
  intro p e s m below meth c A hx hb hr hlocks av9 hav hts hown hnm hml hK hP hD hA hS hE hAe Q9 hQ9 ls hl
  have hl : lv_has ls 7 [(0, .ref vs), (1, .ref vc), (2, .int vsu), (3, .ref vq)] := hl
  refine lv_iload_n hx hb dX7_addFirst_0 rfl (lv_at hl 2 rfl) ?_
  refine lv_istore (lv' := [(4, .int vsu), (0, .ref vs), (1, .ref vc), (2, .int vsu), (3, .ref vq)]) hx hb dX7_addFirst_1 hl (by decide) rfl (fun ls hl => ?_)
  refine lv_iconst (v := 0) hx hb dX7_addFirst_3 (by decide) ?_
  refine lv_istore (lv' := [(5, .int 0), (4, .int vsu), (0, .ref vs), (1, .ref vc), (2, .int vsu), (3, .ref vq)]) hx hb dX7_addFirst_4 hl (by decide) rfl (fun ls hl => ?_)
  have loop1 : ∀ (n1 : Nat) (x_3 : Int32) (x_2 : Int32) (g_4 : Nat → Int32), (0 ≤ x_3.toInt ∧ x_3.toInt ≤ 255) → (0 ≤ x_2.toInt ∧ x_2.toInt ≤ 10) → 10 - x_2.toInt < (n1 : Int) → ∀ (H : Heap) (locs : List Loc), va_P (dC, dI) vwCl [(vs, .inr (8, [.ref vs1, .ref vs2, .ref vs3])), (vs1, .inl (cy 0, 10, .inl vsm)), (vs2, .inl (cy 0, 2816, .inl vsf)), (vc, .inr (2, [.ref vc1, .ref vc2, .ref vc3, .ref vc4, .ref vc5, .int vcm, .int vcd, .int vcr, .int vcw])), (vc3, .inl (cy 0, 10, .inl vcf3)), (vq, .inl (cy 0, 10, .inl g_4))] H → va_D A [(vs, .inr (8, [.ref vs1, .ref vs2, .ref vs3])), (vs1, .inl (cy 0, 10, .inl vsm)), (vs2, .inl (cy 0, 2816, .inl vsf)), (vc, .inr (2, [.ref vc1, .ref vc2, .ref vc3, .ref vc4, .ref vc5, .int vcm, .int vcd, .int vcr, .int vcw])), (vc3, .inl (cy 0, 10, .inl vcf3)), (vq, .inl (cy 0, 10, .inl g_4))] → va_S A s.heap H locs → ∀ ls : Array Slot, lv_has ls 7 [(5, .int x_2), (4, .int x_3), (0, .ref vs), (1, .ref vc), (2, .int vsu), (3, .ref vq)] → W p l e ({ frames := 1, cells := 0, slots := 0, locals := 64 }) s m av9 below meth c H locs 0 0 Q9 (F0 m 6 ls []) := by
    intro n1
    induction n1 with
    | zero =>
      intro x_3 x_2 g_4 bx_3 bx_2 hn1 H locs hP hD hS ls hl
      exfalso; omega
    | succ n1 ih1 =>
      intro x_3 x_2 g_4 bx_3 bx_2 hn1 H locs hP hD hS ls hl
      refine lv_iload hx hb dX7_addFirst_6 (lv_at hl 0 rfl) ?_
      refine lv_aload_n hx hb dX7_addFirst_8 rfl (lv_at hl 3 rfl) ?_
      refine gf_X7_22 hx hb hts hown hK hP 3 rfl rfl dX7_addFirst_9 ?_
      refine lv_icmp_ge (tgt := 62) hx hb dX7_addFirst_12 (by decide) (fun c_5 => ?_) (fun c_5 => ?_)
      · skip
        have c_5 : vcd.toInt ≤ x_2.toInt := i_le.mp c_5
        rw [hQ9]
        exact re_v g_4 hx hb hr hlocks trivial (hP.sub [0, 1, 2, 3, 4, 5] rfl) (hD.sub [0, 1, 2, 3, 4, 5] rfl rfl) hS dX7_addFirst_62
      · skip
        have c_5 : ¬ (vcd.toInt ≤ x_2.toInt) := fun h9 => c_5 (i_le.mpr h9)
        refine lv_aload_n hx hb dX7_addFirst_15 rfl (lv_at hl 2 rfl) ?_
        refine lv_iload hx hb dX7_addFirst_16 (lv_at hl 0 rfl) ?_
        refine lv_iload hx hb dX7_addFirst_18 (lv_at hl 1 rfl) ?_
        refine lv_aload_n hx hb dX7_addFirst_20 rfl (lv_at hl 3 rfl) ?_
        refine gf_X7_28 hx hb hts hown hK hP 3 rfl rfl dX7_addFirst_21 ?_
        refine lv_iload hx hb dX7_addFirst_24 (lv_at hl 0 rfl) ?_
        have hin_6 : vp_in x_2 10 := vp_in_iff.mpr ⟨by omega, by omega⟩
        refine va_iald hx hb hK hP 4 0 rfl rfl hin_6 dX7_addFirst_26 ?_
        refine lv_topi (fun z_7 ez_7 => ?_)
        have bz_7 := p_vcf3.at hin_6 ez_7
        refine jr_i (rVr (As := [.int x_2, .int x_3, .int z_7]) (rest := []) (ci := 8) ⟨hx, hb, hml, hown, hts⟩ (g_firstTimes l dC dI cy vs vs1 vs2 vs3 vsm vsf x_2 x_3 z_7 ⟨by omega, by omega⟩ ⟨by omega, by omega⟩ ⟨by omega, by omega⟩ p_vsm) (cw_X7_45 hts rfl rfl ⟨Nat.le_of_ble_eq_true rfl, Nat.le_of_ble_eq_true rfl⟩) hP hK [0, 1, 2] rfl rfl rfl rfl hl.1 rfl (Nat.le_of_ble_eq_true rfl) dX7_addFirst_27 ⟨Nat.le_of_ble_eq_true rfl, Nat.le_of_ble_eq_true rfl⟩) hP hS (fun r_8 H locs hp_9 hP hS => ?_)
        have hp_9 : (0 ≤ (r_8 : Int32).toInt ∧ (r_8 : Int32).toInt ≤ 9) ∧ ((r_8 : Int32).toInt * (z_7 : Int32).toInt ≤ (x_3 : Int32).toInt) := hp_9
        obtain ⟨q_10, q_11⟩ := hp_9
        refine lv_istore (lv' := [(6, .int r_8), (5, .int x_2), (4, .int x_3), (0, .ref vs), (1, .ref vc), (2, .int vsu), (3, .ref vq)]) hx hb dX7_addFirst_30 hl (by decide) rfl (fun ls hl => ?_)
        refine lv_aload_n hx hb dX7_addFirst_32 rfl (lv_at hl 6 rfl) ?_
        refine lv_iload hx hb dX7_addFirst_33 (lv_at hl 1 rfl) ?_
        refine lv_dup2_11 hx hb dX7_addFirst_35 rfl rfl ?_
        have hin_12 : vp_in x_2 10 := vp_in_iff.mpr ⟨by omega, by omega⟩
        refine va_iald hx hb hK hP 5 0 rfl rfl hin_12 dX7_addFirst_36 ?_
        refine lv_topi (fun z_13 ez_13 => ?_)
        refine lv_iload hx hb dX7_addFirst_37 (lv_at hl 0 rfl) ?_
        refine lv_iadd hx hb dX7_addFirst_39 ?_
        refine lv_topi (fun z_14 ez_14 => ?_)
        have hin_15 : vp_in x_2 10 := vp_in_iff.mpr ⟨by omega, by omega⟩
        refine va_iast hx hb hK hP hD hS 5 0 rfl rfl hin_15 dX7_addFirst_40 (fun H locs hP hD hS => ?_)
        obtain ⟨f_16, ef_16⟩ : ∃ z : Nat → Int32, z = upd g_4 (Int32.toNatClampNeg x_2) z_14 := ⟨_, rfl⟩
        have hP : va_P (dC, dI) vwCl [(vs, .inr (8, [.ref vs1, .ref vs2, .ref vs3])), (vs1, .inl (cy 0, 10, .inl vsm)), (vs2, .inl (cy 0, 2816, .inl vsf)), (vc, .inr (2, [.ref vc1, .ref vc2, .ref vc3, .ref vc4, .ref vc5, .int vcm, .int vcd, .int vcr, .int vcw])), (vc3, .inl (cy 0, 10, .inl vcf3)), (vq, .inl (cy 0, 10, .inl f_16))] H := by rw [ef_16]; exact hP
        have hD : va_D A [(vs, .inr (8, [.ref vs1, .ref vs2, .ref vs3])), (vs1, .inl (cy 0, 10, .inl vsm)), (vs2, .inl (cy 0, 2816, .inl vsf)), (vc, .inr (2, [.ref vc1, .ref vc2, .ref vc3, .ref vc4, .ref vc5, .int vcm, .int vcd, .int vcr, .int vcw])), (vc3, .inl (cy 0, 10, .inl vcf3)), (vq, .inl (cy 0, 10, .inl f_16))] := by rw [ef_16]; exact hD
        refine lv_iload hx hb dX7_addFirst_41 (lv_at hl 2 rfl) ?_
        refine lv_iload hx hb dX7_addFirst_43 (lv_at hl 0 rfl) ?_
        refine lv_aload_n hx hb dX7_addFirst_45 rfl (lv_at hl 4 rfl) ?_
        refine gf_X7_28 hx hb hts hown hK hP 3 rfl rfl dX7_addFirst_46 ?_
        refine lv_iload hx hb dX7_addFirst_49 (lv_at hl 1 rfl) ?_
        have hin_17 : vp_in x_2 10 := vp_in_iff.mpr ⟨by omega, by omega⟩
        refine va_iald hx hb hK hP 4 0 rfl rfl hin_17 dX7_addFirst_51 ?_
        refine lv_topi (fun z_18 ez_18 => ?_)
        have bz_18 := p_vcf3.at hin_17 ez_18
        refine as_i z_7 (i_eq.mpr (i_same ez_7 ez_18 (by omega))) ?_
        refine lv_imul hx hb dX7_addFirst_52 ?_
        refine lv_topi (fun z_19 ez_19 => ?_)
        have bz_19 : 0 ≤ z_19.toInt ∧ z_19.toInt ≤ 360 ∧ z_19.toInt = r_8.toInt * z_7.toInt := i_mulb (A := 9) (B := 40) ez_19 ⟨by omega, by omega⟩ ⟨by omega, by omega⟩ (by decide)
        refine lv_isub hx hb dX7_addFirst_53 ?_
        refine lv_topi (fun z_20 ez_20 => ?_)
        have bz_20 : z_20.toInt = x_3.toInt - z_19.toInt := i_sub ez_20 (by omega) (by omega)
        refine lv_istore (lv' := [(4, .int z_20), (6, .int r_8), (5, .int x_2), (0, .ref vs), (1, .ref vc), (2, .int vsu), (3, .ref vq)]) hx hb dX7_addFirst_54 hl (by decide) rfl (fun ls hl => ?_)
        obtain ⟨z_21, ez_21⟩ : ∃ z : Int32, z = x_2 + 1 := ⟨_, rfl⟩
        have k_1 : (1 : Int32).toInt = 1 := by decide
        have bz_21 : z_21.toInt = x_2.toInt + (1 : Int32).toInt := i_add ez_21 (by omega) (by omega)
        refine lv_iinc (v := z_21) (lv' := [(5, .int z_21), (4, .int z_20), (6, .int r_8), (0, .ref vs), (1, .ref vc), (2, .int vsu), (3, .ref vq)]) hx hb dX7_addFirst_56 hl (k := 2) rfl ez_21.symm (by decide) rfl (fun ls hl => ?_)
        refine lv_goto (tgt := 6) hx hb dX7_addFirst_59 (by decide) ?_
        exact ih1 z_20 z_21 f_16 ⟨by omega, by omega⟩ ⟨by omega, by omega⟩ (by omega) _ _ (hP.sub [0, 1, 2, 3, 4, 5] rfl) (hD.sub [0, 1, 2, 3, 4, 5] rfl rfl) hS ls (lv_sub hl [0, 1, 3, 4, 5, 6] rfl)
  have k_0 : (0 : Int32).toInt = 0 := by decide
  exact loop1 ((10 - (0 : Int32).toInt).toNat + 1) vsu 0 vqf ⟨by omega, by omega⟩ ⟨by omega, by omega⟩ (by omega) _ _ hP hD hS ls (lv_sub hl [0, 1, 2, 3, 4, 5] rfl)
def RJ6 : String := "java/lang/Integer"
abbrev cJ6_bitCount_0f7a4 : ByteArray := prog_21_method_49_code
def yJ6_bitCount_0f7a4 : MethodName := ⟨RJ6, "bitCount", "(I)I"⟩
theorem t886 : Cond.code yJ6_bitCount_0f7a4 cJ6_bitCount_0f7a4 1 (some .int) ∈ GW := gw_mem 1000 (by decide +kernel) (by decide +kernel)
theorem dJ6_bitCount_0f7a4_0 : decode cJ6_bitCount_0f7a4 0 = .ok (.iload_n 0, 1) := by decide +kernel
theorem dJ6_bitCount_0f7a4_1 : decode cJ6_bitCount_0f7a4 1 = .ok (.iload_n 0, 1) := by decide +kernel
theorem dJ6_bitCount_0f7a4_2 : decode cJ6_bitCount_0f7a4 2 = .ok (.iconst 1, 1) := by decide +kernel
theorem dJ6_bitCount_0f7a4_3 : decode cJ6_bitCount_0f7a4 3 = .ok (.iushr, 1) := by decide +kernel
theorem dJ6_bitCount_0f7a4_4 : decode cJ6_bitCount_0f7a4 4 = .ok (.ldc_w 265, 3) := by decide +kernel
theorem t887 : Cond.constant RJ6 265 1431655765 ∈ GW := gw_mem 1001 (by decide +kernel) (by decide +kernel)
theorem dJ6_bitCount_0f7a4_7 : decode cJ6_bitCount_0f7a4 7 = .ok (.iand, 1) := by decide +kernel
theorem dJ6_bitCount_0f7a4_8 : decode cJ6_bitCount_0f7a4 8 = .ok (.isub, 1) := by decide +kernel
theorem dJ6_bitCount_0f7a4_9 : decode cJ6_bitCount_0f7a4 9 = .ok (.istore_n 0, 1) := by decide +kernel
theorem dJ6_bitCount_0f7a4_10 : decode cJ6_bitCount_0f7a4 10 = .ok (.iload_n 0, 1) := by decide +kernel
theorem dJ6_bitCount_0f7a4_11 : decode cJ6_bitCount_0f7a4 11 = .ok (.ldc_w 266, 3) := by decide +kernel
theorem t888 : Cond.constant RJ6 266 858993459 ∈ GW := gw_mem 1002 (by decide +kernel) (by decide +kernel)
theorem dJ6_bitCount_0f7a4_14 : decode cJ6_bitCount_0f7a4 14 = .ok (.iand, 1) := by decide +kernel
theorem dJ6_bitCount_0f7a4_15 : decode cJ6_bitCount_0f7a4 15 = .ok (.iload_n 0, 1) := by decide +kernel
theorem dJ6_bitCount_0f7a4_16 : decode cJ6_bitCount_0f7a4 16 = .ok (.iconst 2, 1) := by decide +kernel
theorem dJ6_bitCount_0f7a4_17 : decode cJ6_bitCount_0f7a4 17 = .ok (.iushr, 1) := by decide +kernel
theorem dJ6_bitCount_0f7a4_18 : decode cJ6_bitCount_0f7a4 18 = .ok (.ldc_w 266, 3) := by decide +kernel
theorem dJ6_bitCount_0f7a4_21 : decode cJ6_bitCount_0f7a4 21 = .ok (.iand, 1) := by decide +kernel
theorem dJ6_bitCount_0f7a4_22 : decode cJ6_bitCount_0f7a4 22 = .ok (.iadd, 1) := by decide +kernel
theorem dJ6_bitCount_0f7a4_23 : decode cJ6_bitCount_0f7a4 23 = .ok (.istore_n 0, 1) := by decide +kernel
theorem dJ6_bitCount_0f7a4_24 : decode cJ6_bitCount_0f7a4 24 = .ok (.iload_n 0, 1) := by decide +kernel
theorem dJ6_bitCount_0f7a4_25 : decode cJ6_bitCount_0f7a4 25 = .ok (.iload_n 0, 1) := by decide +kernel
theorem dJ6_bitCount_0f7a4_26 : decode cJ6_bitCount_0f7a4 26 = .ok (.iconst 4, 1) := by decide +kernel
theorem dJ6_bitCount_0f7a4_27 : decode cJ6_bitCount_0f7a4 27 = .ok (.iushr, 1) := by decide +kernel
theorem dJ6_bitCount_0f7a4_28 : decode cJ6_bitCount_0f7a4 28 = .ok (.iadd, 1) := by decide +kernel
theorem dJ6_bitCount_0f7a4_29 : decode cJ6_bitCount_0f7a4 29 = .ok (.ldc_w 267, 3) := by decide +kernel
theorem t889 : Cond.constant RJ6 267 252645135 ∈ GW := gw_mem 1003 (by decide +kernel) (by decide +kernel)
theorem dJ6_bitCount_0f7a4_32 : decode cJ6_bitCount_0f7a4 32 = .ok (.iand, 1) := by decide +kernel
theorem dJ6_bitCount_0f7a4_33 : decode cJ6_bitCount_0f7a4 33 = .ok (.istore_n 0, 1) := by decide +kernel
theorem dJ6_bitCount_0f7a4_34 : decode cJ6_bitCount_0f7a4 34 = .ok (.iload_n 0, 1) := by decide +kernel
theorem dJ6_bitCount_0f7a4_35 : decode cJ6_bitCount_0f7a4 35 = .ok (.iload_n 0, 1) := by decide +kernel
theorem dJ6_bitCount_0f7a4_36 : decode cJ6_bitCount_0f7a4 36 = .ok (.bipush 8, 2) := by decide +kernel
theorem dJ6_bitCount_0f7a4_38 : decode cJ6_bitCount_0f7a4 38 = .ok (.iushr, 1) := by decide +kernel
theorem dJ6_bitCount_0f7a4_39 : decode cJ6_bitCount_0f7a4 39 = .ok (.iadd, 1) := by decide +kernel
theorem dJ6_bitCount_0f7a4_40 : decode cJ6_bitCount_0f7a4 40 = .ok (.istore_n 0, 1) := by decide +kernel
theorem dJ6_bitCount_0f7a4_41 : decode cJ6_bitCount_0f7a4 41 = .ok (.iload_n 0, 1) := by decide +kernel
theorem dJ6_bitCount_0f7a4_42 : decode cJ6_bitCount_0f7a4 42 = .ok (.iload_n 0, 1) := by decide +kernel
theorem dJ6_bitCount_0f7a4_43 : decode cJ6_bitCount_0f7a4 43 = .ok (.bipush 16, 2) := by decide +kernel
theorem dJ6_bitCount_0f7a4_45 : decode cJ6_bitCount_0f7a4 45 = .ok (.iushr, 1) := by decide +kernel
theorem dJ6_bitCount_0f7a4_46 : decode cJ6_bitCount_0f7a4 46 = .ok (.iadd, 1) := by decide +kernel
theorem dJ6_bitCount_0f7a4_47 : decode cJ6_bitCount_0f7a4 47 = .ok (.istore_n 0, 1) := by decide +kernel
theorem dJ6_bitCount_0f7a4_48 : decode cJ6_bitCount_0f7a4 48 = .ok (.iload_n 0, 1) := by decide +kernel
theorem dJ6_bitCount_0f7a4_49 : decode cJ6_bitCount_0f7a4 49 = .ok (.bipush 63, 2) := by decide +kernel
theorem dJ6_bitCount_0f7a4_51 : decode cJ6_bitCount_0f7a4 51 = .ok (.iand, 1) := by decide +kernel
theorem dJ6_bitCount_0f7a4_52 : decode cJ6_bitCount_0f7a4 52 = .ok (.ireturn, 1) := by decide +kernel
set_option maxHeartbeats 4000000 in
set_option maxRecDepth 100000 in
theorem g_bitCount (l : Launch) (dC : Nat → ClassId) (dI : Nat → Nat → Nat) (cy : Nat → ClassId) (vx : Int32)  : Met l yJ6_bitCount_0f7a4 (wl yJ6_bitCount_0f7a4 cJ6_bitCount_0f7a4 1 (some .int)) ({ frames := 0, cells := 0, slots := 0, locals := 0 }) (Pr (dC, dI) vwCl cy [] [.int vx]) (Ri (fun r => True)) 0 0 (fun _ => False) := by
  refine mr RJ6 rfl (by decide +kernel) (Nat.le_of_ble_eq_true rfl) ?_
  intro p e s m below meth c hx hb hr hlocks av9 hav hts hown hml hK hP hS Q9 hQ9 ls hl
  have hl : lv_has ls 1 [(0, .int vx)] := hl
  refine lv_iload_n hx hb dJ6_bitCount_0f7a4_0 rfl (lv_at hl 0 rfl) ?_
  refine lv_iload_n hx hb dJ6_bitCount_0f7a4_1 rfl (lv_at hl 0 rfl) ?_
  refine lv_iconst (v := 1) hx hb dJ6_bitCount_0f7a4_2 (by decide) ?_
  obtain ⟨z_1, ez_1⟩ : ∃ z : Int32, (Int32.toUInt32 vx >>> (Int32.toUInt32 1 &&& Int32.toUInt32 31)).toInt32 = z := ⟨_, rfl⟩
  refine lv_iushr (v := z_1) hx hb dJ6_bitCount_0f7a4_3 ez_1 ?_
  refine lv_ldcw hx hb hown (hts _ t887) dJ6_bitCount_0f7a4_4 ?_
  refine lv_iand hx hb dJ6_bitCount_0f7a4_7 ?_
  refine lv_topi (fun z_2 ez_2 => ?_)
  refine lv_isub hx hb dJ6_bitCount_0f7a4_8 ?_
  refine lv_topi (fun z_3 ez_3 => ?_)
  refine lv_istore_n (lv' := [(0, .int z_3)]) hx hb dJ6_bitCount_0f7a4_9 rfl hl (by decide) rfl (fun ls hl => ?_)
  refine lv_iload_n hx hb dJ6_bitCount_0f7a4_10 rfl (lv_at hl 0 rfl) ?_
  refine lv_ldcw hx hb hown (hts _ t888) dJ6_bitCount_0f7a4_11 ?_
  refine lv_iand hx hb dJ6_bitCount_0f7a4_14 ?_
  refine lv_topi (fun z_4 ez_4 => ?_)
  refine lv_iload_n hx hb dJ6_bitCount_0f7a4_15 rfl (lv_at hl 0 rfl) ?_
  refine lv_iconst (v := 2) hx hb dJ6_bitCount_0f7a4_16 (by decide) ?_
  obtain ⟨z_5, ez_5⟩ : ∃ z : Int32, (Int32.toUInt32 z_3 >>> (Int32.toUInt32 2 &&& Int32.toUInt32 31)).toInt32 = z := ⟨_, rfl⟩
  refine lv_iushr (v := z_5) hx hb dJ6_bitCount_0f7a4_17 ez_5 ?_
  refine lv_ldcw hx hb hown (hts _ t888) dJ6_bitCount_0f7a4_18 ?_
  refine lv_iand hx hb dJ6_bitCount_0f7a4_21 ?_
  refine lv_topi (fun z_6 ez_6 => ?_)
  refine lv_iadd hx hb dJ6_bitCount_0f7a4_22 ?_
  refine lv_topi (fun z_7 ez_7 => ?_)
  refine lv_istore_n (lv' := [(0, .int z_7)]) hx hb dJ6_bitCount_0f7a4_23 rfl hl (by decide) rfl (fun ls hl => ?_)
  refine lv_iload_n hx hb dJ6_bitCount_0f7a4_24 rfl (lv_at hl 0 rfl) ?_
  refine lv_iload_n hx hb dJ6_bitCount_0f7a4_25 rfl (lv_at hl 0 rfl) ?_
  refine lv_iconst (v := 4) hx hb dJ6_bitCount_0f7a4_26 (by decide) ?_
  obtain ⟨z_8, ez_8⟩ : ∃ z : Int32, (Int32.toUInt32 z_7 >>> (Int32.toUInt32 4 &&& Int32.toUInt32 31)).toInt32 = z := ⟨_, rfl⟩
  refine lv_iushr (v := z_8) hx hb dJ6_bitCount_0f7a4_27 ez_8 ?_
  refine lv_iadd hx hb dJ6_bitCount_0f7a4_28 ?_
  refine lv_topi (fun z_9 ez_9 => ?_)
  refine lv_ldcw hx hb hown (hts _ t889) dJ6_bitCount_0f7a4_29 ?_
  refine lv_iand hx hb dJ6_bitCount_0f7a4_32 ?_
  refine lv_topi (fun z_10 ez_10 => ?_)
  refine lv_istore_n (lv' := [(0, .int z_10)]) hx hb dJ6_bitCount_0f7a4_33 rfl hl (by decide) rfl (fun ls hl => ?_)
  refine lv_iload_n hx hb dJ6_bitCount_0f7a4_34 rfl (lv_at hl 0 rfl) ?_
  refine lv_iload_n hx hb dJ6_bitCount_0f7a4_35 rfl (lv_at hl 0 rfl) ?_
  refine lv_bipush (v := 8) hx hb dJ6_bitCount_0f7a4_36 (by decide) ?_
  obtain ⟨z_11, ez_11⟩ : ∃ z : Int32, (Int32.toUInt32 z_10 >>> (Int32.toUInt32 8 &&& Int32.toUInt32 31)).toInt32 = z := ⟨_, rfl⟩
  refine lv_iushr (v := z_11) hx hb dJ6_bitCount_0f7a4_38 ez_11 ?_
  have bz_11 : 0 ≤ z_11.toInt ∧ z_11.toInt ≤ 16777215 := i_ushr8 ez_11
  refine lv_iadd hx hb dJ6_bitCount_0f7a4_39 ?_
  refine lv_topi (fun z_12 ez_12 => ?_)
  refine lv_istore_n (lv' := [(0, .int z_12)]) hx hb dJ6_bitCount_0f7a4_40 rfl hl (by decide) rfl (fun ls hl => ?_)
  refine lv_iload_n hx hb dJ6_bitCount_0f7a4_41 rfl (lv_at hl 0 rfl) ?_
  refine lv_iload_n hx hb dJ6_bitCount_0f7a4_42 rfl (lv_at hl 0 rfl) ?_
  refine lv_bipush (v := 16) hx hb dJ6_bitCount_0f7a4_43 (by decide) ?_
  obtain ⟨z_13, ez_13⟩ : ∃ z : Int32, (Int32.toUInt32 z_12 >>> (Int32.toUInt32 16 &&& Int32.toUInt32 31)).toInt32 = z := ⟨_, rfl⟩
  refine lv_iushr (v := z_13) hx hb dJ6_bitCount_0f7a4_45 ez_13 ?_
  refine lv_iadd hx hb dJ6_bitCount_0f7a4_46 ?_
  refine lv_topi (fun z_14 ez_14 => ?_)
  refine lv_istore_n (lv' := [(0, .int z_14)]) hx hb dJ6_bitCount_0f7a4_47 rfl hl (by decide) rfl (fun ls hl => ?_)
  refine lv_iload_n hx hb dJ6_bitCount_0f7a4_48 rfl (lv_at hl 0 rfl) ?_
  refine lv_bipush (v := 63) hx hb dJ6_bitCount_0f7a4_49 (by decide) ?_
  refine lv_iand hx hb dJ6_bitCount_0f7a4_51 ?_
  refine lv_topi (fun z_15 ez_15 => ?_)
  rw [hQ9]
  exact rr_i hx hb hr hlocks trivial hS dJ6_bitCount_0f7a4_52
abbrev cX3_heaviestLoan : ByteArray := prog_5_method_3_code
def yX3_heaviestLoan : MethodName := ⟨RX3, "heaviestLoan", "(LLikenessPound$World;I)I"⟩
theorem t882 : Cond.code yX3_heaviestLoan cX3_heaviestLoan 8 (some .int) ∈ GW := gw_mem 996 (by decide +kernel) (by decide +kernel)
theorem dX3_heaviestLoan_0 : decode cX3_heaviestLoan 0 = .ok (.aload_n 0, 1) := by decide +kernel
theorem dX3_heaviestLoan_1 : decode cX3_heaviestLoan 1 = .ok (.iload_n 1, 1) := by decide +kernel
theorem dX3_heaviestLoan_2 : decode cX3_heaviestLoan 2 = .ok (.invokevirtual 27, 3) := by decide +kernel
theorem t878 : Cond.methodLink RX3 27 yX9_weightOf ∈ GW := gw_mem 992 (by decide +kernel) (by decide +kernel)
theorem cw_X3_27 {R : Room} {s : State} {args : Array Value} {rm : Room} {mc ms : Nat} (hts : ∀ w ∈ GW, w.before args s = true) (hrc : rm.cells = mc) (hrs : rm.slots = ms) (hR : rm.frames + 1 ≤ R.frames ∧ 8 + (2 + 11) + rm.locals ≤ R.locals) : CallW R s args RX3 RX9 27 yX9_weightOf cX9_weightOf 2 (some .int) (wl yX9_weightOf cX9_weightOf 2 (some .int)) rm mc ms 1 := cwV 1 hts (gi_V t878 t734 t735 t15 t736) rfl hrc hrs (by decide +kernel) hR
theorem dX3_heaviestLoan_5 : decode cX3_heaviestLoan 5 = .ok (.istore_n 2, 1) := by decide +kernel
theorem dX3_heaviestLoan_6 : decode cX3_heaviestLoan 6 = .ok (.aload_n 0, 1) := by decide +kernel
theorem dX3_heaviestLoan_7 : decode cX3_heaviestLoan 7 = .ok (.getfield 15, 3) := by decide +kernel
theorem t460 : Cond.fieldLink RX3 15 "LikenessPound$World" "colony" "LLikenessPound$Colony;" ∈ GW := gw_mem 574 (by decide +kernel) (by decide +kernel)
theorem gf_X3_15 {p : Program} {l : Launch} {e : Env} {R : Room} {s : State} {m : MethodId} {args : Array Value} {below : List Frame} {meth : Method} {c : Code} {H : Heap} {locs : List Loc} {cells slots : Nat} {Q : State → Prop} {cc : ByteArray} {pc : Nat} {ls : Array Slot} {rest : List Value} {D : va_G} {a : Nat} {tys : List (ClassId × FieldType)} {ws : va_W} (hx : p.tables.exec = Jvm.exec) (hb : c.code = cc) (hts : ∀ w ∈ GW, w.before args s = true) (hown : s.vm.findClass RX3 = some m.cls) (hK : va_K D vwCl tys s) (hP : va_P D vwCl ws H) (q0 : Nat) {fs : List Value} (he : ws[q0]? = some (a, .inr (10, fs))) {v : Value} (hv : fs[0]? = some v) (hdg : decode cc pc = .ok (.getfield 15, 3)) (kk : W p l e R s m args below meth c H locs cells slots Q (F0 m (pc + 3) ls (v :: rest))) : W p l e R s m args below meth c H locs cells slots Q (F0 m pc ls (.ref a :: rest)) := va_get (C := RX9) (T := TX9) (N := 3) (ci := 10) hx hb hts inX9 hown hK hP q0 he rfl 0 (by decide) (hts _ t460) (fun _ h => h) hv hdg kk
theorem dX3_heaviestLoan_10 : decode cX3_heaviestLoan 10 = .ok (.getfield 21, 3) := by decide +kernel
theorem t407 : Cond.fieldLink RX3 21 "LikenessPound$Colony" "faint" "I" ∈ GW := gw_mem 521 (by decide +kernel) (by decide +kernel)
theorem gf_X3_21 {p : Program} {l : Launch} {e : Env} {R : Room} {s : State} {m : MethodId} {args : Array Value} {below : List Frame} {meth : Method} {c : Code} {H : Heap} {locs : List Loc} {cells slots : Nat} {Q : State → Prop} {cc : ByteArray} {pc : Nat} {ls : Array Slot} {rest : List Value} {D : va_G} {a : Nat} {tys : List (ClassId × FieldType)} {ws : va_W} (hx : p.tables.exec = Jvm.exec) (hb : c.code = cc) (hts : ∀ w ∈ GW, w.before args s = true) (hown : s.vm.findClass RX3 = some m.cls) (hK : va_K D vwCl tys s) (hP : va_P D vwCl ws H) (q0 : Nat) {fs : List Value} (he : ws[q0]? = some (a, .inr (2, fs))) {v : Value} (hv : fs[8]? = some v) (hdg : decode cc pc = .ok (.getfield 21, 3)) (kk : W p l e R s m args below meth c H locs cells slots Q (F0 m (pc + 3) ls (v :: rest))) : W p l e R s m args below meth c H locs cells slots Q (F0 m pc ls (.ref a :: rest)) := va_get (C := RX1) (T := TX1) (N := 9) (ci := 2) hx hb hts inX1 hown hK hP q0 he rfl 8 (by decide) (hts _ t407) (fun _ h => h) hv hdg kk
theorem dX3_heaviestLoan_13 : decode cX3_heaviestLoan 13 = .ok (.istore_n 3, 1) := by decide +kernel
theorem dX3_heaviestLoan_14 : decode cX3_heaviestLoan 14 = .ok (.iconst 0, 1) := by decide +kernel
theorem dX3_heaviestLoan_15 : decode cX3_heaviestLoan 15 = .ok (.istore 4, 2) := by decide +kernel
theorem dX3_heaviestLoan_17 : decode cX3_heaviestLoan 17 = .ok (.iconst 0, 1) := by decide +kernel
theorem dX3_heaviestLoan_18 : decode cX3_heaviestLoan 18 = .ok (.istore 5, 2) := by decide +kernel
theorem dX3_heaviestLoan_20 : decode cX3_heaviestLoan 20 = .ok (.iload 5, 2) := by decide +kernel
theorem dX3_heaviestLoan_22 : decode cX3_heaviestLoan 22 = .ok (.aload_n 0, 1) := by decide +kernel
theorem dX3_heaviestLoan_23 : decode cX3_heaviestLoan 23 = .ok (.getfield 15, 3) := by decide +kernel
theorem dX3_heaviestLoan_26 : decode cX3_heaviestLoan 26 = .ok (.getfield 63, 3) := by decide +kernel
theorem t398 : Cond.fieldLink RX3 63 "LikenessPound$Colony" "deeds" "I" ∈ GW := gw_mem 512 (by decide +kernel) (by decide +kernel)
theorem gf_X3_63 {p : Program} {l : Launch} {e : Env} {R : Room} {s : State} {m : MethodId} {args : Array Value} {below : List Frame} {meth : Method} {c : Code} {H : Heap} {locs : List Loc} {cells slots : Nat} {Q : State → Prop} {cc : ByteArray} {pc : Nat} {ls : Array Slot} {rest : List Value} {D : va_G} {a : Nat} {tys : List (ClassId × FieldType)} {ws : va_W} (hx : p.tables.exec = Jvm.exec) (hb : c.code = cc) (hts : ∀ w ∈ GW, w.before args s = true) (hown : s.vm.findClass RX3 = some m.cls) (hK : va_K D vwCl tys s) (hP : va_P D vwCl ws H) (q0 : Nat) {fs : List Value} (he : ws[q0]? = some (a, .inr (2, fs))) {v : Value} (hv : fs[6]? = some v) (hdg : decode cc pc = .ok (.getfield 63, 3)) (kk : W p l e R s m args below meth c H locs cells slots Q (F0 m (pc + 3) ls (v :: rest))) : W p l e R s m args below meth c H locs cells slots Q (F0 m pc ls (.ref a :: rest)) := va_get (C := RX1) (T := TX1) (N := 9) (ci := 2) hx hb hts inX1 hown hK hP q0 he rfl 6 (by decide) (hts _ t398) (fun _ h => h) hv hdg kk
theorem dX3_heaviestLoan_29 : decode cX3_heaviestLoan 29 = .ok (.if_icmp .ge 75, 3) := by decide +kernel
theorem dX3_heaviestLoan_104 : decode cX3_heaviestLoan 104 = .ok (.iload 4, 2) := by decide +kernel
theorem dX3_heaviestLoan_106 : decode cX3_heaviestLoan 106 = .ok (.ireturn, 1) := by decide +kernel
theorem dX3_heaviestLoan_32 : decode cX3_heaviestLoan 32 = .ok (.aload_n 0, 1) := by decide +kernel
theorem dX3_heaviestLoan_33 : decode cX3_heaviestLoan 33 = .ok (.getfield 15, 3) := by decide +kernel
theorem dX3_heaviestLoan_36 : decode cX3_heaviestLoan 36 = .ok (.getfield 66, 3) := by decide +kernel
theorem t379 : Cond.fieldLink RX3 66 "LikenessPound$Colony" "weight" "[I" ∈ GW := gw_mem 493 (by decide +kernel) (by decide +kernel)
theorem gf_X3_66 {p : Program} {l : Launch} {e : Env} {R : Room} {s : State} {m : MethodId} {args : Array Value} {below : List Frame} {meth : Method} {c : Code} {H : Heap} {locs : List Loc} {cells slots : Nat} {Q : State → Prop} {cc : ByteArray} {pc : Nat} {ls : Array Slot} {rest : List Value} {D : va_G} {a : Nat} {tys : List (ClassId × FieldType)} {ws : va_W} (hx : p.tables.exec = Jvm.exec) (hb : c.code = cc) (hts : ∀ w ∈ GW, w.before args s = true) (hown : s.vm.findClass RX3 = some m.cls) (hK : va_K D vwCl tys s) (hP : va_P D vwCl ws H) (q0 : Nat) {fs : List Value} (he : ws[q0]? = some (a, .inr (2, fs))) {v : Value} (hv : fs[2]? = some v) (hdg : decode cc pc = .ok (.getfield 66, 3)) (kk : W p l e R s m args below meth c H locs cells slots Q (F0 m (pc + 3) ls (v :: rest))) : W p l e R s m args below meth c H locs cells slots Q (F0 m pc ls (.ref a :: rest)) := va_get (C := RX1) (T := TX1) (N := 9) (ci := 2) hx hb hts inX1 hown hK hP q0 he rfl 2 (by decide) (hts _ t379) (fun _ h => h) hv hdg kk
theorem dX3_heaviestLoan_39 : decode cX3_heaviestLoan 39 = .ok (.iload 5, 2) := by decide +kernel
theorem dX3_heaviestLoan_41 : decode cX3_heaviestLoan 41 = .ok (.iaload, 1) := by decide +kernel
theorem dX3_heaviestLoan_42 : decode cX3_heaviestLoan 42 = .ok (.istore 6, 2) := by decide +kernel
theorem dX3_heaviestLoan_44 : decode cX3_heaviestLoan 44 = .ok (.iload_n 2, 1) := by decide +kernel
theorem dX3_heaviestLoan_45 : decode cX3_heaviestLoan 45 = .ok (.iload_n 3, 1) := by decide +kernel
theorem dX3_heaviestLoan_46 : decode cX3_heaviestLoan 46 = .ok (.if_icmp .lt 11, 3) := by decide +kernel
theorem dX3_heaviestLoan_57 : decode cX3_heaviestLoan 57 = .ok (.iconst 1, 1) := by decide +kernel
theorem dX3_heaviestLoan_58 : decode cX3_heaviestLoan 58 = .ok (.goto 4, 3) := by decide +kernel
theorem dX3_heaviestLoan_62 : decode cX3_heaviestLoan 62 = .ok (.istore 7, 2) := by decide +kernel
theorem dX3_heaviestLoan_64 : decode cX3_heaviestLoan 64 = .ok (.iload 7, 2) := by decide +kernel
theorem dX3_heaviestLoan_66 : decode cX3_heaviestLoan 66 = .ok (.ifCond .eq 32, 3) := by decide +kernel
theorem dX3_heaviestLoan_69 : decode cX3_heaviestLoan 69 = .ok (.aload_n 0, 1) := by decide +kernel
theorem dX3_heaviestLoan_70 : decode cX3_heaviestLoan 70 = .ok (.getfield 38, 3) := by decide +kernel
theorem t464 : Cond.fieldLink RX3 38 "LikenessPound$World" "life" "LLikenessPound$Life;" ∈ GW := gw_mem 578 (by decide +kernel) (by decide +kernel)
theorem gf_X3_38 {p : Program} {l : Launch} {e : Env} {R : Room} {s : State} {m : MethodId} {args : Array Value} {below : List Frame} {meth : Method} {c : Code} {H : Heap} {locs : List Loc} {cells slots : Nat} {Q : State → Prop} {cc : ByteArray} {pc : Nat} {ls : Array Slot} {rest : List Value} {D : va_G} {a : Nat} {tys : List (ClassId × FieldType)} {ws : va_W} (hx : p.tables.exec = Jvm.exec) (hb : c.code = cc) (hts : ∀ w ∈ GW, w.before args s = true) (hown : s.vm.findClass RX3 = some m.cls) (hK : va_K D vwCl tys s) (hP : va_P D vwCl ws H) (q0 : Nat) {fs : List Value} (he : ws[q0]? = some (a, .inr (10, fs))) {v : Value} (hv : fs[1]? = some v) (hdg : decode cc pc = .ok (.getfield 38, 3)) (kk : W p l e R s m args below meth c H locs cells slots Q (F0 m (pc + 3) ls (v :: rest))) : W p l e R s m args below meth c H locs cells slots Q (F0 m pc ls (.ref a :: rest)) := va_get (C := RX9) (T := TX9) (N := 3) (ci := 10) hx hb hts inX9 hown hK hP q0 he rfl 1 (by decide) (hts _ t464) (fun _ h => h) hv hdg kk
theorem dX3_heaviestLoan_73 : decode cX3_heaviestLoan 73 = .ok (.getfield 69, 3) := by decide +kernel
theorem t234 : Cond.fieldLink RX3 69 "LikenessPound$Life" "did" "[I" ∈ GW := gw_mem 348 (by decide +kernel) (by decide +kernel)
theorem gf_X3_69 {p : Program} {l : Launch} {e : Env} {R : Room} {s : State} {m : MethodId} {args : Array Value} {below : List Frame} {meth : Method} {c : Code} {H : Heap} {locs : List Loc} {cells slots : Nat} {Q : State → Prop} {cc : ByteArray} {pc : Nat} {ls : Array Slot} {rest : List Value} {D : va_G} {a : Nat} {tys : List (ClassId × FieldType)} {ws : va_W} (hx : p.tables.exec = Jvm.exec) (hb : c.code = cc) (hts : ∀ w ∈ GW, w.before args s = true) (hown : s.vm.findClass RX3 = some m.cls) (hK : va_K D vwCl tys s) (hP : va_P D vwCl ws H) (q0 : Nat) {fs : List Value} (he : ws[q0]? = some (a, .inr (5, fs))) {v : Value} (hv : fs[1]? = some v) (hdg : decode cc pc = .ok (.getfield 69, 3)) (kk : W p l e R s m args below meth c H locs cells slots Q (F0 m (pc + 3) ls (v :: rest))) : W p l e R s m args below meth c H locs cells slots Q (F0 m pc ls (.ref a :: rest)) := va_get (C := RX4) (T := TX4) (N := 11) (ci := 5) hx hb hts inX4 hown hK hP q0 he rfl 1 (by decide) (hts _ t234) (fun _ h => h) hv hdg kk
theorem dX3_heaviestLoan_76 : decode cX3_heaviestLoan 76 = .ok (.iload_n 1, 1) := by decide +kernel
theorem dX3_heaviestLoan_77 : decode cX3_heaviestLoan 77 = .ok (.bipush 10, 2) := by decide +kernel
theorem dX3_heaviestLoan_79 : decode cX3_heaviestLoan 79 = .ok (.imul, 1) := by decide +kernel
theorem dX3_heaviestLoan_80 : decode cX3_heaviestLoan 80 = .ok (.iload 5, 2) := by decide +kernel
theorem dX3_heaviestLoan_82 : decode cX3_heaviestLoan 82 = .ok (.iadd, 1) := by decide +kernel
theorem dX3_heaviestLoan_83 : decode cX3_heaviestLoan 83 = .ok (.iaload, 1) := by decide +kernel
theorem dX3_heaviestLoan_84 : decode cX3_heaviestLoan 84 = .ok (.ifCond .le 14, 3) := by decide +kernel
theorem dX3_heaviestLoan_98 : decode cX3_heaviestLoan 98 = .ok (.iinc 5 1, 3) := by decide +kernel
theorem dX3_heaviestLoan_101 : decode cX3_heaviestLoan 101 = .ok (.goto (-81), 3) := by decide +kernel
theorem dX3_heaviestLoan_87 : decode cX3_heaviestLoan 87 = .ok (.iload 6, 2) := by decide +kernel
theorem dX3_heaviestLoan_89 : decode cX3_heaviestLoan 89 = .ok (.iload 4, 2) := by decide +kernel
theorem dX3_heaviestLoan_91 : decode cX3_heaviestLoan 91 = .ok (.if_icmp .le 7, 3) := by decide +kernel
theorem dX3_heaviestLoan_94 : decode cX3_heaviestLoan 94 = .ok (.iload 6, 2) := by decide +kernel
theorem dX3_heaviestLoan_96 : decode cX3_heaviestLoan 96 = .ok (.istore 4, 2) := by decide +kernel
theorem dX3_heaviestLoan_49 : decode cX3_heaviestLoan 49 = .ok (.iload_n 2, 1) := by decide +kernel
theorem dX3_heaviestLoan_50 : decode cX3_heaviestLoan 50 = .ok (.iload 6, 2) := by decide +kernel
theorem dX3_heaviestLoan_52 : decode cX3_heaviestLoan 52 = .ok (.isub, 1) := by decide +kernel
theorem dX3_heaviestLoan_53 : decode cX3_heaviestLoan 53 = .ok (.iload_n 3, 1) := by decide +kernel
theorem dX3_heaviestLoan_54 : decode cX3_heaviestLoan 54 = .ok (.if_icmp .lt 7, 3) := by decide +kernel
theorem dX3_heaviestLoan_61 : decode cX3_heaviestLoan 61 = .ok (.iconst 0, 1) := by decide +kernel
set_option maxHeartbeats 4000000 in
set_option maxRecDepth 100000 in
theorem g_heaviestLoan (l : Launch) (dC : Nat → ClassId) (dI : Nat → Nat → Nat) (cy : Nat → ClassId) (vw : Nat) (vwc : Nat) (vwl : Nat) (vws : Nat) (vwc1 : Nat) (vwc2 : Nat) (vwc3 : Nat) (vwc4 : Nat) (vwc5 : Nat) (vwcm : Int32) (vwcd : Int32) (vwcr : Int32) (vwcw : Int32) (vwcf3 : Nat → Int32) (vwcf4 : Nat → Int32) (vwl1 : Nat) (vwl2 : Nat) (vwl3 : Nat) (vwl4 : Nat) (vwl5 : Nat) (vwl6 : Nat) (vwl7 : Nat) (vwl8 : Nat) (vwl9 : Nat) (vwl10 : Nat) (vwly : Int32) (vwlf2 : Nat → Int32) (vwlf3 : Nat → Int32) (vwlf4 : Nat → Int32) (vwlf5 : Nat → Int32) (vk : Int32) (r_vwcm : 0 ≤ (vwcm : Int32).toInt ∧ (vwcm : Int32).toInt ≤ 7) (r_vwcd : 0 ≤ (vwcd : Int32).toInt ∧ (vwcd : Int32).toInt ≤ 10) (r_vk : 0 ≤ (vk : Int32).toInt ∧ (vk : Int32).toInt ≤ 6) (p_vwcf3 : Rg vwcf3 10 0 40) (p_vwlf2 : Rg vwlf2 70 0 9) (p_vwlf5 : Rg vwlf5 7 (-1) 9) : Met l yX3_heaviestLoan (wl yX3_heaviestLoan cX3_heaviestLoan 8 (some .int)) ({ frames := 3, cells := 0, slots := 0, locals := 192 }) (Pr (dC, dI) vwCl cy [(vw, .inr (10, [.ref vwc, .ref vwl, .ref vws])), (vwc, .inr (2, [.ref vwc1, .ref vwc2, .ref vwc3, .ref vwc4, .ref vwc5, .int vwcm, .int vwcd, .int vwcr, .int vwcw])), (vwc3, .inl (cy 0, 10, .inl vwcf3)), (vwc4, .inl (cy 2, 10, .inl vwcf4)), (vwl, .inr (5, [.ref vwl1, .ref vwl2, .ref vwl3, .ref vwl4, .ref vwl5, .ref vwl6, .ref vwl7, .ref vwl8, .ref vwl9, .ref vwl10, .int vwly])), (vwl2, .inl (cy 0, 70, .inl vwlf2)), (vwl3, .inl (cy 0, 49, .inl vwlf3)), (vwl4, .inl (cy 0, 7, .inl vwlf4)), (vwl5, .inl (cy 0, 7, .inl vwlf5))] [.ref vw, .int vk]) (Ri (fun r => True)) 0 0 (fun _ => False) := by
  refine mr RX3 rfl (by decide +kernel) (Nat.le_of_ble_eq_true rfl) ?_
  intro p e s m below meth c hx hb hr hlocks av9 hav hts hown hml hK hP hS Q9 hQ9 ls hl
  have hl : lv_has ls 8 [(0, .ref vw), (1, .int vk)] := hl
  refine lv_aload_n hx hb dX3_heaviestLoan_0 rfl (lv_at hl 0 rfl) ?_
  refine lv_iload_n hx hb dX3_heaviestLoan_1 rfl (lv_at hl 1 rfl) ?_
  refine jr_i (rVr (As := [.int vk]) (rest := []) (ci := 10) ⟨hx, hb, hml, hown, hts⟩ (g_weightOf l dC dI cy vw vwc vwl vws vwc1 vwc2 vwc3 vwc4 vwc5 vwcm vwcd vwcr vwcw vwcf3 vwcf4 vwl1 vwl2 vwl3 vwl4 vwl5 vwl6 vwl7 vwl8 vwl9 vwl10 vwly vwlf2 vwlf3 vwlf4 vwlf5 vk r_vwcm r_vwcd r_vk p_vwcf3 p_vwlf2 p_vwlf5) (cw_X3_27 hts rfl rfl ⟨Nat.le_of_ble_eq_true rfl, Nat.le_of_ble_eq_true rfl⟩) hP hK [0, 1, 2, 3, 4, 5, 6, 7, 8] rfl rfl rfl rfl hl.1 rfl (Nat.le_of_ble_eq_true rfl) dX3_heaviestLoan_2 ⟨Nat.le_of_ble_eq_true rfl, Nat.le_of_ble_eq_true rfl⟩) hP hS (fun r_1 H locs hp_2 hP hS => ?_)
  refine lv_istore_n (lv' := [(2, .int r_1), (0, .ref vw), (1, .int vk)]) hx hb dX3_heaviestLoan_5 rfl hl (by decide) rfl (fun ls hl => ?_)
  refine lv_aload_n hx hb dX3_heaviestLoan_6 rfl (lv_at hl 1 rfl) ?_
  refine gf_X3_15 hx hb hts hown hK hP 0 rfl rfl dX3_heaviestLoan_7 ?_
  refine gf_X3_21 hx hb hts hown hK hP 1 rfl rfl dX3_heaviestLoan_10 ?_
  refine lv_istore_n (lv' := [(3, .int vwcw), (2, .int r_1), (0, .ref vw), (1, .int vk)]) hx hb dX3_heaviestLoan_13 rfl hl (by decide) rfl (fun ls hl => ?_)
  refine lv_iconst (v := 0) hx hb dX3_heaviestLoan_14 (by decide) ?_
  refine lv_istore (lv' := [(4, .int 0), (3, .int vwcw), (2, .int r_1), (0, .ref vw), (1, .int vk)]) hx hb dX3_heaviestLoan_15 hl (by decide) rfl (fun ls hl => ?_)
  refine lv_iconst (v := 0) hx hb dX3_heaviestLoan_17 (by decide) ?_
  refine lv_istore (lv' := [(5, .int 0), (4, .int 0), (3, .int vwcw), (2, .int r_1), (0, .ref vw), (1, .int vk)]) hx hb dX3_heaviestLoan_18 hl (by decide) rfl (fun ls hl => ?_)
  have loop3 : ∀ (n3 : Nat) (x_5 : Int32) (x_4 : Int32), (0 ≤ x_4.toInt ∧ x_4.toInt ≤ 10) → 10 - x_4.toInt < (n3 : Int) → ∀ (H : Heap) (locs : List Loc), va_P (dC, dI) vwCl [(vw, .inr (10, [.ref vwc, .ref vwl, .ref vws])), (vwc, .inr (2, [.ref vwc1, .ref vwc2, .ref vwc3, .ref vwc4, .ref vwc5, .int vwcm, .int vwcd, .int vwcr, .int vwcw])), (vwc3, .inl (cy 0, 10, .inl vwcf3)), (vwc4, .inl (cy 2, 10, .inl vwcf4)), (vwl, .inr (5, [.ref vwl1, .ref vwl2, .ref vwl3, .ref vwl4, .ref vwl5, .ref vwl6, .ref vwl7, .ref vwl8, .ref vwl9, .ref vwl10, .int vwly])), (vwl2, .inl (cy 0, 70, .inl vwlf2)), (vwl3, .inl (cy 0, 49, .inl vwlf3)), (vwl4, .inl (cy 0, 7, .inl vwlf4)), (vwl5, .inl (cy 0, 7, .inl vwlf5))] H → va_S (fun _ => False) s.heap H locs → ∀ ls : Array Slot, lv_has ls 8 [(5, .int x_4), (4, .int x_5), (3, .int vwcw), (2, .int r_1), (0, .ref vw), (1, .int vk)] → W p l e ({ frames := 3, cells := 0, slots := 0, locals := 192 }) s m av9 below meth c H locs 0 0 Q9 (F0 m 20 ls []) := by
    intro n3
    induction n3 with
    | zero =>
      intro x_5 x_4 bx_4 hn3 H locs hP hS ls hl
      exfalso; omega
    | succ n3 ih3 =>
      intro x_5 x_4 bx_4 hn3 H locs hP hS ls hl
      refine lv_iload hx hb dX3_heaviestLoan_20 (lv_at hl 0 rfl) ?_
      refine lv_aload_n hx hb dX3_heaviestLoan_22 rfl (lv_at hl 4 rfl) ?_
      refine gf_X3_15 hx hb hts hown hK hP 0 rfl rfl dX3_heaviestLoan_23 ?_
      refine gf_X3_63 hx hb hts hown hK hP 1 rfl rfl dX3_heaviestLoan_26 ?_
      refine lv_icmp_ge (tgt := 104) hx hb dX3_heaviestLoan_29 (by decide) (fun c_6 => ?_) (fun c_6 => ?_)
      · skip
        have c_6 : vwcd.toInt ≤ x_4.toInt := i_le.mp c_6
        refine lv_iload hx hb dX3_heaviestLoan_104 (lv_at hl 1 rfl) ?_
        rw [hQ9]
        exact rr_i hx hb hr hlocks trivial hS dX3_heaviestLoan_106
      · skip
        have c_6 : ¬ (vwcd.toInt ≤ x_4.toInt) := fun h9 => c_6 (i_le.mpr h9)
        refine lv_aload_n hx hb dX3_heaviestLoan_32 rfl (lv_at hl 4 rfl) ?_
        refine gf_X3_15 hx hb hts hown hK hP 0 rfl rfl dX3_heaviestLoan_33 ?_
        refine gf_X3_66 hx hb hts hown hK hP 1 rfl rfl dX3_heaviestLoan_36 ?_
        refine lv_iload hx hb dX3_heaviestLoan_39 (lv_at hl 0 rfl) ?_
        have hin_7 : vp_in x_4 10 := vp_in_iff.mpr ⟨by omega, by omega⟩
        refine va_iald hx hb hK hP 2 0 rfl rfl hin_7 dX3_heaviestLoan_41 ?_
        refine lv_topi (fun z_8 ez_8 => ?_)
        have bz_8 := p_vwcf3.at hin_7 ez_8
        refine lv_istore (lv' := [(6, .int z_8), (5, .int x_4), (4, .int x_5), (3, .int vwcw), (2, .int r_1), (0, .ref vw), (1, .int vk)]) hx hb dX3_heaviestLoan_42 hl (by decide) rfl (fun ls hl => ?_)
        refine lv_iload_n hx hb dX3_heaviestLoan_44 rfl (lv_at hl 4 rfl) ?_
        refine lv_iload_n hx hb dX3_heaviestLoan_45 rfl (lv_at hl 3 rfl) ?_
        refine lv_icmp_lt (tgt := 57) hx hb dX3_heaviestLoan_46 (by decide) (fun c_9 => ?_) (fun c_9 => ?_)
        · skip
          have c_9 : r_1.toInt < vwcw.toInt := i_lt.mp c_9
          refine lv_iconst (v := 1) hx hb dX3_heaviestLoan_57 (by decide) ?_
          refine lv_goto (tgt := 62) hx hb dX3_heaviestLoan_58 (by decide) ?_
          refine lv_istore (lv' := [(7, .int 1), (6, .int z_8), (5, .int x_4), (4, .int x_5), (3, .int vwcw), (2, .int r_1), (0, .ref vw), (1, .int vk)]) hx hb dX3_heaviestLoan_62 hl (by decide) rfl (fun ls hl => ?_)
          refine lv_iload hx hb dX3_heaviestLoan_64 (lv_at hl 0 rfl) ?_
          refine lv_if_eq (tgt := 98) hx hb dX3_heaviestLoan_66 (by decide) (fun c9 => absurd c9 (by decide)) (fun _ => ?_)
          refine lv_aload_n hx hb dX3_heaviestLoan_69 rfl (lv_at hl 6 rfl) ?_
          refine gf_X3_38 hx hb hts hown hK hP 0 rfl rfl dX3_heaviestLoan_70 ?_
          refine gf_X3_69 hx hb hts hown hK hP 4 rfl rfl dX3_heaviestLoan_73 ?_
          refine lv_iload_n hx hb dX3_heaviestLoan_76 rfl (lv_at hl 7 rfl) ?_
          refine lv_bipush (v := 10) hx hb dX3_heaviestLoan_77 (by decide) ?_
          refine lv_imul hx hb dX3_heaviestLoan_79 ?_
          refine lv_topi (fun z_10 ez_10 => ?_)
          have k_10 : (10 : Int32).toInt = 10 := by decide
          have bz_10 : z_10.toInt = vk.toInt * 10 := i_mulc k_10 ez_10 (by omega) (by omega)
          refine lv_iload hx hb dX3_heaviestLoan_80 (lv_at hl 2 rfl) ?_
          refine lv_iadd hx hb dX3_heaviestLoan_82 ?_
          refine lv_topi (fun z_11 ez_11 => ?_)
          have bz_11 : z_11.toInt = z_10.toInt + x_4.toInt := i_add ez_11 (by omega) (by omega)
          have hin_12 : vp_in z_11 70 := vp_in_iff.mpr ⟨by omega, by omega⟩
          refine va_iald hx hb hK hP 5 0 rfl rfl hin_12 dX3_heaviestLoan_83 ?_
          refine lv_topi (fun z_13 ez_13 => ?_)
          have bz_13 := p_vwlf2.at hin_12 ez_13
          have k_0 : (0 : Int32).toInt = 0 := by decide
          refine lv_if_le (tgt := 98) hx hb dX3_heaviestLoan_84 (by decide) (fun c_14 => ?_) (fun c_14 => ?_)
          · skip
            have c_14 : z_13.toInt ≤ (0 : Int32).toInt := i_le.mp c_14
            obtain ⟨z_15, ez_15⟩ : ∃ z : Int32, z = x_4 + 1 := ⟨_, rfl⟩
            have k_1 : (1 : Int32).toInt = 1 := by decide
            have bz_15 : z_15.toInt = x_4.toInt + (1 : Int32).toInt := i_add ez_15 (by omega) (by omega)
            refine lv_iinc (v := z_15) (lv' := [(5, .int z_15), (7, .int 1), (6, .int z_8), (4, .int x_5), (3, .int vwcw), (2, .int r_1), (0, .ref vw), (1, .int vk)]) hx hb dX3_heaviestLoan_98 hl (k := 2) rfl ez_15.symm (by decide) rfl (fun ls hl => ?_)
            refine lv_goto (tgt := 20) hx hb dX3_heaviestLoan_101 (by decide) ?_
            exact ih3 x_5 z_15 ⟨by omega, by omega⟩ (by omega) _ _ (hP.sub [0, 1, 2, 3, 4, 5, 6, 7, 8] rfl) hS ls (lv_sub hl [0, 3, 4, 5, 6, 7] rfl)
          · skip
            have c_14 : ¬ (z_13.toInt ≤ (0 : Int32).toInt) := fun h9 => c_14 (i_le.mpr h9)
            refine lv_iload hx hb dX3_heaviestLoan_87 (lv_at hl 1 rfl) ?_
            refine lv_iload hx hb dX3_heaviestLoan_89 (lv_at hl 3 rfl) ?_
            refine lv_icmp_le (tgt := 98) hx hb dX3_heaviestLoan_91 (by decide) (fun c_16 => ?_) (fun c_16 => ?_)
            · skip
              have c_16 : z_8.toInt ≤ x_5.toInt := i_le.mp c_16
              obtain ⟨z_17, ez_17⟩ : ∃ z : Int32, z = x_4 + 1 := ⟨_, rfl⟩
              have k_1 : (1 : Int32).toInt = 1 := by decide
              have bz_17 : z_17.toInt = x_4.toInt + (1 : Int32).toInt := i_add ez_17 (by omega) (by omega)
              refine lv_iinc (v := z_17) (lv' := [(5, .int z_17), (7, .int 1), (6, .int z_8), (4, .int x_5), (3, .int vwcw), (2, .int r_1), (0, .ref vw), (1, .int vk)]) hx hb dX3_heaviestLoan_98 hl (k := 2) rfl ez_17.symm (by decide) rfl (fun ls hl => ?_)
              refine lv_goto (tgt := 20) hx hb dX3_heaviestLoan_101 (by decide) ?_
              exact ih3 x_5 z_17 ⟨by omega, by omega⟩ (by omega) _ _ (hP.sub [0, 1, 2, 3, 4, 5, 6, 7, 8] rfl) hS ls (lv_sub hl [0, 3, 4, 5, 6, 7] rfl)
            · skip
              have c_16 : ¬ (z_8.toInt ≤ x_5.toInt) := fun h9 => c_16 (i_le.mpr h9)
              refine lv_iload hx hb dX3_heaviestLoan_94 (lv_at hl 1 rfl) ?_
              refine lv_istore (lv' := [(4, .int z_8), (7, .int 1), (6, .int z_8), (5, .int x_4), (3, .int vwcw), (2, .int r_1), (0, .ref vw), (1, .int vk)]) hx hb dX3_heaviestLoan_96 hl (by decide) rfl (fun ls hl => ?_)
              obtain ⟨z_18, ez_18⟩ : ∃ z : Int32, z = x_4 + 1 := ⟨_, rfl⟩
              have k_1 : (1 : Int32).toInt = 1 := by decide
              have bz_18 : z_18.toInt = x_4.toInt + (1 : Int32).toInt := i_add ez_18 (by omega) (by omega)
              refine lv_iinc (v := z_18) (lv' := [(5, .int z_18), (4, .int z_8), (7, .int 1), (6, .int z_8), (3, .int vwcw), (2, .int r_1), (0, .ref vw), (1, .int vk)]) hx hb dX3_heaviestLoan_98 hl (k := 3) rfl ez_18.symm (by decide) rfl (fun ls hl => ?_)
              refine lv_goto (tgt := 20) hx hb dX3_heaviestLoan_101 (by decide) ?_
              exact ih3 z_8 z_18 ⟨by omega, by omega⟩ (by omega) _ _ (hP.sub [0, 1, 2, 3, 4, 5, 6, 7, 8] rfl) hS ls (lv_sub hl [0, 1, 4, 5, 6, 7] rfl)
        · skip
          have c_9 : ¬ (r_1.toInt < vwcw.toInt) := fun h9 => c_9 (i_lt.mpr h9)
          refine lv_iload_n hx hb dX3_heaviestLoan_49 rfl (lv_at hl 4 rfl) ?_
          refine lv_iload hx hb dX3_heaviestLoan_50 (lv_at hl 0 rfl) ?_
          refine lv_isub hx hb dX3_heaviestLoan_52 ?_
          refine lv_topi (fun z_19 ez_19 => ?_)
          refine lv_iload_n hx hb dX3_heaviestLoan_53 rfl (lv_at hl 3 rfl) ?_
          refine lv_icmp_lt (tgt := 61) hx hb dX3_heaviestLoan_54 (by decide) (fun c_20 => ?_) (fun c_20 => ?_)
          · skip
            have c_20 : z_19.toInt < vwcw.toInt := i_lt.mp c_20
            refine lv_iconst (v := 0) hx hb dX3_heaviestLoan_61 (by decide) ?_
            refine lv_istore (lv' := [(7, .int 0), (6, .int z_8), (5, .int x_4), (4, .int x_5), (3, .int vwcw), (2, .int r_1), (0, .ref vw), (1, .int vk)]) hx hb dX3_heaviestLoan_62 hl (by decide) rfl (fun ls hl => ?_)
            refine lv_iload hx hb dX3_heaviestLoan_64 (lv_at hl 0 rfl) ?_
            refine lv_if_eq (tgt := 98) hx hb dX3_heaviestLoan_66 (by decide) (fun _ => ?_) (fun c9 => absurd (by decide) c9)
            obtain ⟨z_21, ez_21⟩ : ∃ z : Int32, z = x_4 + 1 := ⟨_, rfl⟩
            have k_1 : (1 : Int32).toInt = 1 := by decide
            have bz_21 : z_21.toInt = x_4.toInt + (1 : Int32).toInt := i_add ez_21 (by omega) (by omega)
            refine lv_iinc (v := z_21) (lv' := [(5, .int z_21), (7, .int 0), (6, .int z_8), (4, .int x_5), (3, .int vwcw), (2, .int r_1), (0, .ref vw), (1, .int vk)]) hx hb dX3_heaviestLoan_98 hl (k := 2) rfl ez_21.symm (by decide) rfl (fun ls hl => ?_)
            refine lv_goto (tgt := 20) hx hb dX3_heaviestLoan_101 (by decide) ?_
            exact ih3 x_5 z_21 ⟨by omega, by omega⟩ (by omega) _ _ (hP.sub [0, 1, 2, 3, 4, 5, 6, 7, 8] rfl) hS ls (lv_sub hl [0, 3, 4, 5, 6, 7] rfl)
          · skip
            have c_20 : ¬ (z_19.toInt < vwcw.toInt) := fun h9 => c_20 (i_lt.mpr h9)
            refine lv_iconst (v := 1) hx hb dX3_heaviestLoan_57 (by decide) ?_
            refine lv_goto (tgt := 62) hx hb dX3_heaviestLoan_58 (by decide) ?_
            refine lv_istore (lv' := [(7, .int 1), (6, .int z_8), (5, .int x_4), (4, .int x_5), (3, .int vwcw), (2, .int r_1), (0, .ref vw), (1, .int vk)]) hx hb dX3_heaviestLoan_62 hl (by decide) rfl (fun ls hl => ?_)
            refine lv_iload hx hb dX3_heaviestLoan_64 (lv_at hl 0 rfl) ?_
            refine lv_if_eq (tgt := 98) hx hb dX3_heaviestLoan_66 (by decide) (fun c9 => absurd c9 (by decide)) (fun _ => ?_)
            refine lv_aload_n hx hb dX3_heaviestLoan_69 rfl (lv_at hl 6 rfl) ?_
            refine gf_X3_38 hx hb hts hown hK hP 0 rfl rfl dX3_heaviestLoan_70 ?_
            refine gf_X3_69 hx hb hts hown hK hP 4 rfl rfl dX3_heaviestLoan_73 ?_
            refine lv_iload_n hx hb dX3_heaviestLoan_76 rfl (lv_at hl 7 rfl) ?_
            refine lv_bipush (v := 10) hx hb dX3_heaviestLoan_77 (by decide) ?_
            refine lv_imul hx hb dX3_heaviestLoan_79 ?_
            refine lv_topi (fun z_22 ez_22 => ?_)
            have k_10 : (10 : Int32).toInt = 10 := by decide
            have bz_22 : z_22.toInt = vk.toInt * 10 := i_mulc k_10 ez_22 (by omega) (by omega)
            refine lv_iload hx hb dX3_heaviestLoan_80 (lv_at hl 2 rfl) ?_
            refine lv_iadd hx hb dX3_heaviestLoan_82 ?_
            refine lv_topi (fun z_23 ez_23 => ?_)
            have bz_23 : z_23.toInt = z_22.toInt + x_4.toInt := i_add ez_23 (by omega) (by omega)
            have hin_24 : vp_in z_23 70 := vp_in_iff.mpr ⟨by omega, by omega⟩
            refine va_iald hx hb hK hP 5 0 rfl rfl hin_24 dX3_heaviestLoan_83 ?_
            refine lv_topi (fun z_25 ez_25 => ?_)
            have bz_25 := p_vwlf2.at hin_24 ez_25
            have k_0 : (0 : Int32).toInt = 0 := by decide
            refine lv_if_le (tgt := 98) hx hb dX3_heaviestLoan_84 (by decide) (fun c_26 => ?_) (fun c_26 => ?_)
            · skip
              have c_26 : z_25.toInt ≤ (0 : Int32).toInt := i_le.mp c_26
              obtain ⟨z_27, ez_27⟩ : ∃ z : Int32, z = x_4 + 1 := ⟨_, rfl⟩
              have k_1 : (1 : Int32).toInt = 1 := by decide
              have bz_27 : z_27.toInt = x_4.toInt + (1 : Int32).toInt := i_add ez_27 (by omega) (by omega)
              refine lv_iinc (v := z_27) (lv' := [(5, .int z_27), (7, .int 1), (6, .int z_8), (4, .int x_5), (3, .int vwcw), (2, .int r_1), (0, .ref vw), (1, .int vk)]) hx hb dX3_heaviestLoan_98 hl (k := 2) rfl ez_27.symm (by decide) rfl (fun ls hl => ?_)
              refine lv_goto (tgt := 20) hx hb dX3_heaviestLoan_101 (by decide) ?_
              exact ih3 x_5 z_27 ⟨by omega, by omega⟩ (by omega) _ _ (hP.sub [0, 1, 2, 3, 4, 5, 6, 7, 8] rfl) hS ls (lv_sub hl [0, 3, 4, 5, 6, 7] rfl)
            · skip
              have c_26 : ¬ (z_25.toInt ≤ (0 : Int32).toInt) := fun h9 => c_26 (i_le.mpr h9)
              refine lv_iload hx hb dX3_heaviestLoan_87 (lv_at hl 1 rfl) ?_
              refine lv_iload hx hb dX3_heaviestLoan_89 (lv_at hl 3 rfl) ?_
              refine lv_icmp_le (tgt := 98) hx hb dX3_heaviestLoan_91 (by decide) (fun c_28 => ?_) (fun c_28 => ?_)
              · skip
                have c_28 : z_8.toInt ≤ x_5.toInt := i_le.mp c_28
                obtain ⟨z_29, ez_29⟩ : ∃ z : Int32, z = x_4 + 1 := ⟨_, rfl⟩
                have k_1 : (1 : Int32).toInt = 1 := by decide
                have bz_29 : z_29.toInt = x_4.toInt + (1 : Int32).toInt := i_add ez_29 (by omega) (by omega)
                refine lv_iinc (v := z_29) (lv' := [(5, .int z_29), (7, .int 1), (6, .int z_8), (4, .int x_5), (3, .int vwcw), (2, .int r_1), (0, .ref vw), (1, .int vk)]) hx hb dX3_heaviestLoan_98 hl (k := 2) rfl ez_29.symm (by decide) rfl (fun ls hl => ?_)
                refine lv_goto (tgt := 20) hx hb dX3_heaviestLoan_101 (by decide) ?_
                exact ih3 x_5 z_29 ⟨by omega, by omega⟩ (by omega) _ _ (hP.sub [0, 1, 2, 3, 4, 5, 6, 7, 8] rfl) hS ls (lv_sub hl [0, 3, 4, 5, 6, 7] rfl)
              · skip
                have c_28 : ¬ (z_8.toInt ≤ x_5.toInt) := fun h9 => c_28 (i_le.mpr h9)
                refine lv_iload hx hb dX3_heaviestLoan_94 (lv_at hl 1 rfl) ?_
                refine lv_istore (lv' := [(4, .int z_8), (7, .int 1), (6, .int z_8), (5, .int x_4), (3, .int vwcw), (2, .int r_1), (0, .ref vw), (1, .int vk)]) hx hb dX3_heaviestLoan_96 hl (by decide) rfl (fun ls hl => ?_)
                obtain ⟨z_30, ez_30⟩ : ∃ z : Int32, z = x_4 + 1 := ⟨_, rfl⟩
                have k_1 : (1 : Int32).toInt = 1 := by decide
                have bz_30 : z_30.toInt = x_4.toInt + (1 : Int32).toInt := i_add ez_30 (by omega) (by omega)
                refine lv_iinc (v := z_30) (lv' := [(5, .int z_30), (4, .int z_8), (7, .int 1), (6, .int z_8), (3, .int vwcw), (2, .int r_1), (0, .ref vw), (1, .int vk)]) hx hb dX3_heaviestLoan_98 hl (k := 3) rfl ez_30.symm (by decide) rfl (fun ls hl => ?_)
                refine lv_goto (tgt := 20) hx hb dX3_heaviestLoan_101 (by decide) ?_
                exact ih3 z_8 z_30 ⟨by omega, by omega⟩ (by omega) _ _ (hP.sub [0, 1, 2, 3, 4, 5, 6, 7, 8] rfl) hS ls (lv_sub hl [0, 1, 4, 5, 6, 7] rfl)
  have k_0 : (0 : Int32).toInt = 0 := by decide
  exact loop3 ((10 - (0 : Int32).toInt).toNat + 1) 0 0 ⟨by omega, by omega⟩ (by omega) _ _ hP hS ls (lv_sub hl [0, 1, 2, 3, 4, 5] rfl)
abbrev cX3_loanOf : ByteArray := prog_5_method_4_code
def yX3_loanOf : MethodName := ⟨RX3, "loanOf", "(I)I"⟩
theorem t893 : Cond.code yX3_loanOf cX3_loanOf 4 (some .int) ∈ GW := gw_mem 1007 (by decide +kernel) (by decide +kernel)
theorem dX3_loanOf_0 : decode cX3_loanOf 0 = .ok (.iconst 0, 1) := by decide +kernel
theorem dX3_loanOf_1 : decode cX3_loanOf 1 = .ok (.istore_n 2, 1) := by decide +kernel
theorem dX3_loanOf_2 : decode cX3_loanOf 2 = .ok (.iconst 0, 1) := by decide +kernel
theorem dX3_loanOf_3 : decode cX3_loanOf 3 = .ok (.istore_n 3, 1) := by decide +kernel
theorem dX3_loanOf_4 : decode cX3_loanOf 4 = .ok (.iload_n 3, 1) := by decide +kernel
theorem dX3_loanOf_5 : decode cX3_loanOf 5 = .ok (.bipush 7, 2) := by decide +kernel
theorem dX3_loanOf_7 : decode cX3_loanOf 7 = .ok (.if_icmp .ge 26, 3) := by decide +kernel
theorem dX3_loanOf_33 : decode cX3_loanOf 33 = .ok (.iload_n 2, 1) := by decide +kernel
theorem dX3_loanOf_34 : decode cX3_loanOf 34 = .ok (.ireturn, 1) := by decide +kernel
theorem dX3_loanOf_10 : decode cX3_loanOf 10 = .ok (.iload_n 1, 1) := by decide +kernel
theorem dX3_loanOf_11 : decode cX3_loanOf 11 = .ok (.iload_n 3, 1) := by decide +kernel
theorem dX3_loanOf_12 : decode cX3_loanOf 12 = .ok (.ishr, 1) := by decide +kernel
theorem dX3_loanOf_13 : decode cX3_loanOf 13 = .ok (.iconst 1, 1) := by decide +kernel
theorem dX3_loanOf_14 : decode cX3_loanOf 14 = .ok (.iand, 1) := by decide +kernel
theorem dX3_loanOf_15 : decode cX3_loanOf 15 = .ok (.ifCond .eq 12, 3) := by decide +kernel
theorem dX3_loanOf_27 : decode cX3_loanOf 27 = .ok (.iinc 3 1, 3) := by decide +kernel
theorem dX3_loanOf_30 : decode cX3_loanOf 30 = .ok (.goto (-26), 3) := by decide +kernel
theorem dX3_loanOf_18 : decode cX3_loanOf 18 = .ok (.iload_n 2, 1) := by decide +kernel
theorem dX3_loanOf_19 : decode cX3_loanOf 19 = .ok (.aload_n 0, 1) := by decide +kernel
theorem dX3_loanOf_20 : decode cX3_loanOf 20 = .ok (.getfield 9, 3) := by decide +kernel
theorem t309 : Cond.fieldLink RX3 9 "LikenessPound$Lenders" "loan" "[I" ∈ GW := gw_mem 423 (by decide +kernel) (by decide +kernel)
theorem gf_X3_9 {p : Program} {l : Launch} {e : Env} {R : Room} {s : State} {m : MethodId} {args : Array Value} {below : List Frame} {meth : Method} {c : Code} {H : Heap} {locs : List Loc} {cells slots : Nat} {Q : State → Prop} {cc : ByteArray} {pc : Nat} {ls : Array Slot} {rest : List Value} {D : va_G} {a : Nat} {tys : List (ClassId × FieldType)} {ws : va_W} (hx : p.tables.exec = Jvm.exec) (hb : c.code = cc) (hts : ∀ w ∈ GW, w.before args s = true) (hown : s.vm.findClass RX3 = some m.cls) (hK : va_K D vwCl tys s) (hP : va_P D vwCl ws H) (q0 : Nat) {fs : List Value} (he : ws[q0]? = some (a, .inr (4, fs))) {v : Value} (hv : fs[0]? = some v) (hdg : decode cc pc = .ok (.getfield 9, 3)) (kk : W p l e R s m args below meth c H locs cells slots Q (F0 m (pc + 3) ls (v :: rest))) : W p l e R s m args below meth c H locs cells slots Q (F0 m pc ls (.ref a :: rest)) := va_get (C := RX3) (T := TX3) (N := 1) (ci := 4) hx hb hts inX3 hown hK hP q0 he rfl 0 (by decide) (hts _ t309) (fun _ h => h) hv hdg kk
theorem dX3_loanOf_23 : decode cX3_loanOf 23 = .ok (.iload_n 3, 1) := by decide +kernel
theorem dX3_loanOf_24 : decode cX3_loanOf 24 = .ok (.iaload, 1) := by decide +kernel
theorem dX3_loanOf_25 : decode cX3_loanOf 25 = .ok (.iadd, 1) := by decide +kernel
theorem dX3_loanOf_26 : decode cX3_loanOf 26 = .ok (.istore_n 2, 1) := by decide +kernel
set_option maxHeartbeats 4000000 in
set_option maxRecDepth 100000 in
theorem g_loanOf (l : Launch) (dC : Nat → ClassId) (dI : Nat → Nat → Nat) (cy : Nat → ClassId) (ve : Nat) (ve1 : Nat) (vef : Nat → Int32) (vx : Int32)  : Met l yX3_loanOf (wl yX3_loanOf cX3_loanOf 4 (some .int)) ({ frames := 0, cells := 0, slots := 0, locals := 0 }) (Pr (dC, dI) vwCl cy [(ve, .inr (4, [.ref ve1])), (ve1, .inl (cy 0, 7, .inl vef))] [.ref ve, .int vx]) (Ri (fun r => True)) 0 0 (fun _ => False) := by
  refine mr RX3 rfl (by decide +kernel) (Nat.le_of_ble_eq_true rfl) ?_
  intro p e s m below meth c hx hb hr hlocks av9 hav hts hown hml hK hP hS Q9 hQ9 ls hl
  have hl : lv_has ls 4 [(0, .ref ve), (1, .int vx)] := hl
  refine lv_iconst (v := 0) hx hb dX3_loanOf_0 (by decide) ?_
  refine lv_istore_n (lv' := [(2, .int 0), (0, .ref ve), (1, .int vx)]) hx hb dX3_loanOf_1 rfl hl (by decide) rfl (fun ls hl => ?_)
  refine lv_iconst (v := 0) hx hb dX3_loanOf_2 (by decide) ?_
  refine lv_istore_n (lv' := [(3, .int 0), (2, .int 0), (0, .ref ve), (1, .int vx)]) hx hb dX3_loanOf_3 rfl hl (by decide) rfl (fun ls hl => ?_)
  have loop1 : ∀ (n1 : Nat) (x_3 : Int32) (x_2 : Int32), (0 ≤ x_2.toInt ∧ x_2.toInt ≤ 7) → 7 - x_2.toInt < (n1 : Int) → ∀ (H : Heap) (locs : List Loc), va_P (dC, dI) vwCl [(ve, .inr (4, [.ref ve1])), (ve1, .inl (cy 0, 7, .inl vef))] H → va_S (fun _ => False) s.heap H locs → ∀ ls : Array Slot, lv_has ls 4 [(3, .int x_2), (2, .int x_3), (0, .ref ve), (1, .int vx)] → W p l e ({ frames := 0, cells := 0, slots := 0, locals := 0 }) s m av9 below meth c H locs 0 0 Q9 (F0 m 4 ls []) := by
    intro n1
    induction n1 with
    | zero =>
      intro x_3 x_2 bx_2 hn1 H locs hP hS ls hl
      exfalso; omega
    | succ n1 ih1 =>
      intro x_3 x_2 bx_2 hn1 H locs hP hS ls hl
      refine lv_iload_n hx hb dX3_loanOf_4 rfl (lv_at hl 0 rfl) ?_
      refine lv_bipush (v := 7) hx hb dX3_loanOf_5 (by decide) ?_
      have k_7 : (7 : Int32).toInt = 7 := by decide
      refine lv_icmp_ge (tgt := 33) hx hb dX3_loanOf_7 (by decide) (fun c_4 => ?_) (fun c_4 => ?_)
      · skip
        have c_4 : (7 : Int32).toInt ≤ x_2.toInt := i_le.mp c_4
        refine lv_iload_n hx hb dX3_loanOf_33 rfl (lv_at hl 1 rfl) ?_
        rw [hQ9]
        exact rr_i hx hb hr hlocks trivial hS dX3_loanOf_34
      · skip
        have c_4 : ¬ ((7 : Int32).toInt ≤ x_2.toInt) := fun h9 => c_4 (i_le.mpr h9)
        refine lv_iload_n hx hb dX3_loanOf_10 rfl (lv_at hl 3 rfl) ?_
        refine lv_iload_n hx hb dX3_loanOf_11 rfl (lv_at hl 0 rfl) ?_
        refine lv_ishr hx hb dX3_loanOf_12 ?_
        refine lv_topi (fun z_5 ez_5 => ?_)
        refine lv_iconst (v := 1) hx hb dX3_loanOf_13 (by decide) ?_
        refine lv_iand hx hb dX3_loanOf_14 ?_
        refine lv_topi (fun z_6 ez_6 => ?_)
        have k_1 : (1 : Int32).toInt = 1 := by decide
        have bz_6 : 0 ≤ z_6.toInt ∧ z_6.toInt ≤ 1 := i_and1 ez_6
        have k_0 : (0 : Int32).toInt = 0 := by decide
        refine lv_if_eq (tgt := 27) hx hb dX3_loanOf_15 (by decide) (fun c_7 => ?_) (fun c_7 => ?_)
        · skip
          have c_7 : z_6.toInt = (0 : Int32).toInt := i_eq.mp c_7
          obtain ⟨z_8, ez_8⟩ : ∃ z : Int32, z = x_2 + 1 := ⟨_, rfl⟩
          have bz_8 : z_8.toInt = x_2.toInt + (1 : Int32).toInt := i_add ez_8 (by omega) (by omega)
          refine lv_iinc (v := z_8) (lv' := [(3, .int z_8), (2, .int x_3), (0, .ref ve), (1, .int vx)]) hx hb dX3_loanOf_27 hl (k := 0) rfl ez_8.symm (by decide) rfl (fun ls hl => ?_)
          refine lv_goto (tgt := 4) hx hb dX3_loanOf_30 (by decide) ?_
          exact ih1 x_3 z_8 ⟨by omega, by omega⟩ (by omega) _ _ (hP.sub [0, 1] rfl) hS ls (lv_sub hl [0, 1, 2, 3] rfl)
        · skip
          have c_7 : ¬ (z_6.toInt = (0 : Int32).toInt) := fun h9 => c_7 (i_eq.mpr h9)
          refine lv_iload_n hx hb dX3_loanOf_18 rfl (lv_at hl 1 rfl) ?_
          refine lv_aload_n hx hb dX3_loanOf_19 rfl (lv_at hl 2 rfl) ?_
          refine gf_X3_9 hx hb hts hown hK hP 0 rfl rfl dX3_loanOf_20 ?_
          refine lv_iload_n hx hb dX3_loanOf_23 rfl (lv_at hl 0 rfl) ?_
          have hin_9 : vp_in x_2 7 := vp_in_iff.mpr ⟨by omega, by omega⟩
          refine va_iald hx hb hK hP 1 0 rfl rfl hin_9 dX3_loanOf_24 ?_
          refine lv_topi (fun z_10 ez_10 => ?_)
          refine lv_iadd hx hb dX3_loanOf_25 ?_
          refine lv_topi (fun z_11 ez_11 => ?_)
          refine lv_istore_n (lv' := [(2, .int z_11), (3, .int x_2), (0, .ref ve), (1, .int vx)]) hx hb dX3_loanOf_26 rfl hl (by decide) rfl (fun ls hl => ?_)
          obtain ⟨z_12, ez_12⟩ : ∃ z : Int32, z = x_2 + 1 := ⟨_, rfl⟩
          have bz_12 : z_12.toInt = x_2.toInt + (1 : Int32).toInt := i_add ez_12 (by omega) (by omega)
          refine lv_iinc (v := z_12) (lv' := [(3, .int z_12), (2, .int z_11), (0, .ref ve), (1, .int vx)]) hx hb dX3_loanOf_27 hl (k := 1) rfl ez_12.symm (by decide) rfl (fun ls hl => ?_)
          refine lv_goto (tgt := 4) hx hb dX3_loanOf_30 (by decide) ?_
          exact ih1 z_11 z_12 ⟨by omega, by omega⟩ (by omega) _ _ (hP.sub [0, 1] rfl) hS ls (lv_sub hl [0, 1, 2, 3] rfl)
  have k_0 : (0 : Int32).toInt = 0 := by decide
  exact loop1 ((7 - (0 : Int32).toInt).toNat + 1) 0 0 ⟨by omega, by omega⟩ (by omega) _ _ hP hS ls (lv_sub hl [0, 1, 2, 3] rfl)
abbrev cX3_fewestFor : ByteArray := prog_5_method_2_code
def yX3_fewestFor : MethodName := ⟨RX3, "fewestFor", "(LLikenessPound$World;I)I"⟩
theorem t877 : Cond.code yX3_fewestFor cX3_fewestFor 8 (some .int) ∈ GW := gw_mem 991 (by decide +kernel) (by decide +kernel)
abbrev O_g_fewestFor (cy : Nat → ClassId) (ve : Nat) (ve1 : Nat) (vef : Nat → Int32) (vw : Nat) (vwc : Nat) (vwl : Nat) (vws : Nat) (vwc1 : Nat) (vwc2 : Nat) (vwc3 : Nat) (vwc4 : Nat) (vwc5 : Nat) (vwcm : Int32) (vwcd : Int32) (vwcr : Int32) (vwcw : Int32) (vwcf3 : Nat → Int32) (vwcf4 : Nat → Int32) (vwcf5 : Nat → Int32) (vwl1 : Nat) (vwl2 : Nat) (vwl3 : Nat) (vwl4 : Nat) (vwl5 : Nat) (vwl6 : Nat) (vwl7 : Nat) (vwl8 : Nat) (vwl9 : Nat) (vwl10 : Nat) (vwly : Int32) (vwlf2 : Nat → Int32) (vwlf3 : Nat → Int32) (vwlf4 : Nat → Int32) (vwlf5 : Nat → Int32) (vm : Int32) (u : (Nat → Int32)) : va_W := [(ve, .inr (4, [.ref ve1])), (ve1, .inl (cy 0, 7, .inl u)), (vw, .inr (10, [.ref vwc, .ref vwl, .ref vws])), (vwc, .inr (2, [.ref vwc1, .ref vwc2, .ref vwc3, .ref vwc4, .ref vwc5, .int vwcm, .int vwcd, .int vwcr, .int vwcw])), (vwc3, .inl (cy 0, 10, .inl vwcf3)), (vwc4, .inl (cy 2, 10, .inl vwcf4)), (vwc5, .inl (cy 0, 7, .inl vwcf5)), (vwl, .inr (5, [.ref vwl1, .ref vwl2, .ref vwl3, .ref vwl4, .ref vwl5, .ref vwl6, .ref vwl7, .ref vwl8, .ref vwl9, .ref vwl10, .int vwly])), (vwl2, .inl (cy 0, 70, .inl vwlf2)), (vwl3, .inl (cy 0, 49, .inl vwlf3)), (vwl4, .inl (cy 0, 7, .inl vwlf4)), (vwl5, .inl (cy 0, 7, .inl vwlf5))]
theorem dX3_fewestFor_0 : decode cX3_fewestFor 0 = .ok (.aload_n 1, 1) := by decide +kernel
theorem dX3_fewestFor_1 : decode cX3_fewestFor 1 = .ok (.getfield 15, 3) := by decide +kernel
theorem dX3_fewestFor_4 : decode cX3_fewestFor 4 = .ok (.getfield 21, 3) := by decide +kernel
theorem dX3_fewestFor_7 : decode cX3_fewestFor 7 = .ok (.aload_n 1, 1) := by decide +kernel
theorem dX3_fewestFor_8 : decode cX3_fewestFor 8 = .ok (.iload_n 2, 1) := by decide +kernel
theorem dX3_fewestFor_9 : decode cX3_fewestFor 9 = .ok (.invokevirtual 27, 3) := by decide +kernel
theorem dX3_fewestFor_12 : decode cX3_fewestFor 12 = .ok (.isub, 1) := by decide +kernel
theorem dX3_fewestFor_13 : decode cX3_fewestFor 13 = .ok (.istore_n 3, 1) := by decide +kernel
theorem dX3_fewestFor_14 : decode cX3_fewestFor 14 = .ok (.iload_n 3, 1) := by decide +kernel
theorem dX3_fewestFor_15 : decode cX3_fewestFor 15 = .ok (.ifCond .gt 5, 3) := by decide +kernel
theorem dX3_fewestFor_20 : decode cX3_fewestFor 20 = .ok (.iconst 0, 1) := by decide +kernel
theorem dX3_fewestFor_21 : decode cX3_fewestFor 21 = .ok (.istore 4, 2) := by decide +kernel
theorem dX3_fewestFor_23 : decode cX3_fewestFor 23 = .ok (.iload 4, 2) := by decide +kernel
theorem dX3_fewestFor_25 : decode cX3_fewestFor 25 = .ok (.aload_n 1, 1) := by decide +kernel
theorem dX3_fewestFor_26 : decode cX3_fewestFor 26 = .ok (.getfield 15, 3) := by decide +kernel
theorem dX3_fewestFor_29 : decode cX3_fewestFor 29 = .ok (.getfield 31, 3) := by decide +kernel
theorem t391 : Cond.fieldLink RX3 31 "LikenessPound$Colony" "men" "I" ∈ GW := gw_mem 505 (by decide +kernel) (by decide +kernel)
theorem gf_X3_31 {p : Program} {l : Launch} {e : Env} {R : Room} {s : State} {m : MethodId} {args : Array Value} {below : List Frame} {meth : Method} {c : Code} {H : Heap} {locs : List Loc} {cells slots : Nat} {Q : State → Prop} {cc : ByteArray} {pc : Nat} {ls : Array Slot} {rest : List Value} {D : va_G} {a : Nat} {tys : List (ClassId × FieldType)} {ws : va_W} (hx : p.tables.exec = Jvm.exec) (hb : c.code = cc) (hts : ∀ w ∈ GW, w.before args s = true) (hown : s.vm.findClass RX3 = some m.cls) (hK : va_K D vwCl tys s) (hP : va_P D vwCl ws H) (q0 : Nat) {fs : List Value} (he : ws[q0]? = some (a, .inr (2, fs))) {v : Value} (hv : fs[5]? = some v) (hdg : decode cc pc = .ok (.getfield 31, 3)) (kk : W p l e R s m args below meth c H locs cells slots Q (F0 m (pc + 3) ls (v :: rest))) : W p l e R s m args below meth c H locs cells slots Q (F0 m pc ls (.ref a :: rest)) := va_get (C := RX1) (T := TX1) (N := 9) (ci := 2) hx hb hts inX1 hown hK hP q0 he rfl 5 (by decide) (hts _ t391) (fun _ h => h) hv hdg kk
theorem dX3_fewestFor_32 : decode cX3_fewestFor 32 = .ok (.if_icmp .ge 65, 3) := by decide +kernel
theorem dX3_fewestFor_97 : decode cX3_fewestFor 97 = .ok (.iconst (-1), 1) := by decide +kernel
theorem dX3_fewestFor_98 : decode cX3_fewestFor 98 = .ok (.istore 4, 2) := by decide +kernel
theorem dX3_fewestFor_100 : decode cX3_fewestFor 100 = .ok (.bipush 8, 2) := by decide +kernel
theorem dX3_fewestFor_102 : decode cX3_fewestFor 102 = .ok (.istore 5, 2) := by decide +kernel
theorem dX3_fewestFor_104 : decode cX3_fewestFor 104 = .ok (.iconst 1, 1) := by decide +kernel
theorem dX3_fewestFor_105 : decode cX3_fewestFor 105 = .ok (.istore 6, 2) := by decide +kernel
theorem dX3_fewestFor_107 : decode cX3_fewestFor 107 = .ok (.iload 6, 2) := by decide +kernel
theorem dX3_fewestFor_109 : decode cX3_fewestFor 109 = .ok (.aload_n 1, 1) := by decide +kernel
theorem dX3_fewestFor_110 : decode cX3_fewestFor 110 = .ok (.getfield 15, 3) := by decide +kernel
theorem dX3_fewestFor_113 : decode cX3_fewestFor 113 = .ok (.invokevirtual 51, 3) := by decide +kernel
theorem t883 : Cond.methodLink RX3 51 yX1_allMen ∈ GW := gw_mem 997 (by decide +kernel) (by decide +kernel)
theorem t863 : Cond.instanceMethod yX1_allMen ∈ GW := gw_mem 977 (by decide +kernel) (by decide +kernel)
theorem t864 : Cond.selects RX1 yX1_allMen yX1_allMen ∈ GW := gw_mem 978 (by decide +kernel) (by decide +kernel)
theorem cw_X3_51 {R : Room} {s : State} {args : Array Value} {rm : Room} {mc ms : Nat} (hts : ∀ w ∈ GW, w.before args s = true) (hrc : rm.cells = mc) (hrs : rm.slots = ms) (hR : rm.frames + 1 ≤ R.frames ∧ 8 + (1 + 11) + rm.locals ≤ R.locals) : CallW R s args RX3 RX1 51 yX1_allMen cX1_allMen 1 (some .int) (wl yX1_allMen cX1_allMen 1 (some .int)) rm mc ms 0 := cwV 0 hts (gi_V t883 t863 t864 t16 t865) rfl hrc hrs (by decide +kernel) hR
theorem dX3_fewestFor_116 : decode cX3_fewestFor 116 = .ok (.if_icmp .gt 41, 3) := by decide +kernel
theorem dX3_fewestFor_157 : decode cX3_fewestFor 157 = .ok (.iload 4, 2) := by decide +kernel
theorem dX3_fewestFor_159 : decode cX3_fewestFor 159 = .ok (.ireturn, 1) := by decide +kernel
theorem dX3_fewestFor_119 : decode cX3_fewestFor 119 = .ok (.iload 6, 2) := by decide +kernel
theorem dX3_fewestFor_121 : decode cX3_fewestFor 121 = .ok (.invokestatic 55, 3) := by decide +kernel
theorem t884 : Cond.methodLink RX3 55 yJ6_bitCount_0f7a4 ∈ GW := gw_mem 998 (by decide +kernel) (by decide +kernel)
theorem t26 : Cond.initialized RJ6 ∈ GW := gw_mem 140 (by decide +kernel) (by decide +kernel)
theorem t885 : Cond.static yJ6_bitCount_0f7a4 ∈ GW := gw_mem 999 (by decide +kernel) (by decide +kernel)
theorem cw_X3_55 {R : Room} {s : State} {args : Array Value} {rm : Room} {mc ms : Nat} (hts : ∀ w ∈ GW, w.before args s = true) (hrc : rm.cells = mc) (hrs : rm.slots = ms) (hR : rm.frames + 1 ≤ R.frames ∧ 8 + (1 + 11) + rm.locals ≤ R.locals) : CallB R s args RX3 55 yJ6_bitCount_0f7a4 cJ6_bitCount_0f7a4 1 (some .int) (wl yJ6_bitCount_0f7a4 cJ6_bitCount_0f7a4 1 (some .int)) rm mc ms 1 ∧ (Cond.static yJ6_bitCount_0f7a4).before args s = true := va_cwS 1 hts (gi_S t884 t885 t26 t886) rfl hrc hrs (by decide +kernel) hR
theorem dX3_fewestFor_124 : decode cX3_fewestFor 124 = .ok (.istore 7, 2) := by decide +kernel
theorem dX3_fewestFor_126 : decode cX3_fewestFor 126 = .ok (.iload 7, 2) := by decide +kernel
theorem dX3_fewestFor_128 : decode cX3_fewestFor 128 = .ok (.iload 5, 2) := by decide +kernel
theorem dX3_fewestFor_130 : decode cX3_fewestFor 130 = .ok (.if_icmp .ge 21, 3) := by decide +kernel
theorem dX3_fewestFor_151 : decode cX3_fewestFor 151 = .ok (.iinc 6 1, 3) := by decide +kernel
theorem dX3_fewestFor_154 : decode cX3_fewestFor 154 = .ok (.goto (-47), 3) := by decide +kernel
theorem dX3_fewestFor_133 : decode cX3_fewestFor 133 = .ok (.aload_n 0, 1) := by decide +kernel
theorem dX3_fewestFor_134 : decode cX3_fewestFor 134 = .ok (.iload 6, 2) := by decide +kernel
theorem dX3_fewestFor_136 : decode cX3_fewestFor 136 = .ok (.invokevirtual 60, 3) := by decide +kernel
theorem t890 : Cond.methodLink RX3 60 yX3_loanOf ∈ GW := gw_mem 1004 (by decide +kernel) (by decide +kernel)
theorem t11 : Cond.initialized RX3 ∈ GW := gw_mem 125 (by decide +kernel) (by decide +kernel)
theorem t892 : Cond.instanceMethod yX3_loanOf ∈ GW := gw_mem 1006 (by decide +kernel) (by decide +kernel)
theorem s13 : Cond.selects RX3 yX3_loanOf yX3_loanOf ∈ GW := gw_mem 13 (by decide +kernel) (by decide +kernel)
theorem cw_X3_60 {R : Room} {s : State} {args : Array Value} {rm : Room} {mc ms : Nat} (hts : ∀ w ∈ GW, w.before args s = true) (hrc : rm.cells = mc) (hrs : rm.slots = ms) (hR : rm.frames + 1 ≤ R.frames ∧ 8 + (4 + 11) + rm.locals ≤ R.locals) : CallW R s args RX3 RX3 60 yX3_loanOf cX3_loanOf 4 (some .int) (wl yX3_loanOf cX3_loanOf 4 (some .int)) rm mc ms 1 := cwV 1 hts (gi_V t890 t892 s13 t11 t893) rfl hrc hrs (by decide +kernel) hR
theorem dX3_fewestFor_139 : decode cX3_fewestFor 139 = .ok (.iload_n 3, 1) := by decide +kernel
theorem dX3_fewestFor_140 : decode cX3_fewestFor 140 = .ok (.if_icmp .lt 11, 3) := by decide +kernel
theorem dX3_fewestFor_143 : decode cX3_fewestFor 143 = .ok (.iload 6, 2) := by decide +kernel
theorem dX3_fewestFor_145 : decode cX3_fewestFor 145 = .ok (.istore 4, 2) := by decide +kernel
theorem dX3_fewestFor_147 : decode cX3_fewestFor 147 = .ok (.iload 7, 2) := by decide +kernel
theorem dX3_fewestFor_149 : decode cX3_fewestFor 149 = .ok (.istore 5, 2) := by decide +kernel
theorem dX3_fewestFor_35 : decode cX3_fewestFor 35 = .ok (.aload_n 1, 1) := by decide +kernel
theorem dX3_fewestFor_36 : decode cX3_fewestFor 36 = .ok (.getfield 15, 3) := by decide +kernel
theorem dX3_fewestFor_39 : decode cX3_fewestFor 39 = .ok (.iload_n 2, 1) := by decide +kernel
theorem dX3_fewestFor_40 : decode cX3_fewestFor 40 = .ok (.iload 4, 2) := by decide +kernel
theorem dX3_fewestFor_42 : decode cX3_fewestFor 42 = .ok (.invokevirtual 34, 3) := by decide +kernel
theorem t879 : Cond.methodLink RX3 34 yX1_areKin ∈ GW := gw_mem 993 (by decide +kernel) (by decide +kernel)
theorem cw_X3_34 {R : Room} {s : State} {args : Array Value} {rm : Room} {mc ms : Nat} (hts : ∀ w ∈ GW, w.before args s = true) (hrc : rm.cells = mc) (hrs : rm.slots = ms) (hR : rm.frames + 1 ≤ R.frames ∧ 8 + (3 + 11) + rm.locals ≤ R.locals) : CallW R s args RX3 RX1 34 yX1_areKin cX1_areKin 3 (some .boolean) (wl yX1_areKin cX1_areKin 3 (some .boolean)) rm mc ms 2 := cwV 2 hts (gi_V t879 t638 t639 t16 t640) rfl hrc hrs (by decide +kernel) hR
theorem dX3_fewestFor_45 : decode cX3_fewestFor 45 = .ok (.ifCond .eq 21, 3) := by decide +kernel
theorem dX3_fewestFor_66 : decode cX3_fewestFor 66 = .ok (.iconst 0, 1) := by decide +kernel
theorem dX3_fewestFor_67 : decode cX3_fewestFor 67 = .ok (.istore 5, 2) := by decide +kernel
theorem dX3_fewestFor_69 : decode cX3_fewestFor 69 = .ok (.aload_n 0, 1) := by decide +kernel
theorem dX3_fewestFor_70 : decode cX3_fewestFor 70 = .ok (.getfield 9, 3) := by decide +kernel
theorem dX3_fewestFor_73 : decode cX3_fewestFor 73 = .ok (.iload 4, 2) := by decide +kernel
theorem dX3_fewestFor_75 : decode cX3_fewestFor 75 = .ok (.iload 5, 2) := by decide +kernel
theorem dX3_fewestFor_77 : decode cX3_fewestFor 77 = .ok (.ifCond .eq 12, 3) := by decide +kernel
theorem dX3_fewestFor_89 : decode cX3_fewestFor 89 = .ok (.iconst 0, 1) := by decide +kernel
theorem dX3_fewestFor_90 : decode cX3_fewestFor 90 = .ok (.iastore, 1) := by decide +kernel
theorem dX3_fewestFor_91 : decode cX3_fewestFor 91 = .ok (.iinc 4 1, 3) := by decide +kernel
theorem dX3_fewestFor_94 : decode cX3_fewestFor 94 = .ok (.goto (-71), 3) := by decide +kernel
theorem dX3_fewestFor_48 : decode cX3_fewestFor 48 = .ok (.aload_n 1, 1) := by decide +kernel
theorem dX3_fewestFor_49 : decode cX3_fewestFor 49 = .ok (.getfield 38, 3) := by decide +kernel
theorem dX3_fewestFor_52 : decode cX3_fewestFor 52 = .ok (.getfield 42, 3) := by decide +kernel
theorem t243 : Cond.fieldLink RX3 42 "LikenessPound$Life" "lentTo" "[I" ∈ GW := gw_mem 357 (by decide +kernel) (by decide +kernel)
theorem gf_X3_42 {p : Program} {l : Launch} {e : Env} {R : Room} {s : State} {m : MethodId} {args : Array Value} {below : List Frame} {meth : Method} {c : Code} {H : Heap} {locs : List Loc} {cells slots : Nat} {Q : State → Prop} {cc : ByteArray} {pc : Nat} {ls : Array Slot} {rest : List Value} {D : va_G} {a : Nat} {tys : List (ClassId × FieldType)} {ws : va_W} (hx : p.tables.exec = Jvm.exec) (hb : c.code = cc) (hts : ∀ w ∈ GW, w.before args s = true) (hown : s.vm.findClass RX3 = some m.cls) (hK : va_K D vwCl tys s) (hP : va_P D vwCl ws H) (q0 : Nat) {fs : List Value} (he : ws[q0]? = some (a, .inr (5, fs))) {v : Value} (hv : fs[3]? = some v) (hdg : decode cc pc = .ok (.getfield 42, 3)) (kk : W p l e R s m args below meth c H locs cells slots Q (F0 m (pc + 3) ls (v :: rest))) : W p l e R s m args below meth c H locs cells slots Q (F0 m pc ls (.ref a :: rest)) := va_get (C := RX4) (T := TX4) (N := 11) (ci := 5) hx hb hts inX4 hown hK hP q0 he rfl 3 (by decide) (hts _ t243) (fun _ h => h) hv hdg kk
theorem dX3_fewestFor_55 : decode cX3_fewestFor 55 = .ok (.iload 4, 2) := by decide +kernel
theorem dX3_fewestFor_57 : decode cX3_fewestFor 57 = .ok (.iaload, 1) := by decide +kernel
theorem dX3_fewestFor_58 : decode cX3_fewestFor 58 = .ok (.iconst (-1), 1) := by decide +kernel
theorem dX3_fewestFor_59 : decode cX3_fewestFor 59 = .ok (.if_icmp .ne 7, 3) := by decide +kernel
theorem dX3_fewestFor_62 : decode cX3_fewestFor 62 = .ok (.iconst 1, 1) := by decide +kernel
theorem dX3_fewestFor_63 : decode cX3_fewestFor 63 = .ok (.goto 4, 3) := by decide +kernel
theorem dX3_fewestFor_80 : decode cX3_fewestFor 80 = .ok (.aload_n 1, 1) := by decide +kernel
theorem dX3_fewestFor_81 : decode cX3_fewestFor 81 = .ok (.iload 4, 2) := by decide +kernel
theorem dX3_fewestFor_83 : decode cX3_fewestFor 83 = .ok (.invokestatic 47, 3) := by decide +kernel
theorem t880 : Cond.methodLink RX3 47 yX3_heaviestLoan ∈ GW := gw_mem 994 (by decide +kernel) (by decide +kernel)
theorem t881 : Cond.static yX3_heaviestLoan ∈ GW := gw_mem 995 (by decide +kernel) (by decide +kernel)
theorem cw_X3_47 {R : Room} {s : State} {args : Array Value} {rm : Room} {mc ms : Nat} (hts : ∀ w ∈ GW, w.before args s = true) (hrc : rm.cells = mc) (hrs : rm.slots = ms) (hR : rm.frames + 1 ≤ R.frames ∧ 8 + (8 + 11) + rm.locals ≤ R.locals) : CallB R s args RX3 47 yX3_heaviestLoan cX3_heaviestLoan 8 (some .int) (wl yX3_heaviestLoan cX3_heaviestLoan 8 (some .int)) rm mc ms 2 ∧ (Cond.static yX3_heaviestLoan).before args s = true := va_cwS 2 hts (gi_S t880 t881 t11 t882) rfl hrc hrs (by decide +kernel) hR
theorem dX3_fewestFor_86 : decode cX3_fewestFor 86 = .ok (.goto 4, 3) := by decide +kernel
theorem dX3_fewestFor_18 : decode cX3_fewestFor 18 = .ok (.iconst 0, 1) := by decide +kernel
theorem dX3_fewestFor_19 : decode cX3_fewestFor 19 = .ok (.ireturn, 1) := by decide +kernel
set_option maxHeartbeats 4000000 in
set_option maxRecDepth 100000 in
theorem g_fewestFor (l : Launch) (dC : Nat → ClassId) (dI : Nat → Nat → Nat) (cy : Nat → ClassId) (sz : Nat) (ve : Nat) (ve1 : Nat) (vef : Nat → Int32) (vw : Nat) (vwc : Nat) (vwl : Nat) (vws : Nat) (vwc1 : Nat) (vwc2 : Nat) (vwc3 : Nat) (vwc4 : Nat) (vwc5 : Nat) (vwcm : Int32) (vwcd : Int32) (vwcr : Int32) (vwcw : Int32) (vwcf3 : Nat → Int32) (vwcf4 : Nat → Int32) (vwcf5 : Nat → Int32) (vwl1 : Nat) (vwl2 : Nat) (vwl3 : Nat) (vwl4 : Nat) (vwl5 : Nat) (vwl6 : Nat) (vwl7 : Nat) (vwl8 : Nat) (vwl9 : Nat) (vwl10 : Nat) (vwly : Int32) (vwlf2 : Nat → Int32) (vwlf3 : Nat → Int32) (vwlf4 : Nat → Int32) (vwlf5 : Nat → Int32) (vm : Int32) (r_vwcm : 0 ≤ (vwcm : Int32).toInt ∧ (vwcm : Int32).toInt ≤ 7) (r_vwcd : 0 ≤ (vwcd : Int32).toInt ∧ (vwcd : Int32).toInt ≤ 10) (r_vm : 0 ≤ (vm : Int32).toInt ∧ (vm : Int32).toInt ≤ 6) (p_vwcf3 : Rg vwcf3 10 0 40) (p_vwlf2 : Rg vwlf2 70 0 9) (p_vwlf5 : Rg vwlf5 7 (-1) 9) : Met l yX3_fewestFor (wl yX3_fewestFor cX3_fewestFor 8 (some .int)) ({ frames := 4, cells := 0, slots := 0, locals := 256 }) (Pw (dC, dI) vwCl cy [(ve, .inr (4, [.ref ve1])), (ve1, .inl (cy 0, 7, .inl vef)), (vw, .inr (10, [.ref vwc, .ref vwl, .ref vws])), (vwc, .inr (2, [.ref vwc1, .ref vwc2, .ref vwc3, .ref vwc4, .ref vwc5, .int vwcm, .int vwcd, .int vwcr, .int vwcw])), (vwc3, .inl (cy 0, 10, .inl vwcf3)), (vwc4, .inl (cy 2, 10, .inl vwcf4)), (vwc5, .inl (cy 0, 7, .inl vwcf5)), (vwl, .inr (5, [.ref vwl1, .ref vwl2, .ref vwl3, .ref vwl4, .ref vwl5, .ref vwl6, .ref vwl7, .ref vwl8, .ref vwl9, .ref vwl10, .int vwly])), (vwl2, .inl (cy 0, 70, .inl vwlf2)), (vwl3, .inl (cy 0, 49, .inl vwlf3)), (vwl4, .inl (cy 0, 7, .inl vwlf4)), (vwl5, .inl (cy 0, 7, .inl vwlf5))] sz [.ref ve, .ref vw, .int vm] nE) (Qi (dC, dI) vwCl (fun (r : Int32) (u : (Nat → Int32)) => True) (O_g_fewestFor cy ve ve1 vef vw vwc vwl vws vwc1 vwc2 vwc3 vwc4 vwc5 vwcm vwcd vwcr vwcw vwcf3 vwcf4 vwcf5 vwl1 vwl2 vwl3 vwl4 vwl5 vwl6 vwl7 vwl8 vwl9 vwl10 vwly vwlf2 vwlf3 vwlf4 vwlf5 vm) (va_A [(ve, .inr (4, [.ref ve1])), (ve1, .inl (cy 0, 7, .inl vef)), (vw, .inr (10, [.ref vwc, .ref vwl, .ref vws])), (vwc, .inr (2, [.ref vwc1, .ref vwc2, .ref vwc3, .ref vwc4, .ref vwc5, .int vwcm, .int vwcd, .int vwcr, .int vwcw])), (vwc3, .inl (cy 0, 10, .inl vwcf3)), (vwc4, .inl (cy 2, 10, .inl vwcf4)), (vwc5, .inl (cy 0, 7, .inl vwcf5)), (vwl, .inr (5, [.ref vwl1, .ref vwl2, .ref vwl3, .ref vwl4, .ref vwl5, .ref vwl6, .ref vwl7, .ref vwl8, .ref vwl9, .ref vwl10, .int vwly])), (vwl2, .inl (cy 0, 70, .inl vwlf2)), (vwl3, .inl (cy 0, 49, .inl vwlf3)), (vwl4, .inl (cy 0, 7, .inl vwlf4)), (vwl5, .inl (cy 0, 7, .inl vwlf5))] sz)) 0 0 (va_A [(ve, .inr (4, [.ref ve1])), (ve1, .inl (cy 0, 7, .inl vef)), (vw, .inr (10, [.ref vwc, .ref vwl, .ref vws])), (vwc, .inr (2, [.ref vwc1, .ref vwc2, .ref vwc3, .ref vwc4, .ref vwc5, .int vwcm, .int vwcd, .int vwcr, .int vwcw])), (vwc3, .inl (cy 0, 10, .inl vwcf3)), (vwc4, .inl (cy 2, 10, .inl vwcf4)), (vwc5, .inl (cy 0, 7, .inl vwcf5)), (vwl, .inr (5, [.ref vwl1, .ref vwl2, .ref vwl3, .ref vwl4, .ref vwl5, .ref vwl6, .ref vwl7, .ref vwl8, .ref vwl9, .ref vwl10, .int vwly])), (vwl2, .inl (cy 0, 70, .inl vwlf2)), (vwl3, .inl (cy 0, 49, .inl vwlf3)), (vwl4, .inl (cy 0, 7, .inl vwlf4)), (vwl5, .inl (cy 0, 7, .inl vwlf5))] sz) := by
  refine mw (Qc := Qi (dC, dI) vwCl (fun (r : Int32) (u : (Nat → Int32)) => True) (O_g_fewestFor cy ve ve1 vef vw vwc vwl vws vwc1 vwc2 vwc3 vwc4 vwc5 vwcm vwcd vwcr vwcw vwcf3 vwcf4 vwcf5 vwl1 vwl2 vwl3 vwl4 vwl5 vwl6 vwl7 vwl8 vwl9 vwl10 vwly vwlf2 vwlf3 vwlf4 vwlf5 vm)) RX3 rfl (by decide +kernel) (Nat.le_of_ble_eq_true rfl) ?_
  intro p e s m below meth c A hx hb hr hlocks av9 hav hts hown hnm hml hK hP hD hA hS hE hAe Q9 hQ9 ls hl
  have hl : lv_has ls 8 [(0, .ref ve), (1, .ref vw), (2, .int vm)] := hl
  refine lv_aload_n hx hb dX3_fewestFor_0 rfl (lv_at hl 1 rfl) ?_
  refine gf_X3_15 hx hb hts hown hK hP 2 rfl rfl dX3_fewestFor_1 ?_
  refine gf_X3_21 hx hb hts hown hK hP 3 rfl rfl dX3_fewestFor_4 ?_
  refine lv_aload_n hx hb dX3_fewestFor_7 rfl (lv_at hl 1 rfl) ?_
  refine lv_iload_n hx hb dX3_fewestFor_8 rfl (lv_at hl 2 rfl) ?_
  refine jr_i (rVr (As := [.int vm]) (rest := [.int vwcw]) (ci := 10) ⟨hx, hb, hml, hown, hts⟩ (g_weightOf l dC dI cy vw vwc vwl vws vwc1 vwc2 vwc3 vwc4 vwc5 vwcm vwcd vwcr vwcw vwcf3 vwcf4 vwl1 vwl2 vwl3 vwl4 vwl5 vwl6 vwl7 vwl8 vwl9 vwl10 vwly vwlf2 vwlf3 vwlf4 vwlf5 vm r_vwcm r_vwcd r_vm p_vwcf3 p_vwlf2 p_vwlf5) (cw_X3_27 hts rfl rfl ⟨Nat.le_of_ble_eq_true rfl, Nat.le_of_ble_eq_true rfl⟩) hP hK [2, 3, 4, 5, 7, 8, 9, 10, 11] rfl rfl rfl rfl hl.1 rfl (Nat.le_of_ble_eq_true rfl) dX3_fewestFor_9 ⟨Nat.le_of_ble_eq_true rfl, Nat.le_of_ble_eq_true rfl⟩) hP hS (fun r_1 H locs hp_2 hP hS => ?_)
  refine lv_isub hx hb dX3_fewestFor_12 ?_
  refine lv_topi (fun z_3 ez_3 => ?_)
  refine lv_istore_n (lv' := [(3, .int z_3), (0, .ref ve), (1, .ref vw), (2, .int vm)]) hx hb dX3_fewestFor_13 rfl hl (by decide) rfl (fun ls hl => ?_)
  refine lv_iload_n hx hb dX3_fewestFor_14 rfl (lv_at hl 0 rfl) ?_
  have k_0 : (0 : Int32).toInt = 0 := by decide
  refine lv_if_gt (tgt := 20) hx hb dX3_fewestFor_15 (by decide) (fun c_4 => ?_) (fun c_4 => ?_)
  · skip
    have c_4 : (0 : Int32).toInt < z_3.toInt := i_lt.mp c_4
    refine lv_iconst (v := 0) hx hb dX3_fewestFor_20 (by decide) ?_
    refine lv_istore (lv' := [(4, .int 0), (3, .int z_3), (0, .ref ve), (1, .ref vw), (2, .int vm)]) hx hb dX3_fewestFor_21 hl (by decide) rfl (fun ls hl => ?_)
    have loop5 : ∀ (n5 : Nat) (x_6 : Int32) (g_7 : Nat → Int32), (0 ≤ x_6.toInt ∧ x_6.toInt ≤ 7) → 7 - x_6.toInt < (n5 : Int) → ∀ (H : Heap) (locs : List Loc), va_P (dC, dI) vwCl [(ve, .inr (4, [.ref ve1])), (ve1, .inl (cy 0, 7, .inl g_7)), (vw, .inr (10, [.ref vwc, .ref vwl, .ref vws])), (vwc, .inr (2, [.ref vwc1, .ref vwc2, .ref vwc3, .ref vwc4, .ref vwc5, .int vwcm, .int vwcd, .int vwcr, .int vwcw])), (vwc3, .inl (cy 0, 10, .inl vwcf3)), (vwc4, .inl (cy 2, 10, .inl vwcf4)), (vwc5, .inl (cy 0, 7, .inl vwcf5)), (vwl, .inr (5, [.ref vwl1, .ref vwl2, .ref vwl3, .ref vwl4, .ref vwl5, .ref vwl6, .ref vwl7, .ref vwl8, .ref vwl9, .ref vwl10, .int vwly])), (vwl2, .inl (cy 0, 70, .inl vwlf2)), (vwl3, .inl (cy 0, 49, .inl vwlf3)), (vwl4, .inl (cy 0, 7, .inl vwlf4)), (vwl5, .inl (cy 0, 7, .inl vwlf5))] H → va_D A [(ve, .inr (4, [.ref ve1])), (ve1, .inl (cy 0, 7, .inl g_7)), (vw, .inr (10, [.ref vwc, .ref vwl, .ref vws])), (vwc, .inr (2, [.ref vwc1, .ref vwc2, .ref vwc3, .ref vwc4, .ref vwc5, .int vwcm, .int vwcd, .int vwcr, .int vwcw])), (vwc3, .inl (cy 0, 10, .inl vwcf3)), (vwc4, .inl (cy 2, 10, .inl vwcf4)), (vwc5, .inl (cy 0, 7, .inl vwcf5)), (vwl, .inr (5, [.ref vwl1, .ref vwl2, .ref vwl3, .ref vwl4, .ref vwl5, .ref vwl6, .ref vwl7, .ref vwl8, .ref vwl9, .ref vwl10, .int vwly])), (vwl2, .inl (cy 0, 70, .inl vwlf2)), (vwl3, .inl (cy 0, 49, .inl vwlf3)), (vwl4, .inl (cy 0, 7, .inl vwlf4)), (vwl5, .inl (cy 0, 7, .inl vwlf5))] → va_S A s.heap H locs → ∀ ls : Array Slot, lv_has ls 8 [(4, .int x_6), (3, .int z_3), (0, .ref ve), (1, .ref vw), (2, .int vm)] → W p l e ({ frames := 4, cells := 0, slots := 0, locals := 256 }) s m av9 below meth c H locs 0 0 Q9 (F0 m 23 ls []) := by
      intro n5
      induction n5 with
      | zero =>
        intro x_6 g_7 bx_6 hn5 H locs hP hD hS ls hl
        exfalso; omega
      | succ n5 ih5 =>
        intro x_6 g_7 bx_6 hn5 H locs hP hD hS ls hl
        refine lv_iload hx hb dX3_fewestFor_23 (lv_at hl 0 rfl) ?_
        refine lv_aload_n hx hb dX3_fewestFor_25 rfl (lv_at hl 3 rfl) ?_
        refine gf_X3_15 hx hb hts hown hK hP 2 rfl rfl dX3_fewestFor_26 ?_
        refine gf_X3_31 hx hb hts hown hK hP 3 rfl rfl dX3_fewestFor_29 ?_
        refine lv_icmp_ge (tgt := 97) hx hb dX3_fewestFor_32 (by decide) (fun c_8 => ?_) (fun c_8 => ?_)
        · skip
          have c_8 : vwcm.toInt ≤ x_6.toInt := i_le.mp c_8
          refine lv_iconst (v := (-1)) hx hb dX3_fewestFor_97 (by decide) ?_
          refine lv_istore (lv' := [(4, .int (-1)), (3, .int z_3), (0, .ref ve), (1, .ref vw), (2, .int vm)]) hx hb dX3_fewestFor_98 hl (by decide) rfl (fun ls hl => ?_)
          refine lv_bipush (v := 8) hx hb dX3_fewestFor_100 (by decide) ?_
          refine lv_istore (lv' := [(5, .int 8), (4, .int (-1)), (3, .int z_3), (0, .ref ve), (1, .ref vw), (2, .int vm)]) hx hb dX3_fewestFor_102 hl (by decide) rfl (fun ls hl => ?_)
          refine lv_iconst (v := 1) hx hb dX3_fewestFor_104 (by decide) ?_
          refine lv_istore (lv' := [(6, .int 1), (5, .int 8), (4, .int (-1)), (3, .int z_3), (0, .ref ve), (1, .ref vw), (2, .int vm)]) hx hb dX3_fewestFor_105 hl (by decide) rfl (fun ls hl => ?_)
          have loop9 : ∀ (n9 : Nat) (x_12 : Int32) (x_11 : Int32) (x_10 : Int32), (1 ≤ x_10.toInt ∧ x_10.toInt ≤ 128) → 128 - x_10.toInt < (n9 : Int) → ∀ (H : Heap) (locs : List Loc), va_P (dC, dI) vwCl [(ve, .inr (4, [.ref ve1])), (ve1, .inl (cy 0, 7, .inl g_7)), (vw, .inr (10, [.ref vwc, .ref vwl, .ref vws])), (vwc, .inr (2, [.ref vwc1, .ref vwc2, .ref vwc3, .ref vwc4, .ref vwc5, .int vwcm, .int vwcd, .int vwcr, .int vwcw])), (vwc3, .inl (cy 0, 10, .inl vwcf3)), (vwc4, .inl (cy 2, 10, .inl vwcf4)), (vwc5, .inl (cy 0, 7, .inl vwcf5)), (vwl, .inr (5, [.ref vwl1, .ref vwl2, .ref vwl3, .ref vwl4, .ref vwl5, .ref vwl6, .ref vwl7, .ref vwl8, .ref vwl9, .ref vwl10, .int vwly])), (vwl2, .inl (cy 0, 70, .inl vwlf2)), (vwl3, .inl (cy 0, 49, .inl vwlf3)), (vwl4, .inl (cy 0, 7, .inl vwlf4)), (vwl5, .inl (cy 0, 7, .inl vwlf5))] H → va_D A [(ve, .inr (4, [.ref ve1])), (ve1, .inl (cy 0, 7, .inl g_7)), (vw, .inr (10, [.ref vwc, .ref vwl, .ref vws])), (vwc, .inr (2, [.ref vwc1, .ref vwc2, .ref vwc3, .ref vwc4, .ref vwc5, .int vwcm, .int vwcd, .int vwcr, .int vwcw])), (vwc3, .inl (cy 0, 10, .inl vwcf3)), (vwc4, .inl (cy 2, 10, .inl vwcf4)), (vwc5, .inl (cy 0, 7, .inl vwcf5)), (vwl, .inr (5, [.ref vwl1, .ref vwl2, .ref vwl3, .ref vwl4, .ref vwl5, .ref vwl6, .ref vwl7, .ref vwl8, .ref vwl9, .ref vwl10, .int vwly])), (vwl2, .inl (cy 0, 70, .inl vwlf2)), (vwl3, .inl (cy 0, 49, .inl vwlf3)), (vwl4, .inl (cy 0, 7, .inl vwlf4)), (vwl5, .inl (cy 0, 7, .inl vwlf5))] → va_S A s.heap H locs → ∀ ls : Array Slot, lv_has ls 8 [(6, .int x_10), (5, .int x_11), (4, .int x_12), (3, .int z_3), (0, .ref ve), (1, .ref vw), (2, .int vm)] → W p l e ({ frames := 4, cells := 0, slots := 0, locals := 256 }) s m av9 below meth c H locs 0 0 Q9 (F0 m 107 ls []) := by
            intro n9
            induction n9 with
            | zero =>
              intro x_12 x_11 x_10 bx_10 hn9 H locs hP hD hS ls hl
              exfalso; omega
            | succ n9 ih9 =>
              intro x_12 x_11 x_10 bx_10 hn9 H locs hP hD hS ls hl
              refine lv_iload hx hb dX3_fewestFor_107 (lv_at hl 0 rfl) ?_
              refine lv_aload_n hx hb dX3_fewestFor_109 rfl (lv_at hl 5 rfl) ?_
              refine gf_X3_15 hx hb hts hown hK hP 2 rfl rfl dX3_fewestFor_110 ?_
              refine jr_i (rVr (As := []) (rest := [.int x_10]) (ci := 2) ⟨hx, hb, hml, hown, hts⟩ (g_allMen l dC dI cy vwc vwc1 vwc2 vwc3 vwc4 vwc5 vwcm vwcd vwcr vwcw r_vwcm r_vwcd) (cw_X3_51 hts rfl rfl ⟨Nat.le_of_ble_eq_true rfl, Nat.le_of_ble_eq_true rfl⟩) hP hK [3] rfl rfl rfl rfl hl.1 rfl (Nat.le_of_ble_eq_true rfl) dX3_fewestFor_113 ⟨Nat.le_of_ble_eq_true rfl, Nat.le_of_ble_eq_true rfl⟩) hP hS (fun r_13 H locs hp_14 hP hS => ?_)
              have hp_14 : (0 ≤ (r_13 : Int32).toInt ∧ (r_13 : Int32).toInt ≤ 127) := hp_14
              have q_15 := hp_14
              refine lv_icmp_gt (tgt := 157) hx hb dX3_fewestFor_116 (by decide) (fun c_16 => ?_) (fun c_16 => ?_)
              · skip
                have c_16 : r_13.toInt < x_10.toInt := i_lt.mp c_16
                refine lv_iload hx hb dX3_fewestFor_157 (lv_at hl 2 rfl) ?_
                rw [hQ9]
                exact re_i g_7 hx hb hr hlocks trivial (hP.sub [0, 1, 2, 3, 4, 5, 6, 7, 8, 9, 10, 11] rfl) (hD.sub [0, 1, 2, 3, 4, 5, 6, 7, 8, 9, 10, 11] rfl rfl) hS dX3_fewestFor_159
              · skip
                have c_16 : ¬ (r_13.toInt < x_10.toInt) := fun h9 => c_16 (i_lt.mpr h9)
                refine lv_iload hx hb dX3_fewestFor_119 (lv_at hl 0 rfl) ?_
                refine jr_i (rSr (As := [.int x_10]) (rest := []) ⟨hx, hb, hml, hown, hts⟩ (g_bitCount l dC dI cy x_10 ) (cw_X3_55 hts rfl rfl ⟨Nat.le_of_ble_eq_true rfl, Nat.le_of_ble_eq_true rfl⟩) hP hK [] rfl rfl hl.1 rfl (Nat.le_of_ble_eq_true rfl) dX3_fewestFor_121 ⟨Nat.le_of_ble_eq_true rfl, Nat.le_of_ble_eq_true rfl⟩) hP hS (fun r_17 H locs hp_18 hP hS => ?_)
                refine lv_istore (lv' := [(7, .int r_17), (6, .int x_10), (5, .int x_11), (4, .int x_12), (3, .int z_3), (0, .ref ve), (1, .ref vw), (2, .int vm)]) hx hb dX3_fewestFor_124 hl (by decide) rfl (fun ls hl => ?_)
                refine lv_iload hx hb dX3_fewestFor_126 (lv_at hl 0 rfl) ?_
                refine lv_iload hx hb dX3_fewestFor_128 (lv_at hl 2 rfl) ?_
                refine lv_icmp_ge (tgt := 151) hx hb dX3_fewestFor_130 (by decide) (fun c_19 => ?_) (fun c_19 => ?_)
                · skip
                  have c_19 : x_11.toInt ≤ r_17.toInt := i_le.mp c_19
                  obtain ⟨z_20, ez_20⟩ : ∃ z : Int32, z = x_10 + 1 := ⟨_, rfl⟩
                  have k_1 : (1 : Int32).toInt = 1 := by decide
                  have bz_20 : z_20.toInt = x_10.toInt + (1 : Int32).toInt := i_add ez_20 (by omega) (by omega)
                  refine lv_iinc (v := z_20) (lv' := [(6, .int z_20), (7, .int r_17), (5, .int x_11), (4, .int x_12), (3, .int z_3), (0, .ref ve), (1, .ref vw), (2, .int vm)]) hx hb dX3_fewestFor_151 hl (k := 1) rfl ez_20.symm (by decide) rfl (fun ls hl => ?_)
                  refine lv_goto (tgt := 107) hx hb dX3_fewestFor_154 (by decide) ?_
                  exact ih9 x_12 x_11 z_20 ⟨by omega, by omega⟩ (by omega) _ _ (hP.sub [0, 1, 2, 3, 4, 5, 6, 7, 8, 9, 10, 11] rfl) (hD.sub [0, 1, 2, 3, 4, 5, 6, 7, 8, 9, 10, 11] rfl rfl) hS ls (lv_sub hl [0, 2, 3, 4, 5, 6, 7] rfl)
                · skip
                  have c_19 : ¬ (x_11.toInt ≤ r_17.toInt) := fun h9 => c_19 (i_le.mpr h9)
                  refine lv_aload_n hx hb dX3_fewestFor_133 rfl (lv_at hl 5 rfl) ?_
                  refine lv_iload hx hb dX3_fewestFor_134 (lv_at hl 1 rfl) ?_
                  refine jr_i (rVr (As := [.int x_10]) (rest := []) (ci := 4) ⟨hx, hb, hml, hown, hts⟩ (g_loanOf l dC dI cy ve ve1 g_7 x_10 ) (cw_X3_60 hts rfl rfl ⟨Nat.le_of_ble_eq_true rfl, Nat.le_of_ble_eq_true rfl⟩) hP hK [0, 1] rfl rfl rfl rfl hl.1 rfl (Nat.le_of_ble_eq_true rfl) dX3_fewestFor_136 ⟨Nat.le_of_ble_eq_true rfl, Nat.le_of_ble_eq_true rfl⟩) hP hS (fun r_21 H locs hp_22 hP hS => ?_)
                  refine lv_iload_n hx hb dX3_fewestFor_139 rfl (lv_at hl 4 rfl) ?_
                  refine lv_icmp_lt (tgt := 151) hx hb dX3_fewestFor_140 (by decide) (fun c_23 => ?_) (fun c_23 => ?_)
                  · skip
                    have c_23 : r_21.toInt < z_3.toInt := i_lt.mp c_23
                    obtain ⟨z_24, ez_24⟩ : ∃ z : Int32, z = x_10 + 1 := ⟨_, rfl⟩
                    have k_1 : (1 : Int32).toInt = 1 := by decide
                    have bz_24 : z_24.toInt = x_10.toInt + (1 : Int32).toInt := i_add ez_24 (by omega) (by omega)
                    refine lv_iinc (v := z_24) (lv' := [(6, .int z_24), (7, .int r_17), (5, .int x_11), (4, .int x_12), (3, .int z_3), (0, .ref ve), (1, .ref vw), (2, .int vm)]) hx hb dX3_fewestFor_151 hl (k := 1) rfl ez_24.symm (by decide) rfl (fun ls hl => ?_)
                    refine lv_goto (tgt := 107) hx hb dX3_fewestFor_154 (by decide) ?_
                    exact ih9 x_12 x_11 z_24 ⟨by omega, by omega⟩ (by omega) _ _ (hP.sub [0, 1, 2, 3, 4, 5, 6, 7, 8, 9, 10, 11] rfl) (hD.sub [0, 1, 2, 3, 4, 5, 6, 7, 8, 9, 10, 11] rfl rfl) hS ls (lv_sub hl [0, 2, 3, 4, 5, 6, 7] rfl)
                  · skip
                    have c_23 : ¬ (r_21.toInt < z_3.toInt) := fun h9 => c_23 (i_lt.mpr h9)
                    refine lv_iload hx hb dX3_fewestFor_143 (lv_at hl 1 rfl) ?_
                    refine lv_istore (lv' := [(4, .int x_10), (7, .int r_17), (6, .int x_10), (5, .int x_11), (3, .int z_3), (0, .ref ve), (1, .ref vw), (2, .int vm)]) hx hb dX3_fewestFor_145 hl (by decide) rfl (fun ls hl => ?_)
                    refine lv_iload hx hb dX3_fewestFor_147 (lv_at hl 1 rfl) ?_
                    refine lv_istore (lv' := [(5, .int r_17), (4, .int x_10), (7, .int r_17), (6, .int x_10), (3, .int z_3), (0, .ref ve), (1, .ref vw), (2, .int vm)]) hx hb dX3_fewestFor_149 hl (by decide) rfl (fun ls hl => ?_)
                    obtain ⟨z_25, ez_25⟩ : ∃ z : Int32, z = x_10 + 1 := ⟨_, rfl⟩
                    have k_1 : (1 : Int32).toInt = 1 := by decide
                    have bz_25 : z_25.toInt = x_10.toInt + (1 : Int32).toInt := i_add ez_25 (by omega) (by omega)
                    refine lv_iinc (v := z_25) (lv' := [(6, .int z_25), (5, .int r_17), (4, .int x_10), (7, .int r_17), (3, .int z_3), (0, .ref ve), (1, .ref vw), (2, .int vm)]) hx hb dX3_fewestFor_151 hl (k := 3) rfl ez_25.symm (by decide) rfl (fun ls hl => ?_)
                    refine lv_goto (tgt := 107) hx hb dX3_fewestFor_154 (by decide) ?_
                    exact ih9 x_10 r_17 z_25 ⟨by omega, by omega⟩ (by omega) _ _ (hP.sub [0, 1, 2, 3, 4, 5, 6, 7, 8, 9, 10, 11] rfl) (hD.sub [0, 1, 2, 3, 4, 5, 6, 7, 8, 9, 10, 11] rfl rfl) hS ls (lv_sub hl [0, 1, 2, 4, 5, 6, 7] rfl)
          have k_m1 : ((-1) : Int32).toInt = (-1) := by decide
          have k_8 : (8 : Int32).toInt = 8 := by decide
          have k_1 : (1 : Int32).toInt = 1 := by decide
          exact loop9 ((128 - (1 : Int32).toInt).toNat + 1) (-1) 8 1 ⟨by omega, by omega⟩ (by omega) _ _ hP hD hS ls (lv_sub hl [0, 1, 2, 3, 4, 5, 6] rfl)
        · skip
          have c_8 : ¬ (vwcm.toInt ≤ x_6.toInt) := fun h9 => c_8 (i_le.mpr h9)
          refine lv_aload_n hx hb dX3_fewestFor_35 rfl (lv_at hl 3 rfl) ?_
          refine gf_X3_15 hx hb hts hown hK hP 2 rfl rfl dX3_fewestFor_36 ?_
          refine lv_iload_n hx hb dX3_fewestFor_39 rfl (lv_at hl 4 rfl) ?_
          refine lv_iload hx hb dX3_fewestFor_40 (lv_at hl 0 rfl) ?_
          refine jr_i (rVr (As := [.int vm, .int x_6]) (rest := []) (ci := 2) ⟨hx, hb, hml, hown, hts⟩ (g_areKin l dC dI cy vwc vwc1 vwc2 vwc3 vwc4 vwc5 vwcm vwcd vwcr vwcw vwcf5 vm x_6 r_vwcm r_vwcd r_vm) (cw_X3_34 hts rfl rfl ⟨Nat.le_of_ble_eq_true rfl, Nat.le_of_ble_eq_true rfl⟩) hP hK [3, 6] rfl rfl rfl rfl hl.1 rfl (Nat.le_of_ble_eq_true rfl) dX3_fewestFor_42 ⟨Nat.le_of_ble_eq_true rfl, Nat.le_of_ble_eq_true rfl⟩) hP hS (fun r_26 H locs hp_27 hP hS => ?_)
          have hp_27 : ((r_26 = 0) ∨ (r_26 = 1)) := hp_27
          have q_28 := hp_27
          rcases q_28 with aq_28 | aq_28
          · skip
            refine as_i 0 aq_28 ?_
            refine lv_if_eq (tgt := 66) hx hb dX3_fewestFor_45 (by decide) (fun _ => ?_) (fun c9 => absurd (by decide) c9)
            refine lv_iconst (v := 0) hx hb dX3_fewestFor_66 (by decide) ?_
            refine lv_istore (lv' := [(5, .int 0), (4, .int x_6), (3, .int z_3), (0, .ref ve), (1, .ref vw), (2, .int vm)]) hx hb dX3_fewestFor_67 hl (by decide) rfl (fun ls hl => ?_)
            refine lv_aload_n hx hb dX3_fewestFor_69 rfl (lv_at hl 3 rfl) ?_
            refine gf_X3_9 hx hb hts hown hK hP 0 rfl rfl dX3_fewestFor_70 ?_
            refine lv_iload hx hb dX3_fewestFor_73 (lv_at hl 1 rfl) ?_
            refine lv_iload hx hb dX3_fewestFor_75 (lv_at hl 0 rfl) ?_
            refine lv_if_eq (tgt := 89) hx hb dX3_fewestFor_77 (by decide) (fun _ => ?_) (fun c9 => absurd (by decide) c9)
            refine lv_iconst (v := 0) hx hb dX3_fewestFor_89 (by decide) ?_
            have hin_29 : vp_in x_6 7 := vp_in_iff.mpr ⟨by omega, by omega⟩
            refine va_iast hx hb hK hP hD hS 1 0 rfl rfl hin_29 dX3_fewestFor_90 (fun H locs hP hD hS => ?_)
            obtain ⟨f_30, ef_30⟩ : ∃ z : Nat → Int32, z = upd g_7 (Int32.toNatClampNeg x_6) 0 := ⟨_, rfl⟩
            have hP : va_P (dC, dI) vwCl [(ve, .inr (4, [.ref ve1])), (ve1, .inl (cy 0, 7, .inl f_30)), (vw, .inr (10, [.ref vwc, .ref vwl, .ref vws])), (vwc, .inr (2, [.ref vwc1, .ref vwc2, .ref vwc3, .ref vwc4, .ref vwc5, .int vwcm, .int vwcd, .int vwcr, .int vwcw])), (vwc3, .inl (cy 0, 10, .inl vwcf3)), (vwc4, .inl (cy 2, 10, .inl vwcf4)), (vwc5, .inl (cy 0, 7, .inl vwcf5)), (vwl, .inr (5, [.ref vwl1, .ref vwl2, .ref vwl3, .ref vwl4, .ref vwl5, .ref vwl6, .ref vwl7, .ref vwl8, .ref vwl9, .ref vwl10, .int vwly])), (vwl2, .inl (cy 0, 70, .inl vwlf2)), (vwl3, .inl (cy 0, 49, .inl vwlf3)), (vwl4, .inl (cy 0, 7, .inl vwlf4)), (vwl5, .inl (cy 0, 7, .inl vwlf5))] H := by rw [ef_30]; exact hP
            have hD : va_D A [(ve, .inr (4, [.ref ve1])), (ve1, .inl (cy 0, 7, .inl f_30)), (vw, .inr (10, [.ref vwc, .ref vwl, .ref vws])), (vwc, .inr (2, [.ref vwc1, .ref vwc2, .ref vwc3, .ref vwc4, .ref vwc5, .int vwcm, .int vwcd, .int vwcr, .int vwcw])), (vwc3, .inl (cy 0, 10, .inl vwcf3)), (vwc4, .inl (cy 2, 10, .inl vwcf4)), (vwc5, .inl (cy 0, 7, .inl vwcf5)), (vwl, .inr (5, [.ref vwl1, .ref vwl2, .ref vwl3, .ref vwl4, .ref vwl5, .ref vwl6, .ref vwl7, .ref vwl8, .ref vwl9, .ref vwl10, .int vwly])), (vwl2, .inl (cy 0, 70, .inl vwlf2)), (vwl3, .inl (cy 0, 49, .inl vwlf3)), (vwl4, .inl (cy 0, 7, .inl vwlf4)), (vwl5, .inl (cy 0, 7, .inl vwlf5))] := by rw [ef_30]; exact hD
            obtain ⟨z_31, ez_31⟩ : ∃ z : Int32, z = x_6 + 1 := ⟨_, rfl⟩
            have k_1 : (1 : Int32).toInt = 1 := by decide
            have bz_31 : z_31.toInt = x_6.toInt + (1 : Int32).toInt := i_add ez_31 (by omega) (by omega)
            refine lv_iinc (v := z_31) (lv' := [(4, .int z_31), (5, .int 0), (3, .int z_3), (0, .ref ve), (1, .ref vw), (2, .int vm)]) hx hb dX3_fewestFor_91 hl (k := 1) rfl ez_31.symm (by decide) rfl (fun ls hl => ?_)
            refine lv_goto (tgt := 23) hx hb dX3_fewestFor_94 (by decide) ?_
            exact ih5 z_31 f_30 ⟨by omega, by omega⟩ (by omega) _ _ (hP.sub [0, 1, 2, 3, 4, 5, 6, 7, 8, 9, 10, 11] rfl) (hD.sub [0, 1, 2, 3, 4, 5, 6, 7, 8, 9, 10, 11] rfl rfl) hS ls (lv_sub hl [0, 2, 3, 4, 5] rfl)
          · skip
            refine as_i 1 aq_28 ?_
            refine lv_if_eq (tgt := 66) hx hb dX3_fewestFor_45 (by decide) (fun c9 => absurd c9 (by decide)) (fun _ => ?_)
            refine lv_aload_n hx hb dX3_fewestFor_48 rfl (lv_at hl 3 rfl) ?_
            refine gf_X3_38 hx hb hts hown hK hP 2 rfl rfl dX3_fewestFor_49 ?_
            refine gf_X3_42 hx hb hts hown hK hP 7 rfl rfl dX3_fewestFor_52 ?_
            refine lv_iload hx hb dX3_fewestFor_55 (lv_at hl 0 rfl) ?_
            have hin_32 : vp_in x_6 7 := vp_in_iff.mpr ⟨by omega, by omega⟩
            refine va_iald hx hb hK hP 10 0 rfl rfl hin_32 dX3_fewestFor_57 ?_
            refine lv_topi (fun z_33 ez_33 => ?_)
            refine lv_iconst (v := (-1)) hx hb dX3_fewestFor_58 (by decide) ?_
            have k_m1 : ((-1) : Int32).toInt = (-1) := by decide
            refine lv_icmp_ne (tgt := 66) hx hb dX3_fewestFor_59 (by decide) (fun c_34 => ?_) (fun c_34 => ?_)
            · skip
              have c_34 : ¬ (z_33.toInt = ((-1) : Int32).toInt) := fun h9 => c_34 (i_eq.mpr h9)
              refine lv_iconst (v := 0) hx hb dX3_fewestFor_66 (by decide) ?_
              refine lv_istore (lv' := [(5, .int 0), (4, .int x_6), (3, .int z_3), (0, .ref ve), (1, .ref vw), (2, .int vm)]) hx hb dX3_fewestFor_67 hl (by decide) rfl (fun ls hl => ?_)
              refine lv_aload_n hx hb dX3_fewestFor_69 rfl (lv_at hl 3 rfl) ?_
              refine gf_X3_9 hx hb hts hown hK hP 0 rfl rfl dX3_fewestFor_70 ?_
              refine lv_iload hx hb dX3_fewestFor_73 (lv_at hl 1 rfl) ?_
              refine lv_iload hx hb dX3_fewestFor_75 (lv_at hl 0 rfl) ?_
              refine lv_if_eq (tgt := 89) hx hb dX3_fewestFor_77 (by decide) (fun _ => ?_) (fun c9 => absurd (by decide) c9)
              refine lv_iconst (v := 0) hx hb dX3_fewestFor_89 (by decide) ?_
              have hin_35 : vp_in x_6 7 := vp_in_iff.mpr ⟨by omega, by omega⟩
              refine va_iast hx hb hK hP hD hS 1 0 rfl rfl hin_35 dX3_fewestFor_90 (fun H locs hP hD hS => ?_)
              obtain ⟨f_36, ef_36⟩ : ∃ z : Nat → Int32, z = upd g_7 (Int32.toNatClampNeg x_6) 0 := ⟨_, rfl⟩
              have hP : va_P (dC, dI) vwCl [(ve, .inr (4, [.ref ve1])), (ve1, .inl (cy 0, 7, .inl f_36)), (vw, .inr (10, [.ref vwc, .ref vwl, .ref vws])), (vwc, .inr (2, [.ref vwc1, .ref vwc2, .ref vwc3, .ref vwc4, .ref vwc5, .int vwcm, .int vwcd, .int vwcr, .int vwcw])), (vwc3, .inl (cy 0, 10, .inl vwcf3)), (vwc4, .inl (cy 2, 10, .inl vwcf4)), (vwc5, .inl (cy 0, 7, .inl vwcf5)), (vwl, .inr (5, [.ref vwl1, .ref vwl2, .ref vwl3, .ref vwl4, .ref vwl5, .ref vwl6, .ref vwl7, .ref vwl8, .ref vwl9, .ref vwl10, .int vwly])), (vwl2, .inl (cy 0, 70, .inl vwlf2)), (vwl3, .inl (cy 0, 49, .inl vwlf3)), (vwl4, .inl (cy 0, 7, .inl vwlf4)), (vwl5, .inl (cy 0, 7, .inl vwlf5))] H := by rw [ef_36]; exact hP
              have hD : va_D A [(ve, .inr (4, [.ref ve1])), (ve1, .inl (cy 0, 7, .inl f_36)), (vw, .inr (10, [.ref vwc, .ref vwl, .ref vws])), (vwc, .inr (2, [.ref vwc1, .ref vwc2, .ref vwc3, .ref vwc4, .ref vwc5, .int vwcm, .int vwcd, .int vwcr, .int vwcw])), (vwc3, .inl (cy 0, 10, .inl vwcf3)), (vwc4, .inl (cy 2, 10, .inl vwcf4)), (vwc5, .inl (cy 0, 7, .inl vwcf5)), (vwl, .inr (5, [.ref vwl1, .ref vwl2, .ref vwl3, .ref vwl4, .ref vwl5, .ref vwl6, .ref vwl7, .ref vwl8, .ref vwl9, .ref vwl10, .int vwly])), (vwl2, .inl (cy 0, 70, .inl vwlf2)), (vwl3, .inl (cy 0, 49, .inl vwlf3)), (vwl4, .inl (cy 0, 7, .inl vwlf4)), (vwl5, .inl (cy 0, 7, .inl vwlf5))] := by rw [ef_36]; exact hD
              obtain ⟨z_37, ez_37⟩ : ∃ z : Int32, z = x_6 + 1 := ⟨_, rfl⟩
              have k_1 : (1 : Int32).toInt = 1 := by decide
              have bz_37 : z_37.toInt = x_6.toInt + (1 : Int32).toInt := i_add ez_37 (by omega) (by omega)
              refine lv_iinc (v := z_37) (lv' := [(4, .int z_37), (5, .int 0), (3, .int z_3), (0, .ref ve), (1, .ref vw), (2, .int vm)]) hx hb dX3_fewestFor_91 hl (k := 1) rfl ez_37.symm (by decide) rfl (fun ls hl => ?_)
              refine lv_goto (tgt := 23) hx hb dX3_fewestFor_94 (by decide) ?_
              exact ih5 z_37 f_36 ⟨by omega, by omega⟩ (by omega) _ _ (hP.sub [0, 1, 2, 3, 4, 5, 6, 7, 8, 9, 10, 11] rfl) (hD.sub [0, 1, 2, 3, 4, 5, 6, 7, 8, 9, 10, 11] rfl rfl) hS ls (lv_sub hl [0, 2, 3, 4, 5] rfl)
            · skip
              have c_34 : z_33.toInt = ((-1) : Int32).toInt := i_eq.mp c_34
              refine lv_iconst (v := 1) hx hb dX3_fewestFor_62 (by decide) ?_
              refine lv_goto (tgt := 67) hx hb dX3_fewestFor_63 (by decide) ?_
              refine lv_istore (lv' := [(5, .int 1), (4, .int x_6), (3, .int z_3), (0, .ref ve), (1, .ref vw), (2, .int vm)]) hx hb dX3_fewestFor_67 hl (by decide) rfl (fun ls hl => ?_)
              refine lv_aload_n hx hb dX3_fewestFor_69 rfl (lv_at hl 3 rfl) ?_
              refine gf_X3_9 hx hb hts hown hK hP 0 rfl rfl dX3_fewestFor_70 ?_
              refine lv_iload hx hb dX3_fewestFor_73 (lv_at hl 1 rfl) ?_
              refine lv_iload hx hb dX3_fewestFor_75 (lv_at hl 0 rfl) ?_
              refine lv_if_eq (tgt := 89) hx hb dX3_fewestFor_77 (by decide) (fun c9 => absurd c9 (by decide)) (fun _ => ?_)
              refine lv_aload_n hx hb dX3_fewestFor_80 rfl (lv_at hl 4 rfl) ?_
              refine lv_iload hx hb dX3_fewestFor_81 (lv_at hl 1 rfl) ?_
              refine jr_i (rSr (As := [.ref vw, .int x_6]) (rest := [.int x_6, .ref ve1]) ⟨hx, hb, hml, hown, hts⟩ (g_heaviestLoan l dC dI cy vw vwc vwl vws vwc1 vwc2 vwc3 vwc4 vwc5 vwcm vwcd vwcr vwcw vwcf3 vwcf4 vwl1 vwl2 vwl3 vwl4 vwl5 vwl6 vwl7 vwl8 vwl9 vwl10 vwly vwlf2 vwlf3 vwlf4 vwlf5 x_6 r_vwcm r_vwcd ⟨by omega, by omega⟩ p_vwcf3 p_vwlf2 p_vwlf5) (cw_X3_47 hts rfl rfl ⟨Nat.le_of_ble_eq_true rfl, Nat.le_of_ble_eq_true rfl⟩) hP hK [2, 3, 4, 5, 7, 8, 9, 10, 11] rfl rfl hl.1 rfl (Nat.le_of_ble_eq_true rfl) dX3_fewestFor_83 ⟨Nat.le_of_ble_eq_true rfl, Nat.le_of_ble_eq_true rfl⟩) hP hS (fun r_38 H locs hp_39 hP hS => ?_)
              refine lv_goto (tgt := 90) hx hb dX3_fewestFor_86 (by decide) ?_
              have hin_40 : vp_in x_6 7 := vp_in_iff.mpr ⟨by omega, by omega⟩
              refine va_iast hx hb hK hP hD hS 1 0 rfl rfl hin_40 dX3_fewestFor_90 (fun H locs hP hD hS => ?_)
              obtain ⟨f_41, ef_41⟩ : ∃ z : Nat → Int32, z = upd g_7 (Int32.toNatClampNeg x_6) r_38 := ⟨_, rfl⟩
              have hP : va_P (dC, dI) vwCl [(ve, .inr (4, [.ref ve1])), (ve1, .inl (cy 0, 7, .inl f_41)), (vw, .inr (10, [.ref vwc, .ref vwl, .ref vws])), (vwc, .inr (2, [.ref vwc1, .ref vwc2, .ref vwc3, .ref vwc4, .ref vwc5, .int vwcm, .int vwcd, .int vwcr, .int vwcw])), (vwc3, .inl (cy 0, 10, .inl vwcf3)), (vwc4, .inl (cy 2, 10, .inl vwcf4)), (vwc5, .inl (cy 0, 7, .inl vwcf5)), (vwl, .inr (5, [.ref vwl1, .ref vwl2, .ref vwl3, .ref vwl4, .ref vwl5, .ref vwl6, .ref vwl7, .ref vwl8, .ref vwl9, .ref vwl10, .int vwly])), (vwl2, .inl (cy 0, 70, .inl vwlf2)), (vwl3, .inl (cy 0, 49, .inl vwlf3)), (vwl4, .inl (cy 0, 7, .inl vwlf4)), (vwl5, .inl (cy 0, 7, .inl vwlf5))] H := by rw [ef_41]; exact hP
              have hD : va_D A [(ve, .inr (4, [.ref ve1])), (ve1, .inl (cy 0, 7, .inl f_41)), (vw, .inr (10, [.ref vwc, .ref vwl, .ref vws])), (vwc, .inr (2, [.ref vwc1, .ref vwc2, .ref vwc3, .ref vwc4, .ref vwc5, .int vwcm, .int vwcd, .int vwcr, .int vwcw])), (vwc3, .inl (cy 0, 10, .inl vwcf3)), (vwc4, .inl (cy 2, 10, .inl vwcf4)), (vwc5, .inl (cy 0, 7, .inl vwcf5)), (vwl, .inr (5, [.ref vwl1, .ref vwl2, .ref vwl3, .ref vwl4, .ref vwl5, .ref vwl6, .ref vwl7, .ref vwl8, .ref vwl9, .ref vwl10, .int vwly])), (vwl2, .inl (cy 0, 70, .inl vwlf2)), (vwl3, .inl (cy 0, 49, .inl vwlf3)), (vwl4, .inl (cy 0, 7, .inl vwlf4)), (vwl5, .inl (cy 0, 7, .inl vwlf5))] := by rw [ef_41]; exact hD
              obtain ⟨z_42, ez_42⟩ : ∃ z : Int32, z = x_6 + 1 := ⟨_, rfl⟩
              have k_1 : (1 : Int32).toInt = 1 := by decide
              have bz_42 : z_42.toInt = x_6.toInt + (1 : Int32).toInt := i_add ez_42 (by omega) (by omega)
              refine lv_iinc (v := z_42) (lv' := [(4, .int z_42), (5, .int 1), (3, .int z_3), (0, .ref ve), (1, .ref vw), (2, .int vm)]) hx hb dX3_fewestFor_91 hl (k := 1) rfl ez_42.symm (by decide) rfl (fun ls hl => ?_)
              refine lv_goto (tgt := 23) hx hb dX3_fewestFor_94 (by decide) ?_
              exact ih5 z_42 f_41 ⟨by omega, by omega⟩ (by omega) _ _ (hP.sub [0, 1, 2, 3, 4, 5, 6, 7, 8, 9, 10, 11] rfl) (hD.sub [0, 1, 2, 3, 4, 5, 6, 7, 8, 9, 10, 11] rfl rfl) hS ls (lv_sub hl [0, 2, 3, 4, 5] rfl)
    exact loop5 ((7 - (0 : Int32).toInt).toNat + 1) 0 vef ⟨by omega, by omega⟩ (by omega) _ _ hP hD hS ls (lv_sub hl [0, 1, 2, 3, 4] rfl)
  · skip
    have c_4 : ¬ ((0 : Int32).toInt < z_3.toInt) := fun h9 => c_4 (i_lt.mpr h9)
    refine lv_iconst (v := 0) hx hb dX3_fewestFor_18 (by decide) ?_
    rw [hQ9]
    exact re_i vef hx hb hr hlocks trivial (hP.sub [0, 1, 2, 3, 4, 5, 6, 7, 8, 9, 10, 11] rfl) (hD.sub [0, 1, 2, 3, 4, 5, 6, 7, 8, 9, 10, 11] rfl rfl) hS dX3_fewestFor_19
