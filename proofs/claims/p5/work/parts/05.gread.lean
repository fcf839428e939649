abbrev cX1_allMen : ByteArray := prog_3_method_4_code
def yX1_allMen : MethodName := ⟨RX1, "allMen", "()I"⟩
theorem t865 : Cond.code yX1_allMen cX1_allMen 1 (some .int) ∈ GW := gw_mem 979 (by decide +kernel) (by decide +kernel)
theorem dX1_allMen_0 : decode cX1_allMen 0 = .ok (.iconst 1, 1) := by decide +kernel
theorem dX1_allMen_1 : decode cX1_allMen 1 = .ok (.aload_n 0, 1) := by decide +kernel
theorem dX1_allMen_2 : decode cX1_allMen 2 = .ok (.getfield 36, 3) := by decide +kernel
theorem dX1_allMen_5 : decode cX1_allMen 5 = .ok (.ishl, 1) := by decide +kernel
theorem dX1_allMen_6 : decode cX1_allMen 6 = .ok (.iconst 1, 1) := by decide +kernel
theorem dX1_allMen_7 : decode cX1_allMen 7 = .ok (.isub, 1) := by decide +kernel
theorem dX1_allMen_8 : decode cX1_allMen 8 = .ok (.ireturn, 1) := by decide +kernel
set_option maxHeartbeats 4000000 in
set_option maxRecDepth 100000 in
theorem g_allMen (l : Launch) (dC : Nat → ClassId) (dI : Nat → Nat → Nat) (cy : Nat → ClassId) (vc : Nat) (vc1 : Nat) (vc2 : Nat) (vc3 : Nat) (vc4 : Nat) (vc5 : Nat) (vcm : Int32) (vcd : Int32) (vcr : Int32) (vcw : Int32) (r_vcm : 0 ≤ (vcm : Int32).toInt ∧ (vcm : Int32).toInt ≤ 7) (r_vcd : 0 ≤ (vcd : Int32).toInt ∧ (vcd : Int32).toInt ≤ 10) : Met l yX1_allMen (wl yX1_allMen cX1_allMen 1 (some .int)) ({ frames := 0, cells := 0, slots := 0, locals := 0 }) (Pr (dC, dI) vwCl cy [(vc, .inr (2, [.ref vc1, .ref vc2, .ref vc3, .ref vc4, .ref vc5, .int vcm, .int vcd, .int vcr, .int vcw]))] [.ref vc]) (Ri (fun r => (0 ≤ (r : Int32).toInt ∧ (r : Int32).toInt ≤ 127))) 0 0 (fun _ => False) := by
  refine mr RX1 rfl (by decide +kernel) (Nat.le_of_ble_eq_true rfl) ?_
  intro p e s m below meth c hx hb hr hlocks av9 hav hts hown hml hK hP hS Q9 hQ9 ls hl
  have hl : lv_has ls 1 [(0, .ref vc)] := hl
  refine lv_iconst (v := 1) hx hb dX1_allMen_0 (by decide) ?_
  refine lv_aload_n hx hb dX1_allMen_1 rfl (lv_at hl 0 rfl) ?_
  refine gf_X1_36 hx hb hts hown hK hP 0 rfl rfl dX1_allMen_2 ?_
  refine lv_ishl hx hb dX1_allMen_5 ?_
  refine lv_topi (fun z_1 ez_1 => ?_)
  have bz_1 : 1 ≤ z_1.toInt ∧ z_1.toInt ≤ 128 := i_shl7 ez_1 ⟨by omega, by omega⟩
  refine lv_iconst (v := 1) hx hb dX1_allMen_6 (by decide) ?_
  refine lv_isub hx hb dX1_allMen_7 ?_
  refine lv_topi (fun z_2 ez_2 => ?_)
  have k_1 : (1 : Int32).toInt = 1 := by decide
  have bz_2 : z_2.toInt = z_1.toInt - (1 : Int32).toInt := i_sub ez_2 (by omega) (by omega)
  rw [hQ9]
  exact rr_i hx hb hr hlocks (show 0 ≤ (z_2 : Int32).toInt ∧ (z_2 : Int32).toInt ≤ 127 from ⟨by omega, by omega⟩) hS dX1_allMen_8
set_option maxHeartbeats 4000000 in
set_option maxRecDepth 100000 in
theorem g_areKin (l : Launch) (dC : Nat → ClassId) (dI : Nat → Nat → Nat) (cy : Nat → ClassId) (vc : Nat) (vc1 : Nat) (vc2 : Nat) (vc3 : Nat) (vc4 : Nat) (vc5 : Nat) (vcm : Int32) (vcd : Int32) (vcr : Int32) (vcw : Int32) (vcf5 : Nat → Int32) (vm : Int32) (vk : Int32) (r_vcm : 0 ≤ (vcm : Int32).toInt ∧ (vcm : Int32).toInt ≤ 7) (r_vcd : 0 ≤ (vcd : Int32).toInt ∧ (vcd : Int32).toInt ≤ 10) (r_vm : 0 ≤ (vm : Int32).toInt ∧ (vm : Int32).toInt ≤ 6) : Met l yX1_areKin (wl yX1_areKin cX1_areKin 3 (some .boolean)) ({ frames := 0, cells := 0, slots := 0, locals := 0 }) (Pr (dC, dI) vwCl cy [(vc, .inr (2, [.ref vc1, .ref vc2, .ref vc3, .ref vc4, .ref vc5, .int vcm, .int vcd, .int vcr, .int vcw])), (vc5, .inl (cy 0, 7, .inl vcf5))] [.ref vc, .int vm, .int vk]) (Ri (fun r => ((r = 0) ∨ (r = 1)))) 0 0 (fun _ => False) := by
  refine mr RX1 rfl (by decide +kernel) (Nat.le_of_ble_eq_true rfl) ?_
  intro p e s m below meth c hx hb hr hlocks av9 hav hts hown hml hK hP hS Q9 hQ9 ls hl
  have hl : lv_has ls 3 [(0, .ref vc), (1, .int vm), (2, .int vk)] := hl
  refine lv_aload_n hx hb dX1_areKin_0 rfl (lv_at hl 0 rfl) ?_
  refine gf_X1_26 hx hb hts hown hK hP 0 rfl rfl dX1_areKin_1 ?_
  refine lv_iload_n hx hb dX1_areKin_4 rfl (lv_at hl 1 rfl) ?_
  have hin_1 : vp_in vm 7 := vp_in_iff.mpr ⟨by omega, by omega⟩
  refine va_iald hx hb hK hP 1 0 rfl rfl hin_1 dX1_areKin_5 ?_
  refine lv_topi (fun z_2 ez_2 => ?_)
  refine lv_iload_n hx hb dX1_areKin_6 rfl (lv_at hl 2 rfl) ?_
  refine lv_ishr hx hb dX1_areKin_7 ?_
  refine lv_topi (fun z_3 ez_3 => ?_)
  refine lv_iconst (v := 1) hx hb dX1_areKin_8 (by decide) ?_
  refine lv_iand hx hb dX1_areKin_9 ?_
  refine lv_topi (fun z_4 ez_4 => ?_)
  have k_1 : (1 : Int32).toInt = 1 := by decide
  have bz_4 : 0 ≤ z_4.toInt ∧ z_4.toInt ≤ 1 := i_and1 ez_4
  have k_0 : (0 : Int32).toInt = 0 := by decide
  refine lv_if_eq (tgt := 17) hx hb dX1_areKin_10 (by decide) (fun c_5 => ?_) (fun c_5 => ?_)
  · skip
    have c_5 : z_4.toInt = (0 : Int32).toInt := i_eq.mp c_5
    refine lv_iconst (v := 0) hx hb dX1_areKin_17 (by decide) ?_
    rw [hQ9]
    exact rr_z hx hb hr hlocks (Or.inl rfl) (show ((0 : Int32) = 0) ∨ ((0 : Int32) = 1) from (Or.inl rfl)) hS dX1_areKin_18
  · skip
    have c_5 : ¬ (z_4.toInt = (0 : Int32).toInt) := fun h9 => c_5 (i_eq.mpr h9)
    refine lv_iconst (v := 1) hx hb dX1_areKin_13 (by decide) ?_
    refine lv_goto (tgt := 18) hx hb dX1_areKin_14 (by decide) ?_
    rw [hQ9]
    exact rr_z hx hb hr hlocks (Or.inr rfl) (show ((1 : Int32) = 0) ∨ ((1 : Int32) = 1) from (Or.inr (rfl))) hS dX1_areKin_18
abbrev cX1_familyOf : ByteArray := prog_3_method_6_code
def yX1_familyOf : MethodName := ⟨RX1, "familyOf", "(I)I"⟩
theorem t857 : Cond.code yX1_familyOf cX1_familyOf 5 (some .int) ∈ GW := gw_mem 971 (by decide +kernel) (by decide +kernel)
theorem dX1_familyOf_0 : decode cX1_familyOf 0 = .ok (.iconst 1, 1) := by decide +kernel
theorem dX1_familyOf_1 : decode cX1_familyOf 1 = .ok (.iload_n 1, 1) := by decide +kernel
theorem dX1_familyOf_2 : decode cX1_familyOf 2 = .ok (.ishl, 1) := by decide +kernel
theorem dX1_familyOf_3 : decode cX1_familyOf 3 = .ok (.istore_n 2, 1) := by decide +kernel
theorem dX1_familyOf_4 : decode cX1_familyOf 4 = .ok (.iconst 0, 1) := by decide +kernel
theorem dX1_familyOf_5 : decode cX1_familyOf 5 = .ok (.istore_n 3, 1) := by decide +kernel
theorem dX1_familyOf_6 : decode cX1_familyOf 6 = .ok (.iload_n 3, 1) := by decide +kernel
theorem dX1_familyOf_7 : decode cX1_familyOf 7 = .ok (.aload_n 0, 1) := by decide +kernel
theorem dX1_familyOf_8 : decode cX1_familyOf 8 = .ok (.getfield 36, 3) := by decide +kernel
theorem dX1_familyOf_11 : decode cX1_familyOf 11 = .ok (.if_icmp .ge 46, 3) := by decide +kernel
theorem dX1_familyOf_57 : decode cX1_familyOf 57 = .ok (.iload_n 2, 1) := by decide +kernel
theorem dX1_familyOf_58 : decode cX1_familyOf 58 = .ok (.ireturn, 1) := by decide +kernel
theorem dX1_familyOf_14 : decode cX1_familyOf 14 = .ok (.iconst 0, 1) := by decide +kernel
theorem dX1_familyOf_15 : decode cX1_familyOf 15 = .ok (.istore 4, 2) := by decide +kernel
theorem dX1_familyOf_17 : decode cX1_familyOf 17 = .ok (.iload 4, 2) := by decide +kernel
theorem dX1_familyOf_19 : decode cX1_familyOf 19 = .ok (.aload_n 0, 1) := by decide +kernel
theorem dX1_familyOf_20 : decode cX1_familyOf 20 = .ok (.getfield 36, 3) := by decide +kernel
theorem dX1_familyOf_23 : decode cX1_familyOf 23 = .ok (.if_icmp .ge 28, 3) := by decide +kernel
theorem dX1_familyOf_51 : decode cX1_familyOf 51 = .ok (.iinc 3 1, 3) := by decide +kernel
theorem dX1_familyOf_54 : decode cX1_familyOf 54 = .ok (.goto (-48), 3) := by decide +kernel
theorem dX1_familyOf_26 : decode cX1_familyOf 26 = .ok (.iload_n 2, 1) := by decide +kernel
theorem dX1_familyOf_27 : decode cX1_familyOf 27 = .ok (.iload 4, 2) := by decide +kernel
theorem dX1_familyOf_29 : decode cX1_familyOf 29 = .ok (.ishr, 1) := by decide +kernel
theorem dX1_familyOf_30 : decode cX1_familyOf 30 = .ok (.iconst 1, 1) := by decide +kernel
theorem dX1_familyOf_31 : decode cX1_familyOf 31 = .ok (.iand, 1) := by decide +kernel
theorem dX1_familyOf_32 : decode cX1_familyOf 32 = .ok (.ifCond .eq 13, 3) := by decide +kernel
theorem dX1_familyOf_45 : decode cX1_familyOf 45 = .ok (.iinc 4 1, 3) := by decide +kernel
theorem dX1_familyOf_48 : decode cX1_familyOf 48 = .ok (.goto (-31), 3) := by decide +kernel
theorem dX1_familyOf_35 : decode cX1_familyOf 35 = .ok (.iload_n 2, 1) := by decide +kernel
theorem dX1_familyOf_36 : decode cX1_familyOf 36 = .ok (.aload_n 0, 1) := by decide +kernel
theorem dX1_familyOf_37 : decode cX1_familyOf 37 = .ok (.getfield 26, 3) := by decide +kernel
theorem dX1_familyOf_40 : decode cX1_familyOf 40 = .ok (.iload 4, 2) := by decide +kernel
theorem dX1_familyOf_42 : decode cX1_familyOf 42 = .ok (.iaload, 1) := by decide +kernel
theorem dX1_familyOf_43 : decode cX1_familyOf 43 = .ok (.ior, 1) := by decide +kernel
theorem dX1_familyOf_44 : decode cX1_familyOf 44 = .ok (.istore_n 2, 1) := by decide +kernel
set_option maxHeartbeats 4000000 in
set_option maxRecDepth 100000 in
theorem g_familyOf (l : Launch) (dC : Nat → ClassId) (dI : Nat → Nat → Nat) (cy : Nat → ClassId) (vc : Nat) (vc1 : Nat) (vc2 : Nat) (vc3 : Nat) (vc4 : Nat) (vc5 : Nat) (vcm : Int32) (vcd : Int32) (vcr : Int32) (vcw : Int32) (vcf5 : Nat → Int32) (vm : Int32) (r_vcm : 0 ≤ (vcm : Int32).toInt ∧ (vcm : Int32).toInt ≤ 7) (r_vcd : 0 ≤ (vcd : Int32).toInt ∧ (vcd : Int32).toInt ≤ 10) : Met l yX1_familyOf (wl yX1_familyOf cX1_familyOf 5 (some .int)) ({ frames := 0, cells := 0, slots := 0, locals := 0 }) (Pr (dC, dI) vwCl cy [(vc, .inr (2, [.ref vc1, .ref vc2, .ref vc3, .ref vc4, .ref vc5, .int vcm, .int vcd, .int vcr, .int vcw])), (vc5, .inl (cy 0, 7, .inl vcf5))] [.ref vc, .int vm]) (Ri (fun r => True)) 0 0 (fun _ => False) := by
  refine mr RX1 rfl (by decide +kernel) (Nat.le_of_ble_eq_true rfl) ?_
  intro p e s m below meth c hx hb hr hlocks av9 hav hts hown hml hK hP hS Q9 hQ9 ls hl
  have hl : lv_has ls 5 [(0, .ref vc), (1, .int vm)] := hl
  refine lv_iconst (v := 1) hx hb dX1_familyOf_0 (by decide) ?_
  refine lv_iload_n hx hb dX1_familyOf_1 rfl (lv_at hl 1 rfl) ?_
  refine lv_ishl hx hb dX1_familyOf_2 ?_
  refine lv_topi (fun z_1 ez_1 => ?_)
  refine lv_istore_n (lv' := [(2, .int z_1), (0, .ref vc), (1, .int vm)]) hx hb dX1_familyOf_3 rfl hl (by decide) rfl (fun ls hl => ?_)
  refine lv_iconst (v := 0) hx hb dX1_familyOf_4 (by decide) ?_
  refine lv_istore_n (lv' := [(3, .int 0), (2, .int z_1), (0, .ref vc), (1, .int vm)]) hx hb dX1_familyOf_5 rfl hl (by decide) rfl (fun ls hl => ?_)
  have loop2 : ∀ (n2 : Nat) (x_3 : Int32) (x_4 : Int32), (0 ≤ x_4.toInt ∧ x_4.toInt ≤ 7) → 7 - x_4.toInt < (n2 : Int) → ∀ (H : Heap) (locs : List Loc), va_P (dC, dI) vwCl [(vc, .inr (2, [.ref vc1, .ref vc2, .ref vc3, .ref vc4, .ref vc5, .int vcm, .int vcd, .int vcr, .int vcw])), (vc5, .inl (cy 0, 7, .inl vcf5))] H → va_S (fun _ => False) s.heap H locs → ∀ ls : Array Slot, lv_has ls 5 [(0, .ref vc), (1, .int vm), (2, .int x_3), (3, .int x_4)] → W p l e ({ frames := 0, cells := 0, slots := 0, locals := 0 }) s m av9 below meth c H locs 0 0 Q9 (F0 m 6 ls []) := by
    intro n2
    induction n2 with
    | zero =>
      intro x_3 x_4 bx_4 hn2 H locs hP hS ls hl
      exfalso; omega
    | succ n2 ih2 =>
      intro x_3 x_4 bx_4 hn2 H locs hP hS ls hl
      refine lv_iload_n hx hb dX1_familyOf_6 rfl (lv_at hl 3 rfl) ?_
      refine lv_aload_n hx hb dX1_familyOf_7 rfl (lv_at hl 0 rfl) ?_
      refine gf_X1_36 hx hb hts hown hK hP 0 rfl rfl dX1_familyOf_8 ?_
      refine lv_icmp_ge (tgt := 57) hx hb dX1_familyOf_11 (by decide) (fun c_5 => ?_) (fun c_5 => ?_)
      · skip
        have c_5 : vcm.toInt ≤ x_4.toInt := i_le.mp c_5
        refine lv_iload_n hx hb dX1_familyOf_57 rfl (lv_at hl 2 rfl) ?_
        rw [hQ9]
        exact rr_i hx hb hr hlocks trivial hS dX1_familyOf_58
      · skip
        have c_5 : ¬ (vcm.toInt ≤ x_4.toInt) := fun h9 => c_5 (i_le.mpr h9)
        refine lv_iconst (v := 0) hx hb dX1_familyOf_14 (by decide) ?_
        refine lv_istore (lv' := [(4, .int 0), (0, .ref vc), (1, .int vm), (2, .int x_3), (3, .int x_4)]) hx hb dX1_familyOf_15 hl (by decide) rfl (fun ls hl => ?_)
        have loop6 : ∀ (n6 : Nat) (x_8 : Int32) (x_7 : Int32), (0 ≤ x_7.toInt ∧ x_7.toInt ≤ 7) → 7 - x_7.toInt < (n6 : Int) → ∀ (H : Heap) (locs : List Loc), va_P (dC, dI) vwCl [(vc, .inr (2, [.ref vc1, .ref vc2, .ref vc3, .ref vc4, .ref vc5, .int vcm, .int vcd, .int vcr, .int vcw])), (vc5, .inl (cy 0, 7, .inl vcf5))] H → va_S (fun _ => False) s.heap H locs → ∀ ls : Array Slot, lv_has ls 5 [(4, .int x_7), (0, .ref vc), (1, .int vm), (2, .int x_8), (3, .int x_4)] → W p l e ({ frames := 0, cells := 0, slots := 0, locals := 0 }) s m av9 below meth c H locs 0 0 Q9 (F0 m 17 ls []) := by
          intro n6
          induction n6 with
          | zero =>
            intro x_8 x_7 bx_7 hn6 H locs hP hS ls hl
            exfalso; omega
          | succ n6 ih6 =>
            intro x_8 x_7 bx_7 hn6 H locs hP hS ls hl
            refine lv_iload hx hb dX1_familyOf_17 (lv_at hl 0 rfl) ?_
            refine lv_aload_n hx hb dX1_familyOf_19 rfl (lv_at hl 1 rfl) ?_
            refine gf_X1_36 hx hb hts hown hK hP 0 rfl rfl dX1_familyOf_20 ?_
            refine lv_icmp_ge (tgt := 51) hx hb dX1_familyOf_23 (by decide) (fun c_9 => ?_) (fun c_9 => ?_)
            · skip
              have c_9 : vcm.toInt ≤ x_7.toInt := i_le.mp c_9
              obtain ⟨z_10, ez_10⟩ : ∃ z : Int32, z = x_4 + 1 := ⟨_, rfl⟩
              have k_1 : (1 : Int32).toInt = 1 := by decide
              have bz_10 : z_10.toInt = x_4.toInt + (1 : Int32).toInt := i_add ez_10 (by omega) (by omega)
              refine lv_iinc (v := z_10) (lv' := [(3, .int z_10), (4, .int x_7), (0, .ref vc), (1, .int vm), (2, .int x_8)]) hx hb dX1_familyOf_51 hl (k := 4) rfl ez_10.symm (by decide) rfl (fun ls hl => ?_)
              refine lv_goto (tgt := 6) hx hb dX1_familyOf_54 (by decide) ?_
              exact ih2 x_8 z_10 ⟨by omega, by omega⟩ (by omega) _ _ (hP.sub [0, 1] rfl) hS ls (lv_sub hl [2, 3, 4, 0] rfl)
            · skip
              have c_9 : ¬ (vcm.toInt ≤ x_7.toInt) := fun h9 => c_9 (i_le.mpr h9)
              refine lv_iload_n hx hb dX1_familyOf_26 rfl (lv_at hl 3 rfl) ?_
              refine lv_iload hx hb dX1_familyOf_27 (lv_at hl 0 rfl) ?_
              refine lv_ishr hx hb dX1_familyOf_29 ?_
              refine lv_topi (fun z_11 ez_11 => ?_)
              refine lv_iconst (v := 1) hx hb dX1_familyOf_30 (by decide) ?_
              refine lv_iand hx hb dX1_familyOf_31 ?_
              refine lv_topi (fun z_12 ez_12 => ?_)
              have k_1 : (1 : Int32).toInt = 1 := by decide
              have bz_12 : 0 ≤ z_12.toInt ∧ z_12.toInt ≤ 1 := i_and1 ez_12
              have k_0 : (0 : Int32).toInt = 0 := by decide
              refine lv_if_eq (tgt := 45) hx hb dX1_familyOf_32 (by decide) (fun c_13 => ?_) (fun c_13 => ?_)
              · skip
                have c_13 : z_12.toInt = (0 : Int32).toInt := i_eq.mp c_13
                obtain ⟨z_14, ez_14⟩ : ∃ z : Int32, z = x_7 + 1 := ⟨_, rfl⟩
                have bz_14 : z_14.toInt = x_7.toInt + (1 : Int32).toInt := i_add ez_14 (by omega) (by omega)
                refine lv_iinc (v := z_14) (lv' := [(4, .int z_14), (0, .ref vc), (1, .int vm), (2, .int x_8), (3, .int x_4)]) hx hb dX1_familyOf_45 hl (k := 0) rfl ez_14.symm (by decide) rfl (fun ls hl => ?_)
                refine lv_goto (tgt := 17) hx hb dX1_familyOf_48 (by decide) ?_
                exact ih6 x_8 z_14 ⟨by omega, by omega⟩ (by omega) _ _ (hP.sub [0, 1] rfl) hS ls (lv_sub hl [0, 1, 2, 3, 4] rfl)
              · skip
                have c_13 : ¬ (z_12.toInt = (0 : Int32).toInt) := fun h9 => c_13 (i_eq.mpr h9)
                refine lv_iload_n hx hb dX1_familyOf_35 rfl (lv_at hl 3 rfl) ?_
                refine lv_aload_n hx hb dX1_familyOf_36 rfl (lv_at hl 1 rfl) ?_
                refine gf_X1_26 hx hb hts hown hK hP 0 rfl rfl dX1_familyOf_37 ?_
                refine lv_iload hx hb dX1_familyOf_40 (lv_at hl 0 rfl) ?_
                have hin_15 : vp_in x_7 7 := vp_in_iff.mpr ⟨by omega, by omega⟩
                refine va_iald hx hb hK hP 1 0 rfl rfl hin_15 dX1_familyOf_42 ?_
                refine lv_topi (fun z_16 ez_16 => ?_)
                refine lv_ior hx hb dX1_familyOf_43 ?_
                refine lv_topi (fun z_17 ez_17 => ?_)
                refine lv_istore_n (lv' := [(2, .int z_17), (4, .int x_7), (0, .ref vc), (1, .int vm), (3, .int x_4)]) hx hb dX1_familyOf_44 rfl hl (by decide) rfl (fun ls hl => ?_)
                obtain ⟨z_18, ez_18⟩ : ∃ z : Int32, z = x_7 + 1 := ⟨_, rfl⟩
                have bz_18 : z_18.toInt = x_7.toInt + (1 : Int32).toInt := i_add ez_18 (by omega) (by omega)
                refine lv_iinc (v := z_18) (lv' := [(4, .int z_18), (2, .int z_17), (0, .ref vc), (1, .int vm), (3, .int x_4)]) hx hb dX1_familyOf_45 hl (k := 1) rfl ez_18.symm (by decide) rfl (fun ls hl => ?_)
                refine lv_goto (tgt := 17) hx hb dX1_familyOf_48 (by decide) ?_
                exact ih6 z_17 z_18 ⟨by omega, by omega⟩ (by omega) _ _ (hP.sub [0, 1] rfl) hS ls (lv_sub hl [0, 2, 3, 1, 4] rfl)
        have k_0 : (0 : Int32).toInt = 0 := by decide
        exact loop6 ((7 - (0 : Int32).toInt).toNat + 1) x_3 0 ⟨by omega, by omega⟩ (by omega) _ _ hP hS ls (lv_sub hl [0, 1, 2, 3, 4] rfl)
  have k_0 : (0 : Int32).toInt = 0 := by decide
  exact loop2 ((7 - (0 : Int32).toInt).toNat + 1) z_1 0 ⟨by omega, by omega⟩ (by omega) _ _ hP hS ls (lv_sub hl [2, 3, 1, 0] rfl)
abbrev cX4_owedBy : ByteArray := prog_6_method_4_code
def yX4_owedBy : MethodName := ⟨RX4, "owedBy", "(I)I"⟩
theorem t716 : Cond.code yX4_owedBy cX4_owedBy 4 (some .int) ∈ GW := gw_mem 830 (by decide +kernel) (by decide +kernel)
theorem dX4_owedBy_0 : decode cX4_owedBy 0 = .ok (.iconst 0, 1) := by decide +kernel
theorem dX4_owedBy_1 : decode cX4_owedBy 1 = .ok (.istore_n 2, 1) := by decide +kernel
theorem dX4_owedBy_2 : decode cX4_owedBy 2 = .ok (.iconst 0, 1) := by decide +kernel
theorem dX4_owedBy_3 : decode cX4_owedBy 3 = .ok (.istore_n 3, 1) := by decide +kernel
theorem dX4_owedBy_4 : decode cX4_owedBy 4 = .ok (.iload_n 3, 1) := by decide +kernel
theorem dX4_owedBy_5 : decode cX4_owedBy 5 = .ok (.bipush 7, 2) := by decide +kernel
theorem dX4_owedBy_7 : decode cX4_owedBy 7 = .ok (.if_icmp .ge 23, 3) := by decide +kernel
theorem dX4_owedBy_30 : decode cX4_owedBy 30 = .ok (.iload_n 2, 1) := by decide +kernel
theorem dX4_owedBy_31 : decode cX4_owedBy 31 = .ok (.ireturn, 1) := by decide +kernel
theorem dX4_owedBy_10 : decode cX4_owedBy 10 = .ok (.iload_n 2, 1) := by decide +kernel
theorem dX4_owedBy_11 : decode cX4_owedBy 11 = .ok (.aload_n 0, 1) := by decide +kernel
theorem dX4_owedBy_12 : decode cX4_owedBy 12 = .ok (.getfield 18, 3) := by decide +kernel
theorem dX4_owedBy_15 : decode cX4_owedBy 15 = .ok (.iload_n 1, 1) := by decide +kernel
theorem dX4_owedBy_16 : decode cX4_owedBy 16 = .ok (.bipush 7, 2) := by decide +kernel
theorem dX4_owedBy_18 : decode cX4_owedBy 18 = .ok (.imul, 1) := by decide +kernel
theorem dX4_owedBy_19 : decode cX4_owedBy 19 = .ok (.iload_n 3, 1) := by decide +kernel
theorem dX4_owedBy_20 : decode cX4_owedBy 20 = .ok (.iadd, 1) := by decide +kernel
theorem dX4_owedBy_21 : decode cX4_owedBy 21 = .ok (.iaload, 1) := by decide +kernel
theorem dX4_owedBy_22 : decode cX4_owedBy 22 = .ok (.iadd, 1) := by decide +kernel
theorem dX4_owedBy_23 : decode cX4_owedBy 23 = .ok (.istore_n 2, 1) := by decide +kernel
theorem dX4_owedBy_24 : decode cX4_owedBy 24 = .ok (.iinc 3 1, 3) := by decide +kernel
theorem dX4_owedBy_27 : decode cX4_owedBy 27 = .ok (.goto (-23), 3) := by decide +kernel
set_option maxHeartbeats 4000000 in
set_option maxRecDepth 100000 in
theorem g_owedBy (l : Launch) (dC : Nat → ClassId) (dI : Nat → Nat → Nat) (cy : Nat → ClassId) (vl : Nat) (vl1 : Nat) (vl2 : Nat) (vl3 : Nat) (vl4 : Nat) (vl5 : Nat) (vl6 : Nat) (vl7 : Nat) (vl8 : Nat) (vl9 : Nat) (vl10 : Nat) (vly : Int32) (vlf3 : Nat → Int32) (vm : Int32) (r_vm : 0 ≤ (vm : Int32).toInt ∧ (vm : Int32).toInt ≤ 6) : Met l yX4_owedBy (wl yX4_owedBy cX4_owedBy 4 (some .int)) ({ frames := 0, cells := 0, slots := 0, locals := 0 }) (Pr (dC, dI) vwCl cy [(vl, .inr (5, [.ref vl1, .ref vl2, .ref vl3, .ref vl4, .ref vl5, .ref vl6, .ref vl7, .ref vl8, .ref vl9, .ref vl10, .int vly])), (vl3, .inl (cy 0, 49, .inl vlf3))] [.ref vl, .int vm]) (Ri (fun r => True)) 0 0 (fun _ => False) := by
  refine mr RX4 rfl (by decide +kernel) (Nat.le_of_ble_eq_true rfl) ?_
  intro p e s m below meth c hx hb hr hlocks av9 hav hts hown hml hK hP hS Q9 hQ9 ls hl
  have hl : lv_has ls 4 [(0, .ref vl), (1, .int vm)] := hl
  refine lv_iconst (v := 0) hx hb dX4_owedBy_0 (by decide) ?_
  refine lv_istore_n (lv' := [(2, .int 0), (0, .ref vl), (1, .int vm)]) hx hb dX4_owedBy_1 rfl hl (by decide) rfl (fun ls hl => ?_)
  refine lv_iconst (v := 0) hx hb dX4_owedBy_2 (by decide) ?_
  refine lv_istore_n (lv' := [(3, .int 0), (2, .int 0), (0, .ref vl), (1, .int vm)]) hx hb dX4_owedBy_3 rfl hl (by decide) rfl (fun ls hl => ?_)
  have loop1 : ∀ (n1 : Nat) (x_3 : Int32) (x_2 : Int32), (0 ≤ x_2.toInt ∧ x_2.toInt ≤ 7) → 7 - x_2.toInt < (n1 : Int) → ∀ (H : Heap) (locs : List Loc), va_P (dC, dI) vwCl [(vl, .inr (5, [.ref vl1, .ref vl2, .ref vl3, .ref vl4, .ref vl5, .ref vl6, .ref vl7, .ref vl8, .ref vl9, .ref vl10, .int vly])), (vl3, .inl (cy 0, 49, .inl vlf3))] H → va_S (fun _ => False) s.heap H locs → ∀ ls : Array Slot, lv_has ls 4 [(3, .int x_2), (2, .int x_3), (0, .ref vl), (1, .int vm)] → W p l e ({ frames := 0, cells := 0, slots := 0, locals := 0 }) s m av9 below meth c H locs 0 0 Q9 (F0 m 4 ls []) := by
    intro n1
    induction n1 with
    | zero =>
      intro x_3 x_2 bx_2 hn1 H locs hP hS ls hl
      exfalso; omega
    | succ n1 ih1 =>
      intro x_3 x_2 bx_2 hn1 H locs hP hS ls hl
      refine lv_iload_n hx hb dX4_owedBy_4 rfl (lv_at hl 0 rfl) ?_
      refine lv_bipush (v := 7) hx hb dX4_owedBy_5 (by decide) ?_
      have k_7 : (7 : Int32).toInt = 7 := by decide
      refine lv_icmp_ge (tgt := 30) hx hb dX4_owedBy_7 (by decide) (fun c_4 => ?_) (fun c_4 => ?_)
      · skip
        have c_4 : (7 : Int32).toInt ≤ x_2.toInt := i_le.mp c_4
        refine lv_iload_n hx hb dX4_owedBy_30 rfl (lv_at hl 1 rfl) ?_
        rw [hQ9]
        exact rr_i hx hb hr hlocks trivial hS dX4_owedBy_31
      · skip
        have c_4 : ¬ ((7 : Int32).toInt ≤ x_2.toInt) := fun h9 => c_4 (i_le.mpr h9)
        refine lv_iload_n hx hb dX4_owedBy_10 rfl (lv_at hl 1 rfl) ?_
        refine lv_aload_n hx hb dX4_owedBy_11 rfl (lv_at hl 2 rfl) ?_
        refine gf_X4_18 hx hb hts hown hK hP 0 rfl rfl dX4_owedBy_12 ?_
        refine lv_iload_n hx hb dX4_owedBy_15 rfl (lv_at hl 3 rfl) ?_
        refine lv_bipush (v := 7) hx hb dX4_owedBy_16 (by decide) ?_
        refine lv_imul hx hb dX4_owedBy_18 ?_
        refine lv_topi (fun z_5 ez_5 => ?_)
        have bz_5 : z_5.toInt = vm.toInt * 7 := i_mulc k_7 ez_5 (by omega) (by omega)
        refine lv_iload_n hx hb dX4_owedBy_19 rfl (lv_at hl 0 rfl) ?_
        refine lv_iadd hx hb dX4_owedBy_20 ?_
        refine lv_topi (fun z_6 ez_6 => ?_)
        have bz_6 : z_6.toInt = z_5.toInt + x_2.toInt := i_add ez_6 (by omega) (by omega)
        have hin_7 : vp_in z_6 49 := vp_in_iff.mpr ⟨by omega, by omega⟩
        refine va_iald hx hb hK hP 1 0 rfl rfl hin_7 dX4_owedBy_21 ?_
        refine lv_topi (fun z_8 ez_8 => ?_)
        refine lv_iadd hx hb dX4_owedBy_22 ?_
        refine lv_topi (fun z_9 ez_9 => ?_)
        refine lv_istore_n (lv' := [(2, .int z_9), (3, .int x_2), (0, .ref vl), (1, .int vm)]) hx hb dX4_owedBy_23 rfl hl (by decide) rfl (fun ls hl => ?_)
        obtain ⟨z_10, ez_10⟩ : ∃ z : Int32, z = x_2 + 1 := ⟨_, rfl⟩
        have k_1 : (1 : Int32).toInt = 1 := by decide
        have bz_10 : z_10.toInt = x_2.toInt + (1 : Int32).toInt := i_add ez_10 (by omega) (by omega)
        refine lv_iinc (v := z_10) (lv' := [(3, .int z_10), (2, .int z_9), (0, .ref vl), (1, .int vm)]) hx hb dX4_owedBy_24 hl (k := 1) rfl ez_10.symm (by decide) rfl (fun ls hl => ?_)
        refine lv_goto (tgt := 4) hx hb dX4_owedBy_27 (by decide) ?_
        exact ih1 z_9 z_10 ⟨by omega, by omega⟩ (by omega) _ _ (hP.sub [0, 1] rfl) hS ls (lv_sub hl [0, 1, 2, 3] rfl)
  have k_0 : (0 : Int32).toInt = 0 := by decide
  exact loop1 ((7 - (0 : Int32).toInt).toNat + 1) 0 0 ⟨by omega, by omega⟩ (by omega) _ _ hP hS ls (lv_sub hl [0, 1, 2, 3] rfl)
abbrev cX4_didByAll : ByteArray := prog_6_method_5_code
def yX4_didByAll : MethodName := ⟨RX4, "didByAll", "(I)I"⟩
theorem t688 : Cond.code yX4_didByAll cX4_didByAll 4 (some .int) ∈ GW := gw_mem 802 (by decide +kernel) (by decide +kernel)
theorem dX4_didByAll_0 : decode cX4_didByAll 0 = .ok (.iconst 0, 1) := by decide +kernel
theorem dX4_didByAll_1 : decode cX4_didByAll 1 = .ok (.istore_n 2, 1) := by decide +kernel
theorem dX4_didByAll_2 : decode cX4_didByAll 2 = .ok (.iconst 0, 1) := by decide +kernel
theorem dX4_didByAll_3 : decode cX4_didByAll 3 = .ok (.istore_n 3, 1) := by decide +kernel
theorem dX4_didByAll_4 : decode cX4_didByAll 4 = .ok (.iload_n 3, 1) := by decide +kernel
theorem dX4_didByAll_5 : decode cX4_didByAll 5 = .ok (.bipush 7, 2) := by decide +kernel
theorem dX4_didByAll_7 : decode cX4_didByAll 7 = .ok (.if_icmp .ge 23, 3) := by decide +kernel
theorem dX4_didByAll_30 : decode cX4_didByAll 30 = .ok (.iload_n 2, 1) := by decide +kernel
theorem dX4_didByAll_31 : decode cX4_didByAll 31 = .ok (.ireturn, 1) := by decide +kernel
theorem dX4_didByAll_10 : decode cX4_didByAll 10 = .ok (.iload_n 2, 1) := by decide +kernel
theorem dX4_didByAll_11 : decode cX4_didByAll 11 = .ok (.aload_n 0, 1) := by decide +kernel
theorem dX4_didByAll_12 : decode cX4_didByAll 12 = .ok (.getfield 15, 3) := by decide +kernel
theorem dX4_didByAll_15 : decode cX4_didByAll 15 = .ok (.iload_n 3, 1) := by decide +kernel
theorem dX4_didByAll_16 : decode cX4_didByAll 16 = .ok (.bipush 10, 2) := by decide +kernel
theorem dX4_didByAll_18 : decode cX4_didByAll 18 = .ok (.imul, 1) := by decide +kernel
theorem dX4_didByAll_19 : decode cX4_didByAll 19 = .ok (.iload_n 1, 1) := by decide +kernel
theorem dX4_didByAll_20 : decode cX4_didByAll 20 = .ok (.iadd, 1) := by decide +kernel
theorem dX4_didByAll_21 : decode cX4_didByAll 21 = .ok (.iaload, 1) := by decide +kernel
theorem dX4_didByAll_22 : decode cX4_didByAll 22 = .ok (.iadd, 1) := by decide +kernel
theorem dX4_didByAll_23 : decode cX4_didByAll 23 = .ok (.istore_n 2, 1) := by decide +kernel
theorem dX4_didByAll_24 : decode cX4_didByAll 24 = .ok (.iinc 3 1, 3) := by decide +kernel
theorem dX4_didByAll_27 : decode cX4_didByAll 27 = .ok (.goto (-23), 3) := by decide +kernel
set_option maxHeartbeats 4000000 in
set_option maxRecDepth 100000 in
theorem g_didByAll (l : Launch) (dC : Nat → ClassId) (dI : Nat → Nat → Nat) (cy : Nat → ClassId) (vl : Nat) (vl1 : Nat) (vl2 : Nat) (vl3 : Nat) (vl4 : Nat) (vl5 : Nat) (vl6 : Nat) (vl7 : Nat) (vl8 : Nat) (vl9 : Nat) (vl10 : Nat) (vly : Int32) (vlf2 : Nat → Int32) (vd : Int32) (r_vd : 0 ≤ (vd : Int32).toInt ∧ (vd : Int32).toInt ≤ 9) (p_vlf2 : Rg vlf2 70 0 9) : Met l yX4_didByAll (wl yX4_didByAll cX4_didByAll 4 (some .int)) ({ frames := 0, cells := 0, slots := 0, locals := 0 }) (Pr (dC, dI) vwCl cy [(vl, .inr (5, [.ref vl1, .ref vl2, .ref vl3, .ref vl4, .ref vl5, .ref vl6, .ref vl7, .ref vl8, .ref vl9, .ref vl10, .int vly])), (vl2, .inl (cy 0, 70, .inl vlf2))] [.ref vl, .int vd]) (Ri (fun r => True)) 0 0 (fun _ => False) := by
  refine mr RX4 rfl (by decide +kernel) (Nat.le_of_ble_eq_true rfl) ?_
  intro p e s m below meth c hx hb hr hlocks av9 hav hts hown hml hK hP hS Q9 hQ9 ls hl
  have hl : lv_has ls 4 [(0, .ref vl), (1, .int vd)] := hl
  refine lv_iconst (v := 0) hx hb dX4_didByAll_0 (by decide) ?_
  refine lv_istore_n (lv' := [(2, .int 0), (0, .ref vl), (1, .int vd)]) hx hb dX4_didByAll_1 rfl hl (by decide) rfl (fun ls hl => ?_)
  refine lv_iconst (v := 0) hx hb dX4_didByAll_2 (by decide) ?_
  refine lv_istore_n (lv' := [(3, .int 0), (2, .int 0), (0, .ref vl), (1, .int vd)]) hx hb dX4_didByAll_3 rfl hl (by decide) rfl (fun ls hl => ?_)
  have loop1 : ∀ (n1 : Nat) (x_3 : Int32) (x_2 : Int32), (0 ≤ x_2.toInt ∧ x_2.toInt ≤ 7) → 7 - x_2.toInt < (n1 : Int) → ∀ (H : Heap) (locs : List Loc), va_P (dC, dI) vwCl [(vl, .inr (5, [.ref vl1, .ref vl2, .ref vl3, .ref vl4, .ref vl5, .ref vl6, .ref vl7, .ref vl8, .ref vl9, .ref vl10, .int vly])), (vl2, .inl (cy 0, 70, .inl vlf2))] H → va_S (fun _ => False) s.heap H locs → ∀ ls : Array Slot, lv_has ls 4 [(3, .int x_2), (2, .int x_3), (0, .ref vl), (1, .int vd)] → W p l e ({ frames := 0, cells := 0, slots := 0, locals := 0 }) s m av9 below meth c H locs 0 0 Q9 (F0 m 4 ls []) := by
    intro n1
    induction n1 with
    | zero =>
      intro x_3 x_2 bx_2 hn1 H locs hP hS ls hl
      exfalso; omega
    | succ n1 ih1 =>
      intro x_3 x_2 bx_2 hn1 H locs hP hS ls hl
      refine lv_iload_n hx hb dX4_didByAll_4 rfl (lv_at hl 0 rfl) ?_
      refine lv_bipush (v := 7) hx hb dX4_didByAll_5 (by decide) ?_
      have k_7 : (7 : Int32).toInt = 7 := by decide
      refine lv_icmp_ge (tgt := 30) hx hb dX4_didByAll_7 (by decide) (fun c_4 => ?_) (fun c_4 => ?_)
      · skip
        have c_4 : (7 : Int32).toInt ≤ x_2.toInt := i_le.mp c_4
        refine lv_iload_n hx hb dX4_didByAll_30 rfl (lv_at hl 1 rfl) ?_
        rw [hQ9]
        exact rr_i hx hb hr hlocks trivial hS dX4_didByAll_31
      · skip
        have c_4 : ¬ ((7 : Int32).toInt ≤ x_2.toInt) := fun h9 => c_4 (i_le.mpr h9)
        refine lv_iload_n hx hb dX4_didByAll_10 rfl (lv_at hl 1 rfl) ?_
        refine lv_aload_n hx hb dX4_didByAll_11 rfl (lv_at hl 2 rfl) ?_
        refine gf_X4_15 hx hb hts hown hK hP 0 rfl rfl dX4_didByAll_12 ?_
        refine lv_iload_n hx hb dX4_didByAll_15 rfl (lv_at hl 0 rfl) ?_
        refine lv_bipush (v := 10) hx hb dX4_didByAll_16 (by decide) ?_
        refine lv_imul hx hb dX4_didByAll_18 ?_
        refine lv_topi (fun z_5 ez_5 => ?_)
        have k_10 : (10 : Int32).toInt = 10 := by decide
        have bz_5 : z_5.toInt = x_2.toInt * 10 := i_mulc k_10 ez_5 (by omega) (by omega)
        refine lv_iload_n hx hb dX4_didByAll_19 rfl (lv_at hl 3 rfl) ?_
        refine lv_iadd hx hb dX4_didByAll_20 ?_
        refine lv_topi (fun z_6 ez_6 => ?_)
        have bz_6 : z_6.toInt = z_5.toInt + vd.toInt := i_add ez_6 (by omega) (by omega)
        have hin_7 : vp_in z_6 70 := vp_in_iff.mpr ⟨by omega, by omega⟩
        refine va_iald hx hb hK hP 1 0 rfl rfl hin_7 dX4_didByAll_21 ?_
        refine lv_topi (fun z_8 ez_8 => ?_)
        have bz_8 := p_vlf2.at hin_7 ez_8
        refine lv_iadd hx hb dX4_didByAll_22 ?_
        refine lv_topi (fun z_9 ez_9 => ?_)
        refine lv_istore_n (lv' := [(2, .int z_9), (3, .int x_2), (0, .ref vl), (1, .int vd)]) hx hb dX4_didByAll_23 rfl hl (by decide) rfl (fun ls hl => ?_)
        obtain ⟨z_10, ez_10⟩ : ∃ z : Int32, z = x_2 + 1 := ⟨_, rfl⟩
        have k_1 : (1 : Int32).toInt = 1 := by decide
        have bz_10 : z_10.toInt = x_2.toInt + (1 : Int32).toInt := i_add ez_10 (by omega) (by omega)
        refine lv_iinc (v := z_10) (lv' := [(3, .int z_10), (2, .int z_9), (0, .ref vl), (1, .int vd)]) hx hb dX4_didByAll_24 hl (k := 1) rfl ez_10.symm (by decide) rfl (fun ls hl => ?_)
        refine lv_goto (tgt := 4) hx hb dX4_didByAll_27 (by decide) ?_
        exact ih1 z_9 z_10 ⟨by omega, by omega⟩ (by omega) _ _ (hP.sub [0, 1] rfl) hS ls (lv_sub hl [0, 1, 2, 3] rfl)
  have k_0 : (0 : Int32).toInt = 0 := by decide
  exact loop1 ((7 - (0 : Int32).toInt).toNat + 1) 0 0 ⟨by omega, by omega⟩ (by omega) _ _ hP hS ls (lv_sub hl [0, 1, 2, 3] rfl)
abbrev cX4_sittings : ByteArray := prog_6_method_6_code
def yX4_sittings : MethodName := ⟨RX4, "sittings", "()I"⟩
theorem t754 : Cond.code yX4_sittings cX4_sittings 3 (some .int) ∈ GW := gw_mem 868 (by decide +kernel) (by decide +kernel)
theorem dX4_sittings_0 : decode cX4_sittings 0 = .ok (.iconst 0, 1) := by decide +kernel
theorem dX4_sittings_1 : decode cX4_sittings 1 = .ok (.istore_n 1, 1) := by decide +kernel
theorem dX4_sittings_2 : decode cX4_sittings 2 = .ok (.iconst 0, 1) := by decide +kernel
theorem dX4_sittings_3 : decode cX4_sittings 3 = .ok (.istore_n 2, 1) := by decide +kernel
theorem dX4_sittings_4 : decode cX4_sittings 4 = .ok (.iload_n 2, 1) := by decide +kernel
theorem dX4_sittings_5 : decode cX4_sittings 5 = .ok (.bipush 7, 2) := by decide +kernel
theorem dX4_sittings_7 : decode cX4_sittings 7 = .ok (.if_icmp .ge 18, 3) := by decide +kernel
theorem dX4_sittings_25 : decode cX4_sittings 25 = .ok (.iload_n 1, 1) := by decide +kernel
theorem dX4_sittings_26 : decode cX4_sittings 26 = .ok (.ireturn, 1) := by decide +kernel
theorem dX4_sittings_10 : decode cX4_sittings 10 = .ok (.iload_n 1, 1) := by decide +kernel
theorem dX4_sittings_11 : decode cX4_sittings 11 = .ok (.aload_n 0, 1) := by decide +kernel
theorem dX4_sittings_12 : decode cX4_sittings 12 = .ok (.getfield 27, 3) := by decide +kernel
theorem dX4_sittings_15 : decode cX4_sittings 15 = .ok (.iload_n 2, 1) := by decide +kernel
theorem dX4_sittings_16 : decode cX4_sittings 16 = .ok (.iaload, 1) := by decide +kernel
theorem dX4_sittings_17 : decode cX4_sittings 17 = .ok (.iadd, 1) := by decide +kernel
theorem dX4_sittings_18 : decode cX4_sittings 18 = .ok (.istore_n 1, 1) := by decide +kernel
theorem dX4_sittings_19 : decode cX4_sittings 19 = .ok (.iinc 2 1, 3) := by decide +kernel
theorem dX4_sittings_22 : decode cX4_sittings 22 = .ok (.goto (-18), 3) := by decide +kernel
set_option maxHeartbeats 4000000 in
set_option maxRecDepth 100000 in
theorem g_sittings (l : Launch) (dC : Nat → ClassId) (dI : Nat → Nat → Nat) (cy : Nat → ClassId) (vl : Nat) (vl1 : Nat) (vl2 : Nat) (vl3 : Nat) (vl4 : Nat) (vl5 : Nat) (vl6 : Nat) (vl7 : Nat) (vl8 : Nat) (vl9 : Nat) (vl10 : Nat) (vly : Int32) (vlf6 : Nat → Int32)  : Met l yX4_sittings (wl yX4_sittings cX4_sittings 3 (some .int)) ({ frames := 0, cells := 0, slots := 0, locals := 0 }) (Pr (dC, dI) vwCl cy [(vl, .inr (5, [.ref vl1, .ref vl2, .ref vl3, .ref vl4, .ref vl5, .ref vl6, .ref vl7, .ref vl8, .ref vl9, .ref vl10, .int vly])), (vl6, .inl (cy 0, 7, .inl vlf6))] [.ref vl]) (Ri (fun r => True)) 0 0 (fun _ => False) := by
  refine mr RX4 rfl (by decide +kernel) (Nat.le_of_ble_eq_true rfl) ?_
  intro p e s m below meth c hx hb hr hlocks av9 hav hts hown hml hK hP hS Q9 hQ9 ls hl
  have hl : lv_has ls 3 [(0, .ref vl)] := hl
  refine lv_iconst (v := 0) hx hb dX4_sittings_0 (by decide) ?_
  refine lv_istore_n (lv' := [(1, .int 0), (0, .ref vl)]) hx hb dX4_sittings_1 rfl hl (by decide) rfl (fun ls hl => ?_)
  refine lv_iconst (v := 0) hx hb dX4_sittings_2 (by decide) ?_
  refine lv_istore_n (lv' := [(2, .int 0), (1, .int 0), (0, .ref vl)]) hx hb dX4_sittings_3 rfl hl (by decide) rfl (fun ls hl => ?_)
  have loop1 : ∀ (n1 : Nat) (x_3 : Int32) (x_2 : Int32), (0 ≤ x_2.toInt ∧ x_2.toInt ≤ 7) → 7 - x_2.toInt < (n1 : Int) → ∀ (H : Heap) (locs : List Loc), va_P (dC, dI) vwCl [(vl, .inr (5, [.ref vl1, .ref vl2, .ref vl3, .ref vl4, .ref vl5, .ref vl6, .ref vl7, .ref vl8, .ref vl9, .ref vl10, .int vly])), (vl6, .inl (cy 0, 7, .inl vlf6))] H → va_S (fun _ => False) s.heap H locs → ∀ ls : Array Slot, lv_has ls 3 [(2, .int x_2), (1, .int x_3), (0, .ref vl)] → W p l e ({ frames := 0, cells := 0, slots := 0, locals := 0 }) s m av9 below meth c H locs 0 0 Q9 (F0 m 4 ls []) := by
    intro n1
    induction n1 with
    | zero =>
      intro x_3 x_2 bx_2 hn1 H locs hP hS ls hl
      exfalso; omega
    | succ n1 ih1 =>
      intro x_3 x_2 bx_2 hn1 H locs hP hS ls hl
      refine lv_iload_n hx hb dX4_sittings_4 rfl (lv_at hl 0 rfl) ?_
      refine lv_bipush (v := 7) hx hb dX4_sittings_5 (by decide) ?_
      have k_7 : (7 : Int32).toInt = 7 := by decide
      refine lv_icmp_ge (tgt := 25) hx hb dX4_sittings_7 (by decide) (fun c_4 => ?_) (fun c_4 => ?_)
      · skip
        have c_4 : (7 : Int32).toInt ≤ x_2.toInt := i_le.mp c_4
        refine lv_iload_n hx hb dX4_sittings_25 rfl (lv_at hl 1 rfl) ?_
        rw [hQ9]
        exact rr_i hx hb hr hlocks trivial hS dX4_sittings_26
      · skip
        have c_4 : ¬ ((7 : Int32).toInt ≤ x_2.toInt) := fun h9 => c_4 (i_le.mpr h9)
        refine lv_iload_n hx hb dX4_sittings_10 rfl (lv_at hl 1 rfl) ?_
        refine lv_aload_n hx hb dX4_sittings_11 rfl (lv_at hl 2 rfl) ?_
        refine gf_X4_27 hx hb hts hown hK hP 0 rfl rfl dX4_sittings_12 ?_
        refine lv_iload_n hx hb dX4_sittings_15 rfl (lv_at hl 0 rfl) ?_
        have hin_5 : vp_in x_2 7 := vp_in_iff.mpr ⟨by omega, by omega⟩
        refine va_iald hx hb hK hP 1 0 rfl rfl hin_5 dX4_sittings_16 ?_
        refine lv_topi (fun z_6 ez_6 => ?_)
        refine lv_iadd hx hb dX4_sittings_17 ?_
        refine lv_topi (fun z_7 ez_7 => ?_)
        refine lv_istore_n (lv' := [(1, .int z_7), (2, .int x_2), (0, .ref vl)]) hx hb dX4_sittings_18 rfl hl (by decide) rfl (fun ls hl => ?_)
        obtain ⟨z_8, ez_8⟩ : ∃ z : Int32, z = x_2 + 1 := ⟨_, rfl⟩
        have k_1 : (1 : Int32).toInt = 1 := by decide
        have bz_8 : z_8.toInt = x_2.toInt + (1 : Int32).toInt := i_add ez_8 (by omega) (by omega)
        refine lv_iinc (v := z_8) (lv' := [(2, .int z_8), (1, .int z_7), (0, .ref vl)]) hx hb dX4_sittings_19 hl (k := 1) rfl ez_8.symm (by decide) rfl (fun ls hl => ?_)
        refine lv_goto (tgt := 4) hx hb dX4_sittings_22 (by decide) ?_
        exact ih1 z_7 z_8 ⟨by omega, by omega⟩ (by omega) _ _ (hP.sub [0, 1] rfl) hS ls (lv_sub hl [0, 1, 2] rfl)
  have k_0 : (0 : Int32).toInt = 0 := by decide
  exact loop1 ((7 - (0 : Int32).toInt).toNat + 1) 0 0 ⟨by omega, by omega⟩ (by omega) _ _ hP hS ls (lv_sub hl [0, 1, 2] rfl)
abbrev cX9_sideOf : ByteArray := prog_11_method_6_code
def yX9_sideOf : MethodName := ⟨RX9, "sideOf", "(IZ)I"⟩
theorem t708 : Cond.code yX9_sideOf cX9_sideOf 6 (some .int) ∈ GW := gw_mem 822 (by decide +kernel) (by decide +kernel)
theorem dX9_sideOf_0 : decode cX9_sideOf 0 = .ok (.iconst 0, 1) := by decide +kernel
theorem dX9_sideOf_1 : decode cX9_sideOf 1 = .ok (.istore_n 3, 1) := by decide +kernel
theorem dX9_sideOf_2 : decode cX9_sideOf 2 = .ok (.iconst 0, 1) := by decide +kernel
theorem dX9_sideOf_3 : decode cX9_sideOf 3 = .ok (.istore 4, 2) := by decide +kernel
theorem dX9_sideOf_5 : decode cX9_sideOf 5 = .ok (.iload 4, 2) := by decide +kernel
theorem dX9_sideOf_7 : decode cX9_sideOf 7 = .ok (.aload_n 0, 1) := by decide +kernel
theorem dX9_sideOf_8 : decode cX9_sideOf 8 = .ok (.getfield 12, 3) := by decide +kernel
theorem t459 : Cond.fieldLink RX9 12 "LikenessPound$World" "colony" "LLikenessPound$Colony;" ∈ GW := gw_mem 573 (by decide +kernel) (by decide +kernel)
theorem gf_X9_12 {p : Program} {l : Launch} {e : Env} {R : Room} {s : State} {m : MethodId} {args : Array Value} {below : List Frame} {meth : Method} {c : Code} {H : Heap} {locs : List Loc} {cells slots : Nat} {Q : State → Prop} {cc : ByteArray} {pc : Nat} {ls : Array Slot} {rest : List Value} {D : va_G} {a : Nat} {tys : List (ClassId × FieldType)} {ws : va_W} (hx : p.tables.exec = Jvm.exec) (hb : c.code = cc) (hts : ∀ w ∈ GW, w.before args s = true) (hown : s.vm.findClass RX9 = some m.cls) (hK : va_K D vwCl tys s) (hP : va_P D vwCl ws H) (q0 : Nat) {fs : List Value} (he : ws[q0]? = some (a, .inr (10, fs))) {v : Value} (hv : fs[0]? = some v) (hdg : decode cc pc = .ok (.getfield 12, 3)) (kk : W p l e R s m args below meth c H locs cells slots Q (F0 m (pc + 3) ls (v :: rest))) : W p l e R s m args below meth c H locs cells slots Q (F0 m pc ls (.ref a :: rest)) := va_get (C := RX9) (T := TX9) (N := 3) (ci := 10) hx hb hts inX9 hown hK hP q0 he rfl 0 (by decide) (hts _ t459) (fun _ h => h) hv hdg kk
theorem dX9_sideOf_11 : decode cX9_sideOf 11 = .ok (.getfield 50, 3) := by decide +kernel
theorem t400 : Cond.fieldLink RX9 50 "LikenessPound$Colony" "deeds" "I" ∈ GW := gw_mem 514 (by decide +kernel) (by decide +kernel)
theorem gf_X9_50 {p : Program} {l : Launch} {e : Env} {R : Room} {s : State} {m : MethodId} {args : Array Value} {below : List Frame} {meth : Method} {c : Code} {H : Heap} {locs : List Loc} {cells slots : Nat} {Q : State → Prop} {cc : ByteArray} {pc : Nat} {ls : Array Slot} {rest : List Value} {D : va_G} {a : Nat} {tys : List (ClassId × FieldType)} {ws : va_W} (hx : p.tables.exec = Jvm.exec) (hb : c.code = cc) (hts : ∀ w ∈ GW, w.before args s = true) (hown : s.vm.findClass RX9 = some m.cls) (hK : va_K D vwCl tys s) (hP : va_P D vwCl ws H) (q0 : Nat) {fs : List Value} (he : ws[q0]? = some (a, .inr (2, fs))) {v : Value} (hv : fs[6]? = some v) (hdg : decode cc pc = .ok (.getfield 50, 3)) (kk : W p l e R s m args below meth c H locs cells slots Q (F0 m (pc + 3) ls (v :: rest))) : W p l e R s m args below meth c H locs cells slots Q (F0 m pc ls (.ref a :: rest)) := va_get (C := RX1) (T := TX1) (N := 9) (ci := 2) hx hb hts inX1 hown hK hP q0 he rfl 6 (by decide) (hts _ t400) (fun _ h => h) hv hdg kk
theorem dX9_sideOf_14 : decode cX9_sideOf 14 = .ok (.if_icmp .ge 52, 3) := by decide +kernel
theorem dX9_sideOf_66 : decode cX9_sideOf 66 = .ok (.iconst 0, 1) := by decide +kernel
theorem dX9_sideOf_67 : decode cX9_sideOf 67 = .ok (.istore 4, 2) := by decide +kernel
theorem dX9_sideOf_69 : decode cX9_sideOf 69 = .ok (.iload 4, 2) := by decide +kernel
theorem dX9_sideOf_71 : decode cX9_sideOf 71 = .ok (.aload_n 0, 1) := by decide +kernel
theorem dX9_sideOf_72 : decode cX9_sideOf 72 = .ok (.getfield 12, 3) := by decide +kernel
theorem dX9_sideOf_75 : decode cX9_sideOf 75 = .ok (.getfield 65, 3) := by decide +kernel
theorem t393 : Cond.fieldLink RX9 65 "LikenessPound$Colony" "men" "I" ∈ GW := gw_mem 507 (by decide +kernel) (by decide +kernel)
theorem gf_X9_65 {p : Program} {l : Launch} {e : Env} {R : Room} {s : State} {m : MethodId} {args : Array Value} {below : List Frame} {meth : Method} {c : Code} {H : Heap} {locs : List Loc} {cells slots : Nat} {Q : State → Prop} {cc : ByteArray} {pc : Nat} {ls : Array Slot} {rest : List Value} {D : va_G} {a : Nat} {tys : List (ClassId × FieldType)} {ws : va_W} (hx : p.tables.exec = Jvm.exec) (hb : c.code = cc) (hts : ∀ w ∈ GW, w.before args s = true) (hown : s.vm.findClass RX9 = some m.cls) (hK : va_K D vwCl tys s) (hP : va_P D vwCl ws H) (q0 : Nat) {fs : List Value} (he : ws[q0]? = some (a, .inr (2, fs))) {v : Value} (hv : fs[5]? = some v) (hdg : decode cc pc = .ok (.getfield 65, 3)) (kk : W p l e R s m args below meth c H locs cells slots Q (F0 m (pc + 3) ls (v :: rest))) : W p l e R s m args below meth c H locs cells slots Q (F0 m pc ls (.ref a :: rest)) := va_get (C := RX1) (T := TX1) (N := 9) (ci := 2) hx hb hts inX1 hown hK hP q0 he rfl 5 (by decide) (hts _ t393) (fun _ h => h) hv hdg kk
theorem dX9_sideOf_78 : decode cX9_sideOf 78 = .ok (.if_icmp .ge 93, 3) := by decide +kernel
theorem dX9_sideOf_171 : decode cX9_sideOf 171 = .ok (.iload_n 3, 1) := by decide +kernel
theorem dX9_sideOf_172 : decode cX9_sideOf 172 = .ok (.ireturn, 1) := by decide +kernel
theorem dX9_sideOf_81 : decode cX9_sideOf 81 = .ok (.aload_n 0, 1) := by decide +kernel
theorem dX9_sideOf_82 : decode cX9_sideOf 82 = .ok (.getfield 21, 3) := by decide +kernel
theorem t463 : Cond.fieldLink RX9 21 "LikenessPound$World" "life" "LLikenessPound$Life;" ∈ GW := gw_mem 577 (by decide +kernel) (by decide +kernel)
theorem gf_X9_21 {p : Program} {l : Launch} {e : Env} {R : Room} {s : State} {m : MethodId} {args : Array Value} {below : List Frame} {meth : Method} {c : Code} {H : Heap} {locs : List Loc} {cells slots : Nat} {Q : State → Prop} {cc : ByteArray} {pc : Nat} {ls : Array Slot} {rest : List Value} {D : va_G} {a : Nat} {tys : List (ClassId × FieldType)} {ws : va_W} (hx : p.tables.exec = Jvm.exec) (hb : c.code = cc) (hts : ∀ w ∈ GW, w.before args s = true) (hown : s.vm.findClass RX9 = some m.cls) (hK : va_K D vwCl tys s) (hP : va_P D vwCl ws H) (q0 : Nat) {fs : List Value} (he : ws[q0]? = some (a, .inr (10, fs))) {v : Value} (hv : fs[1]? = some v) (hdg : decode cc pc = .ok (.getfield 21, 3)) (kk : W p l e R s m args below meth c H locs cells slots Q (F0 m (pc + 3) ls (v :: rest))) : W p l e R s m args below meth c H locs cells slots Q (F0 m pc ls (.ref a :: rest)) := va_get (C := RX9) (T := TX9) (N := 3) (ci := 10) hx hb hts inX9 hown hK hP q0 he rfl 1 (by decide) (hts _ t463) (fun _ h => h) hv hdg kk
theorem dX9_sideOf_85 : decode cX9_sideOf 85 = .ok (.getfield 68, 3) := by decide +kernel
theorem t248 : Cond.fieldLink RX9 68 "LikenessPound$Life" "lentDeed" "[I" ∈ GW := gw_mem 362 (by decide +kernel) (by decide +kernel)
theorem gf_X9_68 {p : Program} {l : Launch} {e : Env} {R : Room} {s : State} {m : MethodId} {args : Array Value} {below : List Frame} {meth : Method} {c : Code} {H : Heap} {locs : List Loc} {cells slots : Nat} {Q : State → Prop} {cc : ByteArray} {pc : Nat} {ls : Array Slot} {rest : List Value} {D : va_G} {a : Nat} {tys : List (ClassId × FieldType)} {ws : va_W} (hx : p.tables.exec = Jvm.exec) (hb : c.code = cc) (hts : ∀ w ∈ GW, w.before args s = true) (hown : s.vm.findClass RX9 = some m.cls) (hK : va_K D vwCl tys s) (hP : va_P D vwCl ws H) (q0 : Nat) {fs : List Value} (he : ws[q0]? = some (a, .inr (5, fs))) {v : Value} (hv : fs[4]? = some v) (hdg : decode cc pc = .ok (.getfield 68, 3)) (kk : W p l e R s m args below meth c H locs cells slots Q (F0 m (pc + 3) ls (v :: rest))) : W p l e R s m args below meth c H locs cells slots Q (F0 m pc ls (.ref a :: rest)) := va_get (C := RX4) (T := TX4) (N := 11) (ci := 5) hx hb hts inX4 hown hK hP q0 he rfl 4 (by decide) (hts _ t248) (fun _ h => h) hv hdg kk
theorem dX9_sideOf_88 : decode cX9_sideOf 88 = .ok (.iload 4, 2) := by decide +kernel
theorem dX9_sideOf_90 : decode cX9_sideOf 90 = .ok (.iaload, 1) := by decide +kernel
theorem dX9_sideOf_91 : decode cX9_sideOf 91 = .ok (.istore 5, 2) := by decide +kernel
theorem dX9_sideOf_93 : decode cX9_sideOf 93 = .ok (.iload 5, 2) := by decide +kernel
theorem dX9_sideOf_95 : decode cX9_sideOf 95 = .ok (.iconst (-1), 1) := by decide +kernel
theorem dX9_sideOf_96 : decode cX9_sideOf 96 = .ok (.if_icmp .eq 69, 3) := by decide +kernel
theorem dX9_sideOf_165 : decode cX9_sideOf 165 = .ok (.iinc 4 1, 3) := by decide +kernel
theorem dX9_sideOf_168 : decode cX9_sideOf 168 = .ok (.goto (-99), 3) := by decide +kernel
theorem dX9_sideOf_99 : decode cX9_sideOf 99 = .ok (.aload_n 0, 1) := by decide +kernel
theorem dX9_sideOf_100 : decode cX9_sideOf 100 = .ok (.getfield 12, 3) := by decide +kernel
theorem dX9_sideOf_103 : decode cX9_sideOf 103 = .ok (.getfield 54, 3) := by decide +kernel
theorem t385 : Cond.fieldLink RX9 54 "LikenessPound$Colony" "crime" "[Z" ∈ GW := gw_mem 499 (by decide +kernel) (by decide +kernel)
theorem gf_X9_54 {p : Program} {l : Launch} {e : Env} {R : Room} {s : State} {m : MethodId} {args : Array Value} {below : List Frame} {meth : Method} {c : Code} {H : Heap} {locs : List Loc} {cells slots : Nat} {Q : State → Prop} {cc : ByteArray} {pc : Nat} {ls : Array Slot} {rest : List Value} {D : va_G} {a : Nat} {tys : List (ClassId × FieldType)} {ws : va_W} (hx : p.tables.exec = Jvm.exec) (hb : c.code = cc) (hts : ∀ w ∈ GW, w.before args s = true) (hown : s.vm.findClass RX9 = some m.cls) (hK : va_K D vwCl tys s) (hP : va_P D vwCl ws H) (q0 : Nat) {fs : List Value} (he : ws[q0]? = some (a, .inr (2, fs))) {v : Value} (hv : fs[3]? = some v) (hdg : decode cc pc = .ok (.getfield 54, 3)) (kk : W p l e R s m args below meth c H locs cells slots Q (F0 m (pc + 3) ls (v :: rest))) : W p l e R s m args below meth c H locs cells slots Q (F0 m pc ls (.ref a :: rest)) := va_get (C := RX1) (T := TX1) (N := 9) (ci := 2) hx hb hts inX1 hown hK hP q0 he rfl 3 (by decide) (hts _ t385) (fun _ h => h) hv hdg kk
theorem dX9_sideOf_106 : decode cX9_sideOf 106 = .ok (.iload 5, 2) := by decide +kernel
theorem dX9_sideOf_108 : decode cX9_sideOf 108 = .ok (.baload, 1) := by decide +kernel
theorem dX9_sideOf_109 : decode cX9_sideOf 109 = .ok (.iload_n 2, 1) := by decide +kernel
theorem dX9_sideOf_110 : decode cX9_sideOf 110 = .ok (.if_icmp .eq 6, 3) := by decide +kernel
theorem dX9_sideOf_116 : decode cX9_sideOf 116 = .ok (.iload 4, 2) := by decide +kernel
theorem dX9_sideOf_118 : decode cX9_sideOf 118 = .ok (.iload_n 1, 1) := by decide +kernel
theorem dX9_sideOf_119 : decode cX9_sideOf 119 = .ok (.if_icmp .ne 19, 3) := by decide +kernel
theorem dX9_sideOf_138 : decode cX9_sideOf 138 = .ok (.aload_n 0, 1) := by decide +kernel
theorem dX9_sideOf_139 : decode cX9_sideOf 139 = .ok (.getfield 21, 3) := by decide +kernel
theorem dX9_sideOf_142 : decode cX9_sideOf 142 = .ok (.getfield 71, 3) := by decide +kernel
theorem t245 : Cond.fieldLink RX9 71 "LikenessPound$Life" "lentTo" "[I" ∈ GW := gw_mem 359 (by decide +kernel) (by decide +kernel)
theorem gf_X9_71 {p : Program} {l : Launch} {e : Env} {R : Room} {s : State} {m : MethodId} {args : Array Value} {below : List Frame} {meth : Method} {c : Code} {H : Heap} {locs : List Loc} {cells slots : Nat} {Q : State → Prop} {cc : ByteArray} {pc : Nat} {ls : Array Slot} {rest : List Value} {D : va_G} {a : Nat} {tys : List (ClassId × FieldType)} {ws : va_W} (hx : p.tables.exec = Jvm.exec) (hb : c.code = cc) (hts : ∀ w ∈ GW, w.before args s = true) (hown : s.vm.findClass RX9 = some m.cls) (hK : va_K D vwCl tys s) (hP : va_P D vwCl ws H) (q0 : Nat) {fs : List Value} (he : ws[q0]? = some (a, .inr (5, fs))) {v : Value} (hv : fs[3]? = some v) (hdg : decode cc pc = .ok (.getfield 71, 3)) (kk : W p l e R s m args below meth c H locs cells slots Q (F0 m (pc + 3) ls (v :: rest))) : W p l e R s m args below meth c H locs cells slots Q (F0 m pc ls (.ref a :: rest)) := va_get (C := RX4) (T := TX4) (N := 11) (ci := 5) hx hb hts inX4 hown hK hP q0 he rfl 3 (by decide) (hts _ t245) (fun _ h => h) hv hdg kk
theorem dX9_sideOf_145 : decode cX9_sideOf 145 = .ok (.iload 4, 2) := by decide +kernel
theorem dX9_sideOf_147 : decode cX9_sideOf 147 = .ok (.iaload, 1) := by decide +kernel
theorem dX9_sideOf_148 : decode cX9_sideOf 148 = .ok (.iload_n 1, 1) := by decide +kernel
theorem dX9_sideOf_149 : decode cX9_sideOf 149 = .ok (.if_icmp .ne 16, 3) := by decide +kernel
theorem dX9_sideOf_152 : decode cX9_sideOf 152 = .ok (.iload_n 3, 1) := by decide +kernel
theorem dX9_sideOf_153 : decode cX9_sideOf 153 = .ok (.aload_n 0, 1) := by decide +kernel
theorem dX9_sideOf_154 : decode cX9_sideOf 154 = .ok (.getfield 12, 3) := by decide +kernel
theorem dX9_sideOf_157 : decode cX9_sideOf 157 = .ok (.getfield 62, 3) := by decide +kernel
theorem t381 : Cond.fieldLink RX9 62 "LikenessPound$Colony" "weight" "[I" ∈ GW := gw_mem 495 (by decide +kernel) (by decide +kernel)
theorem gf_X9_62 {p : Program} {l : Launch} {e : Env} {R : Room} {s : State} {m : MethodId} {args : Array Value} {below : List Frame} {meth : Method} {c : Code} {H : Heap} {locs : List Loc} {cells slots : Nat} {Q : State → Prop} {cc : ByteArray} {pc : Nat} {ls : Array Slot} {rest : List Value} {D : va_G} {a : Nat} {tys : List (ClassId × FieldType)} {ws : va_W} (hx : p.tables.exec = Jvm.exec) (hb : c.code = cc) (hts : ∀ w ∈ GW, w.before args s = true) (hown : s.vm.findClass RX9 = some m.cls) (hK : va_K D vwCl tys s) (hP : va_P D vwCl ws H) (q0 : Nat) {fs : List Value} (he : ws[q0]? = some (a, .inr (2, fs))) {v : Value} (hv : fs[2]? = some v) (hdg : decode cc pc = .ok (.getfield 62, 3)) (kk : W p l e R s m args below meth c H locs cells slots Q (F0 m (pc + 3) ls (v :: rest))) : W p l e R s m args below meth c H locs cells slots Q (F0 m pc ls (.ref a :: rest)) := va_get (C := RX1) (T := TX1) (N := 9) (ci := 2) hx hb hts inX1 hown hK hP q0 he rfl 2 (by decide) (hts _ t381) (fun _ h => h) hv hdg kk
theorem dX9_sideOf_160 : decode cX9_sideOf 160 = .ok (.iload 5, 2) := by decide +kernel
theorem dX9_sideOf_162 : decode cX9_sideOf 162 = .ok (.iaload, 1) := by decide +kernel
theorem dX9_sideOf_163 : decode cX9_sideOf 163 = .ok (.iadd, 1) := by decide +kernel
theorem dX9_sideOf_164 : decode cX9_sideOf 164 = .ok (.istore_n 3, 1) := by decide +kernel
theorem dX9_sideOf_122 : decode cX9_sideOf 122 = .ok (.iload_n 3, 1) := by decide +kernel
theorem dX9_sideOf_123 : decode cX9_sideOf 123 = .ok (.aload_n 0, 1) := by decide +kernel
theorem dX9_sideOf_124 : decode cX9_sideOf 124 = .ok (.getfield 12, 3) := by decide +kernel
theorem dX9_sideOf_127 : decode cX9_sideOf 127 = .ok (.getfield 62, 3) := by decide +kernel
theorem dX9_sideOf_130 : decode cX9_sideOf 130 = .ok (.iload 5, 2) := by decide +kernel
theorem dX9_sideOf_132 : decode cX9_sideOf 132 = .ok (.iaload, 1) := by decide +kernel
theorem dX9_sideOf_133 : decode cX9_sideOf 133 = .ok (.isub, 1) := by decide +kernel
theorem dX9_sideOf_134 : decode cX9_sideOf 134 = .ok (.istore_n 3, 1) := by decide +kernel
theorem dX9_sideOf_135 : decode cX9_sideOf 135 = .ok (.goto 30, 3) := by decide +kernel
theorem dX9_sideOf_113 : decode cX9_sideOf 113 = .ok (.goto 52, 3) := by decide +kernel
theorem dX9_sideOf_17 : decode cX9_sideOf 17 = .ok (.aload_n 0, 1) := by decide +kernel
theorem dX9_sideOf_18 : decode cX9_sideOf 18 = .ok (.getfield 12, 3) := by decide +kernel
theorem dX9_sideOf_21 : decode cX9_sideOf 21 = .ok (.getfield 54, 3) := by decide +kernel
theorem dX9_sideOf_24 : decode cX9_sideOf 24 = .ok (.iload 4, 2) := by decide +kernel
theorem dX9_sideOf_26 : decode cX9_sideOf 26 = .ok (.baload, 1) := by decide +kernel
theorem dX9_sideOf_27 : decode cX9_sideOf 27 = .ok (.iload_n 2, 1) := by decide +kernel
theorem dX9_sideOf_28 : decode cX9_sideOf 28 = .ok (.if_icmp .ne 32, 3) := by decide +kernel
theorem dX9_sideOf_60 : decode cX9_sideOf 60 = .ok (.iinc 4 1, 3) := by decide +kernel
theorem dX9_sideOf_63 : decode cX9_sideOf 63 = .ok (.goto (-58), 3) := by decide +kernel
theorem dX9_sideOf_31 : decode cX9_sideOf 31 = .ok (.iload_n 3, 1) := by decide +kernel
theorem dX9_sideOf_32 : decode cX9_sideOf 32 = .ok (.aload_n 0, 1) := by decide +kernel
theorem dX9_sideOf_33 : decode cX9_sideOf 33 = .ok (.getfield 21, 3) := by decide +kernel
theorem dX9_sideOf_36 : decode cX9_sideOf 36 = .ok (.getfield 58, 3) := by decide +kernel
theorem t235 : Cond.fieldLink RX9 58 "LikenessPound$Life" "did" "[I" ∈ GW := gw_mem 349 (by decide +kernel) (by decide +kernel)
theorem gf_X9_58 {p : Program} {l : Launch} {e : Env} {R : Room} {s : State} {m : MethodId} {args : Array Value} {below : List Frame} {meth : Method} {c : Code} {H : Heap} {locs : List Loc} {cells slots : Nat} {Q : State → Prop} {cc : ByteArray} {pc : Nat} {ls : Array Slot} {rest : List Value} {D : va_G} {a : Nat} {tys : List (ClassId × FieldType)} {ws : va_W} (hx : p.tables.exec = Jvm.exec) (hb : c.code = cc) (hts : ∀ w ∈ GW, w.before args s = true) (hown : s.vm.findClass RX9 = some m.cls) (hK : va_K D vwCl tys s) (hP : va_P D vwCl ws H) (q0 : Nat) {fs : List Value} (he : ws[q0]? = some (a, .inr (5, fs))) {v : Value} (hv : fs[1]? = some v) (hdg : decode cc pc = .ok (.getfield 58, 3)) (kk : W p l e R s m args below meth c H locs cells slots Q (F0 m (pc + 3) ls (v :: rest))) : W p l e R s m args below meth c H locs cells slots Q (F0 m pc ls (.ref a :: rest)) := va_get (C := RX4) (T := TX4) (N := 11) (ci := 5) hx hb hts inX4 hown hK hP q0 he rfl 1 (by decide) (hts _ t235) (fun _ h => h) hv hdg kk
theorem dX9_sideOf_39 : decode cX9_sideOf 39 = .ok (.iload_n 1, 1) := by decide +kernel
theorem dX9_sideOf_40 : decode cX9_sideOf 40 = .ok (.bipush 10, 2) := by decide +kernel
theorem dX9_sideOf_42 : decode cX9_sideOf 42 = .ok (.imul, 1) := by decide +kernel
theorem dX9_sideOf_43 : decode cX9_sideOf 43 = .ok (.iload 4, 2) := by decide +kernel
theorem dX9_sideOf_45 : decode cX9_sideOf 45 = .ok (.iadd, 1) := by decide +kernel
theorem dX9_sideOf_46 : decode cX9_sideOf 46 = .ok (.iaload, 1) := by decide +kernel
theorem dX9_sideOf_47 : decode cX9_sideOf 47 = .ok (.aload_n 0, 1) := by decide +kernel
theorem dX9_sideOf_48 : decode cX9_sideOf 48 = .ok (.getfield 12, 3) := by decide +kernel
theorem dX9_sideOf_51 : decode cX9_sideOf 51 = .ok (.getfield 62, 3) := by decide +kernel
theorem dX9_sideOf_54 : decode cX9_sideOf 54 = .ok (.iload 4, 2) := by decide +kernel
theorem dX9_sideOf_56 : decode cX9_sideOf 56 = .ok (.iaload, 1) := by decide +kernel
theorem dX9_sideOf_57 : decode cX9_sideOf 57 = .ok (.imul, 1) := by decide +kernel
theorem dX9_sideOf_58 : decode cX9_sideOf 58 = .ok (.iadd, 1) := by decide +kernel
theorem dX9_sideOf_59 : decode cX9_sideOf 59 = .ok (.istore_n 3, 1) := by decide +kernel
set_option maxHeartbeats 4000000 in
set_option maxRecDepth 100000 in
theorem g_sideOf (l : Launch) (dC : Nat → ClassId) (dI : Nat → Nat → Nat) (cy : Nat → ClassId) (vw : Nat) (vwc : Nat) (vwl : Nat) (vws : Nat) (vwc1 : Nat) (vwc2 : Nat) (vwc3 : Nat) (vwc4 : Nat) (vwc5 : Nat) (vwcm : Int32) (vwcd : Int32) (vwcr : Int32) (vwcw : Int32) (vwcf3 : Nat → Int32) (vwcf4 : Nat → Int32) (vwl1 : Nat) (vwl2 : Nat) (vwl3 : Nat) (vwl4 : Nat) (vwl5 : Nat) (vwl6 : Nat) (vwl7 : Nat) (vwl8 : Nat) (vwl9 : Nat) (vwl10 : Nat) (vwly : Int32) (vwlf2 : Nat → Int32) (vwlf3 : Nat → Int32) (vwlf4 : Nat → Int32) (vwlf5 : Nat → Int32) (vm : Int32) (vcr : Int32) (r_vwcm : 0 ≤ (vwcm : Int32).toInt ∧ (vwcm : Int32).toInt ≤ 7) (r_vwcd : 0 ≤ (vwcd : Int32).toInt ∧ (vwcd : Int32).toInt ≤ 10) (r_vm : 0 ≤ (vm : Int32).toInt ∧ (vm : Int32).toInt ≤ 6) (p_vwcf3 : Rg vwcf3 10 0 40) (p_vwlf2 : Rg vwlf2 70 0 9) (p_vwlf5 : Rg vwlf5 7 (-1) 9) : Met l yX9_sideOf (wl yX9_sideOf cX9_sideOf 6 (some .int)) ({ frames := 0, cells := 0, slots := 0, locals := 0 }) (Pr (dC, dI) vwCl cy [(vw, .inr (10, [.ref vwc, .ref vwl, .ref vws])), (vwc, .inr (2, [.ref vwc1, .ref vwc2, .ref vwc3, .ref vwc4, .ref vwc5, .int vwcm, .int vwcd, .int vwcr, .int vwcw])), (vwc3, .inl (cy 0, 10, .inl vwcf3)), (vwc4, .inl (cy 2, 10, .inl vwcf4)), (vwl, .inr (5, [.ref vwl1, .ref vwl2, .ref vwl3, .ref vwl4, .ref vwl5, .ref vwl6, .ref vwl7, .ref vwl8, .ref vwl9, .ref vwl10, .int vwly])), (vwl2, .inl (cy 0, 70, .inl vwlf2)), (vwl3, .inl (cy 0, 49, .inl vwlf3)), (vwl4, .inl (cy 0, 7, .inl vwlf4)), (vwl5, .inl (cy 0, 7, .inl vwlf5))] [.ref vw, .int vm, .int vcr]) (Ri (fun r => True)) 0 0 (fun _ => False) := by
  refine mr RX9 rfl (by decide +kernel) (Nat.le_of_ble_eq_true rfl) ?_
  intro p e s m below meth c hx hb hr hlocks av9 hav hts hown hml hK hP hS Q9 hQ9 ls hl
  have hl : lv_has ls 6 [(0, .ref vw), (1, .int vm), (2, .int vcr)] := hl
  refine lv_iconst (v := 0) hx hb dX9_sideOf_0 (by decide) ?_
  refine lv_istore_n (lv' := [(3, .int 0), (0, .ref vw), (1, .int vm), (2, .int vcr)]) hx hb dX9_sideOf_1 rfl hl (by decide) rfl (fun ls hl => ?_)
  refine lv_iconst (v := 0) hx hb dX9_sideOf_2 (by decide) ?_
  refine lv_istore (lv' := [(4, .int 0), (3, .int 0), (0, .ref vw), (1, .int vm), (2, .int vcr)]) hx hb dX9_sideOf_3 hl (by decide) rfl (fun ls hl => ?_)
  have loop1 : ∀ (n1 : Nat) (x_3 : Int32) (x_2 : Int32), (0 ≤ x_2.toInt ∧ x_2.toInt ≤ 10) → 10 - x_2.toInt < (n1 : Int) → ∀ (H : Heap) (locs : List Loc), va_P (dC, dI) vwCl [(vw, .inr (10, [.ref vwc, .ref vwl, .ref vws])), (vwc, .inr (2, [.ref vwc1, .ref vwc2, .ref vwc3, .ref vwc4, .ref vwc5, .int vwcm, .int vwcd, .int vwcr, .int vwcw])), (vwc3, .inl (cy 0, 10, .inl vwcf3)), (vwc4, .inl (cy 2, 10, .inl vwcf4)), (vwl, .inr (5, [.ref vwl1, .ref vwl2, .ref vwl3, .ref vwl4, .ref vwl5, .ref vwl6, .ref vwl7, .ref vwl8, .ref vwl9, .ref vwl10, .int vwly])), (vwl2, .inl (cy 0, 70, .inl vwlf2)), (vwl3, .inl (cy 0, 49, .inl vwlf3)), (vwl4, .inl (cy 0, 7, .inl vwlf4)), (vwl5, .inl (cy 0, 7, .inl vwlf5))] H → va_S (fun _ => False) s.heap H locs → ∀ ls : Array Slot, lv_has ls 6 [(4, .int x_2), (3, .int x_3), (0, .ref vw), (1, .int vm), (2, .int vcr)] → W p l e ({ frames := 0, cells := 0, slots := 0, locals := 0 }) s m av9 below meth c H locs 0 0 Q9 (F0 m 5 ls []) := by
    intro n1
    induction n1 with
    | zero =>
      intro x_3 x_2 bx_2 hn1 H locs hP hS ls hl
      exfalso; omega
    | succ n1 ih1 =>
      intro x_3 x_2 bx_2 hn1 H locs hP hS ls hl
      refine lv_iload hx hb dX9_sideOf_5 (lv_at hl 0 rfl) ?_
      refine lv_aload_n hx hb dX9_sideOf_7 rfl (lv_at hl 2 rfl) ?_
      refine gf_X9_12 hx hb hts hown hK hP 0 rfl rfl dX9_sideOf_8 ?_
      refine gf_X9_50 hx hb hts hown hK hP 1 rfl rfl dX9_sideOf_11 ?_
      refine lv_icmp_ge (tgt := 66) hx hb dX9_sideOf_14 (by decide) (fun c_4 => ?_) (fun c_4 => ?_)
      · skip
        have c_4 : vwcd.toInt ≤ x_2.toInt := i_le.mp c_4
        refine lv_iconst (v := 0) hx hb dX9_sideOf_66 (by decide) ?_
        refine lv_istore (lv' := [(4, .int 0), (3, .int x_3), (0, .ref vw), (1, .int vm), (2, .int vcr)]) hx hb dX9_sideOf_67 hl (by decide) rfl (fun ls hl => ?_)
        have loop5 : ∀ (n5 : Nat) (x_7 : Int32) (x_6 : Int32), (0 ≤ x_6.toInt ∧ x_6.toInt ≤ 7) → 7 - x_6.toInt < (n5 : Int) → ∀ (H : Heap) (locs : List Loc), va_P (dC, dI) vwCl [(vw, .inr (10, [.ref vwc, .ref vwl, .ref vws])), (vwc, .inr (2, [.ref vwc1, .ref vwc2, .ref vwc3, .ref vwc4, .ref vwc5, .int vwcm, .int vwcd, .int vwcr, .int vwcw])), (vwc3, .inl (cy 0, 10, .inl vwcf3)), (vwc4, .inl (cy 2, 10, .inl vwcf4)), (vwl, .inr (5, [.ref vwl1, .ref vwl2, .ref vwl3, .ref vwl4, .ref vwl5, .ref vwl6, .ref vwl7, .ref vwl8, .ref vwl9, .ref vwl10, .int vwly])), (vwl2, .inl (cy 0, 70, .inl vwlf2)), (vwl3, .inl (cy 0, 49, .inl vwlf3)), (vwl4, .inl (cy 0, 7, .inl vwlf4)), (vwl5, .inl (cy 0, 7, .inl vwlf5))] H → va_S (fun _ => False) s.heap H locs → ∀ ls : Array Slot, lv_has ls 6 [(4, .int x_6), (3, .int x_7), (0, .ref vw), (1, .int vm), (2, .int vcr)] → W p l e ({ frames := 0, cells := 0, slots := 0, locals := 0 }) s m av9 below meth c H locs 0 0 Q9 (F0 m 69 ls []) := by
          intro n5
          induction n5 with
          | zero =>
            intro x_7 x_6 bx_6 hn5 H locs hP hS ls hl
            exfalso; omega
          | succ n5 ih5 =>
            intro x_7 x_6 bx_6 hn5 H locs hP hS ls hl
            refine lv_iload hx hb dX9_sideOf_69 (lv_at hl 0 rfl) ?_
            refine lv_aload_n hx hb dX9_sideOf_71 rfl (lv_at hl 2 rfl) ?_
            refine gf_X9_12 hx hb hts hown hK hP 0 rfl rfl dX9_sideOf_72 ?_
            refine gf_X9_65 hx hb hts hown hK hP 1 rfl rfl dX9_sideOf_75 ?_
            refine lv_icmp_ge (tgt := 171) hx hb dX9_sideOf_78 (by decide) (fun c_8 => ?_) (fun c_8 => ?_)
            · skip
              have c_8 : vwcm.toInt ≤ x_6.toInt := i_le.mp c_8
              refine lv_iload_n hx hb dX9_sideOf_171 rfl (lv_at hl 1 rfl) ?_
              rw [hQ9]
              exact rr_i hx hb hr hlocks trivial hS dX9_sideOf_172
            · skip
              have c_8 : ¬ (vwcm.toInt ≤ x_6.toInt) := fun h9 => c_8 (i_le.mpr h9)
              refine lv_aload_n hx hb dX9_sideOf_81 rfl (lv_at hl 2 rfl) ?_
              refine gf_X9_21 hx hb hts hown hK hP 0 rfl rfl dX9_sideOf_82 ?_
              refine gf_X9_68 hx hb hts hown hK hP 4 rfl rfl dX9_sideOf_85 ?_
              refine lv_iload hx hb dX9_sideOf_88 (lv_at hl 0 rfl) ?_
              have hin_9 : vp_in x_6 7 := vp_in_iff.mpr ⟨by omega, by omega⟩
              refine va_iald hx hb hK hP 8 0 rfl rfl hin_9 dX9_sideOf_90 ?_
              refine lv_topi (fun z_10 ez_10 => ?_)
              have bz_10 := p_vwlf5.at hin_9 ez_10
              refine lv_istore (lv' := [(5, .int z_10), (4, .int x_6), (3, .int x_7), (0, .ref vw), (1, .int vm), (2, .int vcr)]) hx hb dX9_sideOf_91 hl (by decide) rfl (fun ls hl => ?_)
              refine lv_iload hx hb dX9_sideOf_93 (lv_at hl 0 rfl) ?_
              refine lv_iconst (v := (-1)) hx hb dX9_sideOf_95 (by decide) ?_
              have k_m1 : ((-1) : Int32).toInt = (-1) := by decide
              refine lv_icmp_eq (tgt := 165) hx hb dX9_sideOf_96 (by decide) (fun c_11 => ?_) (fun c_11 => ?_)
              · skip
                have c_11 : z_10.toInt = ((-1) : Int32).toInt := i_eq.mp c_11
                obtain ⟨z_12, ez_12⟩ : ∃ z : Int32, z = x_6 + 1 := ⟨_, rfl⟩
                have k_1 : (1 : Int32).toInt = 1 := by decide
                have bz_12 : z_12.toInt = x_6.toInt + (1 : Int32).toInt := i_add ez_12 (by omega) (by omega)
                refine lv_iinc (v := z_12) (lv' := [(4, .int z_12), (5, .int z_10), (3, .int x_7), (0, .ref vw), (1, .int vm), (2, .int vcr)]) hx hb dX9_sideOf_165 hl (k := 1) rfl ez_12.symm (by decide) rfl (fun ls hl => ?_)
                refine lv_goto (tgt := 69) hx hb dX9_sideOf_168 (by decide) ?_
                exact ih5 x_7 z_12 ⟨by omega, by omega⟩ (by omega) _ _ (hP.sub [0, 1, 2, 3, 4, 5, 6, 7, 8] rfl) hS ls (lv_sub hl [0, 2, 3, 4, 5] rfl)
              · skip
                have c_11 : ¬ (z_10.toInt = ((-1) : Int32).toInt) := fun h9 => c_11 (i_eq.mpr h9)
                refine lv_aload_n hx hb dX9_sideOf_99 rfl (lv_at hl 3 rfl) ?_
                refine gf_X9_12 hx hb hts hown hK hP 0 rfl rfl dX9_sideOf_100 ?_
                refine gf_X9_54 hx hb hts hown hK hP 1 rfl rfl dX9_sideOf_103 ?_
                refine lv_iload hx hb dX9_sideOf_106 (lv_at hl 0 rfl) ?_
                have hin_13 : vp_in z_10 10 := vp_in_iff.mpr ⟨by omega, by omega⟩
                refine va_zald hx hb hK hP 3 2 rfl rfl hin_13 dX9_sideOf_108 ?_
                refine lv_topi (fun z_14 ez_14 => ?_)
                refine lv_iload_n hx hb dX9_sideOf_109 rfl (lv_at hl 5 rfl) ?_
                refine lv_icmp_eq (tgt := 116) hx hb dX9_sideOf_110 (by decide) (fun c_15 => ?_) (fun c_15 => ?_)
                · skip
                  have c_15 : z_14.toInt = vcr.toInt := i_eq.mp c_15
                  refine lv_iload hx hb dX9_sideOf_116 (lv_at hl 1 rfl) ?_
                  refine lv_iload_n hx hb dX9_sideOf_118 rfl (lv_at hl 4 rfl) ?_
                  refine lv_icmp_ne (tgt := 138) hx hb dX9_sideOf_119 (by decide) (fun c_16 => ?_) (fun c_16 => ?_)
                  · skip
                    have c_16 : ¬ (x_6.toInt = vm.toInt) := fun h9 => c_16 (i_eq.mpr h9)
                    refine lv_aload_n hx hb dX9_sideOf_138 rfl (lv_at hl 3 rfl) ?_
                    refine gf_X9_21 hx hb hts hown hK hP 0 rfl rfl dX9_sideOf_139 ?_
                    refine gf_X9_71 hx hb hts hown hK hP 4 rfl rfl dX9_sideOf_142 ?_
                    refine lv_iload hx hb dX9_sideOf_145 (lv_at hl 1 rfl) ?_
                    have hin_17 : vp_in x_6 7 := vp_in_iff.mpr ⟨by omega, by omega⟩
                    refine va_iald hx hb hK hP 7 0 rfl rfl hin_17 dX9_sideOf_147 ?_
                    refine lv_topi (fun z_18 ez_18 => ?_)
                    refine lv_iload_n hx hb dX9_sideOf_148 rfl (lv_at hl 4 rfl) ?_
                    refine lv_icmp_ne (tgt := 165) hx hb dX9_sideOf_149 (by decide) (fun c_19 => ?_) (fun c_19 => ?_)
                    · skip
                      have c_19 : ¬ (z_18.toInt = vm.toInt) := fun h9 => c_19 (i_eq.mpr h9)
                      obtain ⟨z_20, ez_20⟩ : ∃ z : Int32, z = x_6 + 1 := ⟨_, rfl⟩
                      have k_1 : (1 : Int32).toInt = 1 := by decide
                      have bz_20 : z_20.toInt = x_6.toInt + (1 : Int32).toInt := i_add ez_20 (by omega) (by omega)
                      refine lv_iinc (v := z_20) (lv' := [(4, .int z_20), (5, .int z_10), (3, .int x_7), (0, .ref vw), (1, .int vm), (2, .int vcr)]) hx hb dX9_sideOf_165 hl (k := 1) rfl ez_20.symm (by decide) rfl (fun ls hl => ?_)
                      refine lv_goto (tgt := 69) hx hb dX9_sideOf_168 (by decide) ?_
                      exact ih5 x_7 z_20 ⟨by omega, by omega⟩ (by omega) _ _ (hP.sub [0, 1, 2, 3, 4, 5, 6, 7, 8] rfl) hS ls (lv_sub hl [0, 2, 3, 4, 5] rfl)
                    · skip
                      have c_19 : z_18.toInt = vm.toInt := i_eq.mp c_19
                      refine lv_iload_n hx hb dX9_sideOf_152 rfl (lv_at hl 2 rfl) ?_
                      refine lv_aload_n hx hb dX9_sideOf_153 rfl (lv_at hl 3 rfl) ?_
                      refine gf_X9_12 hx hb hts hown hK hP 0 rfl rfl dX9_sideOf_154 ?_
                      refine gf_X9_62 hx hb hts hown hK hP 1 rfl rfl dX9_sideOf_157 ?_
                      refine lv_iload hx hb dX9_sideOf_160 (lv_at hl 0 rfl) ?_
                      have hin_21 : vp_in z_10 10 := vp_in_iff.mpr ⟨by omega, by omega⟩
                      refine va_iald hx hb hK hP 2 0 rfl rfl hin_21 dX9_sideOf_162 ?_
                      refine lv_topi (fun z_22 ez_22 => ?_)
                      have bz_22 := p_vwcf3.at hin_21 ez_22
                      refine lv_iadd hx hb dX9_sideOf_163 ?_
                      refine lv_topi (fun z_23 ez_23 => ?_)
                      refine lv_istore_n (lv' := [(3, .int z_23), (5, .int z_10), (4, .int x_6), (0, .ref vw), (1, .int vm), (2, .int vcr)]) hx hb dX9_sideOf_164 rfl hl (by decide) rfl (fun ls hl => ?_)
                      obtain ⟨z_24, ez_24⟩ : ∃ z : Int32, z = x_6 + 1 := ⟨_, rfl⟩
                      have k_1 : (1 : Int32).toInt = 1 := by decide
                      have bz_24 : z_24.toInt = x_6.toInt + (1 : Int32).toInt := i_add ez_24 (by omega) (by omega)
                      refine lv_iinc (v := z_24) (lv' := [(4, .int z_24), (3, .int z_23), (5, .int z_10), (0, .ref vw), (1, .int vm), (2, .int vcr)]) hx hb dX9_sideOf_165 hl (k := 2) rfl ez_24.symm (by decide) rfl (fun ls hl => ?_)
                      refine lv_goto (tgt := 69) hx hb dX9_sideOf_168 (by decide) ?_
                      exact ih5 z_23 z_24 ⟨by omega, by omega⟩ (by omega) _ _ (hP.sub [0, 1, 2, 3, 4, 5, 6, 7, 8] rfl) hS ls (lv_sub hl [0, 1, 3, 4, 5] rfl)
                  · skip
                    have c_16 : x_6.toInt = vm.toInt := i_eq.mp c_16
                    refine lv_iload_n hx hb dX9_sideOf_122 rfl (lv_at hl 2 rfl) ?_
                    refine lv_aload_n hx hb dX9_sideOf_123 rfl (lv_at hl 3 rfl) ?_
                    refine gf_X9_12 hx hb hts hown hK hP 0 rfl rfl dX9_sideOf_124 ?_
                    refine gf_X9_62 hx hb hts hown hK hP 1 rfl rfl dX9_sideOf_127 ?_
                    refine lv_iload hx hb dX9_sideOf_130 (lv_at hl 0 rfl) ?_
                    have hin_25 : vp_in z_10 10 := vp_in_iff.mpr ⟨by omega, by omega⟩
                    refine va_iald hx hb hK hP 2 0 rfl rfl hin_25 dX9_sideOf_132 ?_
                    refine lv_topi (fun z_26 ez_26 => ?_)
                    have bz_26 := p_vwcf3.at hin_25 ez_26
                    refine lv_isub hx hb dX9_sideOf_133 ?_
                    refine lv_topi (fun z_27 ez_27 => ?_)
                    refine lv_istore_n (lv' := [(3, .int z_27), (5, .int z_10), (4, .int x_6), (0, .ref vw), (1, .int vm), (2, .int vcr)]) hx hb dX9_sideOf_134 rfl hl (by decide) rfl (fun ls hl => ?_)
                    refine lv_goto (tgt := 165) hx hb dX9_sideOf_135 (by decide) ?_
                    obtain ⟨z_28, ez_28⟩ : ∃ z : Int32, z = x_6 + 1 := ⟨_, rfl⟩
                    have k_1 : (1 : Int32).toInt = 1 := by decide
                    have bz_28 : z_28.toInt = x_6.toInt + (1 : Int32).toInt := i_add ez_28 (by omega) (by omega)
                    refine lv_iinc (v := z_28) (lv' := [(4, .int z_28), (3, .int z_27), (5, .int z_10), (0, .ref vw), (1, .int vm), (2, .int vcr)]) hx hb dX9_sideOf_165 hl (k := 2) rfl ez_28.symm (by decide) rfl (fun ls hl => ?_)
                    refine lv_goto (tgt := 69) hx hb dX9_sideOf_168 (by decide) ?_
                    exact ih5 z_27 z_28 ⟨by omega, by omega⟩ (by omega) _ _ (hP.sub [0, 1, 2, 3, 4, 5, 6, 7, 8] rfl) hS ls (lv_sub hl [0, 1, 3, 4, 5] rfl)
                · skip
                  have c_15 : ¬ (z_14.toInt = vcr.toInt) := fun h9 => c_15 (i_eq.mpr h9)
                  refine lv_goto (tgt := 165) hx hb dX9_sideOf_113 (by decide) ?_
                  obtain ⟨z_29, ez_29⟩ : ∃ z : Int32, z = x_6 + 1 := ⟨_, rfl⟩
                  have k_1 : (1 : Int32).toInt = 1 := by decide
                  have bz_29 : z_29.toInt = x_6.toInt + (1 : Int32).toInt := i_add ez_29 (by omega) (by omega)
                  refine lv_iinc (v := z_29) (lv' := [(4, .int z_29), (5, .int z_10), (3, .int x_7), (0, .ref vw), (1, .int vm), (2, .int vcr)]) hx hb dX9_sideOf_165 hl (k := 1) rfl ez_29.symm (by decide) rfl (fun ls hl => ?_)
                  refine lv_goto (tgt := 69) hx hb dX9_sideOf_168 (by decide) ?_
                  exact ih5 x_7 z_29 ⟨by omega, by omega⟩ (by omega) _ _ (hP.sub [0, 1, 2, 3, 4, 5, 6, 7, 8] rfl) hS ls (lv_sub hl [0, 2, 3, 4, 5] rfl)
        have k_0 : (0 : Int32).toInt = 0 := by decide
        exact loop5 ((7 - (0 : Int32).toInt).toNat + 1) x_3 0 ⟨by omega, by omega⟩ (by omega) _ _ hP hS ls (lv_sub hl [0, 1, 2, 3, 4] rfl)
      · skip
        have c_4 : ¬ (vwcd.toInt ≤ x_2.toInt) := fun h9 => c_4 (i_le.mpr h9)
        refine lv_aload_n hx hb dX9_sideOf_17 rfl (lv_at hl 2 rfl) ?_
        refine gf_X9_12 hx hb hts hown hK hP 0 rfl rfl dX9_sideOf_18 ?_
        refine gf_X9_54 hx hb hts hown hK hP 1 rfl rfl dX9_sideOf_21 ?_
        refine lv_iload hx hb dX9_sideOf_24 (lv_at hl 0 rfl) ?_
        have hin_30 : vp_in x_2 10 := vp_in_iff.mpr ⟨by omega, by omega⟩
        refine va_zald hx hb hK hP 3 2 rfl rfl hin_30 dX9_sideOf_26 ?_
        refine lv_topi (fun z_31 ez_31 => ?_)
        refine lv_iload_n hx hb dX9_sideOf_27 rfl (lv_at hl 4 rfl) ?_
        refine lv_icmp_ne (tgt := 60) hx hb dX9_sideOf_28 (by decide) (fun c_32 => ?_) (fun c_32 => ?_)
        · skip
          have c_32 : ¬ (z_31.toInt = vcr.toInt) := fun h9 => c_32 (i_eq.mpr h9)
          obtain ⟨z_33, ez_33⟩ : ∃ z : Int32, z = x_2 + 1 := ⟨_, rfl⟩
          have k_1 : (1 : Int32).toInt = 1 := by decide
          have bz_33 : z_33.toInt = x_2.toInt + (1 : Int32).toInt := i_add ez_33 (by omega) (by omega)
          refine lv_iinc (v := z_33) (lv' := [(4, .int z_33), (3, .int x_3), (0, .ref vw), (1, .int vm), (2, .int vcr)]) hx hb dX9_sideOf_60 hl (k := 0) rfl ez_33.symm (by decide) rfl (fun ls hl => ?_)
          refine lv_goto (tgt := 5) hx hb dX9_sideOf_63 (by decide) ?_
          exact ih1 x_3 z_33 ⟨by omega, by omega⟩ (by omega) _ _ (hP.sub [0, 1, 2, 3, 4, 5, 6, 7, 8] rfl) hS ls (lv_sub hl [0, 1, 2, 3, 4] rfl)
        · skip
          have c_32 : z_31.toInt = vcr.toInt := i_eq.mp c_32
          refine lv_iload_n hx hb dX9_sideOf_31 rfl (lv_at hl 1 rfl) ?_
          refine lv_aload_n hx hb dX9_sideOf_32 rfl (lv_at hl 2 rfl) ?_
          refine gf_X9_21 hx hb hts hown hK hP 0 rfl rfl dX9_sideOf_33 ?_
          refine gf_X9_58 hx hb hts hown hK hP 4 rfl rfl dX9_sideOf_36 ?_
          refine lv_iload_n hx hb dX9_sideOf_39 rfl (lv_at hl 3 rfl) ?_
          refine lv_bipush (v := 10) hx hb dX9_sideOf_40 (by decide) ?_
          refine lv_imul hx hb dX9_sideOf_42 ?_
          refine lv_topi (fun z_34 ez_34 => ?_)
          have k_10 : (10 : Int32).toInt = 10 := by decide
          have bz_34 : z_34.toInt = vm.toInt * 10 := i_mulc k_10 ez_34 (by omega) (by omega)
          refine lv_iload hx hb dX9_sideOf_43 (lv_at hl 0 rfl) ?_
          refine lv_iadd hx hb dX9_sideOf_45 ?_
          refine lv_topi (fun z_35 ez_35 => ?_)
          have bz_35 : z_35.toInt = z_34.toInt + x_2.toInt := i_add ez_35 (by omega) (by omega)
          have hin_36 : vp_in z_35 70 := vp_in_iff.mpr ⟨by omega, by omega⟩
          refine va_iald hx hb hK hP 5 0 rfl rfl hin_36 dX9_sideOf_46 ?_
          refine lv_topi (fun z_37 ez_37 => ?_)
          have bz_37 := p_vwlf2.at hin_36 ez_37
          refine lv_aload_n hx hb dX9_sideOf_47 rfl (lv_at hl 2 rfl) ?_
          refine gf_X9_12 hx hb hts hown hK hP 0 rfl rfl dX9_sideOf_48 ?_
          refine gf_X9_62 hx hb hts hown hK hP 1 rfl rfl dX9_sideOf_51 ?_
          refine lv_iload hx hb dX9_sideOf_54 (lv_at hl 0 rfl) ?_
          have hin_38 : vp_in x_2 10 := vp_in_iff.mpr ⟨by omega, by omega⟩
          refine va_iald hx hb hK hP 2 0 rfl rfl hin_38 dX9_sideOf_56 ?_
          refine lv_topi (fun z_39 ez_39 => ?_)
          have bz_39 := p_vwcf3.at hin_38 ez_39
          refine lv_imul hx hb dX9_sideOf_57 ?_
          refine lv_topi (fun z_40 ez_40 => ?_)
          have bz_40 : 0 ≤ z_40.toInt ∧ z_40.toInt ≤ 360 ∧ z_40.toInt = z_37.toInt * z_39.toInt := i_mulb (A := 9) (B := 40) ez_40 ⟨by omega, by omega⟩ ⟨by omega, by omega⟩ (by decide)
          refine lv_iadd hx hb dX9_sideOf_58 ?_
          refine lv_topi (fun z_41 ez_41 => ?_)
          refine lv_istore_n (lv' := [(3, .int z_41), (4, .int x_2), (0, .ref vw), (1, .int vm), (2, .int vcr)]) hx hb dX9_sideOf_59 rfl hl (by decide) rfl (fun ls hl => ?_)
          obtain ⟨z_42, ez_42⟩ : ∃ z : Int32, z = x_2 + 1 := ⟨_, rfl⟩
          have k_1 : (1 : Int32).toInt = 1 := by decide
          have bz_42 : z_42.toInt = x_2.toInt + (1 : Int32).toInt := i_add ez_42 (by omega) (by omega)
          refine lv_iinc (v := z_42) (lv' := [(4, .int z_42), (3, .int z_41), (0, .ref vw), (1, .int vm), (2, .int vcr)]) hx hb dX9_sideOf_60 hl (k := 1) rfl ez_42.symm (by decide) rfl (fun ls hl => ?_)
          refine lv_goto (tgt := 5) hx hb dX9_sideOf_63 (by decide) ?_
          exact ih1 z_41 z_42 ⟨by omega, by omega⟩ (by omega) _ _ (hP.sub [0, 1, 2, 3, 4, 5, 6, 7, 8] rfl) hS ls (lv_sub hl [0, 1, 2, 3, 4] rfl)
  have k_0 : (0 : Int32).toInt = 0 := by decide
  exact loop1 ((10 - (0 : Int32).toInt).toNat + 1) 0 0 ⟨by omega, by omega⟩ (by omega) _ _ hP hS ls (lv_sub hl [0, 1, 2, 3, 4] rfl)
abbrev cX9_whiteOf : ByteArray := prog_11_method_3_code
def yX9_whiteOf : MethodName := ⟨RX9, "whiteOf", "(I)I"⟩
theorem t704 : Cond.code yX9_whiteOf cX9_whiteOf 2 (some .int) ∈ GW := gw_mem 818 (by decide +kernel) (by decide +kernel)
theorem dX9_whiteOf_0 : decode cX9_whiteOf 0 = .ok (.aload_n 0, 1) := by decide +kernel
theorem dX9_whiteOf_1 : decode cX9_whiteOf 1 = .ok (.iload_n 1, 1) := by decide +kernel
theorem dX9_whiteOf_2 : decode cX9_whiteOf 2 = .ok (.iconst 0, 1) := by decide +kernel
theorem dX9_whiteOf_3 : decode cX9_whiteOf 3 = .ok (.invokevirtual 42, 3) := by decide +kernel
theorem t705 : Cond.methodLink RX9 42 yX9_sideOf ∈ GW := gw_mem 819 (by decide +kernel) (by decide +kernel)
theorem t15 : Cond.initialized RX9 ∈ GW := gw_mem 129 (by decide +kernel) (by decide +kernel)
theorem t707 : Cond.instanceMethod yX9_sideOf ∈ GW := gw_mem 821 (by decide +kernel) (by decide +kernel)
theorem s10 : Cond.selects RX9 yX9_sideOf yX9_sideOf ∈ GW := gw_mem 10 (by decide +kernel) (by decide +kernel)
theorem cw_X9_42 {R : Room} {s : State} {args : Array Value} {rm : Room} {mc ms : Nat} (hts : ∀ w ∈ GW, w.before args s = true) (hrc : rm.cells = mc) (hrs : rm.slots = ms) (hR : rm.frames + 1 ≤ R.frames ∧ 8 + (6 + 11) + rm.locals ≤ R.locals) : CallW R s args RX9 RX9 42 yX9_sideOf cX9_sideOf 6 (some .int) (wl yX9_sideOf cX9_sideOf 6 (some .int)) rm mc ms 2 := cwV 2 hts (gi_V t705 t707 s10 t15 t708) rfl hrc hrs (by decide +kernel) hR
theorem dX9_whiteOf_6 : decode cX9_whiteOf 6 = .ok (.ireturn, 1) := by decide +kernel
set_option maxHeartbeats 4000000 in
set_option maxRecDepth 100000 in
theorem g_whiteOf (l : Launch) (dC : Nat → ClassId) (dI : Nat → Nat → Nat) (cy : Nat → ClassId) (vw : Nat) (vwc : Nat) (vwl : Nat) (vws : Nat) (vwc1 : Nat) (vwc2 : Nat) (vwc3 : Nat) (vwc4 : Nat) (vwc5 : Nat) (vwcm : Int32) (vwcd : Int32) (vwcr : Int32) (vwcw : Int32) (vwcf3 : Nat → Int32) (vwcf4 : Nat → Int32) (vwl1 : Nat) (vwl2 : Nat) (vwl3 : Nat) (vwl4 : Nat) (vwl5 : Nat) (vwl6 : Nat) (vwl7 : Nat) (vwl8 : Nat) (vwl9 : Nat) (vwl10 : Nat) (vwly : Int32) (vwlf2 : Nat → Int32) (vwlf3 : Nat → Int32) (vwlf4 : Nat → Int32) (vwlf5 : Nat → Int32) (vm : Int32) (r_vwcm : 0 ≤ (vwcm : Int32).toInt ∧ (vwcm : Int32).toInt ≤ 7) (r_vwcd : 0 ≤ (vwcd : Int32).toInt ∧ (vwcd : Int32).toInt ≤ 10) (r_vm : 0 ≤ (vm : Int32).toInt ∧ (vm : Int32).toInt ≤ 6) (p_vwcf3 : Rg vwcf3 10 0 40) (p_vwlf2 : Rg vwlf2 70 0 9) (p_vwlf5 : Rg vwlf5 7 (-1) 9) : Met l yX9_whiteOf (wl yX9_whiteOf cX9_whiteOf 2 (some .int)) ({ frames := 1, cells := 0, slots := 0, locals := 64 }) (Pr (dC, dI) vwCl cy [(vw, .inr (10, [.ref vwc, .ref vwl, .ref vws])), (vwc, .inr (2, [.ref vwc1, .ref vwc2, .ref vwc3, .ref vwc4, .ref vwc5, .int vwcm, .int vwcd, .int vwcr, .int vwcw])), (vwc3, .inl (cy 0, 10, .inl vwcf3)), (vwc4, .inl (cy 2, 10, .inl vwcf4)), (vwl, .inr (5, [.ref vwl1, .ref vwl2, .ref vwl3, .ref vwl4, .ref vwl5, .ref vwl6, .ref vwl7, .ref vwl8, .ref vwl9, .ref vwl10, .int vwly])), (vwl2, .inl (cy 0, 70, .inl vwlf2)), (vwl3, .inl (cy 0, 49, .inl vwlf3)), (vwl4, .inl (cy 0, 7, .inl vwlf4)), (vwl5, .inl (cy 0, 7, .inl vwlf5))] [.ref vw, .int vm]) (Ri (fun r => True)) 0 0 (fun _ => False) := by
  refine mr RX9 rfl (by decide +kernel) (Nat.le_of_ble_eq_true rfl) ?_
  intro p e s m below meth c hx hb hr hlocks av9 hav hts hown hml hK hP hS Q9 hQ9 ls hl
  have hl : lv_has ls 2 [(0, .ref vw), (1, .int vm)] := hl
  refine lv_aload_n hx hb dX9_whiteOf_0 rfl (lv_at hl 0 rfl) ?_
  refine lv_iload_n hx hb dX9_whiteOf_1 rfl (lv_at hl 1 rfl) ?_
  refine lv_iconst (v := 0) hx hb dX9_whiteOf_2 (by decide) ?_
  have k_0 : (0 : Int32).toInt = 0 := by decide
  refine jr_i (rVr (As := [.int vm, .int 0]) (rest := []) (ci := 10) ⟨hx, hb, hml, hown, hts⟩ (g_sideOf l dC dI cy vw vwc vwl vws vwc1 vwc2 vwc3 vwc4 vwc5 vwcm vwcd vwcr vwcw vwcf3 vwcf4 vwl1 vwl2 vwl3 vwl4 vwl5 vwl6 vwl7 vwl8 vwl9 vwl10 vwly vwlf2 vwlf3 vwlf4 vwlf5 vm 0 r_vwcm r_vwcd r_vm p_vwcf3 p_vwlf2 p_vwlf5) (cw_X9_42 hts rfl rfl ⟨Nat.le_of_ble_eq_true rfl, Nat.le_of_ble_eq_true rfl⟩) hP hK [0, 1, 2, 3, 4, 5, 6, 7, 8] rfl rfl rfl rfl hl.1 rfl (Nat.le_of_ble_eq_true rfl) dX9_whiteOf_3 ⟨Nat.le_of_ble_eq_true rfl, Nat.le_of_ble_eq_true rfl⟩) hP hS (fun r_1 H locs hp_2 hP hS => ?_)
  rw [hQ9]
  exact rr_i hx hb hr hlocks trivial hS dX9_whiteOf_6
abbrev cX9_darkOf : ByteArray := prog_11_method_4_code
def yX9_darkOf : MethodName := ⟨RX9, "darkOf", "(I)I"⟩
theorem t712 : Cond.code yX9_darkOf cX9_darkOf 2 (some .int) ∈ GW := gw_mem 826 (by decide +kernel) (by decide +kernel)
theorem dX9_darkOf_0 : decode cX9_darkOf 0 = .ok (.aload_n 0, 1) := by decide +kernel
theorem dX9_darkOf_1 : decode cX9_darkOf 1 = .ok (.iload_n 1, 1) := by decide +kernel
theorem dX9_darkOf_2 : decode cX9_darkOf 2 = .ok (.iconst 1, 1) := by decide +kernel
theorem dX9_darkOf_3 : decode cX9_darkOf 3 = .ok (.invokevirtual 42, 3) := by decide +kernel
theorem dX9_darkOf_6 : decode cX9_darkOf 6 = .ok (.aload_n 0, 1) := by decide +kernel
theorem dX9_darkOf_7 : decode cX9_darkOf 7 = .ok (.getfield 21, 3) := by decide +kernel
theorem dX9_darkOf_10 : decode cX9_darkOf 10 = .ok (.iload_n 1, 1) := by decide +kernel
theorem dX9_darkOf_11 : decode cX9_darkOf 11 = .ok (.invokevirtual 46, 3) := by decide +kernel
theorem t713 : Cond.methodLink RX9 46 yX4_owedBy ∈ GW := gw_mem 827 (by decide +kernel) (by decide +kernel)
theorem t714 : Cond.instanceMethod yX4_owedBy ∈ GW := gw_mem 828 (by decide +kernel) (by decide +kernel)
theorem t715 : Cond.selects RX4 yX4_owedBy yX4_owedBy ∈ GW := gw_mem 829 (by decide +kernel) (by decide +kernel)
theorem cw_X9_46 {R : Room} {s : State} {args : Array Value} {rm : Room} {mc ms : Nat} (hts : ∀ w ∈ GW, w.before args s = true) (hrc : rm.cells = mc) (hrs : rm.slots = ms) (hR : rm.frames + 1 ≤ R.frames ∧ 8 + (4 + 11) + rm.locals ≤ R.locals) : CallW R s args RX9 RX4 46 yX4_owedBy cX4_owedBy 4 (some .int) (wl yX4_owedBy cX4_owedBy 4 (some .int)) rm mc ms 1 := cwV 1 hts (gi_V t713 t714 t715 t10 t716) rfl hrc hrs (by decide +kernel) hR
theorem dX9_darkOf_14 : decode cX9_darkOf 14 = .ok (.iadd, 1) := by decide +kernel
theorem dX9_darkOf_15 : decode cX9_darkOf 15 = .ok (.ireturn, 1) := by decide +kernel
set_option maxHeartbeats 4000000 in
set_option maxRecDepth 100000 in
theorem g_darkOf (l : Launch) (dC : Nat → ClassId) (dI : Nat → Nat → Nat) (cy : Nat → ClassId) (vw : Nat) (vwc : Nat) (vwl : Nat) (vws : Nat) (vwc1 : Nat) (vwc2 : Nat) (vwc3 : Nat) (vwc4 : Nat) (vwc5 : Nat) (vwcm : Int32) (vwcd : Int32) (vwcr : Int32) (vwcw : Int32) (vwcf3 : Nat → Int32) (vwcf4 : Nat → Int32) (vwl1 : Nat) (vwl2 : Nat) (vwl3 : Nat) (vwl4 : Nat) (vwl5 : Nat) (vwl6 : Nat) (vwl7 : Nat) (vwl8 : Nat) (vwl9 : Nat) (vwl10 : Nat) (vwly : Int32) (vwlf2 : Nat → Int32) (vwlf3 : Nat → Int32) (vwlf4 : Nat → Int32) (vwlf5 : Nat → Int32) (vm : Int32) (r_vwcm : 0 ≤ (vwcm : Int32).toInt ∧ (vwcm : Int32).toInt ≤ 7) (r_vwcd : 0 ≤ (vwcd : Int32).toInt ∧ (vwcd : Int32).toInt ≤ 10) (r_vm : 0 ≤ (vm : Int32).toInt ∧ (vm : Int32).toInt ≤ 6) (p_vwcf3 : Rg vwcf3 10 0 40) (p_vwlf2 : Rg vwlf2 70 0 9) (p_vwlf5 : Rg vwlf5 7 (-1) 9) : Met l yX9_darkOf (wl yX9_darkOf cX9_darkOf 2 (some .int)) ({ frames := 1, cells := 0, slots := 0, locals := 64 }) (Pr (dC, dI) vwCl cy [(vw, .inr (10, [.ref vwc, .ref vwl, .ref vws])), (vwc, .inr (2, [.ref vwc1, .ref vwc2, .ref vwc3, .ref vwc4, .ref vwc5, .int vwcm, .int vwcd, .int vwcr, .int vwcw])), (vwc3, .inl (cy 0, 10, .inl vwcf3)), (vwc4, .inl (cy 2, 10, .inl vwcf4)), (vwl, .inr (5, [.ref vwl1, .ref vwl2, .ref vwl3, .ref vwl4, .ref vwl5, .ref vwl6, .ref vwl7, .ref vwl8, .ref vwl9, .ref vwl10, .int vwly])), (vwl2, .inl (cy 0, 70, .inl vwlf2)), (vwl3, .inl (cy 0, 49, .inl vwlf3)), (vwl4, .inl (cy 0, 7, .inl vwlf4)), (vwl5, .inl (cy 0, 7, .inl vwlf5))] [.ref vw, .int vm]) (Ri (fun r => True)) 0 0 (fun _ => False) := by
  refine mr RX9 rfl (by decide +kernel) (Nat.le_of_ble_eq_true rfl) ?_
  intro p e s m below meth c hx hb hr hlocks av9 hav hts hown hml hK hP hS Q9 hQ9 ls hl
  have hl : lv_has ls 2 [(0, .ref vw), (1, .int vm)] := hl
  refine lv_aload_n hx hb dX9_darkOf_0 rfl (lv_at hl 0 rfl) ?_
  refine lv_iload_n hx hb dX9_darkOf_1 rfl (lv_at hl 1 rfl) ?_
  refine lv_iconst (v := 1) hx hb dX9_darkOf_2 (by decide) ?_
  have k_1 : (1 : Int32).toInt = 1 := by decide
  refine jr_i (rVr (As := [.int vm, .int 1]) (rest := []) (ci := 10) ⟨hx, hb, hml, hown, hts⟩ (g_sideOf l dC dI cy vw vwc vwl vws vwc1 vwc2 vwc3 vwc4 vwc5 vwcm vwcd vwcr vwcw vwcf3 vwcf4 vwl1 vwl2 vwl3 vwl4 vwl5 vwl6 vwl7 vwl8 vwl9 vwl10 vwly vwlf2 vwlf3 vwlf4 vwlf5 vm 1 r_vwcm r_vwcd r_vm p_vwcf3 p_vwlf2 p_vwlf5) (cw_X9_42 hts rfl rfl ⟨Nat.le_of_ble_eq_true rfl, Nat.le_of_ble_eq_true rfl⟩) hP hK [0, 1, 2, 3, 4, 5, 6, 7, 8] rfl rfl rfl rfl hl.1 rfl (Nat.le_of_ble_eq_true rfl) dX9_darkOf_3 ⟨Nat.le_of_ble_eq_true rfl, Nat.le_of_ble_eq_true rfl⟩) hP hS (fun r_1 H locs hp_2 hP hS => ?_)
  refine lv_aload_n hx hb dX9_darkOf_6 rfl (lv_at hl 0 rfl) ?_
  refine gf_X9_21 hx hb hts hown hK hP 0 rfl rfl dX9_darkOf_7 ?_
  refine lv_iload_n hx hb dX9_darkOf_10 rfl (lv_at hl 1 rfl) ?_
  refine jr_i (rVr (As := [.int vm]) (rest := [.int r_1]) (ci := 5) ⟨hx, hb, hml, hown, hts⟩ (g_owedBy l dC dI cy vwl vwl1 vwl2 vwl3 vwl4 vwl5 vwl6 vwl7 vwl8 vwl9 vwl10 vwly vwlf3 vm r_vm) (cw_X9_46 hts rfl rfl ⟨Nat.le_of_ble_eq_true rfl, Nat.le_of_ble_eq_true rfl⟩) hP hK [4, 6] rfl rfl rfl rfl hl.1 rfl (Nat.le_of_ble_eq_true rfl) dX9_darkOf_11 ⟨Nat.le_of_ble_eq_true rfl, Nat.le_of_ble_eq_true rfl⟩) hP hS (fun r_3 H locs hp_4 hP hS => ?_)
  refine lv_iadd hx hb dX9_darkOf_14 ?_
  refine lv_topi (fun z_5 ez_5 => ?_)
  rw [hQ9]
  exact rr_i hx hb hr hlocks trivial hS dX9_darkOf_15
abbrev cX9_weightOf : ByteArray := prog_11_method_5_code
def yX9_weightOf : MethodName := ⟨RX9, "weightOf", "(I)I"⟩
theorem t736 : Cond.code yX9_weightOf cX9_weightOf 2 (some .int) ∈ GW := gw_mem 850 (by decide +kernel) (by decide +kernel)
theorem dX9_weightOf_0 : decode cX9_weightOf 0 = .ok (.aload_n 0, 1) := by decide +kernel
theorem dX9_weightOf_1 : decode cX9_weightOf 1 = .ok (.iload_n 1, 1) := by decide +kernel
theorem dX9_weightOf_2 : decode cX9_weightOf 2 = .ok (.iconst 0, 1) := by decide +kernel
theorem dX9_weightOf_3 : decode cX9_weightOf 3 = .ok (.invokevirtual 42, 3) := by decide +kernel
theorem dX9_weightOf_6 : decode cX9_weightOf 6 = .ok (.aload_n 0, 1) := by decide +kernel
theorem dX9_weightOf_7 : decode cX9_weightOf 7 = .ok (.iload_n 1, 1) := by decide +kernel
theorem dX9_weightOf_8 : decode cX9_weightOf 8 = .ok (.iconst 1, 1) := by decide +kernel
theorem dX9_weightOf_9 : decode cX9_weightOf 9 = .ok (.invokevirtual 42, 3) := by decide +kernel
theorem dX9_weightOf_12 : decode cX9_weightOf 12 = .ok (.iadd, 1) := by decide +kernel
theorem dX9_weightOf_13 : decode cX9_weightOf 13 = .ok (.aload_n 0, 1) := by decide +kernel
theorem dX9_weightOf_14 : decode cX9_weightOf 14 = .ok (.getfield 21, 3) := by decide +kernel
theorem dX9_weightOf_17 : decode cX9_weightOf 17 = .ok (.iload_n 1, 1) := by decide +kernel
theorem dX9_weightOf_18 : decode cX9_weightOf 18 = .ok (.invokevirtual 46, 3) := by decide +kernel
theorem dX9_weightOf_21 : decode cX9_weightOf 21 = .ok (.iadd, 1) := by decide +kernel
theorem dX9_weightOf_22 : decode cX9_weightOf 22 = .ok (.ireturn, 1) := by decide +kernel
set_option maxHeartbeats 4000000 in
set_option maxRecDepth 100000 in
theorem g_weightOf (l : Launch) (dC : Nat → ClassId) (dI : Nat → Nat → Nat) (cy : Nat → ClassId) (vw : Nat) (vwc : Nat) (vwl : Nat) (vws : Nat) (vwc1 : Nat) (vwc2 : Nat) (vwc3 : Nat) (vwc4 : Nat) (vwc5 : Nat) (vwcm : Int32) (vwcd : Int32) (vwcr : Int32) (vwcw : Int32) (vwcf3 : Nat → Int32) (vwcf4 : Nat → Int32) (vwl1 : Nat) (vwl2 : Nat) (vwl3 : Nat) (vwl4 : Nat) (vwl5 : Nat) (vwl6 : Nat) (vwl7 : Nat) (vwl8 : Nat) (vwl9 : Nat) (vwl10 : Nat) (vwly : Int32) (vwlf2 : Nat → Int32) (vwlf3 : Nat → Int32) (vwlf4 : Nat → Int32) (vwlf5 : Nat → Int32) (vm : Int32) (r_vwcm : 0 ≤ (vwcm : Int32).toInt ∧ (vwcm : Int32).toInt ≤ 7) (r_vwcd : 0 ≤ (vwcd : Int32).toInt ∧ (vwcd : Int32).toInt ≤ 10) (r_vm : 0 ≤ (vm : Int32).toInt ∧ (vm : Int32).toInt ≤ 6) (p_vwcf3 : Rg vwcf3 10 0 40) (p_vwlf2 : Rg vwlf2 70 0 9) (p_vwlf5 : Rg vwlf5 7 (-1) 9) : Met l yX9_weightOf (wl yX9_weightOf cX9_weightOf 2 (some .int)) ({ frames := 1, cells := 0, slots := 0, locals := 64 }) (Pr (dC, dI) vwCl cy [(vw, .inr (10, [.ref vwc, .ref vwl, .ref vws])), (vwc, .inr (2, [.ref vwc1, .ref vwc2, .ref vwc3, .ref vwc4, .ref vwc5, .int vwcm, .int vwcd, .int vwcr, .int vwcw])), (vwc3, .inl (cy 0, 10, .inl vwcf3)), (vwc4, .inl (cy 2, 10, .inl vwcf4)), (vwl, .inr (5, [.ref vwl1, .ref vwl2, .ref vwl3, .ref vwl4, .ref vwl5, .ref vwl6, .ref vwl7, .ref vwl8, .ref vwl9, .ref vwl10, .int vwly])), (vwl2, .inl (cy 0, 70, .inl vwlf2)), (vwl3, .inl (cy 0, 49, .inl vwlf3)), (vwl4, .inl (cy 0, 7, .inl vwlf4)), (vwl5, .inl (cy 0, 7, .inl vwlf5))] [.ref vw, .int vm]) (Ri (fun r => True)) 0 0 (fun _ => False) := by
  refine mr RX9 rfl (by decide +kernel) (Nat.le_of_ble_eq_true rfl) ?_
  intro p e s m below meth c hx hb hr hlocks av9 hav hts hown hml hK hP hS Q9 hQ9 ls hl
  have hl : lv_has ls 2 [(0, .ref vw), (1, .int vm)] := hl
  refine lv_aload_n hx hb dX9_weightOf_0 rfl (lv_at hl 0 rfl) ?_
  refine lv_iload_n hx hb dX9_weightOf_1 rfl (lv_at hl 1 rfl) ?_
  refine lv_iconst (v := 0) hx hb dX9_weightOf_2 (by decide) ?_
  have k_0 : (0 : Int32).toInt = 0 := by decide
  refine jr_i (rVr (As := [.int vm, .int 0]) (rest := []) (ci := 10) ⟨hx, hb, hml, hown, hts⟩ (g_sideOf l dC dI cy vw vwc vwl vws vwc1 vwc2 vwc3 vwc4 vwc5 vwcm vwcd vwcr vwcw vwcf3 vwcf4 vwl1 vwl2 vwl3 vwl4 vwl5 vwl6 vwl7 vwl8 vwl9 vwl10 vwly vwlf2 vwlf3 vwlf4 vwlf5 vm 0 r_vwcm r_vwcd r_vm p_vwcf3 p_vwlf2 p_vwlf5) (cw_X9_42 hts rfl rfl ⟨Nat.le_of_ble_eq_true rfl, Nat.le_of_ble_eq_true rfl⟩) hP hK [0, 1, 2, 3, 4, 5, 6, 7, 8] rfl rfl rfl rfl hl.1 rfl (Nat.le_of_ble_eq_true rfl) dX9_weightOf_3 ⟨Nat.le_of_ble_eq_true rfl, Nat.le_of_ble_eq_true rfl⟩) hP hS (fun r_1 H locs hp_2 hP hS => ?_)
  refine lv_aload_n hx hb dX9_weightOf_6 rfl (lv_at hl 0 rfl) ?_
  refine lv_iload_n hx hb dX9_weightOf_7 rfl (lv_at hl 1 rfl) ?_
  refine lv_iconst (v := 1) hx hb dX9_weightOf_8 (by decide) ?_
  have k_1 : (1 : Int32).toInt = 1 := by decide
  refine jr_i (rVr (As := [.int vm, .int 1]) (rest := [.int r_1]) (ci := 10) ⟨hx, hb, hml, hown, hts⟩ (g_sideOf l dC dI cy vw vwc vwl vws vwc1 vwc2 vwc3 vwc4 vwc5 vwcm vwcd vwcr vwcw vwcf3 vwcf4 vwl1 vwl2 vwl3 vwl4 vwl5 vwl6 vwl7 vwl8 vwl9 vwl10 vwly vwlf2 vwlf3 vwlf4 vwlf5 vm 1 r_vwcm r_vwcd r_vm p_vwcf3 p_vwlf2 p_vwlf5) (cw_X9_42 hts rfl rfl ⟨Nat.le_of_ble_eq_true rfl, Nat.le_of_ble_eq_true rfl⟩) hP hK [0, 1, 2, 3, 4, 5, 6, 7, 8] rfl rfl rfl rfl hl.1 rfl (Nat.le_of_ble_eq_true rfl) dX9_weightOf_9 ⟨Nat.le_of_ble_eq_true rfl, Nat.le_of_ble_eq_true rfl⟩) hP hS (fun r_3 H locs hp_4 hP hS => ?_)
  refine lv_iadd hx hb dX9_weightOf_12 ?_
  refine lv_topi (fun z_5 ez_5 => ?_)
  refine lv_aload_n hx hb dX9_weightOf_13 rfl (lv_at hl 0 rfl) ?_
  refine gf_X9_21 hx hb hts hown hK hP 0 rfl rfl dX9_weightOf_14 ?_
  refine lv_iload_n hx hb dX9_weightOf_17 rfl (lv_at hl 1 rfl) ?_
  refine jr_i (rVr (As := [.int vm]) (rest := [.int z_5]) (ci := 5) ⟨hx, hb, hml, hown, hts⟩ (g_owedBy l dC dI cy vwl vwl1 vwl2 vwl3 vwl4 vwl5 vwl6 vwl7 vwl8 vwl9 vwl10 vwly vwlf3 vm r_vm) (cw_X9_46 hts rfl rfl ⟨Nat.le_of_ble_eq_true rfl, Nat.le_of_ble_eq_true rfl⟩) hP hK [4, 6] rfl rfl rfl rfl hl.1 rfl (Nat.le_of_ble_eq_true rfl) dX9_weightOf_18 ⟨Nat.le_of_ble_eq_true rfl, Nat.le_of_ble_eq_true rfl⟩) hP hS (fun r_6 H locs hp_7 hP hS => ?_)
  refine lv_iadd hx hb dX9_weightOf_21 ?_
  refine lv_topi (fun z_8 ez_8 => ?_)
  rw [hQ9]
  exact rr_i hx hb hr hlocks trivial hS dX9_weightOf_22
abbrev cX9_howIs : ByteArray := prog_11_method_7_code
def yX9_howIs : MethodName := ⟨RX9, "howIs", "(I)I"⟩
theorem t732 : Cond.code yX9_howIs cX9_howIs 3 (some .int) ∈ GW := gw_mem 846 (by decide +kernel) (by decide +kernel)
theorem dX9_howIs_0 : decode cX9_howIs 0 = .ok (.aload_n 0, 1) := by decide +kernel
theorem dX9_howIs_1 : decode cX9_howIs 1 = .ok (.iload_n 1, 1) := by decide +kernel
theorem dX9_howIs_2 : decode cX9_howIs 2 = .ok (.invokevirtual 74, 3) := by decide +kernel
theorem t733 : Cond.methodLink RX9 74 yX9_weightOf ∈ GW := gw_mem 847 (by decide +kernel) (by decide +kernel)
theorem t734 : Cond.instanceMethod yX9_weightOf ∈ GW := gw_mem 848 (by decide +kernel) (by decide +kernel)
theorem t735 : Cond.selects RX9 yX9_weightOf yX9_weightOf ∈ GW := gw_mem 849 (by decide +kernel) (by decide +kernel)
theorem cw_X9_74 {R : Room} {s : State} {args : Array Value} {rm : Room} {mc ms : Nat} (hts : ∀ w ∈ GW, w.before args s = true) (hrc : rm.cells = mc) (hrs : rm.slots = ms) (hR : rm.frames + 1 ≤ R.frames ∧ 8 + (2 + 11) + rm.locals ≤ R.locals) : CallW R s args RX9 RX9 74 yX9_weightOf cX9_weightOf 2 (some .int) (wl yX9_weightOf cX9_weightOf 2 (some .int)) rm mc ms 1 := cwV 1 hts (gi_V t733 t734 t735 t15 t736) rfl hrc hrs (by decide +kernel) hR
theorem dX9_howIs_5 : decode cX9_howIs 5 = .ok (.istore_n 2, 1) := by decide +kernel
theorem dX9_howIs_6 : decode cX9_howIs 6 = .ok (.iload_n 2, 1) := by decide +kernel
theorem dX9_howIs_7 : decode cX9_howIs 7 = .ok (.aload_n 0, 1) := by decide +kernel
theorem dX9_howIs_8 : decode cX9_howIs 8 = .ok (.getfield 12, 3) := by decide +kernel
theorem dX9_howIs_11 : decode cX9_howIs 11 = .ok (.getfield 77, 3) := by decide +kernel
theorem t408 : Cond.fieldLink RX9 77 "LikenessPound$Colony" "faint" "I" ∈ GW := gw_mem 522 (by decide +kernel) (by decide +kernel)
theorem gf_X9_77 {p : Program} {l : Launch} {e : Env} {R : Room} {s : State} {m : MethodId} {args : Array Value} {below : List Frame} {meth : Method} {c : Code} {H : Heap} {locs : List Loc} {cells slots : Nat} {Q : State → Prop} {cc : ByteArray} {pc : Nat} {ls : Array Slot} {rest : List Value} {D : va_G} {a : Nat} {tys : List (ClassId × FieldType)} {ws : va_W} (hx : p.tables.exec = Jvm.exec) (hb : c.code = cc) (hts : ∀ w ∈ GW, w.before args s = true) (hown : s.vm.findClass RX9 = some m.cls) (hK : va_K D vwCl tys s) (hP : va_P D vwCl ws H) (q0 : Nat) {fs : List Value} (he : ws[q0]? = some (a, .inr (2, fs))) {v : Value} (hv : fs[8]? = some v) (hdg : decode cc pc = .ok (.getfield 77, 3)) (kk : W p l e R s m args below meth c H locs cells slots Q (F0 m (pc + 3) ls (v :: rest))) : W p l e R s m args below meth c H locs cells slots Q (F0 m pc ls (.ref a :: rest)) := va_get (C := RX1) (T := TX1) (N := 9) (ci := 2) hx hb hts inX1 hown hK hP q0 he rfl 8 (by decide) (hts _ t408) (fun _ h => h) hv hdg kk
theorem dX9_howIs_14 : decode cX9_howIs 14 = .ok (.if_icmp .ge 5, 3) := by decide +kernel
theorem dX9_howIs_19 : decode cX9_howIs 19 = .ok (.iload_n 2, 1) := by decide +kernel
theorem dX9_howIs_20 : decode cX9_howIs 20 = .ok (.aload_n 0, 1) := by decide +kernel
theorem dX9_howIs_21 : decode cX9_howIs 21 = .ok (.getfield 12, 3) := by decide +kernel
theorem dX9_howIs_24 : decode cX9_howIs 24 = .ok (.getfield 80, 3) := by decide +kernel
theorem t403 : Cond.fieldLink RX9 80 "LikenessPound$Colony" "room" "I" ∈ GW := gw_mem 517 (by decide +kernel) (by decide +kernel)
theorem gf_X9_80 {p : Program} {l : Launch} {e : Env} {R : Room} {s : State} {m : MethodId} {args : Array Value} {below : List Frame} {meth : Method} {c : Code} {H : Heap} {locs : List Loc} {cells slots : Nat} {Q : State → Prop} {cc : ByteArray} {pc : Nat} {ls : Array Slot} {rest : List Value} {D : va_G} {a : Nat} {tys : List (ClassId × FieldType)} {ws : va_W} (hx : p.tables.exec = Jvm.exec) (hb : c.code = cc) (hts : ∀ w ∈ GW, w.before args s = true) (hown : s.vm.findClass RX9 = some m.cls) (hK : va_K D vwCl tys s) (hP : va_P D vwCl ws H) (q0 : Nat) {fs : List Value} (he : ws[q0]? = some (a, .inr (2, fs))) {v : Value} (hv : fs[7]? = some v) (hdg : decode cc pc = .ok (.getfield 80, 3)) (kk : W p l e R s m args below meth c H locs cells slots Q (F0 m (pc + 3) ls (v :: rest))) : W p l e R s m args below meth c H locs cells slots Q (F0 m pc ls (.ref a :: rest)) := va_get (C := RX1) (T := TX1) (N := 9) (ci := 2) hx hb hts inX1 hown hK hP q0 he rfl 7 (by decide) (hts _ t403) (fun _ h => h) hv hdg kk
theorem dX9_howIs_27 : decode cX9_howIs 27 = .ok (.if_icmp .le 7, 3) := by decide +kernel
theorem dX9_howIs_34 : decode cX9_howIs 34 = .ok (.iconst 1, 1) := by decide +kernel
theorem dX9_howIs_35 : decode cX9_howIs 35 = .ok (.ireturn, 1) := by decide +kernel
theorem dX9_howIs_30 : decode cX9_howIs 30 = .ok (.iconst 2, 1) := by decide +kernel
theorem dX9_howIs_31 : decode cX9_howIs 31 = .ok (.goto 4, 3) := by decide +kernel
theorem dX9_howIs_17 : decode cX9_howIs 17 = .ok (.iconst 0, 1) := by decide +kernel
theorem dX9_howIs_18 : decode cX9_howIs 18 = .ok (.ireturn, 1) := by decide +kernel
set_option maxHeartbeats 4000000 in
set_option maxRecDepth 100000 in
theorem g_howIs (l : Launch) (dC : Nat → ClassId) (dI : Nat → Nat → Nat) (cy : Nat → ClassId) (vw : Nat) (vwc : Nat) (vwl : Nat) (vws : Nat) (vwc1 : Nat) (vwc2 : Nat) (vwc3 : Nat) (vwc4 : Nat) (vwc5 : Nat) (vwcm : Int32) (vwcd : Int32) (vwcr : Int32) (vwcw : Int32) (vwcf3 : Nat → Int32) (vwcf4 : Nat → Int32) (vwl1 : Nat) (vwl2 : Nat) (vwl3 : Nat) (vwl4 : Nat) (vwl5 : Nat) (vwl6 : Nat) (vwl7 : Nat) (vwl8 : Nat) (vwl9 : Nat) (vwl10 : Nat) (vwly : Int32) (vwlf2 : Nat → Int32) (vwlf3 : Nat → Int32) (vwlf4 : Nat → Int32) (vwlf5 : Nat → Int32) (vm : Int32) (r_vwcm : 0 ≤ (vwcm : Int32).toInt ∧ (vwcm : Int32).toInt ≤ 7) (r_vwcd : 0 ≤ (vwcd : Int32).toInt ∧ (vwcd : Int32).toInt ≤ 10) (r_vm : 0 ≤ (vm : Int32).toInt ∧ (vm : Int32).toInt ≤ 6) (p_vwcf3 : Rg vwcf3 10 0 40) (p_vwlf2 : Rg vwlf2 70 0 9) (p_vwlf5 : Rg vwlf5 7 (-1) 9) : Met l yX9_howIs (wl yX9_howIs cX9_howIs 3 (some .int)) ({ frames := 2, cells := 0, slots := 0, locals := 128 }) (Pr (dC, dI) vwCl cy [(vw, .inr (10, [.ref vwc, .ref vwl, .ref vws])), (vwc, .inr (2, [.ref vwc1, .ref vwc2, .ref vwc3, .ref vwc4, .ref vwc5, .int vwcm, .int vwcd, .int vwcr, .int vwcw])), (vwc3, .inl (cy 0, 10, .inl vwcf3)), (vwc4, .inl (cy 2, 10, .inl vwcf4)), (vwl, .inr (5, [.ref vwl1, .ref vwl2, .ref vwl3, .ref vwl4, .ref vwl5, .ref vwl6, .ref vwl7, .ref vwl8, .ref vwl9, .ref vwl10, .int vwly])), (vwl2, .inl (cy 0, 70, .inl vwlf2)), (vwl3, .inl (cy 0, 49, .inl vwlf3)), (vwl4, .inl (cy 0, 7, .inl vwlf4)), (vwl5, .inl (cy 0, 7, .inl vwlf5))] [.ref vw, .int vm]) (Ri (fun r => (0 ≤ (r : Int32).toInt ∧ (r : Int32).toInt ≤ 2))) 0 0 (fun _ => False) := by
  refine mr RX9 rfl (by decide +kernel) (Nat.le_of_ble_eq_true rfl) ?_
  intro p e s m below meth c hx hb hr hlocks av9 hav hts hown hml hK hP hS Q9 hQ9 ls hl
  have hl : lv_has ls 3 [(0, .ref vw), (1, .int vm)] := hl
  refine lv_aload_n hx hb dX9_howIs_0 rfl (lv_at hl 0 rfl) ?_
  refine lv_iload_n hx hb dX9_howIs_1 rfl (lv_at hl 1 rfl) ?_
  refine jr_i (rVr (As := [.int vm]) (rest := []) (ci := 10) ⟨hx, hb, hml, hown, hts⟩ (g_weightOf l dC dI cy vw vwc vwl vws vwc1 vwc2 vwc3 vwc4 vwc5 vwcm vwcd vwcr vwcw vwcf3 vwcf4 vwl1 vwl2 vwl3 vwl4 vwl5 vwl6 vwl7 vwl8 vwl9 vwl10 vwly vwlf2 vwlf3 vwlf4 vwlf5 vm r_vwcm r_vwcd r_vm p_vwcf3 p_vwlf2 p_vwlf5) (cw_X9_74 hts rfl rfl ⟨Nat.le_of_ble_eq_true rfl, Nat.le_of_ble_eq_true rfl⟩) hP hK [0, 1, 2, 3, 4, 5, 6, 7, 8] rfl rfl rfl rfl hl.1 rfl (Nat.le_of_ble_eq_true rfl) dX9_howIs_2 ⟨Nat.le_of_ble_eq_true rfl, Nat.le_of_ble_eq_true rfl⟩) hP hS (fun r_1 H locs hp_2 hP hS => ?_)
  refine lv_istore_n (lv' := [(2, .int r_1), (0, .ref vw), (1, .int vm)]) hx hb dX9_howIs_5 rfl hl (by decide) rfl (fun ls hl => ?_)
  refine lv_iload_n hx hb dX9_howIs_6 rfl (lv_at hl 0 rfl) ?_
  refine lv_aload_n hx hb dX9_howIs_7 rfl (lv_at hl 1 rfl) ?_
  refine gf_X9_12 hx hb hts hown hK hP 0 rfl rfl dX9_howIs_8 ?_
  refine gf_X9_77 hx hb hts hown hK hP 1 rfl rfl dX9_howIs_11 ?_
  refine lv_icmp_ge (tgt := 19) hx hb dX9_howIs_14 (by decide) (fun c_3 => ?_) (fun c_3 => ?_)
  · skip
    have c_3 : vwcw.toInt ≤ r_1.toInt := i_le.mp c_3
    refine lv_iload_n hx hb dX9_howIs_19 rfl (lv_at hl 0 rfl) ?_
    refine lv_aload_n hx hb dX9_howIs_20 rfl (lv_at hl 1 rfl) ?_
    refine gf_X9_12 hx hb hts hown hK hP 0 rfl rfl dX9_howIs_21 ?_
    refine gf_X9_80 hx hb hts hown hK hP 1 rfl rfl dX9_howIs_24 ?_
    refine lv_icmp_le (tgt := 34) hx hb dX9_howIs_27 (by decide) (fun c_4 => ?_) (fun c_4 => ?_)
    · skip
      have c_4 : r_1.toInt ≤ vwcr.toInt := i_le.mp c_4
      refine lv_iconst (v := 1) hx hb dX9_howIs_34 (by decide) ?_
      have k_1 : (1 : Int32).toInt = 1 := by decide
      rw [hQ9]
      exact rr_i hx hb hr hlocks (show 0 ≤ ((1 : Int32) : Int32).toInt ∧ ((1 : Int32) : Int32).toInt ≤ 2 from ⟨by omega, by omega⟩) hS dX9_howIs_35
    · skip
      have c_4 : ¬ (r_1.toInt ≤ vwcr.toInt) := fun h9 => c_4 (i_le.mpr h9)
      refine lv_iconst (v := 2) hx hb dX9_howIs_30 (by decide) ?_
      refine lv_goto (tgt := 35) hx hb dX9_howIs_31 (by decide) ?_
      have k_2 : (2 : Int32).toInt = 2 := by decide
      rw [hQ9]
      exact rr_i hx hb hr hlocks (show 0 ≤ ((2 : Int32) : Int32).toInt ∧ ((2 : Int32) : Int32).toInt ≤ 2 from ⟨by omega, by omega⟩) hS dX9_howIs_35
  · skip
    have c_3 : ¬ (vwcw.toInt ≤ r_1.toInt) := fun h9 => c_3 (i_le.mpr h9)
    refine lv_iconst (v := 0) hx hb dX9_howIs_17 (by decide) ?_
    have k_0 : (0 : Int32).toInt = 0 := by decide
    rw [hQ9]
    exact rr_i hx hb hr hlocks (show 0 ≤ ((0 : Int32) : Int32).toInt ∧ ((0 : Int32) : Int32).toInt ≤ 2 from ⟨by omega, by omega⟩) hS dX9_howIs_18
abbrev cX9_whoIs : ByteArray := prog_11_method_8_code
def yX9_whoIs : MethodName := ⟨RX9, "whoIs", "(I)I"⟩
theorem t728 : Cond.code yX9_whoIs cX9_whoIs 4 (some .int) ∈ GW := gw_mem 842 (by decide +kernel) (by decide +kernel)
theorem dX9_whoIs_0 : decode cX9_whoIs 0 = .ok (.iconst 0, 1) := by decide +kernel
theorem dX9_whoIs_1 : decode cX9_whoIs 1 = .ok (.istore_n 2, 1) := by decide +kernel
theorem dX9_whoIs_2 : decode cX9_whoIs 2 = .ok (.iconst 0, 1) := by decide +kernel
theorem dX9_whoIs_3 : decode cX9_whoIs 3 = .ok (.istore_n 3, 1) := by decide +kernel
theorem dX9_whoIs_4 : decode cX9_whoIs 4 = .ok (.iload_n 3, 1) := by decide +kernel
theorem dX9_whoIs_5 : decode cX9_whoIs 5 = .ok (.aload_n 0, 1) := by decide +kernel
theorem dX9_whoIs_6 : decode cX9_whoIs 6 = .ok (.getfield 12, 3) := by decide +kernel
theorem dX9_whoIs_9 : decode cX9_whoIs 9 = .ok (.getfield 65, 3) := by decide +kernel
theorem dX9_whoIs_12 : decode cX9_whoIs 12 = .ok (.if_icmp .ge 24, 3) := by decide +kernel
theorem dX9_whoIs_36 : decode cX9_whoIs 36 = .ok (.iload_n 2, 1) := by decide +kernel
theorem dX9_whoIs_37 : decode cX9_whoIs 37 = .ok (.ireturn, 1) := by decide +kernel
theorem dX9_whoIs_15 : decode cX9_whoIs 15 = .ok (.aload_n 0, 1) := by decide +kernel
theorem dX9_whoIs_16 : decode cX9_whoIs 16 = .ok (.iload_n 3, 1) := by decide +kernel
theorem dX9_whoIs_17 : decode cX9_whoIs 17 = .ok (.invokevirtual 83, 3) := by decide +kernel
theorem t729 : Cond.methodLink RX9 83 yX9_howIs ∈ GW := gw_mem 843 (by decide +kernel) (by decide +kernel)
theorem t730 : Cond.instanceMethod yX9_howIs ∈ GW := gw_mem 844 (by decide +kernel) (by decide +kernel)
theorem t731 : Cond.selects RX9 yX9_howIs yX9_howIs ∈ GW := gw_mem 845 (by decide +kernel) (by decide +kernel)
theorem cw_X9_83 {R : Room} {s : State} {args : Array Value} {rm : Room} {mc ms : Nat} (hts : ∀ w ∈ GW, w.before args s = true) (hrc : rm.cells = mc) (hrs : rm.slots = ms) (hR : rm.frames + 1 ≤ R.frames ∧ 8 + (3 + 11) + rm.locals ≤ R.locals) : CallW R s args RX9 RX9 83 yX9_howIs cX9_howIs 3 (some .int) (wl yX9_howIs cX9_howIs 3 (some .int)) rm mc ms 1 := cwV 1 hts (gi_V t729 t730 t731 t15 t732) rfl hrc hrs (by decide +kernel) hR
theorem dX9_whoIs_20 : decode cX9_whoIs 20 = .ok (.iload_n 1, 1) := by decide +kernel
theorem dX9_whoIs_21 : decode cX9_whoIs 21 = .ok (.if_icmp .ne 9, 3) := by decide +kernel
theorem dX9_whoIs_30 : decode cX9_whoIs 30 = .ok (.iinc 3 1, 3) := by decide +kernel
theorem dX9_whoIs_33 : decode cX9_whoIs 33 = .ok (.goto (-29), 3) := by decide +kernel
theorem dX9_whoIs_24 : decode cX9_whoIs 24 = .ok (.iload_n 2, 1) := by decide +kernel
theorem dX9_whoIs_25 : decode cX9_whoIs 25 = .ok (.iconst 1, 1) := by decide +kernel
theorem dX9_whoIs_26 : decode cX9_whoIs 26 = .ok (.iload_n 3, 1) := by decide +kernel
theorem dX9_whoIs_27 : decode cX9_whoIs 27 = .ok (.ishl, 1) := by decide +kernel
theorem dX9_whoIs_28 : decode cX9_whoIs 28 = .ok (.ior, 1) := by decide +kernel
theorem dX9_whoIs_29 : decode cX9_whoIs 29 = .ok (.istore_n 2, 1) := by decide +kernel
set_option maxHeartbeats 4000000 in
set_option maxRecDepth 100000 in
theorem g_whoIs (l : Launch) (dC : Nat → ClassId) (dI : Nat → Nat → Nat) (cy : Nat → ClassId) (vw : Nat) (vwc : Nat) (vwl : Nat) (vws : Nat) (vwc1 : Nat) (vwc2 : Nat) (vwc3 : Nat) (vwc4 : Nat) (vwc5 : Nat) (vwcm : Int32) (vwcd : Int32) (vwcr : Int32) (vwcw : Int32) (vwcf3 : Nat → Int32) (vwcf4 : Nat → Int32) (vwl1 : Nat) (vwl2 : Nat) (vwl3 : Nat) (vwl4 : Nat) (vwl5 : Nat) (vwl6 : Nat) (vwl7 : Nat) (vwl8 : Nat) (vwl9 : Nat) (vwl10 : Nat) (vwly : Int32) (vwlf2 : Nat → Int32) (vwlf3 : Nat → Int32) (vwlf4 : Nat → Int32) (vwlf5 : Nat → Int32) (vh : Int32) (r_vwcm : 0 ≤ (vwcm : Int32).toInt ∧ (vwcm : Int32).toInt ≤ 7) (r_vwcd : 0 ≤ (vwcd : Int32).toInt ∧ (vwcd : Int32).toInt ≤ 10) (p_vwcf3 : Rg vwcf3 10 0 40) (p_vwlf2 : Rg vwlf2 70 0 9) (p_vwlf5 : Rg vwlf5 7 (-1) 9) : Met l yX9_whoIs (wl yX9_whoIs cX9_whoIs 4 (some .int)) ({ frames := 3, cells := 0, slots := 0, locals := 192 }) (Pr (dC, dI) vwCl cy [(vw, .inr (10, [.ref vwc, .ref vwl, .ref vws])), (vwc, .inr (2, [.ref vwc1, .ref vwc2, .ref vwc3, .ref vwc4, .ref vwc5, .int vwcm, .int vwcd, .int vwcr, .int vwcw])), (vwc3, .inl (cy 0, 10, .inl vwcf3)), (vwc4, .inl (cy 2, 10, .inl vwcf4)), (vwl, .inr (5, [.ref vwl1, .ref vwl2, .ref vwl3, .ref vwl4, .ref vwl5, .ref vwl6, .ref vwl7, .ref vwl8, .ref vwl9, .ref vwl10, .int vwly])), (vwl2, .inl (cy 0, 70, .inl vwlf2)), (vwl3, .inl (cy 0, 49, .inl vwlf3)), (vwl4, .inl (cy 0, 7, .inl vwlf4)), (vwl5, .inl (cy 0, 7, .inl vwlf5))] [.ref vw, .int vh]) (Ri (fun r => True)) 0 0 (fun _ => False) := by
  refine mr RX9 rfl (by decide +kernel) (Nat.le_of_ble_eq_true rfl) ?_
  intro p e s m below meth c hx hb hr hlocks av9 hav hts hown hml hK hP hS Q9 hQ9 ls hl
  have hl : lv_has ls 4 [(0, .ref vw), (1, .int vh)] := hl
  refine lv_iconst (v := 0) hx hb dX9_whoIs_0 (by decide) ?_
  refine lv_istore_n (lv' := [(2, .int 0), (0, .ref vw), (1, .int vh)]) hx hb dX9_whoIs_1 rfl hl (by decide) rfl (fun ls hl => ?_)
  refine lv_iconst (v := 0) hx hb dX9_whoIs_2 (by decide) ?_
  refine lv_istore_n (lv' := [(3, .int 0), (2, .int 0), (0, .ref vw), (1, .int vh)]) hx hb dX9_whoIs_3 rfl hl (by decide) rfl (fun ls hl => ?_)
  have loop1 : ∀ (n1 : Nat) (x_3 : Int32) (x_2 : Int32), (0 ≤ x_2.toInt ∧ x_2.toInt ≤ 7) → 7 - x_2.toInt < (n1 : Int) → ∀ (H : Heap) (locs : List Loc), va_P (dC, dI) vwCl [(vw, .inr (10, [.ref vwc, .ref vwl, .ref vws])), (vwc, .inr (2, [.ref vwc1, .ref vwc2, .ref vwc3, .ref vwc4, .ref vwc5, .int vwcm, .int vwcd, .int vwcr, .int vwcw])), (vwc3, .inl (cy 0, 10, .inl vwcf3)), (vwc4, .inl (cy 2, 10, .inl vwcf4)), (vwl, .inr (5, [.ref vwl1, .ref vwl2, .ref vwl3, .ref vwl4, .ref vwl5, .ref vwl6, .ref vwl7, .ref vwl8, .ref vwl9, .ref vwl10, .int vwly])), (vwl2, .inl (cy 0, 70, .inl vwlf2)), (vwl3, .inl (cy 0, 49, .inl vwlf3)), (vwl4, .inl (cy 0, 7, .inl vwlf4)), (vwl5, .inl (cy 0, 7, .inl vwlf5))] H → va_S (fun _ => False) s.heap H locs → ∀ ls : Array Slot, lv_has ls 4 [(3, .int x_2), (2, .int x_3), (0, .ref vw), (1, .int vh)] → W p l e ({ frames := 3, cells := 0, slots := 0, locals := 192 }) s m av9 below meth c H locs 0 0 Q9 (F0 m 4 ls []) := by
    intro n1
    induction n1 with
    | zero =>
      intro x_3 x_2 bx_2 hn1 H locs hP hS ls hl
      exfalso; omega
    | succ n1 ih1 =>
      intro x_3 x_2 bx_2 hn1 H locs hP hS ls hl
      refine lv_iload_n hx hb dX9_whoIs_4 rfl (lv_at hl 0 rfl) ?_
      refine lv_aload_n hx hb dX9_whoIs_5 rfl (lv_at hl 2 rfl) ?_
      refine gf_X9_12 hx hb hts hown hK hP 0 rfl rfl dX9_whoIs_6 ?_
      refine gf_X9_65 hx hb hts hown hK hP 1 rfl rfl dX9_whoIs_9 ?_
      refine lv_icmp_ge (tgt := 36) hx hb dX9_whoIs_12 (by decide) (fun c_4 => ?_) (fun c_4 => ?_)
      · skip
        have c_4 : vwcm.toInt ≤ x_2.toInt := i_le.mp c_4
        refine lv_iload_n hx hb dX9_whoIs_36 rfl (lv_at hl 1 rfl) ?_
        rw [hQ9]
        exact rr_i hx hb hr hlocks trivial hS dX9_whoIs_37
      · skip
        have c_4 : ¬ (vwcm.toInt ≤ x_2.toInt) := fun h9 => c_4 (i_le.mpr h9)
        refine lv_aload_n hx hb dX9_whoIs_15 rfl (lv_at hl 2 rfl) ?_
        refine lv_iload_n hx hb dX9_whoIs_16 rfl (lv_at hl 0 rfl) ?_
        refine jr_i (rVr (As := [.int x_2]) (rest := []) (ci := 10) ⟨hx, hb, hml, hown, hts⟩ (g_howIs l dC dI cy vw vwc vwl vws vwc1 vwc2 vwc3 vwc4 vwc5 vwcm vwcd vwcr vwcw vwcf3 vwcf4 vwl1 vwl2 vwl3 vwl4 vwl5 vwl6 vwl7 vwl8 vwl9 vwl10 vwly vwlf2 vwlf3 vwlf4 vwlf5 x_2 r_vwcm r_vwcd ⟨by omega, by omega⟩ p_vwcf3 p_vwlf2 p_vwlf5) (cw_X9_83 hts rfl rfl ⟨Nat.le_of_ble_eq_true rfl, Nat.le_of_ble_eq_true rfl⟩) hP hK [0, 1, 2, 3, 4, 5, 6, 7, 8] rfl rfl rfl rfl hl.1 rfl (Nat.le_of_ble_eq_true rfl) dX9_whoIs_17 ⟨Nat.le_of_ble_eq_true rfl, Nat.le_of_ble_eq_true rfl⟩) hP hS (fun r_5 H locs hp_6 hP hS => ?_)
        have hp_6 : (0 ≤ (r_5 : Int32).toInt ∧ (r_5 : Int32).toInt ≤ 2) := hp_6
        have q_7 := hp_6
        refine lv_iload_n hx hb dX9_whoIs_20 rfl (lv_at hl 3 rfl) ?_
        refine lv_icmp_ne (tgt := 30) hx hb dX9_whoIs_21 (by decide) (fun c_8 => ?_) (fun c_8 => ?_)
        · skip
          have c_8 : ¬ (r_5.toInt = vh.toInt) := fun h9 => c_8 (i_eq.mpr h9)
          obtain ⟨z_9, ez_9⟩ : ∃ z : Int32, z = x_2 + 1 := ⟨_, rfl⟩
          have k_1 : (1 : Int32).toInt = 1 := by decide
          have bz_9 : z_9.toInt = x_2.toInt + (1 : Int32).toInt := i_add ez_9 (by omega) (by omega)
          refine lv_iinc (v := z_9) (lv' := [(3, .int z_9), (2, .int x_3), (0, .ref vw), (1, .int vh)]) hx hb dX9_whoIs_30 hl (k := 0) rfl ez_9.symm (by decide) rfl (fun ls hl => ?_)
          refine lv_goto (tgt := 4) hx hb dX9_whoIs_33 (by decide) ?_
          exact ih1 x_3 z_9 ⟨by omega, by omega⟩ (by omega) _ _ (hP.sub [0, 1, 2, 3, 4, 5, 6, 7, 8] rfl) hS ls (lv_sub hl [0, 1, 2, 3] rfl)
        · skip
          have c_8 : r_5.toInt = vh.toInt := i_eq.mp c_8
          refine lv_iload_n hx hb dX9_whoIs_24 rfl (lv_at hl 1 rfl) ?_
          refine lv_iconst (v := 1) hx hb dX9_whoIs_25 (by decide) ?_
          refine lv_iload_n hx hb dX9_whoIs_26 rfl (lv_at hl 0 rfl) ?_
          refine lv_ishl hx hb dX9_whoIs_27 ?_
          refine lv_topi (fun z_10 ez_10 => ?_)
          have bz_10 : 1 ≤ z_10.toInt ∧ z_10.toInt ≤ 128 := i_shl7 ez_10 ⟨by omega, by omega⟩
          refine lv_ior hx hb dX9_whoIs_28 ?_
          refine lv_topi (fun z_11 ez_11 => ?_)
          refine lv_istore_n (lv' := [(2, .int z_11), (3, .int x_2), (0, .ref vw), (1, .int vh)]) hx hb dX9_whoIs_29 rfl hl (by decide) rfl (fun ls hl => ?_)
          obtain ⟨z_12, ez_12⟩ : ∃ z : Int32, z = x_2 + 1 := ⟨_, rfl⟩
          have k_1 : (1 : Int32).toInt = 1 := by decide
          have bz_12 : z_12.toInt = x_2.toInt + (1 : Int32).toInt := i_add ez_12 (by omega) (by omega)
          refine lv_iinc (v := z_12) (lv' := [(3, .int z_12), (2, .int z_11), (0, .ref vw), (1, .int vh)]) hx hb dX9_whoIs_30 hl (k := 1) rfl ez_12.symm (by decide) rfl (fun ls hl => ?_)
          refine lv_goto (tgt := 4) hx hb dX9_whoIs_33 (by decide) ?_
          exact ih1 z_11 z_12 ⟨by omega, by omega⟩ (by omega) _ _ (hP.sub [0, 1, 2, 3, 4, 5, 6, 7, 8] rfl) hS ls (lv_sub hl [0, 1, 2, 3] rfl)
  have k_0 : (0 : Int32).toInt = 0 := by decide
  exact loop1 ((7 - (0 : Int32).toInt).toNat + 1) 0 0 ⟨by omega, by omega⟩ (by omega) _ _ hP hS ls (lv_sub hl [0, 1, 2, 3] rfl)
abbrev cX9_whoLends : ByteArray := prog_11_method_9_code
def yX9_whoLends : MethodName := ⟨RX9, "whoLends", "()I"⟩
theorem t740 : Cond.code yX9_whoLends cX9_whoLends 3 (some .int) ∈ GW := gw_mem 854 (by decide +kernel) (by decide +kernel)
theorem dX9_whoLends_0 : decode cX9_whoLends 0 = .ok (.iconst 0, 1) := by decide +kernel
theorem dX9_whoLends_1 : decode cX9_whoLends 1 = .ok (.istore_n 1, 1) := by decide +kernel
theorem dX9_whoLends_2 : decode cX9_whoLends 2 = .ok (.iconst 0, 1) := by decide +kernel
theorem dX9_whoLends_3 : decode cX9_whoLends 3 = .ok (.istore_n 2, 1) := by decide +kernel
theorem dX9_whoLends_4 : decode cX9_whoLends 4 = .ok (.iload_n 2, 1) := by decide +kernel
theorem dX9_whoLends_5 : decode cX9_whoLends 5 = .ok (.aload_n 0, 1) := by decide +kernel
theorem dX9_whoLends_6 : decode cX9_whoLends 6 = .ok (.getfield 12, 3) := by decide +kernel
theorem dX9_whoLends_9 : decode cX9_whoLends 9 = .ok (.getfield 65, 3) := by decide +kernel
theorem dX9_whoLends_12 : decode cX9_whoLends 12 = .ok (.if_icmp .ge 28, 3) := by decide +kernel
theorem dX9_whoLends_40 : decode cX9_whoLends 40 = .ok (.iload_n 1, 1) := by decide +kernel
theorem dX9_whoLends_41 : decode cX9_whoLends 41 = .ok (.ireturn, 1) := by decide +kernel
theorem dX9_whoLends_15 : decode cX9_whoLends 15 = .ok (.aload_n 0, 1) := by decide +kernel
theorem dX9_whoLends_16 : decode cX9_whoLends 16 = .ok (.getfield 21, 3) := by decide +kernel
theorem dX9_whoLends_19 : decode cX9_whoLends 19 = .ok (.getfield 71, 3) := by decide +kernel
theorem dX9_whoLends_22 : decode cX9_whoLends 22 = .ok (.iload_n 2, 1) := by decide +kernel
theorem dX9_whoLends_23 : decode cX9_whoLends 23 = .ok (.iaload, 1) := by decide +kernel
theorem dX9_whoLends_24 : decode cX9_whoLends 24 = .ok (.iconst (-1), 1) := by decide +kernel
theorem dX9_whoLends_25 : decode cX9_whoLends 25 = .ok (.if_icmp .eq 9, 3) := by decide +kernel
theorem dX9_whoLends_34 : decode cX9_whoLends 34 = .ok (.iinc 2 1, 3) := by decide +kernel
theorem dX9_whoLends_37 : decode cX9_whoLends 37 = .ok (.goto (-33), 3) := by decide +kernel
theorem dX9_whoLends_28 : decode cX9_whoLends 28 = .ok (.iload_n 1, 1) := by decide +kernel
theorem dX9_whoLends_29 : decode cX9_whoLends 29 = .ok (.iconst 1, 1) := by decide +kernel
theorem dX9_whoLends_30 : decode cX9_whoLends 30 = .ok (.iload_n 2, 1) := by decide +kernel
theorem dX9_whoLends_31 : decode cX9_whoLends 31 = .ok (.ishl, 1) := by decide +kernel
theorem dX9_whoLends_32 : decode cX9_whoLends 32 = .ok (.ior, 1) := by decide +kernel
theorem dX9_whoLends_33 : decode cX9_whoLends 33 = .ok (.istore_n 1, 1) := by decide +kernel
set_option maxHeartbeats 4000000 in
set_option maxRecDepth 100000 in
theorem g_whoLends (l : Launch) (dC : Nat → ClassId) (dI : Nat → Nat → Nat) (cy : Nat → ClassId) (vw : Nat) (vwc : Nat) (vwl : Nat) (vws : Nat) (vwc1 : Nat) (vwc2 : Nat) (vwc3 : Nat) (vwc4 : Nat) (vwc5 : Nat) (vwcm : Int32) (vwcd : Int32) (vwcr : Int32) (vwcw : Int32) (vwl1 : Nat) (vwl2 : Nat) (vwl3 : Nat) (vwl4 : Nat) (vwl5 : Nat) (vwl6 : Nat) (vwl7 : Nat) (vwl8 : Nat) (vwl9 : Nat) (vwl10 : Nat) (vwly : Int32) (vwlf4 : Nat → Int32) (r_vwcm : 0 ≤ (vwcm : Int32).toInt ∧ (vwcm : Int32).toInt ≤ 7) (r_vwcd : 0 ≤ (vwcd : Int32).toInt ∧ (vwcd : Int32).toInt ≤ 10) : Met l yX9_whoLends (wl yX9_whoLends cX9_whoLends 3 (some .int)) ({ frames := 0, cells := 0, slots := 0, locals := 0 }) (Pr (dC, dI) vwCl cy [(vw, .inr (10, [.ref vwc, .ref vwl, .ref vws])), (vwc, .inr (2, [.ref vwc1, .ref vwc2, .ref vwc3, .ref vwc4, .ref vwc5, .int vwcm, .int vwcd, .int vwcr, .int vwcw])), (vwl, .inr (5, [.ref vwl1, .ref vwl2, .ref vwl3, .ref vwl4, .ref vwl5, .ref vwl6, .ref vwl7, .ref vwl8, .ref vwl9, .ref vwl10, .int vwly])), (vwl4, .inl (cy 0, 7, .inl vwlf4))] [.ref vw]) (Ri (fun r => True)) 0 0 (fun _ => False) := by
  refine mr RX9 rfl (by decide +kernel) (Nat.le_of_ble_eq_true rfl) ?_
  intro p e s m below meth c hx hb hr hlocks av9 hav hts hown hml hK hP hS Q9 hQ9 ls hl
  have hl : lv_has ls 3 [(0, .ref vw)] := hl
  refine lv_iconst (v := 0) hx hb dX9_whoLends_0 (by decide) ?_
  refine lv_istore_n (lv' := [(1, .int 0), (0, .ref vw)]) hx hb dX9_whoLends_1 rfl hl (by decide) rfl (fun ls hl => ?_)
  refine lv_iconst (v := 0) hx hb dX9_whoLends_2 (by decide) ?_
  refine lv_istore_n (lv' := [(2, .int 0), (1, .int 0), (0, .ref vw)]) hx hb dX9_whoLends_3 rfl hl (by decide) rfl (fun ls hl => ?_)
  have loop1 : ∀ (n1 : Nat) (x_3 : Int32) (x_2 : Int32), (0 ≤ x_2.toInt ∧ x_2.toInt ≤ 7) → 7 - x_2.toInt < (n1 : Int) → ∀ (H : Heap) (locs : List Loc), va_P (dC, dI) vwCl [(vw, .inr (10, [.ref vwc, .ref vwl, .ref vws])), (vwc, .inr (2, [.ref vwc1, .ref vwc2, .ref vwc3, .ref vwc4, .ref vwc5, .int vwcm, .int vwcd, .int vwcr, .int vwcw])), (vwl, .inr (5, [.ref vwl1, .ref vwl2, .ref vwl3, .ref vwl4, .ref vwl5, .ref vwl6, .ref vwl7, .ref vwl8, .ref vwl9, .ref vwl10, .int vwly])), (vwl4, .inl (cy 0, 7, .inl vwlf4))] H → va_S (fun _ => False) s.heap H locs → ∀ ls : Array Slot, lv_has ls 3 [(2, .int x_2), (1, .int x_3), (0, .ref vw)] → W p l e ({ frames := 0, cells := 0, slots := 0, locals := 0 }) s m av9 below meth c H locs 0 0 Q9 (F0 m 4 ls []) := by
    intro n1
    induction n1 with
    | zero =>
      intro x_3 x_2 bx_2 hn1 H locs hP hS ls hl
      exfalso; omega
    | succ n1 ih1 =>
      intro x_3 x_2 bx_2 hn1 H locs hP hS ls hl
      refine lv_iload_n hx hb dX9_whoLends_4 rfl (lv_at hl 0 rfl) ?_
      refine lv_aload_n hx hb dX9_whoLends_5 rfl (lv_at hl 2 rfl) ?_
      refine gf_X9_12 hx hb hts hown hK hP 0 rfl rfl dX9_whoLends_6 ?_
      refine gf_X9_65 hx hb hts hown hK hP 1 rfl rfl dX9_whoLends_9 ?_
      refine lv_icmp_ge (tgt := 40) hx hb dX9_whoLends_12 (by decide) (fun c_4 => ?_) (fun c_4 => ?_)
      · skip
        have c_4 : vwcm.toInt ≤ x_2.toInt := i_le.mp c_4
        refine lv_iload_n hx hb dX9_whoLends_40 rfl (lv_at hl 1 rfl) ?_
        rw [hQ9]
        exact rr_i hx hb hr hlocks trivial hS dX9_whoLends_41
      · skip
        have c_4 : ¬ (vwcm.toInt ≤ x_2.toInt) := fun h9 => c_4 (i_le.mpr h9)
        refine lv_aload_n hx hb dX9_whoLends_15 rfl (lv_at hl 2 rfl) ?_
        refine gf_X9_21 hx hb hts hown hK hP 0 rfl rfl dX9_whoLends_16 ?_
        refine gf_X9_71 hx hb hts hown hK hP 2 rfl rfl dX9_whoLends_19 ?_
        refine lv_iload_n hx hb dX9_whoLends_22 rfl (lv_at hl 0 rfl) ?_
        have hin_5 : vp_in x_2 7 := vp_in_iff.mpr ⟨by omega, by omega⟩
        refine va_iald hx hb hK hP 3 0 rfl rfl hin_5 dX9_whoLends_23 ?_
        refine lv_topi (fun z_6 ez_6 => ?_)
        refine lv_iconst (v := (-1)) hx hb dX9_whoLends_24 (by decide) ?_
        have k_m1 : ((-1) : Int32).toInt = (-1) := by decide
        refine lv_icmp_eq (tgt := 34) hx hb dX9_whoLends_25 (by decide) (fun c_7 => ?_) (fun c_7 => ?_)
        · skip
          have c_7 : z_6.toInt = ((-1) : Int32).toInt := i_eq.mp c_7
          obtain ⟨z_8, ez_8⟩ : ∃ z : Int32, z = x_2 + 1 := ⟨_, rfl⟩
          have k_1 : (1 : Int32).toInt = 1 := by decide
          have bz_8 : z_8.toInt = x_2.toInt + (1 : Int32).toInt := i_add ez_8 (by omega) (by omega)
          refine lv_iinc (v := z_8) (lv' := [(2, .int z_8), (1, .int x_3), (0, .ref vw)]) hx hb dX9_whoLends_34 hl (k := 0) rfl ez_8.symm (by decide) rfl (fun ls hl => ?_)
          refine lv_goto (tgt := 4) hx hb dX9_whoLends_37 (by decide) ?_
          exact ih1 x_3 z_8 ⟨by omega, by omega⟩ (by omega) _ _ (hP.sub [0, 1, 2, 3] rfl) hS ls (lv_sub hl [0, 1, 2] rfl)
        · skip
          have c_7 : ¬ (z_6.toInt = ((-1) : Int32).toInt) := fun h9 => c_7 (i_eq.mpr h9)
          refine lv_iload_n hx hb dX9_whoLends_28 rfl (lv_at hl 1 rfl) ?_
          refine lv_iconst (v := 1) hx hb dX9_whoLends_29 (by decide) ?_
          refine lv_iload_n hx hb dX9_whoLends_30 rfl (lv_at hl 0 rfl) ?_
          refine lv_ishl hx hb dX9_whoLends_31 ?_
          refine lv_topi (fun z_9 ez_9 => ?_)
          have bz_9 : 1 ≤ z_9.toInt ∧ z_9.toInt ≤ 128 := i_shl7 ez_9 ⟨by omega, by omega⟩
          refine lv_ior hx hb dX9_whoLends_32 ?_
          refine lv_topi (fun z_10 ez_10 => ?_)
          refine lv_istore_n (lv' := [(1, .int z_10), (2, .int x_2), (0, .ref vw)]) hx hb dX9_whoLends_33 rfl hl (by decide) rfl (fun ls hl => ?_)
          obtain ⟨z_11, ez_11⟩ : ∃ z : Int32, z = x_2 + 1 := ⟨_, rfl⟩
          have k_1 : (1 : Int32).toInt = 1 := by decide
          have bz_11 : z_11.toInt = x_2.toInt + (1 : Int32).toInt := i_add ez_11 (by omega) (by omega)
          refine lv_iinc (v := z_11) (lv' := [(2, .int z_11), (1, .int z_10), (0, .ref vw)]) hx hb dX9_whoLends_34 hl (k := 1) rfl ez_11.symm (by decide) rfl (fun ls hl => ?_)
          refine lv_goto (tgt := 4) hx hb dX9_whoLends_37 (by decide) ?_
          exact ih1 z_10 z_11 ⟨by omega, by omega⟩ (by omega) _ _ (hP.sub [0, 1, 2, 3] rfl) hS ls (lv_sub hl [0, 1, 2] rfl)
  have k_0 : (0 : Int32).toInt = 0 := by decide
  exact loop1 ((7 - (0 : Int32).toInt).toNat + 1) 0 0 ⟨by omega, by omega⟩ (by omega) _ _ hP hS ls (lv_sub hl [0, 1, 2] rfl)
abbrev cX9_allWhite : ByteArray := prog_11_method_10_code
def yX9_allWhite : MethodName := ⟨RX9, "allWhite", "()I"⟩
theorem t744 : Cond.code yX9_allWhite cX9_allWhite 3 (some .int) ∈ GW := gw_mem 858 (by decide +kernel) (by decide +kernel)
theorem dX9_allWhite_0 : decode cX9_allWhite 0 = .ok (.iconst 0, 1) := by decide +kernel
theorem dX9_allWhite_1 : decode cX9_allWhite 1 = .ok (.istore_n 1, 1) := by decide +kernel
theorem dX9_allWhite_2 : decode cX9_allWhite 2 = .ok (.iconst 0, 1) := by decide +kernel
theorem dX9_allWhite_3 : decode cX9_allWhite 3 = .ok (.istore_n 2, 1) := by decide +kernel
theorem dX9_allWhite_4 : decode cX9_allWhite 4 = .ok (.iload_n 2, 1) := by decide +kernel
theorem dX9_allWhite_5 : decode cX9_allWhite 5 = .ok (.aload_n 0, 1) := by decide +kernel
theorem dX9_allWhite_6 : decode cX9_allWhite 6 = .ok (.getfield 12, 3) := by decide +kernel
theorem dX9_allWhite_9 : decode cX9_allWhite 9 = .ok (.getfield 65, 3) := by decide +kernel
theorem dX9_allWhite_12 : decode cX9_allWhite 12 = .ok (.if_icmp .ge 17, 3) := by decide +kernel
theorem dX9_allWhite_29 : decode cX9_allWhite 29 = .ok (.iload_n 1, 1) := by decide +kernel
theorem dX9_allWhite_30 : decode cX9_allWhite 30 = .ok (.ireturn, 1) := by decide +kernel
theorem dX9_allWhite_15 : decode cX9_allWhite 15 = .ok (.iload_n 1, 1) := by decide +kernel
theorem dX9_allWhite_16 : decode cX9_allWhite 16 = .ok (.aload_n 0, 1) := by decide +kernel
theorem dX9_allWhite_17 : decode cX9_allWhite 17 = .ok (.iload_n 2, 1) := by decide +kernel
theorem dX9_allWhite_18 : decode cX9_allWhite 18 = .ok (.invokevirtual 86, 3) := by decide +kernel
theorem t745 : Cond.methodLink RX9 86 yX9_whiteOf ∈ GW := gw_mem 859 (by decide +kernel) (by decide +kernel)
theorem t702 : Cond.instanceMethod yX9_whiteOf ∈ GW := gw_mem 816 (by decide +kernel) (by decide +kernel)
theorem t703 : Cond.selects RX9 yX9_whiteOf yX9_whiteOf ∈ GW := gw_mem 817 (by decide +kernel) (by decide +kernel)
theorem cw_X9_86 {R : Room} {s : State} {args : Array Value} {rm : Room} {mc ms : Nat} (hts : ∀ w ∈ GW, w.before args s = true) (hrc : rm.cells = mc) (hrs : rm.slots = ms) (hR : rm.frames + 1 ≤ R.frames ∧ 8 + (2 + 11) + rm.locals ≤ R.locals) : CallW R s args RX9 RX9 86 yX9_whiteOf cX9_whiteOf 2 (some .int) (wl yX9_whiteOf cX9_whiteOf 2 (some .int)) rm mc ms 1 := cwV 1 hts (gi_V t745 t702 t703 t15 t704) rfl hrc hrs (by decide +kernel) hR
theorem dX9_allWhite_21 : decode cX9_allWhite 21 = .ok (.iadd, 1) := by decide +kernel
theorem dX9_allWhite_22 : decode cX9_allWhite 22 = .ok (.istore_n 1, 1) := by decide +kernel
theorem dX9_allWhite_23 : decode cX9_allWhite 23 = .ok (.iinc 2 1, 3) := by decide +kernel
theorem dX9_allWhite_26 : decode cX9_allWhite 26 = .ok (.goto (-22), 3) := by decide +kernel
set_option maxHeartbeats 4000000 in
set_option maxRecDepth 100000 in
theorem g_allWhite (l : Launch) (dC : Nat → ClassId) (dI : Nat → Nat → Nat) (cy : Nat → ClassId) (vw : Nat) (vwc : Nat) (vwl : Nat) (vws : Nat) (vwc1 : Nat) (vwc2 : Nat) (vwc3 : Nat) (vwc4 : Nat) (vwc5 : Nat) (vwcm : Int32) (vwcd : Int32) (vwcr : Int32) (vwcw : Int32) (vwcf3 : Nat → Int32) (vwcf4 : Nat → Int32) (vwl1 : Nat) (vwl2 : Nat) (vwl3 : Nat) (vwl4 : Nat) (vwl5 : Nat) (vwl6 : Nat) (vwl7 : Nat) (vwl8 : Nat) (vwl9 : Nat) (vwl10 : Nat) (vwly : Int32) (vwlf2 : Nat → Int32) (vwlf3 : Nat → Int32) (vwlf4 : Nat → Int32) (vwlf5 : Nat → Int32) (r_vwcm : 0 ≤ (vwcm : Int32).toInt ∧ (vwcm : Int32).toInt ≤ 7) (r_vwcd : 0 ≤ (vwcd : Int32).toInt ∧ (vwcd : Int32).toInt ≤ 10) (p_vwcf3 : Rg vwcf3 10 0 40) (p_vwlf2 : Rg vwlf2 70 0 9) (p_vwlf5 : Rg vwlf5 7 (-1) 9) : Met l yX9_allWhite (wl yX9_allWhite cX9_allWhite 3 (some .int)) ({ frames := 3, cells := 0, slots := 0, locals := 192 }) (Pr (dC, dI) vwCl cy [(vw, .inr (10, [.ref vwc, .ref vwl, .ref vws])), (vwc, .inr (2, [.ref vwc1, .ref vwc2, .ref vwc3, .ref vwc4, .ref vwc5, .int vwcm, .int vwcd, .int vwcr, .int vwcw])), (vwc3, .inl (cy 0, 10, .inl vwcf3)), (vwc4, .inl (cy 2, 10, .inl vwcf4)), (vwl, .inr (5, [.ref vwl1, .ref vwl2, .ref vwl3, .ref vwl4, .ref vwl5, .ref vwl6, .ref vwl7, .ref vwl8, .ref vwl9, .ref vwl10, .int vwly])), (vwl2, .inl (cy 0, 70, .inl vwlf2)), (vwl3, .inl (cy 0, 49, .inl vwlf3)), (vwl4, .inl (cy 0, 7, .inl vwlf4)), (vwl5, .inl (cy 0, 7, .inl vwlf5))] [.ref vw]) (Ri (fun r => True)) 0 0 (fun _ => False) := by
  refine mr RX9 rfl (by decide +kernel) (Nat.le_of_ble_eq_true rfl) ?_
  intro p e s m below meth c hx hb hr hlocks av9 hav hts hown hml hK hP hS Q9 hQ9 ls hl
  have hl : lv_has ls 3 [(0, .ref vw)] := hl
  refine lv_iconst (v := 0) hx hb dX9_allWhite_0 (by decide) ?_
  refine lv_istore_n (lv' := [(1, .int 0), (0, .ref vw)]) hx hb dX9_allWhite_1 rfl hl (by decide) rfl (fun ls hl => ?_)
  refine lv_iconst (v := 0) hx hb dX9_allWhite_2 (by decide) ?_
  refine lv_istore_n (lv' := [(2, .int 0), (1, .int 0), (0, .ref vw)]) hx hb dX9_allWhite_3 rfl hl (by decide) rfl (fun ls hl => ?_)
  have loop1 : ∀ (n1 : Nat) (x_3 : Int32) (x_2 : Int32), (0 ≤ x_2.toInt ∧ x_2.toInt ≤ 7) → 7 - x_2.toInt < (n1 : Int) → ∀ (H : Heap) (locs : List Loc), va_P (dC, dI) vwCl [(vw, .inr (10, [.ref vwc, .ref vwl, .ref vws])), (vwc, .inr (2, [.ref vwc1, .ref vwc2, .ref vwc3, .ref vwc4, .ref vwc5, .int vwcm, .int vwcd, .int vwcr, .int vwcw])), (vwc3, .inl (cy 0, 10, .inl vwcf3)), (vwc4, .inl (cy 2, 10, .inl vwcf4)), (vwl, .inr (5, [.ref vwl1, .ref vwl2, .ref vwl3, .ref vwl4, .ref vwl5, .ref vwl6, .ref vwl7, .ref vwl8, .ref vwl9, .ref vwl10, .int vwly])), (vwl2, .inl (cy 0, 70, .inl vwlf2)), (vwl3, .inl (cy 0, 49, .inl vwlf3)), (vwl4, .inl (cy 0, 7, .inl vwlf4)), (vwl5, .inl (cy 0, 7, .inl vwlf5))] H → va_S (fun _ => False) s.heap H locs → ∀ ls : Array Slot, lv_has ls 3 [(2, .int x_2), (1, .int x_3), (0, .ref vw)] → W p l e ({ frames := 3, cells := 0, slots := 0, locals := 192 }) s m av9 below meth c H locs 0 0 Q9 (F0 m 4 ls []) := by
    intro n1
    induction n1 with
    | zero =>
      intro x_3 x_2 bx_2 hn1 H locs hP hS ls hl
      exfalso; omega
    | succ n1 ih1 =>
      intro x_3 x_2 bx_2 hn1 H locs hP hS ls hl
      refine lv_iload_n hx hb dX9_allWhite_4 rfl (lv_at hl 0 rfl) ?_
      refine lv_aload_n hx hb dX9_allWhite_5 rfl (lv_at hl 2 rfl) ?_
      refine gf_X9_12 hx hb hts hown hK hP 0 rfl rfl dX9_allWhite_6 ?_
      refine gf_X9_65 hx hb hts hown hK hP 1 rfl rfl dX9_allWhite_9 ?_
      refine lv_icmp_ge (tgt := 29) hx hb dX9_allWhite_12 (by decide) (fun c_4 => ?_) (fun c_4 => ?_)
      · skip
        have c_4 : vwcm.toInt ≤ x_2.toInt := i_le.mp c_4
        refine lv_iload_n hx hb dX9_allWhite_29 rfl (lv_at hl 1 rfl) ?_
        rw [hQ9]
        exact rr_i hx hb hr hlocks trivial hS dX9_allWhite_30
      · skip
        have c_4 : ¬ (vwcm.toInt ≤ x_2.toInt) := fun h9 => c_4 (i_le.mpr h9)
        refine lv_iload_n hx hb dX9_allWhite_15 rfl (lv_at hl 1 rfl) ?_
        refine lv_aload_n hx hb dX9_allWhite_16 rfl (lv_at hl 2 rfl) ?_
        refine lv_iload_n hx hb dX9_allWhite_17 rfl (lv_at hl 0 rfl) ?_
        refine jr_i (rVr (As := [.int x_2]) (rest := [.int x_3]) (ci := 10) ⟨hx, hb, hml, hown, hts⟩ (g_whiteOf l dC dI cy vw vwc vwl vws vwc1 vwc2 vwc3 vwc4 vwc5 vwcm vwcd vwcr vwcw vwcf3 vwcf4 vwl1 vwl2 vwl3 vwl4 vwl5 vwl6 vwl7 vwl8 vwl9 vwl10 vwly vwlf2 vwlf3 vwlf4 vwlf5 x_2 r_vwcm r_vwcd ⟨by omega, by omega⟩ p_vwcf3 p_vwlf2 p_vwlf5) (cw_X9_86 hts rfl rfl ⟨Nat.le_of_ble_eq_true rfl, Nat.le_of_ble_eq_true rfl⟩) hP hK [0, 1, 2, 3, 4, 5, 6, 7, 8] rfl rfl rfl rfl hl.1 rfl (Nat.le_of_ble_eq_true rfl) dX9_allWhite_18 ⟨Nat.le_of_ble_eq_true rfl, Nat.le_of_ble_eq_true rfl⟩) hP hS (fun r_5 H locs hp_6 hP hS => ?_)
        refine lv_iadd hx hb dX9_allWhite_21 ?_
        refine lv_topi (fun z_7 ez_7 => ?_)
        refine lv_istore_n (lv' := [(1, .int z_7), (2, .int x_2), (0, .ref vw)]) hx hb dX9_allWhite_22 rfl hl (by decide) rfl (fun ls hl => ?_)
        obtain ⟨z_8, ez_8⟩ : ∃ z : Int32, z = x_2 + 1 := ⟨_, rfl⟩
        have k_1 : (1 : Int32).toInt = 1 := by decide
        have bz_8 : z_8.toInt = x_2.toInt + (1 : Int32).toInt := i_add ez_8 (by omega) (by omega)
        refine lv_iinc (v := z_8) (lv' := [(2, .int z_8), (1, .int z_7), (0, .ref vw)]) hx hb dX9_allWhite_23 hl (k := 1) rfl ez_8.symm (by decide) rfl (fun ls hl => ?_)
        refine lv_goto (tgt := 4) hx hb dX9_allWhite_26 (by decide) ?_
        exact ih1 z_7 z_8 ⟨by omega, by omega⟩ (by omega) _ _ (hP.sub [0, 1, 2, 3, 4, 5, 6, 7, 8] rfl) hS ls (lv_sub hl [0, 1, 2] rfl)
  have k_0 : (0 : Int32).toInt = 0 := by decide
  exact loop1 ((7 - (0 : Int32).toInt).toNat + 1) 0 0 ⟨by omega, by omega⟩ (by omega) _ _ hP hS ls (lv_sub hl [0, 1, 2] rfl)
abbrev cX9_allDark : ByteArray := prog_11_method_11_code
def yX9_allDark : MethodName := ⟨RX9, "allDark", "()I"⟩
theorem t749 : Cond.code yX9_allDark cX9_allDark 3 (some .int) ∈ GW := gw_mem 863 (by decide +kernel) (by decide +kernel)
theorem dX9_allDark_0 : decode cX9_allDark 0 = .ok (.iconst 0, 1) := by decide +kernel
theorem dX9_allDark_1 : decode cX9_allDark 1 = .ok (.istore_n 1, 1) := by decide +kernel
theorem dX9_allDark_2 : decode cX9_allDark 2 = .ok (.iconst 0, 1) := by decide +kernel
theorem dX9_allDark_3 : decode cX9_allDark 3 = .ok (.istore_n 2, 1) := by decide +kernel
theorem dX9_allDark_4 : decode cX9_allDark 4 = .ok (.iload_n 2, 1) := by decide +kernel
theorem dX9_allDark_5 : decode cX9_allDark 5 = .ok (.aload_n 0, 1) := by decide +kernel
theorem dX9_allDark_6 : decode cX9_allDark 6 = .ok (.getfield 12, 3) := by decide +kernel
theorem dX9_allDark_9 : decode cX9_allDark 9 = .ok (.getfield 65, 3) := by decide +kernel
theorem dX9_allDark_12 : decode cX9_allDark 12 = .ok (.if_icmp .ge 17, 3) := by decide +kernel
theorem dX9_allDark_29 : decode cX9_allDark 29 = .ok (.iload_n 1, 1) := by decide +kernel
theorem dX9_allDark_30 : decode cX9_allDark 30 = .ok (.ireturn, 1) := by decide +kernel
theorem dX9_allDark_15 : decode cX9_allDark 15 = .ok (.iload_n 1, 1) := by decide +kernel
theorem dX9_allDark_16 : decode cX9_allDark 16 = .ok (.aload_n 0, 1) := by decide +kernel
theorem dX9_allDark_17 : decode cX9_allDark 17 = .ok (.iload_n 2, 1) := by decide +kernel
theorem dX9_allDark_18 : decode cX9_allDark 18 = .ok (.invokevirtual 89, 3) := by decide +kernel
theorem t750 : Cond.methodLink RX9 89 yX9_darkOf ∈ GW := gw_mem 864 (by decide +kernel) (by decide +kernel)
theorem t710 : Cond.instanceMethod yX9_darkOf ∈ GW := gw_mem 824 (by decide +kernel) (by decide +kernel)
theorem t711 : Cond.selects RX9 yX9_darkOf yX9_darkOf ∈ GW := gw_mem 825 (by decide +kernel) (by decide +kernel)
theorem cw_X9_89 {R : Room} {s : State} {args : Array Value} {rm : Room} {mc ms : Nat} (hts : ∀ w ∈ GW, w.before args s = true) (hrc : rm.cells = mc) (hrs : rm.slots = ms) (hR : rm.frames + 1 ≤ R.frames ∧ 8 + (2 + 11) + rm.locals ≤ R.locals) : CallW R s args RX9 RX9 89 yX9_darkOf cX9_darkOf 2 (some .int) (wl yX9_darkOf cX9_darkOf 2 (some .int)) rm mc ms 1 := cwV 1 hts (gi_V t750 t710 t711 t15 t712) rfl hrc hrs (by decide +kernel) hR
theorem dX9_allDark_21 : decode cX9_allDark 21 = .ok (.iadd, 1) := by decide +kernel
theorem dX9_allDark_22 : decode cX9_allDark 22 = .ok (.istore_n 1, 1) := by decide +kernel
theorem dX9_allDark_23 : decode cX9_allDark 23 = .ok (.iinc 2 1, 3) := by decide +kernel
theorem dX9_allDark_26 : decode cX9_allDark 26 = .ok (.goto (-22), 3) := by decide +kernel
set_option maxHeartbeats 4000000 in
set_option maxRecDepth 100000 in
theorem g_allDark (l : Launch) (dC : Nat → ClassId) (dI : Nat → Nat → Nat) (cy : Nat → ClassId) (vw : Nat) (vwc : Nat) (vwl : Nat) (vws : Nat) (vwc1 : Nat) (vwc2 : Nat) (vwc3 : Nat) (vwc4 : Nat) (vwc5 : Nat) (vwcm : Int32) (vwcd : Int32) (vwcr : Int32) (vwcw : Int32) (vwcf3 : Nat → Int32) (vwcf4 : Nat → Int32) (vwl1 : Nat) (vwl2 : Nat) (vwl3 : Nat) (vwl4 : Nat) (vwl5 : Nat) (vwl6 : Nat) (vwl7 : Nat) (vwl8 : Nat) (vwl9 : Nat) (vwl10 : Nat) (vwly : Int32) (vwlf2 : Nat → Int32) (vwlf3 : Nat → Int32) (vwlf4 : Nat → Int32) (vwlf5 : Nat → Int32) (r_vwcm : 0 ≤ (vwcm : Int32).toInt ∧ (vwcm : Int32).toInt ≤ 7) (r_vwcd : 0 ≤ (vwcd : Int32).toInt ∧ (vwcd : Int32).toInt ≤ 10) (p_vwcf3 : Rg vwcf3 10 0 40) (p_vwlf2 : Rg vwlf2 70 0 9) (p_vwlf5 : Rg vwlf5 7 (-1) 9) : Met l yX9_allDark (wl yX9_allDark cX9_allDark 3 (some .int)) ({ frames := 3, cells := 0, slots := 0, locals := 192 }) (Pr (dC, dI) vwCl cy [(vw, .inr (10, [.ref vwc, .ref vwl, .ref vws])), (vwc, .inr (2, [.ref vwc1, .ref vwc2, .ref vwc3, .ref vwc4, .ref vwc5, .int vwcm, .int vwcd, .int vwcr, .int vwcw])), (vwc3, .inl (cy 0, 10, .inl vwcf3)), (vwc4, .inl (cy 2, 10, .inl vwcf4)), (vwl, .inr (5, [.ref vwl1, .ref vwl2, .ref vwl3, .ref vwl4, .ref vwl5, .ref vwl6, .ref vwl7, .ref vwl8, .ref vwl9, .ref vwl10, .int vwly])), (vwl2, .inl (cy 0, 70, .inl vwlf2)), (vwl3, .inl (cy 0, 49, .inl vwlf3)), (vwl4, .inl (cy 0, 7, .inl vwlf4)), (vwl5, .inl (cy 0, 7, .inl vwlf5))] [.ref vw]) (Ri (fun r => True)) 0 0 (fun _ => False) := by
  refine mr RX9 rfl (by decide +kernel) (Nat.le_of_ble_eq_true rfl) ?_
  intro p e s m below meth c hx hb hr hlocks av9 hav hts hown hml hK hP hS Q9 hQ9 ls hl
  have hl : lv_has ls 3 [(0, .ref vw)] := hl
  refine lv_iconst (v := 0) hx hb dX9_allDark_0 (by decide) ?_
  refine lv_istore_n (lv' := [(1, .int 0), (0, .ref vw)]) hx hb dX9_allDark_1 rfl hl (by decide) rfl (fun ls hl => ?_)
  refine lv_iconst (v := 0) hx hb dX9_allDark_2 (by decide) ?_
  refine lv_istore_n (lv' := [(2, .int 0), (1, .int 0), (0, .ref vw)]) hx hb dX9_allDark_3 rfl hl (by decide) rfl (fun ls hl => ?_)
  have loop1 : ∀ (n1 : Nat) (x_3 : Int32) (x_2 : Int32), (0 ≤ x_2.toInt ∧ x_2.toInt ≤ 7) → 7 - x_2.toInt < (n1 : Int) → ∀ (H : Heap) (locs : List Loc), va_P (dC, dI) vwCl [(vw, .inr (10, [.ref vwc, .ref vwl, .ref vws])), (vwc, .inr (2, [.ref vwc1, .ref vwc2, .ref vwc3, .ref vwc4, .ref vwc5, .int vwcm, .int vwcd, .int vwcr, .int vwcw])), (vwc3, .inl (cy 0, 10, .inl vwcf3)), (vwc4, .inl (cy 2, 10, .inl vwcf4)), (vwl, .inr (5, [.ref vwl1, .ref vwl2, .ref vwl3, .ref vwl4, .ref vwl5, .ref vwl6, .ref vwl7, .ref vwl8, .ref vwl9, .ref vwl10, .int vwly])), (vwl2, .inl (cy 0, 70, .inl vwlf2)), (vwl3, .inl (cy 0, 49, .inl vwlf3)), (vwl4, .inl (cy 0, 7, .inl vwlf4)), (vwl5, .inl (cy 0, 7, .inl vwlf5))] H → va_S (fun _ => False) s.heap H locs → ∀ ls : Array Slot, lv_has ls 3 [(2, .int x_2), (1, .int x_3), (0, .ref vw)] → W p l e ({ frames := 3, cells := 0, slots := 0, locals := 192 }) s m av9 below meth c H locs 0 0 Q9 (F0 m 4 ls []) := by
    intro n1
    induction n1 with
    | zero =>
      intro x_3 x_2 bx_2 hn1 H locs hP hS ls hl
      exfalso; omega
    | succ n1 ih1 =>
      intro x_3 x_2 bx_2 hn1 H locs hP hS ls hl
      refine lv_iload_n hx hb dX9_allDark_4 rfl (lv_at hl 0 rfl) ?_
      refine lv_aload_n hx hb dX9_allDark_5 rfl (lv_at hl 2 rfl) ?_
      refine gf_X9_12 hx hb hts hown hK hP 0 rfl rfl dX9_allDark_6 ?_
      refine gf_X9_65 hx hb hts hown hK hP 1 rfl rfl dX9_allDark_9 ?_
      refine lv_icmp_ge (tgt := 29) hx hb dX9_allDark_12 (by decide) (fun c_4 => ?_) (fun c_4 => ?_)
      · skip
        have c_4 : vwcm.toInt ≤ x_2.toInt := i_le.mp c_4
        refine lv_iload_n hx hb dX9_allDark_29 rfl (lv_at hl 1 rfl) ?_
        rw [hQ9]
        exact rr_i hx hb hr hlocks trivial hS dX9_allDark_30
      · skip
        have c_4 : ¬ (vwcm.toInt ≤ x_2.toInt) := fun h9 => c_4 (i_le.mpr h9)
        refine lv_iload_n hx hb dX9_allDark_15 rfl (lv_at hl 1 rfl) ?_
        refine lv_aload_n hx hb dX9_allDark_16 rfl (lv_at hl 2 rfl) ?_
        refine lv_iload_n hx hb dX9_allDark_17 rfl (lv_at hl 0 rfl) ?_
        refine jr_i (rVr (As := [.int x_2]) (rest := [.int x_3]) (ci := 10) ⟨hx, hb, hml, hown, hts⟩ (g_darkOf l dC dI cy vw vwc vwl vws vwc1 vwc2 vwc3 vwc4 vwc5 vwcm vwcd vwcr vwcw vwcf3 vwcf4 vwl1 vwl2 vwl3 vwl4 vwl5 vwl6 vwl7 vwl8 vwl9 vwl10 vwly vwlf2 vwlf3 vwlf4 vwlf5 x_2 r_vwcm r_vwcd ⟨by omega, by omega⟩ p_vwcf3 p_vwlf2 p_vwlf5) (cw_X9_89 hts rfl rfl ⟨Nat.le_of_ble_eq_true rfl, Nat.le_of_ble_eq_true rfl⟩) hP hK [0, 1, 2, 3, 4, 5, 6, 7, 8] rfl rfl rfl rfl hl.1 rfl (Nat.le_of_ble_eq_true rfl) dX9_allDark_18 ⟨Nat.le_of_ble_eq_true rfl, Nat.le_of_ble_eq_true rfl⟩) hP hS (fun r_5 H locs hp_6 hP hS => ?_)
        refine lv_iadd hx hb dX9_allDark_21 ?_
        refine lv_topi (fun z_7 ez_7 => ?_)
        refine lv_istore_n (lv' := [(1, .int z_7), (2, .int x_2), (0, .ref vw)]) hx hb dX9_allDark_22 rfl hl (by decide) rfl (fun ls hl => ?_)
        obtain ⟨z_8, ez_8⟩ : ∃ z : Int32, z = x_2 + 1 := ⟨_, rfl⟩
        have k_1 : (1 : Int32).toInt = 1 := by decide
        have bz_8 : z_8.toInt = x_2.toInt + (1 : Int32).toInt := i_add ez_8 (by omega) (by omega)
        refine lv_iinc (v := z_8) (lv' := [(2, .int z_8), (1, .int z_7), (0, .ref vw)]) hx hb dX9_allDark_23 hl (k := 1) rfl ez_8.symm (by decide) rfl (fun ls hl => ?_)
        refine lv_goto (tgt := 4) hx hb dX9_allDark_26 (by decide) ?_
        exact ih1 z_7 z_8 ⟨by omega, by omega⟩ (by omega) _ _ (hP.sub [0, 1, 2, 3, 4, 5, 6, 7, 8] rfl) hS ls (lv_sub hl [0, 1, 2] rfl)
  have k_0 : (0 : Int32).toInt = 0 := by decide
  exact loop1 ((7 - (0 : Int32).toInt).toNat + 1) 0 0 ⟨by omega, by omega⟩ (by omega) _ _ hP hS ls (lv_sub hl [0, 1, 2] rfl)
abbrev cX9_weightOfAll : ByteArray := prog_11_method_12_code
def yX9_weightOfAll : MethodName := ⟨RX9, "weightOfAll", "(I)I"⟩
theorem t869 : Cond.code yX9_weightOfAll cX9_weightOfAll 4 (some .int) ∈ GW := gw_mem 983 (by decide +kernel) (by decide +kernel)
theorem dX9_weightOfAll_0 : decode cX9_weightOfAll 0 = .ok (.iconst 0, 1) := by decide +kernel
theorem dX9_weightOfAll_1 : decode cX9_weightOfAll 1 = .ok (.istore_n 2, 1) := by decide +kernel
theorem dX9_weightOfAll_2 : decode cX9_weightOfAll 2 = .ok (.iconst 0, 1) := by decide +kernel
theorem dX9_weightOfAll_3 : decode cX9_weightOfAll 3 = .ok (.istore_n 3, 1) := by decide +kernel
theorem dX9_weightOfAll_4 : decode cX9_weightOfAll 4 = .ok (.iload_n 3, 1) := by decide +kernel
theorem dX9_weightOfAll_5 : decode cX9_weightOfAll 5 = .ok (.aload_n 0, 1) := by decide +kernel
theorem dX9_weightOfAll_6 : decode cX9_weightOfAll 6 = .ok (.getfield 12, 3) := by decide +kernel
theorem dX9_weightOfAll_9 : decode cX9_weightOfAll 9 = .ok (.getfield 65, 3) := by decide +kernel
theorem dX9_weightOfAll_12 : decode cX9_weightOfAll 12 = .ok (.if_icmp .ge 25, 3) := by decide +kernel
theorem dX9_weightOfAll_37 : decode cX9_weightOfAll 37 = .ok (.iload_n 2, 1) := by decide +kernel
theorem dX9_weightOfAll_38 : decode cX9_weightOfAll 38 = .ok (.ireturn, 1) := by decide +kernel
theorem dX9_weightOfAll_15 : decode cX9_weightOfAll 15 = .ok (.iload_n 1, 1) := by decide +kernel
theorem dX9_weightOfAll_16 : decode cX9_weightOfAll 16 = .ok (.iload_n 3, 1) := by decide +kernel
theorem dX9_weightOfAll_17 : decode cX9_weightOfAll 17 = .ok (.ishr, 1) := by decide +kernel
theorem dX9_weightOfAll_18 : decode cX9_weightOfAll 18 = .ok (.iconst 1, 1) := by decide +kernel
theorem dX9_weightOfAll_19 : decode cX9_weightOfAll 19 = .ok (.iand, 1) := by decide +kernel
theorem dX9_weightOfAll_20 : decode cX9_weightOfAll 20 = .ok (.ifCond .eq 11, 3) := by decide +kernel
theorem dX9_weightOfAll_31 : decode cX9_weightOfAll 31 = .ok (.iinc 3 1, 3) := by decide +kernel
theorem dX9_weightOfAll_34 : decode cX9_weightOfAll 34 = .ok (.goto (-30), 3) := by decide +kernel
theorem dX9_weightOfAll_23 : decode cX9_weightOfAll 23 = .ok (.iload_n 2, 1) := by decide +kernel
theorem dX9_weightOfAll_24 : decode cX9_weightOfAll 24 = .ok (.aload_n 0, 1) := by decide +kernel
theorem dX9_weightOfAll_25 : decode cX9_weightOfAll 25 = .ok (.iload_n 3, 1) := by decide +kernel
theorem dX9_weightOfAll_26 : decode cX9_weightOfAll 26 = .ok (.invokevirtual 74, 3) := by decide +kernel
theorem dX9_weightOfAll_29 : decode cX9_weightOfAll 29 = .ok (.iadd, 1) := by decide +kernel
theorem dX9_weightOfAll_30 : decode cX9_weightOfAll 30 = .ok (.istore_n 2, 1) := by decide +kernel
set_option maxHeartbeats 4000000 in
set_option maxRecDepth 100000 in
theorem g_weightOfAll (l : Launch) (dC : Nat → ClassId) (dI : Nat → Nat → Nat) (cy : Nat → ClassId) (vw : Nat) (vwc : Nat) (vwl : Nat) (vws : Nat) (vwc1 : Nat) (vwc2 : Nat) (vwc3 : Nat) (vwc4 : Nat) (vwc5 : Nat) (vwcm : Int32) (vwcd : Int32) (vwcr : Int32) (vwcw : Int32) (vwcf3 : Nat → Int32) (vwcf4 : Nat → Int32) (vwl1 : Nat) (vwl2 : Nat) (vwl3 : Nat) (vwl4 : Nat) (vwl5 : Nat) (vwl6 : Nat) (vwl7 : Nat) (vwl8 : Nat) (vwl9 : Nat) (vwl10 : Nat) (vwly : Int32) (vwlf2 : Nat → Int32) (vwlf3 : Nat → Int32) (vwlf4 : Nat → Int32) (vwlf5 : Nat → Int32) (vh : Int32) (r_vwcm : 0 ≤ (vwcm : Int32).toInt ∧ (vwcm : Int32).toInt ≤ 7) (r_vwcd : 0 ≤ (vwcd : Int32).toInt ∧ (vwcd : Int32).toInt ≤ 10) (p_vwcf3 : Rg vwcf3 10 0 40) (p_vwlf2 : Rg vwlf2 70 0 9) (p_vwlf5 : Rg vwlf5 7 (-1) 9) : Met l yX9_weightOfAll (wl yX9_weightOfAll cX9_weightOfAll 4 (some .int)) ({ frames := 3, cells := 0, slots := 0, locals := 192 }) (Pr (dC, dI) vwCl cy [(vw, .inr (10, [.ref vwc, .ref vwl, .ref vws])), (vwc, .inr (2, [.ref vwc1, .ref vwc2, .ref vwc3, .ref vwc4, .ref vwc5, .int vwcm, .int vwcd, .int vwcr, .int vwcw])), (vwc3, .inl (cy 0, 10, .inl vwcf3)), (vwc4, .inl (cy 2, 10, .inl vwcf4)), (vwl, .inr (5, [.ref vwl1, .ref vwl2, .ref vwl3, .ref vwl4, .ref vwl5, .ref vwl6, .ref vwl7, .ref vwl8, .ref vwl9, .ref vwl10, .int vwly])), (vwl2, .inl (cy 0, 70, .inl vwlf2)), (vwl3, .inl (cy 0, 49, .inl vwlf3)), (vwl4, .inl (cy 0, 7, .inl vwlf4)), (vwl5, .inl (cy 0, 7, .inl vwlf5))] [.ref vw, .int vh]) (Ri (fun r => True)) 0 0 (fun _ => False) := by
  refine mr RX9 rfl (by decide +kernel) (Nat.le_of_ble_eq_true rfl) ?_
  intro p e s m below meth c hx hb hr hlocks av9 hav hts hown hml hK hP hS Q9 hQ9 ls hl
  have hl : lv_has ls 4 [(0, .ref vw), (1, .int vh)] := hl
  refine lv_iconst (v := 0) hx hb dX9_weightOfAll_0 (by decide) ?_
  refine lv_istore_n (lv' := [(2, .int 0), (0, .ref vw), (1, .int vh)]) hx hb dX9_weightOfAll_1 rfl hl (by decide) rfl (fun ls hl => ?_)
  refine lv_iconst (v := 0) hx hb dX9_weightOfAll_2 (by decide) ?_
  refine lv_istore_n (lv' := [(3, .int 0), (2, .int 0), (0, .ref vw), (1, .int vh)]) hx hb dX9_weightOfAll_3 rfl hl (by decide) rfl (fun ls hl => ?_)
  have loop1 : ∀ (n1 : Nat) (x_3 : Int32) (x_2 : Int32), (0 ≤ x_2.toInt ∧ x_2.toInt ≤ 7) → 7 - x_2.toInt < (n1 : Int) → ∀ (H : Heap) (locs : List Loc), va_P (dC, dI) vwCl [(vw, .inr (10, [.ref vwc, .ref vwl, .ref vws])), (vwc, .inr (2, [.ref vwc1, .ref vwc2, .ref vwc3, .ref vwc4, .ref vwc5, .int vwcm, .int vwcd, .int vwcr, .int vwcw])), (vwc3, .inl (cy 0, 10, .inl vwcf3)), (vwc4, .inl (cy 2, 10, .inl vwcf4)), (vwl, .inr (5, [.ref vwl1, .ref vwl2, .ref vwl3, .ref vwl4, .ref vwl5, .ref vwl6, .ref vwl7, .ref vwl8, .ref vwl9, .ref vwl10, .int vwly])), (vwl2, .inl (cy 0, 70, .inl vwlf2)), (vwl3, .inl (cy 0, 49, .inl vwlf3)), (vwl4, .inl (cy 0, 7, .inl vwlf4)), (vwl5, .inl (cy 0, 7, .inl vwlf5))] H → va_S (fun _ => False) s.heap H locs → ∀ ls : Array Slot, lv_has ls 4 [(3, .int x_2), (2, .int x_3), (0, .ref vw), (1, .int vh)] → W p l e ({ frames := 3, cells := 0, slots := 0, locals := 192 }) s m av9 below meth c H locs 0 0 Q9 (F0 m 4 ls []) := by
    intro n1
    induction n1 with
    | zero =>
      intro x_3 x_2 bx_2 hn1 H locs hP hS ls hl
      exfalso; omega
    | succ n1 ih1 =>
      intro x_3 x_2 bx_2 hn1 H locs hP hS ls hl
      refine lv_iload_n hx hb dX9_weightOfAll_4 rfl (lv_at hl 0 rfl) ?_
      refine lv_aload_n hx hb dX9_weightOfAll_5 rfl (lv_at hl 2 rfl) ?_
      refine gf_X9_12 hx hb hts hown hK hP 0 rfl rfl dX9_weightOfAll_6 ?_
      refine gf_X9_65 hx hb hts hown hK hP 1 rfl rfl dX9_weightOfAll_9 ?_
      refine lv_icmp_ge (tgt := 37) hx hb dX9_weightOfAll_12 (by decide) (fun c_4 => ?_) (fun c_4 => ?_)
      · skip
        have c_4 : vwcm.toInt ≤ x_2.toInt := i_le.mp c_4
        refine lv_iload_n hx hb dX9_weightOfAll_37 rfl (lv_at hl 1 rfl) ?_
        rw [hQ9]
        exact rr_i hx hb hr hlocks trivial hS dX9_weightOfAll_38
      · skip
        have c_4 : ¬ (vwcm.toInt ≤ x_2.toInt) := fun h9 => c_4 (i_le.mpr h9)
        refine lv_iload_n hx hb dX9_weightOfAll_15 rfl (lv_at hl 3 rfl) ?_
        refine lv_iload_n hx hb dX9_weightOfAll_16 rfl (lv_at hl 0 rfl) ?_
        refine lv_ishr hx hb dX9_weightOfAll_17 ?_
        refine lv_topi (fun z_5 ez_5 => ?_)
        refine lv_iconst (v := 1) hx hb dX9_weightOfAll_18 (by decide) ?_
        refine lv_iand hx hb dX9_weightOfAll_19 ?_
        refine lv_topi (fun z_6 ez_6 => ?_)
        have k_1 : (1 : Int32).toInt = 1 := by decide
        have bz_6 : 0 ≤ z_6.toInt ∧ z_6.toInt ≤ 1 := i_and1 ez_6
        have k_0 : (0 : Int32).toInt = 0 := by decide
        refine lv_if_eq (tgt := 31) hx hb dX9_weightOfAll_20 (by decide) (fun c_7 => ?_) (fun c_7 => ?_)
        · skip
          have c_7 : z_6.toInt = (0 : Int32).toInt := i_eq.mp c_7
          obtain ⟨z_8, ez_8⟩ : ∃ z : Int32, z = x_2 + 1 := ⟨_, rfl⟩
          have bz_8 : z_8.toInt = x_2.toInt + (1 : Int32).toInt := i_add ez_8 (by omega) (by omega)
          refine lv_iinc (v := z_8) (lv' := [(3, .int z_8), (2, .int x_3), (0, .ref vw), (1, .int vh)]) hx hb dX9_weightOfAll_31 hl (k := 0) rfl ez_8.symm (by decide) rfl (fun ls hl => ?_)
          refine lv_goto (tgt := 4) hx hb dX9_weightOfAll_34 (by decide) ?_
          exact ih1 x_3 z_8 ⟨by omega, by omega⟩ (by omega) _ _ (hP.sub [0, 1, 2, 3, 4, 5, 6, 7, 8] rfl) hS ls (lv_sub hl [0, 1, 2, 3] rfl)
        · skip
          have c_7 : ¬ (z_6.toInt = (0 : Int32).toInt) := fun h9 => c_7 (i_eq.mpr h9)
          refine lv_iload_n hx hb dX9_weightOfAll_23 rfl (lv_at hl 1 rfl) ?_
          refine lv_aload_n hx hb dX9_weightOfAll_24 rfl (lv_at hl 2 rfl) ?_
          refine lv_iload_n hx hb dX9_weightOfAll_25 rfl (lv_at hl 0 rfl) ?_
          refine jr_i (rVr (As := [.int x_2]) (rest := [.int x_3]) (ci := 10) ⟨hx, hb, hml, hown, hts⟩ (g_weightOf l dC dI cy vw vwc vwl vws vwc1 vwc2 vwc3 vwc4 vwc5 vwcm vwcd vwcr vwcw vwcf3 vwcf4 vwl1 vwl2 vwl3 vwl4 vwl5 vwl6 vwl7 vwl8 vwl9 vwl10 vwly vwlf2 vwlf3 vwlf4 vwlf5 x_2 r_vwcm r_vwcd ⟨by omega, by omega⟩ p_vwcf3 p_vwlf2 p_vwlf5) (cw_X9_74 hts rfl rfl ⟨Nat.le_of_ble_eq_true rfl, Nat.le_of_ble_eq_true rfl⟩) hP hK [0, 1, 2, 3, 4, 5, 6, 7, 8] rfl rfl rfl rfl hl.1 rfl (Nat.le_of_ble_eq_true rfl) dX9_weightOfAll_26 ⟨Nat.le_of_ble_eq_true rfl, Nat.le_of_ble_eq_true rfl⟩) hP hS (fun r_9 H locs hp_10 hP hS => ?_)
          refine lv_iadd hx hb dX9_weightOfAll_29 ?_
          refine lv_topi (fun z_11 ez_11 => ?_)
          refine lv_istore_n (lv' := [(2, .int z_11), (3, .int x_2), (0, .ref vw), (1, .int vh)]) hx hb dX9_weightOfAll_30 rfl hl (by decide) rfl (fun ls hl => ?_)
          obtain ⟨z_12, ez_12⟩ : ∃ z : Int32, z = x_2 + 1 := ⟨_, rfl⟩
          have bz_12 : z_12.toInt = x_2.toInt + (1 : Int32).toInt := i_add ez_12 (by omega) (by omega)
          refine lv_iinc (v := z_12) (lv' := [(3, .int z_12), (2, .int z_11), (0, .ref vw), (1, .int vh)]) hx hb dX9_weightOfAll_31 hl (k := 1) rfl ez_12.symm (by decide) rfl (fun ls hl => ?_)
          refine lv_goto (tgt := 4) hx hb dX9_weightOfAll_34 (by decide) ?_
          exact ih1 z_11 z_12 ⟨by omega, by omega⟩ (by omega) _ _ (hP.sub [0, 1, 2, 3, 4, 5, 6, 7, 8] rfl) hS ls (lv_sub hl [0, 1, 2, 3] rfl)
  have k_0 : (0 : Int32).toInt = 0 := by decide
  exact loop1 ((7 - (0 : Int32).toInt).toNat + 1) 0 0 ⟨by omega, by omega⟩ (by omega) _ _ hP hS ls (lv_sub hl [0, 1, 2, 3] rfl)
