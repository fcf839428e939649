set_option maxHeartbeats 4000000 in
set_option maxRecDepth 100000 in
theorem t_familyOf (l : Launch) (dC : Nat → ClassId) (dI : Nat → Nat → Nat) (cy : Nat → ClassId) (vc : Nat) (vc1 : Nat) (vc2 : Nat) (vc3 : Nat) (vc4 : Nat) (vc5 : Nat) (vcm : Int32) (vcd : Int32) (vcr : Int32) (vcw : Int32) (vcf5 : Nat → Int32) (vm : Int32) (r_vcm : 0 ≤ (vcm : Int32).toInt ∧ (vcm : Int32).toInt ≤ 7) (r_vcd : 0 ≤ (vcd : Int32).toInt ∧ (vcd : Int32).toInt ≤ 10) : Met l yX1_familyOf (wl yX1_familyOf cX1_familyOf 5 (some .int)) ({ frames := 0, cells := 0, slots := 0, locals := 0 }) (Pr (dC, dI) vwCl cy [(vc, .inr (2, [.ref vc1, .ref vc2, .ref vc3, .ref vc4, .ref vc5, .int vcm, .int vcd, .int vcr, .int vcw])), (vc5, .inl (cy 0, 7, .inl vcf5))] [.ref vc, .int vm]) (Ri (fun r => ((r : Int32) = fa_R vcf5 ((vcm : Int32).toInt).toNat (tkBit (vm : Int32).toInt) ((vcm : Int32).toInt).toNat))) 0 0 (fun _ => False) := by
  refine mr RX1 rfl (by decide +kernel) (Nat.le_of_ble_eq_true rfl) ?_
  intro p e s m below meth c hx hb hr hlocks av9 hav hts hown hml hK hP hS Q9 hQ9 ls hl
  have hl : lv_has ls 5 [(0, .ref vc), (1, .int vm)] := hl
  refine lv_iconst (v := 1) hx hb dX1_familyOf_0 (by decide) ?_
  refine lv_iload_n hx hb dX1_familyOf_1 rfl (lv_at hl 1 rfl) ?_
  refine lv_ishl hx hb dX1_familyOf_2 ?_
  refine lv_topi (fun z_1 ez_1 => ?_)
  refine lv_istore_n (lv' := [(2, .int z_1), (0, .ref vc), (1, .int vm)]) hx hb dX1_familyOf_3 rfl hl (by decide) rfl (fun ls hl => ?_)
  refine lv_iconst (v := 0) hx hb dX1_familyOf_4 (by decide) ?_
  refine lv_istore_n (lv' := [(3, .int 0), (2, .int z_1), (0, .ref vc), (1, .int vm)]) hx hb dX1_familyOf_5 rfl hl (by decide) rfl (fun ls hl => ?_)
  have loop2 : ∀ (n2 : Nat) (x_3 : Int32) (x_4 : Int32), (0 ≤ x_4.toInt ∧ x_4.toInt ≤ 7) → (x_3 = fa_R vcf5 vcm.toInt.toNat (tkBit vm.toInt) (x_4.toInt).toNat) → (x_4.toInt ≤ vcm.toInt) → 7 - x_4.toInt < (n2 : Int) → ∀ (H : Heap) (locs : List Loc), va_P (dC, dI) vwCl [(vc, .inr (2, [.ref vc1, .ref vc2, .ref vc3, .ref vc4, .ref vc5, .int vcm, .int vcd, .int vcr, .int vcw])), (vc5, .inl (cy 0, 7, .inl vcf5))] H → va_S (fun _ => False) s.heap H locs → ∀ ls : Array Slot, lv_has ls 5 [(0, .ref vc), (1, .int vm), (2, .int x_3), (3, .int x_4)] → W p l e ({ frames := 0, cells := 0, slots := 0, locals := 0 }) s m av9 below meth c H locs 0 0 Q9 (F0 m 6 ls []) := by
    intro n2
    induction n2 with
    | zero =>
      intro x_3 x_4 bx_4 v2_0 v2_1 hn2 H locs hP hS ls hl
      exfalso; omega
    | succ n2 ih2 =>
      intro x_3 x_4 bx_4 v2_0 v2_1 hn2 H locs hP hS ls hl
      refine lv_iload_n hx hb dX1_familyOf_6 rfl (lv_at hl 3 rfl) ?_
      refine lv_aload_n hx hb dX1_familyOf_7 rfl (lv_at hl 0 rfl) ?_
      refine gf_X1_36 hx hb hts hown hK hP 0 rfl rfl dX1_familyOf_8 ?_
      refine lv_icmp_ge (tgt := 57) hx hb dX1_familyOf_11 (by decide) (fun c_5 => ?_) (fun c_5 => ?_)
      · skip
        have c_5 : vcm.toInt ≤ x_4.toInt := i_le.mp c_5
        refine lv_iload_n hx hb dX1_familyOf_57 rfl (lv_at hl 2 rfl) ?_
        rw [hQ9]
        exact rr_i hx hb hr hlocks (show (x_3 : Int32) = fa_R vcf5 ((vcm : Int32).toInt).toNat (tkBit (vm : Int32).toInt) ((vcm : Int32).toInt).toNat from (by have h9 := v2_0; rw [show x_4.toInt = vcm.toInt by omega] at h9; exact h9)) hS dX1_familyOf_58
      · skip
        have c_5 : ¬ (vcm.toInt ≤ x_4.toInt) := fun h9 => c_5 (i_le.mpr h9)
        refine lv_iconst (v := 0) hx hb dX1_familyOf_14 (by decide) ?_
        refine lv_istore (lv' := [(4, .int 0), (0, .ref vc), (1, .int vm), (2, .int x_3), (3, .int x_4)]) hx hb dX1_familyOf_15 hl (by decide) rfl (fun ls hl => ?_)
        have loop6 : ∀ (n6 : Nat) (x_8 : Int32) (x_7 : Int32), (0 ≤ x_7.toInt ∧ x_7.toInt ≤ 7) → (x_8 = fa_P vcf5 (fa_R vcf5 vcm.toInt.toNat (tkBit vm.toInt) (x_4.toInt).toNat) (x_7.toInt).toNat) → (x_7.toInt ≤ vcm.toInt) → 7 - x_7.toInt < (n6 : Int) → ∀ (H : Heap) (locs : List Loc), va_P (dC, dI) vwCl [(vc, .inr (2, [.ref vc1, .ref vc2, .ref vc3, .ref vc4, .ref vc5, .int vcm, .int vcd, .int vcr, .int vcw])), (vc5, .inl (cy 0, 7, .inl vcf5))] H → va_S (fun _ => False) s.heap H locs → ∀ ls : Array Slot, lv_has ls 5 [(4, .int x_7), (0, .ref vc), (1, .int vm), (2, .int x_8), (3, .int x_4)] → W p l e ({ frames := 0, cells := 0, slots := 0, locals := 0 }) s m av9 below meth c H locs 0 0 Q9 (F0 m 17 ls []) := by
          intro n6
          induction n6 with
          | zero =>
            intro x_8 x_7 bx_7 v6_0 v6_1 hn6 H locs hP hS ls hl
            exfalso; omega
          | succ n6 ih6 =>
            intro x_8 x_7 bx_7 v6_0 v6_1 hn6 H locs hP hS ls hl
            refine lv_iload hx hb dX1_familyOf_17 (lv_at hl 0 rfl) ?_
            refine lv_aload_n hx hb dX1_familyOf_19 rfl (lv_at hl 1 rfl) ?_
            refine gf_X1_36 hx hb hts hown hK hP 0 rfl rfl dX1_familyOf_20 ?_
            refine lv_icmp_ge (tgt := 51) hx hb dX1_familyOf_23 (by decide) (fun c_9 => ?_) (fun c_9 => ?_)
            · skip
              have c_9 : vcm.toInt ≤ x_7.toInt := i_le.mp c_9
              obtain ⟨z_10, ez_10⟩ : ∃ z : Int32, z = x_4 + 1 := ⟨_, rfl⟩
              have k_1 : (1 : Int32).toInt = 1 := by decide
              have bz_10 : z_10.toInt = x_4.toInt + (1 : Int32).toInt := i_add ez_10 (by omega) (by omega)
              refine lv_iinc (v := z_10) (lv' := [(3, .int z_10), (4, .int x_7), (0, .ref vc), (1, .int vm), (2, .int x_8)]) hx hb dX1_familyOf_51 hl (k := 4) rfl ez_10.symm (by decide) rfl (fun ls hl => ?_)
              refine lv_goto (tgt := 6) hx hb dX1_familyOf_54 (by decide) ?_
              exact ih2 x_8 z_10 ⟨by omega, by omega⟩ (fa_R_s v6_0 (by omega) (by omega) (by omega)) (by omega) (by omega) _ _ (hP.sub [0, 1] rfl) hS ls (lv_sub hl [2, 3, 4, 0] rfl)
            · skip
              have c_9 : ¬ (vcm.toInt ≤ x_7.toInt) := fun h9 => c_9 (i_le.mpr h9)
              refine lv_iload_n hx hb dX1_familyOf_26 rfl (lv_at hl 3 rfl) ?_
              refine lv_iload hx hb dX1_familyOf_27 (lv_at hl 0 rfl) ?_
              refine lv_ishr hx hb dX1_familyOf_29 ?_
              refine lv_topi (fun z_11 ez_11 => ?_)
              refine lv_iconst (v := 1) hx hb dX1_familyOf_30 (by decide) ?_
              refine lv_iand hx hb dX1_familyOf_31 ?_
              refine lv_topi (fun z_12 ez_12 => ?_)
              have k_1 : (1 : Int32).toInt = 1 := by decide
              have bz_12 : 0 ≤ z_12.toInt ∧ z_12.toInt ≤ 1 := i_and1 ez_12
              have hk9 : z_12.toInt = tkHas x_8 x_7.toInt := by rw [ez_12, ez_11]; unfold tkHas; rw [Int32.ofInt_toInt]
              have k_0 : (0 : Int32).toInt = 0 := by decide
              refine lv_if_eq (tgt := 45) hx hb dX1_familyOf_32 (by decide) (fun c_13 => ?_) (fun c_13 => ?_)
              · skip
                have c_13 : z_12.toInt = (0 : Int32).toInt := i_eq.mp c_13
                obtain ⟨z_14, ez_14⟩ : ∃ z : Int32, z = x_7 + 1 := ⟨_, rfl⟩
                have bz_14 : z_14.toInt = x_7.toInt + (1 : Int32).toInt := i_add ez_14 (by omega) (by omega)
                refine lv_iinc (v := z_14) (lv' := [(4, .int z_14), (0, .ref vc), (1, .int vm), (2, .int x_8), (3, .int x_4)]) hx hb dX1_familyOf_45 hl (k := 0) rfl ez_14.symm (by decide) rfl (fun ls hl => ?_)
                refine lv_goto (tgt := 17) hx hb dX1_familyOf_48 (by decide) ?_
                exact ih6 x_8 z_14 ⟨by omega, by omega⟩ (fa_P_no v6_0 (by omega) (by omega) (by omega)) (by omega) (by omega) _ _ (hP.sub [0, 1] rfl) hS ls (lv_sub hl [0, 1, 2, 3, 4] rfl)
              · skip
                have c_13 : ¬ (z_12.toInt = (0 : Int32).toInt) := fun h9 => c_13 (i_eq.mpr h9)
                refine lv_iload_n hx hb dX1_familyOf_35 rfl (lv_at hl 3 rfl) ?_
                refine lv_aload_n hx hb dX1_familyOf_36 rfl (lv_at hl 1 rfl) ?_
                refine gf_X1_26 hx hb hts hown hK hP 0 rfl rfl dX1_familyOf_37 ?_
                refine lv_iload hx hb dX1_familyOf_40 (lv_at hl 0 rfl) ?_
                have hin_15 : vp_in x_7 7 := vp_in_iff.mpr ⟨by omega, by omega⟩
                refine va_iald hx hb hK hP 1 0 rfl rfl hin_15 dX1_familyOf_42 ?_
                refine lv_topi (fun z_16 ez_16 => ?_)
                refine lv_ior hx hb dX1_familyOf_43 ?_
                refine lv_topi (fun z_17 ez_17 => ?_)
                refine lv_istore_n (lv' := [(2, .int z_17), (4, .int x_7), (0, .ref vc), (1, .int vm), (3, .int x_4)]) hx hb dX1_familyOf_44 rfl hl (by decide) rfl (fun ls hl => ?_)
                obtain ⟨z_18, ez_18⟩ : ∃ z : Int32, z = x_7 + 1 := ⟨_, rfl⟩
                have bz_18 : z_18.toInt = x_7.toInt + (1 : Int32).toInt := i_add ez_18 (by omega) (by omega)
                refine lv_iinc (v := z_18) (lv' := [(4, .int z_18), (2, .int z_17), (0, .ref vc), (1, .int vm), (3, .int x_4)]) hx hb dX1_familyOf_45 hl (k := 1) rfl ez_18.symm (by decide) rfl (fun ls hl => ?_)
                refine lv_goto (tgt := 17) hx hb dX1_familyOf_48 (by decide) ?_
                exact ih6 z_17 z_18 ⟨by omega, by omega⟩ (fa_P_yes v6_0 (by omega) (by omega) ez_16 ez_17 (by omega)) (by omega) (by omega) _ _ (hP.sub [0, 1] rfl) hS ls (lv_sub hl [0, 2, 3, 1, 4] rfl)
        have k_0 : (0 : Int32).toInt = 0 := by decide
        exact loop6 ((7 - (0 : Int32).toInt).toNat + 1) x_3 0 ⟨by omega, by omega⟩ (fa_P_0 v2_0 (by omega)) (by omega) (by omega) _ _ hP hS ls (lv_sub hl [0, 1, 2, 3, 4] rfl)
  have k_0 : (0 : Int32).toInt = 0 := by decide
  exact loop2 ((7 - (0 : Int32).toInt).toNat + 1) z_1 0 ⟨by omega, by omega⟩ (fa_R_0 (fa_bit_of ez_1) (by omega)) (by omega) (by omega) _ _ hP hS ls (lv_sub hl [2, 3, 1, 0] rfl)
set_option maxHeartbeats 4000000 in
set_option maxRecDepth 100000 in
theorem t_family (l : Launch) (dC : Nat → ClassId) (dI : Nat → Nat → Nat) (cy : Nat → ClassId) (vo : Nat) (vt : Nat) (vx : Nat) (vb : Nat) (va : Nat) (ve : Nat) (vs : Nat) (vg : Nat) (vmr : Nat) (vkr : Nat) (vim : Nat) (vik : Nat) (vw : Nat) (vdw : Nat) (volf : Int32) (volh : Int32) (vomd : Int32) (vocd : Int32) (vwc : Nat) (vwl : Nat) (vws : Nat) (vwc1 : Nat) (vwc2 : Nat) (vwc3 : Nat) (vwc4 : Nat) (vwc5 : Nat) (vwcm : Int32) (vwcd : Int32) (vwcr : Int32) (vwcw : Int32) (vwcf5 : Nat → Int32) (vm : Int32) (r_vwcm : 0 ≤ (vwcm : Int32).toInt ∧ (vwcm : Int32).toInt ≤ 7) (r_vwcd : 0 ≤ (vwcd : Int32).toInt ∧ (vwcd : Int32).toInt ≤ 10) : Met l yX10_family (wl yX10_family cX10_family 2 (some .int)) ({ frames := 1, cells := 0, slots := 0, locals := 64 }) (Pr (dC, dI) vwCl cy [(vo, .inr (11, [.ref vt, .ref vx, .ref vb, .ref va, .ref ve, .ref vs, .ref vg, .ref vmr, .ref vkr, .ref vim, .ref vik, .ref vw, .ref vdw, .int volf, .int volh, .int vomd, .int vocd])), (vw, .inr (10, [.ref vwc, .ref vwl, .ref vws])), (vwc, .inr (2, [.ref vwc1, .ref vwc2, .ref vwc3, .ref vwc4, .ref vwc5, .int vwcm, .int vwcd, .int vwcr, .int vwcw])), (vwc5, .inl (cy 0, 7, .inl vwcf5))] [.ref vo, .int vm]) (Ri (fun r => ((((vm : Int32).toInt < 0 ∨ (vwcm : Int32).toInt ≤ (vm : Int32).toInt) ∧ (r : Int32) = -1) ∨ (0 ≤ (vm : Int32).toInt ∧ (vm : Int32).toInt < (vwcm : Int32).toInt ∧ (r : Int32) = fa_R vwcf5 ((vwcm : Int32).toInt).toNat (tkBit (vm : Int32).toInt) ((vwcm : Int32).toInt).toNat)))) 0 0 (fun _ => False) := by
  refine mr RX10 rfl (by decide +kernel) (Nat.le_of_ble_eq_true rfl) ?_
  intro p e s m below meth c hx hb hr hlocks av9 hav hts hown hml hK hP hS Q9 hQ9 ls hl
  have hl : lv_has ls 2 [(0, .ref vo), (1, .int vm)] := hl
  refine lv_aload_n hx hb dX10_family_0 rfl (lv_at hl 0 rfl) ?_
  refine lv_iload_n hx hb dX10_family_1 rfl (lv_at hl 1 rfl) ?_
  refine jr_i (rVr (As := [.int vm]) (rest := []) (ci := 11) ⟨hx, hb, hml, hown, hts⟩ (g_isMan l dC dI cy vo vt vx vb va ve vs vg vmr vkr vim vik vw vdw volf volh vomd vocd vwc vwl vws vwc1 vwc2 vwc3 vwc4 vwc5 vwcm vwcd vwcr vwcw vm r_vwcm r_vwcd) (cw_X10_128 hts rfl rfl ⟨Nat.le_of_ble_eq_true rfl, Nat.le_of_ble_eq_true rfl⟩) hP hK [0, 1, 2] rfl rfl rfl rfl hl.1 rfl (Nat.le_of_ble_eq_true rfl) dX10_family_2 ⟨Nat.le_of_ble_eq_true rfl, Nat.le_of_ble_eq_true rfl⟩) hP hS (fun r_1 H locs hp_2 hP hS => ?_)
  have hp_2 : ((r_1 = 0 ∧ ((vm : Int32).toInt < 0 ∨ (vwcm : Int32).toInt ≤ (vm : Int32).toInt)) ∨ (r_1 = 1 ∧ 0 ≤ (vm : Int32).toInt ∧ (vm : Int32).toInt < (vwcm : Int32).toInt)) := hp_2
  have q_3 := hp_2
  rcases q_3 with ⟨aq_3, f0q_3⟩ | ⟨aq_3, f0q_3⟩
  · skip
    refine as_i 0 aq_3 ?_
    refine lv_if_eq (tgt := 22) hx hb dX10_family_5 (by decide) (fun _ => ?_) (fun c9 => absurd (by decide) c9)
    refine lv_iconst (v := (-1)) hx hb dX10_family_22 (by decide) ?_
    have k_m1 : ((-1) : Int32).toInt = (-1) := by decide
    rw [hQ9]
    exact rr_i hx hb hr hlocks (show (((vm : Int32).toInt < 0 ∨ (vwcm : Int32).toInt ≤ (vm : Int32).toInt) ∧ (((-1) : Int32) : Int32) = -1) ∨ (0 ≤ (vm : Int32).toInt ∧ (vm : Int32).toInt < (vwcm : Int32).toInt ∧ (((-1) : Int32) : Int32) = fa_R vwcf5 ((vwcm : Int32).toInt).toNat (tkBit (vm : Int32).toInt) ((vwcm : Int32).toInt).toNat) from (Or.inl ⟨by omega, rfl⟩)) hS dX10_family_23
  · skip
    refine as_i 1 aq_3 ?_
    refine lv_if_eq (tgt := 22) hx hb dX10_family_5 (by decide) (fun c9 => absurd c9 (by decide)) (fun _ => ?_)
    refine lv_aload_n hx hb dX10_family_8 rfl (lv_at hl 0 rfl) ?_
    refine gf_X10_76 hx hb hts hown hK hP 0 rfl rfl dX10_family_9 ?_
    refine gf_X10_94 hx hb hts hown hK hP 1 rfl rfl dX10_family_12 ?_
    refine lv_iload_n hx hb dX10_family_15 rfl (lv_at hl 1 rfl) ?_
    refine jr_i (rVr (As := [.int vm]) (rest := []) (ci := 2) ⟨hx, hb, hml, hown, hts⟩ (t_familyOf l dC dI cy vwc vwc1 vwc2 vwc3 vwc4 vwc5 vwcm vwcd vwcr vwcw vwcf5 vm r_vwcm r_vwcd) (cw_X10_260 hts rfl rfl ⟨Nat.le_of_ble_eq_true rfl, Nat.le_of_ble_eq_true rfl⟩) hP hK [2, 3] rfl rfl rfl rfl hl.1 rfl (Nat.le_of_ble_eq_true rfl) dX10_family_16 ⟨Nat.le_of_ble_eq_true rfl, Nat.le_of_ble_eq_true rfl⟩) hP hS (fun r_4 H locs hp_5 hP hS => ?_)
    have hp_5 : ((r_4 : Int32) = fa_R vwcf5 ((vwcm : Int32).toInt).toNat (tkBit (vm : Int32).toInt) ((vwcm : Int32).toInt).toNat) := hp_5
    have q_6 := hp_5
    refine lv_goto (tgt := 23) hx hb dX10_family_19 (by decide) ?_
    rw [hQ9]
    exact rr_i hx hb hr hlocks (show (((vm : Int32).toInt < 0 ∨ (vwcm : Int32).toInt ≤ (vm : Int32).toInt) ∧ (r_4 : Int32) = -1) ∨ (0 ≤ (vm : Int32).toInt ∧ (vm : Int32).toInt < (vwcm : Int32).toInt ∧ (r_4 : Int32) = fa_R vwcf5 ((vwcm : Int32).toInt).toNat (tkBit (vm : Int32).toInt) ((vwcm : Int32).toInt).toNat) from (Or.inr ⟨by omega, by omega, q_6⟩)) hS dX10_family_23
