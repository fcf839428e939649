abbrev O_t_addWays (cy : Nat → ClassId) (vs : Nat) (vs1 : Nat) (vs2 : Nat) (vs3 : Nat) (vsw : Nat → Int64) (vti : Int32) (vwe : Int32) (vsu : Int32) (u : (Nat → Int64)) : va_W := [(vs, .inr (8, [.ref vs1, .ref vs2, .ref vs3])), (vs3, .inl (cy 1, 256, .inr (.inl u)))]
set_option maxHeartbeats 4000000 in
set_option maxRecDepth 100000 in
theorem t_addWays (l : Launch) (dC : Nat → ClassId) (dI : Nat → Nat → Nat) (cy : Nat → ClassId) (sz : Nat) (vs : Nat) (vs1 : Nat) (vs2 : Nat) (vs3 : Nat) (vsw : Nat → Int64) (vti : Int32) (vwe : Int32) (vsu : Int32) (r_vti : 0 ≤ (vti : Int32).toInt ∧ (vti : Int32).toInt ≤ 9) (r_vwe : 1 ≤ (vwe : Int32).toInt ∧ (vwe : Int32).toInt ≤ 40) : Met l yX7_addWays (wl yX7_addWays cX7_addWays 6 none) ({ frames := 1, cells := 0, slots := 0, locals := 64 }) (Pw (dC, dI) vwCl cy [(vs, .inr (8, [.ref vs1, .ref vs2, .ref vs3])), (vs3, .inl (cy 1, 256, .inr (.inl vsw)))] sz [.ref vs, .int vti, .int vwe, .int vsu] nE) (Qv (dC, dI) vwCl (fun (u : (Nat → Int64)) => (∀ s9 : Nat, (s9 : Int) ≤ (vsu : Int32).toInt → s9 < 256 → u s9 = su_W ((vti : Int32).toInt.toNat + 1) (vwe : Int32).toInt.toNat vsw s9)) (O_t_addWays cy vs vs1 vs2 vs3 vsw vti vwe vsu) (va_A [(vs, .inr (8, [.ref vs1, .ref vs2, .ref vs3])), (vs3, .inl (cy 1, 256, .inr (.inl vsw)))] sz)) 0 0 (va_A [(vs, .inr (8, [.ref vs1, .ref vs2, .ref vs3])), (vs3, .inl (cy 1, 256, .inr (.inl vsw)))] sz) := by
  refine mw (Qc := Qv (dC, dI) vwCl (fun (u : (Nat → Int64)) => (∀ s9 : Nat, (s9 : Int) ≤ (vsu : Int32).toInt → s9 < 256 → u s9 = su_W ((vti : Int32).toInt.toNat + 1) (vwe : Int32).toInt.toNat vsw s9)) (O_t_addWays cy vs vs1 vs2 vs3 vsw vti vwe vsu)) RX7 rfl (by decide +kernel) (Nat.le_of_ble_eq_true rfl) ?_
  intro p e s m below meth c A hx hb hr hlocks av9 hav hts hown hnm hml hK hP hD hA hS hE hAe Q9 hQ9 ls hl
  have hl : lv_has ls 6 [(0, .ref vs), (1, .int vti), (2, .int vwe), (3, .int vsu)] := hl
  refine lv_iload_n hx hb dX7_addWays_0 rfl (lv_at hl 3 rfl) ?_
  refine lv_sipush (v := 255) hx hb dX7_addWays_1 (by decide) ?_
  refine va_mmin hx hb (by rw [hml, hl.1]) hown (hts _ t920) (hts _ t783) (hts _ t24) (hts _ t784) (Nat.le_of_ble_eq_true rfl) (Nat.le_of_ble_eq_true rfl) (Nat.zero_le _) (Nat.zero_le _) dX7_addWays_4 ?_
  refine lv_topi (fun z_1 ez_1 => ?_)
  have k_255 : (255 : Int32).toInt = 255 := by decide
  have bz_1 : z_1.toInt ≤ vsu.toInt ∧ z_1.toInt ≤ (255 : Int32).toInt ∧ (z_1.toInt = vsu.toInt ∨ z_1.toInt = (255 : Int32).toInt) := i_min ez_1
  refine lv_istore (lv' := [(4, .int z_1), (0, .ref vs), (1, .int vti), (2, .int vwe), (3, .int vsu)]) hx hb dX7_addWays_7 hl (by decide) rfl (fun ls hl => ?_)
  have loop2 : ∀ (n2 : Nat) (x_3 : Int32) (g_4 : Nat → Int64), (-2147483648 ≤ x_3.toInt ∧ x_3.toInt ≤ 255) → (suA (vti.toInt.toNat + 1) vwe.toInt.toNat vsw g_4 x_3.toInt z_1.toInt) → ((x_3.toInt + 1).toNat : Int) < (n2 : Int) → ∀ (H : Heap) (locs : List Loc), va_P (dC, dI) vwCl [(vs, .inr (8, [.ref vs1, .ref vs2, .ref vs3])), (vs3, .inl (cy 1, 256, .inr (.inl g_4)))] H → va_D A [(vs, .inr (8, [.ref vs1, .ref vs2, .ref vs3])), (vs3, .inl (cy 1, 256, .inr (.inl g_4)))] → va_S A s.heap H locs → ∀ ls : Array Slot, lv_has ls 6 [(4, .int x_3), (0, .ref vs), (1, .int vti), (2, .int vwe), (3, .int vsu)] → W p l e ({ frames := 1, cells := 0, slots := 0, locals := 64 }) s m av9 below meth c H locs 0 0 Q9 (F0 m 9 ls []) := by
    intro n2
    induction n2 with
    | zero =>
      intro x_3 g_4 bx_3 v2_0 hn2 H locs hP hD hS ls hl
      exfalso; omega
    | succ n2 ih2 =>
      intro x_3 g_4 bx_3 v2_0 hn2 H locs hP hD hS ls hl
      refine lv_iload hx hb dX7_addWays_9 (lv_at hl 0 rfl) ?_
      refine lv_iload_n hx hb dX7_addWays_11 rfl (lv_at hl 3 rfl) ?_
      refine lv_icmp_lt (tgt := 67) hx hb dX7_addWays_12 (by decide) (fun c_5 => ?_) (fun c_5 => ?_)
      · skip
        have c_5 : x_3.toInt < vwe.toInt := i_lt.mp c_5
        rw [hQ9]
        exact re_v g_4 hx hb hr hlocks (show ∀ s9 : Nat, (s9 : Int) ≤ (vsu : Int32).toInt → s9 < 256 → g_4 s9 = su_W ((vti : Int32).toInt.toNat + 1) (vwe : Int32).toInt.toNat vsw s9 from (fun s9 h1 h2 => suA_e v2_0 (by omega) (by omega) s9 (by omega))) (hP.sub [0, 1] rfl) (hD.sub [0, 1] rfl rfl) hS dX7_addWays_67
      · skip
        have c_5 : ¬ (x_3.toInt < vwe.toInt) := fun h9 => c_5 (i_lt.mpr h9)
        refine lv_iconst (v := 1) hx hb dX7_addWays_15 (by decide) ?_
        refine lv_istore (lv' := [(5, .int 1), (4, .int x_3), (0, .ref vs), (1, .int vti), (2, .int vwe), (3, .int vsu)]) hx hb dX7_addWays_16 hl (by decide) rfl (fun ls hl => ?_)
        have loop6 : ∀ (n6 : Nat) (x_7 : Int32) (g_8 : Nat → Int64), (1 ≤ x_7.toInt ∧ x_7.toInt ≤ 10) → (suB (vti.toInt.toNat + 1) vwe.toInt.toNat vsw g_8 x_3.toInt x_7.toInt z_1.toInt) → (x_7.toInt ≤ vti.toInt + 1) → 10 - x_7.toInt < (n6 : Int) → ∀ (H : Heap) (locs : List Loc), va_P (dC, dI) vwCl [(vs, .inr (8, [.ref vs1, .ref vs2, .ref vs3])), (vs3, .inl (cy 1, 256, .inr (.inl g_8)))] H → va_D A [(vs, .inr (8, [.ref vs1, .ref vs2, .ref vs3])), (vs3, .inl (cy 1, 256, .inr (.inl g_8)))] → va_S A s.heap H locs → ∀ ls : Array Slot, lv_has ls 6 [(5, .int x_7), (4, .int x_3), (0, .ref vs), (1, .int vti), (2, .int vwe), (3, .int vsu)] → W p l e ({ frames := 1, cells := 0, slots := 0, locals := 64 }) s m av9 below meth c H locs 0 0 Q9 (F0 m 18 ls []) := by
          intro n6
          induction n6 with
          | zero =>
            intro x_7 g_8 bx_7 v6_0 v6_1 hn6 H locs hP hD hS ls hl
            exfalso; omega
          | succ n6 ih6 =>
            intro x_7 g_8 bx_7 v6_0 v6_1 hn6 H locs hP hD hS ls hl
            refine lv_iload hx hb dX7_addWays_18 (lv_at hl 0 rfl) ?_
            refine lv_iload_n hx hb dX7_addWays_20 rfl (lv_at hl 3 rfl) ?_
            refine lv_icmp_gt (tgt := 61) hx hb dX7_addWays_21 (by decide) (fun c_9 => ?_) (fun c_9 => ?_)
            · skip
              have c_9 : vti.toInt < x_7.toInt := i_lt.mp c_9
              obtain ⟨z_10, ez_10⟩ : ∃ z : Int32, z = x_3 + (-1) := ⟨_, rfl⟩
              have k_m1 : ((-1) : Int32).toInt = (-1) := by decide
              have bz_10 : z_10.toInt = x_3.toInt + ((-1) : Int32).toInt := i_add ez_10 (by omega) (by omega)
              refine lv_iinc (v := z_10) (lv' := [(4, .int z_10), (5, .int x_7), (0, .ref vs), (1, .int vti), (2, .int vwe), (3, .int vsu)]) hx hb dX7_addWays_61 hl (k := 1) rfl ez_10.symm (by decide) rfl (fun ls hl => ?_)
              refine lv_goto (tgt := 9) hx hb dX7_addWays_64 (by decide) ?_
              exact ih2 z_10 g_8 ⟨by omega, by omega⟩ (suB_e v6_0 (by omega) (Or.inl (by omega)) (by omega)) (by omega) _ _ (hP.sub [0, 1] rfl) (hD.sub [0, 1] rfl rfl) hS ls (lv_sub hl [0, 2, 3, 4, 5] rfl)
            · skip
              have c_9 : ¬ (vti.toInt < x_7.toInt) := fun h9 => c_9 (i_lt.mpr h9)
              refine lv_iload hx hb dX7_addWays_24 (lv_at hl 0 rfl) ?_
              refine lv_iload_n hx hb dX7_addWays_26 rfl (lv_at hl 4 rfl) ?_
              refine lv_imul hx hb dX7_addWays_27 ?_
              refine lv_topi (fun z_11 ez_11 => ?_)
              have bz_11 : 0 ≤ z_11.toInt ∧ z_11.toInt ≤ 360 ∧ z_11.toInt = x_7.toInt * vwe.toInt := i_mulb (A := 9) (B := 40) ez_11 ⟨by omega, by omega⟩ ⟨by omega, by omega⟩ (by decide)
              refine lv_iload hx hb dX7_addWays_28 (lv_at hl 1 rfl) ?_
              refine lv_icmp_gt (tgt := 61) hx hb dX7_addWays_30 (by decide) (fun c_12 => ?_) (fun c_12 => ?_)
              · skip
                have c_12 : x_3.toInt < z_11.toInt := i_lt.mp c_12
                obtain ⟨z_13, ez_13⟩ : ∃ z : Int32, z = x_3 + (-1) := ⟨_, rfl⟩
                have k_m1 : ((-1) : Int32).toInt = (-1) := by decide
                have bz_13 : z_13.toInt = x_3.toInt + ((-1) : Int32).toInt := i_add ez_13 (by omega) (by omega)
                refine lv_iinc (v := z_13) (lv' := [(4, .int z_13), (5, .int x_7), (0, .ref vs), (1, .int vti), (2, .int vwe), (3, .int vsu)]) hx hb dX7_addWays_61 hl (k := 1) rfl ez_13.symm (by decide) rfl (fun ls hl => ?_)
                refine lv_goto (tgt := 9) hx hb dX7_addWays_64 (by decide) ?_
                exact ih2 z_13 g_8 ⟨by omega, by omega⟩ (suB_e v6_0 (by omega) (Or.inr ⟨by rw [su_cast bz_11.2.2 (by omega) (by omega)]; omega, by omega⟩) (by omega)) (by omega) _ _ (hP.sub [0, 1] rfl) (hD.sub [0, 1] rfl rfl) hS ls (lv_sub hl [0, 2, 3, 4, 5] rfl)
              · skip
                have c_12 : ¬ (x_3.toInt < z_11.toInt) := fun h9 => c_12 (i_lt.mpr h9)
                refine lv_aload_n hx hb dX7_addWays_33 rfl (lv_at hl 2 rfl) ?_
                refine gf_X7_18 hx hb hts hown hK hP 0 rfl rfl dX7_addWays_34 ?_
                refine lv_iload hx hb dX7_addWays_37 (lv_at hl 1 rfl) ?_
                refine lv_dup2_11 hx hb dX7_addWays_39 rfl rfl ?_
                have hin_14 : vp_in x_3 256 := vp_in_iff.mpr ⟨by omega, by omega⟩
                refine va_lald hx hb hK hP 1 1 rfl rfl hin_14 dX7_addWays_40 ?_
                refine lv_topl (fun y_15 ey_15 => ?_)
                refine lv_aload_n hx hb dX7_addWays_41 rfl (lv_at hl 2 rfl) ?_
                refine gf_X7_18 hx hb hts hown hK hP 0 rfl rfl dX7_addWays_42 ?_
                refine lv_iload hx hb dX7_addWays_45 (lv_at hl 1 rfl) ?_
                refine lv_iload hx hb dX7_addWays_47 (lv_at hl 0 rfl) ?_
                refine lv_iload_n hx hb dX7_addWays_49 rfl (lv_at hl 4 rfl) ?_
                refine lv_imul hx hb dX7_addWays_50 ?_
                refine lv_topi (fun z_16 ez_16 => ?_)
                have bz_16 : 0 ≤ z_16.toInt ∧ z_16.toInt ≤ 360 ∧ z_16.toInt = x_7.toInt * vwe.toInt := i_mulb (A := 9) (B := 40) ez_16 ⟨by omega, by omega⟩ ⟨by omega, by omega⟩ (by decide)
                refine lv_isub hx hb dX7_addWays_51 ?_
                refine lv_topi (fun z_17 ez_17 => ?_)
                have bz_17 : z_17.toInt = x_3.toInt - z_16.toInt := i_sub ez_17 (by omega) (by omega)
                have hin_18 : vp_in z_17 256 := vp_in_iff.mpr ⟨by omega, by omega⟩
                refine va_lald hx hb hK hP 1 1 rfl rfl hin_18 dX7_addWays_52 ?_
                refine lv_topl (fun y_19 ey_19 => ?_)
                refine lv_ladd hx hb dX7_addWays_53 ?_
                refine lv_topl (fun y_20 ey_20 => ?_)
                have hin_21 : vp_in x_3 256 := vp_in_iff.mpr ⟨by omega, by omega⟩
                refine va_last hx hb hK hP hD hS 1 1 rfl rfl hin_21 dX7_addWays_54 (fun H locs hP hD hS => ?_)
                obtain ⟨f_22, ef_22⟩ : ∃ z : Nat → Int64, z = vp_updL g_8 (Int32.toNatClampNeg x_3) y_20 := ⟨_, rfl⟩
                have hP : va_P (dC, dI) vwCl [(vs, .inr (8, [.ref vs1, .ref vs2, .ref vs3])), (vs3, .inl (cy 1, 256, .inr (.inl f_22)))] H := by rw [ef_22]; exact hP
                have hD : va_D A [(vs, .inr (8, [.ref vs1, .ref vs2, .ref vs3])), (vs3, .inl (cy 1, 256, .inr (.inl f_22)))] := by rw [ef_22]; exact hD
                obtain ⟨z_23, ez_23⟩ : ∃ z : Int32, z = x_7 + 1 := ⟨_, rfl⟩
                have k_1 : (1 : Int32).toInt = 1 := by decide
                have bz_23 : z_23.toInt = x_7.toInt + (1 : Int32).toInt := i_add ez_23 (by omega) (by omega)
                refine lv_iinc (v := z_23) (lv' := [(5, .int z_23), (4, .int x_3), (0, .ref vs), (1, .int vti), (2, .int vwe), (3, .int vsu)]) hx hb dX7_addWays_55 hl (k := 0) rfl ez_23.symm (by decide) rfl (fun ls hl => ?_)
                refine lv_goto (tgt := 18) hx hb dX7_addWays_58 (by decide) ?_
                exact ih6 z_23 f_22 ⟨by omega, by omega⟩ (suB_s (z := z_16) (i := z_17) v6_0 (by omega) (by omega) (by omega) bz_16.2.2 (by omega) (by omega) ey_15 ey_19 ey_20 ef_22 (by omega)) (by omega) (by omega) _ _ (hP.sub [0, 1] rfl) (hD.sub [0, 1] rfl rfl) hS ls (lv_sub hl [0, 1, 2, 3, 4, 5] rfl)
        have k_1 : (1 : Int32).toInt = 1 := by decide
        exact loop6 ((10 - (1 : Int32).toInt).toNat + 1) 1 g_4 ⟨by omega, by omega⟩ (suB_0 v2_0 (by omega) (by omega)) (by omega) (by omega) _ _ hP hD hS ls (lv_sub hl [0, 1, 2, 3, 4, 5] rfl)
  have wh_24 := i_rng z_1
  exact loop2 ((((z_1.toInt + 1).toNat : Int)).toNat + 1) z_1 vsw ⟨by omega, by omega⟩ (suA_0 (by omega)) (by omega) _ _ hP hD hS ls (lv_sub hl [0, 1, 2, 3, 4] rfl)
abbrev O_t_countWays (cy : Nat → ClassId) (vs : Nat) (vs1 : Nat) (vs2 : Nat) (vs3 : Nat) (vsm : Nat → Int32) (vsw : Nat → Int64) (vc : Nat) (vc1 : Nat) (vc2 : Nat) (vc3 : Nat) (vc4 : Nat) (vc5 : Nat) (vcm : Int32) (vcd : Int32) (vcr : Int32) (vcw : Int32) (vcf3 : Nat → Int32) (vsu : Int32) (u : (Nat → Int64)) : va_W := [(vs, .inr (8, [.ref vs1, .ref vs2, .ref vs3])), (vs1, .inl (cy 0, 10, .inl vsm)), (vs3, .inl (cy 1, 256, .inr (.inl u))), (vc, .inr (2, [.ref vc1, .ref vc2, .ref vc3, .ref vc4, .ref vc5, .int vcm, .int vcd, .int vcr, .int vcw])), (vc3, .inl (cy 0, 10, .inl vcf3))]
set_option maxHeartbeats 4000000 in
set_option maxRecDepth 100000 in
theorem t_countWays (l : Launch) (dC : Nat → ClassId) (dI : Nat → Nat → Nat) (cy : Nat → ClassId) (sz : Nat) (vs : Nat) (vs1 : Nat) (vs2 : Nat) (vs3 : Nat) (vsm : Nat → Int32) (vsw : Nat → Int64) (vc : Nat) (vc1 : Nat) (vc2 : Nat) (vc3 : Nat) (vc4 : Nat) (vc5 : Nat) (vcm : Int32) (vcd : Int32) (vcr : Int32) (vcw : Int32) (vcf3 : Nat → Int32) (vsu : Int32) (r_vcm : 0 ≤ (vcm : Int32).toInt ∧ (vcm : Int32).toInt ≤ 7) (r_vcd : 0 ≤ (vcd : Int32).toInt ∧ (vcd : Int32).toInt ≤ 10) (p_vsm : Rg vsm 10 0 9) (p_vcf3 : Rg vcf3 10 0 40) (hw1 : ∀ j : Nat, (j : Int) < (vcd : Int32).toInt → 1 ≤ (vcf3 j).toInt) : Met l yX7_countWays (wl yX7_countWays cX7_countWays 4 (some .long)) ({ frames := 2, cells := 0, slots := 0, locals := 128 }) (Pw (dC, dI) vwCl cy [(vs, .inr (8, [.ref vs1, .ref vs2, .ref vs3])), (vs1, .inl (cy 0, 10, .inl vsm)), (vs3, .inl (cy 1, 256, .inr (.inl vsw))), (vc, .inr (2, [.ref vc1, .ref vc2, .ref vc3, .ref vc4, .ref vc5, .int vcm, .int vcd, .int vcr, .int vcw])), (vc3, .inl (cy 0, 10, .inl vcf3))] sz [.ref vs, .ref vc, .int vsu] nE) (Ql (dC, dI) vwCl (fun (r : Int64) (u : (Nat → Int64)) => ((((vsu : Int32).toInt < 0 ∨ 256 ≤ (vsu : Int32).toInt) ∧ (r : Int64) = 0) ∨ (0 ≤ (vsu : Int32).toInt ∧ (vsu : Int32).toInt < 256 ∧ (r : Int64) = su_C (fun d9 => (vsm d9).toInt.toNat + 1) (suWt vcf3) (vcd : Int32).toInt.toNat (vsu : Int32).toInt.toNat))) (O_t_countWays cy vs vs1 vs2 vs3 vsm vsw vc vc1 vc2 vc3 vc4 vc5 vcm vcd vcr vcw vcf3 vsu) (va_A [(vs, .inr (8, [.ref vs1, .ref vs2, .ref vs3])), (vs1, .inl (cy 0, 10, .inl vsm)), (vs3, .inl (cy 1, 256, .inr (.inl vsw))), (vc, .inr (2, [.ref vc1, .ref vc2, .ref vc3, .ref vc4, .ref vc5, .int vcm, .int vcd, .int vcr, .int vcw])), (vc3, .inl (cy 0, 10, .inl vcf3))] sz)) 0 0 (va_A [(vs, .inr (8, [.ref vs1, .ref vs2, .ref vs3])), (vs1, .inl (cy 0, 10, .inl vsm)), (vs3, .inl (cy 1, 256, .inr (.inl vsw))), (vc, .inr (2, [.ref vc1, .ref vc2, .ref vc3, .ref vc4, .ref vc5, .int vcm, .int vcd, .int vcr, .int vcw])), (vc3, .inl (cy 0, 10, .inl vcf3))] sz) := by
  refine mw (Qc := Ql (dC, dI) vwCl (fun (r : Int64) (u : (Nat → Int64)) => ((((vsu : Int32).toInt < 0 ∨ 256 ≤ (vsu : Int32).toInt) ∧ (r : Int64) = 0) ∨ (0 ≤ (vsu : Int32).toInt ∧ (vsu : Int32).toInt < 256 ∧ (r : Int64) = su_C (fun d9 => (vsm d9).toInt.toNat + 1) (suWt vcf3) (vcd : Int32).toInt.toNat (vsu : Int32).toInt.toNat))) (O_t_countWays cy vs vs1 vs2 vs3 vsm vsw vc vc1 vc2 vc3 vc4 vc5 vcm vcd vcr vcw vcf3 vsu)) RX7 rfl (by decide +kernel) (Nat.le_of_ble_eq_true rfl) ?_
  intro p e s m below meth c A hx hb hr hlocks av9 hav hts hown hnm hml hK hP hD hA hS hE hAe Q9 hQ9 ls hl
  have hl : lv_has ls 4 [(0, .ref vs), (1, .ref vc), (2, .int vsu)] := hl
  refine lv_iconst (v := 0) hx hb dX7_countWays_0 (by decide) ?_
  refine lv_istore_n (lv' := [(3, .int 0), (0, .ref vs), (1, .ref vc), (2, .int vsu)]) hx hb dX7_countWays_1 rfl hl (by decide) rfl (fun ls hl => ?_)
  have loop1 : ∀ (n1 : Nat) (x_2 : Int32) (g_3 : Nat → Int64), (0 ≤ x_2.toInt ∧ x_2.toInt ≤ 256) → (∀ j : Nat, (j : Int) < x_2.toInt → g_3 j = su_0 j) → 256 - x_2.toInt < (n1 : Int) → ∀ (H : Heap) (locs : List Loc), va_P (dC, dI) vwCl [(vs, .inr (8, [.ref vs1, .ref vs2, .ref vs3])), (vs1, .inl (cy 0, 10, .inl vsm)), (vs3, .inl (cy 1, 256, .inr (.inl g_3))), (vc, .inr (2, [.ref vc1, .ref vc2, .ref vc3, .ref vc4, .ref vc5, .int vcm, .int vcd, .int vcr, .int vcw])), (vc3, .inl (cy 0, 10, .inl vcf3))] H → va_D A [(vs, .inr (8, [.ref vs1, .ref vs2, .ref vs3])), (vs1, .inl (cy 0, 10, .inl vsm)), (vs3, .inl (cy 1, 256, .inr (.inl g_3))), (vc, .inr (2, [.ref vc1, .ref vc2, .ref vc3, .ref vc4, .ref vc5, .int vcm, .int vcd, .int vcr, .int vcw])), (vc3, .inl (cy 0, 10, .inl vcf3))] → va_S A s.heap H locs → ∀ ls : Array Slot, lv_has ls 4 [(3, .int x_2), (0, .ref vs), (1, .ref vc), (2, .int vsu)] → W p l e ({ frames := 2, cells := 0, slots := 0, locals := 128 }) s m av9 below meth c H locs 0 0 Q9 (F0 m 2 ls []) := by
    intro n1
    induction n1 with
    | zero =>
      intro x_2 g_3 bx_2 v1_0 hn1 H locs hP hD hS ls hl
      exfalso; omega
    | succ n1 ih1 =>
      intro x_2 g_3 bx_2 v1_0 hn1 H locs hP hD hS ls hl
      refine lv_iload_n hx hb dX7_countWays_2 rfl (lv_at hl 0 rfl) ?_
      refine lv_iload_n hx hb dX7_countWays_3 rfl (lv_at hl 3 rfl) ?_
      refine lv_icmp_gt (tgt := 35) hx hb dX7_countWays_4 (by decide) (fun c_4 => ?_) (fun c_4 => ?_)
      · skip
        have c_4 : vsu.toInt < x_2.toInt := i_lt.mp c_4
        refine lv_iconst (v := 0) hx hb dX7_countWays_35 (by decide) ?_
        refine lv_istore_n (lv' := [(3, .int 0), (0, .ref vs), (1, .ref vc), (2, .int vsu)]) hx hb dX7_countWays_36 rfl hl (by decide) rfl (fun ls hl => ?_)
        have loop5 : ∀ (n5 : Nat) (x_6 : Int32) (g_7 : Nat → Int64), (0 ≤ x_6.toInt ∧ x_6.toInt ≤ 10) → (∀ j : Nat, (j : Int) ≤ vsu.toInt → j < 256 → g_7 j = su_C (fun d9 => (vsm d9).toInt.toNat + 1) (suWt vcf3) (x_6.toInt).toNat j) → (x_6.toInt ≤ vcd.toInt) → 10 - x_6.toInt < (n5 : Int) → ∀ (H : Heap) (locs : List Loc), va_P (dC, dI) vwCl [(vs, .inr (8, [.ref vs1, .ref vs2, .ref vs3])), (vs1, .inl (cy 0, 10, .inl vsm)), (vs3, .inl (cy 1, 256, .inr (.inl g_7))), (vc, .inr (2, [.ref vc1, .ref vc2, .ref vc3, .ref vc4, .ref vc5, .int vcm, .int vcd, .int vcr, .int vcw])), (vc3, .inl (cy 0, 10, .inl vcf3))] H → va_D A [(vs, .inr (8, [.ref vs1, .ref vs2, .ref vs3])), (vs1, .inl (cy 0, 10, .inl vsm)), (vs3, .inl (cy 1, 256, .inr (.inl g_7))), (vc, .inr (2, [.ref vc1, .ref vc2, .ref vc3, .ref vc4, .ref vc5, .int vcm, .int vcd, .int vcr, .int vcw])), (vc3, .inl (cy 0, 10, .inl vcf3))] → va_S A s.heap H locs → ∀ ls : Array Slot, lv_has ls 4 [(3, .int x_6), (0, .ref vs), (1, .ref vc), (2, .int vsu)] → W p l e ({ frames := 2, cells := 0, slots := 0, locals := 128 }) s m av9 below meth c H locs 0 0 Q9 (F0 m 37 ls []) := by
          intro n5
          induction n5 with
          | zero =>
            intro x_6 g_7 bx_6 v5_0 v5_1 hn5 H locs hP hD hS ls hl
            exfalso; omega
          | succ n5 ih5 =>
            intro x_6 g_7 bx_6 v5_0 v5_1 hn5 H locs hP hD hS ls hl
            refine lv_iload_n hx hb dX7_countWays_37 rfl (lv_at hl 0 rfl) ?_
            refine lv_aload_n hx hb dX7_countWays_38 rfl (lv_at hl 2 rfl) ?_
            refine gf_X7_22 hx hb hts hown hK hP 3 rfl rfl dX7_countWays_39 ?_
            refine lv_icmp_ge (tgt := 68) hx hb dX7_countWays_42 (by decide) (fun c_8 => ?_) (fun c_8 => ?_)
            · skip
              have c_8 : vcd.toInt ≤ x_6.toInt := i_le.mp c_8
              refine lv_iload_n hx hb dX7_countWays_68 rfl (lv_at hl 3 rfl) ?_
              have k_0 : (0 : Int32).toInt = 0 := by decide
              refine lv_if_lt (tgt := 88) hx hb dX7_countWays_69 (by decide) (fun c_9 => ?_) (fun c_9 => ?_)
              · skip
                have c_9 : vsu.toInt < (0 : Int32).toInt := i_lt.mp c_9
                refine lv_lconst (v := 0) hx hb dX7_countWays_88 (by decide) ?_
                rw [hQ9]
                exact re_l g_7 hx hb hr hlocks (show (((vsu : Int32).toInt < 0 ∨ 256 ≤ (vsu : Int32).toInt) ∧ ((0 : Int64) : Int64) = 0) ∨ (0 ≤ (vsu : Int32).toInt ∧ (vsu : Int32).toInt < 256 ∧ ((0 : Int64) : Int64) = su_C (fun d9 => (vsm d9).toInt.toNat + 1) (suWt vcf3) (vcd : Int32).toInt.toNat (vsu : Int32).toInt.toNat) from (Or.inl ⟨by omega, rfl⟩)) (hP.sub [0, 1, 2, 3, 4] rfl) (hD.sub [0, 1, 2, 3, 4] rfl rfl) hS dX7_countWays_89
              · skip
                have c_9 : ¬ (vsu.toInt < (0 : Int32).toInt) := fun h9 => c_9 (i_lt.mpr h9)
                refine lv_iload_n hx hb dX7_countWays_72 rfl (lv_at hl 3 rfl) ?_
                refine lv_sipush (v := 256) hx hb dX7_countWays_73 (by decide) ?_
                have k_256 : (256 : Int32).toInt = 256 := by decide
                refine lv_icmp_ge (tgt := 88) hx hb dX7_countWays_76 (by decide) (fun c9 => absurd (i_le.mp c9) (by omega)) (fun _ => ?_)
                refine lv_aload_n hx hb dX7_countWays_79 rfl (lv_at hl 1 rfl) ?_
                refine gf_X7_18 hx hb hts hown hK hP 0 rfl rfl dX7_countWays_80 ?_
                refine lv_iload_n hx hb dX7_countWays_83 rfl (lv_at hl 3 rfl) ?_
                have hin_10 : vp_in vsu 256 := vp_in_iff.mpr ⟨by omega, by omega⟩
                refine va_lald hx hb hK hP 2 1 rfl rfl hin_10 dX7_countWays_84 ?_
                refine lv_topl (fun y_11 ey_11 => ?_)
                refine lv_goto (tgt := 89) hx hb dX7_countWays_85 (by decide) ?_
                rw [hQ9]
                exact re_l g_7 hx hb hr hlocks (show (((vsu : Int32).toInt < 0 ∨ 256 ≤ (vsu : Int32).toInt) ∧ (y_11 : Int64) = 0) ∨ (0 ≤ (vsu : Int32).toInt ∧ (vsu : Int32).toInt < 256 ∧ (y_11 : Int64) = su_C (fun d9 => (vsm d9).toInt.toNat + 1) (suWt vcf3) (vcd : Int32).toInt.toNat (vsu : Int32).toInt.toNat) from (Or.inr ⟨by omega, by omega, by rw [ey_11]; have h9 := v5_0 (Int32.toNatClampNeg vsu) (by have := cl_nn (x := vsu) (by omega); omega) (by have := cl_nn (x := vsu) (by omega); omega); rw [show x_6.toInt.toNat = vcd.toInt.toNat by omega] at h9; exact h9⟩)) (hP.sub [0, 1, 2, 3, 4] rfl) (hD.sub [0, 1, 2, 3, 4] rfl rfl) hS dX7_countWays_89
            · skip
              have c_8 : ¬ (vcd.toInt ≤ x_6.toInt) := fun h9 => c_8 (i_le.mpr h9)
              refine lv_aload_n hx hb dX7_countWays_45 rfl (lv_at hl 1 rfl) ?_
              refine lv_aload_n hx hb dX7_countWays_46 rfl (lv_at hl 1 rfl) ?_
              refine gf_X7_9 hx hb hts hown hK hP 0 rfl rfl dX7_countWays_47 ?_
              refine lv_iload_n hx hb dX7_countWays_50 rfl (lv_at hl 0 rfl) ?_
              have hin_12 : vp_in x_6 10 := vp_in_iff.mpr ⟨by omega, by omega⟩
              refine va_iald hx hb hK hP 1 0 rfl rfl hin_12 dX7_countWays_51 ?_
              refine lv_topi (fun z_13 ez_13 => ?_)
              have bz_13 := p_vsm.at hin_12 ez_13
              refine lv_aload_n hx hb dX7_countWays_52 rfl (lv_at hl 2 rfl) ?_
              refine gf_X7_28 hx hb hts hown hK hP 3 rfl rfl dX7_countWays_53 ?_
              refine lv_iload_n hx hb dX7_countWays_56 rfl (lv_at hl 0 rfl) ?_
              have hin_14 : vp_in x_6 10 := vp_in_iff.mpr ⟨by omega, by omega⟩
              refine va_iald hx hb hK hP 4 0 rfl rfl hin_14 dX7_countWays_57 ?_
              refine lv_topi (fun z_15 ez_15 => ?_)
              have bz_15 := p_vcf3.at hin_14 ez_15
              have hwz_15 : 1 ≤ z_15.toInt := by have h9 := hw1 (Int32.toNatClampNeg x_6) (by have := cl_nn (x := x_6) (by omega); omega); rw [← ez_15] at h9; exact h9
              refine lv_iload_n hx hb dX7_countWays_58 rfl (lv_at hl 3 rfl) ?_
              refine jn_v (wr := [(vs1, .inl (cy 0, 10, .inl vsm)), (vc, .inr (2, [.ref vc1, .ref vc2, .ref vc3, .ref vc4, .ref vc5, .int vcm, .int vcd, .int vcr, .int vcw])), (vc3, .inl (cy 0, 10, .inl vcf3))]) (rV (As := [.int z_13, .int z_15, .int vsu]) (rest := []) (ci := 8) ⟨hx, hb, hml, hown, hts⟩ (t_addWays l dC dI cy _ vs vs1 vs2 vs3 g_7 z_13 z_15 vsu ⟨by omega, by omega⟩ ⟨by omega, by omega⟩) (cw_X7_31 hts rfl rfl ⟨Nat.le_of_ble_eq_true rfl, Nat.le_of_ble_eq_true rfl⟩) hP hD hK [0, 2] rfl rfl rfl rfl bl0 e0 rfl hl.1 rfl (Nat.le_of_ble_eq_true rfl) dX7_countWays_59 ⟨Nat.le_of_ble_eq_true rfl, Nat.le_of_ble_eq_true rfl⟩) hP hD hS hA [0, 2] [1, 3, 4] rfl rfl rfl (by decide) (fun u_18 H locs hp_17 hP hD hS => ?_)
              obtain ⟨vsw_19, rfl⟩ : ∃ z, z = u_18 := ⟨_, rfl⟩
              have hp_17 : (∀ s9 : Nat, (s9 : Int) ≤ (vsu : Int32).toInt → s9 < 256 → vsw_19 s9 = su_W ((z_13 : Int32).toInt.toNat + 1) (z_15 : Int32).toInt.toNat g_7 s9) := hp_17
              have q_20 := hp_17
              have hP : va_P (dC, dI) vwCl [(vs1, .inl (cy 0, 10, .inl vsm)), (vc, .inr (2, [.ref vc1, .ref vc2, .ref vc3, .ref vc4, .ref vc5, .int vcm, .int vcd, .int vcr, .int vcw])), (vc3, .inl (cy 0, 10, .inl vcf3)), (vs, .inr (8, [.ref vs1, .ref vs2, .ref vs3])), (vs3, .inl (cy 1, 256, .inr (.inl vsw_19)))] H := hP
              have hD : va_D A [(vs1, .inl (cy 0, 10, .inl vsm)), (vc, .inr (2, [.ref vc1, .ref vc2, .ref vc3, .ref vc4, .ref vc5, .int vcm, .int vcd, .int vcr, .int vcw])), (vc3, .inl (cy 0, 10, .inl vcf3)), (vs, .inr (8, [.ref vs1, .ref vs2, .ref vs3])), (vs3, .inl (cy 1, 256, .inr (.inl vsw_19)))] := hD
              obtain ⟨z_21, ez_21⟩ : ∃ z : Int32, z = x_6 + 1 := ⟨_, rfl⟩
              have k_1 : (1 : Int32).toInt = 1 := by decide
              have bz_21 : z_21.toInt = x_6.toInt + (1 : Int32).toInt := i_add ez_21 (by omega) (by omega)
              refine lv_iinc (v := z_21) (lv' := [(3, .int z_21), (0, .ref vs), (1, .ref vc), (2, .int vsu)]) hx hb dX7_countWays_62 hl (k := 0) rfl ez_21.symm (by decide) rfl (fun ls hl => ?_)
              refine lv_goto (tgt := 37) hx hb dX7_countWays_65 (by decide) ?_
              exact ih5 z_21 vsw_19 ⟨by omega, by omega⟩ (su_C_s v5_0 (by omega) (by omega) q_20 (by omega) ez_13 ez_15) (by omega) (by omega) _ _ (hP.sub [3, 0, 4, 1, 2] rfl) (hD.sub [3, 0, 4, 1, 2] rfl rfl) hS ls (lv_sub hl [0, 1, 2, 3] rfl)
        have k_0 : (0 : Int32).toInt = 0 := by decide
        exact loop5 ((10 - (0 : Int32).toInt).toNat + 1) 0 g_3 ⟨by omega, by omega⟩ (fun j h1 h2 => v1_0 j (by omega)) (by omega) (by omega) _ _ hP hD hS ls (lv_sub hl [0, 1, 2, 3] rfl)
      · skip
        have c_4 : ¬ (vsu.toInt < x_2.toInt) := fun h9 => c_4 (i_lt.mpr h9)
        refine lv_iload_n hx hb dX7_countWays_7 rfl (lv_at hl 0 rfl) ?_
        refine lv_sipush (v := 256) hx hb dX7_countWays_8 (by decide) ?_
        have k_256 : (256 : Int32).toInt = 256 := by decide
        refine lv_icmp_ge (tgt := 35) hx hb dX7_countWays_11 (by decide) (fun c_22 => ?_) (fun c_22 => ?_)
        · skip
          have c_22 : (256 : Int32).toInt ≤ x_2.toInt := i_le.mp c_22
          refine lv_iconst (v := 0) hx hb dX7_countWays_35 (by decide) ?_
          refine lv_istore_n (lv' := [(3, .int 0), (0, .ref vs), (1, .ref vc), (2, .int vsu)]) hx hb dX7_countWays_36 rfl hl (by decide) rfl (fun ls hl => ?_)
          have loop23 : ∀ (n23 : Nat) (x_24 : Int32) (g_25 : Nat → Int64), (0 ≤ x_24.toInt ∧ x_24.toInt ≤ 10) → (∀ j : Nat, (j : Int) ≤ vsu.toInt → j < 256 → g_25 j = su_C (fun d9 => (vsm d9).toInt.toNat + 1) (suWt vcf3) (x_24.toInt).toNat j) → (x_24.toInt ≤ vcd.toInt) → 10 - x_24.toInt < (n23 : Int) → ∀ (H : Heap) (locs : List Loc), va_P (dC, dI) vwCl [(vs, .inr (8, [.ref vs1, .ref vs2, .ref vs3])), (vs1, .inl (cy 0, 10, .inl vsm)), (vs3, .inl (cy 1, 256, .inr (.inl g_25))), (vc, .inr (2, [.ref vc1, .ref vc2, .ref vc3, .ref vc4, .ref vc5, .int vcm, .int vcd, .int vcr, .int vcw])), (vc3, .inl (cy 0, 10, .inl vcf3))] H → va_D A [(vs, .inr (8, [.ref vs1, .ref vs2, .ref vs3])), (vs1, .inl (cy 0, 10, .inl vsm)), (vs3, .inl (cy 1, 256, .inr (.inl g_25))), (vc, .inr (2, [.ref vc1, .ref vc2, .ref vc3, .ref vc4, .ref vc5, .int vcm, .int vcd, .int vcr, .int vcw])), (vc3, .inl (cy 0, 10, .inl vcf3))] → va_S A s.heap H locs → ∀ ls : Array Slot, lv_has ls 4 [(3, .int x_24), (0, .ref vs), (1, .ref vc), (2, .int vsu)] → W p l e ({ frames := 2, cells := 0, slots := 0, locals := 128 }) s m av9 below meth c H locs 0 0 Q9 (F0 m 37 ls []) := by
            intro n23
            induction n23 with
            | zero =>
              intro x_24 g_25 bx_24 v23_0 v23_1 hn23 H locs hP hD hS ls hl
              exfalso; omega
            | succ n23 ih23 =>
              intro x_24 g_25 bx_24 v23_0 v23_1 hn23 H locs hP hD hS ls hl
              refine lv_iload_n hx hb dX7_countWays_37 rfl (lv_at hl 0 rfl) ?_
              refine lv_aload_n hx hb dX7_countWays_38 rfl (lv_at hl 2 rfl) ?_
              refine gf_X7_22 hx hb hts hown hK hP 3 rfl rfl dX7_countWays_39 ?_
              refine lv_icmp_ge (tgt := 68) hx hb dX7_countWays_42 (by decide) (fun c_26 => ?_) (fun c_26 => ?_)
              · skip
                have c_26 : vcd.toInt ≤ x_24.toInt := i_le.mp c_26
                refine lv_iload_n hx hb dX7_countWays_68 rfl (lv_at hl 3 rfl) ?_
                have k_0 : (0 : Int32).toInt = 0 := by decide
                refine lv_if_lt (tgt := 88) hx hb dX7_countWays_69 (by decide) (fun c9 => absurd (i_lt.mp c9) (by omega)) (fun _ => ?_)
                refine lv_iload_n hx hb dX7_countWays_72 rfl (lv_at hl 3 rfl) ?_
                refine lv_sipush (v := 256) hx hb dX7_countWays_73 (by decide) ?_
                refine lv_icmp_ge (tgt := 88) hx hb dX7_countWays_76 (by decide) (fun c_27 => ?_) (fun c_27 => ?_)
                · skip
                  have c_27 : (256 : Int32).toInt ≤ vsu.toInt := i_le.mp c_27
                  refine lv_lconst (v := 0) hx hb dX7_countWays_88 (by decide) ?_
                  rw [hQ9]
                  exact re_l g_25 hx hb hr hlocks (show (((vsu : Int32).toInt < 0 ∨ 256 ≤ (vsu : Int32).toInt) ∧ ((0 : Int64) : Int64) = 0) ∨ (0 ≤ (vsu : Int32).toInt ∧ (vsu : Int32).toInt < 256 ∧ ((0 : Int64) : Int64) = su_C (fun d9 => (vsm d9).toInt.toNat + 1) (suWt vcf3) (vcd : Int32).toInt.toNat (vsu : Int32).toInt.toNat) from (Or.inl ⟨by omega, rfl⟩)) (hP.sub [0, 1, 2, 3, 4] rfl) (hD.sub [0, 1, 2, 3, 4] rfl rfl) hS dX7_countWays_89
                · skip
                  have c_27 : ¬ ((256 : Int32).toInt ≤ vsu.toInt) := fun h9 => c_27 (i_le.mpr h9)
                  refine lv_aload_n hx hb dX7_countWays_79 rfl (lv_at hl 1 rfl) ?_
                  refine gf_X7_18 hx hb hts hown hK hP 0 rfl rfl dX7_countWays_80 ?_
                  refine lv_iload_n hx hb dX7_countWays_83 rfl (lv_at hl 3 rfl) ?_
                  have hin_28 : vp_in vsu 256 := vp_in_iff.mpr ⟨by omega, by omega⟩
                  refine va_lald hx hb hK hP 2 1 rfl rfl hin_28 dX7_countWays_84 ?_
                  refine lv_topl (fun y_29 ey_29 => ?_)
                  refine lv_goto (tgt := 89) hx hb dX7_countWays_85 (by decide) ?_
                  rw [hQ9]
                  exact re_l g_25 hx hb hr hlocks (show (((vsu : Int32).toInt < 0 ∨ 256 ≤ (vsu : Int32).toInt) ∧ (y_29 : Int64) = 0) ∨ (0 ≤ (vsu : Int32).toInt ∧ (vsu : Int32).toInt < 256 ∧ (y_29 : Int64) = su_C (fun d9 => (vsm d9).toInt.toNat + 1) (suWt vcf3) (vcd : Int32).toInt.toNat (vsu : Int32).toInt.toNat) from (Or.inr ⟨by omega, by omega, by rw [ey_29]; have h9 := v23_0 (Int32.toNatClampNeg vsu) (by have := cl_nn (x := vsu) (by omega); omega) (by have := cl_nn (x := vsu) (by omega); omega); rw [show x_24.toInt.toNat = vcd.toInt.toNat by omega] at h9; exact h9⟩)) (hP.sub [0, 1, 2, 3, 4] rfl) (hD.sub [0, 1, 2, 3, 4] rfl rfl) hS dX7_countWays_89
              · skip
                have c_26 : ¬ (vcd.toInt ≤ x_24.toInt) := fun h9 => c_26 (i_le.mpr h9)
                refine lv_aload_n hx hb dX7_countWays_45 rfl (lv_at hl 1 rfl) ?_
                refine lv_aload_n hx hb dX7_countWays_46 rfl (lv_at hl 1 rfl) ?_
                refine gf_X7_9 hx hb hts hown hK hP 0 rfl rfl dX7_countWays_47 ?_
                refine lv_iload_n hx hb dX7_countWays_50 rfl (lv_at hl 0 rfl) ?_
                have hin_30 : vp_in x_24 10 := vp_in_iff.mpr ⟨by omega, by omega⟩
                refine va_iald hx hb hK hP 1 0 rfl rfl hin_30 dX7_countWays_51 ?_
                refine lv_topi (fun z_31 ez_31 => ?_)
                have bz_31 := p_vsm.at hin_30 ez_31
                refine lv_aload_n hx hb dX7_countWays_52 rfl (lv_at hl 2 rfl) ?_
                refine gf_X7_28 hx hb hts hown hK hP 3 rfl rfl dX7_countWays_53 ?_
                refine lv_iload_n hx hb dX7_countWays_56 rfl (lv_at hl 0 rfl) ?_
                have hin_32 : vp_in x_24 10 := vp_in_iff.mpr ⟨by omega, by omega⟩
                refine va_iald hx hb hK hP 4 0 rfl rfl hin_32 dX7_countWays_57 ?_
                refine lv_topi (fun z_33 ez_33 => ?_)
                have bz_33 := p_vcf3.at hin_32 ez_33
                have hwz_33 : 1 ≤ z_33.toInt := by have h9 := hw1 (Int32.toNatClampNeg x_24) (by have := cl_nn (x := x_24) (by omega); omega); rw [← ez_33] at h9; exact h9
                refine lv_iload_n hx hb dX7_countWays_58 rfl (lv_at hl 3 rfl) ?_
                refine jn_v (wr := [(vs1, .inl (cy 0, 10, .inl vsm)), (vc, .inr (2, [.ref vc1, .ref vc2, .ref vc3, .ref vc4, .ref vc5, .int vcm, .int vcd, .int vcr, .int vcw])), (vc3, .inl (cy 0, 10, .inl vcf3))]) (rV (As := [.int z_31, .int z_33, .int vsu]) (rest := []) (ci := 8) ⟨hx, hb, hml, hown, hts⟩ (t_addWays l dC dI cy _ vs vs1 vs2 vs3 g_25 z_31 z_33 vsu ⟨by omega, by omega⟩ ⟨by omega, by omega⟩) (cw_X7_31 hts rfl rfl ⟨Nat.le_of_ble_eq_true rfl, Nat.le_of_ble_eq_true rfl⟩) hP hD hK [0, 2] rfl rfl rfl rfl bl0 e0 rfl hl.1 rfl (Nat.le_of_ble_eq_true rfl) dX7_countWays_59 ⟨Nat.le_of_ble_eq_true rfl, Nat.le_of_ble_eq_true rfl⟩) hP hD hS hA [0, 2] [1, 3, 4] rfl rfl rfl (by decide) (fun u_36 H locs hp_35 hP hD hS => ?_)
                obtain ⟨vsw_37, rfl⟩ : ∃ z, z = u_36 := ⟨_, rfl⟩
                have hp_35 : (∀ s9 : Nat, (s9 : Int) ≤ (vsu : Int32).toInt → s9 < 256 → vsw_37 s9 = su_W ((z_31 : Int32).toInt.toNat + 1) (z_33 : Int32).toInt.toNat g_25 s9) := hp_35
                have q_38 := hp_35
                have hP : va_P (dC, dI) vwCl [(vs1, .inl (cy 0, 10, .inl vsm)), (vc, .inr (2, [.ref vc1, .ref vc2, .ref vc3, .ref vc4, .ref vc5, .int vcm, .int vcd, .int vcr, .int vcw])), (vc3, .inl (cy 0, 10, .inl vcf3)), (vs, .inr (8, [.ref vs1, .ref vs2, .ref vs3])), (vs3, .inl (cy 1, 256, .inr (.inl vsw_37)))] H := hP
                have hD : va_D A [(vs1, .inl (cy 0, 10, .inl vsm)), (vc, .inr (2, [.ref vc1, .ref vc2, .ref vc3, .ref vc4, .ref vc5, .int vcm, .int vcd, .int vcr, .int vcw])), (vc3, .inl (cy 0, 10, .inl vcf3)), (vs, .inr (8, [.ref vs1, .ref vs2, .ref vs3])), (vs3, .inl (cy 1, 256, .inr (.inl vsw_37)))] := hD
                obtain ⟨z_39, ez_39⟩ : ∃ z : Int32, z = x_24 + 1 := ⟨_, rfl⟩
                have k_1 : (1 : Int32).toInt = 1 := by decide
                have bz_39 : z_39.toInt = x_24.toInt + (1 : Int32).toInt := i_add ez_39 (by omega) (by omega)
                refine lv_iinc (v := z_39) (lv' := [(3, .int z_39), (0, .ref vs), (1, .ref vc), (2, .int vsu)]) hx hb dX7_countWays_62 hl (k := 0) rfl ez_39.symm (by decide) rfl (fun ls hl => ?_)
                refine lv_goto (tgt := 37) hx hb dX7_countWays_65 (by decide) ?_
                exact ih23 z_39 vsw_37 ⟨by omega, by omega⟩ (su_C_s v23_0 (by omega) (by omega) q_38 (by omega) ez_31 ez_33) (by omega) (by omega) _ _ (hP.sub [3, 0, 4, 1, 2] rfl) (hD.sub [3, 0, 4, 1, 2] rfl rfl) hS ls (lv_sub hl [0, 1, 2, 3] rfl)
          have k_0 : (0 : Int32).toInt = 0 := by decide
          exact loop23 ((10 - (0 : Int32).toInt).toNat + 1) 0 g_3 ⟨by omega, by omega⟩ (fun j h1 h2 => v1_0 j (by omega)) (by omega) (by omega) _ _ hP hD hS ls (lv_sub hl [0, 1, 2, 3] rfl)
        · skip
          have c_22 : ¬ ((256 : Int32).toInt ≤ x_2.toInt) := fun h9 => c_22 (i_le.mpr h9)
          refine lv_aload_n hx hb dX7_countWays_14 rfl (lv_at hl 1 rfl) ?_
          refine gf_X7_18 hx hb hts hown hK hP 0 rfl rfl dX7_countWays_15 ?_
          refine lv_iload_n hx hb dX7_countWays_18 rfl (lv_at hl 0 rfl) ?_
          refine lv_iload_n hx hb dX7_countWays_19 rfl (lv_at hl 0 rfl) ?_
          have k_0 : (0 : Int32).toInt = 0 := by decide
          refine lv_if_ne (tgt := 27) hx hb dX7_countWays_20 (by decide) (fun c_40 => ?_) (fun c_40 => ?_)
          · skip
            have c_40 : ¬ (x_2.toInt = (0 : Int32).toInt) := fun h9 => c_40 (i_eq.mpr h9)
            refine lv_lconst (v := 0) hx hb dX7_countWays_27 (by decide) ?_
            have hin_41 : vp_in x_2 256 := vp_in_iff.mpr ⟨by omega, by omega⟩
            refine va_last hx hb hK hP hD hS 2 1 rfl rfl hin_41 dX7_countWays_28 (fun H locs hP hD hS => ?_)
            obtain ⟨f_42, ef_42⟩ : ∃ z : Nat → Int64, z = vp_updL g_3 (Int32.toNatClampNeg x_2) 0 := ⟨_, rfl⟩
            have hP : va_P (dC, dI) vwCl [(vs, .inr (8, [.ref vs1, .ref vs2, .ref vs3])), (vs1, .inl (cy 0, 10, .inl vsm)), (vs3, .inl (cy 1, 256, .inr (.inl f_42))), (vc, .inr (2, [.ref vc1, .ref vc2, .ref vc3, .ref vc4, .ref vc5, .int vcm, .int vcd, .int vcr, .int vcw])), (vc3, .inl (cy 0, 10, .inl vcf3))] H := by rw [ef_42]; exact hP
            have hD : va_D A [(vs, .inr (8, [.ref vs1, .ref vs2, .ref vs3])), (vs1, .inl (cy 0, 10, .inl vsm)), (vs3, .inl (cy 1, 256, .inr (.inl f_42))), (vc, .inr (2, [.ref vc1, .ref vc2, .ref vc3, .ref vc4, .ref vc5, .int vcm, .int vcd, .int vcr, .int vcw])), (vc3, .inl (cy 0, 10, .inl vcf3))] := by rw [ef_42]; exact hD
            obtain ⟨z_43, ez_43⟩ : ∃ z : Int32, z = x_2 + 1 := ⟨_, rfl⟩
            have k_1 : (1 : Int32).toInt = 1 := by decide
            have bz_43 : z_43.toInt = x_2.toInt + (1 : Int32).toInt := i_add ez_43 (by omega) (by omega)
            refine lv_iinc (v := z_43) (lv' := [(3, .int z_43), (0, .ref vs), (1, .ref vc), (2, .int vsu)]) hx hb dX7_countWays_29 hl (k := 0) rfl ez_43.symm (by decide) rfl (fun ls hl => ?_)
            refine lv_goto (tgt := 2) hx hb dX7_countWays_32 (by decide) ?_
            exact ih1 z_43 f_42 ⟨by omega, by omega⟩ (su_0_s v1_0 (by omega) (by omega) (Eq.trans rfl (if_neg (by have := cl_nn (x := x_2) (by omega); omega)).symm) ef_42) (by omega) _ _ (hP.sub [0, 1, 2, 3, 4] rfl) (hD.sub [0, 1, 2, 3, 4] rfl rfl) hS ls (lv_sub hl [0, 1, 2, 3] rfl)
          · skip
            have c_40 : x_2.toInt = (0 : Int32).toInt := i_eq.mp c_40
            refine lv_lconst (v := 1) hx hb dX7_countWays_23 (by decide) ?_
            refine lv_goto (tgt := 28) hx hb dX7_countWays_24 (by decide) ?_
            have hin_44 : vp_in x_2 256 := vp_in_iff.mpr ⟨by omega, by omega⟩
            refine va_last hx hb hK hP hD hS 2 1 rfl rfl hin_44 dX7_countWays_28 (fun H locs hP hD hS => ?_)
            obtain ⟨f_45, ef_45⟩ : ∃ z : Nat → Int64, z = vp_updL g_3 (Int32.toNatClampNeg x_2) 1 := ⟨_, rfl⟩
            have hP : va_P (dC, dI) vwCl [(vs, .inr (8, [.ref vs1, .ref vs2, .ref vs3])), (vs1, .inl (cy 0, 10, .inl vsm)), (vs3, .inl (cy 1, 256, .inr (.inl f_45))), (vc, .inr (2, [.ref vc1, .ref vc2, .ref vc3, .ref vc4, .ref vc5, .int vcm, .int vcd, .int vcr, .int vcw])), (vc3, .inl (cy 0, 10, .inl vcf3))] H := by rw [ef_45]; exact hP
            have hD : va_D A [(vs, .inr (8, [.ref vs1, .ref vs2, .ref vs3])), (vs1, .inl (cy 0, 10, .inl vsm)), (vs3, .inl (cy 1, 256, .inr (.inl f_45))), (vc, .inr (2, [.ref vc1, .ref vc2, .ref vc3, .ref vc4, .ref vc5, .int vcm, .int vcd, .int vcr, .int vcw])), (vc3, .inl (cy 0, 10, .inl vcf3))] := by rw [ef_45]; exact hD
            obtain ⟨z_46, ez_46⟩ : ∃ z : Int32, z = x_2 + 1 := ⟨_, rfl⟩
            have k_1 : (1 : Int32).toInt = 1 := by decide
            have bz_46 : z_46.toInt = x_2.toInt + (1 : Int32).toInt := i_add ez_46 (by omega) (by omega)
            refine lv_iinc (v := z_46) (lv' := [(3, .int z_46), (0, .ref vs), (1, .ref vc), (2, .int vsu)]) hx hb dX7_countWays_29 hl (k := 0) rfl ez_46.symm (by decide) rfl (fun ls hl => ?_)
            refine lv_goto (tgt := 2) hx hb dX7_countWays_32 (by decide) ?_
            exact ih1 z_46 f_45 ⟨by omega, by omega⟩ (su_0_s v1_0 (by omega) (by omega) (Eq.trans rfl (if_pos (by have := cl_nn (x := x_2) (by omega); omega)).symm) ef_45) (by omega) _ _ (hP.sub [0, 1, 2, 3, 4] rfl) (hD.sub [0, 1, 2, 3, 4] rfl rfl) hS ls (lv_sub hl [0, 1, 2, 3] rfl)
  have k_0 : (0 : Int32).toInt = 0 := by decide
  exact loop1 ((256 - (0 : Int32).toInt).toNat + 1) 0 vsw ⟨by omega, by omega⟩ (fun j hj => absurd hj (by omega)) (by omega) _ _ hP hD hS ls (lv_sub hl [0, 1, 2, 3] rfl)
