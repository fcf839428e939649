abbrev cX11_isMan : ByteArray := prog_13_method_43_code
def yX11_isMan : MethodName := ⟨RX11, "isMan", "(I)Z"⟩
theorem t1710 : Cond.code yX11_isMan cX11_isMan 2 (some .boolean) ∈ GW := gw_mem 1824 (by decide +kernel) (by decide +kernel)
theorem dX11_isMan_0 : decode cX11_isMan 0 = .ok (.iload_n 1, 1) := by decide +kernel
theorem dX11_isMan_1 : decode cX11_isMan 1 = .ok (.iconst 0, 1) := by decide +kernel
theorem dX11_isMan_2 : decode cX11_isMan 2 = .ok (.aload_n 0, 1) := by decide +kernel
theorem dX11_isMan_3 : decode cX11_isMan 3 = .ok (.getfield 98, 3) := by decide +kernel
theorem dX11_isMan_6 : decode cX11_isMan 6 = .ok (.iconst 0, 1) := by decide +kernel
theorem dX11_isMan_7 : decode cX11_isMan 7 = .ok (.iaload, 1) := by decide +kernel
theorem dX11_isMan_8 : decode cX11_isMan 8 = .ok (.iconst 1, 1) := by decide +kernel
theorem dX11_isMan_9 : decode cX11_isMan 9 = .ok (.isub, 1) := by decide +kernel
theorem dX11_isMan_10 : decode cX11_isMan 10 = .ok (.invokestatic 75, 3) := by decide +kernel
theorem dX11_isMan_13 : decode cX11_isMan 13 = .ok (.ireturn, 1) := by decide +kernel
set_option maxHeartbeats 4000000 in
set_option maxRecDepth 100000 in
theorem m_isMan (l : Launch) (dC : Nat → ClassId) (dI : Nat → Nat → Nat) (cy : Nat → ClassId) (vnh : Nat → Int32) (vo : Nat) (voth : Int32) (vmt : Nat) (votp : Int32) (vosz : Int32) (volm : Int32) (voto : Int32) (vofr : Int32) (vokd : Int32) (vonu : Int32) (vosg : Int32) (vofa : Int32) (vopl : Int32) (vowd : Int64) (votd : Int32) (vmn : Nat) (vmr : Nat) (vmk : Nat) (vms : Nat) (vma : Nat) (vmm : Nat) (vmrn : Nat) (vmkn : Nat) (vmik : Nat) (vmon : Nat) (vosm : Int32) (vohp : Int32) (vmw : Nat) (vmf : Nat) (vmb : Nat) (vomb : Int32) (vmd : Nat) (vmc : Nat) (vocm : Int32) (voct : Int32) (vocy : Int32) (vmx : Nat) (votx : Int32) (vose : Int32) (vml : Nat) (vmwr : Nat) (voln : Int32) (vohw : Int32) (vmno : Nat) (vond : Int32) (voon : Int32) (vowi : Int32) (votop : Int32) (vmnf : Nat → Int32) (vm : Int32) (p_vmnf : NW vnh vmnf) : Met l yX11_isMan (wl yX11_isMan cX11_isMan 2 (some .boolean)) ({ frames := 1, cells := 0, slots := 0, locals := 64 }) (Pr (dC, dI) vwCl cy [(vo, .inr (12, [.int voth, .ref vmt, .int votp, .int vosz, .int volm, .int voto, .int vofr, .int vokd, .int vonu, .int vosg, .int vofa, .int vopl, .long vowd, .int votd, .ref vmn, .ref vmr, .ref vmk, .ref vms, .ref vma, .ref vmm, .ref vmrn, .ref vmkn, .ref vmik, .ref vmon, .int vosm, .int vohp, .ref vmw, .ref vmf, .ref vmb, .int vomb, .ref vmd, .ref vmc, .int vocm, .int voct, .int vocy, .ref vmx, .int votx, .int vose, .ref vml, .ref vmwr, .int voln, .int vohw, .ref vmno, .int vond, .int voon, .int vowi, .int votop])), (vmn, .inl (cy 0, 575, .inl vmnf))] [.ref vo, .int vm]) (Ri (fun r => ((r = 0 ∧ ((vm : Int32).toInt < 0 ∨ (vmnf 0).toInt ≤ (vm : Int32).toInt)) ∨ (r = 1 ∧ 0 ≤ (vm : Int32).toInt ∧ (vm : Int32).toInt ≤ 6 ∧ (vm : Int32).toInt < (vmnf 0).toInt)))) 0 0 (fun _ => False) := by
  refine mr RX11 rfl (by decide +kernel) (Nat.le_of_ble_eq_true rfl) ?_
  intro p e s m below meth c hx hb hr hlocks av9 hav hts hown hml hK hP hS Q9 hQ9 ls hl
  have hl : lv_has ls 2 [(0, .ref vo), (1, .int vm)] := hl
  refine lv_iload_n hx hb dX11_isMan_0 rfl (lv_at hl 1 rfl) ?_
  refine lv_iconst (v := 0) hx hb dX11_isMan_1 (by decide) ?_
  refine lv_aload_n hx hb dX11_isMan_2 rfl (lv_at hl 0 rfl) ?_
  refine gf_X11_98 hx hb hts hown hK hP 0 rfl rfl dX11_isMan_3 ?_
  refine lv_iconst (v := 0) hx hb dX11_isMan_6 (by decide) ?_
  have k_0 : (0 : Int32).toInt = 0 := by decide
  have hin_1 : vp_in (0 : Int32) 575 := vp_in_iff.mpr ⟨by omega, by omega⟩
  refine va_iald hx hb hK hP 1 0 rfl rfl hin_1 dX11_isMan_7 ?_
  refine lv_topi (fun z_2 ez_2 => ?_)
  have bz_2 := p_vmnf.a0 (x := 0) ⟨by omega, by omega⟩ ez_2
  have tz_2 : z_2.toInt = (vmnf 0).toInt := by rw [ez_2]; rfl
  refine lv_iconst (v := 1) hx hb dX11_isMan_8 (by decide) ?_
  refine lv_isub hx hb dX11_isMan_9 ?_
  refine lv_topi (fun z_3 ez_3 => ?_)
  have k_1 : (1 : Int32).toInt = 1 := by decide
  have bz_3 : z_3.toInt = z_2.toInt - (1 : Int32).toInt := i_sub ez_3 (by omega) (by omega)
  refine jr_i (rSr (As := [.int vm, .int 0, .int z_3]) (rest := []) ⟨hx, hb, hml, hown, hts⟩ (m_isIn l dC dI cy vm 0 z_3 ) (cw_X11_75 hts rfl rfl ⟨Nat.le_of_ble_eq_true rfl, Nat.le_of_ble_eq_true rfl⟩) hP hK [] rfl rfl hl.1 rfl (Nat.le_of_ble_eq_true rfl) dX11_isMan_10 ⟨Nat.le_of_ble_eq_true rfl, Nat.le_of_ble_eq_true rfl⟩) hP hS (fun r_4 H locs hp_5 hP hS => ?_)
  have hp_5 : ((r_4 = 0 ∧ ((vm : Int32).toInt < (0 : Int32).toInt ∨ (z_3 : Int32).toInt < (vm : Int32).toInt)) ∨ (r_4 = 1 ∧ (0 : Int32).toInt ≤ (vm : Int32).toInt ∧ (vm : Int32).toInt ≤ (z_3 : Int32).toInt)) := hp_5
  have q_6 := hp_5
  rcases q_6 with ⟨aq_6, f0q_6⟩ | ⟨aq_6, f0q_6, f1q_6⟩
  · skip
    refine as_i 0 aq_6 ?_
    rw [hQ9]
    exact rr_z hx hb hr hlocks (Or.inl rfl) (show ((0 : Int32) = 0 ∧ ((vm : Int32).toInt < 0 ∨ (vmnf 0).toInt ≤ (vm : Int32).toInt)) ∨ ((0 : Int32) = 1 ∧ 0 ≤ (vm : Int32).toInt ∧ (vm : Int32).toInt ≤ 6 ∧ (vm : Int32).toInt < (vmnf 0).toInt) from (Or.inl ⟨rfl, by omega⟩)) hS dX11_isMan_13
  · skip
    refine as_i 1 aq_6 ?_
    rw [hQ9]
    exact rr_z hx hb hr hlocks (Or.inr rfl) (show ((1 : Int32) = 0 ∧ ((vm : Int32).toInt < 0 ∨ (vmnf 0).toInt ≤ (vm : Int32).toInt)) ∨ ((1 : Int32) = 1 ∧ 0 ≤ (vm : Int32).toInt ∧ (vm : Int32).toInt ≤ 6 ∧ (vm : Int32).toInt < (vmnf 0).toInt) from (Or.inr (⟨rfl, by omega, by omega, by omega⟩))) hS dX11_isMan_13
abbrev cX11_isDeed : ByteArray := prog_13_method_44_code
def yX11_isDeed : MethodName := ⟨RX11, "isDeed", "(I)Z"⟩
theorem t1754 : Cond.code yX11_isDeed cX11_isDeed 2 (some .boolean) ∈ GW := gw_mem 1868 (by decide +kernel) (by decide +kernel)
theorem dX11_isDeed_0 : decode cX11_isDeed 0 = .ok (.iload_n 1, 1) := by decide +kernel
theorem dX11_isDeed_1 : decode cX11_isDeed 1 = .ok (.iconst 0, 1) := by decide +kernel
theorem dX11_isDeed_2 : decode cX11_isDeed 2 = .ok (.aload_n 0, 1) := by decide +kernel
theorem dX11_isDeed_3 : decode cX11_isDeed 3 = .ok (.getfield 98, 3) := by decide +kernel
theorem dX11_isDeed_6 : decode cX11_isDeed 6 = .ok (.iconst 1, 1) := by decide +kernel
theorem dX11_isDeed_7 : decode cX11_isDeed 7 = .ok (.iaload, 1) := by decide +kernel
theorem dX11_isDeed_8 : decode cX11_isDeed 8 = .ok (.iconst 1, 1) := by decide +kernel
theorem dX11_isDeed_9 : decode cX11_isDeed 9 = .ok (.isub, 1) := by decide +kernel
theorem dX11_isDeed_10 : decode cX11_isDeed 10 = .ok (.invokestatic 75, 3) := by decide +kernel
theorem dX11_isDeed_13 : decode cX11_isDeed 13 = .ok (.ireturn, 1) := by decide +kernel
set_option maxHeartbeats 4000000 in
set_option maxRecDepth 100000 in
theorem m_isDeed (l : Launch) (dC : Nat → ClassId) (dI : Nat → Nat → Nat) (cy : Nat → ClassId) (vnh : Nat → Int32) (vo : Nat) (voth : Int32) (vmt : Nat) (votp : Int32) (vosz : Int32) (volm : Int32) (voto : Int32) (vofr : Int32) (vokd : Int32) (vonu : Int32) (vosg : Int32) (vofa : Int32) (vopl : Int32) (vowd : Int64) (votd : Int32) (vmn : Nat) (vmr : Nat) (vmk : Nat) (vms : Nat) (vma : Nat) (vmm : Nat) (vmrn : Nat) (vmkn : Nat) (vmik : Nat) (vmon : Nat) (vosm : Int32) (vohp : Int32) (vmw : Nat) (vmf : Nat) (vmb : Nat) (vomb : Int32) (vmd : Nat) (vmc : Nat) (vocm : Int32) (voct : Int32) (vocy : Int32) (vmx : Nat) (votx : Int32) (vose : Int32) (vml : Nat) (vmwr : Nat) (voln : Int32) (vohw : Int32) (vmno : Nat) (vond : Int32) (voon : Int32) (vowi : Int32) (votop : Int32) (vmnf : Nat → Int32) (vd : Int32) (p_vmnf : NW vnh vmnf) : Met l yX11_isDeed (wl yX11_isDeed cX11_isDeed 2 (some .boolean)) ({ frames := 1, cells := 0, slots := 0, locals := 64 }) (Pr (dC, dI) vwCl cy [(vo, .inr (12, [.int voth, .ref vmt, .int votp, .int vosz, .int volm, .int voto, .int vofr, .int vokd, .int vonu, .int vosg, .int vofa, .int vopl, .long vowd, .int votd, .ref vmn, .ref vmr, .ref vmk, .ref vms, .ref vma, .ref vmm, .ref vmrn, .ref vmkn, .ref vmik, .ref vmon, .int vosm, .int vohp, .ref vmw, .ref vmf, .ref vmb, .int vomb, .ref vmd, .ref vmc, .int vocm, .int voct, .int vocy, .ref vmx, .int votx, .int vose, .ref vml, .ref vmwr, .int voln, .int vohw, .ref vmno, .int vond, .int voon, .int vowi, .int votop])), (vmn, .inl (cy 0, 575, .inl vmnf))] [.ref vo, .int vd]) (Ri (fun r => ((r = 0) ∨ (r = 1 ∧ 0 ≤ (vd : Int32).toInt ∧ (vd : Int32).toInt ≤ 9)))) 0 0 (fun _ => False) := by
  refine mr RX11 rfl (by decide +kernel) (Nat.le_of_ble_eq_true rfl) ?_
  intro p e s m below meth c hx hb hr hlocks av9 hav hts hown hml hK hP hS Q9 hQ9 ls hl
  have hl : lv_has ls 2 [(0, .ref vo), (1, .int vd)] := hl
  refine lv_iload_n hx hb dX11_isDeed_0 rfl (lv_at hl 1 rfl) ?_
  refine lv_iconst (v := 0) hx hb dX11_isDeed_1 (by decide) ?_
  refine lv_aload_n hx hb dX11_isDeed_2 rfl (lv_at hl 0 rfl) ?_
  refine gf_X11_98 hx hb hts hown hK hP 0 rfl rfl dX11_isDeed_3 ?_
  refine lv_iconst (v := 1) hx hb dX11_isDeed_6 (by decide) ?_
  have k_1 : (1 : Int32).toInt = 1 := by decide
  have hin_1 : vp_in (1 : Int32) 575 := vp_in_iff.mpr ⟨by omega, by omega⟩
  refine va_iald hx hb hK hP 1 0 rfl rfl hin_1 dX11_isDeed_7 ?_
  refine lv_topi (fun z_2 ez_2 => ?_)
  have bz_2 := p_vmnf.a1 (x := 1) ⟨by omega, by omega⟩ ez_2
  have tz_2 : z_2.toInt = (vmnf 1).toInt := by rw [ez_2]; rfl
  refine lv_iconst (v := 1) hx hb dX11_isDeed_8 (by decide) ?_
  refine lv_isub hx hb dX11_isDeed_9 ?_
  refine lv_topi (fun z_3 ez_3 => ?_)
  have bz_3 : z_3.toInt = z_2.toInt - (1 : Int32).toInt := i_sub ez_3 (by omega) (by omega)
  have k_0 : (0 : Int32).toInt = 0 := by decide
  refine jr_i (rSr (As := [.int vd, .int 0, .int z_3]) (rest := []) ⟨hx, hb, hml, hown, hts⟩ (m_isIn l dC dI cy vd 0 z_3 ) (cw_X11_75 hts rfl rfl ⟨Nat.le_of_ble_eq_true rfl, Nat.le_of_ble_eq_true rfl⟩) hP hK [] rfl rfl hl.1 rfl (Nat.le_of_ble_eq_true rfl) dX11_isDeed_10 ⟨Nat.le_of_ble_eq_true rfl, Nat.le_of_ble_eq_true rfl⟩) hP hS (fun r_4 H locs hp_5 hP hS => ?_)
  have hp_5 : ((r_4 = 0 ∧ ((vd : Int32).toInt < (0 : Int32).toInt ∨ (z_3 : Int32).toInt < (vd : Int32).toInt)) ∨ (r_4 = 1 ∧ (0 : Int32).toInt ≤ (vd : Int32).toInt ∧ (vd : Int32).toInt ≤ (z_3 : Int32).toInt)) := hp_5
  have q_6 := hp_5
  rcases q_6 with ⟨aq_6, f0q_6⟩ | ⟨aq_6, f0q_6, f1q_6⟩
  · skip
    refine as_i 0 aq_6 ?_
    rw [hQ9]
    exact rr_z hx hb hr hlocks (Or.inl rfl) (show ((0 : Int32) = 0) ∨ ((0 : Int32) = 1 ∧ 0 ≤ (vd : Int32).toInt ∧ (vd : Int32).toInt ≤ 9) from (Or.inl rfl)) hS dX11_isDeed_13
  · skip
    refine as_i 1 aq_6 ?_
    rw [hQ9]
    exact rr_z hx hb hr hlocks (Or.inr rfl) (show ((1 : Int32) = 0) ∨ ((1 : Int32) = 1 ∧ 0 ≤ (vd : Int32).toInt ∧ (vd : Int32).toInt ≤ 9) from (Or.inr (⟨rfl, by omega, by omega⟩))) hS dX11_isDeed_13
abbrev cX11_didOf : ByteArray := prog_13_method_45_code
def yX11_didOf : MethodName := ⟨RX11, "didOf", "(II)I"⟩
theorem t1726 : Cond.code yX11_didOf cX11_didOf 3 (some .int) ∈ GW := gw_mem 1840 (by decide +kernel) (by decide +kernel)
theorem dX11_didOf_0 : decode cX11_didOf 0 = .ok (.aload_n 0, 1) := by decide +kernel
theorem dX11_didOf_1 : decode cX11_didOf 1 = .ok (.getfield 98, 3) := by decide +kernel
theorem dX11_didOf_4 : decode cX11_didOf 4 = .ok (.sipush 165, 3) := by decide +kernel
theorem dX11_didOf_7 : decode cX11_didOf 7 = .ok (.bipush 10, 2) := by decide +kernel
theorem dX11_didOf_9 : decode cX11_didOf 9 = .ok (.iload_n 1, 1) := by decide +kernel
theorem dX11_didOf_10 : decode cX11_didOf 10 = .ok (.imul, 1) := by decide +kernel
theorem dX11_didOf_11 : decode cX11_didOf 11 = .ok (.iadd, 1) := by decide +kernel
theorem dX11_didOf_12 : decode cX11_didOf 12 = .ok (.iload_n 2, 1) := by decide +kernel
theorem dX11_didOf_13 : decode cX11_didOf 13 = .ok (.iadd, 1) := by decide +kernel
theorem dX11_didOf_14 : decode cX11_didOf 14 = .ok (.iaload, 1) := by decide +kernel
theorem dX11_didOf_15 : decode cX11_didOf 15 = .ok (.ireturn, 1) := by decide +kernel
set_option maxHeartbeats 4000000 in
set_option maxRecDepth 100000 in
theorem m_didOf (l : Launch) (dC : Nat → ClassId) (dI : Nat → Nat → Nat) (cy : Nat → ClassId) (vnh : Nat → Int32) (vo : Nat) (voth : Int32) (vmt : Nat) (votp : Int32) (vosz : Int32) (volm : Int32) (voto : Int32) (vofr : Int32) (vokd : Int32) (vonu : Int32) (vosg : Int32) (vofa : Int32) (vopl : Int32) (vowd : Int64) (votd : Int32) (vmn : Nat) (vmr : Nat) (vmk : Nat) (vms : Nat) (vma : Nat) (vmm : Nat) (vmrn : Nat) (vmkn : Nat) (vmik : Nat) (vmon : Nat) (vosm : Int32) (vohp : Int32) (vmw : Nat) (vmf : Nat) (vmb : Nat) (vomb : Int32) (vmd : Nat) (vmc : Nat) (vocm : Int32) (voct : Int32) (vocy : Int32) (vmx : Nat) (votx : Int32) (vose : Int32) (vml : Nat) (vmwr : Nat) (voln : Int32) (vohw : Int32) (vmno : Nat) (vond : Int32) (voon : Int32) (vowi : Int32) (votop : Int32) (vmnf : Nat → Int32) (vm : Int32) (vd : Int32) (r_vm : -1 ≤ (vm : Int32).toInt ∧ (vm : Int32).toInt ≤ 6) (r_vd : -1 ≤ (vd : Int32).toInt ∧ (vd : Int32).toInt ≤ 40) (p_vmnf : NW vnh vmnf) : Met l yX11_didOf (wl yX11_didOf cX11_didOf 3 (some .int)) ({ frames := 0, cells := 0, slots := 0, locals := 0 }) (Pr (dC, dI) vwCl cy [(vo, .inr (12, [.int voth, .ref vmt, .int votp, .int vosz, .int volm, .int voto, .int vofr, .int vokd, .int vonu, .int vosg, .int vofa, .int vopl, .long vowd, .int votd, .ref vmn, .ref vmr, .ref vmk, .ref vms, .ref vma, .ref vmm, .ref vmrn, .ref vmkn, .ref vmik, .ref vmon, .int vosm, .int vohp, .ref vmw, .ref vmf, .ref vmb, .int vomb, .ref vmd, .ref vmc, .int vocm, .int voct, .int vocy, .ref vmx, .int votx, .int vose, .ref vml, .ref vmwr, .int voln, .int vohw, .ref vmno, .int vond, .int voon, .int vowi, .int votop])), (vmn, .inl (cy 0, 575, .inl vmnf))] [.ref vo, .int vm, .int vd]) (Ri (fun r => True)) 0 0 (fun _ => False) := by
  refine mr RX11 rfl (by decide +kernel) (Nat.le_of_ble_eq_true rfl) ?_
  intro p e s m below meth c hx hb hr hlocks av9 hav hts hown hml hK hP hS Q9 hQ9 ls hl
  have hl : lv_has ls 3 [(0, .ref vo), (1, .int vm), (2, .int vd)] := hl
  refine lv_aload_n hx hb dX11_didOf_0 rfl (lv_at hl 0 rfl) ?_
  refine gf_X11_98 hx hb hts hown hK hP 0 rfl rfl dX11_didOf_1 ?_
  refine lv_sipush (v := 165) hx hb dX11_didOf_4 (by decide) ?_
  refine lv_bipush (v := 10) hx hb dX11_didOf_7 (by decide) ?_
  refine lv_iload_n hx hb dX11_didOf_9 rfl (lv_at hl 1 rfl) ?_
  refine lv_imul hx hb dX11_didOf_10 ?_
  refine lv_topi (fun z_1 ez_1 => ?_)
  have k_10 : (10 : Int32).toInt = 10 := by decide
  have bz_1 : z_1.toInt = vm.toInt * 10 := i_cmul k_10 ez_1 (by omega) (by omega)
  refine lv_iadd hx hb dX11_didOf_11 ?_
  refine lv_topi (fun z_2 ez_2 => ?_)
  have k_165 : (165 : Int32).toInt = 165 := by decide
  have bz_2 : z_2.toInt = (165 : Int32).toInt + z_1.toInt := i_add ez_2 (by omega) (by omega)
  refine lv_iload_n hx hb dX11_didOf_12 rfl (lv_at hl 2 rfl) ?_
  refine lv_iadd hx hb dX11_didOf_13 ?_
  refine lv_topi (fun z_3 ez_3 => ?_)
  have bz_3 : z_3.toInt = z_2.toInt + vd.toInt := i_add ez_3 (by omega) (by omega)
  have hin_4 : vp_in z_3 575 := vp_in_iff.mpr ⟨by omega, by omega⟩
  refine va_iald hx hb hK hP 1 0 rfl rfl hin_4 dX11_didOf_14 ?_
  refine lv_topi (fun z_5 ez_5 => ?_)
  rw [hQ9]
  exact rr_i hx hb hr hlocks trivial hS dX11_didOf_15
abbrev cX11_owesOf : ByteArray := prog_13_method_46_code
def yX11_owesOf : MethodName := ⟨RX11, "owesOf", "(II)I"⟩
theorem t1738 : Cond.code yX11_owesOf cX11_owesOf 3 (some .int) ∈ GW := gw_mem 1852 (by decide +kernel) (by decide +kernel)
theorem dX11_owesOf_0 : decode cX11_owesOf 0 = .ok (.aload_n 0, 1) := by decide +kernel
theorem dX11_owesOf_1 : decode cX11_owesOf 1 = .ok (.getfield 98, 3) := by decide +kernel
theorem dX11_owesOf_4 : decode cX11_owesOf 4 = .ok (.sipush 249, 3) := by decide +kernel
theorem dX11_owesOf_7 : decode cX11_owesOf 7 = .ok (.bipush 7, 2) := by decide +kernel
theorem dX11_owesOf_9 : decode cX11_owesOf 9 = .ok (.iload_n 1, 1) := by decide +kernel
theorem dX11_owesOf_10 : decode cX11_owesOf 10 = .ok (.imul, 1) := by decide +kernel
theorem dX11_owesOf_11 : decode cX11_owesOf 11 = .ok (.iadd, 1) := by decide +kernel
theorem dX11_owesOf_12 : decode cX11_owesOf 12 = .ok (.iload_n 2, 1) := by decide +kernel
theorem dX11_owesOf_13 : decode cX11_owesOf 13 = .ok (.iadd, 1) := by decide +kernel
theorem dX11_owesOf_14 : decode cX11_owesOf 14 = .ok (.iaload, 1) := by decide +kernel
theorem dX11_owesOf_15 : decode cX11_owesOf 15 = .ok (.ireturn, 1) := by decide +kernel
set_option maxHeartbeats 4000000 in
set_option maxRecDepth 100000 in
theorem m_owesOf (l : Launch) (dC : Nat → ClassId) (dI : Nat → Nat → Nat) (cy : Nat → ClassId) (vnh : Nat → Int32) (vo : Nat) (voth : Int32) (vmt : Nat) (votp : Int32) (vosz : Int32) (volm : Int32) (voto : Int32) (vofr : Int32) (vokd : Int32) (vonu : Int32) (vosg : Int32) (vofa : Int32) (vopl : Int32) (vowd : Int64) (votd : Int32) (vmn : Nat) (vmr : Nat) (vmk : Nat) (vms : Nat) (vma : Nat) (vmm : Nat) (vmrn : Nat) (vmkn : Nat) (vmik : Nat) (vmon : Nat) (vosm : Int32) (vohp : Int32) (vmw : Nat) (vmf : Nat) (vmb : Nat) (vomb : Int32) (vmd : Nat) (vmc : Nat) (vocm : Int32) (voct : Int32) (vocy : Int32) (vmx : Nat) (votx : Int32) (vose : Int32) (vml : Nat) (vmwr : Nat) (voln : Int32) (vohw : Int32) (vmno : Nat) (vond : Int32) (voon : Int32) (vowi : Int32) (votop : Int32) (vmnf : Nat → Int32) (vm : Int32) (vk : Int32) (r_vm : -1 ≤ (vm : Int32).toInt ∧ (vm : Int32).toInt ≤ 6) (r_vk : -1 ≤ (vk : Int32).toInt ∧ (vk : Int32).toInt ≤ 40) (p_vmnf : NW vnh vmnf) : Met l yX11_owesOf (wl yX11_owesOf cX11_owesOf 3 (some .int)) ({ frames := 0, cells := 0, slots := 0, locals := 0 }) (Pr (dC, dI) vwCl cy [(vo, .inr (12, [.int voth, .ref vmt, .int votp, .int vosz, .int volm, .int voto, .int vofr, .int vokd, .int vonu, .int vosg, .int vofa, .int vopl, .long vowd, .int votd, .ref vmn, .ref vmr, .ref vmk, .ref vms, .ref vma, .ref vmm, .ref vmrn, .ref vmkn, .ref vmik, .ref vmon, .int vosm, .int vohp, .ref vmw, .ref vmf, .ref vmb, .int vomb, .ref vmd, .ref vmc, .int vocm, .int voct, .int vocy, .ref vmx, .int votx, .int vose, .ref vml, .ref vmwr, .int voln, .int vohw, .ref vmno, .int vond, .int voon, .int vowi, .int votop])), (vmn, .inl (cy 0, 575, .inl vmnf))] [.ref vo, .int vm, .int vk]) (Ri (fun r => True)) 0 0 (fun _ => False) := by
  refine mr RX11 rfl (by decide +kernel) (Nat.le_of_ble_eq_true rfl) ?_
  intro p e s m below meth c hx hb hr hlocks av9 hav hts hown hml hK hP hS Q9 hQ9 ls hl
  have hl : lv_has ls 3 [(0, .ref vo), (1, .int vm), (2, .int vk)] := hl
  refine lv_aload_n hx hb dX11_owesOf_0 rfl (lv_at hl 0 rfl) ?_
  refine gf_X11_98 hx hb hts hown hK hP 0 rfl rfl dX11_owesOf_1 ?_
  refine lv_sipush (v := 249) hx hb dX11_owesOf_4 (by decide) ?_
  refine lv_bipush (v := 7) hx hb dX11_owesOf_7 (by decide) ?_
  refine lv_iload_n hx hb dX11_owesOf_9 rfl (lv_at hl 1 rfl) ?_
  refine lv_imul hx hb dX11_owesOf_10 ?_
  refine lv_topi (fun z_1 ez_1 => ?_)
  have k_7 : (7 : Int32).toInt = 7 := by decide
  have bz_1 : z_1.toInt = vm.toInt * 7 := i_cmul k_7 ez_1 (by omega) (by omega)
  refine lv_iadd hx hb dX11_owesOf_11 ?_
  refine lv_topi (fun z_2 ez_2 => ?_)
  have k_249 : (249 : Int32).toInt = 249 := by decide
  have bz_2 : z_2.toInt = (249 : Int32).toInt + z_1.toInt := i_add ez_2 (by omega) (by omega)
  refine lv_iload_n hx hb dX11_owesOf_12 rfl (lv_at hl 2 rfl) ?_
  refine lv_iadd hx hb dX11_owesOf_13 ?_
  refine lv_topi (fun z_3 ez_3 => ?_)
  have bz_3 : z_3.toInt = z_2.toInt + vk.toInt := i_add ez_3 (by omega) (by omega)
  have hin_4 : vp_in z_3 575 := vp_in_iff.mpr ⟨by omega, by omega⟩
  refine va_iald hx hb hK hP 1 0 rfl rfl hin_4 dX11_owesOf_14 ?_
  refine lv_topi (fun z_5 ez_5 => ?_)
  rw [hQ9]
  exact rr_i hx hb hr hlocks trivial hS dX11_owesOf_15
abbrev cX11_lends : ByteArray := prog_13_method_47_code
def yX11_lends : MethodName := ⟨RX11, "lends", "(I)Z"⟩
theorem t1786 : Cond.code yX11_lends cX11_lends 2 (some .boolean) ∈ GW := gw_mem 1900 (by decide +kernel) (by decide +kernel)
theorem dX11_lends_0 : decode cX11_lends 0 = .ok (.aload_n 0, 1) := by decide +kernel
theorem dX11_lends_1 : decode cX11_lends 1 = .ok (.getfield 98, 3) := by decide +kernel
theorem dX11_lends_4 : decode cX11_lends 4 = .ok (.sipush 235, 3) := by decide +kernel
theorem dX11_lends_7 : decode cX11_lends 7 = .ok (.iload_n 1, 1) := by decide +kernel
theorem dX11_lends_8 : decode cX11_lends 8 = .ok (.iadd, 1) := by decide +kernel
theorem dX11_lends_9 : decode cX11_lends 9 = .ok (.iaload, 1) := by decide +kernel
theorem dX11_lends_10 : decode cX11_lends 10 = .ok (.iconst (-1), 1) := by decide +kernel
theorem dX11_lends_11 : decode cX11_lends 11 = .ok (.if_icmp .eq 7, 3) := by decide +kernel
theorem dX11_lends_18 : decode cX11_lends 18 = .ok (.iconst 0, 1) := by decide +kernel
theorem dX11_lends_19 : decode cX11_lends 19 = .ok (.ireturn, 1) := by decide +kernel
theorem dX11_lends_14 : decode cX11_lends 14 = .ok (.iconst 1, 1) := by decide +kernel
theorem dX11_lends_15 : decode cX11_lends 15 = .ok (.goto 4, 3) := by decide +kernel
set_option maxHeartbeats 4000000 in
set_option maxRecDepth 100000 in
theorem m_lends (l : Launch) (dC : Nat → ClassId) (dI : Nat → Nat → Nat) (cy : Nat → ClassId) (vnh : Nat → Int32) (vo : Nat) (voth : Int32) (vmt : Nat) (votp : Int32) (vosz : Int32) (volm : Int32) (voto : Int32) (vofr : Int32) (vokd : Int32) (vonu : Int32) (vosg : Int32) (vofa : Int32) (vopl : Int32) (vowd : Int64) (votd : Int32) (vmn : Nat) (vmr : Nat) (vmk : Nat) (vms : Nat) (vma : Nat) (vmm : Nat) (vmrn : Nat) (vmkn : Nat) (vmik : Nat) (vmon : Nat) (vosm : Int32) (vohp : Int32) (vmw : Nat) (vmf : Nat) (vmb : Nat) (vomb : Int32) (vmd : Nat) (vmc : Nat) (vocm : Int32) (voct : Int32) (vocy : Int32) (vmx : Nat) (votx : Int32) (vose : Int32) (vml : Nat) (vmwr : Nat) (voln : Int32) (vohw : Int32) (vmno : Nat) (vond : Int32) (voon : Int32) (vowi : Int32) (votop : Int32) (vmnf : Nat → Int32) (vm : Int32) (r_vm : -1 ≤ (vm : Int32).toInt ∧ (vm : Int32).toInt ≤ 6) (p_vmnf : NW vnh vmnf) : Met l yX11_lends (wl yX11_lends cX11_lends 2 (some .boolean)) ({ frames := 0, cells := 0, slots := 0, locals := 0 }) (Pr (dC, dI) vwCl cy [(vo, .inr (12, [.int voth, .ref vmt, .int votp, .int vosz, .int volm, .int voto, .int vofr, .int vokd, .int vonu, .int vosg, .int vofa, .int vopl, .long vowd, .int votd, .ref vmn, .ref vmr, .ref vmk, .ref vms, .ref vma, .ref vmm, .ref vmrn, .ref vmkn, .ref vmik, .ref vmon, .int vosm, .int vohp, .ref vmw, .ref vmf, .ref vmb, .int vomb, .ref vmd, .ref vmc, .int vocm, .int voct, .int vocy, .ref vmx, .int votx, .int vose, .ref vml, .ref vmwr, .int voln, .int vohw, .ref vmno, .int vond, .int voon, .int vowi, .int votop])), (vmn, .inl (cy 0, 575, .inl vmnf))] [.ref vo, .int vm]) (Ri (fun r => ((r = 0) ∨ (r = 1)))) 0 0 (fun _ => False) := by
  refine mr RX11 rfl (by decide +kernel) (Nat.le_of_ble_eq_true rfl) ?_
  intro p e s m below meth c hx hb hr hlocks av9 hav hts hown hml hK hP hS Q9 hQ9 ls hl
  have hl : lv_has ls 2 [(0, .ref vo), (1, .int vm)] := hl
  refine lv_aload_n hx hb dX11_lends_0 rfl (lv_at hl 0 rfl) ?_
  refine gf_X11_98 hx hb hts hown hK hP 0 rfl rfl dX11_lends_1 ?_
  refine lv_sipush (v := 235) hx hb dX11_lends_4 (by decide) ?_
  refine lv_iload_n hx hb dX11_lends_7 rfl (lv_at hl 1 rfl) ?_
  refine lv_iadd hx hb dX11_lends_8 ?_
  refine lv_topi (fun z_1 ez_1 => ?_)
  have k_235 : (235 : Int32).toInt = 235 := by decide
  have bz_1 : z_1.toInt = (235 : Int32).toInt + vm.toInt := i_add ez_1 (by omega) (by omega)
  have hin_2 : vp_in z_1 575 := vp_in_iff.mpr ⟨by omega, by omega⟩
  refine va_iald hx hb hK hP 1 0 rfl rfl hin_2 dX11_lends_9 ?_
  refine lv_topi (fun z_3 ez_3 => ?_)
  refine lv_iconst (v := (-1)) hx hb dX11_lends_10 (by decide) ?_
  have k_m1 : ((-1) : Int32).toInt = (-1) := by decide
  refine lv_icmp_eq (tgt := 18) hx hb dX11_lends_11 (by decide) (fun c_4 => ?_) (fun c_4 => ?_)
  · skip
    have c_4 : z_3.toInt = ((-1) : Int32).toInt := i_eq.mp c_4
    refine lv_iconst (v := 0) hx hb dX11_lends_18 (by decide) ?_
    have k_0 : (0 : Int32).toInt = 0 := by decide
    rw [hQ9]
    exact rr_z hx hb hr hlocks (Or.inl rfl) (show ((0 : Int32) = 0) ∨ ((0 : Int32) = 1) from (Or.inl rfl)) hS dX11_lends_19
  · skip
    have c_4 : ¬ (z_3.toInt = ((-1) : Int32).toInt) := fun h9 => c_4 (i_eq.mpr h9)
    refine lv_iconst (v := 1) hx hb dX11_lends_14 (by decide) ?_
    refine lv_goto (tgt := 19) hx hb dX11_lends_15 (by decide) ?_
    have k_1 : (1 : Int32).toInt = 1 := by decide
    rw [hQ9]
    exact rr_z hx hb hr hlocks (Or.inr rfl) (show ((1 : Int32) = 0) ∨ ((1 : Int32) = 1) from (Or.inr (rfl))) hS dX11_lends_19
abbrev cX11_weightOf : ByteArray := prog_13_method_48_code
def yX11_weightOf : MethodName := ⟨RX11, "weightOf", "(II)I"⟩
theorem t1722 : Cond.code yX11_weightOf cX11_weightOf 7 (some .int) ∈ GW := gw_mem 1836 (by decide +kernel) (by decide +kernel)
theorem dX11_weightOf_0 : decode cX11_weightOf 0 = .ok (.iconst 0, 1) := by decide +kernel
theorem dX11_weightOf_1 : decode cX11_weightOf 1 = .ok (.istore_n 3, 1) := by decide +kernel
theorem dX11_weightOf_2 : decode cX11_weightOf 2 = .ok (.iconst 0, 1) := by decide +kernel
theorem dX11_weightOf_3 : decode cX11_weightOf 3 = .ok (.istore 4, 2) := by decide +kernel
theorem dX11_weightOf_5 : decode cX11_weightOf 5 = .ok (.iload 4, 2) := by decide +kernel
theorem dX11_weightOf_7 : decode cX11_weightOf 7 = .ok (.aload_n 0, 1) := by decide +kernel
theorem dX11_weightOf_8 : decode cX11_weightOf 8 = .ok (.getfield 98, 3) := by decide +kernel
theorem dX11_weightOf_11 : decode cX11_weightOf 11 = .ok (.iconst 1, 1) := by decide +kernel
theorem dX11_weightOf_12 : decode cX11_weightOf 12 = .ok (.iaload, 1) := by decide +kernel
theorem dX11_weightOf_13 : decode cX11_weightOf 13 = .ok (.if_icmp .ge 126, 3) := by decide +kernel
theorem dX11_weightOf_139 : decode cX11_weightOf 139 = .ok (.iload_n 3, 1) := by decide +kernel
theorem dX11_weightOf_140 : decode cX11_weightOf 140 = .ok (.ireturn, 1) := by decide +kernel
theorem dX11_weightOf_16 : decode cX11_weightOf 16 = .ok (.aload_n 0, 1) := by decide +kernel
theorem dX11_weightOf_17 : decode cX11_weightOf 17 = .ok (.getfield 98, 3) := by decide +kernel
theorem dX11_weightOf_20 : decode cX11_weightOf 20 = .ok (.bipush 21, 2) := by decide +kernel
theorem dX11_weightOf_22 : decode cX11_weightOf 22 = .ok (.iload 4, 2) := by decide +kernel
theorem dX11_weightOf_24 : decode cX11_weightOf 24 = .ok (.iadd, 1) := by decide +kernel
theorem dX11_weightOf_25 : decode cX11_weightOf 25 = .ok (.iaload, 1) := by decide +kernel
theorem dX11_weightOf_26 : decode cX11_weightOf 26 = .ok (.iload_n 2, 1) := by decide +kernel
theorem dX11_weightOf_27 : decode cX11_weightOf 27 = .ok (.if_icmp .eq 6, 3) := by decide +kernel
theorem dX11_weightOf_63 : decode cX11_weightOf 63 = .ok (.iconst 0, 1) := by decide +kernel
theorem dX11_weightOf_64 : decode cX11_weightOf 64 = .ok (.istore 6, 2) := by decide +kernel
theorem dX11_weightOf_66 : decode cX11_weightOf 66 = .ok (.iload 6, 2) := by decide +kernel
theorem dX11_weightOf_68 : decode cX11_weightOf 68 = .ok (.aload_n 0, 1) := by decide +kernel
theorem dX11_weightOf_69 : decode cX11_weightOf 69 = .ok (.getfield 98, 3) := by decide +kernel
theorem dX11_weightOf_72 : decode cX11_weightOf 72 = .ok (.iconst 0, 1) := by decide +kernel
theorem dX11_weightOf_73 : decode cX11_weightOf 73 = .ok (.iaload, 1) := by decide +kernel
theorem dX11_weightOf_74 : decode cX11_weightOf 74 = .ok (.if_icmp .ge 43, 3) := by decide +kernel
theorem dX11_weightOf_117 : decode cX11_weightOf 117 = .ok (.iload_n 3, 1) := by decide +kernel
theorem dX11_weightOf_118 : decode cX11_weightOf 118 = .ok (.iload 5, 2) := by decide +kernel
theorem dX11_weightOf_120 : decode cX11_weightOf 120 = .ok (.aload_n 0, 1) := by decide +kernel
theorem dX11_weightOf_121 : decode cX11_weightOf 121 = .ok (.getfield 98, 3) := by decide +kernel
theorem dX11_weightOf_124 : decode cX11_weightOf 124 = .ok (.bipush 11, 2) := by decide +kernel
theorem dX11_weightOf_126 : decode cX11_weightOf 126 = .ok (.iload 4, 2) := by decide +kernel
theorem dX11_weightOf_128 : decode cX11_weightOf 128 = .ok (.iadd, 1) := by decide +kernel
theorem dX11_weightOf_129 : decode cX11_weightOf 129 = .ok (.iaload, 1) := by decide +kernel
theorem dX11_weightOf_130 : decode cX11_weightOf 130 = .ok (.imul, 1) := by decide +kernel
theorem dX11_weightOf_131 : decode cX11_weightOf 131 = .ok (.iadd, 1) := by decide +kernel
theorem dX11_weightOf_132 : decode cX11_weightOf 132 = .ok (.istore_n 3, 1) := by decide +kernel
theorem dX11_weightOf_133 : decode cX11_weightOf 133 = .ok (.iinc 4 1, 3) := by decide +kernel
theorem dX11_weightOf_136 : decode cX11_weightOf 136 = .ok (.goto (-131), 3) := by decide +kernel
theorem dX11_weightOf_77 : decode cX11_weightOf 77 = .ok (.aload_n 0, 1) := by decide +kernel
theorem dX11_weightOf_78 : decode cX11_weightOf 78 = .ok (.getfield 98, 3) := by decide +kernel
theorem dX11_weightOf_81 : decode cX11_weightOf 81 = .ok (.sipush 235, 3) := by decide +kernel
theorem dX11_weightOf_84 : decode cX11_weightOf 84 = .ok (.iload 6, 2) := by decide +kernel
theorem dX11_weightOf_86 : decode cX11_weightOf 86 = .ok (.iadd, 1) := by decide +kernel
theorem dX11_weightOf_87 : decode cX11_weightOf 87 = .ok (.iaload, 1) := by decide +kernel
theorem dX11_weightOf_88 : decode cX11_weightOf 88 = .ok (.iload_n 1, 1) := by decide +kernel
theorem dX11_weightOf_89 : decode cX11_weightOf 89 = .ok (.if_icmp .ne 22, 3) := by decide +kernel
theorem dX11_weightOf_111 : decode cX11_weightOf 111 = .ok (.iinc 6 1, 3) := by decide +kernel
theorem dX11_weightOf_114 : decode cX11_weightOf 114 = .ok (.goto (-48), 3) := by decide +kernel
theorem dX11_weightOf_92 : decode cX11_weightOf 92 = .ok (.aload_n 0, 1) := by decide +kernel
theorem dX11_weightOf_93 : decode cX11_weightOf 93 = .ok (.getfield 98, 3) := by decide +kernel
theorem dX11_weightOf_96 : decode cX11_weightOf 96 = .ok (.sipush 242, 3) := by decide +kernel
theorem dX11_weightOf_99 : decode cX11_weightOf 99 = .ok (.iload 6, 2) := by decide +kernel
theorem dX11_weightOf_101 : decode cX11_weightOf 101 = .ok (.iadd, 1) := by decide +kernel
theorem dX11_weightOf_102 : decode cX11_weightOf 102 = .ok (.iaload, 1) := by decide +kernel
theorem dX11_weightOf_103 : decode cX11_weightOf 103 = .ok (.iload 4, 2) := by decide +kernel
theorem dX11_weightOf_105 : decode cX11_weightOf 105 = .ok (.if_icmp .ne 6, 3) := by decide +kernel
theorem dX11_weightOf_108 : decode cX11_weightOf 108 = .ok (.iinc 5 1, 3) := by decide +kernel
theorem dX11_weightOf_33 : decode cX11_weightOf 33 = .ok (.aload_n 0, 1) := by decide +kernel
theorem dX11_weightOf_34 : decode cX11_weightOf 34 = .ok (.iload_n 1, 1) := by decide +kernel
theorem dX11_weightOf_35 : decode cX11_weightOf 35 = .ok (.iload 4, 2) := by decide +kernel
theorem dX11_weightOf_37 : decode cX11_weightOf 37 = .ok (.invokevirtual 228, 3) := by decide +kernel
theorem t1723 : Cond.methodLink RX11 228 yX11_didOf ∈ GW := gw_mem 1837 (by decide +kernel) (by decide +kernel)
theorem t1725 : Cond.instanceMethod yX11_didOf ∈ GW := gw_mem 1839 (by decide +kernel) (by decide +kernel)
theorem s66 : Cond.selects RX11 yX11_didOf yX11_didOf ∈ GW := gw_mem 66 (by decide +kernel) (by decide +kernel)
theorem cw_X11_228 {R : Room} {s : State} {args : Array Value} {rm : Room} {mc ms : Nat} (hts : ∀ w ∈ GW, w.before args s = true) (hrc : rm.cells = mc) (hrs : rm.slots = ms) (hR : rm.frames + 1 ≤ R.frames ∧ 8 + (3 + 11) + rm.locals ≤ R.locals) : CallW R s args RX11 RX11 228 yX11_didOf cX11_didOf 3 (some .int) (wl yX11_didOf cX11_didOf 3 (some .int)) rm mc ms 2 := cwV 2 hts (gi_V t1723 t1725 s66 t18 t1726) rfl hrc hrs (by decide +kernel) hR
theorem dX11_weightOf_40 : decode cX11_weightOf 40 = .ok (.aload_n 0, 1) := by decide +kernel
theorem dX11_weightOf_41 : decode cX11_weightOf 41 = .ok (.getfield 98, 3) := by decide +kernel
theorem dX11_weightOf_44 : decode cX11_weightOf 44 = .ok (.sipush 242, 3) := by decide +kernel
theorem dX11_weightOf_47 : decode cX11_weightOf 47 = .ok (.iload_n 1, 1) := by decide +kernel
theorem dX11_weightOf_48 : decode cX11_weightOf 48 = .ok (.iadd, 1) := by decide +kernel
theorem dX11_weightOf_49 : decode cX11_weightOf 49 = .ok (.iaload, 1) := by decide +kernel
theorem dX11_weightOf_50 : decode cX11_weightOf 50 = .ok (.iload 4, 2) := by decide +kernel
theorem dX11_weightOf_52 : decode cX11_weightOf 52 = .ok (.if_icmp .ne 7, 3) := by decide +kernel
theorem dX11_weightOf_59 : decode cX11_weightOf 59 = .ok (.iconst 0, 1) := by decide +kernel
theorem dX11_weightOf_60 : decode cX11_weightOf 60 = .ok (.isub, 1) := by decide +kernel
theorem dX11_weightOf_61 : decode cX11_weightOf 61 = .ok (.istore 5, 2) := by decide +kernel
theorem dX11_weightOf_55 : decode cX11_weightOf 55 = .ok (.iconst 1, 1) := by decide +kernel
theorem dX11_weightOf_56 : decode cX11_weightOf 56 = .ok (.goto 4, 3) := by decide +kernel
theorem dX11_weightOf_30 : decode cX11_weightOf 30 = .ok (.goto 103, 3) := by decide +kernel
set_option maxHeartbeats 4000000 in
set_option maxRecDepth 100000 in
theorem m_weightOf (l : Launch) (dC : Nat → ClassId) (dI : Nat → Nat → Nat) (cy : Nat → ClassId) (vnh : Nat → Int32) (vo : Nat) (voth : Int32) (vmt : Nat) (votp : Int32) (vosz : Int32) (volm : Int32) (voto : Int32) (vofr : Int32) (vokd : Int32) (vonu : Int32) (vosg : Int32) (vofa : Int32) (vopl : Int32) (vowd : Int64) (votd : Int32) (vmn : Nat) (vmr : Nat) (vmk : Nat) (vms : Nat) (vma : Nat) (vmm : Nat) (vmrn : Nat) (vmkn : Nat) (vmik : Nat) (vmon : Nat) (vosm : Int32) (vohp : Int32) (vmw : Nat) (vmf : Nat) (vmb : Nat) (vomb : Int32) (vmd : Nat) (vmc : Nat) (vocm : Int32) (voct : Int32) (vocy : Int32) (vmx : Nat) (votx : Int32) (vose : Int32) (vml : Nat) (vmwr : Nat) (voln : Int32) (vohw : Int32) (vmno : Nat) (vond : Int32) (voon : Int32) (vowi : Int32) (votop : Int32) (vmnf : Nat → Int32) (vm : Int32) (vcr : Int32) (r_vm : -1 ≤ (vm : Int32).toInt ∧ (vm : Int32).toInt ≤ 6) (p_vmnf : NW vnh vmnf) : Met l yX11_weightOf (wl yX11_weightOf cX11_weightOf 7 (some .int)) ({ frames := 1, cells := 0, slots := 0, locals := 64 }) (Pr (dC, dI) vwCl cy [(vo, .inr (12, [.int voth, .ref vmt, .int votp, .int vosz, .int volm, .int voto, .int vofr, .int vokd, .int vonu, .int vosg, .int vofa, .int vopl, .long vowd, .int votd, .ref vmn, .ref vmr, .ref vmk, .ref vms, .ref vma, .ref vmm, .ref vmrn, .ref vmkn, .ref vmik, .ref vmon, .int vosm, .int vohp, .ref vmw, .ref vmf, .ref vmb, .int vomb, .ref vmd, .ref vmc, .int vocm, .int voct, .int vocy, .ref vmx, .int votx, .int vose, .ref vml, .ref vmwr, .int voln, .int vohw, .ref vmno, .int vond, .int voon, .int vowi, .int votop])), (vmn, .inl (cy 0, 575, .inl vmnf))] [.ref vo, .int vm, .int vcr]) (Ri (fun r => True)) 0 0 (fun _ => False) := by
  refine mr RX11 rfl (by decide +kernel) (Nat.le_of_ble_eq_true rfl) ?_
  intro p e s m below meth c hx hb hr hlocks av9 hav hts hown hml hK hP hS Q9 hQ9 ls hl
  have hl : lv_has ls 7 [(0, .ref vo), (1, .int vm), (2, .int vcr)] := hl
  refine lv_iconst (v := 0) hx hb dX11_weightOf_0 (by decide) ?_
  refine lv_istore_n (lv' := [(3, .int 0), (0, .ref vo), (1, .int vm), (2, .int vcr)]) hx hb dX11_weightOf_1 rfl hl (by decide) rfl (fun ls hl => ?_)
  refine lv_iconst (v := 0) hx hb dX11_weightOf_2 (by decide) ?_
  refine lv_istore (lv' := [(4, .int 0), (3, .int 0), (0, .ref vo), (1, .int vm), (2, .int vcr)]) hx hb dX11_weightOf_3 hl (by decide) rfl (fun ls hl => ?_)
  have loop1 : ∀ (n1 : Nat) (x_3 : Int32) (x_2 : Int32), (0 ≤ x_2.toInt ∧ x_2.toInt ≤ 10) → 10 - x_2.toInt < (n1 : Int) → ∀ (H : Heap) (locs : List Loc), va_P (dC, dI) vwCl [(vo, .inr (12, [.int voth, .ref vmt, .int votp, .int vosz, .int volm, .int voto, .int vofr, .int vokd, .int vonu, .int vosg, .int vofa, .int vopl, .long vowd, .int votd, .ref vmn, .ref vmr, .ref vmk, .ref vms, .ref vma, .ref vmm, .ref vmrn, .ref vmkn, .ref vmik, .ref vmon, .int vosm, .int vohp, .ref vmw, .ref vmf, .ref vmb, .int vomb, .ref vmd, .ref vmc, .int vocm, .int voct, .int vocy, .ref vmx, .int votx, .int vose, .ref vml, .ref vmwr, .int voln, .int vohw, .ref vmno, .int vond, .int voon, .int vowi, .int votop])), (vmn, .inl (cy 0, 575, .inl vmnf))] H → va_S (fun _ => False) s.heap H locs → ∀ ls : Array Slot, lv_has ls 7 [(4, .int x_2), (3, .int x_3), (0, .ref vo), (1, .int vm), (2, .int vcr)] → W p l e ({ frames := 1, cells := 0, slots := 0, locals := 64 }) s m av9 below meth c H locs 0 0 Q9 (F0 m 5 ls []) := by
    intro n1
    induction n1 with
    | zero =>
      intro x_3 x_2 bx_2 hn1 H locs hP hS ls hl
      exfalso; omega
    | succ n1 ih1 =>
      intro x_3 x_2 bx_2 hn1 H locs hP hS ls hl
      refine lv_iload hx hb dX11_weightOf_5 (lv_at hl 0 rfl) ?_
      refine lv_aload_n hx hb dX11_weightOf_7 rfl (lv_at hl 2 rfl) ?_
      refine gf_X11_98 hx hb hts hown hK hP 0 rfl rfl dX11_weightOf_8 ?_
      refine lv_iconst (v := 1) hx hb dX11_weightOf_11 (by decide) ?_
      have k_1 : (1 : Int32).toInt = 1 := by decide
      have hin_4 : vp_in (1 : Int32) 575 := vp_in_iff.mpr ⟨by omega, by omega⟩
      refine va_iald hx hb hK hP 1 0 rfl rfl hin_4 dX11_weightOf_12 ?_
      refine lv_topi (fun z_5 ez_5 => ?_)
      have bz_5 := p_vmnf.a1 (x := 1) ⟨by omega, by omega⟩ ez_5
      have tz_5 : z_5.toInt = (vmnf 1).toInt := by rw [ez_5]; rfl
      refine lv_icmp_ge (tgt := 139) hx hb dX11_weightOf_13 (by decide) (fun c_6 => ?_) (fun c_6 => ?_)
      · skip
        have c_6 : z_5.toInt ≤ x_2.toInt := i_le.mp c_6
        refine lv_iload_n hx hb dX11_weightOf_139 rfl (lv_at hl 1 rfl) ?_
        rw [hQ9]
        exact rr_i hx hb hr hlocks trivial hS dX11_weightOf_140
      · skip
        have c_6 : ¬ (z_5.toInt ≤ x_2.toInt) := fun h9 => c_6 (i_le.mpr h9)
        refine lv_aload_n hx hb dX11_weightOf_16 rfl (lv_at hl 2 rfl) ?_
        refine gf_X11_98 hx hb hts hown hK hP 0 rfl rfl dX11_weightOf_17 ?_
        refine lv_bipush (v := 21) hx hb dX11_weightOf_20 (by decide) ?_
        refine lv_iload hx hb dX11_weightOf_22 (lv_at hl 0 rfl) ?_
        refine lv_iadd hx hb dX11_weightOf_24 ?_
        refine lv_topi (fun z_7 ez_7 => ?_)
        have k_21 : (21 : Int32).toInt = 21 := by decide
        have bz_7 : z_7.toInt = (21 : Int32).toInt + x_2.toInt := i_add ez_7 (by omega) (by omega)
        have hin_8 : vp_in z_7 575 := vp_in_iff.mpr ⟨by omega, by omega⟩
        refine va_iald hx hb hK hP 1 0 rfl rfl hin_8 dX11_weightOf_25 ?_
        refine lv_topi (fun z_9 ez_9 => ?_)
        refine lv_iload_n hx hb dX11_weightOf_26 rfl (lv_at hl 4 rfl) ?_
        refine lv_icmp_eq (tgt := 33) hx hb dX11_weightOf_27 (by decide) (fun c_10 => ?_) (fun c_10 => ?_)
        · skip
          have c_10 : z_9.toInt = vcr.toInt := i_eq.mp c_10
          have join11 : ∀ (x_12 : Int32), ∀ (H : Heap) (locs : List Loc), va_P (dC, dI) vwCl [(vo, .inr (12, [.int voth, .ref vmt, .int votp, .int vosz, .int volm, .int voto, .int vofr, .int vokd, .int vonu, .int vosg, .int vofa, .int vopl, .long vowd, .int votd, .ref vmn, .ref vmr, .ref vmk, .ref vms, .ref vma, .ref vmm, .ref vmrn, .ref vmkn, .ref vmik, .ref vmon, .int vosm, .int vohp, .ref vmw, .ref vmf, .ref vmb, .int vomb, .ref vmd, .ref vmc, .int vocm, .int voct, .int vocy, .ref vmx, .int votx, .int vose, .ref vml, .ref vmwr, .int voln, .int vohw, .ref vmno, .int vond, .int voon, .int vowi, .int votop])), (vmn, .inl (cy 0, 575, .inl vmnf))] H → va_S (fun _ => False) s.heap H locs → ∀ ls : Array Slot, lv_has ls 7 [(5, .int x_12), (4, .int x_2), (3, .int x_3), (0, .ref vo), (1, .int vm), (2, .int vcr)] → W p l e ({ frames := 1, cells := 0, slots := 0, locals := 64 }) s m av9 below meth c H locs 0 0 Q9 (F0 m 63 ls []) := by
            intro x_12 H locs hP hS ls hl
            refine lv_iconst (v := 0) hx hb dX11_weightOf_63 (by decide) ?_
            refine lv_istore (lv' := [(6, .int 0), (5, .int x_12), (4, .int x_2), (3, .int x_3), (0, .ref vo), (1, .int vm), (2, .int vcr)]) hx hb dX11_weightOf_64 hl (by decide) rfl (fun ls hl => ?_)
            have loop13 : ∀ (n13 : Nat) (x_15 : Int32) (x_14 : Int32), (0 ≤ x_14.toInt ∧ x_14.toInt ≤ 7) → 7 - x_14.toInt < (n13 : Int) → ∀ (H : Heap) (locs : List Loc), va_P (dC, dI) vwCl [(vo, .inr (12, [.int voth, .ref vmt, .int votp, .int vosz, .int volm, .int voto, .int vofr, .int vokd, .int vonu, .int vosg, .int vofa, .int vopl, .long vowd, .int votd, .ref vmn, .ref vmr, .ref vmk, .ref vms, .ref vma, .ref vmm, .ref vmrn, .ref vmkn, .ref vmik, .ref vmon, .int vosm, .int vohp, .ref vmw, .ref vmf, .ref vmb, .int vomb, .ref vmd, .ref vmc, .int vocm, .int voct, .int vocy, .ref vmx, .int votx, .int vose, .ref vml, .ref vmwr, .int voln, .int vohw, .ref vmno, .int vond, .int voon, .int vowi, .int votop])), (vmn, .inl (cy 0, 575, .inl vmnf))] H → va_S (fun _ => False) s.heap H locs → ∀ ls : Array Slot, lv_has ls 7 [(6, .int x_14), (5, .int x_15), (4, .int x_2), (3, .int x_3), (0, .ref vo), (1, .int vm), (2, .int vcr)] → W p l e ({ frames := 1, cells := 0, slots := 0, locals := 64 }) s m av9 below meth c H locs 0 0 Q9 (F0 m 66 ls []) := by
              intro n13
              induction n13 with
              | zero =>
                intro x_15 x_14 bx_14 hn13 H locs hP hS ls hl
                exfalso; omega
              | succ n13 ih13 =>
                intro x_15 x_14 bx_14 hn13 H locs hP hS ls hl
                refine lv_iload hx hb dX11_weightOf_66 (lv_at hl 0 rfl) ?_
                refine lv_aload_n hx hb dX11_weightOf_68 rfl (lv_at hl 4 rfl) ?_
                refine gf_X11_98 hx hb hts hown hK hP 0 rfl rfl dX11_weightOf_69 ?_
                refine lv_iconst (v := 0) hx hb dX11_weightOf_72 (by decide) ?_
                have k_0 : (0 : Int32).toInt = 0 := by decide
                have hin_16 : vp_in (0 : Int32) 575 := vp_in_iff.mpr ⟨by omega, by omega⟩
                refine va_iald hx hb hK hP 1 0 rfl rfl hin_16 dX11_weightOf_73 ?_
                refine lv_topi (fun z_17 ez_17 => ?_)
                have bz_17 := p_vmnf.a0 (x := 0) ⟨by omega, by omega⟩ ez_17
                have tz_17 : z_17.toInt = (vmnf 0).toInt := by rw [ez_17]; rfl
                refine lv_icmp_ge (tgt := 117) hx hb dX11_weightOf_74 (by decide) (fun c_18 => ?_) (fun c_18 => ?_)
                · skip
                  have c_18 : z_17.toInt ≤ x_14.toInt := i_le.mp c_18
                  refine lv_iload_n hx hb dX11_weightOf_117 rfl (lv_at hl 3 rfl) ?_
                  refine lv_iload hx hb dX11_weightOf_118 (lv_at hl 1 rfl) ?_
                  refine lv_aload_n hx hb dX11_weightOf_120 rfl (lv_at hl 4 rfl) ?_
                  refine gf_X11_98 hx hb hts hown hK hP 0 rfl rfl dX11_weightOf_121 ?_
                  refine lv_bipush (v := 11) hx hb dX11_weightOf_124 (by decide) ?_
                  refine lv_iload hx hb dX11_weightOf_126 (lv_at hl 2 rfl) ?_
                  refine lv_iadd hx hb dX11_weightOf_128 ?_
                  refine lv_topi (fun z_19 ez_19 => ?_)
                  have k_11 : (11 : Int32).toInt = 11 := by decide
                  have bz_19 : z_19.toInt = (11 : Int32).toInt + x_2.toInt := i_add ez_19 (by omega) (by omega)
                  have hin_20 : vp_in z_19 575 := vp_in_iff.mpr ⟨by omega, by omega⟩
                  refine va_iald hx hb hK hP 1 0 rfl rfl hin_20 dX11_weightOf_129 ?_
                  refine lv_topi (fun z_21 ez_21 => ?_)
                  have bz_21 := p_vmnf.aw (x := z_19) ⟨by omega, by omega⟩ ez_21
                  refine lv_imul hx hb dX11_weightOf_130 ?_
                  refine lv_topi (fun z_22 ez_22 => ?_)
                  refine lv_iadd hx hb dX11_weightOf_131 ?_
                  refine lv_topi (fun z_23 ez_23 => ?_)
                  refine lv_istore_n (lv' := [(3, .int z_23), (6, .int x_14), (5, .int x_15), (4, .int x_2), (0, .ref vo), (1, .int vm), (2, .int vcr)]) hx hb dX11_weightOf_132 rfl hl (by decide) rfl (fun ls hl => ?_)
                  obtain ⟨z_24, ez_24⟩ : ∃ z : Int32, z = x_2 + 1 := ⟨_, rfl⟩
                  have bz_24 : z_24.toInt = x_2.toInt + (1 : Int32).toInt := i_add ez_24 (by omega) (by omega)
                  refine lv_iinc (v := z_24) (lv' := [(4, .int z_24), (3, .int z_23), (6, .int x_14), (5, .int x_15), (0, .ref vo), (1, .int vm), (2, .int vcr)]) hx hb dX11_weightOf_133 hl (k := 3) rfl ez_24.symm (by decide) rfl (fun ls hl => ?_)
                  refine lv_goto (tgt := 5) hx hb dX11_weightOf_136 (by decide) ?_
                  exact ih1 z_23 z_24 ⟨by omega, by omega⟩ (by omega) _ _ (hP.sub [0, 1] rfl) hS ls (lv_sub hl [0, 1, 4, 5, 6] rfl)
                · skip
                  have c_18 : ¬ (z_17.toInt ≤ x_14.toInt) := fun h9 => c_18 (i_le.mpr h9)
                  refine lv_aload_n hx hb dX11_weightOf_77 rfl (lv_at hl 4 rfl) ?_
                  refine gf_X11_98 hx hb hts hown hK hP 0 rfl rfl dX11_weightOf_78 ?_
                  refine lv_sipush (v := 235) hx hb dX11_weightOf_81 (by decide) ?_
                  refine lv_iload hx hb dX11_weightOf_84 (lv_at hl 0 rfl) ?_
                  refine lv_iadd hx hb dX11_weightOf_86 ?_
                  refine lv_topi (fun z_25 ez_25 => ?_)
                  have k_235 : (235 : Int32).toInt = 235 := by decide
                  have bz_25 : z_25.toInt = (235 : Int32).toInt + x_14.toInt := i_add ez_25 (by omega) (by omega)
                  have hin_26 : vp_in z_25 575 := vp_in_iff.mpr ⟨by omega, by omega⟩
                  refine va_iald hx hb hK hP 1 0 rfl rfl hin_26 dX11_weightOf_87 ?_
                  refine lv_topi (fun z_27 ez_27 => ?_)
                  refine lv_iload_n hx hb dX11_weightOf_88 rfl (lv_at hl 5 rfl) ?_
                  refine lv_icmp_ne (tgt := 111) hx hb dX11_weightOf_89 (by decide) (fun c_28 => ?_) (fun c_28 => ?_)
                  · skip
                    have c_28 : ¬ (z_27.toInt = vm.toInt) := fun h9 => c_28 (i_eq.mpr h9)
                    obtain ⟨z_29, ez_29⟩ : ∃ z : Int32, z = x_14 + 1 := ⟨_, rfl⟩
                    have bz_29 : z_29.toInt = x_14.toInt + (1 : Int32).toInt := i_add ez_29 (by omega) (by omega)
                    refine lv_iinc (v := z_29) (lv' := [(6, .int z_29), (5, .int x_15), (4, .int x_2), (3, .int x_3), (0, .ref vo), (1, .int vm), (2, .int vcr)]) hx hb dX11_weightOf_111 hl (k := 0) rfl ez_29.symm (by decide) rfl (fun ls hl => ?_)
                    refine lv_goto (tgt := 66) hx hb dX11_weightOf_114 (by decide) ?_
                    exact ih13 x_15 z_29 ⟨by omega, by omega⟩ (by omega) _ _ (hP.sub [0, 1] rfl) hS ls (lv_sub hl [0, 1, 2, 3, 4, 5, 6] rfl)
                  · skip
                    have c_28 : z_27.toInt = vm.toInt := i_eq.mp c_28
                    refine lv_aload_n hx hb dX11_weightOf_92 rfl (lv_at hl 4 rfl) ?_
                    refine gf_X11_98 hx hb hts hown hK hP 0 rfl rfl dX11_weightOf_93 ?_
                    refine lv_sipush (v := 242) hx hb dX11_weightOf_96 (by decide) ?_
                    refine lv_iload hx hb dX11_weightOf_99 (lv_at hl 0 rfl) ?_
                    refine lv_iadd hx hb dX11_weightOf_101 ?_
                    refine lv_topi (fun z_30 ez_30 => ?_)
                    have k_242 : (242 : Int32).toInt = 242 := by decide
                    have bz_30 : z_30.toInt = (242 : Int32).toInt + x_14.toInt := i_add ez_30 (by omega) (by omega)
                    have hin_31 : vp_in z_30 575 := vp_in_iff.mpr ⟨by omega, by omega⟩
                    refine va_iald hx hb hK hP 1 0 rfl rfl hin_31 dX11_weightOf_102 ?_
                    refine lv_topi (fun z_32 ez_32 => ?_)
                    refine lv_iload hx hb dX11_weightOf_103 (lv_at hl 2 rfl) ?_
                    refine lv_icmp_ne (tgt := 111) hx hb dX11_weightOf_105 (by decide) (fun c_33 => ?_) (fun c_33 => ?_)
                    · skip
                      have c_33 : ¬ (z_32.toInt = x_2.toInt) := fun h9 => c_33 (i_eq.mpr h9)
                      obtain ⟨z_34, ez_34⟩ : ∃ z : Int32, z = x_14 + 1 := ⟨_, rfl⟩
                      have bz_34 : z_34.toInt = x_14.toInt + (1 : Int32).toInt := i_add ez_34 (by omega) (by omega)
                      refine lv_iinc (v := z_34) (lv' := [(6, .int z_34), (5, .int x_15), (4, .int x_2), (3, .int x_3), (0, .ref vo), (1, .int vm), (2, .int vcr)]) hx hb dX11_weightOf_111 hl (k := 0) rfl ez_34.symm (by decide) rfl (fun ls hl => ?_)
                      refine lv_goto (tgt := 66) hx hb dX11_weightOf_114 (by decide) ?_
                      exact ih13 x_15 z_34 ⟨by omega, by omega⟩ (by omega) _ _ (hP.sub [0, 1] rfl) hS ls (lv_sub hl [0, 1, 2, 3, 4, 5, 6] rfl)
                    · skip
                      have c_33 : z_32.toInt = x_2.toInt := i_eq.mp c_33
                      obtain ⟨z_35, ez_35⟩ : ∃ z : Int32, z = x_15 + 1 := ⟨_, rfl⟩
                      refine lv_iinc (v := z_35) (lv' := [(5, .int z_35), (6, .int x_14), (4, .int x_2), (3, .int x_3), (0, .ref vo), (1, .int vm), (2, .int vcr)]) hx hb dX11_weightOf_108 hl (k := 1) rfl ez_35.symm (by decide) rfl (fun ls hl => ?_)
                      obtain ⟨z_36, ez_36⟩ : ∃ z : Int32, z = x_14 + 1 := ⟨_, rfl⟩
                      have bz_36 : z_36.toInt = x_14.toInt + (1 : Int32).toInt := i_add ez_36 (by omega) (by omega)
                      refine lv_iinc (v := z_36) (lv' := [(6, .int z_36), (5, .int z_35), (4, .int x_2), (3, .int x_3), (0, .ref vo), (1, .int vm), (2, .int vcr)]) hx hb dX11_weightOf_111 hl (k := 1) rfl ez_36.symm (by decide) rfl (fun ls hl => ?_)
                      refine lv_goto (tgt := 66) hx hb dX11_weightOf_114 (by decide) ?_
                      exact ih13 z_35 z_36 ⟨by omega, by omega⟩ (by omega) _ _ (hP.sub [0, 1] rfl) hS ls (lv_sub hl [0, 1, 2, 3, 4, 5, 6] rfl)
            have k_0 : (0 : Int32).toInt = 0 := by decide
            exact loop13 ((7 - (0 : Int32).toInt).toNat + 1) x_12 0 ⟨by omega, by omega⟩ (by omega) _ _ hP hS ls (lv_sub hl [0, 1, 2, 3, 4, 5, 6] rfl)
          refine lv_aload_n hx hb dX11_weightOf_33 rfl (lv_at hl 2 rfl) ?_
          refine lv_iload_n hx hb dX11_weightOf_34 rfl (lv_at hl 3 rfl) ?_
          refine lv_iload hx hb dX11_weightOf_35 (lv_at hl 0 rfl) ?_
          refine jr_i (rVr (As := [.int vm, .int x_2]) (rest := []) (ci := 12) ⟨hx, hb, hml, hown, hts⟩ (m_didOf l dC dI cy vnh vo voth vmt votp vosz volm voto vofr vokd vonu vosg vofa vopl vowd votd vmn vmr vmk vms vma vmm vmrn vmkn vmik vmon vosm vohp vmw vmf vmb vomb vmd vmc vocm voct vocy vmx votx vose vml vmwr voln vohw vmno vond voon vowi votop vmnf vm x_2 r_vm ⟨by omega, by omega⟩ p_vmnf) (cw_X11_228 hts rfl rfl ⟨Nat.le_of_ble_eq_true rfl, Nat.le_of_ble_eq_true rfl⟩) hP hK [0, 1] rfl rfl rfl rfl hl.1 rfl (Nat.le_of_ble_eq_true rfl) dX11_weightOf_37 ⟨Nat.le_of_ble_eq_true rfl, Nat.le_of_ble_eq_true rfl⟩) hP hS (fun r_37 H locs hp_38 hP hS => ?_)
          refine lv_aload_n hx hb dX11_weightOf_40 rfl (lv_at hl 2 rfl) ?_
          refine gf_X11_98 hx hb hts hown hK hP 0 rfl rfl dX11_weightOf_41 ?_
          refine lv_sipush (v := 242) hx hb dX11_weightOf_44 (by decide) ?_
          refine lv_iload_n hx hb dX11_weightOf_47 rfl (lv_at hl 3 rfl) ?_
          refine lv_iadd hx hb dX11_weightOf_48 ?_
          refine lv_topi (fun z_39 ez_39 => ?_)
          have k_242 : (242 : Int32).toInt = 242 := by decide
          have bz_39 : z_39.toInt = (242 : Int32).toInt + vm.toInt := i_add ez_39 (by omega) (by omega)
          have hin_40 : vp_in z_39 575 := vp_in_iff.mpr ⟨by omega, by omega⟩
          refine va_iald hx hb hK hP 1 0 rfl rfl hin_40 dX11_weightOf_49 ?_
          refine lv_topi (fun z_41 ez_41 => ?_)
          refine lv_iload hx hb dX11_weightOf_50 (lv_at hl 0 rfl) ?_
          refine lv_icmp_ne (tgt := 59) hx hb dX11_weightOf_52 (by decide) (fun c_42 => ?_) (fun c_42 => ?_)
          · skip
            have c_42 : ¬ (z_41.toInt = x_2.toInt) := fun h9 => c_42 (i_eq.mpr h9)
            refine lv_iconst (v := 0) hx hb dX11_weightOf_59 (by decide) ?_
            refine lv_isub hx hb dX11_weightOf_60 ?_
            refine lv_topi (fun z_43 ez_43 => ?_)
            have k_0 : (0 : Int32).toInt = 0 := by decide
            have wh_44 := i_rng r_37
            have bz_43 : z_43.toInt = r_37.toInt - (0 : Int32).toInt := i_sub ez_43 (by omega) (by omega)
            refine lv_istore (lv' := [(5, .int z_43), (4, .int x_2), (3, .int x_3), (0, .ref vo), (1, .int vm), (2, .int vcr)]) hx hb dX11_weightOf_61 hl (by decide) rfl (fun ls hl => ?_)
            exact join11 z_43 _ _ (hP.sub [0, 1] rfl) hS ls (lv_sub hl [0, 1, 2, 3, 4, 5] rfl)
          · skip
            have c_42 : z_41.toInt = x_2.toInt := i_eq.mp c_42
            refine lv_iconst (v := 1) hx hb dX11_weightOf_55 (by decide) ?_
            refine lv_goto (tgt := 60) hx hb dX11_weightOf_56 (by decide) ?_
            refine lv_isub hx hb dX11_weightOf_60 ?_
            refine lv_topi (fun z_45 ez_45 => ?_)
            refine lv_istore (lv' := [(5, .int z_45), (4, .int x_2), (3, .int x_3), (0, .ref vo), (1, .int vm), (2, .int vcr)]) hx hb dX11_weightOf_61 hl (by decide) rfl (fun ls hl => ?_)
            exact join11 z_45 _ _ (hP.sub [0, 1] rfl) hS ls (lv_sub hl [0, 1, 2, 3, 4, 5] rfl)
        · skip
          have c_10 : ¬ (z_9.toInt = vcr.toInt) := fun h9 => c_10 (i_eq.mpr h9)
          refine lv_goto (tgt := 133) hx hb dX11_weightOf_30 (by decide) ?_
          obtain ⟨z_46, ez_46⟩ : ∃ z : Int32, z = x_2 + 1 := ⟨_, rfl⟩
          have bz_46 : z_46.toInt = x_2.toInt + (1 : Int32).toInt := i_add ez_46 (by omega) (by omega)
          refine lv_iinc (v := z_46) (lv' := [(4, .int z_46), (3, .int x_3), (0, .ref vo), (1, .int vm), (2, .int vcr)]) hx hb dX11_weightOf_133 hl (k := 0) rfl ez_46.symm (by decide) rfl (fun ls hl => ?_)
          refine lv_goto (tgt := 5) hx hb dX11_weightOf_136 (by decide) ?_
          exact ih1 x_3 z_46 ⟨by omega, by omega⟩ (by omega) _ _ (hP.sub [0, 1] rfl) hS ls (lv_sub hl [0, 1, 2, 3, 4] rfl)
  have k_0 : (0 : Int32).toInt = 0 := by decide
  exact loop1 ((10 - (0 : Int32).toInt).toNat + 1) 0 0 ⟨by omega, by omega⟩ (by omega) _ _ hP hS ls (lv_sub hl [0, 1, 2, 3, 4] rfl)
abbrev cX11_owesAll : ByteArray := prog_13_method_49_code
def yX11_owesAll : MethodName := ⟨RX11, "owesAll", "(I)I"⟩
theorem t1734 : Cond.code yX11_owesAll cX11_owesAll 4 (some .int) ∈ GW := gw_mem 1848 (by decide +kernel) (by decide +kernel)
theorem dX11_owesAll_0 : decode cX11_owesAll 0 = .ok (.iconst 0, 1) := by decide +kernel
theorem dX11_owesAll_1 : decode cX11_owesAll 1 = .ok (.istore_n 2, 1) := by decide +kernel
theorem dX11_owesAll_2 : decode cX11_owesAll 2 = .ok (.iconst 0, 1) := by decide +kernel
theorem dX11_owesAll_3 : decode cX11_owesAll 3 = .ok (.istore_n 3, 1) := by decide +kernel
theorem dX11_owesAll_4 : decode cX11_owesAll 4 = .ok (.iload_n 3, 1) := by decide +kernel
theorem dX11_owesAll_5 : decode cX11_owesAll 5 = .ok (.bipush 7, 2) := by decide +kernel
theorem dX11_owesAll_7 : decode cX11_owesAll 7 = .ok (.if_icmp .ge 18, 3) := by decide +kernel
theorem dX11_owesAll_25 : decode cX11_owesAll 25 = .ok (.iload_n 2, 1) := by decide +kernel
theorem dX11_owesAll_26 : decode cX11_owesAll 26 = .ok (.ireturn, 1) := by decide +kernel
theorem dX11_owesAll_10 : decode cX11_owesAll 10 = .ok (.iload_n 2, 1) := by decide +kernel
theorem dX11_owesAll_11 : decode cX11_owesAll 11 = .ok (.aload_n 0, 1) := by decide +kernel
theorem dX11_owesAll_12 : decode cX11_owesAll 12 = .ok (.iload_n 1, 1) := by decide +kernel
theorem dX11_owesAll_13 : decode cX11_owesAll 13 = .ok (.iload_n 3, 1) := by decide +kernel
theorem dX11_owesAll_14 : decode cX11_owesAll 14 = .ok (.invokevirtual 232, 3) := by decide +kernel
theorem t1735 : Cond.methodLink RX11 232 yX11_owesOf ∈ GW := gw_mem 1849 (by decide +kernel) (by decide +kernel)
theorem t1737 : Cond.instanceMethod yX11_owesOf ∈ GW := gw_mem 1851 (by decide +kernel) (by decide +kernel)
theorem s69 : Cond.selects RX11 yX11_owesOf yX11_owesOf ∈ GW := gw_mem 69 (by decide +kernel) (by decide +kernel)
theorem cw_X11_232 {R : Room} {s : State} {args : Array Value} {rm : Room} {mc ms : Nat} (hts : ∀ w ∈ GW, w.before args s = true) (hrc : rm.cells = mc) (hrs : rm.slots = ms) (hR : rm.frames + 1 ≤ R.frames ∧ 8 + (3 + 11) + rm.locals ≤ R.locals) : CallW R s args RX11 RX11 232 yX11_owesOf cX11_owesOf 3 (some .int) (wl yX11_owesOf cX11_owesOf 3 (some .int)) rm mc ms 2 := cwV 2 hts (gi_V t1735 t1737 s69 t18 t1738) rfl hrc hrs (by decide +kernel) hR
theorem dX11_owesAll_17 : decode cX11_owesAll 17 = .ok (.iadd, 1) := by decide +kernel
theorem dX11_owesAll_18 : decode cX11_owesAll 18 = .ok (.istore_n 2, 1) := by decide +kernel
theorem dX11_owesAll_19 : decode cX11_owesAll 19 = .ok (.iinc 3 1, 3) := by decide +kernel
theorem dX11_owesAll_22 : decode cX11_owesAll 22 = .ok (.goto (-18), 3) := by decide +kernel
set_option maxHeartbeats 4000000 in
set_option maxRecDepth 100000 in
theorem m_owesAll (l : Launch) (dC : Nat → ClassId) (dI : Nat → Nat → Nat) (cy : Nat → ClassId) (vnh : Nat → Int32) (vo : Nat) (voth : Int32) (vmt : Nat) (votp : Int32) (vosz : Int32) (volm : Int32) (voto : Int32) (vofr : Int32) (vokd : Int32) (vonu : Int32) (vosg : Int32) (vofa : Int32) (vopl : Int32) (vowd : Int64) (votd : Int32) (vmn : Nat) (vmr : Nat) (vmk : Nat) (vms : Nat) (vma : Nat) (vmm : Nat) (vmrn : Nat) (vmkn : Nat) (vmik : Nat) (vmon : Nat) (vosm : Int32) (vohp : Int32) (vmw : Nat) (vmf : Nat) (vmb : Nat) (vomb : Int32) (vmd : Nat) (vmc : Nat) (vocm : Int32) (voct : Int32) (vocy : Int32) (vmx : Nat) (votx : Int32) (vose : Int32) (vml : Nat) (vmwr : Nat) (voln : Int32) (vohw : Int32) (vmno : Nat) (vond : Int32) (voon : Int32) (vowi : Int32) (votop : Int32) (vmnf : Nat → Int32) (vm : Int32) (r_vm : -1 ≤ (vm : Int32).toInt ∧ (vm : Int32).toInt ≤ 6) (p_vmnf : NW vnh vmnf) : Met l yX11_owesAll (wl yX11_owesAll cX11_owesAll 4 (some .int)) ({ frames := 1, cells := 0, slots := 0, locals := 64 }) (Pr (dC, dI) vwCl cy [(vo, .inr (12, [.int voth, .ref vmt, .int votp, .int vosz, .int volm, .int voto, .int vofr, .int vokd, .int vonu, .int vosg, .int vofa, .int vopl, .long vowd, .int votd, .ref vmn, .ref vmr, .ref vmk, .ref vms, .ref vma, .ref vmm, .ref vmrn, .ref vmkn, .ref vmik, .ref vmon, .int vosm, .int vohp, .ref vmw, .ref vmf, .ref vmb, .int vomb, .ref vmd, .ref vmc, .int vocm, .int voct, .int vocy, .ref vmx, .int votx, .int vose, .ref vml, .ref vmwr, .int voln, .int vohw, .ref vmno, .int vond, .int voon, .int vowi, .int votop])), (vmn, .inl (cy 0, 575, .inl vmnf))] [.ref vo, .int vm]) (Ri (fun r => True)) 0 0 (fun _ => False) := by
  refine mr RX11 rfl (by decide +kernel) (Nat.le_of_ble_eq_true rfl) ?_
  intro p e s m below meth c hx hb hr hlocks av9 hav hts hown hml hK hP hS Q9 hQ9 ls hl
  have hl : lv_has ls 4 [(0, .ref vo), (1, .int vm)] := hl
  refine lv_iconst (v := 0) hx hb dX11_owesAll_0 (by decide) ?_
  refine lv_istore_n (lv' := [(2, .int 0), (0, .ref vo), (1, .int vm)]) hx hb dX11_owesAll_1 rfl hl (by decide) rfl (fun ls hl => ?_)
  refine lv_iconst (v := 0) hx hb dX11_owesAll_2 (by decide) ?_
  refine lv_istore_n (lv' := [(3, .int 0), (2, .int 0), (0, .ref vo), (1, .int vm)]) hx hb dX11_owesAll_3 rfl hl (by decide) rfl (fun ls hl => ?_)
  have loop1 : ∀ (n1 : Nat) (x_3 : Int32) (x_2 : Int32), (0 ≤ x_2.toInt ∧ x_2.toInt ≤ 7) → 7 - x_2.toInt < (n1 : Int) → ∀ (H : Heap) (locs : List Loc), va_P (dC, dI) vwCl [(vo, .inr (12, [.int voth, .ref vmt, .int votp, .int vosz, .int volm, .int voto, .int vofr, .int vokd, .int vonu, .int vosg, .int vofa, .int vopl, .long vowd, .int votd, .ref vmn, .ref vmr, .ref vmk, .ref vms, .ref vma, .ref vmm, .ref vmrn, .ref vmkn, .ref vmik, .ref vmon, .int vosm, .int vohp, .ref vmw, .ref vmf, .ref vmb, .int vomb, .ref vmd, .ref vmc, .int vocm, .int voct, .int vocy, .ref vmx, .int votx, .int vose, .ref vml, .ref vmwr, .int voln, .int vohw, .ref vmno, .int vond, .int voon, .int vowi, .int votop])), (vmn, .inl (cy 0, 575, .inl vmnf))] H → va_S (fun _ => False) s.heap H locs → ∀ ls : Array Slot, lv_has ls 4 [(3, .int x_2), (2, .int x_3), (0, .ref vo), (1, .int vm)] → W p l e ({ frames := 1, cells := 0, slots := 0, locals := 64 }) s m av9 below meth c H locs 0 0 Q9 (F0 m 4 ls []) := by
    intro n1
    induction n1 with
    | zero =>
      intro x_3 x_2 bx_2 hn1 H locs hP hS ls hl
      exfalso; omega
    | succ n1 ih1 =>
      intro x_3 x_2 bx_2 hn1 H locs hP hS ls hl
      refine lv_iload_n hx hb dX11_owesAll_4 rfl (lv_at hl 0 rfl) ?_
      refine lv_bipush (v := 7) hx hb dX11_owesAll_5 (by decide) ?_
      have k_7 : (7 : Int32).toInt = 7 := by decide
      refine lv_icmp_ge (tgt := 25) hx hb dX11_owesAll_7 (by decide) (fun c_4 => ?_) (fun c_4 => ?_)
      · skip
        have c_4 : (7 : Int32).toInt ≤ x_2.toInt := i_le.mp c_4
        refine lv_iload_n hx hb dX11_owesAll_25 rfl (lv_at hl 1 rfl) ?_
        rw [hQ9]
        exact rr_i hx hb hr hlocks trivial hS dX11_owesAll_26
      · skip
        have c_4 : ¬ ((7 : Int32).toInt ≤ x_2.toInt) := fun h9 => c_4 (i_le.mpr h9)
        refine lv_iload_n hx hb dX11_owesAll_10 rfl (lv_at hl 1 rfl) ?_
        refine lv_aload_n hx hb dX11_owesAll_11 rfl (lv_at hl 2 rfl) ?_
        refine lv_iload_n hx hb dX11_owesAll_12 rfl (lv_at hl 3 rfl) ?_
        refine lv_iload_n hx hb dX11_owesAll_13 rfl (lv_at hl 0 rfl) ?_
        refine jr_i (rVr (As := [.int vm, .int x_2]) (rest := [.int x_3]) (ci := 12) ⟨hx, hb, hml, hown, hts⟩ (m_owesOf l dC dI cy vnh vo voth vmt votp vosz volm voto vofr vokd vonu vosg vofa vopl vowd votd vmn vmr vmk vms vma vmm vmrn vmkn vmik vmon vosm vohp vmw vmf vmb vomb vmd vmc vocm voct vocy vmx votx vose vml vmwr voln vohw vmno vond voon vowi votop vmnf vm x_2 r_vm ⟨by omega, by omega⟩ p_vmnf) (cw_X11_232 hts rfl rfl ⟨Nat.le_of_ble_eq_true rfl, Nat.le_of_ble_eq_true rfl⟩) hP hK [0, 1] rfl rfl rfl rfl hl.1 rfl (Nat.le_of_ble_eq_true rfl) dX11_owesAll_14 ⟨Nat.le_of_ble_eq_true rfl, Nat.le_of_ble_eq_true rfl⟩) hP hS (fun r_5 H locs hp_6 hP hS => ?_)
        refine lv_iadd hx hb dX11_owesAll_17 ?_
        refine lv_topi (fun z_7 ez_7 => ?_)
        refine lv_istore_n (lv' := [(2, .int z_7), (3, .int x_2), (0, .ref vo), (1, .int vm)]) hx hb dX11_owesAll_18 rfl hl (by decide) rfl (fun ls hl => ?_)
        obtain ⟨z_8, ez_8⟩ : ∃ z : Int32, z = x_2 + 1 := ⟨_, rfl⟩
        have k_1 : (1 : Int32).toInt = 1 := by decide
        have bz_8 : z_8.toInt = x_2.toInt + (1 : Int32).toInt := i_add ez_8 (by omega) (by omega)
        refine lv_iinc (v := z_8) (lv' := [(3, .int z_8), (2, .int z_7), (0, .ref vo), (1, .int vm)]) hx hb dX11_owesAll_19 hl (k := 1) rfl ez_8.symm (by decide) rfl (fun ls hl => ?_)
        refine lv_goto (tgt := 4) hx hb dX11_owesAll_22 (by decide) ?_
        exact ih1 z_7 z_8 ⟨by omega, by omega⟩ (by omega) _ _ (hP.sub [0, 1] rfl) hS ls (lv_sub hl [0, 1, 2, 3] rfl)
  have k_0 : (0 : Int32).toInt = 0 := by decide
  exact loop1 ((7 - (0 : Int32).toInt).toNat + 1) 0 0 ⟨by omega, by omega⟩ (by omega) _ _ hP hS ls (lv_sub hl [0, 1, 2, 3] rfl)
abbrev cX11_whiteOf : ByteArray := prog_13_method_50_code
def yX11_whiteOf : MethodName := ⟨RX11, "whiteOf", "(I)I"⟩
theorem t1718 : Cond.code yX11_whiteOf cX11_whiteOf 2 (some .int) ∈ GW := gw_mem 1832 (by decide +kernel) (by decide +kernel)
theorem dX11_whiteOf_0 : decode cX11_whiteOf 0 = .ok (.aload_n 0, 1) := by decide +kernel
theorem dX11_whiteOf_1 : decode cX11_whiteOf 1 = .ok (.iload_n 1, 1) := by decide +kernel
theorem dX11_whiteOf_2 : decode cX11_whiteOf 2 = .ok (.iconst 0, 1) := by decide +kernel
theorem dX11_whiteOf_3 : decode cX11_whiteOf 3 = .ok (.invokevirtual 235, 3) := by decide +kernel
theorem t1719 : Cond.methodLink RX11 235 yX11_weightOf ∈ GW := gw_mem 1833 (by decide +kernel) (by decide +kernel)
theorem t1721 : Cond.instanceMethod yX11_weightOf ∈ GW := gw_mem 1835 (by decide +kernel) (by decide +kernel)
theorem s65 : Cond.selects RX11 yX11_weightOf yX11_weightOf ∈ GW := gw_mem 65 (by decide +kernel) (by decide +kernel)
theorem cw_X11_235 {R : Room} {s : State} {args : Array Value} {rm : Room} {mc ms : Nat} (hts : ∀ w ∈ GW, w.before args s = true) (hrc : rm.cells = mc) (hrs : rm.slots = ms) (hR : rm.frames + 1 ≤ R.frames ∧ 8 + (7 + 11) + rm.locals ≤ R.locals) : CallW R s args RX11 RX11 235 yX11_weightOf cX11_weightOf 7 (some .int) (wl yX11_weightOf cX11_weightOf 7 (some .int)) rm mc ms 2 := cwV 2 hts (gi_V t1719 t1721 s65 t18 t1722) rfl hrc hrs (by decide +kernel) hR
theorem dX11_whiteOf_6 : decode cX11_whiteOf 6 = .ok (.ireturn, 1) := by decide +kernel
set_option maxHeartbeats 4000000 in
set_option maxRecDepth 100000 in
theorem m_whiteOf (l : Launch) (dC : Nat → ClassId) (dI : Nat → Nat → Nat) (cy : Nat → ClassId) (vnh : Nat → Int32) (vo : Nat) (voth : Int32) (vmt : Nat) (votp : Int32) (vosz : Int32) (volm : Int32) (voto : Int32) (vofr : Int32) (vokd : Int32) (vonu : Int32) (vosg : Int32) (vofa : Int32) (vopl : Int32) (vowd : Int64) (votd : Int32) (vmn : Nat) (vmr : Nat) (vmk : Nat) (vms : Nat) (vma : Nat) (vmm : Nat) (vmrn : Nat) (vmkn : Nat) (vmik : Nat) (vmon : Nat) (vosm : Int32) (vohp : Int32) (vmw : Nat) (vmf : Nat) (vmb : Nat) (vomb : Int32) (vmd : Nat) (vmc : Nat) (vocm : Int32) (voct : Int32) (vocy : Int32) (vmx : Nat) (votx : Int32) (vose : Int32) (vml : Nat) (vmwr : Nat) (voln : Int32) (vohw : Int32) (vmno : Nat) (vond : Int32) (voon : Int32) (vowi : Int32) (votop : Int32) (vmnf : Nat → Int32) (vm : Int32) (r_vm : -1 ≤ (vm : Int32).toInt ∧ (vm : Int32).toInt ≤ 6) (p_vmnf : NW vnh vmnf) : Met l yX11_whiteOf (wl yX11_whiteOf cX11_whiteOf 2 (some .int)) ({ frames := 2, cells := 0, slots := 0, locals := 128 }) (Pr (dC, dI) vwCl cy [(vo, .inr (12, [.int voth, .ref vmt, .int votp, .int vosz, .int volm, .int voto, .int vofr, .int vokd, .int vonu, .int vosg, .int vofa, .int vopl, .long vowd, .int votd, .ref vmn, .ref vmr, .ref vmk, .ref vms, .ref vma, .ref vmm, .ref vmrn, .ref vmkn, .ref vmik, .ref vmon, .int vosm, .int vohp, .ref vmw, .ref vmf, .ref vmb, .int vomb, .ref vmd, .ref vmc, .int vocm, .int voct, .int vocy, .ref vmx, .int votx, .int vose, .ref vml, .ref vmwr, .int voln, .int vohw, .ref vmno, .int vond, .int voon, .int vowi, .int votop])), (vmn, .inl (cy 0, 575, .inl vmnf))] [.ref vo, .int vm]) (Ri (fun r => True)) 0 0 (fun _ => False) := by
  refine mr RX11 rfl (by decide +kernel) (Nat.le_of_ble_eq_true rfl) ?_
  intro p e s m below meth c hx hb hr hlocks av9 hav hts hown hml hK hP hS Q9 hQ9 ls hl
  have hl : lv_has ls 2 [(0, .ref vo), (1, .int vm)] := hl
  refine lv_aload_n hx hb dX11_whiteOf_0 rfl (lv_at hl 0 rfl) ?_
  refine lv_iload_n hx hb dX11_whiteOf_1 rfl (lv_at hl 1 rfl) ?_
  refine lv_iconst (v := 0) hx hb dX11_whiteOf_2 (by decide) ?_
  have k_0 : (0 : Int32).toInt = 0 := by decide
  refine jr_i (rVr (As := [.int vm, .int 0]) (rest := []) (ci := 12) ⟨hx, hb, hml, hown, hts⟩ (m_weightOf l dC dI cy vnh vo voth vmt votp vosz volm voto vofr vokd vonu vosg vofa vopl vowd votd vmn vmr vmk vms vma vmm vmrn vmkn vmik vmon vosm vohp vmw vmf vmb vomb vmd vmc vocm voct vocy vmx votx vose vml vmwr voln vohw vmno vond voon vowi votop vmnf vm 0 r_vm p_vmnf) (cw_X11_235 hts rfl rfl ⟨Nat.le_of_ble_eq_true rfl, Nat.le_of_ble_eq_true rfl⟩) hP hK [0, 1] rfl rfl rfl rfl hl.1 rfl (Nat.le_of_ble_eq_true rfl) dX11_whiteOf_3 ⟨Nat.le_of_ble_eq_true rfl, Nat.le_of_ble_eq_true rfl⟩) hP hS (fun r_1 H locs hp_2 hP hS => ?_)
  rw [hQ9]
  exact rr_i hx hb hr hlocks trivial hS dX11_whiteOf_6
abbrev cX11_darkOf : ByteArray := prog_13_method_51_code
def yX11_darkOf : MethodName := ⟨RX11, "darkOf", "(I)I"⟩
theorem t1730 : Cond.code yX11_darkOf cX11_darkOf 2 (some .int) ∈ GW := gw_mem 1844 (by decide +kernel) (by decide +kernel)
theorem dX11_darkOf_0 : decode cX11_darkOf 0 = .ok (.aload_n 0, 1) := by decide +kernel
theorem dX11_darkOf_1 : decode cX11_darkOf 1 = .ok (.iload_n 1, 1) := by decide +kernel
theorem dX11_darkOf_2 : decode cX11_darkOf 2 = .ok (.iconst 1, 1) := by decide +kernel
theorem dX11_darkOf_3 : decode cX11_darkOf 3 = .ok (.invokevirtual 235, 3) := by decide +kernel
theorem dX11_darkOf_6 : decode cX11_darkOf 6 = .ok (.aload_n 0, 1) := by decide +kernel
theorem dX11_darkOf_7 : decode cX11_darkOf 7 = .ok (.iload_n 1, 1) := by decide +kernel
theorem dX11_darkOf_8 : decode cX11_darkOf 8 = .ok (.invokevirtual 238, 3) := by decide +kernel
theorem t1731 : Cond.methodLink RX11 238 yX11_owesAll ∈ GW := gw_mem 1845 (by decide +kernel) (by decide +kernel)
theorem t1733 : Cond.instanceMethod yX11_owesAll ∈ GW := gw_mem 1847 (by decide +kernel) (by decide +kernel)
theorem s68 : Cond.selects RX11 yX11_owesAll yX11_owesAll ∈ GW := gw_mem 68 (by decide +kernel) (by decide +kernel)
theorem cw_X11_238 {R : Room} {s : State} {args : Array Value} {rm : Room} {mc ms : Nat} (hts : ∀ w ∈ GW, w.before args s = true) (hrc : rm.cells = mc) (hrs : rm.slots = ms) (hR : rm.frames + 1 ≤ R.frames ∧ 8 + (4 + 11) + rm.locals ≤ R.locals) : CallW R s args RX11 RX11 238 yX11_owesAll cX11_owesAll 4 (some .int) (wl yX11_owesAll cX11_owesAll 4 (some .int)) rm mc ms 1 := cwV 1 hts (gi_V t1731 t1733 s68 t18 t1734) rfl hrc hrs (by decide +kernel) hR
theorem dX11_darkOf_11 : decode cX11_darkOf 11 = .ok (.iadd, 1) := by decide +kernel
theorem dX11_darkOf_12 : decode cX11_darkOf 12 = .ok (.ireturn, 1) := by decide +kernel
set_option maxHeartbeats 4000000 in
set_option maxRecDepth 100000 in
theorem m_darkOf (l : Launch) (dC : Nat → ClassId) (dI : Nat → Nat → Nat) (cy : Nat → ClassId) (vnh : Nat → Int32) (vo : Nat) (voth : Int32) (vmt : Nat) (votp : Int32) (vosz : Int32) (volm : Int32) (voto : Int32) (vofr : Int32) (vokd : Int32) (vonu : Int32) (vosg : Int32) (vofa : Int32) (vopl : Int32) (vowd : Int64) (votd : Int32) (vmn : Nat) (vmr : Nat) (vmk : Nat) (vms : Nat) (vma : Nat) (vmm : Nat) (vmrn : Nat) (vmkn : Nat) (vmik : Nat) (vmon : Nat) (vosm : Int32) (vohp : Int32) (vmw : Nat) (vmf : Nat) (vmb : Nat) (vomb : Int32) (vmd : Nat) (vmc : Nat) (vocm : Int32) (voct : Int32) (vocy : Int32) (vmx : Nat) (votx : Int32) (vose : Int32) (vml : Nat) (vmwr : Nat) (voln : Int32) (vohw : Int32) (vmno : Nat) (vond : Int32) (voon : Int32) (vowi : Int32) (votop : Int32) (vmnf : Nat → Int32) (vm : Int32) (r_vm : -1 ≤ (vm : Int32).toInt ∧ (vm : Int32).toInt ≤ 6) (p_vmnf : NW vnh vmnf) : Met l yX11_darkOf (wl yX11_darkOf cX11_darkOf 2 (some .int)) ({ frames := 2, cells := 0, slots := 0, locals := 128 }) (Pr (dC, dI) vwCl cy [(vo, .inr (12, [.int voth, .ref vmt, .int votp, .int vosz, .int volm, .int voto, .int vofr, .int vokd, .int vonu, .int vosg, .int vofa, .int vopl, .long vowd, .int votd, .ref vmn, .ref vmr, .ref vmk, .ref vms, .ref vma, .ref vmm, .ref vmrn, .ref vmkn, .ref vmik, .ref vmon, .int vosm, .int vohp, .ref vmw, .ref vmf, .ref vmb, .int vomb, .ref vmd, .ref vmc, .int vocm, .int voct, .int vocy, .ref vmx, .int votx, .int vose, .ref vml, .ref vmwr, .int voln, .int vohw, .ref vmno, .int vond, .int voon, .int vowi, .int votop])), (vmn, .inl (cy 0, 575, .inl vmnf))] [.ref vo, .int vm]) (Ri (fun r => True)) 0 0 (fun _ => False) := by
  refine mr RX11 rfl (by decide +kernel) (Nat.le_of_ble_eq_true rfl) ?_
  intro p e s m below meth c hx hb hr hlocks av9 hav hts hown hml hK hP hS Q9 hQ9 ls hl
  have hl : lv_has ls 2 [(0, .ref vo), (1, .int vm)] := hl
  refine lv_aload_n hx hb dX11_darkOf_0 rfl (lv_at hl 0 rfl) ?_
  refine lv_iload_n hx hb dX11_darkOf_1 rfl (lv_at hl 1 rfl) ?_
  refine lv_iconst (v := 1) hx hb dX11_darkOf_2 (by decide) ?_
  have k_1 : (1 : Int32).toInt = 1 := by decide
  refine jr_i (rVr (As := [.int vm, .int 1]) (rest := []) (ci := 12) ⟨hx, hb, hml, hown, hts⟩ (m_weightOf l dC dI cy vnh vo voth vmt votp vosz volm voto vofr vokd vonu vosg vofa vopl vowd votd vmn vmr vmk vms vma vmm vmrn vmkn vmik vmon vosm vohp vmw vmf vmb vomb vmd vmc vocm voct vocy vmx votx vose vml vmwr voln vohw vmno vond voon vowi votop vmnf vm 1 r_vm p_vmnf) (cw_X11_235 hts rfl rfl ⟨Nat.le_of_ble_eq_true rfl, Nat.le_of_ble_eq_true rfl⟩) hP hK [0, 1] rfl rfl rfl rfl hl.1 rfl (Nat.le_of_ble_eq_true rfl) dX11_darkOf_3 ⟨Nat.le_of_ble_eq_true rfl, Nat.le_of_ble_eq_true rfl⟩) hP hS (fun r_1 H locs hp_2 hP hS => ?_)
  refine lv_aload_n hx hb dX11_darkOf_6 rfl (lv_at hl 0 rfl) ?_
  refine lv_iload_n hx hb dX11_darkOf_7 rfl (lv_at hl 1 rfl) ?_
  refine jr_i (rVr (As := [.int vm]) (rest := [.int r_1]) (ci := 12) ⟨hx, hb, hml, hown, hts⟩ (m_owesAll l dC dI cy vnh vo voth vmt votp vosz volm voto vofr vokd vonu vosg vofa vopl vowd votd vmn vmr vmk vms vma vmm vmrn vmkn vmik vmon vosm vohp vmw vmf vmb vomb vmd vmc vocm voct vocy vmx votx vose vml vmwr voln vohw vmno vond voon vowi votop vmnf vm r_vm p_vmnf) (cw_X11_238 hts rfl rfl ⟨Nat.le_of_ble_eq_true rfl, Nat.le_of_ble_eq_true rfl⟩) hP hK [0, 1] rfl rfl rfl rfl hl.1 rfl (Nat.le_of_ble_eq_true rfl) dX11_darkOf_8 ⟨Nat.le_of_ble_eq_true rfl, Nat.le_of_ble_eq_true rfl⟩) hP hS (fun r_3 H locs hp_4 hP hS => ?_)
  refine lv_iadd hx hb dX11_darkOf_11 ?_
  refine lv_topi (fun z_5 ez_5 => ?_)
  rw [hQ9]
  exact rr_i hx hb hr hlocks trivial hS dX11_darkOf_12
abbrev cX11_allOf : ByteArray := prog_13_method_52_code
def yX11_allOf : MethodName := ⟨RX11, "allOf", "(I)I"⟩
theorem t1746 : Cond.code yX11_allOf cX11_allOf 2 (some .int) ∈ GW := gw_mem 1860 (by decide +kernel) (by decide +kernel)
theorem dX11_allOf_0 : decode cX11_allOf 0 = .ok (.aload_n 0, 1) := by decide +kernel
theorem dX11_allOf_1 : decode cX11_allOf 1 = .ok (.iload_n 1, 1) := by decide +kernel
theorem dX11_allOf_2 : decode cX11_allOf 2 = .ok (.invokevirtual 241, 3) := by decide +kernel
theorem t1715 : Cond.methodLink RX11 241 yX11_whiteOf ∈ GW := gw_mem 1829 (by decide +kernel) (by decide +kernel)
theorem t1717 : Cond.instanceMethod yX11_whiteOf ∈ GW := gw_mem 1831 (by decide +kernel) (by decide +kernel)
theorem s64 : Cond.selects RX11 yX11_whiteOf yX11_whiteOf ∈ GW := gw_mem 64 (by decide +kernel) (by decide +kernel)
theorem cw_X11_241 {R : Room} {s : State} {args : Array Value} {rm : Room} {mc ms : Nat} (hts : ∀ w ∈ GW, w.before args s = true) (hrc : rm.cells = mc) (hrs : rm.slots = ms) (hR : rm.frames + 1 ≤ R.frames ∧ 8 + (2 + 11) + rm.locals ≤ R.locals) : CallW R s args RX11 RX11 241 yX11_whiteOf cX11_whiteOf 2 (some .int) (wl yX11_whiteOf cX11_whiteOf 2 (some .int)) rm mc ms 1 := cwV 1 hts (gi_V t1715 t1717 s64 t18 t1718) rfl hrc hrs (by decide +kernel) hR
theorem dX11_allOf_5 : decode cX11_allOf 5 = .ok (.aload_n 0, 1) := by decide +kernel
theorem dX11_allOf_6 : decode cX11_allOf 6 = .ok (.iload_n 1, 1) := by decide +kernel
theorem dX11_allOf_7 : decode cX11_allOf 7 = .ok (.invokevirtual 244, 3) := by decide +kernel
theorem t1727 : Cond.methodLink RX11 244 yX11_darkOf ∈ GW := gw_mem 1841 (by decide +kernel) (by decide +kernel)
theorem t1729 : Cond.instanceMethod yX11_darkOf ∈ GW := gw_mem 1843 (by decide +kernel) (by decide +kernel)
theorem s67 : Cond.selects RX11 yX11_darkOf yX11_darkOf ∈ GW := gw_mem 67 (by decide +kernel) (by decide +kernel)
theorem cw_X11_244 {R : Room} {s : State} {args : Array Value} {rm : Room} {mc ms : Nat} (hts : ∀ w ∈ GW, w.before args s = true) (hrc : rm.cells = mc) (hrs : rm.slots = ms) (hR : rm.frames + 1 ≤ R.frames ∧ 8 + (2 + 11) + rm.locals ≤ R.locals) : CallW R s args RX11 RX11 244 yX11_darkOf cX11_darkOf 2 (some .int) (wl yX11_darkOf cX11_darkOf 2 (some .int)) rm mc ms 1 := cwV 1 hts (gi_V t1727 t1729 s67 t18 t1730) rfl hrc hrs (by decide +kernel) hR
theorem dX11_allOf_10 : decode cX11_allOf 10 = .ok (.iadd, 1) := by decide +kernel
theorem dX11_allOf_11 : decode cX11_allOf 11 = .ok (.ireturn, 1) := by decide +kernel
set_option maxHeartbeats 4000000 in
set_option maxRecDepth 100000 in
theorem m_allOf (l : Launch) (dC : Nat → ClassId) (dI : Nat → Nat → Nat) (cy : Nat → ClassId) (vnh : Nat → Int32) (vo : Nat) (voth : Int32) (vmt : Nat) (votp : Int32) (vosz : Int32) (volm : Int32) (voto : Int32) (vofr : Int32) (vokd : Int32) (vonu : Int32) (vosg : Int32) (vofa : Int32) (vopl : Int32) (vowd : Int64) (votd : Int32) (vmn : Nat) (vmr : Nat) (vmk : Nat) (vms : Nat) (vma : Nat) (vmm : Nat) (vmrn : Nat) (vmkn : Nat) (vmik : Nat) (vmon : Nat) (vosm : Int32) (vohp : Int32) (vmw : Nat) (vmf : Nat) (vmb : Nat) (vomb : Int32) (vmd : Nat) (vmc : Nat) (vocm : Int32) (voct : Int32) (vocy : Int32) (vmx : Nat) (votx : Int32) (vose : Int32) (vml : Nat) (vmwr : Nat) (voln : Int32) (vohw : Int32) (vmno : Nat) (vond : Int32) (voon : Int32) (vowi : Int32) (votop : Int32) (vmnf : Nat → Int32) (vm : Int32) (r_vm : -1 ≤ (vm : Int32).toInt ∧ (vm : Int32).toInt ≤ 6) (p_vmnf : NW vnh vmnf) : Met l yX11_allOf (wl yX11_allOf cX11_allOf 2 (some .int)) ({ frames := 3, cells := 0, slots := 0, locals := 192 }) (Pr (dC, dI) vwCl cy [(vo, .inr (12, [.int voth, .ref vmt, .int votp, .int vosz, .int volm, .int voto, .int vofr, .int vokd, .int vonu, .int vosg, .int vofa, .int vopl, .long vowd, .int votd, .ref vmn, .ref vmr, .ref vmk, .ref vms, .ref vma, .ref vmm, .ref vmrn, .ref vmkn, .ref vmik, .ref vmon, .int vosm, .int vohp, .ref vmw, .ref vmf, .ref vmb, .int vomb, .ref vmd, .ref vmc, .int vocm, .int voct, .int vocy, .ref vmx, .int votx, .int vose, .ref vml, .ref vmwr, .int voln, .int vohw, .ref vmno, .int vond, .int voon, .int vowi, .int votop])), (vmn, .inl (cy 0, 575, .inl vmnf))] [.ref vo, .int vm]) (Ri (fun r => True)) 0 0 (fun _ => False) := by
  refine mr RX11 rfl (by decide +kernel) (Nat.le_of_ble_eq_true rfl) ?_
  intro p e s m below meth c hx hb hr hlocks av9 hav hts hown hml hK hP hS Q9 hQ9 ls hl
  have hl : lv_has ls 2 [(0, .ref vo), (1, .int vm)] := hl
  refine lv_aload_n hx hb dX11_allOf_0 rfl (lv_at hl 0 rfl) ?_
  refine lv_iload_n hx hb dX11_allOf_1 rfl (lv_at hl 1 rfl) ?_
  refine jr_i (rVr (As := [.int vm]) (rest := []) (ci := 12) ⟨hx, hb, hml, hown, hts⟩ (m_whiteOf l dC dI cy vnh vo voth vmt votp vosz volm voto vofr vokd vonu vosg vofa vopl vowd votd vmn vmr vmk vms vma vmm vmrn vmkn vmik vmon vosm vohp vmw vmf vmb vomb vmd vmc vocm voct vocy vmx votx vose vml vmwr voln vohw vmno vond voon vowi votop vmnf vm r_vm p_vmnf) (cw_X11_241 hts rfl rfl ⟨Nat.le_of_ble_eq_true rfl, Nat.le_of_ble_eq_true rfl⟩) hP hK [0, 1] rfl rfl rfl rfl hl.1 rfl (Nat.le_of_ble_eq_true rfl) dX11_allOf_2 ⟨Nat.le_of_ble_eq_true rfl, Nat.le_of_ble_eq_true rfl⟩) hP hS (fun r_1 H locs hp_2 hP hS => ?_)
  refine lv_aload_n hx hb dX11_allOf_5 rfl (lv_at hl 0 rfl) ?_
  refine lv_iload_n hx hb dX11_allOf_6 rfl (lv_at hl 1 rfl) ?_
  refine jr_i (rVr (As := [.int vm]) (rest := [.int r_1]) (ci := 12) ⟨hx, hb, hml, hown, hts⟩ (m_darkOf l dC dI cy vnh vo voth vmt votp vosz volm voto vofr vokd vonu vosg vofa vopl vowd votd vmn vmr vmk vms vma vmm vmrn vmkn vmik vmon vosm vohp vmw vmf vmb vomb vmd vmc vocm voct vocy vmx votx vose vml vmwr voln vohw vmno vond voon vowi votop vmnf vm r_vm p_vmnf) (cw_X11_244 hts rfl rfl ⟨Nat.le_of_ble_eq_true rfl, Nat.le_of_ble_eq_true rfl⟩) hP hK [0, 1] rfl rfl rfl rfl hl.1 rfl (Nat.le_of_ble_eq_true rfl) dX11_allOf_7 ⟨Nat.le_of_ble_eq_true rfl, Nat.le_of_ble_eq_true rfl⟩) hP hS (fun r_3 H locs hp_4 hP hS => ?_)
  refine lv_iadd hx hb dX11_allOf_10 ?_
  refine lv_topi (fun z_5 ez_5 => ?_)
  rw [hQ9]
  exact rr_i hx hb hr hlocks trivial hS dX11_allOf_11
abbrev cX11_howOf : ByteArray := prog_13_method_53_code
def yX11_howOf : MethodName := ⟨RX11, "howOf", "(I)I"⟩
theorem t1742 : Cond.code yX11_howOf cX11_howOf 2 (some .int) ∈ GW := gw_mem 1856 (by decide +kernel) (by decide +kernel)
theorem dX11_howOf_0 : decode cX11_howOf 0 = .ok (.aload_n 0, 1) := by decide +kernel
theorem dX11_howOf_1 : decode cX11_howOf 1 = .ok (.iload_n 1, 1) := by decide +kernel
theorem dX11_howOf_2 : decode cX11_howOf 2 = .ok (.invokevirtual 247, 3) := by decide +kernel
theorem t1743 : Cond.methodLink RX11 247 yX11_allOf ∈ GW := gw_mem 1857 (by decide +kernel) (by decide +kernel)
theorem t1745 : Cond.instanceMethod yX11_allOf ∈ GW := gw_mem 1859 (by decide +kernel) (by decide +kernel)
theorem s71 : Cond.selects RX11 yX11_allOf yX11_allOf ∈ GW := gw_mem 71 (by decide +kernel) (by decide +kernel)
theorem cw_X11_247 {R : Room} {s : State} {args : Array Value} {rm : Room} {mc ms : Nat} (hts : ∀ w ∈ GW, w.before args s = true) (hrc : rm.cells = mc) (hrs : rm.slots = ms) (hR : rm.frames + 1 ≤ R.frames ∧ 8 + (2 + 11) + rm.locals ≤ R.locals) : CallW R s args RX11 RX11 247 yX11_allOf cX11_allOf 2 (some .int) (wl yX11_allOf cX11_allOf 2 (some .int)) rm mc ms 1 := cwV 1 hts (gi_V t1743 t1745 s71 t18 t1746) rfl hrc hrs (by decide +kernel) hR
theorem dX11_howOf_5 : decode cX11_howOf 5 = .ok (.aload_n 0, 1) := by decide +kernel
theorem dX11_howOf_6 : decode cX11_howOf 6 = .ok (.getfield 98, 3) := by decide +kernel
theorem dX11_howOf_9 : decode cX11_howOf 9 = .ok (.iconst 3, 1) := by decide +kernel
theorem dX11_howOf_10 : decode cX11_howOf 10 = .ok (.iaload, 1) := by decide +kernel
theorem dX11_howOf_11 : decode cX11_howOf 11 = .ok (.if_icmp .ge 7, 3) := by decide +kernel
theorem dX11_howOf_18 : decode cX11_howOf 18 = .ok (.aload_n 0, 1) := by decide +kernel
theorem dX11_howOf_19 : decode cX11_howOf 19 = .ok (.iload_n 1, 1) := by decide +kernel
theorem dX11_howOf_20 : decode cX11_howOf 20 = .ok (.invokevirtual 247, 3) := by decide +kernel
theorem dX11_howOf_23 : decode cX11_howOf 23 = .ok (.aload_n 0, 1) := by decide +kernel
theorem dX11_howOf_24 : decode cX11_howOf 24 = .ok (.getfield 98, 3) := by decide +kernel
theorem dX11_howOf_27 : decode cX11_howOf 27 = .ok (.iconst 2, 1) := by decide +kernel
theorem dX11_howOf_28 : decode cX11_howOf 28 = .ok (.iaload, 1) := by decide +kernel
theorem dX11_howOf_29 : decode cX11_howOf 29 = .ok (.if_icmp .le 7, 3) := by decide +kernel
theorem dX11_howOf_36 : decode cX11_howOf 36 = .ok (.iconst 1, 1) := by decide +kernel
theorem dX11_howOf_37 : decode cX11_howOf 37 = .ok (.ireturn, 1) := by decide +kernel
theorem dX11_howOf_32 : decode cX11_howOf 32 = .ok (.iconst 2, 1) := by decide +kernel
theorem dX11_howOf_33 : decode cX11_howOf 33 = .ok (.goto 4, 3) := by decide +kernel
theorem dX11_howOf_14 : decode cX11_howOf 14 = .ok (.iconst 0, 1) := by decide +kernel
theorem dX11_howOf_15 : decode cX11_howOf 15 = .ok (.goto 22, 3) := by decide +kernel
set_option maxHeartbeats 4000000 in
set_option maxRecDepth 100000 in
theorem m_howOf (l : Launch) (dC : Nat → ClassId) (dI : Nat → Nat → Nat) (cy : Nat → ClassId) (vnh : Nat → Int32) (vo : Nat) (voth : Int32) (vmt : Nat) (votp : Int32) (vosz : Int32) (volm : Int32) (voto : Int32) (vofr : Int32) (vokd : Int32) (vonu : Int32) (vosg : Int32) (vofa : Int32) (vopl : Int32) (vowd : Int64) (votd : Int32) (vmn : Nat) (vmr : Nat) (vmk : Nat) (vms : Nat) (vma : Nat) (vmm : Nat) (vmrn : Nat) (vmkn : Nat) (vmik : Nat) (vmon : Nat) (vosm : Int32) (vohp : Int32) (vmw : Nat) (vmf : Nat) (vmb : Nat) (vomb : Int32) (vmd : Nat) (vmc : Nat) (vocm : Int32) (voct : Int32) (vocy : Int32) (vmx : Nat) (votx : Int32) (vose : Int32) (vml : Nat) (vmwr : Nat) (voln : Int32) (vohw : Int32) (vmno : Nat) (vond : Int32) (voon : Int32) (vowi : Int32) (votop : Int32) (vmnf : Nat → Int32) (vm : Int32) (r_vm : -1 ≤ (vm : Int32).toInt ∧ (vm : Int32).toInt ≤ 6) (p_vmnf : NW vnh vmnf) : Met l yX11_howOf (wl yX11_howOf cX11_howOf 2 (some .int)) ({ frames := 4, cells := 0, slots := 0, locals := 256 }) (Pr (dC, dI) vwCl cy [(vo, .inr (12, [.int voth, .ref vmt, .int votp, .int vosz, .int volm, .int voto, .int vofr, .int vokd, .int vonu, .int vosg, .int vofa, .int vopl, .long vowd, .int votd, .ref vmn, .ref vmr, .ref vmk, .ref vms, .ref vma, .ref vmm, .ref vmrn, .ref vmkn, .ref vmik, .ref vmon, .int vosm, .int vohp, .ref vmw, .ref vmf, .ref vmb, .int vomb, .ref vmd, .ref vmc, .int vocm, .int voct, .int vocy, .ref vmx, .int votx, .int vose, .ref vml, .ref vmwr, .int voln, .int vohw, .ref vmno, .int vond, .int voon, .int vowi, .int votop])), (vmn, .inl (cy 0, 575, .inl vmnf))] [.ref vo, .int vm]) (Ri (fun r => (0 ≤ (r : Int32).toInt ∧ (r : Int32).toInt ≤ 2))) 0 0 (fun _ => False) := by
  refine mr RX11 rfl (by decide +kernel) (Nat.le_of_ble_eq_true rfl) ?_
  intro p e s m below meth c hx hb hr hlocks av9 hav hts hown hml hK hP hS Q9 hQ9 ls hl
  have hl : lv_has ls 2 [(0, .ref vo), (1, .int vm)] := hl
  refine lv_aload_n hx hb dX11_howOf_0 rfl (lv_at hl 0 rfl) ?_
  refine lv_iload_n hx hb dX11_howOf_1 rfl (lv_at hl 1 rfl) ?_
  refine jr_i (rVr (As := [.int vm]) (rest := []) (ci := 12) ⟨hx, hb, hml, hown, hts⟩ (m_allOf l dC dI cy vnh vo voth vmt votp vosz volm voto vofr vokd vonu vosg vofa vopl vowd votd vmn vmr vmk vms vma vmm vmrn vmkn vmik vmon vosm vohp vmw vmf vmb vomb vmd vmc vocm voct vocy vmx votx vose vml vmwr voln vohw vmno vond voon vowi votop vmnf vm r_vm p_vmnf) (cw_X11_247 hts rfl rfl ⟨Nat.le_of_ble_eq_true rfl, Nat.le_of_ble_eq_true rfl⟩) hP hK [0, 1] rfl rfl rfl rfl hl.1 rfl (Nat.le_of_ble_eq_true rfl) dX11_howOf_2 ⟨Nat.le_of_ble_eq_true rfl, Nat.le_of_ble_eq_true rfl⟩) hP hS (fun r_1 H locs hp_2 hP hS => ?_)
  refine lv_aload_n hx hb dX11_howOf_5 rfl (lv_at hl 0 rfl) ?_
  refine gf_X11_98 hx hb hts hown hK hP 0 rfl rfl dX11_howOf_6 ?_
  refine lv_iconst (v := 3) hx hb dX11_howOf_9 (by decide) ?_
  have k_3 : (3 : Int32).toInt = 3 := by decide
  have hin_3 : vp_in (3 : Int32) 575 := vp_in_iff.mpr ⟨by omega, by omega⟩
  refine va_iald hx hb hK hP 1 0 rfl rfl hin_3 dX11_howOf_10 ?_
  refine lv_topi (fun z_4 ez_4 => ?_)
  have tz_4 : z_4.toInt = (vmnf 3).toInt := by rw [ez_4]; rfl
  refine lv_icmp_ge (tgt := 18) hx hb dX11_howOf_11 (by decide) (fun c_5 => ?_) (fun c_5 => ?_)
  · skip
    have c_5 : z_4.toInt ≤ r_1.toInt := i_le.mp c_5
    refine lv_aload_n hx hb dX11_howOf_18 rfl (lv_at hl 0 rfl) ?_
    refine lv_iload_n hx hb dX11_howOf_19 rfl (lv_at hl 1 rfl) ?_
    refine jr_i (rVr (As := [.int vm]) (rest := []) (ci := 12) ⟨hx, hb, hml, hown, hts⟩ (m_allOf l dC dI cy vnh vo voth vmt votp vosz volm voto vofr vokd vonu vosg vofa vopl vowd votd vmn vmr vmk vms vma vmm vmrn vmkn vmik vmon vosm vohp vmw vmf vmb vomb vmd vmc vocm voct vocy vmx votx vose vml vmwr voln vohw vmno vond voon vowi votop vmnf vm r_vm p_vmnf) (cw_X11_247 hts rfl rfl ⟨Nat.le_of_ble_eq_true rfl, Nat.le_of_ble_eq_true rfl⟩) hP hK [0, 1] rfl rfl rfl rfl hl.1 rfl (Nat.le_of_ble_eq_true rfl) dX11_howOf_20 ⟨Nat.le_of_ble_eq_true rfl, Nat.le_of_ble_eq_true rfl⟩) hP hS (fun r_6 H locs hp_7 hP hS => ?_)
    refine lv_aload_n hx hb dX11_howOf_23 rfl (lv_at hl 0 rfl) ?_
    refine gf_X11_98 hx hb hts hown hK hP 0 rfl rfl dX11_howOf_24 ?_
    refine lv_iconst (v := 2) hx hb dX11_howOf_27 (by decide) ?_
    have k_2 : (2 : Int32).toInt = 2 := by decide
    have hin_8 : vp_in (2 : Int32) 575 := vp_in_iff.mpr ⟨by omega, by omega⟩
    refine va_iald hx hb hK hP 1 0 rfl rfl hin_8 dX11_howOf_28 ?_
    refine lv_topi (fun z_9 ez_9 => ?_)
    have tz_9 : z_9.toInt = (vmnf 2).toInt := by rw [ez_9]; rfl
    refine lv_icmp_le (tgt := 36) hx hb dX11_howOf_29 (by decide) (fun c_10 => ?_) (fun c_10 => ?_)
    · skip
      have c_10 : r_6.toInt ≤ z_9.toInt := i_le.mp c_10
      refine lv_iconst (v := 1) hx hb dX11_howOf_36 (by decide) ?_
      have k_1 : (1 : Int32).toInt = 1 := by decide
      rw [hQ9]
      exact rr_i hx hb hr hlocks (show 0 ≤ ((1 : Int32) : Int32).toInt ∧ ((1 : Int32) : Int32).toInt ≤ 2 from ⟨by omega, by omega⟩) hS dX11_howOf_37
    · skip
      have c_10 : ¬ (r_6.toInt ≤ z_9.toInt) := fun h9 => c_10 (i_le.mpr h9)
      refine lv_iconst (v := 2) hx hb dX11_howOf_32 (by decide) ?_
      refine lv_goto (tgt := 37) hx hb dX11_howOf_33 (by decide) ?_
      rw [hQ9]
      exact rr_i hx hb hr hlocks (show 0 ≤ ((2 : Int32) : Int32).toInt ∧ ((2 : Int32) : Int32).toInt ≤ 2 from ⟨by omega, by omega⟩) hS dX11_howOf_37
  · skip
    have c_5 : ¬ (z_4.toInt ≤ r_1.toInt) := fun h9 => c_5 (i_le.mpr h9)
    refine lv_iconst (v := 0) hx hb dX11_howOf_14 (by decide) ?_
    refine lv_goto (tgt := 37) hx hb dX11_howOf_15 (by decide) ?_
    have k_0 : (0 : Int32).toInt = 0 := by decide
    rw [hQ9]
    exact rr_i hx hb hr hlocks (show 0 ≤ ((0 : Int32) : Int32).toInt ∧ ((0 : Int32) : Int32).toInt ≤ 2 from ⟨by omega, by omega⟩) hS dX11_howOf_37
abbrev cX11_those : ByteArray := prog_13_method_61_code
def yX11_those : MethodName := ⟨RX11, "those", "(I)I"⟩
theorem t1782 : Cond.code yX11_those cX11_those 4 (some .int) ∈ GW := gw_mem 1896 (by decide +kernel) (by decide +kernel)
theorem dX11_those_0 : decode cX11_those 0 = .ok (.iconst 0, 1) := by decide +kernel
theorem dX11_those_1 : decode cX11_those 1 = .ok (.istore_n 2, 1) := by decide +kernel
theorem dX11_those_2 : decode cX11_those 2 = .ok (.iconst 0, 1) := by decide +kernel
theorem dX11_those_3 : decode cX11_those 3 = .ok (.istore_n 3, 1) := by decide +kernel
theorem dX11_those_4 : decode cX11_those 4 = .ok (.iload_n 3, 1) := by decide +kernel
theorem dX11_those_5 : decode cX11_those 5 = .ok (.aload_n 0, 1) := by decide +kernel
theorem dX11_those_6 : decode cX11_those 6 = .ok (.getfield 98, 3) := by decide +kernel
theorem dX11_those_9 : decode cX11_those 9 = .ok (.iconst 0, 1) := by decide +kernel
theorem dX11_those_10 : decode cX11_those 10 = .ok (.iaload, 1) := by decide +kernel
theorem dX11_those_11 : decode cX11_those 11 = .ok (.if_icmp .ge 24, 3) := by decide +kernel
theorem dX11_those_35 : decode cX11_those 35 = .ok (.iload_n 2, 1) := by decide +kernel
theorem dX11_those_36 : decode cX11_those 36 = .ok (.ireturn, 1) := by decide +kernel
theorem dX11_those_14 : decode cX11_those 14 = .ok (.aload_n 0, 1) := by decide +kernel
theorem dX11_those_15 : decode cX11_those 15 = .ok (.iload_n 3, 1) := by decide +kernel
theorem dX11_those_16 : decode cX11_those 16 = .ok (.invokevirtual 256, 3) := by decide +kernel
theorem t1739 : Cond.methodLink RX11 256 yX11_howOf ∈ GW := gw_mem 1853 (by decide +kernel) (by decide +kernel)
theorem t1741 : Cond.instanceMethod yX11_howOf ∈ GW := gw_mem 1855 (by decide +kernel) (by decide +kernel)
theorem s70 : Cond.selects RX11 yX11_howOf yX11_howOf ∈ GW := gw_mem 70 (by decide +kernel) (by decide +kernel)
theorem cw_X11_256 {R : Room} {s : State} {args : Array Value} {rm : Room} {mc ms : Nat} (hts : ∀ w ∈ GW, w.before args s = true) (hrc : rm.cells = mc) (hrs : rm.slots = ms) (hR : rm.frames + 1 ≤ R.frames ∧ 8 + (2 + 11) + rm.locals ≤ R.locals) : CallW R s args RX11 RX11 256 yX11_howOf cX11_howOf 2 (some .int) (wl yX11_howOf cX11_howOf 2 (some .int)) rm mc ms 1 := cwV 1 hts (gi_V t1739 t1741 s70 t18 t1742) rfl hrc hrs (by decide +kernel) hR
theorem dX11_those_19 : decode cX11_those 19 = .ok (.iload_n 1, 1) := by decide +kernel
theorem dX11_those_20 : decode cX11_those 20 = .ok (.if_icmp .ne 9, 3) := by decide +kernel
theorem dX11_those_29 : decode cX11_those 29 = .ok (.iinc 3 1, 3) := by decide +kernel
theorem dX11_those_32 : decode cX11_those 32 = .ok (.goto (-28), 3) := by decide +kernel
theorem dX11_those_23 : decode cX11_those 23 = .ok (.iload_n 2, 1) := by decide +kernel
theorem dX11_those_24 : decode cX11_those 24 = .ok (.iconst 1, 1) := by decide +kernel
theorem dX11_those_25 : decode cX11_those 25 = .ok (.iload_n 3, 1) := by decide +kernel
theorem dX11_those_26 : decode cX11_those 26 = .ok (.ishl, 1) := by decide +kernel
theorem dX11_those_27 : decode cX11_those 27 = .ok (.ior, 1) := by decide +kernel
theorem dX11_those_28 : decode cX11_those 28 = .ok (.istore_n 2, 1) := by decide +kernel
set_option maxHeartbeats 4000000 in
set_option maxRecDepth 100000 in
theorem m_those (l : Launch) (dC : Nat → ClassId) (dI : Nat → Nat → Nat) (cy : Nat → ClassId) (vnh : Nat → Int32) (vo : Nat) (voth : Int32) (vmt : Nat) (votp : Int32) (vosz : Int32) (volm : Int32) (voto : Int32) (vofr : Int32) (vokd : Int32) (vonu : Int32) (vosg : Int32) (vofa : Int32) (vopl : Int32) (vowd : Int64) (votd : Int32) (vmn : Nat) (vmr : Nat) (vmk : Nat) (vms : Nat) (vma : Nat) (vmm : Nat) (vmrn : Nat) (vmkn : Nat) (vmik : Nat) (vmon : Nat) (vosm : Int32) (vohp : Int32) (vmw : Nat) (vmf : Nat) (vmb : Nat) (vomb : Int32) (vmd : Nat) (vmc : Nat) (vocm : Int32) (voct : Int32) (vocy : Int32) (vmx : Nat) (votx : Int32) (vose : Int32) (vml : Nat) (vmwr : Nat) (voln : Int32) (vohw : Int32) (vmno : Nat) (vond : Int32) (voon : Int32) (vowi : Int32) (votop : Int32) (vmnf : Nat → Int32) (vh : Int32) (p_vmnf : NW vnh vmnf) : Met l yX11_those (wl yX11_those cX11_those 4 (some .int)) ({ frames := 5, cells := 0, slots := 0, locals := 320 }) (Pr (dC, dI) vwCl cy [(vo, .inr (12, [.int voth, .ref vmt, .int votp, .int vosz, .int volm, .int voto, .int vofr, .int vokd, .int vonu, .int vosg, .int vofa, .int vopl, .long vowd, .int votd, .ref vmn, .ref vmr, .ref vmk, .ref vms, .ref vma, .ref vmm, .ref vmrn, .ref vmkn, .ref vmik, .ref vmon, .int vosm, .int vohp, .ref vmw, .ref vmf, .ref vmb, .int vomb, .ref vmd, .ref vmc, .int vocm, .int voct, .int vocy, .ref vmx, .int votx, .int vose, .ref vml, .ref vmwr, .int voln, .int vohw, .ref vmno, .int vond, .int voon, .int vowi, .int votop])), (vmn, .inl (cy 0, 575, .inl vmnf))] [.ref vo, .int vh]) (Ri (fun r => True)) 0 0 (fun _ => False) := by
  refine mr RX11 rfl (by decide +kernel) (Nat.le_of_ble_eq_true rfl) ?_
  intro p e s m below meth c hx hb hr hlocks av9 hav hts hown hml hK hP hS Q9 hQ9 ls hl
  have hl : lv_has ls 4 [(0, .ref vo), (1, .int vh)] := hl
  refine lv_iconst (v := 0) hx hb dX11_those_0 (by decide) ?_
  refine lv_istore_n (lv' := [(2, .int 0), (0, .ref vo), (1, .int vh)]) hx hb dX11_those_1 rfl hl (by decide) rfl (fun ls hl => ?_)
  refine lv_iconst (v := 0) hx hb dX11_those_2 (by decide) ?_
  refine lv_istore_n (lv' := [(3, .int 0), (2, .int 0), (0, .ref vo), (1, .int vh)]) hx hb dX11_those_3 rfl hl (by decide) rfl (fun ls hl => ?_)
  have loop1 : ∀ (n1 : Nat) (x_3 : Int32) (x_2 : Int32), (0 ≤ x_2.toInt ∧ x_2.toInt ≤ 7) → 7 - x_2.toInt < (n1 : Int) → ∀ (H : Heap) (locs : List Loc), va_P (dC, dI) vwCl [(vo, .inr (12, [.int voth, .ref vmt, .int votp, .int vosz, .int volm, .int voto, .int vofr, .int vokd, .int vonu, .int vosg, .int vofa, .int vopl, .long vowd, .int votd, .ref vmn, .ref vmr, .ref vmk, .ref vms, .ref vma, .ref vmm, .ref vmrn, .ref vmkn, .ref vmik, .ref vmon, .int vosm, .int vohp, .ref vmw, .ref vmf, .ref vmb, .int vomb, .ref vmd, .ref vmc, .int vocm, .int voct, .int vocy, .ref vmx, .int votx, .int vose, .ref vml, .ref vmwr, .int voln, .int vohw, .ref vmno, .int vond, .int voon, .int vowi, .int votop])), (vmn, .inl (cy 0, 575, .inl vmnf))] H → va_S (fun _ => False) s.heap H locs → ∀ ls : Array Slot, lv_has ls 4 [(3, .int x_2), (2, .int x_3), (0, .ref vo), (1, .int vh)] → W p l e ({ frames := 5, cells := 0, slots := 0, locals := 320 }) s m av9 below meth c H locs 0 0 Q9 (F0 m 4 ls []) := by
    intro n1
    induction n1 with
    | zero =>
      intro x_3 x_2 bx_2 hn1 H locs hP hS ls hl
      exfalso; omega
    | succ n1 ih1 =>
      intro x_3 x_2 bx_2 hn1 H locs hP hS ls hl
      refine lv_iload_n hx hb dX11_those_4 rfl (lv_at hl 0 rfl) ?_
      refine lv_aload_n hx hb dX11_those_5 rfl (lv_at hl 2 rfl) ?_
      refine gf_X11_98 hx hb hts hown hK hP 0 rfl rfl dX11_those_6 ?_
      refine lv_iconst (v := 0) hx hb dX11_those_9 (by decide) ?_
      have k_0 : (0 : Int32).toInt = 0 := by decide
      have hin_4 : vp_in (0 : Int32) 575 := vp_in_iff.mpr ⟨by omega, by omega⟩
      refine va_iald hx hb hK hP 1 0 rfl rfl hin_4 dX11_those_10 ?_
      refine lv_topi (fun z_5 ez_5 => ?_)
      have bz_5 := p_vmnf.a0 (x := 0) ⟨by omega, by omega⟩ ez_5
      have tz_5 : z_5.toInt = (vmnf 0).toInt := by rw [ez_5]; rfl
      refine lv_icmp_ge (tgt := 35) hx hb dX11_those_11 (by decide) (fun c_6 => ?_) (fun c_6 => ?_)
      · skip
        have c_6 : z_5.toInt ≤ x_2.toInt := i_le.mp c_6
        refine lv_iload_n hx hb dX11_those_35 rfl (lv_at hl 1 rfl) ?_
        rw [hQ9]
        exact rr_i hx hb hr hlocks trivial hS dX11_those_36
      · skip
        have c_6 : ¬ (z_5.toInt ≤ x_2.toInt) := fun h9 => c_6 (i_le.mpr h9)
        refine lv_aload_n hx hb dX11_those_14 rfl (lv_at hl 2 rfl) ?_
        refine lv_iload_n hx hb dX11_those_15 rfl (lv_at hl 0 rfl) ?_
        refine jr_i (rVr (As := [.int x_2]) (rest := []) (ci := 12) ⟨hx, hb, hml, hown, hts⟩ (m_howOf l dC dI cy vnh vo voth vmt votp vosz volm voto vofr vokd vonu vosg vofa vopl vowd votd vmn vmr vmk vms vma vmm vmrn vmkn vmik vmon vosm vohp vmw vmf vmb vomb vmd vmc vocm voct vocy vmx votx vose vml vmwr voln vohw vmno vond voon vowi votop vmnf x_2 ⟨by omega, by omega⟩ p_vmnf) (cw_X11_256 hts rfl rfl ⟨Nat.le_of_ble_eq_true rfl, Nat.le_of_ble_eq_true rfl⟩) hP hK [0, 1] rfl rfl rfl rfl hl.1 rfl (Nat.le_of_ble_eq_true rfl) dX11_those_16 ⟨Nat.le_of_ble_eq_true rfl, Nat.le_of_ble_eq_true rfl⟩) hP hS (fun r_7 H locs hp_8 hP hS => ?_)
        have hp_8 : (0 ≤ (r_7 : Int32).toInt ∧ (r_7 : Int32).toInt ≤ 2) := hp_8
        have q_9 := hp_8
        refine lv_iload_n hx hb dX11_those_19 rfl (lv_at hl 3 rfl) ?_
        refine lv_icmp_ne (tgt := 29) hx hb dX11_those_20 (by decide) (fun c_10 => ?_) (fun c_10 => ?_)
        · skip
          have c_10 : ¬ (r_7.toInt = vh.toInt) := fun h9 => c_10 (i_eq.mpr h9)
          obtain ⟨z_11, ez_11⟩ : ∃ z : Int32, z = x_2 + 1 := ⟨_, rfl⟩
          have k_1 : (1 : Int32).toInt = 1 := by decide
          have bz_11 : z_11.toInt = x_2.toInt + (1 : Int32).toInt := i_add ez_11 (by omega) (by omega)
          refine lv_iinc (v := z_11) (lv' := [(3, .int z_11), (2, .int x_3), (0, .ref vo), (1, .int vh)]) hx hb dX11_those_29 hl (k := 0) rfl ez_11.symm (by decide) rfl (fun ls hl => ?_)
          refine lv_goto (tgt := 4) hx hb dX11_those_32 (by decide) ?_
          exact ih1 x_3 z_11 ⟨by omega, by omega⟩ (by omega) _ _ (hP.sub [0, 1] rfl) hS ls (lv_sub hl [0, 1, 2, 3] rfl)
        · skip
          have c_10 : r_7.toInt = vh.toInt := i_eq.mp c_10
          refine lv_iload_n hx hb dX11_those_23 rfl (lv_at hl 1 rfl) ?_
          refine lv_iconst (v := 1) hx hb dX11_those_24 (by decide) ?_
          refine lv_iload_n hx hb dX11_those_25 rfl (lv_at hl 0 rfl) ?_
          refine lv_ishl hx hb dX11_those_26 ?_
          refine lv_topi (fun z_12 ez_12 => ?_)
          have bz_12 : 1 ≤ z_12.toInt ∧ z_12.toInt ≤ 128 := i_shl7 ez_12 ⟨by omega, by omega⟩
          refine lv_ior hx hb dX11_those_27 ?_
          refine lv_topi (fun z_13 ez_13 => ?_)
          refine lv_istore_n (lv' := [(2, .int z_13), (3, .int x_2), (0, .ref vo), (1, .int vh)]) hx hb dX11_those_28 rfl hl (by decide) rfl (fun ls hl => ?_)
          obtain ⟨z_14, ez_14⟩ : ∃ z : Int32, z = x_2 + 1 := ⟨_, rfl⟩
          have k_1 : (1 : Int32).toInt = 1 := by decide
          have bz_14 : z_14.toInt = x_2.toInt + (1 : Int32).toInt := i_add ez_14 (by omega) (by omega)
          refine lv_iinc (v := z_14) (lv' := [(3, .int z_14), (2, .int z_13), (0, .ref vo), (1, .int vh)]) hx hb dX11_those_29 hl (k := 1) rfl ez_14.symm (by decide) rfl (fun ls hl => ?_)
          refine lv_goto (tgt := 4) hx hb dX11_those_32 (by decide) ?_
          exact ih1 z_13 z_14 ⟨by omega, by omega⟩ (by omega) _ _ (hP.sub [0, 1] rfl) hS ls (lv_sub hl [0, 1, 2, 3] rfl)
  have k_0 : (0 : Int32).toInt = 0 := by decide
  exact loop1 ((7 - (0 : Int32).toInt).toNat + 1) 0 0 ⟨by omega, by omega⟩ (by omega) _ _ hP hS ls (lv_sub hl [0, 1, 2, 3] rfl)
abbrev cX11_why : ByteArray := prog_13_method_64_code
def yX11_why : MethodName := ⟨RX11, "why", "(IIII)I"⟩
theorem t1798 : Cond.code yX11_why cX11_why 5 (some .int) ∈ GW := gw_mem 1912 (by decide +kernel) (by decide +kernel)
theorem dX11_why_0 : decode cX11_why 0 = .ok (.iload_n 1, 1) := by decide +kernel
theorem dX11_why_1 : decode cX11_why 1 = .ok (.tableswitch 160 0 4 #[35, 52, 100, 114, 143], 35) := by decide +kernel
theorem dX11_why_36 : decode cX11_why 36 = .ok (.aload_n 0, 1) := by decide +kernel
theorem dX11_why_37 : decode cX11_why 37 = .ok (.iload_n 2, 1) := by decide +kernel
theorem dX11_why_38 : decode cX11_why 38 = .ok (.iload_n 3, 1) := by decide +kernel
theorem dX11_why_39 : decode cX11_why 39 = .ok (.invokevirtual 228, 3) := by decide +kernel
theorem dX11_why_42 : decode cX11_why 42 = .ok (.bipush 9, 2) := by decide +kernel
theorem dX11_why_44 : decode cX11_why 44 = .ok (.if_icmp .ne 7, 3) := by decide +kernel
theorem dX11_why_51 : decode cX11_why 51 = .ok (.iconst 0, 1) := by decide +kernel
theorem dX11_why_52 : decode cX11_why 52 = .ok (.ireturn, 1) := by decide +kernel
theorem dX11_why_47 : decode cX11_why 47 = .ok (.iconst 1, 1) := by decide +kernel
theorem dX11_why_48 : decode cX11_why 48 = .ok (.goto 4, 3) := by decide +kernel
theorem dX11_why_53 : decode cX11_why 53 = .ok (.aload_n 0, 1) := by decide +kernel
theorem dX11_why_54 : decode cX11_why 54 = .ok (.getfield 98, 3) := by decide +kernel
theorem dX11_why_57 : decode cX11_why 57 = .ok (.bipush 101, 2) := by decide +kernel
theorem dX11_why_59 : decode cX11_why 59 = .ok (.iload_n 2, 1) := by decide +kernel
theorem dX11_why_60 : decode cX11_why 60 = .ok (.iadd, 1) := by decide +kernel
theorem dX11_why_61 : decode cX11_why 61 = .ok (.iaload, 1) := by decide +kernel
theorem dX11_why_62 : decode cX11_why 62 = .ok (.iload_n 3, 1) := by decide +kernel
theorem dX11_why_63 : decode cX11_why 63 = .ok (.invokestatic 194, 3) := by decide +kernel
theorem dX11_why_66 : decode cX11_why 66 = .ok (.ifCond .ne 7, 3) := by decide +kernel
theorem dX11_why_69 : decode cX11_why 69 = .ok (.iconst 1, 1) := by decide +kernel
theorem dX11_why_70 : decode cX11_why 70 = .ok (.goto 30, 3) := by decide +kernel
theorem dX11_why_100 : decode cX11_why 100 = .ok (.ireturn, 1) := by decide +kernel
theorem dX11_why_73 : decode cX11_why 73 = .ok (.aload_n 0, 1) := by decide +kernel
theorem dX11_why_74 : decode cX11_why 74 = .ok (.iload_n 2, 1) := by decide +kernel
theorem dX11_why_75 : decode cX11_why 75 = .ok (.invokevirtual 265, 3) := by decide +kernel
theorem t1783 : Cond.methodLink RX11 265 yX11_lends ∈ GW := gw_mem 1897 (by decide +kernel) (by decide +kernel)
theorem t1785 : Cond.instanceMethod yX11_lends ∈ GW := gw_mem 1899 (by decide +kernel) (by decide +kernel)
theorem s74 : Cond.selects RX11 yX11_lends yX11_lends ∈ GW := gw_mem 74 (by decide +kernel) (by decide +kernel)
theorem cw_X11_265 {R : Room} {s : State} {args : Array Value} {rm : Room} {mc ms : Nat} (hts : ∀ w ∈ GW, w.before args s = true) (hrc : rm.cells = mc) (hrs : rm.slots = ms) (hR : rm.frames + 1 ≤ R.frames ∧ 8 + (2 + 11) + rm.locals ≤ R.locals) : CallW R s args RX11 RX11 265 yX11_lends cX11_lends 2 (some .boolean) (wl yX11_lends cX11_lends 2 (some .boolean)) rm mc ms 1 := cwV 1 hts (gi_V t1783 t1785 s74 t18 t1786) rfl hrc hrs (by decide +kernel) hR
theorem dX11_why_78 : decode cX11_why 78 = .ok (.ifCond .eq 7, 3) := by decide +kernel
theorem dX11_why_85 : decode cX11_why 85 = .ok (.aload_n 0, 1) := by decide +kernel
theorem dX11_why_86 : decode cX11_why 86 = .ok (.iload_n 2, 1) := by decide +kernel
theorem dX11_why_87 : decode cX11_why 87 = .ok (.iload 4, 2) := by decide +kernel
theorem dX11_why_89 : decode cX11_why 89 = .ok (.invokevirtual 228, 3) := by decide +kernel
theorem dX11_why_92 : decode cX11_why 92 = .ok (.ifCond .ne 7, 3) := by decide +kernel
theorem dX11_why_99 : decode cX11_why 99 = .ok (.iconst 0, 1) := by decide +kernel
theorem dX11_why_95 : decode cX11_why 95 = .ok (.iconst 3, 1) := by decide +kernel
theorem dX11_why_96 : decode cX11_why 96 = .ok (.goto 4, 3) := by decide +kernel
theorem dX11_why_81 : decode cX11_why 81 = .ok (.iconst 2, 1) := by decide +kernel
theorem dX11_why_82 : decode cX11_why 82 = .ok (.goto 18, 3) := by decide +kernel
theorem dX11_why_101 : decode cX11_why 101 = .ok (.aload_n 0, 1) := by decide +kernel
theorem dX11_why_102 : decode cX11_why 102 = .ok (.iload_n 2, 1) := by decide +kernel
theorem dX11_why_103 : decode cX11_why 103 = .ok (.invokevirtual 265, 3) := by decide +kernel
theorem dX11_why_106 : decode cX11_why 106 = .ok (.ifCond .eq 7, 3) := by decide +kernel
theorem dX11_why_113 : decode cX11_why 113 = .ok (.iconst 1, 1) := by decide +kernel
theorem dX11_why_114 : decode cX11_why 114 = .ok (.ireturn, 1) := by decide +kernel
theorem dX11_why_109 : decode cX11_why 109 = .ok (.iconst 0, 1) := by decide +kernel
theorem dX11_why_110 : decode cX11_why 110 = .ok (.goto 4, 3) := by decide +kernel
theorem dX11_why_115 : decode cX11_why 115 = .ok (.iload_n 2, 1) := by decide +kernel
theorem dX11_why_116 : decode cX11_why 116 = .ok (.iload_n 3, 1) := by decide +kernel
theorem dX11_why_117 : decode cX11_why 117 = .ok (.if_icmp .ne 7, 3) := by decide +kernel
theorem dX11_why_124 : decode cX11_why 124 = .ok (.aload_n 0, 1) := by decide +kernel
theorem dX11_why_125 : decode cX11_why 125 = .ok (.iload_n 2, 1) := by decide +kernel
theorem dX11_why_126 : decode cX11_why 126 = .ok (.iload_n 3, 1) := by decide +kernel
theorem dX11_why_127 : decode cX11_why 127 = .ok (.invokevirtual 232, 3) := by decide +kernel
theorem dX11_why_130 : decode cX11_why 130 = .ok (.iload 4, 2) := by decide +kernel
theorem dX11_why_132 : decode cX11_why 132 = .ok (.iadd, 1) := by decide +kernel
theorem dX11_why_133 : decode cX11_why 133 = .ok (.bipush 99, 2) := by decide +kernel
theorem dX11_why_135 : decode cX11_why 135 = .ok (.if_icmp .le 7, 3) := by decide +kernel
theorem dX11_why_142 : decode cX11_why 142 = .ok (.iconst 0, 1) := by decide +kernel
theorem dX11_why_143 : decode cX11_why 143 = .ok (.ireturn, 1) := by decide +kernel
theorem dX11_why_138 : decode cX11_why 138 = .ok (.iconst 2, 1) := by decide +kernel
theorem dX11_why_139 : decode cX11_why 139 = .ok (.goto 4, 3) := by decide +kernel
theorem dX11_why_120 : decode cX11_why 120 = .ok (.iconst 1, 1) := by decide +kernel
theorem dX11_why_121 : decode cX11_why 121 = .ok (.goto 22, 3) := by decide +kernel
theorem dX11_why_144 : decode cX11_why 144 = .ok (.aload_n 0, 1) := by decide +kernel
theorem dX11_why_145 : decode cX11_why 145 = .ok (.iload_n 2, 1) := by decide +kernel
theorem dX11_why_146 : decode cX11_why 146 = .ok (.iload_n 3, 1) := by decide +kernel
theorem dX11_why_147 : decode cX11_why 147 = .ok (.invokevirtual 232, 3) := by decide +kernel
theorem dX11_why_150 : decode cX11_why 150 = .ok (.iload 4, 2) := by decide +kernel
theorem dX11_why_152 : decode cX11_why 152 = .ok (.if_icmp .ge 7, 3) := by decide +kernel
theorem dX11_why_159 : decode cX11_why 159 = .ok (.iconst 0, 1) := by decide +kernel
theorem dX11_why_160 : decode cX11_why 160 = .ok (.ireturn, 1) := by decide +kernel
theorem dX11_why_155 : decode cX11_why 155 = .ok (.iconst 1, 1) := by decide +kernel
theorem dX11_why_156 : decode cX11_why 156 = .ok (.goto 4, 3) := by decide +kernel
theorem dX11_why_161 : decode cX11_why 161 = .ok (.aload_n 0, 1) := by decide +kernel
theorem dX11_why_162 : decode cX11_why 162 = .ok (.getfield 98, 3) := by decide +kernel
theorem dX11_why_165 : decode cX11_why 165 = .ok (.sipush 298, 3) := by decide +kernel
theorem dX11_why_168 : decode cX11_why 168 = .ok (.iload_n 2, 1) := by decide +kernel
theorem dX11_why_169 : decode cX11_why 169 = .ok (.iadd, 1) := by decide +kernel
theorem dX11_why_170 : decode cX11_why 170 = .ok (.iaload, 1) := by decide +kernel
theorem dX11_why_171 : decode cX11_why 171 = .ok (.ifCond .le 41, 3) := by decide +kernel
theorem dX11_why_212 : decode cX11_why 212 = .ok (.iconst 0, 1) := by decide +kernel
theorem dX11_why_213 : decode cX11_why 213 = .ok (.ireturn, 1) := by decide +kernel
theorem dX11_why_174 : decode cX11_why 174 = .ok (.aload_n 0, 1) := by decide +kernel
theorem dX11_why_175 : decode cX11_why 175 = .ok (.getfield 98, 3) := by decide +kernel
theorem dX11_why_178 : decode cX11_why 178 = .ok (.sipush 158, 3) := by decide +kernel
theorem dX11_why_181 : decode cX11_why 181 = .ok (.iload_n 2, 1) := by decide +kernel
theorem dX11_why_182 : decode cX11_why 182 = .ok (.iadd, 1) := by decide +kernel
theorem dX11_why_183 : decode cX11_why 183 = .ok (.iaload, 1) := by decide +kernel
theorem dX11_why_184 : decode cX11_why 184 = .ok (.bipush 60, 2) := by decide +kernel
theorem dX11_why_186 : decode cX11_why 186 = .ok (.if_icmp .lt 22, 3) := by decide +kernel
theorem dX11_why_208 : decode cX11_why 208 = .ok (.iconst 1, 1) := by decide +kernel
theorem dX11_why_209 : decode cX11_why 209 = .ok (.goto 4, 3) := by decide +kernel
theorem dX11_why_189 : decode cX11_why 189 = .ok (.aload_n 0, 1) := by decide +kernel
theorem dX11_why_190 : decode cX11_why 190 = .ok (.getfield 98, 3) := by decide +kernel
theorem dX11_why_193 : decode cX11_why 193 = .ok (.sipush 305, 3) := by decide +kernel
theorem dX11_why_196 : decode cX11_why 196 = .ok (.iconst 4, 1) := by decide +kernel
theorem dX11_why_197 : decode cX11_why 197 = .ok (.iload_n 2, 1) := by decide +kernel
theorem dX11_why_198 : decode cX11_why 198 = .ok (.imul, 1) := by decide +kernel
theorem dX11_why_199 : decode cX11_why 199 = .ok (.iadd, 1) := by decide +kernel
theorem dX11_why_200 : decode cX11_why 200 = .ok (.iconst 3, 1) := by decide +kernel
theorem dX11_why_201 : decode cX11_why 201 = .ok (.iadd, 1) := by decide +kernel
theorem dX11_why_202 : decode cX11_why 202 = .ok (.iaload, 1) := by decide +kernel
theorem dX11_why_203 : decode cX11_why 203 = .ok (.bipush 60, 2) := by decide +kernel
theorem dX11_why_205 : decode cX11_why 205 = .ok (.if_icmp .lt 7, 3) := by decide +kernel
set_option maxHeartbeats 4000000 in
set_option maxRecDepth 100000 in
theorem m_why (l : Launch) (dC : Nat → ClassId) (dI : Nat → Nat → Nat) (cy : Nat → ClassId) (vnh : Nat → Int32) (vo : Nat) (voth : Int32) (vmt : Nat) (votp : Int32) (vosz : Int32) (volm : Int32) (voto : Int32) (vofr : Int32) (vokd : Int32) (vonu : Int32) (vosg : Int32) (vofa : Int32) (vopl : Int32) (vowd : Int64) (votd : Int32) (vmn : Nat) (vmr : Nat) (vmk : Nat) (vms : Nat) (vma : Nat) (vmm : Nat) (vmrn : Nat) (vmkn : Nat) (vmik : Nat) (vmon : Nat) (vosm : Int32) (vohp : Int32) (vmw : Nat) (vmf : Nat) (vmb : Nat) (vomb : Int32) (vmd : Nat) (vmc : Nat) (vocm : Int32) (voct : Int32) (vocy : Int32) (vmx : Nat) (votx : Int32) (vose : Int32) (vml : Nat) (vmwr : Nat) (voln : Int32) (vohw : Int32) (vmno : Nat) (vond : Int32) (voon : Int32) (vowi : Int32) (votop : Int32) (vmnf : Nat → Int32) (vwt : Int32) (vm : Int32) (vx : Int32) (vy : Int32) (r_vm : -1 ≤ (vm : Int32).toInt ∧ (vm : Int32).toInt ≤ 6) (r_vx : -1 ≤ (vx : Int32).toInt ∧ (vx : Int32).toInt ≤ 40) (r_vy : -1 ≤ (vy : Int32).toInt ∧ (vy : Int32).toInt ≤ 40) (p_vmnf : NW vnh vmnf) : Met l yX11_why (wl yX11_why cX11_why 5 (some .int)) ({ frames := 2, cells := 0, slots := 0, locals := 128 }) (Pr (dC, dI) vwCl cy [(vo, .inr (12, [.int voth, .ref vmt, .int votp, .int vosz, .int volm, .int voto, .int vofr, .int vokd, .int vonu, .int vosg, .int vofa, .int vopl, .long vowd, .int votd, .ref vmn, .ref vmr, .ref vmk, .ref vms, .ref vma, .ref vmm, .ref vmrn, .ref vmkn, .ref vmik, .ref vmon, .int vosm, .int vohp, .ref vmw, .ref vmf, .ref vmb, .int vomb, .ref vmd, .ref vmc, .int vocm, .int voct, .int vocy, .ref vmx, .int votx, .int vose, .ref vml, .ref vmwr, .int voln, .int vohw, .ref vmno, .int vond, .int voon, .int vowi, .int votop])), (vmn, .inl (cy 0, 575, .inl vmnf))] [.ref vo, .int vwt, .int vm, .int vx, .int vy]) (Ri (fun r => (0 ≤ (r : Int32).toInt ∧ (r : Int32).toInt ≤ 3))) 0 0 (fun _ => False) := by
  refine mr RX11 rfl (by decide +kernel) (Nat.le_of_ble_eq_true rfl) ?_
  intro p e s m below meth c hx hb hr hlocks av9 hav hts hown hml hK hP hS Q9 hQ9 ls hl
  have hl : lv_has ls 5 [(0, .ref vo), (1, .int vwt), (2, .int vm), (3, .int vx), (4, .int vy)] := hl
  refine lv_iload_n hx hb dX11_why_0 rfl (lv_at hl 1 rfl) ?_
  have k_0 : (0 : Int32).toInt = 0 := by decide
  have k_1 : (1 : Int32).toInt = 1 := by decide
  have k_2 : (2 : Int32).toInt = 2 := by decide
  have k_3 : (3 : Int32).toInt = 3 := by decide
  have k_4 : (4 : Int32).toInt = 4 := by decide
  by_cases sw_1_0 : vwt.toInt = 0
  · refine as_i 0 (i_eq.mpr (sw_1_0.trans k_0.symm)) ?_
    refine lv_tableIn (off := 35) (tgt := 36) hx hb dX11_why_1 (by decide) (by decide) (by decide) (by decide) ?_
    refine lv_aload_n hx hb dX11_why_36 rfl (lv_at hl 0 rfl) ?_
    refine lv_iload_n hx hb dX11_why_37 rfl (lv_at hl 2 rfl) ?_
    refine lv_iload_n hx hb dX11_why_38 rfl (lv_at hl 3 rfl) ?_
    refine jr_i (rVr (As := [.int vm, .int vx]) (rest := []) (ci := 12) ⟨hx, hb, hml, hown, hts⟩ (m_didOf l dC dI cy vnh vo voth vmt votp vosz volm voto vofr vokd vonu vosg vofa vopl vowd votd vmn vmr vmk vms vma vmm vmrn vmkn vmik vmon vosm vohp vmw vmf vmb vomb vmd vmc vocm voct vocy vmx votx vose vml vmwr voln vohw vmno vond voon vowi votop vmnf vm vx r_vm r_vx p_vmnf) (cw_X11_228 hts rfl rfl ⟨Nat.le_of_ble_eq_true rfl, Nat.le_of_ble_eq_true rfl⟩) hP hK [0, 1] rfl rfl rfl rfl hl.1 rfl (Nat.le_of_ble_eq_true rfl) dX11_why_39 ⟨Nat.le_of_ble_eq_true rfl, Nat.le_of_ble_eq_true rfl⟩) hP hS (fun r_2 H locs hp_3 hP hS => ?_)
    refine lv_bipush (v := 9) hx hb dX11_why_42 (by decide) ?_
    have k_9 : (9 : Int32).toInt = 9 := by decide
    refine lv_icmp_ne (tgt := 51) hx hb dX11_why_44 (by decide) (fun c_4 => ?_) (fun c_4 => ?_)
    · skip
      have c_4 : ¬ (r_2.toInt = (9 : Int32).toInt) := fun h9 => c_4 (i_eq.mpr h9)
      refine lv_iconst (v := 0) hx hb dX11_why_51 (by decide) ?_
      rw [hQ9]
      exact rr_i hx hb hr hlocks (show 0 ≤ ((0 : Int32) : Int32).toInt ∧ ((0 : Int32) : Int32).toInt ≤ 3 from ⟨by omega, by omega⟩) hS dX11_why_52
    · skip
      have c_4 : r_2.toInt = (9 : Int32).toInt := i_eq.mp c_4
      refine lv_iconst (v := 1) hx hb dX11_why_47 (by decide) ?_
      refine lv_goto (tgt := 52) hx hb dX11_why_48 (by decide) ?_
      rw [hQ9]
      exact rr_i hx hb hr hlocks (show 0 ≤ ((1 : Int32) : Int32).toInt ∧ ((1 : Int32) : Int32).toInt ≤ 3 from ⟨by omega, by omega⟩) hS dX11_why_52
  by_cases sw_1_1 : vwt.toInt = 1
  · refine as_i 1 (i_eq.mpr (sw_1_1.trans k_1.symm)) ?_
    refine lv_tableIn (off := 52) (tgt := 53) hx hb dX11_why_1 (by decide) (by decide) (by decide) (by decide) ?_
    refine lv_aload_n hx hb dX11_why_53 rfl (lv_at hl 0 rfl) ?_
    refine gf_X11_98 hx hb hts hown hK hP 0 rfl rfl dX11_why_54 ?_
    refine lv_bipush (v := 101) hx hb dX11_why_57 (by decide) ?_
    refine lv_iload_n hx hb dX11_why_59 rfl (lv_at hl 2 rfl) ?_
    refine lv_iadd hx hb dX11_why_60 ?_
    refine lv_topi (fun z_5 ez_5 => ?_)
    have k_101 : (101 : Int32).toInt = 101 := by decide
    have bz_5 : z_5.toInt = (101 : Int32).toInt + vm.toInt := i_add ez_5 (by omega) (by omega)
    have hin_6 : vp_in z_5 575 := vp_in_iff.mpr ⟨by omega, by omega⟩
    refine va_iald hx hb hK hP 1 0 rfl rfl hin_6 dX11_why_61 ?_
    refine lv_topi (fun z_7 ez_7 => ?_)
    refine lv_iload_n hx hb dX11_why_62 rfl (lv_at hl 3 rfl) ?_
    refine jr_i (rSr (As := [.int z_7, .int vx]) (rest := []) ⟨hx, hb, hml, hown, hts⟩ (m_has l dC dI cy z_7 vx ) (cw_X11_194 hts rfl rfl ⟨Nat.le_of_ble_eq_true rfl, Nat.le_of_ble_eq_true rfl⟩) hP hK [] rfl rfl hl.1 rfl (Nat.le_of_ble_eq_true rfl) dX11_why_63 ⟨Nat.le_of_ble_eq_true rfl, Nat.le_of_ble_eq_true rfl⟩) hP hS (fun r_8 H locs hp_9 hP hS => ?_)
    have hp_9 : ((r_8 = 0) ∨ (r_8 = 1)) := hp_9
    have q_10 := hp_9
    rcases q_10 with aq_10 | aq_10
    · skip
      refine as_i 0 aq_10 ?_
      refine lv_if_ne (tgt := 73) hx hb dX11_why_66 (by decide) (fun c9 => absurd c9 (by decide)) (fun _ => ?_)
      refine lv_iconst (v := 1) hx hb dX11_why_69 (by decide) ?_
      refine lv_goto (tgt := 100) hx hb dX11_why_70 (by decide) ?_
      rw [hQ9]
      exact rr_i hx hb hr hlocks (show 0 ≤ ((1 : Int32) : Int32).toInt ∧ ((1 : Int32) : Int32).toInt ≤ 3 from ⟨by omega, by omega⟩) hS dX11_why_100
    · skip
      refine as_i 1 aq_10 ?_
      refine lv_if_ne (tgt := 73) hx hb dX11_why_66 (by decide) (fun _ => ?_) (fun c9 => absurd c9 (by decide))
      refine lv_aload_n hx hb dX11_why_73 rfl (lv_at hl 0 rfl) ?_
      refine lv_iload_n hx hb dX11_why_74 rfl (lv_at hl 2 rfl) ?_
      refine jr_i (rVr (As := [.int vm]) (rest := []) (ci := 12) ⟨hx, hb, hml, hown, hts⟩ (m_lends l dC dI cy vnh vo voth vmt votp vosz volm voto vofr vokd vonu vosg vofa vopl vowd votd vmn vmr vmk vms vma vmm vmrn vmkn vmik vmon vosm vohp vmw vmf vmb vomb vmd vmc vocm voct vocy vmx votx vose vml vmwr voln vohw vmno vond voon vowi votop vmnf vm r_vm p_vmnf) (cw_X11_265 hts rfl rfl ⟨Nat.le_of_ble_eq_true rfl, Nat.le_of_ble_eq_true rfl⟩) hP hK [0, 1] rfl rfl rfl rfl hl.1 rfl (Nat.le_of_ble_eq_true rfl) dX11_why_75 ⟨Nat.le_of_ble_eq_true rfl, Nat.le_of_ble_eq_true rfl⟩) hP hS (fun r_11 H locs hp_12 hP hS => ?_)
      have hp_12 : ((r_11 = 0) ∨ (r_11 = 1)) := hp_12
      have q_13 := hp_12
      rcases q_13 with aq_13 | aq_13
      · skip
        refine as_i 0 aq_13 ?_
        refine lv_if_eq (tgt := 85) hx hb dX11_why_78 (by decide) (fun _ => ?_) (fun c9 => absurd (by decide) c9)
        refine lv_aload_n hx hb dX11_why_85 rfl (lv_at hl 0 rfl) ?_
        refine lv_iload_n hx hb dX11_why_86 rfl (lv_at hl 2 rfl) ?_
        refine lv_iload hx hb dX11_why_87 (lv_at hl 4 rfl) ?_
        refine jr_i (rVr (As := [.int vm, .int vy]) (rest := []) (ci := 12) ⟨hx, hb, hml, hown, hts⟩ (m_didOf l dC dI cy vnh vo voth vmt votp vosz volm voto vofr vokd vonu vosg vofa vopl vowd votd vmn vmr vmk vms vma vmm vmrn vmkn vmik vmon vosm vohp vmw vmf vmb vomb vmd vmc vocm voct vocy vmx votx vose vml vmwr voln vohw vmno vond voon vowi votop vmnf vm vy r_vm r_vy p_vmnf) (cw_X11_228 hts rfl rfl ⟨Nat.le_of_ble_eq_true rfl, Nat.le_of_ble_eq_true rfl⟩) hP hK [0, 1] rfl rfl rfl rfl hl.1 rfl (Nat.le_of_ble_eq_true rfl) dX11_why_89 ⟨Nat.le_of_ble_eq_true rfl, Nat.le_of_ble_eq_true rfl⟩) hP hS (fun r_14 H locs hp_15 hP hS => ?_)
        refine lv_if_ne (tgt := 99) hx hb dX11_why_92 (by decide) (fun c_16 => ?_) (fun c_16 => ?_)
        · skip
          have c_16 : ¬ (r_14.toInt = (0 : Int32).toInt) := fun h9 => c_16 (i_eq.mpr h9)
          refine lv_iconst (v := 0) hx hb dX11_why_99 (by decide) ?_
          rw [hQ9]
          exact rr_i hx hb hr hlocks (show 0 ≤ ((0 : Int32) : Int32).toInt ∧ ((0 : Int32) : Int32).toInt ≤ 3 from ⟨by omega, by omega⟩) hS dX11_why_100
        · skip
          have c_16 : r_14.toInt = (0 : Int32).toInt := i_eq.mp c_16
          refine lv_iconst (v := 3) hx hb dX11_why_95 (by decide) ?_
          refine lv_goto (tgt := 100) hx hb dX11_why_96 (by decide) ?_
          rw [hQ9]
          exact rr_i hx hb hr hlocks (show 0 ≤ ((3 : Int32) : Int32).toInt ∧ ((3 : Int32) : Int32).toInt ≤ 3 from ⟨by omega, by omega⟩) hS dX11_why_100
      · skip
        refine as_i 1 aq_13 ?_
        refine lv_if_eq (tgt := 85) hx hb dX11_why_78 (by decide) (fun c9 => absurd c9 (by decide)) (fun _ => ?_)
        refine lv_iconst (v := 2) hx hb dX11_why_81 (by decide) ?_
        refine lv_goto (tgt := 100) hx hb dX11_why_82 (by decide) ?_
        rw [hQ9]
        exact rr_i hx hb hr hlocks (show 0 ≤ ((2 : Int32) : Int32).toInt ∧ ((2 : Int32) : Int32).toInt ≤ 3 from ⟨by omega, by omega⟩) hS dX11_why_100
  by_cases sw_1_2 : vwt.toInt = 2
  · refine as_i 2 (i_eq.mpr (sw_1_2.trans k_2.symm)) ?_
    refine lv_tableIn (off := 100) (tgt := 101) hx hb dX11_why_1 (by decide) (by decide) (by decide) (by decide) ?_
    refine lv_aload_n hx hb dX11_why_101 rfl (lv_at hl 0 rfl) ?_
    refine lv_iload_n hx hb dX11_why_102 rfl (lv_at hl 2 rfl) ?_
    refine jr_i (rVr (As := [.int vm]) (rest := []) (ci := 12) ⟨hx, hb, hml, hown, hts⟩ (m_lends l dC dI cy vnh vo voth vmt votp vosz volm voto vofr vokd vonu vosg vofa vopl vowd votd vmn vmr vmk vms vma vmm vmrn vmkn vmik vmon vosm vohp vmw vmf vmb vomb vmd vmc vocm voct vocy vmx votx vose vml vmwr voln vohw vmno vond voon vowi votop vmnf vm r_vm p_vmnf) (cw_X11_265 hts rfl rfl ⟨Nat.le_of_ble_eq_true rfl, Nat.le_of_ble_eq_true rfl⟩) hP hK [0, 1] rfl rfl rfl rfl hl.1 rfl (Nat.le_of_ble_eq_true rfl) dX11_why_103 ⟨Nat.le_of_ble_eq_true rfl, Nat.le_of_ble_eq_true rfl⟩) hP hS (fun r_17 H locs hp_18 hP hS => ?_)
    have hp_18 : ((r_17 = 0) ∨ (r_17 = 1)) := hp_18
    have q_19 := hp_18
    rcases q_19 with aq_19 | aq_19
    · skip
      refine as_i 0 aq_19 ?_
      refine lv_if_eq (tgt := 113) hx hb dX11_why_106 (by decide) (fun _ => ?_) (fun c9 => absurd (by decide) c9)
      refine lv_iconst (v := 1) hx hb dX11_why_113 (by decide) ?_
      rw [hQ9]
      exact rr_i hx hb hr hlocks (show 0 ≤ ((1 : Int32) : Int32).toInt ∧ ((1 : Int32) : Int32).toInt ≤ 3 from ⟨by omega, by omega⟩) hS dX11_why_114
    · skip
      refine as_i 1 aq_19 ?_
      refine lv_if_eq (tgt := 113) hx hb dX11_why_106 (by decide) (fun c9 => absurd c9 (by decide)) (fun _ => ?_)
      refine lv_iconst (v := 0) hx hb dX11_why_109 (by decide) ?_
      refine lv_goto (tgt := 114) hx hb dX11_why_110 (by decide) ?_
      rw [hQ9]
      exact rr_i hx hb hr hlocks (show 0 ≤ ((0 : Int32) : Int32).toInt ∧ ((0 : Int32) : Int32).toInt ≤ 3 from ⟨by omega, by omega⟩) hS dX11_why_114
  by_cases sw_1_3 : vwt.toInt = 3
  · refine as_i 3 (i_eq.mpr (sw_1_3.trans k_3.symm)) ?_
    refine lv_tableIn (off := 114) (tgt := 115) hx hb dX11_why_1 (by decide) (by decide) (by decide) (by decide) ?_
    refine lv_iload_n hx hb dX11_why_115 rfl (lv_at hl 2 rfl) ?_
    refine lv_iload_n hx hb dX11_why_116 rfl (lv_at hl 3 rfl) ?_
    refine lv_icmp_ne (tgt := 124) hx hb dX11_why_117 (by decide) (fun c_20 => ?_) (fun c_20 => ?_)
    · skip
      have c_20 : ¬ (vm.toInt = vx.toInt) := fun h9 => c_20 (i_eq.mpr h9)
      refine lv_aload_n hx hb dX11_why_124 rfl (lv_at hl 0 rfl) ?_
      refine lv_iload_n hx hb dX11_why_125 rfl (lv_at hl 2 rfl) ?_
      refine lv_iload_n hx hb dX11_why_126 rfl (lv_at hl 3 rfl) ?_
      refine jr_i (rVr (As := [.int vm, .int vx]) (rest := []) (ci := 12) ⟨hx, hb, hml, hown, hts⟩ (m_owesOf l dC dI cy vnh vo voth vmt votp vosz volm voto vofr vokd vonu vosg vofa vopl vowd votd vmn vmr vmk vms vma vmm vmrn vmkn vmik vmon vosm vohp vmw vmf vmb vomb vmd vmc vocm voct vocy vmx votx vose vml vmwr voln vohw vmno vond voon vowi votop vmnf vm vx r_vm r_vx p_vmnf) (cw_X11_232 hts rfl rfl ⟨Nat.le_of_ble_eq_true rfl, Nat.le_of_ble_eq_true rfl⟩) hP hK [0, 1] rfl rfl rfl rfl hl.1 rfl (Nat.le_of_ble_eq_true rfl) dX11_why_127 ⟨Nat.le_of_ble_eq_true rfl, Nat.le_of_ble_eq_true rfl⟩) hP hS (fun r_21 H locs hp_22 hP hS => ?_)
      refine lv_iload hx hb dX11_why_130 (lv_at hl 4 rfl) ?_
      refine lv_iadd hx hb dX11_why_132 ?_
      refine lv_topi (fun z_23 ez_23 => ?_)
      refine lv_bipush (v := 99) hx hb dX11_why_133 (by decide) ?_
      have k_99 : (99 : Int32).toInt = 99 := by decide
      refine lv_icmp_le (tgt := 142) hx hb dX11_why_135 (by decide) (fun c_24 => ?_) (fun c_24 => ?_)
      · skip
        have c_24 : z_23.toInt ≤ (99 : Int32).toInt := i_le.mp c_24
        refine lv_iconst (v := 0) hx hb dX11_why_142 (by decide) ?_
        rw [hQ9]
        exact rr_i hx hb hr hlocks (show 0 ≤ ((0 : Int32) : Int32).toInt ∧ ((0 : Int32) : Int32).toInt ≤ 3 from ⟨by omega, by omega⟩) hS dX11_why_143
      · skip
        have c_24 : ¬ (z_23.toInt ≤ (99 : Int32).toInt) := fun h9 => c_24 (i_le.mpr h9)
        refine lv_iconst (v := 2) hx hb dX11_why_138 (by decide) ?_
        refine lv_goto (tgt := 143) hx hb dX11_why_139 (by decide) ?_
        rw [hQ9]
        exact rr_i hx hb hr hlocks (show 0 ≤ ((2 : Int32) : Int32).toInt ∧ ((2 : Int32) : Int32).toInt ≤ 3 from ⟨by omega, by omega⟩) hS dX11_why_143
    · skip
      have c_20 : vm.toInt = vx.toInt := i_eq.mp c_20
      refine lv_iconst (v := 1) hx hb dX11_why_120 (by decide) ?_
      refine lv_goto (tgt := 143) hx hb dX11_why_121 (by decide) ?_
      rw [hQ9]
      exact rr_i hx hb hr hlocks (show 0 ≤ ((1 : Int32) : Int32).toInt ∧ ((1 : Int32) : Int32).toInt ≤ 3 from ⟨by omega, by omega⟩) hS dX11_why_143
  by_cases sw_1_4 : vwt.toInt = 4
  · refine as_i 4 (i_eq.mpr (sw_1_4.trans k_4.symm)) ?_
    refine lv_tableIn (off := 143) (tgt := 144) hx hb dX11_why_1 (by decide) (by decide) (by decide) (by decide) ?_
    refine lv_aload_n hx hb dX11_why_144 rfl (lv_at hl 0 rfl) ?_
    refine lv_iload_n hx hb dX11_why_145 rfl (lv_at hl 2 rfl) ?_
    refine lv_iload_n hx hb dX11_why_146 rfl (lv_at hl 3 rfl) ?_
    refine jr_i (rVr (As := [.int vm, .int vx]) (rest := []) (ci := 12) ⟨hx, hb, hml, hown, hts⟩ (m_owesOf l dC dI cy vnh vo voth vmt votp vosz volm voto vofr vokd vonu vosg vofa vopl vowd votd vmn vmr vmk vms vma vmm vmrn vmkn vmik vmon vosm vohp vmw vmf vmb vomb vmd vmc vocm voct vocy vmx votx vose vml vmwr voln vohw vmno vond voon vowi votop vmnf vm vx r_vm r_vx p_vmnf) (cw_X11_232 hts rfl rfl ⟨Nat.le_of_ble_eq_true rfl, Nat.le_of_ble_eq_true rfl⟩) hP hK [0, 1] rfl rfl rfl rfl hl.1 rfl (Nat.le_of_ble_eq_true rfl) dX11_why_147 ⟨Nat.le_of_ble_eq_true rfl, Nat.le_of_ble_eq_true rfl⟩) hP hS (fun r_25 H locs hp_26 hP hS => ?_)
    refine lv_iload hx hb dX11_why_150 (lv_at hl 4 rfl) ?_
    refine lv_icmp_ge (tgt := 159) hx hb dX11_why_152 (by decide) (fun c_27 => ?_) (fun c_27 => ?_)
    · skip
      have c_27 : vy.toInt ≤ r_25.toInt := i_le.mp c_27
      refine lv_iconst (v := 0) hx hb dX11_why_159 (by decide) ?_
      rw [hQ9]
      exact rr_i hx hb hr hlocks (show 0 ≤ ((0 : Int32) : Int32).toInt ∧ ((0 : Int32) : Int32).toInt ≤ 3 from ⟨by omega, by omega⟩) hS dX11_why_160
    · skip
      have c_27 : ¬ (vy.toInt ≤ r_25.toInt) := fun h9 => c_27 (i_le.mpr h9)
      refine lv_iconst (v := 1) hx hb dX11_why_155 (by decide) ?_
      refine lv_goto (tgt := 160) hx hb dX11_why_156 (by decide) ?_
      rw [hQ9]
      exact rr_i hx hb hr hlocks (show 0 ≤ ((1 : Int32) : Int32).toInt ∧ ((1 : Int32) : Int32).toInt ≤ 3 from ⟨by omega, by omega⟩) hS dX11_why_160
  refine lv_tableOut (tgt := 161) hx hb dX11_why_1 (by omega) (by decide) ?_
  refine lv_aload_n hx hb dX11_why_161 rfl (lv_at hl 0 rfl) ?_
  refine gf_X11_98 hx hb hts hown hK hP 0 rfl rfl dX11_why_162 ?_
  refine lv_sipush (v := 298) hx hb dX11_why_165 (by decide) ?_
  refine lv_iload_n hx hb dX11_why_168 rfl (lv_at hl 2 rfl) ?_
  refine lv_iadd hx hb dX11_why_169 ?_
  refine lv_topi (fun z_28 ez_28 => ?_)
  have k_298 : (298 : Int32).toInt = 298 := by decide
  have bz_28 : z_28.toInt = (298 : Int32).toInt + vm.toInt := i_add ez_28 (by omega) (by omega)
  have hin_29 : vp_in z_28 575 := vp_in_iff.mpr ⟨by omega, by omega⟩
  refine va_iald hx hb hK hP 1 0 rfl rfl hin_29 dX11_why_170 ?_
  refine lv_topi (fun z_30 ez_30 => ?_)
  refine lv_if_le (tgt := 212) hx hb dX11_why_171 (by decide) (fun c_31 => ?_) (fun c_31 => ?_)
  · skip
    have c_31 : z_30.toInt ≤ (0 : Int32).toInt := i_le.mp c_31
    refine lv_iconst (v := 0) hx hb dX11_why_212 (by decide) ?_
    rw [hQ9]
    exact rr_i hx hb hr hlocks (show 0 ≤ ((0 : Int32) : Int32).toInt ∧ ((0 : Int32) : Int32).toInt ≤ 3 from ⟨by omega, by omega⟩) hS dX11_why_213
  · skip
    have c_31 : ¬ (z_30.toInt ≤ (0 : Int32).toInt) := fun h9 => c_31 (i_le.mpr h9)
    refine lv_aload_n hx hb dX11_why_174 rfl (lv_at hl 0 rfl) ?_
    refine gf_X11_98 hx hb hts hown hK hP 0 rfl rfl dX11_why_175 ?_
    refine lv_sipush (v := 158) hx hb dX11_why_178 (by decide) ?_
    refine lv_iload_n hx hb dX11_why_181 rfl (lv_at hl 2 rfl) ?_
    refine lv_iadd hx hb dX11_why_182 ?_
    refine lv_topi (fun z_32 ez_32 => ?_)
    have k_158 : (158 : Int32).toInt = 158 := by decide
    have bz_32 : z_32.toInt = (158 : Int32).toInt + vm.toInt := i_add ez_32 (by omega) (by omega)
    have hin_33 : vp_in z_32 575 := vp_in_iff.mpr ⟨by omega, by omega⟩
    refine va_iald hx hb hK hP 1 0 rfl rfl hin_33 dX11_why_183 ?_
    refine lv_topi (fun z_34 ez_34 => ?_)
    refine lv_bipush (v := 60) hx hb dX11_why_184 (by decide) ?_
    have k_60 : (60 : Int32).toInt = 60 := by decide
    refine lv_icmp_lt (tgt := 208) hx hb dX11_why_186 (by decide) (fun c_35 => ?_) (fun c_35 => ?_)
    · skip
      have c_35 : z_34.toInt < (60 : Int32).toInt := i_lt.mp c_35
      refine lv_iconst (v := 1) hx hb dX11_why_208 (by decide) ?_
      refine lv_goto (tgt := 213) hx hb dX11_why_209 (by decide) ?_
      rw [hQ9]
      exact rr_i hx hb hr hlocks (show 0 ≤ ((1 : Int32) : Int32).toInt ∧ ((1 : Int32) : Int32).toInt ≤ 3 from ⟨by omega, by omega⟩) hS dX11_why_213
    · skip
      have c_35 : ¬ (z_34.toInt < (60 : Int32).toInt) := fun h9 => c_35 (i_lt.mpr h9)
      refine lv_aload_n hx hb dX11_why_189 rfl (lv_at hl 0 rfl) ?_
      refine gf_X11_98 hx hb hts hown hK hP 0 rfl rfl dX11_why_190 ?_
      refine lv_sipush (v := 305) hx hb dX11_why_193 (by decide) ?_
      refine lv_iconst (v := 4) hx hb dX11_why_196 (by decide) ?_
      refine lv_iload_n hx hb dX11_why_197 rfl (lv_at hl 2 rfl) ?_
      refine lv_imul hx hb dX11_why_198 ?_
      refine lv_topi (fun z_36 ez_36 => ?_)
      have bz_36 : z_36.toInt = vm.toInt * 4 := i_cmul k_4 ez_36 (by omega) (by omega)
      refine lv_iadd hx hb dX11_why_199 ?_
      refine lv_topi (fun z_37 ez_37 => ?_)
      have k_305 : (305 : Int32).toInt = 305 := by decide
      have bz_37 : z_37.toInt = (305 : Int32).toInt + z_36.toInt := i_add ez_37 (by omega) (by omega)
      refine lv_iconst (v := 3) hx hb dX11_why_200 (by decide) ?_
      refine lv_iadd hx hb dX11_why_201 ?_
      refine lv_topi (fun z_38 ez_38 => ?_)
      have bz_38 : z_38.toInt = z_37.toInt + (3 : Int32).toInt := i_add ez_38 (by omega) (by omega)
      have hin_39 : vp_in z_38 575 := vp_in_iff.mpr ⟨by omega, by omega⟩
      refine va_iald hx hb hK hP 1 0 rfl rfl hin_39 dX11_why_202 ?_
      refine lv_topi (fun z_40 ez_40 => ?_)
      refine lv_bipush (v := 60) hx hb dX11_why_203 (by decide) ?_
      refine lv_icmp_lt (tgt := 212) hx hb dX11_why_205 (by decide) (fun c_41 => ?_) (fun c_41 => ?_)
      · skip
        have c_41 : z_40.toInt < (60 : Int32).toInt := i_lt.mp c_41
        refine lv_iconst (v := 0) hx hb dX11_why_212 (by decide) ?_
        rw [hQ9]
        exact rr_i hx hb hr hlocks (show 0 ≤ ((0 : Int32) : Int32).toInt ∧ ((0 : Int32) : Int32).toInt ≤ 3 from ⟨by omega, by omega⟩) hS dX11_why_213
      · skip
        have c_41 : ¬ (z_40.toInt < (60 : Int32).toInt) := fun h9 => c_41 (i_lt.mpr h9)
        refine lv_iconst (v := 1) hx hb dX11_why_208 (by decide) ?_
        refine lv_goto (tgt := 213) hx hb dX11_why_209 (by decide) ?_
        rw [hQ9]
        exact rr_i hx hb hr hlocks (show 0 ≤ ((1 : Int32) : Int32).toInt ∧ ((1 : Int32) : Int32).toInt ≤ 3 from ⟨by omega, by omega⟩) hS dX11_why_213
abbrev cX11_weightsOf : ByteArray := prog_13_method_80_code
def yX11_weightsOf : MethodName := ⟨RX11, "weightsOf", "(I)I"⟩
theorem t1865 : Cond.code yX11_weightsOf cX11_weightsOf 4 (some .int) ∈ GW := gw_mem 1979 (by decide +kernel) (by decide +kernel)
theorem dX11_weightsOf_0 : decode cX11_weightsOf 0 = .ok (.iconst 0, 1) := by decide +kernel
theorem dX11_weightsOf_1 : decode cX11_weightsOf 1 = .ok (.istore_n 2, 1) := by decide +kernel
theorem dX11_weightsOf_2 : decode cX11_weightsOf 2 = .ok (.iconst 0, 1) := by decide +kernel
theorem dX11_weightsOf_3 : decode cX11_weightsOf 3 = .ok (.istore_n 3, 1) := by decide +kernel
theorem dX11_weightsOf_4 : decode cX11_weightsOf 4 = .ok (.iload_n 3, 1) := by decide +kernel
theorem dX11_weightsOf_5 : decode cX11_weightsOf 5 = .ok (.aload_n 0, 1) := by decide +kernel
theorem dX11_weightsOf_6 : decode cX11_weightsOf 6 = .ok (.getfield 98, 3) := by decide +kernel
theorem dX11_weightsOf_9 : decode cX11_weightsOf 9 = .ok (.iconst 0, 1) := by decide +kernel
theorem dX11_weightsOf_10 : decode cX11_weightsOf 10 = .ok (.iaload, 1) := by decide +kernel
theorem dX11_weightsOf_11 : decode cX11_weightsOf 11 = .ok (.if_icmp .ge 25, 3) := by decide +kernel
theorem dX11_weightsOf_36 : decode cX11_weightsOf 36 = .ok (.iload_n 2, 1) := by decide +kernel
theorem dX11_weightsOf_37 : decode cX11_weightsOf 37 = .ok (.ireturn, 1) := by decide +kernel
theorem dX11_weightsOf_14 : decode cX11_weightsOf 14 = .ok (.iload_n 1, 1) := by decide +kernel
theorem dX11_weightsOf_15 : decode cX11_weightsOf 15 = .ok (.iload_n 3, 1) := by decide +kernel
theorem dX11_weightsOf_16 : decode cX11_weightsOf 16 = .ok (.invokestatic 194, 3) := by decide +kernel
theorem dX11_weightsOf_19 : decode cX11_weightsOf 19 = .ok (.ifCond .eq 11, 3) := by decide +kernel
theorem dX11_weightsOf_30 : decode cX11_weightsOf 30 = .ok (.iinc 3 1, 3) := by decide +kernel
theorem dX11_weightsOf_33 : decode cX11_weightsOf 33 = .ok (.goto (-29), 3) := by decide +kernel
theorem dX11_weightsOf_22 : decode cX11_weightsOf 22 = .ok (.iload_n 2, 1) := by decide +kernel
theorem dX11_weightsOf_23 : decode cX11_weightsOf 23 = .ok (.aload_n 0, 1) := by decide +kernel
theorem dX11_weightsOf_24 : decode cX11_weightsOf 24 = .ok (.iload_n 3, 1) := by decide +kernel
theorem dX11_weightsOf_25 : decode cX11_weightsOf 25 = .ok (.invokevirtual 247, 3) := by decide +kernel
theorem dX11_weightsOf_28 : decode cX11_weightsOf 28 = .ok (.iadd, 1) := by decide +kernel
theorem dX11_weightsOf_29 : decode cX11_weightsOf 29 = .ok (.istore_n 2, 1) := by decide +kernel
set_option maxHeartbeats 4000000 in
set_option maxRecDepth 100000 in
theorem m_weightsOf (l : Launch) (dC : Nat → ClassId) (dI : Nat → Nat → Nat) (cy : Nat → ClassId) (vnh : Nat → Int32) (vo : Nat) (voth : Int32) (vmt : Nat) (votp : Int32) (vosz : Int32) (volm : Int32) (voto : Int32) (vofr : Int32) (vokd : Int32) (vonu : Int32) (vosg : Int32) (vofa : Int32) (vopl : Int32) (vowd : Int64) (votd : Int32) (vmn : Nat) (vmr : Nat) (vmk : Nat) (vms : Nat) (vma : Nat) (vmm : Nat) (vmrn : Nat) (vmkn : Nat) (vmik : Nat) (vmon : Nat) (vosm : Int32) (vohp : Int32) (vmw : Nat) (vmf : Nat) (vmb : Nat) (vomb : Int32) (vmd : Nat) (vmc : Nat) (vocm : Int32) (voct : Int32) (vocy : Int32) (vmx : Nat) (votx : Int32) (vose : Int32) (vml : Nat) (vmwr : Nat) (voln : Int32) (vohw : Int32) (vmno : Nat) (vond : Int32) (voon : Int32) (vowi : Int32) (votop : Int32) (vmnf : Nat → Int32) (vst : Int32) (p_vmnf : NW vnh vmnf) : Met l yX11_weightsOf (wl yX11_weightsOf cX11_weightsOf 4 (some .int)) ({ frames := 4, cells := 0, slots := 0, locals := 256 }) (Pr (dC, dI) vwCl cy [(vo, .inr (12, [.int voth, .ref vmt, .int votp, .int vosz, .int volm, .int voto, .int vofr, .int vokd, .int vonu, .int vosg, .int vofa, .int vopl, .long vowd, .int votd, .ref vmn, .ref vmr, .ref vmk, .ref vms, .ref vma, .ref vmm, .ref vmrn, .ref vmkn, .ref vmik, .ref vmon, .int vosm, .int vohp, .ref vmw, .ref vmf, .ref vmb, .int vomb, .ref vmd, .ref vmc, .int vocm, .int voct, .int vocy, .ref vmx, .int votx, .int vose, .ref vml, .ref vmwr, .int voln, .int vohw, .ref vmno, .int vond, .int voon, .int vowi, .int votop])), (vmn, .inl (cy 0, 575, .inl vmnf))] [.ref vo, .int vst]) (Ri (fun r => True)) 0 0 (fun _ => False) := by
  refine mr RX11 rfl (by decide +kernel) (Nat.le_of_ble_eq_true rfl) ?_
  intro p e s m below meth c hx hb hr hlocks av9 hav hts hown hml hK hP hS Q9 hQ9 ls hl
  have hl : lv_has ls 4 [(0, .ref vo), (1, .int vst)] := hl
  refine lv_iconst (v := 0) hx hb dX11_weightsOf_0 (by decide) ?_
  refine lv_istore_n (lv' := [(2, .int 0), (0, .ref vo), (1, .int vst)]) hx hb dX11_weightsOf_1 rfl hl (by decide) rfl (fun ls hl => ?_)
  refine lv_iconst (v := 0) hx hb dX11_weightsOf_2 (by decide) ?_
  refine lv_istore_n (lv' := [(3, .int 0), (2, .int 0), (0, .ref vo), (1, .int vst)]) hx hb dX11_weightsOf_3 rfl hl (by decide) rfl (fun ls hl => ?_)
  have loop1 : ∀ (n1 : Nat) (x_3 : Int32) (x_2 : Int32), (0 ≤ x_2.toInt ∧ x_2.toInt ≤ 7) → 7 - x_2.toInt < (n1 : Int) → ∀ (H : Heap) (locs : List Loc), va_P (dC, dI) vwCl [(vo, .inr (12, [.int voth, .ref vmt, .int votp, .int vosz, .int volm, .int voto, .int vofr, .int vokd, .int vonu, .int vosg, .int vofa, .int vopl, .long vowd, .int votd, .ref vmn, .ref vmr, .ref vmk, .ref vms, .ref vma, .ref vmm, .ref vmrn, .ref vmkn, .ref vmik, .ref vmon, .int vosm, .int vohp, .ref vmw, .ref vmf, .ref vmb, .int vomb, .ref vmd, .ref vmc, .int vocm, .int voct, .int vocy, .ref vmx, .int votx, .int vose, .ref vml, .ref vmwr, .int voln, .int vohw, .ref vmno, .int vond, .int voon, .int vowi, .int votop])), (vmn, .inl (cy 0, 575, .inl vmnf))] H → va_S (fun _ => False) s.heap H locs → ∀ ls : Array Slot, lv_has ls 4 [(3, .int x_2), (2, .int x_3), (0, .ref vo), (1, .int vst)] → W p l e ({ frames := 4, cells := 0, slots := 0, locals := 256 }) s m av9 below meth c H locs 0 0 Q9 (F0 m 4 ls []) := by
    intro n1
    induction n1 with
    | zero =>
      intro x_3 x_2 bx_2 hn1 H locs hP hS ls hl
      exfalso; omega
    | succ n1 ih1 =>
      intro x_3 x_2 bx_2 hn1 H locs hP hS ls hl
      refine lv_iload_n hx hb dX11_weightsOf_4 rfl (lv_at hl 0 rfl) ?_
      refine lv_aload_n hx hb dX11_weightsOf_5 rfl (lv_at hl 2 rfl) ?_
      refine gf_X11_98 hx hb hts hown hK hP 0 rfl rfl dX11_weightsOf_6 ?_
      refine lv_iconst (v := 0) hx hb dX11_weightsOf_9 (by decide) ?_
      have k_0 : (0 : Int32).toInt = 0 := by decide
      have hin_4 : vp_in (0 : Int32) 575 := vp_in_iff.mpr ⟨by omega, by omega⟩
      refine va_iald hx hb hK hP 1 0 rfl rfl hin_4 dX11_weightsOf_10 ?_
      refine lv_topi (fun z_5 ez_5 => ?_)
      have bz_5 := p_vmnf.a0 (x := 0) ⟨by omega, by omega⟩ ez_5
      have tz_5 : z_5.toInt = (vmnf 0).toInt := by rw [ez_5]; rfl
      refine lv_icmp_ge (tgt := 36) hx hb dX11_weightsOf_11 (by decide) (fun c_6 => ?_) (fun c_6 => ?_)
      · skip
        have c_6 : z_5.toInt ≤ x_2.toInt := i_le.mp c_6
        refine lv_iload_n hx hb dX11_weightsOf_36 rfl (lv_at hl 1 rfl) ?_
        rw [hQ9]
        exact rr_i hx hb hr hlocks trivial hS dX11_weightsOf_37
      · skip
        have c_6 : ¬ (z_5.toInt ≤ x_2.toInt) := fun h9 => c_6 (i_le.mpr h9)
        refine lv_iload_n hx hb dX11_weightsOf_14 rfl (lv_at hl 3 rfl) ?_
        refine lv_iload_n hx hb dX11_weightsOf_15 rfl (lv_at hl 0 rfl) ?_
        refine jr_i (rSr (As := [.int vst, .int x_2]) (rest := []) ⟨hx, hb, hml, hown, hts⟩ (m_has l dC dI cy vst x_2 ) (cw_X11_194 hts rfl rfl ⟨Nat.le_of_ble_eq_true rfl, Nat.le_of_ble_eq_true rfl⟩) hP hK [] rfl rfl hl.1 rfl (Nat.le_of_ble_eq_true rfl) dX11_weightsOf_16 ⟨Nat.le_of_ble_eq_true rfl, Nat.le_of_ble_eq_true rfl⟩) hP hS (fun r_7 H locs hp_8 hP hS => ?_)
        have hp_8 : ((r_7 = 0) ∨ (r_7 = 1)) := hp_8
        have q_9 := hp_8
        rcases q_9 with aq_9 | aq_9
        · skip
          refine as_i 0 aq_9 ?_
          refine lv_if_eq (tgt := 30) hx hb dX11_weightsOf_19 (by decide) (fun _ => ?_) (fun c9 => absurd (by decide) c9)
          obtain ⟨z_10, ez_10⟩ : ∃ z : Int32, z = x_2 + 1 := ⟨_, rfl⟩
          have k_1 : (1 : Int32).toInt = 1 := by decide
          have bz_10 : z_10.toInt = x_2.toInt + (1 : Int32).toInt := i_add ez_10 (by omega) (by omega)
          refine lv_iinc (v := z_10) (lv' := [(3, .int z_10), (2, .int x_3), (0, .ref vo), (1, .int vst)]) hx hb dX11_weightsOf_30 hl (k := 0) rfl ez_10.symm (by decide) rfl (fun ls hl => ?_)
          refine lv_goto (tgt := 4) hx hb dX11_weightsOf_33 (by decide) ?_
          exact ih1 x_3 z_10 ⟨by omega, by omega⟩ (by omega) _ _ (hP.sub [0, 1] rfl) hS ls (lv_sub hl [0, 1, 2, 3] rfl)
        · skip
          refine as_i 1 aq_9 ?_
          refine lv_if_eq (tgt := 30) hx hb dX11_weightsOf_19 (by decide) (fun c9 => absurd c9 (by decide)) (fun _ => ?_)
          refine lv_iload_n hx hb dX11_weightsOf_22 rfl (lv_at hl 1 rfl) ?_
          refine lv_aload_n hx hb dX11_weightsOf_23 rfl (lv_at hl 2 rfl) ?_
          refine lv_iload_n hx hb dX11_weightsOf_24 rfl (lv_at hl 0 rfl) ?_
          refine jr_i (rVr (As := [.int x_2]) (rest := [.int x_3]) (ci := 12) ⟨hx, hb, hml, hown, hts⟩ (m_allOf l dC dI cy vnh vo voth vmt votp vosz volm voto vofr vokd vonu vosg vofa vopl vowd votd vmn vmr vmk vms vma vmm vmrn vmkn vmik vmon vosm vohp vmw vmf vmb vomb vmd vmc vocm voct vocy vmx votx vose vml vmwr voln vohw vmno vond voon vowi votop vmnf x_2 ⟨by omega, by omega⟩ p_vmnf) (cw_X11_247 hts rfl rfl ⟨Nat.le_of_ble_eq_true rfl, Nat.le_of_ble_eq_true rfl⟩) hP hK [0, 1] rfl rfl rfl rfl hl.1 rfl (Nat.le_of_ble_eq_true rfl) dX11_weightsOf_25 ⟨Nat.le_of_ble_eq_true rfl, Nat.le_of_ble_eq_true rfl⟩) hP hS (fun r_11 H locs hp_12 hP hS => ?_)
          refine lv_iadd hx hb dX11_weightsOf_28 ?_
          refine lv_topi (fun z_13 ez_13 => ?_)
          refine lv_istore_n (lv' := [(2, .int z_13), (3, .int x_2), (0, .ref vo), (1, .int vst)]) hx hb dX11_weightsOf_29 rfl hl (by decide) rfl (fun ls hl => ?_)
          obtain ⟨z_14, ez_14⟩ : ∃ z : Int32, z = x_2 + 1 := ⟨_, rfl⟩
          have k_1 : (1 : Int32).toInt = 1 := by decide
          have bz_14 : z_14.toInt = x_2.toInt + (1 : Int32).toInt := i_add ez_14 (by omega) (by omega)
          refine lv_iinc (v := z_14) (lv' := [(3, .int z_14), (2, .int z_13), (0, .ref vo), (1, .int vst)]) hx hb dX11_weightsOf_30 hl (k := 1) rfl ez_14.symm (by decide) rfl (fun ls hl => ?_)
          refine lv_goto (tgt := 4) hx hb dX11_weightsOf_33 (by decide) ?_
          exact ih1 z_13 z_14 ⟨by omega, by omega⟩ (by omega) _ _ (hP.sub [0, 1] rfl) hS ls (lv_sub hl [0, 1, 2, 3] rfl)
  have k_0 : (0 : Int32).toInt = 0 := by decide
  exact loop1 ((7 - (0 : Int32).toInt).toNat + 1) 0 0 ⟨by omega, by omega⟩ (by omega) _ _ hP hS ls (lv_sub hl [0, 1, 2, 3] rfl)
abbrev cX11_wouldLend : ByteArray := prog_13_method_82_code
def yX11_wouldLend : MethodName := ⟨RX11, "wouldLend", "(I)I"⟩
theorem t1876 : Cond.code yX11_wouldLend cX11_wouldLend 4 (some .int) ∈ GW := gw_mem 1990 (by decide +kernel) (by decide +kernel)
theorem dX11_wouldLend_0 : decode cX11_wouldLend 0 = .ok (.aload_n 0, 1) := by decide +kernel
theorem dX11_wouldLend_1 : decode cX11_wouldLend 1 = .ok (.iload_n 1, 1) := by decide +kernel
theorem dX11_wouldLend_2 : decode cX11_wouldLend 2 = .ok (.invokevirtual 265, 3) := by decide +kernel
theorem dX11_wouldLend_5 : decode cX11_wouldLend 5 = .ok (.ifCond .eq 5, 3) := by decide +kernel
theorem dX11_wouldLend_10 : decode cX11_wouldLend 10 = .ok (.iconst 0, 1) := by decide +kernel
theorem dX11_wouldLend_11 : decode cX11_wouldLend 11 = .ok (.istore_n 2, 1) := by decide +kernel
theorem dX11_wouldLend_12 : decode cX11_wouldLend 12 = .ok (.iconst 0, 1) := by decide +kernel
theorem dX11_wouldLend_13 : decode cX11_wouldLend 13 = .ok (.istore_n 3, 1) := by decide +kernel
theorem dX11_wouldLend_14 : decode cX11_wouldLend 14 = .ok (.iload_n 3, 1) := by decide +kernel
theorem dX11_wouldLend_15 : decode cX11_wouldLend 15 = .ok (.aload_n 0, 1) := by decide +kernel
theorem dX11_wouldLend_16 : decode cX11_wouldLend 16 = .ok (.getfield 98, 3) := by decide +kernel
theorem dX11_wouldLend_19 : decode cX11_wouldLend 19 = .ok (.iconst 1, 1) := by decide +kernel
theorem dX11_wouldLend_20 : decode cX11_wouldLend 20 = .ok (.iaload, 1) := by decide +kernel
theorem dX11_wouldLend_21 : decode cX11_wouldLend 21 = .ok (.if_icmp .ge 76, 3) := by decide +kernel
theorem dX11_wouldLend_97 : decode cX11_wouldLend 97 = .ok (.iload_n 2, 1) := by decide +kernel
theorem dX11_wouldLend_98 : decode cX11_wouldLend 98 = .ok (.ireturn, 1) := by decide +kernel
theorem dX11_wouldLend_91 : decode cX11_wouldLend 91 = .ok (.iinc 3 1, 3) := by decide +kernel
theorem dX11_wouldLend_94 : decode cX11_wouldLend 94 = .ok (.goto (-80), 3) := by decide +kernel
theorem dX11_wouldLend_24 : decode cX11_wouldLend 24 = .ok (.aload_n 0, 1) := by decide +kernel
theorem dX11_wouldLend_25 : decode cX11_wouldLend 25 = .ok (.iload_n 1, 1) := by decide +kernel
theorem dX11_wouldLend_26 : decode cX11_wouldLend 26 = .ok (.iload_n 3, 1) := by decide +kernel
theorem dX11_wouldLend_27 : decode cX11_wouldLend 27 = .ok (.invokevirtual 228, 3) := by decide +kernel
theorem dX11_wouldLend_30 : decode cX11_wouldLend 30 = .ok (.ifCond .eq 61, 3) := by decide +kernel
theorem dX11_wouldLend_33 : decode cX11_wouldLend 33 = .ok (.aload_n 0, 1) := by decide +kernel
theorem dX11_wouldLend_34 : decode cX11_wouldLend 34 = .ok (.getfield 98, 3) := by decide +kernel
theorem dX11_wouldLend_37 : decode cX11_wouldLend 37 = .ok (.bipush 11, 2) := by decide +kernel
theorem dX11_wouldLend_39 : decode cX11_wouldLend 39 = .ok (.iload_n 3, 1) := by decide +kernel
theorem dX11_wouldLend_40 : decode cX11_wouldLend 40 = .ok (.iadd, 1) := by decide +kernel
theorem dX11_wouldLend_41 : decode cX11_wouldLend 41 = .ok (.iaload, 1) := by decide +kernel
theorem dX11_wouldLend_42 : decode cX11_wouldLend 42 = .ok (.iload_n 2, 1) := by decide +kernel
theorem dX11_wouldLend_43 : decode cX11_wouldLend 43 = .ok (.if_icmp .gt 6, 3) := by decide +kernel
theorem dX11_wouldLend_49 : decode cX11_wouldLend 49 = .ok (.aload_n 0, 1) := by decide +kernel
theorem dX11_wouldLend_50 : decode cX11_wouldLend 50 = .ok (.iload_n 1, 1) := by decide +kernel
theorem dX11_wouldLend_51 : decode cX11_wouldLend 51 = .ok (.invokevirtual 256, 3) := by decide +kernel
theorem dX11_wouldLend_54 : decode cX11_wouldLend 54 = .ok (.ifCond .eq 27, 3) := by decide +kernel
theorem dX11_wouldLend_81 : decode cX11_wouldLend 81 = .ok (.aload_n 0, 1) := by decide +kernel
theorem dX11_wouldLend_82 : decode cX11_wouldLend 82 = .ok (.getfield 98, 3) := by decide +kernel
theorem dX11_wouldLend_85 : decode cX11_wouldLend 85 = .ok (.bipush 11, 2) := by decide +kernel
theorem dX11_wouldLend_87 : decode cX11_wouldLend 87 = .ok (.iload_n 3, 1) := by decide +kernel
theorem dX11_wouldLend_88 : decode cX11_wouldLend 88 = .ok (.iadd, 1) := by decide +kernel
theorem dX11_wouldLend_89 : decode cX11_wouldLend 89 = .ok (.iaload, 1) := by decide +kernel
theorem dX11_wouldLend_90 : decode cX11_wouldLend 90 = .ok (.istore_n 2, 1) := by decide +kernel
theorem dX11_wouldLend_57 : decode cX11_wouldLend 57 = .ok (.aload_n 0, 1) := by decide +kernel
theorem dX11_wouldLend_58 : decode cX11_wouldLend 58 = .ok (.iload_n 1, 1) := by decide +kernel
theorem dX11_wouldLend_59 : decode cX11_wouldLend 59 = .ok (.invokevirtual 247, 3) := by decide +kernel
theorem dX11_wouldLend_62 : decode cX11_wouldLend 62 = .ok (.aload_n 0, 1) := by decide +kernel
theorem dX11_wouldLend_63 : decode cX11_wouldLend 63 = .ok (.getfield 98, 3) := by decide +kernel
theorem dX11_wouldLend_66 : decode cX11_wouldLend 66 = .ok (.bipush 11, 2) := by decide +kernel
theorem dX11_wouldLend_68 : decode cX11_wouldLend 68 = .ok (.iload_n 3, 1) := by decide +kernel
theorem dX11_wouldLend_69 : decode cX11_wouldLend 69 = .ok (.iadd, 1) := by decide +kernel
theorem dX11_wouldLend_70 : decode cX11_wouldLend 70 = .ok (.iaload, 1) := by decide +kernel
theorem dX11_wouldLend_71 : decode cX11_wouldLend 71 = .ok (.isub, 1) := by decide +kernel
theorem dX11_wouldLend_72 : decode cX11_wouldLend 72 = .ok (.aload_n 0, 1) := by decide +kernel
theorem dX11_wouldLend_73 : decode cX11_wouldLend 73 = .ok (.getfield 98, 3) := by decide +kernel
theorem dX11_wouldLend_76 : decode cX11_wouldLend 76 = .ok (.iconst 3, 1) := by decide +kernel
theorem dX11_wouldLend_77 : decode cX11_wouldLend 77 = .ok (.iaload, 1) := by decide +kernel
theorem dX11_wouldLend_78 : decode cX11_wouldLend 78 = .ok (.if_icmp .lt 13, 3) := by decide +kernel
theorem dX11_wouldLend_46 : decode cX11_wouldLend 46 = .ok (.goto 45, 3) := by decide +kernel
theorem dX11_wouldLend_8 : decode cX11_wouldLend 8 = .ok (.iconst 0, 1) := by decide +kernel
theorem dX11_wouldLend_9 : decode cX11_wouldLend 9 = .ok (.ireturn, 1) := by decide +kernel
set_option maxHeartbeats 4000000 in
set_option maxRecDepth 100000 in
theorem m_wouldLend (l : Launch) (dC : Nat → ClassId) (dI : Nat → Nat → Nat) (cy : Nat → ClassId) (vnh : Nat → Int32) (vo : Nat) (voth : Int32) (vmt : Nat) (votp : Int32) (vosz : Int32) (volm : Int32) (voto : Int32) (vofr : Int32) (vokd : Int32) (vonu : Int32) (vosg : Int32) (vofa : Int32) (vopl : Int32) (vowd : Int64) (votd : Int32) (vmn : Nat) (vmr : Nat) (vmk : Nat) (vms : Nat) (vma : Nat) (vmm : Nat) (vmrn : Nat) (vmkn : Nat) (vmik : Nat) (vmon : Nat) (vosm : Int32) (vohp : Int32) (vmw : Nat) (vmf : Nat) (vmb : Nat) (vomb : Int32) (vmd : Nat) (vmc : Nat) (vocm : Int32) (voct : Int32) (vocy : Int32) (vmx : Nat) (votx : Int32) (vose : Int32) (vml : Nat) (vmwr : Nat) (voln : Int32) (vohw : Int32) (vmno : Nat) (vond : Int32) (voon : Int32) (vowi : Int32) (votop : Int32) (vmnf : Nat → Int32) (vm : Int32) (r_vm : -1 ≤ (vm : Int32).toInt ∧ (vm : Int32).toInt ≤ 6) (p_vmnf : NW vnh vmnf) : Met l yX11_wouldLend (wl yX11_wouldLend cX11_wouldLend 4 (some .int)) ({ frames := 5, cells := 0, slots := 0, locals := 320 }) (Pr (dC, dI) vwCl cy [(vo, .inr (12, [.int voth, .ref vmt, .int votp, .int vosz, .int volm, .int voto, .int vofr, .int vokd, .int vonu, .int vosg, .int vofa, .int vopl, .long vowd, .int votd, .ref vmn, .ref vmr, .ref vmk, .ref vms, .ref vma, .ref vmm, .ref vmrn, .ref vmkn, .ref vmik, .ref vmon, .int vosm, .int vohp, .ref vmw, .ref vmf, .ref vmb, .int vomb, .ref vmd, .ref vmc, .int vocm, .int voct, .int vocy, .ref vmx, .int votx, .int vose, .ref vml, .ref vmwr, .int voln, .int vohw, .ref vmno, .int vond, .int voon, .int vowi, .int votop])), (vmn, .inl (cy 0, 575, .inl vmnf))] [.ref vo, .int vm]) (Ri (fun r => True)) 0 0 (fun _ => False) := by
  refine mr RX11 rfl (by decide +kernel) (Nat.le_of_ble_eq_true rfl) ?_
  intro p e s m below meth c hx hb hr hlocks av9 hav hts hown hml hK hP hS Q9 hQ9 ls hl
  have hl : lv_has ls 4 [(0, .ref vo), (1, .int vm)] := hl
  refine lv_aload_n hx hb dX11_wouldLend_0 rfl (lv_at hl 0 rfl) ?_
  refine lv_iload_n hx hb dX11_wouldLend_1 rfl (lv_at hl 1 rfl) ?_
  refine jr_i (rVr (As := [.int vm]) (rest := []) (ci := 12) ⟨hx, hb, hml, hown, hts⟩ (m_lends l dC dI cy vnh vo voth vmt votp vosz volm voto vofr vokd vonu vosg vofa vopl vowd votd vmn vmr vmk vms vma vmm vmrn vmkn vmik vmon vosm vohp vmw vmf vmb vomb vmd vmc vocm voct vocy vmx votx vose vml vmwr voln vohw vmno vond voon vowi votop vmnf vm r_vm p_vmnf) (cw_X11_265 hts rfl rfl ⟨Nat.le_of_ble_eq_true rfl, Nat.le_of_ble_eq_true rfl⟩) hP hK [0, 1] rfl rfl rfl rfl hl.1 rfl (Nat.le_of_ble_eq_true rfl) dX11_wouldLend_2 ⟨Nat.le_of_ble_eq_true rfl, Nat.le_of_ble_eq_true rfl⟩) hP hS (fun r_1 H locs hp_2 hP hS => ?_)
  have hp_2 : ((r_1 = 0) ∨ (r_1 = 1)) := hp_2
  have q_3 := hp_2
  rcases q_3 with aq_3 | aq_3
  · skip
    refine as_i 0 aq_3 ?_
    refine lv_if_eq (tgt := 10) hx hb dX11_wouldLend_5 (by decide) (fun _ => ?_) (fun c9 => absurd (by decide) c9)
    refine lv_iconst (v := 0) hx hb dX11_wouldLend_10 (by decide) ?_
    refine lv_istore_n (lv' := [(2, .int 0), (0, .ref vo), (1, .int vm)]) hx hb dX11_wouldLend_11 rfl hl (by decide) rfl (fun ls hl => ?_)
    refine lv_iconst (v := 0) hx hb dX11_wouldLend_12 (by decide) ?_
    refine lv_istore_n (lv' := [(3, .int 0), (2, .int 0), (0, .ref vo), (1, .int vm)]) hx hb dX11_wouldLend_13 rfl hl (by decide) rfl (fun ls hl => ?_)
    have loop4 : ∀ (n4 : Nat) (x_6 : Int32) (x_5 : Int32), (0 ≤ x_5.toInt ∧ x_5.toInt ≤ 10) → 10 - x_5.toInt < (n4 : Int) → ∀ (H : Heap) (locs : List Loc), va_P (dC, dI) vwCl [(vo, .inr (12, [.int voth, .ref vmt, .int votp, .int vosz, .int volm, .int voto, .int vofr, .int vokd, .int vonu, .int vosg, .int vofa, .int vopl, .long vowd, .int votd, .ref vmn, .ref vmr, .ref vmk, .ref vms, .ref vma, .ref vmm, .ref vmrn, .ref vmkn, .ref vmik, .ref vmon, .int vosm, .int vohp, .ref vmw, .ref vmf, .ref vmb, .int vomb, .ref vmd, .ref vmc, .int vocm, .int voct, .int vocy, .ref vmx, .int votx, .int vose, .ref vml, .ref vmwr, .int voln, .int vohw, .ref vmno, .int vond, .int voon, .int vowi, .int votop])), (vmn, .inl (cy 0, 575, .inl vmnf))] H → va_S (fun _ => False) s.heap H locs → ∀ ls : Array Slot, lv_has ls 4 [(3, .int x_5), (2, .int x_6), (0, .ref vo), (1, .int vm)] → W p l e ({ frames := 5, cells := 0, slots := 0, locals := 320 }) s m av9 below meth c H locs 0 0 Q9 (F0 m 14 ls []) := by
      intro n4
      induction n4 with
      | zero =>
        intro x_6 x_5 bx_5 hn4 H locs hP hS ls hl
        exfalso; omega
      | succ n4 ih4 =>
        intro x_6 x_5 bx_5 hn4 H locs hP hS ls hl
        refine lv_iload_n hx hb dX11_wouldLend_14 rfl (lv_at hl 0 rfl) ?_
        refine lv_aload_n hx hb dX11_wouldLend_15 rfl (lv_at hl 2 rfl) ?_
        refine gf_X11_98 hx hb hts hown hK hP 0 rfl rfl dX11_wouldLend_16 ?_
        refine lv_iconst (v := 1) hx hb dX11_wouldLend_19 (by decide) ?_
        have k_1 : (1 : Int32).toInt = 1 := by decide
        have hin_7 : vp_in (1 : Int32) 575 := vp_in_iff.mpr ⟨by omega, by omega⟩
        refine va_iald hx hb hK hP 1 0 rfl rfl hin_7 dX11_wouldLend_20 ?_
        refine lv_topi (fun z_8 ez_8 => ?_)
        have bz_8 := p_vmnf.a1 (x := 1) ⟨by omega, by omega⟩ ez_8
        have tz_8 : z_8.toInt = (vmnf 1).toInt := by rw [ez_8]; rfl
        refine lv_icmp_ge (tgt := 97) hx hb dX11_wouldLend_21 (by decide) (fun c_9 => ?_) (fun c_9 => ?_)
        · skip
          have c_9 : z_8.toInt ≤ x_5.toInt := i_le.mp c_9
          refine lv_iload_n hx hb dX11_wouldLend_97 rfl (lv_at hl 1 rfl) ?_
          rw [hQ9]
          exact rr_i hx hb hr hlocks trivial hS dX11_wouldLend_98
        · skip
          have c_9 : ¬ (z_8.toInt ≤ x_5.toInt) := fun h9 => c_9 (i_le.mpr h9)
          have join10 : ∀ (x_11 : Int32), ∀ (H : Heap) (locs : List Loc), va_P (dC, dI) vwCl [(vo, .inr (12, [.int voth, .ref vmt, .int votp, .int vosz, .int volm, .int voto, .int vofr, .int vokd, .int vonu, .int vosg, .int vofa, .int vopl, .long vowd, .int votd, .ref vmn, .ref vmr, .ref vmk, .ref vms, .ref vma, .ref vmm, .ref vmrn, .ref vmkn, .ref vmik, .ref vmon, .int vosm, .int vohp, .ref vmw, .ref vmf, .ref vmb, .int vomb, .ref vmd, .ref vmc, .int vocm, .int voct, .int vocy, .ref vmx, .int votx, .int vose, .ref vml, .ref vmwr, .int voln, .int vohw, .ref vmno, .int vond, .int voon, .int vowi, .int votop])), (vmn, .inl (cy 0, 575, .inl vmnf))] H → va_S (fun _ => False) s.heap H locs → ∀ ls : Array Slot, lv_has ls 4 [(2, .int x_11), (3, .int x_5), (0, .ref vo), (1, .int vm)] → W p l e ({ frames := 5, cells := 0, slots := 0, locals := 320 }) s m av9 below meth c H locs 0 0 Q9 (F0 m 91 ls []) := by
            intro x_11 H locs hP hS ls hl
            obtain ⟨z_12, ez_12⟩ : ∃ z : Int32, z = x_5 + 1 := ⟨_, rfl⟩
            have bz_12 : z_12.toInt = x_5.toInt + (1 : Int32).toInt := i_add ez_12 (by omega) (by omega)
            refine lv_iinc (v := z_12) (lv' := [(3, .int z_12), (2, .int x_11), (0, .ref vo), (1, .int vm)]) hx hb dX11_wouldLend_91 hl (k := 1) rfl ez_12.symm (by decide) rfl (fun ls hl => ?_)
            refine lv_goto (tgt := 14) hx hb dX11_wouldLend_94 (by decide) ?_
            exact ih4 x_11 z_12 ⟨by omega, by omega⟩ (by omega) _ _ (hP.sub [0, 1] rfl) hS ls (lv_sub hl [0, 1, 2, 3] rfl)
          refine lv_aload_n hx hb dX11_wouldLend_24 rfl (lv_at hl 2 rfl) ?_
          refine lv_iload_n hx hb dX11_wouldLend_25 rfl (lv_at hl 3 rfl) ?_
          refine lv_iload_n hx hb dX11_wouldLend_26 rfl (lv_at hl 0 rfl) ?_
          refine jr_i (rVr (As := [.int vm, .int x_5]) (rest := []) (ci := 12) ⟨hx, hb, hml, hown, hts⟩ (m_didOf l dC dI cy vnh vo voth vmt votp vosz volm voto vofr vokd vonu vosg vofa vopl vowd votd vmn vmr vmk vms vma vmm vmrn vmkn vmik vmon vosm vohp vmw vmf vmb vomb vmd vmc vocm voct vocy vmx votx vose vml vmwr voln vohw vmno vond voon vowi votop vmnf vm x_5 r_vm ⟨by omega, by omega⟩ p_vmnf) (cw_X11_228 hts rfl rfl ⟨Nat.le_of_ble_eq_true rfl, Nat.le_of_ble_eq_true rfl⟩) hP hK [0, 1] rfl rfl rfl rfl hl.1 rfl (Nat.le_of_ble_eq_true rfl) dX11_wouldLend_27 ⟨Nat.le_of_ble_eq_true rfl, Nat.le_of_ble_eq_true rfl⟩) hP hS (fun r_13 H locs hp_14 hP hS => ?_)
          have k_0 : (0 : Int32).toInt = 0 := by decide
          refine lv_if_eq (tgt := 91) hx hb dX11_wouldLend_30 (by decide) (fun c_15 => ?_) (fun c_15 => ?_)
          · skip
            have c_15 : r_13.toInt = (0 : Int32).toInt := i_eq.mp c_15
            exact join10 x_6 _ _ (hP.sub [0, 1] rfl) hS ls (lv_sub hl [1, 0, 2, 3] rfl)
          · skip
            have c_15 : ¬ (r_13.toInt = (0 : Int32).toInt) := fun h9 => c_15 (i_eq.mpr h9)
            refine lv_aload_n hx hb dX11_wouldLend_33 rfl (lv_at hl 2 rfl) ?_
            refine gf_X11_98 hx hb hts hown hK hP 0 rfl rfl dX11_wouldLend_34 ?_
            refine lv_bipush (v := 11) hx hb dX11_wouldLend_37 (by decide) ?_
            refine lv_iload_n hx hb dX11_wouldLend_39 rfl (lv_at hl 0 rfl) ?_
            refine lv_iadd hx hb dX11_wouldLend_40 ?_
            refine lv_topi (fun z_16 ez_16 => ?_)
            have k_11 : (11 : Int32).toInt = 11 := by decide
            have bz_16 : z_16.toInt = (11 : Int32).toInt + x_5.toInt := i_add ez_16 (by omega) (by omega)
            have hin_17 : vp_in z_16 575 := vp_in_iff.mpr ⟨by omega, by omega⟩
            refine va_iald hx hb hK hP 1 0 rfl rfl hin_17 dX11_wouldLend_41 ?_
            refine lv_topi (fun z_18 ez_18 => ?_)
            have bz_18 := p_vmnf.aw (x := z_16) ⟨by omega, by omega⟩ ez_18
            refine lv_iload_n hx hb dX11_wouldLend_42 rfl (lv_at hl 1 rfl) ?_
            refine lv_icmp_gt (tgt := 49) hx hb dX11_wouldLend_43 (by decide) (fun c_19 => ?_) (fun c_19 => ?_)
            · skip
              have c_19 : x_6.toInt < z_18.toInt := i_lt.mp c_19
              refine lv_aload_n hx hb dX11_wouldLend_49 rfl (lv_at hl 2 rfl) ?_
              refine lv_iload_n hx hb dX11_wouldLend_50 rfl (lv_at hl 3 rfl) ?_
              refine jr_i (rVr (As := [.int vm]) (rest := []) (ci := 12) ⟨hx, hb, hml, hown, hts⟩ (m_howOf l dC dI cy vnh vo voth vmt votp vosz volm voto vofr vokd vonu vosg vofa vopl vowd votd vmn vmr vmk vms vma vmm vmrn vmkn vmik vmon vosm vohp vmw vmf vmb vomb vmd vmc vocm voct vocy vmx votx vose vml vmwr voln vohw vmno vond voon vowi votop vmnf vm r_vm p_vmnf) (cw_X11_256 hts rfl rfl ⟨Nat.le_of_ble_eq_true rfl, Nat.le_of_ble_eq_true rfl⟩) hP hK [0, 1] rfl rfl rfl rfl hl.1 rfl (Nat.le_of_ble_eq_true rfl) dX11_wouldLend_51 ⟨Nat.le_of_ble_eq_true rfl, Nat.le_of_ble_eq_true rfl⟩) hP hS (fun r_20 H locs hp_21 hP hS => ?_)
              have hp_21 : (0 ≤ (r_20 : Int32).toInt ∧ (r_20 : Int32).toInt ≤ 2) := hp_21
              have q_22 := hp_21
              refine lv_if_eq (tgt := 81) hx hb dX11_wouldLend_54 (by decide) (fun c_23 => ?_) (fun c_23 => ?_)
              · skip
                have c_23 : r_20.toInt = (0 : Int32).toInt := i_eq.mp c_23
                refine lv_aload_n hx hb dX11_wouldLend_81 rfl (lv_at hl 2 rfl) ?_
                refine gf_X11_98 hx hb hts hown hK hP 0 rfl rfl dX11_wouldLend_82 ?_
                refine lv_bipush (v := 11) hx hb dX11_wouldLend_85 (by decide) ?_
                refine lv_iload_n hx hb dX11_wouldLend_87 rfl (lv_at hl 0 rfl) ?_
                refine lv_iadd hx hb dX11_wouldLend_88 ?_
                refine lv_topi (fun z_24 ez_24 => ?_)
                have bz_24 : z_24.toInt = (11 : Int32).toInt + x_5.toInt := i_add ez_24 (by omega) (by omega)
                have hin_25 : vp_in z_24 575 := vp_in_iff.mpr ⟨by omega, by omega⟩
                refine va_iald hx hb hK hP 1 0 rfl rfl hin_25 dX11_wouldLend_89 ?_
                refine lv_topi (fun z_26 ez_26 => ?_)
                have bz_26 := p_vmnf.aw (x := z_24) ⟨by omega, by omega⟩ ez_26
                refine lv_istore_n (lv' := [(2, .int z_26), (3, .int x_5), (0, .ref vo), (1, .int vm)]) hx hb dX11_wouldLend_90 rfl hl (by decide) rfl (fun ls hl => ?_)
                exact join10 z_26 _ _ (hP.sub [0, 1] rfl) hS ls (lv_sub hl [0, 1, 2, 3] rfl)
              · skip
                have c_23 : ¬ (r_20.toInt = (0 : Int32).toInt) := fun h9 => c_23 (i_eq.mpr h9)
                refine lv_aload_n hx hb dX11_wouldLend_57 rfl (lv_at hl 2 rfl) ?_
                refine lv_iload_n hx hb dX11_wouldLend_58 rfl (lv_at hl 3 rfl) ?_
                refine jr_i (rVr (As := [.int vm]) (rest := []) (ci := 12) ⟨hx, hb, hml, hown, hts⟩ (m_allOf l dC dI cy vnh vo voth vmt votp vosz volm voto vofr vokd vonu vosg vofa vopl vowd votd vmn vmr vmk vms vma vmm vmrn vmkn vmik vmon vosm vohp vmw vmf vmb vomb vmd vmc vocm voct vocy vmx votx vose vml vmwr voln vohw vmno vond voon vowi votop vmnf vm r_vm p_vmnf) (cw_X11_247 hts rfl rfl ⟨Nat.le_of_ble_eq_true rfl, Nat.le_of_ble_eq_true rfl⟩) hP hK [0, 1] rfl rfl rfl rfl hl.1 rfl (Nat.le_of_ble_eq_true rfl) dX11_wouldLend_59 ⟨Nat.le_of_ble_eq_true rfl, Nat.le_of_ble_eq_true rfl⟩) hP hS (fun r_27 H locs hp_28 hP hS => ?_)
                refine lv_aload_n hx hb dX11_wouldLend_62 rfl (lv_at hl 2 rfl) ?_
                refine gf_X11_98 hx hb hts hown hK hP 0 rfl rfl dX11_wouldLend_63 ?_
                refine lv_bipush (v := 11) hx hb dX11_wouldLend_66 (by decide) ?_
                refine lv_iload_n hx hb dX11_wouldLend_68 rfl (lv_at hl 0 rfl) ?_
                refine lv_iadd hx hb dX11_wouldLend_69 ?_
                refine lv_topi (fun z_29 ez_29 => ?_)
                have bz_29 : z_29.toInt = (11 : Int32).toInt + x_5.toInt := i_add ez_29 (by omega) (by omega)
                have hin_30 : vp_in z_29 575 := vp_in_iff.mpr ⟨by omega, by omega⟩
                refine va_iald hx hb hK hP 1 0 rfl rfl hin_30 dX11_wouldLend_70 ?_
                refine lv_topi (fun z_31 ez_31 => ?_)
                have bz_31 := p_vmnf.aw (x := z_29) ⟨by omega, by omega⟩ ez_31
                refine lv_isub hx hb dX11_wouldLend_71 ?_
                refine lv_topi (fun z_32 ez_32 => ?_)
                refine lv_aload_n hx hb dX11_wouldLend_72 rfl (lv_at hl 2 rfl) ?_
                refine gf_X11_98 hx hb hts hown hK hP 0 rfl rfl dX11_wouldLend_73 ?_
                refine lv_iconst (v := 3) hx hb dX11_wouldLend_76 (by decide) ?_
                have k_3 : (3 : Int32).toInt = 3 := by decide
                have hin_33 : vp_in (3 : Int32) 575 := vp_in_iff.mpr ⟨by omega, by omega⟩
                refine va_iald hx hb hK hP 1 0 rfl rfl hin_33 dX11_wouldLend_77 ?_
                refine lv_topi (fun z_34 ez_34 => ?_)
                have tz_34 : z_34.toInt = (vmnf 3).toInt := by rw [ez_34]; rfl
                refine lv_icmp_lt (tgt := 91) hx hb dX11_wouldLend_78 (by decide) (fun c_35 => ?_) (fun c_35 => ?_)
                · skip
                  have c_35 : z_32.toInt < z_34.toInt := i_lt.mp c_35
                  exact join10 x_6 _ _ (hP.sub [0, 1] rfl) hS ls (lv_sub hl [1, 0, 2, 3] rfl)
                · skip
                  have c_35 : ¬ (z_32.toInt < z_34.toInt) := fun h9 => c_35 (i_lt.mpr h9)
                  refine lv_aload_n hx hb dX11_wouldLend_81 rfl (lv_at hl 2 rfl) ?_
                  refine gf_X11_98 hx hb hts hown hK hP 0 rfl rfl dX11_wouldLend_82 ?_
                  refine lv_bipush (v := 11) hx hb dX11_wouldLend_85 (by decide) ?_
                  refine lv_iload_n hx hb dX11_wouldLend_87 rfl (lv_at hl 0 rfl) ?_
                  refine lv_iadd hx hb dX11_wouldLend_88 ?_
                  refine lv_topi (fun z_36 ez_36 => ?_)
                  have bz_36 : z_36.toInt = (11 : Int32).toInt + x_5.toInt := i_add ez_36 (by omega) (by omega)
                  have hin_37 : vp_in z_36 575 := vp_in_iff.mpr ⟨by omega, by omega⟩
                  refine va_iald hx hb hK hP 1 0 rfl rfl hin_37 dX11_wouldLend_89 ?_
                  refine lv_topi (fun z_38 ez_38 => ?_)
                  have bz_38 := p_vmnf.aw (x := z_36) ⟨by omega, by omega⟩ ez_38
                  refine lv_istore_n (lv' := [(2, .int z_38), (3, .int x_5), (0, .ref vo), (1, .int vm)]) hx hb dX11_wouldLend_90 rfl hl (by decide) rfl (fun ls hl => ?_)
                  exact join10 z_38 _ _ (hP.sub [0, 1] rfl) hS ls (lv_sub hl [0, 1, 2, 3] rfl)
            · skip
              have c_19 : ¬ (x_6.toInt < z_18.toInt) := fun h9 => c_19 (i_lt.mpr h9)
              refine lv_goto (tgt := 91) hx hb dX11_wouldLend_46 (by decide) ?_
              exact join10 x_6 _ _ (hP.sub [0, 1] rfl) hS ls (lv_sub hl [1, 0, 2, 3] rfl)
    have k_0 : (0 : Int32).toInt = 0 := by decide
    exact loop4 ((10 - (0 : Int32).toInt).toNat + 1) 0 0 ⟨by omega, by omega⟩ (by omega) _ _ hP hS ls (lv_sub hl [0, 1, 2, 3] rfl)
  · skip
    refine as_i 1 aq_3 ?_
    refine lv_if_eq (tgt := 10) hx hb dX11_wouldLend_5 (by decide) (fun c9 => absurd c9 (by decide)) (fun _ => ?_)
    refine lv_iconst (v := 0) hx hb dX11_wouldLend_8 (by decide) ?_
    have k_0 : (0 : Int32).toInt = 0 := by decide
    rw [hQ9]
    exact rr_i hx hb hr hlocks trivial hS dX11_wouldLend_9
abbrev cX11_fault : ByteArray := prog_13_method_42_code
def yX11_fault : MethodName := ⟨RX11, "fault", "()I"⟩
theorem t1702 : Cond.code yX11_fault cX11_fault 1 (some .int) ∈ GW := gw_mem 1816 (by decide +kernel) (by decide +kernel)
abbrev O_m_fault (cy : Nat → ClassId) (vnh : Nat → Int32) (vo : Nat) (voth : Int32) (vmt : Nat) (votp : Int32) (vosz : Int32) (volm : Int32) (voto : Int32) (vofr : Int32) (vokd : Int32) (vonu : Int32) (vosg : Int32) (vofa : Int32) (vopl : Int32) (vowd : Int64) (votd : Int32) (vmn : Nat) (vmr : Nat) (vmk : Nat) (vms : Nat) (vma : Nat) (vmm : Nat) (vmrn : Nat) (vmkn : Nat) (vmik : Nat) (vmon : Nat) (vosm : Int32) (vohp : Int32) (vmw : Nat) (vmf : Nat) (vmb : Nat) (vomb : Int32) (vmd : Nat) (vmc : Nat) (vocm : Int32) (voct : Int32) (vocy : Int32) (vmx : Nat) (votx : Int32) (vose : Int32) (vml : Nat) (vmwr : Nat) (voln : Int32) (vohw : Int32) (vmno : Nat) (vond : Int32) (voon : Int32) (vowi : Int32) (votop : Int32) (vmnf : Nat → Int32) (u : Int32) : va_W := [(vo, .inr (12, [.int u, .ref vmt, .int votp, .int vosz, .int volm, .int voto, .int vofr, .int vokd, .int vonu, .int vosg, .int vofa, .int vopl, .long vowd, .int votd, .ref vmn, .ref vmr, .ref vmk, .ref vms, .ref vma, .ref vmm, .ref vmrn, .ref vmkn, .ref vmik, .ref vmon, .int vosm, .int vohp, .ref vmw, .ref vmf, .ref vmb, .int vomb, .ref vmd, .ref vmc, .int vocm, .int voct, .int vocy, .ref vmx, .int votx, .int vose, .ref vml, .ref vmwr, .int voln, .int vohw, .ref vmno, .int vond, .int voon, .int vowi, .int votop])), (vmn, .inl (cy 0, 575, .inl vmnf))]
theorem dX11_fault_0 : decode cX11_fault 0 = .ok (.aload_n 0, 1) := by decide +kernel
theorem dX11_fault_1 : decode cX11_fault 1 = .ok (.iconst 0, 1) := by decide +kernel
theorem dX11_fault_2 : decode cX11_fault 2 = .ok (.putfield 1, 3) := by decide +kernel
theorem dX11_fault_5 : decode cX11_fault 5 = .ok (.aload_n 0, 1) := by decide +kernel
theorem dX11_fault_6 : decode cX11_fault 6 = .ok (.getfield 66, 3) := by decide +kernel
theorem gf_X11_66 {p : Program} {l : Launch} {e : Env} {R : Room} {s : State} {m : MethodId} {args : Array Value} {below : List Frame} {meth : Method} {c : Code} {H : Heap} {locs : List Loc} {cells slots : Nat} {Q : State → Prop} {cc : ByteArray} {pc : Nat} {ls : Array Slot} {rest : List Value} {D : va_G} {a : Nat} {tys : List (ClassId × FieldType)} {ws : va_W} (hx : p.tables.exec = Jvm.exec) (hb : c.code = cc) (hts : ∀ w ∈ GW, w.before args s = true) (hown : s.vm.findClass RX11 = some m.cls) (hK : va_K D vwCl tys s) (hP : va_P D vwCl ws H) (q0 : Nat) {fs : List Value} (he : ws[q0]? = some (a, .inr (12, fs))) {v : Value} (hv : fs[10]? = some v) (hdg : decode cc pc = .ok (.getfield 66, 3)) (kk : W p l e R s m args below meth c H locs cells slots Q (F0 m (pc + 3) ls (v :: rest))) : W p l e R s m args below meth c H locs cells slots Q (F0 m pc ls (.ref a :: rest)) := va_get (C := RX11) (T := TX11) (N := 47) (ci := 12) hx hb hts inX11 hown hK hP q0 he rfl 10 (by decide) (hts _ t1452) (fun _ h => h) hv hdg kk
theorem dX11_fault_9 : decode cX11_fault 9 = .ok (.ireturn, 1) := by decide +kernel
set_option maxHeartbeats 4000000 in
set_option maxRecDepth 100000 in
theorem m_fault (l : Launch) (dC : Nat → ClassId) (dI : Nat → Nat → Nat) (cy : Nat → ClassId) (sz : Nat) (vnh : Nat → Int32) (vo : Nat) (voth : Int32) (vmt : Nat) (votp : Int32) (vosz : Int32) (volm : Int32) (voto : Int32) (vofr : Int32) (vokd : Int32) (vonu : Int32) (vosg : Int32) (vofa : Int32) (vopl : Int32) (vowd : Int64) (votd : Int32) (vmn : Nat) (vmr : Nat) (vmk : Nat) (vms : Nat) (vma : Nat) (vmm : Nat) (vmrn : Nat) (vmkn : Nat) (vmik : Nat) (vmon : Nat) (vosm : Int32) (vohp : Int32) (vmw : Nat) (vmf : Nat) (vmb : Nat) (vomb : Int32) (vmd : Nat) (vmc : Nat) (vocm : Int32) (voct : Int32) (vocy : Int32) (vmx : Nat) (votx : Int32) (vose : Int32) (vml : Nat) (vmwr : Nat) (voln : Int32) (vohw : Int32) (vmno : Nat) (vond : Int32) (voon : Int32) (vowi : Int32) (votop : Int32) (vmnf : Nat → Int32) (p_vmnf : NW vnh vmnf) : Met l yX11_fault (wl yX11_fault cX11_fault 1 (some .int)) ({ frames := 0, cells := 0, slots := 0, locals := 0 }) (Pw (dC, dI) vwCl cy [(vo, .inr (12, [.int voth, .ref vmt, .int votp, .int vosz, .int volm, .int voto, .int vofr, .int vokd, .int vonu, .int vosg, .int vofa, .int vopl, .long vowd, .int votd, .ref vmn, .ref vmr, .ref vmk, .ref vms, .ref vma, .ref vmm, .ref vmrn, .ref vmkn, .ref vmik, .ref vmon, .int vosm, .int vohp, .ref vmw, .ref vmf, .ref vmb, .int vomb, .ref vmd, .ref vmc, .int vocm, .int voct, .int vocy, .ref vmx, .int votx, .int vose, .ref vml, .ref vmwr, .int voln, .int vohw, .ref vmno, .int vond, .int voon, .int vowi, .int votop])), (vmn, .inl (cy 0, 575, .inl vmnf))] sz [.ref vo] nE) (Qi (dC, dI) vwCl (fun (r : Int32) (u : Int32) => ((r : Int32).toInt = (vofa : Int32).toInt)) (O_m_fault cy vnh vo voth vmt votp vosz volm voto vofr vokd vonu vosg vofa vopl vowd votd vmn vmr vmk vms vma vmm vmrn vmkn vmik vmon vosm vohp vmw vmf vmb vomb vmd vmc vocm voct vocy vmx votx vose vml vmwr voln vohw vmno vond voon vowi votop vmnf) (va_A [(vo, .inr (12, [.int voth, .ref vmt, .int votp, .int vosz, .int volm, .int voto, .int vofr, .int vokd, .int vonu, .int vosg, .int vofa, .int vopl, .long vowd, .int votd, .ref vmn, .ref vmr, .ref vmk, .ref vms, .ref vma, .ref vmm, .ref vmrn, .ref vmkn, .ref vmik, .ref vmon, .int vosm, .int vohp, .ref vmw, .ref vmf, .ref vmb, .int vomb, .ref vmd, .ref vmc, .int vocm, .int voct, .int vocy, .ref vmx, .int votx, .int vose, .ref vml, .ref vmwr, .int voln, .int vohw, .ref vmno, .int vond, .int voon, .int vowi, .int votop])), (vmn, .inl (cy 0, 575, .inl vmnf))] sz)) 0 0 (va_A [(vo, .inr (12, [.int voth, .ref vmt, .int votp, .int vosz, .int volm, .int voto, .int vofr, .int vokd, .int vonu, .int vosg, .int vofa, .int vopl, .long vowd, .int votd, .ref vmn, .ref vmr, .ref vmk, .ref vms, .ref vma, .ref vmm, .ref vmrn, .ref vmkn, .ref vmik, .ref vmon, .int vosm, .int vohp, .ref vmw, .ref vmf, .ref vmb, .int vomb, .ref vmd, .ref vmc, .int vocm, .int voct, .int vocy, .ref vmx, .int votx, .int vose, .ref vml, .ref vmwr, .int voln, .int vohw, .ref vmno, .int vond, .int voon, .int vowi, .int votop])), (vmn, .inl (cy 0, 575, .inl vmnf))] sz) := by
  refine mw (Qc := Qi (dC, dI) vwCl (fun (r : Int32) (u : Int32) => ((r : Int32).toInt = (vofa : Int32).toInt)) (O_m_fault cy vnh vo voth vmt votp vosz volm voto vofr vokd vonu vosg vofa vopl vowd votd vmn vmr vmk vms vma vmm vmrn vmkn vmik vmon vosm vohp vmw vmf vmb vomb vmd vmc vocm voct vocy vmx votx vose vml vmwr voln vohw vmno vond voon vowi votop vmnf)) RX11 rfl (by decide +kernel) (Nat.le_of_ble_eq_true rfl) ?_
  intro p e s m below meth c A hx hb hr hlocks av9 hav hts hown hnm hml hK hP hD hA hS hE hAe Q9 hQ9 ls hl
  have hl : lv_has ls 1 [(0, .ref vo)] := hl
  refine lv_aload_n hx hb dX11_fault_0 rfl (lv_at hl 0 rfl) ?_
  refine lv_iconst (v := 0) hx hb dX11_fault_1 (by decide) ?_
  refine pf_X11_1 hx hb hts hown hK hP hD hS 0 rfl rfl rfl (Nat.le_of_ble_eq_true rfl) dX11_fault_2 (fun H locs hP hD hS => ?_)
  have hP : va_P (dC, dI) vwCl [(vo, .inr (12, [.int 0, .ref vmt, .int votp, .int vosz, .int volm, .int voto, .int vofr, .int vokd, .int vonu, .int vosg, .int vofa, .int vopl, .long vowd, .int votd, .ref vmn, .ref vmr, .ref vmk, .ref vms, .ref vma, .ref vmm, .ref vmrn, .ref vmkn, .ref vmik, .ref vmon, .int vosm, .int vohp, .ref vmw, .ref vmf, .ref vmb, .int vomb, .ref vmd, .ref vmc, .int vocm, .int voct, .int vocy, .ref vmx, .int votx, .int vose, .ref vml, .ref vmwr, .int voln, .int vohw, .ref vmno, .int vond, .int voon, .int vowi, .int votop])), (vmn, .inl (cy 0, 575, .inl vmnf))] H := hP
  have hD : va_D A [(vo, .inr (12, [.int 0, .ref vmt, .int votp, .int vosz, .int volm, .int voto, .int vofr, .int vokd, .int vonu, .int vosg, .int vofa, .int vopl, .long vowd, .int votd, .ref vmn, .ref vmr, .ref vmk, .ref vms, .ref vma, .ref vmm, .ref vmrn, .ref vmkn, .ref vmik, .ref vmon, .int vosm, .int vohp, .ref vmw, .ref vmf, .ref vmb, .int vomb, .ref vmd, .ref vmc, .int vocm, .int voct, .int vocy, .ref vmx, .int votx, .int vose, .ref vml, .ref vmwr, .int voln, .int vohw, .ref vmno, .int vond, .int voon, .int vowi, .int votop])), (vmn, .inl (cy 0, 575, .inl vmnf))] := hD
  refine lv_aload_n hx hb dX11_fault_5 rfl (lv_at hl 0 rfl) ?_
  refine gf_X11_66 hx hb hts hown hK hP 0 rfl rfl dX11_fault_6 ?_
  have k_0 : (0 : Int32).toInt = 0 := by decide
  rw [hQ9]
  exact re_i (0 : Int32) hx hb hr hlocks (show (vofa : Int32).toInt = (vofa : Int32).toInt from (by omega)) (hP.sub [0, 1] rfl) (hD.sub [0, 1] rfl rfl) hS dX11_fault_9
abbrev cX11_helping : ByteArray := prog_13_method_84_code
def yX11_helping : MethodName := ⟨RX11, "helping", "()I"⟩
theorem t1880 : Cond.code yX11_helping cX11_helping 1 (some .int) ∈ GW := gw_mem 1994 (by decide +kernel) (by decide +kernel)
abbrev O_m_helping (cy : Nat → ClassId) (vnh : Nat → Int32) (vo : Nat) (voth : Int32) (vmt : Nat) (votp : Int32) (vosz : Int32) (volm : Int32) (voto : Int32) (vofr : Int32) (vokd : Int32) (vonu : Int32) (vosg : Int32) (vofa : Int32) (vopl : Int32) (vowd : Int64) (votd : Int32) (vmn : Nat) (vmr : Nat) (vmk : Nat) (vms : Nat) (vma : Nat) (vmm : Nat) (vmrn : Nat) (vmkn : Nat) (vmik : Nat) (vmon : Nat) (vosm : Int32) (vohp : Int32) (vmw : Nat) (vmf : Nat) (vmb : Nat) (vomb : Int32) (vmd : Nat) (vmc : Nat) (vocm : Int32) (voct : Int32) (vocy : Int32) (vmx : Nat) (votx : Int32) (vose : Int32) (vml : Nat) (vmwr : Nat) (voln : Int32) (vohw : Int32) (vmno : Nat) (vond : Int32) (voon : Int32) (vowi : Int32) (votop : Int32) (vmnf : Nat → Int32) (u : Int32) : va_W := [(vo, .inr (12, [.int u, .ref vmt, .int votp, .int vosz, .int volm, .int voto, .int vofr, .int vokd, .int vonu, .int vosg, .int vofa, .int vopl, .long vowd, .int votd, .ref vmn, .ref vmr, .ref vmk, .ref vms, .ref vma, .ref vmm, .ref vmrn, .ref vmkn, .ref vmik, .ref vmon, .int vosm, .int vohp, .ref vmw, .ref vmf, .ref vmb, .int vomb, .ref vmd, .ref vmc, .int vocm, .int voct, .int vocy, .ref vmx, .int votx, .int vose, .ref vml, .ref vmwr, .int voln, .int vohw, .ref vmno, .int vond, .int voon, .int vowi, .int votop])), (vmn, .inl (cy 0, 575, .inl vmnf))]
theorem dX11_helping_0 : decode cX11_helping 0 = .ok (.aload_n 0, 1) := by decide +kernel
theorem dX11_helping_1 : decode cX11_helping 1 = .ok (.iconst 0, 1) := by decide +kernel
theorem dX11_helping_2 : decode cX11_helping 2 = .ok (.putfield 1, 3) := by decide +kernel
theorem dX11_helping_5 : decode cX11_helping 5 = .ok (.aload_n 0, 1) := by decide +kernel
theorem dX11_helping_6 : decode cX11_helping 6 = .ok (.getfield 130, 3) := by decide +kernel
theorem t1467 : Cond.fieldLink RX11 130 "LikenessPoundModel" "helping" "I" ∈ GW := gw_mem 1581 (by decide +kernel) (by decide +kernel)
theorem gf_X11_130 {p : Program} {l : Launch} {e : Env} {R : Room} {s : State} {m : MethodId} {args : Array Value} {below : List Frame} {meth : Method} {c : Code} {H : Heap} {locs : List Loc} {cells slots : Nat} {Q : State → Prop} {cc : ByteArray} {pc : Nat} {ls : Array Slot} {rest : List Value} {D : va_G} {a : Nat} {tys : List (ClassId × FieldType)} {ws : va_W} (hx : p.tables.exec = Jvm.exec) (hb : c.code = cc) (hts : ∀ w ∈ GW, w.before args s = true) (hown : s.vm.findClass RX11 = some m.cls) (hK : va_K D vwCl tys s) (hP : va_P D vwCl ws H) (q0 : Nat) {fs : List Value} (he : ws[q0]? = some (a, .inr (12, fs))) {v : Value} (hv : fs[25]? = some v) (hdg : decode cc pc = .ok (.getfield 130, 3)) (kk : W p l e R s m args below meth c H locs cells slots Q (F0 m (pc + 3) ls (v :: rest))) : W p l e R s m args below meth c H locs cells slots Q (F0 m pc ls (.ref a :: rest)) := va_get (C := RX11) (T := TX11) (N := 47) (ci := 12) hx hb hts inX11 hown hK hP q0 he rfl 25 (by decide) (hts _ t1467) (fun _ h => h) hv hdg kk
theorem dX11_helping_9 : decode cX11_helping 9 = .ok (.ireturn, 1) := by decide +kernel
set_option maxHeartbeats 4000000 in
set_option maxRecDepth 100000 in
theorem m_helping (l : Launch) (dC : Nat → ClassId) (dI : Nat → Nat → Nat) (cy : Nat → ClassId) (sz : Nat) (vnh : Nat → Int32) (vo : Nat) (voth : Int32) (vmt : Nat) (votp : Int32) (vosz : Int32) (volm : Int32) (voto : Int32) (vofr : Int32) (vokd : Int32) (vonu : Int32) (vosg : Int32) (vofa : Int32) (vopl : Int32) (vowd : Int64) (votd : Int32) (vmn : Nat) (vmr : Nat) (vmk : Nat) (vms : Nat) (vma : Nat) (vmm : Nat) (vmrn : Nat) (vmkn : Nat) (vmik : Nat) (vmon : Nat) (vosm : Int32) (vohp : Int32) (vmw : Nat) (vmf : Nat) (vmb : Nat) (vomb : Int32) (vmd : Nat) (vmc : Nat) (vocm : Int32) (voct : Int32) (vocy : Int32) (vmx : Nat) (votx : Int32) (vose : Int32) (vml : Nat) (vmwr : Nat) (voln : Int32) (vohw : Int32) (vmno : Nat) (vond : Int32) (voon : Int32) (vowi : Int32) (votop : Int32) (vmnf : Nat → Int32) (p_vmnf : NW vnh vmnf) : Met l yX11_helping (wl yX11_helping cX11_helping 1 (some .int)) ({ frames := 0, cells := 0, slots := 0, locals := 0 }) (Pw (dC, dI) vwCl cy [(vo, .inr (12, [.int voth, .ref vmt, .int votp, .int vosz, .int volm, .int voto, .int vofr, .int vokd, .int vonu, .int vosg, .int vofa, .int vopl, .long vowd, .int votd, .ref vmn, .ref vmr, .ref vmk, .ref vms, .ref vma, .ref vmm, .ref vmrn, .ref vmkn, .ref vmik, .ref vmon, .int vosm, .int vohp, .ref vmw, .ref vmf, .ref vmb, .int vomb, .ref vmd, .ref vmc, .int vocm, .int voct, .int vocy, .ref vmx, .int votx, .int vose, .ref vml, .ref vmwr, .int voln, .int vohw, .ref vmno, .int vond, .int voon, .int vowi, .int votop])), (vmn, .inl (cy 0, 575, .inl vmnf))] sz [.ref vo] nE) (Qi (dC, dI) vwCl (fun (r : Int32) (u : Int32) => True) (O_m_helping cy vnh vo voth vmt votp vosz volm voto vofr vokd vonu vosg vofa vopl vowd votd vmn vmr vmk vms vma vmm vmrn vmkn vmik vmon vosm vohp vmw vmf vmb vomb vmd vmc vocm voct vocy vmx votx vose vml vmwr voln vohw vmno vond voon vowi votop vmnf) (va_A [(vo, .inr (12, [.int voth, .ref vmt, .int votp, .int vosz, .int volm, .int voto, .int vofr, .int vokd, .int vonu, .int vosg, .int vofa, .int vopl, .long vowd, .int votd, .ref vmn, .ref vmr, .ref vmk, .ref vms, .ref vma, .ref vmm, .ref vmrn, .ref vmkn, .ref vmik, .ref vmon, .int vosm, .int vohp, .ref vmw, .ref vmf, .ref vmb, .int vomb, .ref vmd, .ref vmc, .int vocm, .int voct, .int vocy, .ref vmx, .int votx, .int vose, .ref vml, .ref vmwr, .int voln, .int vohw, .ref vmno, .int vond, .int voon, .int vowi, .int votop])), (vmn, .inl (cy 0, 575, .inl vmnf))] sz)) 0 0 (va_A [(vo, .inr (12, [.int voth, .ref vmt, .int votp, .int vosz, .int volm, .int voto, .int vofr, .int vokd, .int vonu, .int vosg, .int vofa, .int vopl, .long vowd, .int votd, .ref vmn, .ref vmr, .ref vmk, .ref vms, .ref vma, .ref vmm, .ref vmrn, .ref vmkn, .ref vmik, .ref vmon, .int vosm, .int vohp, .ref vmw, .ref vmf, .ref vmb, .int vomb, .ref vmd, .ref vmc, .int vocm, .int voct, .int vocy, .ref vmx, .int votx, .int vose, .ref vml, .ref vmwr, .int voln, .int vohw, .ref vmno, .int vond, .int voon, .int vowi, .int votop])), (vmn, .inl (cy 0, 575, .inl vmnf))] sz) := by
  refine mw (Qc := Qi (dC, dI) vwCl (fun (r : Int32) (u : Int32) => True) (O_m_helping cy vnh vo voth vmt votp vosz volm voto vofr vokd vonu vosg vofa vopl vowd votd vmn vmr vmk vms vma vmm vmrn vmkn vmik vmon vosm vohp vmw vmf vmb vomb vmd vmc vocm voct vocy vmx votx vose vml vmwr voln vohw vmno vond voon vowi votop vmnf)) RX11 rfl (by decide +kernel) (Nat.le_of_ble_eq_true rfl) ?_
  intro p e s m below meth c A hx hb hr hlocks av9 hav hts hown hnm hml hK hP hD hA hS hE hAe Q9 hQ9 ls hl
  have hl : lv_has ls 1 [(0, .ref vo)] := hl
  refine lv_aload_n hx hb dX11_helping_0 rfl (lv_at hl 0 rfl) ?_
  refine lv_iconst (v := 0) hx hb dX11_helping_1 (by decide) ?_
  refine pf_X11_1 hx hb hts hown hK hP hD hS 0 rfl rfl rfl (Nat.le_of_ble_eq_true rfl) dX11_helping_2 (fun H locs hP hD hS => ?_)
  have hP : va_P (dC, dI) vwCl [(vo, .inr (12, [.int 0, .ref vmt, .int votp, .int vosz, .int volm, .int voto, .int vofr, .int vokd, .int vonu, .int vosg, .int vofa, .int vopl, .long vowd, .int votd, .ref vmn, .ref vmr, .ref vmk, .ref vms, .ref vma, .ref vmm, .ref vmrn, .ref vmkn, .ref vmik, .ref vmon, .int vosm, .int vohp, .ref vmw, .ref vmf, .ref vmb, .int vomb, .ref vmd, .ref vmc, .int vocm, .int voct, .int vocy, .ref vmx, .int votx, .int vose, .ref vml, .ref vmwr, .int voln, .int vohw, .ref vmno, .int vond, .int voon, .int vowi, .int votop])), (vmn, .inl (cy 0, 575, .inl vmnf))] H := hP
  have hD : va_D A [(vo, .inr (12, [.int 0, .ref vmt, .int votp, .int vosz, .int volm, .int voto, .int vofr, .int vokd, .int vonu, .int vosg, .int vofa, .int vopl, .long vowd, .int votd, .ref vmn, .ref vmr, .ref vmk, .ref vms, .ref vma, .ref vmm, .ref vmrn, .ref vmkn, .ref vmik, .ref vmon, .int vosm, .int vohp, .ref vmw, .ref vmf, .ref vmb, .int vomb, .ref vmd, .ref vmc, .int vocm, .int voct, .int vocy, .ref vmx, .int votx, .int vose, .ref vml, .ref vmwr, .int voln, .int vohw, .ref vmno, .int vond, .int voon, .int vowi, .int votop])), (vmn, .inl (cy 0, 575, .inl vmnf))] := hD
  refine lv_aload_n hx hb dX11_helping_5 rfl (lv_at hl 0 rfl) ?_
  refine gf_X11_130 hx hb hts hown hK hP 0 rfl rfl dX11_helping_6 ?_
  have k_0 : (0 : Int32).toInt = 0 := by decide
  rw [hQ9]
  exact re_i (0 : Int32) hx hb hr hlocks trivial (hP.sub [0, 1] rfl) (hD.sub [0, 1] rfl rfl) hS dX11_helping_9
abbrev cX11_man : ByteArray := prog_13_method_54_code
def yX11_man : MethodName := ⟨RX11, "man", "(II)I"⟩
theorem t1706 : Cond.code yX11_man cX11_man 3 (some .int) ∈ GW := gw_mem 1820 (by decide +kernel) (by decide +kernel)
abbrev O_m_man (cy : Nat → ClassId) (vnh : Nat → Int32) (vo : Nat) (voth : Int32) (vmt : Nat) (votp : Int32) (vosz : Int32) (volm : Int32) (voto : Int32) (vofr : Int32) (vokd : Int32) (vonu : Int32) (vosg : Int32) (vofa : Int32) (vopl : Int32) (vowd : Int64) (votd : Int32) (vmn : Nat) (vmr : Nat) (vmk : Nat) (vms : Nat) (vma : Nat) (vmm : Nat) (vmrn : Nat) (vmkn : Nat) (vmik : Nat) (vmon : Nat) (vosm : Int32) (vohp : Int32) (vmw : Nat) (vmf : Nat) (vmb : Nat) (vomb : Int32) (vmd : Nat) (vmc : Nat) (vocm : Int32) (voct : Int32) (vocy : Int32) (vmx : Nat) (votx : Int32) (vose : Int32) (vml : Nat) (vmwr : Nat) (voln : Int32) (vohw : Int32) (vmno : Nat) (vond : Int32) (voon : Int32) (vowi : Int32) (votop : Int32) (vmnf : Nat → Int32) (vm : Int32) (vwt : Int32) (u : Int32) : va_W := [(vo, .inr (12, [.int u, .ref vmt, .int votp, .int vosz, .int volm, .int voto, .int vofr, .int vokd, .int vonu, .int vosg, .int vofa, .int vopl, .long vowd, .int votd, .ref vmn, .ref vmr, .ref vmk, .ref vms, .ref vma, .ref vmm, .ref vmrn, .ref vmkn, .ref vmik, .ref vmon, .int vosm, .int vohp, .ref vmw, .ref vmf, .ref vmb, .int vomb, .ref vmd, .ref vmc, .int vocm, .int voct, .int vocy, .ref vmx, .int votx, .int vose, .ref vml, .ref vmwr, .int voln, .int vohw, .ref vmno, .int vond, .int voon, .int vowi, .int votop])), (vmn, .inl (cy 0, 575, .inl vmnf))]
theorem dX11_man_0 : decode cX11_man 0 = .ok (.aload_n 0, 1) := by decide +kernel
theorem dX11_man_1 : decode cX11_man 1 = .ok (.iconst 0, 1) := by decide +kernel
theorem dX11_man_2 : decode cX11_man 2 = .ok (.putfield 1, 3) := by decide +kernel
theorem dX11_man_5 : decode cX11_man 5 = .ok (.aload_n 0, 1) := by decide +kernel
theorem dX11_man_6 : decode cX11_man 6 = .ok (.iload_n 1, 1) := by decide +kernel
theorem dX11_man_7 : decode cX11_man 7 = .ok (.invokevirtual 250, 3) := by decide +kernel
theorem t1707 : Cond.methodLink RX11 250 yX11_isMan ∈ GW := gw_mem 1821 (by decide +kernel) (by decide +kernel)
theorem t1709 : Cond.instanceMethod yX11_isMan ∈ GW := gw_mem 1823 (by decide +kernel) (by decide +kernel)
theorem s62 : Cond.selects RX11 yX11_isMan yX11_isMan ∈ GW := gw_mem 62 (by decide +kernel) (by decide +kernel)
theorem cw_X11_250 {R : Room} {s : State} {args : Array Value} {rm : Room} {mc ms : Nat} (hts : ∀ w ∈ GW, w.before args s = true) (hrc : rm.cells = mc) (hrs : rm.slots = ms) (hR : rm.frames + 1 ≤ R.frames ∧ 8 + (2 + 11) + rm.locals ≤ R.locals) : CallW R s args RX11 RX11 250 yX11_isMan cX11_isMan 2 (some .boolean) (wl yX11_isMan cX11_isMan 2 (some .boolean)) rm mc ms 1 := cwV 1 hts (gi_V t1707 t1709 s62 t18 t1710) rfl hrc hrs (by decide +kernel) hR
theorem dX11_man_10 : decode cX11_man 10 = .ok (.ifCond .ne 8, 3) := by decide +kernel
theorem dX11_man_13 : decode cX11_man 13 = .ok (.aload_n 0, 1) := by decide +kernel
theorem dX11_man_14 : decode cX11_man 14 = .ok (.invokevirtual 253, 3) := by decide +kernel
theorem t1711 : Cond.methodLink RX11 253 yX11_refuse ∈ GW := gw_mem 1825 (by decide +kernel) (by decide +kernel)
theorem t1713 : Cond.instanceMethod yX11_refuse ∈ GW := gw_mem 1827 (by decide +kernel) (by decide +kernel)
theorem s63 : Cond.selects RX11 yX11_refuse yX11_refuse ∈ GW := gw_mem 63 (by decide +kernel) (by decide +kernel)
theorem cw_X11_253 {R : Room} {s : State} {args : Array Value} {rm : Room} {mc ms : Nat} (hts : ∀ w ∈ GW, w.before args s = true) (hrc : rm.cells = mc) (hrs : rm.slots = ms) (hR : rm.frames + 1 ≤ R.frames ∧ 8 + (1 + 11) + rm.locals ≤ R.locals) : CallW R s args RX11 RX11 253 yX11_refuse cX11_refuse 1 (some .int) (wl yX11_refuse cX11_refuse 1 (some .int)) rm mc ms 0 := cwV 0 hts (gi_V t1711 t1713 s63 t18 t1714) rfl hrc hrs (by decide +kernel) hR
theorem dX11_man_17 : decode cX11_man 17 = .ok (.ireturn, 1) := by decide +kernel
theorem dX11_man_18 : decode cX11_man 18 = .ok (.iload_n 2, 1) := by decide +kernel
theorem dX11_man_19 : decode cX11_man 19 = .ok (.tableswitch 113 0 7 #[45, 56, 62, 68, 74, 85, 96, 102], 45) := by decide +kernel
theorem dX11_man_64 : decode cX11_man 64 = .ok (.aload_n 0, 1) := by decide +kernel
theorem dX11_man_65 : decode cX11_man 65 = .ok (.getfield 98, 3) := by decide +kernel
theorem dX11_man_68 : decode cX11_man 68 = .ok (.sipush 158, 3) := by decide +kernel
theorem dX11_man_71 : decode cX11_man 71 = .ok (.iload_n 1, 1) := by decide +kernel
theorem dX11_man_72 : decode cX11_man 72 = .ok (.iadd, 1) := by decide +kernel
theorem dX11_man_73 : decode cX11_man 73 = .ok (.iaload, 1) := by decide +kernel
theorem dX11_man_74 : decode cX11_man 74 = .ok (.ireturn, 1) := by decide +kernel
theorem dX11_man_75 : decode cX11_man 75 = .ok (.aload_n 0, 1) := by decide +kernel
theorem dX11_man_76 : decode cX11_man 76 = .ok (.iload_n 1, 1) := by decide +kernel
theorem dX11_man_77 : decode cX11_man 77 = .ok (.invokevirtual 241, 3) := by decide +kernel
theorem dX11_man_80 : decode cX11_man 80 = .ok (.ireturn, 1) := by decide +kernel
theorem dX11_man_81 : decode cX11_man 81 = .ok (.aload_n 0, 1) := by decide +kernel
theorem dX11_man_82 : decode cX11_man 82 = .ok (.iload_n 1, 1) := by decide +kernel
theorem dX11_man_83 : decode cX11_man 83 = .ok (.invokevirtual 244, 3) := by decide +kernel
theorem dX11_man_86 : decode cX11_man 86 = .ok (.ireturn, 1) := by decide +kernel
theorem dX11_man_87 : decode cX11_man 87 = .ok (.aload_n 0, 1) := by decide +kernel
theorem dX11_man_88 : decode cX11_man 88 = .ok (.iload_n 1, 1) := by decide +kernel
theorem dX11_man_89 : decode cX11_man 89 = .ok (.invokevirtual 256, 3) := by decide +kernel
theorem dX11_man_92 : decode cX11_man 92 = .ok (.ireturn, 1) := by decide +kernel
theorem dX11_man_93 : decode cX11_man 93 = .ok (.aload_n 0, 1) := by decide +kernel
theorem dX11_man_94 : decode cX11_man 94 = .ok (.getfield 98, 3) := by decide +kernel
theorem dX11_man_97 : decode cX11_man 97 = .ok (.sipush 235, 3) := by decide +kernel
theorem dX11_man_100 : decode cX11_man 100 = .ok (.iload_n 1, 1) := by decide +kernel
theorem dX11_man_101 : decode cX11_man 101 = .ok (.iadd, 1) := by decide +kernel
theorem dX11_man_102 : decode cX11_man 102 = .ok (.iaload, 1) := by decide +kernel
theorem dX11_man_103 : decode cX11_man 103 = .ok (.ireturn, 1) := by decide +kernel
theorem dX11_man_104 : decode cX11_man 104 = .ok (.aload_n 0, 1) := by decide +kernel
theorem dX11_man_105 : decode cX11_man 105 = .ok (.getfield 98, 3) := by decide +kernel
theorem dX11_man_108 : decode cX11_man 108 = .ok (.sipush 242, 3) := by decide +kernel
theorem dX11_man_111 : decode cX11_man 111 = .ok (.iload_n 1, 1) := by decide +kernel
theorem dX11_man_112 : decode cX11_man 112 = .ok (.iadd, 1) := by decide +kernel
theorem dX11_man_113 : decode cX11_man 113 = .ok (.iaload, 1) := by decide +kernel
theorem dX11_man_114 : decode cX11_man 114 = .ok (.ireturn, 1) := by decide +kernel
theorem dX11_man_115 : decode cX11_man 115 = .ok (.aload_n 0, 1) := by decide +kernel
theorem dX11_man_116 : decode cX11_man 116 = .ok (.iload_n 1, 1) := by decide +kernel
theorem dX11_man_117 : decode cX11_man 117 = .ok (.invokevirtual 238, 3) := by decide +kernel
theorem dX11_man_120 : decode cX11_man 120 = .ok (.ireturn, 1) := by decide +kernel
theorem dX11_man_121 : decode cX11_man 121 = .ok (.aload_n 0, 1) := by decide +kernel
theorem dX11_man_122 : decode cX11_man 122 = .ok (.getfield 98, 3) := by decide +kernel
theorem dX11_man_125 : decode cX11_man 125 = .ok (.sipush 298, 3) := by decide +kernel
theorem dX11_man_128 : decode cX11_man 128 = .ok (.iload_n 1, 1) := by decide +kernel
theorem dX11_man_129 : decode cX11_man 129 = .ok (.iadd, 1) := by decide +kernel
theorem dX11_man_130 : decode cX11_man 130 = .ok (.iaload, 1) := by decide +kernel
theorem dX11_man_131 : decode cX11_man 131 = .ok (.ireturn, 1) := by decide +kernel
theorem dX11_man_132 : decode cX11_man 132 = .ok (.aload_n 0, 1) := by decide +kernel
theorem dX11_man_133 : decode cX11_man 133 = .ok (.invokevirtual 253, 3) := by decide +kernel
theorem dX11_man_136 : decode cX11_man 136 = .ok (.ireturn, 1) := by decide +kernel
set_option maxHeartbeats 4000000 in
set_option maxRecDepth 100000 in
theorem m_man (l : Launch) (dC : Nat → ClassId) (dI : Nat → Nat → Nat) (cy : Nat → ClassId) (sz : Nat) (vnh : Nat → Int32) (vo : Nat) (voth : Int32) (vmt : Nat) (votp : Int32) (vosz : Int32) (volm : Int32) (voto : Int32) (vofr : Int32) (vokd : Int32) (vonu : Int32) (vosg : Int32) (vofa : Int32) (vopl : Int32) (vowd : Int64) (votd : Int32) (vmn : Nat) (vmr : Nat) (vmk : Nat) (vms : Nat) (vma : Nat) (vmm : Nat) (vmrn : Nat) (vmkn : Nat) (vmik : Nat) (vmon : Nat) (vosm : Int32) (vohp : Int32) (vmw : Nat) (vmf : Nat) (vmb : Nat) (vomb : Int32) (vmd : Nat) (vmc : Nat) (vocm : Int32) (voct : Int32) (vocy : Int32) (vmx : Nat) (votx : Int32) (vose : Int32) (vml : Nat) (vmwr : Nat) (voln : Int32) (vohw : Int32) (vmno : Nat) (vond : Int32) (voon : Int32) (vowi : Int32) (votop : Int32) (vmnf : Nat → Int32) (vm : Int32) (vwt : Int32) (p_vmnf : NW vnh vmnf) : Met l yX11_man (wl yX11_man cX11_man 3 (some .int)) ({ frames := 5, cells := 0, slots := 0, locals := 320 }) (Pw (dC, dI) vwCl cy [(vo, .inr (12, [.int voth, .ref vmt, .int votp, .int vosz, .int volm, .int voto, .int vofr, .int vokd, .int vonu, .int vosg, .int vofa, .int vopl, .long vowd, .int votd, .ref vmn, .ref vmr, .ref vmk, .ref vms, .ref vma, .ref vmm, .ref vmrn, .ref vmkn, .ref vmik, .ref vmon, .int vosm, .int vohp, .ref vmw, .ref vmf, .ref vmb, .int vomb, .ref vmd, .ref vmc, .int vocm, .int voct, .int vocy, .ref vmx, .int votx, .int vose, .ref vml, .ref vmwr, .int voln, .int vohw, .ref vmno, .int vond, .int voon, .int vowi, .int votop])), (vmn, .inl (cy 0, 575, .inl vmnf))] sz [.ref vo, .int vm, .int vwt] nE) (Qi (dC, dI) vwCl (fun (r : Int32) (u : Int32) => True) (O_m_man cy vnh vo voth vmt votp vosz volm voto vofr vokd vonu vosg vofa vopl vowd votd vmn vmr vmk vms vma vmm vmrn vmkn vmik vmon vosm vohp vmw vmf vmb vomb vmd vmc vocm voct vocy vmx votx vose vml vmwr voln vohw vmno vond voon vowi votop vmnf vm vwt) (va_A [(vo, .inr (12, [.int voth, .ref vmt, .int votp, .int vosz, .int volm, .int voto, .int vofr, .int vokd, .int vonu, .int vosg, .int vofa, .int vopl, .long vowd, .int votd, .ref vmn, .ref vmr, .ref vmk, .ref vms, .ref vma, .ref vmm, .ref vmrn, .ref vmkn, .ref vmik, .ref vmon, .int vosm, .int vohp, .ref vmw, .ref vmf, .ref vmb, .int vomb, .ref vmd, .ref vmc, .int vocm, .int voct, .int vocy, .ref vmx, .int votx, .int vose, .ref vml, .ref vmwr, .int voln, .int vohw, .ref vmno, .int vond, .int voon, .int vowi, .int votop])), (vmn, .inl (cy 0, 575, .inl vmnf))] sz)) 0 0 (va_A [(vo, .inr (12, [.int voth, .ref vmt, .int votp, .int vosz, .int volm, .int voto, .int vofr, .int vokd, .int vonu, .int vosg, .int vofa, .int vopl, .long vowd, .int votd, .ref vmn, .ref vmr, .ref vmk, .ref vms, .ref vma, .ref vmm, .ref vmrn, .ref vmkn, .ref vmik, .ref vmon, .int vosm, .int vohp, .ref vmw, .ref vmf, .ref vmb, .int vomb, .ref vmd, .ref vmc, .int vocm, .int voct, .int vocy, .ref vmx, .int votx, .int vose, .ref vml, .ref vmwr, .int voln, .int vohw, .ref vmno, .int vond, .int voon, .int vowi, .int votop])), (vmn, .inl (cy 0, 575, .inl vmnf))] sz) := by
  refine mw (Qc := Qi (dC, dI) vwCl (fun (r : Int32) (u : Int32) => True) (O_m_man cy vnh vo voth vmt votp vosz volm voto vofr vokd vonu vosg vofa vopl vowd votd vmn vmr vmk vms vma vmm vmrn vmkn vmik vmon vosm vohp vmw vmf vmb vomb vmd vmc vocm voct vocy vmx votx vose vml vmwr voln vohw vmno vond voon vowi votop vmnf vm vwt)) RX11 rfl (by decide +kernel) (Nat.le_of_ble_eq_true rfl) ?_
  intro p e s m below meth c A hx hb hr hlocks av9 hav hts hown hnm hml hK hP hD hA hS hE hAe Q9 hQ9 ls hl
  have hl : lv_has ls 3 [(0, .ref vo), (1, .int vm), (2, .int vwt)] := hl
  refine lv_aload_n hx hb dX11_man_0 rfl (lv_at hl 0 rfl) ?_
  refine lv_iconst (v := 0) hx hb dX11_man_1 (by decide) ?_
  refine pf_X11_1 hx hb hts hown hK hP hD hS 0 rfl rfl rfl (Nat.le_of_ble_eq_true rfl) dX11_man_2 (fun H locs hP hD hS => ?_)
  have hP : va_P (dC, dI) vwCl [(vo, .inr (12, [.int 0, .ref vmt, .int votp, .int vosz, .int volm, .int voto, .int vofr, .int vokd, .int vonu, .int vosg, .int vofa, .int vopl, .long vowd, .int votd, .ref vmn, .ref vmr, .ref vmk, .ref vms, .ref vma, .ref vmm, .ref vmrn, .ref vmkn, .ref vmik, .ref vmon, .int vosm, .int vohp, .ref vmw, .ref vmf, .ref vmb, .int vomb, .ref vmd, .ref vmc, .int vocm, .int voct, .int vocy, .ref vmx, .int votx, .int vose, .ref vml, .ref vmwr, .int voln, .int vohw, .ref vmno, .int vond, .int voon, .int vowi, .int votop])), (vmn, .inl (cy 0, 575, .inl vmnf))] H := hP
  have hD : va_D A [(vo, .inr (12, [.int 0, .ref vmt, .int votp, .int vosz, .int volm, .int voto, .int vofr, .int vokd, .int vonu, .int vosg, .int vofa, .int vopl, .long vowd, .int votd, .ref vmn, .ref vmr, .ref vmk, .ref vms, .ref vma, .ref vmm, .ref vmrn, .ref vmkn, .ref vmik, .ref vmon, .int vosm, .int vohp, .ref vmw, .ref vmf, .ref vmb, .int vomb, .ref vmd, .ref vmc, .int vocm, .int voct, .int vocy, .ref vmx, .int votx, .int vose, .ref vml, .ref vmwr, .int voln, .int vohw, .ref vmno, .int vond, .int voon, .int vowi, .int votop])), (vmn, .inl (cy 0, 575, .inl vmnf))] := hD
  refine lv_aload_n hx hb dX11_man_5 rfl (lv_at hl 0 rfl) ?_
  refine lv_iload_n hx hb dX11_man_6 rfl (lv_at hl 1 rfl) ?_
  have k_0 : (0 : Int32).toInt = 0 := by decide
  refine jr_i (rVr (As := [.int vm]) (rest := []) (ci := 12) ⟨hx, hb, hml, hown, hts⟩ (m_isMan l dC dI cy vnh vo 0 vmt votp vosz volm voto vofr vokd vonu vosg vofa vopl vowd votd vmn vmr vmk vms vma vmm vmrn vmkn vmik vmon vosm vohp vmw vmf vmb vomb vmd vmc vocm voct vocy vmx votx vose vml vmwr voln vohw vmno vond voon vowi votop vmnf vm p_vmnf) (cw_X11_250 hts rfl rfl ⟨Nat.le_of_ble_eq_true rfl, Nat.le_of_ble_eq_true rfl⟩) hP hK [0, 1] rfl rfl rfl rfl hl.1 rfl (Nat.le_of_ble_eq_true rfl) dX11_man_7 ⟨Nat.le_of_ble_eq_true rfl, Nat.le_of_ble_eq_true rfl⟩) hP hS (fun r_1 H locs hp_2 hP hS => ?_)
  have hp_2 : ((r_1 = 0 ∧ ((vm : Int32).toInt < 0 ∨ (vmnf 0).toInt ≤ (vm : Int32).toInt)) ∨ (r_1 = 1 ∧ 0 ≤ (vm : Int32).toInt ∧ (vm : Int32).toInt ≤ 6 ∧ (vm : Int32).toInt < (vmnf 0).toInt)) := hp_2
  have q_3 := hp_2
  rcases q_3 with ⟨aq_3, f0q_3⟩ | ⟨aq_3, f0q_3, f1q_3, f2q_3⟩
  · skip
    refine as_i 0 aq_3 ?_
    refine lv_if_ne (tgt := 18) hx hb dX11_man_10 (by decide) (fun c9 => absurd c9 (by decide)) (fun _ => ?_)
    refine lv_aload_n hx hb dX11_man_13 rfl (lv_at hl 0 rfl) ?_
    refine jn_i (wr := [(vmn, .inl (cy 0, 575, .inl vmnf))]) (rV (As := []) (rest := []) (ci := 12) ⟨hx, hb, hml, hown, hts⟩ (m_refuse l dC dI cy _ vo 0 vmt votp vosz volm voto vofr vokd vonu vosg vofa vopl vowd votd vmn vmr vmk vms vma vmm vmrn vmkn vmik vmon vosm vohp vmw vmf vmb vomb vmd vmc vocm voct vocy vmx votx vose vml vmwr voln vohw vmno vond voon vowi votop ) (cw_X11_253 hts rfl rfl ⟨Nat.le_of_ble_eq_true rfl, Nat.le_of_ble_eq_true rfl⟩) hP hD hK [0] rfl rfl rfl rfl bl0 e0 rfl hl.1 rfl (Nat.le_of_ble_eq_true rfl) dX11_man_14 ⟨Nat.le_of_ble_eq_true rfl, Nat.le_of_ble_eq_true rfl⟩) hP hD hS hA [0] [1] rfl rfl rfl (by decide) (fun r_4 u_6 H locs hp_5 hP hD hS => ?_)
    obtain ⟨voth_7, rfl⟩ : ∃ z, z = u_6 := ⟨_, rfl⟩
    have hP : va_P (dC, dI) vwCl [(vmn, .inl (cy 0, 575, .inl vmnf)), (vo, .inr (12, [.int voth_7, .ref vmt, .int votp, .int vosz, .int volm, .int voto, .int vofr, .int vokd, .int vonu, .int vosg, .int vofa, .int vopl, .long vowd, .int votd, .ref vmn, .ref vmr, .ref vmk, .ref vms, .ref vma, .ref vmm, .ref vmrn, .ref vmkn, .ref vmik, .ref vmon, .int vosm, .int vohp, .ref vmw, .ref vmf, .ref vmb, .int vomb, .ref vmd, .ref vmc, .int vocm, .int voct, .int vocy, .ref vmx, .int votx, .int vose, .ref vml, .ref vmwr, .int voln, .int vohw, .ref vmno, .int vond, .int voon, .int vowi, .int votop]))] H := hP
    have hD : va_D A [(vmn, .inl (cy 0, 575, .inl vmnf)), (vo, .inr (12, [.int voth_7, .ref vmt, .int votp, .int vosz, .int volm, .int voto, .int vofr, .int vokd, .int vonu, .int vosg, .int vofa, .int vopl, .long vowd, .int votd, .ref vmn, .ref vmr, .ref vmk, .ref vms, .ref vma, .ref vmm, .ref vmrn, .ref vmkn, .ref vmik, .ref vmon, .int vosm, .int vohp, .ref vmw, .ref vmf, .ref vmb, .int vomb, .ref vmd, .ref vmc, .int vocm, .int voct, .int vocy, .ref vmx, .int votx, .int vose, .ref vml, .ref vmwr, .int voln, .int vohw, .ref vmno, .int vond, .int voon, .int vowi, .int votop]))] := hD
    rw [hQ9]
    exact re_i voth_7 hx hb hr hlocks trivial (hP.sub [1, 0] rfl) (hD.sub [1, 0] rfl rfl) hS dX11_man_17
  · skip
    refine as_i 1 aq_3 ?_
    refine lv_if_ne (tgt := 18) hx hb dX11_man_10 (by decide) (fun _ => ?_) (fun c9 => absurd c9 (by decide))
    refine lv_iload_n hx hb dX11_man_18 rfl (lv_at hl 2 rfl) ?_
    have k_1 : (1 : Int32).toInt = 1 := by decide
    have k_2 : (2 : Int32).toInt = 2 := by decide
    have k_3 : (3 : Int32).toInt = 3 := by decide
    have k_4 : (4 : Int32).toInt = 4 := by decide
    have k_5 : (5 : Int32).toInt = 5 := by decide
    have k_6 : (6 : Int32).toInt = 6 := by decide
    have k_7 : (7 : Int32).toInt = 7 := by decide
    by_cases sw_8_0 : vwt.toInt = 0
    · refine as_i 0 (i_eq.mpr (sw_8_0.trans k_0.symm)) ?_
      refine lv_tableIn (off := 45) (tgt := 64) hx hb dX11_man_19 (by decide) (by decide) (by decide) (by decide) ?_
      refine lv_aload_n hx hb dX11_man_64 rfl (lv_at hl 0 rfl) ?_
      refine gf_X11_98 hx hb hts hown hK hP 0 rfl rfl dX11_man_65 ?_
      refine lv_sipush (v := 158) hx hb dX11_man_68 (by decide) ?_
      refine lv_iload_n hx hb dX11_man_71 rfl (lv_at hl 1 rfl) ?_
      refine lv_iadd hx hb dX11_man_72 ?_
      refine lv_topi (fun z_9 ez_9 => ?_)
      have k_158 : (158 : Int32).toInt = 158 := by decide
      have bz_9 : z_9.toInt = (158 : Int32).toInt + vm.toInt := i_add ez_9 (by omega) (by omega)
      have hin_10 : vp_in z_9 575 := vp_in_iff.mpr ⟨by omega, by omega⟩
      refine va_iald hx hb hK hP 1 0 rfl rfl hin_10 dX11_man_73 ?_
      refine lv_topi (fun z_11 ez_11 => ?_)
      rw [hQ9]
      exact re_i (0 : Int32) hx hb hr hlocks trivial (hP.sub [0, 1] rfl) (hD.sub [0, 1] rfl rfl) hS dX11_man_74
    by_cases sw_8_1 : vwt.toInt = 1
    · refine as_i 1 (i_eq.mpr (sw_8_1.trans k_1.symm)) ?_
      refine lv_tableIn (off := 56) (tgt := 75) hx hb dX11_man_19 (by decide) (by decide) (by decide) (by decide) ?_
      refine lv_aload_n hx hb dX11_man_75 rfl (lv_at hl 0 rfl) ?_
      refine lv_iload_n hx hb dX11_man_76 rfl (lv_at hl 1 rfl) ?_
      refine jr_i (rVr (As := [.int vm]) (rest := []) (ci := 12) ⟨hx, hb, hml, hown, hts⟩ (m_whiteOf l dC dI cy vnh vo 0 vmt votp vosz volm voto vofr vokd vonu vosg vofa vopl vowd votd vmn vmr vmk vms vma vmm vmrn vmkn vmik vmon vosm vohp vmw vmf vmb vomb vmd vmc vocm voct vocy vmx votx vose vml vmwr voln vohw vmno vond voon vowi votop vmnf vm ⟨by omega, by omega⟩ p_vmnf) (cw_X11_241 hts rfl rfl ⟨Nat.le_of_ble_eq_true rfl, Nat.le_of_ble_eq_true rfl⟩) hP hK [0, 1] rfl rfl rfl rfl hl.1 rfl (Nat.le_of_ble_eq_true rfl) dX11_man_77 ⟨Nat.le_of_ble_eq_true rfl, Nat.le_of_ble_eq_true rfl⟩) hP hS (fun r_12 H locs hp_13 hP hS => ?_)
      rw [hQ9]
      exact re_i (0 : Int32) hx hb hr hlocks trivial (hP.sub [0, 1] rfl) (hD.sub [0, 1] rfl rfl) hS dX11_man_80
    by_cases sw_8_2 : vwt.toInt = 2
    · refine as_i 2 (i_eq.mpr (sw_8_2.trans k_2.symm)) ?_
      refine lv_tableIn (off := 62) (tgt := 81) hx hb dX11_man_19 (by decide) (by decide) (by decide) (by decide) ?_
      refine lv_aload_n hx hb dX11_man_81 rfl (lv_at hl 0 rfl) ?_
      refine lv_iload_n hx hb dX11_man_82 rfl (lv_at hl 1 rfl) ?_
      refine jr_i (rVr (As := [.int vm]) (rest := []) (ci := 12) ⟨hx, hb, hml, hown, hts⟩ (m_darkOf l dC dI cy vnh vo 0 vmt votp vosz volm voto vofr vokd vonu vosg vofa vopl vowd votd vmn vmr vmk vms vma vmm vmrn vmkn vmik vmon vosm vohp vmw vmf vmb vomb vmd vmc vocm voct vocy vmx votx vose vml vmwr voln vohw vmno vond voon vowi votop vmnf vm ⟨by omega, by omega⟩ p_vmnf) (cw_X11_244 hts rfl rfl ⟨Nat.le_of_ble_eq_true rfl, Nat.le_of_ble_eq_true rfl⟩) hP hK [0, 1] rfl rfl rfl rfl hl.1 rfl (Nat.le_of_ble_eq_true rfl) dX11_man_83 ⟨Nat.le_of_ble_eq_true rfl, Nat.le_of_ble_eq_true rfl⟩) hP hS (fun r_14 H locs hp_15 hP hS => ?_)
      rw [hQ9]
      exact re_i (0 : Int32) hx hb hr hlocks trivial (hP.sub [0, 1] rfl) (hD.sub [0, 1] rfl rfl) hS dX11_man_86
    by_cases sw_8_3 : vwt.toInt = 3
    · refine as_i 3 (i_eq.mpr (sw_8_3.trans k_3.symm)) ?_
      refine lv_tableIn (off := 68) (tgt := 87) hx hb dX11_man_19 (by decide) (by decide) (by decide) (by decide) ?_
      refine lv_aload_n hx hb dX11_man_87 rfl (lv_at hl 0 rfl) ?_
      refine lv_iload_n hx hb dX11_man_88 rfl (lv_at hl 1 rfl) ?_
      refine jr_i (rVr (As := [.int vm]) (rest := []) (ci := 12) ⟨hx, hb, hml, hown, hts⟩ (m_howOf l dC dI cy vnh vo 0 vmt votp vosz volm voto vofr vokd vonu vosg vofa vopl vowd votd vmn vmr vmk vms vma vmm vmrn vmkn vmik vmon vosm vohp vmw vmf vmb vomb vmd vmc vocm voct vocy vmx votx vose vml vmwr voln vohw vmno vond voon vowi votop vmnf vm ⟨by omega, by omega⟩ p_vmnf) (cw_X11_256 hts rfl rfl ⟨Nat.le_of_ble_eq_true rfl, Nat.le_of_ble_eq_true rfl⟩) hP hK [0, 1] rfl rfl rfl rfl hl.1 rfl (Nat.le_of_ble_eq_true rfl) dX11_man_89 ⟨Nat.le_of_ble_eq_true rfl, Nat.le_of_ble_eq_true rfl⟩) hP hS (fun r_16 H locs hp_17 hP hS => ?_)
      have hp_17 : (0 ≤ (r_16 : Int32).toInt ∧ (r_16 : Int32).toInt ≤ 2) := hp_17
      have q_18 := hp_17
      rw [hQ9]
      exact re_i (0 : Int32) hx hb hr hlocks trivial (hP.sub [0, 1] rfl) (hD.sub [0, 1] rfl rfl) hS dX11_man_92
    by_cases sw_8_4 : vwt.toInt = 4
    · refine as_i 4 (i_eq.mpr (sw_8_4.trans k_4.symm)) ?_
      refine lv_tableIn (off := 74) (tgt := 93) hx hb dX11_man_19 (by decide) (by decide) (by decide) (by decide) ?_
      refine lv_aload_n hx hb dX11_man_93 rfl (lv_at hl 0 rfl) ?_
      refine gf_X11_98 hx hb hts hown hK hP 0 rfl rfl dX11_man_94 ?_
      refine lv_sipush (v := 235) hx hb dX11_man_97 (by decide) ?_
      refine lv_iload_n hx hb dX11_man_100 rfl (lv_at hl 1 rfl) ?_
      refine lv_iadd hx hb dX11_man_101 ?_
      refine lv_topi (fun z_19 ez_19 => ?_)
      have k_235 : (235 : Int32).toInt = 235 := by decide
      have bz_19 : z_19.toInt = (235 : Int32).toInt + vm.toInt := i_add ez_19 (by omega) (by omega)
      have hin_20 : vp_in z_19 575 := vp_in_iff.mpr ⟨by omega, by omega⟩
      refine va_iald hx hb hK hP 1 0 rfl rfl hin_20 dX11_man_102 ?_
      refine lv_topi (fun z_21 ez_21 => ?_)
      rw [hQ9]
      exact re_i (0 : Int32) hx hb hr hlocks trivial (hP.sub [0, 1] rfl) (hD.sub [0, 1] rfl rfl) hS dX11_man_103
    by_cases sw_8_5 : vwt.toInt = 5
    · refine as_i 5 (i_eq.mpr (sw_8_5.trans k_5.symm)) ?_
      refine lv_tableIn (off := 85) (tgt := 104) hx hb dX11_man_19 (by decide) (by decide) (by decide) (by decide) ?_
      refine lv_aload_n hx hb dX11_man_104 rfl (lv_at hl 0 rfl) ?_
      refine gf_X11_98 hx hb hts hown hK hP 0 rfl rfl dX11_man_105 ?_
      refine lv_sipush (v := 242) hx hb dX11_man_108 (by decide) ?_
      refine lv_iload_n hx hb dX11_man_111 rfl (lv_at hl 1 rfl) ?_
      refine lv_iadd hx hb dX11_man_112 ?_
      refine lv_topi (fun z_22 ez_22 => ?_)
      have k_242 : (242 : Int32).toInt = 242 := by decide
      have bz_22 : z_22.toInt = (242 : Int32).toInt + vm.toInt := i_add ez_22 (by omega) (by omega)
      have hin_23 : vp_in z_22 575 := vp_in_iff.mpr ⟨by omega, by omega⟩
      refine va_iald hx hb hK hP 1 0 rfl rfl hin_23 dX11_man_113 ?_
      refine lv_topi (fun z_24 ez_24 => ?_)
      rw [hQ9]
      exact re_i (0 : Int32) hx hb hr hlocks trivial (hP.sub [0, 1] rfl) (hD.sub [0, 1] rfl rfl) hS dX11_man_114
    by_cases sw_8_6 : vwt.toInt = 6
    · refine as_i 6 (i_eq.mpr (sw_8_6.trans k_6.symm)) ?_
      refine lv_tableIn (off := 96) (tgt := 115) hx hb dX11_man_19 (by decide) (by decide) (by decide) (by decide) ?_
      refine lv_aload_n hx hb dX11_man_115 rfl (lv_at hl 0 rfl) ?_
      refine lv_iload_n hx hb dX11_man_116 rfl (lv_at hl 1 rfl) ?_
      refine jr_i (rVr (As := [.int vm]) (rest := []) (ci := 12) ⟨hx, hb, hml, hown, hts⟩ (m_owesAll l dC dI cy vnh vo 0 vmt votp vosz volm voto vofr vokd vonu vosg vofa vopl vowd votd vmn vmr vmk vms vma vmm vmrn vmkn vmik vmon vosm vohp vmw vmf vmb vomb vmd vmc vocm voct vocy vmx votx vose vml vmwr voln vohw vmno vond voon vowi votop vmnf vm ⟨by omega, by omega⟩ p_vmnf) (cw_X11_238 hts rfl rfl ⟨Nat.le_of_ble_eq_true rfl, Nat.le_of_ble_eq_true rfl⟩) hP hK [0, 1] rfl rfl rfl rfl hl.1 rfl (Nat.le_of_ble_eq_true rfl) dX11_man_117 ⟨Nat.le_of_ble_eq_true rfl, Nat.le_of_ble_eq_true rfl⟩) hP hS (fun r_25 H locs hp_26 hP hS => ?_)
      rw [hQ9]
      exact re_i (0 : Int32) hx hb hr hlocks trivial (hP.sub [0, 1] rfl) (hD.sub [0, 1] rfl rfl) hS dX11_man_120
    by_cases sw_8_7 : vwt.toInt = 7
    · refine as_i 7 (i_eq.mpr (sw_8_7.trans k_7.symm)) ?_
      refine lv_tableIn (off := 102) (tgt := 121) hx hb dX11_man_19 (by decide) (by decide) (by decide) (by decide) ?_
      refine lv_aload_n hx hb dX11_man_121 rfl (lv_at hl 0 rfl) ?_
      refine gf_X11_98 hx hb hts hown hK hP 0 rfl rfl dX11_man_122 ?_
      refine lv_sipush (v := 298) hx hb dX11_man_125 (by decide) ?_
      refine lv_iload_n hx hb dX11_man_128 rfl (lv_at hl 1 rfl) ?_
      refine lv_iadd hx hb dX11_man_129 ?_
      refine lv_topi (fun z_27 ez_27 => ?_)
      have k_298 : (298 : Int32).toInt = 298 := by decide
      have bz_27 : z_27.toInt = (298 : Int32).toInt + vm.toInt := i_add ez_27 (by omega) (by omega)
      have hin_28 : vp_in z_27 575 := vp_in_iff.mpr ⟨by omega, by omega⟩
      refine va_iald hx hb hK hP 1 0 rfl rfl hin_28 dX11_man_130 ?_
      refine lv_topi (fun z_29 ez_29 => ?_)
      rw [hQ9]
      exact re_i (0 : Int32) hx hb hr hlocks trivial (hP.sub [0, 1] rfl) (hD.sub [0, 1] rfl rfl) hS dX11_man_131
    refine lv_tableOut (tgt := 132) hx hb dX11_man_19 (by omega) (by decide) ?_
    refine lv_aload_n hx hb dX11_man_132 rfl (lv_at hl 0 rfl) ?_
    refine jn_i (wr := [(vmn, .inl (cy 0, 575, .inl vmnf))]) (rV (As := []) (rest := []) (ci := 12) ⟨hx, hb, hml, hown, hts⟩ (m_refuse l dC dI cy _ vo 0 vmt votp vosz volm voto vofr vokd vonu vosg vofa vopl vowd votd vmn vmr vmk vms vma vmm vmrn vmkn vmik vmon vosm vohp vmw vmf vmb vomb vmd vmc vocm voct vocy vmx votx vose vml vmwr voln vohw vmno vond voon vowi votop ) (cw_X11_253 hts rfl rfl ⟨Nat.le_of_ble_eq_true rfl, Nat.le_of_ble_eq_true rfl⟩) hP hD hK [0] rfl rfl rfl rfl bl0 e0 rfl hl.1 rfl (Nat.le_of_ble_eq_true rfl) dX11_man_133 ⟨Nat.le_of_ble_eq_true rfl, Nat.le_of_ble_eq_true rfl⟩) hP hD hS hA [0] [1] rfl rfl rfl (by decide) (fun r_30 u_32 H locs hp_31 hP hD hS => ?_)
    obtain ⟨voth_33, rfl⟩ : ∃ z, z = u_32 := ⟨_, rfl⟩
    have hP : va_P (dC, dI) vwCl [(vmn, .inl (cy 0, 575, .inl vmnf)), (vo, .inr (12, [.int voth_33, .ref vmt, .int votp, .int vosz, .int volm, .int voto, .int vofr, .int vokd, .int vonu, .int vosg, .int vofa, .int vopl, .long vowd, .int votd, .ref vmn, .ref vmr, .ref vmk, .ref vms, .ref vma, .ref vmm, .ref vmrn, .ref vmkn, .ref vmik, .ref vmon, .int vosm, .int vohp, .ref vmw, .ref vmf, .ref vmb, .int vomb, .ref vmd, .ref vmc, .int vocm, .int voct, .int vocy, .ref vmx, .int votx, .int vose, .ref vml, .ref vmwr, .int voln, .int vohw, .ref vmno, .int vond, .int voon, .int vowi, .int votop]))] H := hP
    have hD : va_D A [(vmn, .inl (cy 0, 575, .inl vmnf)), (vo, .inr (12, [.int voth_33, .ref vmt, .int votp, .int vosz, .int volm, .int voto, .int vofr, .int vokd, .int vonu, .int vosg, .int vofa, .int vopl, .long vowd, .int votd, .ref vmn, .ref vmr, .ref vmk, .ref vms, .ref vma, .ref vmm, .ref vmrn, .ref vmkn, .ref vmik, .ref vmon, .int vosm, .int vohp, .ref vmw, .ref vmf, .ref vmb, .int vomb, .ref vmd, .ref vmc, .int vocm, .int voct, .int vocy, .ref vmx, .int votx, .int vose, .ref vml, .ref vmwr, .int voln, .int vohw, .ref vmno, .int vond, .int voon, .int vowi, .int votop]))] := hD
    rw [hQ9]
    exact re_i voth_33 hx hb hr hlocks trivial (hP.sub [1, 0] rfl) (hD.sub [1, 0] rfl rfl) hS dX11_man_136
abbrev cX11_did : ByteArray := prog_13_method_55_code
def yX11_did : MethodName := ⟨RX11, "did", "(II)I"⟩
theorem t1750 : Cond.code yX11_did cX11_did 3 (some .int) ∈ GW := gw_mem 1864 (by decide +kernel) (by decide +kernel)
abbrev O_m_did (cy : Nat → ClassId) (vnh : Nat → Int32) (vo : Nat) (voth : Int32) (vmt : Nat) (votp : Int32) (vosz : Int32) (volm : Int32) (voto : Int32) (vofr : Int32) (vokd : Int32) (vonu : Int32) (vosg : Int32) (vofa : Int32) (vopl : Int32) (vowd : Int64) (votd : Int32) (vmn : Nat) (vmr : Nat) (vmk : Nat) (vms : Nat) (vma : Nat) (vmm : Nat) (vmrn : Nat) (vmkn : Nat) (vmik : Nat) (vmon : Nat) (vosm : Int32) (vohp : Int32) (vmw : Nat) (vmf : Nat) (vmb : Nat) (vomb : Int32) (vmd : Nat) (vmc : Nat) (vocm : Int32) (voct : Int32) (vocy : Int32) (vmx : Nat) (votx : Int32) (vose : Int32) (vml : Nat) (vmwr : Nat) (voln : Int32) (vohw : Int32) (vmno : Nat) (vond : Int32) (voon : Int32) (vowi : Int32) (votop : Int32) (vmnf : Nat → Int32) (vm : Int32) (vd : Int32) (u : Int32) : va_W := [(vo, .inr (12, [.int u, .ref vmt, .int votp, .int vosz, .int volm, .int voto, .int vofr, .int vokd, .int vonu, .int vosg, .int vofa, .int vopl, .long vowd, .int votd, .ref vmn, .ref vmr, .ref vmk, .ref vms, .ref vma, .ref vmm, .ref vmrn, .ref vmkn, .ref vmik, .ref vmon, .int vosm, .int vohp, .ref vmw, .ref vmf, .ref vmb, .int vomb, .ref vmd, .ref vmc, .int vocm, .int voct, .int vocy, .ref vmx, .int votx, .int vose, .ref vml, .ref vmwr, .int voln, .int vohw, .ref vmno, .int vond, .int voon, .int vowi, .int votop])), (vmn, .inl (cy 0, 575, .inl vmnf))]
theorem dX11_did_0 : decode cX11_did 0 = .ok (.aload_n 0, 1) := by decide +kernel
theorem dX11_did_1 : decode cX11_did 1 = .ok (.iconst 0, 1) := by decide +kernel
theorem dX11_did_2 : decode cX11_did 2 = .ok (.putfield 1, 3) := by decide +kernel
theorem dX11_did_5 : decode cX11_did 5 = .ok (.aload_n 0, 1) := by decide +kernel
theorem dX11_did_6 : decode cX11_did 6 = .ok (.iload_n 1, 1) := by decide +kernel
theorem dX11_did_7 : decode cX11_did 7 = .ok (.invokevirtual 250, 3) := by decide +kernel
theorem dX11_did_10 : decode cX11_did 10 = .ok (.ifCond .eq 20, 3) := by decide +kernel
theorem dX11_did_30 : decode cX11_did 30 = .ok (.iconst (-1), 1) := by decide +kernel
theorem dX11_did_31 : decode cX11_did 31 = .ok (.ireturn, 1) := by decide +kernel
theorem dX11_did_13 : decode cX11_did 13 = .ok (.aload_n 0, 1) := by decide +kernel
theorem dX11_did_14 : decode cX11_did 14 = .ok (.iload_n 2, 1) := by decide +kernel
theorem dX11_did_15 : decode cX11_did 15 = .ok (.invokevirtual 259, 3) := by decide +kernel
theorem t1751 : Cond.methodLink RX11 259 yX11_isDeed ∈ GW := gw_mem 1865 (by decide +kernel) (by decide +kernel)
theorem t1753 : Cond.instanceMethod yX11_isDeed ∈ GW := gw_mem 1867 (by decide +kernel) (by decide +kernel)
theorem s72 : Cond.selects RX11 yX11_isDeed yX11_isDeed ∈ GW := gw_mem 72 (by decide +kernel) (by decide +kernel)
theorem cw_X11_259 {R : Room} {s : State} {args : Array Value} {rm : Room} {mc ms : Nat} (hts : ∀ w ∈ GW, w.before args s = true) (hrc : rm.cells = mc) (hrs : rm.slots = ms) (hR : rm.frames + 1 ≤ R.frames ∧ 8 + (2 + 11) + rm.locals ≤ R.locals) : CallW R s args RX11 RX11 259 yX11_isDeed cX11_isDeed 2 (some .boolean) (wl yX11_isDeed cX11_isDeed 2 (some .boolean)) rm mc ms 1 := cwV 1 hts (gi_V t1751 t1753 s72 t18 t1754) rfl hrc hrs (by decide +kernel) hR
theorem dX11_did_18 : decode cX11_did 18 = .ok (.ifCond .eq 12, 3) := by decide +kernel
theorem dX11_did_21 : decode cX11_did 21 = .ok (.aload_n 0, 1) := by decide +kernel
theorem dX11_did_22 : decode cX11_did 22 = .ok (.iload_n 1, 1) := by decide +kernel
theorem dX11_did_23 : decode cX11_did 23 = .ok (.iload_n 2, 1) := by decide +kernel
theorem dX11_did_24 : decode cX11_did 24 = .ok (.invokevirtual 228, 3) := by decide +kernel
theorem dX11_did_27 : decode cX11_did 27 = .ok (.goto 4, 3) := by decide +kernel
set_option maxHeartbeats 4000000 in
set_option maxRecDepth 100000 in
theorem m_did (l : Launch) (dC : Nat → ClassId) (dI : Nat → Nat → Nat) (cy : Nat → ClassId) (sz : Nat) (vnh : Nat → Int32) (vo : Nat) (voth : Int32) (vmt : Nat) (votp : Int32) (vosz : Int32) (volm : Int32) (voto : Int32) (vofr : Int32) (vokd : Int32) (vonu : Int32) (vosg : Int32) (vofa : Int32) (vopl : Int32) (vowd : Int64) (votd : Int32) (vmn : Nat) (vmr : Nat) (vmk : Nat) (vms : Nat) (vma : Nat) (vmm : Nat) (vmrn : Nat) (vmkn : Nat) (vmik : Nat) (vmon : Nat) (vosm : Int32) (vohp : Int32) (vmw : Nat) (vmf : Nat) (vmb : Nat) (vomb : Int32) (vmd : Nat) (vmc : Nat) (vocm : Int32) (voct : Int32) (vocy : Int32) (vmx : Nat) (votx : Int32) (vose : Int32) (vml : Nat) (vmwr : Nat) (voln : Int32) (vohw : Int32) (vmno : Nat) (vond : Int32) (voon : Int32) (vowi : Int32) (votop : Int32) (vmnf : Nat → Int32) (vm : Int32) (vd : Int32) (p_vmnf : NW vnh vmnf) : Met l yX11_did (wl yX11_did cX11_did 3 (some .int)) ({ frames := 2, cells := 0, slots := 0, locals := 128 }) (Pw (dC, dI) vwCl cy [(vo, .inr (12, [.int voth, .ref vmt, .int votp, .int vosz, .int volm, .int voto, .int vofr, .int vokd, .int vonu, .int vosg, .int vofa, .int vopl, .long vowd, .int votd, .ref vmn, .ref vmr, .ref vmk, .ref vms, .ref vma, .ref vmm, .ref vmrn, .ref vmkn, .ref vmik, .ref vmon, .int vosm, .int vohp, .ref vmw, .ref vmf, .ref vmb, .int vomb, .ref vmd, .ref vmc, .int vocm, .int voct, .int vocy, .ref vmx, .int votx, .int vose, .ref vml, .ref vmwr, .int voln, .int vohw, .ref vmno, .int vond, .int voon, .int vowi, .int votop])), (vmn, .inl (cy 0, 575, .inl vmnf))] sz [.ref vo, .int vm, .int vd] nE) (Qi (dC, dI) vwCl (fun (r : Int32) (u : Int32) => True) (O_m_did cy vnh vo voth vmt votp vosz volm voto vofr vokd vonu vosg vofa vopl vowd votd vmn vmr vmk vms vma vmm vmrn vmkn vmik vmon vosm vohp vmw vmf vmb vomb vmd vmc vocm voct vocy vmx votx vose vml vmwr voln vohw vmno vond voon vowi votop vmnf vm vd) (va_A [(vo, .inr (12, [.int voth, .ref vmt, .int votp, .int vosz, .int volm, .int voto, .int vofr, .int vokd, .int vonu, .int vosg, .int vofa, .int vopl, .long vowd, .int votd, .ref vmn, .ref vmr, .ref vmk, .ref vms, .ref vma, .ref vmm, .ref vmrn, .ref vmkn, .ref vmik, .ref vmon, .int vosm, .int vohp, .ref vmw, .ref vmf, .ref vmb, .int vomb, .ref vmd, .ref vmc, .int vocm, .int voct, .int vocy, .ref vmx, .int votx, .int vose, .ref vml, .ref vmwr, .int voln, .int vohw, .ref vmno, .int vond, .int voon, .int vowi, .int votop])), (vmn, .inl (cy 0, 575, .inl vmnf))] sz)) 0 0 (va_A [(vo, .inr (12, [.int voth, .ref vmt, .int votp, .int vosz, .int volm, .int voto, .int vofr, .int vokd, .int vonu, .int vosg, .int vofa, .int vopl, .long vowd, .int votd, .ref vmn, .ref vmr, .ref vmk, .ref vms, .ref vma, .ref vmm, .ref vmrn, .ref vmkn, .ref vmik, .ref vmon, .int vosm, .int vohp, .ref vmw, .ref vmf, .ref vmb, .int vomb, .ref vmd, .ref vmc, .int vocm, .int voct, .int vocy, .ref vmx, .int votx, .int vose, .ref vml, .ref vmwr, .int voln, .int vohw, .ref vmno, .int vond, .int voon, .int vowi, .int votop])), (vmn, .inl (cy 0, 575, .inl vmnf))] sz) := by
  refine mw (Qc := Qi (dC, dI) vwCl (fun (r : Int32) (u : Int32) => True) (O_m_did cy vnh vo voth vmt votp vosz volm voto vofr vokd vonu vosg vofa vopl vowd votd vmn vmr vmk vms vma vmm vmrn vmkn vmik vmon vosm vohp vmw vmf vmb vomb vmd vmc vocm voct vocy vmx votx vose vml vmwr voln vohw vmno vond voon vowi votop vmnf vm vd)) RX11 rfl (by decide +kernel) (Nat.le_of_ble_eq_true rfl) ?_
  intro p e s m below meth c A hx hb hr hlocks av9 hav hts hown hnm hml hK hP hD hA hS hE hAe Q9 hQ9 ls hl
  have hl : lv_has ls 3 [(0, .ref vo), (1, .int vm), (2, .int vd)] := hl
  refine lv_aload_n hx hb dX11_did_0 rfl (lv_at hl 0 rfl) ?_
  refine lv_iconst (v := 0) hx hb dX11_did_1 (by decide) ?_
  refine pf_X11_1 hx hb hts hown hK hP hD hS 0 rfl rfl rfl (Nat.le_of_ble_eq_true rfl) dX11_did_2 (fun H locs hP hD hS => ?_)
  have hP : va_P (dC, dI) vwCl [(vo, .inr (12, [.int 0, .ref vmt, .int votp, .int vosz, .int volm, .int voto, .int vofr, .int vokd, .int vonu, .int vosg, .int vofa, .int vopl, .long vowd, .int votd, .ref vmn, .ref vmr, .ref vmk, .ref vms, .ref vma, .ref vmm, .ref vmrn, .ref vmkn, .ref vmik, .ref vmon, .int vosm, .int vohp, .ref vmw, .ref vmf, .ref vmb, .int vomb, .ref vmd, .ref vmc, .int vocm, .int voct, .int vocy, .ref vmx, .int votx, .int vose, .ref vml, .ref vmwr, .int voln, .int vohw, .ref vmno, .int vond, .int voon, .int vowi, .int votop])), (vmn, .inl (cy 0, 575, .inl vmnf))] H := hP
  have hD : va_D A [(vo, .inr (12, [.int 0, .ref vmt, .int votp, .int vosz, .int volm, .int voto, .int vofr, .int vokd, .int vonu, .int vosg, .int vofa, .int vopl, .long vowd, .int votd, .ref vmn, .ref vmr, .ref vmk, .ref vms, .ref vma, .ref vmm, .ref vmrn, .ref vmkn, .ref vmik, .ref vmon, .int vosm, .int vohp, .ref vmw, .ref vmf, .ref vmb, .int vomb, .ref vmd, .ref vmc, .int vocm, .int voct, .int vocy, .ref vmx, .int votx, .int vose, .ref vml, .ref vmwr, .int voln, .int vohw, .ref vmno, .int vond, .int voon, .int vowi, .int votop])), (vmn, .inl (cy 0, 575, .inl vmnf))] := hD
  refine lv_aload_n hx hb dX11_did_5 rfl (lv_at hl 0 rfl) ?_
  refine lv_iload_n hx hb dX11_did_6 rfl (lv_at hl 1 rfl) ?_
  have k_0 : (0 : Int32).toInt = 0 := by decide
  refine jr_i (rVr (As := [.int vm]) (rest := []) (ci := 12) ⟨hx, hb, hml, hown, hts⟩ (m_isMan l dC dI cy vnh vo 0 vmt votp vosz volm voto vofr vokd vonu vosg vofa vopl vowd votd vmn vmr vmk vms vma vmm vmrn vmkn vmik vmon vosm vohp vmw vmf vmb vomb vmd vmc vocm voct vocy vmx votx vose vml vmwr voln vohw vmno vond voon vowi votop vmnf vm p_vmnf) (cw_X11_250 hts rfl rfl ⟨Nat.le_of_ble_eq_true rfl, Nat.le_of_ble_eq_true rfl⟩) hP hK [0, 1] rfl rfl rfl rfl hl.1 rfl (Nat.le_of_ble_eq_true rfl) dX11_did_7 ⟨Nat.le_of_ble_eq_true rfl, Nat.le_of_ble_eq_true rfl⟩) hP hS (fun r_1 H locs hp_2 hP hS => ?_)
  have hp_2 : ((r_1 = 0 ∧ ((vm : Int32).toInt < 0 ∨ (vmnf 0).toInt ≤ (vm : Int32).toInt)) ∨ (r_1 = 1 ∧ 0 ≤ (vm : Int32).toInt ∧ (vm : Int32).toInt ≤ 6 ∧ (vm : Int32).toInt < (vmnf 0).toInt)) := hp_2
  have q_3 := hp_2
  rcases q_3 with ⟨aq_3, f0q_3⟩ | ⟨aq_3, f0q_3, f1q_3, f2q_3⟩
  · skip
    refine as_i 0 aq_3 ?_
    refine lv_if_eq (tgt := 30) hx hb dX11_did_10 (by decide) (fun _ => ?_) (fun c9 => absurd (by decide) c9)
    refine lv_iconst (v := (-1)) hx hb dX11_did_30 (by decide) ?_
    have k_m1 : ((-1) : Int32).toInt = (-1) := by decide
    rw [hQ9]
    exact re_i (0 : Int32) hx hb hr hlocks trivial (hP.sub [0, 1] rfl) (hD.sub [0, 1] rfl rfl) hS dX11_did_31
  · skip
    refine as_i 1 aq_3 ?_
    refine lv_if_eq (tgt := 30) hx hb dX11_did_10 (by decide) (fun c9 => absurd c9 (by decide)) (fun _ => ?_)
    refine lv_aload_n hx hb dX11_did_13 rfl (lv_at hl 0 rfl) ?_
    refine lv_iload_n hx hb dX11_did_14 rfl (lv_at hl 2 rfl) ?_
    refine jr_i (rVr (As := [.int vd]) (rest := []) (ci := 12) ⟨hx, hb, hml, hown, hts⟩ (m_isDeed l dC dI cy vnh vo 0 vmt votp vosz volm voto vofr vokd vonu vosg vofa vopl vowd votd vmn vmr vmk vms vma vmm vmrn vmkn vmik vmon vosm vohp vmw vmf vmb vomb vmd vmc vocm voct vocy vmx votx vose vml vmwr voln vohw vmno vond voon vowi votop vmnf vd p_vmnf) (cw_X11_259 hts rfl rfl ⟨Nat.le_of_ble_eq_true rfl, Nat.le_of_ble_eq_true rfl⟩) hP hK [0, 1] rfl rfl rfl rfl hl.1 rfl (Nat.le_of_ble_eq_true rfl) dX11_did_15 ⟨Nat.le_of_ble_eq_true rfl, Nat.le_of_ble_eq_true rfl⟩) hP hS (fun r_4 H locs hp_5 hP hS => ?_)
    have hp_5 : ((r_4 = 0) ∨ (r_4 = 1 ∧ 0 ≤ (vd : Int32).toInt ∧ (vd : Int32).toInt ≤ 9)) := hp_5
    have q_6 := hp_5
    rcases q_6 with aq_6 | ⟨aq_6, f0q_6, f1q_6⟩
    · skip
      refine as_i 0 aq_6 ?_
      refine lv_if_eq (tgt := 30) hx hb dX11_did_18 (by decide) (fun _ => ?_) (fun c9 => absurd (by decide) c9)
      refine lv_iconst (v := (-1)) hx hb dX11_did_30 (by decide) ?_
      have k_m1 : ((-1) : Int32).toInt = (-1) := by decide
      rw [hQ9]
      exact re_i (0 : Int32) hx hb hr hlocks trivial (hP.sub [0, 1] rfl) (hD.sub [0, 1] rfl rfl) hS dX11_did_31
    · skip
      refine as_i 1 aq_6 ?_
      refine lv_if_eq (tgt := 30) hx hb dX11_did_18 (by decide) (fun c9 => absurd c9 (by decide)) (fun _ => ?_)
      refine lv_aload_n hx hb dX11_did_21 rfl (lv_at hl 0 rfl) ?_
      refine lv_iload_n hx hb dX11_did_22 rfl (lv_at hl 1 rfl) ?_
      refine lv_iload_n hx hb dX11_did_23 rfl (lv_at hl 2 rfl) ?_
      refine jr_i (rVr (As := [.int vm, .int vd]) (rest := []) (ci := 12) ⟨hx, hb, hml, hown, hts⟩ (m_didOf l dC dI cy vnh vo 0 vmt votp vosz volm voto vofr vokd vonu vosg vofa vopl vowd votd vmn vmr vmk vms vma vmm vmrn vmkn vmik vmon vosm vohp vmw vmf vmb vomb vmd vmc vocm voct vocy vmx votx vose vml vmwr voln vohw vmno vond voon vowi votop vmnf vm vd ⟨by omega, by omega⟩ ⟨by omega, by omega⟩ p_vmnf) (cw_X11_228 hts rfl rfl ⟨Nat.le_of_ble_eq_true rfl, Nat.le_of_ble_eq_true rfl⟩) hP hK [0, 1] rfl rfl rfl rfl hl.1 rfl (Nat.le_of_ble_eq_true rfl) dX11_did_24 ⟨Nat.le_of_ble_eq_true rfl, Nat.le_of_ble_eq_true rfl⟩) hP hS (fun r_7 H locs hp_8 hP hS => ?_)
      refine lv_goto (tgt := 31) hx hb dX11_did_27 (by decide) ?_
      rw [hQ9]
      exact re_i (0 : Int32) hx hb hr hlocks trivial (hP.sub [0, 1] rfl) (hD.sub [0, 1] rfl rfl) hS dX11_did_31
abbrev cX11_deed : ByteArray := prog_13_method_56_code
def yX11_deed : MethodName := ⟨RX11, "deed", "(II)I"⟩
theorem t1758 : Cond.code yX11_deed cX11_deed 5 (some .int) ∈ GW := gw_mem 1872 (by decide +kernel) (by decide +kernel)
abbrev O_m_deed (cy : Nat → ClassId) (vnh : Nat → Int32) (vo : Nat) (voth : Int32) (vmt : Nat) (votp : Int32) (vosz : Int32) (volm : Int32) (voto : Int32) (vofr : Int32) (vokd : Int32) (vonu : Int32) (vosg : Int32) (vofa : Int32) (vopl : Int32) (vowd : Int64) (votd : Int32) (vmn : Nat) (vmr : Nat) (vmk : Nat) (vms : Nat) (vma : Nat) (vmm : Nat) (vmrn : Nat) (vmkn : Nat) (vmik : Nat) (vmon : Nat) (vosm : Int32) (vohp : Int32) (vmw : Nat) (vmf : Nat) (vmb : Nat) (vomb : Int32) (vmd : Nat) (vmc : Nat) (vocm : Int32) (voct : Int32) (vocy : Int32) (vmx : Nat) (votx : Int32) (vose : Int32) (vml : Nat) (vmwr : Nat) (voln : Int32) (vohw : Int32) (vmno : Nat) (vond : Int32) (voon : Int32) (vowi : Int32) (votop : Int32) (vmnf : Nat → Int32) (vd : Int32) (vwt : Int32) (u : Int32) : va_W := [(vo, .inr (12, [.int u, .ref vmt, .int votp, .int vosz, .int volm, .int voto, .int vofr, .int vokd, .int vonu, .int vosg, .int vofa, .int vopl, .long vowd, .int votd, .ref vmn, .ref vmr, .ref vmk, .ref vms, .ref vma, .ref vmm, .ref vmrn, .ref vmkn, .ref vmik, .ref vmon, .int vosm, .int vohp, .ref vmw, .ref vmf, .ref vmb, .int vomb, .ref vmd, .ref vmc, .int vocm, .int voct, .int vocy, .ref vmx, .int votx, .int vose, .ref vml, .ref vmwr, .int voln, .int vohw, .ref vmno, .int vond, .int voon, .int vowi, .int votop])), (vmn, .inl (cy 0, 575, .inl vmnf))]
theorem dX11_deed_0 : decode cX11_deed 0 = .ok (.aload_n 0, 1) := by decide +kernel
theorem dX11_deed_1 : decode cX11_deed 1 = .ok (.iconst 0, 1) := by decide +kernel
theorem dX11_deed_2 : decode cX11_deed 2 = .ok (.putfield 1, 3) := by decide +kernel
theorem dX11_deed_5 : decode cX11_deed 5 = .ok (.aload_n 0, 1) := by decide +kernel
theorem dX11_deed_6 : decode cX11_deed 6 = .ok (.iload_n 1, 1) := by decide +kernel
theorem dX11_deed_7 : decode cX11_deed 7 = .ok (.invokevirtual 259, 3) := by decide +kernel
theorem dX11_deed_10 : decode cX11_deed 10 = .ok (.ifCond .ne 5, 3) := by decide +kernel
theorem dX11_deed_13 : decode cX11_deed 13 = .ok (.iconst (-1), 1) := by decide +kernel
theorem dX11_deed_14 : decode cX11_deed 14 = .ok (.ireturn, 1) := by decide +kernel
theorem dX11_deed_15 : decode cX11_deed 15 = .ok (.iconst 0, 1) := by decide +kernel
theorem dX11_deed_16 : decode cX11_deed 16 = .ok (.istore_n 3, 1) := by decide +kernel
theorem dX11_deed_17 : decode cX11_deed 17 = .ok (.iconst 0, 1) := by decide +kernel
theorem dX11_deed_18 : decode cX11_deed 18 = .ok (.istore 4, 2) := by decide +kernel
theorem dX11_deed_20 : decode cX11_deed 20 = .ok (.iload 4, 2) := by decide +kernel
theorem dX11_deed_22 : decode cX11_deed 22 = .ok (.aload_n 0, 1) := by decide +kernel
theorem dX11_deed_23 : decode cX11_deed 23 = .ok (.getfield 98, 3) := by decide +kernel
theorem dX11_deed_26 : decode cX11_deed 26 = .ok (.iconst 0, 1) := by decide +kernel
theorem dX11_deed_27 : decode cX11_deed 27 = .ok (.iaload, 1) := by decide +kernel
theorem dX11_deed_28 : decode cX11_deed 28 = .ok (.if_icmp .ge 19, 3) := by decide +kernel
theorem dX11_deed_47 : decode cX11_deed 47 = .ok (.iload_n 2, 1) := by decide +kernel
theorem dX11_deed_48 : decode cX11_deed 48 = .ok (.ifCond .ne 15, 3) := by decide +kernel
theorem dX11_deed_63 : decode cX11_deed 63 = .ok (.iload_n 2, 1) := by decide +kernel
theorem dX11_deed_64 : decode cX11_deed 64 = .ok (.iconst 1, 1) := by decide +kernel
theorem dX11_deed_65 : decode cX11_deed 65 = .ok (.if_icmp .ne 15, 3) := by decide +kernel
theorem dX11_deed_80 : decode cX11_deed 80 = .ok (.iload_n 2, 1) := by decide +kernel
theorem dX11_deed_81 : decode cX11_deed 81 = .ok (.iconst 2, 1) := by decide +kernel
theorem dX11_deed_82 : decode cX11_deed 82 = .ok (.if_icmp .ne 7, 3) := by decide +kernel
theorem dX11_deed_89 : decode cX11_deed 89 = .ok (.iconst (-1), 1) := by decide +kernel
theorem dX11_deed_90 : decode cX11_deed 90 = .ok (.ireturn, 1) := by decide +kernel
theorem dX11_deed_85 : decode cX11_deed 85 = .ok (.iload_n 3, 1) := by decide +kernel
theorem dX11_deed_86 : decode cX11_deed 86 = .ok (.goto 4, 3) := by decide +kernel
theorem dX11_deed_68 : decode cX11_deed 68 = .ok (.aload_n 0, 1) := by decide +kernel
theorem dX11_deed_69 : decode cX11_deed 69 = .ok (.getfield 98, 3) := by decide +kernel
theorem dX11_deed_72 : decode cX11_deed 72 = .ok (.bipush 21, 2) := by decide +kernel
theorem dX11_deed_74 : decode cX11_deed 74 = .ok (.iload_n 1, 1) := by decide +kernel
theorem dX11_deed_75 : decode cX11_deed 75 = .ok (.iadd, 1) := by decide +kernel
theorem dX11_deed_76 : decode cX11_deed 76 = .ok (.iaload, 1) := by decide +kernel
theorem dX11_deed_77 : decode cX11_deed 77 = .ok (.goto 13, 3) := by decide +kernel
theorem dX11_deed_51 : decode cX11_deed 51 = .ok (.aload_n 0, 1) := by decide +kernel
theorem dX11_deed_52 : decode cX11_deed 52 = .ok (.getfield 98, 3) := by decide +kernel
theorem dX11_deed_55 : decode cX11_deed 55 = .ok (.bipush 11, 2) := by decide +kernel
theorem dX11_deed_57 : decode cX11_deed 57 = .ok (.iload_n 1, 1) := by decide +kernel
theorem dX11_deed_58 : decode cX11_deed 58 = .ok (.iadd, 1) := by decide +kernel
theorem dX11_deed_59 : decode cX11_deed 59 = .ok (.iaload, 1) := by decide +kernel
theorem dX11_deed_60 : decode cX11_deed 60 = .ok (.goto 30, 3) := by decide +kernel
theorem dX11_deed_31 : decode cX11_deed 31 = .ok (.iload_n 3, 1) := by decide +kernel
theorem dX11_deed_32 : decode cX11_deed 32 = .ok (.aload_n 0, 1) := by decide +kernel
theorem dX11_deed_33 : decode cX11_deed 33 = .ok (.iload 4, 2) := by decide +kernel
theorem dX11_deed_35 : decode cX11_deed 35 = .ok (.iload_n 1, 1) := by decide +kernel
theorem dX11_deed_36 : decode cX11_deed 36 = .ok (.invokevirtual 228, 3) := by decide +kernel
theorem dX11_deed_39 : decode cX11_deed 39 = .ok (.iadd, 1) := by decide +kernel
theorem dX11_deed_40 : decode cX11_deed 40 = .ok (.istore_n 3, 1) := by decide +kernel
theorem dX11_deed_41 : decode cX11_deed 41 = .ok (.iinc 4 1, 3) := by decide +kernel
theorem dX11_deed_44 : decode cX11_deed 44 = .ok (.goto (-24), 3) := by decide +kernel
set_option maxHeartbeats 4000000 in
set_option maxRecDepth 100000 in
theorem m_deed (l : Launch) (dC : Nat → ClassId) (dI : Nat → Nat → Nat) (cy : Nat → ClassId) (sz : Nat) (vnh : Nat → Int32) (vo : Nat) (voth : Int32) (vmt : Nat) (votp : Int32) (vosz : Int32) (volm : Int32) (voto : Int32) (vofr : Int32) (vokd : Int32) (vonu : Int32) (vosg : Int32) (vofa : Int32) (vopl : Int32) (vowd : Int64) (votd : Int32) (vmn : Nat) (vmr : Nat) (vmk : Nat) (vms : Nat) (vma : Nat) (vmm : Nat) (vmrn : Nat) (vmkn : Nat) (vmik : Nat) (vmon : Nat) (vosm : Int32) (vohp : Int32) (vmw : Nat) (vmf : Nat) (vmb : Nat) (vomb : Int32) (vmd : Nat) (vmc : Nat) (vocm : Int32) (voct : Int32) (vocy : Int32) (vmx : Nat) (votx : Int32) (vose : Int32) (vml : Nat) (vmwr : Nat) (voln : Int32) (vohw : Int32) (vmno : Nat) (vond : Int32) (voon : Int32) (vowi : Int32) (votop : Int32) (vmnf : Nat → Int32) (vd : Int32) (vwt : Int32) (p_vmnf : NW vnh vmnf) : Met l yX11_deed (wl yX11_deed cX11_deed 5 (some .int)) ({ frames := 2, cells := 0, slots := 0, locals := 128 }) (Pw (dC, dI) vwCl cy [(vo, .inr (12, [.int voth, .ref vmt, .int votp, .int vosz, .int volm, .int voto, .int vofr, .int vokd, .int vonu, .int vosg, .int vofa, .int vopl, .long vowd, .int votd, .ref vmn, .ref vmr, .ref vmk, .ref vms, .ref vma, .ref vmm, .ref vmrn, .ref vmkn, .ref vmik, .ref vmon, .int vosm, .int vohp, .ref vmw, .ref vmf, .ref vmb, .int vomb, .ref vmd, .ref vmc, .int vocm, .int voct, .int vocy, .ref vmx, .int votx, .int vose, .ref vml, .ref vmwr, .int voln, .int vohw, .ref vmno, .int vond, .int voon, .int vowi, .int votop])), (vmn, .inl (cy 0, 575, .inl vmnf))] sz [.ref vo, .int vd, .int vwt] nE) (Qi (dC, dI) vwCl (fun (r : Int32) (u : Int32) => True) (O_m_deed cy vnh vo voth vmt votp vosz volm voto vofr vokd vonu vosg vofa vopl vowd votd vmn vmr vmk vms vma vmm vmrn vmkn vmik vmon vosm vohp vmw vmf vmb vomb vmd vmc vocm voct vocy vmx votx vose vml vmwr voln vohw vmno vond voon vowi votop vmnf vd vwt) (va_A [(vo, .inr (12, [.int voth, .ref vmt, .int votp, .int vosz, .int volm, .int voto, .int vofr, .int vokd, .int vonu, .int vosg, .int vofa, .int vopl, .long vowd, .int votd, .ref vmn, .ref vmr, .ref vmk, .ref vms, .ref vma, .ref vmm, .ref vmrn, .ref vmkn, .ref vmik, .ref vmon, .int vosm, .int vohp, .ref vmw, .ref vmf, .ref vmb, .int vomb, .ref vmd, .ref vmc, .int vocm, .int voct, .int vocy, .ref vmx, .int votx, .int vose, .ref vml, .ref vmwr, .int voln, .int vohw, .ref vmno, .int vond, .int voon, .int vowi, .int votop])), (vmn, .inl (cy 0, 575, .inl vmnf))] sz)) 0 0 (va_A [(vo, .inr (12, [.int voth, .ref vmt, .int votp, .int vosz, .int volm, .int voto, .int vofr, .int vokd, .int vonu, .int vosg, .int vofa, .int vopl, .long vowd, .int votd, .ref vmn, .ref vmr, .ref vmk, .ref vms, .ref vma, .ref vmm, .ref vmrn, .ref vmkn, .ref vmik, .ref vmon, .int vosm, .int vohp, .ref vmw, .ref vmf, .ref vmb, .int vomb, .ref vmd, .ref vmc, .int vocm, .int voct, .int vocy, .ref vmx, .int votx, .int vose, .ref vml, .ref vmwr, .int voln, .int vohw, .ref vmno, .int vond, .int voon, .int vowi, .int votop])), (vmn, .inl (cy 0, 575, .inl vmnf))] sz) := by
  refine mw (Qc := Qi (dC, dI) vwCl (fun (r : Int32) (u : Int32) => True) (O_m_deed cy vnh vo voth vmt votp vosz volm voto vofr vokd vonu vosg vofa vopl vowd votd vmn vmr vmk vms vma vmm vmrn vmkn vmik vmon vosm vohp vmw vmf vmb vomb vmd vmc vocm voct vocy vmx votx vose vml vmwr voln vohw vmno vond voon vowi votop vmnf vd vwt)) RX11 rfl (by decide +kernel) (Nat.le_of_ble_eq_true rfl) ?_
  intro p e s m below meth c A hx hb hr hlocks av9 hav hts hown hnm hml hK hP hD hA hS hE hAe Q9 hQ9 ls hl
  have hl : lv_has ls 5 [(0, .ref vo), (1, .int vd), (2, .int vwt)] := hl
  refine lv_aload_n hx hb dX11_deed_0 rfl (lv_at hl 0 rfl) ?_
  refine lv_iconst (v := 0) hx hb dX11_deed_1 (by decide) ?_
  refine pf_X11_1 hx hb hts hown hK hP hD hS 0 rfl rfl rfl (Nat.le_of_ble_eq_true rfl) dX11_deed_2 (fun H locs hP hD hS => ?_)
  have hP : va_P (dC, dI) vwCl [(vo, .inr (12, [.int 0, .ref vmt, .int votp, .int vosz, .int volm, .int voto, .int vofr, .int vokd, .int vonu, .int vosg, .int vofa, .int vopl, .long vowd, .int votd, .ref vmn, .ref vmr, .ref vmk, .ref vms, .ref vma, .ref vmm, .ref vmrn, .ref vmkn, .ref vmik, .ref vmon, .int vosm, .int vohp, .ref vmw, .ref vmf, .ref vmb, .int vomb, .ref vmd, .ref vmc, .int vocm, .int voct, .int vocy, .ref vmx, .int votx, .int vose, .ref vml, .ref vmwr, .int voln, .int vohw, .ref vmno, .int vond, .int voon, .int vowi, .int votop])), (vmn, .inl (cy 0, 575, .inl vmnf))] H := hP
  have hD : va_D A [(vo, .inr (12, [.int 0, .ref vmt, .int votp, .int vosz, .int volm, .int voto, .int vofr, .int vokd, .int vonu, .int vosg, .int vofa, .int vopl, .long vowd, .int votd, .ref vmn, .ref vmr, .ref vmk, .ref vms, .ref vma, .ref vmm, .ref vmrn, .ref vmkn, .ref vmik, .ref vmon, .int vosm, .int vohp, .ref vmw, .ref vmf, .ref vmb, .int vomb, .ref vmd, .ref vmc, .int vocm, .int voct, .int vocy, .ref vmx, .int votx, .int vose, .ref vml, .ref vmwr, .int voln, .int vohw, .ref vmno, .int vond, .int voon, .int vowi, .int votop])), (vmn, .inl (cy 0, 575, .inl vmnf))] := hD
  refine lv_aload_n hx hb dX11_deed_5 rfl (lv_at hl 0 rfl) ?_
  refine lv_iload_n hx hb dX11_deed_6 rfl (lv_at hl 1 rfl) ?_
  have k_0 : (0 : Int32).toInt = 0 := by decide
  refine jr_i (rVr (As := [.int vd]) (rest := []) (ci := 12) ⟨hx, hb, hml, hown, hts⟩ (m_isDeed l dC dI cy vnh vo 0 vmt votp vosz volm voto vofr vokd vonu vosg vofa vopl vowd votd vmn vmr vmk vms vma vmm vmrn vmkn vmik vmon vosm vohp vmw vmf vmb vomb vmd vmc vocm voct vocy vmx votx vose vml vmwr voln vohw vmno vond voon vowi votop vmnf vd p_vmnf) (cw_X11_259 hts rfl rfl ⟨Nat.le_of_ble_eq_true rfl, Nat.le_of_ble_eq_true rfl⟩) hP hK [0, 1] rfl rfl rfl rfl hl.1 rfl (Nat.le_of_ble_eq_true rfl) dX11_deed_7 ⟨Nat.le_of_ble_eq_true rfl, Nat.le_of_ble_eq_true rfl⟩) hP hS (fun r_1 H locs hp_2 hP hS => ?_)
  have hp_2 : ((r_1 = 0) ∨ (r_1 = 1 ∧ 0 ≤ (vd : Int32).toInt ∧ (vd : Int32).toInt ≤ 9)) := hp_2
  have q_3 := hp_2
  rcases q_3 with aq_3 | ⟨aq_3, f0q_3, f1q_3⟩
  · skip
    refine as_i 0 aq_3 ?_
    refine lv_if_ne (tgt := 15) hx hb dX11_deed_10 (by decide) (fun c9 => absurd c9 (by decide)) (fun _ => ?_)
    refine lv_iconst (v := (-1)) hx hb dX11_deed_13 (by decide) ?_
    have k_m1 : ((-1) : Int32).toInt = (-1) := by decide
    rw [hQ9]
    exact re_i (0 : Int32) hx hb hr hlocks trivial (hP.sub [0, 1] rfl) (hD.sub [0, 1] rfl rfl) hS dX11_deed_14
  · skip
    refine as_i 1 aq_3 ?_
    refine lv_if_ne (tgt := 15) hx hb dX11_deed_10 (by decide) (fun _ => ?_) (fun c9 => absurd c9 (by decide))
    refine lv_iconst (v := 0) hx hb dX11_deed_15 (by decide) ?_
    refine lv_istore_n (lv' := [(3, .int 0), (0, .ref vo), (1, .int vd), (2, .int vwt)]) hx hb dX11_deed_16 rfl hl (by decide) rfl (fun ls hl => ?_)
    refine lv_iconst (v := 0) hx hb dX11_deed_17 (by decide) ?_
    refine lv_istore (lv' := [(4, .int 0), (3, .int 0), (0, .ref vo), (1, .int vd), (2, .int vwt)]) hx hb dX11_deed_18 hl (by decide) rfl (fun ls hl => ?_)
    have loop4 : ∀ (n4 : Nat) (x_6 : Int32) (x_5 : Int32), (0 ≤ x_5.toInt ∧ x_5.toInt ≤ 7) → 7 - x_5.toInt < (n4 : Int) → ∀ (H : Heap) (locs : List Loc), va_P (dC, dI) vwCl [(vo, .inr (12, [.int 0, .ref vmt, .int votp, .int vosz, .int volm, .int voto, .int vofr, .int vokd, .int vonu, .int vosg, .int vofa, .int vopl, .long vowd, .int votd, .ref vmn, .ref vmr, .ref vmk, .ref vms, .ref vma, .ref vmm, .ref vmrn, .ref vmkn, .ref vmik, .ref vmon, .int vosm, .int vohp, .ref vmw, .ref vmf, .ref vmb, .int vomb, .ref vmd, .ref vmc, .int vocm, .int voct, .int vocy, .ref vmx, .int votx, .int vose, .ref vml, .ref vmwr, .int voln, .int vohw, .ref vmno, .int vond, .int voon, .int vowi, .int votop])), (vmn, .inl (cy 0, 575, .inl vmnf))] H → va_D A [(vo, .inr (12, [.int 0, .ref vmt, .int votp, .int vosz, .int volm, .int voto, .int vofr, .int vokd, .int vonu, .int vosg, .int vofa, .int vopl, .long vowd, .int votd, .ref vmn, .ref vmr, .ref vmk, .ref vms, .ref vma, .ref vmm, .ref vmrn, .ref vmkn, .ref vmik, .ref vmon, .int vosm, .int vohp, .ref vmw, .ref vmf, .ref vmb, .int vomb, .ref vmd, .ref vmc, .int vocm, .int voct, .int vocy, .ref vmx, .int votx, .int vose, .ref vml, .ref vmwr, .int voln, .int vohw, .ref vmno, .int vond, .int voon, .int vowi, .int votop])), (vmn, .inl (cy 0, 575, .inl vmnf))] → va_S A s.heap H locs → ∀ ls : Array Slot, lv_has ls 5 [(4, .int x_5), (3, .int x_6), (0, .ref vo), (1, .int vd), (2, .int vwt)] → W p l e ({ frames := 2, cells := 0, slots := 0, locals := 128 }) s m av9 below meth c H locs 0 0 Q9 (F0 m 20 ls []) := by
      intro n4
      induction n4 with
      | zero =>
        intro x_6 x_5 bx_5 hn4 H locs hP hD hS ls hl
        exfalso; omega
      | succ n4 ih4 =>
        intro x_6 x_5 bx_5 hn4 H locs hP hD hS ls hl
        refine lv_iload hx hb dX11_deed_20 (lv_at hl 0 rfl) ?_
        refine lv_aload_n hx hb dX11_deed_22 rfl (lv_at hl 2 rfl) ?_
        refine gf_X11_98 hx hb hts hown hK hP 0 rfl rfl dX11_deed_23 ?_
        refine lv_iconst (v := 0) hx hb dX11_deed_26 (by decide) ?_
        have hin_7 : vp_in (0 : Int32) 575 := vp_in_iff.mpr ⟨by omega, by omega⟩
        refine va_iald hx hb hK hP 1 0 rfl rfl hin_7 dX11_deed_27 ?_
        refine lv_topi (fun z_8 ez_8 => ?_)
        have bz_8 := p_vmnf.a0 (x := 0) ⟨by omega, by omega⟩ ez_8
        have tz_8 : z_8.toInt = (vmnf 0).toInt := by rw [ez_8]; rfl
        refine lv_icmp_ge (tgt := 47) hx hb dX11_deed_28 (by decide) (fun c_9 => ?_) (fun c_9 => ?_)
        · skip
          have c_9 : z_8.toInt ≤ x_5.toInt := i_le.mp c_9
          refine lv_iload_n hx hb dX11_deed_47 rfl (lv_at hl 4 rfl) ?_
          refine lv_if_ne (tgt := 63) hx hb dX11_deed_48 (by decide) (fun c_10 => ?_) (fun c_10 => ?_)
          · skip
            have c_10 : ¬ (vwt.toInt = (0 : Int32).toInt) := fun h9 => c_10 (i_eq.mpr h9)
            refine lv_iload_n hx hb dX11_deed_63 rfl (lv_at hl 4 rfl) ?_
            refine lv_iconst (v := 1) hx hb dX11_deed_64 (by decide) ?_
            have k_1 : (1 : Int32).toInt = 1 := by decide
            refine lv_icmp_ne (tgt := 80) hx hb dX11_deed_65 (by decide) (fun c_11 => ?_) (fun c_11 => ?_)
            · skip
              have c_11 : ¬ (vwt.toInt = (1 : Int32).toInt) := fun h9 => c_11 (i_eq.mpr h9)
              refine lv_iload_n hx hb dX11_deed_80 rfl (lv_at hl 4 rfl) ?_
              refine lv_iconst (v := 2) hx hb dX11_deed_81 (by decide) ?_
              have k_2 : (2 : Int32).toInt = 2 := by decide
              refine lv_icmp_ne (tgt := 89) hx hb dX11_deed_82 (by decide) (fun c_12 => ?_) (fun c_12 => ?_)
              · skip
                have c_12 : ¬ (vwt.toInt = (2 : Int32).toInt) := fun h9 => c_12 (i_eq.mpr h9)
                refine lv_iconst (v := (-1)) hx hb dX11_deed_89 (by decide) ?_
                have k_m1 : ((-1) : Int32).toInt = (-1) := by decide
                rw [hQ9]
                exact re_i (0 : Int32) hx hb hr hlocks trivial (hP.sub [0, 1] rfl) (hD.sub [0, 1] rfl rfl) hS dX11_deed_90
              · skip
                have c_12 : vwt.toInt = (2 : Int32).toInt := i_eq.mp c_12
                refine lv_iload_n hx hb dX11_deed_85 rfl (lv_at hl 1 rfl) ?_
                refine lv_goto (tgt := 90) hx hb dX11_deed_86 (by decide) ?_
                rw [hQ9]
                exact re_i (0 : Int32) hx hb hr hlocks trivial (hP.sub [0, 1] rfl) (hD.sub [0, 1] rfl rfl) hS dX11_deed_90
            · skip
              have c_11 : vwt.toInt = (1 : Int32).toInt := i_eq.mp c_11
              refine lv_aload_n hx hb dX11_deed_68 rfl (lv_at hl 2 rfl) ?_
              refine gf_X11_98 hx hb hts hown hK hP 0 rfl rfl dX11_deed_69 ?_
              refine lv_bipush (v := 21) hx hb dX11_deed_72 (by decide) ?_
              refine lv_iload_n hx hb dX11_deed_74 rfl (lv_at hl 3 rfl) ?_
              refine lv_iadd hx hb dX11_deed_75 ?_
              refine lv_topi (fun z_13 ez_13 => ?_)
              have k_21 : (21 : Int32).toInt = 21 := by decide
              have bz_13 : z_13.toInt = (21 : Int32).toInt + vd.toInt := i_add ez_13 (by omega) (by omega)
              have hin_14 : vp_in z_13 575 := vp_in_iff.mpr ⟨by omega, by omega⟩
              refine va_iald hx hb hK hP 1 0 rfl rfl hin_14 dX11_deed_76 ?_
              refine lv_topi (fun z_15 ez_15 => ?_)
              refine lv_goto (tgt := 90) hx hb dX11_deed_77 (by decide) ?_
              rw [hQ9]
              exact re_i (0 : Int32) hx hb hr hlocks trivial (hP.sub [0, 1] rfl) (hD.sub [0, 1] rfl rfl) hS dX11_deed_90
          · skip
            have c_10 : vwt.toInt = (0 : Int32).toInt := i_eq.mp c_10
            refine lv_aload_n hx hb dX11_deed_51 rfl (lv_at hl 2 rfl) ?_
            refine gf_X11_98 hx hb hts hown hK hP 0 rfl rfl dX11_deed_52 ?_
            refine lv_bipush (v := 11) hx hb dX11_deed_55 (by decide) ?_
            refine lv_iload_n hx hb dX11_deed_57 rfl (lv_at hl 3 rfl) ?_
            refine lv_iadd hx hb dX11_deed_58 ?_
            refine lv_topi (fun z_16 ez_16 => ?_)
            have k_11 : (11 : Int32).toInt = 11 := by decide
            have bz_16 : z_16.toInt = (11 : Int32).toInt + vd.toInt := i_add ez_16 (by omega) (by omega)
            have hin_17 : vp_in z_16 575 := vp_in_iff.mpr ⟨by omega, by omega⟩
            refine va_iald hx hb hK hP 1 0 rfl rfl hin_17 dX11_deed_59 ?_
            refine lv_topi (fun z_18 ez_18 => ?_)
            have bz_18 := p_vmnf.aw (x := z_16) ⟨by omega, by omega⟩ ez_18
            refine lv_goto (tgt := 90) hx hb dX11_deed_60 (by decide) ?_
            rw [hQ9]
            exact re_i (0 : Int32) hx hb hr hlocks trivial (hP.sub [0, 1] rfl) (hD.sub [0, 1] rfl rfl) hS dX11_deed_90
        · skip
          have c_9 : ¬ (z_8.toInt ≤ x_5.toInt) := fun h9 => c_9 (i_le.mpr h9)
          refine lv_iload_n hx hb dX11_deed_31 rfl (lv_at hl 1 rfl) ?_
          refine lv_aload_n hx hb dX11_deed_32 rfl (lv_at hl 2 rfl) ?_
          refine lv_iload hx hb dX11_deed_33 (lv_at hl 0 rfl) ?_
          refine lv_iload_n hx hb dX11_deed_35 rfl (lv_at hl 3 rfl) ?_
          refine jr_i (rVr (As := [.int x_5, .int vd]) (rest := [.int x_6]) (ci := 12) ⟨hx, hb, hml, hown, hts⟩ (m_didOf l dC dI cy vnh vo 0 vmt votp vosz volm voto vofr vokd vonu vosg vofa vopl vowd votd vmn vmr vmk vms vma vmm vmrn vmkn vmik vmon vosm vohp vmw vmf vmb vomb vmd vmc vocm voct vocy vmx votx vose vml vmwr voln vohw vmno vond voon vowi votop vmnf x_5 vd ⟨by omega, by omega⟩ ⟨by omega, by omega⟩ p_vmnf) (cw_X11_228 hts rfl rfl ⟨Nat.le_of_ble_eq_true rfl, Nat.le_of_ble_eq_true rfl⟩) hP hK [0, 1] rfl rfl rfl rfl hl.1 rfl (Nat.le_of_ble_eq_true rfl) dX11_deed_36 ⟨Nat.le_of_ble_eq_true rfl, Nat.le_of_ble_eq_true rfl⟩) hP hS (fun r_19 H locs hp_20 hP hS => ?_)
          refine lv_iadd hx hb dX11_deed_39 ?_
          refine lv_topi (fun z_21 ez_21 => ?_)
          refine lv_istore_n (lv' := [(3, .int z_21), (4, .int x_5), (0, .ref vo), (1, .int vd), (2, .int vwt)]) hx hb dX11_deed_40 rfl hl (by decide) rfl (fun ls hl => ?_)
          obtain ⟨z_22, ez_22⟩ : ∃ z : Int32, z = x_5 + 1 := ⟨_, rfl⟩
          have k_1 : (1 : Int32).toInt = 1 := by decide
          have bz_22 : z_22.toInt = x_5.toInt + (1 : Int32).toInt := i_add ez_22 (by omega) (by omega)
          refine lv_iinc (v := z_22) (lv' := [(4, .int z_22), (3, .int z_21), (0, .ref vo), (1, .int vd), (2, .int vwt)]) hx hb dX11_deed_41 hl (k := 1) rfl ez_22.symm (by decide) rfl (fun ls hl => ?_)
          refine lv_goto (tgt := 20) hx hb dX11_deed_44 (by decide) ?_
          exact ih4 z_21 z_22 ⟨by omega, by omega⟩ (by omega) _ _ (hP.sub [0, 1] rfl) (hD.sub [0, 1] rfl rfl) hS ls (lv_sub hl [0, 1, 2, 3, 4] rfl)
    exact loop4 ((7 - (0 : Int32).toInt).toNat + 1) 0 0 ⟨by omega, by omega⟩ (by omega) _ _ hP hD hS ls (lv_sub hl [0, 1, 2, 3, 4] rfl)
abbrev cX11_owes : ByteArray := prog_13_method_57_code
def yX11_owes : MethodName := ⟨RX11, "owes", "(II)I"⟩
theorem t1762 : Cond.code yX11_owes cX11_owes 3 (some .int) ∈ GW := gw_mem 1876 (by decide +kernel) (by decide +kernel)
abbrev O_m_owes (cy : Nat → ClassId) (vnh : Nat → Int32) (vo : Nat) (voth : Int32) (vmt : Nat) (votp : Int32) (vosz : Int32) (volm : Int32) (voto : Int32) (vofr : Int32) (vokd : Int32) (vonu : Int32) (vosg : Int32) (vofa : Int32) (vopl : Int32) (vowd : Int64) (votd : Int32) (vmn : Nat) (vmr : Nat) (vmk : Nat) (vms : Nat) (vma : Nat) (vmm : Nat) (vmrn : Nat) (vmkn : Nat) (vmik : Nat) (vmon : Nat) (vosm : Int32) (vohp : Int32) (vmw : Nat) (vmf : Nat) (vmb : Nat) (vomb : Int32) (vmd : Nat) (vmc : Nat) (vocm : Int32) (voct : Int32) (vocy : Int32) (vmx : Nat) (votx : Int32) (vose : Int32) (vml : Nat) (vmwr : Nat) (voln : Int32) (vohw : Int32) (vmno : Nat) (vond : Int32) (voon : Int32) (vowi : Int32) (votop : Int32) (vmnf : Nat → Int32) (vm : Int32) (vk : Int32) (u : Int32) : va_W := [(vo, .inr (12, [.int u, .ref vmt, .int votp, .int vosz, .int volm, .int voto, .int vofr, .int vokd, .int vonu, .int vosg, .int vofa, .int vopl, .long vowd, .int votd, .ref vmn, .ref vmr, .ref vmk, .ref vms, .ref vma, .ref vmm, .ref vmrn, .ref vmkn, .ref vmik, .ref vmon, .int vosm, .int vohp, .ref vmw, .ref vmf, .ref vmb, .int vomb, .ref vmd, .ref vmc, .int vocm, .int voct, .int vocy, .ref vmx, .int votx, .int vose, .ref vml, .ref vmwr, .int voln, .int vohw, .ref vmno, .int vond, .int voon, .int vowi, .int votop])), (vmn, .inl (cy 0, 575, .inl vmnf))]
theorem dX11_owes_0 : decode cX11_owes 0 = .ok (.aload_n 0, 1) := by decide +kernel
theorem dX11_owes_1 : decode cX11_owes 1 = .ok (.iconst 0, 1) := by decide +kernel
theorem dX11_owes_2 : decode cX11_owes 2 = .ok (.putfield 1, 3) := by decide +kernel
theorem dX11_owes_5 : decode cX11_owes 5 = .ok (.aload_n 0, 1) := by decide +kernel
theorem dX11_owes_6 : decode cX11_owes 6 = .ok (.iload_n 1, 1) := by decide +kernel
theorem dX11_owes_7 : decode cX11_owes 7 = .ok (.invokevirtual 250, 3) := by decide +kernel
theorem dX11_owes_10 : decode cX11_owes 10 = .ok (.ifCond .eq 20, 3) := by decide +kernel
theorem dX11_owes_30 : decode cX11_owes 30 = .ok (.iconst (-1), 1) := by decide +kernel
theorem dX11_owes_31 : decode cX11_owes 31 = .ok (.ireturn, 1) := by decide +kernel
theorem dX11_owes_13 : decode cX11_owes 13 = .ok (.aload_n 0, 1) := by decide +kernel
theorem dX11_owes_14 : decode cX11_owes 14 = .ok (.iload_n 2, 1) := by decide +kernel
theorem dX11_owes_15 : decode cX11_owes 15 = .ok (.invokevirtual 250, 3) := by decide +kernel
theorem dX11_owes_18 : decode cX11_owes 18 = .ok (.ifCond .eq 12, 3) := by decide +kernel
theorem dX11_owes_21 : decode cX11_owes 21 = .ok (.aload_n 0, 1) := by decide +kernel
theorem dX11_owes_22 : decode cX11_owes 22 = .ok (.iload_n 1, 1) := by decide +kernel
theorem dX11_owes_23 : decode cX11_owes 23 = .ok (.iload_n 2, 1) := by decide +kernel
theorem dX11_owes_24 : decode cX11_owes 24 = .ok (.invokevirtual 232, 3) := by decide +kernel
theorem dX11_owes_27 : decode cX11_owes 27 = .ok (.goto 4, 3) := by decide +kernel
set_option maxHeartbeats 4000000 in
set_option maxRecDepth 100000 in
theorem m_owes (l : Launch) (dC : Nat → ClassId) (dI : Nat → Nat → Nat) (cy : Nat → ClassId) (sz : Nat) (vnh : Nat → Int32) (vo : Nat) (voth : Int32) (vmt : Nat) (votp : Int32) (vosz : Int32) (volm : Int32) (voto : Int32) (vofr : Int32) (vokd : Int32) (vonu : Int32) (vosg : Int32) (vofa : Int32) (vopl : Int32) (vowd : Int64) (votd : Int32) (vmn : Nat) (vmr : Nat) (vmk : Nat) (vms : Nat) (vma : Nat) (vmm : Nat) (vmrn : Nat) (vmkn : Nat) (vmik : Nat) (vmon : Nat) (vosm : Int32) (vohp : Int32) (vmw : Nat) (vmf : Nat) (vmb : Nat) (vomb : Int32) (vmd : Nat) (vmc : Nat) (vocm : Int32) (voct : Int32) (vocy : Int32) (vmx : Nat) (votx : Int32) (vose : Int32) (vml : Nat) (vmwr : Nat) (voln : Int32) (vohw : Int32) (vmno : Nat) (vond : Int32) (voon : Int32) (vowi : Int32) (votop : Int32) (vmnf : Nat → Int32) (vm : Int32) (vk : Int32) (p_vmnf : NW vnh vmnf) : Met l yX11_owes (wl yX11_owes cX11_owes 3 (some .int)) ({ frames := 2, cells := 0, slots := 0, locals := 128 }) (Pw (dC, dI) vwCl cy [(vo, .inr (12, [.int voth, .ref vmt, .int votp, .int vosz, .int volm, .int voto, .int vofr, .int vokd, .int vonu, .int vosg, .int vofa, .int vopl, .long vowd, .int votd, .ref vmn, .ref vmr, .ref vmk, .ref vms, .ref vma, .ref vmm, .ref vmrn, .ref vmkn, .ref vmik, .ref vmon, .int vosm, .int vohp, .ref vmw, .ref vmf, .ref vmb, .int vomb, .ref vmd, .ref vmc, .int vocm, .int voct, .int vocy, .ref vmx, .int votx, .int vose, .ref vml, .ref vmwr, .int voln, .int vohw, .ref vmno, .int vond, .int voon, .int vowi, .int votop])), (vmn, .inl (cy 0, 575, .inl vmnf))] sz [.ref vo, .int vm, .int vk] nE) (Qi (dC, dI) vwCl (fun (r : Int32) (u : Int32) => True) (O_m_owes cy vnh vo voth vmt votp vosz volm voto vofr vokd vonu vosg vofa vopl vowd votd vmn vmr vmk vms vma vmm vmrn vmkn vmik vmon vosm vohp vmw vmf vmb vomb vmd vmc vocm voct vocy vmx votx vose vml vmwr voln vohw vmno vond voon vowi votop vmnf vm vk) (va_A [(vo, .inr (12, [.int voth, .ref vmt, .int votp, .int vosz, .int volm, .int voto, .int vofr, .int vokd, .int vonu, .int vosg, .int vofa, .int vopl, .long vowd, .int votd, .ref vmn, .ref vmr, .ref vmk, .ref vms, .ref vma, .ref vmm, .ref vmrn, .ref vmkn, .ref vmik, .ref vmon, .int vosm, .int vohp, .ref vmw, .ref vmf, .ref vmb, .int vomb, .ref vmd, .ref vmc, .int vocm, .int voct, .int vocy, .ref vmx, .int votx, .int vose, .ref vml, .ref vmwr, .int voln, .int vohw, .ref vmno, .int vond, .int voon, .int vowi, .int votop])), (vmn, .inl (cy 0, 575, .inl vmnf))] sz)) 0 0 (va_A [(vo, .inr (12, [.int voth, .ref vmt, .int votp, .int vosz, .int volm, .int voto, .int vofr, .int vokd, .int vonu, .int vosg, .int vofa, .int vopl, .long vowd, .int votd, .ref vmn, .ref vmr, .ref vmk, .ref vms, .ref vma, .ref vmm, .ref vmrn, .ref vmkn, .ref vmik, .ref vmon, .int vosm, .int vohp, .ref vmw, .ref vmf, .ref vmb, .int vomb, .ref vmd, .ref vmc, .int vocm, .int voct, .int vocy, .ref vmx, .int votx, .int vose, .ref vml, .ref vmwr, .int voln, .int vohw, .ref vmno, .int vond, .int voon, .int vowi, .int votop])), (vmn, .inl (cy 0, 575, .inl vmnf))] sz) := by
  refine mw (Qc := Qi (dC, dI) vwCl (fun (r : Int32) (u : Int32) => True) (O_m_owes cy vnh vo voth vmt votp vosz volm voto vofr vokd vonu vosg vofa vopl vowd votd vmn vmr vmk vms vma vmm vmrn vmkn vmik vmon vosm vohp vmw vmf vmb vomb vmd vmc vocm voct vocy vmx votx vose vml vmwr voln vohw vmno vond voon vowi votop vmnf vm vk)) RX11 rfl (by decide +kernel) (Nat.le_of_ble_eq_true rfl) ?_
  intro p e s m below meth c A hx hb hr hlocks av9 hav hts hown hnm hml hK hP hD hA hS hE hAe Q9 hQ9 ls hl
  have hl : lv_has ls 3 [(0, .ref vo), (1, .int vm), (2, .int vk)] := hl
  refine lv_aload_n hx hb dX11_owes_0 rfl (lv_at hl 0 rfl) ?_
  refine lv_iconst (v := 0) hx hb dX11_owes_1 (by decide) ?_
  refine pf_X11_1 hx hb hts hown hK hP hD hS 0 rfl rfl rfl (Nat.le_of_ble_eq_true rfl) dX11_owes_2 (fun H locs hP hD hS => ?_)
  have hP : va_P (dC, dI) vwCl [(vo, .inr (12, [.int 0, .ref vmt, .int votp, .int vosz, .int volm, .int voto, .int vofr, .int vokd, .int vonu, .int vosg, .int vofa, .int vopl, .long vowd, .int votd, .ref vmn, .ref vmr, .ref vmk, .ref vms, .ref vma, .ref vmm, .ref vmrn, .ref vmkn, .ref vmik, .ref vmon, .int vosm, .int vohp, .ref vmw, .ref vmf, .ref vmb, .int vomb, .ref vmd, .ref vmc, .int vocm, .int voct, .int vocy, .ref vmx, .int votx, .int vose, .ref vml, .ref vmwr, .int voln, .int vohw, .ref vmno, .int vond, .int voon, .int vowi, .int votop])), (vmn, .inl (cy 0, 575, .inl vmnf))] H := hP
  have hD : va_D A [(vo, .inr (12, [.int 0, .ref vmt, .int votp, .int vosz, .int volm, .int voto, .int vofr, .int vokd, .int vonu, .int vosg, .int vofa, .int vopl, .long vowd, .int votd, .ref vmn, .ref vmr, .ref vmk, .ref vms, .ref vma, .ref vmm, .ref vmrn, .ref vmkn, .ref vmik, .ref vmon, .int vosm, .int vohp, .ref vmw, .ref vmf, .ref vmb, .int vomb, .ref vmd, .ref vmc, .int vocm, .int voct, .int vocy, .ref vmx, .int votx, .int vose, .ref vml, .ref vmwr, .int voln, .int vohw, .ref vmno, .int vond, .int voon, .int vowi, .int votop])), (vmn, .inl (cy 0, 575, .inl vmnf))] := hD
  refine lv_aload_n hx hb dX11_owes_5 rfl (lv_at hl 0 rfl) ?_
  refine lv_iload_n hx hb dX11_owes_6 rfl (lv_at hl 1 rfl) ?_
  have k_0 : (0 : Int32).toInt = 0 := by decide
  refine jr_i (rVr (As := [.int vm]) (rest := []) (ci := 12) ⟨hx, hb, hml, hown, hts⟩ (m_isMan l dC dI cy vnh vo 0 vmt votp vosz volm voto vofr vokd vonu vosg vofa vopl vowd votd vmn vmr vmk vms vma vmm vmrn vmkn vmik vmon vosm vohp vmw vmf vmb vomb vmd vmc vocm voct vocy vmx votx vose vml vmwr voln vohw vmno vond voon vowi votop vmnf vm p_vmnf) (cw_X11_250 hts rfl rfl ⟨Nat.le_of_ble_eq_true rfl, Nat.le_of_ble_eq_true rfl⟩) hP hK [0, 1] rfl rfl rfl rfl hl.1 rfl (Nat.le_of_ble_eq_true rfl) dX11_owes_7 ⟨Nat.le_of_ble_eq_true rfl, Nat.le_of_ble_eq_true rfl⟩) hP hS (fun r_1 H locs hp_2 hP hS => ?_)
  have hp_2 : ((r_1 = 0 ∧ ((vm : Int32).toInt < 0 ∨ (vmnf 0).toInt ≤ (vm : Int32).toInt)) ∨ (r_1 = 1 ∧ 0 ≤ (vm : Int32).toInt ∧ (vm : Int32).toInt ≤ 6 ∧ (vm : Int32).toInt < (vmnf 0).toInt)) := hp_2
  have q_3 := hp_2
  rcases q_3 with ⟨aq_3, f0q_3⟩ | ⟨aq_3, f0q_3, f1q_3, f2q_3⟩
  · skip
    refine as_i 0 aq_3 ?_
    refine lv_if_eq (tgt := 30) hx hb dX11_owes_10 (by decide) (fun _ => ?_) (fun c9 => absurd (by decide) c9)
    refine lv_iconst (v := (-1)) hx hb dX11_owes_30 (by decide) ?_
    have k_m1 : ((-1) : Int32).toInt = (-1) := by decide
    rw [hQ9]
    exact re_i (0 : Int32) hx hb hr hlocks trivial (hP.sub [0, 1] rfl) (hD.sub [0, 1] rfl rfl) hS dX11_owes_31
  · skip
    refine as_i 1 aq_3 ?_
    refine lv_if_eq (tgt := 30) hx hb dX11_owes_10 (by decide) (fun c9 => absurd c9 (by decide)) (fun _ => ?_)
    refine lv_aload_n hx hb dX11_owes_13 rfl (lv_at hl 0 rfl) ?_
    refine lv_iload_n hx hb dX11_owes_14 rfl (lv_at hl 2 rfl) ?_
    refine jr_i (rVr (As := [.int vk]) (rest := []) (ci := 12) ⟨hx, hb, hml, hown, hts⟩ (m_isMan l dC dI cy vnh vo 0 vmt votp vosz volm voto vofr vokd vonu vosg vofa vopl vowd votd vmn vmr vmk vms vma vmm vmrn vmkn vmik vmon vosm vohp vmw vmf vmb vomb vmd vmc vocm voct vocy vmx votx vose vml vmwr voln vohw vmno vond voon vowi votop vmnf vk p_vmnf) (cw_X11_250 hts rfl rfl ⟨Nat.le_of_ble_eq_true rfl, Nat.le_of_ble_eq_true rfl⟩) hP hK [0, 1] rfl rfl rfl rfl hl.1 rfl (Nat.le_of_ble_eq_true rfl) dX11_owes_15 ⟨Nat.le_of_ble_eq_true rfl, Nat.le_of_ble_eq_true rfl⟩) hP hS (fun r_4 H locs hp_5 hP hS => ?_)
    have hp_5 : ((r_4 = 0 ∧ ((vk : Int32).toInt < 0 ∨ (vmnf 0).toInt ≤ (vk : Int32).toInt)) ∨ (r_4 = 1 ∧ 0 ≤ (vk : Int32).toInt ∧ (vk : Int32).toInt ≤ 6 ∧ (vk : Int32).toInt < (vmnf 0).toInt)) := hp_5
    have q_6 := hp_5
    rcases q_6 with ⟨aq_6, f0q_6⟩ | ⟨aq_6, f0q_6, f1q_6, f2q_6⟩
    · skip
      refine as_i 0 aq_6 ?_
      refine lv_if_eq (tgt := 30) hx hb dX11_owes_18 (by decide) (fun _ => ?_) (fun c9 => absurd (by decide) c9)
      refine lv_iconst (v := (-1)) hx hb dX11_owes_30 (by decide) ?_
      have k_m1 : ((-1) : Int32).toInt = (-1) := by decide
      rw [hQ9]
      exact re_i (0 : Int32) hx hb hr hlocks trivial (hP.sub [0, 1] rfl) (hD.sub [0, 1] rfl rfl) hS dX11_owes_31
    · skip
      refine as_i 1 aq_6 ?_
      refine lv_if_eq (tgt := 30) hx hb dX11_owes_18 (by decide) (fun c9 => absurd c9 (by decide)) (fun _ => ?_)
      refine lv_aload_n hx hb dX11_owes_21 rfl (lv_at hl 0 rfl) ?_
      refine lv_iload_n hx hb dX11_owes_22 rfl (lv_at hl 1 rfl) ?_
      refine lv_iload_n hx hb dX11_owes_23 rfl (lv_at hl 2 rfl) ?_
      refine jr_i (rVr (As := [.int vm, .int vk]) (rest := []) (ci := 12) ⟨hx, hb, hml, hown, hts⟩ (m_owesOf l dC dI cy vnh vo 0 vmt votp vosz volm voto vofr vokd vonu vosg vofa vopl vowd votd vmn vmr vmk vms vma vmm vmrn vmkn vmik vmon vosm vohp vmw vmf vmb vomb vmd vmc vocm voct vocy vmx votx vose vml vmwr voln vohw vmno vond voon vowi votop vmnf vm vk ⟨by omega, by omega⟩ ⟨by omega, by omega⟩ p_vmnf) (cw_X11_232 hts rfl rfl ⟨Nat.le_of_ble_eq_true rfl, Nat.le_of_ble_eq_true rfl⟩) hP hK [0, 1] rfl rfl rfl rfl hl.1 rfl (Nat.le_of_ble_eq_true rfl) dX11_owes_24 ⟨Nat.le_of_ble_eq_true rfl, Nat.le_of_ble_eq_true rfl⟩) hP hS (fun r_7 H locs hp_8 hP hS => ?_)
      refine lv_goto (tgt := 31) hx hb dX11_owes_27 (by decide) ?_
      rw [hQ9]
      exact re_i (0 : Int32) hx hb hr hlocks trivial (hP.sub [0, 1] rfl) (hD.sub [0, 1] rfl rfl) hS dX11_owes_31
abbrev cX11_kin : ByteArray := prog_13_method_58_code
def yX11_kin : MethodName := ⟨RX11, "kin", "(I)I"⟩
theorem t1766 : Cond.code yX11_kin cX11_kin 2 (some .int) ∈ GW := gw_mem 1880 (by decide +kernel) (by decide +kernel)
abbrev O_m_kin (cy : Nat → ClassId) (vnh : Nat → Int32) (vo : Nat) (voth : Int32) (vmt : Nat) (votp : Int32) (vosz : Int32) (volm : Int32) (voto : Int32) (vofr : Int32) (vokd : Int32) (vonu : Int32) (vosg : Int32) (vofa : Int32) (vopl : Int32) (vowd : Int64) (votd : Int32) (vmn : Nat) (vmr : Nat) (vmk : Nat) (vms : Nat) (vma : Nat) (vmm : Nat) (vmrn : Nat) (vmkn : Nat) (vmik : Nat) (vmon : Nat) (vosm : Int32) (vohp : Int32) (vmw : Nat) (vmf : Nat) (vmb : Nat) (vomb : Int32) (vmd : Nat) (vmc : Nat) (vocm : Int32) (voct : Int32) (vocy : Int32) (vmx : Nat) (votx : Int32) (vose : Int32) (vml : Nat) (vmwr : Nat) (voln : Int32) (vohw : Int32) (vmno : Nat) (vond : Int32) (voon : Int32) (vowi : Int32) (votop : Int32) (vmnf : Nat → Int32) (vm : Int32) (u : Int32) : va_W := [(vo, .inr (12, [.int u, .ref vmt, .int votp, .int vosz, .int volm, .int voto, .int vofr, .int vokd, .int vonu, .int vosg, .int vofa, .int vopl, .long vowd, .int votd, .ref vmn, .ref vmr, .ref vmk, .ref vms, .ref vma, .ref vmm, .ref vmrn, .ref vmkn, .ref vmik, .ref vmon, .int vosm, .int vohp, .ref vmw, .ref vmf, .ref vmb, .int vomb, .ref vmd, .ref vmc, .int vocm, .int voct, .int vocy, .ref vmx, .int votx, .int vose, .ref vml, .ref vmwr, .int voln, .int vohw, .ref vmno, .int vond, .int voon, .int vowi, .int votop])), (vmn, .inl (cy 0, 575, .inl vmnf))]
theorem dX11_kin_0 : decode cX11_kin 0 = .ok (.aload_n 0, 1) := by decide +kernel
theorem dX11_kin_1 : decode cX11_kin 1 = .ok (.iconst 0, 1) := by decide +kernel
theorem dX11_kin_2 : decode cX11_kin 2 = .ok (.putfield 1, 3) := by decide +kernel
theorem dX11_kin_5 : decode cX11_kin 5 = .ok (.aload_n 0, 1) := by decide +kernel
theorem dX11_kin_6 : decode cX11_kin 6 = .ok (.iload_n 1, 1) := by decide +kernel
theorem dX11_kin_7 : decode cX11_kin 7 = .ok (.invokevirtual 250, 3) := by decide +kernel
theorem dX11_kin_10 : decode cX11_kin 10 = .ok (.ifCond .eq 15, 3) := by decide +kernel
theorem dX11_kin_25 : decode cX11_kin 25 = .ok (.iconst (-1), 1) := by decide +kernel
theorem dX11_kin_26 : decode cX11_kin 26 = .ok (.ireturn, 1) := by decide +kernel
theorem dX11_kin_13 : decode cX11_kin 13 = .ok (.aload_n 0, 1) := by decide +kernel
theorem dX11_kin_14 : decode cX11_kin 14 = .ok (.getfield 98, 3) := by decide +kernel
theorem dX11_kin_17 : decode cX11_kin 17 = .ok (.bipush 101, 2) := by decide +kernel
theorem dX11_kin_19 : decode cX11_kin 19 = .ok (.iload_n 1, 1) := by decide +kernel
theorem dX11_kin_20 : decode cX11_kin 20 = .ok (.iadd, 1) := by decide +kernel
theorem dX11_kin_21 : decode cX11_kin 21 = .ok (.iaload, 1) := by decide +kernel
theorem dX11_kin_22 : decode cX11_kin 22 = .ok (.goto 4, 3) := by decide +kernel
set_option maxHeartbeats 4000000 in
set_option maxRecDepth 100000 in
theorem m_kin (l : Launch) (dC : Nat → ClassId) (dI : Nat → Nat → Nat) (cy : Nat → ClassId) (sz : Nat) (vnh : Nat → Int32) (vo : Nat) (voth : Int32) (vmt : Nat) (votp : Int32) (vosz : Int32) (volm : Int32) (voto : Int32) (vofr : Int32) (vokd : Int32) (vonu : Int32) (vosg : Int32) (vofa : Int32) (vopl : Int32) (vowd : Int64) (votd : Int32) (vmn : Nat) (vmr : Nat) (vmk : Nat) (vms : Nat) (vma : Nat) (vmm : Nat) (vmrn : Nat) (vmkn : Nat) (vmik : Nat) (vmon : Nat) (vosm : Int32) (vohp : Int32) (vmw : Nat) (vmf : Nat) (vmb : Nat) (vomb : Int32) (vmd : Nat) (vmc : Nat) (vocm : Int32) (voct : Int32) (vocy : Int32) (vmx : Nat) (votx : Int32) (vose : Int32) (vml : Nat) (vmwr : Nat) (voln : Int32) (vohw : Int32) (vmno : Nat) (vond : Int32) (voon : Int32) (vowi : Int32) (votop : Int32) (vmnf : Nat → Int32) (vm : Int32) (p_vmnf : NW vnh vmnf) : Met l yX11_kin (wl yX11_kin cX11_kin 2 (some .int)) ({ frames := 2, cells := 0, slots := 0, locals := 128 }) (Pw (dC, dI) vwCl cy [(vo, .inr (12, [.int voth, .ref vmt, .int votp, .int vosz, .int volm, .int voto, .int vofr, .int vokd, .int vonu, .int vosg, .int vofa, .int vopl, .long vowd, .int votd, .ref vmn, .ref vmr, .ref vmk, .ref vms, .ref vma, .ref vmm, .ref vmrn, .ref vmkn, .ref vmik, .ref vmon, .int vosm, .int vohp, .ref vmw, .ref vmf, .ref vmb, .int vomb, .ref vmd, .ref vmc, .int vocm, .int voct, .int vocy, .ref vmx, .int votx, .int vose, .ref vml, .ref vmwr, .int voln, .int vohw, .ref vmno, .int vond, .int voon, .int vowi, .int votop])), (vmn, .inl (cy 0, 575, .inl vmnf))] sz [.ref vo, .int vm] nE) (Qi (dC, dI) vwCl (fun (r : Int32) (u : Int32) => ((((vm : Int32).toInt < 0 ∨ (vmnf 0).toInt ≤ (vm : Int32).toInt) ∧ (r : Int32) = -1) ∨ (0 ≤ (vm : Int32).toInt ∧ (vm : Int32).toInt < (vmnf 0).toInt ∧ (r : Int32) = vmnf (101 + (vm : Int32).toInt).toNat))) (O_m_kin cy vnh vo voth vmt votp vosz volm voto vofr vokd vonu vosg vofa vopl vowd votd vmn vmr vmk vms vma vmm vmrn vmkn vmik vmon vosm vohp vmw vmf vmb vomb vmd vmc vocm voct vocy vmx votx vose vml vmwr voln vohw vmno vond voon vowi votop vmnf vm) (va_A [(vo, .inr (12, [.int voth, .ref vmt, .int votp, .int vosz, .int volm, .int voto, .int vofr, .int vokd, .int vonu, .int vosg, .int vofa, .int vopl, .long vowd, .int votd, .ref vmn, .ref vmr, .ref vmk, .ref vms, .ref vma, .ref vmm, .ref vmrn, .ref vmkn, .ref vmik, .ref vmon, .int vosm, .int vohp, .ref vmw, .ref vmf, .ref vmb, .int vomb, .ref vmd, .ref vmc, .int vocm, .int voct, .int vocy, .ref vmx, .int votx, .int vose, .ref vml, .ref vmwr, .int voln, .int vohw, .ref vmno, .int vond, .int voon, .int vowi, .int votop])), (vmn, .inl (cy 0, 575, .inl vmnf))] sz)) 0 0 (va_A [(vo, .inr (12, [.int voth, .ref vmt, .int votp, .int vosz, .int volm, .int voto, .int vofr, .int vokd, .int vonu, .int vosg, .int vofa, .int vopl, .long vowd, .int votd, .ref vmn, .ref vmr, .ref vmk, .ref vms, .ref vma, .ref vmm, .ref vmrn, .ref vmkn, .ref vmik, .ref vmon, .int vosm, .int vohp, .ref vmw, .ref vmf, .ref vmb, .int vomb, .ref vmd, .ref vmc, .int vocm, .int voct, .int vocy, .ref vmx, .int votx, .int vose, .ref vml, .ref vmwr, .int voln, .int vohw, .ref vmno, .int vond, .int voon, .int vowi, .int votop])), (vmn, .inl (cy 0, 575, .inl vmnf))] sz) := by
  refine mw (Qc := Qi (dC, dI) vwCl (fun (r : Int32) (u : Int32) => ((((vm : Int32).toInt < 0 ∨ (vmnf 0).toInt ≤ (vm : Int32).toInt) ∧ (r : Int32) = -1) ∨ (0 ≤ (vm : Int32).toInt ∧ (vm : Int32).toInt < (vmnf 0).toInt ∧ (r : Int32) = vmnf (101 + (vm : Int32).toInt).toNat))) (O_m_kin cy vnh vo voth vmt votp vosz volm voto vofr vokd vonu vosg vofa vopl vowd votd vmn vmr vmk vms vma vmm vmrn vmkn vmik vmon vosm vohp vmw vmf vmb vomb vmd vmc vocm voct vocy vmx votx vose vml vmwr voln vohw vmno vond voon vowi votop vmnf vm)) RX11 rfl (by decide +kernel) (Nat.le_of_ble_eq_true rfl) ?_
  intro p e s m below meth c A hx hb hr hlocks av9 hav hts hown hnm hml hK hP hD hA hS hE hAe Q9 hQ9 ls hl
  have hl : lv_has ls 2 [(0, .ref vo), (1, .int vm)] := hl
  refine lv_aload_n hx hb dX11_kin_0 rfl (lv_at hl 0 rfl) ?_
  refine lv_iconst (v := 0) hx hb dX11_kin_1 (by decide) ?_
  refine pf_X11_1 hx hb hts hown hK hP hD hS 0 rfl rfl rfl (Nat.le_of_ble_eq_true rfl) dX11_kin_2 (fun H locs hP hD hS => ?_)
  have hP : va_P (dC, dI) vwCl [(vo, .inr (12, [.int 0, .ref vmt, .int votp, .int vosz, .int volm, .int voto, .int vofr, .int vokd, .int vonu, .int vosg, .int vofa, .int vopl, .long vowd, .int votd, .ref vmn, .ref vmr, .ref vmk, .ref vms, .ref vma, .ref vmm, .ref vmrn, .ref vmkn, .ref vmik, .ref vmon, .int vosm, .int vohp, .ref vmw, .ref vmf, .ref vmb, .int vomb, .ref vmd, .ref vmc, .int vocm, .int voct, .int vocy, .ref vmx, .int votx, .int vose, .ref vml, .ref vmwr, .int voln, .int vohw, .ref vmno, .int vond, .int voon, .int vowi, .int votop])), (vmn, .inl (cy 0, 575, .inl vmnf))] H := hP
  have hD : va_D A [(vo, .inr (12, [.int 0, .ref vmt, .int votp, .int vosz, .int volm, .int voto, .int vofr, .int vokd, .int vonu, .int vosg, .int vofa, .int vopl, .long vowd, .int votd, .ref vmn, .ref vmr, .ref vmk, .ref vms, .ref vma, .ref vmm, .ref vmrn, .ref vmkn, .ref vmik, .ref vmon, .int vosm, .int vohp, .ref vmw, .ref vmf, .ref vmb, .int vomb, .ref vmd, .ref vmc, .int vocm, .int voct, .int vocy, .ref vmx, .int votx, .int vose, .ref vml, .ref vmwr, .int voln, .int vohw, .ref vmno, .int vond, .int voon, .int vowi, .int votop])), (vmn, .inl (cy 0, 575, .inl vmnf))] := hD
  refine lv_aload_n hx hb dX11_kin_5 rfl (lv_at hl 0 rfl) ?_
  refine lv_iload_n hx hb dX11_kin_6 rfl (lv_at hl 1 rfl) ?_
  have k_0 : (0 : Int32).toInt = 0 := by decide
  refine jr_i (rVr (As := [.int vm]) (rest := []) (ci := 12) ⟨hx, hb, hml, hown, hts⟩ (m_isMan l dC dI cy vnh vo 0 vmt votp vosz volm voto vofr vokd vonu vosg vofa vopl vowd votd vmn vmr vmk vms vma vmm vmrn vmkn vmik vmon vosm vohp vmw vmf vmb vomb vmd vmc vocm voct vocy vmx votx vose vml vmwr voln vohw vmno vond voon vowi votop vmnf vm p_vmnf) (cw_X11_250 hts rfl rfl ⟨Nat.le_of_ble_eq_true rfl, Nat.le_of_ble_eq_true rfl⟩) hP hK [0, 1] rfl rfl rfl rfl hl.1 rfl (Nat.le_of_ble_eq_true rfl) dX11_kin_7 ⟨Nat.le_of_ble_eq_true rfl, Nat.le_of_ble_eq_true rfl⟩) hP hS (fun r_1 H locs hp_2 hP hS => ?_)
  have hp_2 : ((r_1 = 0 ∧ ((vm : Int32).toInt < 0 ∨ (vmnf 0).toInt ≤ (vm : Int32).toInt)) ∨ (r_1 = 1 ∧ 0 ≤ (vm : Int32).toInt ∧ (vm : Int32).toInt ≤ 6 ∧ (vm : Int32).toInt < (vmnf 0).toInt)) := hp_2
  have q_3 := hp_2
  rcases q_3 with ⟨aq_3, f0q_3⟩ | ⟨aq_3, f0q_3, f1q_3, f2q_3⟩
  · skip
    refine as_i 0 aq_3 ?_
    refine lv_if_eq (tgt := 25) hx hb dX11_kin_10 (by decide) (fun _ => ?_) (fun c9 => absurd (by decide) c9)
    refine lv_iconst (v := (-1)) hx hb dX11_kin_25 (by decide) ?_
    have k_m1 : ((-1) : Int32).toInt = (-1) := by decide
    rw [hQ9]
    exact re_i (0 : Int32) hx hb hr hlocks (show (((vm : Int32).toInt < 0 ∨ (vmnf 0).toInt ≤ (vm : Int32).toInt) ∧ (((-1) : Int32) : Int32) = -1) ∨ (0 ≤ (vm : Int32).toInt ∧ (vm : Int32).toInt < (vmnf 0).toInt ∧ (((-1) : Int32) : Int32) = vmnf (101 + (vm : Int32).toInt).toNat) from (Or.inl ⟨by omega, rfl⟩)) (hP.sub [0, 1] rfl) (hD.sub [0, 1] rfl rfl) hS dX11_kin_26
  · skip
    refine as_i 1 aq_3 ?_
    refine lv_if_eq (tgt := 25) hx hb dX11_kin_10 (by decide) (fun c9 => absurd c9 (by decide)) (fun _ => ?_)
    refine lv_aload_n hx hb dX11_kin_13 rfl (lv_at hl 0 rfl) ?_
    refine gf_X11_98 hx hb hts hown hK hP 0 rfl rfl dX11_kin_14 ?_
    refine lv_bipush (v := 101) hx hb dX11_kin_17 (by decide) ?_
    refine lv_iload_n hx hb dX11_kin_19 rfl (lv_at hl 1 rfl) ?_
    refine lv_iadd hx hb dX11_kin_20 ?_
    refine lv_topi (fun z_4 ez_4 => ?_)
    have k_101 : (101 : Int32).toInt = 101 := by decide
    have bz_4 : z_4.toInt = (101 : Int32).toInt + vm.toInt := i_add ez_4 (by omega) (by omega)
    have hin_5 : vp_in z_4 575 := vp_in_iff.mpr ⟨by omega, by omega⟩
    refine va_iald hx hb hK hP 1 0 rfl rfl hin_5 dX11_kin_21 ?_
    refine lv_topi (fun z_6 ez_6 => ?_)
    refine lv_goto (tgt := 26) hx hb dX11_kin_22 (by decide) ?_
    rw [hQ9]
    exact re_i (0 : Int32) hx hb hr hlocks (show (((vm : Int32).toInt < 0 ∨ (vmnf 0).toInt ≤ (vm : Int32).toInt) ∧ (z_6 : Int32) = -1) ∨ (0 ≤ (vm : Int32).toInt ∧ (vm : Int32).toInt < (vmnf 0).toInt ∧ (z_6 : Int32) = vmnf (101 + (vm : Int32).toInt).toNat) from (Or.inr ⟨by omega, by omega, ez_6.trans (congrArg (fun q9 : Int => vmnf q9.toNat) (show z_4.toInt = 101 + vm.toInt by omega))⟩)) (hP.sub [0, 1] rfl) (hD.sub [0, 1] rfl rfl) hS dX11_kin_26
abbrev cX11_cell : ByteArray := prog_13_method_59_code
def yX11_cell : MethodName := ⟨RX11, "cell", "(II)I"⟩
theorem t1770 : Cond.code yX11_cell cX11_cell 3 (some .int) ∈ GW := gw_mem 1884 (by decide +kernel) (by decide +kernel)
abbrev O_m_cell (cy : Nat → ClassId) (vnh : Nat → Int32) (vo : Nat) (voth : Int32) (vmt : Nat) (votp : Int32) (vosz : Int32) (volm : Int32) (voto : Int32) (vofr : Int32) (vokd : Int32) (vonu : Int32) (vosg : Int32) (vofa : Int32) (vopl : Int32) (vowd : Int64) (votd : Int32) (vmn : Nat) (vmr : Nat) (vmk : Nat) (vms : Nat) (vma : Nat) (vmm : Nat) (vmrn : Nat) (vmkn : Nat) (vmik : Nat) (vmon : Nat) (vosm : Int32) (vohp : Int32) (vmw : Nat) (vmf : Nat) (vmb : Nat) (vomb : Int32) (vmd : Nat) (vmc : Nat) (vocm : Int32) (voct : Int32) (vocy : Int32) (vmx : Nat) (votx : Int32) (vose : Int32) (vml : Nat) (vmwr : Nat) (voln : Int32) (vohw : Int32) (vmno : Nat) (vond : Int32) (voon : Int32) (vowi : Int32) (votop : Int32) (vmnf : Nat → Int32) (vm : Int32) (vk : Int32) (u : Int32) : va_W := [(vo, .inr (12, [.int u, .ref vmt, .int votp, .int vosz, .int volm, .int voto, .int vofr, .int vokd, .int vonu, .int vosg, .int vofa, .int vopl, .long vowd, .int votd, .ref vmn, .ref vmr, .ref vmk, .ref vms, .ref vma, .ref vmm, .ref vmrn, .ref vmkn, .ref vmik, .ref vmon, .int vosm, .int vohp, .ref vmw, .ref vmf, .ref vmb, .int vomb, .ref vmd, .ref vmc, .int vocm, .int voct, .int vocy, .ref vmx, .int votx, .int vose, .ref vml, .ref vmwr, .int voln, .int vohw, .ref vmno, .int vond, .int voon, .int vowi, .int votop])), (vmn, .inl (cy 0, 575, .inl vmnf))]
theorem dX11_cell_0 : decode cX11_cell 0 = .ok (.aload_n 0, 1) := by decide +kernel
theorem dX11_cell_1 : decode cX11_cell 1 = .ok (.iconst 0, 1) := by decide +kernel
theorem dX11_cell_2 : decode cX11_cell 2 = .ok (.putfield 1, 3) := by decide +kernel
theorem dX11_cell_5 : decode cX11_cell 5 = .ok (.aload_n 0, 1) := by decide +kernel
theorem dX11_cell_6 : decode cX11_cell 6 = .ok (.iload_n 1, 1) := by decide +kernel
theorem dX11_cell_7 : decode cX11_cell 7 = .ok (.invokevirtual 250, 3) := by decide +kernel
theorem dX11_cell_10 : decode cX11_cell 10 = .ok (.ifCond .eq 19, 3) := by decide +kernel
theorem dX11_cell_29 : decode cX11_cell 29 = .ok (.iconst (-1), 1) := by decide +kernel
theorem dX11_cell_30 : decode cX11_cell 30 = .ok (.ireturn, 1) := by decide +kernel
theorem dX11_cell_13 : decode cX11_cell 13 = .ok (.iload_n 2, 1) := by decide +kernel
theorem dX11_cell_14 : decode cX11_cell 14 = .ok (.iconst 0, 1) := by decide +kernel
theorem dX11_cell_15 : decode cX11_cell 15 = .ok (.aload_n 0, 1) := by decide +kernel
theorem dX11_cell_16 : decode cX11_cell 16 = .ok (.getfield 98, 3) := by decide +kernel
theorem dX11_cell_19 : decode cX11_cell 19 = .ok (.iconst 2, 1) := by decide +kernel
theorem dX11_cell_20 : decode cX11_cell 20 = .ok (.iaload, 1) := by decide +kernel
theorem dX11_cell_21 : decode cX11_cell 21 = .ok (.iconst 1, 1) := by decide +kernel
theorem dX11_cell_22 : decode cX11_cell 22 = .ok (.isub, 1) := by decide +kernel
theorem dX11_cell_23 : decode cX11_cell 23 = .ok (.invokestatic 75, 3) := by decide +kernel
theorem dX11_cell_26 : decode cX11_cell 26 = .ok (.ifCond .ne 5, 3) := by decide +kernel
theorem dX11_cell_31 : decode cX11_cell 31 = .ok (.iload_n 2, 1) := by decide +kernel
theorem dX11_cell_32 : decode cX11_cell 32 = .ok (.aload_n 0, 1) := by decide +kernel
theorem dX11_cell_33 : decode cX11_cell 33 = .ok (.iload_n 1, 1) := by decide +kernel
theorem dX11_cell_34 : decode cX11_cell 34 = .ok (.invokevirtual 241, 3) := by decide +kernel
theorem dX11_cell_37 : decode cX11_cell 37 = .ok (.if_icmp .ge 7, 3) := by decide +kernel
theorem dX11_cell_44 : decode cX11_cell 44 = .ok (.iload_n 2, 1) := by decide +kernel
theorem dX11_cell_45 : decode cX11_cell 45 = .ok (.aload_n 0, 1) := by decide +kernel
theorem dX11_cell_46 : decode cX11_cell 46 = .ok (.getfield 98, 3) := by decide +kernel
theorem dX11_cell_49 : decode cX11_cell 49 = .ok (.iconst 2, 1) := by decide +kernel
theorem dX11_cell_50 : decode cX11_cell 50 = .ok (.iaload, 1) := by decide +kernel
theorem dX11_cell_51 : decode cX11_cell 51 = .ok (.aload_n 0, 1) := by decide +kernel
theorem dX11_cell_52 : decode cX11_cell 52 = .ok (.iload_n 1, 1) := by decide +kernel
theorem dX11_cell_53 : decode cX11_cell 53 = .ok (.invokevirtual 244, 3) := by decide +kernel
theorem dX11_cell_56 : decode cX11_cell 56 = .ok (.isub, 1) := by decide +kernel
theorem dX11_cell_57 : decode cX11_cell 57 = .ok (.if_icmp .lt 7, 3) := by decide +kernel
theorem dX11_cell_64 : decode cX11_cell 64 = .ok (.iconst 0, 1) := by decide +kernel
theorem dX11_cell_65 : decode cX11_cell 65 = .ok (.ireturn, 1) := by decide +kernel
theorem dX11_cell_60 : decode cX11_cell 60 = .ok (.iconst 2, 1) := by decide +kernel
theorem dX11_cell_61 : decode cX11_cell 61 = .ok (.goto 4, 3) := by decide +kernel
theorem dX11_cell_40 : decode cX11_cell 40 = .ok (.iconst 1, 1) := by decide +kernel
theorem dX11_cell_41 : decode cX11_cell 41 = .ok (.goto 24, 3) := by decide +kernel
set_option maxHeartbeats 4000000 in
set_option maxRecDepth 100000 in
theorem m_cell (l : Launch) (dC : Nat → ClassId) (dI : Nat → Nat → Nat) (cy : Nat → ClassId) (sz : Nat) (vnh : Nat → Int32) (vo : Nat) (voth : Int32) (vmt : Nat) (votp : Int32) (vosz : Int32) (volm : Int32) (voto : Int32) (vofr : Int32) (vokd : Int32) (vonu : Int32) (vosg : Int32) (vofa : Int32) (vopl : Int32) (vowd : Int64) (votd : Int32) (vmn : Nat) (vmr : Nat) (vmk : Nat) (vms : Nat) (vma : Nat) (vmm : Nat) (vmrn : Nat) (vmkn : Nat) (vmik : Nat) (vmon : Nat) (vosm : Int32) (vohp : Int32) (vmw : Nat) (vmf : Nat) (vmb : Nat) (vomb : Int32) (vmd : Nat) (vmc : Nat) (vocm : Int32) (voct : Int32) (vocy : Int32) (vmx : Nat) (votx : Int32) (vose : Int32) (vml : Nat) (vmwr : Nat) (voln : Int32) (vohw : Int32) (vmno : Nat) (vond : Int32) (voon : Int32) (vowi : Int32) (votop : Int32) (vmnf : Nat → Int32) (vm : Int32) (vk : Int32) (p_vmnf : NW vnh vmnf) : Met l yX11_cell (wl yX11_cell cX11_cell 3 (some .int)) ({ frames := 3, cells := 0, slots := 0, locals := 192 }) (Pw (dC, dI) vwCl cy [(vo, .inr (12, [.int voth, .ref vmt, .int votp, .int vosz, .int volm, .int voto, .int vofr, .int vokd, .int vonu, .int vosg, .int vofa, .int vopl, .long vowd, .int votd, .ref vmn, .ref vmr, .ref vmk, .ref vms, .ref vma, .ref vmm, .ref vmrn, .ref vmkn, .ref vmik, .ref vmon, .int vosm, .int vohp, .ref vmw, .ref vmf, .ref vmb, .int vomb, .ref vmd, .ref vmc, .int vocm, .int voct, .int vocy, .ref vmx, .int votx, .int vose, .ref vml, .ref vmwr, .int voln, .int vohw, .ref vmno, .int vond, .int voon, .int vowi, .int votop])), (vmn, .inl (cy 0, 575, .inl vmnf))] sz [.ref vo, .int vm, .int vk] nE) (Qi (dC, dI) vwCl (fun (r : Int32) (u : Int32) => True) (O_m_cell cy vnh vo voth vmt votp vosz volm voto vofr vokd vonu vosg vofa vopl vowd votd vmn vmr vmk vms vma vmm vmrn vmkn vmik vmon vosm vohp vmw vmf vmb vomb vmd vmc vocm voct vocy vmx votx vose vml vmwr voln vohw vmno vond voon vowi votop vmnf vm vk) (va_A [(vo, .inr (12, [.int voth, .ref vmt, .int votp, .int vosz, .int volm, .int voto, .int vofr, .int vokd, .int vonu, .int vosg, .int vofa, .int vopl, .long vowd, .int votd, .ref vmn, .ref vmr, .ref vmk, .ref vms, .ref vma, .ref vmm, .ref vmrn, .ref vmkn, .ref vmik, .ref vmon, .int vosm, .int vohp, .ref vmw, .ref vmf, .ref vmb, .int vomb, .ref vmd, .ref vmc, .int vocm, .int voct, .int vocy, .ref vmx, .int votx, .int vose, .ref vml, .ref vmwr, .int voln, .int vohw, .ref vmno, .int vond, .int voon, .int vowi, .int votop])), (vmn, .inl (cy 0, 575, .inl vmnf))] sz)) 0 0 (va_A [(vo, .inr (12, [.int voth, .ref vmt, .int votp, .int vosz, .int volm, .int voto, .int vofr, .int vokd, .int vonu, .int vosg, .int vofa, .int vopl, .long vowd, .int votd, .ref vmn, .ref vmr, .ref vmk, .ref vms, .ref vma, .ref vmm, .ref vmrn, .ref vmkn, .ref vmik, .ref vmon, .int vosm, .int vohp, .ref vmw, .ref vmf, .ref vmb, .int vomb, .ref vmd, .ref vmc, .int vocm, .int voct, .int vocy, .ref vmx, .int votx, .int vose, .ref vml, .ref vmwr, .int voln, .int vohw, .ref vmno, .int vond, .int voon, .int vowi, .int votop])), (vmn, .inl (cy 0, 575, .inl vmnf))] sz) := by
  refine mw (Qc := Qi (dC, dI) vwCl (fun (r : Int32) (u : Int32) => True) (O_m_cell cy vnh vo voth vmt votp vosz volm voto vofr vokd vonu vosg vofa vopl vowd votd vmn vmr vmk vms vma vmm vmrn vmkn vmik vmon vosm vohp vmw vmf vmb vomb vmd vmc vocm voct vocy vmx votx vose vml vmwr voln vohw vmno vond voon vowi votop vmnf vm vk)) RX11 rfl (by decide +kernel) (Nat.le_of_ble_eq_true rfl) ?_
  intro p e s m below meth c A hx hb hr hlocks av9 hav hts hown hnm hml hK hP hD hA hS hE hAe Q9 hQ9 ls hl
  have hl : lv_has ls 3 [(0, .ref vo), (1, .int vm), (2, .int vk)] := hl
  refine lv_aload_n hx hb dX11_cell_0 rfl (lv_at hl 0 rfl) ?_
  refine lv_iconst (v := 0) hx hb dX11_cell_1 (by decide) ?_
  refine pf_X11_1 hx hb hts hown hK hP hD hS 0 rfl rfl rfl (Nat.le_of_ble_eq_true rfl) dX11_cell_2 (fun H locs hP hD hS => ?_)
  have hP : va_P (dC, dI) vwCl [(vo, .inr (12, [.int 0, .ref vmt, .int votp, .int vosz, .int volm, .int voto, .int vofr, .int vokd, .int vonu, .int vosg, .int vofa, .int vopl, .long vowd, .int votd, .ref vmn, .ref vmr, .ref vmk, .ref vms, .ref vma, .ref vmm, .ref vmrn, .ref vmkn, .ref vmik, .ref vmon, .int vosm, .int vohp, .ref vmw, .ref vmf, .ref vmb, .int vomb, .ref vmd, .ref vmc, .int vocm, .int voct, .int vocy, .ref vmx, .int votx, .int vose, .ref vml, .ref vmwr, .int voln, .int vohw, .ref vmno, .int vond, .int voon, .int vowi, .int votop])), (vmn, .inl (cy 0, 575, .inl vmnf))] H := hP
  have hD : va_D A [(vo, .inr (12, [.int 0, .ref vmt, .int votp, .int vosz, .int volm, .int voto, .int vofr, .int vokd, .int vonu, .int vosg, .int vofa, .int vopl, .long vowd, .int votd, .ref vmn, .ref vmr, .ref vmk, .ref vms, .ref vma, .ref vmm, .ref vmrn, .ref vmkn, .ref vmik, .ref vmon, .int vosm, .int vohp, .ref vmw, .ref vmf, .ref vmb, .int vomb, .ref vmd, .ref vmc, .int vocm, .int voct, .int vocy, .ref vmx, .int votx, .int vose, .ref vml, .ref vmwr, .int voln, .int vohw, .ref vmno, .int vond, .int voon, .int vowi, .int votop])), (vmn, .inl (cy 0, 575, .inl vmnf))] := hD
  refine lv_aload_n hx hb dX11_cell_5 rfl (lv_at hl 0 rfl) ?_
  refine lv_iload_n hx hb dX11_cell_6 rfl (lv_at hl 1 rfl) ?_
  have k_0 : (0 : Int32).toInt = 0 := by decide
  refine jr_i (rVr (As := [.int vm]) (rest := []) (ci := 12) ⟨hx, hb, hml, hown, hts⟩ (m_isMan l dC dI cy vnh vo 0 vmt votp vosz volm voto vofr vokd vonu vosg vofa vopl vowd votd vmn vmr vmk vms vma vmm vmrn vmkn vmik vmon vosm vohp vmw vmf vmb vomb vmd vmc vocm voct vocy vmx votx vose vml vmwr voln vohw vmno vond voon vowi votop vmnf vm p_vmnf) (cw_X11_250 hts rfl rfl ⟨Nat.le_of_ble_eq_true rfl, Nat.le_of_ble_eq_true rfl⟩) hP hK [0, 1] rfl rfl rfl rfl hl.1 rfl (Nat.le_of_ble_eq_true rfl) dX11_cell_7 ⟨Nat.le_of_ble_eq_true rfl, Nat.le_of_ble_eq_true rfl⟩) hP hS (fun r_1 H locs hp_2 hP hS => ?_)
  have hp_2 : ((r_1 = 0 ∧ ((vm : Int32).toInt < 0 ∨ (vmnf 0).toInt ≤ (vm : Int32).toInt)) ∨ (r_1 = 1 ∧ 0 ≤ (vm : Int32).toInt ∧ (vm : Int32).toInt ≤ 6 ∧ (vm : Int32).toInt < (vmnf 0).toInt)) := hp_2
  have q_3 := hp_2
  rcases q_3 with ⟨aq_3, f0q_3⟩ | ⟨aq_3, f0q_3, f1q_3, f2q_3⟩
  · skip
    refine as_i 0 aq_3 ?_
    refine lv_if_eq (tgt := 29) hx hb dX11_cell_10 (by decide) (fun _ => ?_) (fun c9 => absurd (by decide) c9)
    refine lv_iconst (v := (-1)) hx hb dX11_cell_29 (by decide) ?_
    have k_m1 : ((-1) : Int32).toInt = (-1) := by decide
    rw [hQ9]
    exact re_i (0 : Int32) hx hb hr hlocks trivial (hP.sub [0, 1] rfl) (hD.sub [0, 1] rfl rfl) hS dX11_cell_30
  · skip
    refine as_i 1 aq_3 ?_
    refine lv_if_eq (tgt := 29) hx hb dX11_cell_10 (by decide) (fun c9 => absurd c9 (by decide)) (fun _ => ?_)
    refine lv_iload_n hx hb dX11_cell_13 rfl (lv_at hl 2 rfl) ?_
    refine lv_iconst (v := 0) hx hb dX11_cell_14 (by decide) ?_
    refine lv_aload_n hx hb dX11_cell_15 rfl (lv_at hl 0 rfl) ?_
    refine gf_X11_98 hx hb hts hown hK hP 0 rfl rfl dX11_cell_16 ?_
    refine lv_iconst (v := 2) hx hb dX11_cell_19 (by decide) ?_
    have k_2 : (2 : Int32).toInt = 2 := by decide
    have hin_4 : vp_in (2 : Int32) 575 := vp_in_iff.mpr ⟨by omega, by omega⟩
    refine va_iald hx hb hK hP 1 0 rfl rfl hin_4 dX11_cell_20 ?_
    refine lv_topi (fun z_5 ez_5 => ?_)
    have tz_5 : z_5.toInt = (vmnf 2).toInt := by rw [ez_5]; rfl
    refine lv_iconst (v := 1) hx hb dX11_cell_21 (by decide) ?_
    refine lv_isub hx hb dX11_cell_22 ?_
    refine lv_topi (fun z_6 ez_6 => ?_)
    refine jr_i (rSr (As := [.int vk, .int 0, .int z_6]) (rest := []) ⟨hx, hb, hml, hown, hts⟩ (m_isIn l dC dI cy vk 0 z_6 ) (cw_X11_75 hts rfl rfl ⟨Nat.le_of_ble_eq_true rfl, Nat.le_of_ble_eq_true rfl⟩) hP hK [] rfl rfl hl.1 rfl (Nat.le_of_ble_eq_true rfl) dX11_cell_23 ⟨Nat.le_of_ble_eq_true rfl, Nat.le_of_ble_eq_true rfl⟩) hP hS (fun r_7 H locs hp_8 hP hS => ?_)
    have hp_8 : ((r_7 = 0 ∧ ((vk : Int32).toInt < (0 : Int32).toInt ∨ (z_6 : Int32).toInt < (vk : Int32).toInt)) ∨ (r_7 = 1 ∧ (0 : Int32).toInt ≤ (vk : Int32).toInt ∧ (vk : Int32).toInt ≤ (z_6 : Int32).toInt)) := hp_8
    have q_9 := hp_8
    rcases q_9 with ⟨aq_9, f0q_9⟩ | ⟨aq_9, f0q_9, f1q_9⟩
    · skip
      refine as_i 0 aq_9 ?_
      refine lv_if_ne (tgt := 31) hx hb dX11_cell_26 (by decide) (fun c9 => absurd c9 (by decide)) (fun _ => ?_)
      refine lv_iconst (v := (-1)) hx hb dX11_cell_29 (by decide) ?_
      have k_m1 : ((-1) : Int32).toInt = (-1) := by decide
      rw [hQ9]
      exact re_i (0 : Int32) hx hb hr hlocks trivial (hP.sub [0, 1] rfl) (hD.sub [0, 1] rfl rfl) hS dX11_cell_30
    · skip
      refine as_i 1 aq_9 ?_
      refine lv_if_ne (tgt := 31) hx hb dX11_cell_26 (by decide) (fun _ => ?_) (fun c9 => absurd c9 (by decide))
      refine lv_iload_n hx hb dX11_cell_31 rfl (lv_at hl 2 rfl) ?_
      refine lv_aload_n hx hb dX11_cell_32 rfl (lv_at hl 0 rfl) ?_
      refine lv_iload_n hx hb dX11_cell_33 rfl (lv_at hl 1 rfl) ?_
      refine jr_i (rVr (As := [.int vm]) (rest := [.int vk]) (ci := 12) ⟨hx, hb, hml, hown, hts⟩ (m_whiteOf l dC dI cy vnh vo 0 vmt votp vosz volm voto vofr vokd vonu vosg vofa vopl vowd votd vmn vmr vmk vms vma vmm vmrn vmkn vmik vmon vosm vohp vmw vmf vmb vomb vmd vmc vocm voct vocy vmx votx vose vml vmwr voln vohw vmno vond voon vowi votop vmnf vm ⟨by omega, by omega⟩ p_vmnf) (cw_X11_241 hts rfl rfl ⟨Nat.le_of_ble_eq_true rfl, Nat.le_of_ble_eq_true rfl⟩) hP hK [0, 1] rfl rfl rfl rfl hl.1 rfl (Nat.le_of_ble_eq_true rfl) dX11_cell_34 ⟨Nat.le_of_ble_eq_true rfl, Nat.le_of_ble_eq_true rfl⟩) hP hS (fun r_10 H locs hp_11 hP hS => ?_)
      refine lv_icmp_ge (tgt := 44) hx hb dX11_cell_37 (by decide) (fun c_12 => ?_) (fun c_12 => ?_)
      · skip
        have c_12 : r_10.toInt ≤ vk.toInt := i_le.mp c_12
        refine lv_iload_n hx hb dX11_cell_44 rfl (lv_at hl 2 rfl) ?_
        refine lv_aload_n hx hb dX11_cell_45 rfl (lv_at hl 0 rfl) ?_
        refine gf_X11_98 hx hb hts hown hK hP 0 rfl rfl dX11_cell_46 ?_
        refine lv_iconst (v := 2) hx hb dX11_cell_49 (by decide) ?_
        have hin_13 : vp_in (2 : Int32) 575 := vp_in_iff.mpr ⟨by omega, by omega⟩
        refine va_iald hx hb hK hP 1 0 rfl rfl hin_13 dX11_cell_50 ?_
        refine lv_topi (fun z_14 ez_14 => ?_)
        have tz_14 : z_14.toInt = (vmnf 2).toInt := by rw [ez_14]; rfl
        refine lv_aload_n hx hb dX11_cell_51 rfl (lv_at hl 0 rfl) ?_
        refine lv_iload_n hx hb dX11_cell_52 rfl (lv_at hl 1 rfl) ?_
        refine jr_i (rVr (As := [.int vm]) (rest := [.int z_14, .int vk]) (ci := 12) ⟨hx, hb, hml, hown, hts⟩ (m_darkOf l dC dI cy vnh vo 0 vmt votp vosz volm voto vofr vokd vonu vosg vofa vopl vowd votd vmn vmr vmk vms vma vmm vmrn vmkn vmik vmon vosm vohp vmw vmf vmb vomb vmd vmc vocm voct vocy vmx votx vose vml vmwr voln vohw vmno vond voon vowi votop vmnf vm ⟨by omega, by omega⟩ p_vmnf) (cw_X11_244 hts rfl rfl ⟨Nat.le_of_ble_eq_true rfl, Nat.le_of_ble_eq_true rfl⟩) hP hK [0, 1] rfl rfl rfl rfl hl.1 rfl (Nat.le_of_ble_eq_true rfl) dX11_cell_53 ⟨Nat.le_of_ble_eq_true rfl, Nat.le_of_ble_eq_true rfl⟩) hP hS (fun r_15 H locs hp_16 hP hS => ?_)
        refine lv_isub hx hb dX11_cell_56 ?_
        refine lv_topi (fun z_17 ez_17 => ?_)
        refine lv_icmp_lt (tgt := 64) hx hb dX11_cell_57 (by decide) (fun c_18 => ?_) (fun c_18 => ?_)
        · skip
          have c_18 : vk.toInt < z_17.toInt := i_lt.mp c_18
          refine lv_iconst (v := 0) hx hb dX11_cell_64 (by decide) ?_
          rw [hQ9]
          exact re_i (0 : Int32) hx hb hr hlocks trivial (hP.sub [0, 1] rfl) (hD.sub [0, 1] rfl rfl) hS dX11_cell_65
        · skip
          have c_18 : ¬ (vk.toInt < z_17.toInt) := fun h9 => c_18 (i_lt.mpr h9)
          refine lv_iconst (v := 2) hx hb dX11_cell_60 (by decide) ?_
          refine lv_goto (tgt := 65) hx hb dX11_cell_61 (by decide) ?_
          rw [hQ9]
          exact re_i (0 : Int32) hx hb hr hlocks trivial (hP.sub [0, 1] rfl) (hD.sub [0, 1] rfl rfl) hS dX11_cell_65
      · skip
        have c_12 : ¬ (r_10.toInt ≤ vk.toInt) := fun h9 => c_12 (i_le.mpr h9)
        refine lv_iconst (v := 1) hx hb dX11_cell_40 (by decide) ?_
        refine lv_goto (tgt := 65) hx hb dX11_cell_41 (by decide) ?_
        have k_1 : (1 : Int32).toInt = 1 := by decide
        rw [hQ9]
        exact re_i (0 : Int32) hx hb hr hlocks trivial (hP.sub [0, 1] rfl) (hD.sub [0, 1] rfl rfl) hS dX11_cell_65
abbrev cX11_kept : ByteArray := prog_13_method_60_code
def yX11_kept : MethodName := ⟨RX11, "kept", "(II)I"⟩
theorem t1774 : Cond.code yX11_kept cX11_kept 3 (some .int) ∈ GW := gw_mem 1888 (by decide +kernel) (by decide +kernel)
abbrev O_m_kept (cy : Nat → ClassId) (vnh : Nat → Int32) (vo : Nat) (voth : Int32) (vmt : Nat) (votp : Int32) (vosz : Int32) (volm : Int32) (voto : Int32) (vofr : Int32) (vokd : Int32) (vonu : Int32) (vosg : Int32) (vofa : Int32) (vopl : Int32) (vowd : Int64) (votd : Int32) (vmn : Nat) (vmr : Nat) (vmk : Nat) (vms : Nat) (vma : Nat) (vmm : Nat) (vmrn : Nat) (vmkn : Nat) (vmik : Nat) (vmon : Nat) (vosm : Int32) (vohp : Int32) (vmw : Nat) (vmf : Nat) (vmb : Nat) (vomb : Int32) (vmd : Nat) (vmc : Nat) (vocm : Int32) (voct : Int32) (vocy : Int32) (vmx : Nat) (votx : Int32) (vose : Int32) (vml : Nat) (vmwr : Nat) (voln : Int32) (vohw : Int32) (vmno : Nat) (vond : Int32) (voon : Int32) (vowi : Int32) (votop : Int32) (vmnf : Nat → Int32) (vm : Int32) (vwt : Int32) (u : Int32) : va_W := [(vo, .inr (12, [.int u, .ref vmt, .int votp, .int vosz, .int volm, .int voto, .int vofr, .int vokd, .int vonu, .int vosg, .int vofa, .int vopl, .long vowd, .int votd, .ref vmn, .ref vmr, .ref vmk, .ref vms, .ref vma, .ref vmm, .ref vmrn, .ref vmkn, .ref vmik, .ref vmon, .int vosm, .int vohp, .ref vmw, .ref vmf, .ref vmb, .int vomb, .ref vmd, .ref vmc, .int vocm, .int voct, .int vocy, .ref vmx, .int votx, .int vose, .ref vml, .ref vmwr, .int voln, .int vohw, .ref vmno, .int vond, .int voon, .int vowi, .int votop])), (vmn, .inl (cy 0, 575, .inl vmnf))]
theorem dX11_kept_0 : decode cX11_kept 0 = .ok (.aload_n 0, 1) := by decide +kernel
theorem dX11_kept_1 : decode cX11_kept 1 = .ok (.iconst 0, 1) := by decide +kernel
theorem dX11_kept_2 : decode cX11_kept 2 = .ok (.putfield 1, 3) := by decide +kernel
theorem dX11_kept_5 : decode cX11_kept 5 = .ok (.aload_n 0, 1) := by decide +kernel
theorem dX11_kept_6 : decode cX11_kept 6 = .ok (.iload_n 1, 1) := by decide +kernel
theorem dX11_kept_7 : decode cX11_kept 7 = .ok (.invokevirtual 250, 3) := by decide +kernel
theorem dX11_kept_10 : decode cX11_kept 10 = .ok (.ifCond .eq 42, 3) := by decide +kernel
theorem dX11_kept_52 : decode cX11_kept 52 = .ok (.iconst (-1), 1) := by decide +kernel
theorem dX11_kept_53 : decode cX11_kept 53 = .ok (.ireturn, 1) := by decide +kernel
theorem dX11_kept_13 : decode cX11_kept 13 = .ok (.iload_n 2, 1) := by decide +kernel
theorem dX11_kept_14 : decode cX11_kept 14 = .ok (.iconst 0, 1) := by decide +kernel
theorem dX11_kept_15 : decode cX11_kept 15 = .ok (.iconst 3, 1) := by decide +kernel
theorem dX11_kept_16 : decode cX11_kept 16 = .ok (.invokestatic 75, 3) := by decide +kernel
theorem dX11_kept_19 : decode cX11_kept 19 = .ok (.ifCond .eq 33, 3) := by decide +kernel
theorem dX11_kept_22 : decode cX11_kept 22 = .ok (.aload_n 0, 1) := by decide +kernel
theorem dX11_kept_23 : decode cX11_kept 23 = .ok (.getfield 98, 3) := by decide +kernel
theorem dX11_kept_26 : decode cX11_kept 26 = .ok (.sipush 298, 3) := by decide +kernel
theorem dX11_kept_29 : decode cX11_kept 29 = .ok (.iload_n 1, 1) := by decide +kernel
theorem dX11_kept_30 : decode cX11_kept 30 = .ok (.iadd, 1) := by decide +kernel
theorem dX11_kept_31 : decode cX11_kept 31 = .ok (.iaload, 1) := by decide +kernel
theorem dX11_kept_32 : decode cX11_kept 32 = .ok (.ifCond .le 20, 3) := by decide +kernel
theorem dX11_kept_35 : decode cX11_kept 35 = .ok (.aload_n 0, 1) := by decide +kernel
theorem dX11_kept_36 : decode cX11_kept 36 = .ok (.getfield 98, 3) := by decide +kernel
theorem dX11_kept_39 : decode cX11_kept 39 = .ok (.sipush 305, 3) := by decide +kernel
theorem dX11_kept_42 : decode cX11_kept 42 = .ok (.iconst 4, 1) := by decide +kernel
theorem dX11_kept_43 : decode cX11_kept 43 = .ok (.iload_n 1, 1) := by decide +kernel
theorem dX11_kept_44 : decode cX11_kept 44 = .ok (.imul, 1) := by decide +kernel
theorem dX11_kept_45 : decode cX11_kept 45 = .ok (.iadd, 1) := by decide +kernel
theorem dX11_kept_46 : decode cX11_kept 46 = .ok (.iload_n 2, 1) := by decide +kernel
theorem dX11_kept_47 : decode cX11_kept 47 = .ok (.iadd, 1) := by decide +kernel
theorem dX11_kept_48 : decode cX11_kept 48 = .ok (.iaload, 1) := by decide +kernel
theorem dX11_kept_49 : decode cX11_kept 49 = .ok (.goto 4, 3) := by decide +kernel
set_option maxHeartbeats 4000000 in
set_option maxRecDepth 100000 in
theorem m_kept (l : Launch) (dC : Nat → ClassId) (dI : Nat → Nat → Nat) (cy : Nat → ClassId) (sz : Nat) (vnh : Nat → Int32) (vo : Nat) (voth : Int32) (vmt : Nat) (votp : Int32) (vosz : Int32) (volm : Int32) (voto : Int32) (vofr : Int32) (vokd : Int32) (vonu : Int32) (vosg : Int32) (vofa : Int32) (vopl : Int32) (vowd : Int64) (votd : Int32) (vmn : Nat) (vmr : Nat) (vmk : Nat) (vms : Nat) (vma : Nat) (vmm : Nat) (vmrn : Nat) (vmkn : Nat) (vmik : Nat) (vmon : Nat) (vosm : Int32) (vohp : Int32) (vmw : Nat) (vmf : Nat) (vmb : Nat) (vomb : Int32) (vmd : Nat) (vmc : Nat) (vocm : Int32) (voct : Int32) (vocy : Int32) (vmx : Nat) (votx : Int32) (vose : Int32) (vml : Nat) (vmwr : Nat) (voln : Int32) (vohw : Int32) (vmno : Nat) (vond : Int32) (voon : Int32) (vowi : Int32) (votop : Int32) (vmnf : Nat → Int32) (vm : Int32) (vwt : Int32) (p_vmnf : NW vnh vmnf) : Met l yX11_kept (wl yX11_kept cX11_kept 3 (some .int)) ({ frames := 2, cells := 0, slots := 0, locals := 128 }) (Pw (dC, dI) vwCl cy [(vo, .inr (12, [.int voth, .ref vmt, .int votp, .int vosz, .int volm, .int voto, .int vofr, .int vokd, .int vonu, .int vosg, .int vofa, .int vopl, .long vowd, .int votd, .ref vmn, .ref vmr, .ref vmk, .ref vms, .ref vma, .ref vmm, .ref vmrn, .ref vmkn, .ref vmik, .ref vmon, .int vosm, .int vohp, .ref vmw, .ref vmf, .ref vmb, .int vomb, .ref vmd, .ref vmc, .int vocm, .int voct, .int vocy, .ref vmx, .int votx, .int vose, .ref vml, .ref vmwr, .int voln, .int vohw, .ref vmno, .int vond, .int voon, .int vowi, .int votop])), (vmn, .inl (cy 0, 575, .inl vmnf))] sz [.ref vo, .int vm, .int vwt] nE) (Qi (dC, dI) vwCl (fun (r : Int32) (u : Int32) => True) (O_m_kept cy vnh vo voth vmt votp vosz volm voto vofr vokd vonu vosg vofa vopl vowd votd vmn vmr vmk vms vma vmm vmrn vmkn vmik vmon vosm vohp vmw vmf vmb vomb vmd vmc vocm voct vocy vmx votx vose vml vmwr voln vohw vmno vond voon vowi votop vmnf vm vwt) (va_A [(vo, .inr (12, [.int voth, .ref vmt, .int votp, .int vosz, .int volm, .int voto, .int vofr, .int vokd, .int vonu, .int vosg, .int vofa, .int vopl, .long vowd, .int votd, .ref vmn, .ref vmr, .ref vmk, .ref vms, .ref vma, .ref vmm, .ref vmrn, .ref vmkn, .ref vmik, .ref vmon, .int vosm, .int vohp, .ref vmw, .ref vmf, .ref vmb, .int vomb, .ref vmd, .ref vmc, .int vocm, .int voct, .int vocy, .ref vmx, .int votx, .int vose, .ref vml, .ref vmwr, .int voln, .int vohw, .ref vmno, .int vond, .int voon, .int vowi, .int votop])), (vmn, .inl (cy 0, 575, .inl vmnf))] sz)) 0 0 (va_A [(vo, .inr (12, [.int voth, .ref vmt, .int votp, .int vosz, .int volm, .int voto, .int vofr, .int vokd, .int vonu, .int vosg, .int vofa, .int vopl, .long vowd, .int votd, .ref vmn, .ref vmr, .ref vmk, .ref vms, .ref vma, .ref vmm, .ref vmrn, .ref vmkn, .ref vmik, .ref vmon, .int vosm, .int vohp, .ref vmw, .ref vmf, .ref vmb, .int vomb, .ref vmd, .ref vmc, .int vocm, .int voct, .int vocy, .ref vmx, .int votx, .int vose, .ref vml, .ref vmwr, .int voln, .int vohw, .ref vmno, .int vond, .int voon, .int vowi, .int votop])), (vmn, .inl (cy 0, 575, .inl vmnf))] sz) := by
  refine mw (Qc := Qi (dC, dI) vwCl (fun (r : Int32) (u : Int32) => True) (O_m_kept cy vnh vo voth vmt votp vosz volm voto vofr vokd vonu vosg vofa vopl vowd votd vmn vmr vmk vms vma vmm vmrn vmkn vmik vmon vosm vohp vmw vmf vmb vomb vmd vmc vocm voct vocy vmx votx vose vml vmwr voln vohw vmno vond voon vowi votop vmnf vm vwt)) RX11 rfl (by decide +kernel) (Nat.le_of_ble_eq_true rfl) ?_
  intro p e s m below meth c A hx hb hr hlocks av9 hav hts hown hnm hml hK hP hD hA hS hE hAe Q9 hQ9 ls hl
  have hl : lv_has ls 3 [(0, .ref vo), (1, .int vm), (2, .int vwt)] := hl
  refine lv_aload_n hx hb dX11_kept_0 rfl (lv_at hl 0 rfl) ?_
  refine lv_iconst (v := 0) hx hb dX11_kept_1 (by decide) ?_
  refine pf_X11_1 hx hb hts hown hK hP hD hS 0 rfl rfl rfl (Nat.le_of_ble_eq_true rfl) dX11_kept_2 (fun H locs hP hD hS => ?_)
  have hP : va_P (dC, dI) vwCl [(vo, .inr (12, [.int 0, .ref vmt, .int votp, .int vosz, .int volm, .int voto, .int vofr, .int vokd, .int vonu, .int vosg, .int vofa, .int vopl, .long vowd, .int votd, .ref vmn, .ref vmr, .ref vmk, .ref vms, .ref vma, .ref vmm, .ref vmrn, .ref vmkn, .ref vmik, .ref vmon, .int vosm, .int vohp, .ref vmw, .ref vmf, .ref vmb, .int vomb, .ref vmd, .ref vmc, .int vocm, .int voct, .int vocy, .ref vmx, .int votx, .int vose, .ref vml, .ref vmwr, .int voln, .int vohw, .ref vmno, .int vond, .int voon, .int vowi, .int votop])), (vmn, .inl (cy 0, 575, .inl vmnf))] H := hP
  have hD : va_D A [(vo, .inr (12, [.int 0, .ref vmt, .int votp, .int vosz, .int volm, .int voto, .int vofr, .int vokd, .int vonu, .int vosg, .int vofa, .int vopl, .long vowd, .int votd, .ref vmn, .ref vmr, .ref vmk, .ref vms, .ref vma, .ref vmm, .ref vmrn, .ref vmkn, .ref vmik, .ref vmon, .int vosm, .int vohp, .ref vmw, .ref vmf, .ref vmb, .int vomb, .ref vmd, .ref vmc, .int vocm, .int voct, .int vocy, .ref vmx, .int votx, .int vose, .ref vml, .ref vmwr, .int voln, .int vohw, .ref vmno, .int vond, .int voon, .int vowi, .int votop])), (vmn, .inl (cy 0, 575, .inl vmnf))] := hD
  refine lv_aload_n hx hb dX11_kept_5 rfl (lv_at hl 0 rfl) ?_
  refine lv_iload_n hx hb dX11_kept_6 rfl (lv_at hl 1 rfl) ?_
  have k_0 : (0 : Int32).toInt = 0 := by decide
  refine jr_i (rVr (As := [.int vm]) (rest := []) (ci := 12) ⟨hx, hb, hml, hown, hts⟩ (m_isMan l dC dI cy vnh vo 0 vmt votp vosz volm voto vofr vokd vonu vosg vofa vopl vowd votd vmn vmr vmk vms vma vmm vmrn vmkn vmik vmon vosm vohp vmw vmf vmb vomb vmd vmc vocm voct vocy vmx votx vose vml vmwr voln vohw vmno vond voon vowi votop vmnf vm p_vmnf) (cw_X11_250 hts rfl rfl ⟨Nat.le_of_ble_eq_true rfl, Nat.le_of_ble_eq_true rfl⟩) hP hK [0, 1] rfl rfl rfl rfl hl.1 rfl (Nat.le_of_ble_eq_true rfl) dX11_kept_7 ⟨Nat.le_of_ble_eq_true rfl, Nat.le_of_ble_eq_true rfl⟩) hP hS (fun r_1 H locs hp_2 hP hS => ?_)
  have hp_2 : ((r_1 = 0 ∧ ((vm : Int32).toInt < 0 ∨ (vmnf 0).toInt ≤ (vm : Int32).toInt)) ∨ (r_1 = 1 ∧ 0 ≤ (vm : Int32).toInt ∧ (vm : Int32).toInt ≤ 6 ∧ (vm : Int32).toInt < (vmnf 0).toInt)) := hp_2
  have q_3 := hp_2
  rcases q_3 with ⟨aq_3, f0q_3⟩ | ⟨aq_3, f0q_3, f1q_3, f2q_3⟩
  · skip
    refine as_i 0 aq_3 ?_
    refine lv_if_eq (tgt := 52) hx hb dX11_kept_10 (by decide) (fun _ => ?_) (fun c9 => absurd (by decide) c9)
    refine lv_iconst (v := (-1)) hx hb dX11_kept_52 (by decide) ?_
    have k_m1 : ((-1) : Int32).toInt = (-1) := by decide
    rw [hQ9]
    exact re_i (0 : Int32) hx hb hr hlocks trivial (hP.sub [0, 1] rfl) (hD.sub [0, 1] rfl rfl) hS dX11_kept_53
  · skip
    refine as_i 1 aq_3 ?_
    refine lv_if_eq (tgt := 52) hx hb dX11_kept_10 (by decide) (fun c9 => absurd c9 (by decide)) (fun _ => ?_)
    refine lv_iload_n hx hb dX11_kept_13 rfl (lv_at hl 2 rfl) ?_
    refine lv_iconst (v := 0) hx hb dX11_kept_14 (by decide) ?_
    refine lv_iconst (v := 3) hx hb dX11_kept_15 (by decide) ?_
    have k_3 : (3 : Int32).toInt = 3 := by decide
    refine jr_i (rSr (As := [.int vwt, .int 0, .int 3]) (rest := []) ⟨hx, hb, hml, hown, hts⟩ (m_isIn l dC dI cy vwt 0 3 ) (cw_X11_75 hts rfl rfl ⟨Nat.le_of_ble_eq_true rfl, Nat.le_of_ble_eq_true rfl⟩) hP hK [] rfl rfl hl.1 rfl (Nat.le_of_ble_eq_true rfl) dX11_kept_16 ⟨Nat.le_of_ble_eq_true rfl, Nat.le_of_ble_eq_true rfl⟩) hP hS (fun r_4 H locs hp_5 hP hS => ?_)
    have hp_5 : ((r_4 = 0 ∧ ((vwt : Int32).toInt < (0 : Int32).toInt ∨ (3 : Int32).toInt < (vwt : Int32).toInt)) ∨ (r_4 = 1 ∧ (0 : Int32).toInt ≤ (vwt : Int32).toInt ∧ (vwt : Int32).toInt ≤ (3 : Int32).toInt)) := hp_5
    have q_6 := hp_5
    rcases q_6 with ⟨aq_6, f0q_6⟩ | ⟨aq_6, f0q_6, f1q_6⟩
    · skip
      refine as_i 0 aq_6 ?_
      refine lv_if_eq (tgt := 52) hx hb dX11_kept_19 (by decide) (fun _ => ?_) (fun c9 => absurd (by decide) c9)
      refine lv_iconst (v := (-1)) hx hb dX11_kept_52 (by decide) ?_
      have k_m1 : ((-1) : Int32).toInt = (-1) := by decide
      rw [hQ9]
      exact re_i (0 : Int32) hx hb hr hlocks trivial (hP.sub [0, 1] rfl) (hD.sub [0, 1] rfl rfl) hS dX11_kept_53
    · skip
      refine as_i 1 aq_6 ?_
      refine lv_if_eq (tgt := 52) hx hb dX11_kept_19 (by decide) (fun c9 => absurd c9 (by decide)) (fun _ => ?_)
      refine lv_aload_n hx hb dX11_kept_22 rfl (lv_at hl 0 rfl) ?_
      refine gf_X11_98 hx hb hts hown hK hP 0 rfl rfl dX11_kept_23 ?_
      refine lv_sipush (v := 298) hx hb dX11_kept_26 (by decide) ?_
      refine lv_iload_n hx hb dX11_kept_29 rfl (lv_at hl 1 rfl) ?_
      refine lv_iadd hx hb dX11_kept_30 ?_
      refine lv_topi (fun z_7 ez_7 => ?_)
      have k_298 : (298 : Int32).toInt = 298 := by decide
      have bz_7 : z_7.toInt = (298 : Int32).toInt + vm.toInt := i_add ez_7 (by omega) (by omega)
      have hin_8 : vp_in z_7 575 := vp_in_iff.mpr ⟨by omega, by omega⟩
      refine va_iald hx hb hK hP 1 0 rfl rfl hin_8 dX11_kept_31 ?_
      refine lv_topi (fun z_9 ez_9 => ?_)
      refine lv_if_le (tgt := 52) hx hb dX11_kept_32 (by decide) (fun c_10 => ?_) (fun c_10 => ?_)
      · skip
        have c_10 : z_9.toInt ≤ (0 : Int32).toInt := i_le.mp c_10
        refine lv_iconst (v := (-1)) hx hb dX11_kept_52 (by decide) ?_
        have k_m1 : ((-1) : Int32).toInt = (-1) := by decide
        rw [hQ9]
        exact re_i (0 : Int32) hx hb hr hlocks trivial (hP.sub [0, 1] rfl) (hD.sub [0, 1] rfl rfl) hS dX11_kept_53
      · skip
        have c_10 : ¬ (z_9.toInt ≤ (0 : Int32).toInt) := fun h9 => c_10 (i_le.mpr h9)
        refine lv_aload_n hx hb dX11_kept_35 rfl (lv_at hl 0 rfl) ?_
        refine gf_X11_98 hx hb hts hown hK hP 0 rfl rfl dX11_kept_36 ?_
        refine lv_sipush (v := 305) hx hb dX11_kept_39 (by decide) ?_
        refine lv_iconst (v := 4) hx hb dX11_kept_42 (by decide) ?_
        refine lv_iload_n hx hb dX11_kept_43 rfl (lv_at hl 1 rfl) ?_
        refine lv_imul hx hb dX11_kept_44 ?_
        refine lv_topi (fun z_11 ez_11 => ?_)
        have k_4 : (4 : Int32).toInt = 4 := by decide
        have bz_11 : z_11.toInt = vm.toInt * 4 := i_cmul k_4 ez_11 (by omega) (by omega)
        refine lv_iadd hx hb dX11_kept_45 ?_
        refine lv_topi (fun z_12 ez_12 => ?_)
        have k_305 : (305 : Int32).toInt = 305 := by decide
        have bz_12 : z_12.toInt = (305 : Int32).toInt + z_11.toInt := i_add ez_12 (by omega) (by omega)
        refine lv_iload_n hx hb dX11_kept_46 rfl (lv_at hl 2 rfl) ?_
        refine lv_iadd hx hb dX11_kept_47 ?_
        refine lv_topi (fun z_13 ez_13 => ?_)
        have bz_13 : z_13.toInt = z_12.toInt + vwt.toInt := i_add ez_13 (by omega) (by omega)
        have hin_14 : vp_in z_13 575 := vp_in_iff.mpr ⟨by omega, by omega⟩
        refine va_iald hx hb hK hP 1 0 rfl rfl hin_14 dX11_kept_48 ?_
        refine lv_topi (fun z_15 ez_15 => ?_)
        refine lv_goto (tgt := 53) hx hb dX11_kept_49 (by decide) ?_
        rw [hQ9]
        exact re_i (0 : Int32) hx hb hr hlocks trivial (hP.sub [0, 1] rfl) (hD.sub [0, 1] rfl rfl) hS dX11_kept_53
abbrev cX11_now : ByteArray := prog_13_method_62_code
def yX11_now : MethodName := ⟨RX11, "now", "(I)I"⟩
theorem t1778 : Cond.code yX11_now cX11_now 4 (some .int) ∈ GW := gw_mem 1892 (by decide +kernel) (by decide +kernel)
abbrev O_m_now (cy : Nat → ClassId) (vnh : Nat → Int32) (vo : Nat) (voth : Int32) (vmt : Nat) (votp : Int32) (vosz : Int32) (volm : Int32) (voto : Int32) (vofr : Int32) (vokd : Int32) (vonu : Int32) (vosg : Int32) (vofa : Int32) (vopl : Int32) (vowd : Int64) (votd : Int32) (vmn : Nat) (vmr : Nat) (vmk : Nat) (vms : Nat) (vma : Nat) (vmm : Nat) (vmrn : Nat) (vmkn : Nat) (vmik : Nat) (vmon : Nat) (vosm : Int32) (vohp : Int32) (vmw : Nat) (vmf : Nat) (vmb : Nat) (vomb : Int32) (vmd : Nat) (vmc : Nat) (vocm : Int32) (voct : Int32) (vocy : Int32) (vmx : Nat) (votx : Int32) (vose : Int32) (vml : Nat) (vmwr : Nat) (voln : Int32) (vohw : Int32) (vmno : Nat) (vond : Int32) (voon : Int32) (vowi : Int32) (votop : Int32) (vmnf : Nat → Int32) (vwt : Int32) (u : Int32) : va_W := [(vo, .inr (12, [.int u, .ref vmt, .int votp, .int vosz, .int volm, .int voto, .int vofr, .int vokd, .int vonu, .int vosg, .int vofa, .int vopl, .long vowd, .int votd, .ref vmn, .ref vmr, .ref vmk, .ref vms, .ref vma, .ref vmm, .ref vmrn, .ref vmkn, .ref vmik, .ref vmon, .int vosm, .int vohp, .ref vmw, .ref vmf, .ref vmb, .int vomb, .ref vmd, .ref vmc, .int vocm, .int voct, .int vocy, .ref vmx, .int votx, .int vose, .ref vml, .ref vmwr, .int voln, .int vohw, .ref vmno, .int vond, .int voon, .int vowi, .int votop])), (vmn, .inl (cy 0, 575, .inl vmnf))]
theorem dX11_now_0 : decode cX11_now 0 = .ok (.aload_n 0, 1) := by decide +kernel
theorem dX11_now_1 : decode cX11_now 1 = .ok (.iconst 0, 1) := by decide +kernel
theorem dX11_now_2 : decode cX11_now 2 = .ok (.putfield 1, 3) := by decide +kernel
theorem dX11_now_5 : decode cX11_now 5 = .ok (.iconst 0, 1) := by decide +kernel
theorem dX11_now_6 : decode cX11_now 6 = .ok (.istore_n 2, 1) := by decide +kernel
theorem dX11_now_7 : decode cX11_now 7 = .ok (.iload_n 1, 1) := by decide +kernel
theorem dX11_now_8 : decode cX11_now 8 = .ok (.tableswitch 169 0 7 #[48, 57, 57, 57, 65, 99, 99, 140], 48) := by decide +kernel
theorem dX11_now_56 : decode cX11_now 56 = .ok (.aload_n 0, 1) := by decide +kernel
theorem dX11_now_57 : decode cX11_now 57 = .ok (.getfield 98, 3) := by decide +kernel
theorem dX11_now_60 : decode cX11_now 60 = .ok (.sipush 157, 3) := by decide +kernel
theorem dX11_now_63 : decode cX11_now 63 = .ok (.iaload, 1) := by decide +kernel
theorem dX11_now_64 : decode cX11_now 64 = .ok (.ireturn, 1) := by decide +kernel
theorem dX11_now_65 : decode cX11_now 65 = .ok (.aload_n 0, 1) := by decide +kernel
theorem dX11_now_66 : decode cX11_now 66 = .ok (.iload_n 1, 1) := by decide +kernel
theorem dX11_now_67 : decode cX11_now 67 = .ok (.iconst 1, 1) := by decide +kernel
theorem dX11_now_68 : decode cX11_now 68 = .ok (.isub, 1) := by decide +kernel
theorem dX11_now_69 : decode cX11_now 69 = .ok (.invokevirtual 262, 3) := by decide +kernel
theorem t1779 : Cond.methodLink RX11 262 yX11_those ∈ GW := gw_mem 1893 (by decide +kernel) (by decide +kernel)
theorem t1781 : Cond.instanceMethod yX11_those ∈ GW := gw_mem 1895 (by decide +kernel) (by decide +kernel)
theorem s73 : Cond.selects RX11 yX11_those yX11_those ∈ GW := gw_mem 73 (by decide +kernel) (by decide +kernel)
theorem cw_X11_262 {R : Room} {s : State} {args : Array Value} {rm : Room} {mc ms : Nat} (hts : ∀ w ∈ GW, w.before args s = true) (hrc : rm.cells = mc) (hrs : rm.slots = ms) (hR : rm.frames + 1 ≤ R.frames ∧ 8 + (4 + 11) + rm.locals ≤ R.locals) : CallW R s args RX11 RX11 262 yX11_those cX11_those 4 (some .int) (wl yX11_those cX11_those 4 (some .int)) rm mc ms 1 := cwV 1 hts (gi_V t1779 t1781 s73 t18 t1782) rfl hrc hrs (by decide +kernel) hR
theorem dX11_now_72 : decode cX11_now 72 = .ok (.ireturn, 1) := by decide +kernel
theorem dX11_now_73 : decode cX11_now 73 = .ok (.iconst 0, 1) := by decide +kernel
theorem dX11_now_74 : decode cX11_now 74 = .ok (.istore_n 3, 1) := by decide +kernel
theorem dX11_now_75 : decode cX11_now 75 = .ok (.iload_n 3, 1) := by decide +kernel
theorem dX11_now_76 : decode cX11_now 76 = .ok (.aload_n 0, 1) := by decide +kernel
theorem dX11_now_77 : decode cX11_now 77 = .ok (.getfield 98, 3) := by decide +kernel
theorem dX11_now_80 : decode cX11_now 80 = .ok (.iconst 0, 1) := by decide +kernel
theorem dX11_now_81 : decode cX11_now 81 = .ok (.iaload, 1) := by decide +kernel
theorem dX11_now_82 : decode cX11_now 82 = .ok (.if_icmp .ge 23, 3) := by decide +kernel
theorem dX11_now_105 : decode cX11_now 105 = .ok (.iload_n 2, 1) := by decide +kernel
theorem dX11_now_106 : decode cX11_now 106 = .ok (.ireturn, 1) := by decide +kernel
theorem dX11_now_85 : decode cX11_now 85 = .ok (.aload_n 0, 1) := by decide +kernel
theorem dX11_now_86 : decode cX11_now 86 = .ok (.iload_n 3, 1) := by decide +kernel
theorem dX11_now_87 : decode cX11_now 87 = .ok (.invokevirtual 265, 3) := by decide +kernel
theorem dX11_now_90 : decode cX11_now 90 = .ok (.ifCond .eq 9, 3) := by decide +kernel
theorem dX11_now_99 : decode cX11_now 99 = .ok (.iinc 3 1, 3) := by decide +kernel
theorem dX11_now_102 : decode cX11_now 102 = .ok (.goto (-27), 3) := by decide +kernel
theorem dX11_now_93 : decode cX11_now 93 = .ok (.iload_n 2, 1) := by decide +kernel
theorem dX11_now_94 : decode cX11_now 94 = .ok (.iconst 1, 1) := by decide +kernel
theorem dX11_now_95 : decode cX11_now 95 = .ok (.iload_n 3, 1) := by decide +kernel
theorem dX11_now_96 : decode cX11_now 96 = .ok (.ishl, 1) := by decide +kernel
theorem dX11_now_97 : decode cX11_now 97 = .ok (.ior, 1) := by decide +kernel
theorem dX11_now_98 : decode cX11_now 98 = .ok (.istore_n 2, 1) := by decide +kernel
theorem dX11_now_107 : decode cX11_now 107 = .ok (.iconst 0, 1) := by decide +kernel
theorem dX11_now_108 : decode cX11_now 108 = .ok (.istore_n 3, 1) := by decide +kernel
theorem dX11_now_109 : decode cX11_now 109 = .ok (.iload_n 3, 1) := by decide +kernel
theorem dX11_now_110 : decode cX11_now 110 = .ok (.aload_n 0, 1) := by decide +kernel
theorem dX11_now_111 : decode cX11_now 111 = .ok (.getfield 98, 3) := by decide +kernel
theorem dX11_now_114 : decode cX11_now 114 = .ok (.iconst 0, 1) := by decide +kernel
theorem dX11_now_115 : decode cX11_now 115 = .ok (.iaload, 1) := by decide +kernel
theorem dX11_now_116 : decode cX11_now 116 = .ok (.if_icmp .ge 30, 3) := by decide +kernel
theorem dX11_now_146 : decode cX11_now 146 = .ok (.iload_n 2, 1) := by decide +kernel
theorem dX11_now_147 : decode cX11_now 147 = .ok (.ireturn, 1) := by decide +kernel
theorem dX11_now_119 : decode cX11_now 119 = .ok (.iload_n 2, 1) := by decide +kernel
theorem dX11_now_120 : decode cX11_now 120 = .ok (.iload_n 1, 1) := by decide +kernel
theorem dX11_now_121 : decode cX11_now 121 = .ok (.iconst 5, 1) := by decide +kernel
theorem dX11_now_122 : decode cX11_now 122 = .ok (.if_icmp .ne 11, 3) := by decide +kernel
theorem dX11_now_125 : decode cX11_now 125 = .ok (.aload_n 0, 1) := by decide +kernel
theorem dX11_now_126 : decode cX11_now 126 = .ok (.iload_n 3, 1) := by decide +kernel
theorem dX11_now_127 : decode cX11_now 127 = .ok (.invokevirtual 241, 3) := by decide +kernel
theorem dX11_now_130 : decode cX11_now 130 = .ok (.goto 8, 3) := by decide +kernel
theorem dX11_now_138 : decode cX11_now 138 = .ok (.iadd, 1) := by decide +kernel
theorem dX11_now_139 : decode cX11_now 139 = .ok (.istore_n 2, 1) := by decide +kernel
theorem dX11_now_140 : decode cX11_now 140 = .ok (.iinc 3 1, 3) := by decide +kernel
theorem dX11_now_143 : decode cX11_now 143 = .ok (.goto (-34), 3) := by decide +kernel
theorem dX11_now_133 : decode cX11_now 133 = .ok (.aload_n 0, 1) := by decide +kernel
theorem dX11_now_134 : decode cX11_now 134 = .ok (.iload_n 3, 1) := by decide +kernel
theorem dX11_now_135 : decode cX11_now 135 = .ok (.invokevirtual 244, 3) := by decide +kernel
theorem dX11_now_148 : decode cX11_now 148 = .ok (.iconst 0, 1) := by decide +kernel
theorem dX11_now_149 : decode cX11_now 149 = .ok (.istore_n 3, 1) := by decide +kernel
theorem dX11_now_150 : decode cX11_now 150 = .ok (.iload_n 3, 1) := by decide +kernel
theorem dX11_now_151 : decode cX11_now 151 = .ok (.bipush 7, 2) := by decide +kernel
theorem dX11_now_153 : decode cX11_now 153 = .ok (.if_icmp .ge 22, 3) := by decide +kernel
theorem dX11_now_175 : decode cX11_now 175 = .ok (.iload_n 2, 1) := by decide +kernel
theorem dX11_now_176 : decode cX11_now 176 = .ok (.ireturn, 1) := by decide +kernel
theorem dX11_now_156 : decode cX11_now 156 = .ok (.iload_n 2, 1) := by decide +kernel
theorem dX11_now_157 : decode cX11_now 157 = .ok (.aload_n 0, 1) := by decide +kernel
theorem dX11_now_158 : decode cX11_now 158 = .ok (.getfield 98, 3) := by decide +kernel
theorem dX11_now_161 : decode cX11_now 161 = .ok (.sipush 298, 3) := by decide +kernel
theorem dX11_now_164 : decode cX11_now 164 = .ok (.iload_n 3, 1) := by decide +kernel
theorem dX11_now_165 : decode cX11_now 165 = .ok (.iadd, 1) := by decide +kernel
theorem dX11_now_166 : decode cX11_now 166 = .ok (.iaload, 1) := by decide +kernel
theorem dX11_now_167 : decode cX11_now 167 = .ok (.iadd, 1) := by decide +kernel
theorem dX11_now_168 : decode cX11_now 168 = .ok (.istore_n 2, 1) := by decide +kernel
theorem dX11_now_169 : decode cX11_now 169 = .ok (.iinc 3 1, 3) := by decide +kernel
theorem dX11_now_172 : decode cX11_now 172 = .ok (.goto (-22), 3) := by decide +kernel
theorem dX11_now_177 : decode cX11_now 177 = .ok (.iconst (-1), 1) := by decide +kernel
theorem dX11_now_178 : decode cX11_now 178 = .ok (.ireturn, 1) := by decide +kernel
set_option maxHeartbeats 4000000 in
set_option maxRecDepth 100000 in
theorem m_now (l : Launch) (dC : Nat → ClassId) (dI : Nat → Nat → Nat) (cy : Nat → ClassId) (sz : Nat) (vnh : Nat → Int32) (vo : Nat) (voth : Int32) (vmt : Nat) (votp : Int32) (vosz : Int32) (volm : Int32) (voto : Int32) (vofr : Int32) (vokd : Int32) (vonu : Int32) (vosg : Int32) (vofa : Int32) (vopl : Int32) (vowd : Int64) (votd : Int32) (vmn : Nat) (vmr : Nat) (vmk : Nat) (vms : Nat) (vma : Nat) (vmm : Nat) (vmrn : Nat) (vmkn : Nat) (vmik : Nat) (vmon : Nat) (vosm : Int32) (vohp : Int32) (vmw : Nat) (vmf : Nat) (vmb : Nat) (vomb : Int32) (vmd : Nat) (vmc : Nat) (vocm : Int32) (voct : Int32) (vocy : Int32) (vmx : Nat) (votx : Int32) (vose : Int32) (vml : Nat) (vmwr : Nat) (voln : Int32) (vohw : Int32) (vmno : Nat) (vond : Int32) (voon : Int32) (vowi : Int32) (votop : Int32) (vmnf : Nat → Int32) (vwt : Int32) (p_vmnf : NW vnh vmnf) : Met l yX11_now (wl yX11_now cX11_now 4 (some .int)) ({ frames := 6, cells := 0, slots := 0, locals := 384 }) (Pw (dC, dI) vwCl cy [(vo, .inr (12, [.int voth, .ref vmt, .int votp, .int vosz, .int volm, .int voto, .int vofr, .int vokd, .int vonu, .int vosg, .int vofa, .int vopl, .long vowd, .int votd, .ref vmn, .ref vmr, .ref vmk, .ref vms, .ref vma, .ref vmm, .ref vmrn, .ref vmkn, .ref vmik, .ref vmon, .int vosm, .int vohp, .ref vmw, .ref vmf, .ref vmb, .int vomb, .ref vmd, .ref vmc, .int vocm, .int voct, .int vocy, .ref vmx, .int votx, .int vose, .ref vml, .ref vmwr, .int voln, .int vohw, .ref vmno, .int vond, .int voon, .int vowi, .int votop])), (vmn, .inl (cy 0, 575, .inl vmnf))] sz [.ref vo, .int vwt] nE) (Qi (dC, dI) vwCl (fun (r : Int32) (u : Int32) => True) (O_m_now cy vnh vo voth vmt votp vosz volm voto vofr vokd vonu vosg vofa vopl vowd votd vmn vmr vmk vms vma vmm vmrn vmkn vmik vmon vosm vohp vmw vmf vmb vomb vmd vmc vocm voct vocy vmx votx vose vml vmwr voln vohw vmno vond voon vowi votop vmnf vwt) (va_A [(vo, .inr (12, [.int voth, .ref vmt, .int votp, .int vosz, .int volm, .int voto, .int vofr, .int vokd, .int vonu, .int vosg, .int vofa, .int vopl, .long vowd, .int votd, .ref vmn, .ref vmr, .ref vmk, .ref vms, .ref vma, .ref vmm, .ref vmrn, .ref vmkn, .ref vmik, .ref vmon, .int vosm, .int vohp, .ref vmw, .ref vmf, .ref vmb, .int vomb, .ref vmd, .ref vmc, .int vocm, .int voct, .int vocy, .ref vmx, .int votx, .int vose, .ref vml, .ref vmwr, .int voln, .int vohw, .ref vmno, .int vond, .int voon, .int vowi, .int votop])), (vmn, .inl (cy 0, 575, .inl vmnf))] sz)) 0 0 (va_A [(vo, .inr (12, [.int voth, .ref vmt, .int votp, .int vosz, .int volm, .int voto, .int vofr, .int vokd, .int vonu, .int vosg, .int vofa, .int vopl, .long vowd, .int votd, .ref vmn, .ref vmr, .ref vmk, .ref vms, .ref vma, .ref vmm, .ref vmrn, .ref vmkn, .ref vmik, .ref vmon, .int vosm, .int vohp, .ref vmw, .ref vmf, .ref vmb, .int vomb, .ref vmd, .ref vmc, .int vocm, .int voct, .int vocy, .ref vmx, .int votx, .int vose, .ref vml, .ref vmwr, .int voln, .int vohw, .ref vmno, .int vond, .int voon, .int vowi, .int votop])), (vmn, .inl (cy 0, 575, .inl vmnf))] sz) := by
  refine mw (Qc := Qi (dC, dI) vwCl (fun (r : Int32) (u : Int32) => True) (O_m_now cy vnh vo voth vmt votp vosz volm voto vofr vokd vonu vosg vofa vopl vowd votd vmn vmr vmk vms vma vmm vmrn vmkn vmik vmon vosm vohp vmw vmf vmb vomb vmd vmc vocm voct vocy vmx votx vose vml vmwr voln vohw vmno vond voon vowi votop vmnf vwt)) RX11 rfl (by decide +kernel) (Nat.le_of_ble_eq_true rfl) ?_
  intro p e s m below meth c A hx hb hr hlocks av9 hav hts hown hnm hml hK hP hD hA hS hE hAe Q9 hQ9 ls hl
  have hl : lv_has ls 4 [(0, .ref vo), (1, .int vwt)] := hl
  refine lv_aload_n hx hb dX11_now_0 rfl (lv_at hl 0 rfl) ?_
  refine lv_iconst (v := 0) hx hb dX11_now_1 (by decide) ?_
  refine pf_X11_1 hx hb hts hown hK hP hD hS 0 rfl rfl rfl (Nat.le_of_ble_eq_true rfl) dX11_now_2 (fun H locs hP hD hS => ?_)
  have hP : va_P (dC, dI) vwCl [(vo, .inr (12, [.int 0, .ref vmt, .int votp, .int vosz, .int volm, .int voto, .int vofr, .int vokd, .int vonu, .int vosg, .int vofa, .int vopl, .long vowd, .int votd, .ref vmn, .ref vmr, .ref vmk, .ref vms, .ref vma, .ref vmm, .ref vmrn, .ref vmkn, .ref vmik, .ref vmon, .int vosm, .int vohp, .ref vmw, .ref vmf, .ref vmb, .int vomb, .ref vmd, .ref vmc, .int vocm, .int voct, .int vocy, .ref vmx, .int votx, .int vose, .ref vml, .ref vmwr, .int voln, .int vohw, .ref vmno, .int vond, .int voon, .int vowi, .int votop])), (vmn, .inl (cy 0, 575, .inl vmnf))] H := hP
  have hD : va_D A [(vo, .inr (12, [.int 0, .ref vmt, .int votp, .int vosz, .int volm, .int voto, .int vofr, .int vokd, .int vonu, .int vosg, .int vofa, .int vopl, .long vowd, .int votd, .ref vmn, .ref vmr, .ref vmk, .ref vms, .ref vma, .ref vmm, .ref vmrn, .ref vmkn, .ref vmik, .ref vmon, .int vosm, .int vohp, .ref vmw, .ref vmf, .ref vmb, .int vomb, .ref vmd, .ref vmc, .int vocm, .int voct, .int vocy, .ref vmx, .int votx, .int vose, .ref vml, .ref vmwr, .int voln, .int vohw, .ref vmno, .int vond, .int voon, .int vowi, .int votop])), (vmn, .inl (cy 0, 575, .inl vmnf))] := hD
  refine lv_iconst (v := 0) hx hb dX11_now_5 (by decide) ?_
  refine lv_istore_n (lv' := [(2, .int 0), (0, .ref vo), (1, .int vwt)]) hx hb dX11_now_6 rfl hl (by decide) rfl (fun ls hl => ?_)
  refine lv_iload_n hx hb dX11_now_7 rfl (lv_at hl 2 rfl) ?_
  have k_0 : (0 : Int32).toInt = 0 := by decide
  have k_1 : (1 : Int32).toInt = 1 := by decide
  have k_2 : (2 : Int32).toInt = 2 := by decide
  have k_3 : (3 : Int32).toInt = 3 := by decide
  have k_4 : (4 : Int32).toInt = 4 := by decide
  have k_5 : (5 : Int32).toInt = 5 := by decide
  have k_6 : (6 : Int32).toInt = 6 := by decide
  have k_7 : (7 : Int32).toInt = 7 := by decide
  by_cases sw_1_0 : vwt.toInt = 0
  · refine as_i 0 (i_eq.mpr (sw_1_0.trans k_0.symm)) ?_
    refine lv_tableIn (off := 48) (tgt := 56) hx hb dX11_now_8 (by decide) (by decide) (by decide) (by decide) ?_
    refine lv_aload_n hx hb dX11_now_56 rfl (lv_at hl 1 rfl) ?_
    refine gf_X11_98 hx hb hts hown hK hP 0 rfl rfl dX11_now_57 ?_
    refine lv_sipush (v := 157) hx hb dX11_now_60 (by decide) ?_
    have k_157 : (157 : Int32).toInt = 157 := by decide
    have hin_2 : vp_in (157 : Int32) 575 := vp_in_iff.mpr ⟨by omega, by omega⟩
    refine va_iald hx hb hK hP 1 0 rfl rfl hin_2 dX11_now_63 ?_
    refine lv_topi (fun z_3 ez_3 => ?_)
    have tz_3 : z_3.toInt = (vmnf 157).toInt := by rw [ez_3]; rfl
    rw [hQ9]
    exact re_i (0 : Int32) hx hb hr hlocks trivial (hP.sub [0, 1] rfl) (hD.sub [0, 1] rfl rfl) hS dX11_now_64
  by_cases sw_1_1 : vwt.toInt = 1
  · refine as_i 1 (i_eq.mpr (sw_1_1.trans k_1.symm)) ?_
    refine lv_tableIn (off := 57) (tgt := 65) hx hb dX11_now_8 (by decide) (by decide) (by decide) (by decide) ?_
    refine lv_aload_n hx hb dX11_now_65 rfl (lv_at hl 1 rfl) ?_
    refine lv_iload_n hx hb dX11_now_66 rfl (lv_at hl 2 rfl) ?_
    refine lv_iconst (v := 1) hx hb dX11_now_67 (by decide) ?_
    refine lv_isub hx hb dX11_now_68 ?_
    refine lv_topi (fun z_4 ez_4 => ?_)
    have bz_4 : z_4.toInt = vwt.toInt - (1 : Int32).toInt := i_sub ez_4 (by omega) (by omega)
    refine jr_i (rVr (As := [.int z_4]) (rest := []) (ci := 12) ⟨hx, hb, hml, hown, hts⟩ (m_those l dC dI cy vnh vo 0 vmt votp vosz volm voto vofr vokd vonu vosg vofa vopl vowd votd vmn vmr vmk vms vma vmm vmrn vmkn vmik vmon vosm vohp vmw vmf vmb vomb vmd vmc vocm voct vocy vmx votx vose vml vmwr voln vohw vmno vond voon vowi votop vmnf z_4 p_vmnf) (cw_X11_262 hts rfl rfl ⟨Nat.le_of_ble_eq_true rfl, Nat.le_of_ble_eq_true rfl⟩) hP hK [0, 1] rfl rfl rfl rfl hl.1 rfl (Nat.le_of_ble_eq_true rfl) dX11_now_69 ⟨Nat.le_of_ble_eq_true rfl, Nat.le_of_ble_eq_true rfl⟩) hP hS (fun r_5 H locs hp_6 hP hS => ?_)
    rw [hQ9]
    exact re_i (0 : Int32) hx hb hr hlocks trivial (hP.sub [0, 1] rfl) (hD.sub [0, 1] rfl rfl) hS dX11_now_72
  by_cases sw_1_2 : vwt.toInt = 2
  · refine as_i 2 (i_eq.mpr (sw_1_2.trans k_2.symm)) ?_
    refine lv_tableIn (off := 57) (tgt := 65) hx hb dX11_now_8 (by decide) (by decide) (by decide) (by decide) ?_
    refine lv_aload_n hx hb dX11_now_65 rfl (lv_at hl 1 rfl) ?_
    refine lv_iload_n hx hb dX11_now_66 rfl (lv_at hl 2 rfl) ?_
    refine lv_iconst (v := 1) hx hb dX11_now_67 (by decide) ?_
    refine lv_isub hx hb dX11_now_68 ?_
    refine lv_topi (fun z_7 ez_7 => ?_)
    have bz_7 : z_7.toInt = vwt.toInt - (1 : Int32).toInt := i_sub ez_7 (by omega) (by omega)
    refine jr_i (rVr (As := [.int z_7]) (rest := []) (ci := 12) ⟨hx, hb, hml, hown, hts⟩ (m_those l dC dI cy vnh vo 0 vmt votp vosz volm voto vofr vokd vonu vosg vofa vopl vowd votd vmn vmr vmk vms vma vmm vmrn vmkn vmik vmon vosm vohp vmw vmf vmb vomb vmd vmc vocm voct vocy vmx votx vose vml vmwr voln vohw vmno vond voon vowi votop vmnf z_7 p_vmnf) (cw_X11_262 hts rfl rfl ⟨Nat.le_of_ble_eq_true rfl, Nat.le_of_ble_eq_true rfl⟩) hP hK [0, 1] rfl rfl rfl rfl hl.1 rfl (Nat.le_of_ble_eq_true rfl) dX11_now_69 ⟨Nat.le_of_ble_eq_true rfl, Nat.le_of_ble_eq_true rfl⟩) hP hS (fun r_8 H locs hp_9 hP hS => ?_)
    rw [hQ9]
    exact re_i (0 : Int32) hx hb hr hlocks trivial (hP.sub [0, 1] rfl) (hD.sub [0, 1] rfl rfl) hS dX11_now_72
  by_cases sw_1_3 : vwt.toInt = 3
  · refine as_i 3 (i_eq.mpr (sw_1_3.trans k_3.symm)) ?_
    refine lv_tableIn (off := 57) (tgt := 65) hx hb dX11_now_8 (by decide) (by decide) (by decide) (by decide) ?_
    refine lv_aload_n hx hb dX11_now_65 rfl (lv_at hl 1 rfl) ?_
    refine lv_iload_n hx hb dX11_now_66 rfl (lv_at hl 2 rfl) ?_
    refine lv_iconst (v := 1) hx hb dX11_now_67 (by decide) ?_
    refine lv_isub hx hb dX11_now_68 ?_
    refine lv_topi (fun z_10 ez_10 => ?_)
    have bz_10 : z_10.toInt = vwt.toInt - (1 : Int32).toInt := i_sub ez_10 (by omega) (by omega)
    refine jr_i (rVr (As := [.int z_10]) (rest := []) (ci := 12) ⟨hx, hb, hml, hown, hts⟩ (m_those l dC dI cy vnh vo 0 vmt votp vosz volm voto vofr vokd vonu vosg vofa vopl vowd votd vmn vmr vmk vms vma vmm vmrn vmkn vmik vmon vosm vohp vmw vmf vmb vomb vmd vmc vocm voct vocy vmx votx vose vml vmwr voln vohw vmno vond voon vowi votop vmnf z_10 p_vmnf) (cw_X11_262 hts rfl rfl ⟨Nat.le_of_ble_eq_true rfl, Nat.le_of_ble_eq_true rfl⟩) hP hK [0, 1] rfl rfl rfl rfl hl.1 rfl (Nat.le_of_ble_eq_true rfl) dX11_now_69 ⟨Nat.le_of_ble_eq_true rfl, Nat.le_of_ble_eq_true rfl⟩) hP hS (fun r_11 H locs hp_12 hP hS => ?_)
    rw [hQ9]
    exact re_i (0 : Int32) hx hb hr hlocks trivial (hP.sub [0, 1] rfl) (hD.sub [0, 1] rfl rfl) hS dX11_now_72
  by_cases sw_1_4 : vwt.toInt = 4
  · refine as_i 4 (i_eq.mpr (sw_1_4.trans k_4.symm)) ?_
    refine lv_tableIn (off := 65) (tgt := 73) hx hb dX11_now_8 (by decide) (by decide) (by decide) (by decide) ?_
    refine lv_iconst (v := 0) hx hb dX11_now_73 (by decide) ?_
    refine lv_istore_n (lv' := [(3, .int 0), (2, .int 0), (0, .ref vo), (1, .int vwt)]) hx hb dX11_now_74 rfl hl (by decide) rfl (fun ls hl => ?_)
    have loop13 : ∀ (n13 : Nat) (x_15 : Int32) (x_14 : Int32), (0 ≤ x_14.toInt ∧ x_14.toInt ≤ 7) → 7 - x_14.toInt < (n13 : Int) → ∀ (H : Heap) (locs : List Loc), va_P (dC, dI) vwCl [(vo, .inr (12, [.int 0, .ref vmt, .int votp, .int vosz, .int volm, .int voto, .int vofr, .int vokd, .int vonu, .int vosg, .int vofa, .int vopl, .long vowd, .int votd, .ref vmn, .ref vmr, .ref vmk, .ref vms, .ref vma, .ref vmm, .ref vmrn, .ref vmkn, .ref vmik, .ref vmon, .int vosm, .int vohp, .ref vmw, .ref vmf, .ref vmb, .int vomb, .ref vmd, .ref vmc, .int vocm, .int voct, .int vocy, .ref vmx, .int votx, .int vose, .ref vml, .ref vmwr, .int voln, .int vohw, .ref vmno, .int vond, .int voon, .int vowi, .int votop])), (vmn, .inl (cy 0, 575, .inl vmnf))] H → va_D A [(vo, .inr (12, [.int 0, .ref vmt, .int votp, .int vosz, .int volm, .int voto, .int vofr, .int vokd, .int vonu, .int vosg, .int vofa, .int vopl, .long vowd, .int votd, .ref vmn, .ref vmr, .ref vmk, .ref vms, .ref vma, .ref vmm, .ref vmrn, .ref vmkn, .ref vmik, .ref vmon, .int vosm, .int vohp, .ref vmw, .ref vmf, .ref vmb, .int vomb, .ref vmd, .ref vmc, .int vocm, .int voct, .int vocy, .ref vmx, .int votx, .int vose, .ref vml, .ref vmwr, .int voln, .int vohw, .ref vmno, .int vond, .int voon, .int vowi, .int votop])), (vmn, .inl (cy 0, 575, .inl vmnf))] → va_S A s.heap H locs → ∀ ls : Array Slot, lv_has ls 4 [(3, .int x_14), (2, .int x_15), (0, .ref vo), (1, .int vwt)] → W p l e ({ frames := 6, cells := 0, slots := 0, locals := 384 }) s m av9 below meth c H locs 0 0 Q9 (F0 m 75 ls []) := by
      intro n13
      induction n13 with
      | zero =>
        intro x_15 x_14 bx_14 hn13 H locs hP hD hS ls hl
        exfalso; omega
      | succ n13 ih13 =>
        intro x_15 x_14 bx_14 hn13 H locs hP hD hS ls hl
        refine lv_iload_n hx hb dX11_now_75 rfl (lv_at hl 0 rfl) ?_
        refine lv_aload_n hx hb dX11_now_76 rfl (lv_at hl 2 rfl) ?_
        refine gf_X11_98 hx hb hts hown hK hP 0 rfl rfl dX11_now_77 ?_
        refine lv_iconst (v := 0) hx hb dX11_now_80 (by decide) ?_
        have hin_16 : vp_in (0 : Int32) 575 := vp_in_iff.mpr ⟨by omega, by omega⟩
        refine va_iald hx hb hK hP 1 0 rfl rfl hin_16 dX11_now_81 ?_
        refine lv_topi (fun z_17 ez_17 => ?_)
        have bz_17 := p_vmnf.a0 (x := 0) ⟨by omega, by omega⟩ ez_17
        have tz_17 : z_17.toInt = (vmnf 0).toInt := by rw [ez_17]; rfl
        refine lv_icmp_ge (tgt := 105) hx hb dX11_now_82 (by decide) (fun c_18 => ?_) (fun c_18 => ?_)
        · skip
          have c_18 : z_17.toInt ≤ x_14.toInt := i_le.mp c_18
          refine lv_iload_n hx hb dX11_now_105 rfl (lv_at hl 1 rfl) ?_
          rw [hQ9]
          exact re_i (0 : Int32) hx hb hr hlocks trivial (hP.sub [0, 1] rfl) (hD.sub [0, 1] rfl rfl) hS dX11_now_106
        · skip
          have c_18 : ¬ (z_17.toInt ≤ x_14.toInt) := fun h9 => c_18 (i_le.mpr h9)
          refine lv_aload_n hx hb dX11_now_85 rfl (lv_at hl 2 rfl) ?_
          refine lv_iload_n hx hb dX11_now_86 rfl (lv_at hl 0 rfl) ?_
          refine jr_i (rVr (As := [.int x_14]) (rest := []) (ci := 12) ⟨hx, hb, hml, hown, hts⟩ (m_lends l dC dI cy vnh vo 0 vmt votp vosz volm voto vofr vokd vonu vosg vofa vopl vowd votd vmn vmr vmk vms vma vmm vmrn vmkn vmik vmon vosm vohp vmw vmf vmb vomb vmd vmc vocm voct vocy vmx votx vose vml vmwr voln vohw vmno vond voon vowi votop vmnf x_14 ⟨by omega, by omega⟩ p_vmnf) (cw_X11_265 hts rfl rfl ⟨Nat.le_of_ble_eq_true rfl, Nat.le_of_ble_eq_true rfl⟩) hP hK [0, 1] rfl rfl rfl rfl hl.1 rfl (Nat.le_of_ble_eq_true rfl) dX11_now_87 ⟨Nat.le_of_ble_eq_true rfl, Nat.le_of_ble_eq_true rfl⟩) hP hS (fun r_19 H locs hp_20 hP hS => ?_)
          have hp_20 : ((r_19 = 0) ∨ (r_19 = 1)) := hp_20
          have q_21 := hp_20
          rcases q_21 with aq_21 | aq_21
          · skip
            refine as_i 0 aq_21 ?_
            refine lv_if_eq (tgt := 99) hx hb dX11_now_90 (by decide) (fun _ => ?_) (fun c9 => absurd (by decide) c9)
            obtain ⟨z_22, ez_22⟩ : ∃ z : Int32, z = x_14 + 1 := ⟨_, rfl⟩
            have bz_22 : z_22.toInt = x_14.toInt + (1 : Int32).toInt := i_add ez_22 (by omega) (by omega)
            refine lv_iinc (v := z_22) (lv' := [(3, .int z_22), (2, .int x_15), (0, .ref vo), (1, .int vwt)]) hx hb dX11_now_99 hl (k := 0) rfl ez_22.symm (by decide) rfl (fun ls hl => ?_)
            refine lv_goto (tgt := 75) hx hb dX11_now_102 (by decide) ?_
            exact ih13 x_15 z_22 ⟨by omega, by omega⟩ (by omega) _ _ (hP.sub [0, 1] rfl) (hD.sub [0, 1] rfl rfl) hS ls (lv_sub hl [0, 1, 2, 3] rfl)
          · skip
            refine as_i 1 aq_21 ?_
            refine lv_if_eq (tgt := 99) hx hb dX11_now_90 (by decide) (fun c9 => absurd c9 (by decide)) (fun _ => ?_)
            refine lv_iload_n hx hb dX11_now_93 rfl (lv_at hl 1 rfl) ?_
            refine lv_iconst (v := 1) hx hb dX11_now_94 (by decide) ?_
            refine lv_iload_n hx hb dX11_now_95 rfl (lv_at hl 0 rfl) ?_
            refine lv_ishl hx hb dX11_now_96 ?_
            refine lv_topi (fun z_23 ez_23 => ?_)
            have bz_23 : 1 ≤ z_23.toInt ∧ z_23.toInt ≤ 128 := i_shl7 ez_23 ⟨by omega, by omega⟩
            refine lv_ior hx hb dX11_now_97 ?_
            refine lv_topi (fun z_24 ez_24 => ?_)
            refine lv_istore_n (lv' := [(2, .int z_24), (3, .int x_14), (0, .ref vo), (1, .int vwt)]) hx hb dX11_now_98 rfl hl (by decide) rfl (fun ls hl => ?_)
            obtain ⟨z_25, ez_25⟩ : ∃ z : Int32, z = x_14 + 1 := ⟨_, rfl⟩
            have bz_25 : z_25.toInt = x_14.toInt + (1 : Int32).toInt := i_add ez_25 (by omega) (by omega)
            refine lv_iinc (v := z_25) (lv' := [(3, .int z_25), (2, .int z_24), (0, .ref vo), (1, .int vwt)]) hx hb dX11_now_99 hl (k := 1) rfl ez_25.symm (by decide) rfl (fun ls hl => ?_)
            refine lv_goto (tgt := 75) hx hb dX11_now_102 (by decide) ?_
            exact ih13 z_24 z_25 ⟨by omega, by omega⟩ (by omega) _ _ (hP.sub [0, 1] rfl) (hD.sub [0, 1] rfl rfl) hS ls (lv_sub hl [0, 1, 2, 3] rfl)
    exact loop13 ((7 - (0 : Int32).toInt).toNat + 1) 0 0 ⟨by omega, by omega⟩ (by omega) _ _ hP hD hS ls (lv_sub hl [0, 1, 2, 3] rfl)
  by_cases sw_1_5 : vwt.toInt = 5
  · refine as_i 5 (i_eq.mpr (sw_1_5.trans k_5.symm)) ?_
    refine lv_tableIn (off := 99) (tgt := 107) hx hb dX11_now_8 (by decide) (by decide) (by decide) (by decide) ?_
    refine lv_iconst (v := 0) hx hb dX11_now_107 (by decide) ?_
    refine lv_istore_n (lv' := [(3, .int 0), (2, .int 0), (0, .ref vo), (1, .int vwt)]) hx hb dX11_now_108 rfl hl (by decide) rfl (fun ls hl => ?_)
    have loop26 : ∀ (n26 : Nat) (x_28 : Int32) (x_27 : Int32), (0 ≤ x_27.toInt ∧ x_27.toInt ≤ 7) → 7 - x_27.toInt < (n26 : Int) → ∀ (H : Heap) (locs : List Loc), va_P (dC, dI) vwCl [(vo, .inr (12, [.int 0, .ref vmt, .int votp, .int vosz, .int volm, .int voto, .int vofr, .int vokd, .int vonu, .int vosg, .int vofa, .int vopl, .long vowd, .int votd, .ref vmn, .ref vmr, .ref vmk, .ref vms, .ref vma, .ref vmm, .ref vmrn, .ref vmkn, .ref vmik, .ref vmon, .int vosm, .int vohp, .ref vmw, .ref vmf, .ref vmb, .int vomb, .ref vmd, .ref vmc, .int vocm, .int voct, .int vocy, .ref vmx, .int votx, .int vose, .ref vml, .ref vmwr, .int voln, .int vohw, .ref vmno, .int vond, .int voon, .int vowi, .int votop])), (vmn, .inl (cy 0, 575, .inl vmnf))] H → va_D A [(vo, .inr (12, [.int 0, .ref vmt, .int votp, .int vosz, .int volm, .int voto, .int vofr, .int vokd, .int vonu, .int vosg, .int vofa, .int vopl, .long vowd, .int votd, .ref vmn, .ref vmr, .ref vmk, .ref vms, .ref vma, .ref vmm, .ref vmrn, .ref vmkn, .ref vmik, .ref vmon, .int vosm, .int vohp, .ref vmw, .ref vmf, .ref vmb, .int vomb, .ref vmd, .ref vmc, .int vocm, .int voct, .int vocy, .ref vmx, .int votx, .int vose, .ref vml, .ref vmwr, .int voln, .int vohw, .ref vmno, .int vond, .int voon, .int vowi, .int votop])), (vmn, .inl (cy 0, 575, .inl vmnf))] → va_S A s.heap H locs → ∀ ls : Array Slot, lv_has ls 4 [(3, .int x_27), (2, .int x_28), (0, .ref vo), (1, .int vwt)] → W p l e ({ frames := 6, cells := 0, slots := 0, locals := 384 }) s m av9 below meth c H locs 0 0 Q9 (F0 m 109 ls []) := by
      intro n26
      induction n26 with
      | zero =>
        intro x_28 x_27 bx_27 hn26 H locs hP hD hS ls hl
        exfalso; omega
      | succ n26 ih26 =>
        intro x_28 x_27 bx_27 hn26 H locs hP hD hS ls hl
        refine lv_iload_n hx hb dX11_now_109 rfl (lv_at hl 0 rfl) ?_
        refine lv_aload_n hx hb dX11_now_110 rfl (lv_at hl 2 rfl) ?_
        refine gf_X11_98 hx hb hts hown hK hP 0 rfl rfl dX11_now_111 ?_
        refine lv_iconst (v := 0) hx hb dX11_now_114 (by decide) ?_
        have hin_29 : vp_in (0 : Int32) 575 := vp_in_iff.mpr ⟨by omega, by omega⟩
        refine va_iald hx hb hK hP 1 0 rfl rfl hin_29 dX11_now_115 ?_
        refine lv_topi (fun z_30 ez_30 => ?_)
        have bz_30 := p_vmnf.a0 (x := 0) ⟨by omega, by omega⟩ ez_30
        have tz_30 : z_30.toInt = (vmnf 0).toInt := by rw [ez_30]; rfl
        refine lv_icmp_ge (tgt := 146) hx hb dX11_now_116 (by decide) (fun c_31 => ?_) (fun c_31 => ?_)
        · skip
          have c_31 : z_30.toInt ≤ x_27.toInt := i_le.mp c_31
          refine lv_iload_n hx hb dX11_now_146 rfl (lv_at hl 1 rfl) ?_
          rw [hQ9]
          exact re_i (0 : Int32) hx hb hr hlocks trivial (hP.sub [0, 1] rfl) (hD.sub [0, 1] rfl rfl) hS dX11_now_147
        · skip
          have c_31 : ¬ (z_30.toInt ≤ x_27.toInt) := fun h9 => c_31 (i_le.mpr h9)
          refine lv_iload_n hx hb dX11_now_119 rfl (lv_at hl 1 rfl) ?_
          refine lv_iload_n hx hb dX11_now_120 rfl (lv_at hl 3 rfl) ?_
          refine lv_iconst (v := 5) hx hb dX11_now_121 (by decide) ?_
          refine lv_icmp_ne (tgt := 133) hx hb dX11_now_122 (by decide) (fun c9 => (c9 (i_eq.mpr (by omega))).elim) (fun _ => ?_)
          refine lv_aload_n hx hb dX11_now_125 rfl (lv_at hl 2 rfl) ?_
          refine lv_iload_n hx hb dX11_now_126 rfl (lv_at hl 0 rfl) ?_
          refine jr_i (rVr (As := [.int x_27]) (rest := [.int x_28]) (ci := 12) ⟨hx, hb, hml, hown, hts⟩ (m_whiteOf l dC dI cy vnh vo 0 vmt votp vosz volm voto vofr vokd vonu vosg vofa vopl vowd votd vmn vmr vmk vms vma vmm vmrn vmkn vmik vmon vosm vohp vmw vmf vmb vomb vmd vmc vocm voct vocy vmx votx vose vml vmwr voln vohw vmno vond voon vowi votop vmnf x_27 ⟨by omega, by omega⟩ p_vmnf) (cw_X11_241 hts rfl rfl ⟨Nat.le_of_ble_eq_true rfl, Nat.le_of_ble_eq_true rfl⟩) hP hK [0, 1] rfl rfl rfl rfl hl.1 rfl (Nat.le_of_ble_eq_true rfl) dX11_now_127 ⟨Nat.le_of_ble_eq_true rfl, Nat.le_of_ble_eq_true rfl⟩) hP hS (fun r_32 H locs hp_33 hP hS => ?_)
          refine lv_goto (tgt := 138) hx hb dX11_now_130 (by decide) ?_
          refine lv_iadd hx hb dX11_now_138 ?_
          refine lv_topi (fun z_34 ez_34 => ?_)
          refine lv_istore_n (lv' := [(2, .int z_34), (3, .int x_27), (0, .ref vo), (1, .int vwt)]) hx hb dX11_now_139 rfl hl (by decide) rfl (fun ls hl => ?_)
          obtain ⟨z_35, ez_35⟩ : ∃ z : Int32, z = x_27 + 1 := ⟨_, rfl⟩
          have bz_35 : z_35.toInt = x_27.toInt + (1 : Int32).toInt := i_add ez_35 (by omega) (by omega)
          refine lv_iinc (v := z_35) (lv' := [(3, .int z_35), (2, .int z_34), (0, .ref vo), (1, .int vwt)]) hx hb dX11_now_140 hl (k := 1) rfl ez_35.symm (by decide) rfl (fun ls hl => ?_)
          refine lv_goto (tgt := 109) hx hb dX11_now_143 (by decide) ?_
          exact ih26 z_34 z_35 ⟨by omega, by omega⟩ (by omega) _ _ (hP.sub [0, 1] rfl) (hD.sub [0, 1] rfl rfl) hS ls (lv_sub hl [0, 1, 2, 3] rfl)
    exact loop26 ((7 - (0 : Int32).toInt).toNat + 1) 0 0 ⟨by omega, by omega⟩ (by omega) _ _ hP hD hS ls (lv_sub hl [0, 1, 2, 3] rfl)
  by_cases sw_1_6 : vwt.toInt = 6
  · refine as_i 6 (i_eq.mpr (sw_1_6.trans k_6.symm)) ?_
    refine lv_tableIn (off := 99) (tgt := 107) hx hb dX11_now_8 (by decide) (by decide) (by decide) (by decide) ?_
    refine lv_iconst (v := 0) hx hb dX11_now_107 (by decide) ?_
    refine lv_istore_n (lv' := [(3, .int 0), (2, .int 0), (0, .ref vo), (1, .int vwt)]) hx hb dX11_now_108 rfl hl (by decide) rfl (fun ls hl => ?_)
    have loop36 : ∀ (n36 : Nat) (x_38 : Int32) (x_37 : Int32), (0 ≤ x_37.toInt ∧ x_37.toInt ≤ 7) → 7 - x_37.toInt < (n36 : Int) → ∀ (H : Heap) (locs : List Loc), va_P (dC, dI) vwCl [(vo, .inr (12, [.int 0, .ref vmt, .int votp, .int vosz, .int volm, .int voto, .int vofr, .int vokd, .int vonu, .int vosg, .int vofa, .int vopl, .long vowd, .int votd, .ref vmn, .ref vmr, .ref vmk, .ref vms, .ref vma, .ref vmm, .ref vmrn, .ref vmkn, .ref vmik, .ref vmon, .int vosm, .int vohp, .ref vmw, .ref vmf, .ref vmb, .int vomb, .ref vmd, .ref vmc, .int vocm, .int voct, .int vocy, .ref vmx, .int votx, .int vose, .ref vml, .ref vmwr, .int voln, .int vohw, .ref vmno, .int vond, .int voon, .int vowi, .int votop])), (vmn, .inl (cy 0, 575, .inl vmnf))] H → va_D A [(vo, .inr (12, [.int 0, .ref vmt, .int votp, .int vosz, .int volm, .int voto, .int vofr, .int vokd, .int vonu, .int vosg, .int vofa, .int vopl, .long vowd, .int votd, .ref vmn, .ref vmr, .ref vmk, .ref vms, .ref vma, .ref vmm, .ref vmrn, .ref vmkn, .ref vmik, .ref vmon, .int vosm, .int vohp, .ref vmw, .ref vmf, .ref vmb, .int vomb, .ref vmd, .ref vmc, .int vocm, .int voct, .int vocy, .ref vmx, .int votx, .int vose, .ref vml, .ref vmwr, .int voln, .int vohw, .ref vmno, .int vond, .int voon, .int vowi, .int votop])), (vmn, .inl (cy 0, 575, .inl vmnf))] → va_S A s.heap H locs → ∀ ls : Array Slot, lv_has ls 4 [(3, .int x_37), (2, .int x_38), (0, .ref vo), (1, .int vwt)] → W p l e ({ frames := 6, cells := 0, slots := 0, locals := 384 }) s m av9 below meth c H locs 0 0 Q9 (F0 m 109 ls []) := by
      intro n36
      induction n36 with
      | zero =>
        intro x_38 x_37 bx_37 hn36 H locs hP hD hS ls hl
        exfalso; omega
      | succ n36 ih36 =>
        intro x_38 x_37 bx_37 hn36 H locs hP hD hS ls hl
        refine lv_iload_n hx hb dX11_now_109 rfl (lv_at hl 0 rfl) ?_
        refine lv_aload_n hx hb dX11_now_110 rfl (lv_at hl 2 rfl) ?_
        refine gf_X11_98 hx hb hts hown hK hP 0 rfl rfl dX11_now_111 ?_
        refine lv_iconst (v := 0) hx hb dX11_now_114 (by decide) ?_
        have hin_39 : vp_in (0 : Int32) 575 := vp_in_iff.mpr ⟨by omega, by omega⟩
        refine va_iald hx hb hK hP 1 0 rfl rfl hin_39 dX11_now_115 ?_
        refine lv_topi (fun z_40 ez_40 => ?_)
        have bz_40 := p_vmnf.a0 (x := 0) ⟨by omega, by omega⟩ ez_40
        have tz_40 : z_40.toInt = (vmnf 0).toInt := by rw [ez_40]; rfl
        refine lv_icmp_ge (tgt := 146) hx hb dX11_now_116 (by decide) (fun c_41 => ?_) (fun c_41 => ?_)
        · skip
          have c_41 : z_40.toInt ≤ x_37.toInt := i_le.mp c_41
          refine lv_iload_n hx hb dX11_now_146 rfl (lv_at hl 1 rfl) ?_
          rw [hQ9]
          exact re_i (0 : Int32) hx hb hr hlocks trivial (hP.sub [0, 1] rfl) (hD.sub [0, 1] rfl rfl) hS dX11_now_147
        · skip
          have c_41 : ¬ (z_40.toInt ≤ x_37.toInt) := fun h9 => c_41 (i_le.mpr h9)
          refine lv_iload_n hx hb dX11_now_119 rfl (lv_at hl 1 rfl) ?_
          refine lv_iload_n hx hb dX11_now_120 rfl (lv_at hl 3 rfl) ?_
          refine lv_iconst (v := 5) hx hb dX11_now_121 (by decide) ?_
          refine lv_icmp_ne (tgt := 133) hx hb dX11_now_122 (by decide) (fun _ => ?_) (fun c9 => absurd (i_eq.mp c9) (by omega))
          refine lv_aload_n hx hb dX11_now_133 rfl (lv_at hl 2 rfl) ?_
          refine lv_iload_n hx hb dX11_now_134 rfl (lv_at hl 0 rfl) ?_
          refine jr_i (rVr (As := [.int x_37]) (rest := [.int x_38]) (ci := 12) ⟨hx, hb, hml, hown, hts⟩ (m_darkOf l dC dI cy vnh vo 0 vmt votp vosz volm voto vofr vokd vonu vosg vofa vopl vowd votd vmn vmr vmk vms vma vmm vmrn vmkn vmik vmon vosm vohp vmw vmf vmb vomb vmd vmc vocm voct vocy vmx votx vose vml vmwr voln vohw vmno vond voon vowi votop vmnf x_37 ⟨by omega, by omega⟩ p_vmnf) (cw_X11_244 hts rfl rfl ⟨Nat.le_of_ble_eq_true rfl, Nat.le_of_ble_eq_true rfl⟩) hP hK [0, 1] rfl rfl rfl rfl hl.1 rfl (Nat.le_of_ble_eq_true rfl) dX11_now_135 ⟨Nat.le_of_ble_eq_true rfl, Nat.le_of_ble_eq_true rfl⟩) hP hS (fun r_42 H locs hp_43 hP hS => ?_)
          refine lv_iadd hx hb dX11_now_138 ?_
          refine lv_topi (fun z_44 ez_44 => ?_)
          refine lv_istore_n (lv' := [(2, .int z_44), (3, .int x_37), (0, .ref vo), (1, .int vwt)]) hx hb dX11_now_139 rfl hl (by decide) rfl (fun ls hl => ?_)
          obtain ⟨z_45, ez_45⟩ : ∃ z : Int32, z = x_37 + 1 := ⟨_, rfl⟩
          have bz_45 : z_45.toInt = x_37.toInt + (1 : Int32).toInt := i_add ez_45 (by omega) (by omega)
          refine lv_iinc (v := z_45) (lv' := [(3, .int z_45), (2, .int z_44), (0, .ref vo), (1, .int vwt)]) hx hb dX11_now_140 hl (k := 1) rfl ez_45.symm (by decide) rfl (fun ls hl => ?_)
          refine lv_goto (tgt := 109) hx hb dX11_now_143 (by decide) ?_
          exact ih36 z_44 z_45 ⟨by omega, by omega⟩ (by omega) _ _ (hP.sub [0, 1] rfl) (hD.sub [0, 1] rfl rfl) hS ls (lv_sub hl [0, 1, 2, 3] rfl)
    exact loop36 ((7 - (0 : Int32).toInt).toNat + 1) 0 0 ⟨by omega, by omega⟩ (by omega) _ _ hP hD hS ls (lv_sub hl [0, 1, 2, 3] rfl)
  by_cases sw_1_7 : vwt.toInt = 7
  · refine as_i 7 (i_eq.mpr (sw_1_7.trans k_7.symm)) ?_
    refine lv_tableIn (off := 140) (tgt := 148) hx hb dX11_now_8 (by decide) (by decide) (by decide) (by decide) ?_
    refine lv_iconst (v := 0) hx hb dX11_now_148 (by decide) ?_
    refine lv_istore_n (lv' := [(3, .int 0), (2, .int 0), (0, .ref vo), (1, .int vwt)]) hx hb dX11_now_149 rfl hl (by decide) rfl (fun ls hl => ?_)
    have loop46 : ∀ (n46 : Nat) (x_48 : Int32) (x_47 : Int32), (0 ≤ x_47.toInt ∧ x_47.toInt ≤ 7) → 7 - x_47.toInt < (n46 : Int) → ∀ (H : Heap) (locs : List Loc), va_P (dC, dI) vwCl [(vo, .inr (12, [.int 0, .ref vmt, .int votp, .int vosz, .int volm, .int voto, .int vofr, .int vokd, .int vonu, .int vosg, .int vofa, .int vopl, .long vowd, .int votd, .ref vmn, .ref vmr, .ref vmk, .ref vms, .ref vma, .ref vmm, .ref vmrn, .ref vmkn, .ref vmik, .ref vmon, .int vosm, .int vohp, .ref vmw, .ref vmf, .ref vmb, .int vomb, .ref vmd, .ref vmc, .int vocm, .int voct, .int vocy, .ref vmx, .int votx, .int vose, .ref vml, .ref vmwr, .int voln, .int vohw, .ref vmno, .int vond, .int voon, .int vowi, .int votop])), (vmn, .inl (cy 0, 575, .inl vmnf))] H → va_D A [(vo, .inr (12, [.int 0, .ref vmt, .int votp, .int vosz, .int volm, .int voto, .int vofr, .int vokd, .int vonu, .int vosg, .int vofa, .int vopl, .long vowd, .int votd, .ref vmn, .ref vmr, .ref vmk, .ref vms, .ref vma, .ref vmm, .ref vmrn, .ref vmkn, .ref vmik, .ref vmon, .int vosm, .int vohp, .ref vmw, .ref vmf, .ref vmb, .int vomb, .ref vmd, .ref vmc, .int vocm, .int voct, .int vocy, .ref vmx, .int votx, .int vose, .ref vml, .ref vmwr, .int voln, .int vohw, .ref vmno, .int vond, .int voon, .int vowi, .int votop])), (vmn, .inl (cy 0, 575, .inl vmnf))] → va_S A s.heap H locs → ∀ ls : Array Slot, lv_has ls 4 [(3, .int x_47), (2, .int x_48), (0, .ref vo), (1, .int vwt)] → W p l e ({ frames := 6, cells := 0, slots := 0, locals := 384 }) s m av9 below meth c H locs 0 0 Q9 (F0 m 150 ls []) := by
      intro n46
      induction n46 with
      | zero =>
        intro x_48 x_47 bx_47 hn46 H locs hP hD hS ls hl
        exfalso; omega
      | succ n46 ih46 =>
        intro x_48 x_47 bx_47 hn46 H locs hP hD hS ls hl
        refine lv_iload_n hx hb dX11_now_150 rfl (lv_at hl 0 rfl) ?_
        refine lv_bipush (v := 7) hx hb dX11_now_151 (by decide) ?_
        refine lv_icmp_ge (tgt := 175) hx hb dX11_now_153 (by decide) (fun c_49 => ?_) (fun c_49 => ?_)
        · skip
          have c_49 : (7 : Int32).toInt ≤ x_47.toInt := i_le.mp c_49
          refine lv_iload_n hx hb dX11_now_175 rfl (lv_at hl 1 rfl) ?_
          rw [hQ9]
          exact re_i (0 : Int32) hx hb hr hlocks trivial (hP.sub [0, 1] rfl) (hD.sub [0, 1] rfl rfl) hS dX11_now_176
        · skip
          have c_49 : ¬ ((7 : Int32).toInt ≤ x_47.toInt) := fun h9 => c_49 (i_le.mpr h9)
          refine lv_iload_n hx hb dX11_now_156 rfl (lv_at hl 1 rfl) ?_
          refine lv_aload_n hx hb dX11_now_157 rfl (lv_at hl 2 rfl) ?_
          refine gf_X11_98 hx hb hts hown hK hP 0 rfl rfl dX11_now_158 ?_
          refine lv_sipush (v := 298) hx hb dX11_now_161 (by decide) ?_
          refine lv_iload_n hx hb dX11_now_164 rfl (lv_at hl 0 rfl) ?_
          refine lv_iadd hx hb dX11_now_165 ?_
          refine lv_topi (fun z_50 ez_50 => ?_)
          have k_298 : (298 : Int32).toInt = 298 := by decide
          have bz_50 : z_50.toInt = (298 : Int32).toInt + x_47.toInt := i_add ez_50 (by omega) (by omega)
          have hin_51 : vp_in z_50 575 := vp_in_iff.mpr ⟨by omega, by omega⟩
          refine va_iald hx hb hK hP 1 0 rfl rfl hin_51 dX11_now_166 ?_
          refine lv_topi (fun z_52 ez_52 => ?_)
          refine lv_iadd hx hb dX11_now_167 ?_
          refine lv_topi (fun z_53 ez_53 => ?_)
          refine lv_istore_n (lv' := [(2, .int z_53), (3, .int x_47), (0, .ref vo), (1, .int vwt)]) hx hb dX11_now_168 rfl hl (by decide) rfl (fun ls hl => ?_)
          obtain ⟨z_54, ez_54⟩ : ∃ z : Int32, z = x_47 + 1 := ⟨_, rfl⟩
          have bz_54 : z_54.toInt = x_47.toInt + (1 : Int32).toInt := i_add ez_54 (by omega) (by omega)
          refine lv_iinc (v := z_54) (lv' := [(3, .int z_54), (2, .int z_53), (0, .ref vo), (1, .int vwt)]) hx hb dX11_now_169 hl (k := 1) rfl ez_54.symm (by decide) rfl (fun ls hl => ?_)
          refine lv_goto (tgt := 150) hx hb dX11_now_172 (by decide) ?_
          exact ih46 z_53 z_54 ⟨by omega, by omega⟩ (by omega) _ _ (hP.sub [0, 1] rfl) (hD.sub [0, 1] rfl rfl) hS ls (lv_sub hl [0, 1, 2, 3] rfl)
    exact loop46 ((7 - (0 : Int32).toInt).toNat + 1) 0 0 ⟨by omega, by omega⟩ (by omega) _ _ hP hD hS ls (lv_sub hl [0, 1, 2, 3] rfl)
  refine lv_tableOut (tgt := 177) hx hb dX11_now_8 (by omega) (by decide) ?_
  refine lv_iconst (v := (-1)) hx hb dX11_now_177 (by decide) ?_
  have k_m1 : ((-1) : Int32).toInt = (-1) := by decide
  rw [hQ9]
  exact re_i (0 : Int32) hx hb hr hlocks trivial (hP.sub [0, 1] rfl) (hD.sub [0, 1] rfl rfl) hS dX11_now_178
abbrev cX11_family : ByteArray := prog_13_method_79_code
def yX11_family : MethodName := ⟨RX11, "family", "(I)I"⟩
theorem t1857 : Cond.code yX11_family cX11_family 5 (some .int) ∈ GW := gw_mem 1971 (by decide +kernel) (by decide +kernel)
abbrev O_m_family (cy : Nat → ClassId) (vnh : Nat → Int32) (vo : Nat) (voth : Int32) (vmt : Nat) (votp : Int32) (vosz : Int32) (volm : Int32) (voto : Int32) (vofr : Int32) (vokd : Int32) (vonu : Int32) (vosg : Int32) (vofa : Int32) (vopl : Int32) (vowd : Int64) (votd : Int32) (vmn : Nat) (vmr : Nat) (vmk : Nat) (vms : Nat) (vma : Nat) (vmm : Nat) (vmrn : Nat) (vmkn : Nat) (vmik : Nat) (vmon : Nat) (vosm : Int32) (vohp : Int32) (vmw : Nat) (vmf : Nat) (vmb : Nat) (vomb : Int32) (vmd : Nat) (vmc : Nat) (vocm : Int32) (voct : Int32) (vocy : Int32) (vmx : Nat) (votx : Int32) (vose : Int32) (vml : Nat) (vmwr : Nat) (voln : Int32) (vohw : Int32) (vmno : Nat) (vond : Int32) (voon : Int32) (vowi : Int32) (votop : Int32) (vmnf : Nat → Int32) (vm : Int32) (u : Int32) : va_W := [(vo, .inr (12, [.int u, .ref vmt, .int votp, .int vosz, .int volm, .int voto, .int vofr, .int vokd, .int vonu, .int vosg, .int vofa, .int vopl, .long vowd, .int votd, .ref vmn, .ref vmr, .ref vmk, .ref vms, .ref vma, .ref vmm, .ref vmrn, .ref vmkn, .ref vmik, .ref vmon, .int vosm, .int vohp, .ref vmw, .ref vmf, .ref vmb, .int vomb, .ref vmd, .ref vmc, .int vocm, .int voct, .int vocy, .ref vmx, .int votx, .int vose, .ref vml, .ref vmwr, .int voln, .int vohw, .ref vmno, .int vond, .int voon, .int vowi, .int votop])), (vmn, .inl (cy 0, 575, .inl vmnf))]
theorem dX11_family_0 : decode cX11_family 0 = .ok (.aload_n 0, 1) := by decide +kernel
theorem dX11_family_1 : decode cX11_family 1 = .ok (.iconst 0, 1) := by decide +kernel
theorem dX11_family_2 : decode cX11_family 2 = .ok (.putfield 1, 3) := by decide +kernel
theorem dX11_family_5 : decode cX11_family 5 = .ok (.aload_n 0, 1) := by decide +kernel
theorem dX11_family_6 : decode cX11_family 6 = .ok (.iload_n 1, 1) := by decide +kernel
theorem dX11_family_7 : decode cX11_family 7 = .ok (.invokevirtual 250, 3) := by decide +kernel
theorem dX11_family_10 : decode cX11_family 10 = .ok (.ifCond .ne 5, 3) := by decide +kernel
theorem dX11_family_13 : decode cX11_family 13 = .ok (.iconst (-1), 1) := by decide +kernel
theorem dX11_family_14 : decode cX11_family 14 = .ok (.ireturn, 1) := by decide +kernel
theorem dX11_family_15 : decode cX11_family 15 = .ok (.iconst 1, 1) := by decide +kernel
theorem dX11_family_16 : decode cX11_family 16 = .ok (.iload_n 1, 1) := by decide +kernel
theorem dX11_family_17 : decode cX11_family 17 = .ok (.ishl, 1) := by decide +kernel
theorem dX11_family_18 : decode cX11_family 18 = .ok (.istore_n 2, 1) := by decide +kernel
theorem dX11_family_19 : decode cX11_family 19 = .ok (.iconst 0, 1) := by decide +kernel
theorem dX11_family_20 : decode cX11_family 20 = .ok (.istore_n 3, 1) := by decide +kernel
theorem dX11_family_21 : decode cX11_family 21 = .ok (.iload_n 3, 1) := by decide +kernel
theorem dX11_family_22 : decode cX11_family 22 = .ok (.bipush 7, 2) := by decide +kernel
theorem dX11_family_24 : decode cX11_family 24 = .ok (.if_icmp .ge 51, 3) := by decide +kernel
theorem dX11_family_75 : decode cX11_family 75 = .ok (.iload_n 2, 1) := by decide +kernel
theorem dX11_family_76 : decode cX11_family 76 = .ok (.ireturn, 1) := by decide +kernel
theorem dX11_family_27 : decode cX11_family 27 = .ok (.iconst 0, 1) := by decide +kernel
theorem dX11_family_28 : decode cX11_family 28 = .ok (.istore 4, 2) := by decide +kernel
theorem dX11_family_30 : decode cX11_family 30 = .ok (.iload 4, 2) := by decide +kernel
theorem dX11_family_32 : decode cX11_family 32 = .ok (.aload_n 0, 1) := by decide +kernel
theorem dX11_family_33 : decode cX11_family 33 = .ok (.getfield 98, 3) := by decide +kernel
theorem dX11_family_36 : decode cX11_family 36 = .ok (.iconst 0, 1) := by decide +kernel
theorem dX11_family_37 : decode cX11_family 37 = .ok (.iaload, 1) := by decide +kernel
theorem dX11_family_38 : decode cX11_family 38 = .ok (.if_icmp .ge 31, 3) := by decide +kernel
theorem dX11_family_69 : decode cX11_family 69 = .ok (.iinc 3 1, 3) := by decide +kernel
theorem dX11_family_72 : decode cX11_family 72 = .ok (.goto (-51), 3) := by decide +kernel
theorem dX11_family_41 : decode cX11_family 41 = .ok (.iload_n 2, 1) := by decide +kernel
theorem dX11_family_42 : decode cX11_family 42 = .ok (.iload 4, 2) := by decide +kernel
theorem dX11_family_44 : decode cX11_family 44 = .ok (.invokestatic 194, 3) := by decide +kernel
theorem dX11_family_47 : decode cX11_family 47 = .ok (.ifCond .eq 16, 3) := by decide +kernel
theorem dX11_family_63 : decode cX11_family 63 = .ok (.iinc 4 1, 3) := by decide +kernel
theorem dX11_family_66 : decode cX11_family 66 = .ok (.goto (-36), 3) := by decide +kernel
theorem dX11_family_50 : decode cX11_family 50 = .ok (.iload_n 2, 1) := by decide +kernel
theorem dX11_family_51 : decode cX11_family 51 = .ok (.aload_n 0, 1) := by decide +kernel
theorem dX11_family_52 : decode cX11_family 52 = .ok (.getfield 98, 3) := by decide +kernel
theorem dX11_family_55 : decode cX11_family 55 = .ok (.bipush 101, 2) := by decide +kernel
theorem dX11_family_57 : decode cX11_family 57 = .ok (.iload 4, 2) := by decide +kernel
theorem dX11_family_59 : decode cX11_family 59 = .ok (.iadd, 1) := by decide +kernel
theorem dX11_family_60 : decode cX11_family 60 = .ok (.iaload, 1) := by decide +kernel
theorem dX11_family_61 : decode cX11_family 61 = .ok (.ior, 1) := by decide +kernel
theorem dX11_family_62 : decode cX11_family 62 = .ok (.istore_n 2, 1) := by decide +kernel
set_option maxHeartbeats 4000000 in
set_option maxRecDepth 100000 in
theorem m_family (l : Launch) (dC : Nat → ClassId) (dI : Nat → Nat → Nat) (cy : Nat → ClassId) (sz : Nat) (vnh : Nat → Int32) (vo : Nat) (voth : Int32) (vmt : Nat) (votp : Int32) (vosz : Int32) (volm : Int32) (voto : Int32) (vofr : Int32) (vokd : Int32) (vonu : Int32) (vosg : Int32) (vofa : Int32) (vopl : Int32) (vowd : Int64) (votd : Int32) (vmn : Nat) (vmr : Nat) (vmk : Nat) (vms : Nat) (vma : Nat) (vmm : Nat) (vmrn : Nat) (vmkn : Nat) (vmik : Nat) (vmon : Nat) (vosm : Int32) (vohp : Int32) (vmw : Nat) (vmf : Nat) (vmb : Nat) (vomb : Int32) (vmd : Nat) (vmc : Nat) (vocm : Int32) (voct : Int32) (vocy : Int32) (vmx : Nat) (votx : Int32) (vose : Int32) (vml : Nat) (vmwr : Nat) (voln : Int32) (vohw : Int32) (vmno : Nat) (vond : Int32) (voon : Int32) (vowi : Int32) (votop : Int32) (vmnf : Nat → Int32) (vm : Int32) (p_vmnf : NW vnh vmnf) : Met l yX11_family (wl yX11_family cX11_family 5 (some .int)) ({ frames := 2, cells := 0, slots := 0, locals := 128 }) (Pw (dC, dI) vwCl cy [(vo, .inr (12, [.int voth, .ref vmt, .int votp, .int vosz, .int volm, .int voto, .int vofr, .int vokd, .int vonu, .int vosg, .int vofa, .int vopl, .long vowd, .int votd, .ref vmn, .ref vmr, .ref vmk, .ref vms, .ref vma, .ref vmm, .ref vmrn, .ref vmkn, .ref vmik, .ref vmon, .int vosm, .int vohp, .ref vmw, .ref vmf, .ref vmb, .int vomb, .ref vmd, .ref vmc, .int vocm, .int voct, .int vocy, .ref vmx, .int votx, .int vose, .ref vml, .ref vmwr, .int voln, .int vohw, .ref vmno, .int vond, .int voon, .int vowi, .int votop])), (vmn, .inl (cy 0, 575, .inl vmnf))] sz [.ref vo, .int vm] nE) (Qi (dC, dI) vwCl (fun (r : Int32) (u : Int32) => True) (O_m_family cy vnh vo voth vmt votp vosz volm voto vofr vokd vonu vosg vofa vopl vowd votd vmn vmr vmk vms vma vmm vmrn vmkn vmik vmon vosm vohp vmw vmf vmb vomb vmd vmc vocm voct vocy vmx votx vose vml vmwr voln vohw vmno vond voon vowi votop vmnf vm) (va_A [(vo, .inr (12, [.int voth, .ref vmt, .int votp, .int vosz, .int volm, .int voto, .int vofr, .int vokd, .int vonu, .int vosg, .int vofa, .int vopl, .long vowd, .int votd, .ref vmn, .ref vmr, .ref vmk, .ref vms, .ref vma, .ref vmm, .ref vmrn, .ref vmkn, .ref vmik, .ref vmon, .int vosm, .int vohp, .ref vmw, .ref vmf, .ref vmb, .int vomb, .ref vmd, .ref vmc, .int vocm, .int voct, .int vocy, .ref vmx, .int votx, .int vose, .ref vml, .ref vmwr, .int voln, .int vohw, .ref vmno, .int vond, .int voon, .int vowi, .int votop])), (vmn, .inl (cy 0, 575, .inl vmnf))] sz)) 0 0 (va_A [(vo, .inr (12, [.int voth, .ref vmt, .int votp, .int vosz, .int volm, .int voto, .int vofr, .int vokd, .int vonu, .int vosg, .int vofa, .int vopl, .long vowd, .int votd, .ref vmn, .ref vmr, .ref vmk, .ref vms, .ref vma, .ref vmm, .ref vmrn, .ref vmkn, .ref vmik, .ref vmon, .int vosm, .int vohp, .ref vmw, .ref vmf, .ref vmb, .int vomb, .ref vmd, .ref vmc, .int vocm, .int voct, .int vocy, .ref vmx, .int votx, .int vose, .ref vml, .ref vmwr, .int voln, .int vohw, .ref vmno, .int vond, .int voon, .int vowi, .int votop])), (vmn, .inl (cy 0, 575, .inl vmnf))] sz) := by
  refine mw (Qc := Qi (dC, dI) vwCl (fun (r : Int32) (u : Int32) => True) (O_m_family cy vnh vo voth vmt votp vosz volm voto vofr vokd vonu vosg vofa vopl vowd votd vmn vmr vmk vms vma vmm vmrn vmkn vmik vmon vosm vohp vmw vmf vmb vomb vmd vmc vocm voct vocy vmx votx vose vml vmwr voln vohw vmno vond voon vowi votop vmnf vm)) RX11 rfl (by decide +kernel) (Nat.le_of_ble_eq_true rfl) ?_
  intro p e s m below meth c A hx hb hr hlocks av9 hav hts hown hnm hml hK hP hD hA hS hE hAe Q9 hQ9 ls hl
  have hl : lv_has ls 5 [(0, .ref vo), (1, .int vm)] := hl
  refine lv_aload_n hx hb dX11_family_0 rfl (lv_at hl 0 rfl) ?_
  refine lv_iconst (v := 0) hx hb dX11_family_1 (by decide) ?_
  refine pf_X11_1 hx hb hts hown hK hP hD hS 0 rfl rfl rfl (Nat.le_of_ble_eq_true rfl) dX11_family_2 (fun H locs hP hD hS => ?_)
  have hP : va_P (dC, dI) vwCl [(vo, .inr (12, [.int 0, .ref vmt, .int votp, .int vosz, .int volm, .int voto, .int vofr, .int vokd, .int vonu, .int vosg, .int vofa, .int vopl, .long vowd, .int votd, .ref vmn, .ref vmr, .ref vmk, .ref vms, .ref vma, .ref vmm, .ref vmrn, .ref vmkn, .ref vmik, .ref vmon, .int vosm, .int vohp, .ref vmw, .ref vmf, .ref vmb, .int vomb, .ref vmd, .ref vmc, .int vocm, .int voct, .int vocy, .ref vmx, .int votx, .int vose, .ref vml, .ref vmwr, .int voln, .int vohw, .ref vmno, .int vond, .int voon, .int vowi, .int votop])), (vmn, .inl (cy 0, 575, .inl vmnf))] H := hP
  have hD : va_D A [(vo, .inr (12, [.int 0, .ref vmt, .int votp, .int vosz, .int volm, .int voto, .int vofr, .int vokd, .int vonu, .int vosg, .int vofa, .int vopl, .long vowd, .int votd, .ref vmn, .ref vmr, .ref vmk, .ref vms, .ref vma, .ref vmm, .ref vmrn, .ref vmkn, .ref vmik, .ref vmon, .int vosm, .int vohp, .ref vmw, .ref vmf, .ref vmb, .int vomb, .ref vmd, .ref vmc, .int vocm, .int voct, .int vocy, .ref vmx, .int votx, .int vose, .ref vml, .ref vmwr, .int voln, .int vohw, .ref vmno, .int vond, .int voon, .int vowi, .int votop])), (vmn, .inl (cy 0, 575, .inl vmnf))] := hD
  refine lv_aload_n hx hb dX11_family_5 rfl (lv_at hl 0 rfl) ?_
  refine lv_iload_n hx hb dX11_family_6 rfl (lv_at hl 1 rfl) ?_
  have k_0 : (0 : Int32).toInt = 0 := by decide
  refine jr_i (rVr (As := [.int vm]) (rest := []) (ci := 12) ⟨hx, hb, hml, hown, hts⟩ (m_isMan l dC dI cy vnh vo 0 vmt votp vosz volm voto vofr vokd vonu vosg vofa vopl vowd votd vmn vmr vmk vms vma vmm vmrn vmkn vmik vmon vosm vohp vmw vmf vmb vomb vmd vmc vocm voct vocy vmx votx vose vml vmwr voln vohw vmno vond voon vowi votop vmnf vm p_vmnf) (cw_X11_250 hts rfl rfl ⟨Nat.le_of_ble_eq_true rfl, Nat.le_of_ble_eq_true rfl⟩) hP hK [0, 1] rfl rfl rfl rfl hl.1 rfl (Nat.le_of_ble_eq_true rfl) dX11_family_7 ⟨Nat.le_of_ble_eq_true rfl, Nat.le_of_ble_eq_true rfl⟩) hP hS (fun r_1 H locs hp_2 hP hS => ?_)
  have hp_2 : ((r_1 = 0 ∧ ((vm : Int32).toInt < 0 ∨ (vmnf 0).toInt ≤ (vm : Int32).toInt)) ∨ (r_1 = 1 ∧ 0 ≤ (vm : Int32).toInt ∧ (vm : Int32).toInt ≤ 6 ∧ (vm : Int32).toInt < (vmnf 0).toInt)) := hp_2
  have q_3 := hp_2
  rcases q_3 with ⟨aq_3, f0q_3⟩ | ⟨aq_3, f0q_3, f1q_3, f2q_3⟩
  · skip
    refine as_i 0 aq_3 ?_
    refine lv_if_ne (tgt := 15) hx hb dX11_family_10 (by decide) (fun c9 => absurd c9 (by decide)) (fun _ => ?_)
    refine lv_iconst (v := (-1)) hx hb dX11_family_13 (by decide) ?_
    have k_m1 : ((-1) : Int32).toInt = (-1) := by decide
    rw [hQ9]
    exact re_i (0 : Int32) hx hb hr hlocks trivial (hP.sub [0, 1] rfl) (hD.sub [0, 1] rfl rfl) hS dX11_family_14
  · skip
    refine as_i 1 aq_3 ?_
    refine lv_if_ne (tgt := 15) hx hb dX11_family_10 (by decide) (fun _ => ?_) (fun c9 => absurd c9 (by decide))
    refine lv_iconst (v := 1) hx hb dX11_family_15 (by decide) ?_
    refine lv_iload_n hx hb dX11_family_16 rfl (lv_at hl 1 rfl) ?_
    refine lv_ishl hx hb dX11_family_17 ?_
    refine lv_topi (fun z_4 ez_4 => ?_)
    have bz_4 : 1 ≤ z_4.toInt ∧ z_4.toInt ≤ 128 := i_shl7 ez_4 ⟨by omega, by omega⟩
    refine lv_istore_n (lv' := [(2, .int z_4), (0, .ref vo), (1, .int vm)]) hx hb dX11_family_18 rfl hl (by decide) rfl (fun ls hl => ?_)
    refine lv_iconst (v := 0) hx hb dX11_family_19 (by decide) ?_
    refine lv_istore_n (lv' := [(3, .int 0), (2, .int z_4), (0, .ref vo), (1, .int vm)]) hx hb dX11_family_20 rfl hl (by decide) rfl (fun ls hl => ?_)
    have loop5 : ∀ (n5 : Nat) (x_7 : Int32) (x_6 : Int32), (0 ≤ x_6.toInt ∧ x_6.toInt ≤ 7) → 7 - x_6.toInt < (n5 : Int) → ∀ (H : Heap) (locs : List Loc), va_P (dC, dI) vwCl [(vo, .inr (12, [.int 0, .ref vmt, .int votp, .int vosz, .int volm, .int voto, .int vofr, .int vokd, .int vonu, .int vosg, .int vofa, .int vopl, .long vowd, .int votd, .ref vmn, .ref vmr, .ref vmk, .ref vms, .ref vma, .ref vmm, .ref vmrn, .ref vmkn, .ref vmik, .ref vmon, .int vosm, .int vohp, .ref vmw, .ref vmf, .ref vmb, .int vomb, .ref vmd, .ref vmc, .int vocm, .int voct, .int vocy, .ref vmx, .int votx, .int vose, .ref vml, .ref vmwr, .int voln, .int vohw, .ref vmno, .int vond, .int voon, .int vowi, .int votop])), (vmn, .inl (cy 0, 575, .inl vmnf))] H → va_D A [(vo, .inr (12, [.int 0, .ref vmt, .int votp, .int vosz, .int volm, .int voto, .int vofr, .int vokd, .int vonu, .int vosg, .int vofa, .int vopl, .long vowd, .int votd, .ref vmn, .ref vmr, .ref vmk, .ref vms, .ref vma, .ref vmm, .ref vmrn, .ref vmkn, .ref vmik, .ref vmon, .int vosm, .int vohp, .ref vmw, .ref vmf, .ref vmb, .int vomb, .ref vmd, .ref vmc, .int vocm, .int voct, .int vocy, .ref vmx, .int votx, .int vose, .ref vml, .ref vmwr, .int voln, .int vohw, .ref vmno, .int vond, .int voon, .int vowi, .int votop])), (vmn, .inl (cy 0, 575, .inl vmnf))] → va_S A s.heap H locs → ∀ ls : Array Slot, lv_has ls 5 [(3, .int x_6), (2, .int x_7), (0, .ref vo), (1, .int vm)] → W p l e ({ frames := 2, cells := 0, slots := 0, locals := 128 }) s m av9 below meth c H locs 0 0 Q9 (F0 m 21 ls []) := by
      intro n5
      induction n5 with
      | zero =>
        intro x_7 x_6 bx_6 hn5 H locs hP hD hS ls hl
        exfalso; omega
      | succ n5 ih5 =>
        intro x_7 x_6 bx_6 hn5 H locs hP hD hS ls hl
        refine lv_iload_n hx hb dX11_family_21 rfl (lv_at hl 0 rfl) ?_
        refine lv_bipush (v := 7) hx hb dX11_family_22 (by decide) ?_
        have k_7 : (7 : Int32).toInt = 7 := by decide
        refine lv_icmp_ge (tgt := 75) hx hb dX11_family_24 (by decide) (fun c_8 => ?_) (fun c_8 => ?_)
        · skip
          have c_8 : (7 : Int32).toInt ≤ x_6.toInt := i_le.mp c_8
          refine lv_iload_n hx hb dX11_family_75 rfl (lv_at hl 1 rfl) ?_
          rw [hQ9]
          exact re_i (0 : Int32) hx hb hr hlocks trivial (hP.sub [0, 1] rfl) (hD.sub [0, 1] rfl rfl) hS dX11_family_76
        · skip
          have c_8 : ¬ ((7 : Int32).toInt ≤ x_6.toInt) := fun h9 => c_8 (i_le.mpr h9)
          refine lv_iconst (v := 0) hx hb dX11_family_27 (by decide) ?_
          refine lv_istore (lv' := [(4, .int 0), (3, .int x_6), (2, .int x_7), (0, .ref vo), (1, .int vm)]) hx hb dX11_family_28 hl (by decide) rfl (fun ls hl => ?_)
          have loop9 : ∀ (n9 : Nat) (x_11 : Int32) (x_10 : Int32), (0 ≤ x_10.toInt ∧ x_10.toInt ≤ 7) → 7 - x_10.toInt < (n9 : Int) → ∀ (H : Heap) (locs : List Loc), va_P (dC, dI) vwCl [(vo, .inr (12, [.int 0, .ref vmt, .int votp, .int vosz, .int volm, .int voto, .int vofr, .int vokd, .int vonu, .int vosg, .int vofa, .int vopl, .long vowd, .int votd, .ref vmn, .ref vmr, .ref vmk, .ref vms, .ref vma, .ref vmm, .ref vmrn, .ref vmkn, .ref vmik, .ref vmon, .int vosm, .int vohp, .ref vmw, .ref vmf, .ref vmb, .int vomb, .ref vmd, .ref vmc, .int vocm, .int voct, .int vocy, .ref vmx, .int votx, .int vose, .ref vml, .ref vmwr, .int voln, .int vohw, .ref vmno, .int vond, .int voon, .int vowi, .int votop])), (vmn, .inl (cy 0, 575, .inl vmnf))] H → va_D A [(vo, .inr (12, [.int 0, .ref vmt, .int votp, .int vosz, .int volm, .int voto, .int vofr, .int vokd, .int vonu, .int vosg, .int vofa, .int vopl, .long vowd, .int votd, .ref vmn, .ref vmr, .ref vmk, .ref vms, .ref vma, .ref vmm, .ref vmrn, .ref vmkn, .ref vmik, .ref vmon, .int vosm, .int vohp, .ref vmw, .ref vmf, .ref vmb, .int vomb, .ref vmd, .ref vmc, .int vocm, .int voct, .int vocy, .ref vmx, .int votx, .int vose, .ref vml, .ref vmwr, .int voln, .int vohw, .ref vmno, .int vond, .int voon, .int vowi, .int votop])), (vmn, .inl (cy 0, 575, .inl vmnf))] → va_S A s.heap H locs → ∀ ls : Array Slot, lv_has ls 5 [(4, .int x_10), (3, .int x_6), (2, .int x_11), (0, .ref vo), (1, .int vm)] → W p l e ({ frames := 2, cells := 0, slots := 0, locals := 128 }) s m av9 below meth c H locs 0 0 Q9 (F0 m 30 ls []) := by
            intro n9
            induction n9 with
            | zero =>
              intro x_11 x_10 bx_10 hn9 H locs hP hD hS ls hl
              exfalso; omega
            | succ n9 ih9 =>
              intro x_11 x_10 bx_10 hn9 H locs hP hD hS ls hl
              refine lv_iload hx hb dX11_family_30 (lv_at hl 0 rfl) ?_
              refine lv_aload_n hx hb dX11_family_32 rfl (lv_at hl 3 rfl) ?_
              refine gf_X11_98 hx hb hts hown hK hP 0 rfl rfl dX11_family_33 ?_
              refine lv_iconst (v := 0) hx hb dX11_family_36 (by decide) ?_
              have hin_12 : vp_in (0 : Int32) 575 := vp_in_iff.mpr ⟨by omega, by omega⟩
              refine va_iald hx hb hK hP 1 0 rfl rfl hin_12 dX11_family_37 ?_
              refine lv_topi (fun z_13 ez_13 => ?_)
              have bz_13 := p_vmnf.a0 (x := 0) ⟨by omega, by omega⟩ ez_13
              have tz_13 : z_13.toInt = (vmnf 0).toInt := by rw [ez_13]; rfl
              refine lv_icmp_ge (tgt := 69) hx hb dX11_family_38 (by decide) (fun c_14 => ?_) (fun c_14 => ?_)
              · skip
                have c_14 : z_13.toInt ≤ x_10.toInt := i_le.mp c_14
                obtain ⟨z_15, ez_15⟩ : ∃ z : Int32, z = x_6 + 1 := ⟨_, rfl⟩
                have k_1 : (1 : Int32).toInt = 1 := by decide
                have bz_15 : z_15.toInt = x_6.toInt + (1 : Int32).toInt := i_add ez_15 (by omega) (by omega)
                refine lv_iinc (v := z_15) (lv' := [(3, .int z_15), (4, .int x_10), (2, .int x_11), (0, .ref vo), (1, .int vm)]) hx hb dX11_family_69 hl (k := 1) rfl ez_15.symm (by decide) rfl (fun ls hl => ?_)
                refine lv_goto (tgt := 21) hx hb dX11_family_72 (by decide) ?_
                exact ih5 x_11 z_15 ⟨by omega, by omega⟩ (by omega) _ _ (hP.sub [0, 1] rfl) (hD.sub [0, 1] rfl rfl) hS ls (lv_sub hl [0, 2, 3, 4] rfl)
              · skip
                have c_14 : ¬ (z_13.toInt ≤ x_10.toInt) := fun h9 => c_14 (i_le.mpr h9)
                refine lv_iload_n hx hb dX11_family_41 rfl (lv_at hl 2 rfl) ?_
                refine lv_iload hx hb dX11_family_42 (lv_at hl 0 rfl) ?_
                refine jr_i (rSr (As := [.int x_11, .int x_10]) (rest := []) ⟨hx, hb, hml, hown, hts⟩ (m_has l dC dI cy x_11 x_10 ) (cw_X11_194 hts rfl rfl ⟨Nat.le_of_ble_eq_true rfl, Nat.le_of_ble_eq_true rfl⟩) hP hK [] rfl rfl hl.1 rfl (Nat.le_of_ble_eq_true rfl) dX11_family_44 ⟨Nat.le_of_ble_eq_true rfl, Nat.le_of_ble_eq_true rfl⟩) hP hS (fun r_16 H locs hp_17 hP hS => ?_)
                have hp_17 : ((r_16 = 0) ∨ (r_16 = 1)) := hp_17
                have q_18 := hp_17
                rcases q_18 with aq_18 | aq_18
                · skip
                  refine as_i 0 aq_18 ?_
                  refine lv_if_eq (tgt := 63) hx hb dX11_family_47 (by decide) (fun _ => ?_) (fun c9 => absurd (by decide) c9)
                  obtain ⟨z_19, ez_19⟩ : ∃ z : Int32, z = x_10 + 1 := ⟨_, rfl⟩
                  have k_1 : (1 : Int32).toInt = 1 := by decide
                  have bz_19 : z_19.toInt = x_10.toInt + (1 : Int32).toInt := i_add ez_19 (by omega) (by omega)
                  refine lv_iinc (v := z_19) (lv' := [(4, .int z_19), (3, .int x_6), (2, .int x_11), (0, .ref vo), (1, .int vm)]) hx hb dX11_family_63 hl (k := 0) rfl ez_19.symm (by decide) rfl (fun ls hl => ?_)
                  refine lv_goto (tgt := 30) hx hb dX11_family_66 (by decide) ?_
                  exact ih9 x_11 z_19 ⟨by omega, by omega⟩ (by omega) _ _ (hP.sub [0, 1] rfl) (hD.sub [0, 1] rfl rfl) hS ls (lv_sub hl [0, 1, 2, 3, 4] rfl)
                · skip
                  refine as_i 1 aq_18 ?_
                  refine lv_if_eq (tgt := 63) hx hb dX11_family_47 (by decide) (fun c9 => absurd c9 (by decide)) (fun _ => ?_)
                  refine lv_iload_n hx hb dX11_family_50 rfl (lv_at hl 2 rfl) ?_
                  refine lv_aload_n hx hb dX11_family_51 rfl (lv_at hl 3 rfl) ?_
                  refine gf_X11_98 hx hb hts hown hK hP 0 rfl rfl dX11_family_52 ?_
                  refine lv_bipush (v := 101) hx hb dX11_family_55 (by decide) ?_
                  refine lv_iload hx hb dX11_family_57 (lv_at hl 0 rfl) ?_
                  refine lv_iadd hx hb dX11_family_59 ?_
                  refine lv_topi (fun z_20 ez_20 => ?_)
                  have k_101 : (101 : Int32).toInt = 101 := by decide
                  have bz_20 : z_20.toInt = (101 : Int32).toInt + x_10.toInt := i_add ez_20 (by omega) (by omega)
                  have hin_21 : vp_in z_20 575 := vp_in_iff.mpr ⟨by omega, by omega⟩
                  refine va_iald hx hb hK hP 1 0 rfl rfl hin_21 dX11_family_60 ?_
                  refine lv_topi (fun z_22 ez_22 => ?_)
                  refine lv_ior hx hb dX11_family_61 ?_
                  refine lv_topi (fun z_23 ez_23 => ?_)
                  refine lv_istore_n (lv' := [(2, .int z_23), (4, .int x_10), (3, .int x_6), (0, .ref vo), (1, .int vm)]) hx hb dX11_family_62 rfl hl (by decide) rfl (fun ls hl => ?_)
                  obtain ⟨z_24, ez_24⟩ : ∃ z : Int32, z = x_10 + 1 := ⟨_, rfl⟩
                  have k_1 : (1 : Int32).toInt = 1 := by decide
                  have bz_24 : z_24.toInt = x_10.toInt + (1 : Int32).toInt := i_add ez_24 (by omega) (by omega)
                  refine lv_iinc (v := z_24) (lv' := [(4, .int z_24), (2, .int z_23), (3, .int x_6), (0, .ref vo), (1, .int vm)]) hx hb dX11_family_63 hl (k := 1) rfl ez_24.symm (by decide) rfl (fun ls hl => ?_)
                  refine lv_goto (tgt := 30) hx hb dX11_family_66 (by decide) ?_
                  exact ih9 z_23 z_24 ⟨by omega, by omega⟩ (by omega) _ _ (hP.sub [0, 1] rfl) (hD.sub [0, 1] rfl rfl) hS ls (lv_sub hl [0, 2, 1, 3, 4] rfl)
          exact loop9 ((7 - (0 : Int32).toInt).toNat + 1) x_7 0 ⟨by omega, by omega⟩ (by omega) _ _ hP hD hS ls (lv_sub hl [0, 1, 2, 3, 4] rfl)
    exact loop5 ((7 - (0 : Int32).toInt).toNat + 1) z_4 0 ⟨by omega, by omega⟩ (by omega) _ _ hP hD hS ls (lv_sub hl [0, 1, 2, 3] rfl)
abbrev cX11_balance : ByteArray := prog_13_method_81_code
def yX11_balance : MethodName := ⟨RX11, "balance", "(II)I"⟩
theorem t1861 : Cond.code yX11_balance cX11_balance 6 (some .int) ∈ GW := gw_mem 1975 (by decide +kernel) (by decide +kernel)
abbrev O_m_balance (cy : Nat → ClassId) (vnh : Nat → Int32) (vo : Nat) (voth : Int32) (vmt : Nat) (votp : Int32) (vosz : Int32) (volm : Int32) (voto : Int32) (vofr : Int32) (vokd : Int32) (vonu : Int32) (vosg : Int32) (vofa : Int32) (vopl : Int32) (vowd : Int64) (votd : Int32) (vmn : Nat) (vmr : Nat) (vmk : Nat) (vms : Nat) (vma : Nat) (vmm : Nat) (vmrn : Nat) (vmkn : Nat) (vmik : Nat) (vmon : Nat) (vosm : Int32) (vohp : Int32) (vmw : Nat) (vmf : Nat) (vmb : Nat) (vomb : Int32) (vmd : Nat) (vmc : Nat) (vocm : Int32) (voct : Int32) (vocy : Int32) (vmx : Nat) (votx : Int32) (vose : Int32) (vml : Nat) (vmwr : Nat) (voln : Int32) (vohw : Int32) (vmno : Nat) (vond : Int32) (voon : Int32) (vowi : Int32) (votop : Int32) (vmnf : Nat → Int32) (vx : Int32) (vy : Int32) (u : Int32) : va_W := [(vo, .inr (12, [.int u, .ref vmt, .int votp, .int vosz, .int volm, .int voto, .int vofr, .int vokd, .int vonu, .int vosg, .int vofa, .int vopl, .long vowd, .int votd, .ref vmn, .ref vmr, .ref vmk, .ref vms, .ref vma, .ref vmm, .ref vmrn, .ref vmkn, .ref vmik, .ref vmon, .int vosm, .int vohp, .ref vmw, .ref vmf, .ref vmb, .int vomb, .ref vmd, .ref vmc, .int vocm, .int voct, .int vocy, .ref vmx, .int votx, .int vose, .ref vml, .ref vmwr, .int voln, .int vohw, .ref vmno, .int vond, .int voon, .int vowi, .int votop])), (vmn, .inl (cy 0, 575, .inl vmnf))]
theorem dX11_balance_0 : decode cX11_balance 0 = .ok (.aload_n 0, 1) := by decide +kernel
theorem dX11_balance_1 : decode cX11_balance 1 = .ok (.iconst 0, 1) := by decide +kernel
theorem dX11_balance_2 : decode cX11_balance 2 = .ok (.putfield 1, 3) := by decide +kernel
theorem dX11_balance_5 : decode cX11_balance 5 = .ok (.iconst 1, 1) := by decide +kernel
theorem dX11_balance_6 : decode cX11_balance 6 = .ok (.aload_n 0, 1) := by decide +kernel
theorem dX11_balance_7 : decode cX11_balance 7 = .ok (.getfield 98, 3) := by decide +kernel
theorem dX11_balance_10 : decode cX11_balance 10 = .ok (.iconst 0, 1) := by decide +kernel
theorem dX11_balance_11 : decode cX11_balance 11 = .ok (.iaload, 1) := by decide +kernel
theorem dX11_balance_12 : decode cX11_balance 12 = .ok (.ishl, 1) := by decide +kernel
theorem dX11_balance_13 : decode cX11_balance 13 = .ok (.iconst 1, 1) := by decide +kernel
theorem dX11_balance_14 : decode cX11_balance 14 = .ok (.isub, 1) := by decide +kernel
theorem dX11_balance_15 : decode cX11_balance 15 = .ok (.istore_n 3, 1) := by decide +kernel
theorem dX11_balance_16 : decode cX11_balance 16 = .ok (.iload_n 1, 1) := by decide +kernel
theorem dX11_balance_17 : decode cX11_balance 17 = .ok (.iload_n 2, 1) := by decide +kernel
theorem dX11_balance_18 : decode cX11_balance 18 = .ok (.iand, 1) := by decide +kernel
theorem dX11_balance_19 : decode cX11_balance 19 = .ok (.ifCond .ne 13, 3) := by decide +kernel
theorem dX11_balance_32 : decode cX11_balance 32 = .ok (.iconst (-1), 1) := by decide +kernel
theorem dX11_balance_33 : decode cX11_balance 33 = .ok (.ireturn, 1) := by decide +kernel
theorem dX11_balance_22 : decode cX11_balance 22 = .ok (.iload_n 1, 1) := by decide +kernel
theorem dX11_balance_23 : decode cX11_balance 23 = .ok (.iload_n 2, 1) := by decide +kernel
theorem dX11_balance_24 : decode cX11_balance 24 = .ok (.ior, 1) := by decide +kernel
theorem dX11_balance_25 : decode cX11_balance 25 = .ok (.iload_n 3, 1) := by decide +kernel
theorem dX11_balance_26 : decode cX11_balance 26 = .ok (.iconst (-1), 1) := by decide +kernel
theorem dX11_balance_27 : decode cX11_balance 27 = .ok (.ixor, 1) := by decide +kernel
theorem dX11_balance_28 : decode cX11_balance 28 = .ok (.iand, 1) := by decide +kernel
theorem dX11_balance_29 : decode cX11_balance 29 = .ok (.ifCond .eq 5, 3) := by decide +kernel
theorem dX11_balance_34 : decode cX11_balance 34 = .ok (.aload_n 0, 1) := by decide +kernel
theorem dX11_balance_35 : decode cX11_balance 35 = .ok (.iload_n 1, 1) := by decide +kernel
theorem dX11_balance_36 : decode cX11_balance 36 = .ok (.invokevirtual 297, 3) := by decide +kernel
theorem t1862 : Cond.methodLink RX11 297 yX11_weightsOf ∈ GW := gw_mem 1976 (by decide +kernel) (by decide +kernel)
theorem t1864 : Cond.instanceMethod yX11_weightsOf ∈ GW := gw_mem 1978 (by decide +kernel) (by decide +kernel)
theorem s83 : Cond.selects RX11 yX11_weightsOf yX11_weightsOf ∈ GW := gw_mem 83 (by decide +kernel) (by decide +kernel)
theorem cw_X11_297 {R : Room} {s : State} {args : Array Value} {rm : Room} {mc ms : Nat} (hts : ∀ w ∈ GW, w.before args s = true) (hrc : rm.cells = mc) (hrs : rm.slots = ms) (hR : rm.frames + 1 ≤ R.frames ∧ 8 + (4 + 11) + rm.locals ≤ R.locals) : CallW R s args RX11 RX11 297 yX11_weightsOf cX11_weightsOf 4 (some .int) (wl yX11_weightsOf cX11_weightsOf 4 (some .int)) rm mc ms 1 := cwV 1 hts (gi_V t1862 t1864 s83 t18 t1865) rfl hrc hrs (by decide +kernel) hR
theorem dX11_balance_39 : decode cX11_balance 39 = .ok (.istore 4, 2) := by decide +kernel
theorem dX11_balance_41 : decode cX11_balance 41 = .ok (.aload_n 0, 1) := by decide +kernel
theorem dX11_balance_42 : decode cX11_balance 42 = .ok (.iload_n 2, 1) := by decide +kernel
theorem dX11_balance_43 : decode cX11_balance 43 = .ok (.invokevirtual 297, 3) := by decide +kernel
theorem dX11_balance_46 : decode cX11_balance 46 = .ok (.istore 5, 2) := by decide +kernel
theorem dX11_balance_48 : decode cX11_balance 48 = .ok (.iload 4, 2) := by decide +kernel
theorem dX11_balance_50 : decode cX11_balance 50 = .ok (.iload 5, 2) := by decide +kernel
theorem dX11_balance_52 : decode cX11_balance 52 = .ok (.if_icmp .ne 7, 3) := by decide +kernel
theorem dX11_balance_59 : decode cX11_balance 59 = .ok (.iload 4, 2) := by decide +kernel
theorem dX11_balance_61 : decode cX11_balance 61 = .ok (.iload 5, 2) := by decide +kernel
theorem dX11_balance_63 : decode cX11_balance 63 = .ok (.if_icmp .le 7, 3) := by decide +kernel
theorem dX11_balance_70 : decode cX11_balance 70 = .ok (.iconst 2, 1) := by decide +kernel
theorem dX11_balance_71 : decode cX11_balance 71 = .ok (.ireturn, 1) := by decide +kernel
theorem dX11_balance_66 : decode cX11_balance 66 = .ok (.iconst 1, 1) := by decide +kernel
theorem dX11_balance_67 : decode cX11_balance 67 = .ok (.goto 4, 3) := by decide +kernel
theorem dX11_balance_55 : decode cX11_balance 55 = .ok (.iconst 0, 1) := by decide +kernel
theorem dX11_balance_56 : decode cX11_balance 56 = .ok (.goto 15, 3) := by decide +kernel
set_option maxHeartbeats 4000000 in
set_option maxRecDepth 100000 in
theorem m_balance (l : Launch) (dC : Nat → ClassId) (dI : Nat → Nat → Nat) (cy : Nat → ClassId) (sz : Nat) (vnh : Nat → Int32) (vo : Nat) (voth : Int32) (vmt : Nat) (votp : Int32) (vosz : Int32) (volm : Int32) (voto : Int32) (vofr : Int32) (vokd : Int32) (vonu : Int32) (vosg : Int32) (vofa : Int32) (vopl : Int32) (vowd : Int64) (votd : Int32) (vmn : Nat) (vmr : Nat) (vmk : Nat) (vms : Nat) (vma : Nat) (vmm : Nat) (vmrn : Nat) (vmkn : Nat) (vmik : Nat) (vmon : Nat) (vosm : Int32) (vohp : Int32) (vmw : Nat) (vmf : Nat) (vmb : Nat) (vomb : Int32) (vmd : Nat) (vmc : Nat) (vocm : Int32) (voct : Int32) (vocy : Int32) (vmx : Nat) (votx : Int32) (vose : Int32) (vml : Nat) (vmwr : Nat) (voln : Int32) (vohw : Int32) (vmno : Nat) (vond : Int32) (voon : Int32) (vowi : Int32) (votop : Int32) (vmnf : Nat → Int32) (vx : Int32) (vy : Int32) (p_vmnf : NW vnh vmnf) : Met l yX11_balance (wl yX11_balance cX11_balance 6 (some .int)) ({ frames := 5, cells := 0, slots := 0, locals := 320 }) (Pw (dC, dI) vwCl cy [(vo, .inr (12, [.int voth, .ref vmt, .int votp, .int vosz, .int volm, .int voto, .int vofr, .int vokd, .int vonu, .int vosg, .int vofa, .int vopl, .long vowd, .int votd, .ref vmn, .ref vmr, .ref vmk, .ref vms, .ref vma, .ref vmm, .ref vmrn, .ref vmkn, .ref vmik, .ref vmon, .int vosm, .int vohp, .ref vmw, .ref vmf, .ref vmb, .int vomb, .ref vmd, .ref vmc, .int vocm, .int voct, .int vocy, .ref vmx, .int votx, .int vose, .ref vml, .ref vmwr, .int voln, .int vohw, .ref vmno, .int vond, .int voon, .int vowi, .int votop])), (vmn, .inl (cy 0, 575, .inl vmnf))] sz [.ref vo, .int vx, .int vy] nE) (Qi (dC, dI) vwCl (fun (r : Int32) (u : Int32) => True) (O_m_balance cy vnh vo voth vmt votp vosz volm voto vofr vokd vonu vosg vofa vopl vowd votd vmn vmr vmk vms vma vmm vmrn vmkn vmik vmon vosm vohp vmw vmf vmb vomb vmd vmc vocm voct vocy vmx votx vose vml vmwr voln vohw vmno vond voon vowi votop vmnf vx vy) (va_A [(vo, .inr (12, [.int voth, .ref vmt, .int votp, .int vosz, .int volm, .int voto, .int vofr, .int vokd, .int vonu, .int vosg, .int vofa, .int vopl, .long vowd, .int votd, .ref vmn, .ref vmr, .ref vmk, .ref vms, .ref vma, .ref vmm, .ref vmrn, .ref vmkn, .ref vmik, .ref vmon, .int vosm, .int vohp, .ref vmw, .ref vmf, .ref vmb, .int vomb, .ref vmd, .ref vmc, .int vocm, .int voct, .int vocy, .ref vmx, .int votx, .int vose, .ref vml, .ref vmwr, .int voln, .int vohw, .ref vmno, .int vond, .int voon, .int vowi, .int votop])), (vmn, .inl (cy 0, 575, .inl vmnf))] sz)) 0 0 (va_A [(vo, .inr (12, [.int voth, .ref vmt, .int votp, .int vosz, .int volm, .int voto, .int vofr, .int vokd, .int vonu, .int vosg, .int vofa, .int vopl, .long vowd, .int votd, .ref vmn, .ref vmr, .ref vmk, .ref vms, .ref vma, .ref vmm, .ref vmrn, .ref vmkn, .ref vmik, .ref vmon, .int vosm, .int vohp, .ref vmw, .ref vmf, .ref vmb, .int vomb, .ref vmd, .ref vmc, .int vocm, .int voct, .int vocy, .ref vmx, .int votx, .int vose, .ref vml, .ref vmwr, .int voln, .int vohw, .ref vmno, .int vond, .int voon, .int vowi, .int votop])), (vmn, .inl (cy 0, 575, .inl vmnf))] sz) := by
  refine mw (Qc := Qi (dC, dI) vwCl (fun (r : Int32) (u : Int32) => True) (O_m_balance cy vnh vo voth vmt votp vosz volm voto vofr vokd vonu vosg vofa vopl vowd votd vmn vmr vmk vms vma vmm vmrn vmkn vmik vmon vosm vohp vmw vmf vmb vomb vmd vmc vocm voct vocy vmx votx vose vml vmwr voln vohw vmno vond voon vowi votop vmnf vx vy)) RX11 rfl (by decide +kernel) (Nat.le_of_ble_eq_true rfl) ?_
  intro p e s m below meth c A hx hb hr hlocks av9 hav hts hown hnm hml hK hP hD hA hS hE hAe Q9 hQ9 ls hl
  have hl : lv_has ls 6 [(0, .ref vo), (1, .int vx), (2, .int vy)] := hl
  refine lv_aload_n hx hb dX11_balance_0 rfl (lv_at hl 0 rfl) ?_
  refine lv_iconst (v := 0) hx hb dX11_balance_1 (by decide) ?_
  refine pf_X11_1 hx hb hts hown hK hP hD hS 0 rfl rfl rfl (Nat.le_of_ble_eq_true rfl) dX11_balance_2 (fun H locs hP hD hS => ?_)
  have hP : va_P (dC, dI) vwCl [(vo, .inr (12, [.int 0, .ref vmt, .int votp, .int vosz, .int volm, .int voto, .int vofr, .int vokd, .int vonu, .int vosg, .int vofa, .int vopl, .long vowd, .int votd, .ref vmn, .ref vmr, .ref vmk, .ref vms, .ref vma, .ref vmm, .ref vmrn, .ref vmkn, .ref vmik, .ref vmon, .int vosm, .int vohp, .ref vmw, .ref vmf, .ref vmb, .int vomb, .ref vmd, .ref vmc, .int vocm, .int voct, .int vocy, .ref vmx, .int votx, .int vose, .ref vml, .ref vmwr, .int voln, .int vohw, .ref vmno, .int vond, .int voon, .int vowi, .int votop])), (vmn, .inl (cy 0, 575, .inl vmnf))] H := hP
  have hD : va_D A [(vo, .inr (12, [.int 0, .ref vmt, .int votp, .int vosz, .int volm, .int voto, .int vofr, .int vokd, .int vonu, .int vosg, .int vofa, .int vopl, .long vowd, .int votd, .ref vmn, .ref vmr, .ref vmk, .ref vms, .ref vma, .ref vmm, .ref vmrn, .ref vmkn, .ref vmik, .ref vmon, .int vosm, .int vohp, .ref vmw, .ref vmf, .ref vmb, .int vomb, .ref vmd, .ref vmc, .int vocm, .int voct, .int vocy, .ref vmx, .int votx, .int vose, .ref vml, .ref vmwr, .int voln, .int vohw, .ref vmno, .int vond, .int voon, .int vowi, .int votop])), (vmn, .inl (cy 0, 575, .inl vmnf))] := hD
  refine lv_iconst (v := 1) hx hb dX11_balance_5 (by decide) ?_
  refine lv_aload_n hx hb dX11_balance_6 rfl (lv_at hl 0 rfl) ?_
  refine gf_X11_98 hx hb hts hown hK hP 0 rfl rfl dX11_balance_7 ?_
  refine lv_iconst (v := 0) hx hb dX11_balance_10 (by decide) ?_
  have k_0 : (0 : Int32).toInt = 0 := by decide
  have hin_1 : vp_in (0 : Int32) 575 := vp_in_iff.mpr ⟨by omega, by omega⟩
  refine va_iald hx hb hK hP 1 0 rfl rfl hin_1 dX11_balance_11 ?_
  refine lv_topi (fun z_2 ez_2 => ?_)
  have bz_2 := p_vmnf.a0 (x := 0) ⟨by omega, by omega⟩ ez_2
  have tz_2 : z_2.toInt = (vmnf 0).toInt := by rw [ez_2]; rfl
  refine lv_ishl hx hb dX11_balance_12 ?_
  refine lv_topi (fun z_3 ez_3 => ?_)
  have bz_3 : 1 ≤ z_3.toInt ∧ z_3.toInt ≤ 128 := i_shl7 ez_3 ⟨by omega, by omega⟩
  refine lv_iconst (v := 1) hx hb dX11_balance_13 (by decide) ?_
  refine lv_isub hx hb dX11_balance_14 ?_
  refine lv_topi (fun z_4 ez_4 => ?_)
  have k_1 : (1 : Int32).toInt = 1 := by decide
  have bz_4 : z_4.toInt = z_3.toInt - (1 : Int32).toInt := i_sub ez_4 (by omega) (by omega)
  refine lv_istore_n (lv' := [(3, .int z_4), (0, .ref vo), (1, .int vx), (2, .int vy)]) hx hb dX11_balance_15 rfl hl (by decide) rfl (fun ls hl => ?_)
  refine lv_iload_n hx hb dX11_balance_16 rfl (lv_at hl 2 rfl) ?_
  refine lv_iload_n hx hb dX11_balance_17 rfl (lv_at hl 3 rfl) ?_
  refine lv_iand hx hb dX11_balance_18 ?_
  refine lv_topi (fun z_5 ez_5 => ?_)
  refine lv_if_ne (tgt := 32) hx hb dX11_balance_19 (by decide) (fun c_6 => ?_) (fun c_6 => ?_)
  · skip
    have c_6 : ¬ (z_5.toInt = (0 : Int32).toInt) := fun h9 => c_6 (i_eq.mpr h9)
    refine lv_iconst (v := (-1)) hx hb dX11_balance_32 (by decide) ?_
    have k_m1 : ((-1) : Int32).toInt = (-1) := by decide
    rw [hQ9]
    exact re_i (0 : Int32) hx hb hr hlocks trivial (hP.sub [0, 1] rfl) (hD.sub [0, 1] rfl rfl) hS dX11_balance_33
  · skip
    have c_6 : z_5.toInt = (0 : Int32).toInt := i_eq.mp c_6
    refine lv_iload_n hx hb dX11_balance_22 rfl (lv_at hl 2 rfl) ?_
    refine lv_iload_n hx hb dX11_balance_23 rfl (lv_at hl 3 rfl) ?_
    refine lv_ior hx hb dX11_balance_24 ?_
    refine lv_topi (fun z_7 ez_7 => ?_)
    refine lv_iload_n hx hb dX11_balance_25 rfl (lv_at hl 0 rfl) ?_
    refine lv_iconst (v := (-1)) hx hb dX11_balance_26 (by decide) ?_
    refine lv_ixor hx hb dX11_balance_27 ?_
    refine lv_topi (fun z_8 ez_8 => ?_)
    refine lv_iand hx hb dX11_balance_28 ?_
    refine lv_topi (fun z_9 ez_9 => ?_)
    refine lv_if_eq (tgt := 34) hx hb dX11_balance_29 (by decide) (fun c_10 => ?_) (fun c_10 => ?_)
    · skip
      have c_10 : z_9.toInt = (0 : Int32).toInt := i_eq.mp c_10
      refine lv_aload_n hx hb dX11_balance_34 rfl (lv_at hl 1 rfl) ?_
      refine lv_iload_n hx hb dX11_balance_35 rfl (lv_at hl 2 rfl) ?_
      refine jr_i (rVr (As := [.int vx]) (rest := []) (ci := 12) ⟨hx, hb, hml, hown, hts⟩ (m_weightsOf l dC dI cy vnh vo 0 vmt votp vosz volm voto vofr vokd vonu vosg vofa vopl vowd votd vmn vmr vmk vms vma vmm vmrn vmkn vmik vmon vosm vohp vmw vmf vmb vomb vmd vmc vocm voct vocy vmx votx vose vml vmwr voln vohw vmno vond voon vowi votop vmnf vx p_vmnf) (cw_X11_297 hts rfl rfl ⟨Nat.le_of_ble_eq_true rfl, Nat.le_of_ble_eq_true rfl⟩) hP hK [0, 1] rfl rfl rfl rfl hl.1 rfl (Nat.le_of_ble_eq_true rfl) dX11_balance_36 ⟨Nat.le_of_ble_eq_true rfl, Nat.le_of_ble_eq_true rfl⟩) hP hS (fun r_11 H locs hp_12 hP hS => ?_)
      refine lv_istore (lv' := [(4, .int r_11), (3, .int z_4), (0, .ref vo), (1, .int vx), (2, .int vy)]) hx hb dX11_balance_39 hl (by decide) rfl (fun ls hl => ?_)
      refine lv_aload_n hx hb dX11_balance_41 rfl (lv_at hl 2 rfl) ?_
      refine lv_iload_n hx hb dX11_balance_42 rfl (lv_at hl 4 rfl) ?_
      refine jr_i (rVr (As := [.int vy]) (rest := []) (ci := 12) ⟨hx, hb, hml, hown, hts⟩ (m_weightsOf l dC dI cy vnh vo 0 vmt votp vosz volm voto vofr vokd vonu vosg vofa vopl vowd votd vmn vmr vmk vms vma vmm vmrn vmkn vmik vmon vosm vohp vmw vmf vmb vomb vmd vmc vocm voct vocy vmx votx vose vml vmwr voln vohw vmno vond voon vowi votop vmnf vy p_vmnf) (cw_X11_297 hts rfl rfl ⟨Nat.le_of_ble_eq_true rfl, Nat.le_of_ble_eq_true rfl⟩) hP hK [0, 1] rfl rfl rfl rfl hl.1 rfl (Nat.le_of_ble_eq_true rfl) dX11_balance_43 ⟨Nat.le_of_ble_eq_true rfl, Nat.le_of_ble_eq_true rfl⟩) hP hS (fun r_13 H locs hp_14 hP hS => ?_)
      refine lv_istore (lv' := [(5, .int r_13), (4, .int r_11), (3, .int z_4), (0, .ref vo), (1, .int vx), (2, .int vy)]) hx hb dX11_balance_46 hl (by decide) rfl (fun ls hl => ?_)
      refine lv_iload hx hb dX11_balance_48 (lv_at hl 1 rfl) ?_
      refine lv_iload hx hb dX11_balance_50 (lv_at hl 0 rfl) ?_
      refine lv_icmp_ne (tgt := 59) hx hb dX11_balance_52 (by decide) (fun c_15 => ?_) (fun c_15 => ?_)
      · skip
        have c_15 : ¬ (r_11.toInt = r_13.toInt) := fun h9 => c_15 (i_eq.mpr h9)
        refine lv_iload hx hb dX11_balance_59 (lv_at hl 1 rfl) ?_
        refine lv_iload hx hb dX11_balance_61 (lv_at hl 0 rfl) ?_
        refine lv_icmp_le (tgt := 70) hx hb dX11_balance_63 (by decide) (fun c_16 => ?_) (fun c_16 => ?_)
        · skip
          have c_16 : r_11.toInt ≤ r_13.toInt := i_le.mp c_16
          refine lv_iconst (v := 2) hx hb dX11_balance_70 (by decide) ?_
          have k_2 : (2 : Int32).toInt = 2 := by decide
          rw [hQ9]
          exact re_i (0 : Int32) hx hb hr hlocks trivial (hP.sub [0, 1] rfl) (hD.sub [0, 1] rfl rfl) hS dX11_balance_71
        · skip
          have c_16 : ¬ (r_11.toInt ≤ r_13.toInt) := fun h9 => c_16 (i_le.mpr h9)
          refine lv_iconst (v := 1) hx hb dX11_balance_66 (by decide) ?_
          refine lv_goto (tgt := 71) hx hb dX11_balance_67 (by decide) ?_
          rw [hQ9]
          exact re_i (0 : Int32) hx hb hr hlocks trivial (hP.sub [0, 1] rfl) (hD.sub [0, 1] rfl rfl) hS dX11_balance_71
      · skip
        have c_15 : r_11.toInt = r_13.toInt := i_eq.mp c_15
        refine lv_iconst (v := 0) hx hb dX11_balance_55 (by decide) ?_
        refine lv_goto (tgt := 71) hx hb dX11_balance_56 (by decide) ?_
        rw [hQ9]
        exact re_i (0 : Int32) hx hb hr hlocks trivial (hP.sub [0, 1] rfl) (hD.sub [0, 1] rfl rfl) hS dX11_balance_71
    · skip
      have c_10 : ¬ (z_9.toInt = (0 : Int32).toInt) := fun h9 => c_10 (i_eq.mpr h9)
      refine lv_iconst (v := (-1)) hx hb dX11_balance_32 (by decide) ?_
      have k_m1 : ((-1) : Int32).toInt = (-1) := by decide
      rw [hQ9]
      exact re_i (0 : Int32) hx hb hr hlocks trivial (hP.sub [0, 1] rfl) (hD.sub [0, 1] rfl rfl) hS dX11_balance_33
abbrev cX11_heaviest : ByteArray := prog_13_method_94_code
def yX11_heaviest : MethodName := ⟨RX11, "heaviest", "()I"⟩
theorem t1921 : Cond.code yX11_heaviest cX11_heaviest 3 (some .int) ∈ GW := gw_mem 2035 (by decide +kernel) (by decide +kernel)
abbrev O_m_heaviest (cy : Nat → ClassId) (vnh : Nat → Int32) (vo : Nat) (voth : Int32) (vmt : Nat) (votp : Int32) (vosz : Int32) (volm : Int32) (voto : Int32) (vofr : Int32) (vokd : Int32) (vonu : Int32) (vosg : Int32) (vofa : Int32) (vopl : Int32) (vowd : Int64) (votd : Int32) (vmn : Nat) (vmr : Nat) (vmk : Nat) (vms : Nat) (vma : Nat) (vmm : Nat) (vmrn : Nat) (vmkn : Nat) (vmik : Nat) (vmon : Nat) (vosm : Int32) (vohp : Int32) (vmw : Nat) (vmf : Nat) (vmb : Nat) (vomb : Int32) (vmd : Nat) (vmc : Nat) (vocm : Int32) (voct : Int32) (vocy : Int32) (vmx : Nat) (votx : Int32) (vose : Int32) (vml : Nat) (vmwr : Nat) (voln : Int32) (vohw : Int32) (vmno : Nat) (vond : Int32) (voon : Int32) (vowi : Int32) (votop : Int32) (vmnf : Nat → Int32) (u : Int32) : va_W := [(vo, .inr (12, [.int u, .ref vmt, .int votp, .int vosz, .int volm, .int voto, .int vofr, .int vokd, .int vonu, .int vosg, .int vofa, .int vopl, .long vowd, .int votd, .ref vmn, .ref vmr, .ref vmk, .ref vms, .ref vma, .ref vmm, .ref vmrn, .ref vmkn, .ref vmik, .ref vmon, .int vosm, .int vohp, .ref vmw, .ref vmf, .ref vmb, .int vomb, .ref vmd, .ref vmc, .int vocm, .int voct, .int vocy, .ref vmx, .int votx, .int vose, .ref vml, .ref vmwr, .int voln, .int vohw, .ref vmno, .int vond, .int voon, .int vowi, .int votop])), (vmn, .inl (cy 0, 575, .inl vmnf))]
theorem dX11_heaviest_0 : decode cX11_heaviest 0 = .ok (.aload_n 0, 1) := by decide +kernel
theorem dX11_heaviest_1 : decode cX11_heaviest 1 = .ok (.iconst 0, 1) := by decide +kernel
theorem dX11_heaviest_2 : decode cX11_heaviest 2 = .ok (.putfield 1, 3) := by decide +kernel
theorem dX11_heaviest_5 : decode cX11_heaviest 5 = .ok (.iconst (-1), 1) := by decide +kernel
theorem dX11_heaviest_6 : decode cX11_heaviest 6 = .ok (.istore_n 1, 1) := by decide +kernel
theorem dX11_heaviest_7 : decode cX11_heaviest 7 = .ok (.iconst 0, 1) := by decide +kernel
theorem dX11_heaviest_8 : decode cX11_heaviest 8 = .ok (.istore_n 2, 1) := by decide +kernel
theorem dX11_heaviest_9 : decode cX11_heaviest 9 = .ok (.iload_n 2, 1) := by decide +kernel
theorem dX11_heaviest_10 : decode cX11_heaviest 10 = .ok (.aload_n 0, 1) := by decide +kernel
theorem dX11_heaviest_11 : decode cX11_heaviest 11 = .ok (.getfield 98, 3) := by decide +kernel
theorem dX11_heaviest_14 : decode cX11_heaviest 14 = .ok (.iconst 0, 1) := by decide +kernel
theorem dX11_heaviest_15 : decode cX11_heaviest 15 = .ok (.iaload, 1) := by decide +kernel
theorem dX11_heaviest_16 : decode cX11_heaviest 16 = .ok (.if_icmp .ge 29, 3) := by decide +kernel
theorem dX11_heaviest_45 : decode cX11_heaviest 45 = .ok (.iload_n 1, 1) := by decide +kernel
theorem dX11_heaviest_46 : decode cX11_heaviest 46 = .ok (.ireturn, 1) := by decide +kernel
theorem dX11_heaviest_19 : decode cX11_heaviest 19 = .ok (.iload_n 1, 1) := by decide +kernel
theorem dX11_heaviest_20 : decode cX11_heaviest 20 = .ok (.iconst (-1), 1) := by decide +kernel
theorem dX11_heaviest_21 : decode cX11_heaviest 21 = .ok (.if_icmp .eq 16, 3) := by decide +kernel
theorem dX11_heaviest_37 : decode cX11_heaviest 37 = .ok (.iload_n 2, 1) := by decide +kernel
theorem dX11_heaviest_38 : decode cX11_heaviest 38 = .ok (.istore_n 1, 1) := by decide +kernel
theorem dX11_heaviest_39 : decode cX11_heaviest 39 = .ok (.iinc 2 1, 3) := by decide +kernel
theorem dX11_heaviest_42 : decode cX11_heaviest 42 = .ok (.goto (-33), 3) := by decide +kernel
theorem dX11_heaviest_24 : decode cX11_heaviest 24 = .ok (.aload_n 0, 1) := by decide +kernel
theorem dX11_heaviest_25 : decode cX11_heaviest 25 = .ok (.iload_n 2, 1) := by decide +kernel
theorem dX11_heaviest_26 : decode cX11_heaviest 26 = .ok (.invokevirtual 247, 3) := by decide +kernel
theorem dX11_heaviest_29 : decode cX11_heaviest 29 = .ok (.aload_n 0, 1) := by decide +kernel
theorem dX11_heaviest_30 : decode cX11_heaviest 30 = .ok (.iload_n 1, 1) := by decide +kernel
theorem dX11_heaviest_31 : decode cX11_heaviest 31 = .ok (.invokevirtual 247, 3) := by decide +kernel
theorem dX11_heaviest_34 : decode cX11_heaviest 34 = .ok (.if_icmp .le 5, 3) := by decide +kernel
set_option maxHeartbeats 4000000 in
set_option maxRecDepth 100000 in
theorem m_heaviest (l : Launch) (dC : Nat → ClassId) (dI : Nat → Nat → Nat) (cy : Nat → ClassId) (sz : Nat) (vnh : Nat → Int32) (vo : Nat) (voth : Int32) (vmt : Nat) (votp : Int32) (vosz : Int32) (volm : Int32) (voto : Int32) (vofr : Int32) (vokd : Int32) (vonu : Int32) (vosg : Int32) (vofa : Int32) (vopl : Int32) (vowd : Int64) (votd : Int32) (vmn : Nat) (vmr : Nat) (vmk : Nat) (vms : Nat) (vma : Nat) (vmm : Nat) (vmrn : Nat) (vmkn : Nat) (vmik : Nat) (vmon : Nat) (vosm : Int32) (vohp : Int32) (vmw : Nat) (vmf : Nat) (vmb : Nat) (vomb : Int32) (vmd : Nat) (vmc : Nat) (vocm : Int32) (voct : Int32) (vocy : Int32) (vmx : Nat) (votx : Int32) (vose : Int32) (vml : Nat) (vmwr : Nat) (voln : Int32) (vohw : Int32) (vmno : Nat) (vond : Int32) (voon : Int32) (vowi : Int32) (votop : Int32) (vmnf : Nat → Int32) (p_vmnf : NW vnh vmnf) : Met l yX11_heaviest (wl yX11_heaviest cX11_heaviest 3 (some .int)) ({ frames := 4, cells := 0, slots := 0, locals := 256 }) (Pw (dC, dI) vwCl cy [(vo, .inr (12, [.int voth, .ref vmt, .int votp, .int vosz, .int volm, .int voto, .int vofr, .int vokd, .int vonu, .int vosg, .int vofa, .int vopl, .long vowd, .int votd, .ref vmn, .ref vmr, .ref vmk, .ref vms, .ref vma, .ref vmm, .ref vmrn, .ref vmkn, .ref vmik, .ref vmon, .int vosm, .int vohp, .ref vmw, .ref vmf, .ref vmb, .int vomb, .ref vmd, .ref vmc, .int vocm, .int voct, .int vocy, .ref vmx, .int votx, .int vose, .ref vml, .ref vmwr, .int voln, .int vohw, .ref vmno, .int vond, .int voon, .int vowi, .int votop])), (vmn, .inl (cy 0, 575, .inl vmnf))] sz [.ref vo] nE) (Qi (dC, dI) vwCl (fun (r : Int32) (u : Int32) => True) (O_m_heaviest cy vnh vo voth vmt votp vosz volm voto vofr vokd vonu vosg vofa vopl vowd votd vmn vmr vmk vms vma vmm vmrn vmkn vmik vmon vosm vohp vmw vmf vmb vomb vmd vmc vocm voct vocy vmx votx vose vml vmwr voln vohw vmno vond voon vowi votop vmnf) (va_A [(vo, .inr (12, [.int voth, .ref vmt, .int votp, .int vosz, .int volm, .int voto, .int vofr, .int vokd, .int vonu, .int vosg, .int vofa, .int vopl, .long vowd, .int votd, .ref vmn, .ref vmr, .ref vmk, .ref vms, .ref vma, .ref vmm, .ref vmrn, .ref vmkn, .ref vmik, .ref vmon, .int vosm, .int vohp, .ref vmw, .ref vmf, .ref vmb, .int vomb, .ref vmd, .ref vmc, .int vocm, .int voct, .int vocy, .ref vmx, .int votx, .int vose, .ref vml, .ref vmwr, .int voln, .int vohw, .ref vmno, .int vond, .int voon, .int vowi, .int votop])), (vmn, .inl (cy 0, 575, .inl vmnf))] sz)) 0 0 (va_A [(vo, .inr (12, [.int voth, .ref vmt, .int votp, .int vosz, .int volm, .int voto, .int vofr, .int vokd, .int vonu, .int vosg, .int vofa, .int vopl, .long vowd, .int votd, .ref vmn, .ref vmr, .ref vmk, .ref vms, .ref vma, .ref vmm, .ref vmrn, .ref vmkn, .ref vmik, .ref vmon, .int vosm, .int vohp, .ref vmw, .ref vmf, .ref vmb, .int vomb, .ref vmd, .ref vmc, .int vocm, .int voct, .int vocy, .ref vmx, .int votx, .int vose, .ref vml, .ref vmwr, .int voln, .int vohw, .ref vmno, .int vond, .int voon, .int vowi, .int votop])), (vmn, .inl (cy 0, 575, .inl vmnf))] sz) := by
  refine mw (Qc := Qi (dC, dI) vwCl (fun (r : Int32) (u : Int32) => True) (O_m_heaviest cy vnh vo voth vmt votp vosz volm voto vofr vokd vonu vosg vofa vopl vowd votd vmn vmr vmk vms vma vmm vmrn vmkn vmik vmon vosm vohp vmw vmf vmb vomb vmd vmc vocm voct vocy vmx votx vose vml vmwr voln vohw vmno vond voon vowi votop vmnf)) RX11 rfl (by decide +kernel) (Nat.le_of_ble_eq_true rfl) ?_
  intro p e s m below meth c A hx hb hr hlocks av9 hav hts hown hnm hml hK hP hD hA hS hE hAe Q9 hQ9 ls hl
  have hl : lv_has ls 3 [(0, .ref vo)] := hl
  refine lv_aload_n hx hb dX11_heaviest_0 rfl (lv_at hl 0 rfl) ?_
  refine lv_iconst (v := 0) hx hb dX11_heaviest_1 (by decide) ?_
  refine pf_X11_1 hx hb hts hown hK hP hD hS 0 rfl rfl rfl (Nat.le_of_ble_eq_true rfl) dX11_heaviest_2 (fun H locs hP hD hS => ?_)
  have hP : va_P (dC, dI) vwCl [(vo, .inr (12, [.int 0, .ref vmt, .int votp, .int vosz, .int volm, .int voto, .int vofr, .int vokd, .int vonu, .int vosg, .int vofa, .int vopl, .long vowd, .int votd, .ref vmn, .ref vmr, .ref vmk, .ref vms, .ref vma, .ref vmm, .ref vmrn, .ref vmkn, .ref vmik, .ref vmon, .int vosm, .int vohp, .ref vmw, .ref vmf, .ref vmb, .int vomb, .ref vmd, .ref vmc, .int vocm, .int voct, .int vocy, .ref vmx, .int votx, .int vose, .ref vml, .ref vmwr, .int voln, .int vohw, .ref vmno, .int vond, .int voon, .int vowi, .int votop])), (vmn, .inl (cy 0, 575, .inl vmnf))] H := hP
  have hD : va_D A [(vo, .inr (12, [.int 0, .ref vmt, .int votp, .int vosz, .int volm, .int voto, .int vofr, .int vokd, .int vonu, .int vosg, .int vofa, .int vopl, .long vowd, .int votd, .ref vmn, .ref vmr, .ref vmk, .ref vms, .ref vma, .ref vmm, .ref vmrn, .ref vmkn, .ref vmik, .ref vmon, .int vosm, .int vohp, .ref vmw, .ref vmf, .ref vmb, .int vomb, .ref vmd, .ref vmc, .int vocm, .int voct, .int vocy, .ref vmx, .int votx, .int vose, .ref vml, .ref vmwr, .int voln, .int vohw, .ref vmno, .int vond, .int voon, .int vowi, .int votop])), (vmn, .inl (cy 0, 575, .inl vmnf))] := hD
  refine lv_iconst (v := (-1)) hx hb dX11_heaviest_5 (by decide) ?_
  refine lv_istore_n (lv' := [(1, .int (-1)), (0, .ref vo)]) hx hb dX11_heaviest_6 rfl hl (by decide) rfl (fun ls hl => ?_)
  refine lv_iconst (v := 0) hx hb dX11_heaviest_7 (by decide) ?_
  refine lv_istore_n (lv' := [(2, .int 0), (1, .int (-1)), (0, .ref vo)]) hx hb dX11_heaviest_8 rfl hl (by decide) rfl (fun ls hl => ?_)
  have loop1 : ∀ (n1 : Nat) (x_3 : Int32) (x_2 : Int32), (-1 ≤ x_3.toInt ∧ x_3.toInt ≤ 6) → (0 ≤ x_2.toInt ∧ x_2.toInt ≤ 7) → 7 - x_2.toInt < (n1 : Int) → ∀ (H : Heap) (locs : List Loc), va_P (dC, dI) vwCl [(vo, .inr (12, [.int 0, .ref vmt, .int votp, .int vosz, .int volm, .int voto, .int vofr, .int vokd, .int vonu, .int vosg, .int vofa, .int vopl, .long vowd, .int votd, .ref vmn, .ref vmr, .ref vmk, .ref vms, .ref vma, .ref vmm, .ref vmrn, .ref vmkn, .ref vmik, .ref vmon, .int vosm, .int vohp, .ref vmw, .ref vmf, .ref vmb, .int vomb, .ref vmd, .ref vmc, .int vocm, .int voct, .int vocy, .ref vmx, .int votx, .int vose, .ref vml, .ref vmwr, .int voln, .int vohw, .ref vmno, .int vond, .int voon, .int vowi, .int votop])), (vmn, .inl (cy 0, 575, .inl vmnf))] H → va_D A [(vo, .inr (12, [.int 0, .ref vmt, .int votp, .int vosz, .int volm, .int voto, .int vofr, .int vokd, .int vonu, .int vosg, .int vofa, .int vopl, .long vowd, .int votd, .ref vmn, .ref vmr, .ref vmk, .ref vms, .ref vma, .ref vmm, .ref vmrn, .ref vmkn, .ref vmik, .ref vmon, .int vosm, .int vohp, .ref vmw, .ref vmf, .ref vmb, .int vomb, .ref vmd, .ref vmc, .int vocm, .int voct, .int vocy, .ref vmx, .int votx, .int vose, .ref vml, .ref vmwr, .int voln, .int vohw, .ref vmno, .int vond, .int voon, .int vowi, .int votop])), (vmn, .inl (cy 0, 575, .inl vmnf))] → va_S A s.heap H locs → ∀ ls : Array Slot, lv_has ls 3 [(2, .int x_2), (1, .int x_3), (0, .ref vo)] → W p l e ({ frames := 4, cells := 0, slots := 0, locals := 256 }) s m av9 below meth c H locs 0 0 Q9 (F0 m 9 ls []) := by
    intro n1
    induction n1 with
    | zero =>
      intro x_3 x_2 bx_3 bx_2 hn1 H locs hP hD hS ls hl
      exfalso; omega
    | succ n1 ih1 =>
      intro x_3 x_2 bx_3 bx_2 hn1 H locs hP hD hS ls hl
      refine lv_iload_n hx hb dX11_heaviest_9 rfl (lv_at hl 0 rfl) ?_
      refine lv_aload_n hx hb dX11_heaviest_10 rfl (lv_at hl 2 rfl) ?_
      refine gf_X11_98 hx hb hts hown hK hP 0 rfl rfl dX11_heaviest_11 ?_
      refine lv_iconst (v := 0) hx hb dX11_heaviest_14 (by decide) ?_
      have k_0 : (0 : Int32).toInt = 0 := by decide
      have hin_4 : vp_in (0 : Int32) 575 := vp_in_iff.mpr ⟨by omega, by omega⟩
      refine va_iald hx hb hK hP 1 0 rfl rfl hin_4 dX11_heaviest_15 ?_
      refine lv_topi (fun z_5 ez_5 => ?_)
      have bz_5 := p_vmnf.a0 (x := 0) ⟨by omega, by omega⟩ ez_5
      have tz_5 : z_5.toInt = (vmnf 0).toInt := by rw [ez_5]; rfl
      refine lv_icmp_ge (tgt := 45) hx hb dX11_heaviest_16 (by decide) (fun c_6 => ?_) (fun c_6 => ?_)
      · skip
        have c_6 : z_5.toInt ≤ x_2.toInt := i_le.mp c_6
        refine lv_iload_n hx hb dX11_heaviest_45 rfl (lv_at hl 1 rfl) ?_
        rw [hQ9]
        exact re_i (0 : Int32) hx hb hr hlocks trivial (hP.sub [0, 1] rfl) (hD.sub [0, 1] rfl rfl) hS dX11_heaviest_46
      · skip
        have c_6 : ¬ (z_5.toInt ≤ x_2.toInt) := fun h9 => c_6 (i_le.mpr h9)
        refine lv_iload_n hx hb dX11_heaviest_19 rfl (lv_at hl 1 rfl) ?_
        refine lv_iconst (v := (-1)) hx hb dX11_heaviest_20 (by decide) ?_
        have k_m1 : ((-1) : Int32).toInt = (-1) := by decide
        refine lv_icmp_eq (tgt := 37) hx hb dX11_heaviest_21 (by decide) (fun c_7 => ?_) (fun c_7 => ?_)
        · skip
          have c_7 : x_3.toInt = ((-1) : Int32).toInt := i_eq.mp c_7
          refine lv_iload_n hx hb dX11_heaviest_37 rfl (lv_at hl 0 rfl) ?_
          refine lv_istore_n (lv' := [(1, .int x_2), (2, .int x_2), (0, .ref vo)]) hx hb dX11_heaviest_38 rfl hl (by decide) rfl (fun ls hl => ?_)
          obtain ⟨z_8, ez_8⟩ : ∃ z : Int32, z = x_2 + 1 := ⟨_, rfl⟩
          have k_1 : (1 : Int32).toInt = 1 := by decide
          have bz_8 : z_8.toInt = x_2.toInt + (1 : Int32).toInt := i_add ez_8 (by omega) (by omega)
          refine lv_iinc (v := z_8) (lv' := [(2, .int z_8), (1, .int x_2), (0, .ref vo)]) hx hb dX11_heaviest_39 hl (k := 1) rfl ez_8.symm (by decide) rfl (fun ls hl => ?_)
          refine lv_goto (tgt := 9) hx hb dX11_heaviest_42 (by decide) ?_
          exact ih1 x_2 z_8 ⟨by omega, by omega⟩ ⟨by omega, by omega⟩ (by omega) _ _ (hP.sub [0, 1] rfl) (hD.sub [0, 1] rfl rfl) hS ls (lv_sub hl [0, 1, 2] rfl)
        · skip
          have c_7 : ¬ (x_3.toInt = ((-1) : Int32).toInt) := fun h9 => c_7 (i_eq.mpr h9)
          refine lv_aload_n hx hb dX11_heaviest_24 rfl (lv_at hl 2 rfl) ?_
          refine lv_iload_n hx hb dX11_heaviest_25 rfl (lv_at hl 0 rfl) ?_
          refine jr_i (rVr (As := [.int x_2]) (rest := []) (ci := 12) ⟨hx, hb, hml, hown, hts⟩ (m_allOf l dC dI cy vnh vo 0 vmt votp vosz volm voto vofr vokd vonu vosg vofa vopl vowd votd vmn vmr vmk vms vma vmm vmrn vmkn vmik vmon vosm vohp vmw vmf vmb vomb vmd vmc vocm voct vocy vmx votx vose vml vmwr voln vohw vmno vond voon vowi votop vmnf x_2 ⟨by omega, by omega⟩ p_vmnf) (cw_X11_247 hts rfl rfl ⟨Nat.le_of_ble_eq_true rfl, Nat.le_of_ble_eq_true rfl⟩) hP hK [0, 1] rfl rfl rfl rfl hl.1 rfl (Nat.le_of_ble_eq_true rfl) dX11_heaviest_26 ⟨Nat.le_of_ble_eq_true rfl, Nat.le_of_ble_eq_true rfl⟩) hP hS (fun r_9 H locs hp_10 hP hS => ?_)
          refine lv_aload_n hx hb dX11_heaviest_29 rfl (lv_at hl 2 rfl) ?_
          refine lv_iload_n hx hb dX11_heaviest_30 rfl (lv_at hl 1 rfl) ?_
          refine jr_i (rVr (As := [.int x_3]) (rest := [.int r_9]) (ci := 12) ⟨hx, hb, hml, hown, hts⟩ (m_allOf l dC dI cy vnh vo 0 vmt votp vosz volm voto vofr vokd vonu vosg vofa vopl vowd votd vmn vmr vmk vms vma vmm vmrn vmkn vmik vmon vosm vohp vmw vmf vmb vomb vmd vmc vocm voct vocy vmx votx vose vml vmwr voln vohw vmno vond voon vowi votop vmnf x_3 ⟨by omega, by omega⟩ p_vmnf) (cw_X11_247 hts rfl rfl ⟨Nat.le_of_ble_eq_true rfl, Nat.le_of_ble_eq_true rfl⟩) hP hK [0, 1] rfl rfl rfl rfl hl.1 rfl (Nat.le_of_ble_eq_true rfl) dX11_heaviest_31 ⟨Nat.le_of_ble_eq_true rfl, Nat.le_of_ble_eq_true rfl⟩) hP hS (fun r_11 H locs hp_12 hP hS => ?_)
          refine lv_icmp_le (tgt := 39) hx hb dX11_heaviest_34 (by decide) (fun c_13 => ?_) (fun c_13 => ?_)
          · skip
            have c_13 : r_9.toInt ≤ r_11.toInt := i_le.mp c_13
            obtain ⟨z_14, ez_14⟩ : ∃ z : Int32, z = x_2 + 1 := ⟨_, rfl⟩
            have k_1 : (1 : Int32).toInt = 1 := by decide
            have bz_14 : z_14.toInt = x_2.toInt + (1 : Int32).toInt := i_add ez_14 (by omega) (by omega)
            refine lv_iinc (v := z_14) (lv' := [(2, .int z_14), (1, .int x_3), (0, .ref vo)]) hx hb dX11_heaviest_39 hl (k := 0) rfl ez_14.symm (by decide) rfl (fun ls hl => ?_)
            refine lv_goto (tgt := 9) hx hb dX11_heaviest_42 (by decide) ?_
            exact ih1 x_3 z_14 ⟨by omega, by omega⟩ ⟨by omega, by omega⟩ (by omega) _ _ (hP.sub [0, 1] rfl) (hD.sub [0, 1] rfl rfl) hS ls (lv_sub hl [0, 1, 2] rfl)
          · skip
            have c_13 : ¬ (r_9.toInt ≤ r_11.toInt) := fun h9 => c_13 (i_le.mpr h9)
            refine lv_iload_n hx hb dX11_heaviest_37 rfl (lv_at hl 0 rfl) ?_
            refine lv_istore_n (lv' := [(1, .int x_2), (2, .int x_2), (0, .ref vo)]) hx hb dX11_heaviest_38 rfl hl (by decide) rfl (fun ls hl => ?_)
            obtain ⟨z_15, ez_15⟩ : ∃ z : Int32, z = x_2 + 1 := ⟨_, rfl⟩
            have k_1 : (1 : Int32).toInt = 1 := by decide
            have bz_15 : z_15.toInt = x_2.toInt + (1 : Int32).toInt := i_add ez_15 (by omega) (by omega)
            refine lv_iinc (v := z_15) (lv' := [(2, .int z_15), (1, .int x_2), (0, .ref vo)]) hx hb dX11_heaviest_39 hl (k := 1) rfl ez_15.symm (by decide) rfl (fun ls hl => ?_)
            refine lv_goto (tgt := 9) hx hb dX11_heaviest_42 (by decide) ?_
            exact ih1 x_2 z_15 ⟨by omega, by omega⟩ ⟨by omega, by omega⟩ (by omega) _ _ (hP.sub [0, 1] rfl) (hD.sub [0, 1] rfl rfl) hS ls (lv_sub hl [0, 1, 2] rfl)
  have k_m1 : ((-1) : Int32).toInt = (-1) := by decide
  have k_0 : (0 : Int32).toInt = 0 := by decide
  exact loop1 ((7 - (0 : Int32).toInt).toNat + 1) (-1) 0 ⟨by omega, by omega⟩ ⟨by omega, by omega⟩ (by omega) _ _ hP hD hS ls (lv_sub hl [0, 1, 2] rfl)
abbrev cX11_help : ByteArray := prog_13_method_83_code
def yX11_help : MethodName := ⟨RX11, "help", "(I)I"⟩
theorem t1869 : Cond.code yX11_help cX11_help 7 (some .int) ∈ GW := gw_mem 1983 (by decide +kernel) (by decide +kernel)
abbrev O_m_help (cy : Nat → ClassId) (vnh : Nat → Int32) (vo : Nat) (voth : Int32) (vmt : Nat) (votp : Int32) (vosz : Int32) (volm : Int32) (voto : Int32) (vofr : Int32) (vokd : Int32) (vonu : Int32) (vosg : Int32) (vofa : Int32) (vopl : Int32) (vowd : Int64) (votd : Int32) (vmn : Nat) (vmr : Nat) (vmk : Nat) (vms : Nat) (vma : Nat) (vmm : Nat) (vmrn : Nat) (vmkn : Nat) (vmik : Nat) (vmon : Nat) (vosm : Int32) (vohp : Int32) (vmw : Nat) (vmf : Nat) (vmb : Nat) (vomb : Int32) (vmd : Nat) (vmc : Nat) (vocm : Int32) (voct : Int32) (vocy : Int32) (vmx : Nat) (votx : Int32) (vose : Int32) (vml : Nat) (vmwr : Nat) (voln : Int32) (vohw : Int32) (vmno : Nat) (vond : Int32) (voon : Int32) (vowi : Int32) (votop : Int32) (vmnf : Nat → Int32) (vm : Int32) (u : Int32 × Int32) : va_W := [(vo, .inr (12, [.int u.1, .ref vmt, .int votp, .int vosz, .int volm, .int voto, .int vofr, .int vokd, .int vonu, .int vosg, .int vofa, .int vopl, .long vowd, .int votd, .ref vmn, .ref vmr, .ref vmk, .ref vms, .ref vma, .ref vmm, .ref vmrn, .ref vmkn, .ref vmik, .ref vmon, .int vosm, .int u.2, .ref vmw, .ref vmf, .ref vmb, .int vomb, .ref vmd, .ref vmc, .int vocm, .int voct, .int vocy, .ref vmx, .int votx, .int vose, .ref vml, .ref vmwr, .int voln, .int vohw, .ref vmno, .int vond, .int voon, .int vowi, .int votop])), (vmn, .inl (cy 0, 575, .inl vmnf))]
theorem dX11_help_0 : decode cX11_help 0 = .ok (.aload_n 0, 1) := by decide +kernel
theorem dX11_help_1 : decode cX11_help 1 = .ok (.iconst 0, 1) := by decide +kernel
theorem dX11_help_2 : decode cX11_help 2 = .ok (.putfield 1, 3) := by decide +kernel
theorem dX11_help_5 : decode cX11_help 5 = .ok (.aload_n 0, 1) := by decide +kernel
theorem dX11_help_6 : decode cX11_help 6 = .ok (.iload_n 1, 1) := by decide +kernel
theorem dX11_help_7 : decode cX11_help 7 = .ok (.invokevirtual 250, 3) := by decide +kernel
theorem dX11_help_10 : decode cX11_help 10 = .ok (.ifCond .ne 5, 3) := by decide +kernel
theorem dX11_help_13 : decode cX11_help 13 = .ok (.iconst (-1), 1) := by decide +kernel
theorem dX11_help_14 : decode cX11_help 14 = .ok (.ireturn, 1) := by decide +kernel
theorem dX11_help_15 : decode cX11_help 15 = .ok (.iconst (-1), 1) := by decide +kernel
theorem dX11_help_16 : decode cX11_help 16 = .ok (.istore_n 2, 1) := by decide +kernel
theorem dX11_help_17 : decode cX11_help 17 = .ok (.iconst 0, 1) := by decide +kernel
theorem dX11_help_18 : decode cX11_help 18 = .ok (.istore_n 3, 1) := by decide +kernel
theorem dX11_help_19 : decode cX11_help 19 = .ok (.iload_n 3, 1) := by decide +kernel
theorem dX11_help_20 : decode cX11_help 20 = .ok (.iconst 1, 1) := by decide +kernel
theorem dX11_help_21 : decode cX11_help 21 = .ok (.aload_n 0, 1) := by decide +kernel
theorem dX11_help_22 : decode cX11_help 22 = .ok (.getfield 98, 3) := by decide +kernel
theorem dX11_help_25 : decode cX11_help 25 = .ok (.iconst 0, 1) := by decide +kernel
theorem dX11_help_26 : decode cX11_help 26 = .ok (.iaload, 1) := by decide +kernel
theorem dX11_help_27 : decode cX11_help 27 = .ok (.ishl, 1) := by decide +kernel
theorem dX11_help_28 : decode cX11_help 28 = .ok (.if_icmp .ge 136, 3) := by decide +kernel
theorem dX11_help_164 : decode cX11_help 164 = .ok (.iload_n 2, 1) := by decide +kernel
theorem dX11_help_165 : decode cX11_help 165 = .ok (.iconst (-1), 1) := by decide +kernel
theorem dX11_help_166 : decode cX11_help 166 = .ok (.if_icmp .ne 5, 3) := by decide +kernel
theorem dX11_help_171 : decode cX11_help 171 = .ok (.aload_n 0, 1) := by decide +kernel
theorem dX11_help_172 : decode cX11_help 172 = .ok (.iload_n 2, 1) := by decide +kernel
theorem dX11_help_173 : decode cX11_help 173 = .ok (.putfield 130, 3) := by decide +kernel
theorem pf_X11_130 {p : Program} {l : Launch} {e : Env} {R : Room} {s : State} {m : MethodId} {args : Array Value} {below : List Frame} {meth : Method} {c : Code} {H : Heap} {locs : List Loc} {cells slots : Nat} {Q : State → Prop} {cc : ByteArray} {pc : Nat} {ls : Array Slot} {rest : List Value} {D : va_G} {A : Nat → Prop} {a : Nat} {tys : List (ClassId × FieldType)} {ws : va_W} {H0 : Heap} (hx : p.tables.exec = Jvm.exec) (hb : c.code = cc) (hts : ∀ w ∈ GW, w.before args s = true) (hown : s.vm.findClass RX11 = some m.cls) (hK : va_K D vwCl tys s) (hP : va_P D vwCl ws H) (hD : va_D A ws) (hS0 : va_S A H0 H locs) (q0 : Nat) {fs : List Value} (he : ws[q0]? = some (a, .inr (12, fs))) {v : Value} (hn : narrow (tyX11 25) v = v) (hfit : fits (tyX11 25) v = true) (hl : 25 < fs.length) (hdg : decode cc pc = .ok (.putfield 130, 3)) (kk : ∀ (H1 : Heap) (locs1 : List Loc), va_P D vwCl (ws.set q0 (a, .inr (12, fs.set 25 v))) H1 → va_D A (ws.set q0 (a, .inr (12, fs.set 25 v))) → va_S A H0 H1 locs1 → W p l e R s m args below meth c H1 locs1 cells slots Q (F0 m (pc + 3) ls rest)) : W p l e R s m args below meth c H locs cells slots Q (F0 m pc ls (v :: .ref a :: rest)) := va_put (C := RX11) (T := TX11) (N := 47) (ci := 12) hx hb hts inX11 tyX11 tkX11 nmX11 hown hK hP hD hS0 q0 he rfl 25 (by decide) (hts _ t1467) (fun _ h => h) rfl (tkX11 25 (by decide)) hn hfit hl hdg kk
theorem dX11_help_176 : decode cX11_help 176 = .ok (.iload_n 2, 1) := by decide +kernel
theorem dX11_help_177 : decode cX11_help 177 = .ok (.invokestatic 300, 3) := by decide +kernel
theorem t1870 : Cond.methodLink RX11 300 yX11_bits ∈ GW := gw_mem 1984 (by decide +kernel) (by decide +kernel)
theorem t1871 : Cond.static yX11_bits ∈ GW := gw_mem 1985 (by decide +kernel) (by decide +kernel)
theorem cw_X11_300 {R : Room} {s : State} {args : Array Value} {rm : Room} {mc ms : Nat} (hts : ∀ w ∈ GW, w.before args s = true) (hrc : rm.cells = mc) (hrs : rm.slots = ms) (hR : rm.frames + 1 ≤ R.frames ∧ 8 + (3 + 11) + rm.locals ≤ R.locals) : CallB R s args RX11 300 yX11_bits cX11_bits 3 (some .int) (wl yX11_bits cX11_bits 3 (some .int)) rm mc ms 1 ∧ (Cond.static yX11_bits).before args s = true := va_cwS 1 hts (gi_S t1870 t1871 t18 t1872) rfl hrc hrs (by decide +kernel) hR
theorem dX11_help_180 : decode cX11_help 180 = .ok (.ireturn, 1) := by decide +kernel
theorem dX11_help_169 : decode cX11_help 169 = .ok (.iconst (-1), 1) := by decide +kernel
theorem dX11_help_170 : decode cX11_help 170 = .ok (.ireturn, 1) := by decide +kernel
theorem dX11_help_158 : decode cX11_help 158 = .ok (.iinc 3 1, 3) := by decide +kernel
theorem dX11_help_161 : decode cX11_help 161 = .ok (.goto (-142), 3) := by decide +kernel
theorem dX11_help_66 : decode cX11_help 66 = .ok (.aload_n 0, 1) := by decide +kernel
theorem dX11_help_67 : decode cX11_help 67 = .ok (.iload_n 1, 1) := by decide +kernel
theorem dX11_help_68 : decode cX11_help 68 = .ok (.invokevirtual 247, 3) := by decide +kernel
theorem dX11_help_71 : decode cX11_help 71 = .ok (.istore 4, 2) := by decide +kernel
theorem dX11_help_73 : decode cX11_help 73 = .ok (.iconst 1, 1) := by decide +kernel
theorem dX11_help_74 : decode cX11_help 74 = .ok (.istore 5, 2) := by decide +kernel
theorem dX11_help_76 : decode cX11_help 76 = .ok (.iconst 0, 1) := by decide +kernel
theorem dX11_help_77 : decode cX11_help 77 = .ok (.istore 6, 2) := by decide +kernel
theorem dX11_help_79 : decode cX11_help 79 = .ok (.iload 6, 2) := by decide +kernel
theorem dX11_help_81 : decode cX11_help 81 = .ok (.aload_n 0, 1) := by decide +kernel
theorem dX11_help_82 : decode cX11_help 82 = .ok (.getfield 98, 3) := by decide +kernel
theorem dX11_help_85 : decode cX11_help 85 = .ok (.iconst 0, 1) := by decide +kernel
theorem dX11_help_86 : decode cX11_help 86 = .ok (.iaload, 1) := by decide +kernel
theorem dX11_help_87 : decode cX11_help 87 = .ok (.if_icmp .ge 53, 3) := by decide +kernel
theorem dX11_help_140 : decode cX11_help 140 = .ok (.iload 5, 2) := by decide +kernel
theorem dX11_help_142 : decode cX11_help 142 = .ok (.ifCond .eq 16, 3) := by decide +kernel
theorem dX11_help_145 : decode cX11_help 145 = .ok (.iload 4, 2) := by decide +kernel
theorem dX11_help_147 : decode cX11_help 147 = .ok (.aload_n 0, 1) := by decide +kernel
theorem dX11_help_148 : decode cX11_help 148 = .ok (.getfield 98, 3) := by decide +kernel
theorem dX11_help_151 : decode cX11_help 151 = .ok (.iconst 3, 1) := by decide +kernel
theorem dX11_help_152 : decode cX11_help 152 = .ok (.iaload, 1) := by decide +kernel
theorem dX11_help_153 : decode cX11_help 153 = .ok (.if_icmp .lt 5, 3) := by decide +kernel
theorem dX11_help_156 : decode cX11_help 156 = .ok (.iload_n 3, 1) := by decide +kernel
theorem dX11_help_157 : decode cX11_help 157 = .ok (.istore_n 2, 1) := by decide +kernel
theorem dX11_help_90 : decode cX11_help 90 = .ok (.iload_n 3, 1) := by decide +kernel
theorem dX11_help_91 : decode cX11_help 91 = .ok (.iload 6, 2) := by decide +kernel
theorem dX11_help_93 : decode cX11_help 93 = .ok (.invokestatic 194, 3) := by decide +kernel
theorem dX11_help_96 : decode cX11_help 96 = .ok (.ifCond .ne 6, 3) := by decide +kernel
theorem dX11_help_99 : decode cX11_help 99 = .ok (.goto 35, 3) := by decide +kernel
theorem dX11_help_134 : decode cX11_help 134 = .ok (.iinc 6 1, 3) := by decide +kernel
theorem dX11_help_137 : decode cX11_help 137 = .ok (.goto (-58), 3) := by decide +kernel
theorem dX11_help_123 : decode cX11_help 123 = .ok (.iload 4, 2) := by decide +kernel
theorem dX11_help_125 : decode cX11_help 125 = .ok (.aload_n 0, 1) := by decide +kernel
theorem dX11_help_126 : decode cX11_help 126 = .ok (.iload 6, 2) := by decide +kernel
theorem dX11_help_128 : decode cX11_help 128 = .ok (.invokevirtual 303, 3) := by decide +kernel
theorem t1873 : Cond.methodLink RX11 303 yX11_wouldLend ∈ GW := gw_mem 1987 (by decide +kernel) (by decide +kernel)
theorem t1875 : Cond.instanceMethod yX11_wouldLend ∈ GW := gw_mem 1989 (by decide +kernel) (by decide +kernel)
theorem s84 : Cond.selects RX11 yX11_wouldLend yX11_wouldLend ∈ GW := gw_mem 84 (by decide +kernel) (by decide +kernel)
theorem cw_X11_303 {R : Room} {s : State} {args : Array Value} {rm : Room} {mc ms : Nat} (hts : ∀ w ∈ GW, w.before args s = true) (hrc : rm.cells = mc) (hrs : rm.slots = ms) (hR : rm.frames + 1 ≤ R.frames ∧ 8 + (4 + 11) + rm.locals ≤ R.locals) : CallW R s args RX11 RX11 303 yX11_wouldLend cX11_wouldLend 4 (some .int) (wl yX11_wouldLend cX11_wouldLend 4 (some .int)) rm mc ms 1 := cwV 1 hts (gi_V t1873 t1875 s84 t18 t1876) rfl hrc hrs (by decide +kernel) hR
theorem dX11_help_131 : decode cX11_help 131 = .ok (.iadd, 1) := by decide +kernel
theorem dX11_help_132 : decode cX11_help 132 = .ok (.istore 4, 2) := by decide +kernel
theorem dX11_help_102 : decode cX11_help 102 = .ok (.iload 5, 2) := by decide +kernel
theorem dX11_help_104 : decode cX11_help 104 = .ok (.ifCond .eq 16, 3) := by decide +kernel
theorem dX11_help_120 : decode cX11_help 120 = .ok (.iconst 0, 1) := by decide +kernel
theorem dX11_help_121 : decode cX11_help 121 = .ok (.istore 5, 2) := by decide +kernel
theorem dX11_help_107 : decode cX11_help 107 = .ok (.aload_n 0, 1) := by decide +kernel
theorem dX11_help_108 : decode cX11_help 108 = .ok (.iload 6, 2) := by decide +kernel
theorem dX11_help_110 : decode cX11_help 110 = .ok (.invokevirtual 303, 3) := by decide +kernel
theorem dX11_help_113 : decode cX11_help 113 = .ok (.ifCond .le 7, 3) := by decide +kernel
theorem dX11_help_116 : decode cX11_help 116 = .ok (.iconst 1, 1) := by decide +kernel
theorem dX11_help_117 : decode cX11_help 117 = .ok (.goto 4, 3) := by decide +kernel
theorem dX11_help_31 : decode cX11_help 31 = .ok (.iload_n 3, 1) := by decide +kernel
theorem dX11_help_32 : decode cX11_help 32 = .ok (.aload_n 0, 1) := by decide +kernel
theorem dX11_help_33 : decode cX11_help 33 = .ok (.getfield 98, 3) := by decide +kernel
theorem dX11_help_36 : decode cX11_help 36 = .ok (.bipush 101, 2) := by decide +kernel
theorem dX11_help_38 : decode cX11_help 38 = .ok (.iload_n 1, 1) := by decide +kernel
theorem dX11_help_39 : decode cX11_help 39 = .ok (.iadd, 1) := by decide +kernel
theorem dX11_help_40 : decode cX11_help 40 = .ok (.iaload, 1) := by decide +kernel
theorem dX11_help_41 : decode cX11_help 41 = .ok (.iconst (-1), 1) := by decide +kernel
theorem dX11_help_42 : decode cX11_help 42 = .ok (.ixor, 1) := by decide +kernel
theorem dX11_help_43 : decode cX11_help 43 = .ok (.iand, 1) := by decide +kernel
theorem dX11_help_44 : decode cX11_help 44 = .ok (.ifCond .ne 114, 3) := by decide +kernel
theorem dX11_help_47 : decode cX11_help 47 = .ok (.iload_n 2, 1) := by decide +kernel
theorem dX11_help_48 : decode cX11_help 48 = .ok (.iconst (-1), 1) := by decide +kernel
theorem dX11_help_49 : decode cX11_help 49 = .ok (.if_icmp .eq 17, 3) := by decide +kernel
theorem dX11_help_52 : decode cX11_help 52 = .ok (.iload_n 3, 1) := by decide +kernel
theorem dX11_help_53 : decode cX11_help 53 = .ok (.invokestatic 300, 3) := by decide +kernel
theorem dX11_help_56 : decode cX11_help 56 = .ok (.iload_n 2, 1) := by decide +kernel
theorem dX11_help_57 : decode cX11_help 57 = .ok (.invokestatic 300, 3) := by decide +kernel
theorem dX11_help_60 : decode cX11_help 60 = .ok (.if_icmp .lt 6, 3) := by decide +kernel
theorem dX11_help_63 : decode cX11_help 63 = .ok (.goto 95, 3) := by decide +kernel
set_option maxHeartbeats 4000000 in
set_option maxRecDepth 100000 in
theorem m_help (l : Launch) (dC : Nat → ClassId) (dI : Nat → Nat → Nat) (cy : Nat → ClassId) (sz : Nat) (vnh : Nat → Int32) (vo : Nat) (voth : Int32) (vmt : Nat) (votp : Int32) (vosz : Int32) (volm : Int32) (voto : Int32) (vofr : Int32) (vokd : Int32) (vonu : Int32) (vosg : Int32) (vofa : Int32) (vopl : Int32) (vowd : Int64) (votd : Int32) (vmn : Nat) (vmr : Nat) (vmk : Nat) (vms : Nat) (vma : Nat) (vmm : Nat) (vmrn : Nat) (vmkn : Nat) (vmik : Nat) (vmon : Nat) (vosm : Int32) (vohp : Int32) (vmw : Nat) (vmf : Nat) (vmb : Nat) (vomb : Int32) (vmd : Nat) (vmc : Nat) (vocm : Int32) (voct : Int32) (vocy : Int32) (vmx : Nat) (votx : Int32) (vose : Int32) (vml : Nat) (vmwr : Nat) (voln : Int32) (vohw : Int32) (vmno : Nat) (vond : Int32) (voon : Int32) (vowi : Int32) (votop : Int32) (vmnf : Nat → Int32) (vm : Int32) (p_vmnf : NW vnh vmnf) : Met l yX11_help (wl yX11_help cX11_help 7 (some .int)) ({ frames := 6, cells := 0, slots := 0, locals := 384 }) (Pw (dC, dI) vwCl cy [(vo, .inr (12, [.int voth, .ref vmt, .int votp, .int vosz, .int volm, .int voto, .int vofr, .int vokd, .int vonu, .int vosg, .int vofa, .int vopl, .long vowd, .int votd, .ref vmn, .ref vmr, .ref vmk, .ref vms, .ref vma, .ref vmm, .ref vmrn, .ref vmkn, .ref vmik, .ref vmon, .int vosm, .int vohp, .ref vmw, .ref vmf, .ref vmb, .int vomb, .ref vmd, .ref vmc, .int vocm, .int voct, .int vocy, .ref vmx, .int votx, .int vose, .ref vml, .ref vmwr, .int voln, .int vohw, .ref vmno, .int vond, .int voon, .int vowi, .int votop])), (vmn, .inl (cy 0, 575, .inl vmnf))] sz [.ref vo, .int vm] nE) (Qi (dC, dI) vwCl (fun (r : Int32) (u : Int32 × Int32) => True) (O_m_help cy vnh vo voth vmt votp vosz volm voto vofr vokd vonu vosg vofa vopl vowd votd vmn vmr vmk vms vma vmm vmrn vmkn vmik vmon vosm vohp vmw vmf vmb vomb vmd vmc vocm voct vocy vmx votx vose vml vmwr voln vohw vmno vond voon vowi votop vmnf vm) (va_A [(vo, .inr (12, [.int voth, .ref vmt, .int votp, .int vosz, .int volm, .int voto, .int vofr, .int vokd, .int vonu, .int vosg, .int vofa, .int vopl, .long vowd, .int votd, .ref vmn, .ref vmr, .ref vmk, .ref vms, .ref vma, .ref vmm, .ref vmrn, .ref vmkn, .ref vmik, .ref vmon, .int vosm, .int vohp, .ref vmw, .ref vmf, .ref vmb, .int vomb, .ref vmd, .ref vmc, .int vocm, .int voct, .int vocy, .ref vmx, .int votx, .int vose, .ref vml, .ref vmwr, .int voln, .int vohw, .ref vmno, .int vond, .int voon, .int vowi, .int votop])), (vmn, .inl (cy 0, 575, .inl vmnf))] sz)) 0 0 (va_A [(vo, .inr (12, [.int voth, .ref vmt, .int votp, .int vosz, .int volm, .int voto, .int vofr, .int vokd, .int vonu, .int vosg, .int vofa, .int vopl, .long vowd, .int votd, .ref vmn, .ref vmr, .ref vmk, .ref vms, .ref vma, .ref vmm, .ref vmrn, .ref vmkn, .ref vmik, .ref vmon, .int vosm, .int vohp, .ref vmw, .ref vmf, .ref vmb, .int vomb, .ref vmd, .ref vmc, .int vocm, .int voct, .int vocy, .ref vmx, .int votx, .int vose, .ref vml, .ref vmwr, .int voln, .int vohw, .ref vmno, .int vond, .int voon, .int vowi, .int votop])), (vmn, .inl (cy 0, 575, .inl vmnf))] sz) := by
  refine mw (Qc := Qi (dC, dI) vwCl (fun (r : Int32) (u : Int32 × Int32) => True) (O_m_help cy vnh vo voth vmt votp vosz volm voto vofr vokd vonu vosg vofa vopl vowd votd vmn vmr vmk vms vma vmm vmrn vmkn vmik vmon vosm vohp vmw vmf vmb vomb vmd vmc vocm voct vocy vmx votx vose vml vmwr voln vohw vmno vond voon vowi votop vmnf vm)) RX11 rfl (by decide +kernel) (Nat.le_of_ble_eq_true rfl) ?_
  intro p e s m below meth c A hx hb hr hlocks av9 hav hts hown hnm hml hK hP hD hA hS hE hAe Q9 hQ9 ls hl
  have hl : lv_has ls 7 [(0, .ref vo), (1, .int vm)] := hl
  refine lv_aload_n hx hb dX11_help_0 rfl (lv_at hl 0 rfl) ?_
  refine lv_iconst (v := 0) hx hb dX11_help_1 (by decide) ?_
  refine pf_X11_1 hx hb hts hown hK hP hD hS 0 rfl rfl rfl (Nat.le_of_ble_eq_true rfl) dX11_help_2 (fun H locs hP hD hS => ?_)
  have hP : va_P (dC, dI) vwCl [(vo, .inr (12, [.int 0, .ref vmt, .int votp, .int vosz, .int volm, .int voto, .int vofr, .int vokd, .int vonu, .int vosg, .int vofa, .int vopl, .long vowd, .int votd, .ref vmn, .ref vmr, .ref vmk, .ref vms, .ref vma, .ref vmm, .ref vmrn, .ref vmkn, .ref vmik, .ref vmon, .int vosm, .int vohp, .ref vmw, .ref vmf, .ref vmb, .int vomb, .ref vmd, .ref vmc, .int vocm, .int voct, .int vocy, .ref vmx, .int votx, .int vose, .ref vml, .ref vmwr, .int voln, .int vohw, .ref vmno, .int vond, .int voon, .int vowi, .int votop])), (vmn, .inl (cy 0, 575, .inl vmnf))] H := hP
  have hD : va_D A [(vo, .inr (12, [.int 0, .ref vmt, .int votp, .int vosz, .int volm, .int voto, .int vofr, .int vokd, .int vonu, .int vosg, .int vofa, .int vopl, .long vowd, .int votd, .ref vmn, .ref vmr, .ref vmk, .ref vms, .ref vma, .ref vmm, .ref vmrn, .ref vmkn, .ref vmik, .ref vmon, .int vosm, .int vohp, .ref vmw, .ref vmf, .ref vmb, .int vomb, .ref vmd, .ref vmc, .int vocm, .int voct, .int vocy, .ref vmx, .int votx, .int vose, .ref vml, .ref vmwr, .int voln, .int vohw, .ref vmno, .int vond, .int voon, .int vowi, .int votop])), (vmn, .inl (cy 0, 575, .inl vmnf))] := hD
  refine lv_aload_n hx hb dX11_help_5 rfl (lv_at hl 0 rfl) ?_
  refine lv_iload_n hx hb dX11_help_6 rfl (lv_at hl 1 rfl) ?_
  have k_0 : (0 : Int32).toInt = 0 := by decide
  refine jr_i (rVr (As := [.int vm]) (rest := []) (ci := 12) ⟨hx, hb, hml, hown, hts⟩ (m_isMan l dC dI cy vnh vo 0 vmt votp vosz volm voto vofr vokd vonu vosg vofa vopl vowd votd vmn vmr vmk vms vma vmm vmrn vmkn vmik vmon vosm vohp vmw vmf vmb vomb vmd vmc vocm voct vocy vmx votx vose vml vmwr voln vohw vmno vond voon vowi votop vmnf vm p_vmnf) (cw_X11_250 hts rfl rfl ⟨Nat.le_of_ble_eq_true rfl, Nat.le_of_ble_eq_true rfl⟩) hP hK [0, 1] rfl rfl rfl rfl hl.1 rfl (Nat.le_of_ble_eq_true rfl) dX11_help_7 ⟨Nat.le_of_ble_eq_true rfl, Nat.le_of_ble_eq_true rfl⟩) hP hS (fun r_1 H locs hp_2 hP hS => ?_)
  have hp_2 : ((r_1 = 0 ∧ ((vm : Int32).toInt < 0 ∨ (vmnf 0).toInt ≤ (vm : Int32).toInt)) ∨ (r_1 = 1 ∧ 0 ≤ (vm : Int32).toInt ∧ (vm : Int32).toInt ≤ 6 ∧ (vm : Int32).toInt < (vmnf 0).toInt)) := hp_2
  have q_3 := hp_2
  rcases q_3 with ⟨aq_3, f0q_3⟩ | ⟨aq_3, f0q_3, f1q_3, f2q_3⟩
  · skip
    refine as_i 0 aq_3 ?_
    refine lv_if_ne (tgt := 15) hx hb dX11_help_10 (by decide) (fun c9 => absurd c9 (by decide)) (fun _ => ?_)
    refine lv_iconst (v := (-1)) hx hb dX11_help_13 (by decide) ?_
    have k_m1 : ((-1) : Int32).toInt = (-1) := by decide
    rw [hQ9]
    exact re_i ((0 : Int32), vohp) hx hb hr hlocks trivial (hP.sub [0, 1] rfl) (hD.sub [0, 1] rfl rfl) hS dX11_help_14
  · skip
    refine as_i 1 aq_3 ?_
    refine lv_if_ne (tgt := 15) hx hb dX11_help_10 (by decide) (fun _ => ?_) (fun c9 => absurd c9 (by decide))
    refine lv_iconst (v := (-1)) hx hb dX11_help_15 (by decide) ?_
    refine lv_istore_n (lv' := [(2, .int (-1)), (0, .ref vo), (1, .int vm)]) hx hb dX11_help_16 rfl hl (by decide) rfl (fun ls hl => ?_)
    refine lv_iconst (v := 0) hx hb dX11_help_17 (by decide) ?_
    refine lv_istore_n (lv' := [(3, .int 0), (2, .int (-1)), (0, .ref vo), (1, .int vm)]) hx hb dX11_help_18 rfl hl (by decide) rfl (fun ls hl => ?_)
    have loop4 : ∀ (n4 : Nat) (x_6 : Int32) (x_5 : Int32), (-1 ≤ x_6.toInt ∧ x_6.toInt ≤ 127) → (0 ≤ x_5.toInt ∧ x_5.toInt ≤ 128) → 128 - x_5.toInt < (n4 : Int) → ∀ (H : Heap) (locs : List Loc), va_P (dC, dI) vwCl [(vo, .inr (12, [.int 0, .ref vmt, .int votp, .int vosz, .int volm, .int voto, .int vofr, .int vokd, .int vonu, .int vosg, .int vofa, .int vopl, .long vowd, .int votd, .ref vmn, .ref vmr, .ref vmk, .ref vms, .ref vma, .ref vmm, .ref vmrn, .ref vmkn, .ref vmik, .ref vmon, .int vosm, .int vohp, .ref vmw, .ref vmf, .ref vmb, .int vomb, .ref vmd, .ref vmc, .int vocm, .int voct, .int vocy, .ref vmx, .int votx, .int vose, .ref vml, .ref vmwr, .int voln, .int vohw, .ref vmno, .int vond, .int voon, .int vowi, .int votop])), (vmn, .inl (cy 0, 575, .inl vmnf))] H → va_D A [(vo, .inr (12, [.int 0, .ref vmt, .int votp, .int vosz, .int volm, .int voto, .int vofr, .int vokd, .int vonu, .int vosg, .int vofa, .int vopl, .long vowd, .int votd, .ref vmn, .ref vmr, .ref vmk, .ref vms, .ref vma, .ref vmm, .ref vmrn, .ref vmkn, .ref vmik, .ref vmon, .int vosm, .int vohp, .ref vmw, .ref vmf, .ref vmb, .int vomb, .ref vmd, .ref vmc, .int vocm, .int voct, .int vocy, .ref vmx, .int votx, .int vose, .ref vml, .ref vmwr, .int voln, .int vohw, .ref vmno, .int vond, .int voon, .int vowi, .int votop])), (vmn, .inl (cy 0, 575, .inl vmnf))] → va_S A s.heap H locs → ∀ ls : Array Slot, lv_has ls 7 [(3, .int x_5), (2, .int x_6), (0, .ref vo), (1, .int vm)] → W p l e ({ frames := 6, cells := 0, slots := 0, locals := 384 }) s m av9 below meth c H locs 0 0 Q9 (F0 m 19 ls []) := by
      intro n4
      induction n4 with
      | zero =>
        intro x_6 x_5 bx_6 bx_5 hn4 H locs hP hD hS ls hl
        exfalso; omega
      | succ n4 ih4 =>
        intro x_6 x_5 bx_6 bx_5 hn4 H locs hP hD hS ls hl
        refine lv_iload_n hx hb dX11_help_19 rfl (lv_at hl 0 rfl) ?_
        refine lv_iconst (v := 1) hx hb dX11_help_20 (by decide) ?_
        refine lv_aload_n hx hb dX11_help_21 rfl (lv_at hl 2 rfl) ?_
        refine gf_X11_98 hx hb hts hown hK hP 0 rfl rfl dX11_help_22 ?_
        refine lv_iconst (v := 0) hx hb dX11_help_25 (by decide) ?_
        have hin_7 : vp_in (0 : Int32) 575 := vp_in_iff.mpr ⟨by omega, by omega⟩
        refine va_iald hx hb hK hP 1 0 rfl rfl hin_7 dX11_help_26 ?_
        refine lv_topi (fun z_8 ez_8 => ?_)
        have bz_8 := p_vmnf.a0 (x := 0) ⟨by omega, by omega⟩ ez_8
        have tz_8 : z_8.toInt = (vmnf 0).toInt := by rw [ez_8]; rfl
        refine lv_ishl hx hb dX11_help_27 ?_
        refine lv_topi (fun z_9 ez_9 => ?_)
        have bz_9 : 1 ≤ z_9.toInt ∧ z_9.toInt ≤ 128 := i_shl7 ez_9 ⟨by omega, by omega⟩
        refine lv_icmp_ge (tgt := 164) hx hb dX11_help_28 (by decide) (fun c_10 => ?_) (fun c_10 => ?_)
        · skip
          have c_10 : z_9.toInt ≤ x_5.toInt := i_le.mp c_10
          refine lv_iload_n hx hb dX11_help_164 rfl (lv_at hl 1 rfl) ?_
          refine lv_iconst (v := (-1)) hx hb dX11_help_165 (by decide) ?_
          have k_m1 : ((-1) : Int32).toInt = (-1) := by decide
          refine lv_icmp_ne (tgt := 171) hx hb dX11_help_166 (by decide) (fun c_11 => ?_) (fun c_11 => ?_)
          · skip
            have c_11 : ¬ (x_6.toInt = ((-1) : Int32).toInt) := fun h9 => c_11 (i_eq.mpr h9)
            refine lv_aload_n hx hb dX11_help_171 rfl (lv_at hl 2 rfl) ?_
            refine lv_iload_n hx hb dX11_help_172 rfl (lv_at hl 1 rfl) ?_
            refine pf_X11_130 hx hb hts hown hK hP hD hS 0 rfl rfl rfl (Nat.le_of_ble_eq_true rfl) dX11_help_173 (fun H locs hP hD hS => ?_)
            have hP : va_P (dC, dI) vwCl [(vo, .inr (12, [.int 0, .ref vmt, .int votp, .int vosz, .int volm, .int voto, .int vofr, .int vokd, .int vonu, .int vosg, .int vofa, .int vopl, .long vowd, .int votd, .ref vmn, .ref vmr, .ref vmk, .ref vms, .ref vma, .ref vmm, .ref vmrn, .ref vmkn, .ref vmik, .ref vmon, .int vosm, .int x_6, .ref vmw, .ref vmf, .ref vmb, .int vomb, .ref vmd, .ref vmc, .int vocm, .int voct, .int vocy, .ref vmx, .int votx, .int vose, .ref vml, .ref vmwr, .int voln, .int vohw, .ref vmno, .int vond, .int voon, .int vowi, .int votop])), (vmn, .inl (cy 0, 575, .inl vmnf))] H := hP
            have hD : va_D A [(vo, .inr (12, [.int 0, .ref vmt, .int votp, .int vosz, .int volm, .int voto, .int vofr, .int vokd, .int vonu, .int vosg, .int vofa, .int vopl, .long vowd, .int votd, .ref vmn, .ref vmr, .ref vmk, .ref vms, .ref vma, .ref vmm, .ref vmrn, .ref vmkn, .ref vmik, .ref vmon, .int vosm, .int x_6, .ref vmw, .ref vmf, .ref vmb, .int vomb, .ref vmd, .ref vmc, .int vocm, .int voct, .int vocy, .ref vmx, .int votx, .int vose, .ref vml, .ref vmwr, .int voln, .int vohw, .ref vmno, .int vond, .int voon, .int vowi, .int votop])), (vmn, .inl (cy 0, 575, .inl vmnf))] := hD
            refine lv_iload_n hx hb dX11_help_176 rfl (lv_at hl 1 rfl) ?_
            refine jr_i (rSr (As := [.int x_6]) (rest := []) ⟨hx, hb, hml, hown, hts⟩ (m_bits l dC dI cy x_6 ⟨by omega, by omega⟩) (cw_X11_300 hts rfl rfl ⟨Nat.le_of_ble_eq_true rfl, Nat.le_of_ble_eq_true rfl⟩) hP hK [] rfl rfl hl.1 rfl (Nat.le_of_ble_eq_true rfl) dX11_help_177 ⟨Nat.le_of_ble_eq_true rfl, Nat.le_of_ble_eq_true rfl⟩) hP hS (fun r_12 H locs hp_13 hP hS => ?_)
            rw [hQ9]
            exact re_i ((0 : Int32), x_6) hx hb hr hlocks trivial (hP.sub [0, 1] rfl) (hD.sub [0, 1] rfl rfl) hS dX11_help_180
          · skip
            have c_11 : x_6.toInt = ((-1) : Int32).toInt := i_eq.mp c_11
            refine lv_iconst (v := (-1)) hx hb dX11_help_169 (by decide) ?_
            rw [hQ9]
            exact re_i ((0 : Int32), vohp) hx hb hr hlocks trivial (hP.sub [0, 1] rfl) (hD.sub [0, 1] rfl rfl) hS dX11_help_170
        · skip
          have c_10 : ¬ (z_9.toInt ≤ x_5.toInt) := fun h9 => c_10 (i_le.mpr h9)
          have join14 : ∀ (x_15 : Int32), (-1 ≤ x_15.toInt ∧ x_15.toInt ≤ 127) → ∀ (H : Heap) (locs : List Loc), va_P (dC, dI) vwCl [(vo, .inr (12, [.int 0, .ref vmt, .int votp, .int vosz, .int volm, .int voto, .int vofr, .int vokd, .int vonu, .int vosg, .int vofa, .int vopl, .long vowd, .int votd, .ref vmn, .ref vmr, .ref vmk, .ref vms, .ref vma, .ref vmm, .ref vmrn, .ref vmkn, .ref vmik, .ref vmon, .int vosm, .int vohp, .ref vmw, .ref vmf, .ref vmb, .int vomb, .ref vmd, .ref vmc, .int vocm, .int voct, .int vocy, .ref vmx, .int votx, .int vose, .ref vml, .ref vmwr, .int voln, .int vohw, .ref vmno, .int vond, .int voon, .int vowi, .int votop])), (vmn, .inl (cy 0, 575, .inl vmnf))] H → va_D A [(vo, .inr (12, [.int 0, .ref vmt, .int votp, .int vosz, .int volm, .int voto, .int vofr, .int vokd, .int vonu, .int vosg, .int vofa, .int vopl, .long vowd, .int votd, .ref vmn, .ref vmr, .ref vmk, .ref vms, .ref vma, .ref vmm, .ref vmrn, .ref vmkn, .ref vmik, .ref vmon, .int vosm, .int vohp, .ref vmw, .ref vmf, .ref vmb, .int vomb, .ref vmd, .ref vmc, .int vocm, .int voct, .int vocy, .ref vmx, .int votx, .int vose, .ref vml, .ref vmwr, .int voln, .int vohw, .ref vmno, .int vond, .int voon, .int vowi, .int votop])), (vmn, .inl (cy 0, 575, .inl vmnf))] → va_S A s.heap H locs → ∀ ls : Array Slot, lv_has ls 7 [(2, .int x_15), (3, .int x_5), (0, .ref vo), (1, .int vm)] → W p l e ({ frames := 6, cells := 0, slots := 0, locals := 384 }) s m av9 below meth c H locs 0 0 Q9 (F0 m 158 ls []) := by
            intro x_15 bx_15 H locs hP hD hS ls hl
            obtain ⟨z_16, ez_16⟩ : ∃ z : Int32, z = x_5 + 1 := ⟨_, rfl⟩
            have k_1 : (1 : Int32).toInt = 1 := by decide
            have bz_16 : z_16.toInt = x_5.toInt + (1 : Int32).toInt := i_add ez_16 (by omega) (by omega)
            refine lv_iinc (v := z_16) (lv' := [(3, .int z_16), (2, .int x_15), (0, .ref vo), (1, .int vm)]) hx hb dX11_help_158 hl (k := 1) rfl ez_16.symm (by decide) rfl (fun ls hl => ?_)
            refine lv_goto (tgt := 19) hx hb dX11_help_161 (by decide) ?_
            exact ih4 x_15 z_16 ⟨by omega, by omega⟩ ⟨by omega, by omega⟩ (by omega) _ _ (hP.sub [0, 1] rfl) (hD.sub [0, 1] rfl rfl) hS ls (lv_sub hl [0, 1, 2, 3] rfl)
          have join17 : ∀ (H : Heap) (locs : List Loc), va_P (dC, dI) vwCl [(vo, .inr (12, [.int 0, .ref vmt, .int votp, .int vosz, .int volm, .int voto, .int vofr, .int vokd, .int vonu, .int vosg, .int vofa, .int vopl, .long vowd, .int votd, .ref vmn, .ref vmr, .ref vmk, .ref vms, .ref vma, .ref vmm, .ref vmrn, .ref vmkn, .ref vmik, .ref vmon, .int vosm, .int vohp, .ref vmw, .ref vmf, .ref vmb, .int vomb, .ref vmd, .ref vmc, .int vocm, .int voct, .int vocy, .ref vmx, .int votx, .int vose, .ref vml, .ref vmwr, .int voln, .int vohw, .ref vmno, .int vond, .int voon, .int vowi, .int votop])), (vmn, .inl (cy 0, 575, .inl vmnf))] H → va_D A [(vo, .inr (12, [.int 0, .ref vmt, .int votp, .int vosz, .int volm, .int voto, .int vofr, .int vokd, .int vonu, .int vosg, .int vofa, .int vopl, .long vowd, .int votd, .ref vmn, .ref vmr, .ref vmk, .ref vms, .ref vma, .ref vmm, .ref vmrn, .ref vmkn, .ref vmik, .ref vmon, .int vosm, .int vohp, .ref vmw, .ref vmf, .ref vmb, .int vomb, .ref vmd, .ref vmc, .int vocm, .int voct, .int vocy, .ref vmx, .int votx, .int vose, .ref vml, .ref vmwr, .int voln, .int vohw, .ref vmno, .int vond, .int voon, .int vowi, .int votop])), (vmn, .inl (cy 0, 575, .inl vmnf))] → va_S A s.heap H locs → ∀ ls : Array Slot, lv_has ls 7 [(3, .int x_5), (2, .int x_6), (0, .ref vo), (1, .int vm)] → W p l e ({ frames := 6, cells := 0, slots := 0, locals := 384 }) s m av9 below meth c H locs 0 0 Q9 (F0 m 66 ls []) := by
            intro  H locs hP hD hS ls hl
            refine lv_aload_n hx hb dX11_help_66 rfl (lv_at hl 2 rfl) ?_
            refine lv_iload_n hx hb dX11_help_67 rfl (lv_at hl 3 rfl) ?_
            refine jr_i (rVr (As := [.int vm]) (rest := []) (ci := 12) ⟨hx, hb, hml, hown, hts⟩ (m_allOf l dC dI cy vnh vo 0 vmt votp vosz volm voto vofr vokd vonu vosg vofa vopl vowd votd vmn vmr vmk vms vma vmm vmrn vmkn vmik vmon vosm vohp vmw vmf vmb vomb vmd vmc vocm voct vocy vmx votx vose vml vmwr voln vohw vmno vond voon vowi votop vmnf vm ⟨by omega, by omega⟩ p_vmnf) (cw_X11_247 hts rfl rfl ⟨Nat.le_of_ble_eq_true rfl, Nat.le_of_ble_eq_true rfl⟩) hP hK [0, 1] rfl rfl rfl rfl hl.1 rfl (Nat.le_of_ble_eq_true rfl) dX11_help_68 ⟨Nat.le_of_ble_eq_true rfl, Nat.le_of_ble_eq_true rfl⟩) hP hS (fun r_18 H locs hp_19 hP hS => ?_)
            refine lv_istore (lv' := [(4, .int r_18), (3, .int x_5), (2, .int x_6), (0, .ref vo), (1, .int vm)]) hx hb dX11_help_71 hl (by decide) rfl (fun ls hl => ?_)
            refine lv_iconst (v := 1) hx hb dX11_help_73 (by decide) ?_
            refine lv_istore (lv' := [(5, .int 1), (4, .int r_18), (3, .int x_5), (2, .int x_6), (0, .ref vo), (1, .int vm)]) hx hb dX11_help_74 hl (by decide) rfl (fun ls hl => ?_)
            refine lv_iconst (v := 0) hx hb dX11_help_76 (by decide) ?_
            refine lv_istore (lv' := [(6, .int 0), (5, .int 1), (4, .int r_18), (3, .int x_5), (2, .int x_6), (0, .ref vo), (1, .int vm)]) hx hb dX11_help_77 hl (by decide) rfl (fun ls hl => ?_)
            have loop20 : ∀ (n20 : Nat) (x_23 : Int32) (x_22 : Int32) (x_21 : Int32), (0 ≤ x_22.toInt ∧ x_22.toInt ≤ 1) → (0 ≤ x_21.toInt ∧ x_21.toInt ≤ 7) → 7 - x_21.toInt < (n20 : Int) → ∀ (H : Heap) (locs : List Loc), va_P (dC, dI) vwCl [(vo, .inr (12, [.int 0, .ref vmt, .int votp, .int vosz, .int volm, .int voto, .int vofr, .int vokd, .int vonu, .int vosg, .int vofa, .int vopl, .long vowd, .int votd, .ref vmn, .ref vmr, .ref vmk, .ref vms, .ref vma, .ref vmm, .ref vmrn, .ref vmkn, .ref vmik, .ref vmon, .int vosm, .int vohp, .ref vmw, .ref vmf, .ref vmb, .int vomb, .ref vmd, .ref vmc, .int vocm, .int voct, .int vocy, .ref vmx, .int votx, .int vose, .ref vml, .ref vmwr, .int voln, .int vohw, .ref vmno, .int vond, .int voon, .int vowi, .int votop])), (vmn, .inl (cy 0, 575, .inl vmnf))] H → va_D A [(vo, .inr (12, [.int 0, .ref vmt, .int votp, .int vosz, .int volm, .int voto, .int vofr, .int vokd, .int vonu, .int vosg, .int vofa, .int vopl, .long vowd, .int votd, .ref vmn, .ref vmr, .ref vmk, .ref vms, .ref vma, .ref vmm, .ref vmrn, .ref vmkn, .ref vmik, .ref vmon, .int vosm, .int vohp, .ref vmw, .ref vmf, .ref vmb, .int vomb, .ref vmd, .ref vmc, .int vocm, .int voct, .int vocy, .ref vmx, .int votx, .int vose, .ref vml, .ref vmwr, .int voln, .int vohw, .ref vmno, .int vond, .int voon, .int vowi, .int votop])), (vmn, .inl (cy 0, 575, .inl vmnf))] → va_S A s.heap H locs → ∀ ls : Array Slot, lv_has ls 7 [(6, .int x_21), (5, .int x_22), (4, .int x_23), (3, .int x_5), (2, .int x_6), (0, .ref vo), (1, .int vm)] → W p l e ({ frames := 6, cells := 0, slots := 0, locals := 384 }) s m av9 below meth c H locs 0 0 Q9 (F0 m 79 ls []) := by
              intro n20
              induction n20 with
              | zero =>
                intro x_23 x_22 x_21 bx_22 bx_21 hn20 H locs hP hD hS ls hl
                exfalso; omega
              | succ n20 ih20 =>
                intro x_23 x_22 x_21 bx_22 bx_21 hn20 H locs hP hD hS ls hl
                refine lv_iload hx hb dX11_help_79 (lv_at hl 0 rfl) ?_
                refine lv_aload_n hx hb dX11_help_81 rfl (lv_at hl 5 rfl) ?_
                refine gf_X11_98 hx hb hts hown hK hP 0 rfl rfl dX11_help_82 ?_
                refine lv_iconst (v := 0) hx hb dX11_help_85 (by decide) ?_
                have hin_24 : vp_in (0 : Int32) 575 := vp_in_iff.mpr ⟨by omega, by omega⟩
                refine va_iald hx hb hK hP 1 0 rfl rfl hin_24 dX11_help_86 ?_
                refine lv_topi (fun z_25 ez_25 => ?_)
                have bz_25 := p_vmnf.a0 (x := 0) ⟨by omega, by omega⟩ ez_25
                have tz_25 : z_25.toInt = (vmnf 0).toInt := by rw [ez_25]; rfl
                refine lv_icmp_ge (tgt := 140) hx hb dX11_help_87 (by decide) (fun c_26 => ?_) (fun c_26 => ?_)
                · skip
                  have c_26 : z_25.toInt ≤ x_21.toInt := i_le.mp c_26
                  refine lv_iload hx hb dX11_help_140 (lv_at hl 1 rfl) ?_
                  refine lv_if_eq (tgt := 158) hx hb dX11_help_142 (by decide) (fun c_27 => ?_) (fun c_27 => ?_)
                  · skip
                    have c_27 : x_22.toInt = (0 : Int32).toInt := i_eq.mp c_27
                    exact join14 x_6 ⟨by omega, by omega⟩ _ _ (hP.sub [0, 1] rfl) (hD.sub [0, 1] rfl rfl) hS ls (lv_sub hl [4, 3, 5, 6] rfl)
                  · skip
                    have c_27 : ¬ (x_22.toInt = (0 : Int32).toInt) := fun h9 => c_27 (i_eq.mpr h9)
                    refine lv_iload hx hb dX11_help_145 (lv_at hl 2 rfl) ?_
                    refine lv_aload_n hx hb dX11_help_147 rfl (lv_at hl 5 rfl) ?_
                    refine gf_X11_98 hx hb hts hown hK hP 0 rfl rfl dX11_help_148 ?_
                    refine lv_iconst (v := 3) hx hb dX11_help_151 (by decide) ?_
                    have k_3 : (3 : Int32).toInt = 3 := by decide
                    have hin_28 : vp_in (3 : Int32) 575 := vp_in_iff.mpr ⟨by omega, by omega⟩
                    refine va_iald hx hb hK hP 1 0 rfl rfl hin_28 dX11_help_152 ?_
                    refine lv_topi (fun z_29 ez_29 => ?_)
                    have tz_29 : z_29.toInt = (vmnf 3).toInt := by rw [ez_29]; rfl
                    refine lv_icmp_lt (tgt := 158) hx hb dX11_help_153 (by decide) (fun c_30 => ?_) (fun c_30 => ?_)
                    · skip
                      have c_30 : x_23.toInt < z_29.toInt := i_lt.mp c_30
                      exact join14 x_6 ⟨by omega, by omega⟩ _ _ (hP.sub [0, 1] rfl) (hD.sub [0, 1] rfl rfl) hS ls (lv_sub hl [4, 3, 5, 6] rfl)
                    · skip
                      have c_30 : ¬ (x_23.toInt < z_29.toInt) := fun h9 => c_30 (i_lt.mpr h9)
                      refine lv_iload_n hx hb dX11_help_156 rfl (lv_at hl 3 rfl) ?_
                      refine lv_istore_n (lv' := [(2, .int x_5), (6, .int x_21), (5, .int x_22), (4, .int x_23), (3, .int x_5), (0, .ref vo), (1, .int vm)]) hx hb dX11_help_157 rfl hl (by decide) rfl (fun ls hl => ?_)
                      exact join14 x_5 ⟨by omega, by omega⟩ _ _ (hP.sub [0, 1] rfl) (hD.sub [0, 1] rfl rfl) hS ls (lv_sub hl [0, 4, 5, 6] rfl)
                · skip
                  have c_26 : ¬ (z_25.toInt ≤ x_21.toInt) := fun h9 => c_26 (i_le.mpr h9)
                  refine lv_iload_n hx hb dX11_help_90 rfl (lv_at hl 3 rfl) ?_
                  refine lv_iload hx hb dX11_help_91 (lv_at hl 0 rfl) ?_
                  refine jr_i (rSr (As := [.int x_5, .int x_21]) (rest := []) ⟨hx, hb, hml, hown, hts⟩ (m_has l dC dI cy x_5 x_21 ) (cw_X11_194 hts rfl rfl ⟨Nat.le_of_ble_eq_true rfl, Nat.le_of_ble_eq_true rfl⟩) hP hK [] rfl rfl hl.1 rfl (Nat.le_of_ble_eq_true rfl) dX11_help_93 ⟨Nat.le_of_ble_eq_true rfl, Nat.le_of_ble_eq_true rfl⟩) hP hS (fun r_31 H locs hp_32 hP hS => ?_)
                  have hp_32 : ((r_31 = 0) ∨ (r_31 = 1)) := hp_32
                  have q_33 := hp_32
                  rcases q_33 with aq_33 | aq_33
                  · skip
                    refine as_i 0 aq_33 ?_
                    refine lv_if_ne (tgt := 102) hx hb dX11_help_96 (by decide) (fun c9 => absurd c9 (by decide)) (fun _ => ?_)
                    refine lv_goto (tgt := 134) hx hb dX11_help_99 (by decide) ?_
                    obtain ⟨z_34, ez_34⟩ : ∃ z : Int32, z = x_21 + 1 := ⟨_, rfl⟩
                    have k_1 : (1 : Int32).toInt = 1 := by decide
                    have bz_34 : z_34.toInt = x_21.toInt + (1 : Int32).toInt := i_add ez_34 (by omega) (by omega)
                    refine lv_iinc (v := z_34) (lv' := [(6, .int z_34), (5, .int x_22), (4, .int x_23), (3, .int x_5), (2, .int x_6), (0, .ref vo), (1, .int vm)]) hx hb dX11_help_134 hl (k := 0) rfl ez_34.symm (by decide) rfl (fun ls hl => ?_)
                    refine lv_goto (tgt := 79) hx hb dX11_help_137 (by decide) ?_
                    exact ih20 x_23 x_22 z_34 ⟨by omega, by omega⟩ ⟨by omega, by omega⟩ (by omega) _ _ (hP.sub [0, 1] rfl) (hD.sub [0, 1] rfl rfl) hS ls (lv_sub hl [0, 1, 2, 3, 4, 5, 6] rfl)
                  · skip
                    refine as_i 1 aq_33 ?_
                    refine lv_if_ne (tgt := 102) hx hb dX11_help_96 (by decide) (fun _ => ?_) (fun c9 => absurd c9 (by decide))
                    have join35 : ∀ (x_36 : Int32), (0 ≤ x_36.toInt ∧ x_36.toInt ≤ 1) → ∀ (H : Heap) (locs : List Loc), va_P (dC, dI) vwCl [(vo, .inr (12, [.int 0, .ref vmt, .int votp, .int vosz, .int volm, .int voto, .int vofr, .int vokd, .int vonu, .int vosg, .int vofa, .int vopl, .long vowd, .int votd, .ref vmn, .ref vmr, .ref vmk, .ref vms, .ref vma, .ref vmm, .ref vmrn, .ref vmkn, .ref vmik, .ref vmon, .int vosm, .int vohp, .ref vmw, .ref vmf, .ref vmb, .int vomb, .ref vmd, .ref vmc, .int vocm, .int voct, .int vocy, .ref vmx, .int votx, .int vose, .ref vml, .ref vmwr, .int voln, .int vohw, .ref vmno, .int vond, .int voon, .int vowi, .int votop])), (vmn, .inl (cy 0, 575, .inl vmnf))] H → va_D A [(vo, .inr (12, [.int 0, .ref vmt, .int votp, .int vosz, .int volm, .int voto, .int vofr, .int vokd, .int vonu, .int vosg, .int vofa, .int vopl, .long vowd, .int votd, .ref vmn, .ref vmr, .ref vmk, .ref vms, .ref vma, .ref vmm, .ref vmrn, .ref vmkn, .ref vmik, .ref vmon, .int vosm, .int vohp, .ref vmw, .ref vmf, .ref vmb, .int vomb, .ref vmd, .ref vmc, .int vocm, .int voct, .int vocy, .ref vmx, .int votx, .int vose, .ref vml, .ref vmwr, .int voln, .int vohw, .ref vmno, .int vond, .int voon, .int vowi, .int votop])), (vmn, .inl (cy 0, 575, .inl vmnf))] → va_S A s.heap H locs → ∀ ls : Array Slot, lv_has ls 7 [(5, .int x_36), (6, .int x_21), (4, .int x_23), (3, .int x_5), (2, .int x_6), (0, .ref vo), (1, .int vm)] → W p l e ({ frames := 6, cells := 0, slots := 0, locals := 384 }) s m av9 below meth c H locs 0 0 Q9 (F0 m 123 ls []) := by
                      intro x_36 bx_36 H locs hP hD hS ls hl
                      refine lv_iload hx hb dX11_help_123 (lv_at hl 2 rfl) ?_
                      refine lv_aload_n hx hb dX11_help_125 rfl (lv_at hl 5 rfl) ?_
                      refine lv_iload hx hb dX11_help_126 (lv_at hl 1 rfl) ?_
                      refine jr_i (rVr (As := [.int x_21]) (rest := [.int x_23]) (ci := 12) ⟨hx, hb, hml, hown, hts⟩ (m_wouldLend l dC dI cy vnh vo 0 vmt votp vosz volm voto vofr vokd vonu vosg vofa vopl vowd votd vmn vmr vmk vms vma vmm vmrn vmkn vmik vmon vosm vohp vmw vmf vmb vomb vmd vmc vocm voct vocy vmx votx vose vml vmwr voln vohw vmno vond voon vowi votop vmnf x_21 ⟨by omega, by omega⟩ p_vmnf) (cw_X11_303 hts rfl rfl ⟨Nat.le_of_ble_eq_true rfl, Nat.le_of_ble_eq_true rfl⟩) hP hK [0, 1] rfl rfl rfl rfl hl.1 rfl (Nat.le_of_ble_eq_true rfl) dX11_help_128 ⟨Nat.le_of_ble_eq_true rfl, Nat.le_of_ble_eq_true rfl⟩) hP hS (fun r_37 H locs hp_38 hP hS => ?_)
                      refine lv_iadd hx hb dX11_help_131 ?_
                      refine lv_topi (fun z_39 ez_39 => ?_)
                      refine lv_istore (lv' := [(4, .int z_39), (5, .int x_36), (6, .int x_21), (3, .int x_5), (2, .int x_6), (0, .ref vo), (1, .int vm)]) hx hb dX11_help_132 hl (by decide) rfl (fun ls hl => ?_)
                      obtain ⟨z_40, ez_40⟩ : ∃ z : Int32, z = x_21 + 1 := ⟨_, rfl⟩
                      have k_1 : (1 : Int32).toInt = 1 := by decide
                      have bz_40 : z_40.toInt = x_21.toInt + (1 : Int32).toInt := i_add ez_40 (by omega) (by omega)
                      refine lv_iinc (v := z_40) (lv' := [(6, .int z_40), (4, .int z_39), (5, .int x_36), (3, .int x_5), (2, .int x_6), (0, .ref vo), (1, .int vm)]) hx hb dX11_help_134 hl (k := 2) rfl ez_40.symm (by decide) rfl (fun ls hl => ?_)
                      refine lv_goto (tgt := 79) hx hb dX11_help_137 (by decide) ?_
                      exact ih20 z_39 x_36 z_40 ⟨by omega, by omega⟩ ⟨by omega, by omega⟩ (by omega) _ _ (hP.sub [0, 1] rfl) (hD.sub [0, 1] rfl rfl) hS ls (lv_sub hl [0, 2, 1, 3, 4, 5, 6] rfl)
                    refine lv_iload hx hb dX11_help_102 (lv_at hl 1 rfl) ?_
                    refine lv_if_eq (tgt := 120) hx hb dX11_help_104 (by decide) (fun c_41 => ?_) (fun c_41 => ?_)
                    · skip
                      have c_41 : x_22.toInt = (0 : Int32).toInt := i_eq.mp c_41
                      refine lv_iconst (v := 0) hx hb dX11_help_120 (by decide) ?_
                      refine lv_istore (lv' := [(5, .int 0), (6, .int x_21), (4, .int x_23), (3, .int x_5), (2, .int x_6), (0, .ref vo), (1, .int vm)]) hx hb dX11_help_121 hl (by decide) rfl (fun ls hl => ?_)
                      exact join35 0 ⟨by omega, by omega⟩ _ _ (hP.sub [0, 1] rfl) (hD.sub [0, 1] rfl rfl) hS ls (lv_sub hl [0, 1, 2, 3, 4, 5, 6] rfl)
                    · skip
                      have c_41 : ¬ (x_22.toInt = (0 : Int32).toInt) := fun h9 => c_41 (i_eq.mpr h9)
                      refine lv_aload_n hx hb dX11_help_107 rfl (lv_at hl 5 rfl) ?_
                      refine lv_iload hx hb dX11_help_108 (lv_at hl 0 rfl) ?_
                      refine jr_i (rVr (As := [.int x_21]) (rest := []) (ci := 12) ⟨hx, hb, hml, hown, hts⟩ (m_wouldLend l dC dI cy vnh vo 0 vmt votp vosz volm voto vofr vokd vonu vosg vofa vopl vowd votd vmn vmr vmk vms vma vmm vmrn vmkn vmik vmon vosm vohp vmw vmf vmb vomb vmd vmc vocm voct vocy vmx votx vose vml vmwr voln vohw vmno vond voon vowi votop vmnf x_21 ⟨by omega, by omega⟩ p_vmnf) (cw_X11_303 hts rfl rfl ⟨Nat.le_of_ble_eq_true rfl, Nat.le_of_ble_eq_true rfl⟩) hP hK [0, 1] rfl rfl rfl rfl hl.1 rfl (Nat.le_of_ble_eq_true rfl) dX11_help_110 ⟨Nat.le_of_ble_eq_true rfl, Nat.le_of_ble_eq_true rfl⟩) hP hS (fun r_42 H locs hp_43 hP hS => ?_)
                      refine lv_if_le (tgt := 120) hx hb dX11_help_113 (by decide) (fun c_44 => ?_) (fun c_44 => ?_)
                      · skip
                        have c_44 : r_42.toInt ≤ (0 : Int32).toInt := i_le.mp c_44
                        refine lv_iconst (v := 0) hx hb dX11_help_120 (by decide) ?_
                        refine lv_istore (lv' := [(5, .int 0), (6, .int x_21), (4, .int x_23), (3, .int x_5), (2, .int x_6), (0, .ref vo), (1, .int vm)]) hx hb dX11_help_121 hl (by decide) rfl (fun ls hl => ?_)
                        exact join35 0 ⟨by omega, by omega⟩ _ _ (hP.sub [0, 1] rfl) (hD.sub [0, 1] rfl rfl) hS ls (lv_sub hl [0, 1, 2, 3, 4, 5, 6] rfl)
                      · skip
                        have c_44 : ¬ (r_42.toInt ≤ (0 : Int32).toInt) := fun h9 => c_44 (i_le.mpr h9)
                        refine lv_iconst (v := 1) hx hb dX11_help_116 (by decide) ?_
                        refine lv_goto (tgt := 121) hx hb dX11_help_117 (by decide) ?_
                        refine lv_istore (lv' := [(5, .int 1), (6, .int x_21), (4, .int x_23), (3, .int x_5), (2, .int x_6), (0, .ref vo), (1, .int vm)]) hx hb dX11_help_121 hl (by decide) rfl (fun ls hl => ?_)
                        have k_1 : (1 : Int32).toInt = 1 := by decide
                        exact join35 1 ⟨by omega, by omega⟩ _ _ (hP.sub [0, 1] rfl) (hD.sub [0, 1] rfl rfl) hS ls (lv_sub hl [0, 1, 2, 3, 4, 5, 6] rfl)
            have k_1 : (1 : Int32).toInt = 1 := by decide
            exact loop20 ((7 - (0 : Int32).toInt).toNat + 1) r_18 1 0 ⟨by omega, by omega⟩ ⟨by omega, by omega⟩ (by omega) _ _ hP hD hS ls (lv_sub hl [0, 1, 2, 3, 4, 5, 6] rfl)
          refine lv_iload_n hx hb dX11_help_31 rfl (lv_at hl 0 rfl) ?_
          refine lv_aload_n hx hb dX11_help_32 rfl (lv_at hl 2 rfl) ?_
          refine gf_X11_98 hx hb hts hown hK hP 0 rfl rfl dX11_help_33 ?_
          refine lv_bipush (v := 101) hx hb dX11_help_36 (by decide) ?_
          refine lv_iload_n hx hb dX11_help_38 rfl (lv_at hl 3 rfl) ?_
          refine lv_iadd hx hb dX11_help_39 ?_
          refine lv_topi (fun z_45 ez_45 => ?_)
          have k_101 : (101 : Int32).toInt = 101 := by decide
          have bz_45 : z_45.toInt = (101 : Int32).toInt + vm.toInt := i_add ez_45 (by omega) (by omega)
          have hin_46 : vp_in z_45 575 := vp_in_iff.mpr ⟨by omega, by omega⟩
          refine va_iald hx hb hK hP 1 0 rfl rfl hin_46 dX11_help_40 ?_
          refine lv_topi (fun z_47 ez_47 => ?_)
          refine lv_iconst (v := (-1)) hx hb dX11_help_41 (by decide) ?_
          refine lv_ixor hx hb dX11_help_42 ?_
          refine lv_topi (fun z_48 ez_48 => ?_)
          refine lv_iand hx hb dX11_help_43 ?_
          refine lv_topi (fun z_49 ez_49 => ?_)
          refine lv_if_ne (tgt := 158) hx hb dX11_help_44 (by decide) (fun c_50 => ?_) (fun c_50 => ?_)
          · skip
            have c_50 : ¬ (z_49.toInt = (0 : Int32).toInt) := fun h9 => c_50 (i_eq.mpr h9)
            exact join14 x_6 ⟨by omega, by omega⟩ _ _ (hP.sub [0, 1] rfl) (hD.sub [0, 1] rfl rfl) hS ls (lv_sub hl [1, 0, 2, 3] rfl)
          · skip
            have c_50 : z_49.toInt = (0 : Int32).toInt := i_eq.mp c_50
            refine lv_iload_n hx hb dX11_help_47 rfl (lv_at hl 1 rfl) ?_
            refine lv_iconst (v := (-1)) hx hb dX11_help_48 (by decide) ?_
            have k_m1 : ((-1) : Int32).toInt = (-1) := by decide
            refine lv_icmp_eq (tgt := 66) hx hb dX11_help_49 (by decide) (fun c_51 => ?_) (fun c_51 => ?_)
            · skip
              have c_51 : x_6.toInt = ((-1) : Int32).toInt := i_eq.mp c_51
              exact join17  _ _ (hP.sub [0, 1] rfl) (hD.sub [0, 1] rfl rfl) hS ls (lv_sub hl [0, 1, 2, 3] rfl)
            · skip
              have c_51 : ¬ (x_6.toInt = ((-1) : Int32).toInt) := fun h9 => c_51 (i_eq.mpr h9)
              refine lv_iload_n hx hb dX11_help_52 rfl (lv_at hl 0 rfl) ?_
              refine jr_i (rSr (As := [.int x_5]) (rest := []) ⟨hx, hb, hml, hown, hts⟩ (m_bits l dC dI cy x_5 ⟨by omega, by omega⟩) (cw_X11_300 hts rfl rfl ⟨Nat.le_of_ble_eq_true rfl, Nat.le_of_ble_eq_true rfl⟩) hP hK [] rfl rfl hl.1 rfl (Nat.le_of_ble_eq_true rfl) dX11_help_53 ⟨Nat.le_of_ble_eq_true rfl, Nat.le_of_ble_eq_true rfl⟩) hP hS (fun r_52 H locs hp_53 hP hS => ?_)
              refine lv_iload_n hx hb dX11_help_56 rfl (lv_at hl 1 rfl) ?_
              refine jr_i (rSr (As := [.int x_6]) (rest := [.int r_52]) ⟨hx, hb, hml, hown, hts⟩ (m_bits l dC dI cy x_6 ⟨by omega, by omega⟩) (cw_X11_300 hts rfl rfl ⟨Nat.le_of_ble_eq_true rfl, Nat.le_of_ble_eq_true rfl⟩) hP hK [] rfl rfl hl.1 rfl (Nat.le_of_ble_eq_true rfl) dX11_help_57 ⟨Nat.le_of_ble_eq_true rfl, Nat.le_of_ble_eq_true rfl⟩) hP hS (fun r_54 H locs hp_55 hP hS => ?_)
              refine lv_icmp_lt (tgt := 66) hx hb dX11_help_60 (by decide) (fun c_56 => ?_) (fun c_56 => ?_)
              · skip
                have c_56 : r_52.toInt < r_54.toInt := i_lt.mp c_56
                exact join17  _ _ (hP.sub [0, 1] rfl) (hD.sub [0, 1] rfl rfl) hS ls (lv_sub hl [0, 1, 2, 3] rfl)
              · skip
                have c_56 : ¬ (r_52.toInt < r_54.toInt) := fun h9 => c_56 (i_lt.mpr h9)
                refine lv_goto (tgt := 158) hx hb dX11_help_63 (by decide) ?_
                exact join14 x_6 ⟨by omega, by omega⟩ _ _ (hP.sub [0, 1] rfl) (hD.sub [0, 1] rfl rfl) hS ls (lv_sub hl [1, 0, 2, 3] rfl)
    have k_m1 : ((-1) : Int32).toInt = (-1) := by decide
    exact loop4 ((128 - (0 : Int32).toInt).toNat + 1) (-1) 0 ⟨by omega, by omega⟩ ⟨by omega, by omega⟩ (by omega) _ _ hP hD hS ls (lv_sub hl [0, 1, 2, 3] rfl)
abbrev cX11_hide : ByteArray := prog_13_method_93_code
def yX11_hide : MethodName := ⟨RX11, "hide", "(I)I"⟩
theorem t1917 : Cond.code yX11_hide cX11_hide 7 (some .int) ∈ GW := gw_mem 2031 (by decide +kernel) (by decide +kernel)
abbrev O_m_hide (cy : Nat → ClassId) (vnh : Nat → Int32) (vo : Nat) (voth : Int32) (vmt : Nat) (votp : Int32) (vosz : Int32) (volm : Int32) (voto : Int32) (vofr : Int32) (vokd : Int32) (vonu : Int32) (vosg : Int32) (vofa : Int32) (vopl : Int32) (vowd : Int64) (votd : Int32) (vmn : Nat) (vmr : Nat) (vmk : Nat) (vms : Nat) (vma : Nat) (vmm : Nat) (vmrn : Nat) (vmkn : Nat) (vmik : Nat) (vmon : Nat) (vosm : Int32) (vohp : Int32) (vmw : Nat) (vmf : Nat) (vmb : Nat) (vomb : Int32) (vmd : Nat) (vmc : Nat) (vocm : Int32) (voct : Int32) (vocy : Int32) (vmx : Nat) (votx : Int32) (vose : Int32) (vml : Nat) (vmwr : Nat) (voln : Int32) (vohw : Int32) (vmno : Nat) (vond : Int32) (voon : Int32) (vowi : Int32) (votop : Int32) (vmnf : Nat → Int32) (vm : Int32) (u : Int32) : va_W := [(vo, .inr (12, [.int u, .ref vmt, .int votp, .int vosz, .int volm, .int voto, .int vofr, .int vokd, .int vonu, .int vosg, .int vofa, .int vopl, .long vowd, .int votd, .ref vmn, .ref vmr, .ref vmk, .ref vms, .ref vma, .ref vmm, .ref vmrn, .ref vmkn, .ref vmik, .ref vmon, .int vosm, .int vohp, .ref vmw, .ref vmf, .ref vmb, .int vomb, .ref vmd, .ref vmc, .int vocm, .int voct, .int vocy, .ref vmx, .int votx, .int vose, .ref vml, .ref vmwr, .int voln, .int vohw, .ref vmno, .int vond, .int voon, .int vowi, .int votop])), (vmn, .inl (cy 0, 575, .inl vmnf))]
theorem dX11_hide_0 : decode cX11_hide 0 = .ok (.aload_n 0, 1) := by decide +kernel
theorem dX11_hide_1 : decode cX11_hide 1 = .ok (.iconst 0, 1) := by decide +kernel
theorem dX11_hide_2 : decode cX11_hide 2 = .ok (.putfield 1, 3) := by decide +kernel
theorem dX11_hide_5 : decode cX11_hide 5 = .ok (.aload_n 0, 1) := by decide +kernel
theorem dX11_hide_6 : decode cX11_hide 6 = .ok (.iload_n 1, 1) := by decide +kernel
theorem dX11_hide_7 : decode cX11_hide 7 = .ok (.invokevirtual 250, 3) := by decide +kernel
theorem dX11_hide_10 : decode cX11_hide 10 = .ok (.ifCond .ne 5, 3) := by decide +kernel
theorem dX11_hide_13 : decode cX11_hide 13 = .ok (.iconst (-1), 1) := by decide +kernel
theorem dX11_hide_14 : decode cX11_hide 14 = .ok (.ireturn, 1) := by decide +kernel
theorem dX11_hide_15 : decode cX11_hide 15 = .ok (.aload_n 0, 1) := by decide +kernel
theorem dX11_hide_16 : decode cX11_hide 16 = .ok (.iload_n 1, 1) := by decide +kernel
theorem dX11_hide_17 : decode cX11_hide 17 = .ok (.invokevirtual 244, 3) := by decide +kernel
theorem dX11_hide_20 : decode cX11_hide 20 = .ok (.ifCond .ne 5, 3) := by decide +kernel
theorem dX11_hide_25 : decode cX11_hide 25 = .ok (.aload_n 0, 1) := by decide +kernel
theorem dX11_hide_26 : decode cX11_hide 26 = .ok (.getfield 98, 3) := by decide +kernel
theorem dX11_hide_29 : decode cX11_hide 29 = .ok (.iconst 2, 1) := by decide +kernel
theorem dX11_hide_30 : decode cX11_hide 30 = .ok (.iaload, 1) := by decide +kernel
theorem dX11_hide_31 : decode cX11_hide 31 = .ok (.aload_n 0, 1) := by decide +kernel
theorem dX11_hide_32 : decode cX11_hide 32 = .ok (.iload_n 1, 1) := by decide +kernel
theorem dX11_hide_33 : decode cX11_hide 33 = .ok (.invokevirtual 241, 3) := by decide +kernel
theorem dX11_hide_36 : decode cX11_hide 36 = .ok (.isub, 1) := by decide +kernel
theorem dX11_hide_37 : decode cX11_hide 37 = .ok (.istore_n 2, 1) := by decide +kernel
theorem dX11_hide_38 : decode cX11_hide 38 = .ok (.iconst 0, 1) := by decide +kernel
theorem dX11_hide_39 : decode cX11_hide 39 = .ok (.istore_n 3, 1) := by decide +kernel
theorem dX11_hide_40 : decode cX11_hide 40 = .ok (.bipush 40, 2) := by decide +kernel
theorem dX11_hide_42 : decode cX11_hide 42 = .ok (.istore 4, 2) := by decide +kernel
theorem dX11_hide_44 : decode cX11_hide 44 = .ok (.iload 4, 2) := by decide +kernel
theorem dX11_hide_46 : decode cX11_hide 46 = .ok (.ifCond .le 99, 3) := by decide +kernel
theorem dX11_hide_145 : decode cX11_hide 145 = .ok (.iload_n 2, 1) := by decide +kernel
theorem dX11_hide_146 : decode cX11_hide 146 = .ok (.ifCond .le 7, 3) := by decide +kernel
theorem dX11_hide_153 : decode cX11_hide 153 = .ok (.iload_n 3, 1) := by decide +kernel
theorem dX11_hide_154 : decode cX11_hide 154 = .ok (.ireturn, 1) := by decide +kernel
theorem dX11_hide_149 : decode cX11_hide 149 = .ok (.iconst (-1), 1) := by decide +kernel
theorem dX11_hide_150 : decode cX11_hide 150 = .ok (.goto 4, 3) := by decide +kernel
theorem dX11_hide_49 : decode cX11_hide 49 = .ok (.iload_n 2, 1) := by decide +kernel
theorem dX11_hide_50 : decode cX11_hide 50 = .ok (.ifCond .le 95, 3) := by decide +kernel
theorem dX11_hide_53 : decode cX11_hide 53 = .ok (.iconst 0, 1) := by decide +kernel
theorem dX11_hide_54 : decode cX11_hide 54 = .ok (.istore 5, 2) := by decide +kernel
theorem dX11_hide_56 : decode cX11_hide 56 = .ok (.iload 5, 2) := by decide +kernel
theorem dX11_hide_58 : decode cX11_hide 58 = .ok (.aload_n 0, 1) := by decide +kernel
theorem dX11_hide_59 : decode cX11_hide 59 = .ok (.getfield 98, 3) := by decide +kernel
theorem dX11_hide_62 : decode cX11_hide 62 = .ok (.iconst 1, 1) := by decide +kernel
theorem dX11_hide_63 : decode cX11_hide 63 = .ok (.iaload, 1) := by decide +kernel
theorem dX11_hide_64 : decode cX11_hide 64 = .ok (.if_icmp .ge 75, 3) := by decide +kernel
theorem dX11_hide_139 : decode cX11_hide 139 = .ok (.iinc 4 (-1), 3) := by decide +kernel
theorem dX11_hide_142 : decode cX11_hide 142 = .ok (.goto (-98), 3) := by decide +kernel
theorem dX11_hide_133 : decode cX11_hide 133 = .ok (.iinc 5 1, 3) := by decide +kernel
theorem dX11_hide_136 : decode cX11_hide 136 = .ok (.goto (-80), 3) := by decide +kernel
theorem dX11_hide_67 : decode cX11_hide 67 = .ok (.aload_n 0, 1) := by decide +kernel
theorem dX11_hide_68 : decode cX11_hide 68 = .ok (.getfield 98, 3) := by decide +kernel
theorem dX11_hide_71 : decode cX11_hide 71 = .ok (.bipush 21, 2) := by decide +kernel
theorem dX11_hide_73 : decode cX11_hide 73 = .ok (.iload 5, 2) := by decide +kernel
theorem dX11_hide_75 : decode cX11_hide 75 = .ok (.iadd, 1) := by decide +kernel
theorem dX11_hide_76 : decode cX11_hide 76 = .ok (.iaload, 1) := by decide +kernel
theorem dX11_hide_77 : decode cX11_hide 77 = .ok (.iconst 1, 1) := by decide +kernel
theorem dX11_hide_78 : decode cX11_hide 78 = .ok (.if_icmp .eq 55, 3) := by decide +kernel
theorem dX11_hide_81 : decode cX11_hide 81 = .ok (.aload_n 0, 1) := by decide +kernel
theorem dX11_hide_82 : decode cX11_hide 82 = .ok (.getfield 98, 3) := by decide +kernel
theorem dX11_hide_85 : decode cX11_hide 85 = .ok (.bipush 11, 2) := by decide +kernel
theorem dX11_hide_87 : decode cX11_hide 87 = .ok (.iload 5, 2) := by decide +kernel
theorem dX11_hide_89 : decode cX11_hide 89 = .ok (.iadd, 1) := by decide +kernel
theorem dX11_hide_90 : decode cX11_hide 90 = .ok (.iaload, 1) := by decide +kernel
theorem dX11_hide_91 : decode cX11_hide 91 = .ok (.iload 4, 2) := by decide +kernel
theorem dX11_hide_93 : decode cX11_hide 93 = .ok (.if_icmp .eq 6, 3) := by decide +kernel
theorem dX11_hide_99 : decode cX11_hide 99 = .ok (.aload_n 0, 1) := by decide +kernel
theorem dX11_hide_100 : decode cX11_hide 100 = .ok (.iload_n 1, 1) := by decide +kernel
theorem dX11_hide_101 : decode cX11_hide 101 = .ok (.iload 5, 2) := by decide +kernel
theorem dX11_hide_103 : decode cX11_hide 103 = .ok (.invokevirtual 228, 3) := by decide +kernel
theorem dX11_hide_106 : decode cX11_hide 106 = .ok (.istore 6, 2) := by decide +kernel
theorem dX11_hide_108 : decode cX11_hide 108 = .ok (.iload 6, 2) := by decide +kernel
theorem dX11_hide_110 : decode cX11_hide 110 = .ok (.bipush 9, 2) := by decide +kernel
theorem dX11_hide_112 : decode cX11_hide 112 = .ok (.if_icmp .ge 21, 3) := by decide +kernel
theorem dX11_hide_115 : decode cX11_hide 115 = .ok (.iload_n 2, 1) := by decide +kernel
theorem dX11_hide_116 : decode cX11_hide 116 = .ok (.ifCond .le 17, 3) := by decide +kernel
theorem dX11_hide_119 : decode cX11_hide 119 = .ok (.iload_n 2, 1) := by decide +kernel
theorem dX11_hide_120 : decode cX11_hide 120 = .ok (.iload 4, 2) := by decide +kernel
theorem dX11_hide_122 : decode cX11_hide 122 = .ok (.isub, 1) := by decide +kernel
theorem dX11_hide_123 : decode cX11_hide 123 = .ok (.istore_n 2, 1) := by decide +kernel
theorem dX11_hide_124 : decode cX11_hide 124 = .ok (.iinc 3 1, 3) := by decide +kernel
theorem dX11_hide_127 : decode cX11_hide 127 = .ok (.iinc 6 1, 3) := by decide +kernel
theorem dX11_hide_130 : decode cX11_hide 130 = .ok (.goto (-22), 3) := by decide +kernel
theorem dX11_hide_96 : decode cX11_hide 96 = .ok (.goto 37, 3) := by decide +kernel
theorem dX11_hide_23 : decode cX11_hide 23 = .ok (.iconst 0, 1) := by decide +kernel
theorem dX11_hide_24 : decode cX11_hide 24 = .ok (.ireturn, 1) := by decide +kernel
set_option maxHeartbeats 4000000 in
set_option maxRecDepth 100000 in
theorem m_hide (l : Launch) (dC : Nat → ClassId) (dI : Nat → Nat → Nat) (cy : Nat → ClassId) (sz : Nat) (vnh : Nat → Int32) (vo : Nat) (voth : Int32) (vmt : Nat) (votp : Int32) (vosz : Int32) (volm : Int32) (voto : Int32) (vofr : Int32) (vokd : Int32) (vonu : Int32) (vosg : Int32) (vofa : Int32) (vopl : Int32) (vowd : Int64) (votd : Int32) (vmn : Nat) (vmr : Nat) (vmk : Nat) (vms : Nat) (vma : Nat) (vmm : Nat) (vmrn : Nat) (vmkn : Nat) (vmik : Nat) (vmon : Nat) (vosm : Int32) (vohp : Int32) (vmw : Nat) (vmf : Nat) (vmb : Nat) (vomb : Int32) (vmd : Nat) (vmc : Nat) (vocm : Int32) (voct : Int32) (vocy : Int32) (vmx : Nat) (votx : Int32) (vose : Int32) (vml : Nat) (vmwr : Nat) (voln : Int32) (vohw : Int32) (vmno : Nat) (vond : Int32) (voon : Int32) (vowi : Int32) (votop : Int32) (vmnf : Nat → Int32) (vm : Int32) (p_vmnf : NW vnh vmnf) : Met l yX11_hide (wl yX11_hide cX11_hide 7 (some .int)) ({ frames := 3, cells := 0, slots := 0, locals := 192 }) (Pw (dC, dI) vwCl cy [(vo, .inr (12, [.int voth, .ref vmt, .int votp, .int vosz, .int volm, .int voto, .int vofr, .int vokd, .int vonu, .int vosg, .int vofa, .int vopl, .long vowd, .int votd, .ref vmn, .ref vmr, .ref vmk, .ref vms, .ref vma, .ref vmm, .ref vmrn, .ref vmkn, .ref vmik, .ref vmon, .int vosm, .int vohp, .ref vmw, .ref vmf, .ref vmb, .int vomb, .ref vmd, .ref vmc, .int vocm, .int voct, .int vocy, .ref vmx, .int votx, .int vose, .ref vml, .ref vmwr, .int voln, .int vohw, .ref vmno, .int vond, .int voon, .int vowi, .int votop])), (vmn, .inl (cy 0, 575, .inl vmnf))] sz [.ref vo, .int vm] nE) (Qi (dC, dI) vwCl (fun (r : Int32) (u : Int32) => True) (O_m_hide cy vnh vo voth vmt votp vosz volm voto vofr vokd vonu vosg vofa vopl vowd votd vmn vmr vmk vms vma vmm vmrn vmkn vmik vmon vosm vohp vmw vmf vmb vomb vmd vmc vocm voct vocy vmx votx vose vml vmwr voln vohw vmno vond voon vowi votop vmnf vm) (va_A [(vo, .inr (12, [.int voth, .ref vmt, .int votp, .int vosz, .int volm, .int voto, .int vofr, .int vokd, .int vonu, .int vosg, .int vofa, .int vopl, .long vowd, .int votd, .ref vmn, .ref vmr, .ref vmk, .ref vms, .ref vma, .ref vmm, .ref vmrn, .ref vmkn, .ref vmik, .ref vmon, .int vosm, .int vohp, .ref vmw, .ref vmf, .ref vmb, .int vomb, .ref vmd, .ref vmc, .int vocm, .int voct, .int vocy, .ref vmx, .int votx, .int vose, .ref vml, .ref vmwr, .int voln, .int vohw, .ref vmno, .int vond, .int voon, .int vowi, .int votop])), (vmn, .inl (cy 0, 575, .inl vmnf))] sz)) 0 0 (va_A [(vo, .inr (12, [.int voth, .ref vmt, .int votp, .int vosz, .int volm, .int voto, .int vofr, .int vokd, .int vonu, .int vosg, .int vofa, .int vopl, .long vowd, .int votd, .ref vmn, .ref vmr, .ref vmk, .ref vms, .ref vma, .ref vmm, .ref vmrn, .ref vmkn, .ref vmik, .ref vmon, .int vosm, .int vohp, .ref vmw, .ref vmf, .ref vmb, .int vomb, .ref vmd, .ref vmc, .int vocm, .int voct, .int vocy, .ref vmx, .int votx, .int vose, .ref vml, .ref vmwr, .int voln, .int vohw, .ref vmno, .int vond, .int voon, .int vowi, .int votop])), (vmn, .inl (cy 0, 575, .inl vmnf))] sz) := by
  refine mw (Qc := Qi (dC, dI) vwCl (fun (r : Int32) (u : Int32) => True) (O_m_hide cy vnh vo voth vmt votp vosz volm voto vofr vokd vonu vosg vofa vopl vowd votd vmn vmr vmk vms vma vmm vmrn vmkn vmik vmon vosm vohp vmw vmf vmb vomb vmd vmc vocm voct vocy vmx votx vose vml vmwr voln vohw vmno vond voon vowi votop vmnf vm)) RX11 rfl (by decide +kernel) (Nat.le_of_ble_eq_true rfl) ?_
  intro p e s m below meth c A hx hb hr hlocks av9 hav hts hown hnm hml hK hP hD hA hS hE hAe Q9 hQ9 ls hl
  have hl : lv_has ls 7 [(0, .ref vo), (1, .int vm)] := hl
  refine lv_aload_n hx hb dX11_hide_0 rfl (lv_at hl 0 rfl) ?_
  refine lv_iconst (v := 0) hx hb dX11_hide_1 (by decide) ?_
  refine pf_X11_1 hx hb hts hown hK hP hD hS 0 rfl rfl rfl (Nat.le_of_ble_eq_true rfl) dX11_hide_2 (fun H locs hP hD hS => ?_)
  have hP : va_P (dC, dI) vwCl [(vo, .inr (12, [.int 0, .ref vmt, .int votp, .int vosz, .int volm, .int voto, .int vofr, .int vokd, .int vonu, .int vosg, .int vofa, .int vopl, .long vowd, .int votd, .ref vmn, .ref vmr, .ref vmk, .ref vms, .ref vma, .ref vmm, .ref vmrn, .ref vmkn, .ref vmik, .ref vmon, .int vosm, .int vohp, .ref vmw, .ref vmf, .ref vmb, .int vomb, .ref vmd, .ref vmc, .int vocm, .int voct, .int vocy, .ref vmx, .int votx, .int vose, .ref vml, .ref vmwr, .int voln, .int vohw, .ref vmno, .int vond, .int voon, .int vowi, .int votop])), (vmn, .inl (cy 0, 575, .inl vmnf))] H := hP
  have hD : va_D A [(vo, .inr (12, [.int 0, .ref vmt, .int votp, .int vosz, .int volm, .int voto, .int vofr, .int vokd, .int vonu, .int vosg, .int vofa, .int vopl, .long vowd, .int votd, .ref vmn, .ref vmr, .ref vmk, .ref vms, .ref vma, .ref vmm, .ref vmrn, .ref vmkn, .ref vmik, .ref vmon, .int vosm, .int vohp, .ref vmw, .ref vmf, .ref vmb, .int vomb, .ref vmd, .ref vmc, .int vocm, .int voct, .int vocy, .ref vmx, .int votx, .int vose, .ref vml, .ref vmwr, .int voln, .int vohw, .ref vmno, .int vond, .int voon, .int vowi, .int votop])), (vmn, .inl (cy 0, 575, .inl vmnf))] := hD
  refine lv_aload_n hx hb dX11_hide_5 rfl (lv_at hl 0 rfl) ?_
  refine lv_iload_n hx hb dX11_hide_6 rfl (lv_at hl 1 rfl) ?_
  have k_0 : (0 : Int32).toInt = 0 := by decide
  refine jr_i (rVr (As := [.int vm]) (rest := []) (ci := 12) ⟨hx, hb, hml, hown, hts⟩ (m_isMan l dC dI cy vnh vo 0 vmt votp vosz volm voto vofr vokd vonu vosg vofa vopl vowd votd vmn vmr vmk vms vma vmm vmrn vmkn vmik vmon vosm vohp vmw vmf vmb vomb vmd vmc vocm voct vocy vmx votx vose vml vmwr voln vohw vmno vond voon vowi votop vmnf vm p_vmnf) (cw_X11_250 hts rfl rfl ⟨Nat.le_of_ble_eq_true rfl, Nat.le_of_ble_eq_true rfl⟩) hP hK [0, 1] rfl rfl rfl rfl hl.1 rfl (Nat.le_of_ble_eq_true rfl) dX11_hide_7 ⟨Nat.le_of_ble_eq_true rfl, Nat.le_of_ble_eq_true rfl⟩) hP hS (fun r_1 H locs hp_2 hP hS => ?_)
  have hp_2 : ((r_1 = 0 ∧ ((vm : Int32).toInt < 0 ∨ (vmnf 0).toInt ≤ (vm : Int32).toInt)) ∨ (r_1 = 1 ∧ 0 ≤ (vm : Int32).toInt ∧ (vm : Int32).toInt ≤ 6 ∧ (vm : Int32).toInt < (vmnf 0).toInt)) := hp_2
  have q_3 := hp_2
  rcases q_3 with ⟨aq_3, f0q_3⟩ | ⟨aq_3, f0q_3, f1q_3, f2q_3⟩
  · skip
    refine as_i 0 aq_3 ?_
    refine lv_if_ne (tgt := 15) hx hb dX11_hide_10 (by decide) (fun c9 => absurd c9 (by decide)) (fun _ => ?_)
    refine lv_iconst (v := (-1)) hx hb dX11_hide_13 (by decide) ?_
    have k_m1 : ((-1) : Int32).toInt = (-1) := by decide
    rw [hQ9]
    exact re_i (0 : Int32) hx hb hr hlocks trivial (hP.sub [0, 1] rfl) (hD.sub [0, 1] rfl rfl) hS dX11_hide_14
  · skip
    refine as_i 1 aq_3 ?_
    refine lv_if_ne (tgt := 15) hx hb dX11_hide_10 (by decide) (fun _ => ?_) (fun c9 => absurd c9 (by decide))
    refine lv_aload_n hx hb dX11_hide_15 rfl (lv_at hl 0 rfl) ?_
    refine lv_iload_n hx hb dX11_hide_16 rfl (lv_at hl 1 rfl) ?_
    refine jr_i (rVr (As := [.int vm]) (rest := []) (ci := 12) ⟨hx, hb, hml, hown, hts⟩ (m_darkOf l dC dI cy vnh vo 0 vmt votp vosz volm voto vofr vokd vonu vosg vofa vopl vowd votd vmn vmr vmk vms vma vmm vmrn vmkn vmik vmon vosm vohp vmw vmf vmb vomb vmd vmc vocm voct vocy vmx votx vose vml vmwr voln vohw vmno vond voon vowi votop vmnf vm ⟨by omega, by omega⟩ p_vmnf) (cw_X11_244 hts rfl rfl ⟨Nat.le_of_ble_eq_true rfl, Nat.le_of_ble_eq_true rfl⟩) hP hK [0, 1] rfl rfl rfl rfl hl.1 rfl (Nat.le_of_ble_eq_true rfl) dX11_hide_17 ⟨Nat.le_of_ble_eq_true rfl, Nat.le_of_ble_eq_true rfl⟩) hP hS (fun r_4 H locs hp_5 hP hS => ?_)
    refine lv_if_ne (tgt := 25) hx hb dX11_hide_20 (by decide) (fun c_6 => ?_) (fun c_6 => ?_)
    · skip
      have c_6 : ¬ (r_4.toInt = (0 : Int32).toInt) := fun h9 => c_6 (i_eq.mpr h9)
      refine lv_aload_n hx hb dX11_hide_25 rfl (lv_at hl 0 rfl) ?_
      refine gf_X11_98 hx hb hts hown hK hP 0 rfl rfl dX11_hide_26 ?_
      refine lv_iconst (v := 2) hx hb dX11_hide_29 (by decide) ?_
      have k_2 : (2 : Int32).toInt = 2 := by decide
      have hin_7 : vp_in (2 : Int32) 575 := vp_in_iff.mpr ⟨by omega, by omega⟩
      refine va_iald hx hb hK hP 1 0 rfl rfl hin_7 dX11_hide_30 ?_
      refine lv_topi (fun z_8 ez_8 => ?_)
      have tz_8 : z_8.toInt = (vmnf 2).toInt := by rw [ez_8]; rfl
      refine lv_aload_n hx hb dX11_hide_31 rfl (lv_at hl 0 rfl) ?_
      refine lv_iload_n hx hb dX11_hide_32 rfl (lv_at hl 1 rfl) ?_
      refine jr_i (rVr (As := [.int vm]) (rest := [.int z_8]) (ci := 12) ⟨hx, hb, hml, hown, hts⟩ (m_whiteOf l dC dI cy vnh vo 0 vmt votp vosz volm voto vofr vokd vonu vosg vofa vopl vowd votd vmn vmr vmk vms vma vmm vmrn vmkn vmik vmon vosm vohp vmw vmf vmb vomb vmd vmc vocm voct vocy vmx votx vose vml vmwr voln vohw vmno vond voon vowi votop vmnf vm ⟨by omega, by omega⟩ p_vmnf) (cw_X11_241 hts rfl rfl ⟨Nat.le_of_ble_eq_true rfl, Nat.le_of_ble_eq_true rfl⟩) hP hK [0, 1] rfl rfl rfl rfl hl.1 rfl (Nat.le_of_ble_eq_true rfl) dX11_hide_33 ⟨Nat.le_of_ble_eq_true rfl, Nat.le_of_ble_eq_true rfl⟩) hP hS (fun r_9 H locs hp_10 hP hS => ?_)
      refine lv_isub hx hb dX11_hide_36 ?_
      refine lv_topi (fun z_11 ez_11 => ?_)
      refine lv_istore_n (lv' := [(2, .int z_11), (0, .ref vo), (1, .int vm)]) hx hb dX11_hide_37 rfl hl (by decide) rfl (fun ls hl => ?_)
      refine lv_iconst (v := 0) hx hb dX11_hide_38 (by decide) ?_
      refine lv_istore_n (lv' := [(3, .int 0), (2, .int z_11), (0, .ref vo), (1, .int vm)]) hx hb dX11_hide_39 rfl hl (by decide) rfl (fun ls hl => ?_)
      refine lv_bipush (v := 40) hx hb dX11_hide_40 (by decide) ?_
      refine lv_istore (lv' := [(4, .int 40), (3, .int 0), (2, .int z_11), (0, .ref vo), (1, .int vm)]) hx hb dX11_hide_42 hl (by decide) rfl (fun ls hl => ?_)
      have loop12 : ∀ (n12 : Nat) (x_15 : Int32) (x_14 : Int32) (x_13 : Int32), (0 ≤ x_13.toInt ∧ x_13.toInt ≤ 40) → x_13.toInt < (n12 : Int) → ∀ (H : Heap) (locs : List Loc), va_P (dC, dI) vwCl [(vo, .inr (12, [.int 0, .ref vmt, .int votp, .int vosz, .int volm, .int voto, .int vofr, .int vokd, .int vonu, .int vosg, .int vofa, .int vopl, .long vowd, .int votd, .ref vmn, .ref vmr, .ref vmk, .ref vms, .ref vma, .ref vmm, .ref vmrn, .ref vmkn, .ref vmik, .ref vmon, .int vosm, .int vohp, .ref vmw, .ref vmf, .ref vmb, .int vomb, .ref vmd, .ref vmc, .int vocm, .int voct, .int vocy, .ref vmx, .int votx, .int vose, .ref vml, .ref vmwr, .int voln, .int vohw, .ref vmno, .int vond, .int voon, .int vowi, .int votop])), (vmn, .inl (cy 0, 575, .inl vmnf))] H → va_D A [(vo, .inr (12, [.int 0, .ref vmt, .int votp, .int vosz, .int volm, .int voto, .int vofr, .int vokd, .int vonu, .int vosg, .int vofa, .int vopl, .long vowd, .int votd, .ref vmn, .ref vmr, .ref vmk, .ref vms, .ref vma, .ref vmm, .ref vmrn, .ref vmkn, .ref vmik, .ref vmon, .int vosm, .int vohp, .ref vmw, .ref vmf, .ref vmb, .int vomb, .ref vmd, .ref vmc, .int vocm, .int voct, .int vocy, .ref vmx, .int votx, .int vose, .ref vml, .ref vmwr, .int voln, .int vohw, .ref vmno, .int vond, .int voon, .int vowi, .int votop])), (vmn, .inl (cy 0, 575, .inl vmnf))] → va_S A s.heap H locs → ∀ ls : Array Slot, lv_has ls 7 [(4, .int x_13), (3, .int x_14), (2, .int x_15), (0, .ref vo), (1, .int vm)] → W p l e ({ frames := 3, cells := 0, slots := 0, locals := 192 }) s m av9 below meth c H locs 0 0 Q9 (F0 m 44 ls []) := by
        intro n12
        induction n12 with
        | zero =>
          intro x_15 x_14 x_13 bx_13 hn12 H locs hP hD hS ls hl
          exfalso; omega
        | succ n12 ih12 =>
          intro x_15 x_14 x_13 bx_13 hn12 H locs hP hD hS ls hl
          refine lv_iload hx hb dX11_hide_44 (lv_at hl 0 rfl) ?_
          refine lv_if_le (tgt := 145) hx hb dX11_hide_46 (by decide) (fun c_16 => ?_) (fun c_16 => ?_)
          · skip
            have c_16 : x_13.toInt ≤ (0 : Int32).toInt := i_le.mp c_16
            refine lv_iload_n hx hb dX11_hide_145 rfl (lv_at hl 2 rfl) ?_
            refine lv_if_le (tgt := 153) hx hb dX11_hide_146 (by decide) (fun c_17 => ?_) (fun c_17 => ?_)
            · skip
              have c_17 : x_15.toInt ≤ (0 : Int32).toInt := i_le.mp c_17
              refine lv_iload_n hx hb dX11_hide_153 rfl (lv_at hl 1 rfl) ?_
              rw [hQ9]
              exact re_i (0 : Int32) hx hb hr hlocks trivial (hP.sub [0, 1] rfl) (hD.sub [0, 1] rfl rfl) hS dX11_hide_154
            · skip
              have c_17 : ¬ (x_15.toInt ≤ (0 : Int32).toInt) := fun h9 => c_17 (i_le.mpr h9)
              refine lv_iconst (v := (-1)) hx hb dX11_hide_149 (by decide) ?_
              refine lv_goto (tgt := 154) hx hb dX11_hide_150 (by decide) ?_
              have k_m1 : ((-1) : Int32).toInt = (-1) := by decide
              rw [hQ9]
              exact re_i (0 : Int32) hx hb hr hlocks trivial (hP.sub [0, 1] rfl) (hD.sub [0, 1] rfl rfl) hS dX11_hide_154
          · skip
            have c_16 : ¬ (x_13.toInt ≤ (0 : Int32).toInt) := fun h9 => c_16 (i_le.mpr h9)
            refine lv_iload_n hx hb dX11_hide_49 rfl (lv_at hl 2 rfl) ?_
            refine lv_if_le (tgt := 145) hx hb dX11_hide_50 (by decide) (fun c_18 => ?_) (fun c_18 => ?_)
            · skip
              have c_18 : x_15.toInt ≤ (0 : Int32).toInt := i_le.mp c_18
              refine lv_iload_n hx hb dX11_hide_145 rfl (lv_at hl 2 rfl) ?_
              refine lv_if_le (tgt := 153) hx hb dX11_hide_146 (by decide) (fun _ => ?_) (fun c9 => (c9 (i_le.mpr (by omega))).elim)
              refine lv_iload_n hx hb dX11_hide_153 rfl (lv_at hl 1 rfl) ?_
              rw [hQ9]
              exact re_i (0 : Int32) hx hb hr hlocks trivial (hP.sub [0, 1] rfl) (hD.sub [0, 1] rfl rfl) hS dX11_hide_154
            · skip
              have c_18 : ¬ (x_15.toInt ≤ (0 : Int32).toInt) := fun h9 => c_18 (i_le.mpr h9)
              refine lv_iconst (v := 0) hx hb dX11_hide_53 (by decide) ?_
              refine lv_istore (lv' := [(5, .int 0), (4, .int x_13), (3, .int x_14), (2, .int x_15), (0, .ref vo), (1, .int vm)]) hx hb dX11_hide_54 hl (by decide) rfl (fun ls hl => ?_)
              have loop19 : ∀ (n19 : Nat) (x_22 : Int32) (x_21 : Int32) (x_20 : Int32), (0 ≤ x_20.toInt ∧ x_20.toInt ≤ 10) → 10 - x_20.toInt < (n19 : Int) → ∀ (H : Heap) (locs : List Loc), va_P (dC, dI) vwCl [(vo, .inr (12, [.int 0, .ref vmt, .int votp, .int vosz, .int volm, .int voto, .int vofr, .int vokd, .int vonu, .int vosg, .int vofa, .int vopl, .long vowd, .int votd, .ref vmn, .ref vmr, .ref vmk, .ref vms, .ref vma, .ref vmm, .ref vmrn, .ref vmkn, .ref vmik, .ref vmon, .int vosm, .int vohp, .ref vmw, .ref vmf, .ref vmb, .int vomb, .ref vmd, .ref vmc, .int vocm, .int voct, .int vocy, .ref vmx, .int votx, .int vose, .ref vml, .ref vmwr, .int voln, .int vohw, .ref vmno, .int vond, .int voon, .int vowi, .int votop])), (vmn, .inl (cy 0, 575, .inl vmnf))] H → va_D A [(vo, .inr (12, [.int 0, .ref vmt, .int votp, .int vosz, .int volm, .int voto, .int vofr, .int vokd, .int vonu, .int vosg, .int vofa, .int vopl, .long vowd, .int votd, .ref vmn, .ref vmr, .ref vmk, .ref vms, .ref vma, .ref vmm, .ref vmrn, .ref vmkn, .ref vmik, .ref vmon, .int vosm, .int vohp, .ref vmw, .ref vmf, .ref vmb, .int vomb, .ref vmd, .ref vmc, .int vocm, .int voct, .int vocy, .ref vmx, .int votx, .int vose, .ref vml, .ref vmwr, .int voln, .int vohw, .ref vmno, .int vond, .int voon, .int vowi, .int votop])), (vmn, .inl (cy 0, 575, .inl vmnf))] → va_S A s.heap H locs → ∀ ls : Array Slot, lv_has ls 7 [(5, .int x_20), (4, .int x_13), (3, .int x_21), (2, .int x_22), (0, .ref vo), (1, .int vm)] → W p l e ({ frames := 3, cells := 0, slots := 0, locals := 192 }) s m av9 below meth c H locs 0 0 Q9 (F0 m 56 ls []) := by
                intro n19
                induction n19 with
                | zero =>
                  intro x_22 x_21 x_20 bx_20 hn19 H locs hP hD hS ls hl
                  exfalso; omega
                | succ n19 ih19 =>
                  intro x_22 x_21 x_20 bx_20 hn19 H locs hP hD hS ls hl
                  refine lv_iload hx hb dX11_hide_56 (lv_at hl 0 rfl) ?_
                  refine lv_aload_n hx hb dX11_hide_58 rfl (lv_at hl 4 rfl) ?_
                  refine gf_X11_98 hx hb hts hown hK hP 0 rfl rfl dX11_hide_59 ?_
                  refine lv_iconst (v := 1) hx hb dX11_hide_62 (by decide) ?_
                  have k_1 : (1 : Int32).toInt = 1 := by decide
                  have hin_23 : vp_in (1 : Int32) 575 := vp_in_iff.mpr ⟨by omega, by omega⟩
                  refine va_iald hx hb hK hP 1 0 rfl rfl hin_23 dX11_hide_63 ?_
                  refine lv_topi (fun z_24 ez_24 => ?_)
                  have bz_24 := p_vmnf.a1 (x := 1) ⟨by omega, by omega⟩ ez_24
                  have tz_24 : z_24.toInt = (vmnf 1).toInt := by rw [ez_24]; rfl
                  refine lv_icmp_ge (tgt := 139) hx hb dX11_hide_64 (by decide) (fun c_25 => ?_) (fun c_25 => ?_)
                  · skip
                    have c_25 : z_24.toInt ≤ x_20.toInt := i_le.mp c_25
                    obtain ⟨z_26, ez_26⟩ : ∃ z : Int32, z = x_13 + (-1) := ⟨_, rfl⟩
                    have k_m1 : ((-1) : Int32).toInt = (-1) := by decide
                    have bz_26 : z_26.toInt = x_13.toInt + ((-1) : Int32).toInt := i_add ez_26 (by omega) (by omega)
                    refine lv_iinc (v := z_26) (lv' := [(4, .int z_26), (5, .int x_20), (3, .int x_21), (2, .int x_22), (0, .ref vo), (1, .int vm)]) hx hb dX11_hide_139 hl (k := 1) rfl ez_26.symm (by decide) rfl (fun ls hl => ?_)
                    refine lv_goto (tgt := 44) hx hb dX11_hide_142 (by decide) ?_
                    exact ih12 x_22 x_21 z_26 ⟨by omega, by omega⟩ (by omega) _ _ (hP.sub [0, 1] rfl) (hD.sub [0, 1] rfl rfl) hS ls (lv_sub hl [0, 2, 3, 4, 5] rfl)
                  · skip
                    have c_25 : ¬ (z_24.toInt ≤ x_20.toInt) := fun h9 => c_25 (i_le.mpr h9)
                    have join27 : ∀ (x_28 : Int32) (x_29 : Int32), ∀ (H : Heap) (locs : List Loc), va_P (dC, dI) vwCl [(vo, .inr (12, [.int 0, .ref vmt, .int votp, .int vosz, .int volm, .int voto, .int vofr, .int vokd, .int vonu, .int vosg, .int vofa, .int vopl, .long vowd, .int votd, .ref vmn, .ref vmr, .ref vmk, .ref vms, .ref vma, .ref vmm, .ref vmrn, .ref vmkn, .ref vmik, .ref vmon, .int vosm, .int vohp, .ref vmw, .ref vmf, .ref vmb, .int vomb, .ref vmd, .ref vmc, .int vocm, .int voct, .int vocy, .ref vmx, .int votx, .int vose, .ref vml, .ref vmwr, .int voln, .int vohw, .ref vmno, .int vond, .int voon, .int vowi, .int votop])), (vmn, .inl (cy 0, 575, .inl vmnf))] H → va_D A [(vo, .inr (12, [.int 0, .ref vmt, .int votp, .int vosz, .int volm, .int voto, .int vofr, .int vokd, .int vonu, .int vosg, .int vofa, .int vopl, .long vowd, .int votd, .ref vmn, .ref vmr, .ref vmk, .ref vms, .ref vma, .ref vmm, .ref vmrn, .ref vmkn, .ref vmik, .ref vmon, .int vosm, .int vohp, .ref vmw, .ref vmf, .ref vmb, .int vomb, .ref vmd, .ref vmc, .int vocm, .int voct, .int vocy, .ref vmx, .int votx, .int vose, .ref vml, .ref vmwr, .int voln, .int vohw, .ref vmno, .int vond, .int voon, .int vowi, .int votop])), (vmn, .inl (cy 0, 575, .inl vmnf))] → va_S A s.heap H locs → ∀ ls : Array Slot, lv_has ls 7 [(2, .int x_28), (3, .int x_29), (5, .int x_20), (4, .int x_13), (0, .ref vo), (1, .int vm)] → W p l e ({ frames := 3, cells := 0, slots := 0, locals := 192 }) s m av9 below meth c H locs 0 0 Q9 (F0 m 133 ls []) := by
                      intro x_28 x_29 H locs hP hD hS ls hl
                      obtain ⟨z_30, ez_30⟩ : ∃ z : Int32, z = x_20 + 1 := ⟨_, rfl⟩
                      have bz_30 : z_30.toInt = x_20.toInt + (1 : Int32).toInt := i_add ez_30 (by omega) (by omega)
                      refine lv_iinc (v := z_30) (lv' := [(5, .int z_30), (2, .int x_28), (3, .int x_29), (4, .int x_13), (0, .ref vo), (1, .int vm)]) hx hb dX11_hide_133 hl (k := 2) rfl ez_30.symm (by decide) rfl (fun ls hl => ?_)
                      refine lv_goto (tgt := 56) hx hb dX11_hide_136 (by decide) ?_
                      exact ih19 x_28 x_29 z_30 ⟨by omega, by omega⟩ (by omega) _ _ (hP.sub [0, 1] rfl) (hD.sub [0, 1] rfl rfl) hS ls (lv_sub hl [0, 3, 2, 1, 4, 5] rfl)
                    refine lv_aload_n hx hb dX11_hide_67 rfl (lv_at hl 4 rfl) ?_
                    refine gf_X11_98 hx hb hts hown hK hP 0 rfl rfl dX11_hide_68 ?_
                    refine lv_bipush (v := 21) hx hb dX11_hide_71 (by decide) ?_
                    refine lv_iload hx hb dX11_hide_73 (lv_at hl 0 rfl) ?_
                    refine lv_iadd hx hb dX11_hide_75 ?_
                    refine lv_topi (fun z_31 ez_31 => ?_)
                    have k_21 : (21 : Int32).toInt = 21 := by decide
                    have bz_31 : z_31.toInt = (21 : Int32).toInt + x_20.toInt := i_add ez_31 (by omega) (by omega)
                    have hin_32 : vp_in z_31 575 := vp_in_iff.mpr ⟨by omega, by omega⟩
                    refine va_iald hx hb hK hP 1 0 rfl rfl hin_32 dX11_hide_76 ?_
                    refine lv_topi (fun z_33 ez_33 => ?_)
                    refine lv_iconst (v := 1) hx hb dX11_hide_77 (by decide) ?_
                    refine lv_icmp_eq (tgt := 133) hx hb dX11_hide_78 (by decide) (fun c_34 => ?_) (fun c_34 => ?_)
                    · skip
                      have c_34 : z_33.toInt = (1 : Int32).toInt := i_eq.mp c_34
                      exact join27 x_22 x_21 _ _ (hP.sub [0, 1] rfl) (hD.sub [0, 1] rfl rfl) hS ls (lv_sub hl [3, 2, 0, 1, 4, 5] rfl)
                    · skip
                      have c_34 : ¬ (z_33.toInt = (1 : Int32).toInt) := fun h9 => c_34 (i_eq.mpr h9)
                      refine lv_aload_n hx hb dX11_hide_81 rfl (lv_at hl 4 rfl) ?_
                      refine gf_X11_98 hx hb hts hown hK hP 0 rfl rfl dX11_hide_82 ?_
                      refine lv_bipush (v := 11) hx hb dX11_hide_85 (by decide) ?_
                      refine lv_iload hx hb dX11_hide_87 (lv_at hl 0 rfl) ?_
                      refine lv_iadd hx hb dX11_hide_89 ?_
                      refine lv_topi (fun z_35 ez_35 => ?_)
                      have k_11 : (11 : Int32).toInt = 11 := by decide
                      have bz_35 : z_35.toInt = (11 : Int32).toInt + x_20.toInt := i_add ez_35 (by omega) (by omega)
                      have hin_36 : vp_in z_35 575 := vp_in_iff.mpr ⟨by omega, by omega⟩
                      refine va_iald hx hb hK hP 1 0 rfl rfl hin_36 dX11_hide_90 ?_
                      refine lv_topi (fun z_37 ez_37 => ?_)
                      have bz_37 := p_vmnf.aw (x := z_35) ⟨by omega, by omega⟩ ez_37
                      refine lv_iload hx hb dX11_hide_91 (lv_at hl 1 rfl) ?_
                      refine lv_icmp_eq (tgt := 99) hx hb dX11_hide_93 (by decide) (fun c_38 => ?_) (fun c_38 => ?_)
                      · skip
                        have c_38 : z_37.toInt = x_13.toInt := i_eq.mp c_38
                        refine lv_aload_n hx hb dX11_hide_99 rfl (lv_at hl 4 rfl) ?_
                        refine lv_iload_n hx hb dX11_hide_100 rfl (lv_at hl 5 rfl) ?_
                        refine lv_iload hx hb dX11_hide_101 (lv_at hl 0 rfl) ?_
                        refine jr_i (rVr (As := [.int vm, .int x_20]) (rest := []) (ci := 12) ⟨hx, hb, hml, hown, hts⟩ (m_didOf l dC dI cy vnh vo 0 vmt votp vosz volm voto vofr vokd vonu vosg vofa vopl vowd votd vmn vmr vmk vms vma vmm vmrn vmkn vmik vmon vosm vohp vmw vmf vmb vomb vmd vmc vocm voct vocy vmx votx vose vml vmwr voln vohw vmno vond voon vowi votop vmnf vm x_20 ⟨by omega, by omega⟩ ⟨by omega, by omega⟩ p_vmnf) (cw_X11_228 hts rfl rfl ⟨Nat.le_of_ble_eq_true rfl, Nat.le_of_ble_eq_true rfl⟩) hP hK [0, 1] rfl rfl rfl rfl hl.1 rfl (Nat.le_of_ble_eq_true rfl) dX11_hide_103 ⟨Nat.le_of_ble_eq_true rfl, Nat.le_of_ble_eq_true rfl⟩) hP hS (fun r_39 H locs hp_40 hP hS => ?_)
                        refine lv_istore (lv' := [(6, .int r_39), (5, .int x_20), (4, .int x_13), (3, .int x_21), (2, .int x_22), (0, .ref vo), (1, .int vm)]) hx hb dX11_hide_106 hl (by decide) rfl (fun ls hl => ?_)
                        have loop41 : ∀ (n41 : Nat) (x_44 : Int32) (x_43 : Int32) (x_42 : Int32), ((10 - x_42.toInt).toNat : Int) < (n41 : Int) → ∀ (H : Heap) (locs : List Loc), va_P (dC, dI) vwCl [(vo, .inr (12, [.int 0, .ref vmt, .int votp, .int vosz, .int volm, .int voto, .int vofr, .int vokd, .int vonu, .int vosg, .int vofa, .int vopl, .long vowd, .int votd, .ref vmn, .ref vmr, .ref vmk, .ref vms, .ref vma, .ref vmm, .ref vmrn, .ref vmkn, .ref vmik, .ref vmon, .int vosm, .int vohp, .ref vmw, .ref vmf, .ref vmb, .int vomb, .ref vmd, .ref vmc, .int vocm, .int voct, .int vocy, .ref vmx, .int votx, .int vose, .ref vml, .ref vmwr, .int voln, .int vohw, .ref vmno, .int vond, .int voon, .int vowi, .int votop])), (vmn, .inl (cy 0, 575, .inl vmnf))] H → va_D A [(vo, .inr (12, [.int 0, .ref vmt, .int votp, .int vosz, .int volm, .int voto, .int vofr, .int vokd, .int vonu, .int vosg, .int vofa, .int vopl, .long vowd, .int votd, .ref vmn, .ref vmr, .ref vmk, .ref vms, .ref vma, .ref vmm, .ref vmrn, .ref vmkn, .ref vmik, .ref vmon, .int vosm, .int vohp, .ref vmw, .ref vmf, .ref vmb, .int vomb, .ref vmd, .ref vmc, .int vocm, .int voct, .int vocy, .ref vmx, .int votx, .int vose, .ref vml, .ref vmwr, .int voln, .int vohw, .ref vmno, .int vond, .int voon, .int vowi, .int votop])), (vmn, .inl (cy 0, 575, .inl vmnf))] → va_S A s.heap H locs → ∀ ls : Array Slot, lv_has ls 7 [(6, .int x_42), (5, .int x_20), (4, .int x_13), (3, .int x_43), (2, .int x_44), (0, .ref vo), (1, .int vm)] → W p l e ({ frames := 3, cells := 0, slots := 0, locals := 192 }) s m av9 below meth c H locs 0 0 Q9 (F0 m 108 ls []) := by
                          intro n41
                          induction n41 with
                          | zero =>
                            intro x_44 x_43 x_42 hn41 H locs hP hD hS ls hl
                            exfalso; omega
                          | succ n41 ih41 =>
                            intro x_44 x_43 x_42 hn41 H locs hP hD hS ls hl
                            refine lv_iload hx hb dX11_hide_108 (lv_at hl 0 rfl) ?_
                            refine lv_bipush (v := 9) hx hb dX11_hide_110 (by decide) ?_
                            have k_9 : (9 : Int32).toInt = 9 := by decide
                            refine lv_icmp_ge (tgt := 133) hx hb dX11_hide_112 (by decide) (fun c_45 => ?_) (fun c_45 => ?_)
                            · skip
                              have c_45 : (9 : Int32).toInt ≤ x_42.toInt := i_le.mp c_45
                              exact join27 x_44 x_43 _ _ (hP.sub [0, 1] rfl) (hD.sub [0, 1] rfl rfl) hS ls (lv_sub hl [4, 3, 1, 2, 5, 6] rfl)
                            · skip
                              have c_45 : ¬ ((9 : Int32).toInt ≤ x_42.toInt) := fun h9 => c_45 (i_le.mpr h9)
                              refine lv_iload_n hx hb dX11_hide_115 rfl (lv_at hl 4 rfl) ?_
                              refine lv_if_le (tgt := 133) hx hb dX11_hide_116 (by decide) (fun c_46 => ?_) (fun c_46 => ?_)
                              · skip
                                have c_46 : x_44.toInt ≤ (0 : Int32).toInt := i_le.mp c_46
                                exact join27 x_44 x_43 _ _ (hP.sub [0, 1] rfl) (hD.sub [0, 1] rfl rfl) hS ls (lv_sub hl [4, 3, 1, 2, 5, 6] rfl)
                              · skip
                                have c_46 : ¬ (x_44.toInt ≤ (0 : Int32).toInt) := fun h9 => c_46 (i_le.mpr h9)
                                refine lv_iload_n hx hb dX11_hide_119 rfl (lv_at hl 4 rfl) ?_
                                refine lv_iload hx hb dX11_hide_120 (lv_at hl 2 rfl) ?_
                                refine lv_isub hx hb dX11_hide_122 ?_
                                refine lv_topi (fun z_47 ez_47 => ?_)
                                have wh_48 := i_rng x_44
                                have bz_47 : z_47.toInt = x_44.toInt - x_13.toInt := i_sub ez_47 (by omega) (by omega)
                                refine lv_istore_n (lv' := [(2, .int z_47), (6, .int x_42), (5, .int x_20), (4, .int x_13), (3, .int x_43), (0, .ref vo), (1, .int vm)]) hx hb dX11_hide_123 rfl hl (by decide) rfl (fun ls hl => ?_)
                                obtain ⟨z_49, ez_49⟩ : ∃ z : Int32, z = x_43 + 1 := ⟨_, rfl⟩
                                refine lv_iinc (v := z_49) (lv' := [(3, .int z_49), (2, .int z_47), (6, .int x_42), (5, .int x_20), (4, .int x_13), (0, .ref vo), (1, .int vm)]) hx hb dX11_hide_124 hl (k := 4) rfl ez_49.symm (by decide) rfl (fun ls hl => ?_)
                                obtain ⟨z_50, ez_50⟩ : ∃ z : Int32, z = x_42 + 1 := ⟨_, rfl⟩
                                have wh_51 := i_rng x_42
                                have bz_50 : z_50.toInt = x_42.toInt + (1 : Int32).toInt := i_add ez_50 (by omega) (by omega)
                                refine lv_iinc (v := z_50) (lv' := [(6, .int z_50), (3, .int z_49), (2, .int z_47), (5, .int x_20), (4, .int x_13), (0, .ref vo), (1, .int vm)]) hx hb dX11_hide_127 hl (k := 2) rfl ez_50.symm (by decide) rfl (fun ls hl => ?_)
                                refine lv_goto (tgt := 108) hx hb dX11_hide_130 (by decide) ?_
                                exact ih41 z_47 z_49 z_50 (by omega) _ _ (hP.sub [0, 1] rfl) (hD.sub [0, 1] rfl rfl) hS ls (lv_sub hl [0, 3, 4, 1, 2, 5, 6] rfl)
                        exact loop41 ((((10 - r_39.toInt).toNat : Int)).toNat + 1) x_22 x_21 r_39 (by omega) _ _ hP hD hS ls (lv_sub hl [0, 1, 2, 3, 4, 5, 6] rfl)
                      · skip
                        have c_38 : ¬ (z_37.toInt = x_13.toInt) := fun h9 => c_38 (i_eq.mpr h9)
                        refine lv_goto (tgt := 133) hx hb dX11_hide_96 (by decide) ?_
                        exact join27 x_22 x_21 _ _ (hP.sub [0, 1] rfl) (hD.sub [0, 1] rfl rfl) hS ls (lv_sub hl [3, 2, 0, 1, 4, 5] rfl)
              exact loop19 ((10 - (0 : Int32).toInt).toNat + 1) x_15 x_14 0 ⟨by omega, by omega⟩ (by omega) _ _ hP hD hS ls (lv_sub hl [0, 1, 2, 3, 4, 5] rfl)
      have k_40 : (40 : Int32).toInt = 40 := by decide
      exact loop12 (((40 : Int32).toInt).toNat + 1) z_11 0 40 ⟨by omega, by omega⟩ (by omega) _ _ hP hD hS ls (lv_sub hl [0, 1, 2, 3, 4] rfl)
    · skip
      have c_6 : r_4.toInt = (0 : Int32).toInt := i_eq.mp c_6
      refine lv_iconst (v := 0) hx hb dX11_hide_23 (by decide) ?_
      rw [hQ9]
      exact re_i (0 : Int32) hx hb hr hlocks trivial (hP.sub [0, 1] rfl) (hD.sub [0, 1] rfl rfl) hS dX11_hide_24
abbrev cX11_mayBe : ByteArray := prog_13_method_89_code
def yX11_mayBe : MethodName := ⟨RX11, "mayBe", "(I)I"⟩
theorem t1901 : Cond.code yX11_mayBe cX11_mayBe 2 (some .int) ∈ GW := gw_mem 2015 (by decide +kernel) (by decide +kernel)
abbrev O_m_mayBe (cy : Nat → ClassId) (vnh : Nat → Int32) (vo : Nat) (voth : Int32) (vmt : Nat) (votp : Int32) (vosz : Int32) (volm : Int32) (voto : Int32) (vofr : Int32) (vokd : Int32) (vonu : Int32) (vosg : Int32) (vofa : Int32) (vopl : Int32) (vowd : Int64) (votd : Int32) (vmn : Nat) (vmr : Nat) (vmk : Nat) (vms : Nat) (vma : Nat) (vmm : Nat) (vmrn : Nat) (vmkn : Nat) (vmik : Nat) (vmon : Nat) (vosm : Int32) (vohp : Int32) (vmw : Nat) (vmf : Nat) (vmb : Nat) (vomb : Int32) (vmd : Nat) (vmc : Nat) (vocm : Int32) (voct : Int32) (vocy : Int32) (vmx : Nat) (votx : Int32) (vose : Int32) (vml : Nat) (vmwr : Nat) (voln : Int32) (vohw : Int32) (vmno : Nat) (vond : Int32) (voon : Int32) (vowi : Int32) (votop : Int32) (vmnf : Nat → Int32) (vmbf : Nat → Int32) (vd : Int32) (u : Int32) : va_W := [(vo, .inr (12, [.int u, .ref vmt, .int votp, .int vosz, .int volm, .int voto, .int vofr, .int vokd, .int vonu, .int vosg, .int vofa, .int vopl, .long vowd, .int votd, .ref vmn, .ref vmr, .ref vmk, .ref vms, .ref vma, .ref vmm, .ref vmrn, .ref vmkn, .ref vmik, .ref vmon, .int vosm, .int vohp, .ref vmw, .ref vmf, .ref vmb, .int vomb, .ref vmd, .ref vmc, .int vocm, .int voct, .int vocy, .ref vmx, .int votx, .int vose, .ref vml, .ref vmwr, .int voln, .int vohw, .ref vmno, .int vond, .int voon, .int vowi, .int votop])), (vmn, .inl (cy 0, 575, .inl vmnf)), (vmb, .inl (cy 0, 10, .inl vmbf))]
theorem dX11_mayBe_0 : decode cX11_mayBe 0 = .ok (.aload_n 0, 1) := by decide +kernel
theorem dX11_mayBe_1 : decode cX11_mayBe 1 = .ok (.iconst 0, 1) := by decide +kernel
theorem dX11_mayBe_2 : decode cX11_mayBe 2 = .ok (.putfield 1, 3) := by decide +kernel
theorem dX11_mayBe_5 : decode cX11_mayBe 5 = .ok (.iload_n 1, 1) := by decide +kernel
theorem dX11_mayBe_6 : decode cX11_mayBe 6 = .ok (.iconst 0, 1) := by decide +kernel
theorem dX11_mayBe_7 : decode cX11_mayBe 7 = .ok (.aload_n 0, 1) := by decide +kernel
theorem dX11_mayBe_8 : decode cX11_mayBe 8 = .ok (.getfield 319, 3) := by decide +kernel
theorem t1471 : Cond.fieldLink RX11 319 "LikenessPoundModel" "maybeMany" "I" ∈ GW := gw_mem 1585 (by decide +kernel) (by decide +kernel)
theorem gf_X11_319 {p : Program} {l : Launch} {e : Env} {R : Room} {s : State} {m : MethodId} {args : Array Value} {below : List Frame} {meth : Method} {c : Code} {H : Heap} {locs : List Loc} {cells slots : Nat} {Q : State → Prop} {cc : ByteArray} {pc : Nat} {ls : Array Slot} {rest : List Value} {D : va_G} {a : Nat} {tys : List (ClassId × FieldType)} {ws : va_W} (hx : p.tables.exec = Jvm.exec) (hb : c.code = cc) (hts : ∀ w ∈ GW, w.before args s = true) (hown : s.vm.findClass RX11 = some m.cls) (hK : va_K D vwCl tys s) (hP : va_P D vwCl ws H) (q0 : Nat) {fs : List Value} (he : ws[q0]? = some (a, .inr (12, fs))) {v : Value} (hv : fs[29]? = some v) (hdg : decode cc pc = .ok (.getfield 319, 3)) (kk : W p l e R s m args below meth c H locs cells slots Q (F0 m (pc + 3) ls (v :: rest))) : W p l e R s m args below meth c H locs cells slots Q (F0 m pc ls (.ref a :: rest)) := va_get (C := RX11) (T := TX11) (N := 47) (ci := 12) hx hb hts inX11 hown hK hP q0 he rfl 29 (by decide) (hts _ t1471) (fun _ h => h) hv hdg kk
theorem dX11_mayBe_11 : decode cX11_mayBe 11 = .ok (.iconst 1, 1) := by decide +kernel
theorem dX11_mayBe_12 : decode cX11_mayBe 12 = .ok (.isub, 1) := by decide +kernel
theorem dX11_mayBe_13 : decode cX11_mayBe 13 = .ok (.invokestatic 75, 3) := by decide +kernel
theorem dX11_mayBe_16 : decode cX11_mayBe 16 = .ok (.ifCond .eq 12, 3) := by decide +kernel
theorem dX11_mayBe_28 : decode cX11_mayBe 28 = .ok (.iconst (-1), 1) := by decide +kernel
theorem dX11_mayBe_29 : decode cX11_mayBe 29 = .ok (.ireturn, 1) := by decide +kernel
theorem dX11_mayBe_19 : decode cX11_mayBe 19 = .ok (.aload_n 0, 1) := by decide +kernel
theorem dX11_mayBe_20 : decode cX11_mayBe 20 = .ok (.getfield 139, 3) := by decide +kernel
theorem t1470 : Cond.fieldLink RX11 139 "LikenessPoundModel" "maybe" "[I" ∈ GW := gw_mem 1584 (by decide +kernel) (by decide +kernel)
theorem gf_X11_139 {p : Program} {l : Launch} {e : Env} {R : Room} {s : State} {m : MethodId} {args : Array Value} {below : List Frame} {meth : Method} {c : Code} {H : Heap} {locs : List Loc} {cells slots : Nat} {Q : State → Prop} {cc : ByteArray} {pc : Nat} {ls : Array Slot} {rest : List Value} {D : va_G} {a : Nat} {tys : List (ClassId × FieldType)} {ws : va_W} (hx : p.tables.exec = Jvm.exec) (hb : c.code = cc) (hts : ∀ w ∈ GW, w.before args s = true) (hown : s.vm.findClass RX11 = some m.cls) (hK : va_K D vwCl tys s) (hP : va_P D vwCl ws H) (q0 : Nat) {fs : List Value} (he : ws[q0]? = some (a, .inr (12, fs))) {v : Value} (hv : fs[28]? = some v) (hdg : decode cc pc = .ok (.getfield 139, 3)) (kk : W p l e R s m args below meth c H locs cells slots Q (F0 m (pc + 3) ls (v :: rest))) : W p l e R s m args below meth c H locs cells slots Q (F0 m pc ls (.ref a :: rest)) := va_get (C := RX11) (T := TX11) (N := 47) (ci := 12) hx hb hts inX11 hown hK hP q0 he rfl 28 (by decide) (hts _ t1470) (fun _ h => h) hv hdg kk
theorem dX11_mayBe_23 : decode cX11_mayBe 23 = .ok (.iload_n 1, 1) := by decide +kernel
theorem dX11_mayBe_24 : decode cX11_mayBe 24 = .ok (.iaload, 1) := by decide +kernel
theorem dX11_mayBe_25 : decode cX11_mayBe 25 = .ok (.goto 4, 3) := by decide +kernel
set_option maxHeartbeats 4000000 in
set_option maxRecDepth 100000 in
theorem m_mayBe (l : Launch) (dC : Nat → ClassId) (dI : Nat → Nat → Nat) (cy : Nat → ClassId) (sz : Nat) (vnh : Nat → Int32) (vo : Nat) (voth : Int32) (vmt : Nat) (votp : Int32) (vosz : Int32) (volm : Int32) (voto : Int32) (vofr : Int32) (vokd : Int32) (vonu : Int32) (vosg : Int32) (vofa : Int32) (vopl : Int32) (vowd : Int64) (votd : Int32) (vmn : Nat) (vmr : Nat) (vmk : Nat) (vms : Nat) (vma : Nat) (vmm : Nat) (vmrn : Nat) (vmkn : Nat) (vmik : Nat) (vmon : Nat) (vosm : Int32) (vohp : Int32) (vmw : Nat) (vmf : Nat) (vmb : Nat) (vomb : Int32) (vmd : Nat) (vmc : Nat) (vocm : Int32) (voct : Int32) (vocy : Int32) (vmx : Nat) (votx : Int32) (vose : Int32) (vml : Nat) (vmwr : Nat) (voln : Int32) (vohw : Int32) (vmno : Nat) (vond : Int32) (voon : Int32) (vowi : Int32) (votop : Int32) (vmnf : Nat → Int32) (vmbf : Nat → Int32) (vd : Int32) (r_vomb : 0 ≤ (vomb : Int32).toInt ∧ (vomb : Int32).toInt ≤ 10) (p_vmnf : NW vnh vmnf) : Met l yX11_mayBe (wl yX11_mayBe cX11_mayBe 2 (some .int)) ({ frames := 1, cells := 0, slots := 0, locals := 64 }) (Pw (dC, dI) vwCl cy [(vo, .inr (12, [.int voth, .ref vmt, .int votp, .int vosz, .int volm, .int voto, .int vofr, .int vokd, .int vonu, .int vosg, .int vofa, .int vopl, .long vowd, .int votd, .ref vmn, .ref vmr, .ref vmk, .ref vms, .ref vma, .ref vmm, .ref vmrn, .ref vmkn, .ref vmik, .ref vmon, .int vosm, .int vohp, .ref vmw, .ref vmf, .ref vmb, .int vomb, .ref vmd, .ref vmc, .int vocm, .int voct, .int vocy, .ref vmx, .int votx, .int vose, .ref vml, .ref vmwr, .int voln, .int vohw, .ref vmno, .int vond, .int voon, .int vowi, .int votop])), (vmn, .inl (cy 0, 575, .inl vmnf)), (vmb, .inl (cy 0, 10, .inl vmbf))] sz [.ref vo, .int vd] nE) (Qi (dC, dI) vwCl (fun (r : Int32) (u : Int32) => True) (O_m_mayBe cy vnh vo voth vmt votp vosz volm voto vofr vokd vonu vosg vofa vopl vowd votd vmn vmr vmk vms vma vmm vmrn vmkn vmik vmon vosm vohp vmw vmf vmb vomb vmd vmc vocm voct vocy vmx votx vose vml vmwr voln vohw vmno vond voon vowi votop vmnf vmbf vd) (va_A [(vo, .inr (12, [.int voth, .ref vmt, .int votp, .int vosz, .int volm, .int voto, .int vofr, .int vokd, .int vonu, .int vosg, .int vofa, .int vopl, .long vowd, .int votd, .ref vmn, .ref vmr, .ref vmk, .ref vms, .ref vma, .ref vmm, .ref vmrn, .ref vmkn, .ref vmik, .ref vmon, .int vosm, .int vohp, .ref vmw, .ref vmf, .ref vmb, .int vomb, .ref vmd, .ref vmc, .int vocm, .int voct, .int vocy, .ref vmx, .int votx, .int vose, .ref vml, .ref vmwr, .int voln, .int vohw, .ref vmno, .int vond, .int voon, .int vowi, .int votop])), (vmn, .inl (cy 0, 575, .inl vmnf)), (vmb, .inl (cy 0, 10, .inl vmbf))] sz)) 0 0 (va_A [(vo, .inr (12, [.int voth, .ref vmt, .int votp, .int vosz, .int volm, .int voto, .int vofr, .int vokd, .int vonu, .int vosg, .int vofa, .int vopl, .long vowd, .int votd, .ref vmn, .ref vmr, .ref vmk, .ref vms, .ref vma, .ref vmm, .ref vmrn, .ref vmkn, .ref vmik, .ref vmon, .int vosm, .int vohp, .ref vmw, .ref vmf, .ref vmb, .int vomb, .ref vmd, .ref vmc, .int vocm, .int voct, .int vocy, .ref vmx, .int votx, .int vose, .ref vml, .ref vmwr, .int voln, .int vohw, .ref vmno, .int vond, .int voon, .int vowi, .int votop])), (vmn, .inl (cy 0, 575, .inl vmnf)), (vmb, .inl (cy 0, 10, .inl vmbf))] sz) := by
  refine mw (Qc := Qi (dC, dI) vwCl (fun (r : Int32) (u : Int32) => True) (O_m_mayBe cy vnh vo voth vmt votp vosz volm voto vofr vokd vonu vosg vofa vopl vowd votd vmn vmr vmk vms vma vmm vmrn vmkn vmik vmon vosm vohp vmw vmf vmb vomb vmd vmc vocm voct vocy vmx votx vose vml vmwr voln vohw vmno vond voon vowi votop vmnf vmbf vd)) RX11 rfl (by decide +kernel) (Nat.le_of_ble_eq_true rfl) ?_
  intro p e s m below meth c A hx hb hr hlocks av9 hav hts hown hnm hml hK hP hD hA hS hE hAe Q9 hQ9 ls hl
  have hl : lv_has ls 2 [(0, .ref vo), (1, .int vd)] := hl
  refine lv_aload_n hx hb dX11_mayBe_0 rfl (lv_at hl 0 rfl) ?_
  refine lv_iconst (v := 0) hx hb dX11_mayBe_1 (by decide) ?_
  refine pf_X11_1 hx hb hts hown hK hP hD hS 0 rfl rfl rfl (Nat.le_of_ble_eq_true rfl) dX11_mayBe_2 (fun H locs hP hD hS => ?_)
  have hP : va_P (dC, dI) vwCl [(vo, .inr (12, [.int 0, .ref vmt, .int votp, .int vosz, .int volm, .int voto, .int vofr, .int vokd, .int vonu, .int vosg, .int vofa, .int vopl, .long vowd, .int votd, .ref vmn, .ref vmr, .ref vmk, .ref vms, .ref vma, .ref vmm, .ref vmrn, .ref vmkn, .ref vmik, .ref vmon, .int vosm, .int vohp, .ref vmw, .ref vmf, .ref vmb, .int vomb, .ref vmd, .ref vmc, .int vocm, .int voct, .int vocy, .ref vmx, .int votx, .int vose, .ref vml, .ref vmwr, .int voln, .int vohw, .ref vmno, .int vond, .int voon, .int vowi, .int votop])), (vmn, .inl (cy 0, 575, .inl vmnf)), (vmb, .inl (cy 0, 10, .inl vmbf))] H := hP
  have hD : va_D A [(vo, .inr (12, [.int 0, .ref vmt, .int votp, .int vosz, .int volm, .int voto, .int vofr, .int vokd, .int vonu, .int vosg, .int vofa, .int vopl, .long vowd, .int votd, .ref vmn, .ref vmr, .ref vmk, .ref vms, .ref vma, .ref vmm, .ref vmrn, .ref vmkn, .ref vmik, .ref vmon, .int vosm, .int vohp, .ref vmw, .ref vmf, .ref vmb, .int vomb, .ref vmd, .ref vmc, .int vocm, .int voct, .int vocy, .ref vmx, .int votx, .int vose, .ref vml, .ref vmwr, .int voln, .int vohw, .ref vmno, .int vond, .int voon, .int vowi, .int votop])), (vmn, .inl (cy 0, 575, .inl vmnf)), (vmb, .inl (cy 0, 10, .inl vmbf))] := hD
  refine lv_iload_n hx hb dX11_mayBe_5 rfl (lv_at hl 1 rfl) ?_
  refine lv_iconst (v := 0) hx hb dX11_mayBe_6 (by decide) ?_
  refine lv_aload_n hx hb dX11_mayBe_7 rfl (lv_at hl 0 rfl) ?_
  refine gf_X11_319 hx hb hts hown hK hP 0 rfl rfl dX11_mayBe_8 ?_
  refine lv_iconst (v := 1) hx hb dX11_mayBe_11 (by decide) ?_
  refine lv_isub hx hb dX11_mayBe_12 ?_
  refine lv_topi (fun z_1 ez_1 => ?_)
  have k_1 : (1 : Int32).toInt = 1 := by decide
  have bz_1 : z_1.toInt = vomb.toInt - (1 : Int32).toInt := i_sub ez_1 (by omega) (by omega)
  have k_0 : (0 : Int32).toInt = 0 := by decide
  refine jr_i (rSr (As := [.int vd, .int 0, .int z_1]) (rest := []) ⟨hx, hb, hml, hown, hts⟩ (m_isIn l dC dI cy vd 0 z_1 ) (cw_X11_75 hts rfl rfl ⟨Nat.le_of_ble_eq_true rfl, Nat.le_of_ble_eq_true rfl⟩) hP hK [] rfl rfl hl.1 rfl (Nat.le_of_ble_eq_true rfl) dX11_mayBe_13 ⟨Nat.le_of_ble_eq_true rfl, Nat.le_of_ble_eq_true rfl⟩) hP hS (fun r_2 H locs hp_3 hP hS => ?_)
  have hp_3 : ((r_2 = 0 ∧ ((vd : Int32).toInt < (0 : Int32).toInt ∨ (z_1 : Int32).toInt < (vd : Int32).toInt)) ∨ (r_2 = 1 ∧ (0 : Int32).toInt ≤ (vd : Int32).toInt ∧ (vd : Int32).toInt ≤ (z_1 : Int32).toInt)) := hp_3
  have q_4 := hp_3
  rcases q_4 with ⟨aq_4, f0q_4⟩ | ⟨aq_4, f0q_4, f1q_4⟩
  · skip
    refine as_i 0 aq_4 ?_
    refine lv_if_eq (tgt := 28) hx hb dX11_mayBe_16 (by decide) (fun _ => ?_) (fun c9 => absurd (by decide) c9)
    refine lv_iconst (v := (-1)) hx hb dX11_mayBe_28 (by decide) ?_
    have k_m1 : ((-1) : Int32).toInt = (-1) := by decide
    rw [hQ9]
    exact re_i (0 : Int32) hx hb hr hlocks trivial (hP.sub [0, 1, 2] rfl) (hD.sub [0, 1, 2] rfl rfl) hS dX11_mayBe_29
  · skip
    refine as_i 1 aq_4 ?_
    refine lv_if_eq (tgt := 28) hx hb dX11_mayBe_16 (by decide) (fun c9 => absurd c9 (by decide)) (fun _ => ?_)
    refine lv_aload_n hx hb dX11_mayBe_19 rfl (lv_at hl 0 rfl) ?_
    refine gf_X11_139 hx hb hts hown hK hP 0 rfl rfl dX11_mayBe_20 ?_
    refine lv_iload_n hx hb dX11_mayBe_23 rfl (lv_at hl 1 rfl) ?_
    have hin_5 : vp_in vd 10 := vp_in_iff.mpr ⟨by omega, by omega⟩
    refine va_iald hx hb hK hP 2 0 rfl rfl hin_5 dX11_mayBe_24 ?_
    refine lv_topi (fun z_6 ez_6 => ?_)
    refine lv_goto (tgt := 29) hx hb dX11_mayBe_25 (by decide) ?_
    rw [hQ9]
    exact re_i (0 : Int32) hx hb hr hlocks trivial (hP.sub [0, 1, 2] rfl) (hD.sub [0, 1, 2] rfl rfl) hS dX11_mayBe_29
abbrev cX11_careerOf : ByteArray := prog_13_method_92_code
def yX11_careerOf : MethodName := ⟨RX11, "careerOf", "(I)I"⟩
theorem t1913 : Cond.code yX11_careerOf cX11_careerOf 2 (some .int) ∈ GW := gw_mem 2027 (by decide +kernel) (by decide +kernel)
abbrev O_m_careerOf (cy : Nat → ClassId) (vnh : Nat → Int32) (vo : Nat) (voth : Int32) (vmt : Nat) (votp : Int32) (vosz : Int32) (volm : Int32) (voto : Int32) (vofr : Int32) (vokd : Int32) (vonu : Int32) (vosg : Int32) (vofa : Int32) (vopl : Int32) (vowd : Int64) (votd : Int32) (vmn : Nat) (vmr : Nat) (vmk : Nat) (vms : Nat) (vma : Nat) (vmm : Nat) (vmrn : Nat) (vmkn : Nat) (vmik : Nat) (vmon : Nat) (vosm : Int32) (vohp : Int32) (vmw : Nat) (vmf : Nat) (vmb : Nat) (vomb : Int32) (vmd : Nat) (vmc : Nat) (vocm : Int32) (voct : Int32) (vocy : Int32) (vmx : Nat) (votx : Int32) (vose : Int32) (vml : Nat) (vmwr : Nat) (voln : Int32) (vohw : Int32) (vmno : Nat) (vond : Int32) (voon : Int32) (vowi : Int32) (votop : Int32) (vmnf : Nat → Int32) (vmcf : Nat → Int32) (vd : Int32) (u : Int32) : va_W := [(vo, .inr (12, [.int u, .ref vmt, .int votp, .int vosz, .int volm, .int voto, .int vofr, .int vokd, .int vonu, .int vosg, .int vofa, .int vopl, .long vowd, .int votd, .ref vmn, .ref vmr, .ref vmk, .ref vms, .ref vma, .ref vmm, .ref vmrn, .ref vmkn, .ref vmik, .ref vmon, .int vosm, .int vohp, .ref vmw, .ref vmf, .ref vmb, .int vomb, .ref vmd, .ref vmc, .int vocm, .int voct, .int vocy, .ref vmx, .int votx, .int vose, .ref vml, .ref vmwr, .int voln, .int vohw, .ref vmno, .int vond, .int voon, .int vowi, .int votop])), (vmn, .inl (cy 0, 575, .inl vmnf)), (vmc, .inl (cy 0, 10, .inl vmcf))]
theorem dX11_careerOf_0 : decode cX11_careerOf 0 = .ok (.aload_n 0, 1) := by decide +kernel
theorem dX11_careerOf_1 : decode cX11_careerOf 1 = .ok (.iconst 0, 1) := by decide +kernel
theorem dX11_careerOf_2 : decode cX11_careerOf 2 = .ok (.putfield 1, 3) := by decide +kernel
theorem dX11_careerOf_5 : decode cX11_careerOf 5 = .ok (.iload_n 1, 1) := by decide +kernel
theorem dX11_careerOf_6 : decode cX11_careerOf 6 = .ok (.iconst 0, 1) := by decide +kernel
theorem dX11_careerOf_7 : decode cX11_careerOf 7 = .ok (.aload_n 0, 1) := by decide +kernel
theorem dX11_careerOf_8 : decode cX11_careerOf 8 = .ok (.getfield 328, 3) := by decide +kernel
theorem t1476 : Cond.fieldLink RX11 328 "LikenessPoundModel" "careerMany" "I" ∈ GW := gw_mem 1590 (by decide +kernel) (by decide +kernel)
theorem gf_X11_328 {p : Program} {l : Launch} {e : Env} {R : Room} {s : State} {m : MethodId} {args : Array Value} {below : List Frame} {meth : Method} {c : Code} {H : Heap} {locs : List Loc} {cells slots : Nat} {Q : State → Prop} {cc : ByteArray} {pc : Nat} {ls : Array Slot} {rest : List Value} {D : va_G} {a : Nat} {tys : List (ClassId × FieldType)} {ws : va_W} (hx : p.tables.exec = Jvm.exec) (hb : c.code = cc) (hts : ∀ w ∈ GW, w.before args s = true) (hown : s.vm.findClass RX11 = some m.cls) (hK : va_K D vwCl tys s) (hP : va_P D vwCl ws H) (q0 : Nat) {fs : List Value} (he : ws[q0]? = some (a, .inr (12, fs))) {v : Value} (hv : fs[34]? = some v) (hdg : decode cc pc = .ok (.getfield 328, 3)) (kk : W p l e R s m args below meth c H locs cells slots Q (F0 m (pc + 3) ls (v :: rest))) : W p l e R s m args below meth c H locs cells slots Q (F0 m pc ls (.ref a :: rest)) := va_get (C := RX11) (T := TX11) (N := 47) (ci := 12) hx hb hts inX11 hown hK hP q0 he rfl 34 (by decide) (hts _ t1476) (fun _ h => h) hv hdg kk
theorem dX11_careerOf_11 : decode cX11_careerOf 11 = .ok (.iconst 1, 1) := by decide +kernel
theorem dX11_careerOf_12 : decode cX11_careerOf 12 = .ok (.isub, 1) := by decide +kernel
theorem dX11_careerOf_13 : decode cX11_careerOf 13 = .ok (.invokestatic 75, 3) := by decide +kernel
theorem dX11_careerOf_16 : decode cX11_careerOf 16 = .ok (.ifCond .eq 12, 3) := by decide +kernel
theorem dX11_careerOf_28 : decode cX11_careerOf 28 = .ok (.iconst (-1), 1) := by decide +kernel
theorem dX11_careerOf_29 : decode cX11_careerOf 29 = .ok (.ireturn, 1) := by decide +kernel
theorem dX11_careerOf_19 : decode cX11_careerOf 19 = .ok (.aload_n 0, 1) := by decide +kernel
theorem dX11_careerOf_20 : decode cX11_careerOf 20 = .ok (.getfield 145, 3) := by decide +kernel
theorem t1473 : Cond.fieldLink RX11 145 "LikenessPoundModel" "career" "[I" ∈ GW := gw_mem 1587 (by decide +kernel) (by decide +kernel)
theorem gf_X11_145 {p : Program} {l : Launch} {e : Env} {R : Room} {s : State} {m : MethodId} {args : Array Value} {below : List Frame} {meth : Method} {c : Code} {H : Heap} {locs : List Loc} {cells slots : Nat} {Q : State → Prop} {cc : ByteArray} {pc : Nat} {ls : Array Slot} {rest : List Value} {D : va_G} {a : Nat} {tys : List (ClassId × FieldType)} {ws : va_W} (hx : p.tables.exec = Jvm.exec) (hb : c.code = cc) (hts : ∀ w ∈ GW, w.before args s = true) (hown : s.vm.findClass RX11 = some m.cls) (hK : va_K D vwCl tys s) (hP : va_P D vwCl ws H) (q0 : Nat) {fs : List Value} (he : ws[q0]? = some (a, .inr (12, fs))) {v : Value} (hv : fs[31]? = some v) (hdg : decode cc pc = .ok (.getfield 145, 3)) (kk : W p l e R s m args below meth c H locs cells slots Q (F0 m (pc + 3) ls (v :: rest))) : W p l e R s m args below meth c H locs cells slots Q (F0 m pc ls (.ref a :: rest)) := va_get (C := RX11) (T := TX11) (N := 47) (ci := 12) hx hb hts inX11 hown hK hP q0 he rfl 31 (by decide) (hts _ t1473) (fun _ h => h) hv hdg kk
theorem dX11_careerOf_23 : decode cX11_careerOf 23 = .ok (.iload_n 1, 1) := by decide +kernel
theorem dX11_careerOf_24 : decode cX11_careerOf 24 = .ok (.iaload, 1) := by decide +kernel
theorem dX11_careerOf_25 : decode cX11_careerOf 25 = .ok (.goto 4, 3) := by decide +kernel
set_option maxHeartbeats 4000000 in
set_option maxRecDepth 100000 in
theorem m_careerOf (l : Launch) (dC : Nat → ClassId) (dI : Nat → Nat → Nat) (cy : Nat → ClassId) (sz : Nat) (vnh : Nat → Int32) (vo : Nat) (voth : Int32) (vmt : Nat) (votp : Int32) (vosz : Int32) (volm : Int32) (voto : Int32) (vofr : Int32) (vokd : Int32) (vonu : Int32) (vosg : Int32) (vofa : Int32) (vopl : Int32) (vowd : Int64) (votd : Int32) (vmn : Nat) (vmr : Nat) (vmk : Nat) (vms : Nat) (vma : Nat) (vmm : Nat) (vmrn : Nat) (vmkn : Nat) (vmik : Nat) (vmon : Nat) (vosm : Int32) (vohp : Int32) (vmw : Nat) (vmf : Nat) (vmb : Nat) (vomb : Int32) (vmd : Nat) (vmc : Nat) (vocm : Int32) (voct : Int32) (vocy : Int32) (vmx : Nat) (votx : Int32) (vose : Int32) (vml : Nat) (vmwr : Nat) (voln : Int32) (vohw : Int32) (vmno : Nat) (vond : Int32) (voon : Int32) (vowi : Int32) (votop : Int32) (vmnf : Nat → Int32) (vmcf : Nat → Int32) (vd : Int32) (r_vocy : 0 ≤ (vocy : Int32).toInt ∧ (vocy : Int32).toInt ≤ 10) (p_vmnf : NW vnh vmnf) : Met l yX11_careerOf (wl yX11_careerOf cX11_careerOf 2 (some .int)) ({ frames := 1, cells := 0, slots := 0, locals := 64 }) (Pw (dC, dI) vwCl cy [(vo, .inr (12, [.int voth, .ref vmt, .int votp, .int vosz, .int volm, .int voto, .int vofr, .int vokd, .int vonu, .int vosg, .int vofa, .int vopl, .long vowd, .int votd, .ref vmn, .ref vmr, .ref vmk, .ref vms, .ref vma, .ref vmm, .ref vmrn, .ref vmkn, .ref vmik, .ref vmon, .int vosm, .int vohp, .ref vmw, .ref vmf, .ref vmb, .int vomb, .ref vmd, .ref vmc, .int vocm, .int voct, .int vocy, .ref vmx, .int votx, .int vose, .ref vml, .ref vmwr, .int voln, .int vohw, .ref vmno, .int vond, .int voon, .int vowi, .int votop])), (vmn, .inl (cy 0, 575, .inl vmnf)), (vmc, .inl (cy 0, 10, .inl vmcf))] sz [.ref vo, .int vd] nE) (Qi (dC, dI) vwCl (fun (r : Int32) (u : Int32) => True) (O_m_careerOf cy vnh vo voth vmt votp vosz volm voto vofr vokd vonu vosg vofa vopl vowd votd vmn vmr vmk vms vma vmm vmrn vmkn vmik vmon vosm vohp vmw vmf vmb vomb vmd vmc vocm voct vocy vmx votx vose vml vmwr voln vohw vmno vond voon vowi votop vmnf vmcf vd) (va_A [(vo, .inr (12, [.int voth, .ref vmt, .int votp, .int vosz, .int volm, .int voto, .int vofr, .int vokd, .int vonu, .int vosg, .int vofa, .int vopl, .long vowd, .int votd, .ref vmn, .ref vmr, .ref vmk, .ref vms, .ref vma, .ref vmm, .ref vmrn, .ref vmkn, .ref vmik, .ref vmon, .int vosm, .int vohp, .ref vmw, .ref vmf, .ref vmb, .int vomb, .ref vmd, .ref vmc, .int vocm, .int voct, .int vocy, .ref vmx, .int votx, .int vose, .ref vml, .ref vmwr, .int voln, .int vohw, .ref vmno, .int vond, .int voon, .int vowi, .int votop])), (vmn, .inl (cy 0, 575, .inl vmnf)), (vmc, .inl (cy 0, 10, .inl vmcf))] sz)) 0 0 (va_A [(vo, .inr (12, [.int voth, .ref vmt, .int votp, .int vosz, .int volm, .int voto, .int vofr, .int vokd, .int vonu, .int vosg, .int vofa, .int vopl, .long vowd, .int votd, .ref vmn, .ref vmr, .ref vmk, .ref vms, .ref vma, .ref vmm, .ref vmrn, .ref vmkn, .ref vmik, .ref vmon, .int vosm, .int vohp, .ref vmw, .ref vmf, .ref vmb, .int vomb, .ref vmd, .ref vmc, .int vocm, .int voct, .int vocy, .ref vmx, .int votx, .int vose, .ref vml, .ref vmwr, .int voln, .int vohw, .ref vmno, .int vond, .int voon, .int vowi, .int votop])), (vmn, .inl (cy 0, 575, .inl vmnf)), (vmc, .inl (cy 0, 10, .inl vmcf))] sz) := by
  refine mw (Qc := Qi (dC, dI) vwCl (fun (r : Int32) (u : Int32) => True) (O_m_careerOf cy vnh vo voth vmt votp vosz volm voto vofr vokd vonu vosg vofa vopl vowd votd vmn vmr vmk vms vma vmm vmrn vmkn vmik vmon vosm vohp vmw vmf vmb vomb vmd vmc vocm voct vocy vmx votx vose vml vmwr voln vohw vmno vond voon vowi votop vmnf vmcf vd)) RX11 rfl (by decide +kernel) (Nat.le_of_ble_eq_true rfl) ?_
  intro p e s m below meth c A hx hb hr hlocks av9 hav hts hown hnm hml hK hP hD hA hS hE hAe Q9 hQ9 ls hl
  have hl : lv_has ls 2 [(0, .ref vo), (1, .int vd)] := hl
  refine lv_aload_n hx hb dX11_careerOf_0 rfl (lv_at hl 0 rfl) ?_
  refine lv_iconst (v := 0) hx hb dX11_careerOf_1 (by decide) ?_
  refine pf_X11_1 hx hb hts hown hK hP hD hS 0 rfl rfl rfl (Nat.le_of_ble_eq_true rfl) dX11_careerOf_2 (fun H locs hP hD hS => ?_)
  have hP : va_P (dC, dI) vwCl [(vo, .inr (12, [.int 0, .ref vmt, .int votp, .int vosz, .int volm, .int voto, .int vofr, .int vokd, .int vonu, .int vosg, .int vofa, .int vopl, .long vowd, .int votd, .ref vmn, .ref vmr, .ref vmk, .ref vms, .ref vma, .ref vmm, .ref vmrn, .ref vmkn, .ref vmik, .ref vmon, .int vosm, .int vohp, .ref vmw, .ref vmf, .ref vmb, .int vomb, .ref vmd, .ref vmc, .int vocm, .int voct, .int vocy, .ref vmx, .int votx, .int vose, .ref vml, .ref vmwr, .int voln, .int vohw, .ref vmno, .int vond, .int voon, .int vowi, .int votop])), (vmn, .inl (cy 0, 575, .inl vmnf)), (vmc, .inl (cy 0, 10, .inl vmcf))] H := hP
  have hD : va_D A [(vo, .inr (12, [.int 0, .ref vmt, .int votp, .int vosz, .int volm, .int voto, .int vofr, .int vokd, .int vonu, .int vosg, .int vofa, .int vopl, .long vowd, .int votd, .ref vmn, .ref vmr, .ref vmk, .ref vms, .ref vma, .ref vmm, .ref vmrn, .ref vmkn, .ref vmik, .ref vmon, .int vosm, .int vohp, .ref vmw, .ref vmf, .ref vmb, .int vomb, .ref vmd, .ref vmc, .int vocm, .int voct, .int vocy, .ref vmx, .int votx, .int vose, .ref vml, .ref vmwr, .int voln, .int vohw, .ref vmno, .int vond, .int voon, .int vowi, .int votop])), (vmn, .inl (cy 0, 575, .inl vmnf)), (vmc, .inl (cy 0, 10, .inl vmcf))] := hD
  refine lv_iload_n hx hb dX11_careerOf_5 rfl (lv_at hl 1 rfl) ?_
  refine lv_iconst (v := 0) hx hb dX11_careerOf_6 (by decide) ?_
  refine lv_aload_n hx hb dX11_careerOf_7 rfl (lv_at hl 0 rfl) ?_
  refine gf_X11_328 hx hb hts hown hK hP 0 rfl rfl dX11_careerOf_8 ?_
  refine lv_iconst (v := 1) hx hb dX11_careerOf_11 (by decide) ?_
  refine lv_isub hx hb dX11_careerOf_12 ?_
  refine lv_topi (fun z_1 ez_1 => ?_)
  have k_1 : (1 : Int32).toInt = 1 := by decide
  have bz_1 : z_1.toInt = vocy.toInt - (1 : Int32).toInt := i_sub ez_1 (by omega) (by omega)
  have k_0 : (0 : Int32).toInt = 0 := by decide
  refine jr_i (rSr (As := [.int vd, .int 0, .int z_1]) (rest := []) ⟨hx, hb, hml, hown, hts⟩ (m_isIn l dC dI cy vd 0 z_1 ) (cw_X11_75 hts rfl rfl ⟨Nat.le_of_ble_eq_true rfl, Nat.le_of_ble_eq_true rfl⟩) hP hK [] rfl rfl hl.1 rfl (Nat.le_of_ble_eq_true rfl) dX11_careerOf_13 ⟨Nat.le_of_ble_eq_true rfl, Nat.le_of_ble_eq_true rfl⟩) hP hS (fun r_2 H locs hp_3 hP hS => ?_)
  have hp_3 : ((r_2 = 0 ∧ ((vd : Int32).toInt < (0 : Int32).toInt ∨ (z_1 : Int32).toInt < (vd : Int32).toInt)) ∨ (r_2 = 1 ∧ (0 : Int32).toInt ≤ (vd : Int32).toInt ∧ (vd : Int32).toInt ≤ (z_1 : Int32).toInt)) := hp_3
  have q_4 := hp_3
  rcases q_4 with ⟨aq_4, f0q_4⟩ | ⟨aq_4, f0q_4, f1q_4⟩
  · skip
    refine as_i 0 aq_4 ?_
    refine lv_if_eq (tgt := 28) hx hb dX11_careerOf_16 (by decide) (fun _ => ?_) (fun c9 => absurd (by decide) c9)
    refine lv_iconst (v := (-1)) hx hb dX11_careerOf_28 (by decide) ?_
    have k_m1 : ((-1) : Int32).toInt = (-1) := by decide
    rw [hQ9]
    exact re_i (0 : Int32) hx hb hr hlocks trivial (hP.sub [0, 1, 2] rfl) (hD.sub [0, 1, 2] rfl rfl) hS dX11_careerOf_29
  · skip
    refine as_i 1 aq_4 ?_
    refine lv_if_eq (tgt := 28) hx hb dX11_careerOf_16 (by decide) (fun c9 => absurd c9 (by decide)) (fun _ => ?_)
    refine lv_aload_n hx hb dX11_careerOf_19 rfl (lv_at hl 0 rfl) ?_
    refine gf_X11_145 hx hb hts hown hK hP 0 rfl rfl dX11_careerOf_20 ?_
    refine lv_iload_n hx hb dX11_careerOf_23 rfl (lv_at hl 1 rfl) ?_
    have hin_5 : vp_in vd 10 := vp_in_iff.mpr ⟨by omega, by omega⟩
    refine va_iald hx hb hK hP 2 0 rfl rfl hin_5 dX11_careerOf_24 ?_
    refine lv_topi (fun z_6 ez_6 => ?_)
    refine lv_goto (tgt := 29) hx hb dX11_careerOf_25 (by decide) ?_
    rw [hQ9]
    exact re_i (0 : Int32) hx hb hr hlocks trivial (hP.sub [0, 1, 2] rfl) (hD.sub [0, 1, 2] rfl rfl) hS dX11_careerOf_29
abbrev cX11_told : ByteArray := prog_13_method_117_code
def yX11_told : MethodName := ⟨RX11, "told", "(I)I"⟩
theorem t2014 : Cond.code yX11_told cX11_told 2 (some .int) ∈ GW := gw_mem 2128 (by decide +kernel) (by decide +kernel)
abbrev O_m_told (cy : Nat → ClassId) (vnh : Nat → Int32) (vo : Nat) (voth : Int32) (vmt : Nat) (votp : Int32) (vosz : Int32) (volm : Int32) (voto : Int32) (vofr : Int32) (vokd : Int32) (vonu : Int32) (vosg : Int32) (vofa : Int32) (vopl : Int32) (vowd : Int64) (votd : Int32) (vmn : Nat) (vmr : Nat) (vmk : Nat) (vms : Nat) (vma : Nat) (vmm : Nat) (vmrn : Nat) (vmkn : Nat) (vmik : Nat) (vmon : Nat) (vosm : Int32) (vohp : Int32) (vmw : Nat) (vmf : Nat) (vmb : Nat) (vomb : Int32) (vmd : Nat) (vmc : Nat) (vocm : Int32) (voct : Int32) (vocy : Int32) (vmx : Nat) (votx : Int32) (vose : Int32) (vml : Nat) (vmwr : Nat) (voln : Int32) (vohw : Int32) (vmno : Nat) (vond : Int32) (voon : Int32) (vowi : Int32) (votop : Int32) (vmnf : Nat → Int32) (vmwrf : Nat → Int32) (vk : Int32) (u : Int32) : va_W := [(vo, .inr (12, [.int u, .ref vmt, .int votp, .int vosz, .int volm, .int voto, .int vofr, .int vokd, .int vonu, .int vosg, .int vofa, .int vopl, .long vowd, .int votd, .ref vmn, .ref vmr, .ref vmk, .ref vms, .ref vma, .ref vmm, .ref vmrn, .ref vmkn, .ref vmik, .ref vmon, .int vosm, .int vohp, .ref vmw, .ref vmf, .ref vmb, .int vomb, .ref vmd, .ref vmc, .int vocm, .int voct, .int vocy, .ref vmx, .int votx, .int vose, .ref vml, .ref vmwr, .int voln, .int vohw, .ref vmno, .int vond, .int voon, .int vowi, .int votop])), (vmn, .inl (cy 0, 575, .inl vmnf)), (vmwr, .inl (cy 0, 4, .inl vmwrf))]
theorem dX11_told_0 : decode cX11_told 0 = .ok (.aload_n 0, 1) := by decide +kernel
theorem dX11_told_1 : decode cX11_told 1 = .ok (.iconst 0, 1) := by decide +kernel
theorem dX11_told_2 : decode cX11_told 2 = .ok (.putfield 1, 3) := by decide +kernel
theorem dX11_told_5 : decode cX11_told 5 = .ok (.aload_n 0, 1) := by decide +kernel
theorem dX11_told_6 : decode cX11_told 6 = .ok (.getfield 394, 3) := by decide +kernel
theorem t1483 : Cond.fieldLink RX11 394 "LikenessPoundModel" "hasWritten" "Z" ∈ GW := gw_mem 1597 (by decide +kernel) (by decide +kernel)
theorem gf_X11_394 {p : Program} {l : Launch} {e : Env} {R : Room} {s : State} {m : MethodId} {args : Array Value} {below : List Frame} {meth : Method} {c : Code} {H : Heap} {locs : List Loc} {cells slots : Nat} {Q : State → Prop} {cc : ByteArray} {pc : Nat} {ls : Array Slot} {rest : List Value} {D : va_G} {a : Nat} {tys : List (ClassId × FieldType)} {ws : va_W} (hx : p.tables.exec = Jvm.exec) (hb : c.code = cc) (hts : ∀ w ∈ GW, w.before args s = true) (hown : s.vm.findClass RX11 = some m.cls) (hK : va_K D vwCl tys s) (hP : va_P D vwCl ws H) (q0 : Nat) {fs : List Value} (he : ws[q0]? = some (a, .inr (12, fs))) {v : Value} (hv : fs[41]? = some v) (hdg : decode cc pc = .ok (.getfield 394, 3)) (kk : W p l e R s m args below meth c H locs cells slots Q (F0 m (pc + 3) ls (v :: rest))) : W p l e R s m args below meth c H locs cells slots Q (F0 m pc ls (.ref a :: rest)) := va_get (C := RX11) (T := TX11) (N := 47) (ci := 12) hx hb hts inX11 hown hK hP q0 he rfl 41 (by decide) (hts _ t1483) (fun _ h => h) hv hdg kk
theorem dX11_told_9 : decode cX11_told 9 = .ok (.ifCond .eq 21, 3) := by decide +kernel
theorem dX11_told_30 : decode cX11_told 30 = .ok (.iconst (-1), 1) := by decide +kernel
theorem dX11_told_31 : decode cX11_told 31 = .ok (.ireturn, 1) := by decide +kernel
theorem dX11_told_12 : decode cX11_told 12 = .ok (.iload_n 1, 1) := by decide +kernel
theorem dX11_told_13 : decode cX11_told 13 = .ok (.iconst 0, 1) := by decide +kernel
theorem dX11_told_14 : decode cX11_told 14 = .ok (.iconst 3, 1) := by decide +kernel
theorem dX11_told_15 : decode cX11_told 15 = .ok (.invokestatic 75, 3) := by decide +kernel
theorem dX11_told_18 : decode cX11_told 18 = .ok (.ifCond .eq 12, 3) := by decide +kernel
theorem dX11_told_21 : decode cX11_told 21 = .ok (.aload_n 0, 1) := by decide +kernel
theorem dX11_told_22 : decode cX11_told 22 = .ok (.getfield 154, 3) := by decide +kernel
theorem t1481 : Cond.fieldLink RX11 154 "LikenessPoundModel" "written" "[I" ∈ GW := gw_mem 1595 (by decide +kernel) (by decide +kernel)
theorem gf_X11_154 {p : Program} {l : Launch} {e : Env} {R : Room} {s : State} {m : MethodId} {args : Array Value} {below : List Frame} {meth : Method} {c : Code} {H : Heap} {locs : List Loc} {cells slots : Nat} {Q : State → Prop} {cc : ByteArray} {pc : Nat} {ls : Array Slot} {rest : List Value} {D : va_G} {a : Nat} {tys : List (ClassId × FieldType)} {ws : va_W} (hx : p.tables.exec = Jvm.exec) (hb : c.code = cc) (hts : ∀ w ∈ GW, w.before args s = true) (hown : s.vm.findClass RX11 = some m.cls) (hK : va_K D vwCl tys s) (hP : va_P D vwCl ws H) (q0 : Nat) {fs : List Value} (he : ws[q0]? = some (a, .inr (12, fs))) {v : Value} (hv : fs[39]? = some v) (hdg : decode cc pc = .ok (.getfield 154, 3)) (kk : W p l e R s m args below meth c H locs cells slots Q (F0 m (pc + 3) ls (v :: rest))) : W p l e R s m args below meth c H locs cells slots Q (F0 m pc ls (.ref a :: rest)) := va_get (C := RX11) (T := TX11) (N := 47) (ci := 12) hx hb hts inX11 hown hK hP q0 he rfl 39 (by decide) (hts _ t1481) (fun _ h => h) hv hdg kk
theorem dX11_told_25 : decode cX11_told 25 = .ok (.iload_n 1, 1) := by decide +kernel
theorem dX11_told_26 : decode cX11_told 26 = .ok (.iaload, 1) := by decide +kernel
theorem dX11_told_27 : decode cX11_told 27 = .ok (.goto 4, 3) := by decide +kernel
set_option maxHeartbeats 4000000 in
set_option maxRecDepth 100000 in
theorem m_told (l : Launch) (dC : Nat → ClassId) (dI : Nat → Nat → Nat) (cy : Nat → ClassId) (sz : Nat) (vnh : Nat → Int32) (vo : Nat) (voth : Int32) (vmt : Nat) (votp : Int32) (vosz : Int32) (volm : Int32) (voto : Int32) (vofr : Int32) (vokd : Int32) (vonu : Int32) (vosg : Int32) (vofa : Int32) (vopl : Int32) (vowd : Int64) (votd : Int32) (vmn : Nat) (vmr : Nat) (vmk : Nat) (vms : Nat) (vma : Nat) (vmm : Nat) (vmrn : Nat) (vmkn : Nat) (vmik : Nat) (vmon : Nat) (vosm : Int32) (vohp : Int32) (vmw : Nat) (vmf : Nat) (vmb : Nat) (vomb : Int32) (vmd : Nat) (vmc : Nat) (vocm : Int32) (voct : Int32) (vocy : Int32) (vmx : Nat) (votx : Int32) (vose : Int32) (vml : Nat) (vmwr : Nat) (voln : Int32) (vohw : Int32) (vmno : Nat) (vond : Int32) (voon : Int32) (vowi : Int32) (votop : Int32) (vmnf : Nat → Int32) (vmwrf : Nat → Int32) (vk : Int32) (p_vmnf : NW vnh vmnf) : Met l yX11_told (wl yX11_told cX11_told 2 (some .int)) ({ frames := 1, cells := 0, slots := 0, locals := 64 }) (Pw (dC, dI) vwCl cy [(vo, .inr (12, [.int voth, .ref vmt, .int votp, .int vosz, .int volm, .int voto, .int vofr, .int vokd, .int vonu, .int vosg, .int vofa, .int vopl, .long vowd, .int votd, .ref vmn, .ref vmr, .ref vmk, .ref vms, .ref vma, .ref vmm, .ref vmrn, .ref vmkn, .ref vmik, .ref vmon, .int vosm, .int vohp, .ref vmw, .ref vmf, .ref vmb, .int vomb, .ref vmd, .ref vmc, .int vocm, .int voct, .int vocy, .ref vmx, .int votx, .int vose, .ref vml, .ref vmwr, .int voln, .int vohw, .ref vmno, .int vond, .int voon, .int vowi, .int votop])), (vmn, .inl (cy 0, 575, .inl vmnf)), (vmwr, .inl (cy 0, 4, .inl vmwrf))] sz [.ref vo, .int vk] nE) (Qi (dC, dI) vwCl (fun (r : Int32) (u : Int32) => True) (O_m_told cy vnh vo voth vmt votp vosz volm voto vofr vokd vonu vosg vofa vopl vowd votd vmn vmr vmk vms vma vmm vmrn vmkn vmik vmon vosm vohp vmw vmf vmb vomb vmd vmc vocm voct vocy vmx votx vose vml vmwr voln vohw vmno vond voon vowi votop vmnf vmwrf vk) (va_A [(vo, .inr (12, [.int voth, .ref vmt, .int votp, .int vosz, .int volm, .int voto, .int vofr, .int vokd, .int vonu, .int vosg, .int vofa, .int vopl, .long vowd, .int votd, .ref vmn, .ref vmr, .ref vmk, .ref vms, .ref vma, .ref vmm, .ref vmrn, .ref vmkn, .ref vmik, .ref vmon, .int vosm, .int vohp, .ref vmw, .ref vmf, .ref vmb, .int vomb, .ref vmd, .ref vmc, .int vocm, .int voct, .int vocy, .ref vmx, .int votx, .int vose, .ref vml, .ref vmwr, .int voln, .int vohw, .ref vmno, .int vond, .int voon, .int vowi, .int votop])), (vmn, .inl (cy 0, 575, .inl vmnf)), (vmwr, .inl (cy 0, 4, .inl vmwrf))] sz)) 0 0 (va_A [(vo, .inr (12, [.int voth, .ref vmt, .int votp, .int vosz, .int volm, .int voto, .int vofr, .int vokd, .int vonu, .int vosg, .int vofa, .int vopl, .long vowd, .int votd, .ref vmn, .ref vmr, .ref vmk, .ref vms, .ref vma, .ref vmm, .ref vmrn, .ref vmkn, .ref vmik, .ref vmon, .int vosm, .int vohp, .ref vmw, .ref vmf, .ref vmb, .int vomb, .ref vmd, .ref vmc, .int vocm, .int voct, .int vocy, .ref vmx, .int votx, .int vose, .ref vml, .ref vmwr, .int voln, .int vohw, .ref vmno, .int vond, .int voon, .int vowi, .int votop])), (vmn, .inl (cy 0, 575, .inl vmnf)), (vmwr, .inl (cy 0, 4, .inl vmwrf))] sz) := by
  refine mw (Qc := Qi (dC, dI) vwCl (fun (r : Int32) (u : Int32) => True) (O_m_told cy vnh vo voth vmt votp vosz volm voto vofr vokd vonu vosg vofa vopl vowd votd vmn vmr vmk vms vma vmm vmrn vmkn vmik vmon vosm vohp vmw vmf vmb vomb vmd vmc vocm voct vocy vmx votx vose vml vmwr voln vohw vmno vond voon vowi votop vmnf vmwrf vk)) RX11 rfl (by decide +kernel) (Nat.le_of_ble_eq_true rfl) ?_
  intro p e s m below meth c A hx hb hr hlocks av9 hav hts hown hnm hml hK hP hD hA hS hE hAe Q9 hQ9 ls hl
  have hl : lv_has ls 2 [(0, .ref vo), (1, .int vk)] := hl
  refine lv_aload_n hx hb dX11_told_0 rfl (lv_at hl 0 rfl) ?_
  refine lv_iconst (v := 0) hx hb dX11_told_1 (by decide) ?_
  refine pf_X11_1 hx hb hts hown hK hP hD hS 0 rfl rfl rfl (Nat.le_of_ble_eq_true rfl) dX11_told_2 (fun H locs hP hD hS => ?_)
  have hP : va_P (dC, dI) vwCl [(vo, .inr (12, [.int 0, .ref vmt, .int votp, .int vosz, .int volm, .int voto, .int vofr, .int vokd, .int vonu, .int vosg, .int vofa, .int vopl, .long vowd, .int votd, .ref vmn, .ref vmr, .ref vmk, .ref vms, .ref vma, .ref vmm, .ref vmrn, .ref vmkn, .ref vmik, .ref vmon, .int vosm, .int vohp, .ref vmw, .ref vmf, .ref vmb, .int vomb, .ref vmd, .ref vmc, .int vocm, .int voct, .int vocy, .ref vmx, .int votx, .int vose, .ref vml, .ref vmwr, .int voln, .int vohw, .ref vmno, .int vond, .int voon, .int vowi, .int votop])), (vmn, .inl (cy 0, 575, .inl vmnf)), (vmwr, .inl (cy 0, 4, .inl vmwrf))] H := hP
  have hD : va_D A [(vo, .inr (12, [.int 0, .ref vmt, .int votp, .int vosz, .int volm, .int voto, .int vofr, .int vokd, .int vonu, .int vosg, .int vofa, .int vopl, .long vowd, .int votd, .ref vmn, .ref vmr, .ref vmk, .ref vms, .ref vma, .ref vmm, .ref vmrn, .ref vmkn, .ref vmik, .ref vmon, .int vosm, .int vohp, .ref vmw, .ref vmf, .ref vmb, .int vomb, .ref vmd, .ref vmc, .int vocm, .int voct, .int vocy, .ref vmx, .int votx, .int vose, .ref vml, .ref vmwr, .int voln, .int vohw, .ref vmno, .int vond, .int voon, .int vowi, .int votop])), (vmn, .inl (cy 0, 575, .inl vmnf)), (vmwr, .inl (cy 0, 4, .inl vmwrf))] := hD
  refine lv_aload_n hx hb dX11_told_5 rfl (lv_at hl 0 rfl) ?_
  refine gf_X11_394 hx hb hts hown hK hP 0 rfl rfl dX11_told_6 ?_
  have k_0 : (0 : Int32).toInt = 0 := by decide
  refine lv_if_eq (tgt := 30) hx hb dX11_told_9 (by decide) (fun c_1 => ?_) (fun c_1 => ?_)
  · skip
    have c_1 : vohw.toInt = (0 : Int32).toInt := i_eq.mp c_1
    refine lv_iconst (v := (-1)) hx hb dX11_told_30 (by decide) ?_
    have k_m1 : ((-1) : Int32).toInt = (-1) := by decide
    rw [hQ9]
    exact re_i (0 : Int32) hx hb hr hlocks trivial (hP.sub [0, 1, 2] rfl) (hD.sub [0, 1, 2] rfl rfl) hS dX11_told_31
  · skip
    have c_1 : ¬ (vohw.toInt = (0 : Int32).toInt) := fun h9 => c_1 (i_eq.mpr h9)
    refine lv_iload_n hx hb dX11_told_12 rfl (lv_at hl 1 rfl) ?_
    refine lv_iconst (v := 0) hx hb dX11_told_13 (by decide) ?_
    refine lv_iconst (v := 3) hx hb dX11_told_14 (by decide) ?_
    have k_3 : (3 : Int32).toInt = 3 := by decide
    refine jr_i (rSr (As := [.int vk, .int 0, .int 3]) (rest := []) ⟨hx, hb, hml, hown, hts⟩ (m_isIn l dC dI cy vk 0 3 ) (cw_X11_75 hts rfl rfl ⟨Nat.le_of_ble_eq_true rfl, Nat.le_of_ble_eq_true rfl⟩) hP hK [] rfl rfl hl.1 rfl (Nat.le_of_ble_eq_true rfl) dX11_told_15 ⟨Nat.le_of_ble_eq_true rfl, Nat.le_of_ble_eq_true rfl⟩) hP hS (fun r_2 H locs hp_3 hP hS => ?_)
    have hp_3 : ((r_2 = 0 ∧ ((vk : Int32).toInt < (0 : Int32).toInt ∨ (3 : Int32).toInt < (vk : Int32).toInt)) ∨ (r_2 = 1 ∧ (0 : Int32).toInt ≤ (vk : Int32).toInt ∧ (vk : Int32).toInt ≤ (3 : Int32).toInt)) := hp_3
    have q_4 := hp_3
    rcases q_4 with ⟨aq_4, f0q_4⟩ | ⟨aq_4, f0q_4, f1q_4⟩
    · skip
      refine as_i 0 aq_4 ?_
      refine lv_if_eq (tgt := 30) hx hb dX11_told_18 (by decide) (fun _ => ?_) (fun c9 => absurd (by decide) c9)
      refine lv_iconst (v := (-1)) hx hb dX11_told_30 (by decide) ?_
      have k_m1 : ((-1) : Int32).toInt = (-1) := by decide
      rw [hQ9]
      exact re_i (0 : Int32) hx hb hr hlocks trivial (hP.sub [0, 1, 2] rfl) (hD.sub [0, 1, 2] rfl rfl) hS dX11_told_31
    · skip
      refine as_i 1 aq_4 ?_
      refine lv_if_eq (tgt := 30) hx hb dX11_told_18 (by decide) (fun c9 => absurd c9 (by decide)) (fun _ => ?_)
      refine lv_aload_n hx hb dX11_told_21 rfl (lv_at hl 0 rfl) ?_
      refine gf_X11_154 hx hb hts hown hK hP 0 rfl rfl dX11_told_22 ?_
      refine lv_iload_n hx hb dX11_told_25 rfl (lv_at hl 1 rfl) ?_
      have hin_5 : vp_in vk 4 := vp_in_iff.mpr ⟨by omega, by omega⟩
      refine va_iald hx hb hK hP 2 0 rfl rfl hin_5 dX11_told_26 ?_
      refine lv_topi (fun z_6 ez_6 => ?_)
      refine lv_goto (tgt := 31) hx hb dX11_told_27 (by decide) ?_
      rw [hQ9]
      exact re_i (0 : Int32) hx hb hr hlocks trivial (hP.sub [0, 1, 2] rfl) (hD.sub [0, 1, 2] rfl rfl) hS dX11_told_31
abbrev cX11_count : ByteArray := prog_13_method_131_code
def yX11_count : MethodName := ⟨RX11, "count", "(I)I"⟩
theorem t2071 : Cond.code yX11_count cX11_count 2 (some .int) ∈ GW := gw_mem 2185 (by decide +kernel) (by decide +kernel)
abbrev O_m_count (cy : Nat → ClassId) (vnh : Nat → Int32) (vo : Nat) (voth : Int32) (vmt : Nat) (votp : Int32) (vosz : Int32) (volm : Int32) (voto : Int32) (vofr : Int32) (vokd : Int32) (vonu : Int32) (vosg : Int32) (vofa : Int32) (vopl : Int32) (vowd : Int64) (votd : Int32) (vmn : Nat) (vmr : Nat) (vmk : Nat) (vms : Nat) (vma : Nat) (vmm : Nat) (vmrn : Nat) (vmkn : Nat) (vmik : Nat) (vmon : Nat) (vosm : Int32) (vohp : Int32) (vmw : Nat) (vmf : Nat) (vmb : Nat) (vomb : Int32) (vmd : Nat) (vmc : Nat) (vocm : Int32) (voct : Int32) (vocy : Int32) (vmx : Nat) (votx : Int32) (vose : Int32) (vml : Nat) (vmwr : Nat) (voln : Int32) (vohw : Int32) (vmno : Nat) (vond : Int32) (voon : Int32) (vowi : Int32) (votop : Int32) (vmnf : Nat → Int32) (vk : Int32) (u : Int32) : va_W := [(vo, .inr (12, [.int u, .ref vmt, .int votp, .int vosz, .int volm, .int voto, .int vofr, .int vokd, .int vonu, .int vosg, .int vofa, .int vopl, .long vowd, .int votd, .ref vmn, .ref vmr, .ref vmk, .ref vms, .ref vma, .ref vmm, .ref vmrn, .ref vmkn, .ref vmik, .ref vmon, .int vosm, .int vohp, .ref vmw, .ref vmf, .ref vmb, .int vomb, .ref vmd, .ref vmc, .int vocm, .int voct, .int vocy, .ref vmx, .int votx, .int vose, .ref vml, .ref vmwr, .int voln, .int vohw, .ref vmno, .int vond, .int voon, .int vowi, .int votop])), (vmn, .inl (cy 0, 575, .inl vmnf))]
theorem dX11_count_0 : decode cX11_count 0 = .ok (.aload_n 0, 1) := by decide +kernel
theorem dX11_count_1 : decode cX11_count 1 = .ok (.iconst 0, 1) := by decide +kernel
theorem dX11_count_2 : decode cX11_count 2 = .ok (.putfield 1, 3) := by decide +kernel
theorem dX11_count_5 : decode cX11_count 5 = .ok (.iload_n 1, 1) := by decide +kernel
theorem dX11_count_6 : decode cX11_count 6 = .ok (.tableswitch 67 0 4 #[34, 41, 48, 55, 62], 34) := by decide +kernel
theorem dX11_count_40 : decode cX11_count 40 = .ok (.aload_n 0, 1) := by decide +kernel
theorem dX11_count_41 : decode cX11_count 41 = .ok (.getfield 98, 3) := by decide +kernel
theorem dX11_count_44 : decode cX11_count 44 = .ok (.iconst 0, 1) := by decide +kernel
theorem dX11_count_45 : decode cX11_count 45 = .ok (.iaload, 1) := by decide +kernel
theorem dX11_count_46 : decode cX11_count 46 = .ok (.ireturn, 1) := by decide +kernel
theorem dX11_count_47 : decode cX11_count 47 = .ok (.aload_n 0, 1) := by decide +kernel
theorem dX11_count_48 : decode cX11_count 48 = .ok (.getfield 98, 3) := by decide +kernel
theorem dX11_count_51 : decode cX11_count 51 = .ok (.iconst 1, 1) := by decide +kernel
theorem dX11_count_52 : decode cX11_count 52 = .ok (.iaload, 1) := by decide +kernel
theorem dX11_count_53 : decode cX11_count 53 = .ok (.ireturn, 1) := by decide +kernel
theorem dX11_count_54 : decode cX11_count 54 = .ok (.aload_n 0, 1) := by decide +kernel
theorem dX11_count_55 : decode cX11_count 55 = .ok (.getfield 98, 3) := by decide +kernel
theorem dX11_count_58 : decode cX11_count 58 = .ok (.iconst 2, 1) := by decide +kernel
theorem dX11_count_59 : decode cX11_count 59 = .ok (.iaload, 1) := by decide +kernel
theorem dX11_count_60 : decode cX11_count 60 = .ok (.ireturn, 1) := by decide +kernel
theorem dX11_count_61 : decode cX11_count 61 = .ok (.aload_n 0, 1) := by decide +kernel
theorem dX11_count_62 : decode cX11_count 62 = .ok (.getfield 98, 3) := by decide +kernel
theorem dX11_count_65 : decode cX11_count 65 = .ok (.iconst 3, 1) := by decide +kernel
theorem dX11_count_66 : decode cX11_count 66 = .ok (.iaload, 1) := by decide +kernel
theorem dX11_count_67 : decode cX11_count 67 = .ok (.ireturn, 1) := by decide +kernel
theorem dX11_count_68 : decode cX11_count 68 = .ok (.aload_n 0, 1) := by decide +kernel
theorem dX11_count_69 : decode cX11_count 69 = .ok (.getfield 11, 3) := by decide +kernel
theorem dX11_count_72 : decode cX11_count 72 = .ok (.ireturn, 1) := by decide +kernel
theorem dX11_count_73 : decode cX11_count 73 = .ok (.iconst (-1), 1) := by decide +kernel
theorem dX11_count_74 : decode cX11_count 74 = .ok (.ireturn, 1) := by decide +kernel
set_option maxHeartbeats 4000000 in
set_option maxRecDepth 100000 in
theorem m_count (l : Launch) (dC : Nat → ClassId) (dI : Nat → Nat → Nat) (cy : Nat → ClassId) (sz : Nat) (vnh : Nat → Int32) (vo : Nat) (voth : Int32) (vmt : Nat) (votp : Int32) (vosz : Int32) (volm : Int32) (voto : Int32) (vofr : Int32) (vokd : Int32) (vonu : Int32) (vosg : Int32) (vofa : Int32) (vopl : Int32) (vowd : Int64) (votd : Int32) (vmn : Nat) (vmr : Nat) (vmk : Nat) (vms : Nat) (vma : Nat) (vmm : Nat) (vmrn : Nat) (vmkn : Nat) (vmik : Nat) (vmon : Nat) (vosm : Int32) (vohp : Int32) (vmw : Nat) (vmf : Nat) (vmb : Nat) (vomb : Int32) (vmd : Nat) (vmc : Nat) (vocm : Int32) (voct : Int32) (vocy : Int32) (vmx : Nat) (votx : Int32) (vose : Int32) (vml : Nat) (vmwr : Nat) (voln : Int32) (vohw : Int32) (vmno : Nat) (vond : Int32) (voon : Int32) (vowi : Int32) (votop : Int32) (vmnf : Nat → Int32) (vk : Int32) (p_vmnf : NW vnh vmnf) : Met l yX11_count (wl yX11_count cX11_count 2 (some .int)) ({ frames := 0, cells := 0, slots := 0, locals := 0 }) (Pw (dC, dI) vwCl cy [(vo, .inr (12, [.int voth, .ref vmt, .int votp, .int vosz, .int volm, .int voto, .int vofr, .int vokd, .int vonu, .int vosg, .int vofa, .int vopl, .long vowd, .int votd, .ref vmn, .ref vmr, .ref vmk, .ref vms, .ref vma, .ref vmm, .ref vmrn, .ref vmkn, .ref vmik, .ref vmon, .int vosm, .int vohp, .ref vmw, .ref vmf, .ref vmb, .int vomb, .ref vmd, .ref vmc, .int vocm, .int voct, .int vocy, .ref vmx, .int votx, .int vose, .ref vml, .ref vmwr, .int voln, .int vohw, .ref vmno, .int vond, .int voon, .int vowi, .int votop])), (vmn, .inl (cy 0, 575, .inl vmnf))] sz [.ref vo, .int vk] nE) (Qi (dC, dI) vwCl (fun (r : Int32) (u : Int32) => (tkCnt (vk : Int32).toInt (r : Int32).toInt (vmnf 0).toInt (vmnf 1).toInt (vmnf 2).toInt (vmnf 3).toInt (votp : Int32).toInt)) (O_m_count cy vnh vo voth vmt votp vosz volm voto vofr vokd vonu vosg vofa vopl vowd votd vmn vmr vmk vms vma vmm vmrn vmkn vmik vmon vosm vohp vmw vmf vmb vomb vmd vmc vocm voct vocy vmx votx vose vml vmwr voln vohw vmno vond voon vowi votop vmnf vk) (va_A [(vo, .inr (12, [.int voth, .ref vmt, .int votp, .int vosz, .int volm, .int voto, .int vofr, .int vokd, .int vonu, .int vosg, .int vofa, .int vopl, .long vowd, .int votd, .ref vmn, .ref vmr, .ref vmk, .ref vms, .ref vma, .ref vmm, .ref vmrn, .ref vmkn, .ref vmik, .ref vmon, .int vosm, .int vohp, .ref vmw, .ref vmf, .ref vmb, .int vomb, .ref vmd, .ref vmc, .int vocm, .int voct, .int vocy, .ref vmx, .int votx, .int vose, .ref vml, .ref vmwr, .int voln, .int vohw, .ref vmno, .int vond, .int voon, .int vowi, .int votop])), (vmn, .inl (cy 0, 575, .inl vmnf))] sz)) 0 0 (va_A [(vo, .inr (12, [.int voth, .ref vmt, .int votp, .int vosz, .int volm, .int voto, .int vofr, .int vokd, .int vonu, .int vosg, .int vofa, .int vopl, .long vowd, .int votd, .ref vmn, .ref vmr, .ref vmk, .ref vms, .ref vma, .ref vmm, .ref vmrn, .ref vmkn, .ref vmik, .ref vmon, .int vosm, .int vohp, .ref vmw, .ref vmf, .ref vmb, .int vomb, .ref vmd, .ref vmc, .int vocm, .int voct, .int vocy, .ref vmx, .int votx, .int vose, .ref vml, .ref vmwr, .int voln, .int vohw, .ref vmno, .int vond, .int voon, .int vowi, .int votop])), (vmn, .inl (cy 0, 575, .inl vmnf))] sz) := by
  refine mw (Qc := Qi (dC, dI) vwCl (fun (r : Int32) (u : Int32) => (tkCnt (vk : Int32).toInt (r : Int32).toInt (vmnf 0).toInt (vmnf 1).toInt (vmnf 2).toInt (vmnf 3).toInt (votp : Int32).toInt)) (O_m_count cy vnh vo voth vmt votp vosz volm voto vofr vokd vonu vosg vofa vopl vowd votd vmn vmr vmk vms vma vmm vmrn vmkn vmik vmon vosm vohp vmw vmf vmb vomb vmd vmc vocm voct vocy vmx votx vose vml vmwr voln vohw vmno vond voon vowi votop vmnf vk)) RX11 rfl (by decide +kernel) (Nat.le_of_ble_eq_true rfl) ?_
  intro p e s m below meth c A hx hb hr hlocks av9 hav hts hown hnm hml hK hP hD hA hS hE hAe Q9 hQ9 ls hl
  have hl : lv_has ls 2 [(0, .ref vo), (1, .int vk)] := hl
  refine lv_aload_n hx hb dX11_count_0 rfl (lv_at hl 0 rfl) ?_
  refine lv_iconst (v := 0) hx hb dX11_count_1 (by decide) ?_
  refine pf_X11_1 hx hb hts hown hK hP hD hS 0 rfl rfl rfl (Nat.le_of_ble_eq_true rfl) dX11_count_2 (fun H locs hP hD hS => ?_)
  have hP : va_P (dC, dI) vwCl [(vo, .inr (12, [.int 0, .ref vmt, .int votp, .int vosz, .int volm, .int voto, .int vofr, .int vokd, .int vonu, .int vosg, .int vofa, .int vopl, .long vowd, .int votd, .ref vmn, .ref vmr, .ref vmk, .ref vms, .ref vma, .ref vmm, .ref vmrn, .ref vmkn, .ref vmik, .ref vmon, .int vosm, .int vohp, .ref vmw, .ref vmf, .ref vmb, .int vomb, .ref vmd, .ref vmc, .int vocm, .int voct, .int vocy, .ref vmx, .int votx, .int vose, .ref vml, .ref vmwr, .int voln, .int vohw, .ref vmno, .int vond, .int voon, .int vowi, .int votop])), (vmn, .inl (cy 0, 575, .inl vmnf))] H := hP
  have hD : va_D A [(vo, .inr (12, [.int 0, .ref vmt, .int votp, .int vosz, .int volm, .int voto, .int vofr, .int vokd, .int vonu, .int vosg, .int vofa, .int vopl, .long vowd, .int votd, .ref vmn, .ref vmr, .ref vmk, .ref vms, .ref vma, .ref vmm, .ref vmrn, .ref vmkn, .ref vmik, .ref vmon, .int vosm, .int vohp, .ref vmw, .ref vmf, .ref vmb, .int vomb, .ref vmd, .ref vmc, .int vocm, .int voct, .int vocy, .ref vmx, .int votx, .int vose, .ref vml, .ref vmwr, .int voln, .int vohw, .ref vmno, .int vond, .int voon, .int vowi, .int votop])), (vmn, .inl (cy 0, 575, .inl vmnf))] := hD
  refine lv_iload_n hx hb dX11_count_5 rfl (lv_at hl 1 rfl) ?_
  have k_0 : (0 : Int32).toInt = 0 := by decide
  have k_1 : (1 : Int32).toInt = 1 := by decide
  have k_2 : (2 : Int32).toInt = 2 := by decide
  have k_3 : (3 : Int32).toInt = 3 := by decide
  have k_4 : (4 : Int32).toInt = 4 := by decide
  by_cases sw_1_0 : vk.toInt = 0
  · refine as_i 0 (i_eq.mpr (sw_1_0.trans k_0.symm)) ?_
    refine lv_tableIn (off := 34) (tgt := 40) hx hb dX11_count_6 (by decide) (by decide) (by decide) (by decide) ?_
    refine lv_aload_n hx hb dX11_count_40 rfl (lv_at hl 0 rfl) ?_
    refine gf_X11_98 hx hb hts hown hK hP 0 rfl rfl dX11_count_41 ?_
    refine lv_iconst (v := 0) hx hb dX11_count_44 (by decide) ?_
    have hin_2 : vp_in (0 : Int32) 575 := vp_in_iff.mpr ⟨by omega, by omega⟩
    refine va_iald hx hb hK hP 1 0 rfl rfl hin_2 dX11_count_45 ?_
    refine lv_topi (fun z_3 ez_3 => ?_)
    have bz_3 := p_vmnf.a0 (x := 0) ⟨by omega, by omega⟩ ez_3
    have tz_3 : z_3.toInt = (vmnf 0).toInt := by rw [ez_3]; rfl
    rw [hQ9]
    exact re_i (0 : Int32) hx hb hr hlocks (show tkCnt (vk : Int32).toInt (z_3 : Int32).toInt (vmnf 0).toInt (vmnf 1).toInt (vmnf 2).toInt (vmnf 3).toInt (votp : Int32).toInt from (by unfold tkCnt; omega)) (hP.sub [0, 1] rfl) (hD.sub [0, 1] rfl rfl) hS dX11_count_46
  by_cases sw_1_1 : vk.toInt = 1
  · refine as_i 1 (i_eq.mpr (sw_1_1.trans k_1.symm)) ?_
    refine lv_tableIn (off := 41) (tgt := 47) hx hb dX11_count_6 (by decide) (by decide) (by decide) (by decide) ?_
    refine lv_aload_n hx hb dX11_count_47 rfl (lv_at hl 0 rfl) ?_
    refine gf_X11_98 hx hb hts hown hK hP 0 rfl rfl dX11_count_48 ?_
    refine lv_iconst (v := 1) hx hb dX11_count_51 (by decide) ?_
    have hin_4 : vp_in (1 : Int32) 575 := vp_in_iff.mpr ⟨by omega, by omega⟩
    refine va_iald hx hb hK hP 1 0 rfl rfl hin_4 dX11_count_52 ?_
    refine lv_topi (fun z_5 ez_5 => ?_)
    have bz_5 := p_vmnf.a1 (x := 1) ⟨by omega, by omega⟩ ez_5
    have tz_5 : z_5.toInt = (vmnf 1).toInt := by rw [ez_5]; rfl
    rw [hQ9]
    exact re_i (0 : Int32) hx hb hr hlocks (show tkCnt (vk : Int32).toInt (z_5 : Int32).toInt (vmnf 0).toInt (vmnf 1).toInt (vmnf 2).toInt (vmnf 3).toInt (votp : Int32).toInt from (by unfold tkCnt; omega)) (hP.sub [0, 1] rfl) (hD.sub [0, 1] rfl rfl) hS dX11_count_53
  by_cases sw_1_2 : vk.toInt = 2
  · refine as_i 2 (i_eq.mpr (sw_1_2.trans k_2.symm)) ?_
    refine lv_tableIn (off := 48) (tgt := 54) hx hb dX11_count_6 (by decide) (by decide) (by decide) (by decide) ?_
    refine lv_aload_n hx hb dX11_count_54 rfl (lv_at hl 0 rfl) ?_
    refine gf_X11_98 hx hb hts hown hK hP 0 rfl rfl dX11_count_55 ?_
    refine lv_iconst (v := 2) hx hb dX11_count_58 (by decide) ?_
    have hin_6 : vp_in (2 : Int32) 575 := vp_in_iff.mpr ⟨by omega, by omega⟩
    refine va_iald hx hb hK hP 1 0 rfl rfl hin_6 dX11_count_59 ?_
    refine lv_topi (fun z_7 ez_7 => ?_)
    have tz_7 : z_7.toInt = (vmnf 2).toInt := by rw [ez_7]; rfl
    rw [hQ9]
    exact re_i (0 : Int32) hx hb hr hlocks (show tkCnt (vk : Int32).toInt (z_7 : Int32).toInt (vmnf 0).toInt (vmnf 1).toInt (vmnf 2).toInt (vmnf 3).toInt (votp : Int32).toInt from (by unfold tkCnt; omega)) (hP.sub [0, 1] rfl) (hD.sub [0, 1] rfl rfl) hS dX11_count_60
  by_cases sw_1_3 : vk.toInt = 3
  · refine as_i 3 (i_eq.mpr (sw_1_3.trans k_3.symm)) ?_
    refine lv_tableIn (off := 55) (tgt := 61) hx hb dX11_count_6 (by decide) (by decide) (by decide) (by decide) ?_
    refine lv_aload_n hx hb dX11_count_61 rfl (lv_at hl 0 rfl) ?_
    refine gf_X11_98 hx hb hts hown hK hP 0 rfl rfl dX11_count_62 ?_
    refine lv_iconst (v := 3) hx hb dX11_count_65 (by decide) ?_
    have hin_8 : vp_in (3 : Int32) 575 := vp_in_iff.mpr ⟨by omega, by omega⟩
    refine va_iald hx hb hK hP 1 0 rfl rfl hin_8 dX11_count_66 ?_
    refine lv_topi (fun z_9 ez_9 => ?_)
    have tz_9 : z_9.toInt = (vmnf 3).toInt := by rw [ez_9]; rfl
    rw [hQ9]
    exact re_i (0 : Int32) hx hb hr hlocks (show tkCnt (vk : Int32).toInt (z_9 : Int32).toInt (vmnf 0).toInt (vmnf 1).toInt (vmnf 2).toInt (vmnf 3).toInt (votp : Int32).toInt from (by unfold tkCnt; omega)) (hP.sub [0, 1] rfl) (hD.sub [0, 1] rfl rfl) hS dX11_count_67
  by_cases sw_1_4 : vk.toInt = 4
  · refine as_i 4 (i_eq.mpr (sw_1_4.trans k_4.symm)) ?_
    refine lv_tableIn (off := 62) (tgt := 68) hx hb dX11_count_6 (by decide) (by decide) (by decide) (by decide) ?_
    refine lv_aload_n hx hb dX11_count_68 rfl (lv_at hl 0 rfl) ?_
    refine gf_X11_11 hx hb hts hown hK hP 0 rfl rfl dX11_count_69 ?_
    rw [hQ9]
    exact re_i (0 : Int32) hx hb hr hlocks (show tkCnt (vk : Int32).toInt (votp : Int32).toInt (vmnf 0).toInt (vmnf 1).toInt (vmnf 2).toInt (vmnf 3).toInt (votp : Int32).toInt from (by unfold tkCnt; omega)) (hP.sub [0, 1] rfl) (hD.sub [0, 1] rfl rfl) hS dX11_count_72
  refine lv_tableOut (tgt := 73) hx hb dX11_count_6 (by omega) (by decide) ?_
  refine lv_iconst (v := (-1)) hx hb dX11_count_73 (by decide) ?_
  have k_m1 : ((-1) : Int32).toInt = (-1) := by decide
  rw [hQ9]
  exact re_i (0 : Int32) hx hb hr hlocks (show tkCnt (vk : Int32).toInt (((-1) : Int32) : Int32).toInt (vmnf 0).toInt (vmnf 1).toInt (vmnf 2).toInt (vmnf 3).toInt (votp : Int32).toInt from (by unfold tkCnt; omega)) (hP.sub [0, 1] rfl) (hD.sub [0, 1] rfl rfl) hS dX11_count_74
abbrev cX11_byteAt : ByteArray := prog_13_method_100_code
def yX11_byteAt : MethodName := ⟨RX11, "byteAt", "(I)I"⟩
theorem t1945 : Cond.code yX11_byteAt cX11_byteAt 2 (some .int) ∈ GW := gw_mem 2059 (by decide +kernel) (by decide +kernel)
abbrev O_m_byteAt (cy : Nat → ClassId) (vnh : Nat → Int32) (vo : Nat) (voth : Int32) (vmt : Nat) (votp : Int32) (vosz : Int32) (volm : Int32) (voto : Int32) (vofr : Int32) (vokd : Int32) (vonu : Int32) (vosg : Int32) (vofa : Int32) (vopl : Int32) (vowd : Int64) (votd : Int32) (vmn : Nat) (vmr : Nat) (vmk : Nat) (vms : Nat) (vma : Nat) (vmm : Nat) (vmrn : Nat) (vmkn : Nat) (vmik : Nat) (vmon : Nat) (vosm : Int32) (vohp : Int32) (vmw : Nat) (vmf : Nat) (vmb : Nat) (vomb : Int32) (vmd : Nat) (vmc : Nat) (vocm : Int32) (voct : Int32) (vocy : Int32) (vmx : Nat) (votx : Int32) (vose : Int32) (vml : Nat) (vmwr : Nat) (voln : Int32) (vohw : Int32) (vmno : Nat) (vond : Int32) (voon : Int32) (vowi : Int32) (votop : Int32) (vmnf : Nat → Int32) (vmxf : Nat → Int32) (vi : Int32) (u : Int32) : va_W := [(vo, .inr (12, [.int u, .ref vmt, .int votp, .int vosz, .int volm, .int voto, .int vofr, .int vokd, .int vonu, .int vosg, .int vofa, .int vopl, .long vowd, .int votd, .ref vmn, .ref vmr, .ref vmk, .ref vms, .ref vma, .ref vmm, .ref vmrn, .ref vmkn, .ref vmik, .ref vmon, .int vosm, .int vohp, .ref vmw, .ref vmf, .ref vmb, .int vomb, .ref vmd, .ref vmc, .int vocm, .int voct, .int vocy, .ref vmx, .int votx, .int vose, .ref vml, .ref vmwr, .int voln, .int vohw, .ref vmno, .int vond, .int voon, .int vowi, .int votop])), (vmn, .inl (cy 0, 575, .inl vmnf)), (vmx, .inl (cy 0, 64, .inl vmxf))]
theorem dX11_byteAt_0 : decode cX11_byteAt 0 = .ok (.aload_n 0, 1) := by decide +kernel
theorem dX11_byteAt_1 : decode cX11_byteAt 1 = .ok (.iconst 0, 1) := by decide +kernel
theorem dX11_byteAt_2 : decode cX11_byteAt 2 = .ok (.putfield 1, 3) := by decide +kernel
theorem dX11_byteAt_5 : decode cX11_byteAt 5 = .ok (.iload_n 1, 1) := by decide +kernel
theorem dX11_byteAt_6 : decode cX11_byteAt 6 = .ok (.iconst 0, 1) := by decide +kernel
theorem dX11_byteAt_7 : decode cX11_byteAt 7 = .ok (.aload_n 0, 1) := by decide +kernel
theorem dX11_byteAt_8 : decode cX11_byteAt 8 = .ok (.getfield 335, 3) := by decide +kernel
theorem t1478 : Cond.fieldLink RX11 335 "LikenessPoundModel" "texts" "I" ∈ GW := gw_mem 1592 (by decide +kernel) (by decide +kernel)
theorem gf_X11_335 {p : Program} {l : Launch} {e : Env} {R : Room} {s : State} {m : MethodId} {args : Array Value} {below : List Frame} {meth : Method} {c : Code} {H : Heap} {locs : List Loc} {cells slots : Nat} {Q : State → Prop} {cc : ByteArray} {pc : Nat} {ls : Array Slot} {rest : List Value} {D : va_G} {a : Nat} {tys : List (ClassId × FieldType)} {ws : va_W} (hx : p.tables.exec = Jvm.exec) (hb : c.code = cc) (hts : ∀ w ∈ GW, w.before args s = true) (hown : s.vm.findClass RX11 = some m.cls) (hK : va_K D vwCl tys s) (hP : va_P D vwCl ws H) (q0 : Nat) {fs : List Value} (he : ws[q0]? = some (a, .inr (12, fs))) {v : Value} (hv : fs[36]? = some v) (hdg : decode cc pc = .ok (.getfield 335, 3)) (kk : W p l e R s m args below meth c H locs cells slots Q (F0 m (pc + 3) ls (v :: rest))) : W p l e R s m args below meth c H locs cells slots Q (F0 m pc ls (.ref a :: rest)) := va_get (C := RX11) (T := TX11) (N := 47) (ci := 12) hx hb hts inX11 hown hK hP q0 he rfl 36 (by decide) (hts _ t1478) (fun _ h => h) hv hdg kk
theorem dX11_byteAt_11 : decode cX11_byteAt 11 = .ok (.iconst 1, 1) := by decide +kernel
theorem dX11_byteAt_12 : decode cX11_byteAt 12 = .ok (.isub, 1) := by decide +kernel
theorem dX11_byteAt_13 : decode cX11_byteAt 13 = .ok (.invokestatic 75, 3) := by decide +kernel
theorem dX11_byteAt_16 : decode cX11_byteAt 16 = .ok (.ifCond .eq 12, 3) := by decide +kernel
theorem dX11_byteAt_28 : decode cX11_byteAt 28 = .ok (.iconst (-1), 1) := by decide +kernel
theorem dX11_byteAt_29 : decode cX11_byteAt 29 = .ok (.ireturn, 1) := by decide +kernel
theorem dX11_byteAt_19 : decode cX11_byteAt 19 = .ok (.aload_n 0, 1) := by decide +kernel
theorem dX11_byteAt_20 : decode cX11_byteAt 20 = .ok (.getfield 148, 3) := by decide +kernel
theorem t1477 : Cond.fieldLink RX11 148 "LikenessPoundModel" "text" "[I" ∈ GW := gw_mem 1591 (by decide +kernel) (by decide +kernel)
theorem gf_X11_148 {p : Program} {l : Launch} {e : Env} {R : Room} {s : State} {m : MethodId} {args : Array Value} {below : List Frame} {meth : Method} {c : Code} {H : Heap} {locs : List Loc} {cells slots : Nat} {Q : State → Prop} {cc : ByteArray} {pc : Nat} {ls : Array Slot} {rest : List Value} {D : va_G} {a : Nat} {tys : List (ClassId × FieldType)} {ws : va_W} (hx : p.tables.exec = Jvm.exec) (hb : c.code = cc) (hts : ∀ w ∈ GW, w.before args s = true) (hown : s.vm.findClass RX11 = some m.cls) (hK : va_K D vwCl tys s) (hP : va_P D vwCl ws H) (q0 : Nat) {fs : List Value} (he : ws[q0]? = some (a, .inr (12, fs))) {v : Value} (hv : fs[35]? = some v) (hdg : decode cc pc = .ok (.getfield 148, 3)) (kk : W p l e R s m args below meth c H locs cells slots Q (F0 m (pc + 3) ls (v :: rest))) : W p l e R s m args below meth c H locs cells slots Q (F0 m pc ls (.ref a :: rest)) := va_get (C := RX11) (T := TX11) (N := 47) (ci := 12) hx hb hts inX11 hown hK hP q0 he rfl 35 (by decide) (hts _ t1477) (fun _ h => h) hv hdg kk
theorem dX11_byteAt_23 : decode cX11_byteAt 23 = .ok (.iload_n 1, 1) := by decide +kernel
theorem dX11_byteAt_24 : decode cX11_byteAt 24 = .ok (.iaload, 1) := by decide +kernel
theorem dX11_byteAt_25 : decode cX11_byteAt 25 = .ok (.goto 4, 3) := by decide +kernel
set_option maxHeartbeats 4000000 in
set_option maxRecDepth 100000 in
theorem m_byteAt (l : Launch) (dC : Nat → ClassId) (dI : Nat → Nat → Nat) (cy : Nat → ClassId) (sz : Nat) (vnh : Nat → Int32) (vo : Nat) (voth : Int32) (vmt : Nat) (votp : Int32) (vosz : Int32) (volm : Int32) (voto : Int32) (vofr : Int32) (vokd : Int32) (vonu : Int32) (vosg : Int32) (vofa : Int32) (vopl : Int32) (vowd : Int64) (votd : Int32) (vmn : Nat) (vmr : Nat) (vmk : Nat) (vms : Nat) (vma : Nat) (vmm : Nat) (vmrn : Nat) (vmkn : Nat) (vmik : Nat) (vmon : Nat) (vosm : Int32) (vohp : Int32) (vmw : Nat) (vmf : Nat) (vmb : Nat) (vomb : Int32) (vmd : Nat) (vmc : Nat) (vocm : Int32) (voct : Int32) (vocy : Int32) (vmx : Nat) (votx : Int32) (vose : Int32) (vml : Nat) (vmwr : Nat) (voln : Int32) (vohw : Int32) (vmno : Nat) (vond : Int32) (voon : Int32) (vowi : Int32) (votop : Int32) (vmnf : Nat → Int32) (vmxf : Nat → Int32) (vi : Int32) (r_votx : 0 ≤ (votx : Int32).toInt ∧ (votx : Int32).toInt ≤ 64) (p_vmnf : NW vnh vmnf) : Met l yX11_byteAt (wl yX11_byteAt cX11_byteAt 2 (some .int)) ({ frames := 1, cells := 0, slots := 0, locals := 64 }) (Pw (dC, dI) vwCl cy [(vo, .inr (12, [.int voth, .ref vmt, .int votp, .int vosz, .int volm, .int voto, .int vofr, .int vokd, .int vonu, .int vosg, .int vofa, .int vopl, .long vowd, .int votd, .ref vmn, .ref vmr, .ref vmk, .ref vms, .ref vma, .ref vmm, .ref vmrn, .ref vmkn, .ref vmik, .ref vmon, .int vosm, .int vohp, .ref vmw, .ref vmf, .ref vmb, .int vomb, .ref vmd, .ref vmc, .int vocm, .int voct, .int vocy, .ref vmx, .int votx, .int vose, .ref vml, .ref vmwr, .int voln, .int vohw, .ref vmno, .int vond, .int voon, .int vowi, .int votop])), (vmn, .inl (cy 0, 575, .inl vmnf)), (vmx, .inl (cy 0, 64, .inl vmxf))] sz [.ref vo, .int vi] nE) (Qi (dC, dI) vwCl (fun (r : Int32) (u : Int32) => True) (O_m_byteAt cy vnh vo voth vmt votp vosz volm voto vofr vokd vonu vosg vofa vopl vowd votd vmn vmr vmk vms vma vmm vmrn vmkn vmik vmon vosm vohp vmw vmf vmb vomb vmd vmc vocm voct vocy vmx votx vose vml vmwr voln vohw vmno vond voon vowi votop vmnf vmxf vi) (va_A [(vo, .inr (12, [.int voth, .ref vmt, .int votp, .int vosz, .int volm, .int voto, .int vofr, .int vokd, .int vonu, .int vosg, .int vofa, .int vopl, .long vowd, .int votd, .ref vmn, .ref vmr, .ref vmk, .ref vms, .ref vma, .ref vmm, .ref vmrn, .ref vmkn, .ref vmik, .ref vmon, .int vosm, .int vohp, .ref vmw, .ref vmf, .ref vmb, .int vomb, .ref vmd, .ref vmc, .int vocm, .int voct, .int vocy, .ref vmx, .int votx, .int vose, .ref vml, .ref vmwr, .int voln, .int vohw, .ref vmno, .int vond, .int voon, .int vowi, .int votop])), (vmn, .inl (cy 0, 575, .inl vmnf)), (vmx, .inl (cy 0, 64, .inl vmxf))] sz)) 0 0 (va_A [(vo, .inr (12, [.int voth, .ref vmt, .int votp, .int vosz, .int volm, .int voto, .int vofr, .int vokd, .int vonu, .int vosg, .int vofa, .int vopl, .long vowd, .int votd, .ref vmn, .ref vmr, .ref vmk, .ref vms, .ref vma, .ref vmm, .ref vmrn, .ref vmkn, .ref vmik, .ref vmon, .int vosm, .int vohp, .ref vmw, .ref vmf, .ref vmb, .int vomb, .ref vmd, .ref vmc, .int vocm, .int voct, .int vocy, .ref vmx, .int votx, .int vose, .ref vml, .ref vmwr, .int voln, .int vohw, .ref vmno, .int vond, .int voon, .int vowi, .int votop])), (vmn, .inl (cy 0, 575, .inl vmnf)), (vmx, .inl (cy 0, 64, .inl vmxf))] sz) := by
  refine mw (Qc := Qi (dC, dI) vwCl (fun (r : Int32) (u : Int32) => True) (O_m_byteAt cy vnh vo voth vmt votp vosz volm voto vofr vokd vonu vosg vofa vopl vowd votd vmn vmr vmk vms vma vmm vmrn vmkn vmik vmon vosm vohp vmw vmf vmb vomb vmd vmc vocm voct vocy vmx votx vose vml vmwr voln vohw vmno vond voon vowi votop vmnf vmxf vi)) RX11 rfl (by decide +kernel) (Nat.le_of_ble_eq_true rfl) ?_
  intro p e s m below meth c A hx hb hr hlocks av9 hav hts hown hnm hml hK hP hD hA hS hE hAe Q9 hQ9 ls hl
  have hl : lv_has ls 2 [(0, .ref vo), (1, .int vi)] := hl
  refine lv_aload_n hx hb dX11_byteAt_0 rfl (lv_at hl 0 rfl) ?_
  refine lv_iconst (v := 0) hx hb dX11_byteAt_1 (by decide) ?_
  refine pf_X11_1 hx hb hts hown hK hP hD hS 0 rfl rfl rfl (Nat.le_of_ble_eq_true rfl) dX11_byteAt_2 (fun H locs hP hD hS => ?_)
  have hP : va_P (dC, dI) vwCl [(vo, .inr (12, [.int 0, .ref vmt, .int votp, .int vosz, .int volm, .int voto, .int vofr, .int vokd, .int vonu, .int vosg, .int vofa, .int vopl, .long vowd, .int votd, .ref vmn, .ref vmr, .ref vmk, .ref vms, .ref vma, .ref vmm, .ref vmrn, .ref vmkn, .ref vmik, .ref vmon, .int vosm, .int vohp, .ref vmw, .ref vmf, .ref vmb, .int vomb, .ref vmd, .ref vmc, .int vocm, .int voct, .int vocy, .ref vmx, .int votx, .int vose, .ref vml, .ref vmwr, .int voln, .int vohw, .ref vmno, .int vond, .int voon, .int vowi, .int votop])), (vmn, .inl (cy 0, 575, .inl vmnf)), (vmx, .inl (cy 0, 64, .inl vmxf))] H := hP
  have hD : va_D A [(vo, .inr (12, [.int 0, .ref vmt, .int votp, .int vosz, .int volm, .int voto, .int vofr, .int vokd, .int vonu, .int vosg, .int vofa, .int vopl, .long vowd, .int votd, .ref vmn, .ref vmr, .ref vmk, .ref vms, .ref vma, .ref vmm, .ref vmrn, .ref vmkn, .ref vmik, .ref vmon, .int vosm, .int vohp, .ref vmw, .ref vmf, .ref vmb, .int vomb, .ref vmd, .ref vmc, .int vocm, .int voct, .int vocy, .ref vmx, .int votx, .int vose, .ref vml, .ref vmwr, .int voln, .int vohw, .ref vmno, .int vond, .int voon, .int vowi, .int votop])), (vmn, .inl (cy 0, 575, .inl vmnf)), (vmx, .inl (cy 0, 64, .inl vmxf))] := hD
  refine lv_iload_n hx hb dX11_byteAt_5 rfl (lv_at hl 1 rfl) ?_
  refine lv_iconst (v := 0) hx hb dX11_byteAt_6 (by decide) ?_
  refine lv_aload_n hx hb dX11_byteAt_7 rfl (lv_at hl 0 rfl) ?_
  refine gf_X11_335 hx hb hts hown hK hP 0 rfl rfl dX11_byteAt_8 ?_
  refine lv_iconst (v := 1) hx hb dX11_byteAt_11 (by decide) ?_
  refine lv_isub hx hb dX11_byteAt_12 ?_
  refine lv_topi (fun z_1 ez_1 => ?_)
  have k_1 : (1 : Int32).toInt = 1 := by decide
  have bz_1 : z_1.toInt = votx.toInt - (1 : Int32).toInt := i_sub ez_1 (by omega) (by omega)
  have k_0 : (0 : Int32).toInt = 0 := by decide
  refine jr_i (rSr (As := [.int vi, .int 0, .int z_1]) (rest := []) ⟨hx, hb, hml, hown, hts⟩ (m_isIn l dC dI cy vi 0 z_1 ) (cw_X11_75 hts rfl rfl ⟨Nat.le_of_ble_eq_true rfl, Nat.le_of_ble_eq_true rfl⟩) hP hK [] rfl rfl hl.1 rfl (Nat.le_of_ble_eq_true rfl) dX11_byteAt_13 ⟨Nat.le_of_ble_eq_true rfl, Nat.le_of_ble_eq_true rfl⟩) hP hS (fun r_2 H locs hp_3 hP hS => ?_)
  have hp_3 : ((r_2 = 0 ∧ ((vi : Int32).toInt < (0 : Int32).toInt ∨ (z_1 : Int32).toInt < (vi : Int32).toInt)) ∨ (r_2 = 1 ∧ (0 : Int32).toInt ≤ (vi : Int32).toInt ∧ (vi : Int32).toInt ≤ (z_1 : Int32).toInt)) := hp_3
  have q_4 := hp_3
  rcases q_4 with ⟨aq_4, f0q_4⟩ | ⟨aq_4, f0q_4, f1q_4⟩
  · skip
    refine as_i 0 aq_4 ?_
    refine lv_if_eq (tgt := 28) hx hb dX11_byteAt_16 (by decide) (fun _ => ?_) (fun c9 => absurd (by decide) c9)
    refine lv_iconst (v := (-1)) hx hb dX11_byteAt_28 (by decide) ?_
    have k_m1 : ((-1) : Int32).toInt = (-1) := by decide
    rw [hQ9]
    exact re_i (0 : Int32) hx hb hr hlocks trivial (hP.sub [0, 1, 2] rfl) (hD.sub [0, 1, 2] rfl rfl) hS dX11_byteAt_29
  · skip
    refine as_i 1 aq_4 ?_
    refine lv_if_eq (tgt := 28) hx hb dX11_byteAt_16 (by decide) (fun c9 => absurd c9 (by decide)) (fun _ => ?_)
    refine lv_aload_n hx hb dX11_byteAt_19 rfl (lv_at hl 0 rfl) ?_
    refine gf_X11_148 hx hb hts hown hK hP 0 rfl rfl dX11_byteAt_20 ?_
    refine lv_iload_n hx hb dX11_byteAt_23 rfl (lv_at hl 1 rfl) ?_
    have hin_5 : vp_in vi 64 := vp_in_iff.mpr ⟨by omega, by omega⟩
    refine va_iald hx hb hK hP 2 0 rfl rfl hin_5 dX11_byteAt_24 ?_
    refine lv_topi (fun z_6 ez_6 => ?_)
    refine lv_goto (tgt := 29) hx hb dX11_byteAt_25 (by decide) ?_
    rw [hQ9]
    exact re_i (0 : Int32) hx hb hr hlocks trivial (hP.sub [0, 1, 2] rfl) (hD.sub [0, 1, 2] rfl rfl) hS dX11_byteAt_29
