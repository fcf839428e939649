abbrev cX11_said : ByteArray := prog_13_method_128_code
def yX11_said : MethodName := ⟨RX11, "said", "(I)I"⟩
theorem t2054 : Cond.code yX11_said cX11_said 4 (some .int) ∈ GW := gw_mem 2168 (by decide +kernel) (by decide +kernel)
abbrev O_m_said (cy : Nat → ClassId) (vnh : Nat → Int32) (vo : Nat) (voth : Int32) (vmt : Nat) (votp : Int32) (vosz : Int32) (volm : Int32) (voto : Int32) (vofr : Int32) (vokd : Int32) (vonu : Int32) (vosg : Int32) (vofa : Int32) (vopl : Int32) (vowd : Int64) (votd : Int32) (vmn : Nat) (vmr : Nat) (vmk : Nat) (vms : Nat) (vma : Nat) (vmm : Nat) (vmrn : Nat) (vmkn : Nat) (vmik : Nat) (vmon : Nat) (vosm : Int32) (vohp : Int32) (vmw : Nat) (vmf : Nat) (vmb : Nat) (vomb : Int32) (vmd : Nat) (vmc : Nat) (vocm : Int32) (voct : Int32) (vocy : Int32) (vmx : Nat) (votx : Int32) (vose : Int32) (vml : Nat) (vmwr : Nat) (voln : Int32) (vohw : Int32) (vmno : Nat) (vond : Int32) (voon : Int32) (vowi : Int32) (votop : Int32) (vmnf : Nat → Int32) (vk : Int32) (u : Int32) : va_W := [(vo, .inr (12, [.int u, .ref vmt, .int votp, .int vosz, .int volm, .int voto, .int vofr, .int vokd, .int vonu, .int vosg, .int vofa, .int vopl, .long vowd, .int votd, .ref vmn, .ref vmr, .ref vmk, .ref vms, .ref vma, .ref vmm, .ref vmrn, .ref vmkn, .ref vmik, .ref vmon, .int vosm, .int vohp, .ref vmw, .ref vmf, .ref vmb, .int vomb, .ref vmd, .ref vmc, .int vocm, .int voct, .int vocy, .ref vmx, .int votx, .int vose, .ref vml, .ref vmwr, .int voln, .int vohw, .ref vmno, .int vond, .int voon, .int vowi, .int votop])), (vmn, .inl (cy 0, 575, .inl vmnf))]
theorem dX11_said_0 : decode cX11_said 0 = .ok (.aload_n 0, 1) := by decide +kernel
theorem dX11_said_1 : decode cX11_said 1 = .ok (.iconst 0, 1) := by decide +kernel
theorem dX11_said_2 : decode cX11_said 2 = .ok (.putfield 1, 3) := by decide +kernel
theorem dX11_said_5 : decode cX11_said 5 = .ok (.aload_n 0, 1) := by decide +kernel
theorem dX11_said_6 : decode cX11_said 6 = .ok (.getfield 98, 3) := by decide +kernel
theorem dX11_said_9 : decode cX11_said 9 = .ok (.sipush 333, 3) := by decide +kernel
theorem dX11_said_12 : decode cX11_said 12 = .ok (.iaload, 1) := by decide +kernel
theorem dX11_said_13 : decode cX11_said 13 = .ok (.ifCond .ne 5, 3) := by decide +kernel
theorem dX11_said_18 : decode cX11_said 18 = .ok (.iconst 0, 1) := by decide +kernel
theorem dX11_said_19 : decode cX11_said 19 = .ok (.istore_n 2, 1) := by decide +kernel
theorem dX11_said_20 : decode cX11_said 20 = .ok (.iconst 0, 1) := by decide +kernel
theorem dX11_said_21 : decode cX11_said 21 = .ok (.istore_n 3, 1) := by decide +kernel
theorem dX11_said_22 : decode cX11_said 22 = .ok (.iload_n 3, 1) := by decide +kernel
theorem dX11_said_23 : decode cX11_said 23 = .ok (.aload_n 0, 1) := by decide +kernel
theorem dX11_said_24 : decode cX11_said 24 = .ok (.getfield 98, 3) := by decide +kernel
theorem dX11_said_27 : decode cX11_said 27 = .ok (.iconst 0, 1) := by decide +kernel
theorem dX11_said_28 : decode cX11_said 28 = .ok (.iaload, 1) := by decide +kernel
theorem dX11_said_29 : decode cX11_said 29 = .ok (.if_icmp .ge 38, 3) := by decide +kernel
theorem dX11_said_67 : decode cX11_said 67 = .ok (.iload_n 1, 1) := by decide +kernel
theorem dX11_said_68 : decode cX11_said 68 = .ok (.iconst (-1), 1) := by decide +kernel
theorem dX11_said_69 : decode cX11_said 69 = .ok (.if_icmp .ne 7, 3) := by decide +kernel
theorem dX11_said_76 : decode cX11_said 76 = .ok (.iconst (-1), 1) := by decide +kernel
theorem dX11_said_77 : decode cX11_said 77 = .ok (.ireturn, 1) := by decide +kernel
theorem dX11_said_72 : decode cX11_said 72 = .ok (.iload_n 2, 1) := by decide +kernel
theorem dX11_said_73 : decode cX11_said 73 = .ok (.goto 4, 3) := by decide +kernel
theorem dX11_said_32 : decode cX11_said 32 = .ok (.aload_n 0, 1) := by decide +kernel
theorem dX11_said_33 : decode cX11_said 33 = .ok (.aload_n 0, 1) := by decide +kernel
theorem dX11_said_34 : decode cX11_said 34 = .ok (.getfield 98, 3) := by decide +kernel
theorem dX11_said_37 : decode cX11_said 37 = .ok (.sipush 334, 3) := by decide +kernel
theorem dX11_said_40 : decode cX11_said 40 = .ok (.iaload, 1) := by decide +kernel
theorem dX11_said_41 : decode cX11_said 41 = .ok (.iload_n 3, 1) := by decide +kernel
theorem dX11_said_42 : decode cX11_said 42 = .ok (.invokevirtual 438, 3) := by decide +kernel
theorem dX11_said_45 : decode cX11_said 45 = .ok (.ifCond .ne 6, 3) := by decide +kernel
theorem dX11_said_48 : decode cX11_said 48 = .ok (.goto 13, 3) := by decide +kernel
theorem dX11_said_61 : decode cX11_said 61 = .ok (.iinc 3 1, 3) := by decide +kernel
theorem dX11_said_64 : decode cX11_said 64 = .ok (.goto (-42), 3) := by decide +kernel
theorem dX11_said_51 : decode cX11_said 51 = .ok (.iload_n 2, 1) := by decide +kernel
theorem dX11_said_52 : decode cX11_said 52 = .ok (.iload_n 1, 1) := by decide +kernel
theorem dX11_said_53 : decode cX11_said 53 = .ok (.if_icmp .ne 5, 3) := by decide +kernel
theorem dX11_said_58 : decode cX11_said 58 = .ok (.iinc 2 1, 3) := by decide +kernel
theorem dX11_said_56 : decode cX11_said 56 = .ok (.iload_n 3, 1) := by decide +kernel
theorem dX11_said_57 : decode cX11_said 57 = .ok (.ireturn, 1) := by decide +kernel
theorem dX11_said_16 : decode cX11_said 16 = .ok (.iconst (-1), 1) := by decide +kernel
theorem dX11_said_17 : decode cX11_said 17 = .ok (.ireturn, 1) := by decide +kernel
set_option maxHeartbeats 4000000 in
set_option maxRecDepth 100000 in
theorem m_said (l : Launch) (dC : Nat → ClassId) (dI : Nat → Nat → Nat) (cy : Nat → ClassId) (sz : Nat) (vnh : Nat → Int32) (vo : Nat) (voth : Int32) (vmt : Nat) (votp : Int32) (vosz : Int32) (volm : Int32) (voto : Int32) (vofr : Int32) (vokd : Int32) (vonu : Int32) (vosg : Int32) (vofa : Int32) (vopl : Int32) (vowd : Int64) (votd : Int32) (vmn : Nat) (vmr : Nat) (vmk : Nat) (vms : Nat) (vma : Nat) (vmm : Nat) (vmrn : Nat) (vmkn : Nat) (vmik : Nat) (vmon : Nat) (vosm : Int32) (vohp : Int32) (vmw : Nat) (vmf : Nat) (vmb : Nat) (vomb : Int32) (vmd : Nat) (vmc : Nat) (vocm : Int32) (voct : Int32) (vocy : Int32) (vmx : Nat) (votx : Int32) (vose : Int32) (vml : Nat) (vmwr : Nat) (voln : Int32) (vohw : Int32) (vmno : Nat) (vond : Int32) (voon : Int32) (vowi : Int32) (votop : Int32) (vmnf : Nat → Int32) (vk : Int32) (p_vmnf : NW vnh vmnf) : Met l yX11_said (wl yX11_said cX11_said 4 (some .int)) ({ frames := 50, cells := 0, slots := 0, locals := 3200 }) (Pw (dC, dI) vwCl cy [(vo, .inr (12, [.int voth, .ref vmt, .int votp, .int vosz, .int volm, .int voto, .int vofr, .int vokd, .int vonu, .int vosg, .int vofa, .int vopl, .long vowd, .int votd, .ref vmn, .ref vmr, .ref vmk, .ref vms, .ref vma, .ref vmm, .ref vmrn, .ref vmkn, .ref vmik, .ref vmon, .int vosm, .int vohp, .ref vmw, .ref vmf, .ref vmb, .int vomb, .ref vmd, .ref vmc, .int vocm, .int voct, .int vocy, .ref vmx, .int votx, .int vose, .ref vml, .ref vmwr, .int voln, .int vohw, .ref vmno, .int vond, .int voon, .int vowi, .int votop])), (vmn, .inl (cy 0, 575, .inl vmnf))] sz [.ref vo, .int vk] nE) (Qi (dC, dI) vwCl (fun (r : Int32) (u : Int32) => True) (O_m_said cy vnh vo voth vmt votp vosz volm voto vofr vokd vonu vosg vofa vopl vowd votd vmn vmr vmk vms vma vmm vmrn vmkn vmik vmon vosm vohp vmw vmf vmb vomb vmd vmc vocm voct vocy vmx votx vose vml vmwr voln vohw vmno vond voon vowi votop vmnf vk) (va_A [(vo, .inr (12, [.int voth, .ref vmt, .int votp, .int vosz, .int volm, .int voto, .int vofr, .int vokd, .int vonu, .int vosg, .int vofa, .int vopl, .long vowd, .int votd, .ref vmn, .ref vmr, .ref vmk, .ref vms, .ref vma, .ref vmm, .ref vmrn, .ref vmkn, .ref vmik, .ref vmon, .int vosm, .int vohp, .ref vmw, .ref vmf, .ref vmb, .int vomb, .ref vmd, .ref vmc, .int vocm, .int voct, .int vocy, .ref vmx, .int votx, .int vose, .ref vml, .ref vmwr, .int voln, .int vohw, .ref vmno, .int vond, .int voon, .int vowi, .int votop])), (vmn, .inl (cy 0, 575, .inl vmnf))] sz)) 0 0 (va_A [(vo, .inr (12, [.int voth, .ref vmt, .int votp, .int vosz, .int volm, .int voto, .int vofr, .int vokd, .int vonu, .int vosg, .int vofa, .int vopl, .long vowd, .int votd, .ref vmn, .ref vmr, .ref vmk, .ref vms, .ref vma, .ref vmm, .ref vmrn, .ref vmkn, .ref vmik, .ref vmon, .int vosm, .int vohp, .ref vmw, .ref vmf, .ref vmb, .int vomb, .ref vmd, .ref vmc, .int vocm, .int voct, .int vocy, .ref vmx, .int votx, .int vose, .ref vml, .ref vmwr, .int voln, .int vohw, .ref vmno, .int vond, .int voon, .int vowi, .int votop])), (vmn, .inl (cy 0, 575, .inl vmnf))] sz) := by
  refine mw (Qc := Qi (dC, dI) vwCl (fun (r : Int32) (u : Int32) => True) (O_m_said cy vnh vo voth vmt votp vosz volm voto vofr vokd vonu vosg vofa vopl vowd votd vmn vmr vmk vms vma vmm vmrn vmkn vmik vmon vosm vohp vmw vmf vmb vomb vmd vmc vocm voct vocy vmx votx vose vml vmwr voln vohw vmno vond voon vowi votop vmnf vk)) RX11 rfl (by decide +kernel) (Nat.le_of_ble_eq_true rfl) ?_
  intro p e s m below meth c A hx hb hr hlocks av9 hav hts hown hnm hml hK hP hD hA hS hE hAe Q9 hQ9 ls hl
  have hl : lv_has ls 4 [(0, .ref vo), (1, .int vk)] := hl
  refine lv_aload_n hx hb dX11_said_0 rfl (lv_at hl 0 rfl) ?_
  refine lv_iconst (v := 0) hx hb dX11_said_1 (by decide) ?_
  refine pf_X11_1 hx hb hts hown hK hP hD hS 0 rfl rfl rfl (Nat.le_of_ble_eq_true rfl) dX11_said_2 (fun H locs hP hD hS => ?_)
  have hP : va_P (dC, dI) vwCl [(vo, .inr (12, [.int 0, .ref vmt, .int votp, .int vosz, .int volm, .int voto, .int vofr, .int vokd, .int vonu, .int vosg, .int vofa, .int vopl, .long vowd, .int votd, .ref vmn, .ref vmr, .ref vmk, .ref vms, .ref vma, .ref vmm, .ref vmrn, .ref vmkn, .ref vmik, .ref vmon, .int vosm, .int vohp, .ref vmw, .ref vmf, .ref vmb, .int vomb, .ref vmd, .ref vmc, .int vocm, .int voct, .int vocy, .ref vmx, .int votx, .int vose, .ref vml, .ref vmwr, .int voln, .int vohw, .ref vmno, .int vond, .int voon, .int vowi, .int votop])), (vmn, .inl (cy 0, 575, .inl vmnf))] H := hP
  have hD : va_D A [(vo, .inr (12, [.int 0, .ref vmt, .int votp, .int vosz, .int volm, .int voto, .int vofr, .int vokd, .int vonu, .int vosg, .int vofa, .int vopl, .long vowd, .int votd, .ref vmn, .ref vmr, .ref vmk, .ref vms, .ref vma, .ref vmm, .ref vmrn, .ref vmkn, .ref vmik, .ref vmon, .int vosm, .int vohp, .ref vmw, .ref vmf, .ref vmb, .int vomb, .ref vmd, .ref vmc, .int vocm, .int voct, .int vocy, .ref vmx, .int votx, .int vose, .ref vml, .ref vmwr, .int voln, .int vohw, .ref vmno, .int vond, .int voon, .int vowi, .int votop])), (vmn, .inl (cy 0, 575, .inl vmnf))] := hD
  refine lv_aload_n hx hb dX11_said_5 rfl (lv_at hl 0 rfl) ?_
  refine gf_X11_98 hx hb hts hown hK hP 0 rfl rfl dX11_said_6 ?_
  refine lv_sipush (v := 333) hx hb dX11_said_9 (by decide) ?_
  have k_333 : (333 : Int32).toInt = 333 := by decide
  have hin_1 : vp_in (333 : Int32) 575 := vp_in_iff.mpr ⟨by omega, by omega⟩
  refine va_iald hx hb hK hP 1 0 rfl rfl hin_1 dX11_said_12 ?_
  refine lv_topi (fun z_2 ez_2 => ?_)
  have tz_2 : z_2.toInt = (vmnf 333).toInt := by rw [ez_2]; rfl
  have k_0 : (0 : Int32).toInt = 0 := by decide
  refine lv_if_ne (tgt := 18) hx hb dX11_said_13 (by decide) (fun c_3 => ?_) (fun c_3 => ?_)
  · skip
    have c_3 : ¬ (z_2.toInt = (0 : Int32).toInt) := fun h9 => c_3 (i_eq.mpr h9)
    refine lv_iconst (v := 0) hx hb dX11_said_18 (by decide) ?_
    refine lv_istore_n (lv' := [(2, .int 0), (0, .ref vo), (1, .int vk)]) hx hb dX11_said_19 rfl hl (by decide) rfl (fun ls hl => ?_)
    refine lv_iconst (v := 0) hx hb dX11_said_20 (by decide) ?_
    refine lv_istore_n (lv' := [(3, .int 0), (2, .int 0), (0, .ref vo), (1, .int vk)]) hx hb dX11_said_21 rfl hl (by decide) rfl (fun ls hl => ?_)
    have loop4 : ∀ (n4 : Nat) (x_6 : Int32) (x_5 : Int32) (x_7 : Int32), (0 ≤ x_5.toInt ∧ x_5.toInt ≤ 7) → 7 - x_5.toInt < (n4 : Int) → ∀ (H : Heap) (locs : List Loc), va_P (dC, dI) vwCl [(vo, .inr (12, [.int x_7, .ref vmt, .int votp, .int vosz, .int volm, .int voto, .int vofr, .int vokd, .int vonu, .int vosg, .int vofa, .int vopl, .long vowd, .int votd, .ref vmn, .ref vmr, .ref vmk, .ref vms, .ref vma, .ref vmm, .ref vmrn, .ref vmkn, .ref vmik, .ref vmon, .int vosm, .int vohp, .ref vmw, .ref vmf, .ref vmb, .int vomb, .ref vmd, .ref vmc, .int vocm, .int voct, .int vocy, .ref vmx, .int votx, .int vose, .ref vml, .ref vmwr, .int voln, .int vohw, .ref vmno, .int vond, .int voon, .int vowi, .int votop])), (vmn, .inl (cy 0, 575, .inl vmnf))] H → va_D A [(vo, .inr (12, [.int x_7, .ref vmt, .int votp, .int vosz, .int volm, .int voto, .int vofr, .int vokd, .int vonu, .int vosg, .int vofa, .int vopl, .long vowd, .int votd, .ref vmn, .ref vmr, .ref vmk, .ref vms, .ref vma, .ref vmm, .ref vmrn, .ref vmkn, .ref vmik, .ref vmon, .int vosm, .int vohp, .ref vmw, .ref vmf, .ref vmb, .int vomb, .ref vmd, .ref vmc, .int vocm, .int voct, .int vocy, .ref vmx, .int votx, .int vose, .ref vml, .ref vmwr, .int voln, .int vohw, .ref vmno, .int vond, .int voon, .int vowi, .int votop])), (vmn, .inl (cy 0, 575, .inl vmnf))] → va_S A s.heap H locs → ∀ ls : Array Slot, lv_has ls 4 [(3, .int x_5), (2, .int x_6), (0, .ref vo), (1, .int vk)] → W p l e ({ frames := 50, cells := 0, slots := 0, locals := 3200 }) s m av9 below meth c H locs 0 0 Q9 (F0 m 22 ls []) := by
      intro n4
      induction n4 with
      | zero =>
        intro x_6 x_5 x_7 bx_5 hn4 H locs hP hD hS ls hl
        exfalso; omega
      | succ n4 ih4 =>
        intro x_6 x_5 x_7 bx_5 hn4 H locs hP hD hS ls hl
        refine lv_iload_n hx hb dX11_said_22 rfl (lv_at hl 0 rfl) ?_
        refine lv_aload_n hx hb dX11_said_23 rfl (lv_at hl 2 rfl) ?_
        refine gf_X11_98 hx hb hts hown hK hP 0 rfl rfl dX11_said_24 ?_
        refine lv_iconst (v := 0) hx hb dX11_said_27 (by decide) ?_
        have hin_8 : vp_in (0 : Int32) 575 := vp_in_iff.mpr ⟨by omega, by omega⟩
        refine va_iald hx hb hK hP 1 0 rfl rfl hin_8 dX11_said_28 ?_
        refine lv_topi (fun z_9 ez_9 => ?_)
        have bz_9 := p_vmnf.a0 (x := 0) ⟨by omega, by omega⟩ ez_9
        have tz_9 : z_9.toInt = (vmnf 0).toInt := by rw [ez_9]; rfl
        refine lv_icmp_ge (tgt := 67) hx hb dX11_said_29 (by decide) (fun c_10 => ?_) (fun c_10 => ?_)
        · skip
          have c_10 : z_9.toInt ≤ x_5.toInt := i_le.mp c_10
          refine lv_iload_n hx hb dX11_said_67 rfl (lv_at hl 3 rfl) ?_
          refine lv_iconst (v := (-1)) hx hb dX11_said_68 (by decide) ?_
          have k_m1 : ((-1) : Int32).toInt = (-1) := by decide
          refine lv_icmp_ne (tgt := 76) hx hb dX11_said_69 (by decide) (fun c_11 => ?_) (fun c_11 => ?_)
          · skip
            have c_11 : ¬ (vk.toInt = ((-1) : Int32).toInt) := fun h9 => c_11 (i_eq.mpr h9)
            refine lv_iconst (v := (-1)) hx hb dX11_said_76 (by decide) ?_
            rw [hQ9]
            exact re_i x_7 hx hb hr hlocks trivial (hP.sub [0, 1] rfl) (hD.sub [0, 1] rfl rfl) hS dX11_said_77
          · skip
            have c_11 : vk.toInt = ((-1) : Int32).toInt := i_eq.mp c_11
            refine lv_iload_n hx hb dX11_said_72 rfl (lv_at hl 1 rfl) ?_
            refine lv_goto (tgt := 77) hx hb dX11_said_73 (by decide) ?_
            rw [hQ9]
            exact re_i x_7 hx hb hr hlocks trivial (hP.sub [0, 1] rfl) (hD.sub [0, 1] rfl rfl) hS dX11_said_77
        · skip
          have c_10 : ¬ (z_9.toInt ≤ x_5.toInt) := fun h9 => c_10 (i_le.mpr h9)
          refine lv_aload_n hx hb dX11_said_32 rfl (lv_at hl 2 rfl) ?_
          refine lv_aload_n hx hb dX11_said_33 rfl (lv_at hl 2 rfl) ?_
          refine gf_X11_98 hx hb hts hown hK hP 0 rfl rfl dX11_said_34 ?_
          refine lv_sipush (v := 334) hx hb dX11_said_37 (by decide) ?_
          have k_334 : (334 : Int32).toInt = 334 := by decide
          have hin_12 : vp_in (334 : Int32) 575 := vp_in_iff.mpr ⟨by omega, by omega⟩
          refine va_iald hx hb hK hP 1 0 rfl rfl hin_12 dX11_said_40 ?_
          refine lv_topi (fun z_13 ez_13 => ?_)
          have bz_13 := p_vmnf.ap (x := 334) ⟨by omega, by omega⟩ ez_13
          have tz_13 : z_13.toInt = (vmnf 334).toInt := by rw [ez_13]; rfl
          refine lv_iload_n hx hb dX11_said_41 rfl (lv_at hl 0 rfl) ?_
          refine jn_i (wr := []) (rV (As := [.int z_13, .int x_5]) (rest := []) (ci := 12) ⟨hx, hb, hml, hown, hts⟩ (m_holds_39 l dC dI cy _ vnh vo x_7 vmt votp vosz volm voto vofr vokd vonu vosg vofa vopl vowd votd vmn vmr vmk vms vma vmm vmrn vmkn vmik vmon vosm vohp vmw vmf vmb vomb vmd vmc vocm voct vocy vmx votx vose vml vmwr voln vohw vmno vond voon vowi votop vmnf z_13 x_5 ⟨by omega, by omega⟩ ⟨by omega, by omega⟩ p_vmnf) (cw_X11_438 hts rfl rfl ⟨Nat.le_of_ble_eq_true rfl, Nat.le_of_ble_eq_true rfl⟩) hP hD hK [0, 1] rfl rfl rfl rfl bl0 e0 rfl hl.1 rfl (Nat.le_of_ble_eq_true rfl) dX11_said_42 ⟨Nat.le_of_ble_eq_true rfl, Nat.le_of_ble_eq_true rfl⟩) hP hD hS hA [0, 1] [] rfl rfl rfl (by decide) (fun r_14 u_16 H locs hp_15 hP hD hS => ?_)
          obtain ⟨voth_17, rfl⟩ : ∃ z, z = u_16 := ⟨_, rfl⟩
          have hp_15 : ((r_14 = 0) ∨ (r_14 = 1)) := hp_15
          have q_18 := hp_15
          have hP : va_P (dC, dI) vwCl [(vo, .inr (12, [.int voth_17, .ref vmt, .int votp, .int vosz, .int volm, .int voto, .int vofr, .int vokd, .int vonu, .int vosg, .int vofa, .int vopl, .long vowd, .int votd, .ref vmn, .ref vmr, .ref vmk, .ref vms, .ref vma, .ref vmm, .ref vmrn, .ref vmkn, .ref vmik, .ref vmon, .int vosm, .int vohp, .ref vmw, .ref vmf, .ref vmb, .int vomb, .ref vmd, .ref vmc, .int vocm, .int voct, .int vocy, .ref vmx, .int votx, .int vose, .ref vml, .ref vmwr, .int voln, .int vohw, .ref vmno, .int vond, .int voon, .int vowi, .int votop])), (vmn, .inl (cy 0, 575, .inl vmnf))] H := hP
          have hD : va_D A [(vo, .inr (12, [.int voth_17, .ref vmt, .int votp, .int vosz, .int volm, .int voto, .int vofr, .int vokd, .int vonu, .int vosg, .int vofa, .int vopl, .long vowd, .int votd, .ref vmn, .ref vmr, .ref vmk, .ref vms, .ref vma, .ref vmm, .ref vmrn, .ref vmkn, .ref vmik, .ref vmon, .int vosm, .int vohp, .ref vmw, .ref vmf, .ref vmb, .int vomb, .ref vmd, .ref vmc, .int vocm, .int voct, .int vocy, .ref vmx, .int votx, .int vose, .ref vml, .ref vmwr, .int voln, .int vohw, .ref vmno, .int vond, .int voon, .int vowi, .int votop])), (vmn, .inl (cy 0, 575, .inl vmnf))] := hD
          rcases q_18 with aq_18 | aq_18
          · skip
            refine as_i 0 aq_18 ?_
            refine lv_if_ne (tgt := 51) hx hb dX11_said_45 (by decide) (fun c9 => absurd c9 (by decide)) (fun _ => ?_)
            refine lv_goto (tgt := 61) hx hb dX11_said_48 (by decide) ?_
            obtain ⟨z_19, ez_19⟩ : ∃ z : Int32, z = x_5 + 1 := ⟨_, rfl⟩
            have k_1 : (1 : Int32).toInt = 1 := by decide
            have bz_19 : z_19.toInt = x_5.toInt + (1 : Int32).toInt := i_add ez_19 (by omega) (by omega)
            refine lv_iinc (v := z_19) (lv' := [(3, .int z_19), (2, .int x_6), (0, .ref vo), (1, .int vk)]) hx hb dX11_said_61 hl (k := 0) rfl ez_19.symm (by decide) rfl (fun ls hl => ?_)
            refine lv_goto (tgt := 22) hx hb dX11_said_64 (by decide) ?_
            exact ih4 x_6 z_19 voth_17 ⟨by omega, by omega⟩ (by omega) _ _ (hP.sub [0, 1] rfl) (hD.sub [0, 1] rfl rfl) hS ls (lv_sub hl [0, 1, 2, 3] rfl)
          · skip
            refine as_i 1 aq_18 ?_
            refine lv_if_ne (tgt := 51) hx hb dX11_said_45 (by decide) (fun _ => ?_) (fun c9 => absurd c9 (by decide))
            refine lv_iload_n hx hb dX11_said_51 rfl (lv_at hl 1 rfl) ?_
            refine lv_iload_n hx hb dX11_said_52 rfl (lv_at hl 3 rfl) ?_
            refine lv_icmp_ne (tgt := 58) hx hb dX11_said_53 (by decide) (fun c_20 => ?_) (fun c_20 => ?_)
            · skip
              have c_20 : ¬ (x_6.toInt = vk.toInt) := fun h9 => c_20 (i_eq.mpr h9)
              obtain ⟨z_21, ez_21⟩ : ∃ z : Int32, z = x_6 + 1 := ⟨_, rfl⟩
              refine lv_iinc (v := z_21) (lv' := [(2, .int z_21), (3, .int x_5), (0, .ref vo), (1, .int vk)]) hx hb dX11_said_58 hl (k := 1) rfl ez_21.symm (by decide) rfl (fun ls hl => ?_)
              obtain ⟨z_22, ez_22⟩ : ∃ z : Int32, z = x_5 + 1 := ⟨_, rfl⟩
              have k_1 : (1 : Int32).toInt = 1 := by decide
              have bz_22 : z_22.toInt = x_5.toInt + (1 : Int32).toInt := i_add ez_22 (by omega) (by omega)
              refine lv_iinc (v := z_22) (lv' := [(3, .int z_22), (2, .int z_21), (0, .ref vo), (1, .int vk)]) hx hb dX11_said_61 hl (k := 1) rfl ez_22.symm (by decide) rfl (fun ls hl => ?_)
              refine lv_goto (tgt := 22) hx hb dX11_said_64 (by decide) ?_
              exact ih4 z_21 z_22 voth_17 ⟨by omega, by omega⟩ (by omega) _ _ (hP.sub [0, 1] rfl) (hD.sub [0, 1] rfl rfl) hS ls (lv_sub hl [0, 1, 2, 3] rfl)
            · skip
              have c_20 : x_6.toInt = vk.toInt := i_eq.mp c_20
              refine lv_iload_n hx hb dX11_said_56 rfl (lv_at hl 0 rfl) ?_
              rw [hQ9]
              exact re_i voth_17 hx hb hr hlocks trivial (hP.sub [0, 1] rfl) (hD.sub [0, 1] rfl rfl) hS dX11_said_57
    exact loop4 ((7 - (0 : Int32).toInt).toNat + 1) 0 0 0 ⟨by omega, by omega⟩ (by omega) _ _ hP hD hS ls (lv_sub hl [0, 1, 2, 3] rfl)
  · skip
    have c_3 : z_2.toInt = (0 : Int32).toInt := i_eq.mp c_3
    refine lv_iconst (v := (-1)) hx hb dX11_said_16 (by decide) ?_
    have k_m1 : ((-1) : Int32).toInt = (-1) := by decide
    rw [hQ9]
    exact re_i (0 : Int32) hx hb hr hlocks trivial (hP.sub [0, 1] rfl) (hD.sub [0, 1] rfl rfl) hS dX11_said_17
abbrev cX11_image : ByteArray := prog_13_method_129_code
def yX11_image : MethodName := ⟨RX11, "image", "(I)Z"⟩
theorem t2063 : Cond.code yX11_image cX11_image 3 (some .boolean) ∈ GW := gw_mem 2177 (by decide +kernel) (by decide +kernel)
abbrev O_m_image (cy : Nat → ClassId) (vnh : Nat → Int32) (vo : Nat) (voth : Int32) (vmt : Nat) (votp : Int32) (vosz : Int32) (volm : Int32) (voto : Int32) (vofr : Int32) (vokd : Int32) (vonu : Int32) (vosg : Int32) (vofa : Int32) (vopl : Int32) (vowd : Int64) (votd : Int32) (vmn : Nat) (vmr : Nat) (vmk : Nat) (vms : Nat) (vma : Nat) (vmm : Nat) (vmrn : Nat) (vmkn : Nat) (vmik : Nat) (vmon : Nat) (vosm : Int32) (vohp : Int32) (vmw : Nat) (vmf : Nat) (vmb : Nat) (vomb : Int32) (vmd : Nat) (vmc : Nat) (vocm : Int32) (voct : Int32) (vocy : Int32) (vmx : Nat) (votx : Int32) (vose : Int32) (vml : Nat) (vmwr : Nat) (voln : Int32) (vohw : Int32) (vmno : Nat) (vond : Int32) (voon : Int32) (vowi : Int32) (votop : Int32) (vmnf : Nat → Int32) (vmkf : Nat → Int32) (vmmf : Nat → Int64) (vmknf : Nat → Int64) (vmikf : Nat → Int32) (vn : Int32) (u : Int32 × (Nat → Int32) × (Nat → Int64) × (Nat → Int32)) : va_W := [(vo, .inr (12, [.int u.1, .ref vmt, .int votp, .int vosz, .int volm, .int voto, .int vofr, .int vokd, .int vonu, .int vosg, .int vofa, .int vopl, .long vowd, .int votd, .ref vmn, .ref vmr, .ref vmk, .ref vms, .ref vma, .ref vmm, .ref vmrn, .ref vmkn, .ref vmik, .ref vmon, .int vosm, .int vohp, .ref vmw, .ref vmf, .ref vmb, .int vomb, .ref vmd, .ref vmc, .int vocm, .int voct, .int vocy, .ref vmx, .int votx, .int vose, .ref vml, .ref vmwr, .int voln, .int vohw, .ref vmno, .int vond, .int voon, .int vowi, .int votop])), (vmn, .inl (cy 0, 575, .inl vmnf)), (vmk, .inl (cy 0, 1150, .inl u.2.1)), (vmm, .inl (cy 1, 17, .inr (.inl vmmf))), (vmkn, .inl (cy 1, 34, .inr (.inl u.2.2.1))), (vmik, .inl (cy 2, 2, .inl u.2.2.2))]
theorem dX11_image_0 : decode cX11_image 0 = .ok (.aload_n 0, 1) := by decide +kernel
theorem dX11_image_1 : decode cX11_image 1 = .ok (.iconst 0, 1) := by decide +kernel
theorem dX11_image_2 : decode cX11_image 2 = .ok (.putfield 1, 3) := by decide +kernel
theorem dX11_image_5 : decode cX11_image 5 = .ok (.iload_n 1, 1) := by decide +kernel
theorem dX11_image_6 : decode cX11_image 6 = .ok (.iconst 0, 1) := by decide +kernel
theorem dX11_image_7 : decode cX11_image 7 = .ok (.iconst 1, 1) := by decide +kernel
theorem dX11_image_8 : decode cX11_image 8 = .ok (.invokestatic 75, 3) := by decide +kernel
theorem dX11_image_11 : decode cX11_image 11 = .ok (.ifCond .ne 5, 3) := by decide +kernel
theorem dX11_image_14 : decode cX11_image 14 = .ok (.iconst 0, 1) := by decide +kernel
theorem dX11_image_15 : decode cX11_image 15 = .ok (.ireturn, 1) := by decide +kernel
theorem dX11_image_16 : decode cX11_image 16 = .ok (.iconst 0, 1) := by decide +kernel
theorem dX11_image_17 : decode cX11_image 17 = .ok (.istore_n 2, 1) := by decide +kernel
theorem dX11_image_18 : decode cX11_image 18 = .ok (.iload_n 2, 1) := by decide +kernel
theorem dX11_image_19 : decode cX11_image 19 = .ok (.sipush 575, 3) := by decide +kernel
theorem dX11_image_22 : decode cX11_image 22 = .ok (.if_icmp .ge 27, 3) := by decide +kernel
theorem dX11_image_49 : decode cX11_image 49 = .ok (.iconst 0, 1) := by decide +kernel
theorem dX11_image_50 : decode cX11_image 50 = .ok (.istore_n 2, 1) := by decide +kernel
theorem dX11_image_51 : decode cX11_image 51 = .ok (.iload_n 2, 1) := by decide +kernel
theorem dX11_image_52 : decode cX11_image 52 = .ok (.bipush 17, 2) := by decide +kernel
theorem dX11_image_54 : decode cX11_image 54 = .ok (.if_icmp .ge 26, 3) := by decide +kernel
theorem dX11_image_80 : decode cX11_image 80 = .ok (.aload_n 0, 1) := by decide +kernel
theorem dX11_image_81 : decode cX11_image 81 = .ok (.getfield 123, 3) := by decide +kernel
theorem t1464 : Cond.fieldLink RX11 123 "LikenessPoundModel" "isKept" "[Z" ∈ GW := gw_mem 1578 (by decide +kernel) (by decide +kernel)
theorem gf_X11_123 {p : Program} {l : Launch} {e : Env} {R : Room} {s : State} {m : MethodId} {args : Array Value} {below : List Frame} {meth : Method} {c : Code} {H : Heap} {locs : List Loc} {cells slots : Nat} {Q : State → Prop} {cc : ByteArray} {pc : Nat} {ls : Array Slot} {rest : List Value} {D : va_G} {a : Nat} {tys : List (ClassId × FieldType)} {ws : va_W} (hx : p.tables.exec = Jvm.exec) (hb : c.code = cc) (hts : ∀ w ∈ GW, w.before args s = true) (hown : s.vm.findClass RX11 = some m.cls) (hK : va_K D vwCl tys s) (hP : va_P D vwCl ws H) (q0 : Nat) {fs : List Value} (he : ws[q0]? = some (a, .inr (12, fs))) {v : Value} (hv : fs[22]? = some v) (hdg : decode cc pc = .ok (.getfield 123, 3)) (kk : W p l e R s m args below meth c H locs cells slots Q (F0 m (pc + 3) ls (v :: rest))) : W p l e R s m args below meth c H locs cells slots Q (F0 m pc ls (.ref a :: rest)) := va_get (C := RX11) (T := TX11) (N := 47) (ci := 12) hx hb hts inX11 hown hK hP q0 he rfl 22 (by decide) (hts _ t1464) (fun _ h => h) hv hdg kk
theorem dX11_image_84 : decode cX11_image 84 = .ok (.iload_n 1, 1) := by decide +kernel
theorem dX11_image_85 : decode cX11_image 85 = .ok (.iconst 1, 1) := by decide +kernel
theorem dX11_image_86 : decode cX11_image 86 = .ok (.bastore, 1) := by decide +kernel
theorem dX11_image_87 : decode cX11_image 87 = .ok (.iconst 1, 1) := by decide +kernel
theorem dX11_image_88 : decode cX11_image 88 = .ok (.ireturn, 1) := by decide +kernel
theorem dX11_image_57 : decode cX11_image 57 = .ok (.aload_n 0, 1) := by decide +kernel
theorem dX11_image_58 : decode cX11_image 58 = .ok (.getfield 120, 3) := by decide +kernel
theorem t1463 : Cond.fieldLink RX11 120 "LikenessPoundModel" "keptName" "[J" ∈ GW := gw_mem 1577 (by decide +kernel) (by decide +kernel)
theorem gf_X11_120 {p : Program} {l : Launch} {e : Env} {R : Room} {s : State} {m : MethodId} {args : Array Value} {below : List Frame} {meth : Method} {c : Code} {H : Heap} {locs : List Loc} {cells slots : Nat} {Q : State → Prop} {cc : ByteArray} {pc : Nat} {ls : Array Slot} {rest : List Value} {D : va_G} {a : Nat} {tys : List (ClassId × FieldType)} {ws : va_W} (hx : p.tables.exec = Jvm.exec) (hb : c.code = cc) (hts : ∀ w ∈ GW, w.before args s = true) (hown : s.vm.findClass RX11 = some m.cls) (hK : va_K D vwCl tys s) (hP : va_P D vwCl ws H) (q0 : Nat) {fs : List Value} (he : ws[q0]? = some (a, .inr (12, fs))) {v : Value} (hv : fs[21]? = some v) (hdg : decode cc pc = .ok (.getfield 120, 3)) (kk : W p l e R s m args below meth c H locs cells slots Q (F0 m (pc + 3) ls (v :: rest))) : W p l e R s m args below meth c H locs cells slots Q (F0 m pc ls (.ref a :: rest)) := va_get (C := RX11) (T := TX11) (N := 47) (ci := 12) hx hb hts inX11 hown hK hP q0 he rfl 21 (by decide) (hts _ t1463) (fun _ h => h) hv hdg kk
theorem dX11_image_61 : decode cX11_image 61 = .ok (.bipush 17, 2) := by decide +kernel
theorem dX11_image_63 : decode cX11_image 63 = .ok (.iload_n 1, 1) := by decide +kernel
theorem dX11_image_64 : decode cX11_image 64 = .ok (.imul, 1) := by decide +kernel
theorem dX11_image_65 : decode cX11_image 65 = .ok (.iload_n 2, 1) := by decide +kernel
theorem dX11_image_66 : decode cX11_image 66 = .ok (.iadd, 1) := by decide +kernel
theorem dX11_image_67 : decode cX11_image 67 = .ok (.aload_n 0, 1) := by decide +kernel
theorem dX11_image_68 : decode cX11_image 68 = .ok (.getfield 113, 3) := by decide +kernel
theorem dX11_image_71 : decode cX11_image 71 = .ok (.iload_n 2, 1) := by decide +kernel
theorem dX11_image_72 : decode cX11_image 72 = .ok (.laload, 1) := by decide +kernel
theorem dX11_image_73 : decode cX11_image 73 = .ok (.lastore, 1) := by decide +kernel
theorem dX11_image_74 : decode cX11_image 74 = .ok (.iinc 2 1, 3) := by decide +kernel
theorem dX11_image_77 : decode cX11_image 77 = .ok (.goto (-26), 3) := by decide +kernel
theorem dX11_image_25 : decode cX11_image 25 = .ok (.aload_n 0, 1) := by decide +kernel
theorem dX11_image_26 : decode cX11_image 26 = .ok (.getfield 104, 3) := by decide +kernel
theorem t1458 : Cond.fieldLink RX11 104 "LikenessPoundModel" "kept" "[I" ∈ GW := gw_mem 1572 (by decide +kernel) (by decide +kernel)
theorem gf_X11_104 {p : Program} {l : Launch} {e : Env} {R : Room} {s : State} {m : MethodId} {args : Array Value} {below : List Frame} {meth : Method} {c : Code} {H : Heap} {locs : List Loc} {cells slots : Nat} {Q : State → Prop} {cc : ByteArray} {pc : Nat} {ls : Array Slot} {rest : List Value} {D : va_G} {a : Nat} {tys : List (ClassId × FieldType)} {ws : va_W} (hx : p.tables.exec = Jvm.exec) (hb : c.code = cc) (hts : ∀ w ∈ GW, w.before args s = true) (hown : s.vm.findClass RX11 = some m.cls) (hK : va_K D vwCl tys s) (hP : va_P D vwCl ws H) (q0 : Nat) {fs : List Value} (he : ws[q0]? = some (a, .inr (12, fs))) {v : Value} (hv : fs[16]? = some v) (hdg : decode cc pc = .ok (.getfield 104, 3)) (kk : W p l e R s m args below meth c H locs cells slots Q (F0 m (pc + 3) ls (v :: rest))) : W p l e R s m args below meth c H locs cells slots Q (F0 m pc ls (.ref a :: rest)) := va_get (C := RX11) (T := TX11) (N := 47) (ci := 12) hx hb hts inX11 hown hK hP q0 he rfl 16 (by decide) (hts _ t1458) (fun _ h => h) hv hdg kk
theorem dX11_image_29 : decode cX11_image 29 = .ok (.sipush 575, 3) := by decide +kernel
theorem dX11_image_32 : decode cX11_image 32 = .ok (.iload_n 1, 1) := by decide +kernel
theorem dX11_image_33 : decode cX11_image 33 = .ok (.imul, 1) := by decide +kernel
theorem dX11_image_34 : decode cX11_image 34 = .ok (.iload_n 2, 1) := by decide +kernel
theorem dX11_image_35 : decode cX11_image 35 = .ok (.iadd, 1) := by decide +kernel
theorem dX11_image_36 : decode cX11_image 36 = .ok (.aload_n 0, 1) := by decide +kernel
theorem dX11_image_37 : decode cX11_image 37 = .ok (.getfield 98, 3) := by decide +kernel
theorem dX11_image_40 : decode cX11_image 40 = .ok (.iload_n 2, 1) := by decide +kernel
theorem dX11_image_41 : decode cX11_image 41 = .ok (.iaload, 1) := by decide +kernel
theorem dX11_image_42 : decode cX11_image 42 = .ok (.iastore, 1) := by decide +kernel
theorem dX11_image_43 : decode cX11_image 43 = .ok (.iinc 2 1, 3) := by decide +kernel
theorem dX11_image_46 : decode cX11_image 46 = .ok (.goto (-28), 3) := by decide +kernel
set_option maxHeartbeats 4000000 in
set_option maxRecDepth 100000 in
theorem m_image (l : Launch) (dC : Nat → ClassId) (dI : Nat → Nat → Nat) (cy : Nat → ClassId) (sz : Nat) (vnh : Nat → Int32) (vo : Nat) (voth : Int32) (vmt : Nat) (votp : Int32) (vosz : Int32) (volm : Int32) (voto : Int32) (vofr : Int32) (vokd : Int32) (vonu : Int32) (vosg : Int32) (vofa : Int32) (vopl : Int32) (vowd : Int64) (votd : Int32) (vmn : Nat) (vmr : Nat) (vmk : Nat) (vms : Nat) (vma : Nat) (vmm : Nat) (vmrn : Nat) (vmkn : Nat) (vmik : Nat) (vmon : Nat) (vosm : Int32) (vohp : Int32) (vmw : Nat) (vmf : Nat) (vmb : Nat) (vomb : Int32) (vmd : Nat) (vmc : Nat) (vocm : Int32) (voct : Int32) (vocy : Int32) (vmx : Nat) (votx : Int32) (vose : Int32) (vml : Nat) (vmwr : Nat) (voln : Int32) (vohw : Int32) (vmno : Nat) (vond : Int32) (voon : Int32) (vowi : Int32) (votop : Int32) (vmnf : Nat → Int32) (vmkf : Nat → Int32) (vmmf : Nat → Int64) (vmknf : Nat → Int64) (vmikf : Nat → Int32) (vn : Int32) (p_vmnf : NW vnh vmnf) (p_vmkf : KP vmkf) : Met l yX11_image (wl yX11_image cX11_image 3 (some .boolean)) ({ frames := 1, cells := 0, slots := 0, locals := 64 }) (Pw (dC, dI) vwCl cy [(vo, .inr (12, [.int voth, .ref vmt, .int votp, .int vosz, .int volm, .int voto, .int vofr, .int vokd, .int vonu, .int vosg, .int vofa, .int vopl, .long vowd, .int votd, .ref vmn, .ref vmr, .ref vmk, .ref vms, .ref vma, .ref vmm, .ref vmrn, .ref vmkn, .ref vmik, .ref vmon, .int vosm, .int vohp, .ref vmw, .ref vmf, .ref vmb, .int vomb, .ref vmd, .ref vmc, .int vocm, .int voct, .int vocy, .ref vmx, .int votx, .int vose, .ref vml, .ref vmwr, .int voln, .int vohw, .ref vmno, .int vond, .int voon, .int vowi, .int votop])), (vmn, .inl (cy 0, 575, .inl vmnf)), (vmk, .inl (cy 0, 1150, .inl vmkf)), (vmm, .inl (cy 1, 17, .inr (.inl vmmf))), (vmkn, .inl (cy 1, 34, .inr (.inl vmknf))), (vmik, .inl (cy 2, 2, .inl vmikf))] sz [.ref vo, .int vn] nE) (Qi (dC, dI) vwCl (fun (r : Int32) (u : Int32 × (Nat → Int32) × (Nat → Int64) × (Nat → Int32)) => ((r = 0 ∧ ((vn : Int32).toInt < 0 ∨ 1 < (vn : Int32).toInt)) ∨ (r = 1 ∧ 0 ≤ (vn : Int32).toInt ∧ (vn : Int32).toInt ≤ 1)) ∧ (KP u.2.1) ∧ (((((vn : Int32).toInt < 0 ∨ 1 < (vn : Int32).toInt) ∧ u.2.2.2 = vmikf) ∨ (0 ≤ (vn : Int32).toInt ∧ (vn : Int32).toInt ≤ 1 ∧ u.2.2.2 = upd vmikf (Int32.toNatClampNeg vn) 1))) ∧ (tkMI (vn : Int32).toInt vmnf vmmf vmkf vmknf u.2.1 u.2.2.1)) (O_m_image cy vnh vo voth vmt votp vosz volm voto vofr vokd vonu vosg vofa vopl vowd votd vmn vmr vmk vms vma vmm vmrn vmkn vmik vmon vosm vohp vmw vmf vmb vomb vmd vmc vocm voct vocy vmx votx vose vml vmwr voln vohw vmno vond voon vowi votop vmnf vmkf vmmf vmknf vmikf vn) (va_A [(vo, .inr (12, [.int voth, .ref vmt, .int votp, .int vosz, .int volm, .int voto, .int vofr, .int vokd, .int vonu, .int vosg, .int vofa, .int vopl, .long vowd, .int votd, .ref vmn, .ref vmr, .ref vmk, .ref vms, .ref vma, .ref vmm, .ref vmrn, .ref vmkn, .ref vmik, .ref vmon, .int vosm, .int vohp, .ref vmw, .ref vmf, .ref vmb, .int vomb, .ref vmd, .ref vmc, .int vocm, .int voct, .int vocy, .ref vmx, .int votx, .int vose, .ref vml, .ref vmwr, .int voln, .int vohw, .ref vmno, .int vond, .int voon, .int vowi, .int votop])), (vmn, .inl (cy 0, 575, .inl vmnf)), (vmk, .inl (cy 0, 1150, .inl vmkf)), (vmm, .inl (cy 1, 17, .inr (.inl vmmf))), (vmkn, .inl (cy 1, 34, .inr (.inl vmknf))), (vmik, .inl (cy 2, 2, .inl vmikf))] sz)) 0 0 (va_A [(vo, .inr (12, [.int voth, .ref vmt, .int votp, .int vosz, .int volm, .int voto, .int vofr, .int vokd, .int vonu, .int vosg, .int vofa, .int vopl, .long vowd, .int votd, .ref vmn, .ref vmr, .ref vmk, .ref vms, .ref vma, .ref vmm, .ref vmrn, .ref vmkn, .ref vmik, .ref vmon, .int vosm, .int vohp, .ref vmw, .ref vmf, .ref vmb, .int vomb, .ref vmd, .ref vmc, .int vocm, .int voct, .int vocy, .ref vmx, .int votx, .int vose, .ref vml, .ref vmwr, .int voln, .int vohw, .ref vmno, .int vond, .int voon, .int vowi, .int votop])), (vmn, .inl (cy 0, 575, .inl vmnf)), (vmk, .inl (cy 0, 1150, .inl vmkf)), (vmm, .inl (cy 1, 17, .inr (.inl vmmf))), (vmkn, .inl (cy 1, 34, .inr (.inl vmknf))), (vmik, .inl (cy 2, 2, .inl vmikf))] sz) := by
  refine mw (Qc := Qi (dC, dI) vwCl (fun (r : Int32) (u : Int32 × (Nat → Int32) × (Nat → Int64) × (Nat → Int32)) => ((r = 0 ∧ ((vn : Int32).toInt < 0 ∨ 1 < (vn : Int32).toInt)) ∨ (r = 1 ∧ 0 ≤ (vn : Int32).toInt ∧ (vn : Int32).toInt ≤ 1)) ∧ (KP u.2.1) ∧ (((((vn : Int32).toInt < 0 ∨ 1 < (vn : Int32).toInt) ∧ u.2.2.2 = vmikf) ∨ (0 ≤ (vn : Int32).toInt ∧ (vn : Int32).toInt ≤ 1 ∧ u.2.2.2 = upd vmikf (Int32.toNatClampNeg vn) 1))) ∧ (tkMI (vn : Int32).toInt vmnf vmmf vmkf vmknf u.2.1 u.2.2.1)) (O_m_image cy vnh vo voth vmt votp vosz volm voto vofr vokd vonu vosg vofa vopl vowd votd vmn vmr vmk vms vma vmm vmrn vmkn vmik vmon vosm vohp vmw vmf vmb vomb vmd vmc vocm voct vocy vmx votx vose vml vmwr voln vohw vmno vond voon vowi votop vmnf vmkf vmmf vmknf vmikf vn)) RX11 rfl (by decide +kernel) (Nat.le_of_ble_eq_true rfl) ?_
  intro p e s m below meth c A hx hb hr hlocks av9 hav hts hown hnm hml hK hP hD hA hS hE hAe Q9 hQ9 ls hl
  have hl : lv_has ls 3 [(0, .ref vo), (1, .int vn)] := hl
  refine lv_aload_n hx hb dX11_image_0 rfl (lv_at hl 0 rfl) ?_
  refine lv_iconst (v := 0) hx hb dX11_image_1 (by decide) ?_
  refine pf_X11_1 hx hb hts hown hK hP hD hS 0 rfl rfl rfl (Nat.le_of_ble_eq_true rfl) dX11_image_2 (fun H locs hP hD hS => ?_)
  have hP : va_P (dC, dI) vwCl [(vo, .inr (12, [.int 0, .ref vmt, .int votp, .int vosz, .int volm, .int voto, .int vofr, .int vokd, .int vonu, .int vosg, .int vofa, .int vopl, .long vowd, .int votd, .ref vmn, .ref vmr, .ref vmk, .ref vms, .ref vma, .ref vmm, .ref vmrn, .ref vmkn, .ref vmik, .ref vmon, .int vosm, .int vohp, .ref vmw, .ref vmf, .ref vmb, .int vomb, .ref vmd, .ref vmc, .int vocm, .int voct, .int vocy, .ref vmx, .int votx, .int vose, .ref vml, .ref vmwr, .int voln, .int vohw, .ref vmno, .int vond, .int voon, .int vowi, .int votop])), (vmn, .inl (cy 0, 575, .inl vmnf)), (vmk, .inl (cy 0, 1150, .inl vmkf)), (vmm, .inl (cy 1, 17, .inr (.inl vmmf))), (vmkn, .inl (cy 1, 34, .inr (.inl vmknf))), (vmik, .inl (cy 2, 2, .inl vmikf))] H := hP
  have hD : va_D A [(vo, .inr (12, [.int 0, .ref vmt, .int votp, .int vosz, .int volm, .int voto, .int vofr, .int vokd, .int vonu, .int vosg, .int vofa, .int vopl, .long vowd, .int votd, .ref vmn, .ref vmr, .ref vmk, .ref vms, .ref vma, .ref vmm, .ref vmrn, .ref vmkn, .ref vmik, .ref vmon, .int vosm, .int vohp, .ref vmw, .ref vmf, .ref vmb, .int vomb, .ref vmd, .ref vmc, .int vocm, .int voct, .int vocy, .ref vmx, .int votx, .int vose, .ref vml, .ref vmwr, .int voln, .int vohw, .ref vmno, .int vond, .int voon, .int vowi, .int votop])), (vmn, .inl (cy 0, 575, .inl vmnf)), (vmk, .inl (cy 0, 1150, .inl vmkf)), (vmm, .inl (cy 1, 17, .inr (.inl vmmf))), (vmkn, .inl (cy 1, 34, .inr (.inl vmknf))), (vmik, .inl (cy 2, 2, .inl vmikf))] := hD
  refine lv_iload_n hx hb dX11_image_5 rfl (lv_at hl 1 rfl) ?_
  refine lv_iconst (v := 0) hx hb dX11_image_6 (by decide) ?_
  refine lv_iconst (v := 1) hx hb dX11_image_7 (by decide) ?_
  have k_0 : (0 : Int32).toInt = 0 := by decide
  have k_1 : (1 : Int32).toInt = 1 := by decide
  refine jr_i (rSr (As := [.int vn, .int 0, .int 1]) (rest := []) ⟨hx, hb, hml, hown, hts⟩ (m_isIn l dC dI cy vn 0 1 ) (cw_X11_75 hts rfl rfl ⟨Nat.le_of_ble_eq_true rfl, Nat.le_of_ble_eq_true rfl⟩) hP hK [] rfl rfl hl.1 rfl (Nat.le_of_ble_eq_true rfl) dX11_image_8 ⟨Nat.le_of_ble_eq_true rfl, Nat.le_of_ble_eq_true rfl⟩) hP hS (fun r_1 H locs hp_2 hP hS => ?_)
  have hp_2 : ((r_1 = 0 ∧ ((vn : Int32).toInt < (0 : Int32).toInt ∨ (1 : Int32).toInt < (vn : Int32).toInt)) ∨ (r_1 = 1 ∧ (0 : Int32).toInt ≤ (vn : Int32).toInt ∧ (vn : Int32).toInt ≤ (1 : Int32).toInt)) := hp_2
  have q_3 := hp_2
  rcases q_3 with ⟨aq_3, f0q_3⟩ | ⟨aq_3, f0q_3, f1q_3⟩
  · skip
    refine as_i 0 aq_3 ?_
    refine lv_if_ne (tgt := 16) hx hb dX11_image_11 (by decide) (fun c9 => absurd c9 (by decide)) (fun _ => ?_)
    refine lv_iconst (v := 0) hx hb dX11_image_14 (by decide) ?_
    rw [hQ9]
    exact re_z ((0 : Int32), vmkf, vmknf, vmikf) hx hb hr hlocks (Or.inl rfl) ⟨(show ((0 : Int32) = 0 ∧ ((vn : Int32).toInt < 0 ∨ 1 < (vn : Int32).toInt)) ∨ ((0 : Int32) = 1 ∧ 0 ≤ (vn : Int32).toInt ∧ (vn : Int32).toInt ≤ 1) from (Or.inl ⟨rfl, by omega⟩)), (show KP vmkf from p_vmkf), (show ((((vn : Int32).toInt < 0 ∨ 1 < (vn : Int32).toInt) ∧ vmikf = vmikf) ∨ (0 ≤ (vn : Int32).toInt ∧ (vn : Int32).toInt ≤ 1 ∧ vmikf = upd vmikf (Int32.toNatClampNeg vn) 1)) from (Or.inl ⟨by omega, rfl⟩)), (show tkMI (vn : Int32).toInt vmnf vmmf vmkf vmknf vmkf vmknf from (Or.inl ⟨by omega, rfl, rfl⟩))⟩ (hP.sub [0, 1, 2, 3, 4, 5] rfl) (hD.sub [0, 1, 2, 3, 4, 5] rfl rfl) hS dX11_image_15
  · skip
    refine as_i 1 aq_3 ?_
    refine lv_if_ne (tgt := 16) hx hb dX11_image_11 (by decide) (fun _ => ?_) (fun c9 => absurd c9 (by decide))
    refine lv_iconst (v := 0) hx hb dX11_image_16 (by decide) ?_
    refine lv_istore_n (lv' := [(2, .int 0), (0, .ref vo), (1, .int vn)]) hx hb dX11_image_17 rfl hl (by decide) rfl (fun ls hl => ?_)
    have loop4 : ∀ (n4 : Nat) (x_5 : Int32) (g_6 : Nat → Int32), (0 ≤ x_5.toInt ∧ x_5.toInt ≤ 575) → (CP g_6 vmkf vmnf (575 * vn.toInt) (0) x_5.toInt) → 575 - x_5.toInt < (n4 : Int) → ∀ (H : Heap) (locs : List Loc), va_P (dC, dI) vwCl [(vo, .inr (12, [.int 0, .ref vmt, .int votp, .int vosz, .int volm, .int voto, .int vofr, .int vokd, .int vonu, .int vosg, .int vofa, .int vopl, .long vowd, .int votd, .ref vmn, .ref vmr, .ref vmk, .ref vms, .ref vma, .ref vmm, .ref vmrn, .ref vmkn, .ref vmik, .ref vmon, .int vosm, .int vohp, .ref vmw, .ref vmf, .ref vmb, .int vomb, .ref vmd, .ref vmc, .int vocm, .int voct, .int vocy, .ref vmx, .int votx, .int vose, .ref vml, .ref vmwr, .int voln, .int vohw, .ref vmno, .int vond, .int voon, .int vowi, .int votop])), (vmn, .inl (cy 0, 575, .inl vmnf)), (vmk, .inl (cy 0, 1150, .inl g_6)), (vmm, .inl (cy 1, 17, .inr (.inl vmmf))), (vmkn, .inl (cy 1, 34, .inr (.inl vmknf))), (vmik, .inl (cy 2, 2, .inl vmikf))] H → va_D A [(vo, .inr (12, [.int 0, .ref vmt, .int votp, .int vosz, .int volm, .int voto, .int vofr, .int vokd, .int vonu, .int vosg, .int vofa, .int vopl, .long vowd, .int votd, .ref vmn, .ref vmr, .ref vmk, .ref vms, .ref vma, .ref vmm, .ref vmrn, .ref vmkn, .ref vmik, .ref vmon, .int vosm, .int vohp, .ref vmw, .ref vmf, .ref vmb, .int vomb, .ref vmd, .ref vmc, .int vocm, .int voct, .int vocy, .ref vmx, .int votx, .int vose, .ref vml, .ref vmwr, .int voln, .int vohw, .ref vmno, .int vond, .int voon, .int vowi, .int votop])), (vmn, .inl (cy 0, 575, .inl vmnf)), (vmk, .inl (cy 0, 1150, .inl g_6)), (vmm, .inl (cy 1, 17, .inr (.inl vmmf))), (vmkn, .inl (cy 1, 34, .inr (.inl vmknf))), (vmik, .inl (cy 2, 2, .inl vmikf))] → va_S A s.heap H locs → ∀ ls : Array Slot, lv_has ls 3 [(2, .int x_5), (0, .ref vo), (1, .int vn)] → W p l e ({ frames := 1, cells := 0, slots := 0, locals := 64 }) s m av9 below meth c H locs 0 0 Q9 (F0 m 18 ls []) := by
      intro n4
      induction n4 with
      | zero =>
        intro x_5 g_6 bx_5 v4_0 hn4 H locs hP hD hS ls hl
        exfalso; omega
      | succ n4 ih4 =>
        intro x_5 g_6 bx_5 v4_0 hn4 H locs hP hD hS ls hl
        refine lv_iload_n hx hb dX11_image_18 rfl (lv_at hl 0 rfl) ?_
        refine lv_sipush (v := 575) hx hb dX11_image_19 (by decide) ?_
        have k_575 : (575 : Int32).toInt = 575 := by decide
        refine lv_icmp_ge (tgt := 49) hx hb dX11_image_22 (by decide) (fun c_7 => ?_) (fun c_7 => ?_)
        · skip
          have c_7 : (575 : Int32).toInt ≤ x_5.toInt := i_le.mp c_7
          have w_g_6 : KP g_6 := CP.img v4_0 (by omega) ⟨by omega, by omega⟩ p_vmkf p_vmnf
          have hcp9 : CP g_6 vmkf vmnf (575 * vn.toInt) (0) 575 := by have h9 := v4_0; rw [show x_5.toInt = 575 by omega] at h9; exact h9
          refine lv_iconst (v := 0) hx hb dX11_image_49 (by decide) ?_
          refine lv_istore_n (lv' := [(2, .int 0), (0, .ref vo), (1, .int vn)]) hx hb dX11_image_50 rfl hl (by decide) rfl (fun ls hl => ?_)
          have loop8 : ∀ (n8 : Nat) (x_9 : Int32) (g_10 : Nat → Int64), (0 ≤ x_9.toInt ∧ x_9.toInt ≤ 17) → (CPL g_10 vmknf vmmf (17 * vn.toInt) (0) x_9.toInt) → 17 - x_9.toInt < (n8 : Int) → ∀ (H : Heap) (locs : List Loc), va_P (dC, dI) vwCl [(vo, .inr (12, [.int 0, .ref vmt, .int votp, .int vosz, .int volm, .int voto, .int vofr, .int vokd, .int vonu, .int vosg, .int vofa, .int vopl, .long vowd, .int votd, .ref vmn, .ref vmr, .ref vmk, .ref vms, .ref vma, .ref vmm, .ref vmrn, .ref vmkn, .ref vmik, .ref vmon, .int vosm, .int vohp, .ref vmw, .ref vmf, .ref vmb, .int vomb, .ref vmd, .ref vmc, .int vocm, .int voct, .int vocy, .ref vmx, .int votx, .int vose, .ref vml, .ref vmwr, .int voln, .int vohw, .ref vmno, .int vond, .int voon, .int vowi, .int votop])), (vmn, .inl (cy 0, 575, .inl vmnf)), (vmk, .inl (cy 0, 1150, .inl g_6)), (vmm, .inl (cy 1, 17, .inr (.inl vmmf))), (vmkn, .inl (cy 1, 34, .inr (.inl g_10))), (vmik, .inl (cy 2, 2, .inl vmikf))] H → va_D A [(vo, .inr (12, [.int 0, .ref vmt, .int votp, .int vosz, .int volm, .int voto, .int vofr, .int vokd, .int vonu, .int vosg, .int vofa, .int vopl, .long vowd, .int votd, .ref vmn, .ref vmr, .ref vmk, .ref vms, .ref vma, .ref vmm, .ref vmrn, .ref vmkn, .ref vmik, .ref vmon, .int vosm, .int vohp, .ref vmw, .ref vmf, .ref vmb, .int vomb, .ref vmd, .ref vmc, .int vocm, .int voct, .int vocy, .ref vmx, .int votx, .int vose, .ref vml, .ref vmwr, .int voln, .int vohw, .ref vmno, .int vond, .int voon, .int vowi, .int votop])), (vmn, .inl (cy 0, 575, .inl vmnf)), (vmk, .inl (cy 0, 1150, .inl g_6)), (vmm, .inl (cy 1, 17, .inr (.inl vmmf))), (vmkn, .inl (cy 1, 34, .inr (.inl g_10))), (vmik, .inl (cy 2, 2, .inl vmikf))] → va_S A s.heap H locs → ∀ ls : Array Slot, lv_has ls 3 [(2, .int x_9), (0, .ref vo), (1, .int vn)] → W p l e ({ frames := 1, cells := 0, slots := 0, locals := 64 }) s m av9 below meth c H locs 0 0 Q9 (F0 m 51 ls []) := by
            intro n8
            induction n8 with
            | zero =>
              intro x_9 g_10 bx_9 v8_0 hn8 H locs hP hD hS ls hl
              exfalso; omega
            | succ n8 ih8 =>
              intro x_9 g_10 bx_9 v8_0 hn8 H locs hP hD hS ls hl
              refine lv_iload_n hx hb dX11_image_51 rfl (lv_at hl 0 rfl) ?_
              refine lv_bipush (v := 17) hx hb dX11_image_52 (by decide) ?_
              have k_17 : (17 : Int32).toInt = 17 := by decide
              refine lv_icmp_ge (tgt := 80) hx hb dX11_image_54 (by decide) (fun c_11 => ?_) (fun c_11 => ?_)
              · skip
                have c_11 : (17 : Int32).toInt ≤ x_9.toInt := i_le.mp c_11
                have hcl9 : CPL g_10 vmknf vmmf (17 * vn.toInt) (0) 17 := by have h9 := v8_0; rw [show x_9.toInt = 17 by omega] at h9; exact h9
                refine lv_aload_n hx hb dX11_image_80 rfl (lv_at hl 1 rfl) ?_
                refine gf_X11_123 hx hb hts hown hK hP 0 rfl rfl dX11_image_81 ?_
                refine lv_iload_n hx hb dX11_image_84 rfl (lv_at hl 2 rfl) ?_
                refine lv_iconst (v := 1) hx hb dX11_image_85 (by decide) ?_
                have hin_12 : vp_in vn 2 := vp_in_iff.mpr ⟨by omega, by omega⟩
                refine va_zast hx hb hK hP hD hS 5 2 rfl rfl hin_12 dX11_image_86 (fun H locs hP hD hS => ?_)
                obtain ⟨f_13, ef_13⟩ : ∃ z : Nat → Int32, z = upd vmikf (Int32.toNatClampNeg vn) (vp_nar .boolean 1) := ⟨_, rfl⟩
                have hP : va_P (dC, dI) vwCl [(vo, .inr (12, [.int 0, .ref vmt, .int votp, .int vosz, .int volm, .int voto, .int vofr, .int vokd, .int vonu, .int vosg, .int vofa, .int vopl, .long vowd, .int votd, .ref vmn, .ref vmr, .ref vmk, .ref vms, .ref vma, .ref vmm, .ref vmrn, .ref vmkn, .ref vmik, .ref vmon, .int vosm, .int vohp, .ref vmw, .ref vmf, .ref vmb, .int vomb, .ref vmd, .ref vmc, .int vocm, .int voct, .int vocy, .ref vmx, .int votx, .int vose, .ref vml, .ref vmwr, .int voln, .int vohw, .ref vmno, .int vond, .int voon, .int vowi, .int votop])), (vmn, .inl (cy 0, 575, .inl vmnf)), (vmk, .inl (cy 0, 1150, .inl g_6)), (vmm, .inl (cy 1, 17, .inr (.inl vmmf))), (vmkn, .inl (cy 1, 34, .inr (.inl g_10))), (vmik, .inl (cy 2, 2, .inl f_13))] H := by rw [ef_13]; exact hP
                have hD : va_D A [(vo, .inr (12, [.int 0, .ref vmt, .int votp, .int vosz, .int volm, .int voto, .int vofr, .int vokd, .int vonu, .int vosg, .int vofa, .int vopl, .long vowd, .int votd, .ref vmn, .ref vmr, .ref vmk, .ref vms, .ref vma, .ref vmm, .ref vmrn, .ref vmkn, .ref vmik, .ref vmon, .int vosm, .int vohp, .ref vmw, .ref vmf, .ref vmb, .int vomb, .ref vmd, .ref vmc, .int vocm, .int voct, .int vocy, .ref vmx, .int votx, .int vose, .ref vml, .ref vmwr, .int voln, .int vohw, .ref vmno, .int vond, .int voon, .int vowi, .int votop])), (vmn, .inl (cy 0, 575, .inl vmnf)), (vmk, .inl (cy 0, 1150, .inl g_6)), (vmm, .inl (cy 1, 17, .inr (.inl vmmf))), (vmkn, .inl (cy 1, 34, .inr (.inl g_10))), (vmik, .inl (cy 2, 2, .inl f_13))] := by rw [ef_13]; exact hD
                refine lv_iconst (v := 1) hx hb dX11_image_87 (by decide) ?_
                rw [hQ9]
                exact re_z ((0 : Int32), g_6, g_10, f_13) hx hb hr hlocks (Or.inr rfl) ⟨(show ((1 : Int32) = 0 ∧ ((vn : Int32).toInt < 0 ∨ 1 < (vn : Int32).toInt)) ∨ ((1 : Int32) = 1 ∧ 0 ≤ (vn : Int32).toInt ∧ (vn : Int32).toInt ≤ 1) from (Or.inr (⟨rfl, by omega, by omega⟩))), (show KP g_6 from w_g_6), (show ((((vn : Int32).toInt < 0 ∨ 1 < (vn : Int32).toInt) ∧ f_13 = vmikf) ∨ (0 ≤ (vn : Int32).toInt ∧ (vn : Int32).toInt ≤ 1 ∧ f_13 = upd vmikf (Int32.toNatClampNeg vn) 1)) from (Or.inr ⟨by omega, by omega, ef_13⟩)), (show tkMI (vn : Int32).toInt vmnf vmmf vmkf vmknf g_6 g_10 from (Or.inr ⟨by omega, by omega, hcp9, hcl9⟩))⟩ (hP.sub [0, 1, 2, 3, 4, 5] rfl) (hD.sub [0, 1, 2, 3, 4, 5] rfl rfl) hS dX11_image_88
              · skip
                have c_11 : ¬ ((17 : Int32).toInt ≤ x_9.toInt) := fun h9 => c_11 (i_le.mpr h9)
                refine lv_aload_n hx hb dX11_image_57 rfl (lv_at hl 1 rfl) ?_
                refine gf_X11_120 hx hb hts hown hK hP 0 rfl rfl dX11_image_58 ?_
                refine lv_bipush (v := 17) hx hb dX11_image_61 (by decide) ?_
                refine lv_iload_n hx hb dX11_image_63 rfl (lv_at hl 2 rfl) ?_
                refine lv_imul hx hb dX11_image_64 ?_
                refine lv_topi (fun z_14 ez_14 => ?_)
                have bz_14 : z_14.toInt = vn.toInt * 17 := i_cmul k_17 ez_14 (by omega) (by omega)
                refine lv_iload_n hx hb dX11_image_65 rfl (lv_at hl 0 rfl) ?_
                refine lv_iadd hx hb dX11_image_66 ?_
                refine lv_topi (fun z_15 ez_15 => ?_)
                have bz_15 : z_15.toInt = z_14.toInt + x_9.toInt := i_add ez_15 (by omega) (by omega)
                refine lv_aload_n hx hb dX11_image_67 rfl (lv_at hl 1 rfl) ?_
                refine gf_X11_113 hx hb hts hown hK hP 0 rfl rfl dX11_image_68 ?_
                refine lv_iload_n hx hb dX11_image_71 rfl (lv_at hl 0 rfl) ?_
                have hin_16 : vp_in x_9 17 := vp_in_iff.mpr ⟨by omega, by omega⟩
                refine va_lald hx hb hK hP 3 1 rfl rfl hin_16 dX11_image_72 ?_
                refine lv_topl (fun y_17 ey_17 => ?_)
                have hin_18 : vp_in z_15 34 := vp_in_iff.mpr ⟨by omega, by omega⟩
                refine va_last hx hb hK hP hD hS 4 1 rfl rfl hin_18 dX11_image_73 (fun H locs hP hD hS => ?_)
                obtain ⟨f_19, ef_19⟩ : ∃ z : Nat → Int64, z = vp_updL g_10 (Int32.toNatClampNeg z_15) y_17 := ⟨_, rfl⟩
                have hP : va_P (dC, dI) vwCl [(vo, .inr (12, [.int 0, .ref vmt, .int votp, .int vosz, .int volm, .int voto, .int vofr, .int vokd, .int vonu, .int vosg, .int vofa, .int vopl, .long vowd, .int votd, .ref vmn, .ref vmr, .ref vmk, .ref vms, .ref vma, .ref vmm, .ref vmrn, .ref vmkn, .ref vmik, .ref vmon, .int vosm, .int vohp, .ref vmw, .ref vmf, .ref vmb, .int vomb, .ref vmd, .ref vmc, .int vocm, .int voct, .int vocy, .ref vmx, .int votx, .int vose, .ref vml, .ref vmwr, .int voln, .int vohw, .ref vmno, .int vond, .int voon, .int vowi, .int votop])), (vmn, .inl (cy 0, 575, .inl vmnf)), (vmk, .inl (cy 0, 1150, .inl g_6)), (vmm, .inl (cy 1, 17, .inr (.inl vmmf))), (vmkn, .inl (cy 1, 34, .inr (.inl f_19))), (vmik, .inl (cy 2, 2, .inl vmikf))] H := by rw [ef_19]; exact hP
                have hD : va_D A [(vo, .inr (12, [.int 0, .ref vmt, .int votp, .int vosz, .int volm, .int voto, .int vofr, .int vokd, .int vonu, .int vosg, .int vofa, .int vopl, .long vowd, .int votd, .ref vmn, .ref vmr, .ref vmk, .ref vms, .ref vma, .ref vmm, .ref vmrn, .ref vmkn, .ref vmik, .ref vmon, .int vosm, .int vohp, .ref vmw, .ref vmf, .ref vmb, .int vomb, .ref vmd, .ref vmc, .int vocm, .int voct, .int vocy, .ref vmx, .int votx, .int vose, .ref vml, .ref vmwr, .int voln, .int vohw, .ref vmno, .int vond, .int voon, .int vowi, .int votop])), (vmn, .inl (cy 0, 575, .inl vmnf)), (vmk, .inl (cy 0, 1150, .inl g_6)), (vmm, .inl (cy 1, 17, .inr (.inl vmmf))), (vmkn, .inl (cy 1, 34, .inr (.inl f_19))), (vmik, .inl (cy 2, 2, .inl vmikf))] := by rw [ef_19]; exact hD
                obtain ⟨z_20, ez_20⟩ : ∃ z : Int32, z = x_9 + 1 := ⟨_, rfl⟩
                have bz_20 : z_20.toInt = x_9.toInt + (1 : Int32).toInt := i_add ez_20 (by omega) (by omega)
                refine lv_iinc (v := z_20) (lv' := [(2, .int z_20), (0, .ref vo), (1, .int vn)]) hx hb dX11_image_74 hl (k := 0) rfl ez_20.symm (by decide) rfl (fun ls hl => ?_)
                refine lv_goto (tgt := 51) hx hb dX11_image_77 (by decide) ?_
                exact ih8 z_20 f_19 ⟨by omega, by omega⟩ (ef_19 ▸ CPL.step v8_0 (by omega) (by omega) (by omega) (by omega) (y := x_9) (by omega) ey_17 (by omega)) (by omega) _ _ (hP.sub [0, 1, 2, 3, 4, 5] rfl) (hD.sub [0, 1, 2, 3, 4, 5] rfl rfl) hS ls (lv_sub hl [0, 1, 2] rfl)
          exact loop8 ((17 - (0 : Int32).toInt).toNat + 1) 0 vmknf ⟨by omega, by omega⟩ (CPL.nil (by omega)) (by omega) _ _ hP hD hS ls (lv_sub hl [0, 1, 2] rfl)
        · skip
          have c_7 : ¬ ((575 : Int32).toInt ≤ x_5.toInt) := fun h9 => c_7 (i_le.mpr h9)
          refine lv_aload_n hx hb dX11_image_25 rfl (lv_at hl 1 rfl) ?_
          refine gf_X11_104 hx hb hts hown hK hP 0 rfl rfl dX11_image_26 ?_
          refine lv_sipush (v := 575) hx hb dX11_image_29 (by decide) ?_
          refine lv_iload_n hx hb dX11_image_32 rfl (lv_at hl 2 rfl) ?_
          refine lv_imul hx hb dX11_image_33 ?_
          refine lv_topi (fun z_21 ez_21 => ?_)
          have bz_21 : z_21.toInt = vn.toInt * 575 := i_cmul k_575 ez_21 (by omega) (by omega)
          refine lv_iload_n hx hb dX11_image_34 rfl (lv_at hl 0 rfl) ?_
          refine lv_iadd hx hb dX11_image_35 ?_
          refine lv_topi (fun z_22 ez_22 => ?_)
          have bz_22 : z_22.toInt = z_21.toInt + x_5.toInt := i_add ez_22 (by omega) (by omega)
          refine lv_aload_n hx hb dX11_image_36 rfl (lv_at hl 1 rfl) ?_
          refine gf_X11_98 hx hb hts hown hK hP 0 rfl rfl dX11_image_37 ?_
          refine lv_iload_n hx hb dX11_image_40 rfl (lv_at hl 0 rfl) ?_
          have hin_23 : vp_in x_5 575 := vp_in_iff.mpr ⟨by omega, by omega⟩
          refine va_iald hx hb hK hP 1 0 rfl rfl hin_23 dX11_image_41 ?_
          refine lv_topi (fun z_24 ez_24 => ?_)
          have hin_25 : vp_in z_22 1150 := vp_in_iff.mpr ⟨by omega, by omega⟩
          refine va_iast hx hb hK hP hD hS 2 0 rfl rfl hin_25 dX11_image_42 (fun H locs hP hD hS => ?_)
          obtain ⟨f_26, ef_26⟩ : ∃ z : Nat → Int32, z = upd g_6 (Int32.toNatClampNeg z_22) z_24 := ⟨_, rfl⟩
          have hP : va_P (dC, dI) vwCl [(vo, .inr (12, [.int 0, .ref vmt, .int votp, .int vosz, .int volm, .int voto, .int vofr, .int vokd, .int vonu, .int vosg, .int vofa, .int vopl, .long vowd, .int votd, .ref vmn, .ref vmr, .ref vmk, .ref vms, .ref vma, .ref vmm, .ref vmrn, .ref vmkn, .ref vmik, .ref vmon, .int vosm, .int vohp, .ref vmw, .ref vmf, .ref vmb, .int vomb, .ref vmd, .ref vmc, .int vocm, .int voct, .int vocy, .ref vmx, .int votx, .int vose, .ref vml, .ref vmwr, .int voln, .int vohw, .ref vmno, .int vond, .int voon, .int vowi, .int votop])), (vmn, .inl (cy 0, 575, .inl vmnf)), (vmk, .inl (cy 0, 1150, .inl f_26)), (vmm, .inl (cy 1, 17, .inr (.inl vmmf))), (vmkn, .inl (cy 1, 34, .inr (.inl vmknf))), (vmik, .inl (cy 2, 2, .inl vmikf))] H := by rw [ef_26]; exact hP
          have hD : va_D A [(vo, .inr (12, [.int 0, .ref vmt, .int votp, .int vosz, .int volm, .int voto, .int vofr, .int vokd, .int vonu, .int vosg, .int vofa, .int vopl, .long vowd, .int votd, .ref vmn, .ref vmr, .ref vmk, .ref vms, .ref vma, .ref vmm, .ref vmrn, .ref vmkn, .ref vmik, .ref vmon, .int vosm, .int vohp, .ref vmw, .ref vmf, .ref vmb, .int vomb, .ref vmd, .ref vmc, .int vocm, .int voct, .int vocy, .ref vmx, .int votx, .int vose, .ref vml, .ref vmwr, .int voln, .int vohw, .ref vmno, .int vond, .int voon, .int vowi, .int votop])), (vmn, .inl (cy 0, 575, .inl vmnf)), (vmk, .inl (cy 0, 1150, .inl f_26)), (vmm, .inl (cy 1, 17, .inr (.inl vmmf))), (vmkn, .inl (cy 1, 34, .inr (.inl vmknf))), (vmik, .inl (cy 2, 2, .inl vmikf))] := by rw [ef_26]; exact hD
          obtain ⟨z_27, ez_27⟩ : ∃ z : Int32, z = x_5 + 1 := ⟨_, rfl⟩
          have bz_27 : z_27.toInt = x_5.toInt + (1 : Int32).toInt := i_add ez_27 (by omega) (by omega)
          refine lv_iinc (v := z_27) (lv' := [(2, .int z_27), (0, .ref vo), (1, .int vn)]) hx hb dX11_image_43 hl (k := 0) rfl ez_27.symm (by decide) rfl (fun ls hl => ?_)
          refine lv_goto (tgt := 18) hx hb dX11_image_46 (by decide) ?_
          exact ih4 z_27 f_26 ⟨by omega, by omega⟩ (ef_26 ▸ CP.step v4_0 (by omega) (by decide) (by omega) (by omega) (y := x_5) (by omega) ez_24 (by omega)) (by omega) _ _ (hP.sub [0, 1, 2, 3, 4, 5] rfl) (hD.sub [0, 1, 2, 3, 4, 5] rfl rfl) hS ls (lv_sub hl [0, 1, 2] rfl)
    exact loop4 ((575 - (0 : Int32).toInt).toNat + 1) 0 vmkf ⟨by omega, by omega⟩ (CP.nil (by omega)) (by omega) _ _ hP hD hS ls (lv_sub hl [0, 1, 2] rfl)
abbrev cX11_restore : ByteArray := prog_13_method_130_code
def yX11_restore : MethodName := ⟨RX11, "restore", "(I)Z"⟩
theorem t2067 : Cond.code yX11_restore cX11_restore 3 (some .boolean) ∈ GW := gw_mem 2181 (by decide +kernel) (by decide +kernel)
abbrev O_m_restore (cy : Nat → ClassId) (vnh : Nat → Int32) (vo : Nat) (voth : Int32) (vmt : Nat) (votp : Int32) (vosz : Int32) (volm : Int32) (voto : Int32) (vofr : Int32) (vokd : Int32) (vonu : Int32) (vosg : Int32) (vofa : Int32) (vopl : Int32) (vowd : Int64) (votd : Int32) (vmn : Nat) (vmr : Nat) (vmk : Nat) (vms : Nat) (vma : Nat) (vmm : Nat) (vmrn : Nat) (vmkn : Nat) (vmik : Nat) (vmon : Nat) (vosm : Int32) (vohp : Int32) (vmw : Nat) (vmf : Nat) (vmb : Nat) (vomb : Int32) (vmd : Nat) (vmc : Nat) (vocm : Int32) (voct : Int32) (vocy : Int32) (vmx : Nat) (votx : Int32) (vose : Int32) (vml : Nat) (vmwr : Nat) (voln : Int32) (vohw : Int32) (vmno : Nat) (vond : Int32) (voon : Int32) (vowi : Int32) (votop : Int32) (vmnf : Nat → Int32) (vmkf : Nat → Int32) (vmmf : Nat → Int64) (vmknf : Nat → Int64) (vmikf : Nat → Int32) (vn : Int32) (u : Int32 × (Nat → Int32) × (Nat → Int64) × Int32) : va_W := [(vo, .inr (12, [.int u.1, .ref vmt, .int votp, .int vosz, .int volm, .int voto, .int vofr, .int vokd, .int vonu, .int vosg, .int vofa, .int vopl, .long vowd, .int votd, .ref vmn, .ref vmr, .ref vmk, .ref vms, .ref vma, .ref vmm, .ref vmrn, .ref vmkn, .ref vmik, .ref vmon, .int u.2.2.2, .int vohp, .ref vmw, .ref vmf, .ref vmb, .int vomb, .ref vmd, .ref vmc, .int vocm, .int voct, .int vocy, .ref vmx, .int votx, .int vose, .ref vml, .ref vmwr, .int voln, .int vohw, .ref vmno, .int vond, .int voon, .int vowi, .int votop])), (vmn, .inl (cy 0, 575, .inl u.2.1)), (vmk, .inl (cy 0, 1150, .inl vmkf)), (vmm, .inl (cy 1, 17, .inr (.inl u.2.2.1))), (vmkn, .inl (cy 1, 34, .inr (.inl vmknf))), (vmik, .inl (cy 2, 2, .inl vmikf))]
theorem dX11_restore_0 : decode cX11_restore 0 = .ok (.aload_n 0, 1) := by decide +kernel
theorem dX11_restore_1 : decode cX11_restore 1 = .ok (.iconst 0, 1) := by decide +kernel
theorem dX11_restore_2 : decode cX11_restore 2 = .ok (.putfield 1, 3) := by decide +kernel
theorem dX11_restore_5 : decode cX11_restore 5 = .ok (.iload_n 1, 1) := by decide +kernel
theorem dX11_restore_6 : decode cX11_restore 6 = .ok (.iconst 0, 1) := by decide +kernel
theorem dX11_restore_7 : decode cX11_restore 7 = .ok (.iconst 1, 1) := by decide +kernel
theorem dX11_restore_8 : decode cX11_restore 8 = .ok (.invokestatic 75, 3) := by decide +kernel
theorem dX11_restore_11 : decode cX11_restore 11 = .ok (.ifCond .eq 12, 3) := by decide +kernel
theorem dX11_restore_23 : decode cX11_restore 23 = .ok (.iconst 0, 1) := by decide +kernel
theorem dX11_restore_24 : decode cX11_restore 24 = .ok (.ireturn, 1) := by decide +kernel
theorem dX11_restore_14 : decode cX11_restore 14 = .ok (.aload_n 0, 1) := by decide +kernel
theorem dX11_restore_15 : decode cX11_restore 15 = .ok (.getfield 123, 3) := by decide +kernel
theorem dX11_restore_18 : decode cX11_restore 18 = .ok (.iload_n 1, 1) := by decide +kernel
theorem dX11_restore_19 : decode cX11_restore 19 = .ok (.baload, 1) := by decide +kernel
theorem dX11_restore_20 : decode cX11_restore 20 = .ok (.ifCond .ne 5, 3) := by decide +kernel
theorem dX11_restore_25 : decode cX11_restore 25 = .ok (.iconst 0, 1) := by decide +kernel
theorem dX11_restore_26 : decode cX11_restore 26 = .ok (.istore_n 2, 1) := by decide +kernel
theorem dX11_restore_27 : decode cX11_restore 27 = .ok (.iload_n 2, 1) := by decide +kernel
theorem dX11_restore_28 : decode cX11_restore 28 = .ok (.sipush 575, 3) := by decide +kernel
theorem dX11_restore_31 : decode cX11_restore 31 = .ok (.if_icmp .ge 27, 3) := by decide +kernel
theorem dX11_restore_58 : decode cX11_restore 58 = .ok (.iconst 0, 1) := by decide +kernel
theorem dX11_restore_59 : decode cX11_restore 59 = .ok (.istore_n 2, 1) := by decide +kernel
theorem dX11_restore_60 : decode cX11_restore 60 = .ok (.iload_n 2, 1) := by decide +kernel
theorem dX11_restore_61 : decode cX11_restore 61 = .ok (.bipush 17, 2) := by decide +kernel
theorem dX11_restore_63 : decode cX11_restore 63 = .ok (.if_icmp .ge 26, 3) := by decide +kernel
theorem dX11_restore_89 : decode cX11_restore 89 = .ok (.aload_n 0, 1) := by decide +kernel
theorem dX11_restore_90 : decode cX11_restore 90 = .ok (.iconst 0, 1) := by decide +kernel
theorem dX11_restore_91 : decode cX11_restore 91 = .ok (.putfield 225, 3) := by decide +kernel
theorem dX11_restore_94 : decode cX11_restore 94 = .ok (.iconst 1, 1) := by decide +kernel
theorem dX11_restore_95 : decode cX11_restore 95 = .ok (.ireturn, 1) := by decide +kernel
theorem dX11_restore_66 : decode cX11_restore 66 = .ok (.aload_n 0, 1) := by decide +kernel
theorem dX11_restore_67 : decode cX11_restore 67 = .ok (.getfield 113, 3) := by decide +kernel
theorem dX11_restore_70 : decode cX11_restore 70 = .ok (.iload_n 2, 1) := by decide +kernel
theorem dX11_restore_71 : decode cX11_restore 71 = .ok (.aload_n 0, 1) := by decide +kernel
theorem dX11_restore_72 : decode cX11_restore 72 = .ok (.getfield 120, 3) := by decide +kernel
theorem dX11_restore_75 : decode cX11_restore 75 = .ok (.bipush 17, 2) := by decide +kernel
theorem dX11_restore_77 : decode cX11_restore 77 = .ok (.iload_n 1, 1) := by decide +kernel
theorem dX11_restore_78 : decode cX11_restore 78 = .ok (.imul, 1) := by decide +kernel
theorem dX11_restore_79 : decode cX11_restore 79 = .ok (.iload_n 2, 1) := by decide +kernel
theorem dX11_restore_80 : decode cX11_restore 80 = .ok (.iadd, 1) := by decide +kernel
theorem dX11_restore_81 : decode cX11_restore 81 = .ok (.laload, 1) := by decide +kernel
theorem dX11_restore_82 : decode cX11_restore 82 = .ok (.lastore, 1) := by decide +kernel
theorem dX11_restore_83 : decode cX11_restore 83 = .ok (.iinc 2 1, 3) := by decide +kernel
theorem dX11_restore_86 : decode cX11_restore 86 = .ok (.goto (-26), 3) := by decide +kernel
theorem dX11_restore_34 : decode cX11_restore 34 = .ok (.aload_n 0, 1) := by decide +kernel
theorem dX11_restore_35 : decode cX11_restore 35 = .ok (.getfield 98, 3) := by decide +kernel
theorem dX11_restore_38 : decode cX11_restore 38 = .ok (.iload_n 2, 1) := by decide +kernel
theorem dX11_restore_39 : decode cX11_restore 39 = .ok (.aload_n 0, 1) := by decide +kernel
theorem dX11_restore_40 : decode cX11_restore 40 = .ok (.getfield 104, 3) := by decide +kernel
theorem dX11_restore_43 : decode cX11_restore 43 = .ok (.sipush 575, 3) := by decide +kernel
theorem dX11_restore_46 : decode cX11_restore 46 = .ok (.iload_n 1, 1) := by decide +kernel
theorem dX11_restore_47 : decode cX11_restore 47 = .ok (.imul, 1) := by decide +kernel
theorem dX11_restore_48 : decode cX11_restore 48 = .ok (.iload_n 2, 1) := by decide +kernel
theorem dX11_restore_49 : decode cX11_restore 49 = .ok (.iadd, 1) := by decide +kernel
theorem dX11_restore_50 : decode cX11_restore 50 = .ok (.iaload, 1) := by decide +kernel
theorem dX11_restore_51 : decode cX11_restore 51 = .ok (.iastore, 1) := by decide +kernel
theorem dX11_restore_52 : decode cX11_restore 52 = .ok (.iinc 2 1, 3) := by decide +kernel
theorem dX11_restore_55 : decode cX11_restore 55 = .ok (.goto (-28), 3) := by decide +kernel
set_option maxHeartbeats 4000000 in
set_option maxRecDepth 100000 in
theorem m_restore (l : Launch) (dC : Nat → ClassId) (dI : Nat → Nat → Nat) (cy : Nat → ClassId) (sz : Nat) (vnh : Nat → Int32) (vo : Nat) (voth : Int32) (vmt : Nat) (votp : Int32) (vosz : Int32) (volm : Int32) (voto : Int32) (vofr : Int32) (vokd : Int32) (vonu : Int32) (vosg : Int32) (vofa : Int32) (vopl : Int32) (vowd : Int64) (votd : Int32) (vmn : Nat) (vmr : Nat) (vmk : Nat) (vms : Nat) (vma : Nat) (vmm : Nat) (vmrn : Nat) (vmkn : Nat) (vmik : Nat) (vmon : Nat) (vosm : Int32) (vohp : Int32) (vmw : Nat) (vmf : Nat) (vmb : Nat) (vomb : Int32) (vmd : Nat) (vmc : Nat) (vocm : Int32) (voct : Int32) (vocy : Int32) (vmx : Nat) (votx : Int32) (vose : Int32) (vml : Nat) (vmwr : Nat) (voln : Int32) (vohw : Int32) (vmno : Nat) (vond : Int32) (voon : Int32) (vowi : Int32) (votop : Int32) (vmnf : Nat → Int32) (vmkf : Nat → Int32) (vmmf : Nat → Int64) (vmknf : Nat → Int64) (vmikf : Nat → Int32) (vn : Int32) (r_vosm : 0 ≤ (vosm : Int32).toInt ∧ (vosm : Int32).toInt ≤ 8) (p_vmnf : NW vnh vmnf) (p_vmkf : KP vmkf) : Met l yX11_restore (wl yX11_restore cX11_restore 3 (some .boolean)) ({ frames := 1, cells := 0, slots := 0, locals := 64 }) (Pw (dC, dI) vwCl cy [(vo, .inr (12, [.int voth, .ref vmt, .int votp, .int vosz, .int volm, .int voto, .int vofr, .int vokd, .int vonu, .int vosg, .int vofa, .int vopl, .long vowd, .int votd, .ref vmn, .ref vmr, .ref vmk, .ref vms, .ref vma, .ref vmm, .ref vmrn, .ref vmkn, .ref vmik, .ref vmon, .int vosm, .int vohp, .ref vmw, .ref vmf, .ref vmb, .int vomb, .ref vmd, .ref vmc, .int vocm, .int voct, .int vocy, .ref vmx, .int votx, .int vose, .ref vml, .ref vmwr, .int voln, .int vohw, .ref vmno, .int vond, .int voon, .int vowi, .int votop])), (vmn, .inl (cy 0, 575, .inl vmnf)), (vmk, .inl (cy 0, 1150, .inl vmkf)), (vmm, .inl (cy 1, 17, .inr (.inl vmmf))), (vmkn, .inl (cy 1, 34, .inr (.inl vmknf))), (vmik, .inl (cy 2, 2, .inl vmikf))] sz [.ref vo, .int vn] nE) (Qi (dC, dI) vwCl (fun (r : Int32) (u : Int32 × (Nat → Int32) × (Nat → Int64) × Int32) => ((r = 0 ∧ (((vn : Int32).toInt < 0 ∨ 1 < (vn : Int32).toInt) ∨ (vmikf (Int32.toNatClampNeg vn)).toInt = 0)) ∨ (r = 1 ∧ 0 ≤ (vn : Int32).toInt ∧ (vn : Int32).toInt ≤ 1 ∧ ¬ ((vmikf (Int32.toNatClampNeg vn)).toInt = 0))) ∧ (NW u.2.1 u.2.1) ∧ (0 ≤ (u.2.2.2 : Int32).toInt ∧ (u.2.2.2 : Int32).toInt ≤ 8) ∧ (tkMR (vn : Int32).toInt (vmikf (Int32.toNatClampNeg vn)).toInt vmnf vmmf vmkf vmknf u.2.1 u.2.2.1)) (O_m_restore cy vnh vo voth vmt votp vosz volm voto vofr vokd vonu vosg vofa vopl vowd votd vmn vmr vmk vms vma vmm vmrn vmkn vmik vmon vosm vohp vmw vmf vmb vomb vmd vmc vocm voct vocy vmx votx vose vml vmwr voln vohw vmno vond voon vowi votop vmnf vmkf vmmf vmknf vmikf vn) (va_A [(vo, .inr (12, [.int voth, .ref vmt, .int votp, .int vosz, .int volm, .int voto, .int vofr, .int vokd, .int vonu, .int vosg, .int vofa, .int vopl, .long vowd, .int votd, .ref vmn, .ref vmr, .ref vmk, .ref vms, .ref vma, .ref vmm, .ref vmrn, .ref vmkn, .ref vmik, .ref vmon, .int vosm, .int vohp, .ref vmw, .ref vmf, .ref vmb, .int vomb, .ref vmd, .ref vmc, .int vocm, .int voct, .int vocy, .ref vmx, .int votx, .int vose, .ref vml, .ref vmwr, .int voln, .int vohw, .ref vmno, .int vond, .int voon, .int vowi, .int votop])), (vmn, .inl (cy 0, 575, .inl vmnf)), (vmk, .inl (cy 0, 1150, .inl vmkf)), (vmm, .inl (cy 1, 17, .inr (.inl vmmf))), (vmkn, .inl (cy 1, 34, .inr (.inl vmknf))), (vmik, .inl (cy 2, 2, .inl vmikf))] sz)) 0 0 (va_A [(vo, .inr (12, [.int voth, .ref vmt, .int votp, .int vosz, .int volm, .int voto, .int vofr, .int vokd, .int vonu, .int vosg, .int vofa, .int vopl, .long vowd, .int votd, .ref vmn, .ref vmr, .ref vmk, .ref vms, .ref vma, .ref vmm, .ref vmrn, .ref vmkn, .ref vmik, .ref vmon, .int vosm, .int vohp, .ref vmw, .ref vmf, .ref vmb, .int vomb, .ref vmd, .ref vmc, .int vocm, .int voct, .int vocy, .ref vmx, .int votx, .int vose, .ref vml, .ref vmwr, .int voln, .int vohw, .ref vmno, .int vond, .int voon, .int vowi, .int votop])), (vmn, .inl (cy 0, 575, .inl vmnf)), (vmk, .inl (cy 0, 1150, .inl vmkf)), (vmm, .inl (cy 1, 17, .inr (.inl vmmf))), (vmkn, .inl (cy 1, 34, .inr (.inl vmknf))), (vmik, .inl (cy 2, 2, .inl vmikf))] sz) := by
  refine mw (Qc := Qi (dC, dI) vwCl (fun (r : Int32) (u : Int32 × (Nat → Int32) × (Nat → Int64) × Int32) => ((r = 0 ∧ (((vn : Int32).toInt < 0 ∨ 1 < (vn : Int32).toInt) ∨ (vmikf (Int32.toNatClampNeg vn)).toInt = 0)) ∨ (r = 1 ∧ 0 ≤ (vn : Int32).toInt ∧ (vn : Int32).toInt ≤ 1 ∧ ¬ ((vmikf (Int32.toNatClampNeg vn)).toInt = 0))) ∧ (NW u.2.1 u.2.1) ∧ (0 ≤ (u.2.2.2 : Int32).toInt ∧ (u.2.2.2 : Int32).toInt ≤ 8) ∧ (tkMR (vn : Int32).toInt (vmikf (Int32.toNatClampNeg vn)).toInt vmnf vmmf vmkf vmknf u.2.1 u.2.2.1)) (O_m_restore cy vnh vo voth vmt votp vosz volm voto vofr vokd vonu vosg vofa vopl vowd votd vmn vmr vmk vms vma vmm vmrn vmkn vmik vmon vosm vohp vmw vmf vmb vomb vmd vmc vocm voct vocy vmx votx vose vml vmwr voln vohw vmno vond voon vowi votop vmnf vmkf vmmf vmknf vmikf vn)) RX11 rfl (by decide +kernel) (Nat.le_of_ble_eq_true rfl) ?_
  intro p e s m below meth c A hx hb hr hlocks av9 hav hts hown hnm hml hK hP hD hA hS hE hAe Q9 hQ9 ls hl
  have hl : lv_has ls 3 [(0, .ref vo), (1, .int vn)] := hl
  refine lv_aload_n hx hb dX11_restore_0 rfl (lv_at hl 0 rfl) ?_
  refine lv_iconst (v := 0) hx hb dX11_restore_1 (by decide) ?_
  refine pf_X11_1 hx hb hts hown hK hP hD hS 0 rfl rfl rfl (Nat.le_of_ble_eq_true rfl) dX11_restore_2 (fun H locs hP hD hS => ?_)
  have hP : va_P (dC, dI) vwCl [(vo, .inr (12, [.int 0, .ref vmt, .int votp, .int vosz, .int volm, .int voto, .int vofr, .int vokd, .int vonu, .int vosg, .int vofa, .int vopl, .long vowd, .int votd, .ref vmn, .ref vmr, .ref vmk, .ref vms, .ref vma, .ref vmm, .ref vmrn, .ref vmkn, .ref vmik, .ref vmon, .int vosm, .int vohp, .ref vmw, .ref vmf, .ref vmb, .int vomb, .ref vmd, .ref vmc, .int vocm, .int voct, .int vocy, .ref vmx, .int votx, .int vose, .ref vml, .ref vmwr, .int voln, .int vohw, .ref vmno, .int vond, .int voon, .int vowi, .int votop])), (vmn, .inl (cy 0, 575, .inl vmnf)), (vmk, .inl (cy 0, 1150, .inl vmkf)), (vmm, .inl (cy 1, 17, .inr (.inl vmmf))), (vmkn, .inl (cy 1, 34, .inr (.inl vmknf))), (vmik, .inl (cy 2, 2, .inl vmikf))] H := hP
  have hD : va_D A [(vo, .inr (12, [.int 0, .ref vmt, .int votp, .int vosz, .int volm, .int voto, .int vofr, .int vokd, .int vonu, .int vosg, .int vofa, .int vopl, .long vowd, .int votd, .ref vmn, .ref vmr, .ref vmk, .ref vms, .ref vma, .ref vmm, .ref vmrn, .ref vmkn, .ref vmik, .ref vmon, .int vosm, .int vohp, .ref vmw, .ref vmf, .ref vmb, .int vomb, .ref vmd, .ref vmc, .int vocm, .int voct, .int vocy, .ref vmx, .int votx, .int vose, .ref vml, .ref vmwr, .int voln, .int vohw, .ref vmno, .int vond, .int voon, .int vowi, .int votop])), (vmn, .inl (cy 0, 575, .inl vmnf)), (vmk, .inl (cy 0, 1150, .inl vmkf)), (vmm, .inl (cy 1, 17, .inr (.inl vmmf))), (vmkn, .inl (cy 1, 34, .inr (.inl vmknf))), (vmik, .inl (cy 2, 2, .inl vmikf))] := hD
  refine lv_iload_n hx hb dX11_restore_5 rfl (lv_at hl 1 rfl) ?_
  refine lv_iconst (v := 0) hx hb dX11_restore_6 (by decide) ?_
  refine lv_iconst (v := 1) hx hb dX11_restore_7 (by decide) ?_
  have k_0 : (0 : Int32).toInt = 0 := by decide
  have k_1 : (1 : Int32).toInt = 1 := by decide
  refine jr_i (rSr (As := [.int vn, .int 0, .int 1]) (rest := []) ⟨hx, hb, hml, hown, hts⟩ (m_isIn l dC dI cy vn 0 1 ) (cw_X11_75 hts rfl rfl ⟨Nat.le_of_ble_eq_true rfl, Nat.le_of_ble_eq_true rfl⟩) hP hK [] rfl rfl hl.1 rfl (Nat.le_of_ble_eq_true rfl) dX11_restore_8 ⟨Nat.le_of_ble_eq_true rfl, Nat.le_of_ble_eq_true rfl⟩) hP hS (fun r_1 H locs hp_2 hP hS => ?_)
  have hp_2 : ((r_1 = 0 ∧ ((vn : Int32).toInt < (0 : Int32).toInt ∨ (1 : Int32).toInt < (vn : Int32).toInt)) ∨ (r_1 = 1 ∧ (0 : Int32).toInt ≤ (vn : Int32).toInt ∧ (vn : Int32).toInt ≤ (1 : Int32).toInt)) := hp_2
  have q_3 := hp_2
  rcases q_3 with ⟨aq_3, f0q_3⟩ | ⟨aq_3, f0q_3, f1q_3⟩
  · skip
    refine as_i 0 aq_3 ?_
    refine lv_if_eq (tgt := 23) hx hb dX11_restore_11 (by decide) (fun _ => ?_) (fun c9 => absurd (by decide) c9)
    refine lv_iconst (v := 0) hx hb dX11_restore_23 (by decide) ?_
    rw [hQ9]
    exact re_z ((0 : Int32), vmnf, vmmf, vosm) hx hb hr hlocks (Or.inl rfl) ⟨(show ((0 : Int32) = 0 ∧ (((vn : Int32).toInt < 0 ∨ 1 < (vn : Int32).toInt) ∨ (vmikf (Int32.toNatClampNeg vn)).toInt = 0)) ∨ ((0 : Int32) = 1 ∧ 0 ≤ (vn : Int32).toInt ∧ (vn : Int32).toInt ≤ 1 ∧ ¬ ((vmikf (Int32.toNatClampNeg vn)).toInt = 0)) from (Or.inl ⟨rfl, by omega⟩)), (show NW vmnf vmnf from (p_vmnf.self)), (show 0 ≤ (vosm : Int32).toInt ∧ (vosm : Int32).toInt ≤ 8 from ⟨by omega, by omega⟩), (show tkMR (vn : Int32).toInt (vmikf (Int32.toNatClampNeg vn)).toInt vmnf vmmf vmkf vmknf vmnf vmmf from (Or.inl ⟨by omega, rfl, rfl⟩))⟩ (hP.sub [0, 1, 2, 3, 4, 5] rfl) (hD.sub [0, 1, 2, 3, 4, 5] rfl rfl) hS dX11_restore_24
  · skip
    refine as_i 1 aq_3 ?_
    refine lv_if_eq (tgt := 23) hx hb dX11_restore_11 (by decide) (fun c9 => absurd c9 (by decide)) (fun _ => ?_)
    refine lv_aload_n hx hb dX11_restore_14 rfl (lv_at hl 0 rfl) ?_
    refine gf_X11_123 hx hb hts hown hK hP 0 rfl rfl dX11_restore_15 ?_
    refine lv_iload_n hx hb dX11_restore_18 rfl (lv_at hl 1 rfl) ?_
    have hin_4 : vp_in vn 2 := vp_in_iff.mpr ⟨by omega, by omega⟩
    refine va_zald hx hb hK hP 5 2 rfl rfl hin_4 dX11_restore_19 ?_
    refine lv_topi (fun z_5 ez_5 => ?_)
    have tz_5 : z_5.toInt = (vmikf (Int32.toNatClampNeg vn)).toInt := by rw [ez_5]
    refine lv_if_ne (tgt := 25) hx hb dX11_restore_20 (by decide) (fun c_6 => ?_) (fun c_6 => ?_)
    · skip
      have c_6 : ¬ (z_5.toInt = (0 : Int32).toInt) := fun h9 => c_6 (i_eq.mpr h9)
      refine lv_iconst (v := 0) hx hb dX11_restore_25 (by decide) ?_
      refine lv_istore_n (lv' := [(2, .int 0), (0, .ref vo), (1, .int vn)]) hx hb dX11_restore_26 rfl hl (by decide) rfl (fun ls hl => ?_)
      have loop7 : ∀ (n7 : Nat) (x_8 : Int32) (g_9 : Nat → Int32), (0 ≤ x_8.toInt ∧ x_8.toInt ≤ 575) → (CP g_9 vmnf vmkf (0) (575 * vn.toInt) x_8.toInt) → 575 - x_8.toInt < (n7 : Int) → ∀ (H : Heap) (locs : List Loc), va_P (dC, dI) vwCl [(vo, .inr (12, [.int 0, .ref vmt, .int votp, .int vosz, .int volm, .int voto, .int vofr, .int vokd, .int vonu, .int vosg, .int vofa, .int vopl, .long vowd, .int votd, .ref vmn, .ref vmr, .ref vmk, .ref vms, .ref vma, .ref vmm, .ref vmrn, .ref vmkn, .ref vmik, .ref vmon, .int vosm, .int vohp, .ref vmw, .ref vmf, .ref vmb, .int vomb, .ref vmd, .ref vmc, .int vocm, .int voct, .int vocy, .ref vmx, .int votx, .int vose, .ref vml, .ref vmwr, .int voln, .int vohw, .ref vmno, .int vond, .int voon, .int vowi, .int votop])), (vmn, .inl (cy 0, 575, .inl g_9)), (vmk, .inl (cy 0, 1150, .inl vmkf)), (vmm, .inl (cy 1, 17, .inr (.inl vmmf))), (vmkn, .inl (cy 1, 34, .inr (.inl vmknf))), (vmik, .inl (cy 2, 2, .inl vmikf))] H → va_D A [(vo, .inr (12, [.int 0, .ref vmt, .int votp, .int vosz, .int volm, .int voto, .int vofr, .int vokd, .int vonu, .int vosg, .int vofa, .int vopl, .long vowd, .int votd, .ref vmn, .ref vmr, .ref vmk, .ref vms, .ref vma, .ref vmm, .ref vmrn, .ref vmkn, .ref vmik, .ref vmon, .int vosm, .int vohp, .ref vmw, .ref vmf, .ref vmb, .int vomb, .ref vmd, .ref vmc, .int vocm, .int voct, .int vocy, .ref vmx, .int votx, .int vose, .ref vml, .ref vmwr, .int voln, .int vohw, .ref vmno, .int vond, .int voon, .int vowi, .int votop])), (vmn, .inl (cy 0, 575, .inl g_9)), (vmk, .inl (cy 0, 1150, .inl vmkf)), (vmm, .inl (cy 1, 17, .inr (.inl vmmf))), (vmkn, .inl (cy 1, 34, .inr (.inl vmknf))), (vmik, .inl (cy 2, 2, .inl vmikf))] → va_S A s.heap H locs → ∀ ls : Array Slot, lv_has ls 3 [(2, .int x_8), (0, .ref vo), (1, .int vn)] → W p l e ({ frames := 1, cells := 0, slots := 0, locals := 64 }) s m av9 below meth c H locs 0 0 Q9 (F0 m 27 ls []) := by
        intro n7
        induction n7 with
        | zero =>
          intro x_8 g_9 bx_8 v7_0 hn7 H locs hP hD hS ls hl
          exfalso; omega
        | succ n7 ih7 =>
          intro x_8 g_9 bx_8 v7_0 hn7 H locs hP hD hS ls hl
          refine lv_iload_n hx hb dX11_restore_27 rfl (lv_at hl 0 rfl) ?_
          refine lv_sipush (v := 575) hx hb dX11_restore_28 (by decide) ?_
          have k_575 : (575 : Int32).toInt = 575 := by decide
          refine lv_icmp_ge (tgt := 58) hx hb dX11_restore_31 (by decide) (fun c_10 => ?_) (fun c_10 => ?_)
          · skip
            have c_10 : (575 : Int32).toInt ≤ x_8.toInt := i_le.mp c_10
            have w_g_9 : NW g_9 g_9 := CP.res v7_0 (by omega) ⟨by omega, by omega⟩ p_vmkf
            have hcp9 : CP g_9 vmnf vmkf (0) (575 * vn.toInt) 575 := by have h9 := v7_0; rw [show x_8.toInt = 575 by omega] at h9; exact h9
            refine lv_iconst (v := 0) hx hb dX11_restore_58 (by decide) ?_
            refine lv_istore_n (lv' := [(2, .int 0), (0, .ref vo), (1, .int vn)]) hx hb dX11_restore_59 rfl hl (by decide) rfl (fun ls hl => ?_)
            have loop11 : ∀ (n11 : Nat) (x_12 : Int32) (g_13 : Nat → Int64), (0 ≤ x_12.toInt ∧ x_12.toInt ≤ 17) → (CPL g_13 vmmf vmknf (0) (17 * vn.toInt) x_12.toInt) → 17 - x_12.toInt < (n11 : Int) → ∀ (H : Heap) (locs : List Loc), va_P (dC, dI) vwCl [(vo, .inr (12, [.int 0, .ref vmt, .int votp, .int vosz, .int volm, .int voto, .int vofr, .int vokd, .int vonu, .int vosg, .int vofa, .int vopl, .long vowd, .int votd, .ref vmn, .ref vmr, .ref vmk, .ref vms, .ref vma, .ref vmm, .ref vmrn, .ref vmkn, .ref vmik, .ref vmon, .int vosm, .int vohp, .ref vmw, .ref vmf, .ref vmb, .int vomb, .ref vmd, .ref vmc, .int vocm, .int voct, .int vocy, .ref vmx, .int votx, .int vose, .ref vml, .ref vmwr, .int voln, .int vohw, .ref vmno, .int vond, .int voon, .int vowi, .int votop])), (vmn, .inl (cy 0, 575, .inl g_9)), (vmk, .inl (cy 0, 1150, .inl vmkf)), (vmm, .inl (cy 1, 17, .inr (.inl g_13))), (vmkn, .inl (cy 1, 34, .inr (.inl vmknf))), (vmik, .inl (cy 2, 2, .inl vmikf))] H → va_D A [(vo, .inr (12, [.int 0, .ref vmt, .int votp, .int vosz, .int volm, .int voto, .int vofr, .int vokd, .int vonu, .int vosg, .int vofa, .int vopl, .long vowd, .int votd, .ref vmn, .ref vmr, .ref vmk, .ref vms, .ref vma, .ref vmm, .ref vmrn, .ref vmkn, .ref vmik, .ref vmon, .int vosm, .int vohp, .ref vmw, .ref vmf, .ref vmb, .int vomb, .ref vmd, .ref vmc, .int vocm, .int voct, .int vocy, .ref vmx, .int votx, .int vose, .ref vml, .ref vmwr, .int voln, .int vohw, .ref vmno, .int vond, .int voon, .int vowi, .int votop])), (vmn, .inl (cy 0, 575, .inl g_9)), (vmk, .inl (cy 0, 1150, .inl vmkf)), (vmm, .inl (cy 1, 17, .inr (.inl g_13))), (vmkn, .inl (cy 1, 34, .inr (.inl vmknf))), (vmik, .inl (cy 2, 2, .inl vmikf))] → va_S A s.heap H locs → ∀ ls : Array Slot, lv_has ls 3 [(2, .int x_12), (0, .ref vo), (1, .int vn)] → W p l e ({ frames := 1, cells := 0, slots := 0, locals := 64 }) s m av9 below meth c H locs 0 0 Q9 (F0 m 60 ls []) := by
              intro n11
              induction n11 with
              | zero =>
                intro x_12 g_13 bx_12 v11_0 hn11 H locs hP hD hS ls hl
                exfalso; omega
              | succ n11 ih11 =>
                intro x_12 g_13 bx_12 v11_0 hn11 H locs hP hD hS ls hl
                refine lv_iload_n hx hb dX11_restore_60 rfl (lv_at hl 0 rfl) ?_
                refine lv_bipush (v := 17) hx hb dX11_restore_61 (by decide) ?_
                have k_17 : (17 : Int32).toInt = 17 := by decide
                refine lv_icmp_ge (tgt := 89) hx hb dX11_restore_63 (by decide) (fun c_14 => ?_) (fun c_14 => ?_)
                · skip
                  have c_14 : (17 : Int32).toInt ≤ x_12.toInt := i_le.mp c_14
                  have hcl9 : CPL g_13 vmmf vmknf (0) (17 * vn.toInt) 17 := by have h9 := v11_0; rw [show x_12.toInt = 17 by omega] at h9; exact h9
                  refine lv_aload_n hx hb dX11_restore_89 rfl (lv_at hl 1 rfl) ?_
                  refine lv_iconst (v := 0) hx hb dX11_restore_90 (by decide) ?_
                  refine pf_X11_225 hx hb hts hown hK hP hD hS 0 rfl rfl rfl (Nat.le_of_ble_eq_true rfl) dX11_restore_91 (fun H locs hP hD hS => ?_)
                  have hP : va_P (dC, dI) vwCl [(vo, .inr (12, [.int 0, .ref vmt, .int votp, .int vosz, .int volm, .int voto, .int vofr, .int vokd, .int vonu, .int vosg, .int vofa, .int vopl, .long vowd, .int votd, .ref vmn, .ref vmr, .ref vmk, .ref vms, .ref vma, .ref vmm, .ref vmrn, .ref vmkn, .ref vmik, .ref vmon, .int 0, .int vohp, .ref vmw, .ref vmf, .ref vmb, .int vomb, .ref vmd, .ref vmc, .int vocm, .int voct, .int vocy, .ref vmx, .int votx, .int vose, .ref vml, .ref vmwr, .int voln, .int vohw, .ref vmno, .int vond, .int voon, .int vowi, .int votop])), (vmn, .inl (cy 0, 575, .inl g_9)), (vmk, .inl (cy 0, 1150, .inl vmkf)), (vmm, .inl (cy 1, 17, .inr (.inl g_13))), (vmkn, .inl (cy 1, 34, .inr (.inl vmknf))), (vmik, .inl (cy 2, 2, .inl vmikf))] H := hP
                  have hD : va_D A [(vo, .inr (12, [.int 0, .ref vmt, .int votp, .int vosz, .int volm, .int voto, .int vofr, .int vokd, .int vonu, .int vosg, .int vofa, .int vopl, .long vowd, .int votd, .ref vmn, .ref vmr, .ref vmk, .ref vms, .ref vma, .ref vmm, .ref vmrn, .ref vmkn, .ref vmik, .ref vmon, .int 0, .int vohp, .ref vmw, .ref vmf, .ref vmb, .int vomb, .ref vmd, .ref vmc, .int vocm, .int voct, .int vocy, .ref vmx, .int votx, .int vose, .ref vml, .ref vmwr, .int voln, .int vohw, .ref vmno, .int vond, .int voon, .int vowi, .int votop])), (vmn, .inl (cy 0, 575, .inl g_9)), (vmk, .inl (cy 0, 1150, .inl vmkf)), (vmm, .inl (cy 1, 17, .inr (.inl g_13))), (vmkn, .inl (cy 1, 34, .inr (.inl vmknf))), (vmik, .inl (cy 2, 2, .inl vmikf))] := hD
                  refine lv_iconst (v := 1) hx hb dX11_restore_94 (by decide) ?_
                  rw [hQ9]
                  exact re_z ((0 : Int32), g_9, g_13, (0 : Int32)) hx hb hr hlocks (Or.inr rfl) ⟨(show ((1 : Int32) = 0 ∧ (((vn : Int32).toInt < 0 ∨ 1 < (vn : Int32).toInt) ∨ (vmikf (Int32.toNatClampNeg vn)).toInt = 0)) ∨ ((1 : Int32) = 1 ∧ 0 ≤ (vn : Int32).toInt ∧ (vn : Int32).toInt ≤ 1 ∧ ¬ ((vmikf (Int32.toNatClampNeg vn)).toInt = 0)) from (Or.inr (⟨rfl, by omega, by omega, by omega⟩))), (show NW g_9 g_9 from w_g_9), (show 0 ≤ (0 : Int32).toInt ∧ (0 : Int32).toInt ≤ 8 from ⟨by omega, by omega⟩), (show tkMR (vn : Int32).toInt (vmikf (Int32.toNatClampNeg vn)).toInt vmnf vmmf vmkf vmknf g_9 g_13 from (Or.inr ⟨by omega, by omega, by omega, hcp9, hcl9⟩))⟩ (hP.sub [0, 1, 2, 3, 4, 5] rfl) (hD.sub [0, 1, 2, 3, 4, 5] rfl rfl) hS dX11_restore_95
                · skip
                  have c_14 : ¬ ((17 : Int32).toInt ≤ x_12.toInt) := fun h9 => c_14 (i_le.mpr h9)
                  refine lv_aload_n hx hb dX11_restore_66 rfl (lv_at hl 1 rfl) ?_
                  refine gf_X11_113 hx hb hts hown hK hP 0 rfl rfl dX11_restore_67 ?_
                  refine lv_iload_n hx hb dX11_restore_70 rfl (lv_at hl 0 rfl) ?_
                  refine lv_aload_n hx hb dX11_restore_71 rfl (lv_at hl 1 rfl) ?_
                  refine gf_X11_120 hx hb hts hown hK hP 0 rfl rfl dX11_restore_72 ?_
                  refine lv_bipush (v := 17) hx hb dX11_restore_75 (by decide) ?_
                  refine lv_iload_n hx hb dX11_restore_77 rfl (lv_at hl 2 rfl) ?_
                  refine lv_imul hx hb dX11_restore_78 ?_
                  refine lv_topi (fun z_15 ez_15 => ?_)
                  have bz_15 : z_15.toInt = vn.toInt * 17 := i_cmul k_17 ez_15 (by omega) (by omega)
                  refine lv_iload_n hx hb dX11_restore_79 rfl (lv_at hl 0 rfl) ?_
                  refine lv_iadd hx hb dX11_restore_80 ?_
                  refine lv_topi (fun z_16 ez_16 => ?_)
                  have bz_16 : z_16.toInt = z_15.toInt + x_12.toInt := i_add ez_16 (by omega) (by omega)
                  have hin_17 : vp_in z_16 34 := vp_in_iff.mpr ⟨by omega, by omega⟩
                  refine va_lald hx hb hK hP 4 1 rfl rfl hin_17 dX11_restore_81 ?_
                  refine lv_topl (fun y_18 ey_18 => ?_)
                  have hin_19 : vp_in x_12 17 := vp_in_iff.mpr ⟨by omega, by omega⟩
                  refine va_last hx hb hK hP hD hS 3 1 rfl rfl hin_19 dX11_restore_82 (fun H locs hP hD hS => ?_)
                  obtain ⟨f_20, ef_20⟩ : ∃ z : Nat → Int64, z = vp_updL g_13 (Int32.toNatClampNeg x_12) y_18 := ⟨_, rfl⟩
                  have hP : va_P (dC, dI) vwCl [(vo, .inr (12, [.int 0, .ref vmt, .int votp, .int vosz, .int volm, .int voto, .int vofr, .int vokd, .int vonu, .int vosg, .int vofa, .int vopl, .long vowd, .int votd, .ref vmn, .ref vmr, .ref vmk, .ref vms, .ref vma, .ref vmm, .ref vmrn, .ref vmkn, .ref vmik, .ref vmon, .int vosm, .int vohp, .ref vmw, .ref vmf, .ref vmb, .int vomb, .ref vmd, .ref vmc, .int vocm, .int voct, .int vocy, .ref vmx, .int votx, .int vose, .ref vml, .ref vmwr, .int voln, .int vohw, .ref vmno, .int vond, .int voon, .int vowi, .int votop])), (vmn, .inl (cy 0, 575, .inl g_9)), (vmk, .inl (cy 0, 1150, .inl vmkf)), (vmm, .inl (cy 1, 17, .inr (.inl f_20))), (vmkn, .inl (cy 1, 34, .inr (.inl vmknf))), (vmik, .inl (cy 2, 2, .inl vmikf))] H := by rw [ef_20]; exact hP
                  have hD : va_D A [(vo, .inr (12, [.int 0, .ref vmt, .int votp, .int vosz, .int volm, .int voto, .int vofr, .int vokd, .int vonu, .int vosg, .int vofa, .int vopl, .long vowd, .int votd, .ref vmn, .ref vmr, .ref vmk, .ref vms, .ref vma, .ref vmm, .ref vmrn, .ref vmkn, .ref vmik, .ref vmon, .int vosm, .int vohp, .ref vmw, .ref vmf, .ref vmb, .int vomb, .ref vmd, .ref vmc, .int vocm, .int voct, .int vocy, .ref vmx, .int votx, .int vose, .ref vml, .ref vmwr, .int voln, .int vohw, .ref vmno, .int vond, .int voon, .int vowi, .int votop])), (vmn, .inl (cy 0, 575, .inl g_9)), (vmk, .inl (cy 0, 1150, .inl vmkf)), (vmm, .inl (cy 1, 17, .inr (.inl f_20))), (vmkn, .inl (cy 1, 34, .inr (.inl vmknf))), (vmik, .inl (cy 2, 2, .inl vmikf))] := by rw [ef_20]; exact hD
                  obtain ⟨z_21, ez_21⟩ : ∃ z : Int32, z = x_12 + 1 := ⟨_, rfl⟩
                  have bz_21 : z_21.toInt = x_12.toInt + (1 : Int32).toInt := i_add ez_21 (by omega) (by omega)
                  refine lv_iinc (v := z_21) (lv' := [(2, .int z_21), (0, .ref vo), (1, .int vn)]) hx hb dX11_restore_83 hl (k := 0) rfl ez_21.symm (by decide) rfl (fun ls hl => ?_)
                  refine lv_goto (tgt := 60) hx hb dX11_restore_86 (by decide) ?_
                  exact ih11 z_21 f_20 ⟨by omega, by omega⟩ (ef_20 ▸ CPL.step v11_0 (by omega) (by omega) (by omega) (by omega) (y := z_16) (by omega) ey_18 (by omega)) (by omega) _ _ (hP.sub [0, 1, 2, 3, 4, 5] rfl) (hD.sub [0, 1, 2, 3, 4, 5] rfl rfl) hS ls (lv_sub hl [0, 1, 2] rfl)
            exact loop11 ((17 - (0 : Int32).toInt).toNat + 1) 0 vmmf ⟨by omega, by omega⟩ (CPL.nil (by omega)) (by omega) _ _ hP hD hS ls (lv_sub hl [0, 1, 2] rfl)
          · skip
            have c_10 : ¬ ((575 : Int32).toInt ≤ x_8.toInt) := fun h9 => c_10 (i_le.mpr h9)
            refine lv_aload_n hx hb dX11_restore_34 rfl (lv_at hl 1 rfl) ?_
            refine gf_X11_98 hx hb hts hown hK hP 0 rfl rfl dX11_restore_35 ?_
            refine lv_iload_n hx hb dX11_restore_38 rfl (lv_at hl 0 rfl) ?_
            refine lv_aload_n hx hb dX11_restore_39 rfl (lv_at hl 1 rfl) ?_
            refine gf_X11_104 hx hb hts hown hK hP 0 rfl rfl dX11_restore_40 ?_
            refine lv_sipush (v := 575) hx hb dX11_restore_43 (by decide) ?_
            refine lv_iload_n hx hb dX11_restore_46 rfl (lv_at hl 2 rfl) ?_
            refine lv_imul hx hb dX11_restore_47 ?_
            refine lv_topi (fun z_22 ez_22 => ?_)
            have bz_22 : z_22.toInt = vn.toInt * 575 := i_cmul k_575 ez_22 (by omega) (by omega)
            refine lv_iload_n hx hb dX11_restore_48 rfl (lv_at hl 0 rfl) ?_
            refine lv_iadd hx hb dX11_restore_49 ?_
            refine lv_topi (fun z_23 ez_23 => ?_)
            have bz_23 : z_23.toInt = z_22.toInt + x_8.toInt := i_add ez_23 (by omega) (by omega)
            have hin_24 : vp_in z_23 1150 := vp_in_iff.mpr ⟨by omega, by omega⟩
            refine va_iald hx hb hK hP 2 0 rfl rfl hin_24 dX11_restore_50 ?_
            refine lv_topi (fun z_25 ez_25 => ?_)
            have hin_26 : vp_in x_8 575 := vp_in_iff.mpr ⟨by omega, by omega⟩
            refine va_iast hx hb hK hP hD hS 1 0 rfl rfl hin_26 dX11_restore_51 (fun H locs hP hD hS => ?_)
            obtain ⟨f_27, ef_27⟩ : ∃ z : Nat → Int32, z = upd g_9 (Int32.toNatClampNeg x_8) z_25 := ⟨_, rfl⟩
            have hP : va_P (dC, dI) vwCl [(vo, .inr (12, [.int 0, .ref vmt, .int votp, .int vosz, .int volm, .int voto, .int vofr, .int vokd, .int vonu, .int vosg, .int vofa, .int vopl, .long vowd, .int votd, .ref vmn, .ref vmr, .ref vmk, .ref vms, .ref vma, .ref vmm, .ref vmrn, .ref vmkn, .ref vmik, .ref vmon, .int vosm, .int vohp, .ref vmw, .ref vmf, .ref vmb, .int vomb, .ref vmd, .ref vmc, .int vocm, .int voct, .int vocy, .ref vmx, .int votx, .int vose, .ref vml, .ref vmwr, .int voln, .int vohw, .ref vmno, .int vond, .int voon, .int vowi, .int votop])), (vmn, .inl (cy 0, 575, .inl f_27)), (vmk, .inl (cy 0, 1150, .inl vmkf)), (vmm, .inl (cy 1, 17, .inr (.inl vmmf))), (vmkn, .inl (cy 1, 34, .inr (.inl vmknf))), (vmik, .inl (cy 2, 2, .inl vmikf))] H := by rw [ef_27]; exact hP
            have hD : va_D A [(vo, .inr (12, [.int 0, .ref vmt, .int votp, .int vosz, .int volm, .int voto, .int vofr, .int vokd, .int vonu, .int vosg, .int vofa, .int vopl, .long vowd, .int votd, .ref vmn, .ref vmr, .ref vmk, .ref vms, .ref vma, .ref vmm, .ref vmrn, .ref vmkn, .ref vmik, .ref vmon, .int vosm, .int vohp, .ref vmw, .ref vmf, .ref vmb, .int vomb, .ref vmd, .ref vmc, .int vocm, .int voct, .int vocy, .ref vmx, .int votx, .int vose, .ref vml, .ref vmwr, .int voln, .int vohw, .ref vmno, .int vond, .int voon, .int vowi, .int votop])), (vmn, .inl (cy 0, 575, .inl f_27)), (vmk, .inl (cy 0, 1150, .inl vmkf)), (vmm, .inl (cy 1, 17, .inr (.inl vmmf))), (vmkn, .inl (cy 1, 34, .inr (.inl vmknf))), (vmik, .inl (cy 2, 2, .inl vmikf))] := by rw [ef_27]; exact hD
            obtain ⟨z_28, ez_28⟩ : ∃ z : Int32, z = x_8 + 1 := ⟨_, rfl⟩
            have bz_28 : z_28.toInt = x_8.toInt + (1 : Int32).toInt := i_add ez_28 (by omega) (by omega)
            refine lv_iinc (v := z_28) (lv' := [(2, .int z_28), (0, .ref vo), (1, .int vn)]) hx hb dX11_restore_52 hl (k := 0) rfl ez_28.symm (by decide) rfl (fun ls hl => ?_)
            refine lv_goto (tgt := 27) hx hb dX11_restore_55 (by decide) ?_
            exact ih7 z_28 f_27 ⟨by omega, by omega⟩ (ef_27 ▸ CP.step v7_0 (by decide) (by omega) (by omega) (by omega) (y := z_23) (by omega) ez_25 (by omega)) (by omega) _ _ (hP.sub [0, 1, 2, 3, 4, 5] rfl) (hD.sub [0, 1, 2, 3, 4, 5] rfl rfl) hS ls (lv_sub hl [0, 1, 2] rfl)
      exact loop7 ((575 - (0 : Int32).toInt).toNat + 1) 0 vmnf ⟨by omega, by omega⟩ (CP.nil (by omega)) (by omega) _ _ hP hD hS ls (lv_sub hl [0, 1, 2] rfl)
    · skip
      have c_6 : z_5.toInt = (0 : Int32).toInt := i_eq.mp c_6
      refine lv_iconst (v := 0) hx hb dX11_restore_23 (by decide) ?_
      rw [hQ9]
      exact re_z ((0 : Int32), vmnf, vmmf, vosm) hx hb hr hlocks (Or.inl rfl) ⟨(show ((0 : Int32) = 0 ∧ (((vn : Int32).toInt < 0 ∨ 1 < (vn : Int32).toInt) ∨ (vmikf (Int32.toNatClampNeg vn)).toInt = 0)) ∨ ((0 : Int32) = 1 ∧ 0 ≤ (vn : Int32).toInt ∧ (vn : Int32).toInt ≤ 1 ∧ ¬ ((vmikf (Int32.toNatClampNeg vn)).toInt = 0)) from (Or.inl ⟨rfl, by omega⟩)), (show NW vmnf vmnf from (p_vmnf.self)), (show 0 ≤ (vosm : Int32).toInt ∧ (vosm : Int32).toInt ≤ 8 from ⟨by omega, by omega⟩), (show tkMR (vn : Int32).toInt (vmikf (Int32.toNatClampNeg vn)).toInt vmnf vmmf vmkf vmknf vmnf vmmf from (Or.inl ⟨by omega, rfl, rfl⟩))⟩ (hP.sub [0, 1, 2, 3, 4, 5] rfl) (hD.sub [0, 1, 2, 3, 4, 5] rfl rfl) hS dX11_restore_24
