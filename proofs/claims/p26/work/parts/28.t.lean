abbrev O_s_may (cy : Nat → ClassId) (vnh : Nat → Int32) (vo : Nat) (voth : Int32) (vmt : Nat) (votp : Int32) (vosz : Int32) (volm : Int32) (voto : Int32) (vofr : Int32) (vokd : Int32) (vonu : Int32) (vosg : Int32) (vofa : Int32) (vopl : Int32) (vowd : Int64) (votd : Int32) (vmn : Nat) (vmr : Nat) (vmk : Nat) (vms : Nat) (vma : Nat) (vmm : Nat) (vmrn : Nat) (vmkn : Nat) (vmik : Nat) (vmon : Nat) (vosm : Int32) (vohp : Int32) (vmw : Nat) (vmf : Nat) (vmb : Nat) (vomb : Int32) (vmd : Nat) (vmc : Nat) (vocm : Int32) (voct : Int32) (vocy : Int32) (vmx : Nat) (votx : Int32) (vose : Int32) (vml : Nat) (vmwr : Nat) (voln : Int32) (vohw : Int32) (vmno : Nat) (vond : Int32) (voon : Int32) (vowi : Int32) (votop : Int32) (vmtf : Nat → Int32) (vmnf : Nat → Int32) (vmwf : Nat → Int64) (vmff : Nat → Int32) (vmbf : Nat → Int32) (u : Int32 × Int32 × (Nat → Int64) × (Nat → Int32) × (Nat → Int32) × Int32) : va_W := [(vo, .inr (12, [.int u.1, .ref vmt, .int u.2.1, .int vosz, .int volm, .int voto, .int vofr, .int vokd, .int vonu, .int vosg, .int vofa, .int vopl, .long vowd, .int votd, .ref vmn, .ref vmr, .ref vmk, .ref vms, .ref vma, .ref vmm, .ref vmrn, .ref vmkn, .ref vmik, .ref vmon, .int vosm, .int vohp, .ref vmw, .ref vmf, .ref vmb, .int u.2.2.2.2.2, .ref vmd, .ref vmc, .int vocm, .int voct, .int vocy, .ref vmx, .int votx, .int vose, .ref vml, .ref vmwr, .int voln, .int vohw, .ref vmno, .int vond, .int voon, .int vowi, .int votop])), (vmt, .inl (cy 0, 940, .inl vmtf)), (vmn, .inl (cy 0, 575, .inl vmnf)), (vmw, .inl (cy 1, 5632, .inr (.inl u.2.2.1))), (vmf, .inl (cy 0, 5632, .inl u.2.2.2.1)), (vmb, .inl (cy 0, 10, .inl u.2.2.2.2.1))]
set_option maxHeartbeats 4000000 in
set_option maxRecDepth 100000 in
theorem s_may (l : Launch) (dC : Nat → ClassId) (dI : Nat → Nat → Nat) (cy : Nat → ClassId) (sz : Nat) (vnh : Nat → Int32) (vo : Nat) (voth : Int32) (vmt : Nat) (votp : Int32) (vosz : Int32) (volm : Int32) (voto : Int32) (vofr : Int32) (vokd : Int32) (vonu : Int32) (vosg : Int32) (vofa : Int32) (vopl : Int32) (vowd : Int64) (votd : Int32) (vmn : Nat) (vmr : Nat) (vmk : Nat) (vms : Nat) (vma : Nat) (vmm : Nat) (vmrn : Nat) (vmkn : Nat) (vmik : Nat) (vmon : Nat) (vosm : Int32) (vohp : Int32) (vmw : Nat) (vmf : Nat) (vmb : Nat) (vomb : Int32) (vmd : Nat) (vmc : Nat) (vocm : Int32) (voct : Int32) (vocy : Int32) (vmx : Nat) (votx : Int32) (vose : Int32) (vml : Nat) (vmwr : Nat) (voln : Int32) (vohw : Int32) (vmno : Nat) (vond : Int32) (voon : Int32) (vowi : Int32) (votop : Int32) (vmtf : Nat → Int32) (vmnf : Nat → Int32) (vmwf : Nat → Int64) (vmff : Nat → Int32) (vmbf : Nat → Int32) (r_votp : 0 ≤ (votp : Int32).toInt ∧ (votp : Int32).toInt ≤ 940) (r_vomb : 0 ≤ (vomb : Int32).toInt ∧ (vomb : Int32).toInt ≤ 10) (p_vmtf : Rg vmtf 940 0 255) (p_vmnf : NW vnh vmnf) (p_vmff : Rg vmff 5632 0 100000) : Met l yX11_may (wl yX11_may cX11_may 7 (some .long)) ({ frames := 3, cells := 0, slots := 0, locals := 192 }) (Pw (dC, dI) vwCl cy [(vo, .inr (12, [.int voth, .ref vmt, .int votp, .int vosz, .int volm, .int voto, .int vofr, .int vokd, .int vonu, .int vosg, .int vofa, .int vopl, .long vowd, .int votd, .ref vmn, .ref vmr, .ref vmk, .ref vms, .ref vma, .ref vmm, .ref vmrn, .ref vmkn, .ref vmik, .ref vmon, .int vosm, .int vohp, .ref vmw, .ref vmf, .ref vmb, .int vomb, .ref vmd, .ref vmc, .int vocm, .int voct, .int vocy, .ref vmx, .int votx, .int vose, .ref vml, .ref vmwr, .int voln, .int vohw, .ref vmno, .int vond, .int voon, .int vowi, .int votop])), (vmt, .inl (cy 0, 940, .inl vmtf)), (vmn, .inl (cy 0, 575, .inl vmnf)), (vmw, .inl (cy 1, 5632, .inr (.inl vmwf))), (vmf, .inl (cy 0, 5632, .inl vmff)), (vmb, .inl (cy 0, 10, .inl vmbf))] sz [.ref vo] nE) (Ql (dC, dI) vwCl (fun (r : Int64) (u : Int32 × Int32 × (Nat → Int64) × (Nat → Int32) × (Nat → Int32) × Int32) => (0 ≤ (u.2.1 : Int32).toInt ∧ (u.2.1 : Int32).toInt ≤ 0) ∧ (Rg u.2.2.2.1 5632 0 100000) ∧ (0 ≤ (u.2.2.2.2.2 : Int32).toInt ∧ (u.2.2.2.2.2 : Int32).toInt ≤ 10) ∧ (((votp : Int32).toInt ≠ 2 ∧ (r : Int64) = -1) ∨ ((votp : Int32).toInt = 2 ∧ (r : Int64) = su_C (suTm (fun e9 => vmnf (21 + e9)) 0) (suWt (fun e9 => vmnf (11 + e9))) (vmnf 1).toInt.toNat (vmtf 0).toInt.toNat * su_C (suTm (fun e9 => vmnf (21 + e9)) 1) (suWt (fun e9 => vmnf (11 + e9))) (vmnf 1).toInt.toNat (vmtf 1).toInt.toNat))) (O_s_may cy vnh vo voth vmt votp vosz volm voto vofr vokd vonu vosg vofa vopl vowd votd vmn vmr vmk vms vma vmm vmrn vmkn vmik vmon vosm vohp vmw vmf vmb vomb vmd vmc vocm voct vocy vmx votx vose vml vmwr voln vohw vmno vond voon vowi votop vmtf vmnf vmwf vmff vmbf) (va_A [(vo, .inr (12, [.int voth, .ref vmt, .int votp, .int vosz, .int volm, .int voto, .int vofr, .int vokd, .int vonu, .int vosg, .int vofa, .int vopl, .long vowd, .int votd, .ref vmn, .ref vmr, .ref vmk, .ref vms, .ref vma, .ref vmm, .ref vmrn, .ref vmkn, .ref vmik, .ref vmon, .int vosm, .int vohp, .ref vmw, .ref vmf, .ref vmb, .int vomb, .ref vmd, .ref vmc, .int vocm, .int voct, .int vocy, .ref vmx, .int votx, .int vose, .ref vml, .ref vmwr, .int voln, .int vohw, .ref vmno, .int vond, .int voon, .int vowi, .int votop])), (vmt, .inl (cy 0, 940, .inl vmtf)), (vmn, .inl (cy 0, 575, .inl vmnf)), (vmw, .inl (cy 1, 5632, .inr (.inl vmwf))), (vmf, .inl (cy 0, 5632, .inl vmff)), (vmb, .inl (cy 0, 10, .inl vmbf))] sz)) 0 0 (va_A [(vo, .inr (12, [.int voth, .ref vmt, .int votp, .int vosz, .int volm, .int voto, .int vofr, .int vokd, .int vonu, .int vosg, .int vofa, .int vopl, .long vowd, .int votd, .ref vmn, .ref vmr, .ref vmk, .ref vms, .ref vma, .ref vmm, .ref vmrn, .ref vmkn, .ref vmik, .ref vmon, .int vosm, .int vohp, .ref vmw, .ref vmf, .ref vmb, .int vomb, .ref vmd, .ref vmc, .int vocm, .int voct, .int vocy, .ref vmx, .int votx, .int vose, .ref vml, .ref vmwr, .int voln, .int vohw, .ref vmno, .int vond, .int voon, .int vowi, .int votop])), (vmt, .inl (cy 0, 940, .inl vmtf)), (vmn, .inl (cy 0, 575, .inl vmnf)), (vmw, .inl (cy 1, 5632, .inr (.inl vmwf))), (vmf, .inl (cy 0, 5632, .inl vmff)), (vmb, .inl (cy 0, 10, .inl vmbf))] sz) := by
  refine mw (Qc := Ql (dC, dI) vwCl (fun (r : Int64) (u : Int32 × Int32 × (Nat → Int64) × (Nat → Int32) × (Nat → Int32) × Int32) => (0 ≤ (u.2.1 : Int32).toInt ∧ (u.2.1 : Int32).toInt ≤ 0) ∧ (Rg u.2.2.2.1 5632 0 100000) ∧ (0 ≤ (u.2.2.2.2.2 : Int32).toInt ∧ (u.2.2.2.2.2 : Int32).toInt ≤ 10) ∧ (((votp : Int32).toInt ≠ 2 ∧ (r : Int64) = -1) ∨ ((votp : Int32).toInt = 2 ∧ (r : Int64) = su_C (suTm (fun e9 => vmnf (21 + e9)) 0) (suWt (fun e9 => vmnf (11 + e9))) (vmnf 1).toInt.toNat (vmtf 0).toInt.toNat * su_C (suTm (fun e9 => vmnf (21 + e9)) 1) (suWt (fun e9 => vmnf (11 + e9))) (vmnf 1).toInt.toNat (vmtf 1).toInt.toNat))) (O_s_may cy vnh vo voth vmt votp vosz volm voto vofr vokd vonu vosg vofa vopl vowd votd vmn vmr vmk vms vma vmm vmrn vmkn vmik vmon vosm vohp vmw vmf vmb vomb vmd vmc vocm voct vocy vmx votx vose vml vmwr voln vohw vmno vond voon vowi votop vmtf vmnf vmwf vmff vmbf)) RX11 rfl (by decide +kernel) (Nat.le_of_ble_eq_true rfl) ?_
  intro p e s m below meth c A hx hb hr hlocks av9 hav hts hown hnm hml hK hP hD hA hS hE hAe Q9 hQ9 ls hl
  have hl : lv_has ls 7 [(0, .ref vo)] := hl
  refine lv_aload_n hx hb dX11_may_0 rfl (lv_at hl 0 rfl) ?_
  refine lv_iconst (v := 0) hx hb dX11_may_1 (by decide) ?_
  refine pf_X11_1 hx hb hts hown hK hP hD hS 0 rfl rfl rfl (Nat.le_of_ble_eq_true rfl) dX11_may_2 (fun H locs hP hD hS => ?_)
  have hP : va_P (dC, dI) vwCl [(vo, .inr (12, [.int 0, .ref vmt, .int votp, .int vosz, .int volm, .int voto, .int vofr, .int vokd, .int vonu, .int vosg, .int vofa, .int vopl, .long vowd, .int votd, .ref vmn, .ref vmr, .ref vmk, .ref vms, .ref vma, .ref vmm, .ref vmrn, .ref vmkn, .ref vmik, .ref vmon, .int vosm, .int vohp, .ref vmw, .ref vmf, .ref vmb, .int vomb, .ref vmd, .ref vmc, .int vocm, .int voct, .int vocy, .ref vmx, .int votx, .int vose, .ref vml, .ref vmwr, .int voln, .int vohw, .ref vmno, .int vond, .int voon, .int vowi, .int votop])), (vmt, .inl (cy 0, 940, .inl vmtf)), (vmn, .inl (cy 0, 575, .inl vmnf)), (vmw, .inl (cy 1, 5632, .inr (.inl vmwf))), (vmf, .inl (cy 0, 5632, .inl vmff)), (vmb, .inl (cy 0, 10, .inl vmbf))] H := hP
  have hD : va_D A [(vo, .inr (12, [.int 0, .ref vmt, .int votp, .int vosz, .int volm, .int voto, .int vofr, .int vokd, .int vonu, .int vosg, .int vofa, .int vopl, .long vowd, .int votd, .ref vmn, .ref vmr, .ref vmk, .ref vms, .ref vma, .ref vmm, .ref vmrn, .ref vmkn, .ref vmik, .ref vmon, .int vosm, .int vohp, .ref vmw, .ref vmf, .ref vmb, .int vomb, .ref vmd, .ref vmc, .int vocm, .int voct, .int vocy, .ref vmx, .int votx, .int vose, .ref vml, .ref vmwr, .int voln, .int vohw, .ref vmno, .int vond, .int voon, .int vowi, .int votop])), (vmt, .inl (cy 0, 940, .inl vmtf)), (vmn, .inl (cy 0, 575, .inl vmnf)), (vmw, .inl (cy 1, 5632, .inr (.inl vmwf))), (vmf, .inl (cy 0, 5632, .inl vmff)), (vmb, .inl (cy 0, 10, .inl vmbf))] := hD
  refine lv_aload_n hx hb dX11_may_5 rfl (lv_at hl 0 rfl) ?_
  have k_0 : (0 : Int32).toInt = 0 := by decide
  refine jn_i (wr := [(vmt, .inl (cy 0, 940, .inl vmtf)), (vmn, .inl (cy 0, 575, .inl vmnf)), (vmw, .inl (cy 1, 5632, .inr (.inl vmwf))), (vmf, .inl (cy 0, 5632, .inl vmff)), (vmb, .inl (cy 0, 10, .inl vmbf))]) (rV (As := []) (rest := []) (ci := 12) ⟨hx, hb, hml, hown, hts⟩ (s_take l dC dI cy _ vo 0 vmt votp vosz volm voto vofr vokd vonu vosg vofa vopl vowd votd vmn vmr vmk vms vma vmm vmrn vmkn vmik vmon vosm vohp vmw vmf vmb vomb vmd vmc vocm voct vocy vmx votx vose vml vmwr voln vohw vmno vond voon vowi votop r_votp) (cw_X11_89 hts rfl rfl ⟨Nat.le_of_ble_eq_true rfl, Nat.le_of_ble_eq_true rfl⟩) hP hD hK [0] rfl rfl rfl rfl bl0 e0 rfl hl.1 rfl (Nat.le_of_ble_eq_true rfl) dX11_may_6 ⟨Nat.le_of_ble_eq_true rfl, Nat.le_of_ble_eq_true rfl⟩) hP hD hS hA [0] [1, 2, 3, 4, 5] rfl rfl rfl (by decide) (fun r_1 u_3 H locs hp_2 hP hD hS => ?_)
  obtain ⟨votp_4, rfl⟩ : ∃ z, z = u_3 := ⟨_, rfl⟩
  have hp_2 : (0 ≤ (r_1 : Int32).toInt ∧ (r_1 : Int32).toInt ≤ 940) ∧ (0 ≤ (votp_4 : Int32).toInt ∧ (votp_4 : Int32).toInt ≤ 0) ∧ ((r_1 : Int32).toInt = (votp : Int32).toInt) := hp_2
  obtain ⟨q_5, q_6, q_7⟩ := hp_2
  have hP : va_P (dC, dI) vwCl [(vmt, .inl (cy 0, 940, .inl vmtf)), (vmn, .inl (cy 0, 575, .inl vmnf)), (vmw, .inl (cy 1, 5632, .inr (.inl vmwf))), (vmf, .inl (cy 0, 5632, .inl vmff)), (vmb, .inl (cy 0, 10, .inl vmbf)), (vo, .inr (12, [.int 0, .ref vmt, .int votp_4, .int vosz, .int volm, .int voto, .int vofr, .int vokd, .int vonu, .int vosg, .int vofa, .int vopl, .long vowd, .int votd, .ref vmn, .ref vmr, .ref vmk, .ref vms, .ref vma, .ref vmm, .ref vmrn, .ref vmkn, .ref vmik, .ref vmon, .int vosm, .int vohp, .ref vmw, .ref vmf, .ref vmb, .int vomb, .ref vmd, .ref vmc, .int vocm, .int voct, .int vocy, .ref vmx, .int votx, .int vose, .ref vml, .ref vmwr, .int voln, .int vohw, .ref vmno, .int vond, .int voon, .int vowi, .int votop]))] H := hP
  have hD : va_D A [(vmt, .inl (cy 0, 940, .inl vmtf)), (vmn, .inl (cy 0, 575, .inl vmnf)), (vmw, .inl (cy 1, 5632, .inr (.inl vmwf))), (vmf, .inl (cy 0, 5632, .inl vmff)), (vmb, .inl (cy 0, 10, .inl vmbf)), (vo, .inr (12, [.int 0, .ref vmt, .int votp_4, .int vosz, .int volm, .int voto, .int vofr, .int vokd, .int vonu, .int vosg, .int vofa, .int vopl, .long vowd, .int votd, .ref vmn, .ref vmr, .ref vmk, .ref vms, .ref vma, .ref vmm, .ref vmrn, .ref vmkn, .ref vmik, .ref vmon, .int vosm, .int vohp, .ref vmw, .ref vmf, .ref vmb, .int vomb, .ref vmd, .ref vmc, .int vocm, .int voct, .int vocy, .ref vmx, .int votx, .int vose, .ref vml, .ref vmwr, .int voln, .int vohw, .ref vmno, .int vond, .int voon, .int vowi, .int votop]))] := hD
  refine lv_iconst (v := 2) hx hb dX11_may_9 (by decide) ?_
  have k_2 : (2 : Int32).toInt = 2 := by decide
  refine lv_icmp_eq (tgt := 17) hx hb dX11_may_10 (by decide) (fun c_8 => ?_) (fun c_8 => ?_)
  · skip
    have c_8 : r_1.toInt = (2 : Int32).toInt := i_eq.mp c_8
    refine lv_aload_n hx hb dX11_may_17 rfl (lv_at hl 0 rfl) ?_
    refine jn_v (wr := [(vmt, .inl (cy 0, 940, .inl vmtf)), (vmb, .inl (cy 0, 10, .inl vmbf))]) (rV (As := []) (rest := []) (ci := 12) ⟨hx, hb, hml, hown, hts⟩ (s_layWays l dC dI cy _ vnh vo 0 vmt votp_4 vosz volm voto vofr vokd vonu vosg vofa vopl vowd votd vmn vmr vmk vms vma vmm vmrn vmkn vmik vmon vosm vohp vmw vmf vmb vomb vmd vmc vocm voct vocy vmx votx vose vml vmwr voln vohw vmno vond voon vowi votop vmnf vmwf vmff p_vmnf p_vmff) (cw_X11_316 hts rfl rfl ⟨Nat.le_of_ble_eq_true rfl, Nat.le_of_ble_eq_true rfl⟩) hP hD hK [5, 1, 2, 3] rfl rfl rfl rfl bl0 e0 rfl hl.1 rfl (Nat.le_of_ble_eq_true rfl) dX11_may_18 ⟨Nat.le_of_ble_eq_true rfl, Nat.le_of_ble_eq_true rfl⟩) hP hD hS hA [5, 1, 2, 3] [0, 4] rfl rfl rfl (by decide) (fun u_11 H locs hp_10 hP hD hS => ?_)
    obtain ⟨vmwf_12, vmff_13⟩ := u_11
    have hp_10 : (Rg vmff_13 5632 0 100000) ∧ (LWA vmff_13 vmnf) ∧ (∀ c s : Nat, c ≤ 1 → s ≤ 255 → vmwf_12 (suK 0 c s) = su_C (suTm (fun e9 => vmnf (21 + e9)) (c : Int)) (suWt (fun e9 => vmnf (11 + e9))) (vmnf 1).toInt.toNat s) := hp_10
    obtain ⟨q_14, q_15, q_16⟩ := hp_10
    have hP : va_P (dC, dI) vwCl [(vmt, .inl (cy 0, 940, .inl vmtf)), (vmb, .inl (cy 0, 10, .inl vmbf)), (vo, .inr (12, [.int 0, .ref vmt, .int votp_4, .int vosz, .int volm, .int voto, .int vofr, .int vokd, .int vonu, .int vosg, .int vofa, .int vopl, .long vowd, .int votd, .ref vmn, .ref vmr, .ref vmk, .ref vms, .ref vma, .ref vmm, .ref vmrn, .ref vmkn, .ref vmik, .ref vmon, .int vosm, .int vohp, .ref vmw, .ref vmf, .ref vmb, .int vomb, .ref vmd, .ref vmc, .int vocm, .int voct, .int vocy, .ref vmx, .int votx, .int vose, .ref vml, .ref vmwr, .int voln, .int vohw, .ref vmno, .int vond, .int voon, .int vowi, .int votop])), (vmn, .inl (cy 0, 575, .inl vmnf)), (vmw, .inl (cy 1, 5632, .inr (.inl vmwf_12))), (vmf, .inl (cy 0, 5632, .inl vmff_13))] H := hP
    have hD : va_D A [(vmt, .inl (cy 0, 940, .inl vmtf)), (vmb, .inl (cy 0, 10, .inl vmbf)), (vo, .inr (12, [.int 0, .ref vmt, .int votp_4, .int vosz, .int volm, .int voto, .int vofr, .int vokd, .int vonu, .int vosg, .int vofa, .int vopl, .long vowd, .int votd, .ref vmn, .ref vmr, .ref vmk, .ref vms, .ref vma, .ref vmm, .ref vmrn, .ref vmkn, .ref vmik, .ref vmon, .int vosm, .int vohp, .ref vmw, .ref vmf, .ref vmb, .int vomb, .ref vmd, .ref vmc, .int vocm, .int voct, .int vocy, .ref vmx, .int votx, .int vose, .ref vml, .ref vmwr, .int voln, .int vohw, .ref vmno, .int vond, .int voon, .int vowi, .int votop])), (vmn, .inl (cy 0, 575, .inl vmnf)), (vmw, .inl (cy 1, 5632, .inr (.inl vmwf_12))), (vmf, .inl (cy 0, 5632, .inl vmff_13))] := hD
    refine lv_aload_n hx hb dX11_may_21 rfl (lv_at hl 0 rfl) ?_
    refine gf_X11_133 hx hb hts hown hK hP 2 rfl rfl dX11_may_22 ?_
    refine lv_iconst (v := 0) hx hb dX11_may_25 (by decide) ?_
    refine lv_iconst (v := 0) hx hb dX11_may_26 (by decide) ?_
    refine lv_aload_n hx hb dX11_may_27 rfl (lv_at hl 0 rfl) ?_
    refine gf_X11_7 hx hb hts hown hK hP 2 rfl rfl dX11_may_28 ?_
    refine lv_iconst (v := 0) hx hb dX11_may_31 (by decide) ?_
    have hin_17 : vp_in (0 : Int32) 940 := vp_in_iff.mpr ⟨by omega, by omega⟩
    refine va_iald hx hb hK hP 0 0 rfl rfl hin_17 dX11_may_32 ?_
    refine lv_topi (fun z_18 ez_18 => ?_)
    have bz_18 := p_vmtf.at hin_17 ez_18
    refine jr_i (rSr (As := [.int 0, .int 0, .int z_18]) (rest := [.ref vmw]) ⟨hx, hb, hml, hown, hts⟩ (m_cellOf l dC dI cy 0 0 z_18 ⟨by omega, by omega⟩ ⟨by omega, by omega⟩ ⟨by omega, by omega⟩) (cw_X11_306 hts rfl rfl ⟨Nat.le_of_ble_eq_true rfl, Nat.le_of_ble_eq_true rfl⟩) hP hK [] rfl rfl hl.1 rfl (Nat.le_of_ble_eq_true rfl) dX11_may_33 ⟨Nat.le_of_ble_eq_true rfl, Nat.le_of_ble_eq_true rfl⟩) hP hS (fun r_19 H locs hp_20 hP hS => ?_)
    have hp_20 : (0 ≤ (r_19 : Int32).toInt ∧ (r_19 : Int32).toInt ≤ 5631) ∧ ((r_19 : Int32).toInt = 512 * (0 : Int32).toInt + 256 * (0 : Int32).toInt + (z_18 : Int32).toInt) := hp_20
    obtain ⟨q_21, q_22⟩ := hp_20
    have hin_23 : vp_in r_19 5632 := vp_in_iff.mpr ⟨by omega, by omega⟩
    refine va_lald hx hb hK hP 4 1 rfl rfl hin_23 dX11_may_36 ?_
    refine lv_topl (fun y_24 ey_24 => ?_)
    refine lv_aload_n hx hb dX11_may_37 rfl (lv_at hl 0 rfl) ?_
    refine gf_X11_133 hx hb hts hown hK hP 2 rfl rfl dX11_may_38 ?_
    refine lv_iconst (v := 0) hx hb dX11_may_41 (by decide) ?_
    refine lv_iconst (v := 1) hx hb dX11_may_42 (by decide) ?_
    refine lv_aload_n hx hb dX11_may_43 rfl (lv_at hl 0 rfl) ?_
    refine gf_X11_7 hx hb hts hown hK hP 2 rfl rfl dX11_may_44 ?_
    refine lv_iconst (v := 1) hx hb dX11_may_47 (by decide) ?_
    have k_1 : (1 : Int32).toInt = 1 := by decide
    have hin_25 : vp_in (1 : Int32) 940 := vp_in_iff.mpr ⟨by omega, by omega⟩
    refine va_iald hx hb hK hP 0 0 rfl rfl hin_25 dX11_may_48 ?_
    refine lv_topi (fun z_26 ez_26 => ?_)
    have bz_26 := p_vmtf.at hin_25 ez_26
    refine jr_i (rSr (As := [.int 0, .int 1, .int z_26]) (rest := [.ref vmw, .long y_24]) ⟨hx, hb, hml, hown, hts⟩ (m_cellOf l dC dI cy 0 1 z_26 ⟨by omega, by omega⟩ ⟨by omega, by omega⟩ ⟨by omega, by omega⟩) (cw_X11_306 hts rfl rfl ⟨Nat.le_of_ble_eq_true rfl, Nat.le_of_ble_eq_true rfl⟩) hP hK [] rfl rfl hl.1 rfl (Nat.le_of_ble_eq_true rfl) dX11_may_49 ⟨Nat.le_of_ble_eq_true rfl, Nat.le_of_ble_eq_true rfl⟩) hP hS (fun r_27 H locs hp_28 hP hS => ?_)
    have hp_28 : (0 ≤ (r_27 : Int32).toInt ∧ (r_27 : Int32).toInt ≤ 5631) ∧ ((r_27 : Int32).toInt = 512 * (0 : Int32).toInt + 256 * (1 : Int32).toInt + (z_26 : Int32).toInt) := hp_28
    obtain ⟨q_29, q_30⟩ := hp_28
    have hin_31 : vp_in r_27 5632 := vp_in_iff.mpr ⟨by omega, by omega⟩
    refine va_lald hx hb hK hP 4 1 rfl rfl hin_31 dX11_may_52 ?_
    refine lv_topl (fun y_32 ey_32 => ?_)
    refine lv_lmul hx hb dX11_may_53 ?_
    refine lv_topl (fun y_33 ey_33 => ?_)
    have hM : y_33 = su_C (suTm (fun e9 => vmnf (21 + e9)) 0) (suWt (fun e9 => vmnf (11 + e9))) (vmnf 1).toInt.toNat (vmtf 0).toInt.toNat * su_C (suTm (fun e9 => vmnf (21 + e9)) 1) (suWt (fun e9 => vmnf (11 + e9))) (vmnf 1).toInt.toNat (vmtf 1).toInt.toNat := by rw [ey_33, ey_24, ey_32, show Int32.toNatClampNeg r_19 = suK 0 0 z_18.toInt.toNat by have := cl_nn (x := r_19) (by omega); unfold suK; omega, show Int32.toNatClampNeg r_27 = suK 0 1 z_26.toInt.toNat by have := cl_nn (x := r_27) (by omega); unfold suK; omega, q_16 0 _ (by omega) (by omega), q_16 1 _ (by omega) (by omega), ez_18, ez_26]; rfl
    refine lv_lstore_n (lv' := [(1, .long y_33), (0, .ref vo)]) hx hb dX11_may_54 rfl hl (by decide) rfl (fun ls hl => ?_)
    refine lv_lload_n hx hb dX11_may_55 rfl (lv_at hl 0 rfl) ?_
    refine lv_lconst (v := 0) hx hb dX11_may_56 (by decide) ?_
    refine W.lcmp hx hb dX11_may_57 ?_
    refine lv_topi (fun z_34 ez_34 => ?_)
    refine lv_if_ne (tgt := 63) hx hb dX11_may_58 (by decide) (fun c_35 => ?_) (fun c_35 => ?_)
    · skip
      have c_35 : ¬ (z_34.toInt = (0 : Int32).toInt) := fun h9 => c_35 (i_eq.mpr h9)
      refine lv_iconst (v := 0) hx hb dX11_may_63 (by decide) ?_
      refine lv_istore_n (lv' := [(3, .int 0), (1, .long y_33), (0, .ref vo)]) hx hb dX11_may_64 rfl hl (by decide) rfl (fun ls hl => ?_)
      have loop36 : ∀ (n36 : Nat) (x_37 : Int32) (g_38 : Nat → Int32), (0 ≤ x_37.toInt ∧ x_37.toInt ≤ 2) → 2 - x_37.toInt < (n36 : Int) → ∀ (H : Heap) (locs : List Loc), va_P (dC, dI) vwCl [(vmt, .inl (cy 0, 940, .inl vmtf)), (vmb, .inl (cy 0, 10, .inl g_38)), (vo, .inr (12, [.int 0, .ref vmt, .int votp_4, .int vosz, .int volm, .int voto, .int vofr, .int vokd, .int vonu, .int vosg, .int vofa, .int vopl, .long vowd, .int votd, .ref vmn, .ref vmr, .ref vmk, .ref vms, .ref vma, .ref vmm, .ref vmrn, .ref vmkn, .ref vmik, .ref vmon, .int vosm, .int vohp, .ref vmw, .ref vmf, .ref vmb, .int vomb, .ref vmd, .ref vmc, .int vocm, .int voct, .int vocy, .ref vmx, .int votx, .int vose, .ref vml, .ref vmwr, .int voln, .int vohw, .ref vmno, .int vond, .int voon, .int vowi, .int votop])), (vmn, .inl (cy 0, 575, .inl vmnf)), (vmw, .inl (cy 1, 5632, .inr (.inl vmwf_12))), (vmf, .inl (cy 0, 5632, .inl vmff_13))] H → va_D A [(vmt, .inl (cy 0, 940, .inl vmtf)), (vmb, .inl (cy 0, 10, .inl g_38)), (vo, .inr (12, [.int 0, .ref vmt, .int votp_4, .int vosz, .int volm, .int voto, .int vofr, .int vokd, .int vonu, .int vosg, .int vofa, .int vopl, .long vowd, .int votd, .ref vmn, .ref vmr, .ref vmk, .ref vms, .ref vma, .ref vmm, .ref vmrn, .ref vmkn, .ref vmik, .ref vmon, .int vosm, .int vohp, .ref vmw, .ref vmf, .ref vmb, .int vomb, .ref vmd, .ref vmc, .int vocm, .int voct, .int vocy, .ref vmx, .int votx, .int vose, .ref vml, .ref vmwr, .int voln, .int vohw, .ref vmno, .int vond, .int voon, .int vowi, .int votop])), (vmn, .inl (cy 0, 575, .inl vmnf)), (vmw, .inl (cy 1, 5632, .inr (.inl vmwf_12))), (vmf, .inl (cy 0, 5632, .inl vmff_13))] → va_S A s.heap H locs → ∀ ls : Array Slot, lv_has ls 7 [(3, .int x_37), (1, .long y_33), (0, .ref vo)] → W p l e ({ frames := 3, cells := 0, slots := 0, locals := 192 }) s m av9 below meth c H locs 0 0 Q9 (F0 m 65 ls []) := by
        intro n36
        induction n36 with
        | zero =>
          intro x_37 g_38 bx_37 hn36 H locs hP hD hS ls hl
          exfalso; omega
        | succ n36 ih36 =>
          intro x_37 g_38 bx_37 hn36 H locs hP hD hS ls hl
          refine lv_iload_n hx hb dX11_may_65 rfl (lv_at hl 0 rfl) ?_
          refine lv_iconst (v := 2) hx hb dX11_may_66 (by decide) ?_
          refine lv_icmp_ge (tgt := 205) hx hb dX11_may_67 (by decide) (fun c_39 => ?_) (fun c_39 => ?_)
          · skip
            have c_39 : (2 : Int32).toInt ≤ x_37.toInt := i_le.mp c_39
            refine lv_aload_n hx hb dX11_may_205 rfl (lv_at hl 2 rfl) ?_
            refine lv_aload_n hx hb dX11_may_206 rfl (lv_at hl 2 rfl) ?_
            refine gf_X11_98 hx hb hts hown hK hP 2 rfl rfl dX11_may_207 ?_
            refine lv_iconst (v := 1) hx hb dX11_may_210 (by decide) ?_
            have hin_40 : vp_in (1 : Int32) 575 := vp_in_iff.mpr ⟨by omega, by omega⟩
            refine va_iald hx hb hK hP 3 0 rfl rfl hin_40 dX11_may_211 ?_
            refine lv_topi (fun z_41 ez_41 => ?_)
            have bz_41 := p_vmnf.a1 (x := 1) ⟨by omega, by omega⟩ ez_41
            have tz_41 : z_41.toInt = (vmnf 1).toInt := by rw [ez_41]; rfl
            refine pf_X11_319 hx hb hts hown hK hP hD hS 2 rfl rfl rfl (Nat.le_of_ble_eq_true rfl) dX11_may_212 (fun H locs hP hD hS => ?_)
            have hP : va_P (dC, dI) vwCl [(vmt, .inl (cy 0, 940, .inl vmtf)), (vmb, .inl (cy 0, 10, .inl g_38)), (vo, .inr (12, [.int 0, .ref vmt, .int votp_4, .int vosz, .int volm, .int voto, .int vofr, .int vokd, .int vonu, .int vosg, .int vofa, .int vopl, .long vowd, .int votd, .ref vmn, .ref vmr, .ref vmk, .ref vms, .ref vma, .ref vmm, .ref vmrn, .ref vmkn, .ref vmik, .ref vmon, .int vosm, .int vohp, .ref vmw, .ref vmf, .ref vmb, .int z_41, .ref vmd, .ref vmc, .int vocm, .int voct, .int vocy, .ref vmx, .int votx, .int vose, .ref vml, .ref vmwr, .int voln, .int vohw, .ref vmno, .int vond, .int voon, .int vowi, .int votop])), (vmn, .inl (cy 0, 575, .inl vmnf)), (vmw, .inl (cy 1, 5632, .inr (.inl vmwf_12))), (vmf, .inl (cy 0, 5632, .inl vmff_13))] H := hP
            have hD : va_D A [(vmt, .inl (cy 0, 940, .inl vmtf)), (vmb, .inl (cy 0, 10, .inl g_38)), (vo, .inr (12, [.int 0, .ref vmt, .int votp_4, .int vosz, .int volm, .int voto, .int vofr, .int vokd, .int vonu, .int vosg, .int vofa, .int vopl, .long vowd, .int votd, .ref vmn, .ref vmr, .ref vmk, .ref vms, .ref vma, .ref vmm, .ref vmrn, .ref vmkn, .ref vmik, .ref vmon, .int vosm, .int vohp, .ref vmw, .ref vmf, .ref vmb, .int z_41, .ref vmd, .ref vmc, .int vocm, .int voct, .int vocy, .ref vmx, .int votx, .int vose, .ref vml, .ref vmwr, .int voln, .int vohw, .ref vmno, .int vond, .int voon, .int vowi, .int votop])), (vmn, .inl (cy 0, 575, .inl vmnf)), (vmw, .inl (cy 1, 5632, .inr (.inl vmwf_12))), (vmf, .inl (cy 0, 5632, .inl vmff_13))] := hD
            refine lv_lload_n hx hb dX11_may_215 rfl (lv_at hl 1 rfl) ?_
            rw [hQ9]
            exact re_l ((0 : Int32), votp_4, vmwf_12, vmff_13, g_38, z_41) hx hb hr hlocks ⟨(show 0 ≤ (votp_4 : Int32).toInt ∧ (votp_4 : Int32).toInt ≤ 0 from ⟨by omega, by omega⟩), (show Rg vmff_13 5632 0 100000 from q_14), (show 0 ≤ (z_41 : Int32).toInt ∧ (z_41 : Int32).toInt ≤ 10 from ⟨by omega, by omega⟩), (show ((votp : Int32).toInt ≠ 2 ∧ (y_33 : Int64) = -1) ∨ ((votp : Int32).toInt = 2 ∧ (y_33 : Int64) = su_C (suTm (fun e9 => vmnf (21 + e9)) 0) (suWt (fun e9 => vmnf (11 + e9))) (vmnf 1).toInt.toNat (vmtf 0).toInt.toNat * su_C (suTm (fun e9 => vmnf (21 + e9)) 1) (suWt (fun e9 => vmnf (11 + e9))) (vmnf 1).toInt.toNat (vmtf 1).toInt.toNat) from (Or.inr ⟨by omega, hM⟩))⟩ (hP.sub [2, 0, 3, 4, 5, 1] rfl) (hD.sub [2, 0, 3, 4, 5, 1] rfl rfl) hS dX11_may_216
          · skip
            have c_39 : ¬ ((2 : Int32).toInt ≤ x_37.toInt) := fun h9 => c_39 (i_le.mpr h9)
            refine lv_aload_n hx hb dX11_may_70 rfl (lv_at hl 2 rfl) ?_
            refine gf_X11_7 hx hb hts hown hK hP 2 rfl rfl dX11_may_71 ?_
            refine lv_iload_n hx hb dX11_may_74 rfl (lv_at hl 0 rfl) ?_
            have hin_42 : vp_in x_37 940 := vp_in_iff.mpr ⟨by omega, by omega⟩
            refine va_iald hx hb hK hP 0 0 rfl rfl hin_42 dX11_may_75 ?_
            refine lv_topi (fun z_43 ez_43 => ?_)
            have bz_43 := p_vmtf.at hin_42 ez_43
            refine lv_istore (lv' := [(4, .int z_43), (3, .int x_37), (1, .long y_33), (0, .ref vo)]) hx hb dX11_may_76 hl (by decide) rfl (fun ls hl => ?_)
            refine lv_iconst (v := 0) hx hb dX11_may_78 (by decide) ?_
            refine lv_istore (lv' := [(5, .int 0), (4, .int z_43), (3, .int x_37), (1, .long y_33), (0, .ref vo)]) hx hb dX11_may_79 hl (by decide) rfl (fun ls hl => ?_)
            have loop44 : ∀ (n44 : Nat) (x_46 : Int32) (x_45 : Int32) (g_47 : Nat → Int32), (0 ≤ x_46.toInt ∧ x_46.toInt ≤ 255) → (0 ≤ x_45.toInt ∧ x_45.toInt ≤ 10) → 10 - x_45.toInt < (n44 : Int) → ∀ (H : Heap) (locs : List Loc), va_P (dC, dI) vwCl [(vmt, .inl (cy 0, 940, .inl vmtf)), (vmb, .inl (cy 0, 10, .inl g_47)), (vo, .inr (12, [.int 0, .ref vmt, .int votp_4, .int vosz, .int volm, .int voto, .int vofr, .int vokd, .int vonu, .int vosg, .int vofa, .int vopl, .long vowd, .int votd, .ref vmn, .ref vmr, .ref vmk, .ref vms, .ref vma, .ref vmm, .ref vmrn, .ref vmkn, .ref vmik, .ref vmon, .int vosm, .int vohp, .ref vmw, .ref vmf, .ref vmb, .int vomb, .ref vmd, .ref vmc, .int vocm, .int voct, .int vocy, .ref vmx, .int votx, .int vose, .ref vml, .ref vmwr, .int voln, .int vohw, .ref vmno, .int vond, .int voon, .int vowi, .int votop])), (vmn, .inl (cy 0, 575, .inl vmnf)), (vmw, .inl (cy 1, 5632, .inr (.inl vmwf_12))), (vmf, .inl (cy 0, 5632, .inl vmff_13))] H → va_D A [(vmt, .inl (cy 0, 940, .inl vmtf)), (vmb, .inl (cy 0, 10, .inl g_47)), (vo, .inr (12, [.int 0, .ref vmt, .int votp_4, .int vosz, .int volm, .int voto, .int vofr, .int vokd, .int vonu, .int vosg, .int vofa, .int vopl, .long vowd, .int votd, .ref vmn, .ref vmr, .ref vmk, .ref vms, .ref vma, .ref vmm, .ref vmrn, .ref vmkn, .ref vmik, .ref vmon, .int vosm, .int vohp, .ref vmw, .ref vmf, .ref vmb, .int vomb, .ref vmd, .ref vmc, .int vocm, .int voct, .int vocy, .ref vmx, .int votx, .int vose, .ref vml, .ref vmwr, .int voln, .int vohw, .ref vmno, .int vond, .int voon, .int vowi, .int votop])), (vmn, .inl (cy 0, 575, .inl vmnf)), (vmw, .inl (cy 1, 5632, .inr (.inl vmwf_12))), (vmf, .inl (cy 0, 5632, .inl vmff_13))] → va_S A s.heap H locs → ∀ ls : Array Slot, lv_has ls 7 [(5, .int x_45), (4, .int x_46), (3, .int x_37), (1, .long y_33), (0, .ref vo)] → W p l e ({ frames := 3, cells := 0, slots := 0, locals := 192 }) s m av9 below meth c H locs 0 0 Q9 (F0 m 81 ls []) := by
              intro n44
              induction n44 with
              | zero =>
                intro x_46 x_45 g_47 bx_46 bx_45 hn44 H locs hP hD hS ls hl
                exfalso; omega
              | succ n44 ih44 =>
                intro x_46 x_45 g_47 bx_46 bx_45 hn44 H locs hP hD hS ls hl
                refine lv_iload hx hb dX11_may_81 (lv_at hl 0 rfl) ?_
                refine lv_aload_n hx hb dX11_may_83 rfl (lv_at hl 4 rfl) ?_
                refine gf_X11_98 hx hb hts hown hK hP 2 rfl rfl dX11_may_84 ?_
                refine lv_iconst (v := 1) hx hb dX11_may_87 (by decide) ?_
                have hin_48 : vp_in (1 : Int32) 575 := vp_in_iff.mpr ⟨by omega, by omega⟩
                refine va_iald hx hb hK hP 3 0 rfl rfl hin_48 dX11_may_88 ?_
                refine lv_topi (fun z_49 ez_49 => ?_)
                have bz_49 := p_vmnf.a1 (x := 1) ⟨by omega, by omega⟩ ez_49
                have tz_49 : z_49.toInt = (vmnf 1).toInt := by rw [ez_49]; rfl
                refine lv_icmp_ge (tgt := 199) hx hb dX11_may_89 (by decide) (fun c_50 => ?_) (fun c_50 => ?_)
                · skip
                  have c_50 : z_49.toInt ≤ x_45.toInt := i_le.mp c_50
                  obtain ⟨z_51, ez_51⟩ : ∃ z : Int32, z = x_37 + 1 := ⟨_, rfl⟩
                  have bz_51 : z_51.toInt = x_37.toInt + (1 : Int32).toInt := i_add ez_51 (by omega) (by omega)
                  refine lv_iinc (v := z_51) (lv' := [(3, .int z_51), (5, .int x_45), (4, .int x_46), (1, .long y_33), (0, .ref vo)]) hx hb dX11_may_199 hl (k := 2) rfl ez_51.symm (by decide) rfl (fun ls hl => ?_)
                  refine lv_goto (tgt := 65) hx hb dX11_may_202 (by decide) ?_
                  exact ih36 z_51 g_47 ⟨by omega, by omega⟩ (by omega) _ _ (hP.sub [0, 1, 2, 3, 4, 5] rfl) (hD.sub [0, 1, 2, 3, 4, 5] rfl rfl) hS ls (lv_sub hl [0, 3, 4] rfl)
                · skip
                  have c_50 : ¬ (z_49.toInt ≤ x_45.toInt) := fun h9 => c_50 (i_le.mpr h9)
                  refine lv_aload_n hx hb dX11_may_92 rfl (lv_at hl 4 rfl) ?_
                  refine gf_X11_98 hx hb hts hown hK hP 2 rfl rfl dX11_may_93 ?_
                  refine lv_bipush (v := 21) hx hb dX11_may_96 (by decide) ?_
                  refine lv_iload hx hb dX11_may_98 (lv_at hl 0 rfl) ?_
                  refine lv_iadd hx hb dX11_may_100 ?_
                  refine lv_topi (fun z_52 ez_52 => ?_)
                  have k_21 : (21 : Int32).toInt = 21 := by decide
                  have bz_52 : z_52.toInt = (21 : Int32).toInt + x_45.toInt := i_add ez_52 (by omega) (by omega)
                  have hin_53 : vp_in z_52 575 := vp_in_iff.mpr ⟨by omega, by omega⟩
                  refine va_iald hx hb hK hP 3 0 rfl rfl hin_53 dX11_may_101 ?_
                  refine lv_topi (fun z_54 ez_54 => ?_)
                  refine lv_iload_n hx hb dX11_may_102 rfl (lv_at hl 2 rfl) ?_
                  refine lv_icmp_eq (tgt := 109) hx hb dX11_may_103 (by decide) (fun c_55 => ?_) (fun c_55 => ?_)
                  · skip
                    have c_55 : z_54.toInt = x_37.toInt := i_eq.mp c_55
                    refine lv_iconst (v := 0) hx hb dX11_may_109 (by decide) ?_
                    refine lv_istore (lv' := [(6, .int 0), (5, .int x_45), (4, .int x_46), (3, .int x_37), (1, .long y_33), (0, .ref vo)]) hx hb dX11_may_110 hl (by decide) rfl (fun ls hl => ?_)
                    have loop56 : ∀ (n56 : Nat) (x_57 : Int32), (0 ≤ x_57.toInt ∧ x_57.toInt ≤ 10) → (WH vmff_13 vmnf (512 * x_45.toInt + 256 * x_37.toInt + x_46.toInt).toNat x_57.toInt) → 10 - x_57.toInt < (n56 : Int) → ∀ (H : Heap) (locs : List Loc), va_P (dC, dI) vwCl [(vmt, .inl (cy 0, 940, .inl vmtf)), (vmb, .inl (cy 0, 10, .inl g_47)), (vo, .inr (12, [.int 0, .ref vmt, .int votp_4, .int vosz, .int volm, .int voto, .int vofr, .int vokd, .int vonu, .int vosg, .int vofa, .int vopl, .long vowd, .int votd, .ref vmn, .ref vmr, .ref vmk, .ref vms, .ref vma, .ref vmm, .ref vmrn, .ref vmkn, .ref vmik, .ref vmon, .int vosm, .int vohp, .ref vmw, .ref vmf, .ref vmb, .int vomb, .ref vmd, .ref vmc, .int vocm, .int voct, .int vocy, .ref vmx, .int votx, .int vose, .ref vml, .ref vmwr, .int voln, .int vohw, .ref vmno, .int vond, .int voon, .int vowi, .int votop])), (vmn, .inl (cy 0, 575, .inl vmnf)), (vmw, .inl (cy 1, 5632, .inr (.inl vmwf_12))), (vmf, .inl (cy 0, 5632, .inl vmff_13))] H → va_D A [(vmt, .inl (cy 0, 940, .inl vmtf)), (vmb, .inl (cy 0, 10, .inl g_47)), (vo, .inr (12, [.int 0, .ref vmt, .int votp_4, .int vosz, .int volm, .int voto, .int vofr, .int vokd, .int vonu, .int vosg, .int vofa, .int vopl, .long vowd, .int votd, .ref vmn, .ref vmr, .ref vmk, .ref vms, .ref vma, .ref vmm, .ref vmrn, .ref vmkn, .ref vmik, .ref vmon, .int vosm, .int vohp, .ref vmw, .ref vmf, .ref vmb, .int vomb, .ref vmd, .ref vmc, .int vocm, .int voct, .int vocy, .ref vmx, .int votx, .int vose, .ref vml, .ref vmwr, .int voln, .int vohw, .ref vmno, .int vond, .int voon, .int vowi, .int votop])), (vmn, .inl (cy 0, 575, .inl vmnf)), (vmw, .inl (cy 1, 5632, .inr (.inl vmwf_12))), (vmf, .inl (cy 0, 5632, .inl vmff_13))] → va_S A s.heap H locs → ∀ ls : Array Slot, lv_has ls 7 [(6, .int x_57), (5, .int x_45), (4, .int x_46), (3, .int x_37), (1, .long y_33), (0, .ref vo)] → W p l e ({ frames := 3, cells := 0, slots := 0, locals := 192 }) s m av9 below meth c H locs 0 0 Q9 (F0 m 112 ls []) := by
                      intro n56
                      induction n56 with
                      | zero =>
                        intro x_57 bx_57 v56_0 hn56 H locs hP hD hS ls hl
                        exfalso; omega
                      | succ n56 ih56 =>
                        intro x_57 bx_57 v56_0 hn56 H locs hP hD hS ls hl
                        refine lv_aload_n hx hb dX11_may_112 rfl (lv_at hl 5 rfl) ?_
                        refine gf_X11_136 hx hb hts hown hK hP 2 rfl rfl dX11_may_113 ?_
                        refine lv_iload hx hb dX11_may_116 (lv_at hl 1 rfl) ?_
                        refine lv_iconst (v := 1) hx hb dX11_may_118 (by decide) ?_
                        refine lv_iadd hx hb dX11_may_119 ?_
                        refine lv_topi (fun z_58 ez_58 => ?_)
                        have bz_58 : z_58.toInt = x_45.toInt + (1 : Int32).toInt := i_add ez_58 (by omega) (by omega)
                        refine lv_iload_n hx hb dX11_may_120 rfl (lv_at hl 3 rfl) ?_
                        refine lv_iload hx hb dX11_may_121 (lv_at hl 2 rfl) ?_
                        refine lv_iload hx hb dX11_may_123 (lv_at hl 0 rfl) ?_
                        refine lv_aload_n hx hb dX11_may_125 rfl (lv_at hl 5 rfl) ?_
                        refine gf_X11_98 hx hb hts hown hK hP 2 rfl rfl dX11_may_126 ?_
                        refine lv_bipush (v := 11) hx hb dX11_may_129 (by decide) ?_
                        refine lv_iload hx hb dX11_may_131 (lv_at hl 1 rfl) ?_
                        refine lv_iadd hx hb dX11_may_133 ?_
                        refine lv_topi (fun z_59 ez_59 => ?_)
                        have k_11 : (11 : Int32).toInt = 11 := by decide
                        have bz_59 : z_59.toInt = (11 : Int32).toInt + x_45.toInt := i_add ez_59 (by omega) (by omega)
                        have hin_60 : vp_in z_59 575 := vp_in_iff.mpr ⟨by omega, by omega⟩
                        refine va_iald hx hb hK hP 3 0 rfl rfl hin_60 dX11_may_134 ?_
                        refine lv_topi (fun z_61 ez_61 => ?_)
                        have bz_61 := p_vmnf.aw (x := z_59) ⟨by omega, by omega⟩ ez_61
                        have hw_z_61 := WH.le (x := x_57) v56_0 (by omega) ⟨by omega, by omega⟩ ⟨by omega, by omega⟩ ⟨by omega, by omega⟩ (i1 := z_59) (by omega) ez_61 (by omega)
                        refine lv_imul hx hb dX11_may_135 ?_
                        refine lv_topi (fun z_62 ez_62 => ?_)
                        have bz_62 : 0 ≤ z_62.toInt ∧ z_62.toInt ≤ 400 ∧ z_62.toInt = x_57.toInt * z_61.toInt := i_mulb (A := 10) (B := 40) ez_62 ⟨by omega, by omega⟩ ⟨by omega, by omega⟩ (by decide)
                        refine lv_isub hx hb dX11_may_136 ?_
                        refine lv_topi (fun z_63 ez_63 => ?_)
                        have bz_63 : z_63.toInt = x_46.toInt - z_62.toInt := i_sub ez_63 (by omega) (by omega)
                        refine jr_i (rSr (As := [.int z_58, .int x_37, .int z_63]) (rest := [.ref vmf]) ⟨hx, hb, hml, hown, hts⟩ (m_cellOf l dC dI cy z_58 x_37 z_63 ⟨by omega, by omega⟩ ⟨by omega, by omega⟩ ⟨by omega, by omega⟩) (cw_X11_306 hts rfl rfl ⟨Nat.le_of_ble_eq_true rfl, Nat.le_of_ble_eq_true rfl⟩) hP hK [] rfl rfl hl.1 rfl (Nat.le_of_ble_eq_true rfl) dX11_may_137 ⟨Nat.le_of_ble_eq_true rfl, Nat.le_of_ble_eq_true rfl⟩) hP hS (fun r_64 H locs hp_65 hP hS => ?_)
                        have hp_65 : (0 ≤ (r_64 : Int32).toInt ∧ (r_64 : Int32).toInt ≤ 5631) ∧ ((r_64 : Int32).toInt = 512 * (z_58 : Int32).toInt + 256 * (x_37 : Int32).toInt + (z_63 : Int32).toInt) := hp_65
                        obtain ⟨q_66, q_67⟩ := hp_65
                        have hin_68 : vp_in r_64 5632 := vp_in_iff.mpr ⟨by omega, by omega⟩
                        refine va_iald hx hb hK hP 5 0 rfl rfl hin_68 dX11_may_140 ?_
                        refine lv_topi (fun z_69 ez_69 => ?_)
                        have bz_69 := q_14.at hin_68 ez_69
                        refine lv_iload hx hb dX11_may_141 (lv_at hl 0 rfl) ?_
                        refine lv_iadd hx hb dX11_may_143 ?_
                        refine lv_topi (fun z_70 ez_70 => ?_)
                        have bz_70 : z_70.toInt = z_69.toInt + x_57.toInt := i_add ez_70 (by omega) (by omega)
                        refine lv_aload_n hx hb dX11_may_144 rfl (lv_at hl 5 rfl) ?_
                        refine gf_X11_136 hx hb hts hown hK hP 2 rfl rfl dX11_may_145 ?_
                        refine lv_iload hx hb dX11_may_148 (lv_at hl 1 rfl) ?_
                        refine lv_iload_n hx hb dX11_may_150 rfl (lv_at hl 3 rfl) ?_
                        refine lv_iload hx hb dX11_may_151 (lv_at hl 2 rfl) ?_
                        refine jr_i (rSr (As := [.int x_45, .int x_37, .int x_46]) (rest := [.ref vmf, .int z_70]) ⟨hx, hb, hml, hown, hts⟩ (m_cellOf l dC dI cy x_45 x_37 x_46 ⟨by omega, by omega⟩ ⟨by omega, by omega⟩ ⟨by omega, by omega⟩) (cw_X11_306 hts rfl rfl ⟨Nat.le_of_ble_eq_true rfl, Nat.le_of_ble_eq_true rfl⟩) hP hK [] rfl rfl hl.1 rfl (Nat.le_of_ble_eq_true rfl) dX11_may_153 ⟨Nat.le_of_ble_eq_true rfl, Nat.le_of_ble_eq_true rfl⟩) hP hS (fun r_71 H locs hp_72 hP hS => ?_)
                        have hp_72 : (0 ≤ (r_71 : Int32).toInt ∧ (r_71 : Int32).toInt ≤ 5631) ∧ ((r_71 : Int32).toInt = 512 * (x_45 : Int32).toInt + 256 * (x_37 : Int32).toInt + (x_46 : Int32).toInt) := hp_72
                        obtain ⟨q_73, q_74⟩ := hp_72
                        have hin_75 : vp_in r_71 5632 := vp_in_iff.mpr ⟨by omega, by omega⟩
                        refine va_iald hx hb hK hP 5 0 rfl rfl hin_75 dX11_may_156 ?_
                        refine lv_topi (fun z_76 ez_76 => ?_)
                        have bz_76 := q_14.at hin_75 ez_76
                        refine lv_icmp_eq (tgt := 166) hx hb dX11_may_157 (by decide) (fun c_77 => ?_) (fun c_77 => ?_)
                        · skip
                          have c_77 : z_70.toInt = z_76.toInt := i_eq.mp c_77
                          refine lv_aload_n hx hb dX11_may_166 rfl (lv_at hl 5 rfl) ?_
                          refine gf_X11_139 hx hb hts hown hK hP 2 rfl rfl dX11_may_167 ?_
                          refine lv_iload hx hb dX11_may_170 (lv_at hl 1 rfl) ?_
                          refine lv_iload hx hb dX11_may_172 (lv_at hl 0 rfl) ?_
                          have hin_78 : vp_in x_45 10 := vp_in_iff.mpr ⟨by omega, by omega⟩
                          refine va_iast hx hb hK hP hD hS 1 0 rfl rfl hin_78 dX11_may_174 (fun H locs hP hD hS => ?_)
                          obtain ⟨f_79, ef_79⟩ : ∃ z : Nat → Int32, z = upd g_47 (Int32.toNatClampNeg x_45) x_57 := ⟨_, rfl⟩
                          have hP : va_P (dC, dI) vwCl [(vmt, .inl (cy 0, 940, .inl vmtf)), (vmb, .inl (cy 0, 10, .inl f_79)), (vo, .inr (12, [.int 0, .ref vmt, .int votp_4, .int vosz, .int volm, .int voto, .int vofr, .int vokd, .int vonu, .int vosg, .int vofa, .int vopl, .long vowd, .int votd, .ref vmn, .ref vmr, .ref vmk, .ref vms, .ref vma, .ref vmm, .ref vmrn, .ref vmkn, .ref vmik, .ref vmon, .int vosm, .int vohp, .ref vmw, .ref vmf, .ref vmb, .int vomb, .ref vmd, .ref vmc, .int vocm, .int voct, .int vocy, .ref vmx, .int votx, .int vose, .ref vml, .ref vmwr, .int voln, .int vohw, .ref vmno, .int vond, .int voon, .int vowi, .int votop])), (vmn, .inl (cy 0, 575, .inl vmnf)), (vmw, .inl (cy 1, 5632, .inr (.inl vmwf_12))), (vmf, .inl (cy 0, 5632, .inl vmff_13))] H := by rw [ef_79]; exact hP
                          have hD : va_D A [(vmt, .inl (cy 0, 940, .inl vmtf)), (vmb, .inl (cy 0, 10, .inl f_79)), (vo, .inr (12, [.int 0, .ref vmt, .int votp_4, .int vosz, .int volm, .int voto, .int vofr, .int vokd, .int vonu, .int vosg, .int vofa, .int vopl, .long vowd, .int votd, .ref vmn, .ref vmr, .ref vmk, .ref vms, .ref vma, .ref vmm, .ref vmrn, .ref vmkn, .ref vmik, .ref vmon, .int vosm, .int vohp, .ref vmw, .ref vmf, .ref vmb, .int vomb, .ref vmd, .ref vmc, .int vocm, .int voct, .int vocy, .ref vmx, .int votx, .int vose, .ref vml, .ref vmwr, .int voln, .int vohw, .ref vmno, .int vond, .int voon, .int vowi, .int votop])), (vmn, .inl (cy 0, 575, .inl vmnf)), (vmw, .inl (cy 1, 5632, .inr (.inl vmwf_12))), (vmf, .inl (cy 0, 5632, .inl vmff_13))] := by rw [ef_79]; exact hD
                          refine lv_iload hx hb dX11_may_175 (lv_at hl 2 rfl) ?_
                          refine lv_iload hx hb dX11_may_177 (lv_at hl 0 rfl) ?_
                          refine lv_aload_n hx hb dX11_may_179 rfl (lv_at hl 5 rfl) ?_
                          refine gf_X11_98 hx hb hts hown hK hP 2 rfl rfl dX11_may_180 ?_
                          refine lv_bipush (v := 11) hx hb dX11_may_183 (by decide) ?_
                          refine lv_iload hx hb dX11_may_185 (lv_at hl 1 rfl) ?_
                          refine lv_iadd hx hb dX11_may_187 ?_
                          refine lv_topi (fun z_80 ez_80 => ?_)
                          have bz_80 : z_80.toInt = (11 : Int32).toInt + x_45.toInt := i_add ez_80 (by omega) (by omega)
                          have hin_81 : vp_in z_80 575 := vp_in_iff.mpr ⟨by omega, by omega⟩
                          refine va_iald hx hb hK hP 3 0 rfl rfl hin_81 dX11_may_188 ?_
                          refine lv_topi (fun z_82 ez_82 => ?_)
                          have bz_82 := p_vmnf.aw (x := z_80) ⟨by omega, by omega⟩ ez_82
                          refine as_i z_61 (i_eq.mpr (i_same ez_61 ez_82 (by omega))) ?_
                          refine lv_imul hx hb dX11_may_189 ?_
                          refine lv_topi (fun z_83 ez_83 => ?_)
                          have bz_83 : 0 ≤ z_83.toInt ∧ z_83.toInt ≤ 400 ∧ z_83.toInt = x_57.toInt * z_61.toInt := i_mulb (A := 10) (B := 40) ez_83 ⟨by omega, by omega⟩ ⟨by omega, by omega⟩ (by decide)
                          refine lv_isub hx hb dX11_may_190 ?_
                          refine lv_topi (fun z_84 ez_84 => ?_)
                          have bz_84 : z_84.toInt = x_46.toInt - z_83.toInt := i_sub ez_84 (by omega) (by omega)
                          refine lv_istore (lv' := [(4, .int z_84), (6, .int x_57), (5, .int x_45), (3, .int x_37), (1, .long y_33), (0, .ref vo)]) hx hb dX11_may_191 hl (by decide) rfl (fun ls hl => ?_)
                          obtain ⟨z_85, ez_85⟩ : ∃ z : Int32, z = x_45 + 1 := ⟨_, rfl⟩
                          have bz_85 : z_85.toInt = x_45.toInt + (1 : Int32).toInt := i_add ez_85 (by omega) (by omega)
                          refine lv_iinc (v := z_85) (lv' := [(5, .int z_85), (4, .int z_84), (6, .int x_57), (3, .int x_37), (1, .long y_33), (0, .ref vo)]) hx hb dX11_may_193 hl (k := 2) rfl ez_85.symm (by decide) rfl (fun ls hl => ?_)
                          refine lv_goto (tgt := 81) hx hb dX11_may_196 (by decide) ?_
                          exact ih44 z_84 z_85 f_79 ⟨by omega, by omega⟩ ⟨by omega, by omega⟩ (by omega) _ _ (hP.sub [0, 1, 2, 3, 4, 5] rfl) (hD.sub [0, 1, 2, 3, 4, 5] rfl rfl) hS ls (lv_sub hl [0, 1, 3, 4, 5] rfl)
                        · skip
                          have c_77 : ¬ (z_70.toInt = z_76.toInt) := fun h9 => c_77 (i_eq.mpr h9)
                          obtain ⟨z_86, ez_86⟩ : ∃ z : Int32, z = x_57 + 1 := ⟨_, rfl⟩
                          have bz_86 : z_86.toInt = x_57.toInt + (1 : Int32).toInt := i_add ez_86 (by omega) (by omega)
                          refine lv_iinc (v := z_86) (lv' := [(6, .int z_86), (5, .int x_45), (4, .int x_46), (3, .int x_37), (1, .long y_33), (0, .ref vo)]) hx hb dX11_may_160 hl (k := 0) rfl ez_86.symm (by decide) rfl (fun ls hl => ?_)
                          refine lv_goto (tgt := 112) hx hb dX11_may_163 (by decide) ?_
                          exact ih56 z_86 ⟨by omega, by omega⟩ (WH.next v56_0 (by omega) ⟨by omega, by omega⟩ ⟨by omega, by omega⟩ ⟨by omega, by omega⟩ (i1 := z_59) (by omega) ez_61 bz_62.2.2 ⟨by omega, by omega⟩ (nx := r_64) (by omega) ez_69 (v := z_70) (by omega) (r2 := r_71) (by omega) ez_76 c_77 (by omega)) (by omega) _ _ (hP.sub [0, 1, 2, 3, 4, 5] rfl) (hD.sub [0, 1, 2, 3, 4, 5] rfl rfl) hS ls (lv_sub hl [0, 1, 2, 3, 4, 5] rfl)
                    exact loop56 ((10 - (0 : Int32).toInt).toNat + 1) 0 ⟨by omega, by omega⟩ (WH.of (q_15 _ (by omega)) (by omega)) (by omega) _ _ hP hD hS ls (lv_sub hl [0, 1, 2, 3, 4, 5] rfl)
                  · skip
                    have c_55 : ¬ (z_54.toInt = x_37.toInt) := fun h9 => c_55 (i_eq.mpr h9)
                    refine lv_goto (tgt := 193) hx hb dX11_may_106 (by decide) ?_
                    obtain ⟨z_87, ez_87⟩ : ∃ z : Int32, z = x_45 + 1 := ⟨_, rfl⟩
                    have bz_87 : z_87.toInt = x_45.toInt + (1 : Int32).toInt := i_add ez_87 (by omega) (by omega)
                    refine lv_iinc (v := z_87) (lv' := [(5, .int z_87), (4, .int x_46), (3, .int x_37), (1, .long y_33), (0, .ref vo)]) hx hb dX11_may_193 hl (k := 0) rfl ez_87.symm (by decide) rfl (fun ls hl => ?_)
                    refine lv_goto (tgt := 81) hx hb dX11_may_196 (by decide) ?_
                    exact ih44 x_46 z_87 g_47 ⟨by omega, by omega⟩ ⟨by omega, by omega⟩ (by omega) _ _ (hP.sub [0, 1, 2, 3, 4, 5] rfl) (hD.sub [0, 1, 2, 3, 4, 5] rfl rfl) hS ls (lv_sub hl [0, 1, 2, 3, 4] rfl)
            exact loop44 ((10 - (0 : Int32).toInt).toNat + 1) z_43 0 g_38 ⟨by omega, by omega⟩ ⟨by omega, by omega⟩ (by omega) _ _ hP hD hS ls (lv_sub hl [0, 1, 2, 3, 4] rfl)
      exact loop36 ((2 - (0 : Int32).toInt).toNat + 1) 0 vmbf ⟨by omega, by omega⟩ (by omega) _ _ hP hD hS ls (lv_sub hl [0, 1, 2] rfl)
    · skip
      have c_35 : z_34.toInt = (0 : Int32).toInt := i_eq.mp c_35
      refine lv_lconst (v := 0) hx hb dX11_may_61 (by decide) ?_
      rw [hQ9]
      exact re_l ((0 : Int32), votp_4, vmwf_12, vmff_13, vmbf, vomb) hx hb hr hlocks ⟨(show 0 ≤ (votp_4 : Int32).toInt ∧ (votp_4 : Int32).toInt ≤ 0 from ⟨by omega, by omega⟩), (show Rg vmff_13 5632 0 100000 from q_14), (show 0 ≤ (vomb : Int32).toInt ∧ (vomb : Int32).toInt ≤ 10 from ⟨by omega, by omega⟩), (show ((votp : Int32).toInt ≠ 2 ∧ ((0 : Int64) : Int64) = -1) ∨ ((votp : Int32).toInt = 2 ∧ ((0 : Int64) : Int64) = su_C (suTm (fun e9 => vmnf (21 + e9)) 0) (suWt (fun e9 => vmnf (11 + e9))) (vmnf 1).toInt.toNat (vmtf 0).toInt.toNat * su_C (suTm (fun e9 => vmnf (21 + e9)) 1) (suWt (fun e9 => vmnf (11 + e9))) (vmnf 1).toInt.toNat (vmtf 1).toInt.toNat) from (Or.inr ⟨by omega, ((l_cmp0 ez_34).mp c_35).symm.trans hM⟩))⟩ (hP.sub [2, 0, 3, 4, 5, 1] rfl) (hD.sub [2, 0, 3, 4, 5, 1] rfl rfl) hS dX11_may_62
  · skip
    have c_8 : ¬ (r_1.toInt = (2 : Int32).toInt) := fun h9 => c_8 (i_eq.mpr h9)
    refine lv_ldc2 hx hb hown (hts _ t1885) dX11_may_13 ?_
    rw [hQ9]
    exact re_l ((0 : Int32), votp_4, vmwf, vmff, vmbf, vomb) hx hb hr hlocks ⟨(show 0 ≤ (votp_4 : Int32).toInt ∧ (votp_4 : Int32).toInt ≤ 0 from ⟨by omega, by omega⟩), (show Rg vmff 5632 0 100000 from p_vmff), (show 0 ≤ (vomb : Int32).toInt ∧ (vomb : Int32).toInt ≤ 10 from ⟨by omega, by omega⟩), (show ((votp : Int32).toInt ≠ 2 ∧ (((-1) : Int64) : Int64) = -1) ∨ ((votp : Int32).toInt = 2 ∧ (((-1) : Int64) : Int64) = su_C (suTm (fun e9 => vmnf (21 + e9)) 0) (suWt (fun e9 => vmnf (11 + e9))) (vmnf 1).toInt.toNat (vmtf 0).toInt.toNat * su_C (suTm (fun e9 => vmnf (21 + e9)) 1) (suWt (fun e9 => vmnf (11 + e9))) (vmnf 1).toInt.toNat (vmtf 1).toInt.toNat) from (Or.inl ⟨by omega, rfl⟩))⟩ (hP.sub [5, 0, 1, 2, 3, 4] rfl) (hD.sub [5, 0, 1, 2, 3, 4] rfl rfl) hS dX11_may_16
