theorem mbI_2 {f3 f4 tb mb : Nat → Int32} {D : Nat} {c : Int} (h : mbI f3 f4 tb mb D c 0) (hc : 2 ≤ c) : mbI f3 f4 tb mb D 2 0 := by
  intro j h1 h2 h3
  refine h j h1 h2 (Or.inl ?_)
  rcases h3 with h3 | ⟨_, h3⟩
  · omega
  · exfalso; omega
abbrev O_s_may (cy : Nat → ClassId) (vnh : Nat → Int32) (vo : Nat) (voth : Int32) (vmt : Nat) (votp : Int32) (vosz : Int32) (volm : Int32) (voto : Int32) (vofr : Int32) (vokd : Int32) (vonu : Int32) (vosg : Int32) (vofa : Int32) (vopl : Int32) (vowd : Int64) (votd : Int32) (vmn : Nat) (vmr : Nat) (vmk : Nat) (vms : Nat) (vma : Nat) (vmm : Nat) (vmrn : Nat) (vmkn : Nat) (vmik : Nat) (vmon : Nat) (vosm : Int32) (vohp : Int32) (vmw : Nat) (vmf : Nat) (vmb : Nat) (vomb : Int32) (vmd : Nat) (vmc : Nat) (vocm : Int32) (voct : Int32) (vocy : Int32) (vmx : Nat) (votx : Int32) (vose : Int32) (vml : Nat) (vmwr : Nat) (voln : Int32) (vohw : Int32) (vmno : Nat) (vond : Int32) (voon : Int32) (vowi : Int32) (votop : Int32) (vmtf : Nat → Int32) (vmnf : Nat → Int32) (vmwf : Nat → Int64) (vmff : Nat → Int32) (vmbf : Nat → Int32) (u : Int32 × Int32 × (Nat → Int64) × (Nat → Int32) × (Nat → Int32) × Int32) : va_W := [(vo, .inr (12, [.int u.1, .ref vmt, .int u.2.1, .int vosz, .int volm, .int voto, .int vofr, .int vokd, .int vonu, .int vosg, .int vofa, .int vopl, .long vowd, .int votd, .ref vmn, .ref vmr, .ref vmk, .ref vms, .ref vma, .ref vmm, .ref vmrn, .ref vmkn, .ref vmik, .ref vmon, .int vosm, .int vohp, .ref vmw, .ref vmf, .ref vmb, .int u.2.2.2.2.2, .ref vmd, .ref vmc, .int vocm, .int voct, .int vocy, .ref vmx, .int votx, .int vose, .ref vml, .ref vmwr, .int voln, .int vohw, .ref vmno, .int vond, .int voon, .int vowi, .int votop])), (vmt, .inl (cy 0, 940, .inl vmtf)), (vmn, .inl (cy 0, 575, .inl vmnf)), (vmw, .inl (cy 1, 5632, .inr (.inl u.2.2.1))), (vmf, .inl (cy 0, 5632, .inl u.2.2.2.1)), (vmb, .inl (cy 0, 10, .inl u.2.2.2.2.1))]
set_option maxHeartbeats 4000000 in
set_option maxRecDepth 100000 in
theorem s_may (l : Launch) (dC : Nat → ClassId) (dI : Nat → Nat → Nat) (cy : Nat → ClassId) (sz : Nat) (vnh : Nat → Int32) (vo : Nat) (voth : Int32) (vmt : Nat) (votp : Int32) (vosz : Int32) (volm : Int32) (voto : Int32) (vofr : Int32) (vokd : Int32) (vonu : Int32) (vosg : Int32) (vofa : Int32) (vopl : Int32) (vowd : Int64) (votd : Int32) (vmn : Nat) (vmr : Nat) (vmk : Nat) (vms : Nat) (vma : Nat) (vmm : Nat) (vmrn : Nat) (vmkn : Nat) (vmik : Nat) (vmon : Nat) (vosm : Int32) (vohp : Int32) (vmw : Nat) (vmf : Nat) (vmb : Nat) (vomb : Int32) (vmd : Nat) (vmc : Nat) (vocm : Int32) (voct : Int32) (vocy : Int32) (vmx : Nat) (votx : Int32) (vose : Int32) (vml : Nat) (vmwr : Nat) (voln : Int32) (vohw : Int32) (vmno : Nat) (vond : Int32) (voon : Int32) (vowi : Int32) (votop : Int32) (vmtf : Nat → Int32) (vmnf : Nat → Int32) (vmwf : Nat → Int64) (vmff : Nat → Int32) (vmbf : Nat → Int32) (r_votp : 0 ≤ (votp : Int32).toInt ∧ (votp : Int32).toInt ≤ 940) (r_vomb : 0 ≤ (vomb : Int32).toInt ∧ (vomb : Int32).toInt ≤ 10) (p_vmtf : Rg vmtf 940 0 255) (p_vmnf : NW vnh vmnf) (p_vmff : Rg vmff 5632 0 100000) : Met l yX11_may (wl yX11_may cX11_may 7 (some .long)) ({ frames := 3, cells := 0, slots := 0, locals := 192 }) (Pw (dC, dI) vwCl cy [(vo, .inr (12, [.int voth, .ref vmt, .int votp, .int vosz, .int volm, .int voto, .int vofr, .int vokd, .int vonu, .int vosg, .int vofa, .int vopl, .long vowd, .int votd, .ref vmn, .ref vmr, .ref vmk, .ref vms, .ref vma, .ref vmm, .ref vmrn, .ref vmkn, .ref vmik, .ref vmon, .int vosm, .int vohp, .ref vmw, .ref vmf, .ref vmb, .int vomb, .ref vmd, .ref vmc, .int vocm, .int voct, .int vocy, .ref vmx, .int votx, .int vose, .ref vml, .ref vmwr, .int voln, .int vohw, .ref vmno, .int vond, .int voon, .int vowi, .int votop])), (vmt, .inl (cy 0, 940, .inl vmtf)), (vmn, .inl (cy 0, 575, .inl vmnf)), (vmw, .inl (cy 1, 5632, .inr (.inl vmwf))), (vmf, .inl (cy 0, 5632, .inl vmff)), (vmb, .inl (cy 0, 10, .inl vmbf))] sz [.ref vo] nE) (Ql (dC, dI) vwCl (fun (r : Int64) (u : Int32 × Int32 × (Nat → Int64) × (Nat → Int32) × (Nat → Int32) × Int32) => (0 ≤ (u.2.1 : Int32).toInt ∧ (u.2.1 : Int32).toInt ≤ 0) ∧ (Rg u.2.2.2.1 5632 0 100000) ∧ (0 ≤ (u.2.2.2.2.2 : Int32).toInt ∧ (u.2.2.2.2.2 : Int32).toInt ≤ 10) ∧ (((votp : Int32).toInt ≠ 2 ∧ (r : Int64) = -1) ∨ ((votp : Int32).toInt = 2 ∧ (r : Int64) = su_C (suTm (fun e9 => vmnf (21 + e9)) 0) (suWt (fun e9 => vmnf (11 + e9))) (vmnf 1).toInt.toNat (vmtf 0).toInt.toNat * su_C (suTm (fun e9 => vmnf (21 + e9)) 1) (suWt (fun e9 => vmnf (11 + e9))) (vmnf 1).toInt.toNat (vmtf 1).toInt.toNat)) ∧ (mayPM vmbf u.2.2.2.2.1 (vomb : Int32).toInt (u.2.2.2.2.2 : Int32).toInt (fun e9 => vmnf (11 + e9)) (fun e9 => vmnf (21 + e9)) vmtf (vmnf 1).toInt.toNat (votp : Int32).toInt (r : Int64))) (O_s_may cy vnh vo voth vmt votp vosz volm voto vofr vokd vonu vosg vofa vopl vowd votd vmn vmr vmk vms vma vmm vmrn vmkn vmik vmon vosm vohp vmw vmf vmb vomb vmd vmc vocm voct vocy vmx votx vose vml vmwr voln vohw vmno vond voon vowi votop vmtf vmnf vmwf vmff vmbf) (va_A [(vo, .inr (12, [.int voth, .ref vmt, .int votp, .int vosz, .int volm, .int voto, .int vofr, .int vokd, .int vonu, .int vosg, .int vofa, .int vopl, .long vowd, .int votd, .ref vmn, .ref vmr, .ref vmk, .ref vms, .ref vma, .ref vmm, .ref vmrn, .ref vmkn, .ref vmik, .ref vmon, .int vosm, .int vohp, .ref vmw, .ref vmf, .ref vmb, .int vomb, .ref vmd, .ref vmc, .int vocm, .int voct, .int vocy, .ref vmx, .int votx, .int vose, .ref vml, .ref vmwr, .int voln, .int vohw, .ref vmno, .int vond, .int voon, .int vowi, .int votop])), (vmt, .inl (cy 0, 940, .inl vmtf)), (vmn, .inl (cy 0, 575, .inl vmnf)), (vmw, .inl (cy 1, 5632, .inr (.inl vmwf))), (vmf, .inl (cy 0, 5632, .inl vmff)), (vmb, .inl (cy 0, 10, .inl vmbf))] sz)) 0 0 (va_A [(vo, .inr (12, [.int voth, .ref vmt, .int votp, .int vosz, .int volm, .int voto, .int vofr, .int vokd, .int vonu, .int vosg, .int vofa, .int vopl, .long vowd, .int votd, .ref vmn, .ref vmr, .ref vmk, .ref vms, .ref vma, .ref vmm, .ref vmrn, .ref vmkn, .ref vmik, .ref vmon, .int vosm, .int vohp, .ref vmw, .ref vmf, .ref vmb, .int vomb, .ref vmd, .ref vmc, .int vocm, .int voct, .int vocy, .ref vmx, .int votx, .int vose, .ref vml, .ref vmwr, .int voln, .int vohw, .ref vmno, .int vond, .int voon, .int vowi, .int votop])), (vmt, .inl (cy 0, 940, .inl vmtf)), (vmn, .inl (cy 0, 575, .inl vmnf)), (vmw, .inl (cy 1, 5632, .inr (.inl vmwf))), (vmf, .inl (cy 0, 5632, .inl vmff)), (vmb, .inl (cy 0, 10, .inl vmbf))] sz) := by
  refine mw (Qc := Ql (dC, dI) vwCl (fun (r : Int64) (u : Int32 × Int32 × (Nat → Int64) × (Nat → Int32) × (Nat → Int32) × Int32) => (0 ≤ (u.2.1 : Int32).toInt ∧ (u.2.1 : Int32).toInt ≤ 0) ∧ (Rg u.2.2.2.1 5632 0 100000) ∧ (0 ≤ (u.2.2.2.2.2 : Int32).toInt ∧ (u.2.2.2.2.2 : Int32).toInt ≤ 10) ∧ (((votp : Int32).toInt ≠ 2 ∧ (r : Int64) = -1) ∨ ((votp : Int32).toInt = 2 ∧ (r : Int64) = su_C (suTm (fun e9 => vmnf (21 + e9)) 0) (suWt (fun e9 => vmnf (11 + e9))) (vmnf 1).toInt.toNat (vmtf 0).toInt.toNat * su_C (suTm (fun e9 => vmnf (21 + e9)) 1) (suWt (fun e9 => vmnf (11 + e9))) (vmnf 1).toInt.toNat (vmtf 1).toInt.toNat)) ∧ (mayPM vmbf u.2.2.2.2.1 (vomb : Int32).toInt (u.2.2.2.2.2 : Int32).toInt (fun e9 => vmnf (11 + e9)) (fun e9 => vmnf (21 + e9)) vmtf (vmnf 1).toInt.toNat (votp : Int32).toInt (r : Int64))) (O_s_may cy vnh vo voth vmt votp vosz volm voto vofr vokd vonu vosg vofa vopl vowd votd vmn vmr vmk vms vma vmm vmrn vmkn vmik vmon vosm vohp vmw vmf vmb vomb vmd vmc vocm voct vocy vmx votx vose vml vmwr voln vohw vmno vond voon vowi votop vmtf vmnf vmwf vmff vmbf)) RX11 rfl (by decide +kernel) (Nat.le_of_ble_eq_true rfl) ?_
  intro p e s m below meth c A hx hb hr hlocks av9 hav hts hown hnm hml hK hP hD hA hS hE hAe Q9 hQ9 ls hl
  have hl : lv_has ls 7 [(0, .ref vo)] := hl
  refine lv_aload_n hx hb dX11_may_0 rfl (lv_at hl 0 rfl) ?_
  refine lv_iconst (v := 0) hx hb dX11_may_1 (by decide) ?_
  refine pf_X11_1 hx hb hts hown hK hP hD hS 0 rfl rfl rfl (Nat.le_of_ble_eq_true rfl) dX11_may_2 (fun H locs hP hD hS => ?_)
  have hP : va_P (dC, dI) vwCl [(vo, .inr (12, [.int 0, .ref vmt, .int votp, .int vosz, .int volm, .int voto, .int vofr, .int vokd, .int vonu, .int vosg, .int vofa, .int vopl, .long vowd, .int votd, .ref vmn, .ref vmr, .ref vmk, .ref vms, .ref vma, .ref vmm, .ref vmrn, .ref vmkn, .ref vmik, .ref vmon, .int vosm, .int vohp, .ref vmw, .ref vmf, .ref vmb, .int vomb, .ref vmd, .ref vmc, .int vocm, .int voct, .int vocy, .ref vmx, .int votx, .int vose, .ref vml, .ref vmwr, .int voln, .int vohw, .ref vmno, .int vond, .int voon, .int vowi, .int votop])), (vmt, .inl (cy 0, 940, .inl vmtf)), (vmn, .inl (cy 0, 575, .inl vmnf)), (vmw, .inl (cy 1, 5632, .inr (.inl vmwf))), (vmf, .inl (cy 0, 5632, .inl vmff)), (vmb, .inl (cy 0, 10, .inl vmbf))] H := hP
  have hD : va_D A [(vo, .inr (12, [.int 0, .ref vmt, .int votp, .int vosz, .int volm, .int voto, .int vofr, .int vokd, .int vonu, .int vosg, .int vofa, .int vopl, .long vowd, .int votd, .ref vmn, .ref vmr, .ref vmk, .ref vms, .ref vma, .ref vmm, .ref vmrn, .ref vmkn, .ref vmik, .ref vmon, .int vosm, .int vohp, .ref vmw, .ref vmf, .ref vmb, .int vomb, .ref vmd, .ref vmc, .int vocm, .int voct, .int vocy, .ref vmx, .int votx, .int vose, .ref vml, .ref vmwr, .int voln, .int vohw, .ref vmno, .int vond, .int voon, .int vowi, .int votop])), (vmt, .inl (cy 0, 940, .inl vmtf)), (vmn, .inl (cy 0, 575, .inl vmnf)), (vmw, .inl (cy 1, 5632, .inr (.inl vmwf))), (vmf, .inl (cy 0, 5632, .inl vmff)), (vmb, .inl (cy 0, 10, .inl vmbf))] := hD
  refine lv_aload_n hx hb dX11_may_5 rfl (lv_at hl 0 rfl) ?_
  have k_0 : (0 : Int32).toInt = 0 := by decide
  refine jn_i (wr := [(vmt, .inl (cy 0, 940, .inl vmtf)), (vmn, .inl (cy 0, 575, .inl vmnf)), (vmw, .inl (cy 1, 5632, .inr (.inl vmwf))), (vmf, .inl (cy 0, 5632, .inl vmff)), (vmb, .inl (cy 0, 10, .inl vmbf))]) (rV (As := []) (rest := []) (ci := 12) ⟨hx, hb, hml, hown, hts⟩ (s_take l dC dI cy _ vo 0 vmt votp vosz volm voto vofr vokd vonu vosg vofa vopl vowd votd vmn vmr vmk vms vma vmm vmrn vmkn vmik vmon vosm vohp vmw vmf vmb vomb vmd vmc vocm voct vocy vmx votx vose vml vmwr voln vohw vmno vond voon vowi votop r_votp) (cw_X11_89 hts rfl rfl ⟨Nat.le_of_ble_eq_true rfl, Nat.le_of_ble_eq_true rfl⟩) hP hD hK [0] rfl rfl rfl rfl bl0 e0 rfl hl.1 rfl (Nat.le_of_ble_eq_true rfl) dX11_may_6 ⟨Nat.le_of_ble_eq_true rfl, Nat.le_of_ble_eq_true rfl⟩) hP hD hS hA [0] [1, 2, 3, 4, 5] rfl rfl rfl (by decide) (fun r_1 u_3 H locs hp_2 hP hD hS => ?_)
  obtain ⟨votp_4, rfl⟩ : ∃ z, z = u_3 := ⟨_, rfl⟩
  have hp_2 : (0 ≤ (r_1 : Int32).toInt ∧ (r_1 : Int32).toInt ≤ 940) ∧ (0 ≤ (votp_4 : Int32).toInt ∧ (votp_4 : Int32).toInt ≤ 0) ∧ ((r_1 : Int32).toInt = (votp : Int32).toInt) := hp_2
  obtain ⟨q_5, q_6, q_7⟩ := hp_2
  have hP : va_P (dC, dI) vwCl [(vmt, .inl (cy 0, 940, .inl vmtf)), (vmn, .inl (cy 0, 575, .inl vmnf)), (vmw, .inl (cy 1, 5632, .inr (.inl vmwf))), (vmf, .inl (cy 0, 5632, .inl vmff)), (vmb, .inl (cy 0, 10, .inl vmbf)), (vo, .inr (12, [.int 0, .ref vmt, .int votp_4, .int vosz, .int volm, .int voto, .int vofr, .int vokd, .int vonu, .int vosg, .int vofa, .int vopl, .long vowd, .int votd, .ref vmn, .ref vmr, .ref vmk, .ref vms, .ref vma, .ref vmm, .ref vmrn, .ref vmkn, .ref vmik, .ref vmon, .int vosm, .int vohp, .ref vmw, .ref vmf, .ref vmb, .int vomb, .ref vmd, .ref vmc, .int vocm, .int voct, .int vocy, .ref vmx, .int votx, .int vose, .ref vml, .ref vmwr, .int voln, .int vohw, .ref vmno, .int vond, .int voon, .int vowi, .int votop]))] H := hP
  have hD : va_D A [(vmt, .inl (cy 0, 940, .inl vmtf)), (vmn, .inl (cy 0, 575, .inl vmnf)), (vmw, .inl (cy 1, 5632, .inr (.inl vmwf))), (vmf, .inl (cy 0, 5632, .inl vmff)), (vmb, .inl (cy 0, 10, .inl vmbf)), (vo, .inr (12, [.int 0, .ref vmt, .int votp_4, .int vosz, .int volm, .int voto, .int vofr, .int vokd, .int vonu, .int vosg, .int vofa, .int vopl, .long vowd, .int votd, .ref vmn, .ref vmr, .ref vmk, .ref vms, .ref vma, .ref vmm, .ref vmrn, .ref vmkn, .ref vmik, .ref vmon, .int vosm, .int vohp, .ref vmw, .ref vmf, .ref vmb, .int vomb, .ref vmd, .ref vmc, .int vocm, .int voct, .int vocy, .ref vmx, .int votx, .int vose, .ref vml, .ref vmwr, .int voln, .int vohw, .ref vmno, .int vond, .int voon, .int vowi, .int votop]))] := hD
  refine lv_iconst (v := 2) hx hb dX11_may_9 (by decide) ?_
  have k_2 : (2 : Int32).toInt = 2 := by decide
  refine lv_icmp_eq (tgt := 17) hx hb dX11_may_10 (by decide) (fun c_8 => ?_) (fun c_8 => ?_)
  · skip
    have c_8 : r_1.toInt = (2 : Int32).toInt := i_eq.mp c_8
    refine lv_aload_n hx hb dX11_may_17 rfl (lv_at hl 0 rfl) ?_
    refine jn_v (wr := [(vmt, .inl (cy 0, 940, .inl vmtf)), (vmb, .inl (cy 0, 10, .inl vmbf))]) (rV (As := []) (rest := []) (ci := 12) ⟨hx, hb, hml, hown, hts⟩ (s_layWays l dC dI cy _ vnh vo 0 vmt votp_4 vosz volm voto vofr vokd vonu vosg vofa vopl vowd votd vmn vmr vmk vms vma vmm vmrn vmkn vmik vmon vosm vohp vmw vmf vmb vomb vmd vmc vocm voct vocy vmx votx vose vml vmwr voln vohw vmno vond voon vowi votop vmnf vmwf vmff p_vmnf p_vmff) (cw_X11_316 hts rfl rfl ⟨Nat.le_of_ble_eq_true rfl, Nat.le_of_ble_eq_true rfl⟩) hP hD hK [5, 1, 2, 3] rfl rfl rfl rfl bl0 e0 rfl hl.1 rfl (Nat.le_of_ble_eq_true rfl) dX11_may_18 ⟨Nat.le_of_ble_eq_true rfl, Nat.le_of_ble_eq_true rfl⟩) hP hD hS hA [5, 1, 2, 3] [0, 4] rfl rfl rfl (by decide) (fun u_11 H locs hp_10 hP hD hS => ?_)
    obtain ⟨vmwf_12, vmff_13⟩ := u_11
    have hp_10 : (Rg vmff_13 5632 0 100000) ∧ (LWA vmff_13 vmnf) ∧ (∀ c s : Nat, c ≤ 1 → s ≤ 255 → vmwf_12 (suK 0 c s) = su_C (suTm (fun e9 => vmnf (21 + e9)) (c : Int)) (suWt (fun e9 => vmnf (11 + e9))) (vmnf 1).toInt.toNat s) ∧ (fwRT vmff_13 (fun e9 => vmnf (11 + e9)) (fun e9 => vmnf (21 + e9)) (vmnf 1).toInt.toNat) := hp_10
    obtain ⟨q_14, q_15, q_16, q_17⟩ := hp_10
    have hP : va_P (dC, dI) vwCl [(vmt, .inl (cy 0, 940, .inl vmtf)), (vmb, .inl (cy 0, 10, .inl vmbf)), (vo, .inr (12, [.int 0, .ref vmt, .int votp_4, .int vosz, .int volm, .int voto, .int vofr, .int vokd, .int vonu, .int vosg, .int vofa, .int vopl, .long vowd, .int votd, .ref vmn, .ref vmr, .ref vmk, .ref vms, .ref vma, .ref vmm, .ref vmrn, .ref vmkn, .ref vmik, .ref vmon, .int vosm, .int vohp, .ref vmw, .ref vmf, .ref vmb, .int vomb, .ref vmd, .ref vmc, .int vocm, .int voct, .int vocy, .ref vmx, .int votx, .int vose, .ref vml, .ref vmwr, .int voln, .int vohw, .ref vmno, .int vond, .int voon, .int vowi, .int votop])), (vmn, .inl (cy 0, 575, .inl vmnf)), (vmw, .inl (cy 1, 5632, .inr (.inl vmwf_12))), (vmf, .inl (cy 0, 5632, .inl vmff_13))] H := hP
    have hD : va_D A [(vmt, .inl (cy 0, 940, .inl vmtf)), (vmb, .inl (cy 0, 10, .inl vmbf)), (vo, .inr (12, [.int 0, .ref vmt, .int votp_4, .int vosz, .int volm, .int voto, .int vofr, .int vokd, .int vonu, .int vosg, .int vofa, .int vopl, .long vowd, .int votd, .ref vmn, .ref vmr, .ref vmk, .ref vms, .ref vma, .ref vmm, .ref vmrn, .ref vmkn, .ref vmik, .ref vmon, .int vosm, .int vohp, .ref vmw, .ref vmf, .ref vmb, .int vomb, .ref vmd, .ref vmc, .int vocm, .int voct, .int vocy, .ref vmx, .int votx, .int vose, .ref vml, .ref vmwr, .int voln, .int vohw, .ref vmno, .int vond, .int voon, .int vowi, .int votop])), (vmn, .inl (cy 0, 575, .inl vmnf)), (vmw, .inl (cy 1, 5632, .inr (.inl vmwf_12))), (vmf, .inl (cy 0, 5632, .inl vmff_13))] := hD
    refine lv_aload_n hx hb dX11_may_21 rfl (lv_at hl 0 rfl) ?_
    refine gf_X11_133 hx hb hts hown hK hP 2 rfl rfl dX11_may_22 ?_
    refine lv_iconst (v := 0) hx hb dX11_may_25 (by decide) ?_
    refine lv_iconst (v := 0) hx hb dX11_may_26 (by decide) ?_
    refine lv_aload_n hx hb dX11_may_27 rfl (lv_at hl 0 rfl) ?_
    refine gf_X11_7 hx hb hts hown hK hP 2 rfl rfl dX11_may_28 ?_
    refine lv_iconst (v := 0) hx hb dX11_may_31 (by decide) ?_
    have hin_18 : vp_in (0 : Int32) 940 := vp_in_iff.mpr ⟨by omega, by omega⟩
    refine va_iald hx hb hK hP 0 0 rfl rfl hin_18 dX11_may_32 ?_
    refine lv_topi (fun z_19 ez_19 => ?_)
    have bz_19 := p_vmtf.at hin_18 ez_19
    refine jr_i (rSr (As := [.int 0, .int 0, .int z_19]) (rest := [.ref vmw]) ⟨hx, hb, hml, hown, hts⟩ (m_cellOf l dC dI cy 0 0 z_19 ⟨by omega, by omega⟩ ⟨by omega, by omega⟩ ⟨by omega, by omega⟩) (cw_X11_306 hts rfl rfl ⟨Nat.le_of_ble_eq_true rfl, Nat.le_of_ble_eq_true rfl⟩) hP hK [] rfl rfl hl.1 rfl (Nat.le_of_ble_eq_true rfl) dX11_may_33 ⟨Nat.le_of_ble_eq_true rfl, Nat.le_of_ble_eq_true rfl⟩) hP hS (fun r_20 H locs hp_21 hP hS => ?_)
    have hp_21 : (0 ≤ (r_20 : Int32).toInt ∧ (r_20 : Int32).toInt ≤ 5631) ∧ ((r_20 : Int32).toInt = 512 * (0 : Int32).toInt + 256 * (0 : Int32).toInt + (z_19 : Int32).toInt) := hp_21
    obtain ⟨q_22, q_23⟩ := hp_21
    have hin_24 : vp_in r_20 5632 := vp_in_iff.mpr ⟨by omega, by omega⟩
    refine va_lald hx hb hK hP 4 1 rfl rfl hin_24 dX11_may_36 ?_
    refine lv_topl (fun y_25 ey_25 => ?_)
    refine lv_aload_n hx hb dX11_may_37 rfl (lv_at hl 0 rfl) ?_
    refine gf_X11_133 hx hb hts hown hK hP 2 rfl rfl dX11_may_38 ?_
    refine lv_iconst (v := 0) hx hb dX11_may_41 (by decide) ?_
    refine lv_iconst (v := 1) hx hb dX11_may_42 (by decide) ?_
    refine lv_aload_n hx hb dX11_may_43 rfl (lv_at hl 0 rfl) ?_
    refine gf_X11_7 hx hb hts hown hK hP 2 rfl rfl dX11_may_44 ?_
    refine lv_iconst (v := 1) hx hb dX11_may_47 (by decide) ?_
    have k_1 : (1 : Int32).toInt = 1 := by decide
    have hin_26 : vp_in (1 : Int32) 940 := vp_in_iff.mpr ⟨by omega, by omega⟩
    refine va_iald hx hb hK hP 0 0 rfl rfl hin_26 dX11_may_48 ?_
    refine lv_topi (fun z_27 ez_27 => ?_)
    have bz_27 := p_vmtf.at hin_26 ez_27
    refine jr_i (rSr (As := [.int 0, .int 1, .int z_27]) (rest := [.ref vmw, .long y_25]) ⟨hx, hb, hml, hown, hts⟩ (m_cellOf l dC dI cy 0 1 z_27 ⟨by omega, by omega⟩ ⟨by omega, by omega⟩ ⟨by omega, by omega⟩) (cw_X11_306 hts rfl rfl ⟨Nat.le_of_ble_eq_true rfl, Nat.le_of_ble_eq_true rfl⟩) hP hK [] rfl rfl hl.1 rfl (Nat.le_of_ble_eq_true rfl) dX11_may_49 ⟨Nat.le_of_ble_eq_true rfl, Nat.le_of_ble_eq_true rfl⟩) hP hS (fun r_28 H locs hp_29 hP hS => ?_)
    have hp_29 : (0 ≤ (r_28 : Int32).toInt ∧ (r_28 : Int32).toInt ≤ 5631) ∧ ((r_28 : Int32).toInt = 512 * (0 : Int32).toInt + 256 * (1 : Int32).toInt + (z_27 : Int32).toInt) := hp_29
    obtain ⟨q_30, q_31⟩ := hp_29
    have hin_32 : vp_in r_28 5632 := vp_in_iff.mpr ⟨by omega, by omega⟩
    refine va_lald hx hb hK hP 4 1 rfl rfl hin_32 dX11_may_52 ?_
    refine lv_topl (fun y_33 ey_33 => ?_)
    refine lv_lmul hx hb dX11_may_53 ?_
    refine lv_topl (fun y_34 ey_34 => ?_)
    have hM : y_34 = su_C (suTm (fun e9 => vmnf (21 + e9)) 0) (suWt (fun e9 => vmnf (11 + e9))) (vmnf 1).toInt.toNat (vmtf 0).toInt.toNat * su_C (suTm (fun e9 => vmnf (21 + e9)) 1) (suWt (fun e9 => vmnf (11 + e9))) (vmnf 1).toInt.toNat (vmtf 1).toInt.toNat := by rw [ey_34, ey_25, ey_33, show Int32.toNatClampNeg r_20 = suK 0 0 z_19.toInt.toNat by have := cl_nn (x := r_20) (by omega); unfold suK; omega, show Int32.toNatClampNeg r_28 = suK 0 1 z_27.toInt.toNat by have := cl_nn (x := r_28) (by omega); unfold suK; omega, q_16 0 _ (by omega) (by omega), q_16 1 _ (by omega) (by omega), ez_19, ez_27]; rfl
    refine lv_lstore_n (lv' := [(1, .long y_34), (0, .ref vo)]) hx hb dX11_may_54 rfl hl (by decide) rfl (fun ls hl => ?_)
    refine lv_lload_n hx hb dX11_may_55 rfl (lv_at hl 0 rfl) ?_
    refine lv_lconst (v := 0) hx hb dX11_may_56 (by decide) ?_
    refine W.lcmp hx hb dX11_may_57 ?_
    refine lv_topi (fun z_35 ez_35 => ?_)
    refine lv_if_ne (tgt := 63) hx hb dX11_may_58 (by decide) (fun c_36 => ?_) (fun c_36 => ?_)
    · skip
      have c_36 : ¬ (z_35.toInt = (0 : Int32).toInt) := fun h9 => c_36 (i_eq.mpr h9)
      refine lv_iconst (v := 0) hx hb dX11_may_63 (by decide) ?_
      refine lv_istore_n (lv' := [(3, .int 0), (1, .long y_34), (0, .ref vo)]) hx hb dX11_may_64 rfl hl (by decide) rfl (fun ls hl => ?_)
      have loop37 : ∀ (n37 : Nat) (x_38 : Int32) (g_39 : Nat → Int32), (0 ≤ x_38.toInt ∧ x_38.toInt ≤ 2) → (mbI (fun e9 => vmnf (11 + e9)) (fun e9 => vmnf (21 + e9)) vmtf g_39 (vmnf 1).toInt.toNat x_38.toInt 0) → 2 - x_38.toInt < (n37 : Int) → ∀ (H : Heap) (locs : List Loc), va_P (dC, dI) vwCl [(vmt, .inl (cy 0, 940, .inl vmtf)), (vmb, .inl (cy 0, 10, .inl g_39)), (vo, .inr (12, [.int 0, .ref vmt, .int votp_4, .int vosz, .int volm, .int voto, .int vofr, .int vokd, .int vonu, .int vosg, .int vofa, .int vopl, .long vowd, .int votd, .ref vmn, .ref vmr, .ref vmk, .ref vms, .ref vma, .ref vmm, .ref vmrn, .ref vmkn, .ref vmik, .ref vmon, .int vosm, .int vohp, .ref vmw, .ref vmf, .ref vmb, .int vomb, .ref vmd, .ref vmc, .int vocm, .int voct, .int vocy, .ref vmx, .int votx, .int vose, .ref vml, .ref vmwr, .int voln, .int vohw, .ref vmno, .int vond, .int voon, .int vowi, .int votop])), (vmn, .inl (cy 0, 575, .inl vmnf)), (vmw, .inl (cy 1, 5632, .inr (.inl vmwf_12))), (vmf, .inl (cy 0, 5632, .inl vmff_13))] H → va_D A [(vmt, .inl (cy 0, 940, .inl vmtf)), (vmb, .inl (cy 0, 10, .inl g_39)), (vo, .inr (12, [.int 0, .ref vmt, .int votp_4, .int vosz, .int volm, .int voto, .int vofr, .int vokd, .int vonu, .int vosg, .int vofa, .int vopl, .long vowd, .int votd, .ref vmn, .ref vmr, .ref vmk, .ref vms, .ref vma, .ref vmm, .ref vmrn, .ref vmkn, .ref vmik, .ref vmon, .int vosm, .int vohp, .ref vmw, .ref vmf, .ref vmb, .int vomb, .ref vmd, .ref vmc, .int vocm, .int voct, .int vocy, .ref vmx, .int votx, .int vose, .ref vml, .ref vmwr, .int voln, .int vohw, .ref vmno, .int vond, .int voon, .int vowi, .int votop])), (vmn, .inl (cy 0, 575, .inl vmnf)), (vmw, .inl (cy 1, 5632, .inr (.inl vmwf_12))), (vmf, .inl (cy 0, 5632, .inl vmff_13))] → va_S A s.heap H locs → ∀ ls : Array Slot, lv_has ls 7 [(3, .int x_38), (1, .long y_34), (0, .ref vo)] → W p l e ({ frames := 3, cells := 0, slots := 0, locals := 192 }) s m av9 below meth c H locs 0 0 Q9 (F0 m 65 ls []) := by
        intro n37
        induction n37 with
        | zero =>
          intro x_38 g_39 bx_38 v37_0 hn37 H locs hP hD hS ls hl
          exfalso; omega
        | succ n37 ih37 =>
          intro x_38 g_39 bx_38 v37_0 hn37 H locs hP hD hS ls hl
          refine lv_iload_n hx hb dX11_may_65 rfl (lv_at hl 0 rfl) ?_
          refine lv_iconst (v := 2) hx hb dX11_may_66 (by decide) ?_
          refine lv_icmp_ge (tgt := 205) hx hb dX11_may_67 (by decide) (fun c_40 => ?_) (fun c_40 => ?_)
          · skip
            have c_40 : (2 : Int32).toInt ≤ x_38.toInt := i_le.mp c_40
            refine lv_aload_n hx hb dX11_may_205 rfl (lv_at hl 2 rfl) ?_
            refine lv_aload_n hx hb dX11_may_206 rfl (lv_at hl 2 rfl) ?_
            refine gf_X11_98 hx hb hts hown hK hP 2 rfl rfl dX11_may_207 ?_
            refine lv_iconst (v := 1) hx hb dX11_may_210 (by decide) ?_
            have hin_41 : vp_in (1 : Int32) 575 := vp_in_iff.mpr ⟨by omega, by omega⟩
            refine va_iald hx hb hK hP 3 0 rfl rfl hin_41 dX11_may_211 ?_
            refine lv_topi (fun z_42 ez_42 => ?_)
            have bz_42 := p_vmnf.a1 (x := 1) ⟨by omega, by omega⟩ ez_42
            have tz_42 : z_42.toInt = (vmnf 1).toInt := by rw [ez_42]; rfl
            have hd9 : z_42.toInt = (vmnf 1).toInt := by rw [ez_42]; rfl
            refine pf_X11_319 hx hb hts hown hK hP hD hS 2 rfl rfl rfl (Nat.le_of_ble_eq_true rfl) dX11_may_212 (fun H locs hP hD hS => ?_)
            have hP : va_P (dC, dI) vwCl [(vmt, .inl (cy 0, 940, .inl vmtf)), (vmb, .inl (cy 0, 10, .inl g_39)), (vo, .inr (12, [.int 0, .ref vmt, .int votp_4, .int vosz, .int volm, .int voto, .int vofr, .int vokd, .int vonu, .int vosg, .int vofa, .int vopl, .long vowd, .int votd, .ref vmn, .ref vmr, .ref vmk, .ref vms, .ref vma, .ref vmm, .ref vmrn, .ref vmkn, .ref vmik, .ref vmon, .int vosm, .int vohp, .ref vmw, .ref vmf, .ref vmb, .int z_42, .ref vmd, .ref vmc, .int vocm, .int voct, .int vocy, .ref vmx, .int votx, .int vose, .ref vml, .ref vmwr, .int voln, .int vohw, .ref vmno, .int vond, .int voon, .int vowi, .int votop])), (vmn, .inl (cy 0, 575, .inl vmnf)), (vmw, .inl (cy 1, 5632, .inr (.inl vmwf_12))), (vmf, .inl (cy 0, 5632, .inl vmff_13))] H := hP
            have hD : va_D A [(vmt, .inl (cy 0, 940, .inl vmtf)), (vmb, .inl (cy 0, 10, .inl g_39)), (vo, .inr (12, [.int 0, .ref vmt, .int votp_4, .int vosz, .int volm, .int voto, .int vofr, .int vokd, .int vonu, .int vosg, .int vofa, .int vopl, .long vowd, .int votd, .ref vmn, .ref vmr, .ref vmk, .ref vms, .ref vma, .ref vmm, .ref vmrn, .ref vmkn, .ref vmik, .ref vmon, .int vosm, .int vohp, .ref vmw, .ref vmf, .ref vmb, .int z_42, .ref vmd, .ref vmc, .int vocm, .int voct, .int vocy, .ref vmx, .int votx, .int vose, .ref vml, .ref vmwr, .int voln, .int vohw, .ref vmno, .int vond, .int voon, .int vowi, .int votop])), (vmn, .inl (cy 0, 575, .inl vmnf)), (vmw, .inl (cy 1, 5632, .inr (.inl vmwf_12))), (vmf, .inl (cy 0, 5632, .inl vmff_13))] := hD
            refine lv_lload_n hx hb dX11_may_215 rfl (lv_at hl 1 rfl) ?_
            rw [hQ9]
            exact re_l ((0 : Int32), votp_4, vmwf_12, vmff_13, g_39, z_42) hx hb hr hlocks ⟨(show 0 ≤ (votp_4 : Int32).toInt ∧ (votp_4 : Int32).toInt ≤ 0 from ⟨by omega, by omega⟩), (show Rg vmff_13 5632 0 100000 from q_14), (show 0 ≤ (z_42 : Int32).toInt ∧ (z_42 : Int32).toInt ≤ 10 from ⟨by omega, by omega⟩), (show ((votp : Int32).toInt ≠ 2 ∧ (y_34 : Int64) = -1) ∨ ((votp : Int32).toInt = 2 ∧ (y_34 : Int64) = su_C (suTm (fun e9 => vmnf (21 + e9)) 0) (suWt (fun e9 => vmnf (11 + e9))) (vmnf 1).toInt.toNat (vmtf 0).toInt.toNat * su_C (suTm (fun e9 => vmnf (21 + e9)) 1) (suWt (fun e9 => vmnf (11 + e9))) (vmnf 1).toInt.toNat (vmtf 1).toInt.toNat) from (Or.inr ⟨by omega, hM⟩)), (show mayPM vmbf g_39 (vomb : Int32).toInt (z_42 : Int32).toInt (fun e9 => vmnf (11 + e9)) (fun e9 => vmnf (21 + e9)) vmtf (vmnf 1).toInt.toNat (votp : Int32).toInt (y_34 : Int64) from (Or.inr ⟨by omega, fun h9 => c_36 ((l_cmp0 ez_35).mpr h9), by have h8 := hd9; omega, (mbI_2 v37_0 (by omega))⟩))⟩ (hP.sub [2, 0, 3, 4, 5, 1] rfl) (hD.sub [2, 0, 3, 4, 5, 1] rfl rfl) hS dX11_may_216
          · skip
            have c_40 : ¬ ((2 : Int32).toInt ≤ x_38.toInt) := fun h9 => c_40 (i_le.mpr h9)
            refine lv_aload_n hx hb dX11_may_70 rfl (lv_at hl 2 rfl) ?_
            refine gf_X11_7 hx hb hts hown hK hP 2 rfl rfl dX11_may_71 ?_
            refine lv_iload_n hx hb dX11_may_74 rfl (lv_at hl 0 rfl) ?_
            have hin_43 : vp_in x_38 940 := vp_in_iff.mpr ⟨by omega, by omega⟩
            refine va_iald hx hb hK hP 0 0 rfl rfl hin_43 dX11_may_75 ?_
            refine lv_topi (fun z_44 ez_44 => ?_)
            have bz_44 := p_vmtf.at hin_43 ez_44
            have htz_44 : z_44.toInt = (vmtf x_38.toInt.toNat).toInt := by rw [ez_44]; rfl
            refine lv_istore (lv' := [(4, .int z_44), (3, .int x_38), (1, .long y_34), (0, .ref vo)]) hx hb dX11_may_76 hl (by decide) rfl (fun ls hl => ?_)
            refine lv_iconst (v := 0) hx hb dX11_may_78 (by decide) ?_
            refine lv_istore (lv' := [(5, .int 0), (4, .int z_44), (3, .int x_38), (1, .long y_34), (0, .ref vo)]) hx hb dX11_may_79 hl (by decide) rfl (fun ls hl => ?_)
            have loop45 : ∀ (n45 : Nat) (x_47 : Int32) (x_46 : Int32) (g_48 : Nat → Int32), (0 ≤ x_47.toInt ∧ x_47.toInt ≤ 255) → (0 ≤ x_46.toInt ∧ x_46.toInt ≤ 10) → (x_47.toInt = ((fw_l 100000 (suTm (fun e9 => vmnf (21 + e9)) x_38.toInt) (suWt (fun e9 => vmnf (11 + e9))) (vmnf 1).toInt.toNat (vmtf (x_38.toInt).toNat).toInt.toNat (x_46.toInt).toNat : Nat) : Int)) → (mbI (fun e9 => vmnf (11 + e9)) (fun e9 => vmnf (21 + e9)) vmtf g_48 (vmnf 1).toInt.toNat x_38.toInt x_46.toInt) → (x_46.toInt ≤ (vmnf 1).toInt) → 10 - x_46.toInt < (n45 : Int) → ∀ (H : Heap) (locs : List Loc), va_P (dC, dI) vwCl [(vmt, .inl (cy 0, 940, .inl vmtf)), (vmb, .inl (cy 0, 10, .inl g_48)), (vo, .inr (12, [.int 0, .ref vmt, .int votp_4, .int vosz, .int volm, .int voto, .int vofr, .int vokd, .int vonu, .int vosg, .int vofa, .int vopl, .long vowd, .int votd, .ref vmn, .ref vmr, .ref vmk, .ref vms, .ref vma, .ref vmm, .ref vmrn, .ref vmkn, .ref vmik, .ref vmon, .int vosm, .int vohp, .ref vmw, .ref vmf, .ref vmb, .int vomb, .ref vmd, .ref vmc, .int vocm, .int voct, .int vocy, .ref vmx, .int votx, .int vose, .ref vml, .ref vmwr, .int voln, .int vohw, .ref vmno, .int vond, .int voon, .int vowi, .int votop])), (vmn, .inl (cy 0, 575, .inl vmnf)), (vmw, .inl (cy 1, 5632, .inr (.inl vmwf_12))), (vmf, .inl (cy 0, 5632, .inl vmff_13))] H → va_D A [(vmt, .inl (cy 0, 940, .inl vmtf)), (vmb, .inl (cy 0, 10, .inl g_48)), (vo, .inr (12, [.int 0, .ref vmt, .int votp_4, .int vosz, .int volm, .int voto, .int vofr, .int vokd, .int vonu, .int vosg, .int vofa, .int vopl, .long vowd, .int votd, .ref vmn, .ref vmr, .ref vmk, .ref vms, .ref vma, .ref vmm, .ref vmrn, .ref vmkn, .ref vmik, .ref vmon, .int vosm, .int vohp, .ref vmw, .ref vmf, .ref vmb, .int vomb, .ref vmd, .ref vmc, .int vocm, .int voct, .int vocy, .ref vmx, .int votx, .int vose, .ref vml, .ref vmwr, .int voln, .int vohw, .ref vmno, .int vond, .int voon, .int vowi, .int votop])), (vmn, .inl (cy 0, 575, .inl vmnf)), (vmw, .inl (cy 1, 5632, .inr (.inl vmwf_12))), (vmf, .inl (cy 0, 5632, .inl vmff_13))] → va_S A s.heap H locs → ∀ ls : Array Slot, lv_has ls 7 [(5, .int x_46), (4, .int x_47), (3, .int x_38), (1, .long y_34), (0, .ref vo)] → W p l e ({ frames := 3, cells := 0, slots := 0, locals := 192 }) s m av9 below meth c H locs 0 0 Q9 (F0 m 81 ls []) := by
              intro n45
              induction n45 with
              | zero =>
                intro x_47 x_46 g_48 bx_47 bx_46 v45_0 v45_1 v45_2 hn45 H locs hP hD hS ls hl
                exfalso; omega
              | succ n45 ih45 =>
                intro x_47 x_46 g_48 bx_47 bx_46 v45_0 v45_1 v45_2 hn45 H locs hP hD hS ls hl
                refine lv_iload hx hb dX11_may_81 (lv_at hl 0 rfl) ?_
                refine lv_aload_n hx hb dX11_may_83 rfl (lv_at hl 4 rfl) ?_
                refine gf_X11_98 hx hb hts hown hK hP 2 rfl rfl dX11_may_84 ?_
                refine lv_iconst (v := 1) hx hb dX11_may_87 (by decide) ?_
                have hin_49 : vp_in (1 : Int32) 575 := vp_in_iff.mpr ⟨by omega, by omega⟩
                refine va_iald hx hb hK hP 3 0 rfl rfl hin_49 dX11_may_88 ?_
                refine lv_topi (fun z_50 ez_50 => ?_)
                have bz_50 := p_vmnf.a1 (x := 1) ⟨by omega, by omega⟩ ez_50
                have tz_50 : z_50.toInt = (vmnf 1).toInt := by rw [ez_50]; rfl
                refine lv_icmp_ge (tgt := 199) hx hb dX11_may_89 (by decide) (fun c_51 => ?_) (fun c_51 => ?_)
                · skip
                  have c_51 : z_50.toInt ≤ x_46.toInt := i_le.mp c_51
                  obtain ⟨z_52, ez_52⟩ : ∃ z : Int32, z = x_38 + 1 := ⟨_, rfl⟩
                  have bz_52 : z_52.toInt = x_38.toInt + (1 : Int32).toInt := i_add ez_52 (by omega) (by omega)
                  refine lv_iinc (v := z_52) (lv' := [(3, .int z_52), (5, .int x_46), (4, .int x_47), (1, .long y_34), (0, .ref vo)]) hx hb dX11_may_199 hl (k := 2) rfl ez_52.symm (by decide) rfl (fun ls hl => ?_)
                  refine lv_goto (tgt := 65) hx hb dX11_may_202 (by decide) ?_
                  exact ih37 z_52 g_48 ⟨by omega, by omega⟩ (mbI_up v45_1 (by omega) (by omega) (by omega)) (by omega) _ _ (hP.sub [0, 1, 2, 3, 4, 5] rfl) (hD.sub [0, 1, 2, 3, 4, 5] rfl rfl) hS ls (lv_sub hl [0, 3, 4] rfl)
                · skip
                  have c_51 : ¬ (z_50.toInt ≤ x_46.toInt) := fun h9 => c_51 (i_le.mpr h9)
                  refine lv_aload_n hx hb dX11_may_92 rfl (lv_at hl 4 rfl) ?_
                  refine gf_X11_98 hx hb hts hown hK hP 2 rfl rfl dX11_may_93 ?_
                  refine lv_bipush (v := 21) hx hb dX11_may_96 (by decide) ?_
                  refine lv_iload hx hb dX11_may_98 (lv_at hl 0 rfl) ?_
                  refine lv_iadd hx hb dX11_may_100 ?_
                  refine lv_topi (fun z_53 ez_53 => ?_)
                  have k_21 : (21 : Int32).toInt = 21 := by decide
                  have bz_53 : z_53.toInt = (21 : Int32).toInt + x_46.toInt := i_add ez_53 (by omega) (by omega)
                  have hin_54 : vp_in z_53 575 := vp_in_iff.mpr ⟨by omega, by omega⟩
                  refine va_iald hx hb hK hP 3 0 rfl rfl hin_54 dX11_may_101 ?_
                  refine lv_topi (fun z_55 ez_55 => ?_)
                  have hCz_55 : z_55.toInt = (vmnf (21 + x_46.toInt.toNat)).toInt := by rw [ez_55, show Int32.toNatClampNeg z_53 = 21 + x_46.toInt.toNat by have := cl_nn (x := z_53) (by omega); omega]
                  refine lv_iload_n hx hb dX11_may_102 rfl (lv_at hl 2 rfl) ?_
                  refine lv_icmp_eq (tgt := 109) hx hb dX11_may_103 (by decide) (fun c_56 => ?_) (fun c_56 => ?_)
                  · skip
                    have c_56 : z_55.toInt = x_38.toInt := i_eq.mp c_56
                    refine lv_iconst (v := 0) hx hb dX11_may_109 (by decide) ?_
                    refine lv_istore (lv' := [(6, .int 0), (5, .int x_46), (4, .int x_47), (3, .int x_38), (1, .long y_34), (0, .ref vo)]) hx hb dX11_may_110 hl (by decide) rfl (fun ls hl => ?_)
                    have loop57 : ∀ (n57 : Nat) (x_58 : Int32), (0 ≤ x_58.toInt ∧ x_58.toInt ≤ 10) → (WH vmff_13 vmnf (512 * x_46.toInt + 256 * x_38.toInt + x_47.toInt).toNat x_58.toInt) → (fwI (vmnf (11 + (x_46.toInt).toNat)).toInt.toNat (fwK vmff_13 ((x_46.toInt).toNat + 1) (x_38.toInt).toNat) (x_47.toInt).toNat (fwK vmff_13 (x_46.toInt).toNat (x_38.toInt).toNat (x_47.toInt).toNat) x_58.toInt) → 10 - x_58.toInt < (n57 : Int) → ∀ (H : Heap) (locs : List Loc), va_P (dC, dI) vwCl [(vmt, .inl (cy 0, 940, .inl vmtf)), (vmb, .inl (cy 0, 10, .inl g_48)), (vo, .inr (12, [.int 0, .ref vmt, .int votp_4, .int vosz, .int volm, .int voto, .int vofr, .int vokd, .int vonu, .int vosg, .int vofa, .int vopl, .long vowd, .int votd, .ref vmn, .ref vmr, .ref vmk, .ref vms, .ref vma, .ref vmm, .ref vmrn, .ref vmkn, .ref vmik, .ref vmon, .int vosm, .int vohp, .ref vmw, .ref vmf, .ref vmb, .int vomb, .ref vmd, .ref vmc, .int vocm, .int voct, .int vocy, .ref vmx, .int votx, .int vose, .ref vml, .ref vmwr, .int voln, .int vohw, .ref vmno, .int vond, .int voon, .int vowi, .int votop])), (vmn, .inl (cy 0, 575, .inl vmnf)), (vmw, .inl (cy 1, 5632, .inr (.inl vmwf_12))), (vmf, .inl (cy 0, 5632, .inl vmff_13))] H → va_D A [(vmt, .inl (cy 0, 940, .inl vmtf)), (vmb, .inl (cy 0, 10, .inl g_48)), (vo, .inr (12, [.int 0, .ref vmt, .int votp_4, .int vosz, .int volm, .int voto, .int vofr, .int vokd, .int vonu, .int vosg, .int vofa, .int vopl, .long vowd, .int votd, .ref vmn, .ref vmr, .ref vmk, .ref vms, .ref vma, .ref vmm, .ref vmrn, .ref vmkn, .ref vmik, .ref vmon, .int vosm, .int vohp, .ref vmw, .ref vmf, .ref vmb, .int vomb, .ref vmd, .ref vmc, .int vocm, .int voct, .int vocy, .ref vmx, .int votx, .int vose, .ref vml, .ref vmwr, .int voln, .int vohw, .ref vmno, .int vond, .int voon, .int vowi, .int votop])), (vmn, .inl (cy 0, 575, .inl vmnf)), (vmw, .inl (cy 1, 5632, .inr (.inl vmwf_12))), (vmf, .inl (cy 0, 5632, .inl vmff_13))] → va_S A s.heap H locs → ∀ ls : Array Slot, lv_has ls 7 [(6, .int x_58), (5, .int x_46), (4, .int x_47), (3, .int x_38), (1, .long y_34), (0, .ref vo)] → W p l e ({ frames := 3, cells := 0, slots := 0, locals := 192 }) s m av9 below meth c H locs 0 0 Q9 (F0 m 112 ls []) := by
                      intro n57
                      induction n57 with
                      | zero =>
                        intro x_58 bx_58 v57_0 v57_1 hn57 H locs hP hD hS ls hl
                        exfalso; omega
                      | succ n57 ih57 =>
                        intro x_58 bx_58 v57_0 v57_1 hn57 H locs hP hD hS ls hl
                        refine lv_aload_n hx hb dX11_may_112 rfl (lv_at hl 5 rfl) ?_
                        refine gf_X11_136 hx hb hts hown hK hP 2 rfl rfl dX11_may_113 ?_
                        refine lv_iload hx hb dX11_may_116 (lv_at hl 1 rfl) ?_
                        refine lv_iconst (v := 1) hx hb dX11_may_118 (by decide) ?_
                        refine lv_iadd hx hb dX11_may_119 ?_
                        refine lv_topi (fun z_59 ez_59 => ?_)
                        have bz_59 : z_59.toInt = x_46.toInt + (1 : Int32).toInt := i_add ez_59 (by omega) (by omega)
                        refine lv_iload_n hx hb dX11_may_120 rfl (lv_at hl 3 rfl) ?_
                        refine lv_iload hx hb dX11_may_121 (lv_at hl 2 rfl) ?_
                        refine lv_iload hx hb dX11_may_123 (lv_at hl 0 rfl) ?_
                        refine lv_aload_n hx hb dX11_may_125 rfl (lv_at hl 5 rfl) ?_
                        refine gf_X11_98 hx hb hts hown hK hP 2 rfl rfl dX11_may_126 ?_
                        refine lv_bipush (v := 11) hx hb dX11_may_129 (by decide) ?_
                        refine lv_iload hx hb dX11_may_131 (lv_at hl 1 rfl) ?_
                        refine lv_iadd hx hb dX11_may_133 ?_
                        refine lv_topi (fun z_60 ez_60 => ?_)
                        have k_11 : (11 : Int32).toInt = 11 := by decide
                        have bz_60 : z_60.toInt = (11 : Int32).toInt + x_46.toInt := i_add ez_60 (by omega) (by omega)
                        have hin_61 : vp_in z_60 575 := vp_in_iff.mpr ⟨by omega, by omega⟩
                        refine va_iald hx hb hK hP 3 0 rfl rfl hin_61 dX11_may_134 ?_
                        refine lv_topi (fun z_62 ez_62 => ?_)
                        have bz_62 := p_vmnf.aw (x := z_60) ⟨by omega, by omega⟩ ez_62
                        have hw_z_62 := WH.le (x := x_58) v57_0 (by omega) ⟨by omega, by omega⟩ ⟨by omega, by omega⟩ ⟨by omega, by omega⟩ (i1 := z_60) (by omega) ez_62 (by omega)
                        have hNz_62 : Int32.toNatClampNeg z_60 = 11 + x_46.toInt.toNat := by have := cl_nn (x := z_60) (by omega); omega
                        have hW : z_62.toInt.toNat = (vmnf (11 + (x_46.toInt).toNat)).toInt.toNat := by rw [ez_62, hNz_62]
                        refine lv_imul hx hb dX11_may_135 ?_
                        refine lv_topi (fun z_63 ez_63 => ?_)
                        have bz_63 : 0 ≤ z_63.toInt ∧ z_63.toInt ≤ 400 ∧ z_63.toInt = x_58.toInt * z_62.toInt := i_mulb (A := 10) (B := 40) ez_63 ⟨by omega, by omega⟩ ⟨by omega, by omega⟩ (by decide)
                        have hp9 : ((x_58.toInt.toNat * (vmnf (11 + (x_46.toInt).toNat)).toInt.toNat : Nat) : Int) = z_63.toInt := by rw [← hW]; exact su_cast bz_63.2.2 (by omega) (by omega)
                        refine lv_isub hx hb dX11_may_136 ?_
                        refine lv_topi (fun z_64 ez_64 => ?_)
                        have bz_64 : z_64.toInt = x_47.toInt - z_63.toInt := i_sub ez_64 (by omega) (by omega)
                        refine jr_i (rSr (As := [.int z_59, .int x_38, .int z_64]) (rest := [.ref vmf]) ⟨hx, hb, hml, hown, hts⟩ (m_cellOf l dC dI cy z_59 x_38 z_64 ⟨by omega, by omega⟩ ⟨by omega, by omega⟩ ⟨by omega, by omega⟩) (cw_X11_306 hts rfl rfl ⟨Nat.le_of_ble_eq_true rfl, Nat.le_of_ble_eq_true rfl⟩) hP hK [] rfl rfl hl.1 rfl (Nat.le_of_ble_eq_true rfl) dX11_may_137 ⟨Nat.le_of_ble_eq_true rfl, Nat.le_of_ble_eq_true rfl⟩) hP hS (fun r_65 H locs hp_66 hP hS => ?_)
                        have hp_66 : (0 ≤ (r_65 : Int32).toInt ∧ (r_65 : Int32).toInt ≤ 5631) ∧ ((r_65 : Int32).toInt = 512 * (z_59 : Int32).toInt + 256 * (x_38 : Int32).toInt + (z_64 : Int32).toInt) := hp_66
                        obtain ⟨q_67, q_68⟩ := hp_66
                        have hin_69 : vp_in r_65 5632 := vp_in_iff.mpr ⟨by omega, by omega⟩
                        refine va_iald hx hb hK hP 5 0 rfl rfl hin_69 dX11_may_140 ?_
                        refine lv_topi (fun z_70 ez_70 => ?_)
                        have bz_70 := q_14.at hin_69 ez_70
                        have hu9 := fwK_ld (d := x_46.toInt.toNat + 1) (c := x_38.toInt.toNat) (k := x_47.toInt.toNat - x_58.toInt.toNat * (vmnf (11 + (x_46.toInt).toNat)).toInt.toNat) ez_70 (by unfold suK; omega) (by omega)
                        refine lv_iload hx hb dX11_may_141 (lv_at hl 0 rfl) ?_
                        refine lv_iadd hx hb dX11_may_143 ?_
                        refine lv_topi (fun z_71 ez_71 => ?_)
                        have bz_71 : z_71.toInt = z_70.toInt + x_58.toInt := i_add ez_71 (by omega) (by omega)
                        refine lv_aload_n hx hb dX11_may_144 rfl (lv_at hl 5 rfl) ?_
                        refine gf_X11_136 hx hb hts hown hK hP 2 rfl rfl dX11_may_145 ?_
                        refine lv_iload hx hb dX11_may_148 (lv_at hl 1 rfl) ?_
                        refine lv_iload_n hx hb dX11_may_150 rfl (lv_at hl 3 rfl) ?_
                        refine lv_iload hx hb dX11_may_151 (lv_at hl 2 rfl) ?_
                        refine jr_i (rSr (As := [.int x_46, .int x_38, .int x_47]) (rest := [.ref vmf, .int z_71]) ⟨hx, hb, hml, hown, hts⟩ (m_cellOf l dC dI cy x_46 x_38 x_47 ⟨by omega, by omega⟩ ⟨by omega, by omega⟩ ⟨by omega, by omega⟩) (cw_X11_306 hts rfl rfl ⟨Nat.le_of_ble_eq_true rfl, Nat.le_of_ble_eq_true rfl⟩) hP hK [] rfl rfl hl.1 rfl (Nat.le_of_ble_eq_true rfl) dX11_may_153 ⟨Nat.le_of_ble_eq_true rfl, Nat.le_of_ble_eq_true rfl⟩) hP hS (fun r_72 H locs hp_73 hP hS => ?_)
                        have hp_73 : (0 ≤ (r_72 : Int32).toInt ∧ (r_72 : Int32).toInt ≤ 5631) ∧ ((r_72 : Int32).toInt = 512 * (x_46 : Int32).toInt + 256 * (x_38 : Int32).toInt + (x_47 : Int32).toInt) := hp_73
                        obtain ⟨q_74, q_75⟩ := hp_73
                        have hin_76 : vp_in r_72 5632 := vp_in_iff.mpr ⟨by omega, by omega⟩
                        refine va_iald hx hb hK hP 5 0 rfl rfl hin_76 dX11_may_156 ?_
                        refine lv_topi (fun z_77 ez_77 => ?_)
                        have bz_77 := q_14.at hin_76 ez_77
                        have hz9 := fwK_ld (d := x_46.toInt.toNat) (c := x_38.toInt.toNat) (k := x_47.toInt.toNat) ez_77 (by unfold suK; omega) (by omega)
                        refine lv_icmp_eq (tgt := 166) hx hb dX11_may_157 (by decide) (fun c_78 => ?_) (fun c_78 => ?_)
                        · skip
                          have c_78 : z_71.toInt = z_77.toInt := i_eq.mp c_78
                          have hn9 := fwI_at (n := x_58.toInt.toNat) (t := 10) (z := z_70.toInt) v57_1 (by omega) (by omega) hu9 (by omega) (by omega)
                          have hT9 : suTm (fun e9 => vmnf (21 + e9)) x_38.toInt x_46.toInt.toNat = 10 := if_pos (show (vmnf (21 + x_46.toInt.toNat)).toInt = x_38.toInt by have h8 := hCz_55; omega)
                          have hc9 : ((x_38.toInt.toNat : Nat) : Int) = x_38.toInt := by omega
                          have hl9 := v45_0
                          rw [← hc9] at hT9 hl9
                          have hQ9 := fwRT_Q (d := x_46) (x := x_47) (r := x_58) q_17 (by omega) (by omega) (by omega) hl9 (by omega) rfl hT9.symm hn9
                          rw [hc9] at hQ9
                          have hE9 : z_62 = (fun e9 => vmnf (11 + e9)) (Int32.toNatClampNeg x_46) := by rw [ez_62, hNz_62]; rfl
                          refine lv_aload_n hx hb dX11_may_166 rfl (lv_at hl 5 rfl) ?_
                          refine gf_X11_139 hx hb hts hown hK hP 2 rfl rfl dX11_may_167 ?_
                          refine lv_iload hx hb dX11_may_170 (lv_at hl 1 rfl) ?_
                          refine lv_iload hx hb dX11_may_172 (lv_at hl 0 rfl) ?_
                          have hin_79 : vp_in x_46 10 := vp_in_iff.mpr ⟨by omega, by omega⟩
                          refine va_iast hx hb hK hP hD hS 1 0 rfl rfl hin_79 dX11_may_174 (fun H locs hP hD hS => ?_)
                          obtain ⟨f_80, ef_80⟩ : ∃ z : Nat → Int32, z = upd g_48 (Int32.toNatClampNeg x_46) x_58 := ⟨_, rfl⟩
                          have hP : va_P (dC, dI) vwCl [(vmt, .inl (cy 0, 940, .inl vmtf)), (vmb, .inl (cy 0, 10, .inl f_80)), (vo, .inr (12, [.int 0, .ref vmt, .int votp_4, .int vosz, .int volm, .int voto, .int vofr, .int vokd, .int vonu, .int vosg, .int vofa, .int vopl, .long vowd, .int votd, .ref vmn, .ref vmr, .ref vmk, .ref vms, .ref vma, .ref vmm, .ref vmrn, .ref vmkn, .ref vmik, .ref vmon, .int vosm, .int vohp, .ref vmw, .ref vmf, .ref vmb, .int vomb, .ref vmd, .ref vmc, .int vocm, .int voct, .int vocy, .ref vmx, .int votx, .int vose, .ref vml, .ref vmwr, .int voln, .int vohw, .ref vmno, .int vond, .int voon, .int vowi, .int votop])), (vmn, .inl (cy 0, 575, .inl vmnf)), (vmw, .inl (cy 1, 5632, .inr (.inl vmwf_12))), (vmf, .inl (cy 0, 5632, .inl vmff_13))] H := by rw [ef_80]; exact hP
                          have hD : va_D A [(vmt, .inl (cy 0, 940, .inl vmtf)), (vmb, .inl (cy 0, 10, .inl f_80)), (vo, .inr (12, [.int 0, .ref vmt, .int votp_4, .int vosz, .int volm, .int voto, .int vofr, .int vokd, .int vonu, .int vosg, .int vofa, .int vopl, .long vowd, .int votd, .ref vmn, .ref vmr, .ref vmk, .ref vms, .ref vma, .ref vmm, .ref vmrn, .ref vmkn, .ref vmik, .ref vmon, .int vosm, .int vohp, .ref vmw, .ref vmf, .ref vmb, .int vomb, .ref vmd, .ref vmc, .int vocm, .int voct, .int vocy, .ref vmx, .int votx, .int vose, .ref vml, .ref vmwr, .int voln, .int vohw, .ref vmno, .int vond, .int voon, .int vowi, .int votop])), (vmn, .inl (cy 0, 575, .inl vmnf)), (vmw, .inl (cy 1, 5632, .inr (.inl vmwf_12))), (vmf, .inl (cy 0, 5632, .inl vmff_13))] := by rw [ef_80]; exact hD
                          refine lv_iload hx hb dX11_may_175 (lv_at hl 2 rfl) ?_
                          refine lv_iload hx hb dX11_may_177 (lv_at hl 0 rfl) ?_
                          refine lv_aload_n hx hb dX11_may_179 rfl (lv_at hl 5 rfl) ?_
                          refine gf_X11_98 hx hb hts hown hK hP 2 rfl rfl dX11_may_180 ?_
                          refine lv_bipush (v := 11) hx hb dX11_may_183 (by decide) ?_
                          refine lv_iload hx hb dX11_may_185 (lv_at hl 1 rfl) ?_
                          refine lv_iadd hx hb dX11_may_187 ?_
                          refine lv_topi (fun z_81 ez_81 => ?_)
                          have bz_81 : z_81.toInt = (11 : Int32).toInt + x_46.toInt := i_add ez_81 (by omega) (by omega)
                          have hin_82 : vp_in z_81 575 := vp_in_iff.mpr ⟨by omega, by omega⟩
                          refine va_iald hx hb hK hP 3 0 rfl rfl hin_82 dX11_may_188 ?_
                          refine lv_topi (fun z_83 ez_83 => ?_)
                          have bz_83 := p_vmnf.aw (x := z_81) ⟨by omega, by omega⟩ ez_83
                          refine as_i z_62 (i_eq.mpr (i_same ez_62 ez_83 (by omega))) ?_
                          refine lv_imul hx hb dX11_may_189 ?_
                          refine lv_topi (fun z_84 ez_84 => ?_)
                          have bz_84 : 0 ≤ z_84.toInt ∧ z_84.toInt ≤ 400 ∧ z_84.toInt = x_58.toInt * z_62.toInt := i_mulb (A := 10) (B := 40) ez_84 ⟨by omega, by omega⟩ ⟨by omega, by omega⟩ (by decide)
                          refine lv_isub hx hb dX11_may_190 ?_
                          refine lv_topi (fun z_85 ez_85 => ?_)
                          have bz_85 : z_85.toInt = x_47.toInt - z_84.toInt := i_sub ez_85 (by omega) (by omega)
                          refine lv_istore (lv' := [(4, .int z_85), (6, .int x_58), (5, .int x_46), (3, .int x_38), (1, .long y_34), (0, .ref vo)]) hx hb dX11_may_191 hl (by decide) rfl (fun ls hl => ?_)
                          obtain ⟨z_86, ez_86⟩ : ∃ z : Int32, z = x_46 + 1 := ⟨_, rfl⟩
                          have bz_86 : z_86.toInt = x_46.toInt + (1 : Int32).toInt := i_add ez_86 (by omega) (by omega)
                          refine lv_iinc (v := z_86) (lv' := [(5, .int z_86), (4, .int z_85), (6, .int x_58), (3, .int x_38), (1, .long y_34), (0, .ref vo)]) hx hb dX11_may_193 hl (k := 2) rfl ez_86.symm (by decide) rfl (fun ls hl => ?_)
                          refine lv_goto (tgt := 81) hx hb dX11_may_196 (by decide) ?_
                          exact ih45 z_85 z_86 f_80 ⟨by omega, by omega⟩ ⟨by omega, by omega⟩ (fw_l_s (x := x_47) (d := x_46) (wv := z_62) (r := x_58) (z := z_84) v45_0 hQ9 hE9 (by omega) bz_84.2.2 (by omega) (by omega) (by omega) (by omega)) (mbI_put (d := x_46) (r := x_58) v45_1 (by omega) (by omega) (by have h8 := hCz_55; show (vmnf (21 + x_46.toInt.toNat)).toInt = _; omega) ef_80 hQ9) (by omega) (by omega) _ _ (hP.sub [0, 1, 2, 3, 4, 5] rfl) (hD.sub [0, 1, 2, 3, 4, 5] rfl rfl) hS ls (lv_sub hl [0, 1, 3, 4, 5] rfl)
                        · skip
                          have c_78 : ¬ (z_71.toInt = z_77.toInt) := fun h9 => c_78 (i_eq.mpr h9)
                          obtain ⟨z_87, ez_87⟩ : ∃ z : Int32, z = x_58 + 1 := ⟨_, rfl⟩
                          have bz_87 : z_87.toInt = x_58.toInt + (1 : Int32).toInt := i_add ez_87 (by omega) (by omega)
                          refine lv_iinc (v := z_87) (lv' := [(6, .int z_87), (5, .int x_46), (4, .int x_47), (3, .int x_38), (1, .long y_34), (0, .ref vo)]) hx hb dX11_may_160 hl (k := 0) rfl ez_87.symm (by decide) rfl (fun ls hl => ?_)
                          refine lv_goto (tgt := 112) hx hb dX11_may_163 (by decide) ?_
                          exact ih57 z_87 ⟨by omega, by omega⟩ (WH.next v57_0 (by omega) ⟨by omega, by omega⟩ ⟨by omega, by omega⟩ ⟨by omega, by omega⟩ (i1 := z_60) (by omega) ez_62 bz_63.2.2 ⟨by omega, by omega⟩ (nx := r_65) (by omega) ez_70 (v := z_71) (by omega) (r2 := r_72) (by omega) ez_77 c_78 (by omega)) (fwI_s (n := x_58.toInt.toNat) (z := z_70.toInt) v57_1 (by omega) (by omega) (by omega) hu9 (by omega)) (by omega) _ _ (hP.sub [0, 1, 2, 3, 4, 5] rfl) (hD.sub [0, 1, 2, 3, 4, 5] rfl rfl) hS ls (lv_sub hl [0, 1, 2, 3, 4, 5] rfl)
                    exact loop57 ((10 - (0 : Int32).toInt).toNat + 1) 0 ⟨by omega, by omega⟩ (WH.of (q_15 _ (by omega)) (by omega)) (fwI_0 (by omega)) (by omega) _ _ hP hD hS ls (lv_sub hl [0, 1, 2, 3, 4, 5] rfl)
                  · skip
                    have c_56 : ¬ (z_55.toInt = x_38.toInt) := fun h9 => c_56 (i_eq.mpr h9)
                    refine lv_goto (tgt := 193) hx hb dX11_may_106 (by decide) ?_
                    obtain ⟨z_88, ez_88⟩ : ∃ z : Int32, z = x_46 + 1 := ⟨_, rfl⟩
                    have bz_88 : z_88.toInt = x_46.toInt + (1 : Int32).toInt := i_add ez_88 (by omega) (by omega)
                    refine lv_iinc (v := z_88) (lv' := [(5, .int z_88), (4, .int x_47), (3, .int x_38), (1, .long y_34), (0, .ref vo)]) hx hb dX11_may_193 hl (k := 0) rfl ez_88.symm (by decide) rfl (fun ls hl => ?_)
                    refine lv_goto (tgt := 81) hx hb dX11_may_196 (by decide) ?_
                    exact ih45 x_47 z_88 g_48 ⟨by omega, by omega⟩ ⟨by omega, by omega⟩ (fw_l_k v45_0 (if_neg (show ¬ ((vmnf (21 + x_46.toInt.toNat)).toInt = x_38.toInt) by have h8 := hCz_55; omega)) (by omega) (by omega)) (mbI_skip (k := x_46.toInt.toNat) v45_1 (by omega) (by omega) (by have h8 := hCz_55; show (vmnf (21 + x_46.toInt.toNat)).toInt ≠ _; omega)) (by omega) (by omega) _ _ (hP.sub [0, 1, 2, 3, 4, 5] rfl) (hD.sub [0, 1, 2, 3, 4, 5] rfl rfl) hS ls (lv_sub hl [0, 1, 2, 3, 4] rfl)
            exact loop45 ((10 - (0 : Int32).toInt).toNat + 1) z_44 0 g_39 ⟨by omega, by omega⟩ ⟨by omega, by omega⟩ (by rw [show (0 : Int32).toInt.toNat = 0 from rfl]; have h8 := htz_44; show _ = (((vmtf x_38.toInt.toNat).toInt.toNat : Nat) : Int); omega) v37_0 (by have h9 := nw_ge1 p_vmnf; omega) (by omega) _ _ hP hD hS ls (lv_sub hl [0, 1, 2, 3, 4] rfl)
      exact loop37 ((2 - (0 : Int32).toInt).toNat + 1) 0 vmbf ⟨by omega, by omega⟩ (mbI_0 (by omega) (by omega)) (by omega) _ _ hP hD hS ls (lv_sub hl [0, 1, 2] rfl)
    · skip
      have c_36 : z_35.toInt = (0 : Int32).toInt := i_eq.mp c_36
      refine lv_lconst (v := 0) hx hb dX11_may_61 (by decide) ?_
      rw [hQ9]
      exact re_l ((0 : Int32), votp_4, vmwf_12, vmff_13, vmbf, vomb) hx hb hr hlocks ⟨(show 0 ≤ (votp_4 : Int32).toInt ∧ (votp_4 : Int32).toInt ≤ 0 from ⟨by omega, by omega⟩), (show Rg vmff_13 5632 0 100000 from q_14), (show 0 ≤ (vomb : Int32).toInt ∧ (vomb : Int32).toInt ≤ 10 from ⟨by omega, by omega⟩), (show ((votp : Int32).toInt ≠ 2 ∧ ((0 : Int64) : Int64) = -1) ∨ ((votp : Int32).toInt = 2 ∧ ((0 : Int64) : Int64) = su_C (suTm (fun e9 => vmnf (21 + e9)) 0) (suWt (fun e9 => vmnf (11 + e9))) (vmnf 1).toInt.toNat (vmtf 0).toInt.toNat * su_C (suTm (fun e9 => vmnf (21 + e9)) 1) (suWt (fun e9 => vmnf (11 + e9))) (vmnf 1).toInt.toNat (vmtf 1).toInt.toNat) from (Or.inr ⟨by omega, ((l_cmp0 ez_35).mp c_36).symm.trans hM⟩)), (show mayPM vmbf vmbf (vomb : Int32).toInt (vomb : Int32).toInt (fun e9 => vmnf (11 + e9)) (fun e9 => vmnf (21 + e9)) vmtf (vmnf 1).toInt.toNat (votp : Int32).toInt ((0 : Int64) : Int64) from (Or.inl ⟨Or.inr rfl, rfl, rfl⟩))⟩ (hP.sub [2, 0, 3, 4, 5, 1] rfl) (hD.sub [2, 0, 3, 4, 5, 1] rfl rfl) hS dX11_may_62
  · skip
    have c_8 : ¬ (r_1.toInt = (2 : Int32).toInt) := fun h9 => c_8 (i_eq.mpr h9)
    refine lv_ldc2 hx hb hown (hts _ t1885) dX11_may_13 ?_
    rw [hQ9]
    exact re_l ((0 : Int32), votp_4, vmwf, vmff, vmbf, vomb) hx hb hr hlocks ⟨(show 0 ≤ (votp_4 : Int32).toInt ∧ (votp_4 : Int32).toInt ≤ 0 from ⟨by omega, by omega⟩), (show Rg vmff 5632 0 100000 from p_vmff), (show 0 ≤ (vomb : Int32).toInt ∧ (vomb : Int32).toInt ≤ 10 from ⟨by omega, by omega⟩), (show ((votp : Int32).toInt ≠ 2 ∧ (((-1) : Int64) : Int64) = -1) ∨ ((votp : Int32).toInt = 2 ∧ (((-1) : Int64) : Int64) = su_C (suTm (fun e9 => vmnf (21 + e9)) 0) (suWt (fun e9 => vmnf (11 + e9))) (vmnf 1).toInt.toNat (vmtf 0).toInt.toNat * su_C (suTm (fun e9 => vmnf (21 + e9)) 1) (suWt (fun e9 => vmnf (11 + e9))) (vmnf 1).toInt.toNat (vmtf 1).toInt.toNat) from (Or.inl ⟨by omega, rfl⟩)), (show mayPM vmbf vmbf (vomb : Int32).toInt (vomb : Int32).toInt (fun e9 => vmnf (11 + e9)) (fun e9 => vmnf (21 + e9)) vmtf (vmnf 1).toInt.toNat (votp : Int32).toInt (((-1) : Int64) : Int64) from (Or.inl ⟨Or.inl (by omega), rfl, rfl⟩))⟩ (hP.sub [5, 0, 1, 2, 3, 4] rfl) (hD.sub [5, 0, 1, 2, 3, 4] rfl rfl) hS dX11_may_16
