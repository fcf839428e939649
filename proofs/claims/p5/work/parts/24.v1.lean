/-- a token's number, closed -/
def tkNv (b : Nat → Int32) (n lim p : Int) (x : Int32) : Prop := tkK b n lim p = 2 → x.toInt = (tkVi b n p).toInt
abbrev O_s_go (cy : Nat → ClassId) (vo : Nat) (voth : Int32) (vmt : Nat) (votp : Int32) (vosz : Int32) (volm : Int32) (voto : Int32) (vofr : Int32) (vokd : Int32) (vonu : Int32) (vosg : Int32) (vofa : Int32) (vopl : Int32) (vowd : Int64) (votd : Int32) (vmn : Nat) (vmr : Nat) (vmk : Nat) (vms : Nat) (vma : Nat) (vmm : Nat) (vmrn : Nat) (vmkn : Nat) (vmik : Nat) (vmon : Nat) (vosm : Int32) (vohp : Int32) (vmw : Nat) (vmf : Nat) (vmb : Nat) (vomb : Int32) (vmd : Nat) (vmc : Nat) (vocm : Int32) (voct : Int32) (vocy : Int32) (vmx : Nat) (votx : Int32) (vose : Int32) (vml : Nat) (vmwr : Nat) (voln : Int32) (vohw : Int32) (vmno : Nat) (vond : Int32) (voon : Int32) (vowi : Int32) (votop : Int32) (vmtf : Nat → Int32) (u : Int32 × Int32 × Int32 × Int32 × Int64 × Int32) : va_W := [(vo, .inr (12, [.int voth, .ref vmt, .int votp, .int vosz, .int volm, .int u.1, .int u.2.1, .int u.2.2.1, .int u.2.2.2.2.2, .int u.2.2.2.1, .int vofa, .int vopl, .long u.2.2.2.2.1, .int votd, .ref vmn, .ref vmr, .ref vmk, .ref vms, .ref vma, .ref vmm, .ref vmrn, .ref vmkn, .ref vmik, .ref vmon, .int vosm, .int vohp, .ref vmw, .ref vmf, .ref vmb, .int vomb, .ref vmd, .ref vmc, .int vocm, .int voct, .int vocy, .ref vmx, .int votx, .int vose, .ref vml, .ref vmwr, .int voln, .int vohw, .ref vmno, .int vond, .int voon, .int vowi, .int votop])), (vmt, .inl (cy 0, 940, .inl vmtf))]
set_option maxHeartbeats 4000000 in
set_option maxRecDepth 100000 in
theorem s_go (l : Launch) (dC : Nat → ClassId) (dI : Nat → Nat → Nat) (cy : Nat → ClassId) (sz : Nat) (vo : Nat) (voth : Int32) (vmt : Nat) (votp : Int32) (vosz : Int32) (volm : Int32) (voto : Int32) (vofr : Int32) (vokd : Int32) (vonu : Int32) (vosg : Int32) (vofa : Int32) (vopl : Int32) (vowd : Int64) (votd : Int32) (vmn : Nat) (vmr : Nat) (vmk : Nat) (vms : Nat) (vma : Nat) (vmm : Nat) (vmrn : Nat) (vmkn : Nat) (vmik : Nat) (vmon : Nat) (vosm : Int32) (vohp : Int32) (vmw : Nat) (vmf : Nat) (vmb : Nat) (vomb : Int32) (vmd : Nat) (vmc : Nat) (vocm : Int32) (voct : Int32) (vocy : Int32) (vmx : Nat) (votx : Int32) (vose : Int32) (vml : Nat) (vmwr : Nat) (voln : Int32) (vohw : Int32) (vmno : Nat) (vond : Int32) (voon : Int32) (vowi : Int32) (votop : Int32) (vmtf : Nat → Int32) (r_vosz : 0 ≤ (vosz : Int32).toInt ∧ (vosz : Int32).toInt ≤ 940) (r_voto : 0 ≤ (voto : Int32).toInt ∧ (voto : Int32).toInt ≤ 940) (p_vmtf : Rg vmtf 940 0 255) (hle : (voto : Int32).toInt ≤ (vosz : Int32).toInt) : Met l yX11_go (wl yX11_go cX11_go 5 none) ({ frames := 1, cells := 0, slots := 0, locals := 64 }) (Pw (dC, dI) vwCl cy [(vo, .inr (12, [.int voth, .ref vmt, .int votp, .int vosz, .int volm, .int voto, .int vofr, .int vokd, .int vonu, .int vosg, .int vofa, .int vopl, .long vowd, .int votd, .ref vmn, .ref vmr, .ref vmk, .ref vms, .ref vma, .ref vmm, .ref vmrn, .ref vmkn, .ref vmik, .ref vmon, .int vosm, .int vohp, .ref vmw, .ref vmf, .ref vmb, .int vomb, .ref vmd, .ref vmc, .int vocm, .int voct, .int vocy, .ref vmx, .int votx, .int vose, .ref vml, .ref vmwr, .int voln, .int vohw, .ref vmno, .int vond, .int voon, .int vowi, .int votop])), (vmt, .inl (cy 0, 940, .inl vmtf))] sz [.ref vo] nE) (Qv (dC, dI) vwCl (fun (u : Int32 × Int32 × Int32 × Int32 × Int64 × Int32) => (0 ≤ (u.1 : Int32).toInt ∧ (u.1 : Int32).toInt ≤ 940) ∧ (0 ≤ (u.2.2.1 : Int32).toInt ∧ (u.2.2.1 : Int32).toInt ≤ 4) ∧ ((u.1 : Int32).toInt = tkN vmtf (vosz : Int32).toInt (volm : Int32).toInt (voto : Int32).toInt) ∧ (tkMK (u.2.2.1 : Int32).toInt (u.2.2.2.1 : Int32).toInt = tkK vmtf (vosz : Int32).toInt (volm : Int32).toInt (voto : Int32).toInt) ∧ ((u.2.1 : Int32).toInt = tkS vmtf (vosz : Int32).toInt (volm : Int32).toInt (voto : Int32).toInt) ∧ (tkMW (u.2.2.1 : Int32).toInt u.2.2.2.2.1 = tkW vmtf (vosz : Int32).toInt (volm : Int32).toInt (voto : Int32).toInt) ∧ (tkDd vmtf (vosz : Int32).toInt (volm : Int32).toInt (voto : Int32).toInt u.2.2.2.2.1) ∧ (tkK vmtf (vosz : Int32).toInt (volm : Int32).toInt (voto : Int32).toInt = 2 → u.2.2.2.2.2 = tkVi vmtf (vosz : Int32).toInt (voto : Int32).toInt) ∧ (tkNv vmtf (vosz : Int32).toInt (volm : Int32).toInt (voto : Int32).toInt u.2.2.2.2.2) ∧ ((voto : Int32).toInt ≤ (u.1 : Int32).toInt) ∧ ((u.1 : Int32).toInt ≤ (vosz : Int32).toInt)) (O_s_go cy vo voth vmt votp vosz volm voto vofr vokd vonu vosg vofa vopl vowd votd vmn vmr vmk vms vma vmm vmrn vmkn vmik vmon vosm vohp vmw vmf vmb vomb vmd vmc vocm voct vocy vmx votx vose vml vmwr voln vohw vmno vond voon vowi votop vmtf) (va_A [(vo, .inr (12, [.int voth, .ref vmt, .int votp, .int vosz, .int volm, .int voto, .int vofr, .int vokd, .int vonu, .int vosg, .int vofa, .int vopl, .long vowd, .int votd, .ref vmn, .ref vmr, .ref vmk, .ref vms, .ref vma, .ref vmm, .ref vmrn, .ref vmkn, .ref vmik, .ref vmon, .int vosm, .int vohp, .ref vmw, .ref vmf, .ref vmb, .int vomb, .ref vmd, .ref vmc, .int vocm, .int voct, .int vocy, .ref vmx, .int votx, .int vose, .ref vml, .ref vmwr, .int voln, .int vohw, .ref vmno, .int vond, .int voon, .int vowi, .int votop])), (vmt, .inl (cy 0, 940, .inl vmtf))] sz)) 0 0 (va_A [(vo, .inr (12, [.int voth, .ref vmt, .int votp, .int vosz, .int volm, .int voto, .int vofr, .int vokd, .int vonu, .int vosg, .int vofa, .int vopl, .long vowd, .int votd, .ref vmn, .ref vmr, .ref vmk, .ref vms, .ref vma, .ref vmm, .ref vmrn, .ref vmkn, .ref vmik, .ref vmon, .int vosm, .int vohp, .ref vmw, .ref vmf, .ref vmb, .int vomb, .ref vmd, .ref vmc, .int vocm, .int voct, .int vocy, .ref vmx, .int votx, .int vose, .ref vml, .ref vmwr, .int voln, .int vohw, .ref vmno, .int vond, .int voon, .int vowi, .int votop])), (vmt, .inl (cy 0, 940, .inl vmtf))] sz) := by
  refine mw (Qc := Qv (dC, dI) vwCl (fun (u : Int32 × Int32 × Int32 × Int32 × Int64 × Int32) => (0 ≤ (u.1 : Int32).toInt ∧ (u.1 : Int32).toInt ≤ 940) ∧ (0 ≤ (u.2.2.1 : Int32).toInt ∧ (u.2.2.1 : Int32).toInt ≤ 4) ∧ ((u.1 : Int32).toInt = tkN vmtf (vosz : Int32).toInt (volm : Int32).toInt (voto : Int32).toInt) ∧ (tkMK (u.2.2.1 : Int32).toInt (u.2.2.2.1 : Int32).toInt = tkK vmtf (vosz : Int32).toInt (volm : Int32).toInt (voto : Int32).toInt) ∧ ((u.2.1 : Int32).toInt = tkS vmtf (vosz : Int32).toInt (volm : Int32).toInt (voto : Int32).toInt) ∧ (tkMW (u.2.2.1 : Int32).toInt u.2.2.2.2.1 = tkW vmtf (vosz : Int32).toInt (volm : Int32).toInt (voto : Int32).toInt) ∧ (tkDd vmtf (vosz : Int32).toInt (volm : Int32).toInt (voto : Int32).toInt u.2.2.2.2.1) ∧ (tkK vmtf (vosz : Int32).toInt (volm : Int32).toInt (voto : Int32).toInt = 2 → u.2.2.2.2.2 = tkVi vmtf (vosz : Int32).toInt (voto : Int32).toInt) ∧ (tkNv vmtf (vosz : Int32).toInt (volm : Int32).toInt (voto : Int32).toInt u.2.2.2.2.2) ∧ ((voto : Int32).toInt ≤ (u.1 : Int32).toInt) ∧ ((u.1 : Int32).toInt ≤ (vosz : Int32).toInt)) (O_s_go cy vo voth vmt votp vosz volm voto vofr vokd vonu vosg vofa vopl vowd votd vmn vmr vmk vms vma vmm vmrn vmkn vmik vmon vosm vohp vmw vmf vmb vomb vmd vmc vocm voct vocy vmx votx vose vml vmwr voln vohw vmno vond voon vowi votop vmtf)) RX11 rfl (by decide +kernel) (Nat.le_of_ble_eq_true rfl) ?_
  intro p e s m below meth c A hx hb hr hlocks av9 hav hts hown hnm hml hK hP hD hA hS hE hAe Q9 hQ9 ls hl
  have hl : lv_has ls 5 [(0, .ref vo)] := hl
  have join1 : ∀ (x_2 : Int32), (0 ≤ x_2.toInt ∧ x_2.toInt ≤ 940) → (tksk vmtf vosz.toInt voto.toInt = x_2.toInt) → (voto.toInt ≤ x_2.toInt) → (x_2.toInt ≤ vosz.toInt) → ∀ (H : Heap) (locs : List Loc), va_P (dC, dI) vwCl [(vo, .inr (12, [.int voth, .ref vmt, .int votp, .int vosz, .int volm, .int x_2, .int vofr, .int vokd, .int vonu, .int vosg, .int vofa, .int vopl, .long vowd, .int votd, .ref vmn, .ref vmr, .ref vmk, .ref vms, .ref vma, .ref vmm, .ref vmrn, .ref vmkn, .ref vmik, .ref vmon, .int vosm, .int vohp, .ref vmw, .ref vmf, .ref vmb, .int vomb, .ref vmd, .ref vmc, .int vocm, .int voct, .int vocy, .ref vmx, .int votx, .int vose, .ref vml, .ref vmwr, .int voln, .int vohw, .ref vmno, .int vond, .int voon, .int vowi, .int votop])), (vmt, .inl (cy 0, 940, .inl vmtf))] H → va_D A [(vo, .inr (12, [.int voth, .ref vmt, .int votp, .int vosz, .int volm, .int x_2, .int vofr, .int vokd, .int vonu, .int vosg, .int vofa, .int vopl, .long vowd, .int votd, .ref vmn, .ref vmr, .ref vmk, .ref vms, .ref vma, .ref vmm, .ref vmrn, .ref vmkn, .ref vmik, .ref vmon, .int vosm, .int vohp, .ref vmw, .ref vmf, .ref vmb, .int vomb, .ref vmd, .ref vmc, .int vocm, .int voct, .int vocy, .ref vmx, .int votx, .int vose, .ref vml, .ref vmwr, .int voln, .int vohw, .ref vmno, .int vond, .int voon, .int vowi, .int votop])), (vmt, .inl (cy 0, 940, .inl vmtf))] → va_S A s.heap H locs → ∀ ls : Array Slot, lv_has ls 5 [(0, .ref vo)] → W p l e ({ frames := 1, cells := 0, slots := 0, locals := 64 }) s m av9 below meth c H locs 0 0 Q9 (F0 m 52 ls []) := by
    intro x_2 bx_2 v1_0 v1_1 v1_2 H locs hP hD hS ls hl
    refine lv_aload_n hx hb dX11_go_52 rfl (lv_at hl 0 rfl) ?_
    refine lv_aload_n hx hb dX11_go_53 rfl (lv_at hl 0 rfl) ?_
    refine gf_X11_21 hx hb hts hown hK hP 0 rfl rfl dX11_go_54 ?_
    refine pf_X11_24 hx hb hts hown hK hP hD hS 0 rfl rfl rfl (Nat.le_of_ble_eq_true rfl) dX11_go_57 (fun H locs hP hD hS => ?_)
    have hP : va_P (dC, dI) vwCl [(vo, .inr (12, [.int voth, .ref vmt, .int votp, .int vosz, .int volm, .int x_2, .int x_2, .int vokd, .int vonu, .int vosg, .int vofa, .int vopl, .long vowd, .int votd, .ref vmn, .ref vmr, .ref vmk, .ref vms, .ref vma, .ref vmm, .ref vmrn, .ref vmkn, .ref vmik, .ref vmon, .int vosm, .int vohp, .ref vmw, .ref vmf, .ref vmb, .int vomb, .ref vmd, .ref vmc, .int vocm, .int voct, .int vocy, .ref vmx, .int votx, .int vose, .ref vml, .ref vmwr, .int voln, .int vohw, .ref vmno, .int vond, .int voon, .int vowi, .int votop])), (vmt, .inl (cy 0, 940, .inl vmtf))] H := hP
    have hD : va_D A [(vo, .inr (12, [.int voth, .ref vmt, .int votp, .int vosz, .int volm, .int x_2, .int x_2, .int vokd, .int vonu, .int vosg, .int vofa, .int vopl, .long vowd, .int votd, .ref vmn, .ref vmr, .ref vmk, .ref vms, .ref vma, .ref vmm, .ref vmrn, .ref vmkn, .ref vmik, .ref vmon, .int vosm, .int vohp, .ref vmw, .ref vmf, .ref vmb, .int vomb, .ref vmd, .ref vmc, .int vocm, .int voct, .int vocy, .ref vmx, .int votx, .int vose, .ref vml, .ref vmwr, .int voln, .int vohw, .ref vmno, .int vond, .int voon, .int vowi, .int votop])), (vmt, .inl (cy 0, 940, .inl vmtf))] := hD
    have join3 : (¬ (volm.toInt < vosz.toInt ∧ volm.toInt ≤ x_2.toInt)) → ∀ (H : Heap) (locs : List Loc), va_P (dC, dI) vwCl [(vo, .inr (12, [.int voth, .ref vmt, .int votp, .int vosz, .int volm, .int x_2, .int x_2, .int vokd, .int vonu, .int vosg, .int vofa, .int vopl, .long vowd, .int votd, .ref vmn, .ref vmr, .ref vmk, .ref vms, .ref vma, .ref vmm, .ref vmrn, .ref vmkn, .ref vmik, .ref vmon, .int vosm, .int vohp, .ref vmw, .ref vmf, .ref vmb, .int vomb, .ref vmd, .ref vmc, .int vocm, .int voct, .int vocy, .ref vmx, .int votx, .int vose, .ref vml, .ref vmwr, .int voln, .int vohw, .ref vmno, .int vond, .int voon, .int vowi, .int votop])), (vmt, .inl (cy 0, 940, .inl vmtf))] H → va_D A [(vo, .inr (12, [.int voth, .ref vmt, .int votp, .int vosz, .int volm, .int x_2, .int x_2, .int vokd, .int vonu, .int vosg, .int vofa, .int vopl, .long vowd, .int votd, .ref vmn, .ref vmr, .ref vmk, .ref vms, .ref vma, .ref vmm, .ref vmrn, .ref vmkn, .ref vmik, .ref vmon, .int vosm, .int vohp, .ref vmw, .ref vmf, .ref vmb, .int vomb, .ref vmd, .ref vmc, .int vocm, .int voct, .int vocy, .ref vmx, .int votx, .int vose, .ref vml, .ref vmwr, .int voln, .int vohw, .ref vmno, .int vond, .int voon, .int vowi, .int votop])), (vmt, .inl (cy 0, 940, .inl vmtf))] → va_S A s.heap H locs → ∀ ls : Array Slot, lv_has ls 5 [(0, .ref vo)] → W p l e ({ frames := 1, cells := 0, slots := 0, locals := 64 }) s m av9 below meth c H locs 0 0 Q9 (F0 m 96 ls []) := by
      intro v3_0 H locs hP hD hS ls hl
      refine lv_aload_n hx hb dX11_go_96 rfl (lv_at hl 0 rfl) ?_
      refine gf_X11_21 hx hb hts hown hK hP 0 rfl rfl dX11_go_97 ?_
      refine lv_aload_n hx hb dX11_go_100 rfl (lv_at hl 0 rfl) ?_
      refine gf_X11_18 hx hb hts hown hK hP 0 rfl rfl dX11_go_101 ?_
      refine lv_icmp_lt (tgt := 113) hx hb dX11_go_104 (by decide) (fun c_4 => ?_) (fun c_4 => ?_)
      · skip
        have c_4 : x_2.toInt < vosz.toInt := i_lt.mp c_4
        refine lv_aload_n hx hb dX11_go_113 rfl (lv_at hl 0 rfl) ?_
        refine gf_X11_7 hx hb hts hown hK hP 0 rfl rfl dX11_go_114 ?_
        refine lv_aload_n hx hb dX11_go_117 rfl (lv_at hl 0 rfl) ?_
        refine gf_X11_21 hx hb hts hown hK hP 0 rfl rfl dX11_go_118 ?_
        have hin_5 : vp_in x_2 940 := vp_in_iff.mpr ⟨by omega, by omega⟩
        refine va_iald hx hb hK hP 1 0 rfl rfl hin_5 dX11_go_121 ?_
        refine lv_topi (fun z_6 ez_6 => ?_)
        have bz_6 := p_vmtf.at hin_5 ez_6
        refine lv_istore_n (lv' := [(1, .int z_6), (0, .ref vo)]) hx hb dX11_go_122 rfl hl (by decide) rfl (fun ls hl => ?_)
        have join7 : ((97 ≤ z_6.toInt ∧ z_6.toInt ≤ 122) ∨ (48 ≤ z_6.toInt ∧ z_6.toInt ≤ 57)) → ∀ (H : Heap) (locs : List Loc), va_P (dC, dI) vwCl [(vo, .inr (12, [.int voth, .ref vmt, .int votp, .int vosz, .int volm, .int x_2, .int x_2, .int vokd, .int vonu, .int vosg, .int vofa, .int vopl, .long vowd, .int votd, .ref vmn, .ref vmr, .ref vmk, .ref vms, .ref vma, .ref vmm, .ref vmrn, .ref vmkn, .ref vmik, .ref vmon, .int vosm, .int vohp, .ref vmw, .ref vmf, .ref vmb, .int vomb, .ref vmd, .ref vmc, .int vocm, .int voct, .int vocy, .ref vmx, .int votx, .int vose, .ref vml, .ref vmwr, .int voln, .int vohw, .ref vmno, .int vond, .int voon, .int vowi, .int votop])), (vmt, .inl (cy 0, 940, .inl vmtf))] H → va_D A [(vo, .inr (12, [.int voth, .ref vmt, .int votp, .int vosz, .int volm, .int x_2, .int x_2, .int vokd, .int vonu, .int vosg, .int vofa, .int vopl, .long vowd, .int votd, .ref vmn, .ref vmr, .ref vmk, .ref vms, .ref vma, .ref vmm, .ref vmrn, .ref vmkn, .ref vmik, .ref vmon, .int vosm, .int vohp, .ref vmw, .ref vmf, .ref vmb, .int vomb, .ref vmd, .ref vmc, .int vocm, .int voct, .int vocy, .ref vmx, .int votx, .int vose, .ref vml, .ref vmwr, .int voln, .int vohw, .ref vmno, .int vond, .int voon, .int vowi, .int votop])), (vmt, .inl (cy 0, 940, .inl vmtf))] → va_S A s.heap H locs → ∀ ls : Array Slot, lv_has ls 5 [(1, .int z_6), (0, .ref vo)] → W p l e ({ frames := 1, cells := 0, slots := 0, locals := 64 }) s m av9 below meth c H locs 0 0 Q9 (F0 m 198 ls []) := by
          intro v7_0 H locs hP hD hS ls hl
          have join8 : ∀ (x_9 : Int32), (0 ≤ x_9.toInt ∧ x_9.toInt ≤ 1) → ((x_9.toInt = 1 ∧ 97 ≤ z_6.toInt ∧ z_6.toInt ≤ 122) ∨ (x_9.toInt = 0 ∧ 48 ≤ z_6.toInt ∧ z_6.toInt ≤ 57)) → ∀ (H : Heap) (locs : List Loc), va_P (dC, dI) vwCl [(vo, .inr (12, [.int voth, .ref vmt, .int votp, .int vosz, .int volm, .int x_2, .int x_2, .int vokd, .int vonu, .int vosg, .int vofa, .int vopl, .long vowd, .int votd, .ref vmn, .ref vmr, .ref vmk, .ref vms, .ref vma, .ref vmm, .ref vmrn, .ref vmkn, .ref vmik, .ref vmon, .int vosm, .int vohp, .ref vmw, .ref vmf, .ref vmb, .int vomb, .ref vmd, .ref vmc, .int vocm, .int voct, .int vocy, .ref vmx, .int votx, .int vose, .ref vml, .ref vmwr, .int voln, .int vohw, .ref vmno, .int vond, .int voon, .int vowi, .int votop])), (vmt, .inl (cy 0, 940, .inl vmtf))] H → va_D A [(vo, .inr (12, [.int voth, .ref vmt, .int votp, .int vosz, .int volm, .int x_2, .int x_2, .int vokd, .int vonu, .int vosg, .int vofa, .int vopl, .long vowd, .int votd, .ref vmn, .ref vmr, .ref vmk, .ref vms, .ref vma, .ref vmm, .ref vmrn, .ref vmkn, .ref vmik, .ref vmon, .int vosm, .int vohp, .ref vmw, .ref vmf, .ref vmb, .int vomb, .ref vmd, .ref vmc, .int vocm, .int voct, .int vocy, .ref vmx, .int votx, .int vose, .ref vml, .ref vmwr, .int voln, .int vohw, .ref vmno, .int vond, .int voon, .int vowi, .int votop])), (vmt, .inl (cy 0, 940, .inl vmtf))] → va_S A s.heap H locs → ∀ ls : Array Slot, lv_has ls 5 [(2, .int x_9), (1, .int z_6), (0, .ref vo)] → W p l e ({ frames := 1, cells := 0, slots := 0, locals := 64 }) s m av9 below meth c H locs 0 0 Q9 (F0 m 203 ls []) := by
            intro x_9 bx_9 v8_0 H locs hP hD hS ls hl
            refine lv_iconst (v := 1) hx hb dX11_go_203 (by decide) ?_
            refine lv_istore_n (lv' := [(3, .int 1), (2, .int x_9), (1, .int z_6), (0, .ref vo)]) hx hb dX11_go_204 rfl hl (by decide) rfl (fun ls hl => ?_)
            refine lv_aload_n hx hb dX11_go_205 rfl (lv_at hl 3 rfl) ?_
            refine lv_lconst (v := 0) hx hb dX11_go_206 (by decide) ?_
            refine pf_X11_43 hx hb hts hown hK hP hD hS 0 rfl rfl rfl (Nat.le_of_ble_eq_true rfl) dX11_go_207 (fun H locs hP hD hS => ?_)
            have hP : va_P (dC, dI) vwCl [(vo, .inr (12, [.int voth, .ref vmt, .int votp, .int vosz, .int volm, .int x_2, .int x_2, .int vokd, .int vonu, .int vosg, .int vofa, .int vopl, .long 0, .int votd, .ref vmn, .ref vmr, .ref vmk, .ref vms, .ref vma, .ref vmm, .ref vmrn, .ref vmkn, .ref vmik, .ref vmon, .int vosm, .int vohp, .ref vmw, .ref vmf, .ref vmb, .int vomb, .ref vmd, .ref vmc, .int vocm, .int voct, .int vocy, .ref vmx, .int votx, .int vose, .ref vml, .ref vmwr, .int voln, .int vohw, .ref vmno, .int vond, .int voon, .int vowi, .int votop])), (vmt, .inl (cy 0, 940, .inl vmtf))] H := hP
            have hD : va_D A [(vo, .inr (12, [.int voth, .ref vmt, .int votp, .int vosz, .int volm, .int x_2, .int x_2, .int vokd, .int vonu, .int vosg, .int vofa, .int vopl, .long 0, .int votd, .ref vmn, .ref vmr, .ref vmk, .ref vms, .ref vma, .ref vmm, .ref vmrn, .ref vmkn, .ref vmik, .ref vmon, .int vosm, .int vohp, .ref vmw, .ref vmf, .ref vmb, .int vomb, .ref vmd, .ref vmc, .int vocm, .int voct, .int vocy, .ref vmx, .int votx, .int vose, .ref vml, .ref vmwr, .int voln, .int vohw, .ref vmno, .int vond, .int voon, .int vowi, .int votop])), (vmt, .inl (cy 0, 940, .inl vmtf))] := hD
            refine lv_aload_n hx hb dX11_go_210 rfl (lv_at hl 3 rfl) ?_
            refine lv_iconst (v := 0) hx hb dX11_go_211 (by decide) ?_
            refine pf_X11_47 hx hb hts hown hK hP hD hS 0 rfl rfl rfl (Nat.le_of_ble_eq_true rfl) dX11_go_212 (fun H locs hP hD hS => ?_)
            have hP : va_P (dC, dI) vwCl [(vo, .inr (12, [.int voth, .ref vmt, .int votp, .int vosz, .int volm, .int x_2, .int x_2, .int vokd, .int 0, .int vosg, .int vofa, .int vopl, .long 0, .int votd, .ref vmn, .ref vmr, .ref vmk, .ref vms, .ref vma, .ref vmm, .ref vmrn, .ref vmkn, .ref vmik, .ref vmon, .int vosm, .int vohp, .ref vmw, .ref vmf, .ref vmb, .int vomb, .ref vmd, .ref vmc, .int vocm, .int voct, .int vocy, .ref vmx, .int votx, .int vose, .ref vml, .ref vmwr, .int voln, .int vohw, .ref vmno, .int vond, .int voon, .int vowi, .int votop])), (vmt, .inl (cy 0, 940, .inl vmtf))] H := hP
            have hD : va_D A [(vo, .inr (12, [.int voth, .ref vmt, .int votp, .int vosz, .int volm, .int x_2, .int x_2, .int vokd, .int 0, .int vosg, .int vofa, .int vopl, .long 0, .int votd, .ref vmn, .ref vmr, .ref vmk, .ref vms, .ref vma, .ref vmm, .ref vmrn, .ref vmkn, .ref vmik, .ref vmon, .int vosm, .int vohp, .ref vmw, .ref vmf, .ref vmb, .int vomb, .ref vmd, .ref vmc, .int vocm, .int voct, .int vocy, .ref vmx, .int votx, .int vose, .ref vml, .ref vmwr, .int voln, .int vohw, .ref vmno, .int vond, .int voon, .int vowi, .int votop])), (vmt, .inl (cy 0, 940, .inl vmtf))] := hD
            have loop10 : ∀ (n10 : Nat) (x_11 : Int32) (x_12 : Int32) (x_13 : Int64) (x_14 : Int32), (0 ≤ x_11.toInt ∧ x_11.toInt ≤ 1) → (0 ≤ x_12.toInt ∧ x_12.toInt ≤ 940) → ((x_2.toInt < x_12.toInt) ∨ (x_12.toInt = x_2.toInt ∧ x_12.toInt < vosz.toInt ∧ (vmtf (Int32.toNatClampNeg x_12)).toInt = z_6.toInt)) → (tkrn vmtf vosz.toInt x_12.toInt = tkrn vmtf vosz.toInt x_2.toInt) → (x_13 = tkwd vmtf x_2.toInt x_12.toInt) → (x_14 = tkn3 vmtf x_2.toInt x_12.toInt) → (x_2.toInt ≤ x_12.toInt ∧ x_12.toInt ≤ vosz.toInt ∧ tkcL vmtf x_2.toInt x_12.toInt + tkcG vmtf x_2.toInt x_12.toInt = x_12.toInt - x_2.toInt ∧ 0 ≤ tkcL vmtf x_2.toInt x_12.toInt ∧ 0 ≤ tkcG vmtf x_2.toInt x_12.toInt) → (tkF5 x_9.toInt x_11.toInt (tkcL vmtf x_2.toInt x_12.toInt) (tkcG vmtf x_2.toInt x_12.toInt)) → (tkF6 x_9.toInt x_12.toInt x_2.toInt (tkcL vmtf x_2.toInt x_12.toInt) (tkcG vmtf x_2.toInt x_12.toInt)) → 940 - x_12.toInt < (n10 : Int) → ∀ (H : Heap) (locs : List Loc), va_P (dC, dI) vwCl [(vo, .inr (12, [.int voth, .ref vmt, .int votp, .int vosz, .int volm, .int x_12, .int x_2, .int vokd, .int x_14, .int vosg, .int vofa, .int vopl, .long x_13, .int votd, .ref vmn, .ref vmr, .ref vmk, .ref vms, .ref vma, .ref vmm, .ref vmrn, .ref vmkn, .ref vmik, .ref vmon, .int vosm, .int vohp, .ref vmw, .ref vmf, .ref vmb, .int vomb, .ref vmd, .ref vmc, .int vocm, .int voct, .int vocy, .ref vmx, .int votx, .int vose, .ref vml, .ref vmwr, .int voln, .int vohw, .ref vmno, .int vond, .int voon, .int vowi, .int votop])), (vmt, .inl (cy 0, 940, .inl vmtf))] H → va_D A [(vo, .inr (12, [.int voth, .ref vmt, .int votp, .int vosz, .int volm, .int x_12, .int x_2, .int vokd, .int x_14, .int vosg, .int vofa, .int vopl, .long x_13, .int votd, .ref vmn, .ref vmr, .ref vmk, .ref vms, .ref vma, .ref vmm, .ref vmrn, .ref vmkn, .ref vmik, .ref vmon, .int vosm, .int vohp, .ref vmw, .ref vmf, .ref vmb, .int vomb, .ref vmd, .ref vmc, .int vocm, .int voct, .int vocy, .ref vmx, .int votx, .int vose, .ref vml, .ref vmwr, .int voln, .int vohw, .ref vmno, .int vond, .int voon, .int vowi, .int votop])), (vmt, .inl (cy 0, 940, .inl vmtf))] → va_S A s.heap H locs → ∀ ls : Array Slot, lv_has ls 5 [(3, .int x_11), (2, .int x_9), (1, .int z_6), (0, .ref vo)] → W p l e ({ frames := 1, cells := 0, slots := 0, locals := 64 }) s m av9 below meth c H locs 0 0 Q9 (F0 m 215 ls []) := by
              intro n10
              induction n10 with
              | zero =>
                intro x_11 x_12 x_13 x_14 bx_11 bx_12 v10_0 v10_1 v10_2 v10_3 v10_4 v10_5 v10_6 hn10 H locs hP hD hS ls hl
                exfalso; omega
              | succ n10 ih10 =>
                intro x_11 x_12 x_13 x_14 bx_11 bx_12 v10_0 v10_1 v10_2 v10_3 v10_4 v10_5 v10_6 hn10 H locs hP hD hS ls hl
                refine lv_aload_n hx hb dX11_go_215 rfl (lv_at hl 3 rfl) ?_
                have join15 : (x_12.toInt < vosz.toInt) → ((97 ≤ tkb vmtf x_12.toInt ∧ tkb vmtf x_12.toInt ≤ 122) ∨ (48 ≤ tkb vmtf x_12.toInt ∧ tkb vmtf x_12.toInt ≤ 57)) → ∀ (H : Heap) (locs : List Loc), va_P (dC, dI) vwCl [(vo, .inr (12, [.int voth, .ref vmt, .int votp, .int vosz, .int volm, .int x_12, .int x_2, .int vokd, .int x_14, .int vosg, .int vofa, .int vopl, .long x_13, .int votd, .ref vmn, .ref vmr, .ref vmk, .ref vms, .ref vma, .ref vmm, .ref vmrn, .ref vmkn, .ref vmik, .ref vmon, .int vosm, .int vohp, .ref vmw, .ref vmf, .ref vmb, .int vomb, .ref vmd, .ref vmc, .int vocm, .int voct, .int vocy, .ref vmx, .int votx, .int vose, .ref vml, .ref vmwr, .int voln, .int vohw, .ref vmno, .int vond, .int voon, .int vowi, .int votop])), (vmt, .inl (cy 0, 940, .inl vmtf))] H → va_D A [(vo, .inr (12, [.int voth, .ref vmt, .int votp, .int vosz, .int volm, .int x_12, .int x_2, .int vokd, .int x_14, .int vosg, .int vofa, .int vopl, .long x_13, .int votd, .ref vmn, .ref vmr, .ref vmk, .ref vms, .ref vma, .ref vmm, .ref vmrn, .ref vmkn, .ref vmik, .ref vmon, .int vosm, .int vohp, .ref vmw, .ref vmf, .ref vmb, .int vomb, .ref vmd, .ref vmc, .int vocm, .int voct, .int vocy, .ref vmx, .int votx, .int vose, .ref vml, .ref vmwr, .int voln, .int vohw, .ref vmno, .int vond, .int voon, .int vowi, .int votop])), (vmt, .inl (cy 0, 940, .inl vmtf))] → va_S A s.heap H locs → ∀ ls : Array Slot, lv_has ls 5 [(3, .int x_11), (2, .int x_9), (1, .int z_6), (0, .ref vo)] → W p l e ({ frames := 1, cells := 0, slots := 0, locals := 64 }) s m av9 below meth c H locs 0 0 Q9 (F0 m 243 ls []) := by
                  intro v15_0 v15_1 H locs hP hD hS ls hl
                  refine lv_aload_n hx hb dX11_go_243 rfl (lv_at hl 3 rfl) ?_
                  refine gf_X11_7 hx hb hts hown hK hP 0 rfl rfl dX11_go_244 ?_
                  refine lv_aload_n hx hb dX11_go_247 rfl (lv_at hl 3 rfl) ?_
                  refine gf_X11_21 hx hb hts hown hK hP 0 rfl rfl dX11_go_248 ?_
                  have hin_16 : vp_in x_12 940 := vp_in_iff.mpr ⟨by omega, by omega⟩
                  refine va_iald hx hb hK hP 1 0 rfl rfl hin_16 dX11_go_251 ?_
                  refine lv_topi (fun z_17 ez_17 => ?_)
                  have bz_17 := p_vmtf.at hin_16 ez_17
                  refine lv_istore (lv' := [(4, .int z_17), (3, .int x_11), (2, .int x_9), (1, .int z_6), (0, .ref vo)]) hx hb dX11_go_252 hl (by decide) rfl (fun ls hl => ?_)
                  have join18 : ∀ (x_19 : Int32), (0 ≤ x_19.toInt ∧ x_19.toInt ≤ 1) → (tkF7 x_19.toInt x_11.toInt x_9.toInt z_17.toInt) → ∀ (H : Heap) (locs : List Loc), va_P (dC, dI) vwCl [(vo, .inr (12, [.int voth, .ref vmt, .int votp, .int vosz, .int volm, .int x_12, .int x_2, .int vokd, .int x_14, .int vosg, .int vofa, .int vopl, .long x_13, .int votd, .ref vmn, .ref vmr, .ref vmk, .ref vms, .ref vma, .ref vmm, .ref vmrn, .ref vmkn, .ref vmik, .ref vmon, .int vosm, .int vohp, .ref vmw, .ref vmf, .ref vmb, .int vomb, .ref vmd, .ref vmc, .int vocm, .int voct, .int vocy, .ref vmx, .int votx, .int vose, .ref vml, .ref vmwr, .int voln, .int vohw, .ref vmno, .int vond, .int voon, .int vowi, .int votop])), (vmt, .inl (cy 0, 940, .inl vmtf))] H → va_D A [(vo, .inr (12, [.int voth, .ref vmt, .int votp, .int vosz, .int volm, .int x_12, .int x_2, .int vokd, .int x_14, .int vosg, .int vofa, .int vopl, .long x_13, .int votd, .ref vmn, .ref vmr, .ref vmk, .ref vms, .ref vma, .ref vmm, .ref vmrn, .ref vmkn, .ref vmik, .ref vmon, .int vosm, .int vohp, .ref vmw, .ref vmf, .ref vmb, .int vomb, .ref vmd, .ref vmc, .int vocm, .int voct, .int vocy, .ref vmx, .int votx, .int vose, .ref vml, .ref vmwr, .int voln, .int vohw, .ref vmno, .int vond, .int voon, .int vowi, .int votop])), (vmt, .inl (cy 0, 940, .inl vmtf))] → va_S A s.heap H locs → ∀ ls : Array Slot, lv_has ls 5 [(3, .int x_19), (4, .int z_17), (2, .int x_9), (1, .int z_6), (0, .ref vo)] → W p l e ({ frames := 1, cells := 0, slots := 0, locals := 64 }) s m av9 below meth c H locs 0 0 Q9 (F0 m 273 ls []) := by
                    intro x_19 bx_19 v18_0 H locs hP hD hS ls hl
                    have join20 : ∀ (x_21 : Int64), (x_21 = tkwd vmtf x_2.toInt (x_12.toInt + 1)) → ∀ (H : Heap) (locs : List Loc), va_P (dC, dI) vwCl [(vo, .inr (12, [.int voth, .ref vmt, .int votp, .int vosz, .int volm, .int x_12, .int x_2, .int vokd, .int x_14, .int vosg, .int vofa, .int vopl, .long x_21, .int votd, .ref vmn, .ref vmr, .ref vmk, .ref vms, .ref vma, .ref vmm, .ref vmrn, .ref vmkn, .ref vmik, .ref vmon, .int vosm, .int vohp, .ref vmw, .ref vmf, .ref vmb, .int vomb, .ref vmd, .ref vmc, .int vocm, .int voct, .int vocy, .ref vmx, .int votx, .int vose, .ref vml, .ref vmwr, .int voln, .int vohw, .ref vmno, .int vond, .int voon, .int vowi, .int votop])), (vmt, .inl (cy 0, 940, .inl vmtf))] H → va_D A [(vo, .inr (12, [.int voth, .ref vmt, .int votp, .int vosz, .int volm, .int x_12, .int x_2, .int vokd, .int x_14, .int vosg, .int vofa, .int vopl, .long x_21, .int votd, .ref vmn, .ref vmr, .ref vmk, .ref vms, .ref vma, .ref vmm, .ref vmrn, .ref vmkn, .ref vmik, .ref vmon, .int vosm, .int vohp, .ref vmw, .ref vmf, .ref vmb, .int vomb, .ref vmd, .ref vmc, .int vocm, .int voct, .int vocy, .ref vmx, .int votx, .int vose, .ref vml, .ref vmwr, .int voln, .int vohw, .ref vmno, .int vond, .int voon, .int vowi, .int votop])), (vmt, .inl (cy 0, 940, .inl vmtf))] → va_S A s.heap H locs → ∀ ls : Array Slot, lv_has ls 5 [(3, .int x_19), (4, .int z_17), (2, .int x_9), (1, .int z_6), (0, .ref vo)] → W p l e ({ frames := 1, cells := 0, slots := 0, locals := 64 }) s m av9 below meth c H locs 0 0 Q9 (F0 m 307 ls []) := by
                      intro x_21 v20_0 H locs hP hD hS ls hl
                      have join22 : ∀ (x_23 : Int32), (x_23 = tkn3 vmtf x_2.toInt (x_12.toInt + 1)) → ∀ (H : Heap) (locs : List Loc), va_P (dC, dI) vwCl [(vo, .inr (12, [.int voth, .ref vmt, .int votp, .int vosz, .int volm, .int x_12, .int x_2, .int vokd, .int x_23, .int vosg, .int vofa, .int vopl, .long x_21, .int votd, .ref vmn, .ref vmr, .ref vmk, .ref vms, .ref vma, .ref vmm, .ref vmrn, .ref vmkn, .ref vmik, .ref vmon, .int vosm, .int vohp, .ref vmw, .ref vmf, .ref vmb, .int vomb, .ref vmd, .ref vmc, .int vocm, .int voct, .int vocy, .ref vmx, .int votx, .int vose, .ref vml, .ref vmwr, .int voln, .int vohw, .ref vmno, .int vond, .int voon, .int vowi, .int votop])), (vmt, .inl (cy 0, 940, .inl vmtf))] H → va_D A [(vo, .inr (12, [.int voth, .ref vmt, .int votp, .int vosz, .int volm, .int x_12, .int x_2, .int vokd, .int x_23, .int vosg, .int vofa, .int vopl, .long x_21, .int votd, .ref vmn, .ref vmr, .ref vmk, .ref vms, .ref vma, .ref vmm, .ref vmrn, .ref vmkn, .ref vmik, .ref vmon, .int vosm, .int vohp, .ref vmw, .ref vmf, .ref vmb, .int vomb, .ref vmd, .ref vmc, .int vocm, .int voct, .int vocy, .ref vmx, .int votx, .int vose, .ref vml, .ref vmwr, .int voln, .int vohw, .ref vmno, .int vond, .int voon, .int vowi, .int votop])), (vmt, .inl (cy 0, 940, .inl vmtf))] → va_S A s.heap H locs → ∀ ls : Array Slot, lv_has ls 5 [(3, .int x_19), (4, .int z_17), (2, .int x_9), (1, .int z_6), (0, .ref vo)] → W p l e ({ frames := 1, cells := 0, slots := 0, locals := 64 }) s m av9 below meth c H locs 0 0 Q9 (F0 m 337 ls []) := by
                        intro x_23 v22_0 H locs hP hD hS ls hl
                        refine lv_aload_n hx hb dX11_go_337 rfl (lv_at hl 4 rfl) ?_
                        refine lv_dup hx hb dX11_go_338 rfl ?_
                        refine gf_X11_21 hx hb hts hown hK hP 0 rfl rfl dX11_go_339 ?_
                        refine lv_iconst (v := 1) hx hb dX11_go_342 (by decide) ?_
                        refine lv_iadd hx hb dX11_go_343 ?_
                        refine lv_topi (fun z_24 ez_24 => ?_)
                        have k_1 : (1 : Int32).toInt = 1 := by decide
                        have bz_24 : z_24.toInt = x_12.toInt + (1 : Int32).toInt := i_add ez_24 (by omega) (by omega)
                        refine pf_X11_21 hx hb hts hown hK hP hD hS 0 rfl rfl rfl (Nat.le_of_ble_eq_true rfl) dX11_go_344 (fun H locs hP hD hS => ?_)
                        have hP : va_P (dC, dI) vwCl [(vo, .inr (12, [.int voth, .ref vmt, .int votp, .int vosz, .int volm, .int z_24, .int x_2, .int vokd, .int x_23, .int vosg, .int vofa, .int vopl, .long x_21, .int votd, .ref vmn, .ref vmr, .ref vmk, .ref vms, .ref vma, .ref vmm, .ref vmrn, .ref vmkn, .ref vmik, .ref vmon, .int vosm, .int vohp, .ref vmw, .ref vmf, .ref vmb, .int vomb, .ref vmd, .ref vmc, .int vocm, .int voct, .int vocy, .ref vmx, .int votx, .int vose, .ref vml, .ref vmwr, .int voln, .int vohw, .ref vmno, .int vond, .int voon, .int vowi, .int votop])), (vmt, .inl (cy 0, 940, .inl vmtf))] H := hP
                        have hD : va_D A [(vo, .inr (12, [.int voth, .ref vmt, .int votp, .int vosz, .int volm, .int z_24, .int x_2, .int vokd, .int x_23, .int vosg, .int vofa, .int vopl, .long x_21, .int votd, .ref vmn, .ref vmr, .ref vmk, .ref vms, .ref vma, .ref vmm, .ref vmrn, .ref vmkn, .ref vmik, .ref vmon, .int vosm, .int vohp, .ref vmw, .ref vmf, .ref vmb, .int vomb, .ref vmd, .ref vmc, .int vocm, .int voct, .int vocy, .ref vmx, .int votx, .int vose, .ref vml, .ref vmwr, .int voln, .int vohw, .ref vmno, .int vond, .int voon, .int vowi, .int votop])), (vmt, .inl (cy 0, 940, .inl vmtf))] := hD
                        refine lv_goto (tgt := 215) hx hb dX11_go_347 (by decide) ?_
                        exact ih10 x_19 z_24 x_21 x_23 ⟨by omega, by omega⟩ ⟨by omega, by omega⟩ (Or.inl (by omega)) (Eq.trans (congrArg (fun q9 => tkrn vmtf vosz.toInt q9) (show z_24.toInt = x_12.toInt + 1 by omega)) (Eq.trans (tkrn_go (b := vmtf) (show x_12.toInt < vosz.toInt by omega) v15_1) v10_1)) (by rw [show z_24.toInt = x_12.toInt + 1 by omega]; exact v20_0) (by rw [show z_24.toInt = x_12.toInt + 1 by omega]; exact v22_0) (by have t9 := tkb_of ez_17; have t8 := tkb_of (b := vmtf) (x := x_12) rfl; rcases v15_1 with hq | hq <;> (first | have q9 := tk_let (b := vmtf) (s := x_2.toInt) (a := x_12.toInt) (by omega) hq | have q9 := tk_dig (b := vmtf) (s := x_2.toInt) (a := x_12.toInt) (by omega) hq) <;> rw [show z_24.toInt = x_12.toInt + 1 by omega, q9.1, q9.2.1] <;> omega) (by have t9 := tkb_of ez_17; have t8 := tkb_of (b := vmtf) (x := x_12) rfl; have h5 := v10_5; unfold tkF5 at h5 ⊢; have h7 := v18_0; unfold tkF7 at h7; rcases v15_1 with hq | hq <;> (first | have q9 := tk_let (b := vmtf) (s := x_2.toInt) (a := x_12.toInt) (by omega) hq | have q9 := tk_dig (b := vmtf) (s := x_2.toInt) (a := x_12.toInt) (by omega) hq) <;> rw [show z_24.toInt = x_12.toInt + 1 by omega, q9.1, q9.2.1] <;> omega) (by have t9 := tkb_of ez_17; have t8 := tkb_of (b := vmtf) (x := x_12) rfl; have h6 := v10_6; unfold tkF6 at h6 ⊢; rcases v15_1 with hq | hq <;> (first | have q9 := tk_let (b := vmtf) (s := x_2.toInt) (a := x_12.toInt) (by omega) hq | have q9 := tk_dig (b := vmtf) (s := x_2.toInt) (a := x_12.toInt) (by omega) hq) <;> rw [show z_24.toInt = x_12.toInt + 1 by omega, q9.1, q9.2.1] <;> omega) (by omega) _ _ (hP.sub [0, 1] rfl) (hD.sub [0, 1] rfl rfl) hS ls (lv_sub hl [0, 2, 3, 4] rfl)
                      refine lv_aload_n hx hb dX11_go_307 rfl (lv_at hl 4 rfl) ?_
                      refine gf_X11_21 hx hb hts hown hK hP 0 rfl rfl dX11_go_308 ?_
                      refine lv_aload_n hx hb dX11_go_311 rfl (lv_at hl 4 rfl) ?_
                      refine gf_X11_24 hx hb hts hown hK hP 0 rfl rfl dX11_go_312 ?_
                      refine lv_isub hx hb dX11_go_315 ?_
                      refine lv_topi (fun z_25 ez_25 => ?_)
                      have bz_25 : z_25.toInt = x_12.toInt - x_2.toInt := i_sub ez_25 (by omega) (by omega)
                      refine lv_iconst (v := 3) hx hb dX11_go_316 (by decide) ?_
                      have k_3 : (3 : Int32).toInt = 3 := by decide
                      refine lv_icmp_ge (tgt := 337) hx hb dX11_go_317 (by decide) (fun c_26 => ?_) (fun c_26 => ?_)
                      · skip
                        have c_26 : (3 : Int32).toInt ≤ z_25.toInt := i_le.mp c_26
                        exact join22 x_14 (tkn3_no v10_3 (by omega) (by omega)) _ _ (hP.sub [0, 1] rfl) (hD.sub [0, 1] rfl rfl) hS ls (lv_sub hl [0, 1, 2, 3, 4] rfl)
                      · skip
                        have c_26 : ¬ ((3 : Int32).toInt ≤ z_25.toInt) := fun h9 => c_26 (i_le.mpr h9)
                        refine lv_aload_n hx hb dX11_go_320 rfl (lv_at hl 4 rfl) ?_
                        refine lv_bipush (v := 10) hx hb dX11_go_321 (by decide) ?_
                        refine lv_aload_n hx hb dX11_go_323 rfl (lv_at hl 4 rfl) ?_
                        refine gf_X11_47 hx hb hts hown hK hP 0 rfl rfl dX11_go_324 ?_
                        refine lv_imul hx hb dX11_go_327 ?_
                        refine lv_topi (fun z_27 ez_27 => ?_)
                        refine lv_iload hx hb dX11_go_328 (lv_at hl 1 rfl) ?_
                        refine lv_iadd hx hb dX11_go_330 ?_
                        refine lv_topi (fun z_28 ez_28 => ?_)
                        refine lv_bipush (v := 48) hx hb dX11_go_331 (by decide) ?_
                        refine lv_isub hx hb dX11_go_333 ?_
                        refine lv_topi (fun z_29 ez_29 => ?_)
                        refine pf_X11_47 hx hb hts hown hK hP hD hS 0 rfl rfl rfl (Nat.le_of_ble_eq_true rfl) dX11_go_334 (fun H locs hP hD hS => ?_)
                        have hP : va_P (dC, dI) vwCl [(vo, .inr (12, [.int voth, .ref vmt, .int votp, .int vosz, .int volm, .int x_12, .int x_2, .int vokd, .int z_29, .int vosg, .int vofa, .int vopl, .long x_21, .int votd, .ref vmn, .ref vmr, .ref vmk, .ref vms, .ref vma, .ref vmm, .ref vmrn, .ref vmkn, .ref vmik, .ref vmon, .int vosm, .int vohp, .ref vmw, .ref vmf, .ref vmb, .int vomb, .ref vmd, .ref vmc, .int vocm, .int voct, .int vocy, .ref vmx, .int votx, .int vose, .ref vml, .ref vmwr, .int voln, .int vohw, .ref vmno, .int vond, .int voon, .int vowi, .int votop])), (vmt, .inl (cy 0, 940, .inl vmtf))] H := hP
                        have hD : va_D A [(vo, .inr (12, [.int voth, .ref vmt, .int votp, .int vosz, .int volm, .int x_12, .int x_2, .int vokd, .int z_29, .int vosg, .int vofa, .int vopl, .long x_21, .int votd, .ref vmn, .ref vmr, .ref vmk, .ref vms, .ref vma, .ref vmm, .ref vmrn, .ref vmkn, .ref vmik, .ref vmon, .int vosm, .int vohp, .ref vmw, .ref vmf, .ref vmb, .int vomb, .ref vmd, .ref vmc, .int vocm, .int voct, .int vocy, .ref vmx, .int votx, .int vose, .ref vml, .ref vmwr, .int voln, .int vohw, .ref vmno, .int vond, .int voon, .int vowi, .int votop])), (vmt, .inl (cy 0, 940, .inl vmtf))] := hD
                        exact join22 z_29 (tkn3_up v10_3 (by omega) ez_17 (by omega) ez_27 ez_28 ez_29) _ _ (hP.sub [0, 1] rfl) (hD.sub [0, 1] rfl rfl) hS ls (lv_sub hl [0, 1, 2, 3, 4] rfl)
                    refine lv_aload_n hx hb dX11_go_273 rfl (lv_at hl 4 rfl) ?_
                    refine gf_X11_21 hx hb hts hown hK hP 0 rfl rfl dX11_go_274 ?_
                    refine lv_aload_n hx hb dX11_go_277 rfl (lv_at hl 4 rfl) ?_
                    refine gf_X11_24 hx hb hts hown hK hP 0 rfl rfl dX11_go_278 ?_
                    refine lv_isub hx hb dX11_go_281 ?_
                    refine lv_topi (fun z_30 ez_30 => ?_)
                    have bz_30 : z_30.toInt = x_12.toInt - x_2.toInt := i_sub ez_30 (by omega) (by omega)
                    refine lv_bipush (v := 7) hx hb dX11_go_282 (by decide) ?_
                    have k_7 : (7 : Int32).toInt = 7 := by decide
                    refine lv_icmp_ge (tgt := 307) hx hb dX11_go_284 (by decide) (fun c_31 => ?_) (fun c_31 => ?_)
                    · skip
                      have c_31 : (7 : Int32).toInt ≤ z_30.toInt := i_le.mp c_31
                      exact join20 x_13 (tkwd_no v10_2 (by omega) (by omega)) _ _ (hP.sub [0, 1] rfl) (hD.sub [0, 1] rfl rfl) hS ls (lv_sub hl [0, 1, 2, 3, 4] rfl)
                    · skip
                      have c_31 : ¬ ((7 : Int32).toInt ≤ z_30.toInt) := fun h9 => c_31 (i_le.mpr h9)
                      refine lv_aload_n hx hb dX11_go_287 rfl (lv_at hl 4 rfl) ?_
                      refine lv_ldc2 hx hb hown (hts _ t1610) dX11_go_288 ?_
                      refine lv_aload_n hx hb dX11_go_291 rfl (lv_at hl 4 rfl) ?_
                      refine gf_X11_43 hx hb hts hown hK hP 0 rfl rfl dX11_go_292 ?_
                      refine lv_lmul hx hb dX11_go_295 ?_
                      refine lv_topl (fun y_32 ey_32 => ?_)
                      refine lv_iload hx hb dX11_go_296 (lv_at hl 1 rfl) ?_
                      refine lv_i2l hx hb dX11_go_298 rfl ?_
                      refine lv_topl (fun y_33 ey_33 => ?_)
                      refine lv_ladd hx hb dX11_go_299 ?_
                      refine lv_topl (fun y_34 ey_34 => ?_)
                      refine lv_ldc2 hx hb hown (hts _ t1611) dX11_go_300 ?_
                      refine lv_lsub hx hb dX11_go_303 ?_
                      refine lv_topl (fun y_35 ey_35 => ?_)
                      refine pf_X11_43 hx hb hts hown hK hP hD hS 0 rfl rfl rfl (Nat.le_of_ble_eq_true rfl) dX11_go_304 (fun H locs hP hD hS => ?_)
                      have hP : va_P (dC, dI) vwCl [(vo, .inr (12, [.int voth, .ref vmt, .int votp, .int vosz, .int volm, .int x_12, .int x_2, .int vokd, .int x_14, .int vosg, .int vofa, .int vopl, .long y_35, .int votd, .ref vmn, .ref vmr, .ref vmk, .ref vms, .ref vma, .ref vmm, .ref vmrn, .ref vmkn, .ref vmik, .ref vmon, .int vosm, .int vohp, .ref vmw, .ref vmf, .ref vmb, .int vomb, .ref vmd, .ref vmc, .int vocm, .int voct, .int vocy, .ref vmx, .int votx, .int vose, .ref vml, .ref vmwr, .int voln, .int vohw, .ref vmno, .int vond, .int voon, .int vowi, .int votop])), (vmt, .inl (cy 0, 940, .inl vmtf))] H := hP
                      have hD : va_D A [(vo, .inr (12, [.int voth, .ref vmt, .int votp, .int vosz, .int volm, .int x_12, .int x_2, .int vokd, .int x_14, .int vosg, .int vofa, .int vopl, .long y_35, .int votd, .ref vmn, .ref vmr, .ref vmk, .ref vms, .ref vma, .ref vmm, .ref vmrn, .ref vmkn, .ref vmik, .ref vmon, .int vosm, .int vohp, .ref vmw, .ref vmf, .ref vmb, .int vomb, .ref vmd, .ref vmc, .int vocm, .int voct, .int vocy, .ref vmx, .int votx, .int vose, .ref vml, .ref vmwr, .int voln, .int vohw, .ref vmno, .int vond, .int voon, .int vowi, .int votop])), (vmt, .inl (cy 0, 940, .inl vmtf))] := hD
                      exact join20 y_35 (tkwd_up v10_2 (by omega) ez_17 (by omega) ey_32 ey_33 ey_34 ey_35) _ _ (hP.sub [0, 1] rfl) (hD.sub [0, 1] rfl rfl) hS ls (lv_sub hl [0, 1, 2, 3, 4] rfl)
                  refine lv_iload_n hx hb dX11_go_254 rfl (lv_at hl 1 rfl) ?_
                  have k_0 : (0 : Int32).toInt = 0 := by decide
                  refine lv_if_eq (tgt := 271) hx hb dX11_go_255 (by decide) (fun c_36 => ?_) (fun c_36 => ?_)
                  · skip
                    have c_36 : x_11.toInt = (0 : Int32).toInt := i_eq.mp c_36
                    refine lv_iconst (v := 0) hx hb dX11_go_271 (by decide) ?_
                    refine lv_istore_n (lv' := [(3, .int 0), (4, .int z_17), (2, .int x_9), (1, .int z_6), (0, .ref vo)]) hx hb dX11_go_272 rfl hl (by decide) rfl (fun ls hl => ?_)
                    exact join18 0 ⟨by omega, by omega⟩ (by unfold tkF7; omega) _ _ (hP.sub [0, 1] rfl) (hD.sub [0, 1] rfl rfl) hS ls (lv_sub hl [0, 1, 2, 3, 4] rfl)
                  · skip
                    have c_36 : ¬ (x_11.toInt = (0 : Int32).toInt) := fun h9 => c_36 (i_eq.mpr h9)
                    refine lv_iload hx hb dX11_go_258 (lv_at hl 0 rfl) ?_
                    refine jr_i (rSr (As := [.int z_17]) (rest := []) ⟨hx, hb, hml, hown, hts⟩ (m_isLetter l dC dI cy z_17 ) (cw_X11_33 hts rfl rfl ⟨Nat.le_of_ble_eq_true rfl, Nat.le_of_ble_eq_true rfl⟩) hP hK [] rfl rfl hl.1 rfl (Nat.le_of_ble_eq_true rfl) dX11_go_260 ⟨Nat.le_of_ble_eq_true rfl, Nat.le_of_ble_eq_true rfl⟩) hP hS (fun r_37 H locs hp_38 hP hS => ?_)
                    have hp_38 : ((r_37 = 0 ∧ ((z_17 : Int32).toInt < 97 ∨ 122 < (z_17 : Int32).toInt)) ∨ (r_37 = 1 ∧ 97 ≤ (z_17 : Int32).toInt ∧ (z_17 : Int32).toInt ≤ 122)) := hp_38
                    have q_39 := hp_38
                    rcases q_39 with ⟨aq_39, f0q_39⟩ | ⟨aq_39, f0q_39, f1q_39⟩
                    · skip
                      refine as_i 0 aq_39 ?_
                      refine lv_iload_n hx hb dX11_go_263 rfl (lv_at hl 2 rfl) ?_
                      refine lv_icmp_ne (tgt := 271) hx hb dX11_go_264 (by decide) (fun c_40 => ?_) (fun c_40 => ?_)
                      · skip
                        have c_40 : ¬ ((0 : Int32).toInt = x_9.toInt) := fun h9 => c_40 (i_eq.mpr h9)
                        refine lv_iconst (v := 0) hx hb dX11_go_271 (by decide) ?_
                        refine lv_istore_n (lv' := [(3, .int 0), (4, .int z_17), (2, .int x_9), (1, .int z_6), (0, .ref vo)]) hx hb dX11_go_272 rfl hl (by decide) rfl (fun ls hl => ?_)
                        exact join18 0 ⟨by omega, by omega⟩ (by unfold tkF7; omega) _ _ (hP.sub [0, 1] rfl) (hD.sub [0, 1] rfl rfl) hS ls (lv_sub hl [0, 1, 2, 3, 4] rfl)
                      · skip
                        have c_40 : (0 : Int32).toInt = x_9.toInt := i_eq.mp c_40
                        refine lv_iconst (v := 1) hx hb dX11_go_267 (by decide) ?_
                        refine lv_goto (tgt := 272) hx hb dX11_go_268 (by decide) ?_
                        refine lv_istore_n (lv' := [(3, .int 1), (4, .int z_17), (2, .int x_9), (1, .int z_6), (0, .ref vo)]) hx hb dX11_go_272 rfl hl (by decide) rfl (fun ls hl => ?_)
                        have k_1 : (1 : Int32).toInt = 1 := by decide
                        exact join18 1 ⟨by omega, by omega⟩ (by unfold tkF7; omega) _ _ (hP.sub [0, 1] rfl) (hD.sub [0, 1] rfl rfl) hS ls (lv_sub hl [0, 1, 2, 3, 4] rfl)
                    · skip
                      refine as_i 1 aq_39 ?_
                      refine lv_iload_n hx hb dX11_go_263 rfl (lv_at hl 2 rfl) ?_
                      have k_1 : (1 : Int32).toInt = 1 := by decide
                      refine lv_icmp_ne (tgt := 271) hx hb dX11_go_264 (by decide) (fun c_41 => ?_) (fun c_41 => ?_)
                      · skip
                        have c_41 : ¬ ((1 : Int32).toInt = x_9.toInt) := fun h9 => c_41 (i_eq.mpr h9)
                        refine lv_iconst (v := 0) hx hb dX11_go_271 (by decide) ?_
                        refine lv_istore_n (lv' := [(3, .int 0), (4, .int z_17), (2, .int x_9), (1, .int z_6), (0, .ref vo)]) hx hb dX11_go_272 rfl hl (by decide) rfl (fun ls hl => ?_)
                        exact join18 0 ⟨by omega, by omega⟩ (by unfold tkF7; omega) _ _ (hP.sub [0, 1] rfl) (hD.sub [0, 1] rfl rfl) hS ls (lv_sub hl [0, 1, 2, 3, 4] rfl)
                      · skip
                        have c_41 : (1 : Int32).toInt = x_9.toInt := i_eq.mp c_41
                        refine lv_iconst (v := 1) hx hb dX11_go_267 (by decide) ?_
                        refine lv_goto (tgt := 272) hx hb dX11_go_268 (by decide) ?_
                        refine lv_istore_n (lv' := [(3, .int 1), (4, .int z_17), (2, .int x_9), (1, .int z_6), (0, .ref vo)]) hx hb dX11_go_272 rfl hl (by decide) rfl (fun ls hl => ?_)
                        exact join18 1 ⟨by omega, by omega⟩ (by unfold tkF7; omega) _ _ (hP.sub [0, 1] rfl) (hD.sub [0, 1] rfl rfl) hS ls (lv_sub hl [0, 1, 2, 3, 4] rfl)
                refine lv_aload_n hx hb dX11_go_216 rfl (lv_at hl 3 rfl) ?_
                refine gf_X11_21 hx hb hts hown hK hP 0 rfl rfl dX11_go_217 ?_
                refine jr_i (rVr (As := [.int x_12]) (rest := []) (ci := 12) ⟨hx, hb, hml, hown, hts⟩ (m_tapeAt l dC dI cy vo voth vmt votp vosz volm x_12 x_2 vokd x_14 vosg vofa vopl x_13 votd vmn vmr vmk vms vma vmm vmrn vmkn vmik vmon vosm vohp vmw vmf vmb vomb vmd vmc vocm voct vocy vmx votx vose vml vmwr voln vohw vmno vond voon vowi votop vmtf x_12 r_vosz ⟨by omega, by omega⟩ p_vmtf) (cw_X11_50 hts rfl rfl ⟨Nat.le_of_ble_eq_true rfl, Nat.le_of_ble_eq_true rfl⟩) hP hK [0, 1] rfl rfl rfl rfl hl.1 rfl (Nat.le_of_ble_eq_true rfl) dX11_go_220 ⟨Nat.le_of_ble_eq_true rfl, Nat.le_of_ble_eq_true rfl⟩) hP hS (fun r_42 H locs hp_43 hP hS => ?_)
                have hp_43 : (0 ≤ (r_42 : Int32).toInt ∧ (r_42 : Int32).toInt ≤ 255) ∧ ((r_42 : Int32).toInt ≠ 0 → (x_12 : Int32).toInt < (vosz : Int32).toInt) ∧ ((x_12 : Int32).toInt < (vosz : Int32).toInt → (r_42 : Int32).toInt = (vmtf (Int32.toNatClampNeg x_12)).toInt) := hp_43
                obtain ⟨q_44, q_45, q_46⟩ := hp_43
                have tq_r_42 : x_12.toInt < vosz.toInt → r_42.toInt = tkb vmtf x_12.toInt := fun h9 => q_46 h9
                refine jr_i (rSr (As := [.int r_42]) (rest := []) ⟨hx, hb, hml, hown, hts⟩ (m_isLetter l dC dI cy r_42 ) (cw_X11_33 hts rfl rfl ⟨Nat.le_of_ble_eq_true rfl, Nat.le_of_ble_eq_true rfl⟩) hP hK [] rfl rfl hl.1 rfl (Nat.le_of_ble_eq_true rfl) dX11_go_223 ⟨Nat.le_of_ble_eq_true rfl, Nat.le_of_ble_eq_true rfl⟩) hP hS (fun r_47 H locs hp_48 hP hS => ?_)
                have hp_48 : ((r_47 = 0 ∧ ((r_42 : Int32).toInt < 97 ∨ 122 < (r_42 : Int32).toInt)) ∨ (r_47 = 1 ∧ 97 ≤ (r_42 : Int32).toInt ∧ (r_42 : Int32).toInt ≤ 122)) := hp_48
                have q_49 := hp_48
                rcases q_49 with ⟨aq_49, f0q_49⟩ | ⟨aq_49, f0q_49, f1q_49⟩
                · skip
                  refine as_i 0 aq_49 ?_
                  refine lv_if_ne (tgt := 243) hx hb dX11_go_226 (by decide) (fun c9 => absurd c9 (by decide)) (fun _ => ?_)
                  refine lv_aload_n hx hb dX11_go_229 rfl (lv_at hl 3 rfl) ?_
                  refine lv_aload_n hx hb dX11_go_230 rfl (lv_at hl 3 rfl) ?_
                  refine gf_X11_21 hx hb hts hown hK hP 0 rfl rfl dX11_go_231 ?_
                  refine jr_i (rVr (As := [.int x_12]) (rest := []) (ci := 12) ⟨hx, hb, hml, hown, hts⟩ (m_tapeAt l dC dI cy vo voth vmt votp vosz volm x_12 x_2 vokd x_14 vosg vofa vopl x_13 votd vmn vmr vmk vms vma vmm vmrn vmkn vmik vmon vosm vohp vmw vmf vmb vomb vmd vmc vocm voct vocy vmx votx vose vml vmwr voln vohw vmno vond voon vowi votop vmtf x_12 r_vosz ⟨by omega, by omega⟩ p_vmtf) (cw_X11_50 hts rfl rfl ⟨Nat.le_of_ble_eq_true rfl, Nat.le_of_ble_eq_true rfl⟩) hP hK [0, 1] rfl rfl rfl rfl hl.1 rfl (Nat.le_of_ble_eq_true rfl) dX11_go_234 ⟨Nat.le_of_ble_eq_true rfl, Nat.le_of_ble_eq_true rfl⟩) hP hS (fun r_50 H locs hp_51 hP hS => ?_)
                  have hp_51 : (0 ≤ (r_50 : Int32).toInt ∧ (r_50 : Int32).toInt ≤ 255) ∧ ((r_50 : Int32).toInt ≠ 0 → (x_12 : Int32).toInt < (vosz : Int32).toInt) ∧ ((x_12 : Int32).toInt < (vosz : Int32).toInt → (r_50 : Int32).toInt = (vmtf (Int32.toNatClampNeg x_12)).toInt) := hp_51
                  obtain ⟨q_52, q_53, q_54⟩ := hp_51
                  have tq_r_50 : x_12.toInt < vosz.toInt → r_50.toInt = tkb vmtf x_12.toInt := fun h9 => q_54 h9
                  refine jr_i (rSr (As := [.int r_50]) (rest := []) ⟨hx, hb, hml, hown, hts⟩ (m_isDigit l dC dI cy r_50 ) (cw_X11_37 hts rfl rfl ⟨Nat.le_of_ble_eq_true rfl, Nat.le_of_ble_eq_true rfl⟩) hP hK [] rfl rfl hl.1 rfl (Nat.le_of_ble_eq_true rfl) dX11_go_237 ⟨Nat.le_of_ble_eq_true rfl, Nat.le_of_ble_eq_true rfl⟩) hP hS (fun r_55 H locs hp_56 hP hS => ?_)
                  have hp_56 : ((r_55 = 0 ∧ ((r_50 : Int32).toInt < 48 ∨ 57 < (r_50 : Int32).toInt)) ∨ (r_55 = 1 ∧ 48 ≤ (r_50 : Int32).toInt ∧ (r_50 : Int32).toInt ≤ 57)) := hp_56
                  have q_57 := hp_56
                  rcases q_57 with ⟨aq_57, f0q_57⟩ | ⟨aq_57, f0q_57, f1q_57⟩
                  · skip
                    refine as_i 0 aq_57 ?_
                    refine lv_if_eq (tgt := 350) hx hb dX11_go_240 (by decide) (fun _ => ?_) (fun c9 => absurd (by decide) c9)
                    have he9 : tkrn vmtf vosz.toInt x_2.toInt = x_12.toInt := Eq.trans v10_1.symm (tkrn_at (b := vmtf) (n := vosz.toInt) (a := x_12.toInt) (by have := tq_r_42; have := tq_r_50; omega))
                    have t9 := tkb_of ez_6
                    have h5 := v10_5
                    have h6 := v10_6
                    unfold tkF5 at h5
                    unfold tkF6 at h6
                    obtain ⟨T0, T1, T2, T3, T4, T5⟩ := tok_run (b := vmtf) (n := vosz.toInt) (lim := volm.toInt) (a := voto.toInt) v1_0 (by omega) (by omega) (by omega) he9
                    refine lv_aload_n hx hb dX11_go_350 rfl (lv_at hl 3 rfl) ?_
                    refine lv_iload_n hx hb dX11_go_351 rfl (lv_at hl 0 rfl) ?_
                    have k_0 : (0 : Int32).toInt = 0 := by decide
                    refine lv_if_eq (tgt := 377) hx hb dX11_go_352 (by decide) (fun c_58 => ?_) (fun c_58 => ?_)
                    · skip
                      have c_58 : x_11.toInt = (0 : Int32).toInt := i_eq.mp c_58
                      refine lv_iconst (v := 1) hx hb dX11_go_377 (by decide) ?_
                      refine lv_goto (tgt := 390) hx hb dX11_go_378 (by decide) ?_
                      refine pf_X11_30 hx hb hts hown hK hP hD hS 0 rfl rfl rfl (Nat.le_of_ble_eq_true rfl) dX11_go_390 (fun H locs hP hD hS => ?_)
                      have hP : va_P (dC, dI) vwCl [(vo, .inr (12, [.int voth, .ref vmt, .int votp, .int vosz, .int volm, .int x_12, .int x_2, .int 1, .int x_14, .int vosg, .int vofa, .int vopl, .long x_13, .int votd, .ref vmn, .ref vmr, .ref vmk, .ref vms, .ref vma, .ref vmm, .ref vmrn, .ref vmkn, .ref vmik, .ref vmon, .int vosm, .int vohp, .ref vmw, .ref vmf, .ref vmb, .int vomb, .ref vmd, .ref vmc, .int vocm, .int voct, .int vocy, .ref vmx, .int votx, .int vose, .ref vml, .ref vmwr, .int voln, .int vohw, .ref vmno, .int vond, .int voon, .int vowi, .int votop])), (vmt, .inl (cy 0, 940, .inl vmtf))] H := hP
                      have hD : va_D A [(vo, .inr (12, [.int voth, .ref vmt, .int votp, .int vosz, .int volm, .int x_12, .int x_2, .int 1, .int x_14, .int vosg, .int vofa, .int vopl, .long x_13, .int votd, .ref vmn, .ref vmr, .ref vmk, .ref vms, .ref vma, .ref vmm, .ref vmrn, .ref vmkn, .ref vmik, .ref vmon, .int vosm, .int vohp, .ref vmw, .ref vmf, .ref vmb, .int vomb, .ref vmd, .ref vmc, .int vocm, .int voct, .int vocy, .ref vmx, .int votx, .int vose, .ref vml, .ref vmwr, .int voln, .int vohw, .ref vmno, .int vond, .int voon, .int vowi, .int votop])), (vmt, .inl (cy 0, 940, .inl vmtf))] := hD
                      have k_1 : (1 : Int32).toInt = 1 := by decide
                      rw [hQ9]
                      exact re_v (x_12, x_2, (1 : Int32), vosg, x_13, x_14) hx hb hr hlocks ⟨(show 0 ≤ (x_12 : Int32).toInt ∧ (x_12 : Int32).toInt ≤ 940 from ⟨by omega, by omega⟩), (show 0 ≤ (1 : Int32).toInt ∧ (1 : Int32).toInt ≤ 4 from ⟨by omega, by omega⟩), (show (x_12 : Int32).toInt = tkN vmtf (vosz : Int32).toInt (volm : Int32).toInt (voto : Int32).toInt from (by omega)), (show tkMK (1 : Int32).toInt (vosg : Int32).toInt = tkK vmtf (vosz : Int32).toInt (volm : Int32).toInt (voto : Int32).toInt from (by have m9 := tkMK_def (1 : Int32).toInt vosg.toInt; omega)), (show (x_2 : Int32).toInt = tkS vmtf (vosz : Int32).toInt (volm : Int32).toInt (voto : Int32).toInt from (by omega)), (show tkMW (1 : Int32).toInt x_13 = tkW vmtf (vosz : Int32).toInt (volm : Int32).toInt (voto : Int32).toInt from ((tkMW_not (by omega)).trans (tkW_no (by omega)).symm)), (show tkDd vmtf (vosz : Int32).toInt (volm : Int32).toInt (voto : Int32).toInt x_13 from (fun _ => v10_2.trans T5.symm)), (show tkK vmtf (vosz : Int32).toInt (volm : Int32).toInt (voto : Int32).toInt = 2 → x_14 = tkVi vmtf (vosz : Int32).toInt (voto : Int32).toInt from (fun h9 => (by have q9 := tknumb h9; rw [v1_0, he9] at q9; exact v10_3.trans q9))), (show tkNv vmtf (vosz : Int32).toInt (volm : Int32).toInt (voto : Int32).toInt x_14 from (fun h9 => congrArg Int32.toInt (by have q9 := tknumb h9; rw [v1_0, he9] at q9; exact v10_3.trans q9))), (show (voto : Int32).toInt ≤ (x_12 : Int32).toInt from (by omega)), (show (x_12 : Int32).toInt ≤ (vosz : Int32).toInt from (by omega))⟩ (hP.sub [0, 1] rfl) (hD.sub [0, 1] rfl rfl) hS dX11_go_393
                    · skip
                      have c_58 : ¬ (x_11.toInt = (0 : Int32).toInt) := fun h9 => c_58 (i_eq.mpr h9)
                      refine lv_aload_n hx hb dX11_go_355 rfl (lv_at hl 3 rfl) ?_
                      refine gf_X11_21 hx hb hts hown hK hP 0 rfl rfl dX11_go_356 ?_
                      refine lv_aload_n hx hb dX11_go_359 rfl (lv_at hl 3 rfl) ?_
                      refine gf_X11_24 hx hb hts hown hK hP 0 rfl rfl dX11_go_360 ?_
                      refine lv_isub hx hb dX11_go_363 ?_
                      refine lv_topi (fun z_59 ez_59 => ?_)
                      have bz_59 : z_59.toInt = x_12.toInt - x_2.toInt := i_sub ez_59 (by omega) (by omega)
                      refine lv_iload_n hx hb dX11_go_364 rfl (lv_at hl 1 rfl) ?_
                      refine lv_if_eq (tgt := 373) hx hb dX11_go_365 (by decide) (fun c_60 => ?_) (fun c_60 => ?_)
                      · skip
                        have c_60 : x_9.toInt = (0 : Int32).toInt := i_eq.mp c_60
                        refine lv_iconst (v := 3) hx hb dX11_go_373 (by decide) ?_
                        have k_3 : (3 : Int32).toInt = 3 := by decide
                        refine lv_icmp_le (tgt := 381) hx hb dX11_go_374 (by decide) (fun c_61 => ?_) (fun c_61 => ?_)
                        · skip
                          have c_61 : z_59.toInt ≤ (3 : Int32).toInt := i_le.mp c_61
                          refine lv_iload_n hx hb dX11_go_381 rfl (lv_at hl 1 rfl) ?_
                          refine lv_if_eq (tgt := 389) hx hb dX11_go_382 (by decide) (fun _ => ?_) (fun c9 => (c9 (i_eq.mpr (by omega))).elim)
                          refine lv_iconst (v := 3) hx hb dX11_go_389 (by decide) ?_
                          refine pf_X11_30 hx hb hts hown hK hP hD hS 0 rfl rfl rfl (Nat.le_of_ble_eq_true rfl) dX11_go_390 (fun H locs hP hD hS => ?_)
                          have hP : va_P (dC, dI) vwCl [(vo, .inr (12, [.int voth, .ref vmt, .int votp, .int vosz, .int volm, .int x_12, .int x_2, .int 3, .int x_14, .int vosg, .int vofa, .int vopl, .long x_13, .int votd, .ref vmn, .ref vmr, .ref vmk, .ref vms, .ref vma, .ref vmm, .ref vmrn, .ref vmkn, .ref vmik, .ref vmon, .int vosm, .int vohp, .ref vmw, .ref vmf, .ref vmb, .int vomb, .ref vmd, .ref vmc, .int vocm, .int voct, .int vocy, .ref vmx, .int votx, .int vose, .ref vml, .ref vmwr, .int voln, .int vohw, .ref vmno, .int vond, .int voon, .int vowi, .int votop])), (vmt, .inl (cy 0, 940, .inl vmtf))] H := hP
                          have hD : va_D A [(vo, .inr (12, [.int voth, .ref vmt, .int votp, .int vosz, .int volm, .int x_12, .int x_2, .int 3, .int x_14, .int vosg, .int vofa, .int vopl, .long x_13, .int votd, .ref vmn, .ref vmr, .ref vmk, .ref vms, .ref vma, .ref vmm, .ref vmrn, .ref vmkn, .ref vmik, .ref vmon, .int vosm, .int vohp, .ref vmw, .ref vmf, .ref vmb, .int vomb, .ref vmd, .ref vmc, .int vocm, .int voct, .int vocy, .ref vmx, .int votx, .int vose, .ref vml, .ref vmwr, .int voln, .int vohw, .ref vmno, .int vond, .int voon, .int vowi, .int votop])), (vmt, .inl (cy 0, 940, .inl vmtf))] := hD
                          rw [hQ9]
                          exact re_v (x_12, x_2, (3 : Int32), vosg, x_13, x_14) hx hb hr hlocks ⟨(show 0 ≤ (x_12 : Int32).toInt ∧ (x_12 : Int32).toInt ≤ 940 from ⟨by omega, by omega⟩), (show 0 ≤ (3 : Int32).toInt ∧ (3 : Int32).toInt ≤ 4 from ⟨by omega, by omega⟩), (show (x_12 : Int32).toInt = tkN vmtf (vosz : Int32).toInt (volm : Int32).toInt (voto : Int32).toInt from (by omega)), (show tkMK (3 : Int32).toInt (vosg : Int32).toInt = tkK vmtf (vosz : Int32).toInt (volm : Int32).toInt (voto : Int32).toInt from (by have m9 := tkMK_def (3 : Int32).toInt vosg.toInt; omega)), (show (x_2 : Int32).toInt = tkS vmtf (vosz : Int32).toInt (volm : Int32).toInt (voto : Int32).toInt from (by omega)), (show tkMW (3 : Int32).toInt x_13 = tkW vmtf (vosz : Int32).toInt (volm : Int32).toInt (voto : Int32).toInt from ((tkMW_not (by omega)).trans (tkW_no (by omega)).symm)), (show tkDd vmtf (vosz : Int32).toInt (volm : Int32).toInt (voto : Int32).toInt x_13 from (fun _ => v10_2.trans T5.symm)), (show tkK vmtf (vosz : Int32).toInt (volm : Int32).toInt (voto : Int32).toInt = 2 → x_14 = tkVi vmtf (vosz : Int32).toInt (voto : Int32).toInt from (fun h9 => (by have q9 := tknumb h9; rw [v1_0, he9] at q9; exact v10_3.trans q9))), (show tkNv vmtf (vosz : Int32).toInt (volm : Int32).toInt (voto : Int32).toInt x_14 from (fun h9 => congrArg Int32.toInt (by have q9 := tknumb h9; rw [v1_0, he9] at q9; exact v10_3.trans q9))), (show (voto : Int32).toInt ≤ (x_12 : Int32).toInt from (by omega)), (show (x_12 : Int32).toInt ≤ (vosz : Int32).toInt from (by omega))⟩ (hP.sub [0, 1] rfl) (hD.sub [0, 1] rfl rfl) hS dX11_go_393
                        · skip
                          have c_61 : ¬ (z_59.toInt ≤ (3 : Int32).toInt) := fun h9 => c_61 (i_le.mpr h9)
                          refine lv_iconst (v := 1) hx hb dX11_go_377 (by decide) ?_
                          refine lv_goto (tgt := 390) hx hb dX11_go_378 (by decide) ?_
                          refine pf_X11_30 hx hb hts hown hK hP hD hS 0 rfl rfl rfl (Nat.le_of_ble_eq_true rfl) dX11_go_390 (fun H locs hP hD hS => ?_)
                          have hP : va_P (dC, dI) vwCl [(vo, .inr (12, [.int voth, .ref vmt, .int votp, .int vosz, .int volm, .int x_12, .int x_2, .int 1, .int x_14, .int vosg, .int vofa, .int vopl, .long x_13, .int votd, .ref vmn, .ref vmr, .ref vmk, .ref vms, .ref vma, .ref vmm, .ref vmrn, .ref vmkn, .ref vmik, .ref vmon, .int vosm, .int vohp, .ref vmw, .ref vmf, .ref vmb, .int vomb, .ref vmd, .ref vmc, .int vocm, .int voct, .int vocy, .ref vmx, .int votx, .int vose, .ref vml, .ref vmwr, .int voln, .int vohw, .ref vmno, .int vond, .int voon, .int vowi, .int votop])), (vmt, .inl (cy 0, 940, .inl vmtf))] H := hP
                          have hD : va_D A [(vo, .inr (12, [.int voth, .ref vmt, .int votp, .int vosz, .int volm, .int x_12, .int x_2, .int 1, .int x_14, .int vosg, .int vofa, .int vopl, .long x_13, .int votd, .ref vmn, .ref vmr, .ref vmk, .ref vms, .ref vma, .ref vmm, .ref vmrn, .ref vmkn, .ref vmik, .ref vmon, .int vosm, .int vohp, .ref vmw, .ref vmf, .ref vmb, .int vomb, .ref vmd, .ref vmc, .int vocm, .int voct, .int vocy, .ref vmx, .int votx, .int vose, .ref vml, .ref vmwr, .int voln, .int vohw, .ref vmno, .int vond, .int voon, .int vowi, .int votop])), (vmt, .inl (cy 0, 940, .inl vmtf))] := hD
                          have k_1 : (1 : Int32).toInt = 1 := by decide
                          rw [hQ9]
                          exact re_v (x_12, x_2, (1 : Int32), vosg, x_13, x_14) hx hb hr hlocks ⟨(show 0 ≤ (x_12 : Int32).toInt ∧ (x_12 : Int32).toInt ≤ 940 from ⟨by omega, by omega⟩), (show 0 ≤ (1 : Int32).toInt ∧ (1 : Int32).toInt ≤ 4 from ⟨by omega, by omega⟩), (show (x_12 : Int32).toInt = tkN vmtf (vosz : Int32).toInt (volm : Int32).toInt (voto : Int32).toInt from (by omega)), (show tkMK (1 : Int32).toInt (vosg : Int32).toInt = tkK vmtf (vosz : Int32).toInt (volm : Int32).toInt (voto : Int32).toInt from (by have m9 := tkMK_def (1 : Int32).toInt vosg.toInt; omega)), (show (x_2 : Int32).toInt = tkS vmtf (vosz : Int32).toInt (volm : Int32).toInt (voto : Int32).toInt from (by omega)), (show tkMW (1 : Int32).toInt x_13 = tkW vmtf (vosz : Int32).toInt (volm : Int32).toInt (voto : Int32).toInt from ((tkMW_not (by omega)).trans (tkW_no (by omega)).symm)), (show tkDd vmtf (vosz : Int32).toInt (volm : Int32).toInt (voto : Int32).toInt x_13 from (fun _ => v10_2.trans T5.symm)), (show tkK vmtf (vosz : Int32).toInt (volm : Int32).toInt (voto : Int32).toInt = 2 → x_14 = tkVi vmtf (vosz : Int32).toInt (voto : Int32).toInt from (fun h9 => (by have q9 := tknumb h9; rw [v1_0, he9] at q9; exact v10_3.trans q9))), (show tkNv vmtf (vosz : Int32).toInt (volm : Int32).toInt (voto : Int32).toInt x_14 from (fun h9 => congrArg Int32.toInt (by have q9 := tknumb h9; rw [v1_0, he9] at q9; exact v10_3.trans q9))), (show (voto : Int32).toInt ≤ (x_12 : Int32).toInt from (by omega)), (show (x_12 : Int32).toInt ≤ (vosz : Int32).toInt from (by omega))⟩ (hP.sub [0, 1] rfl) (hD.sub [0, 1] rfl rfl) hS dX11_go_393
                      · skip
                        have c_60 : ¬ (x_9.toInt = (0 : Int32).toInt) := fun h9 => c_60 (i_eq.mpr h9)
                        refine lv_bipush (v := 7) hx hb dX11_go_368 (by decide) ?_
                        refine lv_goto (tgt := 374) hx hb dX11_go_370 (by decide) ?_
                        have k_7 : (7 : Int32).toInt = 7 := by decide
                        refine lv_icmp_le (tgt := 381) hx hb dX11_go_374 (by decide) (fun c_62 => ?_) (fun c_62 => ?_)
                        · skip
                          have c_62 : z_59.toInt ≤ (7 : Int32).toInt := i_le.mp c_62
                          refine lv_iload_n hx hb dX11_go_381 rfl (lv_at hl 1 rfl) ?_
                          refine lv_if_eq (tgt := 389) hx hb dX11_go_382 (by decide) (fun c9 => absurd (i_eq.mp c9) (by omega)) (fun _ => ?_)
                          refine lv_iconst (v := 2) hx hb dX11_go_385 (by decide) ?_
                          refine lv_goto (tgt := 390) hx hb dX11_go_386 (by decide) ?_
                          refine pf_X11_30 hx hb hts hown hK hP hD hS 0 rfl rfl rfl (Nat.le_of_ble_eq_true rfl) dX11_go_390 (fun H locs hP hD hS => ?_)
                          have hP : va_P (dC, dI) vwCl [(vo, .inr (12, [.int voth, .ref vmt, .int votp, .int vosz, .int volm, .int x_12, .int x_2, .int 2, .int x_14, .int vosg, .int vofa, .int vopl, .long x_13, .int votd, .ref vmn, .ref vmr, .ref vmk, .ref vms, .ref vma, .ref vmm, .ref vmrn, .ref vmkn, .ref vmik, .ref vmon, .int vosm, .int vohp, .ref vmw, .ref vmf, .ref vmb, .int vomb, .ref vmd, .ref vmc, .int vocm, .int voct, .int vocy, .ref vmx, .int votx, .int vose, .ref vml, .ref vmwr, .int voln, .int vohw, .ref vmno, .int vond, .int voon, .int vowi, .int votop])), (vmt, .inl (cy 0, 940, .inl vmtf))] H := hP
                          have hD : va_D A [(vo, .inr (12, [.int voth, .ref vmt, .int votp, .int vosz, .int volm, .int x_12, .int x_2, .int 2, .int x_14, .int vosg, .int vofa, .int vopl, .long x_13, .int votd, .ref vmn, .ref vmr, .ref vmk, .ref vms, .ref vma, .ref vmm, .ref vmrn, .ref vmkn, .ref vmik, .ref vmon, .int vosm, .int vohp, .ref vmw, .ref vmf, .ref vmb, .int vomb, .ref vmd, .ref vmc, .int vocm, .int voct, .int vocy, .ref vmx, .int votx, .int vose, .ref vml, .ref vmwr, .int voln, .int vohw, .ref vmno, .int vond, .int voon, .int vowi, .int votop])), (vmt, .inl (cy 0, 940, .inl vmtf))] := hD
                          have k_2 : (2 : Int32).toInt = 2 := by decide
                          rw [hQ9]
                          exact re_v (x_12, x_2, (2 : Int32), vosg, x_13, x_14) hx hb hr hlocks ⟨(show 0 ≤ (x_12 : Int32).toInt ∧ (x_12 : Int32).toInt ≤ 940 from ⟨by omega, by omega⟩), (show 0 ≤ (2 : Int32).toInt ∧ (2 : Int32).toInt ≤ 4 from ⟨by omega, by omega⟩), (show (x_12 : Int32).toInt = tkN vmtf (vosz : Int32).toInt (volm : Int32).toInt (voto : Int32).toInt from (by omega)), (show tkMK (2 : Int32).toInt (vosg : Int32).toInt = tkK vmtf (vosz : Int32).toInt (volm : Int32).toInt (voto : Int32).toInt from (by have m9 := tkMK_def (2 : Int32).toInt vosg.toInt; omega)), (show (x_2 : Int32).toInt = tkS vmtf (vosz : Int32).toInt (volm : Int32).toInt (voto : Int32).toInt from (by omega)), (show tkMW (2 : Int32).toInt x_13 = tkW vmtf (vosz : Int32).toInt (volm : Int32).toInt (voto : Int32).toInt from (tkMW_at (by decide) (v10_2.trans T5.symm) (by omega))), (show tkDd vmtf (vosz : Int32).toInt (volm : Int32).toInt (voto : Int32).toInt x_13 from (fun _ => v10_2.trans T5.symm)), (show tkK vmtf (vosz : Int32).toInt (volm : Int32).toInt (voto : Int32).toInt = 2 → x_14 = tkVi vmtf (vosz : Int32).toInt (voto : Int32).toInt from (fun h9 => (by have q9 := tknumb h9; rw [v1_0, he9] at q9; exact v10_3.trans q9))), (show tkNv vmtf (vosz : Int32).toInt (volm : Int32).toInt (voto : Int32).toInt x_14 from (fun h9 => congrArg Int32.toInt (by have q9 := tknumb h9; rw [v1_0, he9] at q9; exact v10_3.trans q9))), (show (voto : Int32).toInt ≤ (x_12 : Int32).toInt from (by omega)), (show (x_12 : Int32).toInt ≤ (vosz : Int32).toInt from (by omega))⟩ (hP.sub [0, 1] rfl) (hD.sub [0, 1] rfl rfl) hS dX11_go_393
                        · skip
                          have c_62 : ¬ (z_59.toInt ≤ (7 : Int32).toInt) := fun h9 => c_62 (i_le.mpr h9)
                          refine lv_iconst (v := 1) hx hb dX11_go_377 (by decide) ?_
                          refine lv_goto (tgt := 390) hx hb dX11_go_378 (by decide) ?_
                          refine pf_X11_30 hx hb hts hown hK hP hD hS 0 rfl rfl rfl (Nat.le_of_ble_eq_true rfl) dX11_go_390 (fun H locs hP hD hS => ?_)
                          have hP : va_P (dC, dI) vwCl [(vo, .inr (12, [.int voth, .ref vmt, .int votp, .int vosz, .int volm, .int x_12, .int x_2, .int 1, .int x_14, .int vosg, .int vofa, .int vopl, .long x_13, .int votd, .ref vmn, .ref vmr, .ref vmk, .ref vms, .ref vma, .ref vmm, .ref vmrn, .ref vmkn, .ref vmik, .ref vmon, .int vosm, .int vohp, .ref vmw, .ref vmf, .ref vmb, .int vomb, .ref vmd, .ref vmc, .int vocm, .int voct, .int vocy, .ref vmx, .int votx, .int vose, .ref vml, .ref vmwr, .int voln, .int vohw, .ref vmno, .int vond, .int voon, .int vowi, .int votop])), (vmt, .inl (cy 0, 940, .inl vmtf))] H := hP
                          have hD : va_D A [(vo, .inr (12, [.int voth, .ref vmt, .int votp, .int vosz, .int volm, .int x_12, .int x_2, .int 1, .int x_14, .int vosg, .int vofa, .int vopl, .long x_13, .int votd, .ref vmn, .ref vmr, .ref vmk, .ref vms, .ref vma, .ref vmm, .ref vmrn, .ref vmkn, .ref vmik, .ref vmon, .int vosm, .int vohp, .ref vmw, .ref vmf, .ref vmb, .int vomb, .ref vmd, .ref vmc, .int vocm, .int voct, .int vocy, .ref vmx, .int votx, .int vose, .ref vml, .ref vmwr, .int voln, .int vohw, .ref vmno, .int vond, .int voon, .int vowi, .int votop])), (vmt, .inl (cy 0, 940, .inl vmtf))] := hD
                          have k_1 : (1 : Int32).toInt = 1 := by decide
                          rw [hQ9]
                          exact re_v (x_12, x_2, (1 : Int32), vosg, x_13, x_14) hx hb hr hlocks ⟨(show 0 ≤ (x_12 : Int32).toInt ∧ (x_12 : Int32).toInt ≤ 940 from ⟨by omega, by omega⟩), (show 0 ≤ (1 : Int32).toInt ∧ (1 : Int32).toInt ≤ 4 from ⟨by omega, by omega⟩), (show (x_12 : Int32).toInt = tkN vmtf (vosz : Int32).toInt (volm : Int32).toInt (voto : Int32).toInt from (by omega)), (show tkMK (1 : Int32).toInt (vosg : Int32).toInt = tkK vmtf (vosz : Int32).toInt (volm : Int32).toInt (voto : Int32).toInt from (by have m9 := tkMK_def (1 : Int32).toInt vosg.toInt; omega)), (show (x_2 : Int32).toInt = tkS vmtf (vosz : Int32).toInt (volm : Int32).toInt (voto : Int32).toInt from (by omega)), (show tkMW (1 : Int32).toInt x_13 = tkW vmtf (vosz : Int32).toInt (volm : Int32).toInt (voto : Int32).toInt from ((tkMW_not (by omega)).trans (tkW_no (by omega)).symm)), (show tkDd vmtf (vosz : Int32).toInt (volm : Int32).toInt (voto : Int32).toInt x_13 from (fun _ => v10_2.trans T5.symm)), (show tkK vmtf (vosz : Int32).toInt (volm : Int32).toInt (voto : Int32).toInt = 2 → x_14 = tkVi vmtf (vosz : Int32).toInt (voto : Int32).toInt from (fun h9 => (by have q9 := tknumb h9; rw [v1_0, he9] at q9; exact v10_3.trans q9))), (show tkNv vmtf (vosz : Int32).toInt (volm : Int32).toInt (voto : Int32).toInt x_14 from (fun h9 => congrArg Int32.toInt (by have q9 := tknumb h9; rw [v1_0, he9] at q9; exact v10_3.trans q9))), (show (voto : Int32).toInt ≤ (x_12 : Int32).toInt from (by omega)), (show (x_12 : Int32).toInt ≤ (vosz : Int32).toInt from (by omega))⟩ (hP.sub [0, 1] rfl) (hD.sub [0, 1] rfl rfl) hS dX11_go_393
                  · skip
                    refine as_i 1 aq_57 ?_
                    refine lv_if_eq (tgt := 350) hx hb dX11_go_240 (by decide) (fun c9 => absurd c9 (by decide)) (fun _ => ?_)
                    exact join15 (by omega) (by have := tq_r_42; have := tq_r_50; omega) _ _ (hP.sub [0, 1] rfl) (hD.sub [0, 1] rfl rfl) hS ls (lv_sub hl [0, 1, 2, 3] rfl)
                · skip
                  refine as_i 1 aq_49 ?_
                  refine lv_if_ne (tgt := 243) hx hb dX11_go_226 (by decide) (fun _ => ?_) (fun c9 => absurd c9 (by decide))
                  exact join15 (by omega) (by have := tq_r_42; omega) _ _ (hP.sub [0, 1] rfl) (hD.sub [0, 1] rfl rfl) hS ls (lv_sub hl [0, 1, 2, 3] rfl)
            have k_1 : (1 : Int32).toInt = 1 := by decide
            have k_0 : (0 : Int32).toInt = 0 := by decide
            exact loop10 ((940 - x_2.toInt).toNat + 1) 1 x_2 0 0 ⟨by omega, by omega⟩ ⟨by omega, by omega⟩ (Or.inr ⟨by omega, by omega, congrArg Int32.toInt ez_6.symm⟩) rfl tkc0.2.2.2.2.1.symm tkc0.2.2.2.2.2.symm (by have q9 := tkc0 (b := vmtf) (s := x_2.toInt); omega) (by have q9 := tkc0 (b := vmtf) (s := x_2.toInt); unfold tkF5; omega) (by unfold tkF6; omega) (by omega) _ _ hP hD hS ls (lv_sub hl [0, 1, 2, 3] rfl)
          refine lv_iload_n hx hb dX11_go_198 rfl (lv_at hl 0 rfl) ?_
          refine jr_i (rSr (As := [.int z_6]) (rest := []) ⟨hx, hb, hml, hown, hts⟩ (m_isLetter l dC dI cy z_6 ) (cw_X11_33 hts rfl rfl ⟨Nat.le_of_ble_eq_true rfl, Nat.le_of_ble_eq_true rfl⟩) hP hK [] rfl rfl hl.1 rfl (Nat.le_of_ble_eq_true rfl) dX11_go_199 ⟨Nat.le_of_ble_eq_true rfl, Nat.le_of_ble_eq_true rfl⟩) hP hS (fun r_63 H locs hp_64 hP hS => ?_)
          have hp_64 : ((r_63 = 0 ∧ ((z_6 : Int32).toInt < 97 ∨ 122 < (z_6 : Int32).toInt)) ∨ (r_63 = 1 ∧ 97 ≤ (z_6 : Int32).toInt ∧ (z_6 : Int32).toInt ≤ 122)) := hp_64
          have q_65 := hp_64
          rcases q_65 with ⟨aq_65, f0q_65⟩ | ⟨aq_65, f0q_65, f1q_65⟩
          · skip
            refine as_i 0 aq_65 ?_
            refine lv_istore_n (lv' := [(2, .int 0), (1, .int z_6), (0, .ref vo)]) hx hb dX11_go_202 rfl hl (by decide) rfl (fun ls hl => ?_)
            have k_0 : (0 : Int32).toInt = 0 := by decide
            exact join8 0 ⟨by omega, by omega⟩ (by omega) _ _ (hP.sub [0, 1] rfl) (hD.sub [0, 1] rfl rfl) hS ls (lv_sub hl [0, 1, 2] rfl)
          · skip
            refine as_i 1 aq_65 ?_
            refine lv_istore_n (lv' := [(2, .int 1), (1, .int z_6), (0, .ref vo)]) hx hb dX11_go_202 rfl hl (by decide) rfl (fun ls hl => ?_)
            have k_1 : (1 : Int32).toInt = 1 := by decide
            exact join8 1 ⟨by omega, by omega⟩ (by omega) _ _ (hP.sub [0, 1] rfl) (hD.sub [0, 1] rfl rfl) hS ls (lv_sub hl [0, 1, 2] rfl)
        refine lv_iload_n hx hb dX11_go_123 rfl (lv_at hl 0 rfl) ?_
        refine jr_i (rSr (As := [.int z_6]) (rest := []) ⟨hx, hb, hml, hown, hts⟩ (m_isLetter l dC dI cy z_6 ) (cw_X11_33 hts rfl rfl ⟨Nat.le_of_ble_eq_true rfl, Nat.le_of_ble_eq_true rfl⟩) hP hK [] rfl rfl hl.1 rfl (Nat.le_of_ble_eq_true rfl) dX11_go_124 ⟨Nat.le_of_ble_eq_true rfl, Nat.le_of_ble_eq_true rfl⟩) hP hS (fun r_66 H locs hp_67 hP hS => ?_)
        have hp_67 : ((r_66 = 0 ∧ ((z_6 : Int32).toInt < 97 ∨ 122 < (z_6 : Int32).toInt)) ∨ (r_66 = 1 ∧ 97 ≤ (z_6 : Int32).toInt ∧ (z_6 : Int32).toInt ≤ 122)) := hp_67
        have q_68 := hp_67
        rcases q_68 with ⟨aq_68, f0q_68⟩ | ⟨aq_68, f0q_68, f1q_68⟩
        · skip
          refine as_i 0 aq_68 ?_
          refine lv_if_ne (tgt := 198) hx hb dX11_go_127 (by decide) (fun c9 => absurd c9 (by decide)) (fun _ => ?_)
          refine lv_iload_n hx hb dX11_go_130 rfl (lv_at hl 0 rfl) ?_
          refine jr_i (rSr (As := [.int z_6]) (rest := []) ⟨hx, hb, hml, hown, hts⟩ (m_isDigit l dC dI cy z_6 ) (cw_X11_37 hts rfl rfl ⟨Nat.le_of_ble_eq_true rfl, Nat.le_of_ble_eq_true rfl⟩) hP hK [] rfl rfl hl.1 rfl (Nat.le_of_ble_eq_true rfl) dX11_go_131 ⟨Nat.le_of_ble_eq_true rfl, Nat.le_of_ble_eq_true rfl⟩) hP hS (fun r_69 H locs hp_70 hP hS => ?_)
          have hp_70 : ((r_69 = 0 ∧ ((z_6 : Int32).toInt < 48 ∨ 57 < (z_6 : Int32).toInt)) ∨ (r_69 = 1 ∧ 48 ≤ (z_6 : Int32).toInt ∧ (z_6 : Int32).toInt ≤ 57)) := hp_70
          have q_71 := hp_70
          rcases q_71 with ⟨aq_71, f0q_71⟩ | ⟨aq_71, f0q_71, f1q_71⟩
          · skip
            refine as_i 0 aq_71 ?_
            refine lv_if_ne (tgt := 198) hx hb dX11_go_134 (by decide) (fun c9 => absurd c9 (by decide)) (fun _ => ?_)
            have join72 : ∀ (x_73 : Int32), (1 ≤ x_73.toInt ∧ x_73.toInt ≤ 4) → ((x_73.toInt = 4 ∧ (z_6.toInt = 59 ∨ z_6.toInt = 60 ∨ z_6.toInt = 61 ∨ z_6.toInt = 62 ∨ z_6.toInt = 40 ∨ z_6.toInt = 41)) ∨ (x_73.toInt = 1 ∧ ¬ (z_6.toInt = 59 ∨ z_6.toInt = 60 ∨ z_6.toInt = 61 ∨ z_6.toInt = 62 ∨ z_6.toInt = 40 ∨ z_6.toInt = 41) ∧ ¬ ((97 ≤ z_6.toInt ∧ z_6.toInt ≤ 122) ∨ (48 ≤ z_6.toInt ∧ z_6.toInt ≤ 57)))) → ∀ (H : Heap) (locs : List Loc), va_P (dC, dI) vwCl [(vo, .inr (12, [.int voth, .ref vmt, .int votp, .int vosz, .int volm, .int x_2, .int x_2, .int x_73, .int vonu, .int vosg, .int vofa, .int vopl, .long vowd, .int votd, .ref vmn, .ref vmr, .ref vmk, .ref vms, .ref vma, .ref vmm, .ref vmrn, .ref vmkn, .ref vmik, .ref vmon, .int vosm, .int vohp, .ref vmw, .ref vmf, .ref vmb, .int vomb, .ref vmd, .ref vmc, .int vocm, .int voct, .int vocy, .ref vmx, .int votx, .int vose, .ref vml, .ref vmwr, .int voln, .int vohw, .ref vmno, .int vond, .int voon, .int vowi, .int votop])), (vmt, .inl (cy 0, 940, .inl vmtf))] H → va_D A [(vo, .inr (12, [.int voth, .ref vmt, .int votp, .int vosz, .int volm, .int x_2, .int x_2, .int x_73, .int vonu, .int vosg, .int vofa, .int vopl, .long vowd, .int votd, .ref vmn, .ref vmr, .ref vmk, .ref vms, .ref vma, .ref vmm, .ref vmrn, .ref vmkn, .ref vmik, .ref vmon, .int vosm, .int vohp, .ref vmw, .ref vmf, .ref vmb, .int vomb, .ref vmd, .ref vmc, .int vocm, .int voct, .int vocy, .ref vmx, .int votx, .int vose, .ref vml, .ref vmwr, .int voln, .int vohw, .ref vmno, .int vond, .int voon, .int vowi, .int votop])), (vmt, .inl (cy 0, 940, .inl vmtf))] → va_S A s.heap H locs → ∀ ls : Array Slot, lv_has ls 5 [(1, .int z_6), (0, .ref vo)] → W p l e ({ frames := 1, cells := 0, slots := 0, locals := 64 }) s m av9 below meth c H locs 0 0 Q9 (F0 m 182 ls []) := by
              intro x_73 bx_73 v72_0 H locs hP hD hS ls hl
              have t9 := tkb_of ez_6
              rcases v72_0 with hs9 | hs9
              · obtain ⟨T0, T1, T2, T3⟩ := tok_sign (b := vmtf) (n := vosz.toInt) (lim := volm.toInt) (a := voto.toInt) v1_0 (by omega) (by omega) (by omega)
                refine lv_aload_n hx hb dX11_go_182 rfl (lv_at hl 1 rfl) ?_
                refine lv_iload_n hx hb dX11_go_183 rfl (lv_at hl 0 rfl) ?_
                refine pf_X11_40 hx hb hts hown hK hP hD hS 0 rfl rfl rfl (Nat.le_of_ble_eq_true rfl) dX11_go_184 (fun H locs hP hD hS => ?_)
                have hP : va_P (dC, dI) vwCl [(vo, .inr (12, [.int voth, .ref vmt, .int votp, .int vosz, .int volm, .int x_2, .int x_2, .int x_73, .int vonu, .int z_6, .int vofa, .int vopl, .long vowd, .int votd, .ref vmn, .ref vmr, .ref vmk, .ref vms, .ref vma, .ref vmm, .ref vmrn, .ref vmkn, .ref vmik, .ref vmon, .int vosm, .int vohp, .ref vmw, .ref vmf, .ref vmb, .int vomb, .ref vmd, .ref vmc, .int vocm, .int voct, .int vocy, .ref vmx, .int votx, .int vose, .ref vml, .ref vmwr, .int voln, .int vohw, .ref vmno, .int vond, .int voon, .int vowi, .int votop])), (vmt, .inl (cy 0, 940, .inl vmtf))] H := hP
                have hD : va_D A [(vo, .inr (12, [.int voth, .ref vmt, .int votp, .int vosz, .int volm, .int x_2, .int x_2, .int x_73, .int vonu, .int z_6, .int vofa, .int vopl, .long vowd, .int votd, .ref vmn, .ref vmr, .ref vmk, .ref vms, .ref vma, .ref vmm, .ref vmrn, .ref vmkn, .ref vmik, .ref vmon, .int vosm, .int vohp, .ref vmw, .ref vmf, .ref vmb, .int vomb, .ref vmd, .ref vmc, .int vocm, .int voct, .int vocy, .ref vmx, .int votx, .int vose, .ref vml, .ref vmwr, .int voln, .int vohw, .ref vmno, .int vond, .int voon, .int vowi, .int votop])), (vmt, .inl (cy 0, 940, .inl vmtf))] := hD
                refine lv_aload_n hx hb dX11_go_187 rfl (lv_at hl 1 rfl) ?_
                refine lv_dup hx hb dX11_go_188 rfl ?_
                refine gf_X11_21 hx hb hts hown hK hP 0 rfl rfl dX11_go_189 ?_
                refine lv_iconst (v := 1) hx hb dX11_go_192 (by decide) ?_
                refine lv_iadd hx hb dX11_go_193 ?_
                refine lv_topi (fun z_74 ez_74 => ?_)
                have k_1 : (1 : Int32).toInt = 1 := by decide
                have bz_74 : z_74.toInt = x_2.toInt + (1 : Int32).toInt := i_add ez_74 (by omega) (by omega)
                refine pf_X11_21 hx hb hts hown hK hP hD hS 0 rfl rfl rfl (Nat.le_of_ble_eq_true rfl) dX11_go_194 (fun H locs hP hD hS => ?_)
                have hP : va_P (dC, dI) vwCl [(vo, .inr (12, [.int voth, .ref vmt, .int votp, .int vosz, .int volm, .int z_74, .int x_2, .int x_73, .int vonu, .int z_6, .int vofa, .int vopl, .long vowd, .int votd, .ref vmn, .ref vmr, .ref vmk, .ref vms, .ref vma, .ref vmm, .ref vmrn, .ref vmkn, .ref vmik, .ref vmon, .int vosm, .int vohp, .ref vmw, .ref vmf, .ref vmb, .int vomb, .ref vmd, .ref vmc, .int vocm, .int voct, .int vocy, .ref vmx, .int votx, .int vose, .ref vml, .ref vmwr, .int voln, .int vohw, .ref vmno, .int vond, .int voon, .int vowi, .int votop])), (vmt, .inl (cy 0, 940, .inl vmtf))] H := hP
                have hD : va_D A [(vo, .inr (12, [.int voth, .ref vmt, .int votp, .int vosz, .int volm, .int z_74, .int x_2, .int x_73, .int vonu, .int z_6, .int vofa, .int vopl, .long vowd, .int votd, .ref vmn, .ref vmr, .ref vmk, .ref vms, .ref vma, .ref vmm, .ref vmrn, .ref vmkn, .ref vmik, .ref vmon, .int vosm, .int vohp, .ref vmw, .ref vmf, .ref vmb, .int vomb, .ref vmd, .ref vmc, .int vocm, .int voct, .int vocy, .ref vmx, .int votx, .int vose, .ref vml, .ref vmwr, .int voln, .int vohw, .ref vmno, .int vond, .int voon, .int vowi, .int votop])), (vmt, .inl (cy 0, 940, .inl vmtf))] := hD
                rw [hQ9]
                exact re_v (z_74, x_2, x_73, z_6, vowd, vonu) hx hb hr hlocks ⟨(show 0 ≤ (z_74 : Int32).toInt ∧ (z_74 : Int32).toInt ≤ 940 from ⟨by omega, by omega⟩), (show 0 ≤ (x_73 : Int32).toInt ∧ (x_73 : Int32).toInt ≤ 4 from ⟨by omega, by omega⟩), (show (z_74 : Int32).toInt = tkN vmtf (vosz : Int32).toInt (volm : Int32).toInt (voto : Int32).toInt from (by omega)), (show tkMK (x_73 : Int32).toInt (z_6 : Int32).toInt = tkK vmtf (vosz : Int32).toInt (volm : Int32).toInt (voto : Int32).toInt from (by have m9 := tkMK_def x_73.toInt z_6.toInt; omega)), (show (x_2 : Int32).toInt = tkS vmtf (vosz : Int32).toInt (volm : Int32).toInt (voto : Int32).toInt from (by omega)), (show tkMW (x_73 : Int32).toInt vowd = tkW vmtf (vosz : Int32).toInt (volm : Int32).toInt (voto : Int32).toInt from ((tkMW_not (by omega)).trans T3.symm)), (show tkDd vmtf (vosz : Int32).toInt (volm : Int32).toInt (voto : Int32).toInt vowd from (fun h9 => absurd (T0.symm.trans h9) (by omega))), (show tkK vmtf (vosz : Int32).toInt (volm : Int32).toInt (voto : Int32).toInt = 2 → vonu = tkVi vmtf (vosz : Int32).toInt (voto : Int32).toInt from (fun h9 => absurd (T0.symm.trans h9) (by omega))), (show tkNv vmtf (vosz : Int32).toInt (volm : Int32).toInt (voto : Int32).toInt vonu from (fun h9 => absurd (T0.symm.trans h9) (by omega))), (show (voto : Int32).toInt ≤ (z_74 : Int32).toInt from (by omega)), (show (z_74 : Int32).toInt ≤ (vosz : Int32).toInt from (by omega))⟩ (hP.sub [0, 1] rfl) (hD.sub [0, 1] rfl rfl) hS dX11_go_197
              · obtain ⟨T0, T1, T2, T3⟩ := tok_bad (b := vmtf) (n := vosz.toInt) (lim := volm.toInt) (a := voto.toInt) v1_0 (by omega) (by omega) (by omega) (by omega)
                refine lv_aload_n hx hb dX11_go_182 rfl (lv_at hl 1 rfl) ?_
                refine lv_iload_n hx hb dX11_go_183 rfl (lv_at hl 0 rfl) ?_
                refine pf_X11_40 hx hb hts hown hK hP hD hS 0 rfl rfl rfl (Nat.le_of_ble_eq_true rfl) dX11_go_184 (fun H locs hP hD hS => ?_)
                have hP : va_P (dC, dI) vwCl [(vo, .inr (12, [.int voth, .ref vmt, .int votp, .int vosz, .int volm, .int x_2, .int x_2, .int x_73, .int vonu, .int z_6, .int vofa, .int vopl, .long vowd, .int votd, .ref vmn, .ref vmr, .ref vmk, .ref vms, .ref vma, .ref vmm, .ref vmrn, .ref vmkn, .ref vmik, .ref vmon, .int vosm, .int vohp, .ref vmw, .ref vmf, .ref vmb, .int vomb, .ref vmd, .ref vmc, .int vocm, .int voct, .int vocy, .ref vmx, .int votx, .int vose, .ref vml, .ref vmwr, .int voln, .int vohw, .ref vmno, .int vond, .int voon, .int vowi, .int votop])), (vmt, .inl (cy 0, 940, .inl vmtf))] H := hP
                have hD : va_D A [(vo, .inr (12, [.int voth, .ref vmt, .int votp, .int vosz, .int volm, .int x_2, .int x_2, .int x_73, .int vonu, .int z_6, .int vofa, .int vopl, .long vowd, .int votd, .ref vmn, .ref vmr, .ref vmk, .ref vms, .ref vma, .ref vmm, .ref vmrn, .ref vmkn, .ref vmik, .ref vmon, .int vosm, .int vohp, .ref vmw, .ref vmf, .ref vmb, .int vomb, .ref vmd, .ref vmc, .int vocm, .int voct, .int vocy, .ref vmx, .int votx, .int vose, .ref vml, .ref vmwr, .int voln, .int vohw, .ref vmno, .int vond, .int voon, .int vowi, .int votop])), (vmt, .inl (cy 0, 940, .inl vmtf))] := hD
                refine lv_aload_n hx hb dX11_go_187 rfl (lv_at hl 1 rfl) ?_
                refine lv_dup hx hb dX11_go_188 rfl ?_
                refine gf_X11_21 hx hb hts hown hK hP 0 rfl rfl dX11_go_189 ?_
                refine lv_iconst (v := 1) hx hb dX11_go_192 (by decide) ?_
                refine lv_iadd hx hb dX11_go_193 ?_
                refine lv_topi (fun z_75 ez_75 => ?_)
                have k_1 : (1 : Int32).toInt = 1 := by decide
                have bz_75 : z_75.toInt = x_2.toInt + (1 : Int32).toInt := i_add ez_75 (by omega) (by omega)
                refine pf_X11_21 hx hb hts hown hK hP hD hS 0 rfl rfl rfl (Nat.le_of_ble_eq_true rfl) dX11_go_194 (fun H locs hP hD hS => ?_)
                have hP : va_P (dC, dI) vwCl [(vo, .inr (12, [.int voth, .ref vmt, .int votp, .int vosz, .int volm, .int z_75, .int x_2, .int x_73, .int vonu, .int z_6, .int vofa, .int vopl, .long vowd, .int votd, .ref vmn, .ref vmr, .ref vmk, .ref vms, .ref vma, .ref vmm, .ref vmrn, .ref vmkn, .ref vmik, .ref vmon, .int vosm, .int vohp, .ref vmw, .ref vmf, .ref vmb, .int vomb, .ref vmd, .ref vmc, .int vocm, .int voct, .int vocy, .ref vmx, .int votx, .int vose, .ref vml, .ref vmwr, .int voln, .int vohw, .ref vmno, .int vond, .int voon, .int vowi, .int votop])), (vmt, .inl (cy 0, 940, .inl vmtf))] H := hP
                have hD : va_D A [(vo, .inr (12, [.int voth, .ref vmt, .int votp, .int vosz, .int volm, .int z_75, .int x_2, .int x_73, .int vonu, .int z_6, .int vofa, .int vopl, .long vowd, .int votd, .ref vmn, .ref vmr, .ref vmk, .ref vms, .ref vma, .ref vmm, .ref vmrn, .ref vmkn, .ref vmik, .ref vmon, .int vosm, .int vohp, .ref vmw, .ref vmf, .ref vmb, .int vomb, .ref vmd, .ref vmc, .int vocm, .int voct, .int vocy, .ref vmx, .int votx, .int vose, .ref vml, .ref vmwr, .int voln, .int vohw, .ref vmno, .int vond, .int voon, .int vowi, .int votop])), (vmt, .inl (cy 0, 940, .inl vmtf))] := hD
                rw [hQ9]
                exact re_v (z_75, x_2, x_73, z_6, vowd, vonu) hx hb hr hlocks ⟨(show 0 ≤ (z_75 : Int32).toInt ∧ (z_75 : Int32).toInt ≤ 940 from ⟨by omega, by omega⟩), (show 0 ≤ (x_73 : Int32).toInt ∧ (x_73 : Int32).toInt ≤ 4 from ⟨by omega, by omega⟩), (show (z_75 : Int32).toInt = tkN vmtf (vosz : Int32).toInt (volm : Int32).toInt (voto : Int32).toInt from (by omega)), (show tkMK (x_73 : Int32).toInt (z_6 : Int32).toInt = tkK vmtf (vosz : Int32).toInt (volm : Int32).toInt (voto : Int32).toInt from (by have m9 := tkMK_def x_73.toInt z_6.toInt; omega)), (show (x_2 : Int32).toInt = tkS vmtf (vosz : Int32).toInt (volm : Int32).toInt (voto : Int32).toInt from (by omega)), (show tkMW (x_73 : Int32).toInt vowd = tkW vmtf (vosz : Int32).toInt (volm : Int32).toInt (voto : Int32).toInt from ((tkMW_not (by omega)).trans T3.symm)), (show tkDd vmtf (vosz : Int32).toInt (volm : Int32).toInt (voto : Int32).toInt vowd from (fun h9 => absurd (T0.symm.trans h9) (by omega))), (show tkK vmtf (vosz : Int32).toInt (volm : Int32).toInt (voto : Int32).toInt = 2 → vonu = tkVi vmtf (vosz : Int32).toInt (voto : Int32).toInt from (fun h9 => absurd (T0.symm.trans h9) (by omega))), (show tkNv vmtf (vosz : Int32).toInt (volm : Int32).toInt (voto : Int32).toInt vonu from (fun h9 => absurd (T0.symm.trans h9) (by omega))), (show (voto : Int32).toInt ≤ (z_75 : Int32).toInt from (by omega)), (show (z_75 : Int32).toInt ≤ (vosz : Int32).toInt from (by omega))⟩ (hP.sub [0, 1] rfl) (hD.sub [0, 1] rfl rfl) hS dX11_go_197
            refine lv_aload_n hx hb dX11_go_137 rfl (lv_at hl 1 rfl) ?_
            refine lv_iload_n hx hb dX11_go_138 rfl (lv_at hl 0 rfl) ?_
            refine lv_bipush (v := 59) hx hb dX11_go_139 (by decide) ?_
            have k_59 : (59 : Int32).toInt = 59 := by decide
            refine lv_icmp_eq (tgt := 174) hx hb dX11_go_141 (by decide) (fun c_76 => ?_) (fun c_76 => ?_)
            · skip
              have c_76 : z_6.toInt = (59 : Int32).toInt := i_eq.mp c_76
              refine lv_iconst (v := 4) hx hb dX11_go_174 (by decide) ?_
              refine lv_goto (tgt := 179) hx hb dX11_go_175 (by decide) ?_
              refine pf_X11_30 hx hb hts hown hK hP hD hS 0 rfl rfl rfl (Nat.le_of_ble_eq_true rfl) dX11_go_179 (fun H locs hP hD hS => ?_)
              have hP : va_P (dC, dI) vwCl [(vo, .inr (12, [.int voth, .ref vmt, .int votp, .int vosz, .int volm, .int x_2, .int x_2, .int 4, .int vonu, .int vosg, .int vofa, .int vopl, .long vowd, .int votd, .ref vmn, .ref vmr, .ref vmk, .ref vms, .ref vma, .ref vmm, .ref vmrn, .ref vmkn, .ref vmik, .ref vmon, .int vosm, .int vohp, .ref vmw, .ref vmf, .ref vmb, .int vomb, .ref vmd, .ref vmc, .int vocm, .int voct, .int vocy, .ref vmx, .int votx, .int vose, .ref vml, .ref vmwr, .int voln, .int vohw, .ref vmno, .int vond, .int voon, .int vowi, .int votop])), (vmt, .inl (cy 0, 940, .inl vmtf))] H := hP
              have hD : va_D A [(vo, .inr (12, [.int voth, .ref vmt, .int votp, .int vosz, .int volm, .int x_2, .int x_2, .int 4, .int vonu, .int vosg, .int vofa, .int vopl, .long vowd, .int votd, .ref vmn, .ref vmr, .ref vmk, .ref vms, .ref vma, .ref vmm, .ref vmrn, .ref vmkn, .ref vmik, .ref vmon, .int vosm, .int vohp, .ref vmw, .ref vmf, .ref vmb, .int vomb, .ref vmd, .ref vmc, .int vocm, .int voct, .int vocy, .ref vmx, .int votx, .int vose, .ref vml, .ref vmwr, .int voln, .int vohw, .ref vmno, .int vond, .int voon, .int vowi, .int votop])), (vmt, .inl (cy 0, 940, .inl vmtf))] := hD
              have k_4 : (4 : Int32).toInt = 4 := by decide
              exact join72 4 ⟨by omega, by omega⟩ (by omega) _ _ (hP.sub [0, 1] rfl) (hD.sub [0, 1] rfl rfl) hS ls (lv_sub hl [0, 1] rfl)
            · skip
              have c_76 : ¬ (z_6.toInt = (59 : Int32).toInt) := fun h9 => c_76 (i_eq.mpr h9)
              refine lv_iload_n hx hb dX11_go_144 rfl (lv_at hl 0 rfl) ?_
              refine lv_bipush (v := 60) hx hb dX11_go_145 (by decide) ?_
              have k_60 : (60 : Int32).toInt = 60 := by decide
              refine lv_icmp_eq (tgt := 174) hx hb dX11_go_147 (by decide) (fun c_77 => ?_) (fun c_77 => ?_)
              · skip
                have c_77 : z_6.toInt = (60 : Int32).toInt := i_eq.mp c_77
                refine lv_iconst (v := 4) hx hb dX11_go_174 (by decide) ?_
                refine lv_goto (tgt := 179) hx hb dX11_go_175 (by decide) ?_
                refine pf_X11_30 hx hb hts hown hK hP hD hS 0 rfl rfl rfl (Nat.le_of_ble_eq_true rfl) dX11_go_179 (fun H locs hP hD hS => ?_)
                have hP : va_P (dC, dI) vwCl [(vo, .inr (12, [.int voth, .ref vmt, .int votp, .int vosz, .int volm, .int x_2, .int x_2, .int 4, .int vonu, .int vosg, .int vofa, .int vopl, .long vowd, .int votd, .ref vmn, .ref vmr, .ref vmk, .ref vms, .ref vma, .ref vmm, .ref vmrn, .ref vmkn, .ref vmik, .ref vmon, .int vosm, .int vohp, .ref vmw, .ref vmf, .ref vmb, .int vomb, .ref vmd, .ref vmc, .int vocm, .int voct, .int vocy, .ref vmx, .int votx, .int vose, .ref vml, .ref vmwr, .int voln, .int vohw, .ref vmno, .int vond, .int voon, .int vowi, .int votop])), (vmt, .inl (cy 0, 940, .inl vmtf))] H := hP
                have hD : va_D A [(vo, .inr (12, [.int voth, .ref vmt, .int votp, .int vosz, .int volm, .int x_2, .int x_2, .int 4, .int vonu, .int vosg, .int vofa, .int vopl, .long vowd, .int votd, .ref vmn, .ref vmr, .ref vmk, .ref vms, .ref vma, .ref vmm, .ref vmrn, .ref vmkn, .ref vmik, .ref vmon, .int vosm, .int vohp, .ref vmw, .ref vmf, .ref vmb, .int vomb, .ref vmd, .ref vmc, .int vocm, .int voct, .int vocy, .ref vmx, .int votx, .int vose, .ref vml, .ref vmwr, .int voln, .int vohw, .ref vmno, .int vond, .int voon, .int vowi, .int votop])), (vmt, .inl (cy 0, 940, .inl vmtf))] := hD
                have k_4 : (4 : Int32).toInt = 4 := by decide
                exact join72 4 ⟨by omega, by omega⟩ (by omega) _ _ (hP.sub [0, 1] rfl) (hD.sub [0, 1] rfl rfl) hS ls (lv_sub hl [0, 1] rfl)
              · skip
                have c_77 : ¬ (z_6.toInt = (60 : Int32).toInt) := fun h9 => c_77 (i_eq.mpr h9)
                refine lv_iload_n hx hb dX11_go_150 rfl (lv_at hl 0 rfl) ?_
                refine lv_bipush (v := 61) hx hb dX11_go_151 (by decide) ?_
                have k_61 : (61 : Int32).toInt = 61 := by decide
                refine lv_icmp_eq (tgt := 174) hx hb dX11_go_153 (by decide) (fun c_78 => ?_) (fun c_78 => ?_)
                · skip
                  have c_78 : z_6.toInt = (61 : Int32).toInt := i_eq.mp c_78
                  refine lv_iconst (v := 4) hx hb dX11_go_174 (by decide) ?_
                  refine lv_goto (tgt := 179) hx hb dX11_go_175 (by decide) ?_
                  refine pf_X11_30 hx hb hts hown hK hP hD hS 0 rfl rfl rfl (Nat.le_of_ble_eq_true rfl) dX11_go_179 (fun H locs hP hD hS => ?_)
                  have hP : va_P (dC, dI) vwCl [(vo, .inr (12, [.int voth, .ref vmt, .int votp, .int vosz, .int volm, .int x_2, .int x_2, .int 4, .int vonu, .int vosg, .int vofa, .int vopl, .long vowd, .int votd, .ref vmn, .ref vmr, .ref vmk, .ref vms, .ref vma, .ref vmm, .ref vmrn, .ref vmkn, .ref vmik, .ref vmon, .int vosm, .int vohp, .ref vmw, .ref vmf, .ref vmb, .int vomb, .ref vmd, .ref vmc, .int vocm, .int voct, .int vocy, .ref vmx, .int votx, .int vose, .ref vml, .ref vmwr, .int voln, .int vohw, .ref vmno, .int vond, .int voon, .int vowi, .int votop])), (vmt, .inl (cy 0, 940, .inl vmtf))] H := hP
                  have hD : va_D A [(vo, .inr (12, [.int voth, .ref vmt, .int votp, .int vosz, .int volm, .int x_2, .int x_2, .int 4, .int vonu, .int vosg, .int vofa, .int vopl, .long vowd, .int votd, .ref vmn, .ref vmr, .ref vmk, .ref vms, .ref vma, .ref vmm, .ref vmrn, .ref vmkn, .ref vmik, .ref vmon, .int vosm, .int vohp, .ref vmw, .ref vmf, .ref vmb, .int vomb, .ref vmd, .ref vmc, .int vocm, .int voct, .int vocy, .ref vmx, .int votx, .int vose, .ref vml, .ref vmwr, .int voln, .int vohw, .ref vmno, .int vond, .int voon, .int vowi, .int votop])), (vmt, .inl (cy 0, 940, .inl vmtf))] := hD
                  have k_4 : (4 : Int32).toInt = 4 := by decide
                  exact join72 4 ⟨by omega, by omega⟩ (by omega) _ _ (hP.sub [0, 1] rfl) (hD.sub [0, 1] rfl rfl) hS ls (lv_sub hl [0, 1] rfl)
                · skip
                  have c_78 : ¬ (z_6.toInt = (61 : Int32).toInt) := fun h9 => c_78 (i_eq.mpr h9)
                  refine lv_iload_n hx hb dX11_go_156 rfl (lv_at hl 0 rfl) ?_
                  refine lv_bipush (v := 62) hx hb dX11_go_157 (by decide) ?_
                  have k_62 : (62 : Int32).toInt = 62 := by decide
                  refine lv_icmp_eq (tgt := 174) hx hb dX11_go_159 (by decide) (fun c_79 => ?_) (fun c_79 => ?_)
                  · skip
                    have c_79 : z_6.toInt = (62 : Int32).toInt := i_eq.mp c_79
                    refine lv_iconst (v := 4) hx hb dX11_go_174 (by decide) ?_
                    refine lv_goto (tgt := 179) hx hb dX11_go_175 (by decide) ?_
                    refine pf_X11_30 hx hb hts hown hK hP hD hS 0 rfl rfl rfl (Nat.le_of_ble_eq_true rfl) dX11_go_179 (fun H locs hP hD hS => ?_)
                    have hP : va_P (dC, dI) vwCl [(vo, .inr (12, [.int voth, .ref vmt, .int votp, .int vosz, .int volm, .int x_2, .int x_2, .int 4, .int vonu, .int vosg, .int vofa, .int vopl, .long vowd, .int votd, .ref vmn, .ref vmr, .ref vmk, .ref vms, .ref vma, .ref vmm, .ref vmrn, .ref vmkn, .ref vmik, .ref vmon, .int vosm, .int vohp, .ref vmw, .ref vmf, .ref vmb, .int vomb, .ref vmd, .ref vmc, .int vocm, .int voct, .int vocy, .ref vmx, .int votx, .int vose, .ref vml, .ref vmwr, .int voln, .int vohw, .ref vmno, .int vond, .int voon, .int vowi, .int votop])), (vmt, .inl (cy 0, 940, .inl vmtf))] H := hP
                    have hD : va_D A [(vo, .inr (12, [.int voth, .ref vmt, .int votp, .int vosz, .int volm, .int x_2, .int x_2, .int 4, .int vonu, .int vosg, .int vofa, .int vopl, .long vowd, .int votd, .ref vmn, .ref vmr, .ref vmk, .ref vms, .ref vma, .ref vmm, .ref vmrn, .ref vmkn, .ref vmik, .ref vmon, .int vosm, .int vohp, .ref vmw, .ref vmf, .ref vmb, .int vomb, .ref vmd, .ref vmc, .int vocm, .int voct, .int vocy, .ref vmx, .int votx, .int vose, .ref vml, .ref vmwr, .int voln, .int vohw, .ref vmno, .int vond, .int voon, .int vowi, .int votop])), (vmt, .inl (cy 0, 940, .inl vmtf))] := hD
                    have k_4 : (4 : Int32).toInt = 4 := by decide
                    exact join72 4 ⟨by omega, by omega⟩ (by omega) _ _ (hP.sub [0, 1] rfl) (hD.sub [0, 1] rfl rfl) hS ls (lv_sub hl [0, 1] rfl)
                  · skip
                    have c_79 : ¬ (z_6.toInt = (62 : Int32).toInt) := fun h9 => c_79 (i_eq.mpr h9)
                    refine lv_iload_n hx hb dX11_go_162 rfl (lv_at hl 0 rfl) ?_
                    refine lv_bipush (v := 40) hx hb dX11_go_163 (by decide) ?_
                    have k_40 : (40 : Int32).toInt = 40 := by decide
                    refine lv_icmp_eq (tgt := 174) hx hb dX11_go_165 (by decide) (fun c_80 => ?_) (fun c_80 => ?_)
                    · skip
                      have c_80 : z_6.toInt = (40 : Int32).toInt := i_eq.mp c_80
                      refine lv_iconst (v := 4) hx hb dX11_go_174 (by decide) ?_
                      refine lv_goto (tgt := 179) hx hb dX11_go_175 (by decide) ?_
                      refine pf_X11_30 hx hb hts hown hK hP hD hS 0 rfl rfl rfl (Nat.le_of_ble_eq_true rfl) dX11_go_179 (fun H locs hP hD hS => ?_)
                      have hP : va_P (dC, dI) vwCl [(vo, .inr (12, [.int voth, .ref vmt, .int votp, .int vosz, .int volm, .int x_2, .int x_2, .int 4, .int vonu, .int vosg, .int vofa, .int vopl, .long vowd, .int votd, .ref vmn, .ref vmr, .ref vmk, .ref vms, .ref vma, .ref vmm, .ref vmrn, .ref vmkn, .ref vmik, .ref vmon, .int vosm, .int vohp, .ref vmw, .ref vmf, .ref vmb, .int vomb, .ref vmd, .ref vmc, .int vocm, .int voct, .int vocy, .ref vmx, .int votx, .int vose, .ref vml, .ref vmwr, .int voln, .int vohw, .ref vmno, .int vond, .int voon, .int vowi, .int votop])), (vmt, .inl (cy 0, 940, .inl vmtf))] H := hP
                      have hD : va_D A [(vo, .inr (12, [.int voth, .ref vmt, .int votp, .int vosz, .int volm, .int x_2, .int x_2, .int 4, .int vonu, .int vosg, .int vofa, .int vopl, .long vowd, .int votd, .ref vmn, .ref vmr, .ref vmk, .ref vms, .ref vma, .ref vmm, .ref vmrn, .ref vmkn, .ref vmik, .ref vmon, .int vosm, .int vohp, .ref vmw, .ref vmf, .ref vmb, .int vomb, .ref vmd, .ref vmc, .int vocm, .int voct, .int vocy, .ref vmx, .int votx, .int vose, .ref vml, .ref vmwr, .int voln, .int vohw, .ref vmno, .int vond, .int voon, .int vowi, .int votop])), (vmt, .inl (cy 0, 940, .inl vmtf))] := hD
                      have k_4 : (4 : Int32).toInt = 4 := by decide
                      exact join72 4 ⟨by omega, by omega⟩ (by omega) _ _ (hP.sub [0, 1] rfl) (hD.sub [0, 1] rfl rfl) hS ls (lv_sub hl [0, 1] rfl)
                    · skip
                      have c_80 : ¬ (z_6.toInt = (40 : Int32).toInt) := fun h9 => c_80 (i_eq.mpr h9)
                      refine lv_iload_n hx hb dX11_go_168 rfl (lv_at hl 0 rfl) ?_
                      refine lv_bipush (v := 41) hx hb dX11_go_169 (by decide) ?_
                      have k_41 : (41 : Int32).toInt = 41 := by decide
                      refine lv_icmp_ne (tgt := 178) hx hb dX11_go_171 (by decide) (fun c_81 => ?_) (fun c_81 => ?_)
                      · skip
                        have c_81 : ¬ (z_6.toInt = (41 : Int32).toInt) := fun h9 => c_81 (i_eq.mpr h9)
                        refine lv_iconst (v := 1) hx hb dX11_go_178 (by decide) ?_
                        refine pf_X11_30 hx hb hts hown hK hP hD hS 0 rfl rfl rfl (Nat.le_of_ble_eq_true rfl) dX11_go_179 (fun H locs hP hD hS => ?_)
                        have hP : va_P (dC, dI) vwCl [(vo, .inr (12, [.int voth, .ref vmt, .int votp, .int vosz, .int volm, .int x_2, .int x_2, .int 1, .int vonu, .int vosg, .int vofa, .int vopl, .long vowd, .int votd, .ref vmn, .ref vmr, .ref vmk, .ref vms, .ref vma, .ref vmm, .ref vmrn, .ref vmkn, .ref vmik, .ref vmon, .int vosm, .int vohp, .ref vmw, .ref vmf, .ref vmb, .int vomb, .ref vmd, .ref vmc, .int vocm, .int voct, .int vocy, .ref vmx, .int votx, .int vose, .ref vml, .ref vmwr, .int voln, .int vohw, .ref vmno, .int vond, .int voon, .int vowi, .int votop])), (vmt, .inl (cy 0, 940, .inl vmtf))] H := hP
                        have hD : va_D A [(vo, .inr (12, [.int voth, .ref vmt, .int votp, .int vosz, .int volm, .int x_2, .int x_2, .int 1, .int vonu, .int vosg, .int vofa, .int vopl, .long vowd, .int votd, .ref vmn, .ref vmr, .ref vmk, .ref vms, .ref vma, .ref vmm, .ref vmrn, .ref vmkn, .ref vmik, .ref vmon, .int vosm, .int vohp, .ref vmw, .ref vmf, .ref vmb, .int vomb, .ref vmd, .ref vmc, .int vocm, .int voct, .int vocy, .ref vmx, .int votx, .int vose, .ref vml, .ref vmwr, .int voln, .int vohw, .ref vmno, .int vond, .int voon, .int vowi, .int votop])), (vmt, .inl (cy 0, 940, .inl vmtf))] := hD
                        have k_1 : (1 : Int32).toInt = 1 := by decide
                        exact join72 1 ⟨by omega, by omega⟩ (by omega) _ _ (hP.sub [0, 1] rfl) (hD.sub [0, 1] rfl rfl) hS ls (lv_sub hl [0, 1] rfl)
                      · skip
                        have c_81 : z_6.toInt = (41 : Int32).toInt := i_eq.mp c_81
                        refine lv_iconst (v := 4) hx hb dX11_go_174 (by decide) ?_
                        refine lv_goto (tgt := 179) hx hb dX11_go_175 (by decide) ?_
                        refine pf_X11_30 hx hb hts hown hK hP hD hS 0 rfl rfl rfl (Nat.le_of_ble_eq_true rfl) dX11_go_179 (fun H locs hP hD hS => ?_)
                        have hP : va_P (dC, dI) vwCl [(vo, .inr (12, [.int voth, .ref vmt, .int votp, .int vosz, .int volm, .int x_2, .int x_2, .int 4, .int vonu, .int vosg, .int vofa, .int vopl, .long vowd, .int votd, .ref vmn, .ref vmr, .ref vmk, .ref vms, .ref vma, .ref vmm, .ref vmrn, .ref vmkn, .ref vmik, .ref vmon, .int vosm, .int vohp, .ref vmw, .ref vmf, .ref vmb, .int vomb, .ref vmd, .ref vmc, .int vocm, .int voct, .int vocy, .ref vmx, .int votx, .int vose, .ref vml, .ref vmwr, .int voln, .int vohw, .ref vmno, .int vond, .int voon, .int vowi, .int votop])), (vmt, .inl (cy 0, 940, .inl vmtf))] H := hP
                        have hD : va_D A [(vo, .inr (12, [.int voth, .ref vmt, .int votp, .int vosz, .int volm, .int x_2, .int x_2, .int 4, .int vonu, .int vosg, .int vofa, .int vopl, .long vowd, .int votd, .ref vmn, .ref vmr, .ref vmk, .ref vms, .ref vma, .ref vmm, .ref vmrn, .ref vmkn, .ref vmik, .ref vmon, .int vosm, .int vohp, .ref vmw, .ref vmf, .ref vmb, .int vomb, .ref vmd, .ref vmc, .int vocm, .int voct, .int vocy, .ref vmx, .int votx, .int vose, .ref vml, .ref vmwr, .int voln, .int vohw, .ref vmno, .int vond, .int voon, .int vowi, .int votop])), (vmt, .inl (cy 0, 940, .inl vmtf))] := hD
                        have k_4 : (4 : Int32).toInt = 4 := by decide
                        exact join72 4 ⟨by omega, by omega⟩ (by omega) _ _ (hP.sub [0, 1] rfl) (hD.sub [0, 1] rfl rfl) hS ls (lv_sub hl [0, 1] rfl)
          · skip
            refine as_i 1 aq_71 ?_
            refine lv_if_ne (tgt := 198) hx hb dX11_go_134 (by decide) (fun _ => ?_) (fun c9 => absurd c9 (by decide))
            exact join7 (by omega) _ _ (hP.sub [0, 1] rfl) (hD.sub [0, 1] rfl rfl) hS ls (lv_sub hl [0, 1] rfl)
        · skip
          refine as_i 1 aq_68 ?_
          refine lv_if_ne (tgt := 198) hx hb dX11_go_127 (by decide) (fun _ => ?_) (fun c9 => absurd c9 (by decide))
          exact join7 (by omega) _ _ (hP.sub [0, 1] rfl) (hD.sub [0, 1] rfl rfl) hS ls (lv_sub hl [0, 1] rfl)
      · skip
        have c_4 : ¬ (x_2.toInt < vosz.toInt) := fun h9 => c_4 (i_lt.mpr h9)
        obtain ⟨T0, T1, T2, T3⟩ := tok_fin (b := vmtf) (n := vosz.toInt) (lim := volm.toInt) (a := voto.toInt) v1_0 (by omega) (by omega)
        refine lv_aload_n hx hb dX11_go_107 rfl (lv_at hl 0 rfl) ?_
        refine lv_iconst (v := 0) hx hb dX11_go_108 (by decide) ?_
        refine pf_X11_30 hx hb hts hown hK hP hD hS 0 rfl rfl rfl (Nat.le_of_ble_eq_true rfl) dX11_go_109 (fun H locs hP hD hS => ?_)
        have hP : va_P (dC, dI) vwCl [(vo, .inr (12, [.int voth, .ref vmt, .int votp, .int vosz, .int volm, .int x_2, .int x_2, .int 0, .int vonu, .int vosg, .int vofa, .int vopl, .long vowd, .int votd, .ref vmn, .ref vmr, .ref vmk, .ref vms, .ref vma, .ref vmm, .ref vmrn, .ref vmkn, .ref vmik, .ref vmon, .int vosm, .int vohp, .ref vmw, .ref vmf, .ref vmb, .int vomb, .ref vmd, .ref vmc, .int vocm, .int voct, .int vocy, .ref vmx, .int votx, .int vose, .ref vml, .ref vmwr, .int voln, .int vohw, .ref vmno, .int vond, .int voon, .int vowi, .int votop])), (vmt, .inl (cy 0, 940, .inl vmtf))] H := hP
        have hD : va_D A [(vo, .inr (12, [.int voth, .ref vmt, .int votp, .int vosz, .int volm, .int x_2, .int x_2, .int 0, .int vonu, .int vosg, .int vofa, .int vopl, .long vowd, .int votd, .ref vmn, .ref vmr, .ref vmk, .ref vms, .ref vma, .ref vmm, .ref vmrn, .ref vmkn, .ref vmik, .ref vmon, .int vosm, .int vohp, .ref vmw, .ref vmf, .ref vmb, .int vomb, .ref vmd, .ref vmc, .int vocm, .int voct, .int vocy, .ref vmx, .int votx, .int vose, .ref vml, .ref vmwr, .int voln, .int vohw, .ref vmno, .int vond, .int voon, .int vowi, .int votop])), (vmt, .inl (cy 0, 940, .inl vmtf))] := hD
        have k_0 : (0 : Int32).toInt = 0 := by decide
        rw [hQ9]
        exact re_v (x_2, x_2, (0 : Int32), vosg, vowd, vonu) hx hb hr hlocks ⟨(show 0 ≤ (x_2 : Int32).toInt ∧ (x_2 : Int32).toInt ≤ 940 from ⟨by omega, by omega⟩), (show 0 ≤ (0 : Int32).toInt ∧ (0 : Int32).toInt ≤ 4 from ⟨by omega, by omega⟩), (show (x_2 : Int32).toInt = tkN vmtf (vosz : Int32).toInt (volm : Int32).toInt (voto : Int32).toInt from (by omega)), (show tkMK (0 : Int32).toInt (vosg : Int32).toInt = tkK vmtf (vosz : Int32).toInt (volm : Int32).toInt (voto : Int32).toInt from (by have m9 := tkMK_def (0 : Int32).toInt vosg.toInt; omega)), (show (x_2 : Int32).toInt = tkS vmtf (vosz : Int32).toInt (volm : Int32).toInt (voto : Int32).toInt from (by omega)), (show tkMW (0 : Int32).toInt vowd = tkW vmtf (vosz : Int32).toInt (volm : Int32).toInt (voto : Int32).toInt from ((tkMW_not (by omega)).trans T3.symm)), (show tkDd vmtf (vosz : Int32).toInt (volm : Int32).toInt (voto : Int32).toInt vowd from (fun h9 => absurd (T0.symm.trans h9) (by omega))), (show tkK vmtf (vosz : Int32).toInt (volm : Int32).toInt (voto : Int32).toInt = 2 → vonu = tkVi vmtf (vosz : Int32).toInt (voto : Int32).toInt from (fun h9 => absurd (T0.symm.trans h9) (by omega))), (show tkNv vmtf (vosz : Int32).toInt (volm : Int32).toInt (voto : Int32).toInt vonu from (fun h9 => absurd (T0.symm.trans h9) (by omega))), (show (voto : Int32).toInt ≤ (x_2 : Int32).toInt from (by omega)), (show (x_2 : Int32).toInt ≤ (vosz : Int32).toInt from (by omega))⟩ (hP.sub [0, 1] rfl) (hD.sub [0, 1] rfl rfl) hS dX11_go_112
    refine lv_aload_n hx hb dX11_go_60 rfl (lv_at hl 0 rfl) ?_
    refine gf_X11_18 hx hb hts hown hK hP 0 rfl rfl dX11_go_61 ?_
    refine lv_aload_n hx hb dX11_go_64 rfl (lv_at hl 0 rfl) ?_
    refine gf_X11_27 hx hb hts hown hK hP 0 rfl rfl dX11_go_65 ?_
    refine lv_icmp_le (tgt := 96) hx hb dX11_go_68 (by decide) (fun c_82 => ?_) (fun c_82 => ?_)
    · skip
      have c_82 : vosz.toInt ≤ volm.toInt := i_le.mp c_82
      exact join3 (by omega) _ _ (hP.sub [0, 1] rfl) (hD.sub [0, 1] rfl rfl) hS ls (lv_sub hl [0] rfl)
    · skip
      have c_82 : ¬ (vosz.toInt ≤ volm.toInt) := fun h9 => c_82 (i_le.mpr h9)
      refine lv_aload_n hx hb dX11_go_71 rfl (lv_at hl 0 rfl) ?_
      refine gf_X11_24 hx hb hts hown hK hP 0 rfl rfl dX11_go_72 ?_
      refine lv_aload_n hx hb dX11_go_75 rfl (lv_at hl 0 rfl) ?_
      refine gf_X11_27 hx hb hts hown hK hP 0 rfl rfl dX11_go_76 ?_
      refine lv_icmp_lt (tgt := 96) hx hb dX11_go_79 (by decide) (fun c_83 => ?_) (fun c_83 => ?_)
      · skip
        have c_83 : x_2.toInt < volm.toInt := i_lt.mp c_83
        exact join3 (by omega) _ _ (hP.sub [0, 1] rfl) (hD.sub [0, 1] rfl rfl) hS ls (lv_sub hl [0] rfl)
      · skip
        have c_83 : ¬ (x_2.toInt < volm.toInt) := fun h9 => c_83 (i_lt.mpr h9)
        obtain ⟨T0, T1, T2, T3⟩ := tok_over (b := vmtf) (n := vosz.toInt) (lim := volm.toInt) (a := voto.toInt) v1_0 (by omega)
        refine lv_aload_n hx hb dX11_go_82 rfl (lv_at hl 0 rfl) ?_
        refine lv_aload_n hx hb dX11_go_83 rfl (lv_at hl 0 rfl) ?_
        refine gf_X11_27 hx hb hts hown hK hP 0 rfl rfl dX11_go_84 ?_
        refine pf_X11_24 hx hb hts hown hK hP hD hS 0 rfl rfl rfl (Nat.le_of_ble_eq_true rfl) dX11_go_87 (fun H locs hP hD hS => ?_)
        have hP : va_P (dC, dI) vwCl [(vo, .inr (12, [.int voth, .ref vmt, .int votp, .int vosz, .int volm, .int x_2, .int volm, .int vokd, .int vonu, .int vosg, .int vofa, .int vopl, .long vowd, .int votd, .ref vmn, .ref vmr, .ref vmk, .ref vms, .ref vma, .ref vmm, .ref vmrn, .ref vmkn, .ref vmik, .ref vmon, .int vosm, .int vohp, .ref vmw, .ref vmf, .ref vmb, .int vomb, .ref vmd, .ref vmc, .int vocm, .int voct, .int vocy, .ref vmx, .int votx, .int vose, .ref vml, .ref vmwr, .int voln, .int vohw, .ref vmno, .int vond, .int voon, .int vowi, .int votop])), (vmt, .inl (cy 0, 940, .inl vmtf))] H := hP
        have hD : va_D A [(vo, .inr (12, [.int voth, .ref vmt, .int votp, .int vosz, .int volm, .int x_2, .int volm, .int vokd, .int vonu, .int vosg, .int vofa, .int vopl, .long vowd, .int votd, .ref vmn, .ref vmr, .ref vmk, .ref vms, .ref vma, .ref vmm, .ref vmrn, .ref vmkn, .ref vmik, .ref vmon, .int vosm, .int vohp, .ref vmw, .ref vmf, .ref vmb, .int vomb, .ref vmd, .ref vmc, .int vocm, .int voct, .int vocy, .ref vmx, .int votx, .int vose, .ref vml, .ref vmwr, .int voln, .int vohw, .ref vmno, .int vond, .int voon, .int vowi, .int votop])), (vmt, .inl (cy 0, 940, .inl vmtf))] := hD
        refine lv_aload_n hx hb dX11_go_90 rfl (lv_at hl 0 rfl) ?_
        refine lv_iconst (v := 1) hx hb dX11_go_91 (by decide) ?_
        refine pf_X11_30 hx hb hts hown hK hP hD hS 0 rfl rfl rfl (Nat.le_of_ble_eq_true rfl) dX11_go_92 (fun H locs hP hD hS => ?_)
        have hP : va_P (dC, dI) vwCl [(vo, .inr (12, [.int voth, .ref vmt, .int votp, .int vosz, .int volm, .int x_2, .int volm, .int 1, .int vonu, .int vosg, .int vofa, .int vopl, .long vowd, .int votd, .ref vmn, .ref vmr, .ref vmk, .ref vms, .ref vma, .ref vmm, .ref vmrn, .ref vmkn, .ref vmik, .ref vmon, .int vosm, .int vohp, .ref vmw, .ref vmf, .ref vmb, .int vomb, .ref vmd, .ref vmc, .int vocm, .int voct, .int vocy, .ref vmx, .int votx, .int vose, .ref vml, .ref vmwr, .int voln, .int vohw, .ref vmno, .int vond, .int voon, .int vowi, .int votop])), (vmt, .inl (cy 0, 940, .inl vmtf))] H := hP
        have hD : va_D A [(vo, .inr (12, [.int voth, .ref vmt, .int votp, .int vosz, .int volm, .int x_2, .int volm, .int 1, .int vonu, .int vosg, .int vofa, .int vopl, .long vowd, .int votd, .ref vmn, .ref vmr, .ref vmk, .ref vms, .ref vma, .ref vmm, .ref vmrn, .ref vmkn, .ref vmik, .ref vmon, .int vosm, .int vohp, .ref vmw, .ref vmf, .ref vmb, .int vomb, .ref vmd, .ref vmc, .int vocm, .int voct, .int vocy, .ref vmx, .int votx, .int vose, .ref vml, .ref vmwr, .int voln, .int vohw, .ref vmno, .int vond, .int voon, .int vowi, .int votop])), (vmt, .inl (cy 0, 940, .inl vmtf))] := hD
        have k_1 : (1 : Int32).toInt = 1 := by decide
        rw [hQ9]
        exact re_v (x_2, volm, (1 : Int32), vosg, vowd, vonu) hx hb hr hlocks ⟨(show 0 ≤ (x_2 : Int32).toInt ∧ (x_2 : Int32).toInt ≤ 940 from ⟨by omega, by omega⟩), (show 0 ≤ (1 : Int32).toInt ∧ (1 : Int32).toInt ≤ 4 from ⟨by omega, by omega⟩), (show (x_2 : Int32).toInt = tkN vmtf (vosz : Int32).toInt (volm : Int32).toInt (voto : Int32).toInt from (by omega)), (show tkMK (1 : Int32).toInt (vosg : Int32).toInt = tkK vmtf (vosz : Int32).toInt (volm : Int32).toInt (voto : Int32).toInt from (by have m9 := tkMK_def (1 : Int32).toInt vosg.toInt; omega)), (show (volm : Int32).toInt = tkS vmtf (vosz : Int32).toInt (volm : Int32).toInt (voto : Int32).toInt from (by omega)), (show tkMW (1 : Int32).toInt vowd = tkW vmtf (vosz : Int32).toInt (volm : Int32).toInt (voto : Int32).toInt from ((tkMW_not (by omega)).trans T3.symm)), (show tkDd vmtf (vosz : Int32).toInt (volm : Int32).toInt (voto : Int32).toInt vowd from (fun h9 => absurd (T0.symm.trans h9) (by omega))), (show tkK vmtf (vosz : Int32).toInt (volm : Int32).toInt (voto : Int32).toInt = 2 → vonu = tkVi vmtf (vosz : Int32).toInt (voto : Int32).toInt from (fun h9 => absurd (T0.symm.trans h9) (by omega))), (show tkNv vmtf (vosz : Int32).toInt (volm : Int32).toInt (voto : Int32).toInt vonu from (fun h9 => absurd (T0.symm.trans h9) (by omega))), (show (voto : Int32).toInt ≤ (x_2 : Int32).toInt from (by omega)), (show (x_2 : Int32).toInt ≤ (vosz : Int32).toInt from (by omega))⟩ (hP.sub [0, 1] rfl) (hD.sub [0, 1] rfl rfl) hS dX11_go_95
  have loop84 : ∀ (n84 : Nat) (x_85 : Int32), (0 ≤ x_85.toInt ∧ x_85.toInt ≤ 940) → (tksk vmtf vosz.toInt x_85.toInt = tksk vmtf vosz.toInt voto.toInt) → (voto.toInt ≤ x_85.toInt) → (x_85.toInt ≤ vosz.toInt) → 940 - x_85.toInt < (n84 : Int) → ∀ (H : Heap) (locs : List Loc), va_P (dC, dI) vwCl [(vo, .inr (12, [.int voth, .ref vmt, .int votp, .int vosz, .int volm, .int x_85, .int vofr, .int vokd, .int vonu, .int vosg, .int vofa, .int vopl, .long vowd, .int votd, .ref vmn, .ref vmr, .ref vmk, .ref vms, .ref vma, .ref vmm, .ref vmrn, .ref vmkn, .ref vmik, .ref vmon, .int vosm, .int vohp, .ref vmw, .ref vmf, .ref vmb, .int vomb, .ref vmd, .ref vmc, .int vocm, .int voct, .int vocy, .ref vmx, .int votx, .int vose, .ref vml, .ref vmwr, .int voln, .int vohw, .ref vmno, .int vond, .int voon, .int vowi, .int votop])), (vmt, .inl (cy 0, 940, .inl vmtf))] H → va_D A [(vo, .inr (12, [.int voth, .ref vmt, .int votp, .int vosz, .int volm, .int x_85, .int vofr, .int vokd, .int vonu, .int vosg, .int vofa, .int vopl, .long vowd, .int votd, .ref vmn, .ref vmr, .ref vmk, .ref vms, .ref vma, .ref vmm, .ref vmrn, .ref vmkn, .ref vmik, .ref vmon, .int vosm, .int vohp, .ref vmw, .ref vmf, .ref vmb, .int vomb, .ref vmd, .ref vmc, .int vocm, .int voct, .int vocy, .ref vmx, .int votx, .int vose, .ref vml, .ref vmwr, .int voln, .int vohw, .ref vmno, .int vond, .int voon, .int vowi, .int votop])), (vmt, .inl (cy 0, 940, .inl vmtf))] → va_S A s.heap H locs → ∀ ls : Array Slot, lv_has ls 5 [(0, .ref vo)] → W p l e ({ frames := 1, cells := 0, slots := 0, locals := 64 }) s m av9 below meth c H locs 0 0 Q9 (F0 m 0 ls []) := by
    intro n84
    induction n84 with
    | zero =>
      intro x_85 bx_85 v84_0 v84_1 v84_2 hn84 H locs hP hD hS ls hl
      exfalso; omega
    | succ n84 ih84 =>
      intro x_85 bx_85 v84_0 v84_1 v84_2 hn84 H locs hP hD hS ls hl
      refine lv_aload_n hx hb dX11_go_0 rfl (lv_at hl 0 rfl) ?_
      refine gf_X11_21 hx hb hts hown hK hP 0 rfl rfl dX11_go_1 ?_
      refine lv_aload_n hx hb dX11_go_4 rfl (lv_at hl 0 rfl) ?_
      refine gf_X11_18 hx hb hts hown hK hP 0 rfl rfl dX11_go_5 ?_
      refine lv_icmp_ge (tgt := 52) hx hb dX11_go_8 (by decide) (fun c_86 => ?_) (fun c_86 => ?_)
      · skip
        have c_86 : vosz.toInt ≤ x_85.toInt := i_le.mp c_86
        exact join1 x_85 ⟨by omega, by omega⟩ (Eq.trans v84_0.symm (tksk_at (b := vmtf) (n := vosz.toInt) (a := x_85.toInt) (by omega))) (by omega) (by omega) _ _ (hP.sub [0, 1] rfl) (hD.sub [0, 1] rfl rfl) hS ls (lv_sub hl [0] rfl)
      · skip
        have c_86 : ¬ (vosz.toInt ≤ x_85.toInt) := fun h9 => c_86 (i_le.mpr h9)
        refine lv_aload_n hx hb dX11_go_11 rfl (lv_at hl 0 rfl) ?_
        refine gf_X11_7 hx hb hts hown hK hP 0 rfl rfl dX11_go_12 ?_
        refine lv_aload_n hx hb dX11_go_15 rfl (lv_at hl 0 rfl) ?_
        refine gf_X11_21 hx hb hts hown hK hP 0 rfl rfl dX11_go_16 ?_
        have hin_87 : vp_in x_85 940 := vp_in_iff.mpr ⟨by omega, by omega⟩
        refine va_iald hx hb hK hP 1 0 rfl rfl hin_87 dX11_go_19 ?_
        refine lv_topi (fun z_88 ez_88 => ?_)
        have bz_88 := p_vmtf.at hin_87 ez_88
        refine lv_bipush (v := 32) hx hb dX11_go_20 (by decide) ?_
        have k_32 : (32 : Int32).toInt = 32 := by decide
        refine lv_icmp_eq (tgt := 39) hx hb dX11_go_22 (by decide) (fun c_89 => ?_) (fun c_89 => ?_)
        · skip
          have c_89 : z_88.toInt = (32 : Int32).toInt := i_eq.mp c_89
          refine lv_aload_n hx hb dX11_go_39 rfl (lv_at hl 0 rfl) ?_
          refine lv_dup hx hb dX11_go_40 rfl ?_
          refine gf_X11_21 hx hb hts hown hK hP 0 rfl rfl dX11_go_41 ?_
          refine lv_iconst (v := 1) hx hb dX11_go_44 (by decide) ?_
          refine lv_iadd hx hb dX11_go_45 ?_
          refine lv_topi (fun z_90 ez_90 => ?_)
          have k_1 : (1 : Int32).toInt = 1 := by decide
          have bz_90 : z_90.toInt = x_85.toInt + (1 : Int32).toInt := i_add ez_90 (by omega) (by omega)
          refine pf_X11_21 hx hb hts hown hK hP hD hS 0 rfl rfl rfl (Nat.le_of_ble_eq_true rfl) dX11_go_46 (fun H locs hP hD hS => ?_)
          have hP : va_P (dC, dI) vwCl [(vo, .inr (12, [.int voth, .ref vmt, .int votp, .int vosz, .int volm, .int z_90, .int vofr, .int vokd, .int vonu, .int vosg, .int vofa, .int vopl, .long vowd, .int votd, .ref vmn, .ref vmr, .ref vmk, .ref vms, .ref vma, .ref vmm, .ref vmrn, .ref vmkn, .ref vmik, .ref vmon, .int vosm, .int vohp, .ref vmw, .ref vmf, .ref vmb, .int vomb, .ref vmd, .ref vmc, .int vocm, .int voct, .int vocy, .ref vmx, .int votx, .int vose, .ref vml, .ref vmwr, .int voln, .int vohw, .ref vmno, .int vond, .int voon, .int vowi, .int votop])), (vmt, .inl (cy 0, 940, .inl vmtf))] H := hP
          have hD : va_D A [(vo, .inr (12, [.int voth, .ref vmt, .int votp, .int vosz, .int volm, .int z_90, .int vofr, .int vokd, .int vonu, .int vosg, .int vofa, .int vopl, .long vowd, .int votd, .ref vmn, .ref vmr, .ref vmk, .ref vms, .ref vma, .ref vmm, .ref vmrn, .ref vmkn, .ref vmik, .ref vmon, .int vosm, .int vohp, .ref vmw, .ref vmf, .ref vmb, .int vomb, .ref vmd, .ref vmc, .int vocm, .int voct, .int vocy, .ref vmx, .int votx, .int vose, .ref vml, .ref vmwr, .int voln, .int vohw, .ref vmno, .int vond, .int voon, .int vowi, .int votop])), (vmt, .inl (cy 0, 940, .inl vmtf))] := hD
          refine lv_goto (tgt := 0) hx hb dX11_go_49 (by decide) ?_
          exact ih84 z_90 ⟨by omega, by omega⟩ (Eq.trans (congrArg (fun q9 => tksk vmtf vosz.toInt q9) (show z_90.toInt = x_85.toInt + 1 by omega)) (Eq.trans (tksk_go (b := vmtf) (show x_85.toInt < vosz.toInt by omega) (by have := tkb_of ez_88; omega)) v84_0)) (by omega) (by omega) (by omega) _ _ (hP.sub [0, 1] rfl) (hD.sub [0, 1] rfl rfl) hS ls (lv_sub hl [0] rfl)
        · skip
          have c_89 : ¬ (z_88.toInt = (32 : Int32).toInt) := fun h9 => c_89 (i_eq.mpr h9)
          refine lv_aload_n hx hb dX11_go_25 rfl (lv_at hl 0 rfl) ?_
          refine gf_X11_7 hx hb hts hown hK hP 0 rfl rfl dX11_go_26 ?_
          refine lv_aload_n hx hb dX11_go_29 rfl (lv_at hl 0 rfl) ?_
          refine gf_X11_21 hx hb hts hown hK hP 0 rfl rfl dX11_go_30 ?_
          have hin_91 : vp_in x_85 940 := vp_in_iff.mpr ⟨by omega, by omega⟩
          refine va_iald hx hb hK hP 1 0 rfl rfl hin_91 dX11_go_33 ?_
          refine lv_topi (fun z_92 ez_92 => ?_)
          have bz_92 := p_vmtf.at hin_91 ez_92
          refine lv_bipush (v := 10) hx hb dX11_go_34 (by decide) ?_
          have k_10 : (10 : Int32).toInt = 10 := by decide
          refine lv_icmp_ne (tgt := 52) hx hb dX11_go_36 (by decide) (fun c_93 => ?_) (fun c_93 => ?_)
          · skip
            have c_93 : ¬ (z_92.toInt = (10 : Int32).toInt) := fun h9 => c_93 (i_eq.mpr h9)
            exact join1 x_85 ⟨by omega, by omega⟩ (Eq.trans v84_0.symm (tksk_at (b := vmtf) (n := vosz.toInt) (a := x_85.toInt) (by have := tkb_of ez_88; have := tkb_of ez_92; omega))) (by omega) (by omega) _ _ (hP.sub [0, 1] rfl) (hD.sub [0, 1] rfl rfl) hS ls (lv_sub hl [0] rfl)
          · skip
            have c_93 : z_92.toInt = (10 : Int32).toInt := i_eq.mp c_93
            refine lv_aload_n hx hb dX11_go_39 rfl (lv_at hl 0 rfl) ?_
            refine lv_dup hx hb dX11_go_40 rfl ?_
            refine gf_X11_21 hx hb hts hown hK hP 0 rfl rfl dX11_go_41 ?_
            refine lv_iconst (v := 1) hx hb dX11_go_44 (by decide) ?_
            refine lv_iadd hx hb dX11_go_45 ?_
            refine lv_topi (fun z_94 ez_94 => ?_)
            have k_1 : (1 : Int32).toInt = 1 := by decide
            have bz_94 : z_94.toInt = x_85.toInt + (1 : Int32).toInt := i_add ez_94 (by omega) (by omega)
            refine pf_X11_21 hx hb hts hown hK hP hD hS 0 rfl rfl rfl (Nat.le_of_ble_eq_true rfl) dX11_go_46 (fun H locs hP hD hS => ?_)
            have hP : va_P (dC, dI) vwCl [(vo, .inr (12, [.int voth, .ref vmt, .int votp, .int vosz, .int volm, .int z_94, .int vofr, .int vokd, .int vonu, .int vosg, .int vofa, .int vopl, .long vowd, .int votd, .ref vmn, .ref vmr, .ref vmk, .ref vms, .ref vma, .ref vmm, .ref vmrn, .ref vmkn, .ref vmik, .ref vmon, .int vosm, .int vohp, .ref vmw, .ref vmf, .ref vmb, .int vomb, .ref vmd, .ref vmc, .int vocm, .int voct, .int vocy, .ref vmx, .int votx, .int vose, .ref vml, .ref vmwr, .int voln, .int vohw, .ref vmno, .int vond, .int voon, .int vowi, .int votop])), (vmt, .inl (cy 0, 940, .inl vmtf))] H := hP
            have hD : va_D A [(vo, .inr (12, [.int voth, .ref vmt, .int votp, .int vosz, .int volm, .int z_94, .int vofr, .int vokd, .int vonu, .int vosg, .int vofa, .int vopl, .long vowd, .int votd, .ref vmn, .ref vmr, .ref vmk, .ref vms, .ref vma, .ref vmm, .ref vmrn, .ref vmkn, .ref vmik, .ref vmon, .int vosm, .int vohp, .ref vmw, .ref vmf, .ref vmb, .int vomb, .ref vmd, .ref vmc, .int vocm, .int voct, .int vocy, .ref vmx, .int votx, .int vose, .ref vml, .ref vmwr, .int voln, .int vohw, .ref vmno, .int vond, .int voon, .int vowi, .int votop])), (vmt, .inl (cy 0, 940, .inl vmtf))] := hD
            refine lv_goto (tgt := 0) hx hb dX11_go_49 (by decide) ?_
            exact ih84 z_94 ⟨by omega, by omega⟩ (Eq.trans (congrArg (fun q9 => tksk vmtf vosz.toInt q9) (show z_94.toInt = x_85.toInt + 1 by omega)) (Eq.trans (tksk_go (b := vmtf) (show x_85.toInt < vosz.toInt by omega) (by have := tkb_of ez_88; have := tkb_of ez_92; omega)) v84_0)) (by omega) (by omega) (by omega) _ _ (hP.sub [0, 1] rfl) (hD.sub [0, 1] rfl rfl) hS ls (lv_sub hl [0] rfl)
  exact loop84 ((940 - voto.toInt).toNat + 1) voto ⟨by omega, by omega⟩ rfl (by omega) (by omega) (by omega) _ _ hP hD hS ls (lv_sub hl [0] rfl)
