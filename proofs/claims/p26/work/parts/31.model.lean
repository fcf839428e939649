abbrev cX11_sentence : ByteArray := prog_13_method_126_code
def yX11_sentence : MethodName := ⟨RX11, "sentence", "()I"⟩
theorem t2018 : Cond.code yX11_sentence cX11_sentence 2 (some .int) ∈ GW := gw_mem 2132 (by decide +kernel) (by decide +kernel)
abbrev O_m_sentence (cy : Nat → ClassId) (vnh : Nat → Int32) (vo : Nat) (voth : Int32) (vmt : Nat) (votp : Int32) (vosz : Int32) (volm : Int32) (voto : Int32) (vofr : Int32) (vokd : Int32) (vonu : Int32) (vosg : Int32) (vofa : Int32) (vopl : Int32) (vowd : Int64) (votd : Int32) (vmn : Nat) (vmr : Nat) (vmk : Nat) (vms : Nat) (vma : Nat) (vmm : Nat) (vmrn : Nat) (vmkn : Nat) (vmik : Nat) (vmon : Nat) (vosm : Int32) (vohp : Int32) (vmw : Nat) (vmf : Nat) (vmb : Nat) (vomb : Int32) (vmd : Nat) (vmc : Nat) (vocm : Int32) (voct : Int32) (vocy : Int32) (vmx : Nat) (votx : Int32) (vose : Int32) (vml : Nat) (vmwr : Nat) (voln : Int32) (vohw : Int32) (vmno : Nat) (vond : Int32) (voon : Int32) (vowi : Int32) (votop : Int32) (vmtf : Nat → Int32) (vmnf : Nat → Int32) (vmmf : Nat → Int64) (vmnof : Nat → Int32) (u : Int32 × Int32 × Int32 × Int32 × Int32 × Int32 × Int32 × Int32 × Int64 × Int32 × Int32 × Int32 × Int32 × (Nat → Int32) × Int32 × Int32 × Int32 × Int32 × (Nat → Int32)) : va_W := [(vo, .inr (12, [.int u.1, .ref vmt, .int u.2.1, .int u.2.2.1, .int u.2.2.2.1, .int u.2.2.2.2.1, .int u.2.2.2.2.2.1, .int u.2.2.2.2.2.2.1, .int u.2.2.2.2.2.2.2.2.2.1, .int u.2.2.2.2.2.2.2.1, .int u.2.2.2.2.2.2.2.2.2.2.1, .int u.2.2.2.2.2.2.2.2.2.2.2.1, .long u.2.2.2.2.2.2.2.2.1, .int u.2.2.2.2.2.2.2.2.2.2.2.2.1, .ref vmn, .ref vmr, .ref vmk, .ref vms, .ref vma, .ref vmm, .ref vmrn, .ref vmkn, .ref vmik, .ref vmon, .int vosm, .int vohp, .ref vmw, .ref vmf, .ref vmb, .int vomb, .ref vmd, .ref vmc, .int vocm, .int voct, .int vocy, .ref vmx, .int votx, .int vose, .ref vml, .ref vmwr, .int voln, .int vohw, .ref vmno, .int u.2.2.2.2.2.2.2.2.2.2.2.2.2.2.1, .int u.2.2.2.2.2.2.2.2.2.2.2.2.2.2.2.1, .int u.2.2.2.2.2.2.2.2.2.2.2.2.2.2.2.2.2.1, .int u.2.2.2.2.2.2.2.2.2.2.2.2.2.2.2.2.1])), (vmt, .inl (cy 0, 940, .inl vmtf)), (vmn, .inl (cy 0, 575, .inl u.2.2.2.2.2.2.2.2.2.2.2.2.2.2.2.2.2.2)), (vmm, .inl (cy 1, 17, .inr (.inl vmmf))), (vmno, .inl (cy 0, 240, .inl u.2.2.2.2.2.2.2.2.2.2.2.2.2.1))]
theorem dX11_sentence_0 : decode cX11_sentence 0 = .ok (.aload_n 0, 1) := by decide +kernel
theorem dX11_sentence_1 : decode cX11_sentence 1 = .ok (.sipush 200, 3) := by decide +kernel
theorem dX11_sentence_4 : decode cX11_sentence 4 = .ok (.invokevirtual 216, 3) := by decide +kernel
theorem dX11_sentence_7 : decode cX11_sentence 7 = .ok (.aload_n 0, 1) := by decide +kernel
theorem dX11_sentence_8 : decode cX11_sentence 8 = .ok (.iconst 0, 1) := by decide +kernel
theorem dX11_sentence_9 : decode cX11_sentence 9 = .ok (.putfield 402, 3) := by decide +kernel
theorem dX11_sentence_12 : decode cX11_sentence 12 = .ok (.aload_n 0, 1) := by decide +kernel
theorem dX11_sentence_13 : decode cX11_sentence 13 = .ok (.iconst 0, 1) := by decide +kernel
theorem dX11_sentence_14 : decode cX11_sentence 14 = .ok (.putfield 417, 3) := by decide +kernel
theorem dX11_sentence_17 : decode cX11_sentence 17 = .ok (.aload_n 0, 1) := by decide +kernel
theorem dX11_sentence_18 : decode cX11_sentence 18 = .ok (.iconst 0, 1) := by decide +kernel
theorem dX11_sentence_19 : decode cX11_sentence 19 = .ok (.putfield 420, 3) := by decide +kernel
theorem dX11_sentence_22 : decode cX11_sentence 22 = .ok (.aload_n 0, 1) := by decide +kernel
theorem dX11_sentence_23 : decode cX11_sentence 23 = .ok (.invokevirtual 435, 3) := by decide +kernel
theorem dX11_sentence_26 : decode cX11_sentence 26 = .ok (.ifCond .ne 10, 3) := by decide +kernel
theorem dX11_sentence_29 : decode cX11_sentence 29 = .ok (.iconst (-1), 1) := by decide +kernel
theorem dX11_sentence_30 : decode cX11_sentence 30 = .ok (.aload_n 0, 1) := by decide +kernel
theorem dX11_sentence_31 : decode cX11_sentence 31 = .ok (.getfield 69, 3) := by decide +kernel
theorem dX11_sentence_34 : decode cX11_sentence 34 = .ok (.isub, 1) := by decide +kernel
theorem dX11_sentence_35 : decode cX11_sentence 35 = .ok (.ireturn, 1) := by decide +kernel
theorem dX11_sentence_36 : decode cX11_sentence 36 = .ok (.aload_n 0, 1) := by decide +kernel
theorem dX11_sentence_37 : decode cX11_sentence 37 = .ok (.getfield 30, 3) := by decide +kernel
theorem dX11_sentence_40 : decode cX11_sentence 40 = .ok (.ifCond .eq 16, 3) := by decide +kernel
theorem dX11_sentence_56 : decode cX11_sentence 56 = .ok (.aload_n 0, 1) := by decide +kernel
theorem dX11_sentence_57 : decode cX11_sentence 57 = .ok (.getfield 98, 3) := by decide +kernel
theorem dX11_sentence_60 : decode cX11_sentence 60 = .ok (.sipush 333, 3) := by decide +kernel
theorem dX11_sentence_63 : decode cX11_sentence 63 = .ok (.iconst 1, 1) := by decide +kernel
theorem dX11_sentence_64 : decode cX11_sentence 64 = .ok (.iastore, 1) := by decide +kernel
theorem dX11_sentence_65 : decode cX11_sentence 65 = .ok (.aload_n 0, 1) := by decide +kernel
theorem dX11_sentence_66 : decode cX11_sentence 66 = .ok (.getfield 98, 3) := by decide +kernel
theorem dX11_sentence_69 : decode cX11_sentence 69 = .ok (.sipush 334, 3) := by decide +kernel
theorem dX11_sentence_72 : decode cX11_sentence 72 = .ok (.aload_n 0, 1) := by decide +kernel
theorem dX11_sentence_73 : decode cX11_sentence 73 = .ok (.getfield 408, 3) := by decide +kernel
theorem dX11_sentence_76 : decode cX11_sentence 76 = .ok (.iastore, 1) := by decide +kernel
theorem dX11_sentence_77 : decode cX11_sentence 77 = .ok (.iconst 0, 1) := by decide +kernel
theorem dX11_sentence_78 : decode cX11_sentence 78 = .ok (.istore_n 1, 1) := by decide +kernel
theorem dX11_sentence_79 : decode cX11_sentence 79 = .ok (.iload_n 1, 1) := by decide +kernel
theorem dX11_sentence_80 : decode cX11_sentence 80 = .ok (.sipush 240, 3) := by decide +kernel
theorem dX11_sentence_83 : decode cX11_sentence 83 = .ok (.if_icmp .ge 25, 3) := by decide +kernel
theorem dX11_sentence_108 : decode cX11_sentence 108 = .ok (.aload_n 0, 1) := by decide +kernel
theorem dX11_sentence_109 : decode cX11_sentence 109 = .ok (.getfield 417, 3) := by decide +kernel
theorem dX11_sentence_112 : decode cX11_sentence 112 = .ok (.ireturn, 1) := by decide +kernel
theorem dX11_sentence_86 : decode cX11_sentence 86 = .ok (.aload_n 0, 1) := by decide +kernel
theorem dX11_sentence_87 : decode cX11_sentence 87 = .ok (.getfield 98, 3) := by decide +kernel
theorem dX11_sentence_90 : decode cX11_sentence 90 = .ok (.sipush 335, 3) := by decide +kernel
theorem dX11_sentence_93 : decode cX11_sentence 93 = .ok (.iload_n 1, 1) := by decide +kernel
theorem dX11_sentence_94 : decode cX11_sentence 94 = .ok (.iadd, 1) := by decide +kernel
theorem dX11_sentence_95 : decode cX11_sentence 95 = .ok (.aload_n 0, 1) := by decide +kernel
theorem dX11_sentence_96 : decode cX11_sentence 96 = .ok (.getfield 157, 3) := by decide +kernel
theorem dX11_sentence_99 : decode cX11_sentence 99 = .ok (.iload_n 1, 1) := by decide +kernel
theorem dX11_sentence_100 : decode cX11_sentence 100 = .ok (.iaload, 1) := by decide +kernel
theorem dX11_sentence_101 : decode cX11_sentence 101 = .ok (.iastore, 1) := by decide +kernel
theorem dX11_sentence_102 : decode cX11_sentence 102 = .ok (.iinc 1 1, 3) := by decide +kernel
theorem dX11_sentence_105 : decode cX11_sentence 105 = .ok (.goto (-26), 3) := by decide +kernel
theorem dX11_sentence_43 : decode cX11_sentence 43 = .ok (.aload_n 0, 1) := by decide +kernel
theorem dX11_sentence_44 : decode cX11_sentence 44 = .ok (.iconst 1, 1) := by decide +kernel
theorem dX11_sentence_45 : decode cX11_sentence 45 = .ok (.invokevirtual 72, 3) := by decide +kernel
theorem dX11_sentence_48 : decode cX11_sentence 48 = .ok (.pop, 1) := by decide +kernel
theorem dX11_sentence_49 : decode cX11_sentence 49 = .ok (.iconst (-1), 1) := by decide +kernel
theorem dX11_sentence_50 : decode cX11_sentence 50 = .ok (.aload_n 0, 1) := by decide +kernel
theorem dX11_sentence_51 : decode cX11_sentence 51 = .ok (.getfield 69, 3) := by decide +kernel
theorem dX11_sentence_54 : decode cX11_sentence 54 = .ok (.isub, 1) := by decide +kernel
theorem dX11_sentence_55 : decode cX11_sentence 55 = .ok (.ireturn, 1) := by decide +kernel
set_option maxHeartbeats 4000000 in
set_option maxRecDepth 100000 in
theorem m_sentence (l : Launch) (dC : Nat → ClassId) (dI : Nat → Nat → Nat) (cy : Nat → ClassId) (sz : Nat) (vnh : Nat → Int32) (vo : Nat) (voth : Int32) (vmt : Nat) (votp : Int32) (vosz : Int32) (volm : Int32) (voto : Int32) (vofr : Int32) (vokd : Int32) (vonu : Int32) (vosg : Int32) (vofa : Int32) (vopl : Int32) (vowd : Int64) (votd : Int32) (vmn : Nat) (vmr : Nat) (vmk : Nat) (vms : Nat) (vma : Nat) (vmm : Nat) (vmrn : Nat) (vmkn : Nat) (vmik : Nat) (vmon : Nat) (vosm : Int32) (vohp : Int32) (vmw : Nat) (vmf : Nat) (vmb : Nat) (vomb : Int32) (vmd : Nat) (vmc : Nat) (vocm : Int32) (voct : Int32) (vocy : Int32) (vmx : Nat) (votx : Int32) (vose : Int32) (vml : Nat) (vmwr : Nat) (voln : Int32) (vohw : Int32) (vmno : Nat) (vond : Int32) (voon : Int32) (vowi : Int32) (votop : Int32) (vmtf : Nat → Int32) (vmnf : Nat → Int32) (vmmf : Nat → Int64) (vmnof : Nat → Int32) (r_votp : 0 ≤ (votp : Int32).toInt ∧ (votp : Int32).toInt ≤ 940) (r_votd : -1 ≤ (votd : Int32).toInt ∧ (votd : Int32).toInt ≤ 999) (p_vmtf : Rg vmtf 940 0 255) (p_vmnf : NW vnh vmnf) (hnk : NK vmnof) : Met l yX11_sentence (wl yX11_sentence cX11_sentence 2 (some .int)) ({ frames := 60, cells := 0, slots := 0, locals := 3840 }) (Pw (dC, dI) vwCl cy [(vo, .inr (12, [.int voth, .ref vmt, .int votp, .int vosz, .int volm, .int voto, .int vofr, .int vokd, .int vonu, .int vosg, .int vofa, .int vopl, .long vowd, .int votd, .ref vmn, .ref vmr, .ref vmk, .ref vms, .ref vma, .ref vmm, .ref vmrn, .ref vmkn, .ref vmik, .ref vmon, .int vosm, .int vohp, .ref vmw, .ref vmf, .ref vmb, .int vomb, .ref vmd, .ref vmc, .int vocm, .int voct, .int vocy, .ref vmx, .int votx, .int vose, .ref vml, .ref vmwr, .int voln, .int vohw, .ref vmno, .int vond, .int voon, .int vowi, .int votop])), (vmt, .inl (cy 0, 940, .inl vmtf)), (vmn, .inl (cy 0, 575, .inl vmnf)), (vmm, .inl (cy 1, 17, .inr (.inl vmmf))), (vmno, .inl (cy 0, 240, .inl vmnof))] sz [.ref vo] nE) (Qi (dC, dI) vwCl (fun (r : Int32) (u : Int32 × Int32 × Int32 × Int32 × Int32 × Int32 × Int32 × Int32 × Int64 × Int32 × Int32 × Int32 × Int32 × (Nat → Int32) × Int32 × Int32 × Int32 × Int32 × (Nat → Int32)) => (0 ≤ (u.2.1 : Int32).toInt ∧ (u.2.1 : Int32).toInt ≤ 0) ∧ (-1 ≤ (u.2.2.2.2.2.2.2.2.2.2.2.2.1 : Int32).toInt ∧ (u.2.2.2.2.2.2.2.2.2.2.2.2.1 : Int32).toInt ≤ 999) ∧ (NW vnh u.2.2.2.2.2.2.2.2.2.2.2.2.2.2.2.2.2.2) ∧ (NK u.2.2.2.2.2.2.2.2.2.2.2.2.2.1)) (O_m_sentence cy vnh vo voth vmt votp vosz volm voto vofr vokd vonu vosg vofa vopl vowd votd vmn vmr vmk vms vma vmm vmrn vmkn vmik vmon vosm vohp vmw vmf vmb vomb vmd vmc vocm voct vocy vmx votx vose vml vmwr voln vohw vmno vond voon vowi votop vmtf vmnf vmmf vmnof) (va_A [(vo, .inr (12, [.int voth, .ref vmt, .int votp, .int vosz, .int volm, .int voto, .int vofr, .int vokd, .int vonu, .int vosg, .int vofa, .int vopl, .long vowd, .int votd, .ref vmn, .ref vmr, .ref vmk, .ref vms, .ref vma, .ref vmm, .ref vmrn, .ref vmkn, .ref vmik, .ref vmon, .int vosm, .int vohp, .ref vmw, .ref vmf, .ref vmb, .int vomb, .ref vmd, .ref vmc, .int vocm, .int voct, .int vocy, .ref vmx, .int votx, .int vose, .ref vml, .ref vmwr, .int voln, .int vohw, .ref vmno, .int vond, .int voon, .int vowi, .int votop])), (vmt, .inl (cy 0, 940, .inl vmtf)), (vmn, .inl (cy 0, 575, .inl vmnf)), (vmm, .inl (cy 1, 17, .inr (.inl vmmf))), (vmno, .inl (cy 0, 240, .inl vmnof))] sz)) 0 0 (va_A [(vo, .inr (12, [.int voth, .ref vmt, .int votp, .int vosz, .int volm, .int voto, .int vofr, .int vokd, .int vonu, .int vosg, .int vofa, .int vopl, .long vowd, .int votd, .ref vmn, .ref vmr, .ref vmk, .ref vms, .ref vma, .ref vmm, .ref vmrn, .ref vmkn, .ref vmik, .ref vmon, .int vosm, .int vohp, .ref vmw, .ref vmf, .ref vmb, .int vomb, .ref vmd, .ref vmc, .int vocm, .int voct, .int vocy, .ref vmx, .int votx, .int vose, .ref vml, .ref vmwr, .int voln, .int vohw, .ref vmno, .int vond, .int voon, .int vowi, .int votop])), (vmt, .inl (cy 0, 940, .inl vmtf)), (vmn, .inl (cy 0, 575, .inl vmnf)), (vmm, .inl (cy 1, 17, .inr (.inl vmmf))), (vmno, .inl (cy 0, 240, .inl vmnof))] sz) := by
  refine mw (Qc := Qi (dC, dI) vwCl (fun (r : Int32) (u : Int32 × Int32 × Int32 × Int32 × Int32 × Int32 × Int32 × Int32 × Int64 × Int32 × Int32 × Int32 × Int32 × (Nat → Int32) × Int32 × Int32 × Int32 × Int32 × (Nat → Int32)) => (0 ≤ (u.2.1 : Int32).toInt ∧ (u.2.1 : Int32).toInt ≤ 0) ∧ (-1 ≤ (u.2.2.2.2.2.2.2.2.2.2.2.2.1 : Int32).toInt ∧ (u.2.2.2.2.2.2.2.2.2.2.2.2.1 : Int32).toInt ≤ 999) ∧ (NW vnh u.2.2.2.2.2.2.2.2.2.2.2.2.2.2.2.2.2.2) ∧ (NK u.2.2.2.2.2.2.2.2.2.2.2.2.2.1)) (O_m_sentence cy vnh vo voth vmt votp vosz volm voto vofr vokd vonu vosg vofa vopl vowd votd vmn vmr vmk vms vma vmm vmrn vmkn vmik vmon vosm vohp vmw vmf vmb vomb vmd vmc vocm voct vocy vmx votx vose vml vmwr voln vohw vmno vond voon vowi votop vmtf vmnf vmmf vmnof)) RX11 rfl (by decide +kernel) (Nat.le_of_ble_eq_true rfl) ?_
  intro p e s m below meth c A hx hb hr hlocks av9 hav hts hown hnm hml hK hP hD hA hS hE hAe Q9 hQ9 ls hl
  have hl : lv_has ls 2 [(0, .ref vo)] := hl
  refine lv_aload_n hx hb dX11_sentence_0 rfl (lv_at hl 0 rfl) ?_
  refine lv_sipush (v := 200) hx hb dX11_sentence_1 (by decide) ?_
  have k_200 : (200 : Int32).toInt = 200 := by decide
  refine jn_v (wr := [(vmn, .inl (cy 0, 575, .inl vmnf)), (vmm, .inl (cy 1, 17, .inr (.inl vmmf))), (vmno, .inl (cy 0, 240, .inl vmnof))]) (rV (As := [.int 200]) (rest := []) (ci := 12) ⟨hx, hb, hml, hown, hts⟩ (m_begin l dC dI cy _ vo voth vmt votp vosz volm voto vofr vokd vonu vosg vofa vopl vowd votd vmn vmr vmk vms vma vmm vmrn vmkn vmik vmon vosm vohp vmw vmf vmb vomb vmd vmc vocm voct vocy vmx votx vose vml vmwr voln vohw vmno vond voon vowi votop vmtf 200 r_votp p_vmtf) (cw_X11_216 hts rfl rfl ⟨Nat.le_of_ble_eq_true rfl, Nat.le_of_ble_eq_true rfl⟩) hP hD hK [0, 1] rfl rfl rfl rfl bl0 e0 rfl hl.1 rfl (Nat.le_of_ble_eq_true rfl) dX11_sentence_4 ⟨Nat.le_of_ble_eq_true rfl, Nat.le_of_ble_eq_true rfl⟩) hP hD hS hA [0, 1] [2, 3, 4] rfl rfl rfl (by decide) (fun u_3 H locs hp_2 hP hD hS => ?_)
  obtain ⟨voto_4, vofr_5, vokd_6, vosg_7, vowd_8, vonu_9, vofa_10, voth_11, votp_12, vosz_13, volm_14⟩ := u_3
  have hp_2 : (0 ≤ (voto_4 : Int32).toInt ∧ (voto_4 : Int32).toInt ≤ 940) ∧ (0 ≤ (votp_12 : Int32).toInt ∧ (votp_12 : Int32).toInt ≤ 0) ∧ (0 ≤ (vosz_13 : Int32).toInt ∧ (vosz_13 : Int32).toInt ≤ 940) := hp_2
  obtain ⟨q_15, q_16, q_17⟩ := hp_2
  have hP : va_P (dC, dI) vwCl [(vmn, .inl (cy 0, 575, .inl vmnf)), (vmm, .inl (cy 1, 17, .inr (.inl vmmf))), (vmno, .inl (cy 0, 240, .inl vmnof)), (vo, .inr (12, [.int voth_11, .ref vmt, .int votp_12, .int vosz_13, .int volm_14, .int voto_4, .int vofr_5, .int vokd_6, .int vonu_9, .int vosg_7, .int vofa_10, .int vopl, .long vowd_8, .int votd, .ref vmn, .ref vmr, .ref vmk, .ref vms, .ref vma, .ref vmm, .ref vmrn, .ref vmkn, .ref vmik, .ref vmon, .int vosm, .int vohp, .ref vmw, .ref vmf, .ref vmb, .int vomb, .ref vmd, .ref vmc, .int vocm, .int voct, .int vocy, .ref vmx, .int votx, .int vose, .ref vml, .ref vmwr, .int voln, .int vohw, .ref vmno, .int vond, .int voon, .int vowi, .int votop])), (vmt, .inl (cy 0, 940, .inl vmtf))] H := hP
  have hD : va_D A [(vmn, .inl (cy 0, 575, .inl vmnf)), (vmm, .inl (cy 1, 17, .inr (.inl vmmf))), (vmno, .inl (cy 0, 240, .inl vmnof)), (vo, .inr (12, [.int voth_11, .ref vmt, .int votp_12, .int vosz_13, .int volm_14, .int voto_4, .int vofr_5, .int vokd_6, .int vonu_9, .int vosg_7, .int vofa_10, .int vopl, .long vowd_8, .int votd, .ref vmn, .ref vmr, .ref vmk, .ref vms, .ref vma, .ref vmm, .ref vmrn, .ref vmkn, .ref vmik, .ref vmon, .int vosm, .int vohp, .ref vmw, .ref vmf, .ref vmb, .int vomb, .ref vmd, .ref vmc, .int vocm, .int voct, .int vocy, .ref vmx, .int votx, .int vose, .ref vml, .ref vmwr, .int voln, .int vohw, .ref vmno, .int vond, .int voon, .int vowi, .int votop])), (vmt, .inl (cy 0, 940, .inl vmtf))] := hD
  refine lv_aload_n hx hb dX11_sentence_7 rfl (lv_at hl 0 rfl) ?_
  refine lv_iconst (v := 0) hx hb dX11_sentence_8 (by decide) ?_
  refine pf_X11_402 hx hb hts hown hK hP hD hS 3 rfl rfl rfl (Nat.le_of_ble_eq_true rfl) dX11_sentence_9 (fun H locs hP hD hS => ?_)
  have hP : va_P (dC, dI) vwCl [(vmn, .inl (cy 0, 575, .inl vmnf)), (vmm, .inl (cy 1, 17, .inr (.inl vmmf))), (vmno, .inl (cy 0, 240, .inl vmnof)), (vo, .inr (12, [.int voth_11, .ref vmt, .int votp_12, .int vosz_13, .int volm_14, .int voto_4, .int vofr_5, .int vokd_6, .int vonu_9, .int vosg_7, .int vofa_10, .int vopl, .long vowd_8, .int votd, .ref vmn, .ref vmr, .ref vmk, .ref vms, .ref vma, .ref vmm, .ref vmrn, .ref vmkn, .ref vmik, .ref vmon, .int vosm, .int vohp, .ref vmw, .ref vmf, .ref vmb, .int vomb, .ref vmd, .ref vmc, .int vocm, .int voct, .int vocy, .ref vmx, .int votx, .int vose, .ref vml, .ref vmwr, .int voln, .int vohw, .ref vmno, .int 0, .int voon, .int vowi, .int votop])), (vmt, .inl (cy 0, 940, .inl vmtf))] H := hP
  have hD : va_D A [(vmn, .inl (cy 0, 575, .inl vmnf)), (vmm, .inl (cy 1, 17, .inr (.inl vmmf))), (vmno, .inl (cy 0, 240, .inl vmnof)), (vo, .inr (12, [.int voth_11, .ref vmt, .int votp_12, .int vosz_13, .int volm_14, .int voto_4, .int vofr_5, .int vokd_6, .int vonu_9, .int vosg_7, .int vofa_10, .int vopl, .long vowd_8, .int votd, .ref vmn, .ref vmr, .ref vmk, .ref vms, .ref vma, .ref vmm, .ref vmrn, .ref vmkn, .ref vmik, .ref vmon, .int vosm, .int vohp, .ref vmw, .ref vmf, .ref vmb, .int vomb, .ref vmd, .ref vmc, .int vocm, .int voct, .int vocy, .ref vmx, .int votx, .int vose, .ref vml, .ref vmwr, .int voln, .int vohw, .ref vmno, .int 0, .int voon, .int vowi, .int votop])), (vmt, .inl (cy 0, 940, .inl vmtf))] := hD
  refine lv_aload_n hx hb dX11_sentence_12 rfl (lv_at hl 0 rfl) ?_
  refine lv_iconst (v := 0) hx hb dX11_sentence_13 (by decide) ?_
  refine pf_X11_417 hx hb hts hown hK hP hD hS 3 rfl rfl rfl (Nat.le_of_ble_eq_true rfl) dX11_sentence_14 (fun H locs hP hD hS => ?_)
  have hP : va_P (dC, dI) vwCl [(vmn, .inl (cy 0, 575, .inl vmnf)), (vmm, .inl (cy 1, 17, .inr (.inl vmmf))), (vmno, .inl (cy 0, 240, .inl vmnof)), (vo, .inr (12, [.int voth_11, .ref vmt, .int votp_12, .int vosz_13, .int volm_14, .int voto_4, .int vofr_5, .int vokd_6, .int vonu_9, .int vosg_7, .int vofa_10, .int vopl, .long vowd_8, .int votd, .ref vmn, .ref vmr, .ref vmk, .ref vms, .ref vma, .ref vmm, .ref vmrn, .ref vmkn, .ref vmik, .ref vmon, .int vosm, .int vohp, .ref vmw, .ref vmf, .ref vmb, .int vomb, .ref vmd, .ref vmc, .int vocm, .int voct, .int vocy, .ref vmx, .int votx, .int vose, .ref vml, .ref vmwr, .int voln, .int vohw, .ref vmno, .int 0, .int 0, .int vowi, .int votop])), (vmt, .inl (cy 0, 940, .inl vmtf))] H := hP
  have hD : va_D A [(vmn, .inl (cy 0, 575, .inl vmnf)), (vmm, .inl (cy 1, 17, .inr (.inl vmmf))), (vmno, .inl (cy 0, 240, .inl vmnof)), (vo, .inr (12, [.int voth_11, .ref vmt, .int votp_12, .int vosz_13, .int volm_14, .int voto_4, .int vofr_5, .int vokd_6, .int vonu_9, .int vosg_7, .int vofa_10, .int vopl, .long vowd_8, .int votd, .ref vmn, .ref vmr, .ref vmk, .ref vms, .ref vma, .ref vmm, .ref vmrn, .ref vmkn, .ref vmik, .ref vmon, .int vosm, .int vohp, .ref vmw, .ref vmf, .ref vmb, .int vomb, .ref vmd, .ref vmc, .int vocm, .int voct, .int vocy, .ref vmx, .int votx, .int vose, .ref vml, .ref vmwr, .int voln, .int vohw, .ref vmno, .int 0, .int 0, .int vowi, .int votop])), (vmt, .inl (cy 0, 940, .inl vmtf))] := hD
  refine lv_aload_n hx hb dX11_sentence_17 rfl (lv_at hl 0 rfl) ?_
  refine lv_iconst (v := 0) hx hb dX11_sentence_18 (by decide) ?_
  refine pf_X11_420 hx hb hts hown hK hP hD hS 3 rfl rfl rfl (Nat.le_of_ble_eq_true rfl) dX11_sentence_19 (fun H locs hP hD hS => ?_)
  have hP : va_P (dC, dI) vwCl [(vmn, .inl (cy 0, 575, .inl vmnf)), (vmm, .inl (cy 1, 17, .inr (.inl vmmf))), (vmno, .inl (cy 0, 240, .inl vmnof)), (vo, .inr (12, [.int voth_11, .ref vmt, .int votp_12, .int vosz_13, .int volm_14, .int voto_4, .int vofr_5, .int vokd_6, .int vonu_9, .int vosg_7, .int vofa_10, .int vopl, .long vowd_8, .int votd, .ref vmn, .ref vmr, .ref vmk, .ref vms, .ref vma, .ref vmm, .ref vmrn, .ref vmkn, .ref vmik, .ref vmon, .int vosm, .int vohp, .ref vmw, .ref vmf, .ref vmb, .int vomb, .ref vmd, .ref vmc, .int vocm, .int voct, .int vocy, .ref vmx, .int votx, .int vose, .ref vml, .ref vmwr, .int voln, .int vohw, .ref vmno, .int 0, .int 0, .int 0, .int votop])), (vmt, .inl (cy 0, 940, .inl vmtf))] H := hP
  have hD : va_D A [(vmn, .inl (cy 0, 575, .inl vmnf)), (vmm, .inl (cy 1, 17, .inr (.inl vmmf))), (vmno, .inl (cy 0, 240, .inl vmnof)), (vo, .inr (12, [.int voth_11, .ref vmt, .int votp_12, .int vosz_13, .int volm_14, .int voto_4, .int vofr_5, .int vokd_6, .int vonu_9, .int vosg_7, .int vofa_10, .int vopl, .long vowd_8, .int votd, .ref vmn, .ref vmr, .ref vmk, .ref vms, .ref vma, .ref vmm, .ref vmrn, .ref vmkn, .ref vmik, .ref vmon, .int vosm, .int vohp, .ref vmw, .ref vmf, .ref vmb, .int vomb, .ref vmd, .ref vmc, .int vocm, .int voct, .int vocy, .ref vmx, .int votx, .int vose, .ref vml, .ref vmwr, .int voln, .int vohw, .ref vmno, .int 0, .int 0, .int 0, .int votop])), (vmt, .inl (cy 0, 940, .inl vmtf))] := hD
  refine lv_aload_n hx hb dX11_sentence_22 rfl (lv_at hl 0 rfl) ?_
  have k_0 : (0 : Int32).toInt = 0 := by decide
  refine jn_i (wr := []) (rV (As := []) (rest := []) (ci := 12) ⟨hx, hb, hml, hown, hts⟩ (m_readOr_0 l dC dI cy _ vnh vo voth_11 vmt votp_12 vosz_13 volm_14 voto_4 vofr_5 vokd_6 vonu_9 vosg_7 vofa_10 vopl vowd_8 votd vmn vmr vmk vms vma vmm vmrn vmkn vmik vmon vosm vohp vmw vmf vmb vomb vmd vmc vocm voct vocy vmx votx vose vml vmwr voln vohw vmno 0 0 votop vmtf vmnf vmmf vmnof ⟨by omega, by omega⟩ ⟨by omega, by omega⟩ r_votd ⟨by omega, by omega⟩ ⟨by omega, by omega⟩ p_vmtf p_vmnf hnk (by omega)) (cw_X11_435 hts rfl rfl ⟨Nat.le_of_ble_eq_true rfl, Nat.le_of_ble_eq_true rfl⟩) hP hD hK [3, 4, 0, 1, 2] rfl rfl rfl rfl bl0 e0 rfl hl.1 rfl (Nat.le_of_ble_eq_true rfl) dX11_sentence_23 ⟨Nat.le_of_ble_eq_true rfl, Nat.le_of_ble_eq_true rfl⟩) hP hD hS hA [3, 4, 0, 1, 2] [] rfl rfl rfl (by decide) (fun r_18 u_20 H locs hp_19 hP hD hS => ?_)
  obtain ⟨voto_21, vofr_22, vokd_23, vosg_24, vowd_25, vonu_26, vofa_27, vopl_28, votd_29, vmnof_30, vond_31, voon_32, votop_33⟩ := u_20
  have hp_19 : ((r_18 = 0) ∨ (r_18 = 1 ∧ 0 ≤ (votop_33 : Int32).toInt ∧ (votop_33 : Int32).toInt < (vond_31 : Int32).toInt)) ∧ (0 ≤ (voto_21 : Int32).toInt ∧ (voto_21 : Int32).toInt ≤ 940) ∧ (-1 ≤ (votd_29 : Int32).toInt ∧ (votd_29 : Int32).toInt ≤ 999) ∧ (0 ≤ (vond_31 : Int32).toInt ∧ (vond_31 : Int32).toInt ≤ 40) ∧ (0 ≤ (voon_32 : Int32).toInt ∧ (voon_32 : Int32).toInt ≤ 20) ∧ (2 * (0 : Int32).toInt - (0 : Int32).toInt + (r_18 : Int32).toInt ≤ 2 * (voon_32 : Int32).toInt - (vond_31 : Int32).toInt) ∧ ((0 : Int32).toInt + (r_18 : Int32).toInt ≤ (voon_32 : Int32).toInt) ∧ ((0 : Int32).toInt ≤ (vond_31 : Int32).toInt) ∧ (NK vmnof_30) := hp_19
  obtain ⟨q_34, q_35, q_36, q_37, q_38, q_39, q_40, q_41, q_42⟩ := hp_19
  have hP : va_P (dC, dI) vwCl [(vo, .inr (12, [.int voth_11, .ref vmt, .int votp_12, .int vosz_13, .int volm_14, .int voto_21, .int vofr_22, .int vokd_23, .int vonu_26, .int vosg_24, .int vofa_27, .int vopl_28, .long vowd_25, .int votd_29, .ref vmn, .ref vmr, .ref vmk, .ref vms, .ref vma, .ref vmm, .ref vmrn, .ref vmkn, .ref vmik, .ref vmon, .int vosm, .int vohp, .ref vmw, .ref vmf, .ref vmb, .int vomb, .ref vmd, .ref vmc, .int vocm, .int voct, .int vocy, .ref vmx, .int votx, .int vose, .ref vml, .ref vmwr, .int voln, .int vohw, .ref vmno, .int vond_31, .int voon_32, .int 0, .int votop_33])), (vmt, .inl (cy 0, 940, .inl vmtf)), (vmn, .inl (cy 0, 575, .inl vmnf)), (vmm, .inl (cy 1, 17, .inr (.inl vmmf))), (vmno, .inl (cy 0, 240, .inl vmnof_30))] H := hP
  have hD : va_D A [(vo, .inr (12, [.int voth_11, .ref vmt, .int votp_12, .int vosz_13, .int volm_14, .int voto_21, .int vofr_22, .int vokd_23, .int vonu_26, .int vosg_24, .int vofa_27, .int vopl_28, .long vowd_25, .int votd_29, .ref vmn, .ref vmr, .ref vmk, .ref vms, .ref vma, .ref vmm, .ref vmrn, .ref vmkn, .ref vmik, .ref vmon, .int vosm, .int vohp, .ref vmw, .ref vmf, .ref vmb, .int vomb, .ref vmd, .ref vmc, .int vocm, .int voct, .int vocy, .ref vmx, .int votx, .int vose, .ref vml, .ref vmwr, .int voln, .int vohw, .ref vmno, .int vond_31, .int voon_32, .int 0, .int votop_33])), (vmt, .inl (cy 0, 940, .inl vmtf)), (vmn, .inl (cy 0, 575, .inl vmnf)), (vmm, .inl (cy 1, 17, .inr (.inl vmmf))), (vmno, .inl (cy 0, 240, .inl vmnof_30))] := hD
  rcases q_34 with aq_34 | ⟨aq_34, f0q_34, f1q_34⟩
  · skip
    refine as_i 0 aq_34 ?_
    have aiq_34 : r_18.toInt = 0 := by rw [aq_34]; decide
    refine lv_if_ne (tgt := 36) hx hb dX11_sentence_26 (by decide) (fun c9 => absurd c9 (by decide)) (fun _ => ?_)
    refine lv_iconst (v := (-1)) hx hb dX11_sentence_29 (by decide) ?_
    refine lv_aload_n hx hb dX11_sentence_30 rfl (lv_at hl 0 rfl) ?_
    refine gf_X11_69 hx hb hts hown hK hP 0 rfl rfl dX11_sentence_31 ?_
    refine lv_isub hx hb dX11_sentence_34 ?_
    refine lv_topi (fun z_43 ez_43 => ?_)
    have k_m1 : ((-1) : Int32).toInt = (-1) := by decide
    have wh_44 := i_rng vopl_28
    have bz_43 : z_43.toInt = ((-1) : Int32).toInt - vopl_28.toInt := i_sub ez_43 (by omega) (by omega)
    rw [hQ9]
    exact re_i (voth_11, votp_12, vosz_13, volm_14, voto_21, vofr_22, vokd_23, vosg_24, vowd_25, vonu_26, vofa_27, vopl_28, votd_29, vmnof_30, vond_31, voon_32, votop_33, (0 : Int32), vmnf) hx hb hr hlocks ⟨(show 0 ≤ (votp_12 : Int32).toInt ∧ (votp_12 : Int32).toInt ≤ 0 from ⟨by omega, by omega⟩), (show -1 ≤ (votd_29 : Int32).toInt ∧ (votd_29 : Int32).toInt ≤ 999 from ⟨by omega, by omega⟩), (show NW vnh vmnf from p_vmnf), (show NK vmnof_30 from q_42)⟩ (hP.sub [0, 1, 2, 3, 4] rfl) (hD.sub [0, 1, 2, 3, 4] rfl rfl) hS dX11_sentence_35
  · skip
    refine as_i 1 aq_34 ?_
    have aiq_34 : r_18.toInt = 1 := by rw [aq_34]; decide
    refine lv_if_ne (tgt := 36) hx hb dX11_sentence_26 (by decide) (fun _ => ?_) (fun c9 => absurd c9 (by decide))
    refine lv_aload_n hx hb dX11_sentence_36 rfl (lv_at hl 0 rfl) ?_
    refine gf_X11_30 hx hb hts hown hK hP 0 rfl rfl dX11_sentence_37 ?_
    refine lv_if_eq (tgt := 56) hx hb dX11_sentence_40 (by decide) (fun c_45 => ?_) (fun c_45 => ?_)
    · skip
      have c_45 : vokd_23.toInt = (0 : Int32).toInt := i_eq.mp c_45
      refine lv_aload_n hx hb dX11_sentence_56 rfl (lv_at hl 0 rfl) ?_
      refine gf_X11_98 hx hb hts hown hK hP 0 rfl rfl dX11_sentence_57 ?_
      refine lv_sipush (v := 333) hx hb dX11_sentence_60 (by decide) ?_
      refine lv_iconst (v := 1) hx hb dX11_sentence_63 (by decide) ?_
      have k_333 : (333 : Int32).toInt = 333 := by decide
      have hin_46 : vp_in (333 : Int32) 575 := vp_in_iff.mpr ⟨by omega, by omega⟩
      refine va_iast hx hb hK hP hD hS 2 0 rfl rfl hin_46 dX11_sentence_64 (fun H locs hP hD hS => ?_)
      obtain ⟨f_47, ef_47⟩ : ∃ z : Nat → Int32, z = upd vmnf (Int32.toNatClampNeg 333) 1 := ⟨_, rfl⟩
      have hP : va_P (dC, dI) vwCl [(vo, .inr (12, [.int voth_11, .ref vmt, .int votp_12, .int vosz_13, .int volm_14, .int voto_21, .int vofr_22, .int vokd_23, .int vonu_26, .int vosg_24, .int vofa_27, .int vopl_28, .long vowd_25, .int votd_29, .ref vmn, .ref vmr, .ref vmk, .ref vms, .ref vma, .ref vmm, .ref vmrn, .ref vmkn, .ref vmik, .ref vmon, .int vosm, .int vohp, .ref vmw, .ref vmf, .ref vmb, .int vomb, .ref vmd, .ref vmc, .int vocm, .int voct, .int vocy, .ref vmx, .int votx, .int vose, .ref vml, .ref vmwr, .int voln, .int vohw, .ref vmno, .int vond_31, .int voon_32, .int 0, .int votop_33])), (vmt, .inl (cy 0, 940, .inl vmtf)), (vmn, .inl (cy 0, 575, .inl f_47)), (vmm, .inl (cy 1, 17, .inr (.inl vmmf))), (vmno, .inl (cy 0, 240, .inl vmnof_30))] H := by rw [ef_47]; exact hP
      have hD : va_D A [(vo, .inr (12, [.int voth_11, .ref vmt, .int votp_12, .int vosz_13, .int volm_14, .int voto_21, .int vofr_22, .int vokd_23, .int vonu_26, .int vosg_24, .int vofa_27, .int vopl_28, .long vowd_25, .int votd_29, .ref vmn, .ref vmr, .ref vmk, .ref vms, .ref vma, .ref vmm, .ref vmrn, .ref vmkn, .ref vmik, .ref vmon, .int vosm, .int vohp, .ref vmw, .ref vmf, .ref vmb, .int vomb, .ref vmd, .ref vmc, .int vocm, .int voct, .int vocy, .ref vmx, .int votx, .int vose, .ref vml, .ref vmwr, .int voln, .int vohw, .ref vmno, .int vond_31, .int voon_32, .int 0, .int votop_33])), (vmt, .inl (cy 0, 940, .inl vmtf)), (vmn, .inl (cy 0, 575, .inl f_47)), (vmm, .inl (cy 1, 17, .inr (.inl vmmf))), (vmno, .inl (cy 0, 240, .inl vmnof_30))] := by rw [ef_47]; exact hD
      have k_1 : (1 : Int32).toInt = 1 := by decide
      have p_f_47 : NW vnh f_47 := by rw [ef_47]; exact p_vmnf.upd ⟨by omega, by omega⟩
      refine lv_aload_n hx hb dX11_sentence_65 rfl (lv_at hl 0 rfl) ?_
      refine gf_X11_98 hx hb hts hown hK hP 0 rfl rfl dX11_sentence_66 ?_
      refine lv_sipush (v := 334) hx hb dX11_sentence_69 (by decide) ?_
      refine lv_aload_n hx hb dX11_sentence_72 rfl (lv_at hl 0 rfl) ?_
      refine gf_X11_408 hx hb hts hown hK hP 0 rfl rfl dX11_sentence_73 ?_
      have k_334 : (334 : Int32).toInt = 334 := by decide
      have hin_48 : vp_in (334 : Int32) 575 := vp_in_iff.mpr ⟨by omega, by omega⟩
      refine va_iast hx hb hK hP hD hS 2 0 rfl rfl hin_48 dX11_sentence_76 (fun H locs hP hD hS => ?_)
      obtain ⟨f_49, ef_49⟩ : ∃ z : Nat → Int32, z = upd f_47 (Int32.toNatClampNeg 334) votop_33 := ⟨_, rfl⟩
      have hP : va_P (dC, dI) vwCl [(vo, .inr (12, [.int voth_11, .ref vmt, .int votp_12, .int vosz_13, .int volm_14, .int voto_21, .int vofr_22, .int vokd_23, .int vonu_26, .int vosg_24, .int vofa_27, .int vopl_28, .long vowd_25, .int votd_29, .ref vmn, .ref vmr, .ref vmk, .ref vms, .ref vma, .ref vmm, .ref vmrn, .ref vmkn, .ref vmik, .ref vmon, .int vosm, .int vohp, .ref vmw, .ref vmf, .ref vmb, .int vomb, .ref vmd, .ref vmc, .int vocm, .int voct, .int vocy, .ref vmx, .int votx, .int vose, .ref vml, .ref vmwr, .int voln, .int vohw, .ref vmno, .int vond_31, .int voon_32, .int 0, .int votop_33])), (vmt, .inl (cy 0, 940, .inl vmtf)), (vmn, .inl (cy 0, 575, .inl f_49)), (vmm, .inl (cy 1, 17, .inr (.inl vmmf))), (vmno, .inl (cy 0, 240, .inl vmnof_30))] H := by rw [ef_49]; exact hP
      have hD : va_D A [(vo, .inr (12, [.int voth_11, .ref vmt, .int votp_12, .int vosz_13, .int volm_14, .int voto_21, .int vofr_22, .int vokd_23, .int vonu_26, .int vosg_24, .int vofa_27, .int vopl_28, .long vowd_25, .int votd_29, .ref vmn, .ref vmr, .ref vmk, .ref vms, .ref vma, .ref vmm, .ref vmrn, .ref vmkn, .ref vmik, .ref vmon, .int vosm, .int vohp, .ref vmw, .ref vmf, .ref vmb, .int vomb, .ref vmd, .ref vmc, .int vocm, .int voct, .int vocy, .ref vmx, .int votx, .int vose, .ref vml, .ref vmwr, .int voln, .int vohw, .ref vmno, .int vond_31, .int voon_32, .int 0, .int votop_33])), (vmt, .inl (cy 0, 940, .inl vmtf)), (vmn, .inl (cy 0, 575, .inl f_49)), (vmm, .inl (cy 1, 17, .inr (.inl vmmf))), (vmno, .inl (cy 0, 240, .inl vmnof_30))] := by rw [ef_49]; exact hD
      have p_f_49 : NW vnh f_49 := by rw [ef_49]; exact p_f_47.upd ⟨by omega, by omega⟩
      refine lv_iconst (v := 0) hx hb dX11_sentence_77 (by decide) ?_
      refine lv_istore_n (lv' := [(1, .int 0), (0, .ref vo)]) hx hb dX11_sentence_78 rfl hl (by decide) rfl (fun ls hl => ?_)
      have loop50 : ∀ (n50 : Nat) (x_51 : Int32) (g_52 : Nat → Int32), (0 ≤ x_51.toInt ∧ x_51.toInt ≤ 240) → (CP g_52 f_49 vmnof_30 (335) (0) x_51.toInt) → 240 - x_51.toInt < (n50 : Int) → ∀ (H : Heap) (locs : List Loc), va_P (dC, dI) vwCl [(vo, .inr (12, [.int voth_11, .ref vmt, .int votp_12, .int vosz_13, .int volm_14, .int voto_21, .int vofr_22, .int vokd_23, .int vonu_26, .int vosg_24, .int vofa_27, .int vopl_28, .long vowd_25, .int votd_29, .ref vmn, .ref vmr, .ref vmk, .ref vms, .ref vma, .ref vmm, .ref vmrn, .ref vmkn, .ref vmik, .ref vmon, .int vosm, .int vohp, .ref vmw, .ref vmf, .ref vmb, .int vomb, .ref vmd, .ref vmc, .int vocm, .int voct, .int vocy, .ref vmx, .int votx, .int vose, .ref vml, .ref vmwr, .int voln, .int vohw, .ref vmno, .int vond_31, .int voon_32, .int 0, .int votop_33])), (vmt, .inl (cy 0, 940, .inl vmtf)), (vmn, .inl (cy 0, 575, .inl g_52)), (vmm, .inl (cy 1, 17, .inr (.inl vmmf))), (vmno, .inl (cy 0, 240, .inl vmnof_30))] H → va_D A [(vo, .inr (12, [.int voth_11, .ref vmt, .int votp_12, .int vosz_13, .int volm_14, .int voto_21, .int vofr_22, .int vokd_23, .int vonu_26, .int vosg_24, .int vofa_27, .int vopl_28, .long vowd_25, .int votd_29, .ref vmn, .ref vmr, .ref vmk, .ref vms, .ref vma, .ref vmm, .ref vmrn, .ref vmkn, .ref vmik, .ref vmon, .int vosm, .int vohp, .ref vmw, .ref vmf, .ref vmb, .int vomb, .ref vmd, .ref vmc, .int vocm, .int voct, .int vocy, .ref vmx, .int votx, .int vose, .ref vml, .ref vmwr, .int voln, .int vohw, .ref vmno, .int vond_31, .int voon_32, .int 0, .int votop_33])), (vmt, .inl (cy 0, 940, .inl vmtf)), (vmn, .inl (cy 0, 575, .inl g_52)), (vmm, .inl (cy 1, 17, .inr (.inl vmmf))), (vmno, .inl (cy 0, 240, .inl vmnof_30))] → va_S A s.heap H locs → ∀ ls : Array Slot, lv_has ls 2 [(1, .int x_51), (0, .ref vo)] → W p l e ({ frames := 60, cells := 0, slots := 0, locals := 3840 }) s m av9 below meth c H locs 0 0 Q9 (F0 m 79 ls []) := by
        intro n50
        induction n50 with
        | zero =>
          intro x_51 g_52 bx_51 v50_0 hn50 H locs hP hD hS ls hl
          exfalso; omega
        | succ n50 ih50 =>
          intro x_51 g_52 bx_51 v50_0 hn50 H locs hP hD hS ls hl
          refine lv_iload_n hx hb dX11_sentence_79 rfl (lv_at hl 0 rfl) ?_
          refine lv_sipush (v := 240) hx hb dX11_sentence_80 (by decide) ?_
          have k_240 : (240 : Int32).toInt = 240 := by decide
          refine lv_icmp_ge (tgt := 108) hx hb dX11_sentence_83 (by decide) (fun c_53 => ?_) (fun c_53 => ?_)
          · skip
            have c_53 : (240 : Int32).toInt ≤ x_51.toInt := i_le.mp c_53
            have w_g_52 : NW vnh g_52 := CP.no v50_0 (by omega) p_f_49 q_42
            refine lv_aload_n hx hb dX11_sentence_108 rfl (lv_at hl 1 rfl) ?_
            refine gf_X11_417 hx hb hts hown hK hP 0 rfl rfl dX11_sentence_109 ?_
            rw [hQ9]
            exact re_i (voth_11, votp_12, vosz_13, volm_14, voto_21, vofr_22, vokd_23, vosg_24, vowd_25, vonu_26, vofa_27, vopl_28, votd_29, vmnof_30, vond_31, voon_32, votop_33, (0 : Int32), g_52) hx hb hr hlocks ⟨(show 0 ≤ (votp_12 : Int32).toInt ∧ (votp_12 : Int32).toInt ≤ 0 from ⟨by omega, by omega⟩), (show -1 ≤ (votd_29 : Int32).toInt ∧ (votd_29 : Int32).toInt ≤ 999 from ⟨by omega, by omega⟩), (show NW vnh g_52 from w_g_52), (show NK vmnof_30 from q_42)⟩ (hP.sub [0, 1, 2, 3, 4] rfl) (hD.sub [0, 1, 2, 3, 4] rfl rfl) hS dX11_sentence_112
          · skip
            have c_53 : ¬ ((240 : Int32).toInt ≤ x_51.toInt) := fun h9 => c_53 (i_le.mpr h9)
            refine lv_aload_n hx hb dX11_sentence_86 rfl (lv_at hl 1 rfl) ?_
            refine gf_X11_98 hx hb hts hown hK hP 0 rfl rfl dX11_sentence_87 ?_
            refine lv_sipush (v := 335) hx hb dX11_sentence_90 (by decide) ?_
            refine lv_iload_n hx hb dX11_sentence_93 rfl (lv_at hl 0 rfl) ?_
            refine lv_iadd hx hb dX11_sentence_94 ?_
            refine lv_topi (fun z_54 ez_54 => ?_)
            have k_335 : (335 : Int32).toInt = 335 := by decide
            have bz_54 : z_54.toInt = (335 : Int32).toInt + x_51.toInt := i_add ez_54 (by omega) (by omega)
            refine lv_aload_n hx hb dX11_sentence_95 rfl (lv_at hl 1 rfl) ?_
            refine gf_X11_157 hx hb hts hown hK hP 0 rfl rfl dX11_sentence_96 ?_
            refine lv_iload_n hx hb dX11_sentence_99 rfl (lv_at hl 0 rfl) ?_
            have hin_55 : vp_in x_51 240 := vp_in_iff.mpr ⟨by omega, by omega⟩
            refine va_iald hx hb hK hP 4 0 rfl rfl hin_55 dX11_sentence_100 ?_
            refine lv_topi (fun z_56 ez_56 => ?_)
            have hin_57 : vp_in z_54 575 := vp_in_iff.mpr ⟨by omega, by omega⟩
            refine va_iast hx hb hK hP hD hS 2 0 rfl rfl hin_57 dX11_sentence_101 (fun H locs hP hD hS => ?_)
            obtain ⟨f_58, ef_58⟩ : ∃ z : Nat → Int32, z = upd g_52 (Int32.toNatClampNeg z_54) z_56 := ⟨_, rfl⟩
            have hP : va_P (dC, dI) vwCl [(vo, .inr (12, [.int voth_11, .ref vmt, .int votp_12, .int vosz_13, .int volm_14, .int voto_21, .int vofr_22, .int vokd_23, .int vonu_26, .int vosg_24, .int vofa_27, .int vopl_28, .long vowd_25, .int votd_29, .ref vmn, .ref vmr, .ref vmk, .ref vms, .ref vma, .ref vmm, .ref vmrn, .ref vmkn, .ref vmik, .ref vmon, .int vosm, .int vohp, .ref vmw, .ref vmf, .ref vmb, .int vomb, .ref vmd, .ref vmc, .int vocm, .int voct, .int vocy, .ref vmx, .int votx, .int vose, .ref vml, .ref vmwr, .int voln, .int vohw, .ref vmno, .int vond_31, .int voon_32, .int 0, .int votop_33])), (vmt, .inl (cy 0, 940, .inl vmtf)), (vmn, .inl (cy 0, 575, .inl f_58)), (vmm, .inl (cy 1, 17, .inr (.inl vmmf))), (vmno, .inl (cy 0, 240, .inl vmnof_30))] H := by rw [ef_58]; exact hP
            have hD : va_D A [(vo, .inr (12, [.int voth_11, .ref vmt, .int votp_12, .int vosz_13, .int volm_14, .int voto_21, .int vofr_22, .int vokd_23, .int vonu_26, .int vosg_24, .int vofa_27, .int vopl_28, .long vowd_25, .int votd_29, .ref vmn, .ref vmr, .ref vmk, .ref vms, .ref vma, .ref vmm, .ref vmrn, .ref vmkn, .ref vmik, .ref vmon, .int vosm, .int vohp, .ref vmw, .ref vmf, .ref vmb, .int vomb, .ref vmd, .ref vmc, .int vocm, .int voct, .int vocy, .ref vmx, .int votx, .int vose, .ref vml, .ref vmwr, .int voln, .int vohw, .ref vmno, .int vond_31, .int voon_32, .int 0, .int votop_33])), (vmt, .inl (cy 0, 940, .inl vmtf)), (vmn, .inl (cy 0, 575, .inl f_58)), (vmm, .inl (cy 1, 17, .inr (.inl vmmf))), (vmno, .inl (cy 0, 240, .inl vmnof_30))] := by rw [ef_58]; exact hD
            obtain ⟨z_59, ez_59⟩ : ∃ z : Int32, z = x_51 + 1 := ⟨_, rfl⟩
            have bz_59 : z_59.toInt = x_51.toInt + (1 : Int32).toInt := i_add ez_59 (by omega) (by omega)
            refine lv_iinc (v := z_59) (lv' := [(1, .int z_59), (0, .ref vo)]) hx hb dX11_sentence_102 hl (k := 0) rfl ez_59.symm (by decide) rfl (fun ls hl => ?_)
            refine lv_goto (tgt := 79) hx hb dX11_sentence_105 (by decide) ?_
            exact ih50 z_59 f_58 ⟨by omega, by omega⟩ (ef_58 ▸ CP.step v50_0 (by decide) (by decide) (by omega) (by omega) (y := x_51) (by omega) ez_56 (by omega)) (by omega) _ _ (hP.sub [0, 1, 2, 3, 4] rfl) (hD.sub [0, 1, 2, 3, 4] rfl rfl) hS ls (lv_sub hl [0, 1] rfl)
      exact loop50 ((240 - (0 : Int32).toInt).toNat + 1) 0 f_49 ⟨by omega, by omega⟩ (CP.nil (by omega)) (by omega) _ _ hP hD hS ls (lv_sub hl [0, 1] rfl)
    · skip
      have c_45 : ¬ (vokd_23.toInt = (0 : Int32).toInt) := fun h9 => c_45 (i_eq.mpr h9)
      refine lv_aload_n hx hb dX11_sentence_43 rfl (lv_at hl 0 rfl) ?_
      refine lv_iconst (v := 1) hx hb dX11_sentence_44 (by decide) ?_
      have k_1 : (1 : Int32).toInt = 1 := by decide
      refine jn_i (wr := [(vmt, .inl (cy 0, 940, .inl vmtf)), (vmn, .inl (cy 0, 575, .inl vmnf)), (vmm, .inl (cy 1, 17, .inr (.inl vmmf))), (vmno, .inl (cy 0, 240, .inl vmnof_30))]) (rV (As := [.int 1]) (rest := []) (ci := 12) ⟨hx, hb, hml, hown, hts⟩ (m_bad l dC dI cy _ vo voth_11 vmt votp_12 vosz_13 volm_14 voto_21 vofr_22 vokd_23 vonu_26 vosg_24 vofa_27 vopl_28 vowd_25 votd_29 vmn vmr vmk vms vma vmm vmrn vmkn vmik vmon vosm vohp vmw vmf vmb vomb vmd vmc vocm voct vocy vmx votx vose vml vmwr voln vohw vmno vond_31 voon_32 0 votop_33 1 ) (cw_X11_72 hts rfl rfl ⟨Nat.le_of_ble_eq_true rfl, Nat.le_of_ble_eq_true rfl⟩) hP hD hK [0] rfl rfl rfl rfl bl0 e0 rfl hl.1 rfl (Nat.le_of_ble_eq_true rfl) dX11_sentence_45 ⟨Nat.le_of_ble_eq_true rfl, Nat.le_of_ble_eq_true rfl⟩) hP hD hS hA [0] [1, 2, 3, 4] rfl rfl rfl (by decide) (fun r_60 u_62 H locs hp_61 hP hD hS => ?_)
      obtain ⟨vofa_63, vopl_64⟩ := u_62
      have hp_61 : ((r_60 = 0)) := hp_61
      have q_65 := hp_61
      have hP : va_P (dC, dI) vwCl [(vmt, .inl (cy 0, 940, .inl vmtf)), (vmn, .inl (cy 0, 575, .inl vmnf)), (vmm, .inl (cy 1, 17, .inr (.inl vmmf))), (vmno, .inl (cy 0, 240, .inl vmnof_30)), (vo, .inr (12, [.int voth_11, .ref vmt, .int votp_12, .int vosz_13, .int volm_14, .int voto_21, .int vofr_22, .int vokd_23, .int vonu_26, .int vosg_24, .int vofa_63, .int vopl_64, .long vowd_25, .int votd_29, .ref vmn, .ref vmr, .ref vmk, .ref vms, .ref vma, .ref vmm, .ref vmrn, .ref vmkn, .ref vmik, .ref vmon, .int vosm, .int vohp, .ref vmw, .ref vmf, .ref vmb, .int vomb, .ref vmd, .ref vmc, .int vocm, .int voct, .int vocy, .ref vmx, .int votx, .int vose, .ref vml, .ref vmwr, .int voln, .int vohw, .ref vmno, .int vond_31, .int voon_32, .int 0, .int votop_33]))] H := hP
      have hD : va_D A [(vmt, .inl (cy 0, 940, .inl vmtf)), (vmn, .inl (cy 0, 575, .inl vmnf)), (vmm, .inl (cy 1, 17, .inr (.inl vmmf))), (vmno, .inl (cy 0, 240, .inl vmnof_30)), (vo, .inr (12, [.int voth_11, .ref vmt, .int votp_12, .int vosz_13, .int volm_14, .int voto_21, .int vofr_22, .int vokd_23, .int vonu_26, .int vosg_24, .int vofa_63, .int vopl_64, .long vowd_25, .int votd_29, .ref vmn, .ref vmr, .ref vmk, .ref vms, .ref vma, .ref vmm, .ref vmrn, .ref vmkn, .ref vmik, .ref vmon, .int vosm, .int vohp, .ref vmw, .ref vmf, .ref vmb, .int vomb, .ref vmd, .ref vmc, .int vocm, .int voct, .int vocy, .ref vmx, .int votx, .int vose, .ref vml, .ref vmwr, .int voln, .int vohw, .ref vmno, .int vond_31, .int voon_32, .int 0, .int votop_33]))] := hD
      have aq_65 := q_65
      · skip
        refine as_i 0 aq_65 ?_
        refine lv_pop hx hb dX11_sentence_48 rfl ?_
        refine lv_iconst (v := (-1)) hx hb dX11_sentence_49 (by decide) ?_
        refine lv_aload_n hx hb dX11_sentence_50 rfl (lv_at hl 0 rfl) ?_
        refine gf_X11_69 hx hb hts hown hK hP 4 rfl rfl dX11_sentence_51 ?_
        refine lv_isub hx hb dX11_sentence_54 ?_
        refine lv_topi (fun z_66 ez_66 => ?_)
        have k_m1 : ((-1) : Int32).toInt = (-1) := by decide
        have wh_67 := i_rng vopl_64
        have bz_66 : z_66.toInt = ((-1) : Int32).toInt - vopl_64.toInt := i_sub ez_66 (by omega) (by omega)
        rw [hQ9]
        exact re_i (voth_11, votp_12, vosz_13, volm_14, voto_21, vofr_22, vokd_23, vosg_24, vowd_25, vonu_26, vofa_63, vopl_64, votd_29, vmnof_30, vond_31, voon_32, votop_33, (0 : Int32), vmnf) hx hb hr hlocks ⟨(show 0 ≤ (votp_12 : Int32).toInt ∧ (votp_12 : Int32).toInt ≤ 0 from ⟨by omega, by omega⟩), (show -1 ≤ (votd_29 : Int32).toInt ∧ (votd_29 : Int32).toInt ≤ 999 from ⟨by omega, by omega⟩), (show NW vnh vmnf from p_vmnf), (show NK vmnof_30 from q_42)⟩ (hP.sub [4, 0, 1, 2, 3] rfl) (hD.sub [4, 0, 1, 2, 3] rfl rfl) hS dX11_sentence_55
