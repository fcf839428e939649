abbrev O_s_family (cy : Nat → ClassId) (vnh : Nat → Int32) (vo : Nat) (voth : Int32) (vmt : Nat) (votp : Int32) (vosz : Int32) (volm : Int32) (voto : Int32) (vofr : Int32) (vokd : Int32) (vonu : Int32) (vosg : Int32) (vofa : Int32) (vopl : Int32) (vowd : Int64) (votd : Int32) (vmn : Nat) (vmr : Nat) (vmk : Nat) (vms : Nat) (vma : Nat) (vmm : Nat) (vmrn : Nat) (vmkn : Nat) (vmik : Nat) (vmon : Nat) (vosm : Int32) (vohp : Int32) (vmw : Nat) (vmf : Nat) (vmb : Nat) (vomb : Int32) (vmd : Nat) (vmc : Nat) (vocm : Int32) (voct : Int32) (vocy : Int32) (vmx : Nat) (votx : Int32) (vose : Int32) (vml : Nat) (vmwr : Nat) (voln : Int32) (vohw : Int32) (vmno : Nat) (vond : Int32) (voon : Int32) (vowi : Int32) (votop : Int32) (vmnf : Nat → Int32) (vm : Int32) (u : Int32) : va_W := [(vo, .inr (12, [.int u, .ref vmt, .int votp, .int vosz, .int volm, .int voto, .int vofr, .int vokd, .int vonu, .int vosg, .int vofa, .int vopl, .long vowd, .int votd, .ref vmn, .ref vmr, .ref vmk, .ref vms, .ref vma, .ref vmm, .ref vmrn, .ref vmkn, .ref vmik, .ref vmon, .int vosm, .int vohp, .ref vmw, .ref vmf, .ref vmb, .int vomb, .ref vmd, .ref vmc, .int vocm, .int voct, .int vocy, .ref vmx, .int votx, .int vose, .ref vml, .ref vmwr, .int voln, .int vohw, .ref vmno, .int vond, .int voon, .int vowi, .int votop])), (vmn, .inl (cy 0, 575, .inl vmnf))]
set_option maxHeartbeats 4000000 in
set_option maxRecDepth 100000 in
theorem s_family (l : Launch) (dC : Nat → ClassId) (dI : Nat → Nat → Nat) (cy : Nat → ClassId) (sz : Nat) (vnh : Nat → Int32) (vo : Nat) (voth : Int32) (vmt : Nat) (votp : Int32) (vosz : Int32) (volm : Int32) (voto : Int32) (vofr : Int32) (vokd : Int32) (vonu : Int32) (vosg : Int32) (vofa : Int32) (vopl : Int32) (vowd : Int64) (votd : Int32) (vmn : Nat) (vmr : Nat) (vmk : Nat) (vms : Nat) (vma : Nat) (vmm : Nat) (vmrn : Nat) (vmkn : Nat) (vmik : Nat) (vmon : Nat) (vosm : Int32) (vohp : Int32) (vmw : Nat) (vmf : Nat) (vmb : Nat) (vomb : Int32) (vmd : Nat) (vmc : Nat) (vocm : Int32) (voct : Int32) (vocy : Int32) (vmx : Nat) (votx : Int32) (vose : Int32) (vml : Nat) (vmwr : Nat) (voln : Int32) (vohw : Int32) (vmno : Nat) (vond : Int32) (voon : Int32) (vowi : Int32) (votop : Int32) (vmnf : Nat → Int32) (vm : Int32) (p_vmnf : NW vnh vmnf) : Met l yX11_family (wl yX11_family cX11_family 5 (some .int)) ({ frames := 2, cells := 0, slots := 0, locals := 128 }) (Pw (dC, dI) vwCl cy [(vo, .inr (12, [.int voth, .ref vmt, .int votp, .int vosz, .int volm, .int voto, .int vofr, .int vokd, .int vonu, .int vosg, .int vofa, .int vopl, .long vowd, .int votd, .ref vmn, .ref vmr, .ref vmk, .ref vms, .ref vma, .ref vmm, .ref vmrn, .ref vmkn, .ref vmik, .ref vmon, .int vosm, .int vohp, .ref vmw, .ref vmf, .ref vmb, .int vomb, .ref vmd, .ref vmc, .int vocm, .int voct, .int vocy, .ref vmx, .int votx, .int vose, .ref vml, .ref vmwr, .int voln, .int vohw, .ref vmno, .int vond, .int voon, .int vowi, .int votop])), (vmn, .inl (cy 0, 575, .inl vmnf))] sz [.ref vo, .int vm] nE) (Qi (dC, dI) vwCl (fun (r : Int32) (u : Int32) => ((((vm : Int32).toInt < 0 ∨ (vmnf 0).toInt ≤ (vm : Int32).toInt) ∧ (r : Int32) = -1) ∨ (0 ≤ (vm : Int32).toInt ∧ (vm : Int32).toInt < (vmnf 0).toInt ∧ (r : Int32) = fa_R (fun k9 => vmnf (101 + k9)) (vmnf 0).toInt.toNat (tkBit (vm : Int32).toInt) 7))) (O_s_family cy vnh vo voth vmt votp vosz volm voto vofr vokd vonu vosg vofa vopl vowd votd vmn vmr vmk vms vma vmm vmrn vmkn vmik vmon vosm vohp vmw vmf vmb vomb vmd vmc vocm voct vocy vmx votx vose vml vmwr voln vohw vmno vond voon vowi votop vmnf vm) (va_A [(vo, .inr (12, [.int voth, .ref vmt, .int votp, .int vosz, .int volm, .int voto, .int vofr, .int vokd, .int vonu, .int vosg, .int vofa, .int vopl, .long vowd, .int votd, .ref vmn, .ref vmr, .ref vmk, .ref vms, .ref vma, .ref vmm, .ref vmrn, .ref vmkn, .ref vmik, .ref vmon, .int vosm, .int vohp, .ref vmw, .ref vmf, .ref vmb, .int vomb, .ref vmd, .ref vmc, .int vocm, .int voct, .int vocy, .ref vmx, .int votx, .int vose, .ref vml, .ref vmwr, .int voln, .int vohw, .ref vmno, .int vond, .int voon, .int vowi, .int votop])), (vmn, .inl (cy 0, 575, .inl vmnf))] sz)) 0 0 (va_A [(vo, .inr (12, [.int voth, .ref vmt, .int votp, .int vosz, .int volm, .int voto, .int vofr, .int vokd, .int vonu, .int vosg, .int vofa, .int vopl, .long vowd, .int votd, .ref vmn, .ref vmr, .ref vmk, .ref vms, .ref vma, .ref vmm, .ref vmrn, .ref vmkn, .ref vmik, .ref vmon, .int vosm, .int vohp, .ref vmw, .ref vmf, .ref vmb, .int vomb, .ref vmd, .ref vmc, .int vocm, .int voct, .int vocy, .ref vmx, .int votx, .int vose, .ref vml, .ref vmwr, .int voln, .int vohw, .ref vmno, .int vond, .int voon, .int vowi, .int votop])), (vmn, .inl (cy 0, 575, .inl vmnf))] sz) := by
  refine mw (Qc := Qi (dC, dI) vwCl (fun (r : Int32) (u : Int32) => ((((vm : Int32).toInt < 0 ∨ (vmnf 0).toInt ≤ (vm : Int32).toInt) ∧ (r : Int32) = -1) ∨ (0 ≤ (vm : Int32).toInt ∧ (vm : Int32).toInt < (vmnf 0).toInt ∧ (r : Int32) = fa_R (fun k9 => vmnf (101 + k9)) (vmnf 0).toInt.toNat (tkBit (vm : Int32).toInt) 7))) (O_s_family cy vnh vo voth vmt votp vosz volm voto vofr vokd vonu vosg vofa vopl vowd votd vmn vmr vmk vms vma vmm vmrn vmkn vmik vmon vosm vohp vmw vmf vmb vomb vmd vmc vocm voct vocy vmx votx vose vml vmwr voln vohw vmno vond voon vowi votop vmnf vm)) RX11 rfl (by decide +kernel) (Nat.le_of_ble_eq_true rfl) ?_
  intro p e s m below meth c A hx hb hr hlocks av9 hav hts hown hnm hml hK hP hD hA hS hE hAe Q9 hQ9 ls hl
  have hl : lv_has ls 5 [(0, .ref vo), (1, .int vm)] := hl
  refine lv_aload_n hx hb dX11_family_0 rfl (lv_at hl 0 rfl) ?_
  refine lv_iconst (v := 0) hx hb dX11_family_1 (by decide) ?_
  refine pf_X11_1 hx hb hts hown hK hP hD hS 0 rfl rfl rfl (Nat.le_of_ble_eq_true rfl) dX11_family_2 (fun H locs hP hD hS => ?_)
  have hP : va_P (dC, dI) vwCl [(vo, .inr (12, [.int 0, .ref vmt, .int votp, .int vosz, .int volm, .int voto, .int vofr, .int vokd, .int vonu, .int vosg, .int vofa, .int vopl, .long vowd, .int votd, .ref vmn, .ref vmr, .ref vmk, .ref vms, .ref vma, .ref vmm, .ref vmrn, .ref vmkn, .ref vmik, .ref vmon, .int vosm, .int vohp, .ref vmw, .ref vmf, .ref vmb, .int vomb, .ref vmd, .ref vmc, .int vocm, .int voct, .int vocy, .ref vmx, .int votx, .int vose, .ref vml, .ref vmwr, .int voln, .int vohw, .ref vmno, .int vond, .int voon, .int vowi, .int votop])), (vmn, .inl (cy 0, 575, .inl vmnf))] H := hP
  have hD : va_D A [(vo, .inr (12, [.int 0, .ref vmt, .int votp, .int vosz, .int volm, .int voto, .int vofr, .int vokd, .int vonu, .int vosg, .int vofa, .int vopl, .long vowd, .int votd, .ref vmn, .ref vmr, .ref vmk, .ref vms, .ref vma, .ref vmm, .ref vmrn, .ref vmkn, .ref vmik, .ref vmon, .int vosm, .int vohp, .ref vmw, .ref vmf, .ref vmb, .int vomb, .ref vmd, .ref vmc, .int vocm, .int voct, .int vocy, .ref vmx, .int votx, .int vose, .ref vml, .ref vmwr, .int voln, .int vohw, .ref vmno, .int vond, .int voon, .int vowi, .int votop])), (vmn, .inl (cy 0, 575, .inl vmnf))] := hD
  refine lv_aload_n hx hb dX11_family_5 rfl (lv_at hl 0 rfl) ?_
  refine lv_iload_n hx hb dX11_family_6 rfl (lv_at hl 1 rfl) ?_
  have k_0 : (0 : Int32).toInt = 0 := by decide
  refine jr_i (rVr (As := [.int vm]) (rest := []) (ci := 12) ⟨hx, hb, hml, hown, hts⟩ (m_isMan l dC dI cy vnh vo 0 vmt votp vosz volm voto vofr vokd vonu vosg vofa vopl vowd votd vmn vmr vmk vms vma vmm vmrn vmkn vmik vmon vosm vohp vmw vmf vmb vomb vmd vmc vocm voct vocy vmx votx vose vml vmwr voln vohw vmno vond voon vowi votop vmnf vm p_vmnf) (cw_X11_250 hts rfl rfl ⟨Nat.le_of_ble_eq_true rfl, Nat.le_of_ble_eq_true rfl⟩) hP hK [0, 1] rfl rfl rfl rfl hl.1 rfl (Nat.le_of_ble_eq_true rfl) dX11_family_7 ⟨Nat.le_of_ble_eq_true rfl, Nat.le_of_ble_eq_true rfl⟩) hP hS (fun r_1 H locs hp_2 hP hS => ?_)
  have hp_2 : ((r_1 = 0 ∧ ((vm : Int32).toInt < 0 ∨ (vmnf 0).toInt ≤ (vm : Int32).toInt)) ∨ (r_1 = 1 ∧ 0 ≤ (vm : Int32).toInt ∧ (vm : Int32).toInt ≤ 6 ∧ (vm : Int32).toInt < (vmnf 0).toInt)) := hp_2
  have q_3 := hp_2
  rcases q_3 with ⟨aq_3, f0q_3⟩ | ⟨aq_3, f0q_3, f1q_3, f2q_3⟩
  · skip
    refine as_i 0 aq_3 ?_
    refine lv_if_ne (tgt := 15) hx hb dX11_family_10 (by decide) (fun c9 => absurd c9 (by decide)) (fun _ => ?_)
    refine lv_iconst (v := (-1)) hx hb dX11_family_13 (by decide) ?_
    have k_m1 : ((-1) : Int32).toInt = (-1) := by decide
    rw [hQ9]
    exact re_i (0 : Int32) hx hb hr hlocks (show (((vm : Int32).toInt < 0 ∨ (vmnf 0).toInt ≤ (vm : Int32).toInt) ∧ (((-1) : Int32) : Int32) = -1) ∨ (0 ≤ (vm : Int32).toInt ∧ (vm : Int32).toInt < (vmnf 0).toInt ∧ (((-1) : Int32) : Int32) = fa_R (fun k9 => vmnf (101 + k9)) (vmnf 0).toInt.toNat (tkBit (vm : Int32).toInt) 7) from (Or.inl ⟨by omega, rfl⟩)) (hP.sub [0, 1] rfl) (hD.sub [0, 1] rfl rfl) hS dX11_family_14
  · skip
    refine as_i 1 aq_3 ?_
    refine lv_if_ne (tgt := 15) hx hb dX11_family_10 (by decide) (fun _ => ?_) (fun c9 => absurd c9 (by decide))
    refine lv_iconst (v := 1) hx hb dX11_family_15 (by decide) ?_
    refine lv_iload_n hx hb dX11_family_16 rfl (lv_at hl 1 rfl) ?_
    refine lv_ishl hx hb dX11_family_17 ?_
    refine lv_topi (fun z_4 ez_4 => ?_)
    have bz_4 : 1 ≤ z_4.toInt ∧ z_4.toInt ≤ 128 := i_shl7 ez_4 ⟨by omega, by omega⟩
    refine lv_istore_n (lv' := [(2, .int z_4), (0, .ref vo), (1, .int vm)]) hx hb dX11_family_18 rfl hl (by decide) rfl (fun ls hl => ?_)
    refine lv_iconst (v := 0) hx hb dX11_family_19 (by decide) ?_
    refine lv_istore_n (lv' := [(3, .int 0), (2, .int z_4), (0, .ref vo), (1, .int vm)]) hx hb dX11_family_20 rfl hl (by decide) rfl (fun ls hl => ?_)
    have loop5 : ∀ (n5 : Nat) (x_7 : Int32) (x_6 : Int32), (0 ≤ x_6.toInt ∧ x_6.toInt ≤ 7) → (x_7 = fa_R (fun k9 => vmnf (101 + k9)) (vmnf 0).toInt.toNat (tkBit vm.toInt) (x_6.toInt).toNat) → 7 - x_6.toInt < (n5 : Int) → ∀ (H : Heap) (locs : List Loc), va_P (dC, dI) vwCl [(vo, .inr (12, [.int 0, .ref vmt, .int votp, .int vosz, .int volm, .int voto, .int vofr, .int vokd, .int vonu, .int vosg, .int vofa, .int vopl, .long vowd, .int votd, .ref vmn, .ref vmr, .ref vmk, .ref vms, .ref vma, .ref vmm, .ref vmrn, .ref vmkn, .ref vmik, .ref vmon, .int vosm, .int vohp, .ref vmw, .ref vmf, .ref vmb, .int vomb, .ref vmd, .ref vmc, .int vocm, .int voct, .int vocy, .ref vmx, .int votx, .int vose, .ref vml, .ref vmwr, .int voln, .int vohw, .ref vmno, .int vond, .int voon, .int vowi, .int votop])), (vmn, .inl (cy 0, 575, .inl vmnf))] H → va_D A [(vo, .inr (12, [.int 0, .ref vmt, .int votp, .int vosz, .int volm, .int voto, .int vofr, .int vokd, .int vonu, .int vosg, .int vofa, .int vopl, .long vowd, .int votd, .ref vmn, .ref vmr, .ref vmk, .ref vms, .ref vma, .ref vmm, .ref vmrn, .ref vmkn, .ref vmik, .ref vmon, .int vosm, .int vohp, .ref vmw, .ref vmf, .ref vmb, .int vomb, .ref vmd, .ref vmc, .int vocm, .int voct, .int vocy, .ref vmx, .int votx, .int vose, .ref vml, .ref vmwr, .int voln, .int vohw, .ref vmno, .int vond, .int voon, .int vowi, .int votop])), (vmn, .inl (cy 0, 575, .inl vmnf))] → va_S A s.heap H locs → ∀ ls : Array Slot, lv_has ls 5 [(3, .int x_6), (2, .int x_7), (0, .ref vo), (1, .int vm)] → W p l e ({ frames := 2, cells := 0, slots := 0, locals := 128 }) s m av9 below meth c H locs 0 0 Q9 (F0 m 21 ls []) := by
      intro n5
      induction n5 with
      | zero =>
        intro x_7 x_6 bx_6 v5_0 hn5 H locs hP hD hS ls hl
        exfalso; omega
      | succ n5 ih5 =>
        intro x_7 x_6 bx_6 v5_0 hn5 H locs hP hD hS ls hl
        refine lv_iload_n hx hb dX11_family_21 rfl (lv_at hl 0 rfl) ?_
        refine lv_bipush (v := 7) hx hb dX11_family_22 (by decide) ?_
        have k_7 : (7 : Int32).toInt = 7 := by decide
        refine lv_icmp_ge (tgt := 75) hx hb dX11_family_24 (by decide) (fun c_8 => ?_) (fun c_8 => ?_)
        · skip
          have c_8 : (7 : Int32).toInt ≤ x_6.toInt := i_le.mp c_8
          refine lv_iload_n hx hb dX11_family_75 rfl (lv_at hl 1 rfl) ?_
          rw [hQ9]
          exact re_i (0 : Int32) hx hb hr hlocks (show (((vm : Int32).toInt < 0 ∨ (vmnf 0).toInt ≤ (vm : Int32).toInt) ∧ (x_7 : Int32) = -1) ∨ (0 ≤ (vm : Int32).toInt ∧ (vm : Int32).toInt < (vmnf 0).toInt ∧ (x_7 : Int32) = fa_R (fun k9 => vmnf (101 + k9)) (vmnf 0).toInt.toNat (tkBit (vm : Int32).toInt) 7) from (Or.inr ⟨by omega, by omega, by have h9 := v5_0; rw [show x_6.toInt = 7 by omega] at h9; exact h9⟩)) (hP.sub [0, 1] rfl) (hD.sub [0, 1] rfl rfl) hS dX11_family_76
        · skip
          have c_8 : ¬ ((7 : Int32).toInt ≤ x_6.toInt) := fun h9 => c_8 (i_le.mpr h9)
          refine lv_iconst (v := 0) hx hb dX11_family_27 (by decide) ?_
          refine lv_istore (lv' := [(4, .int 0), (3, .int x_6), (2, .int x_7), (0, .ref vo), (1, .int vm)]) hx hb dX11_family_28 hl (by decide) rfl (fun ls hl => ?_)
          have loop9 : ∀ (n9 : Nat) (x_11 : Int32) (x_10 : Int32), (0 ≤ x_10.toInt ∧ x_10.toInt ≤ 7) → (x_11 = fa_P (fun k9 => vmnf (101 + k9)) (fa_R (fun k9 => vmnf (101 + k9)) (vmnf 0).toInt.toNat (tkBit vm.toInt) (x_6.toInt).toNat) (x_10.toInt).toNat) → (x_10.toInt ≤ (vmnf 0).toInt) → 7 - x_10.toInt < (n9 : Int) → ∀ (H : Heap) (locs : List Loc), va_P (dC, dI) vwCl [(vo, .inr (12, [.int 0, .ref vmt, .int votp, .int vosz, .int volm, .int voto, .int vofr, .int vokd, .int vonu, .int vosg, .int vofa, .int vopl, .long vowd, .int votd, .ref vmn, .ref vmr, .ref vmk, .ref vms, .ref vma, .ref vmm, .ref vmrn, .ref vmkn, .ref vmik, .ref vmon, .int vosm, .int vohp, .ref vmw, .ref vmf, .ref vmb, .int vomb, .ref vmd, .ref vmc, .int vocm, .int voct, .int vocy, .ref vmx, .int votx, .int vose, .ref vml, .ref vmwr, .int voln, .int vohw, .ref vmno, .int vond, .int voon, .int vowi, .int votop])), (vmn, .inl (cy 0, 575, .inl vmnf))] H → va_D A [(vo, .inr (12, [.int 0, .ref vmt, .int votp, .int vosz, .int volm, .int voto, .int vofr, .int vokd, .int vonu, .int vosg, .int vofa, .int vopl, .long vowd, .int votd, .ref vmn, .ref vmr, .ref vmk, .ref vms, .ref vma, .ref vmm, .ref vmrn, .ref vmkn, .ref vmik, .ref vmon, .int vosm, .int vohp, .ref vmw, .ref vmf, .ref vmb, .int vomb, .ref vmd, .ref vmc, .int vocm, .int voct, .int vocy, .ref vmx, .int votx, .int vose, .ref vml, .ref vmwr, .int voln, .int vohw, .ref vmno, .int vond, .int voon, .int vowi, .int votop])), (vmn, .inl (cy 0, 575, .inl vmnf))] → va_S A s.heap H locs → ∀ ls : Array Slot, lv_has ls 5 [(4, .int x_10), (3, .int x_6), (2, .int x_11), (0, .ref vo), (1, .int vm)] → W p l e ({ frames := 2, cells := 0, slots := 0, locals := 128 }) s m av9 below meth c H locs 0 0 Q9 (F0 m 30 ls []) := by
            intro n9
            induction n9 with
            | zero =>
              intro x_11 x_10 bx_10 v9_0 v9_1 hn9 H locs hP hD hS ls hl
              exfalso; omega
            | succ n9 ih9 =>
              intro x_11 x_10 bx_10 v9_0 v9_1 hn9 H locs hP hD hS ls hl
              refine lv_iload hx hb dX11_family_30 (lv_at hl 0 rfl) ?_
              refine lv_aload_n hx hb dX11_family_32 rfl (lv_at hl 3 rfl) ?_
              refine gf_X11_98 hx hb hts hown hK hP 0 rfl rfl dX11_family_33 ?_
              refine lv_iconst (v := 0) hx hb dX11_family_36 (by decide) ?_
              have hin_12 : vp_in (0 : Int32) 575 := vp_in_iff.mpr ⟨by omega, by omega⟩
              refine va_iald hx hb hK hP 1 0 rfl rfl hin_12 dX11_family_37 ?_
              refine lv_topi (fun z_13 ez_13 => ?_)
              have bz_13 := p_vmnf.a0 (x := 0) ⟨by omega, by omega⟩ ez_13
              have tz_13 : z_13.toInt = (vmnf 0).toInt := by rw [ez_13]; rfl
              refine lv_icmp_ge (tgt := 69) hx hb dX11_family_38 (by decide) (fun c_14 => ?_) (fun c_14 => ?_)
              · skip
                have c_14 : z_13.toInt ≤ x_10.toInt := i_le.mp c_14
                obtain ⟨z_15, ez_15⟩ : ∃ z : Int32, z = x_6 + 1 := ⟨_, rfl⟩
                have k_1 : (1 : Int32).toInt = 1 := by decide
                have bz_15 : z_15.toInt = x_6.toInt + (1 : Int32).toInt := i_add ez_15 (by omega) (by omega)
                refine lv_iinc (v := z_15) (lv' := [(3, .int z_15), (4, .int x_10), (2, .int x_11), (0, .ref vo), (1, .int vm)]) hx hb dX11_family_69 hl (k := 1) rfl ez_15.symm (by decide) rfl (fun ls hl => ?_)
                refine lv_goto (tgt := 21) hx hb dX11_family_72 (by decide) ?_
                exact ih5 x_11 z_15 ⟨by omega, by omega⟩ (fa_R_s v9_0 (by omega) (by omega) (by omega)) (by omega) _ _ (hP.sub [0, 1] rfl) (hD.sub [0, 1] rfl rfl) hS ls (lv_sub hl [0, 2, 3, 4] rfl)
              · skip
                have c_14 : ¬ (z_13.toInt ≤ x_10.toInt) := fun h9 => c_14 (i_le.mpr h9)
                refine lv_iload_n hx hb dX11_family_41 rfl (lv_at hl 2 rfl) ?_
                refine lv_iload hx hb dX11_family_42 (lv_at hl 0 rfl) ?_
                refine jr_i (rSr (As := [.int x_11, .int x_10]) (rest := []) ⟨hx, hb, hml, hown, hts⟩ (s_has l dC dI cy x_11 x_10 ) (cw_X11_194 hts rfl rfl ⟨Nat.le_of_ble_eq_true rfl, Nat.le_of_ble_eq_true rfl⟩) hP hK [] rfl rfl hl.1 rfl (Nat.le_of_ble_eq_true rfl) dX11_family_44 ⟨Nat.le_of_ble_eq_true rfl, Nat.le_of_ble_eq_true rfl⟩) hP hS (fun r_16 H locs hp_17 hP hS => ?_)
                have hp_17 : ((r_16 = 0 ∧ tkHas x_11 (x_10 : Int32).toInt = 0) ∨ (r_16 = 1 ∧ ¬ (tkHas x_11 (x_10 : Int32).toInt = 0))) := hp_17
                have q_18 := hp_17
                rcases q_18 with ⟨aq_18, f0q_18⟩ | ⟨aq_18, f0q_18⟩
                · skip
                  refine as_i 0 aq_18 ?_
                  refine lv_if_eq (tgt := 63) hx hb dX11_family_47 (by decide) (fun _ => ?_) (fun c9 => absurd (by decide) c9)
                  obtain ⟨z_19, ez_19⟩ : ∃ z : Int32, z = x_10 + 1 := ⟨_, rfl⟩
                  have k_1 : (1 : Int32).toInt = 1 := by decide
                  have bz_19 : z_19.toInt = x_10.toInt + (1 : Int32).toInt := i_add ez_19 (by omega) (by omega)
                  refine lv_iinc (v := z_19) (lv' := [(4, .int z_19), (3, .int x_6), (2, .int x_11), (0, .ref vo), (1, .int vm)]) hx hb dX11_family_63 hl (k := 0) rfl ez_19.symm (by decide) rfl (fun ls hl => ?_)
                  refine lv_goto (tgt := 30) hx hb dX11_family_66 (by decide) ?_
                  exact ih9 x_11 z_19 ⟨by omega, by omega⟩ (fa_P_no v9_0 (by omega) (by omega) (by omega)) (by omega) (by omega) _ _ (hP.sub [0, 1] rfl) (hD.sub [0, 1] rfl rfl) hS ls (lv_sub hl [0, 1, 2, 3, 4] rfl)
                · skip
                  refine as_i 1 aq_18 ?_
                  refine lv_if_eq (tgt := 63) hx hb dX11_family_47 (by decide) (fun c9 => absurd c9 (by decide)) (fun _ => ?_)
                  refine lv_iload_n hx hb dX11_family_50 rfl (lv_at hl 2 rfl) ?_
                  refine lv_aload_n hx hb dX11_family_51 rfl (lv_at hl 3 rfl) ?_
                  refine gf_X11_98 hx hb hts hown hK hP 0 rfl rfl dX11_family_52 ?_
                  refine lv_bipush (v := 101) hx hb dX11_family_55 (by decide) ?_
                  refine lv_iload hx hb dX11_family_57 (lv_at hl 0 rfl) ?_
                  refine lv_iadd hx hb dX11_family_59 ?_
                  refine lv_topi (fun z_20 ez_20 => ?_)
                  have k_101 : (101 : Int32).toInt = 101 := by decide
                  have bz_20 : z_20.toInt = (101 : Int32).toInt + x_10.toInt := i_add ez_20 (by omega) (by omega)
                  have hin_21 : vp_in z_20 575 := vp_in_iff.mpr ⟨by omega, by omega⟩
                  refine va_iald hx hb hK hP 1 0 rfl rfl hin_21 dX11_family_60 ?_
                  refine lv_topi (fun z_22 ez_22 => ?_)
                  refine lv_ior hx hb dX11_family_61 ?_
                  refine lv_topi (fun z_23 ez_23 => ?_)
                  refine lv_istore_n (lv' := [(2, .int z_23), (4, .int x_10), (3, .int x_6), (0, .ref vo), (1, .int vm)]) hx hb dX11_family_62 rfl hl (by decide) rfl (fun ls hl => ?_)
                  obtain ⟨z_24, ez_24⟩ : ∃ z : Int32, z = x_10 + 1 := ⟨_, rfl⟩
                  have k_1 : (1 : Int32).toInt = 1 := by decide
                  have bz_24 : z_24.toInt = x_10.toInt + (1 : Int32).toInt := i_add ez_24 (by omega) (by omega)
                  refine lv_iinc (v := z_24) (lv' := [(4, .int z_24), (2, .int z_23), (3, .int x_6), (0, .ref vo), (1, .int vm)]) hx hb dX11_family_63 hl (k := 1) rfl ez_24.symm (by decide) rfl (fun ls hl => ?_)
                  refine lv_goto (tgt := 30) hx hb dX11_family_66 (by decide) ?_
                  exact ih9 z_23 z_24 ⟨by omega, by omega⟩ (fa_P_yes v9_0 (by omega) (by omega) (ez_22.trans (congrArg vmnf (show Int32.toNatClampNeg z_20 = 101 + (x_10.toInt).toNat from by have h8 := cl_nn (x := z_20) (by omega); omega))) ez_23 (by omega)) (by omega) (by omega) _ _ (hP.sub [0, 1] rfl) (hD.sub [0, 1] rfl rfl) hS ls (lv_sub hl [0, 2, 1, 3, 4] rfl)
          exact loop9 ((7 - (0 : Int32).toInt).toNat + 1) x_7 0 ⟨by omega, by omega⟩ (fa_P_0 v5_0 (by omega)) (by omega) (by omega) _ _ hP hD hS ls (lv_sub hl [0, 1, 2, 3, 4] rfl)
    exact loop5 ((7 - (0 : Int32).toInt).toNat + 1) z_4 0 ⟨by omega, by omega⟩ (fa_R_0 (fa_bit_of ez_4) (by omega)) (by omega) _ _ hP hD hS ls (lv_sub hl [0, 1, 2, 3] rfl)
