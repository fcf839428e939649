/-- the lines of a book: and every man, every number of years is 0 or more -/
def LQ (f : Nat → Int32) : Prop := LK f ∧ ∀ k : Nat, k < 40 → 0 ≤ (f (4 * k + 1)).toInt
theorem LQ.put {f : Nat → Int32} (h : LQ f) {n x v : Int32} {d : Int} (hn : 0 ≤ n.toInt ∧ n.toInt ≤ 39) (hx : x.toInt = 4 * n.toInt + d) (hd : 0 ≤ d ∧ d ≤ 3) (hv : -1 ≤ v.toInt ∧ v.toInt ≤ 40)
    (h0 : d = 0 → v.toInt = 6 ∨ (f (4 * n.toNatClampNeg + 1)).toInt ≤ 6) (h1 : d = 1 → (f (4 * n.toNatClampNeg)).toInt = 6 ∨ v.toInt ≤ 6) (h2 : d = 1 → 0 ≤ v.toInt) : LQ (upd f x.toNatClampNeg v) := by
  have q0 := cl_nn (x := x) (by omega)
  refine ⟨h.1.put hn hx hd hv h0 h1, fun k hk => ?_⟩
  by_cases c : 4 * k + 1 = x.toNatClampNeg
  · rw [up_if, if_pos c]; exact h2 (by omega)
  · rw [up_if, if_neg c]; exact h.2 k hk
theorem LQ.val {f : Nat → Int32} (h : LQ f) {x z : Int32} (hi : vp_in x 160) (e : z = f x.toNatClampNeg) : -1 ≤ z.toInt ∧ z.toInt ≤ 40 := h.1.val hi e
theorem LQ.man {f : Nat → Int32} (h : LQ f) {x y z v : Int32} {q : Int} (hk : 0 ≤ q ∧ q ≤ 39) (hx : x.toInt = 4 * q) (hy : y.toInt = 4 * q + 1) (ez : z = f x.toNatClampNeg) (ev : v = f y.toNatClampNeg) (hz : z.toInt ≠ 6) : 0 ≤ v.toInt ∧ v.toInt ≤ 6 := by
  have q2 := cl_nn (x := y) (by omega)
  have h3 := h.2 q.toNat (by omega)
  rw [show 4 * q.toNat + 1 = y.toNatClampNeg by omega, ← ev] at h3
  exact ⟨h3, h.1.man hk hx hy ez ev hz⟩
abbrev cX11_readNamed : ByteArray := prog_13_method_109_code
def yX11_readNamed : MethodName := ⟨RX11, "readNamed", "(II)Z"⟩
theorem t1998 : Cond.code yX11_readNamed cX11_readNamed 3 (some .boolean) ∈ GW := gw_mem 2112 (by decide +kernel) (by decide +kernel)
abbrev O_m_readNamed (cy : Nat → ClassId) (vo : Nat) (voth : Int32) (vmt : Nat) (votp : Int32) (vosz : Int32) (volm : Int32) (voto : Int32) (vofr : Int32) (vokd : Int32) (vonu : Int32) (vosg : Int32) (vofa : Int32) (vopl : Int32) (vowd : Int64) (votd : Int32) (vmn : Nat) (vmr : Nat) (vmk : Nat) (vms : Nat) (vma : Nat) (vmm : Nat) (vmrn : Nat) (vmkn : Nat) (vmik : Nat) (vmon : Nat) (vosm : Int32) (vohp : Int32) (vmw : Nat) (vmf : Nat) (vmb : Nat) (vomb : Int32) (vmd : Nat) (vmc : Nat) (vocm : Int32) (voct : Int32) (vocy : Int32) (vmx : Nat) (votx : Int32) (vose : Int32) (vml : Nat) (vmwr : Nat) (voln : Int32) (vohw : Int32) (vmno : Nat) (vond : Int32) (voon : Int32) (vowi : Int32) (votop : Int32) (vmtf : Nat → Int32) (vmmf : Nat → Int64) (vb : Int32) (vn : Int32) (u : Int32 × Int32 × Int32 × Int32 × Int64 × Int32 × Int32 × Int32 × Int32) : va_W := [(vo, .inr (12, [.int voth, .ref vmt, .int votp, .int vosz, .int volm, .int u.1, .int u.2.1, .int u.2.2.1, .int u.2.2.2.2.2.1, .int u.2.2.2.1, .int u.2.2.2.2.2.2.1, .int u.2.2.2.2.2.2.2.1, .long u.2.2.2.2.1, .int u.2.2.2.2.2.2.2.2, .ref vmn, .ref vmr, .ref vmk, .ref vms, .ref vma, .ref vmm, .ref vmrn, .ref vmkn, .ref vmik, .ref vmon, .int vosm, .int vohp, .ref vmw, .ref vmf, .ref vmb, .int vomb, .ref vmd, .ref vmc, .int vocm, .int voct, .int vocy, .ref vmx, .int votx, .int vose, .ref vml, .ref vmwr, .int voln, .int vohw, .ref vmno, .int vond, .int voon, .int vowi, .int votop])), (vmt, .inl (cy 0, 940, .inl vmtf)), (vmm, .inl (cy 1, 17, .inr (.inl vmmf)))]
theorem dX11_readNamed_0 : decode cX11_readNamed 0 = .ok (.aload_n 0, 1) := by decide +kernel
theorem dX11_readNamed_1 : decode cX11_readNamed 1 = .ok (.invokevirtual 163, 3) := by decide +kernel
theorem dX11_readNamed_4 : decode cX11_readNamed 4 = .ok (.ifCond .ne 9, 3) := by decide +kernel
theorem dX11_readNamed_7 : decode cX11_readNamed 7 = .ok (.aload_n 0, 1) := by decide +kernel
theorem dX11_readNamed_8 : decode cX11_readNamed 8 = .ok (.iconst 1, 1) := by decide +kernel
theorem dX11_readNamed_9 : decode cX11_readNamed 9 = .ok (.invokevirtual 72, 3) := by decide +kernel
theorem dX11_readNamed_12 : decode cX11_readNamed 12 = .ok (.ireturn, 1) := by decide +kernel
theorem dX11_readNamed_13 : decode cX11_readNamed 13 = .ok (.aload_n 0, 1) := by decide +kernel
theorem dX11_readNamed_14 : decode cX11_readNamed 14 = .ok (.aload_n 0, 1) := by decide +kernel
theorem dX11_readNamed_15 : decode cX11_readNamed 15 = .ok (.getfield 113, 3) := by decide +kernel
theorem dX11_readNamed_18 : decode cX11_readNamed 18 = .ok (.iload_n 1, 1) := by decide +kernel
theorem dX11_readNamed_19 : decode cX11_readNamed 19 = .ok (.iload_n 2, 1) := by decide +kernel
theorem dX11_readNamed_20 : decode cX11_readNamed 20 = .ok (.aload_n 0, 1) := by decide +kernel
theorem dX11_readNamed_21 : decode cX11_readNamed 21 = .ok (.getfield 43, 3) := by decide +kernel
theorem dX11_readNamed_24 : decode cX11_readNamed 24 = .ok (.invokestatic 167, 3) := by decide +kernel
theorem dX11_readNamed_27 : decode cX11_readNamed 27 = .ok (.putfield 79, 3) := by decide +kernel
theorem dX11_readNamed_30 : decode cX11_readNamed 30 = .ok (.aload_n 0, 1) := by decide +kernel
theorem dX11_readNamed_31 : decode cX11_readNamed 31 = .ok (.getfield 79, 3) := by decide +kernel
theorem dX11_readNamed_34 : decode cX11_readNamed 34 = .ok (.iconst (-1), 1) := by decide +kernel
theorem dX11_readNamed_35 : decode cX11_readNamed 35 = .ok (.if_icmp .ne 9, 3) := by decide +kernel
theorem dX11_readNamed_44 : decode cX11_readNamed 44 = .ok (.aload_n 0, 1) := by decide +kernel
theorem dX11_readNamed_45 : decode cX11_readNamed 45 = .ok (.invokevirtual 82, 3) := by decide +kernel
theorem dX11_readNamed_48 : decode cX11_readNamed 48 = .ok (.iconst 1, 1) := by decide +kernel
theorem dX11_readNamed_49 : decode cX11_readNamed 49 = .ok (.ireturn, 1) := by decide +kernel
theorem dX11_readNamed_38 : decode cX11_readNamed 38 = .ok (.aload_n 0, 1) := by decide +kernel
theorem dX11_readNamed_39 : decode cX11_readNamed 39 = .ok (.iconst 3, 1) := by decide +kernel
theorem dX11_readNamed_40 : decode cX11_readNamed 40 = .ok (.invokevirtual 72, 3) := by decide +kernel
theorem dX11_readNamed_43 : decode cX11_readNamed 43 = .ok (.ireturn, 1) := by decide +kernel
set_option maxHeartbeats 4000000 in
set_option maxRecDepth 100000 in
theorem m_readNamed (l : Launch) (dC : Nat → ClassId) (dI : Nat → Nat → Nat) (cy : Nat → ClassId) (sz : Nat) (vo : Nat) (voth : Int32) (vmt : Nat) (votp : Int32) (vosz : Int32) (volm : Int32) (voto : Int32) (vofr : Int32) (vokd : Int32) (vonu : Int32) (vosg : Int32) (vofa : Int32) (vopl : Int32) (vowd : Int64) (votd : Int32) (vmn : Nat) (vmr : Nat) (vmk : Nat) (vms : Nat) (vma : Nat) (vmm : Nat) (vmrn : Nat) (vmkn : Nat) (vmik : Nat) (vmon : Nat) (vosm : Int32) (vohp : Int32) (vmw : Nat) (vmf : Nat) (vmb : Nat) (vomb : Int32) (vmd : Nat) (vmc : Nat) (vocm : Int32) (voct : Int32) (vocy : Int32) (vmx : Nat) (votx : Int32) (vose : Int32) (vml : Nat) (vmwr : Nat) (voln : Int32) (vohw : Int32) (vmno : Nat) (vond : Int32) (voon : Int32) (vowi : Int32) (votop : Int32) (vmtf : Nat → Int32) (vmmf : Nat → Int64) (vb : Int32) (vn : Int32) (r_vosz : 0 ≤ (vosz : Int32).toInt ∧ (vosz : Int32).toInt ≤ 940) (r_voto : 0 ≤ (voto : Int32).toInt ∧ (voto : Int32).toInt ≤ 940) (r_votd : -1 ≤ (votd : Int32).toInt ∧ (votd : Int32).toInt ≤ 999) (r_vb : 0 ≤ (vb : Int32).toInt ∧ (vb : Int32).toInt ≤ 7) (r_vn : 0 ≤ (vn : Int32).toInt ∧ (vn : Int32).toInt ≤ 10) (p_vmtf : Rg vmtf 940 0 255) (hbn : (vb : Int32).toInt + (vn : Int32).toInt ≤ 17) : Met l yX11_readNamed (wl yX11_readNamed cX11_readNamed 3 (some .boolean)) ({ frames := 3, cells := 0, slots := 0, locals := 192 }) (Pw (dC, dI) vwCl cy [(vo, .inr (12, [.int voth, .ref vmt, .int votp, .int vosz, .int volm, .int voto, .int vofr, .int vokd, .int vonu, .int vosg, .int vofa, .int vopl, .long vowd, .int votd, .ref vmn, .ref vmr, .ref vmk, .ref vms, .ref vma, .ref vmm, .ref vmrn, .ref vmkn, .ref vmik, .ref vmon, .int vosm, .int vohp, .ref vmw, .ref vmf, .ref vmb, .int vomb, .ref vmd, .ref vmc, .int vocm, .int voct, .int vocy, .ref vmx, .int votx, .int vose, .ref vml, .ref vmwr, .int voln, .int vohw, .ref vmno, .int vond, .int voon, .int vowi, .int votop])), (vmt, .inl (cy 0, 940, .inl vmtf)), (vmm, .inl (cy 1, 17, .inr (.inl vmmf)))] sz [.ref vo, .int vb, .int vn] nE) (Qi (dC, dI) vwCl (fun (r : Int32) (u : Int32 × Int32 × Int32 × Int32 × Int64 × Int32 × Int32 × Int32 × Int32) => ((r = 0) ∨ (r = 1 ∧ 0 ≤ (u.2.2.2.2.2.2.2.2 : Int32).toInt ∧ (u.2.2.2.2.2.2.2.2 : Int32).toInt < (vn : Int32).toInt)) ∧ (0 ≤ (u.1 : Int32).toInt ∧ (u.1 : Int32).toInt ≤ 940) ∧ (-1 ≤ (u.2.2.2.2.2.2.2.2 : Int32).toInt ∧ (u.2.2.2.2.2.2.2.2 : Int32).toInt ≤ 999)) (O_m_readNamed cy vo voth vmt votp vosz volm voto vofr vokd vonu vosg vofa vopl vowd votd vmn vmr vmk vms vma vmm vmrn vmkn vmik vmon vosm vohp vmw vmf vmb vomb vmd vmc vocm voct vocy vmx votx vose vml vmwr voln vohw vmno vond voon vowi votop vmtf vmmf vb vn) (va_A [(vo, .inr (12, [.int voth, .ref vmt, .int votp, .int vosz, .int volm, .int voto, .int vofr, .int vokd, .int vonu, .int vosg, .int vofa, .int vopl, .long vowd, .int votd, .ref vmn, .ref vmr, .ref vmk, .ref vms, .ref vma, .ref vmm, .ref vmrn, .ref vmkn, .ref vmik, .ref vmon, .int vosm, .int vohp, .ref vmw, .ref vmf, .ref vmb, .int vomb, .ref vmd, .ref vmc, .int vocm, .int voct, .int vocy, .ref vmx, .int votx, .int vose, .ref vml, .ref vmwr, .int voln, .int vohw, .ref vmno, .int vond, .int voon, .int vowi, .int votop])), (vmt, .inl (cy 0, 940, .inl vmtf)), (vmm, .inl (cy 1, 17, .inr (.inl vmmf)))] sz)) 0 0 (va_A [(vo, .inr (12, [.int voth, .ref vmt, .int votp, .int vosz, .int volm, .int voto, .int vofr, .int vokd, .int vonu, .int vosg, .int vofa, .int vopl, .long vowd, .int votd, .ref vmn, .ref vmr, .ref vmk, .ref vms, .ref vma, .ref vmm, .ref vmrn, .ref vmkn, .ref vmik, .ref vmon, .int vosm, .int vohp, .ref vmw, .ref vmf, .ref vmb, .int vomb, .ref vmd, .ref vmc, .int vocm, .int voct, .int vocy, .ref vmx, .int votx, .int vose, .ref vml, .ref vmwr, .int voln, .int vohw, .ref vmno, .int vond, .int voon, .int vowi, .int votop])), (vmt, .inl (cy 0, 940, .inl vmtf)), (vmm, .inl (cy 1, 17, .inr (.inl vmmf)))] sz) := by
  refine mw (Qc := Qi (dC, dI) vwCl (fun (r : Int32) (u : Int32 × Int32 × Int32 × Int32 × Int64 × Int32 × Int32 × Int32 × Int32) => ((r = 0) ∨ (r = 1 ∧ 0 ≤ (u.2.2.2.2.2.2.2.2 : Int32).toInt ∧ (u.2.2.2.2.2.2.2.2 : Int32).toInt < (vn : Int32).toInt)) ∧ (0 ≤ (u.1 : Int32).toInt ∧ (u.1 : Int32).toInt ≤ 940) ∧ (-1 ≤ (u.2.2.2.2.2.2.2.2 : Int32).toInt ∧ (u.2.2.2.2.2.2.2.2 : Int32).toInt ≤ 999)) (O_m_readNamed cy vo voth vmt votp vosz volm voto vofr vokd vonu vosg vofa vopl vowd votd vmn vmr vmk vms vma vmm vmrn vmkn vmik vmon vosm vohp vmw vmf vmb vomb vmd vmc vocm voct vocy vmx votx vose vml vmwr voln vohw vmno vond voon vowi votop vmtf vmmf vb vn)) RX11 rfl (by decide +kernel) (Nat.le_of_ble_eq_true rfl) ?_
  intro p e s m below meth c A hx hb hr hlocks av9 hav hts hown hnm hml hK hP hD hA hS hE hAe Q9 hQ9 ls hl
  have hl : lv_has ls 3 [(0, .ref vo), (1, .int vb), (2, .int vn)] := hl
  refine lv_aload_n hx hb dX11_readNamed_0 rfl (lv_at hl 0 rfl) ?_
  refine jr_i (rVr (As := []) (rest := []) (ci := 12) ⟨hx, hb, hml, hown, hts⟩ (m_isName l dC dI cy vo voth vmt votp vosz volm voto vofr vokd vonu vosg vofa vopl vowd votd vmn vmr vmk vms vma vmm vmrn vmkn vmik vmon vosm vohp vmw vmf vmb vomb vmd vmc vocm voct vocy vmx votx vose vml vmwr voln vohw vmno vond voon vowi votop ) (cw_X11_163 hts rfl rfl ⟨Nat.le_of_ble_eq_true rfl, Nat.le_of_ble_eq_true rfl⟩) hP hK [0] rfl rfl rfl rfl hl.1 rfl (Nat.le_of_ble_eq_true rfl) dX11_readNamed_1 ⟨Nat.le_of_ble_eq_true rfl, Nat.le_of_ble_eq_true rfl⟩) hP hS (fun r_1 H locs hp_2 hP hS => ?_)
  have hp_2 : ((r_1 = 0) ∨ (r_1 = 1)) := hp_2
  have q_3 := hp_2
  rcases q_3 with aq_3 | aq_3
  · skip
    refine as_i 0 aq_3 ?_
    refine lv_if_ne (tgt := 13) hx hb dX11_readNamed_4 (by decide) (fun c9 => absurd c9 (by decide)) (fun _ => ?_)
    refine lv_aload_n hx hb dX11_readNamed_7 rfl (lv_at hl 0 rfl) ?_
    refine lv_iconst (v := 1) hx hb dX11_readNamed_8 (by decide) ?_
    have k_1 : (1 : Int32).toInt = 1 := by decide
    refine jn_i (wr := [(vmt, .inl (cy 0, 940, .inl vmtf)), (vmm, .inl (cy 1, 17, .inr (.inl vmmf)))]) (rV (As := [.int 1]) (rest := []) (ci := 12) ⟨hx, hb, hml, hown, hts⟩ (m_bad l dC dI cy _ vo voth vmt votp vosz volm voto vofr vokd vonu vosg vofa vopl vowd votd vmn vmr vmk vms vma vmm vmrn vmkn vmik vmon vosm vohp vmw vmf vmb vomb vmd vmc vocm voct vocy vmx votx vose vml vmwr voln vohw vmno vond voon vowi votop 1 ) (cw_X11_72 hts rfl rfl ⟨Nat.le_of_ble_eq_true rfl, Nat.le_of_ble_eq_true rfl⟩) hP hD hK [0] rfl rfl rfl rfl bl0 e0 rfl hl.1 rfl (Nat.le_of_ble_eq_true rfl) dX11_readNamed_9 ⟨Nat.le_of_ble_eq_true rfl, Nat.le_of_ble_eq_true rfl⟩) hP hD hS hA [0] [1, 2] rfl rfl rfl (by decide) (fun r_4 u_6 H locs hp_5 hP hD hS => ?_)
    obtain ⟨vofa_7, vopl_8⟩ := u_6
    have hp_5 : ((r_4 = 0)) := hp_5
    have q_9 := hp_5
    have hP : va_P (dC, dI) vwCl [(vmt, .inl (cy 0, 940, .inl vmtf)), (vmm, .inl (cy 1, 17, .inr (.inl vmmf))), (vo, .inr (12, [.int voth, .ref vmt, .int votp, .int vosz, .int volm, .int voto, .int vofr, .int vokd, .int vonu, .int vosg, .int vofa_7, .int vopl_8, .long vowd, .int votd, .ref vmn, .ref vmr, .ref vmk, .ref vms, .ref vma, .ref vmm, .ref vmrn, .ref vmkn, .ref vmik, .ref vmon, .int vosm, .int vohp, .ref vmw, .ref vmf, .ref vmb, .int vomb, .ref vmd, .ref vmc, .int vocm, .int voct, .int vocy, .ref vmx, .int votx, .int vose, .ref vml, .ref vmwr, .int voln, .int vohw, .ref vmno, .int vond, .int voon, .int vowi, .int votop]))] H := hP
    have hD : va_D A [(vmt, .inl (cy 0, 940, .inl vmtf)), (vmm, .inl (cy 1, 17, .inr (.inl vmmf))), (vo, .inr (12, [.int voth, .ref vmt, .int votp, .int vosz, .int volm, .int voto, .int vofr, .int vokd, .int vonu, .int vosg, .int vofa_7, .int vopl_8, .long vowd, .int votd, .ref vmn, .ref vmr, .ref vmk, .ref vms, .ref vma, .ref vmm, .ref vmrn, .ref vmkn, .ref vmik, .ref vmon, .int vosm, .int vohp, .ref vmw, .ref vmf, .ref vmb, .int vomb, .ref vmd, .ref vmc, .int vocm, .int voct, .int vocy, .ref vmx, .int votx, .int vose, .ref vml, .ref vmwr, .int voln, .int vohw, .ref vmno, .int vond, .int voon, .int vowi, .int votop]))] := hD
    have aq_9 := q_9
    · skip
      refine as_i 0 aq_9 ?_
      have k_0 : (0 : Int32).toInt = 0 := by decide
      rw [hQ9]
      exact re_z (voto, vofr, vokd, vosg, vowd, vonu, vofa_7, vopl_8, votd) hx hb hr hlocks (Or.inl rfl) ⟨(show ((0 : Int32) = 0) ∨ ((0 : Int32) = 1 ∧ 0 ≤ (votd : Int32).toInt ∧ (votd : Int32).toInt < (vn : Int32).toInt) from (Or.inl rfl)), (show 0 ≤ (voto : Int32).toInt ∧ (voto : Int32).toInt ≤ 940 from ⟨by omega, by omega⟩), (show -1 ≤ (votd : Int32).toInt ∧ (votd : Int32).toInt ≤ 999 from ⟨by omega, by omega⟩)⟩ (hP.sub [2, 0, 1] rfl) (hD.sub [2, 0, 1] rfl rfl) hS dX11_readNamed_12
  · skip
    refine as_i 1 aq_3 ?_
    refine lv_if_ne (tgt := 13) hx hb dX11_readNamed_4 (by decide) (fun _ => ?_) (fun c9 => absurd c9 (by decide))
    refine lv_aload_n hx hb dX11_readNamed_13 rfl (lv_at hl 0 rfl) ?_
    refine lv_aload_n hx hb dX11_readNamed_14 rfl (lv_at hl 0 rfl) ?_
    refine gf_X11_113 hx hb hts hown hK hP 0 rfl rfl dX11_readNamed_15 ?_
    refine lv_iload_n hx hb dX11_readNamed_18 rfl (lv_at hl 1 rfl) ?_
    refine lv_iload_n hx hb dX11_readNamed_19 rfl (lv_at hl 2 rfl) ?_
    refine lv_aload_n hx hb dX11_readNamed_20 rfl (lv_at hl 0 rfl) ?_
    refine gf_X11_43 hx hb hts hown hK hP 0 rfl rfl dX11_readNamed_21 ?_
    refine jr_i (rSr (As := [.ref vmm, .int vb, .int vn, .long vowd]) (rest := [.ref vo]) ⟨hx, hb, hml, hown, hts⟩ (m_findIn l dC dI cy vmm vmmf vb vn vowd r_vb r_vn hbn) (cw_X11_167 hts rfl rfl ⟨Nat.le_of_ble_eq_true rfl, Nat.le_of_ble_eq_true rfl⟩) hP hK [2] rfl rfl hl.1 rfl (Nat.le_of_ble_eq_true rfl) dX11_readNamed_24 ⟨Nat.le_of_ble_eq_true rfl, Nat.le_of_ble_eq_true rfl⟩) hP hS (fun r_10 H locs hp_11 hP hS => ?_)
    have hp_11 : (-1 ≤ (r_10 : Int32).toInt ∧ (r_10 : Int32).toInt ≤ 9) ∧ ((r_10 : Int32).toInt < (vn : Int32).toInt) := hp_11
    obtain ⟨q_12, q_13⟩ := hp_11
    refine pf_X11_79 hx hb hts hown hK hP hD hS 0 rfl rfl rfl (Nat.le_of_ble_eq_true rfl) dX11_readNamed_27 (fun H locs hP hD hS => ?_)
    have hP : va_P (dC, dI) vwCl [(vo, .inr (12, [.int voth, .ref vmt, .int votp, .int vosz, .int volm, .int voto, .int vofr, .int vokd, .int vonu, .int vosg, .int vofa, .int vopl, .long vowd, .int r_10, .ref vmn, .ref vmr, .ref vmk, .ref vms, .ref vma, .ref vmm, .ref vmrn, .ref vmkn, .ref vmik, .ref vmon, .int vosm, .int vohp, .ref vmw, .ref vmf, .ref vmb, .int vomb, .ref vmd, .ref vmc, .int vocm, .int voct, .int vocy, .ref vmx, .int votx, .int vose, .ref vml, .ref vmwr, .int voln, .int vohw, .ref vmno, .int vond, .int voon, .int vowi, .int votop])), (vmt, .inl (cy 0, 940, .inl vmtf)), (vmm, .inl (cy 1, 17, .inr (.inl vmmf)))] H := hP
    have hD : va_D A [(vo, .inr (12, [.int voth, .ref vmt, .int votp, .int vosz, .int volm, .int voto, .int vofr, .int vokd, .int vonu, .int vosg, .int vofa, .int vopl, .long vowd, .int r_10, .ref vmn, .ref vmr, .ref vmk, .ref vms, .ref vma, .ref vmm, .ref vmrn, .ref vmkn, .ref vmik, .ref vmon, .int vosm, .int vohp, .ref vmw, .ref vmf, .ref vmb, .int vomb, .ref vmd, .ref vmc, .int vocm, .int voct, .int vocy, .ref vmx, .int votx, .int vose, .ref vml, .ref vmwr, .int voln, .int vohw, .ref vmno, .int vond, .int voon, .int vowi, .int votop])), (vmt, .inl (cy 0, 940, .inl vmtf)), (vmm, .inl (cy 1, 17, .inr (.inl vmmf)))] := hD
    refine lv_aload_n hx hb dX11_readNamed_30 rfl (lv_at hl 0 rfl) ?_
    refine gf_X11_79 hx hb hts hown hK hP 0 rfl rfl dX11_readNamed_31 ?_
    refine lv_iconst (v := (-1)) hx hb dX11_readNamed_34 (by decide) ?_
    have k_m1 : ((-1) : Int32).toInt = (-1) := by decide
    refine lv_icmp_ne (tgt := 44) hx hb dX11_readNamed_35 (by decide) (fun c_14 => ?_) (fun c_14 => ?_)
    · skip
      have c_14 : ¬ (r_10.toInt = ((-1) : Int32).toInt) := fun h9 => c_14 (i_eq.mpr h9)
      refine lv_aload_n hx hb dX11_readNamed_44 rfl (lv_at hl 0 rfl) ?_
      refine jn_v (wr := [(vmm, .inl (cy 1, 17, .inr (.inl vmmf)))]) (rV (As := []) (rest := []) (ci := 12) ⟨hx, hb, hml, hown, hts⟩ (m_go l dC dI cy _ vo voth vmt votp vosz volm voto vofr vokd vonu vosg vofa vopl vowd r_10 vmn vmr vmk vms vma vmm vmrn vmkn vmik vmon vosm vohp vmw vmf vmb vomb vmd vmc vocm voct vocy vmx votx vose vml vmwr voln vohw vmno vond voon vowi votop vmtf r_vosz r_voto p_vmtf) (cw_X11_82 hts rfl rfl ⟨Nat.le_of_ble_eq_true rfl, Nat.le_of_ble_eq_true rfl⟩) hP hD hK [0, 1] rfl rfl rfl rfl bl0 e0 rfl hl.1 rfl (Nat.le_of_ble_eq_true rfl) dX11_readNamed_45 ⟨Nat.le_of_ble_eq_true rfl, Nat.le_of_ble_eq_true rfl⟩) hP hD hS hA [0, 1] [2] rfl rfl rfl (by decide) (fun u_17 H locs hp_16 hP hD hS => ?_)
      obtain ⟨voto_18, vofr_19, vokd_20, vosg_21, vowd_22, vonu_23⟩ := u_17
      have hp_16 : (0 ≤ (voto_18 : Int32).toInt ∧ (voto_18 : Int32).toInt ≤ 940) ∧ ((voto : Int32).toInt ≤ (voto_18 : Int32).toInt) ∧ (((vokd_20 : Int32).toInt = 0 ∨ (vokd_20 : Int32).toInt = 1 ∨ (voto : Int32).toInt + 1 ≤ (voto_18 : Int32).toInt)) := hp_16
      obtain ⟨q_24, q_25, q_26⟩ := hp_16
      have hP : va_P (dC, dI) vwCl [(vmm, .inl (cy 1, 17, .inr (.inl vmmf))), (vo, .inr (12, [.int voth, .ref vmt, .int votp, .int vosz, .int volm, .int voto_18, .int vofr_19, .int vokd_20, .int vonu_23, .int vosg_21, .int vofa, .int vopl, .long vowd_22, .int r_10, .ref vmn, .ref vmr, .ref vmk, .ref vms, .ref vma, .ref vmm, .ref vmrn, .ref vmkn, .ref vmik, .ref vmon, .int vosm, .int vohp, .ref vmw, .ref vmf, .ref vmb, .int vomb, .ref vmd, .ref vmc, .int vocm, .int voct, .int vocy, .ref vmx, .int votx, .int vose, .ref vml, .ref vmwr, .int voln, .int vohw, .ref vmno, .int vond, .int voon, .int vowi, .int votop])), (vmt, .inl (cy 0, 940, .inl vmtf))] H := hP
      have hD : va_D A [(vmm, .inl (cy 1, 17, .inr (.inl vmmf))), (vo, .inr (12, [.int voth, .ref vmt, .int votp, .int vosz, .int volm, .int voto_18, .int vofr_19, .int vokd_20, .int vonu_23, .int vosg_21, .int vofa, .int vopl, .long vowd_22, .int r_10, .ref vmn, .ref vmr, .ref vmk, .ref vms, .ref vma, .ref vmm, .ref vmrn, .ref vmkn, .ref vmik, .ref vmon, .int vosm, .int vohp, .ref vmw, .ref vmf, .ref vmb, .int vomb, .ref vmd, .ref vmc, .int vocm, .int voct, .int vocy, .ref vmx, .int votx, .int vose, .ref vml, .ref vmwr, .int voln, .int vohw, .ref vmno, .int vond, .int voon, .int vowi, .int votop])), (vmt, .inl (cy 0, 940, .inl vmtf))] := hD
      refine lv_iconst (v := 1) hx hb dX11_readNamed_48 (by decide) ?_
      have k_1 : (1 : Int32).toInt = 1 := by decide
      rw [hQ9]
      exact re_z (voto_18, vofr_19, vokd_20, vosg_21, vowd_22, vonu_23, vofa, vopl, r_10) hx hb hr hlocks (Or.inr rfl) ⟨(show ((1 : Int32) = 0) ∨ ((1 : Int32) = 1 ∧ 0 ≤ (r_10 : Int32).toInt ∧ (r_10 : Int32).toInt < (vn : Int32).toInt) from (Or.inr (⟨rfl, by omega, by omega⟩))), (show 0 ≤ (voto_18 : Int32).toInt ∧ (voto_18 : Int32).toInt ≤ 940 from ⟨by omega, by omega⟩), (show -1 ≤ (r_10 : Int32).toInt ∧ (r_10 : Int32).toInt ≤ 999 from ⟨by omega, by omega⟩)⟩ (hP.sub [1, 2, 0] rfl) (hD.sub [1, 2, 0] rfl rfl) hS dX11_readNamed_49
    · skip
      have c_14 : r_10.toInt = ((-1) : Int32).toInt := i_eq.mp c_14
      refine lv_aload_n hx hb dX11_readNamed_38 rfl (lv_at hl 0 rfl) ?_
      refine lv_iconst (v := 3) hx hb dX11_readNamed_39 (by decide) ?_
      have k_3 : (3 : Int32).toInt = 3 := by decide
      refine jn_i (wr := [(vmt, .inl (cy 0, 940, .inl vmtf)), (vmm, .inl (cy 1, 17, .inr (.inl vmmf)))]) (rV (As := [.int 3]) (rest := []) (ci := 12) ⟨hx, hb, hml, hown, hts⟩ (m_bad l dC dI cy _ vo voth vmt votp vosz volm voto vofr vokd vonu vosg vofa vopl vowd r_10 vmn vmr vmk vms vma vmm vmrn vmkn vmik vmon vosm vohp vmw vmf vmb vomb vmd vmc vocm voct vocy vmx votx vose vml vmwr voln vohw vmno vond voon vowi votop 3 ) (cw_X11_72 hts rfl rfl ⟨Nat.le_of_ble_eq_true rfl, Nat.le_of_ble_eq_true rfl⟩) hP hD hK [0] rfl rfl rfl rfl bl0 e0 rfl hl.1 rfl (Nat.le_of_ble_eq_true rfl) dX11_readNamed_40 ⟨Nat.le_of_ble_eq_true rfl, Nat.le_of_ble_eq_true rfl⟩) hP hD hS hA [0] [1, 2] rfl rfl rfl (by decide) (fun r_27 u_29 H locs hp_28 hP hD hS => ?_)
      obtain ⟨vofa_30, vopl_31⟩ := u_29
      have hp_28 : ((r_27 = 0)) := hp_28
      have q_32 := hp_28
      have hP : va_P (dC, dI) vwCl [(vmt, .inl (cy 0, 940, .inl vmtf)), (vmm, .inl (cy 1, 17, .inr (.inl vmmf))), (vo, .inr (12, [.int voth, .ref vmt, .int votp, .int vosz, .int volm, .int voto, .int vofr, .int vokd, .int vonu, .int vosg, .int vofa_30, .int vopl_31, .long vowd, .int r_10, .ref vmn, .ref vmr, .ref vmk, .ref vms, .ref vma, .ref vmm, .ref vmrn, .ref vmkn, .ref vmik, .ref vmon, .int vosm, .int vohp, .ref vmw, .ref vmf, .ref vmb, .int vomb, .ref vmd, .ref vmc, .int vocm, .int voct, .int vocy, .ref vmx, .int votx, .int vose, .ref vml, .ref vmwr, .int voln, .int vohw, .ref vmno, .int vond, .int voon, .int vowi, .int votop]))] H := hP
      have hD : va_D A [(vmt, .inl (cy 0, 940, .inl vmtf)), (vmm, .inl (cy 1, 17, .inr (.inl vmmf))), (vo, .inr (12, [.int voth, .ref vmt, .int votp, .int vosz, .int volm, .int voto, .int vofr, .int vokd, .int vonu, .int vosg, .int vofa_30, .int vopl_31, .long vowd, .int r_10, .ref vmn, .ref vmr, .ref vmk, .ref vms, .ref vma, .ref vmm, .ref vmrn, .ref vmkn, .ref vmik, .ref vmon, .int vosm, .int vohp, .ref vmw, .ref vmf, .ref vmb, .int vomb, .ref vmd, .ref vmc, .int vocm, .int voct, .int vocy, .ref vmx, .int votx, .int vose, .ref vml, .ref vmwr, .int voln, .int vohw, .ref vmno, .int vond, .int voon, .int vowi, .int votop]))] := hD
      have aq_32 := q_32
      · skip
        refine as_i 0 aq_32 ?_
        have k_0 : (0 : Int32).toInt = 0 := by decide
        rw [hQ9]
        exact re_z (voto, vofr, vokd, vosg, vowd, vonu, vofa_30, vopl_31, r_10) hx hb hr hlocks (Or.inl rfl) ⟨(show ((0 : Int32) = 0) ∨ ((0 : Int32) = 1 ∧ 0 ≤ (r_10 : Int32).toInt ∧ (r_10 : Int32).toInt < (vn : Int32).toInt) from (Or.inl rfl)), (show 0 ≤ (voto : Int32).toInt ∧ (voto : Int32).toInt ≤ 940 from ⟨by omega, by omega⟩), (show -1 ≤ (r_10 : Int32).toInt ∧ (r_10 : Int32).toInt ≤ 999 from ⟨by omega, by omega⟩)⟩ (hP.sub [2, 0, 1] rfl) (hD.sub [2, 0, 1] rfl rfl) hS dX11_readNamed_43
abbrev cX11_readManName : ByteArray := prog_13_method_110_code
def yX11_readManName : MethodName := ⟨RX11, "readManName", "()Z"⟩
theorem t2002 : Cond.code yX11_readManName cX11_readManName 1 (some .boolean) ∈ GW := gw_mem 2116 (by decide +kernel) (by decide +kernel)
abbrev O_m_readManName (cy : Nat → ClassId) (vnh : Nat → Int32) (vo : Nat) (voth : Int32) (vmt : Nat) (votp : Int32) (vosz : Int32) (volm : Int32) (voto : Int32) (vofr : Int32) (vokd : Int32) (vonu : Int32) (vosg : Int32) (vofa : Int32) (vopl : Int32) (vowd : Int64) (votd : Int32) (vmn : Nat) (vmr : Nat) (vmk : Nat) (vms : Nat) (vma : Nat) (vmm : Nat) (vmrn : Nat) (vmkn : Nat) (vmik : Nat) (vmon : Nat) (vosm : Int32) (vohp : Int32) (vmw : Nat) (vmf : Nat) (vmb : Nat) (vomb : Int32) (vmd : Nat) (vmc : Nat) (vocm : Int32) (voct : Int32) (vocy : Int32) (vmx : Nat) (votx : Int32) (vose : Int32) (vml : Nat) (vmwr : Nat) (voln : Int32) (vohw : Int32) (vmno : Nat) (vond : Int32) (voon : Int32) (vowi : Int32) (votop : Int32) (vmtf : Nat → Int32) (vmnf : Nat → Int32) (vmmf : Nat → Int64) (u : Int32 × Int32 × Int32 × Int32 × Int64 × Int32 × Int32 × Int32 × Int32) : va_W := [(vo, .inr (12, [.int voth, .ref vmt, .int votp, .int vosz, .int volm, .int u.1, .int u.2.1, .int u.2.2.1, .int u.2.2.2.2.2.1, .int u.2.2.2.1, .int u.2.2.2.2.2.2.1, .int u.2.2.2.2.2.2.2.1, .long u.2.2.2.2.1, .int u.2.2.2.2.2.2.2.2, .ref vmn, .ref vmr, .ref vmk, .ref vms, .ref vma, .ref vmm, .ref vmrn, .ref vmkn, .ref vmik, .ref vmon, .int vosm, .int vohp, .ref vmw, .ref vmf, .ref vmb, .int vomb, .ref vmd, .ref vmc, .int vocm, .int voct, .int vocy, .ref vmx, .int votx, .int vose, .ref vml, .ref vmwr, .int voln, .int vohw, .ref vmno, .int vond, .int voon, .int vowi, .int votop])), (vmt, .inl (cy 0, 940, .inl vmtf)), (vmn, .inl (cy 0, 575, .inl vmnf)), (vmm, .inl (cy 1, 17, .inr (.inl vmmf)))]
theorem dX11_readManName_0 : decode cX11_readManName 0 = .ok (.aload_n 0, 1) := by decide +kernel
theorem dX11_readManName_1 : decode cX11_readManName 1 = .ok (.iconst 0, 1) := by decide +kernel
theorem dX11_readManName_2 : decode cX11_readManName 2 = .ok (.aload_n 0, 1) := by decide +kernel
theorem dX11_readManName_3 : decode cX11_readManName 3 = .ok (.getfield 98, 3) := by decide +kernel
theorem dX11_readManName_6 : decode cX11_readManName 6 = .ok (.iconst 0, 1) := by decide +kernel
theorem dX11_readManName_7 : decode cX11_readManName 7 = .ok (.iaload, 1) := by decide +kernel
theorem dX11_readManName_8 : decode cX11_readManName 8 = .ok (.invokevirtual 370, 3) := by decide +kernel
theorem t1995 : Cond.methodLink RX11 370 yX11_readNamed ∈ GW := gw_mem 2109 (by decide +kernel) (by decide +kernel)
theorem t1997 : Cond.instanceMethod yX11_readNamed ∈ GW := gw_mem 2111 (by decide +kernel) (by decide +kernel)
theorem s101 : Cond.selects RX11 yX11_readNamed yX11_readNamed ∈ GW := gw_mem 101 (by decide +kernel) (by decide +kernel)
theorem cw_X11_370 {R : Room} {s : State} {args : Array Value} {rm : Room} {mc ms : Nat} (hts : ∀ w ∈ GW, w.before args s = true) (hrc : rm.cells = mc) (hrs : rm.slots = ms) (hR : rm.frames + 1 ≤ R.frames ∧ 8 + (3 + 11) + rm.locals ≤ R.locals) : CallW R s args RX11 RX11 370 yX11_readNamed cX11_readNamed 3 (some .boolean) (wl yX11_readNamed cX11_readNamed 3 (some .boolean)) rm mc ms 2 := cwV 2 hts (gi_V t1995 t1997 s101 t18 t1998) rfl hrc hrs (by decide +kernel) hR
theorem dX11_readManName_11 : decode cX11_readManName 11 = .ok (.ireturn, 1) := by decide +kernel
set_option maxHeartbeats 4000000 in
set_option maxRecDepth 100000 in
theorem m_readManName (l : Launch) (dC : Nat → ClassId) (dI : Nat → Nat → Nat) (cy : Nat → ClassId) (sz : Nat) (vnh : Nat → Int32) (vo : Nat) (voth : Int32) (vmt : Nat) (votp : Int32) (vosz : Int32) (volm : Int32) (voto : Int32) (vofr : Int32) (vokd : Int32) (vonu : Int32) (vosg : Int32) (vofa : Int32) (vopl : Int32) (vowd : Int64) (votd : Int32) (vmn : Nat) (vmr : Nat) (vmk : Nat) (vms : Nat) (vma : Nat) (vmm : Nat) (vmrn : Nat) (vmkn : Nat) (vmik : Nat) (vmon : Nat) (vosm : Int32) (vohp : Int32) (vmw : Nat) (vmf : Nat) (vmb : Nat) (vomb : Int32) (vmd : Nat) (vmc : Nat) (vocm : Int32) (voct : Int32) (vocy : Int32) (vmx : Nat) (votx : Int32) (vose : Int32) (vml : Nat) (vmwr : Nat) (voln : Int32) (vohw : Int32) (vmno : Nat) (vond : Int32) (voon : Int32) (vowi : Int32) (votop : Int32) (vmtf : Nat → Int32) (vmnf : Nat → Int32) (vmmf : Nat → Int64) (r_vosz : 0 ≤ (vosz : Int32).toInt ∧ (vosz : Int32).toInt ≤ 940) (r_voto : 0 ≤ (voto : Int32).toInt ∧ (voto : Int32).toInt ≤ 940) (r_votd : -1 ≤ (votd : Int32).toInt ∧ (votd : Int32).toInt ≤ 999) (p_vmtf : Rg vmtf 940 0 255) (p_vmnf : NW vnh vmnf) : Met l yX11_readManName (wl yX11_readManName cX11_readManName 1 (some .boolean)) ({ frames := 4, cells := 0, slots := 0, locals := 256 }) (Pw (dC, dI) vwCl cy [(vo, .inr (12, [.int voth, .ref vmt, .int votp, .int vosz, .int volm, .int voto, .int vofr, .int vokd, .int vonu, .int vosg, .int vofa, .int vopl, .long vowd, .int votd, .ref vmn, .ref vmr, .ref vmk, .ref vms, .ref vma, .ref vmm, .ref vmrn, .ref vmkn, .ref vmik, .ref vmon, .int vosm, .int vohp, .ref vmw, .ref vmf, .ref vmb, .int vomb, .ref vmd, .ref vmc, .int vocm, .int voct, .int vocy, .ref vmx, .int votx, .int vose, .ref vml, .ref vmwr, .int voln, .int vohw, .ref vmno, .int vond, .int voon, .int vowi, .int votop])), (vmt, .inl (cy 0, 940, .inl vmtf)), (vmn, .inl (cy 0, 575, .inl vmnf)), (vmm, .inl (cy 1, 17, .inr (.inl vmmf)))] sz [.ref vo] nE) (Qi (dC, dI) vwCl (fun (r : Int32) (u : Int32 × Int32 × Int32 × Int32 × Int64 × Int32 × Int32 × Int32 × Int32) => ((r = 0) ∨ (r = 1 ∧ 0 ≤ (u.2.2.2.2.2.2.2.2 : Int32).toInt ∧ (u.2.2.2.2.2.2.2.2 : Int32).toInt ≤ 6)) ∧ (0 ≤ (u.1 : Int32).toInt ∧ (u.1 : Int32).toInt ≤ 940) ∧ (-1 ≤ (u.2.2.2.2.2.2.2.2 : Int32).toInt ∧ (u.2.2.2.2.2.2.2.2 : Int32).toInt ≤ 999)) (O_m_readManName cy vnh vo voth vmt votp vosz volm voto vofr vokd vonu vosg vofa vopl vowd votd vmn vmr vmk vms vma vmm vmrn vmkn vmik vmon vosm vohp vmw vmf vmb vomb vmd vmc vocm voct vocy vmx votx vose vml vmwr voln vohw vmno vond voon vowi votop vmtf vmnf vmmf) (va_A [(vo, .inr (12, [.int voth, .ref vmt, .int votp, .int vosz, .int volm, .int voto, .int vofr, .int vokd, .int vonu, .int vosg, .int vofa, .int vopl, .long vowd, .int votd, .ref vmn, .ref vmr, .ref vmk, .ref vms, .ref vma, .ref vmm, .ref vmrn, .ref vmkn, .ref vmik, .ref vmon, .int vosm, .int vohp, .ref vmw, .ref vmf, .ref vmb, .int vomb, .ref vmd, .ref vmc, .int vocm, .int voct, .int vocy, .ref vmx, .int votx, .int vose, .ref vml, .ref vmwr, .int voln, .int vohw, .ref vmno, .int vond, .int voon, .int vowi, .int votop])), (vmt, .inl (cy 0, 940, .inl vmtf)), (vmn, .inl (cy 0, 575, .inl vmnf)), (vmm, .inl (cy 1, 17, .inr (.inl vmmf)))] sz)) 0 0 (va_A [(vo, .inr (12, [.int voth, .ref vmt, .int votp, .int vosz, .int volm, .int voto, .int vofr, .int vokd, .int vonu, .int vosg, .int vofa, .int vopl, .long vowd, .int votd, .ref vmn, .ref vmr, .ref vmk, .ref vms, .ref vma, .ref vmm, .ref vmrn, .ref vmkn, .ref vmik, .ref vmon, .int vosm, .int vohp, .ref vmw, .ref vmf, .ref vmb, .int vomb, .ref vmd, .ref vmc, .int vocm, .int voct, .int vocy, .ref vmx, .int votx, .int vose, .ref vml, .ref vmwr, .int voln, .int vohw, .ref vmno, .int vond, .int voon, .int vowi, .int votop])), (vmt, .inl (cy 0, 940, .inl vmtf)), (vmn, .inl (cy 0, 575, .inl vmnf)), (vmm, .inl (cy 1, 17, .inr (.inl vmmf)))] sz) := by
  refine mw (Qc := Qi (dC, dI) vwCl (fun (r : Int32) (u : Int32 × Int32 × Int32 × Int32 × Int64 × Int32 × Int32 × Int32 × Int32) => ((r = 0) ∨ (r = 1 ∧ 0 ≤ (u.2.2.2.2.2.2.2.2 : Int32).toInt ∧ (u.2.2.2.2.2.2.2.2 : Int32).toInt ≤ 6)) ∧ (0 ≤ (u.1 : Int32).toInt ∧ (u.1 : Int32).toInt ≤ 940) ∧ (-1 ≤ (u.2.2.2.2.2.2.2.2 : Int32).toInt ∧ (u.2.2.2.2.2.2.2.2 : Int32).toInt ≤ 999)) (O_m_readManName cy vnh vo voth vmt votp vosz volm voto vofr vokd vonu vosg vofa vopl vowd votd vmn vmr vmk vms vma vmm vmrn vmkn vmik vmon vosm vohp vmw vmf vmb vomb vmd vmc vocm voct vocy vmx votx vose vml vmwr voln vohw vmno vond voon vowi votop vmtf vmnf vmmf)) RX11 rfl (by decide +kernel) (Nat.le_of_ble_eq_true rfl) ?_
  intro p e s m below meth c A hx hb hr hlocks av9 hav hts hown hnm hml hK hP hD hA hS hE hAe Q9 hQ9 ls hl
  have hl : lv_has ls 1 [(0, .ref vo)] := hl
  refine lv_aload_n hx hb dX11_readManName_0 rfl (lv_at hl 0 rfl) ?_
  refine lv_iconst (v := 0) hx hb dX11_readManName_1 (by decide) ?_
  refine lv_aload_n hx hb dX11_readManName_2 rfl (lv_at hl 0 rfl) ?_
  refine gf_X11_98 hx hb hts hown hK hP 0 rfl rfl dX11_readManName_3 ?_
  refine lv_iconst (v := 0) hx hb dX11_readManName_6 (by decide) ?_
  have k_0 : (0 : Int32).toInt = 0 := by decide
  have hin_1 : vp_in (0 : Int32) 575 := vp_in_iff.mpr ⟨by omega, by omega⟩
  refine va_iald hx hb hK hP 2 0 rfl rfl hin_1 dX11_readManName_7 ?_
  refine lv_topi (fun z_2 ez_2 => ?_)
  have bz_2 := p_vmnf.a0 (x := 0) ⟨by omega, by omega⟩ ez_2
  have tz_2 : z_2.toInt = (vmnf 0).toInt := by rw [ez_2]; rfl
  refine jn_i (wr := [(vmn, .inl (cy 0, 575, .inl vmnf))]) (rV (As := [.int 0, .int z_2]) (rest := []) (ci := 12) ⟨hx, hb, hml, hown, hts⟩ (m_readNamed l dC dI cy _ vo voth vmt votp vosz volm voto vofr vokd vonu vosg vofa vopl vowd votd vmn vmr vmk vms vma vmm vmrn vmkn vmik vmon vosm vohp vmw vmf vmb vomb vmd vmc vocm voct vocy vmx votx vose vml vmwr voln vohw vmno vond voon vowi votop vmtf vmmf 0 z_2 r_vosz r_voto r_votd ⟨by omega, by omega⟩ ⟨by omega, by omega⟩ p_vmtf (by omega)) (cw_X11_370 hts rfl rfl ⟨Nat.le_of_ble_eq_true rfl, Nat.le_of_ble_eq_true rfl⟩) hP hD hK [0, 1, 3] rfl rfl rfl rfl bl0 e0 rfl hl.1 rfl (Nat.le_of_ble_eq_true rfl) dX11_readManName_8 ⟨Nat.le_of_ble_eq_true rfl, Nat.le_of_ble_eq_true rfl⟩) hP hD hS hA [0, 1, 3] [2] rfl rfl rfl (by decide) (fun r_3 u_5 H locs hp_4 hP hD hS => ?_)
  obtain ⟨voto_6, vofr_7, vokd_8, vosg_9, vowd_10, vonu_11, vofa_12, vopl_13, votd_14⟩ := u_5
  have hp_4 : ((r_3 = 0) ∨ (r_3 = 1 ∧ 0 ≤ (votd_14 : Int32).toInt ∧ (votd_14 : Int32).toInt < (z_2 : Int32).toInt)) ∧ (0 ≤ (voto_6 : Int32).toInt ∧ (voto_6 : Int32).toInt ≤ 940) ∧ (-1 ≤ (votd_14 : Int32).toInt ∧ (votd_14 : Int32).toInt ≤ 999) := hp_4
  obtain ⟨q_15, q_16, q_17⟩ := hp_4
  have hP : va_P (dC, dI) vwCl [(vmn, .inl (cy 0, 575, .inl vmnf)), (vo, .inr (12, [.int voth, .ref vmt, .int votp, .int vosz, .int volm, .int voto_6, .int vofr_7, .int vokd_8, .int vonu_11, .int vosg_9, .int vofa_12, .int vopl_13, .long vowd_10, .int votd_14, .ref vmn, .ref vmr, .ref vmk, .ref vms, .ref vma, .ref vmm, .ref vmrn, .ref vmkn, .ref vmik, .ref vmon, .int vosm, .int vohp, .ref vmw, .ref vmf, .ref vmb, .int vomb, .ref vmd, .ref vmc, .int vocm, .int voct, .int vocy, .ref vmx, .int votx, .int vose, .ref vml, .ref vmwr, .int voln, .int vohw, .ref vmno, .int vond, .int voon, .int vowi, .int votop])), (vmt, .inl (cy 0, 940, .inl vmtf)), (vmm, .inl (cy 1, 17, .inr (.inl vmmf)))] H := hP
  have hD : va_D A [(vmn, .inl (cy 0, 575, .inl vmnf)), (vo, .inr (12, [.int voth, .ref vmt, .int votp, .int vosz, .int volm, .int voto_6, .int vofr_7, .int vokd_8, .int vonu_11, .int vosg_9, .int vofa_12, .int vopl_13, .long vowd_10, .int votd_14, .ref vmn, .ref vmr, .ref vmk, .ref vms, .ref vma, .ref vmm, .ref vmrn, .ref vmkn, .ref vmik, .ref vmon, .int vosm, .int vohp, .ref vmw, .ref vmf, .ref vmb, .int vomb, .ref vmd, .ref vmc, .int vocm, .int voct, .int vocy, .ref vmx, .int votx, .int vose, .ref vml, .ref vmwr, .int voln, .int vohw, .ref vmno, .int vond, .int voon, .int vowi, .int votop])), (vmt, .inl (cy 0, 940, .inl vmtf)), (vmm, .inl (cy 1, 17, .inr (.inl vmmf)))] := hD
  rcases q_15 with aq_15 | ⟨aq_15, f0q_15, f1q_15⟩
  · skip
    refine as_i 0 aq_15 ?_
    rw [hQ9]
    exact re_z (voto_6, vofr_7, vokd_8, vosg_9, vowd_10, vonu_11, vofa_12, vopl_13, votd_14) hx hb hr hlocks (Or.inl rfl) ⟨(show ((0 : Int32) = 0) ∨ ((0 : Int32) = 1 ∧ 0 ≤ (votd_14 : Int32).toInt ∧ (votd_14 : Int32).toInt ≤ 6) from (Or.inl rfl)), (show 0 ≤ (voto_6 : Int32).toInt ∧ (voto_6 : Int32).toInt ≤ 940 from ⟨by omega, by omega⟩), (show -1 ≤ (votd_14 : Int32).toInt ∧ (votd_14 : Int32).toInt ≤ 999 from ⟨by omega, by omega⟩)⟩ (hP.sub [1, 2, 0, 3] rfl) (hD.sub [1, 2, 0, 3] rfl rfl) hS dX11_readManName_11
  · skip
    refine as_i 1 aq_15 ?_
    have k_1 : (1 : Int32).toInt = 1 := by decide
    rw [hQ9]
    exact re_z (voto_6, vofr_7, vokd_8, vosg_9, vowd_10, vonu_11, vofa_12, vopl_13, votd_14) hx hb hr hlocks (Or.inr rfl) ⟨(show ((1 : Int32) = 0) ∨ ((1 : Int32) = 1 ∧ 0 ≤ (votd_14 : Int32).toInt ∧ (votd_14 : Int32).toInt ≤ 6) from (Or.inr (⟨rfl, by omega, by omega⟩))), (show 0 ≤ (voto_6 : Int32).toInt ∧ (voto_6 : Int32).toInt ≤ 940 from ⟨by omega, by omega⟩), (show -1 ≤ (votd_14 : Int32).toInt ∧ (votd_14 : Int32).toInt ≤ 999 from ⟨by omega, by omega⟩)⟩ (hP.sub [1, 2, 0, 3] rfl) (hD.sub [1, 2, 0, 3] rfl rfl) hS dX11_readManName_11
abbrev cX11_readDeedName : ByteArray := prog_13_method_111_code
def yX11_readDeedName : MethodName := ⟨RX11, "readDeedName", "()Z"⟩
theorem t1994 : Cond.code yX11_readDeedName cX11_readDeedName 1 (some .boolean) ∈ GW := gw_mem 2108 (by decide +kernel) (by decide +kernel)
abbrev O_m_readDeedName (cy : Nat → ClassId) (vnh : Nat → Int32) (vo : Nat) (voth : Int32) (vmt : Nat) (votp : Int32) (vosz : Int32) (volm : Int32) (voto : Int32) (vofr : Int32) (vokd : Int32) (vonu : Int32) (vosg : Int32) (vofa : Int32) (vopl : Int32) (vowd : Int64) (votd : Int32) (vmn : Nat) (vmr : Nat) (vmk : Nat) (vms : Nat) (vma : Nat) (vmm : Nat) (vmrn : Nat) (vmkn : Nat) (vmik : Nat) (vmon : Nat) (vosm : Int32) (vohp : Int32) (vmw : Nat) (vmf : Nat) (vmb : Nat) (vomb : Int32) (vmd : Nat) (vmc : Nat) (vocm : Int32) (voct : Int32) (vocy : Int32) (vmx : Nat) (votx : Int32) (vose : Int32) (vml : Nat) (vmwr : Nat) (voln : Int32) (vohw : Int32) (vmno : Nat) (vond : Int32) (voon : Int32) (vowi : Int32) (votop : Int32) (vmtf : Nat → Int32) (vmnf : Nat → Int32) (vmmf : Nat → Int64) (u : Int32 × Int32 × Int32 × Int32 × Int64 × Int32 × Int32 × Int32 × Int32) : va_W := [(vo, .inr (12, [.int voth, .ref vmt, .int votp, .int vosz, .int volm, .int u.1, .int u.2.1, .int u.2.2.1, .int u.2.2.2.2.2.1, .int u.2.2.2.1, .int u.2.2.2.2.2.2.1, .int u.2.2.2.2.2.2.2.1, .long u.2.2.2.2.1, .int u.2.2.2.2.2.2.2.2, .ref vmn, .ref vmr, .ref vmk, .ref vms, .ref vma, .ref vmm, .ref vmrn, .ref vmkn, .ref vmik, .ref vmon, .int vosm, .int vohp, .ref vmw, .ref vmf, .ref vmb, .int vomb, .ref vmd, .ref vmc, .int vocm, .int voct, .int vocy, .ref vmx, .int votx, .int vose, .ref vml, .ref vmwr, .int voln, .int vohw, .ref vmno, .int vond, .int voon, .int vowi, .int votop])), (vmt, .inl (cy 0, 940, .inl vmtf)), (vmn, .inl (cy 0, 575, .inl vmnf)), (vmm, .inl (cy 1, 17, .inr (.inl vmmf)))]
theorem dX11_readDeedName_0 : decode cX11_readDeedName 0 = .ok (.aload_n 0, 1) := by decide +kernel
theorem dX11_readDeedName_1 : decode cX11_readDeedName 1 = .ok (.bipush 7, 2) := by decide +kernel
theorem dX11_readDeedName_3 : decode cX11_readDeedName 3 = .ok (.aload_n 0, 1) := by decide +kernel
theorem dX11_readDeedName_4 : decode cX11_readDeedName 4 = .ok (.getfield 98, 3) := by decide +kernel
theorem dX11_readDeedName_7 : decode cX11_readDeedName 7 = .ok (.iconst 1, 1) := by decide +kernel
theorem dX11_readDeedName_8 : decode cX11_readDeedName 8 = .ok (.iaload, 1) := by decide +kernel
theorem dX11_readDeedName_9 : decode cX11_readDeedName 9 = .ok (.invokevirtual 370, 3) := by decide +kernel
theorem dX11_readDeedName_12 : decode cX11_readDeedName 12 = .ok (.ireturn, 1) := by decide +kernel
set_option maxHeartbeats 4000000 in
set_option maxRecDepth 100000 in
theorem m_readDeedName (l : Launch) (dC : Nat → ClassId) (dI : Nat → Nat → Nat) (cy : Nat → ClassId) (sz : Nat) (vnh : Nat → Int32) (vo : Nat) (voth : Int32) (vmt : Nat) (votp : Int32) (vosz : Int32) (volm : Int32) (voto : Int32) (vofr : Int32) (vokd : Int32) (vonu : Int32) (vosg : Int32) (vofa : Int32) (vopl : Int32) (vowd : Int64) (votd : Int32) (vmn : Nat) (vmr : Nat) (vmk : Nat) (vms : Nat) (vma : Nat) (vmm : Nat) (vmrn : Nat) (vmkn : Nat) (vmik : Nat) (vmon : Nat) (vosm : Int32) (vohp : Int32) (vmw : Nat) (vmf : Nat) (vmb : Nat) (vomb : Int32) (vmd : Nat) (vmc : Nat) (vocm : Int32) (voct : Int32) (vocy : Int32) (vmx : Nat) (votx : Int32) (vose : Int32) (vml : Nat) (vmwr : Nat) (voln : Int32) (vohw : Int32) (vmno : Nat) (vond : Int32) (voon : Int32) (vowi : Int32) (votop : Int32) (vmtf : Nat → Int32) (vmnf : Nat → Int32) (vmmf : Nat → Int64) (r_vosz : 0 ≤ (vosz : Int32).toInt ∧ (vosz : Int32).toInt ≤ 940) (r_voto : 0 ≤ (voto : Int32).toInt ∧ (voto : Int32).toInt ≤ 940) (r_votd : -1 ≤ (votd : Int32).toInt ∧ (votd : Int32).toInt ≤ 999) (p_vmtf : Rg vmtf 940 0 255) (p_vmnf : NW vnh vmnf) : Met l yX11_readDeedName (wl yX11_readDeedName cX11_readDeedName 1 (some .boolean)) ({ frames := 4, cells := 0, slots := 0, locals := 256 }) (Pw (dC, dI) vwCl cy [(vo, .inr (12, [.int voth, .ref vmt, .int votp, .int vosz, .int volm, .int voto, .int vofr, .int vokd, .int vonu, .int vosg, .int vofa, .int vopl, .long vowd, .int votd, .ref vmn, .ref vmr, .ref vmk, .ref vms, .ref vma, .ref vmm, .ref vmrn, .ref vmkn, .ref vmik, .ref vmon, .int vosm, .int vohp, .ref vmw, .ref vmf, .ref vmb, .int vomb, .ref vmd, .ref vmc, .int vocm, .int voct, .int vocy, .ref vmx, .int votx, .int vose, .ref vml, .ref vmwr, .int voln, .int vohw, .ref vmno, .int vond, .int voon, .int vowi, .int votop])), (vmt, .inl (cy 0, 940, .inl vmtf)), (vmn, .inl (cy 0, 575, .inl vmnf)), (vmm, .inl (cy 1, 17, .inr (.inl vmmf)))] sz [.ref vo] nE) (Qi (dC, dI) vwCl (fun (r : Int32) (u : Int32 × Int32 × Int32 × Int32 × Int64 × Int32 × Int32 × Int32 × Int32) => ((r = 0) ∨ (r = 1 ∧ 0 ≤ (u.2.2.2.2.2.2.2.2 : Int32).toInt ∧ (u.2.2.2.2.2.2.2.2 : Int32).toInt ≤ 9)) ∧ (0 ≤ (u.1 : Int32).toInt ∧ (u.1 : Int32).toInt ≤ 940) ∧ (-1 ≤ (u.2.2.2.2.2.2.2.2 : Int32).toInt ∧ (u.2.2.2.2.2.2.2.2 : Int32).toInt ≤ 999)) (O_m_readDeedName cy vnh vo voth vmt votp vosz volm voto vofr vokd vonu vosg vofa vopl vowd votd vmn vmr vmk vms vma vmm vmrn vmkn vmik vmon vosm vohp vmw vmf vmb vomb vmd vmc vocm voct vocy vmx votx vose vml vmwr voln vohw vmno vond voon vowi votop vmtf vmnf vmmf) (va_A [(vo, .inr (12, [.int voth, .ref vmt, .int votp, .int vosz, .int volm, .int voto, .int vofr, .int vokd, .int vonu, .int vosg, .int vofa, .int vopl, .long vowd, .int votd, .ref vmn, .ref vmr, .ref vmk, .ref vms, .ref vma, .ref vmm, .ref vmrn, .ref vmkn, .ref vmik, .ref vmon, .int vosm, .int vohp, .ref vmw, .ref vmf, .ref vmb, .int vomb, .ref vmd, .ref vmc, .int vocm, .int voct, .int vocy, .ref vmx, .int votx, .int vose, .ref vml, .ref vmwr, .int voln, .int vohw, .ref vmno, .int vond, .int voon, .int vowi, .int votop])), (vmt, .inl (cy 0, 940, .inl vmtf)), (vmn, .inl (cy 0, 575, .inl vmnf)), (vmm, .inl (cy 1, 17, .inr (.inl vmmf)))] sz)) 0 0 (va_A [(vo, .inr (12, [.int voth, .ref vmt, .int votp, .int vosz, .int volm, .int voto, .int vofr, .int vokd, .int vonu, .int vosg, .int vofa, .int vopl, .long vowd, .int votd, .ref vmn, .ref vmr, .ref vmk, .ref vms, .ref vma, .ref vmm, .ref vmrn, .ref vmkn, .ref vmik, .ref vmon, .int vosm, .int vohp, .ref vmw, .ref vmf, .ref vmb, .int vomb, .ref vmd, .ref vmc, .int vocm, .int voct, .int vocy, .ref vmx, .int votx, .int vose, .ref vml, .ref vmwr, .int voln, .int vohw, .ref vmno, .int vond, .int voon, .int vowi, .int votop])), (vmt, .inl (cy 0, 940, .inl vmtf)), (vmn, .inl (cy 0, 575, .inl vmnf)), (vmm, .inl (cy 1, 17, .inr (.inl vmmf)))] sz) := by
  refine mw (Qc := Qi (dC, dI) vwCl (fun (r : Int32) (u : Int32 × Int32 × Int32 × Int32 × Int64 × Int32 × Int32 × Int32 × Int32) => ((r = 0) ∨ (r = 1 ∧ 0 ≤ (u.2.2.2.2.2.2.2.2 : Int32).toInt ∧ (u.2.2.2.2.2.2.2.2 : Int32).toInt ≤ 9)) ∧ (0 ≤ (u.1 : Int32).toInt ∧ (u.1 : Int32).toInt ≤ 940) ∧ (-1 ≤ (u.2.2.2.2.2.2.2.2 : Int32).toInt ∧ (u.2.2.2.2.2.2.2.2 : Int32).toInt ≤ 999)) (O_m_readDeedName cy vnh vo voth vmt votp vosz volm voto vofr vokd vonu vosg vofa vopl vowd votd vmn vmr vmk vms vma vmm vmrn vmkn vmik vmon vosm vohp vmw vmf vmb vomb vmd vmc vocm voct vocy vmx votx vose vml vmwr voln vohw vmno vond voon vowi votop vmtf vmnf vmmf)) RX11 rfl (by decide +kernel) (Nat.le_of_ble_eq_true rfl) ?_
  intro p e s m below meth c A hx hb hr hlocks av9 hav hts hown hnm hml hK hP hD hA hS hE hAe Q9 hQ9 ls hl
  have hl : lv_has ls 1 [(0, .ref vo)] := hl
  refine lv_aload_n hx hb dX11_readDeedName_0 rfl (lv_at hl 0 rfl) ?_
  refine lv_bipush (v := 7) hx hb dX11_readDeedName_1 (by decide) ?_
  refine lv_aload_n hx hb dX11_readDeedName_3 rfl (lv_at hl 0 rfl) ?_
  refine gf_X11_98 hx hb hts hown hK hP 0 rfl rfl dX11_readDeedName_4 ?_
  refine lv_iconst (v := 1) hx hb dX11_readDeedName_7 (by decide) ?_
  have k_1 : (1 : Int32).toInt = 1 := by decide
  have hin_1 : vp_in (1 : Int32) 575 := vp_in_iff.mpr ⟨by omega, by omega⟩
  refine va_iald hx hb hK hP 2 0 rfl rfl hin_1 dX11_readDeedName_8 ?_
  refine lv_topi (fun z_2 ez_2 => ?_)
  have bz_2 := p_vmnf.a1 (x := 1) ⟨by omega, by omega⟩ ez_2
  have tz_2 : z_2.toInt = (vmnf 1).toInt := by rw [ez_2]; rfl
  have k_7 : (7 : Int32).toInt = 7 := by decide
  refine jn_i (wr := [(vmn, .inl (cy 0, 575, .inl vmnf))]) (rV (As := [.int 7, .int z_2]) (rest := []) (ci := 12) ⟨hx, hb, hml, hown, hts⟩ (m_readNamed l dC dI cy _ vo voth vmt votp vosz volm voto vofr vokd vonu vosg vofa vopl vowd votd vmn vmr vmk vms vma vmm vmrn vmkn vmik vmon vosm vohp vmw vmf vmb vomb vmd vmc vocm voct vocy vmx votx vose vml vmwr voln vohw vmno vond voon vowi votop vmtf vmmf 7 z_2 r_vosz r_voto r_votd ⟨by omega, by omega⟩ ⟨by omega, by omega⟩ p_vmtf (by omega)) (cw_X11_370 hts rfl rfl ⟨Nat.le_of_ble_eq_true rfl, Nat.le_of_ble_eq_true rfl⟩) hP hD hK [0, 1, 3] rfl rfl rfl rfl bl0 e0 rfl hl.1 rfl (Nat.le_of_ble_eq_true rfl) dX11_readDeedName_9 ⟨Nat.le_of_ble_eq_true rfl, Nat.le_of_ble_eq_true rfl⟩) hP hD hS hA [0, 1, 3] [2] rfl rfl rfl (by decide) (fun r_3 u_5 H locs hp_4 hP hD hS => ?_)
  obtain ⟨voto_6, vofr_7, vokd_8, vosg_9, vowd_10, vonu_11, vofa_12, vopl_13, votd_14⟩ := u_5
  have hp_4 : ((r_3 = 0) ∨ (r_3 = 1 ∧ 0 ≤ (votd_14 : Int32).toInt ∧ (votd_14 : Int32).toInt < (z_2 : Int32).toInt)) ∧ (0 ≤ (voto_6 : Int32).toInt ∧ (voto_6 : Int32).toInt ≤ 940) ∧ (-1 ≤ (votd_14 : Int32).toInt ∧ (votd_14 : Int32).toInt ≤ 999) := hp_4
  obtain ⟨q_15, q_16, q_17⟩ := hp_4
  have hP : va_P (dC, dI) vwCl [(vmn, .inl (cy 0, 575, .inl vmnf)), (vo, .inr (12, [.int voth, .ref vmt, .int votp, .int vosz, .int volm, .int voto_6, .int vofr_7, .int vokd_8, .int vonu_11, .int vosg_9, .int vofa_12, .int vopl_13, .long vowd_10, .int votd_14, .ref vmn, .ref vmr, .ref vmk, .ref vms, .ref vma, .ref vmm, .ref vmrn, .ref vmkn, .ref vmik, .ref vmon, .int vosm, .int vohp, .ref vmw, .ref vmf, .ref vmb, .int vomb, .ref vmd, .ref vmc, .int vocm, .int voct, .int vocy, .ref vmx, .int votx, .int vose, .ref vml, .ref vmwr, .int voln, .int vohw, .ref vmno, .int vond, .int voon, .int vowi, .int votop])), (vmt, .inl (cy 0, 940, .inl vmtf)), (vmm, .inl (cy 1, 17, .inr (.inl vmmf)))] H := hP
  have hD : va_D A [(vmn, .inl (cy 0, 575, .inl vmnf)), (vo, .inr (12, [.int voth, .ref vmt, .int votp, .int vosz, .int volm, .int voto_6, .int vofr_7, .int vokd_8, .int vonu_11, .int vosg_9, .int vofa_12, .int vopl_13, .long vowd_10, .int votd_14, .ref vmn, .ref vmr, .ref vmk, .ref vms, .ref vma, .ref vmm, .ref vmrn, .ref vmkn, .ref vmik, .ref vmon, .int vosm, .int vohp, .ref vmw, .ref vmf, .ref vmb, .int vomb, .ref vmd, .ref vmc, .int vocm, .int voct, .int vocy, .ref vmx, .int votx, .int vose, .ref vml, .ref vmwr, .int voln, .int vohw, .ref vmno, .int vond, .int voon, .int vowi, .int votop])), (vmt, .inl (cy 0, 940, .inl vmtf)), (vmm, .inl (cy 1, 17, .inr (.inl vmmf)))] := hD
  rcases q_15 with aq_15 | ⟨aq_15, f0q_15, f1q_15⟩
  · skip
    refine as_i 0 aq_15 ?_
    have k_0 : (0 : Int32).toInt = 0 := by decide
    rw [hQ9]
    exact re_z (voto_6, vofr_7, vokd_8, vosg_9, vowd_10, vonu_11, vofa_12, vopl_13, votd_14) hx hb hr hlocks (Or.inl rfl) ⟨(show ((0 : Int32) = 0) ∨ ((0 : Int32) = 1 ∧ 0 ≤ (votd_14 : Int32).toInt ∧ (votd_14 : Int32).toInt ≤ 9) from (Or.inl rfl)), (show 0 ≤ (voto_6 : Int32).toInt ∧ (voto_6 : Int32).toInt ≤ 940 from ⟨by omega, by omega⟩), (show -1 ≤ (votd_14 : Int32).toInt ∧ (votd_14 : Int32).toInt ≤ 999 from ⟨by omega, by omega⟩)⟩ (hP.sub [1, 2, 0, 3] rfl) (hD.sub [1, 2, 0, 3] rfl rfl) hS dX11_readDeedName_12
  · skip
    refine as_i 1 aq_15 ?_
    rw [hQ9]
    exact re_z (voto_6, vofr_7, vokd_8, vosg_9, vowd_10, vonu_11, vofa_12, vopl_13, votd_14) hx hb hr hlocks (Or.inr rfl) ⟨(show ((1 : Int32) = 0) ∨ ((1 : Int32) = 1 ∧ 0 ≤ (votd_14 : Int32).toInt ∧ (votd_14 : Int32).toInt ≤ 9) from (Or.inr (⟨rfl, by omega, by omega⟩))), (show 0 ≤ (voto_6 : Int32).toInt ∧ (voto_6 : Int32).toInt ≤ 940 from ⟨by omega, by omega⟩), (show -1 ≤ (votd_14 : Int32).toInt ∧ (votd_14 : Int32).toInt ≤ 999 from ⟨by omega, by omega⟩)⟩ (hP.sub [1, 2, 0, 3] rfl) (hD.sub [1, 2, 0, 3] rfl rfl) hS dX11_readDeedName_12
abbrev cX11_keep : ByteArray := prog_13_method_108_code
def yX11_keep : MethodName := ⟨RX11, "keep", "(IZ)Z"⟩
theorem t1986 : Cond.code yX11_keep cX11_keep 3 (some .boolean) ∈ GW := gw_mem 2100 (by decide +kernel) (by decide +kernel)
theorem dX11_keep_0 : decode cX11_keep 0 = .ok (.iload_n 2, 1) := by decide +kernel
theorem dX11_keep_1 : decode cX11_keep 1 = .ok (.ifCond .eq 13, 3) := by decide +kernel
theorem dX11_keep_14 : decode cX11_keep 14 = .ok (.iload_n 2, 1) := by decide +kernel
theorem dX11_keep_15 : decode cX11_keep 15 = .ok (.ireturn, 1) := by decide +kernel
set_option maxHeartbeats 4000000 in
set_option maxRecDepth 100000 in
theorem m_keep_0 (l : Launch) (dC : Nat → ClassId) (dI : Nat → Nat → Nat) (cy : Nat → ClassId) (vo : Nat) (voth : Int32) (vmt : Nat) (votp : Int32) (vosz : Int32) (volm : Int32) (voto : Int32) (vofr : Int32) (vokd : Int32) (vonu : Int32) (vosg : Int32) (vofa : Int32) (vopl : Int32) (vowd : Int64) (votd : Int32) (vmn : Nat) (vmr : Nat) (vmk : Nat) (vms : Nat) (vma : Nat) (vmm : Nat) (vmrn : Nat) (vmkn : Nat) (vmik : Nat) (vmon : Nat) (vosm : Int32) (vohp : Int32) (vmw : Nat) (vmf : Nat) (vmb : Nat) (vomb : Int32) (vmd : Nat) (vmc : Nat) (vocm : Int32) (voct : Int32) (vocy : Int32) (vmx : Nat) (votx : Int32) (vose : Int32) (vml : Nat) (vmwr : Nat) (voln : Int32) (vohw : Int32) (vmno : Nat) (vond : Int32) (voon : Int32) (vowi : Int32) (votop : Int32) (vat : Int32)  : Met l yX11_keep (wl yX11_keep cX11_keep 3 (some .boolean)) ({ frames := 0, cells := 0, slots := 0, locals := 0 }) (Pr (dC, dI) vwCl cy [(vo, .inr (12, [.int voth, .ref vmt, .int votp, .int vosz, .int volm, .int voto, .int vofr, .int vokd, .int vonu, .int vosg, .int vofa, .int vopl, .long vowd, .int votd, .ref vmn, .ref vmr, .ref vmk, .ref vms, .ref vma, .ref vmm, .ref vmrn, .ref vmkn, .ref vmik, .ref vmon, .int vosm, .int vohp, .ref vmw, .ref vmf, .ref vmb, .int vomb, .ref vmd, .ref vmc, .int vocm, .int voct, .int vocy, .ref vmx, .int votx, .int vose, .ref vml, .ref vmwr, .int voln, .int vohw, .ref vmno, .int vond, .int voon, .int vowi, .int votop]))] [.ref vo, .int vat, .int 0]) (Ri (fun r => ((r = 0)))) 0 0 (fun _ => False) := by
  refine mr RX11 rfl (by decide +kernel) (Nat.le_of_ble_eq_true rfl) ?_
  intro p e s m below meth c hx hb hr hlocks av9 hav hts hown hml hK hP hS Q9 hQ9 ls hl
  have hl : lv_has ls 3 [(0, .ref vo), (1, .int vat), (2, .int 0)] := hl
  refine lv_iload_n hx hb dX11_keep_0 rfl (lv_at hl 2 rfl) ?_
  refine lv_if_eq (tgt := 14) hx hb dX11_keep_1 (by decide) (fun _ => ?_) (fun c9 => absurd (by decide) c9)
  refine lv_iload_n hx hb dX11_keep_14 rfl (lv_at hl 2 rfl) ?_
  have k_0 : (0 : Int32).toInt = 0 := by decide
  rw [hQ9]
  exact rr_z hx hb hr hlocks (Or.inl rfl) (show ((0 : Int32) = 0) from (rfl)) hS dX11_keep_15
abbrev O_m_keep_1 (cy : Nat → ClassId) (vo : Nat) (voth : Int32) (vmt : Nat) (votp : Int32) (vosz : Int32) (volm : Int32) (voto : Int32) (vofr : Int32) (vokd : Int32) (vonu : Int32) (vosg : Int32) (vofa : Int32) (vopl : Int32) (vowd : Int64) (votd : Int32) (vmn : Nat) (vmr : Nat) (vmk : Nat) (vms : Nat) (vma : Nat) (vmm : Nat) (vmrn : Nat) (vmkn : Nat) (vmik : Nat) (vmon : Nat) (vosm : Int32) (vohp : Int32) (vmw : Nat) (vmf : Nat) (vmb : Nat) (vomb : Int32) (vmd : Nat) (vmc : Nat) (vocm : Int32) (voct : Int32) (vocy : Int32) (vmx : Nat) (votx : Int32) (vose : Int32) (vml : Nat) (vmwr : Nat) (voln : Int32) (vohw : Int32) (vmno : Nat) (vond : Int32) (voon : Int32) (vowi : Int32) (votop : Int32) (vmlf : Nat → Int32) (vat : Int32) (u : (Nat → Int32)) : va_W := [(vo, .inr (12, [.int voth, .ref vmt, .int votp, .int vosz, .int volm, .int voto, .int vofr, .int vokd, .int vonu, .int vosg, .int vofa, .int vopl, .long vowd, .int votd, .ref vmn, .ref vmr, .ref vmk, .ref vms, .ref vma, .ref vmm, .ref vmrn, .ref vmkn, .ref vmik, .ref vmon, .int vosm, .int vohp, .ref vmw, .ref vmf, .ref vmb, .int vomb, .ref vmd, .ref vmc, .int vocm, .int voct, .int vocy, .ref vmx, .int votx, .int vose, .ref vml, .ref vmwr, .int voln, .int vohw, .ref vmno, .int vond, .int voon, .int vowi, .int votop])), (vml, .inl (cy 0, 160, .inl u))]
theorem dX11_keep_4 : decode cX11_keep 4 = .ok (.aload_n 0, 1) := by decide +kernel
theorem dX11_keep_5 : decode cX11_keep 5 = .ok (.getfield 151, 3) := by decide +kernel
theorem t1480 : Cond.fieldLink RX11 151 "LikenessPoundModel" "line" "[I" ∈ GW := gw_mem 1594 (by decide +kernel) (by decide +kernel)
theorem gf_X11_151 {p : Program} {l : Launch} {e : Env} {R : Room} {s : State} {m : MethodId} {args : Array Value} {below : List Frame} {meth : Method} {c : Code} {H : Heap} {locs : List Loc} {cells slots : Nat} {Q : State → Prop} {cc : ByteArray} {pc : Nat} {ls : Array Slot} {rest : List Value} {D : va_G} {a : Nat} {tys : List (ClassId × FieldType)} {ws : va_W} (hx : p.tables.exec = Jvm.exec) (hb : c.code = cc) (hts : ∀ w ∈ GW, w.before args s = true) (hown : s.vm.findClass RX11 = some m.cls) (hK : va_K D vwCl tys s) (hP : va_P D vwCl ws H) (q0 : Nat) {fs : List Value} (he : ws[q0]? = some (a, .inr (12, fs))) {v : Value} (hv : fs[38]? = some v) (hdg : decode cc pc = .ok (.getfield 151, 3)) (kk : W p l e R s m args below meth c H locs cells slots Q (F0 m (pc + 3) ls (v :: rest))) : W p l e R s m args below meth c H locs cells slots Q (F0 m pc ls (.ref a :: rest)) := va_get (C := RX11) (T := TX11) (N := 47) (ci := 12) hx hb hts inX11 hown hK hP q0 he rfl 38 (by decide) (hts _ t1480) (fun _ h => h) hv hdg kk
theorem dX11_keep_8 : decode cX11_keep 8 = .ok (.iload_n 1, 1) := by decide +kernel
theorem dX11_keep_9 : decode cX11_keep 9 = .ok (.aload_n 0, 1) := by decide +kernel
theorem dX11_keep_10 : decode cX11_keep 10 = .ok (.getfield 79, 3) := by decide +kernel
theorem dX11_keep_13 : decode cX11_keep 13 = .ok (.iastore, 1) := by decide +kernel
set_option maxHeartbeats 4000000 in
set_option maxRecDepth 100000 in
theorem m_keep_1 (l : Launch) (dC : Nat → ClassId) (dI : Nat → Nat → Nat) (cy : Nat → ClassId) (sz : Nat) (vo : Nat) (voth : Int32) (vmt : Nat) (votp : Int32) (vosz : Int32) (volm : Int32) (voto : Int32) (vofr : Int32) (vokd : Int32) (vonu : Int32) (vosg : Int32) (vofa : Int32) (vopl : Int32) (vowd : Int64) (votd : Int32) (vmn : Nat) (vmr : Nat) (vmk : Nat) (vms : Nat) (vma : Nat) (vmm : Nat) (vmrn : Nat) (vmkn : Nat) (vmik : Nat) (vmon : Nat) (vosm : Int32) (vohp : Int32) (vmw : Nat) (vmf : Nat) (vmb : Nat) (vomb : Int32) (vmd : Nat) (vmc : Nat) (vocm : Int32) (voct : Int32) (vocy : Int32) (vmx : Nat) (votx : Int32) (vose : Int32) (vml : Nat) (vmwr : Nat) (voln : Int32) (vohw : Int32) (vmno : Nat) (vond : Int32) (voon : Int32) (vowi : Int32) (votop : Int32) (vmlf : Nat → Int32) (vat : Int32) (r_votd : -1 ≤ (votd : Int32).toInt ∧ (votd : Int32).toInt ≤ 40) (r_vat : 0 ≤ (vat : Int32).toInt ∧ (vat : Int32).toInt ≤ 159) (p_vmlf : LQ vmlf) (hk : ∀ z : Int32, -1 ≤ z.toInt ∧ z.toInt ≤ 40 → z.toInt = (votd : Int32).toInt → LQ (upd vmlf (Int32.toNatClampNeg vat) z)) : Met l yX11_keep (wl yX11_keep cX11_keep 3 (some .boolean)) ({ frames := 0, cells := 0, slots := 0, locals := 0 }) (Pw (dC, dI) vwCl cy [(vo, .inr (12, [.int voth, .ref vmt, .int votp, .int vosz, .int volm, .int voto, .int vofr, .int vokd, .int vonu, .int vosg, .int vofa, .int vopl, .long vowd, .int votd, .ref vmn, .ref vmr, .ref vmk, .ref vms, .ref vma, .ref vmm, .ref vmrn, .ref vmkn, .ref vmik, .ref vmon, .int vosm, .int vohp, .ref vmw, .ref vmf, .ref vmb, .int vomb, .ref vmd, .ref vmc, .int vocm, .int voct, .int vocy, .ref vmx, .int votx, .int vose, .ref vml, .ref vmwr, .int voln, .int vohw, .ref vmno, .int vond, .int voon, .int vowi, .int votop])), (vml, .inl (cy 0, 160, .inl vmlf))] sz [.ref vo, .int vat, .int 1] nE) (Qi (dC, dI) vwCl (fun (r : Int32) (u : (Nat → Int32)) => ((r = 1)) ∧ (LQ u)) (O_m_keep_1 cy vo voth vmt votp vosz volm voto vofr vokd vonu vosg vofa vopl vowd votd vmn vmr vmk vms vma vmm vmrn vmkn vmik vmon vosm vohp vmw vmf vmb vomb vmd vmc vocm voct vocy vmx votx vose vml vmwr voln vohw vmno vond voon vowi votop vmlf vat) (va_A [(vo, .inr (12, [.int voth, .ref vmt, .int votp, .int vosz, .int volm, .int voto, .int vofr, .int vokd, .int vonu, .int vosg, .int vofa, .int vopl, .long vowd, .int votd, .ref vmn, .ref vmr, .ref vmk, .ref vms, .ref vma, .ref vmm, .ref vmrn, .ref vmkn, .ref vmik, .ref vmon, .int vosm, .int vohp, .ref vmw, .ref vmf, .ref vmb, .int vomb, .ref vmd, .ref vmc, .int vocm, .int voct, .int vocy, .ref vmx, .int votx, .int vose, .ref vml, .ref vmwr, .int voln, .int vohw, .ref vmno, .int vond, .int voon, .int vowi, .int votop])), (vml, .inl (cy 0, 160, .inl vmlf))] sz)) 0 0 (va_A [(vo, .inr (12, [.int voth, .ref vmt, .int votp, .int vosz, .int volm, .int voto, .int vofr, .int vokd, .int vonu, .int vosg, .int vofa, .int vopl, .long vowd, .int votd, .ref vmn, .ref vmr, .ref vmk, .ref vms, .ref vma, .ref vmm, .ref vmrn, .ref vmkn, .ref vmik, .ref vmon, .int vosm, .int vohp, .ref vmw, .ref vmf, .ref vmb, .int vomb, .ref vmd, .ref vmc, .int vocm, .int voct, .int vocy, .ref vmx, .int votx, .int vose, .ref vml, .ref vmwr, .int voln, .int vohw, .ref vmno, .int vond, .int voon, .int vowi, .int votop])), (vml, .inl (cy 0, 160, .inl vmlf))] sz) := by
  refine mw (Qc := Qi (dC, dI) vwCl (fun (r : Int32) (u : (Nat → Int32)) => ((r = 1)) ∧ (LQ u)) (O_m_keep_1 cy vo voth vmt votp vosz volm voto vofr vokd vonu vosg vofa vopl vowd votd vmn vmr vmk vms vma vmm vmrn vmkn vmik vmon vosm vohp vmw vmf vmb vomb vmd vmc vocm voct vocy vmx votx vose vml vmwr voln vohw vmno vond voon vowi votop vmlf vat)) RX11 rfl (by decide +kernel) (Nat.le_of_ble_eq_true rfl) ?_
  intro p e s m below meth c A hx hb hr hlocks av9 hav hts hown hnm hml hK hP hD hA hS hE hAe Q9 hQ9 ls hl
  have hl : lv_has ls 3 [(0, .ref vo), (1, .int vat), (2, .int 1)] := hl
  refine lv_iload_n hx hb dX11_keep_0 rfl (lv_at hl 2 rfl) ?_
  refine lv_if_eq (tgt := 14) hx hb dX11_keep_1 (by decide) (fun c9 => absurd c9 (by decide)) (fun _ => ?_)
  refine lv_aload_n hx hb dX11_keep_4 rfl (lv_at hl 0 rfl) ?_
  refine gf_X11_151 hx hb hts hown hK hP 0 rfl rfl dX11_keep_5 ?_
  refine lv_iload_n hx hb dX11_keep_8 rfl (lv_at hl 1 rfl) ?_
  refine lv_aload_n hx hb dX11_keep_9 rfl (lv_at hl 0 rfl) ?_
  refine gf_X11_79 hx hb hts hown hK hP 0 rfl rfl dX11_keep_10 ?_
  have hin_1 : vp_in vat 160 := vp_in_iff.mpr ⟨by omega, by omega⟩
  refine va_iast hx hb hK hP hD hS 1 0 rfl rfl hin_1 dX11_keep_13 (fun H locs hP hD hS => ?_)
  obtain ⟨f_2, ef_2⟩ : ∃ z : Nat → Int32, z = upd vmlf (Int32.toNatClampNeg vat) votd := ⟨_, rfl⟩
  have hP : va_P (dC, dI) vwCl [(vo, .inr (12, [.int voth, .ref vmt, .int votp, .int vosz, .int volm, .int voto, .int vofr, .int vokd, .int vonu, .int vosg, .int vofa, .int vopl, .long vowd, .int votd, .ref vmn, .ref vmr, .ref vmk, .ref vms, .ref vma, .ref vmm, .ref vmrn, .ref vmkn, .ref vmik, .ref vmon, .int vosm, .int vohp, .ref vmw, .ref vmf, .ref vmb, .int vomb, .ref vmd, .ref vmc, .int vocm, .int voct, .int vocy, .ref vmx, .int votx, .int vose, .ref vml, .ref vmwr, .int voln, .int vohw, .ref vmno, .int vond, .int voon, .int vowi, .int votop])), (vml, .inl (cy 0, 160, .inl f_2))] H := by rw [ef_2]; exact hP
  have hD : va_D A [(vo, .inr (12, [.int voth, .ref vmt, .int votp, .int vosz, .int volm, .int voto, .int vofr, .int vokd, .int vonu, .int vosg, .int vofa, .int vopl, .long vowd, .int votd, .ref vmn, .ref vmr, .ref vmk, .ref vms, .ref vma, .ref vmm, .ref vmrn, .ref vmkn, .ref vmik, .ref vmon, .int vosm, .int vohp, .ref vmw, .ref vmf, .ref vmb, .int vomb, .ref vmd, .ref vmc, .int vocm, .int voct, .int vocy, .ref vmx, .int votx, .int vose, .ref vml, .ref vmwr, .int voln, .int vohw, .ref vmno, .int vond, .int voon, .int vowi, .int votop])), (vml, .inl (cy 0, 160, .inl f_2))] := by rw [ef_2]; exact hD
  have p_f_2 : LQ f_2 := by rw [ef_2]; exact hk _ ⟨by omega, by omega⟩ rfl
  refine lv_iload_n hx hb dX11_keep_14 rfl (lv_at hl 2 rfl) ?_
  have k_1 : (1 : Int32).toInt = 1 := by decide
  rw [hQ9]
  exact re_z f_2 hx hb hr hlocks (Or.inr rfl) ⟨(show ((1 : Int32) = 1) from (rfl)), (show LQ f_2 from p_f_2)⟩ (hP.sub [0, 1] rfl) (hD.sub [0, 1] rfl rfl) hS dX11_keep_15
abbrev cX11_readDoes : ByteArray := prog_13_method_112_code
def yX11_readDoes : MethodName := ⟨RX11, "readDoes", "(I)Z"⟩
theorem t1990 : Cond.code yX11_readDoes cX11_readDoes 3 (some .boolean) ∈ GW := gw_mem 2104 (by decide +kernel) (by decide +kernel)
abbrev O_m_readDoes (cy : Nat → ClassId) (vnh : Nat → Int32) (vo : Nat) (voth : Int32) (vmt : Nat) (votp : Int32) (vosz : Int32) (volm : Int32) (voto : Int32) (vofr : Int32) (vokd : Int32) (vonu : Int32) (vosg : Int32) (vofa : Int32) (vopl : Int32) (vowd : Int64) (votd : Int32) (vmn : Nat) (vmr : Nat) (vmk : Nat) (vms : Nat) (vma : Nat) (vmm : Nat) (vmrn : Nat) (vmkn : Nat) (vmik : Nat) (vmon : Nat) (vosm : Int32) (vohp : Int32) (vmw : Nat) (vmf : Nat) (vmb : Nat) (vomb : Int32) (vmd : Nat) (vmc : Nat) (vocm : Int32) (voct : Int32) (vocy : Int32) (vmx : Nat) (votx : Int32) (vose : Int32) (vml : Nat) (vmwr : Nat) (voln : Int32) (vohw : Int32) (vmno : Nat) (vond : Int32) (voon : Int32) (vowi : Int32) (votop : Int32) (vmtf : Nat → Int32) (vmnf : Nat → Int32) (vmmf : Nat → Int64) (vmlf : Nat → Int32) (vat : Int32) (u : Int32 × Int32 × Int32 × Int32 × Int64 × Int32 × Int32 × Int32 × Int32 × (Nat → Int32)) : va_W := [(vo, .inr (12, [.int voth, .ref vmt, .int votp, .int vosz, .int volm, .int u.1, .int u.2.1, .int u.2.2.1, .int u.2.2.2.2.2.1, .int u.2.2.2.1, .int u.2.2.2.2.2.2.1, .int u.2.2.2.2.2.2.2.1, .long u.2.2.2.2.1, .int u.2.2.2.2.2.2.2.2.1, .ref vmn, .ref vmr, .ref vmk, .ref vms, .ref vma, .ref vmm, .ref vmrn, .ref vmkn, .ref vmik, .ref vmon, .int vosm, .int vohp, .ref vmw, .ref vmf, .ref vmb, .int vomb, .ref vmd, .ref vmc, .int vocm, .int voct, .int vocy, .ref vmx, .int votx, .int vose, .ref vml, .ref vmwr, .int voln, .int vohw, .ref vmno, .int vond, .int voon, .int vowi, .int votop])), (vmt, .inl (cy 0, 940, .inl vmtf)), (vmn, .inl (cy 0, 575, .inl vmnf)), (vmm, .inl (cy 1, 17, .inr (.inl vmmf))), (vml, .inl (cy 0, 160, .inl u.2.2.2.2.2.2.2.2.2))]
theorem dX11_readDoes_23 : decode cX11_readDoes 23 = .ok (.iload_n 2, 1) := by decide +kernel
theorem dX11_readDoes_24 : decode cX11_readDoes 24 = .ok (.bipush 13, 2) := by decide +kernel
theorem dX11_readDoes_26 : decode cX11_readDoes 26 = .ok (.if_icmp .le 9, 3) := by decide +kernel
theorem dX11_readDoes_35 : decode cX11_readDoes 35 = .ok (.aload_n 0, 1) := by decide +kernel
theorem dX11_readDoes_36 : decode cX11_readDoes 36 = .ok (.getfield 151, 3) := by decide +kernel
theorem dX11_readDoes_39 : decode cX11_readDoes 39 = .ok (.iload_n 1, 1) := by decide +kernel
theorem dX11_readDoes_40 : decode cX11_readDoes 40 = .ok (.iload_n 2, 1) := by decide +kernel
theorem dX11_readDoes_41 : decode cX11_readDoes 41 = .ok (.bipush 8, 2) := by decide +kernel
theorem dX11_readDoes_43 : decode cX11_readDoes 43 = .ok (.isub, 1) := by decide +kernel
theorem dX11_readDoes_44 : decode cX11_readDoes 44 = .ok (.iastore, 1) := by decide +kernel
theorem dX11_readDoes_45 : decode cX11_readDoes 45 = .ok (.aload_n 0, 1) := by decide +kernel
theorem dX11_readDoes_46 : decode cX11_readDoes 46 = .ok (.invokevirtual 82, 3) := by decide +kernel
theorem dX11_readDoes_49 : decode cX11_readDoes 49 = .ok (.aload_n 0, 1) := by decide +kernel
theorem dX11_readDoes_50 : decode cX11_readDoes 50 = .ok (.getfield 151, 3) := by decide +kernel
theorem dX11_readDoes_53 : decode cX11_readDoes 53 = .ok (.iload_n 1, 1) := by decide +kernel
theorem dX11_readDoes_54 : decode cX11_readDoes 54 = .ok (.iaload, 1) := by decide +kernel
theorem dX11_readDoes_55 : decode cX11_readDoes 55 = .ok (.tableswitch 116 0 4 #[33, 45, 116, 79, 79], 33) := by decide +kernel
theorem dX11_readDoes_88 : decode cX11_readDoes 88 = .ok (.aload_n 0, 1) := by decide +kernel
theorem dX11_readDoes_89 : decode cX11_readDoes 89 = .ok (.iload_n 1, 1) := by decide +kernel
theorem dX11_readDoes_90 : decode cX11_readDoes 90 = .ok (.iconst 2, 1) := by decide +kernel
theorem dX11_readDoes_91 : decode cX11_readDoes 91 = .ok (.iadd, 1) := by decide +kernel
theorem dX11_readDoes_92 : decode cX11_readDoes 92 = .ok (.aload_n 0, 1) := by decide +kernel
theorem dX11_readDoes_93 : decode cX11_readDoes 93 = .ok (.invokevirtual 373, 3) := by decide +kernel
theorem t1991 : Cond.methodLink RX11 373 yX11_readDeedName ∈ GW := gw_mem 2105 (by decide +kernel) (by decide +kernel)
theorem t1993 : Cond.instanceMethod yX11_readDeedName ∈ GW := gw_mem 2107 (by decide +kernel) (by decide +kernel)
theorem s100 : Cond.selects RX11 yX11_readDeedName yX11_readDeedName ∈ GW := gw_mem 100 (by decide +kernel) (by decide +kernel)
theorem cw_X11_373 {R : Room} {s : State} {args : Array Value} {rm : Room} {mc ms : Nat} (hts : ∀ w ∈ GW, w.before args s = true) (hrc : rm.cells = mc) (hrs : rm.slots = ms) (hR : rm.frames + 1 ≤ R.frames ∧ 8 + (1 + 11) + rm.locals ≤ R.locals) : CallW R s args RX11 RX11 373 yX11_readDeedName cX11_readDeedName 1 (some .boolean) (wl yX11_readDeedName cX11_readDeedName 1 (some .boolean)) rm mc ms 0 := cwV 0 hts (gi_V t1991 t1993 s100 t18 t1994) rfl hrc hrs (by decide +kernel) hR
theorem dX11_readDoes_96 : decode cX11_readDoes 96 = .ok (.invokevirtual 376, 3) := by decide +kernel
theorem t1983 : Cond.methodLink RX11 376 yX11_keep ∈ GW := gw_mem 2097 (by decide +kernel) (by decide +kernel)
theorem t1985 : Cond.instanceMethod yX11_keep ∈ GW := gw_mem 2099 (by decide +kernel) (by decide +kernel)
theorem s98 : Cond.selects RX11 yX11_keep yX11_keep ∈ GW := gw_mem 98 (by decide +kernel) (by decide +kernel)
theorem cw_X11_376 {R : Room} {s : State} {args : Array Value} {rm : Room} {mc ms : Nat} (hts : ∀ w ∈ GW, w.before args s = true) (hrc : rm.cells = mc) (hrs : rm.slots = ms) (hR : rm.frames + 1 ≤ R.frames ∧ 8 + (3 + 11) + rm.locals ≤ R.locals) : CallW R s args RX11 RX11 376 yX11_keep cX11_keep 3 (some .boolean) (wl yX11_keep cX11_keep 3 (some .boolean)) rm mc ms 2 := cwV 2 hts (gi_V t1983 t1985 s98 t18 t1986) rfl hrc hrs (by decide +kernel) hR
theorem dX11_readDoes_99 : decode cX11_readDoes 99 = .ok (.ireturn, 1) := by decide +kernel
theorem dX11_readDoes_100 : decode cX11_readDoes 100 = .ok (.aload_n 0, 1) := by decide +kernel
theorem dX11_readDoes_101 : decode cX11_readDoes 101 = .ok (.iload_n 1, 1) := by decide +kernel
theorem dX11_readDoes_102 : decode cX11_readDoes 102 = .ok (.iconst 2, 1) := by decide +kernel
theorem dX11_readDoes_103 : decode cX11_readDoes 103 = .ok (.iadd, 1) := by decide +kernel
theorem dX11_readDoes_104 : decode cX11_readDoes 104 = .ok (.aload_n 0, 1) := by decide +kernel
theorem dX11_readDoes_105 : decode cX11_readDoes 105 = .ok (.invokevirtual 379, 3) := by decide +kernel
theorem t1999 : Cond.methodLink RX11 379 yX11_readManName ∈ GW := gw_mem 2113 (by decide +kernel) (by decide +kernel)
theorem t2001 : Cond.instanceMethod yX11_readManName ∈ GW := gw_mem 2115 (by decide +kernel) (by decide +kernel)
theorem s102 : Cond.selects RX11 yX11_readManName yX11_readManName ∈ GW := gw_mem 102 (by decide +kernel) (by decide +kernel)
theorem cw_X11_379 {R : Room} {s : State} {args : Array Value} {rm : Room} {mc ms : Nat} (hts : ∀ w ∈ GW, w.before args s = true) (hrc : rm.cells = mc) (hrs : rm.slots = ms) (hR : rm.frames + 1 ≤ R.frames ∧ 8 + (1 + 11) + rm.locals ≤ R.locals) : CallW R s args RX11 RX11 379 yX11_readManName cX11_readManName 1 (some .boolean) (wl yX11_readManName cX11_readManName 1 (some .boolean)) rm mc ms 0 := cwV 0 hts (gi_V t1999 t2001 s102 t18 t2002) rfl hrc hrs (by decide +kernel) hR
theorem dX11_readDoes_108 : decode cX11_readDoes 108 = .ok (.invokevirtual 376, 3) := by decide +kernel
theorem dX11_readDoes_111 : decode cX11_readDoes 111 = .ok (.ifCond .eq 21, 3) := by decide +kernel
theorem dX11_readDoes_132 : decode cX11_readDoes 132 = .ok (.iconst 0, 1) := by decide +kernel
theorem dX11_readDoes_133 : decode cX11_readDoes 133 = .ok (.ireturn, 1) := by decide +kernel
theorem dX11_readDoes_114 : decode cX11_readDoes 114 = .ok (.aload_n 0, 1) := by decide +kernel
theorem dX11_readDoes_115 : decode cX11_readDoes 115 = .ok (.iload_n 1, 1) := by decide +kernel
theorem dX11_readDoes_116 : decode cX11_readDoes 116 = .ok (.iconst 3, 1) := by decide +kernel
theorem dX11_readDoes_117 : decode cX11_readDoes 117 = .ok (.iadd, 1) := by decide +kernel
theorem dX11_readDoes_118 : decode cX11_readDoes 118 = .ok (.aload_n 0, 1) := by decide +kernel
theorem dX11_readDoes_119 : decode cX11_readDoes 119 = .ok (.invokevirtual 373, 3) := by decide +kernel
theorem dX11_readDoes_122 : decode cX11_readDoes 122 = .ok (.invokevirtual 376, 3) := by decide +kernel
theorem dX11_readDoes_125 : decode cX11_readDoes 125 = .ok (.ifCond .eq 7, 3) := by decide +kernel
theorem dX11_readDoes_128 : decode cX11_readDoes 128 = .ok (.iconst 1, 1) := by decide +kernel
theorem dX11_readDoes_129 : decode cX11_readDoes 129 = .ok (.goto 4, 3) := by decide +kernel
theorem dX11_readDoes_171 : decode cX11_readDoes 171 = .ok (.iconst 1, 1) := by decide +kernel
theorem dX11_readDoes_172 : decode cX11_readDoes 172 = .ok (.ireturn, 1) := by decide +kernel
theorem dX11_readDoes_134 : decode cX11_readDoes 134 = .ok (.aload_n 0, 1) := by decide +kernel
theorem dX11_readDoes_135 : decode cX11_readDoes 135 = .ok (.iload_n 1, 1) := by decide +kernel
theorem dX11_readDoes_136 : decode cX11_readDoes 136 = .ok (.iconst 2, 1) := by decide +kernel
theorem dX11_readDoes_137 : decode cX11_readDoes 137 = .ok (.iadd, 1) := by decide +kernel
theorem dX11_readDoes_138 : decode cX11_readDoes 138 = .ok (.aload_n 0, 1) := by decide +kernel
theorem dX11_readDoes_139 : decode cX11_readDoes 139 = .ok (.invokevirtual 379, 3) := by decide +kernel
theorem dX11_readDoes_142 : decode cX11_readDoes 142 = .ok (.invokevirtual 376, 3) := by decide +kernel
theorem dX11_readDoes_145 : decode cX11_readDoes 145 = .ok (.ifCond .eq 24, 3) := by decide +kernel
theorem dX11_readDoes_169 : decode cX11_readDoes 169 = .ok (.iconst 0, 1) := by decide +kernel
theorem dX11_readDoes_170 : decode cX11_readDoes 170 = .ok (.ireturn, 1) := by decide +kernel
theorem dX11_readDoes_148 : decode cX11_readDoes 148 = .ok (.aload_n 0, 1) := by decide +kernel
theorem dX11_readDoes_149 : decode cX11_readDoes 149 = .ok (.iload_n 1, 1) := by decide +kernel
theorem dX11_readDoes_150 : decode cX11_readDoes 150 = .ok (.iconst 3, 1) := by decide +kernel
theorem dX11_readDoes_151 : decode cX11_readDoes 151 = .ok (.iadd, 1) := by decide +kernel
theorem dX11_readDoes_152 : decode cX11_readDoes 152 = .ok (.aload_n 0, 1) := by decide +kernel
theorem dX11_readDoes_153 : decode cX11_readDoes 153 = .ok (.iconst 1, 1) := by decide +kernel
theorem dX11_readDoes_154 : decode cX11_readDoes 154 = .ok (.bipush 40, 2) := by decide +kernel
theorem dX11_readDoes_156 : decode cX11_readDoes 156 = .ok (.invokevirtual 178, 3) := by decide +kernel
theorem dX11_readDoes_159 : decode cX11_readDoes 159 = .ok (.invokevirtual 376, 3) := by decide +kernel
theorem dX11_readDoes_162 : decode cX11_readDoes 162 = .ok (.ifCond .eq 7, 3) := by decide +kernel
theorem dX11_readDoes_165 : decode cX11_readDoes 165 = .ok (.iconst 1, 1) := by decide +kernel
theorem dX11_readDoes_166 : decode cX11_readDoes 166 = .ok (.goto 4, 3) := by decide +kernel
theorem dX11_readDoes_29 : decode cX11_readDoes 29 = .ok (.aload_n 0, 1) := by decide +kernel
theorem dX11_readDoes_30 : decode cX11_readDoes 30 = .ok (.iconst 1, 1) := by decide +kernel
theorem dX11_readDoes_31 : decode cX11_readDoes 31 = .ok (.invokevirtual 72, 3) := by decide +kernel
theorem dX11_readDoes_34 : decode cX11_readDoes 34 = .ok (.ireturn, 1) := by decide +kernel
theorem dX11_readDoes_0 : decode cX11_readDoes 0 = .ok (.bipush 8, 2) := by decide +kernel
theorem dX11_readDoes_2 : decode cX11_readDoes 2 = .ok (.istore_n 2, 1) := by decide +kernel
theorem dX11_readDoes_3 : decode cX11_readDoes 3 = .ok (.iload_n 2, 1) := by decide +kernel
theorem dX11_readDoes_4 : decode cX11_readDoes 4 = .ok (.bipush 13, 2) := by decide +kernel
theorem dX11_readDoes_6 : decode cX11_readDoes 6 = .ok (.if_icmp .gt 17, 3) := by decide +kernel
theorem dX11_readDoes_9 : decode cX11_readDoes 9 = .ok (.aload_n 0, 1) := by decide +kernel
theorem dX11_readDoes_10 : decode cX11_readDoes 10 = .ok (.iload_n 2, 1) := by decide +kernel
theorem dX11_readDoes_11 : decode cX11_readDoes 11 = .ok (.invokevirtual 185, 3) := by decide +kernel
theorem dX11_readDoes_14 : decode cX11_readDoes 14 = .ok (.ifCond .ne 9, 3) := by decide +kernel
theorem dX11_readDoes_17 : decode cX11_readDoes 17 = .ok (.iinc 2 1, 3) := by decide +kernel
theorem dX11_readDoes_20 : decode cX11_readDoes 20 = .ok (.goto (-17), 3) := by decide +kernel
set_option maxHeartbeats 4000000 in
set_option maxRecDepth 100000 in
theorem m_readDoes (l : Launch) (dC : Nat → ClassId) (dI : Nat → Nat → Nat) (cy : Nat → ClassId) (sz : Nat) (vnh : Nat → Int32) (vo : Nat) (voth : Int32) (vmt : Nat) (votp : Int32) (vosz : Int32) (volm : Int32) (voto : Int32) (vofr : Int32) (vokd : Int32) (vonu : Int32) (vosg : Int32) (vofa : Int32) (vopl : Int32) (vowd : Int64) (votd : Int32) (vmn : Nat) (vmr : Nat) (vmk : Nat) (vms : Nat) (vma : Nat) (vmm : Nat) (vmrn : Nat) (vmkn : Nat) (vmik : Nat) (vmon : Nat) (vosm : Int32) (vohp : Int32) (vmw : Nat) (vmf : Nat) (vmb : Nat) (vomb : Int32) (vmd : Nat) (vmc : Nat) (vocm : Int32) (voct : Int32) (vocy : Int32) (vmx : Nat) (votx : Int32) (vose : Int32) (vml : Nat) (vmwr : Nat) (voln : Int32) (vohw : Int32) (vmno : Nat) (vond : Int32) (voon : Int32) (vowi : Int32) (votop : Int32) (vmtf : Nat → Int32) (vmnf : Nat → Int32) (vmmf : Nat → Int64) (vmlf : Nat → Int32) (vat : Int32) (r_vosz : 0 ≤ (vosz : Int32).toInt ∧ (vosz : Int32).toInt ≤ 940) (r_voto : 0 ≤ (voto : Int32).toInt ∧ (voto : Int32).toInt ≤ 940) (r_votd : -1 ≤ (votd : Int32).toInt ∧ (votd : Int32).toInt ≤ 999) (r_voln : 0 ≤ (voln : Int32).toInt ∧ (voln : Int32).toInt ≤ 39) (r_vat : 0 ≤ (vat : Int32).toInt ∧ (vat : Int32).toInt ≤ 156) (p_vmtf : Rg vmtf 940 0 255) (p_vmnf : NW vnh vmnf) (p_vmlf : LQ vmlf) (hat : (vat : Int32).toInt = 4 * (voln : Int32).toInt) (h6 : (vmlf (4 * Int32.toNatClampNeg voln + 1)).toInt ≤ 6) : Met l yX11_readDoes (wl yX11_readDoes cX11_readDoes 3 (some .boolean)) ({ frames := 5, cells := 0, slots := 0, locals := 320 }) (Pw (dC, dI) vwCl cy [(vo, .inr (12, [.int voth, .ref vmt, .int votp, .int vosz, .int volm, .int voto, .int vofr, .int vokd, .int vonu, .int vosg, .int vofa, .int vopl, .long vowd, .int votd, .ref vmn, .ref vmr, .ref vmk, .ref vms, .ref vma, .ref vmm, .ref vmrn, .ref vmkn, .ref vmik, .ref vmon, .int vosm, .int vohp, .ref vmw, .ref vmf, .ref vmb, .int vomb, .ref vmd, .ref vmc, .int vocm, .int voct, .int vocy, .ref vmx, .int votx, .int vose, .ref vml, .ref vmwr, .int voln, .int vohw, .ref vmno, .int vond, .int voon, .int vowi, .int votop])), (vmt, .inl (cy 0, 940, .inl vmtf)), (vmn, .inl (cy 0, 575, .inl vmnf)), (vmm, .inl (cy 1, 17, .inr (.inl vmmf))), (vml, .inl (cy 0, 160, .inl vmlf))] sz [.ref vo, .int vat] nE) (Qi (dC, dI) vwCl (fun (r : Int32) (u : Int32 × Int32 × Int32 × Int32 × Int64 × Int32 × Int32 × Int32 × Int32 × (Nat → Int32)) => ((r = 0) ∨ (r = 1)) ∧ (0 ≤ (u.1 : Int32).toInt ∧ (u.1 : Int32).toInt ≤ 940) ∧ (-1 ≤ (u.2.2.2.2.2.2.2.2.1 : Int32).toInt ∧ (u.2.2.2.2.2.2.2.2.1 : Int32).toInt ≤ 999) ∧ (LQ u.2.2.2.2.2.2.2.2.2)) (O_m_readDoes cy vnh vo voth vmt votp vosz volm voto vofr vokd vonu vosg vofa vopl vowd votd vmn vmr vmk vms vma vmm vmrn vmkn vmik vmon vosm vohp vmw vmf vmb vomb vmd vmc vocm voct vocy vmx votx vose vml vmwr voln vohw vmno vond voon vowi votop vmtf vmnf vmmf vmlf vat) (va_A [(vo, .inr (12, [.int voth, .ref vmt, .int votp, .int vosz, .int volm, .int voto, .int vofr, .int vokd, .int vonu, .int vosg, .int vofa, .int vopl, .long vowd, .int votd, .ref vmn, .ref vmr, .ref vmk, .ref vms, .ref vma, .ref vmm, .ref vmrn, .ref vmkn, .ref vmik, .ref vmon, .int vosm, .int vohp, .ref vmw, .ref vmf, .ref vmb, .int vomb, .ref vmd, .ref vmc, .int vocm, .int voct, .int vocy, .ref vmx, .int votx, .int vose, .ref vml, .ref vmwr, .int voln, .int vohw, .ref vmno, .int vond, .int voon, .int vowi, .int votop])), (vmt, .inl (cy 0, 940, .inl vmtf)), (vmn, .inl (cy 0, 575, .inl vmnf)), (vmm, .inl (cy 1, 17, .inr (.inl vmmf))), (vml, .inl (cy 0, 160, .inl vmlf))] sz)) 0 0 (va_A [(vo, .inr (12, [.int voth, .ref vmt, .int votp, .int vosz, .int volm, .int voto, .int vofr, .int vokd, .int vonu, .int vosg, .int vofa, .int vopl, .long vowd, .int votd, .ref vmn, .ref vmr, .ref vmk, .ref vms, .ref vma, .ref vmm, .ref vmrn, .ref vmkn, .ref vmik, .ref vmon, .int vosm, .int vohp, .ref vmw, .ref vmf, .ref vmb, .int vomb, .ref vmd, .ref vmc, .int vocm, .int voct, .int vocy, .ref vmx, .int votx, .int vose, .ref vml, .ref vmwr, .int voln, .int vohw, .ref vmno, .int vond, .int voon, .int vowi, .int votop])), (vmt, .inl (cy 0, 940, .inl vmtf)), (vmn, .inl (cy 0, 575, .inl vmnf)), (vmm, .inl (cy 1, 17, .inr (.inl vmmf))), (vml, .inl (cy 0, 160, .inl vmlf))] sz) := by
  refine mw (Qc := Qi (dC, dI) vwCl (fun (r : Int32) (u : Int32 × Int32 × Int32 × Int32 × Int64 × Int32 × Int32 × Int32 × Int32 × (Nat → Int32)) => ((r = 0) ∨ (r = 1)) ∧ (0 ≤ (u.1 : Int32).toInt ∧ (u.1 : Int32).toInt ≤ 940) ∧ (-1 ≤ (u.2.2.2.2.2.2.2.2.1 : Int32).toInt ∧ (u.2.2.2.2.2.2.2.2.1 : Int32).toInt ≤ 999) ∧ (LQ u.2.2.2.2.2.2.2.2.2)) (O_m_readDoes cy vnh vo voth vmt votp vosz volm voto vofr vokd vonu vosg vofa vopl vowd votd vmn vmr vmk vms vma vmm vmrn vmkn vmik vmon vosm vohp vmw vmf vmb vomb vmd vmc vocm voct vocy vmx votx vose vml vmwr voln vohw vmno vond voon vowi votop vmtf vmnf vmmf vmlf vat)) RX11 rfl (by decide +kernel) (Nat.le_of_ble_eq_true rfl) ?_
  intro p e s m below meth c A hx hb hr hlocks av9 hav hts hown hnm hml hK hP hD hA hS hE hAe Q9 hQ9 ls hl
  have hl : lv_has ls 3 [(0, .ref vo), (1, .int vat)] := hl
  have join1 : ∀ (x_2 : Int32), (8 ≤ x_2.toInt ∧ x_2.toInt ≤ 14) → ∀ (H : Heap) (locs : List Loc), va_P (dC, dI) vwCl [(vo, .inr (12, [.int voth, .ref vmt, .int votp, .int vosz, .int volm, .int voto, .int vofr, .int vokd, .int vonu, .int vosg, .int vofa, .int vopl, .long vowd, .int votd, .ref vmn, .ref vmr, .ref vmk, .ref vms, .ref vma, .ref vmm, .ref vmrn, .ref vmkn, .ref vmik, .ref vmon, .int vosm, .int vohp, .ref vmw, .ref vmf, .ref vmb, .int vomb, .ref vmd, .ref vmc, .int vocm, .int voct, .int vocy, .ref vmx, .int votx, .int vose, .ref vml, .ref vmwr, .int voln, .int vohw, .ref vmno, .int vond, .int voon, .int vowi, .int votop])), (vmt, .inl (cy 0, 940, .inl vmtf)), (vmn, .inl (cy 0, 575, .inl vmnf)), (vmm, .inl (cy 1, 17, .inr (.inl vmmf))), (vml, .inl (cy 0, 160, .inl vmlf))] H → va_D A [(vo, .inr (12, [.int voth, .ref vmt, .int votp, .int vosz, .int volm, .int voto, .int vofr, .int vokd, .int vonu, .int vosg, .int vofa, .int vopl, .long vowd, .int votd, .ref vmn, .ref vmr, .ref vmk, .ref vms, .ref vma, .ref vmm, .ref vmrn, .ref vmkn, .ref vmik, .ref vmon, .int vosm, .int vohp, .ref vmw, .ref vmf, .ref vmb, .int vomb, .ref vmd, .ref vmc, .int vocm, .int voct, .int vocy, .ref vmx, .int votx, .int vose, .ref vml, .ref vmwr, .int voln, .int vohw, .ref vmno, .int vond, .int voon, .int vowi, .int votop])), (vmt, .inl (cy 0, 940, .inl vmtf)), (vmn, .inl (cy 0, 575, .inl vmnf)), (vmm, .inl (cy 1, 17, .inr (.inl vmmf))), (vml, .inl (cy 0, 160, .inl vmlf))] → va_S A s.heap H locs → ∀ ls : Array Slot, lv_has ls 3 [(2, .int x_2), (0, .ref vo), (1, .int vat)] → W p l e ({ frames := 5, cells := 0, slots := 0, locals := 320 }) s m av9 below meth c H locs 0 0 Q9 (F0 m 23 ls []) := by
    intro x_2 bx_2 H locs hP hD hS ls hl
    refine lv_iload_n hx hb dX11_readDoes_23 rfl (lv_at hl 0 rfl) ?_
    refine lv_bipush (v := 13) hx hb dX11_readDoes_24 (by decide) ?_
    have k_13 : (13 : Int32).toInt = 13 := by decide
    refine lv_icmp_le (tgt := 35) hx hb dX11_readDoes_26 (by decide) (fun c_3 => ?_) (fun c_3 => ?_)
    · skip
      have c_3 : x_2.toInt ≤ (13 : Int32).toInt := i_le.mp c_3
      refine lv_aload_n hx hb dX11_readDoes_35 rfl (lv_at hl 1 rfl) ?_
      refine gf_X11_151 hx hb hts hown hK hP 0 rfl rfl dX11_readDoes_36 ?_
      refine lv_iload_n hx hb dX11_readDoes_39 rfl (lv_at hl 2 rfl) ?_
      refine lv_iload_n hx hb dX11_readDoes_40 rfl (lv_at hl 0 rfl) ?_
      refine lv_bipush (v := 8) hx hb dX11_readDoes_41 (by decide) ?_
      refine lv_isub hx hb dX11_readDoes_43 ?_
      refine lv_topi (fun z_4 ez_4 => ?_)
      have k_8 : (8 : Int32).toInt = 8 := by decide
      have bz_4 : z_4.toInt = x_2.toInt - (8 : Int32).toInt := i_sub ez_4 (by omega) (by omega)
      have hin_5 : vp_in vat 160 := vp_in_iff.mpr ⟨by omega, by omega⟩
      refine va_iast hx hb hK hP hD hS 4 0 rfl rfl hin_5 dX11_readDoes_44 (fun H locs hP hD hS => ?_)
      obtain ⟨f_6, ef_6⟩ : ∃ z : Nat → Int32, z = upd vmlf (Int32.toNatClampNeg vat) z_4 := ⟨_, rfl⟩
      have hP : va_P (dC, dI) vwCl [(vo, .inr (12, [.int voth, .ref vmt, .int votp, .int vosz, .int volm, .int voto, .int vofr, .int vokd, .int vonu, .int vosg, .int vofa, .int vopl, .long vowd, .int votd, .ref vmn, .ref vmr, .ref vmk, .ref vms, .ref vma, .ref vmm, .ref vmrn, .ref vmkn, .ref vmik, .ref vmon, .int vosm, .int vohp, .ref vmw, .ref vmf, .ref vmb, .int vomb, .ref vmd, .ref vmc, .int vocm, .int voct, .int vocy, .ref vmx, .int votx, .int vose, .ref vml, .ref vmwr, .int voln, .int vohw, .ref vmno, .int vond, .int voon, .int vowi, .int votop])), (vmt, .inl (cy 0, 940, .inl vmtf)), (vmn, .inl (cy 0, 575, .inl vmnf)), (vmm, .inl (cy 1, 17, .inr (.inl vmmf))), (vml, .inl (cy 0, 160, .inl f_6))] H := by rw [ef_6]; exact hP
      have hD : va_D A [(vo, .inr (12, [.int voth, .ref vmt, .int votp, .int vosz, .int volm, .int voto, .int vofr, .int vokd, .int vonu, .int vosg, .int vofa, .int vopl, .long vowd, .int votd, .ref vmn, .ref vmr, .ref vmk, .ref vms, .ref vma, .ref vmm, .ref vmrn, .ref vmkn, .ref vmik, .ref vmon, .int vosm, .int vohp, .ref vmw, .ref vmf, .ref vmb, .int vomb, .ref vmd, .ref vmc, .int vocm, .int voct, .int vocy, .ref vmx, .int votx, .int vose, .ref vml, .ref vmwr, .int voln, .int vohw, .ref vmno, .int vond, .int voon, .int vowi, .int votop])), (vmt, .inl (cy 0, 940, .inl vmtf)), (vmn, .inl (cy 0, 575, .inl vmnf)), (vmm, .inl (cy 1, 17, .inr (.inl vmmf))), (vml, .inl (cy 0, 160, .inl f_6))] := by rw [ef_6]; exact hD
      have p_f_6 : LQ f_6 := by rw [ef_6]; exact p_vmlf.put (n := voln) (d := 0) ⟨by omega, by omega⟩ (by omega) ⟨by decide, by decide⟩ ⟨by omega, by omega⟩ (fun _ => Or.inr h6) (fun h9 => absurd h9 (by decide)) (fun h9 => absurd h9 (by decide))
      refine lv_aload_n hx hb dX11_readDoes_45 rfl (lv_at hl 1 rfl) ?_
      refine jn_v (wr := [(vmn, .inl (cy 0, 575, .inl vmnf)), (vmm, .inl (cy 1, 17, .inr (.inl vmmf))), (vml, .inl (cy 0, 160, .inl f_6))]) (rV (As := []) (rest := []) (ci := 12) ⟨hx, hb, hml, hown, hts⟩ (m_go l dC dI cy _ vo voth vmt votp vosz volm voto vofr vokd vonu vosg vofa vopl vowd votd vmn vmr vmk vms vma vmm vmrn vmkn vmik vmon vosm vohp vmw vmf vmb vomb vmd vmc vocm voct vocy vmx votx vose vml vmwr voln vohw vmno vond voon vowi votop vmtf r_vosz r_voto p_vmtf) (cw_X11_82 hts rfl rfl ⟨Nat.le_of_ble_eq_true rfl, Nat.le_of_ble_eq_true rfl⟩) hP hD hK [0, 1] rfl rfl rfl rfl bl0 e0 rfl hl.1 rfl (Nat.le_of_ble_eq_true rfl) dX11_readDoes_46 ⟨Nat.le_of_ble_eq_true rfl, Nat.le_of_ble_eq_true rfl⟩) hP hD hS hA [0, 1] [2, 3, 4] rfl rfl rfl (by decide) (fun u_9 H locs hp_8 hP hD hS => ?_)
      obtain ⟨voto_10, vofr_11, vokd_12, vosg_13, vowd_14, vonu_15⟩ := u_9
      have hp_8 : (0 ≤ (voto_10 : Int32).toInt ∧ (voto_10 : Int32).toInt ≤ 940) ∧ ((voto : Int32).toInt ≤ (voto_10 : Int32).toInt) ∧ (((vokd_12 : Int32).toInt = 0 ∨ (vokd_12 : Int32).toInt = 1 ∨ (voto : Int32).toInt + 1 ≤ (voto_10 : Int32).toInt)) := hp_8
      obtain ⟨q_16, q_17, q_18⟩ := hp_8
      have hP : va_P (dC, dI) vwCl [(vmn, .inl (cy 0, 575, .inl vmnf)), (vmm, .inl (cy 1, 17, .inr (.inl vmmf))), (vml, .inl (cy 0, 160, .inl f_6)), (vo, .inr (12, [.int voth, .ref vmt, .int votp, .int vosz, .int volm, .int voto_10, .int vofr_11, .int vokd_12, .int vonu_15, .int vosg_13, .int vofa, .int vopl, .long vowd_14, .int votd, .ref vmn, .ref vmr, .ref vmk, .ref vms, .ref vma, .ref vmm, .ref vmrn, .ref vmkn, .ref vmik, .ref vmon, .int vosm, .int vohp, .ref vmw, .ref vmf, .ref vmb, .int vomb, .ref vmd, .ref vmc, .int vocm, .int voct, .int vocy, .ref vmx, .int votx, .int vose, .ref vml, .ref vmwr, .int voln, .int vohw, .ref vmno, .int vond, .int voon, .int vowi, .int votop])), (vmt, .inl (cy 0, 940, .inl vmtf))] H := hP
      have hD : va_D A [(vmn, .inl (cy 0, 575, .inl vmnf)), (vmm, .inl (cy 1, 17, .inr (.inl vmmf))), (vml, .inl (cy 0, 160, .inl f_6)), (vo, .inr (12, [.int voth, .ref vmt, .int votp, .int vosz, .int volm, .int voto_10, .int vofr_11, .int vokd_12, .int vonu_15, .int vosg_13, .int vofa, .int vopl, .long vowd_14, .int votd, .ref vmn, .ref vmr, .ref vmk, .ref vms, .ref vma, .ref vmm, .ref vmrn, .ref vmkn, .ref vmik, .ref vmon, .int vosm, .int vohp, .ref vmw, .ref vmf, .ref vmb, .int vomb, .ref vmd, .ref vmc, .int vocm, .int voct, .int vocy, .ref vmx, .int votx, .int vose, .ref vml, .ref vmwr, .int voln, .int vohw, .ref vmno, .int vond, .int voon, .int vowi, .int votop])), (vmt, .inl (cy 0, 940, .inl vmtf))] := hD
      refine lv_aload_n hx hb dX11_readDoes_49 rfl (lv_at hl 1 rfl) ?_
      refine gf_X11_151 hx hb hts hown hK hP 3 rfl rfl dX11_readDoes_50 ?_
      refine lv_iload_n hx hb dX11_readDoes_53 rfl (lv_at hl 2 rfl) ?_
      have hin_19 : vp_in vat 160 := vp_in_iff.mpr ⟨by omega, by omega⟩
      refine va_iald hx hb hK hP 2 0 rfl rfl hin_19 dX11_readDoes_54 ?_
      refine lv_topi (fun z_20 ez_20 => ?_)
      have bz_20 := p_f_6.val hin_19 ez_20
      have k_0 : (0 : Int32).toInt = 0 := by decide
      have k_1 : (1 : Int32).toInt = 1 := by decide
      have k_2 : (2 : Int32).toInt = 2 := by decide
      have k_3 : (3 : Int32).toInt = 3 := by decide
      have k_4 : (4 : Int32).toInt = 4 := by decide
      by_cases sw_21_0 : z_20.toInt = 0
      · refine as_i 0 (i_eq.mpr (sw_21_0.trans k_0.symm)) ?_
        refine lv_tableIn (off := 33) (tgt := 88) hx hb dX11_readDoes_55 (by decide) (by decide) (by decide) (by decide) ?_
        refine lv_aload_n hx hb dX11_readDoes_88 rfl (lv_at hl 1 rfl) ?_
        refine lv_iload_n hx hb dX11_readDoes_89 rfl (lv_at hl 2 rfl) ?_
        refine lv_iconst (v := 2) hx hb dX11_readDoes_90 (by decide) ?_
        refine lv_iadd hx hb dX11_readDoes_91 ?_
        refine lv_topi (fun z_22 ez_22 => ?_)
        have bz_22 : z_22.toInt = vat.toInt + (2 : Int32).toInt := i_add ez_22 (by omega) (by omega)
        refine lv_aload_n hx hb dX11_readDoes_92 rfl (lv_at hl 1 rfl) ?_
        refine jn_i (wr := [(vml, .inl (cy 0, 160, .inl f_6))]) (rV (As := []) (rest := [.int z_22, .ref vo]) (ci := 12) ⟨hx, hb, hml, hown, hts⟩ (m_readDeedName l dC dI cy _ vnh vo voth vmt votp vosz volm voto_10 vofr_11 vokd_12 vonu_15 vosg_13 vofa vopl vowd_14 votd vmn vmr vmk vms vma vmm vmrn vmkn vmik vmon vosm vohp vmw vmf vmb vomb vmd vmc vocm voct vocy vmx votx vose vml vmwr voln vohw vmno vond voon vowi votop vmtf vmnf vmmf r_vosz ⟨by omega, by omega⟩ r_votd p_vmtf p_vmnf) (cw_X11_373 hts rfl rfl ⟨Nat.le_of_ble_eq_true rfl, Nat.le_of_ble_eq_true rfl⟩) hP hD hK [3, 4, 0, 1] rfl rfl rfl rfl bl0 e0 rfl hl.1 rfl (Nat.le_of_ble_eq_true rfl) dX11_readDoes_93 ⟨Nat.le_of_ble_eq_true rfl, Nat.le_of_ble_eq_true rfl⟩) hP hD hS hA [3, 4, 0, 1] [2] rfl rfl rfl (by decide) (fun r_23 u_25 H locs hp_24 hP hD hS => ?_)
        obtain ⟨voto_26, vofr_27, vokd_28, vosg_29, vowd_30, vonu_31, vofa_32, vopl_33, votd_34⟩ := u_25
        have hp_24 : ((r_23 = 0) ∨ (r_23 = 1 ∧ 0 ≤ (votd_34 : Int32).toInt ∧ (votd_34 : Int32).toInt ≤ 9)) ∧ (0 ≤ (voto_26 : Int32).toInt ∧ (voto_26 : Int32).toInt ≤ 940) ∧ (-1 ≤ (votd_34 : Int32).toInt ∧ (votd_34 : Int32).toInt ≤ 999) := hp_24
        obtain ⟨q_35, q_36, q_37⟩ := hp_24
        have hP : va_P (dC, dI) vwCl [(vml, .inl (cy 0, 160, .inl f_6)), (vo, .inr (12, [.int voth, .ref vmt, .int votp, .int vosz, .int volm, .int voto_26, .int vofr_27, .int vokd_28, .int vonu_31, .int vosg_29, .int vofa_32, .int vopl_33, .long vowd_30, .int votd_34, .ref vmn, .ref vmr, .ref vmk, .ref vms, .ref vma, .ref vmm, .ref vmrn, .ref vmkn, .ref vmik, .ref vmon, .int vosm, .int vohp, .ref vmw, .ref vmf, .ref vmb, .int vomb, .ref vmd, .ref vmc, .int vocm, .int voct, .int vocy, .ref vmx, .int votx, .int vose, .ref vml, .ref vmwr, .int voln, .int vohw, .ref vmno, .int vond, .int voon, .int vowi, .int votop])), (vmt, .inl (cy 0, 940, .inl vmtf)), (vmn, .inl (cy 0, 575, .inl vmnf)), (vmm, .inl (cy 1, 17, .inr (.inl vmmf)))] H := hP
        have hD : va_D A [(vml, .inl (cy 0, 160, .inl f_6)), (vo, .inr (12, [.int voth, .ref vmt, .int votp, .int vosz, .int volm, .int voto_26, .int vofr_27, .int vokd_28, .int vonu_31, .int vosg_29, .int vofa_32, .int vopl_33, .long vowd_30, .int votd_34, .ref vmn, .ref vmr, .ref vmk, .ref vms, .ref vma, .ref vmm, .ref vmrn, .ref vmkn, .ref vmik, .ref vmon, .int vosm, .int vohp, .ref vmw, .ref vmf, .ref vmb, .int vomb, .ref vmd, .ref vmc, .int vocm, .int voct, .int vocy, .ref vmx, .int votx, .int vose, .ref vml, .ref vmwr, .int voln, .int vohw, .ref vmno, .int vond, .int voon, .int vowi, .int votop])), (vmt, .inl (cy 0, 940, .inl vmtf)), (vmn, .inl (cy 0, 575, .inl vmnf)), (vmm, .inl (cy 1, 17, .inr (.inl vmmf)))] := hD
        rcases q_35 with aq_35 | ⟨aq_35, f0q_35, f1q_35⟩
        · skip
          refine as_i 0 aq_35 ?_
          refine jr_i (rVr (As := [.int z_22, .int 0]) (rest := []) (ci := 12) ⟨hx, hb, hml, hown, hts⟩ (m_keep_0 l dC dI cy vo voth vmt votp vosz volm voto_26 vofr_27 vokd_28 vonu_31 vosg_29 vofa_32 vopl_33 vowd_30 votd_34 vmn vmr vmk vms vma vmm vmrn vmkn vmik vmon vosm vohp vmw vmf vmb vomb vmd vmc vocm voct vocy vmx votx vose vml vmwr voln vohw vmno vond voon vowi votop z_22 ) (cw_X11_376 hts rfl rfl ⟨Nat.le_of_ble_eq_true rfl, Nat.le_of_ble_eq_true rfl⟩) hP hK [1] rfl rfl rfl rfl hl.1 rfl (Nat.le_of_ble_eq_true rfl) dX11_readDoes_96 ⟨Nat.le_of_ble_eq_true rfl, Nat.le_of_ble_eq_true rfl⟩) hP hS (fun r_38 H locs hp_39 hP hS => ?_)
          have hp_39 : ((r_38 = 0)) := hp_39
          have q_40 := hp_39
          have aq_40 := q_40
          · skip
            refine as_i 0 aq_40 ?_
            rw [hQ9]
            exact re_z (voto_26, vofr_27, vokd_28, vosg_29, vowd_30, vonu_31, vofa_32, vopl_33, votd_34, f_6) hx hb hr hlocks (Or.inl rfl) ⟨(show ((0 : Int32) = 0) ∨ ((0 : Int32) = 1) from (Or.inl rfl)), (show 0 ≤ (voto_26 : Int32).toInt ∧ (voto_26 : Int32).toInt ≤ 940 from ⟨by omega, by omega⟩), (show -1 ≤ (votd_34 : Int32).toInt ∧ (votd_34 : Int32).toInt ≤ 999 from ⟨by omega, by omega⟩), (show LQ f_6 from p_f_6)⟩ (hP.sub [1, 2, 3, 4, 0] rfl) (hD.sub [1, 2, 3, 4, 0] rfl rfl) hS dX11_readDoes_99
        · skip
          refine as_i 1 aq_35 ?_
          refine jn_i (wr := [(vmt, .inl (cy 0, 940, .inl vmtf)), (vmn, .inl (cy 0, 575, .inl vmnf)), (vmm, .inl (cy 1, 17, .inr (.inl vmmf)))]) (rV (As := [.int z_22, .int 1]) (rest := []) (ci := 12) ⟨hx, hb, hml, hown, hts⟩ (m_keep_1 l dC dI cy _ vo voth vmt votp vosz volm voto_26 vofr_27 vokd_28 vonu_31 vosg_29 vofa_32 vopl_33 vowd_30 votd_34 vmn vmr vmk vms vma vmm vmrn vmkn vmik vmon vosm vohp vmw vmf vmb vomb vmd vmc vocm voct vocy vmx votx vose vml vmwr voln vohw vmno vond voon vowi votop f_6 z_22 ⟨by omega, by omega⟩ ⟨by omega, by omega⟩ p_f_6 (fun z hz hz2 => p_f_6.put (n := voln) (d := 2) ⟨by omega, by omega⟩ (by omega) ⟨by decide, by decide⟩ hz (fun h9 => absurd h9 (by decide)) (fun h9 => absurd h9 (by decide)) (fun h9 => absurd h9 (by decide)))) (cw_X11_376 hts rfl rfl ⟨Nat.le_of_ble_eq_true rfl, Nat.le_of_ble_eq_true rfl⟩) hP hD hK [1, 0] rfl rfl rfl rfl bl0 e0 rfl hl.1 rfl (Nat.le_of_ble_eq_true rfl) dX11_readDoes_96 ⟨Nat.le_of_ble_eq_true rfl, Nat.le_of_ble_eq_true rfl⟩) hP hD hS hA [1, 0] [2, 3, 4] rfl rfl rfl (by decide) (fun r_41 u_43 H locs hp_42 hP hD hS => ?_)
          obtain ⟨vmlf_44, rfl⟩ : ∃ z, z = u_43 := ⟨_, rfl⟩
          have hp_42 : ((r_41 = 1)) ∧ (LQ vmlf_44) := hp_42
          obtain ⟨q_45, q_46⟩ := hp_42
          have hP : va_P (dC, dI) vwCl [(vmt, .inl (cy 0, 940, .inl vmtf)), (vmn, .inl (cy 0, 575, .inl vmnf)), (vmm, .inl (cy 1, 17, .inr (.inl vmmf))), (vo, .inr (12, [.int voth, .ref vmt, .int votp, .int vosz, .int volm, .int voto_26, .int vofr_27, .int vokd_28, .int vonu_31, .int vosg_29, .int vofa_32, .int vopl_33, .long vowd_30, .int votd_34, .ref vmn, .ref vmr, .ref vmk, .ref vms, .ref vma, .ref vmm, .ref vmrn, .ref vmkn, .ref vmik, .ref vmon, .int vosm, .int vohp, .ref vmw, .ref vmf, .ref vmb, .int vomb, .ref vmd, .ref vmc, .int vocm, .int voct, .int vocy, .ref vmx, .int votx, .int vose, .ref vml, .ref vmwr, .int voln, .int vohw, .ref vmno, .int vond, .int voon, .int vowi, .int votop])), (vml, .inl (cy 0, 160, .inl vmlf_44))] H := hP
          have hD : va_D A [(vmt, .inl (cy 0, 940, .inl vmtf)), (vmn, .inl (cy 0, 575, .inl vmnf)), (vmm, .inl (cy 1, 17, .inr (.inl vmmf))), (vo, .inr (12, [.int voth, .ref vmt, .int votp, .int vosz, .int volm, .int voto_26, .int vofr_27, .int vokd_28, .int vonu_31, .int vosg_29, .int vofa_32, .int vopl_33, .long vowd_30, .int votd_34, .ref vmn, .ref vmr, .ref vmk, .ref vms, .ref vma, .ref vmm, .ref vmrn, .ref vmkn, .ref vmik, .ref vmon, .int vosm, .int vohp, .ref vmw, .ref vmf, .ref vmb, .int vomb, .ref vmd, .ref vmc, .int vocm, .int voct, .int vocy, .ref vmx, .int votx, .int vose, .ref vml, .ref vmwr, .int voln, .int vohw, .ref vmno, .int vond, .int voon, .int vowi, .int votop])), (vml, .inl (cy 0, 160, .inl vmlf_44))] := hD
          have aq_45 := q_45
          · skip
            refine as_i 1 aq_45 ?_
            rw [hQ9]
            exact re_z (voto_26, vofr_27, vokd_28, vosg_29, vowd_30, vonu_31, vofa_32, vopl_33, votd_34, vmlf_44) hx hb hr hlocks (Or.inr rfl) ⟨(show ((1 : Int32) = 0) ∨ ((1 : Int32) = 1) from (Or.inr (rfl))), (show 0 ≤ (voto_26 : Int32).toInt ∧ (voto_26 : Int32).toInt ≤ 940 from ⟨by omega, by omega⟩), (show -1 ≤ (votd_34 : Int32).toInt ∧ (votd_34 : Int32).toInt ≤ 999 from ⟨by omega, by omega⟩), (show LQ vmlf_44 from q_46)⟩ (hP.sub [3, 0, 1, 2, 4] rfl) (hD.sub [3, 0, 1, 2, 4] rfl rfl) hS dX11_readDoes_99
      by_cases sw_21_1 : z_20.toInt = 1
      · refine as_i 1 (i_eq.mpr (sw_21_1.trans k_1.symm)) ?_
        refine lv_tableIn (off := 45) (tgt := 100) hx hb dX11_readDoes_55 (by decide) (by decide) (by decide) (by decide) ?_
        refine lv_aload_n hx hb dX11_readDoes_100 rfl (lv_at hl 1 rfl) ?_
        refine lv_iload_n hx hb dX11_readDoes_101 rfl (lv_at hl 2 rfl) ?_
        refine lv_iconst (v := 2) hx hb dX11_readDoes_102 (by decide) ?_
        refine lv_iadd hx hb dX11_readDoes_103 ?_
        refine lv_topi (fun z_47 ez_47 => ?_)
        have bz_47 : z_47.toInt = vat.toInt + (2 : Int32).toInt := i_add ez_47 (by omega) (by omega)
        refine lv_aload_n hx hb dX11_readDoes_104 rfl (lv_at hl 1 rfl) ?_
        refine jn_i (wr := [(vml, .inl (cy 0, 160, .inl f_6))]) (rV (As := []) (rest := [.int z_47, .ref vo]) (ci := 12) ⟨hx, hb, hml, hown, hts⟩ (m_readManName l dC dI cy _ vnh vo voth vmt votp vosz volm voto_10 vofr_11 vokd_12 vonu_15 vosg_13 vofa vopl vowd_14 votd vmn vmr vmk vms vma vmm vmrn vmkn vmik vmon vosm vohp vmw vmf vmb vomb vmd vmc vocm voct vocy vmx votx vose vml vmwr voln vohw vmno vond voon vowi votop vmtf vmnf vmmf r_vosz ⟨by omega, by omega⟩ r_votd p_vmtf p_vmnf) (cw_X11_379 hts rfl rfl ⟨Nat.le_of_ble_eq_true rfl, Nat.le_of_ble_eq_true rfl⟩) hP hD hK [3, 4, 0, 1] rfl rfl rfl rfl bl0 e0 rfl hl.1 rfl (Nat.le_of_ble_eq_true rfl) dX11_readDoes_105 ⟨Nat.le_of_ble_eq_true rfl, Nat.le_of_ble_eq_true rfl⟩) hP hD hS hA [3, 4, 0, 1] [2] rfl rfl rfl (by decide) (fun r_48 u_50 H locs hp_49 hP hD hS => ?_)
        obtain ⟨voto_51, vofr_52, vokd_53, vosg_54, vowd_55, vonu_56, vofa_57, vopl_58, votd_59⟩ := u_50
        have hp_49 : ((r_48 = 0) ∨ (r_48 = 1 ∧ 0 ≤ (votd_59 : Int32).toInt ∧ (votd_59 : Int32).toInt ≤ 6)) ∧ (0 ≤ (voto_51 : Int32).toInt ∧ (voto_51 : Int32).toInt ≤ 940) ∧ (-1 ≤ (votd_59 : Int32).toInt ∧ (votd_59 : Int32).toInt ≤ 999) := hp_49
        obtain ⟨q_60, q_61, q_62⟩ := hp_49
        have hP : va_P (dC, dI) vwCl [(vml, .inl (cy 0, 160, .inl f_6)), (vo, .inr (12, [.int voth, .ref vmt, .int votp, .int vosz, .int volm, .int voto_51, .int vofr_52, .int vokd_53, .int vonu_56, .int vosg_54, .int vofa_57, .int vopl_58, .long vowd_55, .int votd_59, .ref vmn, .ref vmr, .ref vmk, .ref vms, .ref vma, .ref vmm, .ref vmrn, .ref vmkn, .ref vmik, .ref vmon, .int vosm, .int vohp, .ref vmw, .ref vmf, .ref vmb, .int vomb, .ref vmd, .ref vmc, .int vocm, .int voct, .int vocy, .ref vmx, .int votx, .int vose, .ref vml, .ref vmwr, .int voln, .int vohw, .ref vmno, .int vond, .int voon, .int vowi, .int votop])), (vmt, .inl (cy 0, 940, .inl vmtf)), (vmn, .inl (cy 0, 575, .inl vmnf)), (vmm, .inl (cy 1, 17, .inr (.inl vmmf)))] H := hP
        have hD : va_D A [(vml, .inl (cy 0, 160, .inl f_6)), (vo, .inr (12, [.int voth, .ref vmt, .int votp, .int vosz, .int volm, .int voto_51, .int vofr_52, .int vokd_53, .int vonu_56, .int vosg_54, .int vofa_57, .int vopl_58, .long vowd_55, .int votd_59, .ref vmn, .ref vmr, .ref vmk, .ref vms, .ref vma, .ref vmm, .ref vmrn, .ref vmkn, .ref vmik, .ref vmon, .int vosm, .int vohp, .ref vmw, .ref vmf, .ref vmb, .int vomb, .ref vmd, .ref vmc, .int vocm, .int voct, .int vocy, .ref vmx, .int votx, .int vose, .ref vml, .ref vmwr, .int voln, .int vohw, .ref vmno, .int vond, .int voon, .int vowi, .int votop])), (vmt, .inl (cy 0, 940, .inl vmtf)), (vmn, .inl (cy 0, 575, .inl vmnf)), (vmm, .inl (cy 1, 17, .inr (.inl vmmf)))] := hD
        rcases q_60 with aq_60 | ⟨aq_60, f0q_60, f1q_60⟩
        · skip
          refine as_i 0 aq_60 ?_
          refine jr_i (rVr (As := [.int z_47, .int 0]) (rest := []) (ci := 12) ⟨hx, hb, hml, hown, hts⟩ (m_keep_0 l dC dI cy vo voth vmt votp vosz volm voto_51 vofr_52 vokd_53 vonu_56 vosg_54 vofa_57 vopl_58 vowd_55 votd_59 vmn vmr vmk vms vma vmm vmrn vmkn vmik vmon vosm vohp vmw vmf vmb vomb vmd vmc vocm voct vocy vmx votx vose vml vmwr voln vohw vmno vond voon vowi votop z_47 ) (cw_X11_376 hts rfl rfl ⟨Nat.le_of_ble_eq_true rfl, Nat.le_of_ble_eq_true rfl⟩) hP hK [1] rfl rfl rfl rfl hl.1 rfl (Nat.le_of_ble_eq_true rfl) dX11_readDoes_108 ⟨Nat.le_of_ble_eq_true rfl, Nat.le_of_ble_eq_true rfl⟩) hP hS (fun r_63 H locs hp_64 hP hS => ?_)
          have hp_64 : ((r_63 = 0)) := hp_64
          have q_65 := hp_64
          have aq_65 := q_65
          · skip
            refine as_i 0 aq_65 ?_
            refine lv_if_eq (tgt := 132) hx hb dX11_readDoes_111 (by decide) (fun _ => ?_) (fun c9 => absurd (by decide) c9)
            refine lv_iconst (v := 0) hx hb dX11_readDoes_132 (by decide) ?_
            rw [hQ9]
            exact re_z (voto_51, vofr_52, vokd_53, vosg_54, vowd_55, vonu_56, vofa_57, vopl_58, votd_59, f_6) hx hb hr hlocks (Or.inl rfl) ⟨(show ((0 : Int32) = 0) ∨ ((0 : Int32) = 1) from (Or.inl rfl)), (show 0 ≤ (voto_51 : Int32).toInt ∧ (voto_51 : Int32).toInt ≤ 940 from ⟨by omega, by omega⟩), (show -1 ≤ (votd_59 : Int32).toInt ∧ (votd_59 : Int32).toInt ≤ 999 from ⟨by omega, by omega⟩), (show LQ f_6 from p_f_6)⟩ (hP.sub [1, 2, 3, 4, 0] rfl) (hD.sub [1, 2, 3, 4, 0] rfl rfl) hS dX11_readDoes_133
        · skip
          refine as_i 1 aq_60 ?_
          refine jn_i (wr := [(vmt, .inl (cy 0, 940, .inl vmtf)), (vmn, .inl (cy 0, 575, .inl vmnf)), (vmm, .inl (cy 1, 17, .inr (.inl vmmf)))]) (rV (As := [.int z_47, .int 1]) (rest := []) (ci := 12) ⟨hx, hb, hml, hown, hts⟩ (m_keep_1 l dC dI cy _ vo voth vmt votp vosz volm voto_51 vofr_52 vokd_53 vonu_56 vosg_54 vofa_57 vopl_58 vowd_55 votd_59 vmn vmr vmk vms vma vmm vmrn vmkn vmik vmon vosm vohp vmw vmf vmb vomb vmd vmc vocm voct vocy vmx votx vose vml vmwr voln vohw vmno vond voon vowi votop f_6 z_47 ⟨by omega, by omega⟩ ⟨by omega, by omega⟩ p_f_6 (fun z hz hz2 => p_f_6.put (n := voln) (d := 2) ⟨by omega, by omega⟩ (by omega) ⟨by decide, by decide⟩ hz (fun h9 => absurd h9 (by decide)) (fun h9 => absurd h9 (by decide)) (fun h9 => absurd h9 (by decide)))) (cw_X11_376 hts rfl rfl ⟨Nat.le_of_ble_eq_true rfl, Nat.le_of_ble_eq_true rfl⟩) hP hD hK [1, 0] rfl rfl rfl rfl bl0 e0 rfl hl.1 rfl (Nat.le_of_ble_eq_true rfl) dX11_readDoes_108 ⟨Nat.le_of_ble_eq_true rfl, Nat.le_of_ble_eq_true rfl⟩) hP hD hS hA [1, 0] [2, 3, 4] rfl rfl rfl (by decide) (fun r_66 u_68 H locs hp_67 hP hD hS => ?_)
          obtain ⟨vmlf_69, rfl⟩ : ∃ z, z = u_68 := ⟨_, rfl⟩
          have hp_67 : ((r_66 = 1)) ∧ (LQ vmlf_69) := hp_67
          obtain ⟨q_70, q_71⟩ := hp_67
          have hP : va_P (dC, dI) vwCl [(vmt, .inl (cy 0, 940, .inl vmtf)), (vmn, .inl (cy 0, 575, .inl vmnf)), (vmm, .inl (cy 1, 17, .inr (.inl vmmf))), (vo, .inr (12, [.int voth, .ref vmt, .int votp, .int vosz, .int volm, .int voto_51, .int vofr_52, .int vokd_53, .int vonu_56, .int vosg_54, .int vofa_57, .int vopl_58, .long vowd_55, .int votd_59, .ref vmn, .ref vmr, .ref vmk, .ref vms, .ref vma, .ref vmm, .ref vmrn, .ref vmkn, .ref vmik, .ref vmon, .int vosm, .int vohp, .ref vmw, .ref vmf, .ref vmb, .int vomb, .ref vmd, .ref vmc, .int vocm, .int voct, .int vocy, .ref vmx, .int votx, .int vose, .ref vml, .ref vmwr, .int voln, .int vohw, .ref vmno, .int vond, .int voon, .int vowi, .int votop])), (vml, .inl (cy 0, 160, .inl vmlf_69))] H := hP
          have hD : va_D A [(vmt, .inl (cy 0, 940, .inl vmtf)), (vmn, .inl (cy 0, 575, .inl vmnf)), (vmm, .inl (cy 1, 17, .inr (.inl vmmf))), (vo, .inr (12, [.int voth, .ref vmt, .int votp, .int vosz, .int volm, .int voto_51, .int vofr_52, .int vokd_53, .int vonu_56, .int vosg_54, .int vofa_57, .int vopl_58, .long vowd_55, .int votd_59, .ref vmn, .ref vmr, .ref vmk, .ref vms, .ref vma, .ref vmm, .ref vmrn, .ref vmkn, .ref vmik, .ref vmon, .int vosm, .int vohp, .ref vmw, .ref vmf, .ref vmb, .int vomb, .ref vmd, .ref vmc, .int vocm, .int voct, .int vocy, .ref vmx, .int votx, .int vose, .ref vml, .ref vmwr, .int voln, .int vohw, .ref vmno, .int vond, .int voon, .int vowi, .int votop])), (vml, .inl (cy 0, 160, .inl vmlf_69))] := hD
          have aq_70 := q_70
          · skip
            refine as_i 1 aq_70 ?_
            refine lv_if_eq (tgt := 132) hx hb dX11_readDoes_111 (by decide) (fun c9 => absurd c9 (by decide)) (fun _ => ?_)
            refine lv_aload_n hx hb dX11_readDoes_114 rfl (lv_at hl 1 rfl) ?_
            refine lv_iload_n hx hb dX11_readDoes_115 rfl (lv_at hl 2 rfl) ?_
            refine lv_iconst (v := 3) hx hb dX11_readDoes_116 (by decide) ?_
            refine lv_iadd hx hb dX11_readDoes_117 ?_
            refine lv_topi (fun z_72 ez_72 => ?_)
            have bz_72 : z_72.toInt = vat.toInt + (3 : Int32).toInt := i_add ez_72 (by omega) (by omega)
            refine lv_aload_n hx hb dX11_readDoes_118 rfl (lv_at hl 1 rfl) ?_
            refine jn_i (wr := [(vml, .inl (cy 0, 160, .inl vmlf_69))]) (rV (As := []) (rest := [.int z_72, .ref vo]) (ci := 12) ⟨hx, hb, hml, hown, hts⟩ (m_readDeedName l dC dI cy _ vnh vo voth vmt votp vosz volm voto_51 vofr_52 vokd_53 vonu_56 vosg_54 vofa_57 vopl_58 vowd_55 votd_59 vmn vmr vmk vms vma vmm vmrn vmkn vmik vmon vosm vohp vmw vmf vmb vomb vmd vmc vocm voct vocy vmx votx vose vml vmwr voln vohw vmno vond voon vowi votop vmtf vmnf vmmf r_vosz ⟨by omega, by omega⟩ ⟨by omega, by omega⟩ p_vmtf p_vmnf) (cw_X11_373 hts rfl rfl ⟨Nat.le_of_ble_eq_true rfl, Nat.le_of_ble_eq_true rfl⟩) hP hD hK [3, 0, 1, 2] rfl rfl rfl rfl bl0 e0 rfl hl.1 rfl (Nat.le_of_ble_eq_true rfl) dX11_readDoes_119 ⟨Nat.le_of_ble_eq_true rfl, Nat.le_of_ble_eq_true rfl⟩) hP hD hS hA [3, 0, 1, 2] [4] rfl rfl rfl (by decide) (fun r_73 u_75 H locs hp_74 hP hD hS => ?_)
            obtain ⟨voto_76, vofr_77, vokd_78, vosg_79, vowd_80, vonu_81, vofa_82, vopl_83, votd_84⟩ := u_75
            have hp_74 : ((r_73 = 0) ∨ (r_73 = 1 ∧ 0 ≤ (votd_84 : Int32).toInt ∧ (votd_84 : Int32).toInt ≤ 9)) ∧ (0 ≤ (voto_76 : Int32).toInt ∧ (voto_76 : Int32).toInt ≤ 940) ∧ (-1 ≤ (votd_84 : Int32).toInt ∧ (votd_84 : Int32).toInt ≤ 999) := hp_74
            obtain ⟨q_85, q_86, q_87⟩ := hp_74
            have hP : va_P (dC, dI) vwCl [(vml, .inl (cy 0, 160, .inl vmlf_69)), (vo, .inr (12, [.int voth, .ref vmt, .int votp, .int vosz, .int volm, .int voto_76, .int vofr_77, .int vokd_78, .int vonu_81, .int vosg_79, .int vofa_82, .int vopl_83, .long vowd_80, .int votd_84, .ref vmn, .ref vmr, .ref vmk, .ref vms, .ref vma, .ref vmm, .ref vmrn, .ref vmkn, .ref vmik, .ref vmon, .int vosm, .int vohp, .ref vmw, .ref vmf, .ref vmb, .int vomb, .ref vmd, .ref vmc, .int vocm, .int voct, .int vocy, .ref vmx, .int votx, .int vose, .ref vml, .ref vmwr, .int voln, .int vohw, .ref vmno, .int vond, .int voon, .int vowi, .int votop])), (vmt, .inl (cy 0, 940, .inl vmtf)), (vmn, .inl (cy 0, 575, .inl vmnf)), (vmm, .inl (cy 1, 17, .inr (.inl vmmf)))] H := hP
            have hD : va_D A [(vml, .inl (cy 0, 160, .inl vmlf_69)), (vo, .inr (12, [.int voth, .ref vmt, .int votp, .int vosz, .int volm, .int voto_76, .int vofr_77, .int vokd_78, .int vonu_81, .int vosg_79, .int vofa_82, .int vopl_83, .long vowd_80, .int votd_84, .ref vmn, .ref vmr, .ref vmk, .ref vms, .ref vma, .ref vmm, .ref vmrn, .ref vmkn, .ref vmik, .ref vmon, .int vosm, .int vohp, .ref vmw, .ref vmf, .ref vmb, .int vomb, .ref vmd, .ref vmc, .int vocm, .int voct, .int vocy, .ref vmx, .int votx, .int vose, .ref vml, .ref vmwr, .int voln, .int vohw, .ref vmno, .int vond, .int voon, .int vowi, .int votop])), (vmt, .inl (cy 0, 940, .inl vmtf)), (vmn, .inl (cy 0, 575, .inl vmnf)), (vmm, .inl (cy 1, 17, .inr (.inl vmmf)))] := hD
            rcases q_85 with aq_85 | ⟨aq_85, f0q_85, f1q_85⟩
            · skip
              refine as_i 0 aq_85 ?_
              refine jr_i (rVr (As := [.int z_72, .int 0]) (rest := []) (ci := 12) ⟨hx, hb, hml, hown, hts⟩ (m_keep_0 l dC dI cy vo voth vmt votp vosz volm voto_76 vofr_77 vokd_78 vonu_81 vosg_79 vofa_82 vopl_83 vowd_80 votd_84 vmn vmr vmk vms vma vmm vmrn vmkn vmik vmon vosm vohp vmw vmf vmb vomb vmd vmc vocm voct vocy vmx votx vose vml vmwr voln vohw vmno vond voon vowi votop z_72 ) (cw_X11_376 hts rfl rfl ⟨Nat.le_of_ble_eq_true rfl, Nat.le_of_ble_eq_true rfl⟩) hP hK [1] rfl rfl rfl rfl hl.1 rfl (Nat.le_of_ble_eq_true rfl) dX11_readDoes_122 ⟨Nat.le_of_ble_eq_true rfl, Nat.le_of_ble_eq_true rfl⟩) hP hS (fun r_88 H locs hp_89 hP hS => ?_)
              have hp_89 : ((r_88 = 0)) := hp_89
              have q_90 := hp_89
              have aq_90 := q_90
              · skip
                refine as_i 0 aq_90 ?_
                refine lv_if_eq (tgt := 132) hx hb dX11_readDoes_125 (by decide) (fun _ => ?_) (fun c9 => absurd (by decide) c9)
                refine lv_iconst (v := 0) hx hb dX11_readDoes_132 (by decide) ?_
                rw [hQ9]
                exact re_z (voto_76, vofr_77, vokd_78, vosg_79, vowd_80, vonu_81, vofa_82, vopl_83, votd_84, vmlf_69) hx hb hr hlocks (Or.inl rfl) ⟨(show ((0 : Int32) = 0) ∨ ((0 : Int32) = 1) from (Or.inl rfl)), (show 0 ≤ (voto_76 : Int32).toInt ∧ (voto_76 : Int32).toInt ≤ 940 from ⟨by omega, by omega⟩), (show -1 ≤ (votd_84 : Int32).toInt ∧ (votd_84 : Int32).toInt ≤ 999 from ⟨by omega, by omega⟩), (show LQ vmlf_69 from q_71)⟩ (hP.sub [1, 2, 3, 4, 0] rfl) (hD.sub [1, 2, 3, 4, 0] rfl rfl) hS dX11_readDoes_133
            · skip
              refine as_i 1 aq_85 ?_
              refine jn_i (wr := [(vmt, .inl (cy 0, 940, .inl vmtf)), (vmn, .inl (cy 0, 575, .inl vmnf)), (vmm, .inl (cy 1, 17, .inr (.inl vmmf)))]) (rV (As := [.int z_72, .int 1]) (rest := []) (ci := 12) ⟨hx, hb, hml, hown, hts⟩ (m_keep_1 l dC dI cy _ vo voth vmt votp vosz volm voto_76 vofr_77 vokd_78 vonu_81 vosg_79 vofa_82 vopl_83 vowd_80 votd_84 vmn vmr vmk vms vma vmm vmrn vmkn vmik vmon vosm vohp vmw vmf vmb vomb vmd vmc vocm voct vocy vmx votx vose vml vmwr voln vohw vmno vond voon vowi votop vmlf_69 z_72 ⟨by omega, by omega⟩ ⟨by omega, by omega⟩ q_71 (fun z hz hz2 => q_71.put (n := voln) (d := 3) ⟨by omega, by omega⟩ (by omega) ⟨by decide, by decide⟩ hz (fun h9 => absurd h9 (by decide)) (fun h9 => absurd h9 (by decide)) (fun h9 => absurd h9 (by decide)))) (cw_X11_376 hts rfl rfl ⟨Nat.le_of_ble_eq_true rfl, Nat.le_of_ble_eq_true rfl⟩) hP hD hK [1, 0] rfl rfl rfl rfl bl0 e0 rfl hl.1 rfl (Nat.le_of_ble_eq_true rfl) dX11_readDoes_122 ⟨Nat.le_of_ble_eq_true rfl, Nat.le_of_ble_eq_true rfl⟩) hP hD hS hA [1, 0] [2, 3, 4] rfl rfl rfl (by decide) (fun r_91 u_93 H locs hp_92 hP hD hS => ?_)
              obtain ⟨vmlf_94, rfl⟩ : ∃ z, z = u_93 := ⟨_, rfl⟩
              have hp_92 : ((r_91 = 1)) ∧ (LQ vmlf_94) := hp_92
              obtain ⟨q_95, q_96⟩ := hp_92
              have hP : va_P (dC, dI) vwCl [(vmt, .inl (cy 0, 940, .inl vmtf)), (vmn, .inl (cy 0, 575, .inl vmnf)), (vmm, .inl (cy 1, 17, .inr (.inl vmmf))), (vo, .inr (12, [.int voth, .ref vmt, .int votp, .int vosz, .int volm, .int voto_76, .int vofr_77, .int vokd_78, .int vonu_81, .int vosg_79, .int vofa_82, .int vopl_83, .long vowd_80, .int votd_84, .ref vmn, .ref vmr, .ref vmk, .ref vms, .ref vma, .ref vmm, .ref vmrn, .ref vmkn, .ref vmik, .ref vmon, .int vosm, .int vohp, .ref vmw, .ref vmf, .ref vmb, .int vomb, .ref vmd, .ref vmc, .int vocm, .int voct, .int vocy, .ref vmx, .int votx, .int vose, .ref vml, .ref vmwr, .int voln, .int vohw, .ref vmno, .int vond, .int voon, .int vowi, .int votop])), (vml, .inl (cy 0, 160, .inl vmlf_94))] H := hP
              have hD : va_D A [(vmt, .inl (cy 0, 940, .inl vmtf)), (vmn, .inl (cy 0, 575, .inl vmnf)), (vmm, .inl (cy 1, 17, .inr (.inl vmmf))), (vo, .inr (12, [.int voth, .ref vmt, .int votp, .int vosz, .int volm, .int voto_76, .int vofr_77, .int vokd_78, .int vonu_81, .int vosg_79, .int vofa_82, .int vopl_83, .long vowd_80, .int votd_84, .ref vmn, .ref vmr, .ref vmk, .ref vms, .ref vma, .ref vmm, .ref vmrn, .ref vmkn, .ref vmik, .ref vmon, .int vosm, .int vohp, .ref vmw, .ref vmf, .ref vmb, .int vomb, .ref vmd, .ref vmc, .int vocm, .int voct, .int vocy, .ref vmx, .int votx, .int vose, .ref vml, .ref vmwr, .int voln, .int vohw, .ref vmno, .int vond, .int voon, .int vowi, .int votop])), (vml, .inl (cy 0, 160, .inl vmlf_94))] := hD
              have aq_95 := q_95
              · skip
                refine as_i 1 aq_95 ?_
                refine lv_if_eq (tgt := 132) hx hb dX11_readDoes_125 (by decide) (fun c9 => absurd c9 (by decide)) (fun _ => ?_)
                refine lv_iconst (v := 1) hx hb dX11_readDoes_128 (by decide) ?_
                refine lv_goto (tgt := 133) hx hb dX11_readDoes_129 (by decide) ?_
                rw [hQ9]
                exact re_z (voto_76, vofr_77, vokd_78, vosg_79, vowd_80, vonu_81, vofa_82, vopl_83, votd_84, vmlf_94) hx hb hr hlocks (Or.inr rfl) ⟨(show ((1 : Int32) = 0) ∨ ((1 : Int32) = 1) from (Or.inr (rfl))), (show 0 ≤ (voto_76 : Int32).toInt ∧ (voto_76 : Int32).toInt ≤ 940 from ⟨by omega, by omega⟩), (show -1 ≤ (votd_84 : Int32).toInt ∧ (votd_84 : Int32).toInt ≤ 999 from ⟨by omega, by omega⟩), (show LQ vmlf_94 from q_96)⟩ (hP.sub [3, 0, 1, 2, 4] rfl) (hD.sub [3, 0, 1, 2, 4] rfl rfl) hS dX11_readDoes_133
      by_cases sw_21_2 : z_20.toInt = 2
      · refine as_i 2 (i_eq.mpr (sw_21_2.trans k_2.symm)) ?_
        refine lv_tableIn (off := 116) (tgt := 171) hx hb dX11_readDoes_55 (by decide) (by decide) (by decide) (by decide) ?_
        refine lv_iconst (v := 1) hx hb dX11_readDoes_171 (by decide) ?_
        rw [hQ9]
        exact re_z (voto_10, vofr_11, vokd_12, vosg_13, vowd_14, vonu_15, vofa, vopl, votd, f_6) hx hb hr hlocks (Or.inr rfl) ⟨(show ((1 : Int32) = 0) ∨ ((1 : Int32) = 1) from (Or.inr (rfl))), (show 0 ≤ (voto_10 : Int32).toInt ∧ (voto_10 : Int32).toInt ≤ 940 from ⟨by omega, by omega⟩), (show -1 ≤ (votd : Int32).toInt ∧ (votd : Int32).toInt ≤ 999 from ⟨by omega, by omega⟩), (show LQ f_6 from p_f_6)⟩ (hP.sub [3, 4, 0, 1, 2] rfl) (hD.sub [3, 4, 0, 1, 2] rfl rfl) hS dX11_readDoes_172
      by_cases sw_21_3 : z_20.toInt = 3
      · refine as_i 3 (i_eq.mpr (sw_21_3.trans k_3.symm)) ?_
        refine lv_tableIn (off := 79) (tgt := 134) hx hb dX11_readDoes_55 (by decide) (by decide) (by decide) (by decide) ?_
        refine lv_aload_n hx hb dX11_readDoes_134 rfl (lv_at hl 1 rfl) ?_
        refine lv_iload_n hx hb dX11_readDoes_135 rfl (lv_at hl 2 rfl) ?_
        refine lv_iconst (v := 2) hx hb dX11_readDoes_136 (by decide) ?_
        refine lv_iadd hx hb dX11_readDoes_137 ?_
        refine lv_topi (fun z_97 ez_97 => ?_)
        have bz_97 : z_97.toInt = vat.toInt + (2 : Int32).toInt := i_add ez_97 (by omega) (by omega)
        refine lv_aload_n hx hb dX11_readDoes_138 rfl (lv_at hl 1 rfl) ?_
        refine jn_i (wr := [(vml, .inl (cy 0, 160, .inl f_6))]) (rV (As := []) (rest := [.int z_97, .ref vo]) (ci := 12) ⟨hx, hb, hml, hown, hts⟩ (m_readManName l dC dI cy _ vnh vo voth vmt votp vosz volm voto_10 vofr_11 vokd_12 vonu_15 vosg_13 vofa vopl vowd_14 votd vmn vmr vmk vms vma vmm vmrn vmkn vmik vmon vosm vohp vmw vmf vmb vomb vmd vmc vocm voct vocy vmx votx vose vml vmwr voln vohw vmno vond voon vowi votop vmtf vmnf vmmf r_vosz ⟨by omega, by omega⟩ r_votd p_vmtf p_vmnf) (cw_X11_379 hts rfl rfl ⟨Nat.le_of_ble_eq_true rfl, Nat.le_of_ble_eq_true rfl⟩) hP hD hK [3, 4, 0, 1] rfl rfl rfl rfl bl0 e0 rfl hl.1 rfl (Nat.le_of_ble_eq_true rfl) dX11_readDoes_139 ⟨Nat.le_of_ble_eq_true rfl, Nat.le_of_ble_eq_true rfl⟩) hP hD hS hA [3, 4, 0, 1] [2] rfl rfl rfl (by decide) (fun r_98 u_100 H locs hp_99 hP hD hS => ?_)
        obtain ⟨voto_101, vofr_102, vokd_103, vosg_104, vowd_105, vonu_106, vofa_107, vopl_108, votd_109⟩ := u_100
        have hp_99 : ((r_98 = 0) ∨ (r_98 = 1 ∧ 0 ≤ (votd_109 : Int32).toInt ∧ (votd_109 : Int32).toInt ≤ 6)) ∧ (0 ≤ (voto_101 : Int32).toInt ∧ (voto_101 : Int32).toInt ≤ 940) ∧ (-1 ≤ (votd_109 : Int32).toInt ∧ (votd_109 : Int32).toInt ≤ 999) := hp_99
        obtain ⟨q_110, q_111, q_112⟩ := hp_99
        have hP : va_P (dC, dI) vwCl [(vml, .inl (cy 0, 160, .inl f_6)), (vo, .inr (12, [.int voth, .ref vmt, .int votp, .int vosz, .int volm, .int voto_101, .int vofr_102, .int vokd_103, .int vonu_106, .int vosg_104, .int vofa_107, .int vopl_108, .long vowd_105, .int votd_109, .ref vmn, .ref vmr, .ref vmk, .ref vms, .ref vma, .ref vmm, .ref vmrn, .ref vmkn, .ref vmik, .ref vmon, .int vosm, .int vohp, .ref vmw, .ref vmf, .ref vmb, .int vomb, .ref vmd, .ref vmc, .int vocm, .int voct, .int vocy, .ref vmx, .int votx, .int vose, .ref vml, .ref vmwr, .int voln, .int vohw, .ref vmno, .int vond, .int voon, .int vowi, .int votop])), (vmt, .inl (cy 0, 940, .inl vmtf)), (vmn, .inl (cy 0, 575, .inl vmnf)), (vmm, .inl (cy 1, 17, .inr (.inl vmmf)))] H := hP
        have hD : va_D A [(vml, .inl (cy 0, 160, .inl f_6)), (vo, .inr (12, [.int voth, .ref vmt, .int votp, .int vosz, .int volm, .int voto_101, .int vofr_102, .int vokd_103, .int vonu_106, .int vosg_104, .int vofa_107, .int vopl_108, .long vowd_105, .int votd_109, .ref vmn, .ref vmr, .ref vmk, .ref vms, .ref vma, .ref vmm, .ref vmrn, .ref vmkn, .ref vmik, .ref vmon, .int vosm, .int vohp, .ref vmw, .ref vmf, .ref vmb, .int vomb, .ref vmd, .ref vmc, .int vocm, .int voct, .int vocy, .ref vmx, .int votx, .int vose, .ref vml, .ref vmwr, .int voln, .int vohw, .ref vmno, .int vond, .int voon, .int vowi, .int votop])), (vmt, .inl (cy 0, 940, .inl vmtf)), (vmn, .inl (cy 0, 575, .inl vmnf)), (vmm, .inl (cy 1, 17, .inr (.inl vmmf)))] := hD
        rcases q_110 with aq_110 | ⟨aq_110, f0q_110, f1q_110⟩
        · skip
          refine as_i 0 aq_110 ?_
          refine jr_i (rVr (As := [.int z_97, .int 0]) (rest := []) (ci := 12) ⟨hx, hb, hml, hown, hts⟩ (m_keep_0 l dC dI cy vo voth vmt votp vosz volm voto_101 vofr_102 vokd_103 vonu_106 vosg_104 vofa_107 vopl_108 vowd_105 votd_109 vmn vmr vmk vms vma vmm vmrn vmkn vmik vmon vosm vohp vmw vmf vmb vomb vmd vmc vocm voct vocy vmx votx vose vml vmwr voln vohw vmno vond voon vowi votop z_97 ) (cw_X11_376 hts rfl rfl ⟨Nat.le_of_ble_eq_true rfl, Nat.le_of_ble_eq_true rfl⟩) hP hK [1] rfl rfl rfl rfl hl.1 rfl (Nat.le_of_ble_eq_true rfl) dX11_readDoes_142 ⟨Nat.le_of_ble_eq_true rfl, Nat.le_of_ble_eq_true rfl⟩) hP hS (fun r_113 H locs hp_114 hP hS => ?_)
          have hp_114 : ((r_113 = 0)) := hp_114
          have q_115 := hp_114
          have aq_115 := q_115
          · skip
            refine as_i 0 aq_115 ?_
            refine lv_if_eq (tgt := 169) hx hb dX11_readDoes_145 (by decide) (fun _ => ?_) (fun c9 => absurd (by decide) c9)
            refine lv_iconst (v := 0) hx hb dX11_readDoes_169 (by decide) ?_
            rw [hQ9]
            exact re_z (voto_101, vofr_102, vokd_103, vosg_104, vowd_105, vonu_106, vofa_107, vopl_108, votd_109, f_6) hx hb hr hlocks (Or.inl rfl) ⟨(show ((0 : Int32) = 0) ∨ ((0 : Int32) = 1) from (Or.inl rfl)), (show 0 ≤ (voto_101 : Int32).toInt ∧ (voto_101 : Int32).toInt ≤ 940 from ⟨by omega, by omega⟩), (show -1 ≤ (votd_109 : Int32).toInt ∧ (votd_109 : Int32).toInt ≤ 999 from ⟨by omega, by omega⟩), (show LQ f_6 from p_f_6)⟩ (hP.sub [1, 2, 3, 4, 0] rfl) (hD.sub [1, 2, 3, 4, 0] rfl rfl) hS dX11_readDoes_170
        · skip
          refine as_i 1 aq_110 ?_
          refine jn_i (wr := [(vmt, .inl (cy 0, 940, .inl vmtf)), (vmn, .inl (cy 0, 575, .inl vmnf)), (vmm, .inl (cy 1, 17, .inr (.inl vmmf)))]) (rV (As := [.int z_97, .int 1]) (rest := []) (ci := 12) ⟨hx, hb, hml, hown, hts⟩ (m_keep_1 l dC dI cy _ vo voth vmt votp vosz volm voto_101 vofr_102 vokd_103 vonu_106 vosg_104 vofa_107 vopl_108 vowd_105 votd_109 vmn vmr vmk vms vma vmm vmrn vmkn vmik vmon vosm vohp vmw vmf vmb vomb vmd vmc vocm voct vocy vmx votx vose vml vmwr voln vohw vmno vond voon vowi votop f_6 z_97 ⟨by omega, by omega⟩ ⟨by omega, by omega⟩ p_f_6 (fun z hz hz2 => p_f_6.put (n := voln) (d := 2) ⟨by omega, by omega⟩ (by omega) ⟨by decide, by decide⟩ hz (fun h9 => absurd h9 (by decide)) (fun h9 => absurd h9 (by decide)) (fun h9 => absurd h9 (by decide)))) (cw_X11_376 hts rfl rfl ⟨Nat.le_of_ble_eq_true rfl, Nat.le_of_ble_eq_true rfl⟩) hP hD hK [1, 0] rfl rfl rfl rfl bl0 e0 rfl hl.1 rfl (Nat.le_of_ble_eq_true rfl) dX11_readDoes_142 ⟨Nat.le_of_ble_eq_true rfl, Nat.le_of_ble_eq_true rfl⟩) hP hD hS hA [1, 0] [2, 3, 4] rfl rfl rfl (by decide) (fun r_116 u_118 H locs hp_117 hP hD hS => ?_)
          obtain ⟨vmlf_119, rfl⟩ : ∃ z, z = u_118 := ⟨_, rfl⟩
          have hp_117 : ((r_116 = 1)) ∧ (LQ vmlf_119) := hp_117
          obtain ⟨q_120, q_121⟩ := hp_117
          have hP : va_P (dC, dI) vwCl [(vmt, .inl (cy 0, 940, .inl vmtf)), (vmn, .inl (cy 0, 575, .inl vmnf)), (vmm, .inl (cy 1, 17, .inr (.inl vmmf))), (vo, .inr (12, [.int voth, .ref vmt, .int votp, .int vosz, .int volm, .int voto_101, .int vofr_102, .int vokd_103, .int vonu_106, .int vosg_104, .int vofa_107, .int vopl_108, .long vowd_105, .int votd_109, .ref vmn, .ref vmr, .ref vmk, .ref vms, .ref vma, .ref vmm, .ref vmrn, .ref vmkn, .ref vmik, .ref vmon, .int vosm, .int vohp, .ref vmw, .ref vmf, .ref vmb, .int vomb, .ref vmd, .ref vmc, .int vocm, .int voct, .int vocy, .ref vmx, .int votx, .int vose, .ref vml, .ref vmwr, .int voln, .int vohw, .ref vmno, .int vond, .int voon, .int vowi, .int votop])), (vml, .inl (cy 0, 160, .inl vmlf_119))] H := hP
          have hD : va_D A [(vmt, .inl (cy 0, 940, .inl vmtf)), (vmn, .inl (cy 0, 575, .inl vmnf)), (vmm, .inl (cy 1, 17, .inr (.inl vmmf))), (vo, .inr (12, [.int voth, .ref vmt, .int votp, .int vosz, .int volm, .int voto_101, .int vofr_102, .int vokd_103, .int vonu_106, .int vosg_104, .int vofa_107, .int vopl_108, .long vowd_105, .int votd_109, .ref vmn, .ref vmr, .ref vmk, .ref vms, .ref vma, .ref vmm, .ref vmrn, .ref vmkn, .ref vmik, .ref vmon, .int vosm, .int vohp, .ref vmw, .ref vmf, .ref vmb, .int vomb, .ref vmd, .ref vmc, .int vocm, .int voct, .int vocy, .ref vmx, .int votx, .int vose, .ref vml, .ref vmwr, .int voln, .int vohw, .ref vmno, .int vond, .int voon, .int vowi, .int votop])), (vml, .inl (cy 0, 160, .inl vmlf_119))] := hD
          have aq_120 := q_120
          · skip
            refine as_i 1 aq_120 ?_
            refine lv_if_eq (tgt := 169) hx hb dX11_readDoes_145 (by decide) (fun c9 => absurd c9 (by decide)) (fun _ => ?_)
            refine lv_aload_n hx hb dX11_readDoes_148 rfl (lv_at hl 1 rfl) ?_
            refine lv_iload_n hx hb dX11_readDoes_149 rfl (lv_at hl 2 rfl) ?_
            refine lv_iconst (v := 3) hx hb dX11_readDoes_150 (by decide) ?_
            refine lv_iadd hx hb dX11_readDoes_151 ?_
            refine lv_topi (fun z_122 ez_122 => ?_)
            have bz_122 : z_122.toInt = vat.toInt + (3 : Int32).toInt := i_add ez_122 (by omega) (by omega)
            refine lv_aload_n hx hb dX11_readDoes_152 rfl (lv_at hl 1 rfl) ?_
            refine lv_iconst (v := 1) hx hb dX11_readDoes_153 (by decide) ?_
            refine lv_bipush (v := 40) hx hb dX11_readDoes_154 (by decide) ?_
            have k_40 : (40 : Int32).toInt = 40 := by decide
            refine jn_i (wr := [(vmn, .inl (cy 0, 575, .inl vmnf)), (vmm, .inl (cy 1, 17, .inr (.inl vmmf))), (vml, .inl (cy 0, 160, .inl vmlf_119))]) (rV (As := [.int 1, .int 40]) (rest := [.int z_122, .ref vo]) (ci := 12) ⟨hx, hb, hml, hown, hts⟩ (m_readNumber l dC dI cy _ vo voth vmt votp vosz volm voto_101 vofr_102 vokd_103 vonu_106 vosg_104 vofa_107 vopl_108 vowd_105 votd_109 vmn vmr vmk vms vma vmm vmrn vmkn vmik vmon vosm vohp vmw vmf vmb vomb vmd vmc vocm voct vocy vmx votx vose vml vmwr voln vohw vmno vond voon vowi votop vmtf 1 40 r_vosz ⟨by omega, by omega⟩ ⟨by omega, by omega⟩ ⟨by omega, by omega⟩ ⟨by omega, by omega⟩ p_vmtf) (cw_X11_178 hts rfl rfl ⟨Nat.le_of_ble_eq_true rfl, Nat.le_of_ble_eq_true rfl⟩) hP hD hK [3, 0] rfl rfl rfl rfl bl0 e0 rfl hl.1 rfl (Nat.le_of_ble_eq_true rfl) dX11_readDoes_156 ⟨Nat.le_of_ble_eq_true rfl, Nat.le_of_ble_eq_true rfl⟩) hP hD hS hA [3, 0] [1, 2, 4] rfl rfl rfl (by decide) (fun r_123 u_125 H locs hp_124 hP hD hS => ?_)
            obtain ⟨voto_126, vofr_127, vokd_128, vosg_129, vowd_130, vonu_131, vofa_132, vopl_133, votd_134⟩ := u_125
            have hp_124 : ((r_123 = 0 ∧ (votd_134 : Int32).toInt = (votd_109 : Int32).toInt) ∨ (r_123 = 1 ∧ (1 : Int32).toInt ≤ (votd_134 : Int32).toInt ∧ (votd_134 : Int32).toInt ≤ (40 : Int32).toInt ∧ ((vokd_128 : Int32).toInt = 0 ∨ (vokd_128 : Int32).toInt = 1 ∨ (voto_101 : Int32).toInt + 1 ≤ (voto_126 : Int32).toInt))) ∧ (0 ≤ (voto_126 : Int32).toInt ∧ (voto_126 : Int32).toInt ≤ 940) ∧ (-1 ≤ (votd_134 : Int32).toInt ∧ (votd_134 : Int32).toInt ≤ 999) ∧ ((voto_101 : Int32).toInt ≤ (voto_126 : Int32).toInt) := hp_124
            obtain ⟨q_135, q_136, q_137, q_138⟩ := hp_124
            have hP : va_P (dC, dI) vwCl [(vmn, .inl (cy 0, 575, .inl vmnf)), (vmm, .inl (cy 1, 17, .inr (.inl vmmf))), (vml, .inl (cy 0, 160, .inl vmlf_119)), (vo, .inr (12, [.int voth, .ref vmt, .int votp, .int vosz, .int volm, .int voto_126, .int vofr_127, .int vokd_128, .int vonu_131, .int vosg_129, .int vofa_132, .int vopl_133, .long vowd_130, .int votd_134, .ref vmn, .ref vmr, .ref vmk, .ref vms, .ref vma, .ref vmm, .ref vmrn, .ref vmkn, .ref vmik, .ref vmon, .int vosm, .int vohp, .ref vmw, .ref vmf, .ref vmb, .int vomb, .ref vmd, .ref vmc, .int vocm, .int voct, .int vocy, .ref vmx, .int votx, .int vose, .ref vml, .ref vmwr, .int voln, .int vohw, .ref vmno, .int vond, .int voon, .int vowi, .int votop])), (vmt, .inl (cy 0, 940, .inl vmtf))] H := hP
            have hD : va_D A [(vmn, .inl (cy 0, 575, .inl vmnf)), (vmm, .inl (cy 1, 17, .inr (.inl vmmf))), (vml, .inl (cy 0, 160, .inl vmlf_119)), (vo, .inr (12, [.int voth, .ref vmt, .int votp, .int vosz, .int volm, .int voto_126, .int vofr_127, .int vokd_128, .int vonu_131, .int vosg_129, .int vofa_132, .int vopl_133, .long vowd_130, .int votd_134, .ref vmn, .ref vmr, .ref vmk, .ref vms, .ref vma, .ref vmm, .ref vmrn, .ref vmkn, .ref vmik, .ref vmon, .int vosm, .int vohp, .ref vmw, .ref vmf, .ref vmb, .int vomb, .ref vmd, .ref vmc, .int vocm, .int voct, .int vocy, .ref vmx, .int votx, .int vose, .ref vml, .ref vmwr, .int voln, .int vohw, .ref vmno, .int vond, .int voon, .int vowi, .int votop])), (vmt, .inl (cy 0, 940, .inl vmtf))] := hD
            rcases q_135 with ⟨aq_135, f0q_135⟩ | ⟨aq_135, f0q_135, f1q_135, f2q_135⟩
            · skip
              refine as_i 0 aq_135 ?_
              refine jr_i (rVr (As := [.int z_122, .int 0]) (rest := []) (ci := 12) ⟨hx, hb, hml, hown, hts⟩ (m_keep_0 l dC dI cy vo voth vmt votp vosz volm voto_126 vofr_127 vokd_128 vonu_131 vosg_129 vofa_132 vopl_133 vowd_130 votd_134 vmn vmr vmk vms vma vmm vmrn vmkn vmik vmon vosm vohp vmw vmf vmb vomb vmd vmc vocm voct vocy vmx votx vose vml vmwr voln vohw vmno vond voon vowi votop z_122 ) (cw_X11_376 hts rfl rfl ⟨Nat.le_of_ble_eq_true rfl, Nat.le_of_ble_eq_true rfl⟩) hP hK [3] rfl rfl rfl rfl hl.1 rfl (Nat.le_of_ble_eq_true rfl) dX11_readDoes_159 ⟨Nat.le_of_ble_eq_true rfl, Nat.le_of_ble_eq_true rfl⟩) hP hS (fun r_139 H locs hp_140 hP hS => ?_)
              have hp_140 : ((r_139 = 0)) := hp_140
              have q_141 := hp_140
              have aq_141 := q_141
              · skip
                refine as_i 0 aq_141 ?_
                refine lv_if_eq (tgt := 169) hx hb dX11_readDoes_162 (by decide) (fun _ => ?_) (fun c9 => absurd (by decide) c9)
                refine lv_iconst (v := 0) hx hb dX11_readDoes_169 (by decide) ?_
                rw [hQ9]
                exact re_z (voto_126, vofr_127, vokd_128, vosg_129, vowd_130, vonu_131, vofa_132, vopl_133, votd_134, vmlf_119) hx hb hr hlocks (Or.inl rfl) ⟨(show ((0 : Int32) = 0) ∨ ((0 : Int32) = 1) from (Or.inl rfl)), (show 0 ≤ (voto_126 : Int32).toInt ∧ (voto_126 : Int32).toInt ≤ 940 from ⟨by omega, by omega⟩), (show -1 ≤ (votd_134 : Int32).toInt ∧ (votd_134 : Int32).toInt ≤ 999 from ⟨by omega, by omega⟩), (show LQ vmlf_119 from q_121)⟩ (hP.sub [3, 4, 0, 1, 2] rfl) (hD.sub [3, 4, 0, 1, 2] rfl rfl) hS dX11_readDoes_170
            · skip
              refine as_i 1 aq_135 ?_
              refine jn_i (wr := [(vmn, .inl (cy 0, 575, .inl vmnf)), (vmm, .inl (cy 1, 17, .inr (.inl vmmf))), (vmt, .inl (cy 0, 940, .inl vmtf))]) (rV (As := [.int z_122, .int 1]) (rest := []) (ci := 12) ⟨hx, hb, hml, hown, hts⟩ (m_keep_1 l dC dI cy _ vo voth vmt votp vosz volm voto_126 vofr_127 vokd_128 vonu_131 vosg_129 vofa_132 vopl_133 vowd_130 votd_134 vmn vmr vmk vms vma vmm vmrn vmkn vmik vmon vosm vohp vmw vmf vmb vomb vmd vmc vocm voct vocy vmx votx vose vml vmwr voln vohw vmno vond voon vowi votop vmlf_119 z_122 ⟨by omega, by omega⟩ ⟨by omega, by omega⟩ q_121 (fun z hz hz2 => q_121.put (n := voln) (d := 3) ⟨by omega, by omega⟩ (by omega) ⟨by decide, by decide⟩ hz (fun h9 => absurd h9 (by decide)) (fun h9 => absurd h9 (by decide)) (fun h9 => absurd h9 (by decide)))) (cw_X11_376 hts rfl rfl ⟨Nat.le_of_ble_eq_true rfl, Nat.le_of_ble_eq_true rfl⟩) hP hD hK [3, 2] rfl rfl rfl rfl bl0 e0 rfl hl.1 rfl (Nat.le_of_ble_eq_true rfl) dX11_readDoes_159 ⟨Nat.le_of_ble_eq_true rfl, Nat.le_of_ble_eq_true rfl⟩) hP hD hS hA [3, 2] [0, 1, 4] rfl rfl rfl (by decide) (fun r_142 u_144 H locs hp_143 hP hD hS => ?_)
              obtain ⟨vmlf_145, rfl⟩ : ∃ z, z = u_144 := ⟨_, rfl⟩
              have hp_143 : ((r_142 = 1)) ∧ (LQ vmlf_145) := hp_143
              obtain ⟨q_146, q_147⟩ := hp_143
              have hP : va_P (dC, dI) vwCl [(vmn, .inl (cy 0, 575, .inl vmnf)), (vmm, .inl (cy 1, 17, .inr (.inl vmmf))), (vmt, .inl (cy 0, 940, .inl vmtf)), (vo, .inr (12, [.int voth, .ref vmt, .int votp, .int vosz, .int volm, .int voto_126, .int vofr_127, .int vokd_128, .int vonu_131, .int vosg_129, .int vofa_132, .int vopl_133, .long vowd_130, .int votd_134, .ref vmn, .ref vmr, .ref vmk, .ref vms, .ref vma, .ref vmm, .ref vmrn, .ref vmkn, .ref vmik, .ref vmon, .int vosm, .int vohp, .ref vmw, .ref vmf, .ref vmb, .int vomb, .ref vmd, .ref vmc, .int vocm, .int voct, .int vocy, .ref vmx, .int votx, .int vose, .ref vml, .ref vmwr, .int voln, .int vohw, .ref vmno, .int vond, .int voon, .int vowi, .int votop])), (vml, .inl (cy 0, 160, .inl vmlf_145))] H := hP
              have hD : va_D A [(vmn, .inl (cy 0, 575, .inl vmnf)), (vmm, .inl (cy 1, 17, .inr (.inl vmmf))), (vmt, .inl (cy 0, 940, .inl vmtf)), (vo, .inr (12, [.int voth, .ref vmt, .int votp, .int vosz, .int volm, .int voto_126, .int vofr_127, .int vokd_128, .int vonu_131, .int vosg_129, .int vofa_132, .int vopl_133, .long vowd_130, .int votd_134, .ref vmn, .ref vmr, .ref vmk, .ref vms, .ref vma, .ref vmm, .ref vmrn, .ref vmkn, .ref vmik, .ref vmon, .int vosm, .int vohp, .ref vmw, .ref vmf, .ref vmb, .int vomb, .ref vmd, .ref vmc, .int vocm, .int voct, .int vocy, .ref vmx, .int votx, .int vose, .ref vml, .ref vmwr, .int voln, .int vohw, .ref vmno, .int vond, .int voon, .int vowi, .int votop])), (vml, .inl (cy 0, 160, .inl vmlf_145))] := hD
              have aq_146 := q_146
              · skip
                refine as_i 1 aq_146 ?_
                refine lv_if_eq (tgt := 169) hx hb dX11_readDoes_162 (by decide) (fun c9 => absurd c9 (by decide)) (fun _ => ?_)
                refine lv_iconst (v := 1) hx hb dX11_readDoes_165 (by decide) ?_
                refine lv_goto (tgt := 170) hx hb dX11_readDoes_166 (by decide) ?_
                rw [hQ9]
                exact re_z (voto_126, vofr_127, vokd_128, vosg_129, vowd_130, vonu_131, vofa_132, vopl_133, votd_134, vmlf_145) hx hb hr hlocks (Or.inr rfl) ⟨(show ((1 : Int32) = 0) ∨ ((1 : Int32) = 1) from (Or.inr (rfl))), (show 0 ≤ (voto_126 : Int32).toInt ∧ (voto_126 : Int32).toInt ≤ 940 from ⟨by omega, by omega⟩), (show -1 ≤ (votd_134 : Int32).toInt ∧ (votd_134 : Int32).toInt ≤ 999 from ⟨by omega, by omega⟩), (show LQ vmlf_145 from q_147)⟩ (hP.sub [3, 2, 0, 1, 4] rfl) (hD.sub [3, 2, 0, 1, 4] rfl rfl) hS dX11_readDoes_170
      by_cases sw_21_4 : z_20.toInt = 4
      · refine as_i 4 (i_eq.mpr (sw_21_4.trans k_4.symm)) ?_
        refine lv_tableIn (off := 79) (tgt := 134) hx hb dX11_readDoes_55 (by decide) (by decide) (by decide) (by decide) ?_
        refine lv_aload_n hx hb dX11_readDoes_134 rfl (lv_at hl 1 rfl) ?_
        refine lv_iload_n hx hb dX11_readDoes_135 rfl (lv_at hl 2 rfl) ?_
        refine lv_iconst (v := 2) hx hb dX11_readDoes_136 (by decide) ?_
        refine lv_iadd hx hb dX11_readDoes_137 ?_
        refine lv_topi (fun z_148 ez_148 => ?_)
        have bz_148 : z_148.toInt = vat.toInt + (2 : Int32).toInt := i_add ez_148 (by omega) (by omega)
        refine lv_aload_n hx hb dX11_readDoes_138 rfl (lv_at hl 1 rfl) ?_
        refine jn_i (wr := [(vml, .inl (cy 0, 160, .inl f_6))]) (rV (As := []) (rest := [.int z_148, .ref vo]) (ci := 12) ⟨hx, hb, hml, hown, hts⟩ (m_readManName l dC dI cy _ vnh vo voth vmt votp vosz volm voto_10 vofr_11 vokd_12 vonu_15 vosg_13 vofa vopl vowd_14 votd vmn vmr vmk vms vma vmm vmrn vmkn vmik vmon vosm vohp vmw vmf vmb vomb vmd vmc vocm voct vocy vmx votx vose vml vmwr voln vohw vmno vond voon vowi votop vmtf vmnf vmmf r_vosz ⟨by omega, by omega⟩ r_votd p_vmtf p_vmnf) (cw_X11_379 hts rfl rfl ⟨Nat.le_of_ble_eq_true rfl, Nat.le_of_ble_eq_true rfl⟩) hP hD hK [3, 4, 0, 1] rfl rfl rfl rfl bl0 e0 rfl hl.1 rfl (Nat.le_of_ble_eq_true rfl) dX11_readDoes_139 ⟨Nat.le_of_ble_eq_true rfl, Nat.le_of_ble_eq_true rfl⟩) hP hD hS hA [3, 4, 0, 1] [2] rfl rfl rfl (by decide) (fun r_149 u_151 H locs hp_150 hP hD hS => ?_)
        obtain ⟨voto_152, vofr_153, vokd_154, vosg_155, vowd_156, vonu_157, vofa_158, vopl_159, votd_160⟩ := u_151
        have hp_150 : ((r_149 = 0) ∨ (r_149 = 1 ∧ 0 ≤ (votd_160 : Int32).toInt ∧ (votd_160 : Int32).toInt ≤ 6)) ∧ (0 ≤ (voto_152 : Int32).toInt ∧ (voto_152 : Int32).toInt ≤ 940) ∧ (-1 ≤ (votd_160 : Int32).toInt ∧ (votd_160 : Int32).toInt ≤ 999) := hp_150
        obtain ⟨q_161, q_162, q_163⟩ := hp_150
        have hP : va_P (dC, dI) vwCl [(vml, .inl (cy 0, 160, .inl f_6)), (vo, .inr (12, [.int voth, .ref vmt, .int votp, .int vosz, .int volm, .int voto_152, .int vofr_153, .int vokd_154, .int vonu_157, .int vosg_155, .int vofa_158, .int vopl_159, .long vowd_156, .int votd_160, .ref vmn, .ref vmr, .ref vmk, .ref vms, .ref vma, .ref vmm, .ref vmrn, .ref vmkn, .ref vmik, .ref vmon, .int vosm, .int vohp, .ref vmw, .ref vmf, .ref vmb, .int vomb, .ref vmd, .ref vmc, .int vocm, .int voct, .int vocy, .ref vmx, .int votx, .int vose, .ref vml, .ref vmwr, .int voln, .int vohw, .ref vmno, .int vond, .int voon, .int vowi, .int votop])), (vmt, .inl (cy 0, 940, .inl vmtf)), (vmn, .inl (cy 0, 575, .inl vmnf)), (vmm, .inl (cy 1, 17, .inr (.inl vmmf)))] H := hP
        have hD : va_D A [(vml, .inl (cy 0, 160, .inl f_6)), (vo, .inr (12, [.int voth, .ref vmt, .int votp, .int vosz, .int volm, .int voto_152, .int vofr_153, .int vokd_154, .int vonu_157, .int vosg_155, .int vofa_158, .int vopl_159, .long vowd_156, .int votd_160, .ref vmn, .ref vmr, .ref vmk, .ref vms, .ref vma, .ref vmm, .ref vmrn, .ref vmkn, .ref vmik, .ref vmon, .int vosm, .int vohp, .ref vmw, .ref vmf, .ref vmb, .int vomb, .ref vmd, .ref vmc, .int vocm, .int voct, .int vocy, .ref vmx, .int votx, .int vose, .ref vml, .ref vmwr, .int voln, .int vohw, .ref vmno, .int vond, .int voon, .int vowi, .int votop])), (vmt, .inl (cy 0, 940, .inl vmtf)), (vmn, .inl (cy 0, 575, .inl vmnf)), (vmm, .inl (cy 1, 17, .inr (.inl vmmf)))] := hD
        rcases q_161 with aq_161 | ⟨aq_161, f0q_161, f1q_161⟩
        · skip
          refine as_i 0 aq_161 ?_
          refine jr_i (rVr (As := [.int z_148, .int 0]) (rest := []) (ci := 12) ⟨hx, hb, hml, hown, hts⟩ (m_keep_0 l dC dI cy vo voth vmt votp vosz volm voto_152 vofr_153 vokd_154 vonu_157 vosg_155 vofa_158 vopl_159 vowd_156 votd_160 vmn vmr vmk vms vma vmm vmrn vmkn vmik vmon vosm vohp vmw vmf vmb vomb vmd vmc vocm voct vocy vmx votx vose vml vmwr voln vohw vmno vond voon vowi votop z_148 ) (cw_X11_376 hts rfl rfl ⟨Nat.le_of_ble_eq_true rfl, Nat.le_of_ble_eq_true rfl⟩) hP hK [1] rfl rfl rfl rfl hl.1 rfl (Nat.le_of_ble_eq_true rfl) dX11_readDoes_142 ⟨Nat.le_of_ble_eq_true rfl, Nat.le_of_ble_eq_true rfl⟩) hP hS (fun r_164 H locs hp_165 hP hS => ?_)
          have hp_165 : ((r_164 = 0)) := hp_165
          have q_166 := hp_165
          have aq_166 := q_166
          · skip
            refine as_i 0 aq_166 ?_
            refine lv_if_eq (tgt := 169) hx hb dX11_readDoes_145 (by decide) (fun _ => ?_) (fun c9 => absurd (by decide) c9)
            refine lv_iconst (v := 0) hx hb dX11_readDoes_169 (by decide) ?_
            rw [hQ9]
            exact re_z (voto_152, vofr_153, vokd_154, vosg_155, vowd_156, vonu_157, vofa_158, vopl_159, votd_160, f_6) hx hb hr hlocks (Or.inl rfl) ⟨(show ((0 : Int32) = 0) ∨ ((0 : Int32) = 1) from (Or.inl rfl)), (show 0 ≤ (voto_152 : Int32).toInt ∧ (voto_152 : Int32).toInt ≤ 940 from ⟨by omega, by omega⟩), (show -1 ≤ (votd_160 : Int32).toInt ∧ (votd_160 : Int32).toInt ≤ 999 from ⟨by omega, by omega⟩), (show LQ f_6 from p_f_6)⟩ (hP.sub [1, 2, 3, 4, 0] rfl) (hD.sub [1, 2, 3, 4, 0] rfl rfl) hS dX11_readDoes_170
        · skip
          refine as_i 1 aq_161 ?_
          refine jn_i (wr := [(vmt, .inl (cy 0, 940, .inl vmtf)), (vmn, .inl (cy 0, 575, .inl vmnf)), (vmm, .inl (cy 1, 17, .inr (.inl vmmf)))]) (rV (As := [.int z_148, .int 1]) (rest := []) (ci := 12) ⟨hx, hb, hml, hown, hts⟩ (m_keep_1 l dC dI cy _ vo voth vmt votp vosz volm voto_152 vofr_153 vokd_154 vonu_157 vosg_155 vofa_158 vopl_159 vowd_156 votd_160 vmn vmr vmk vms vma vmm vmrn vmkn vmik vmon vosm vohp vmw vmf vmb vomb vmd vmc vocm voct vocy vmx votx vose vml vmwr voln vohw vmno vond voon vowi votop f_6 z_148 ⟨by omega, by omega⟩ ⟨by omega, by omega⟩ p_f_6 (fun z hz hz2 => p_f_6.put (n := voln) (d := 2) ⟨by omega, by omega⟩ (by omega) ⟨by decide, by decide⟩ hz (fun h9 => absurd h9 (by decide)) (fun h9 => absurd h9 (by decide)) (fun h9 => absurd h9 (by decide)))) (cw_X11_376 hts rfl rfl ⟨Nat.le_of_ble_eq_true rfl, Nat.le_of_ble_eq_true rfl⟩) hP hD hK [1, 0] rfl rfl rfl rfl bl0 e0 rfl hl.1 rfl (Nat.le_of_ble_eq_true rfl) dX11_readDoes_142 ⟨Nat.le_of_ble_eq_true rfl, Nat.le_of_ble_eq_true rfl⟩) hP hD hS hA [1, 0] [2, 3, 4] rfl rfl rfl (by decide) (fun r_167 u_169 H locs hp_168 hP hD hS => ?_)
          obtain ⟨vmlf_170, rfl⟩ : ∃ z, z = u_169 := ⟨_, rfl⟩
          have hp_168 : ((r_167 = 1)) ∧ (LQ vmlf_170) := hp_168
          obtain ⟨q_171, q_172⟩ := hp_168
          have hP : va_P (dC, dI) vwCl [(vmt, .inl (cy 0, 940, .inl vmtf)), (vmn, .inl (cy 0, 575, .inl vmnf)), (vmm, .inl (cy 1, 17, .inr (.inl vmmf))), (vo, .inr (12, [.int voth, .ref vmt, .int votp, .int vosz, .int volm, .int voto_152, .int vofr_153, .int vokd_154, .int vonu_157, .int vosg_155, .int vofa_158, .int vopl_159, .long vowd_156, .int votd_160, .ref vmn, .ref vmr, .ref vmk, .ref vms, .ref vma, .ref vmm, .ref vmrn, .ref vmkn, .ref vmik, .ref vmon, .int vosm, .int vohp, .ref vmw, .ref vmf, .ref vmb, .int vomb, .ref vmd, .ref vmc, .int vocm, .int voct, .int vocy, .ref vmx, .int votx, .int vose, .ref vml, .ref vmwr, .int voln, .int vohw, .ref vmno, .int vond, .int voon, .int vowi, .int votop])), (vml, .inl (cy 0, 160, .inl vmlf_170))] H := hP
          have hD : va_D A [(vmt, .inl (cy 0, 940, .inl vmtf)), (vmn, .inl (cy 0, 575, .inl vmnf)), (vmm, .inl (cy 1, 17, .inr (.inl vmmf))), (vo, .inr (12, [.int voth, .ref vmt, .int votp, .int vosz, .int volm, .int voto_152, .int vofr_153, .int vokd_154, .int vonu_157, .int vosg_155, .int vofa_158, .int vopl_159, .long vowd_156, .int votd_160, .ref vmn, .ref vmr, .ref vmk, .ref vms, .ref vma, .ref vmm, .ref vmrn, .ref vmkn, .ref vmik, .ref vmon, .int vosm, .int vohp, .ref vmw, .ref vmf, .ref vmb, .int vomb, .ref vmd, .ref vmc, .int vocm, .int voct, .int vocy, .ref vmx, .int votx, .int vose, .ref vml, .ref vmwr, .int voln, .int vohw, .ref vmno, .int vond, .int voon, .int vowi, .int votop])), (vml, .inl (cy 0, 160, .inl vmlf_170))] := hD
          have aq_171 := q_171
          · skip
            refine as_i 1 aq_171 ?_
            refine lv_if_eq (tgt := 169) hx hb dX11_readDoes_145 (by decide) (fun c9 => absurd c9 (by decide)) (fun _ => ?_)
            refine lv_aload_n hx hb dX11_readDoes_148 rfl (lv_at hl 1 rfl) ?_
            refine lv_iload_n hx hb dX11_readDoes_149 rfl (lv_at hl 2 rfl) ?_
            refine lv_iconst (v := 3) hx hb dX11_readDoes_150 (by decide) ?_
            refine lv_iadd hx hb dX11_readDoes_151 ?_
            refine lv_topi (fun z_173 ez_173 => ?_)
            have bz_173 : z_173.toInt = vat.toInt + (3 : Int32).toInt := i_add ez_173 (by omega) (by omega)
            refine lv_aload_n hx hb dX11_readDoes_152 rfl (lv_at hl 1 rfl) ?_
            refine lv_iconst (v := 1) hx hb dX11_readDoes_153 (by decide) ?_
            refine lv_bipush (v := 40) hx hb dX11_readDoes_154 (by decide) ?_
            have k_40 : (40 : Int32).toInt = 40 := by decide
            refine jn_i (wr := [(vmn, .inl (cy 0, 575, .inl vmnf)), (vmm, .inl (cy 1, 17, .inr (.inl vmmf))), (vml, .inl (cy 0, 160, .inl vmlf_170))]) (rV (As := [.int 1, .int 40]) (rest := [.int z_173, .ref vo]) (ci := 12) ⟨hx, hb, hml, hown, hts⟩ (m_readNumber l dC dI cy _ vo voth vmt votp vosz volm voto_152 vofr_153 vokd_154 vonu_157 vosg_155 vofa_158 vopl_159 vowd_156 votd_160 vmn vmr vmk vms vma vmm vmrn vmkn vmik vmon vosm vohp vmw vmf vmb vomb vmd vmc vocm voct vocy vmx votx vose vml vmwr voln vohw vmno vond voon vowi votop vmtf 1 40 r_vosz ⟨by omega, by omega⟩ ⟨by omega, by omega⟩ ⟨by omega, by omega⟩ ⟨by omega, by omega⟩ p_vmtf) (cw_X11_178 hts rfl rfl ⟨Nat.le_of_ble_eq_true rfl, Nat.le_of_ble_eq_true rfl⟩) hP hD hK [3, 0] rfl rfl rfl rfl bl0 e0 rfl hl.1 rfl (Nat.le_of_ble_eq_true rfl) dX11_readDoes_156 ⟨Nat.le_of_ble_eq_true rfl, Nat.le_of_ble_eq_true rfl⟩) hP hD hS hA [3, 0] [1, 2, 4] rfl rfl rfl (by decide) (fun r_174 u_176 H locs hp_175 hP hD hS => ?_)
            obtain ⟨voto_177, vofr_178, vokd_179, vosg_180, vowd_181, vonu_182, vofa_183, vopl_184, votd_185⟩ := u_176
            have hp_175 : ((r_174 = 0 ∧ (votd_185 : Int32).toInt = (votd_160 : Int32).toInt) ∨ (r_174 = 1 ∧ (1 : Int32).toInt ≤ (votd_185 : Int32).toInt ∧ (votd_185 : Int32).toInt ≤ (40 : Int32).toInt ∧ ((vokd_179 : Int32).toInt = 0 ∨ (vokd_179 : Int32).toInt = 1 ∨ (voto_152 : Int32).toInt + 1 ≤ (voto_177 : Int32).toInt))) ∧ (0 ≤ (voto_177 : Int32).toInt ∧ (voto_177 : Int32).toInt ≤ 940) ∧ (-1 ≤ (votd_185 : Int32).toInt ∧ (votd_185 : Int32).toInt ≤ 999) ∧ ((voto_152 : Int32).toInt ≤ (voto_177 : Int32).toInt) := hp_175
            obtain ⟨q_186, q_187, q_188, q_189⟩ := hp_175
            have hP : va_P (dC, dI) vwCl [(vmn, .inl (cy 0, 575, .inl vmnf)), (vmm, .inl (cy 1, 17, .inr (.inl vmmf))), (vml, .inl (cy 0, 160, .inl vmlf_170)), (vo, .inr (12, [.int voth, .ref vmt, .int votp, .int vosz, .int volm, .int voto_177, .int vofr_178, .int vokd_179, .int vonu_182, .int vosg_180, .int vofa_183, .int vopl_184, .long vowd_181, .int votd_185, .ref vmn, .ref vmr, .ref vmk, .ref vms, .ref vma, .ref vmm, .ref vmrn, .ref vmkn, .ref vmik, .ref vmon, .int vosm, .int vohp, .ref vmw, .ref vmf, .ref vmb, .int vomb, .ref vmd, .ref vmc, .int vocm, .int voct, .int vocy, .ref vmx, .int votx, .int vose, .ref vml, .ref vmwr, .int voln, .int vohw, .ref vmno, .int vond, .int voon, .int vowi, .int votop])), (vmt, .inl (cy 0, 940, .inl vmtf))] H := hP
            have hD : va_D A [(vmn, .inl (cy 0, 575, .inl vmnf)), (vmm, .inl (cy 1, 17, .inr (.inl vmmf))), (vml, .inl (cy 0, 160, .inl vmlf_170)), (vo, .inr (12, [.int voth, .ref vmt, .int votp, .int vosz, .int volm, .int voto_177, .int vofr_178, .int vokd_179, .int vonu_182, .int vosg_180, .int vofa_183, .int vopl_184, .long vowd_181, .int votd_185, .ref vmn, .ref vmr, .ref vmk, .ref vms, .ref vma, .ref vmm, .ref vmrn, .ref vmkn, .ref vmik, .ref vmon, .int vosm, .int vohp, .ref vmw, .ref vmf, .ref vmb, .int vomb, .ref vmd, .ref vmc, .int vocm, .int voct, .int vocy, .ref vmx, .int votx, .int vose, .ref vml, .ref vmwr, .int voln, .int vohw, .ref vmno, .int vond, .int voon, .int vowi, .int votop])), (vmt, .inl (cy 0, 940, .inl vmtf))] := hD
            rcases q_186 with ⟨aq_186, f0q_186⟩ | ⟨aq_186, f0q_186, f1q_186, f2q_186⟩
            · skip
              refine as_i 0 aq_186 ?_
              refine jr_i (rVr (As := [.int z_173, .int 0]) (rest := []) (ci := 12) ⟨hx, hb, hml, hown, hts⟩ (m_keep_0 l dC dI cy vo voth vmt votp vosz volm voto_177 vofr_178 vokd_179 vonu_182 vosg_180 vofa_183 vopl_184 vowd_181 votd_185 vmn vmr vmk vms vma vmm vmrn vmkn vmik vmon vosm vohp vmw vmf vmb vomb vmd vmc vocm voct vocy vmx votx vose vml vmwr voln vohw vmno vond voon vowi votop z_173 ) (cw_X11_376 hts rfl rfl ⟨Nat.le_of_ble_eq_true rfl, Nat.le_of_ble_eq_true rfl⟩) hP hK [3] rfl rfl rfl rfl hl.1 rfl (Nat.le_of_ble_eq_true rfl) dX11_readDoes_159 ⟨Nat.le_of_ble_eq_true rfl, Nat.le_of_ble_eq_true rfl⟩) hP hS (fun r_190 H locs hp_191 hP hS => ?_)
              have hp_191 : ((r_190 = 0)) := hp_191
              have q_192 := hp_191
              have aq_192 := q_192
              · skip
                refine as_i 0 aq_192 ?_
                refine lv_if_eq (tgt := 169) hx hb dX11_readDoes_162 (by decide) (fun _ => ?_) (fun c9 => absurd (by decide) c9)
                refine lv_iconst (v := 0) hx hb dX11_readDoes_169 (by decide) ?_
                rw [hQ9]
                exact re_z (voto_177, vofr_178, vokd_179, vosg_180, vowd_181, vonu_182, vofa_183, vopl_184, votd_185, vmlf_170) hx hb hr hlocks (Or.inl rfl) ⟨(show ((0 : Int32) = 0) ∨ ((0 : Int32) = 1) from (Or.inl rfl)), (show 0 ≤ (voto_177 : Int32).toInt ∧ (voto_177 : Int32).toInt ≤ 940 from ⟨by omega, by omega⟩), (show -1 ≤ (votd_185 : Int32).toInt ∧ (votd_185 : Int32).toInt ≤ 999 from ⟨by omega, by omega⟩), (show LQ vmlf_170 from q_172)⟩ (hP.sub [3, 4, 0, 1, 2] rfl) (hD.sub [3, 4, 0, 1, 2] rfl rfl) hS dX11_readDoes_170
            · skip
              refine as_i 1 aq_186 ?_
              refine jn_i (wr := [(vmn, .inl (cy 0, 575, .inl vmnf)), (vmm, .inl (cy 1, 17, .inr (.inl vmmf))), (vmt, .inl (cy 0, 940, .inl vmtf))]) (rV (As := [.int z_173, .int 1]) (rest := []) (ci := 12) ⟨hx, hb, hml, hown, hts⟩ (m_keep_1 l dC dI cy _ vo voth vmt votp vosz volm voto_177 vofr_178 vokd_179 vonu_182 vosg_180 vofa_183 vopl_184 vowd_181 votd_185 vmn vmr vmk vms vma vmm vmrn vmkn vmik vmon vosm vohp vmw vmf vmb vomb vmd vmc vocm voct vocy vmx votx vose vml vmwr voln vohw vmno vond voon vowi votop vmlf_170 z_173 ⟨by omega, by omega⟩ ⟨by omega, by omega⟩ q_172 (fun z hz hz2 => q_172.put (n := voln) (d := 3) ⟨by omega, by omega⟩ (by omega) ⟨by decide, by decide⟩ hz (fun h9 => absurd h9 (by decide)) (fun h9 => absurd h9 (by decide)) (fun h9 => absurd h9 (by decide)))) (cw_X11_376 hts rfl rfl ⟨Nat.le_of_ble_eq_true rfl, Nat.le_of_ble_eq_true rfl⟩) hP hD hK [3, 2] rfl rfl rfl rfl bl0 e0 rfl hl.1 rfl (Nat.le_of_ble_eq_true rfl) dX11_readDoes_159 ⟨Nat.le_of_ble_eq_true rfl, Nat.le_of_ble_eq_true rfl⟩) hP hD hS hA [3, 2] [0, 1, 4] rfl rfl rfl (by decide) (fun r_193 u_195 H locs hp_194 hP hD hS => ?_)
              obtain ⟨vmlf_196, rfl⟩ : ∃ z, z = u_195 := ⟨_, rfl⟩
              have hp_194 : ((r_193 = 1)) ∧ (LQ vmlf_196) := hp_194
              obtain ⟨q_197, q_198⟩ := hp_194
              have hP : va_P (dC, dI) vwCl [(vmn, .inl (cy 0, 575, .inl vmnf)), (vmm, .inl (cy 1, 17, .inr (.inl vmmf))), (vmt, .inl (cy 0, 940, .inl vmtf)), (vo, .inr (12, [.int voth, .ref vmt, .int votp, .int vosz, .int volm, .int voto_177, .int vofr_178, .int vokd_179, .int vonu_182, .int vosg_180, .int vofa_183, .int vopl_184, .long vowd_181, .int votd_185, .ref vmn, .ref vmr, .ref vmk, .ref vms, .ref vma, .ref vmm, .ref vmrn, .ref vmkn, .ref vmik, .ref vmon, .int vosm, .int vohp, .ref vmw, .ref vmf, .ref vmb, .int vomb, .ref vmd, .ref vmc, .int vocm, .int voct, .int vocy, .ref vmx, .int votx, .int vose, .ref vml, .ref vmwr, .int voln, .int vohw, .ref vmno, .int vond, .int voon, .int vowi, .int votop])), (vml, .inl (cy 0, 160, .inl vmlf_196))] H := hP
              have hD : va_D A [(vmn, .inl (cy 0, 575, .inl vmnf)), (vmm, .inl (cy 1, 17, .inr (.inl vmmf))), (vmt, .inl (cy 0, 940, .inl vmtf)), (vo, .inr (12, [.int voth, .ref vmt, .int votp, .int vosz, .int volm, .int voto_177, .int vofr_178, .int vokd_179, .int vonu_182, .int vosg_180, .int vofa_183, .int vopl_184, .long vowd_181, .int votd_185, .ref vmn, .ref vmr, .ref vmk, .ref vms, .ref vma, .ref vmm, .ref vmrn, .ref vmkn, .ref vmik, .ref vmon, .int vosm, .int vohp, .ref vmw, .ref vmf, .ref vmb, .int vomb, .ref vmd, .ref vmc, .int vocm, .int voct, .int vocy, .ref vmx, .int votx, .int vose, .ref vml, .ref vmwr, .int voln, .int vohw, .ref vmno, .int vond, .int voon, .int vowi, .int votop])), (vml, .inl (cy 0, 160, .inl vmlf_196))] := hD
              have aq_197 := q_197
              · skip
                refine as_i 1 aq_197 ?_
                refine lv_if_eq (tgt := 169) hx hb dX11_readDoes_162 (by decide) (fun c9 => absurd c9 (by decide)) (fun _ => ?_)
                refine lv_iconst (v := 1) hx hb dX11_readDoes_165 (by decide) ?_
                refine lv_goto (tgt := 170) hx hb dX11_readDoes_166 (by decide) ?_
                rw [hQ9]
                exact re_z (voto_177, vofr_178, vokd_179, vosg_180, vowd_181, vonu_182, vofa_183, vopl_184, votd_185, vmlf_196) hx hb hr hlocks (Or.inr rfl) ⟨(show ((1 : Int32) = 0) ∨ ((1 : Int32) = 1) from (Or.inr (rfl))), (show 0 ≤ (voto_177 : Int32).toInt ∧ (voto_177 : Int32).toInt ≤ 940 from ⟨by omega, by omega⟩), (show -1 ≤ (votd_185 : Int32).toInt ∧ (votd_185 : Int32).toInt ≤ 999 from ⟨by omega, by omega⟩), (show LQ vmlf_196 from q_198)⟩ (hP.sub [3, 2, 0, 1, 4] rfl) (hD.sub [3, 2, 0, 1, 4] rfl rfl) hS dX11_readDoes_170
      refine lv_tableOut (tgt := 171) hx hb dX11_readDoes_55 (by omega) (by decide) ?_
      refine lv_iconst (v := 1) hx hb dX11_readDoes_171 (by decide) ?_
      rw [hQ9]
      exact re_z (voto_10, vofr_11, vokd_12, vosg_13, vowd_14, vonu_15, vofa, vopl, votd, f_6) hx hb hr hlocks (Or.inr rfl) ⟨(show ((1 : Int32) = 0) ∨ ((1 : Int32) = 1) from (Or.inr (rfl))), (show 0 ≤ (voto_10 : Int32).toInt ∧ (voto_10 : Int32).toInt ≤ 940 from ⟨by omega, by omega⟩), (show -1 ≤ (votd : Int32).toInt ∧ (votd : Int32).toInt ≤ 999 from ⟨by omega, by omega⟩), (show LQ f_6 from p_f_6)⟩ (hP.sub [3, 4, 0, 1, 2] rfl) (hD.sub [3, 4, 0, 1, 2] rfl rfl) hS dX11_readDoes_172
    · skip
      have c_3 : ¬ (x_2.toInt ≤ (13 : Int32).toInt) := fun h9 => c_3 (i_le.mpr h9)
      refine lv_aload_n hx hb dX11_readDoes_29 rfl (lv_at hl 1 rfl) ?_
      refine lv_iconst (v := 1) hx hb dX11_readDoes_30 (by decide) ?_
      have k_1 : (1 : Int32).toInt = 1 := by decide
      refine jn_i (wr := [(vmt, .inl (cy 0, 940, .inl vmtf)), (vmn, .inl (cy 0, 575, .inl vmnf)), (vmm, .inl (cy 1, 17, .inr (.inl vmmf))), (vml, .inl (cy 0, 160, .inl vmlf))]) (rV (As := [.int 1]) (rest := []) (ci := 12) ⟨hx, hb, hml, hown, hts⟩ (m_bad l dC dI cy _ vo voth vmt votp vosz volm voto vofr vokd vonu vosg vofa vopl vowd votd vmn vmr vmk vms vma vmm vmrn vmkn vmik vmon vosm vohp vmw vmf vmb vomb vmd vmc vocm voct vocy vmx votx vose vml vmwr voln vohw vmno vond voon vowi votop 1 ) (cw_X11_72 hts rfl rfl ⟨Nat.le_of_ble_eq_true rfl, Nat.le_of_ble_eq_true rfl⟩) hP hD hK [0] rfl rfl rfl rfl bl0 e0 rfl hl.1 rfl (Nat.le_of_ble_eq_true rfl) dX11_readDoes_31 ⟨Nat.le_of_ble_eq_true rfl, Nat.le_of_ble_eq_true rfl⟩) hP hD hS hA [0] [1, 2, 3, 4] rfl rfl rfl (by decide) (fun r_199 u_201 H locs hp_200 hP hD hS => ?_)
      obtain ⟨vofa_202, vopl_203⟩ := u_201
      have hp_200 : ((r_199 = 0)) := hp_200
      have q_204 := hp_200
      have hP : va_P (dC, dI) vwCl [(vmt, .inl (cy 0, 940, .inl vmtf)), (vmn, .inl (cy 0, 575, .inl vmnf)), (vmm, .inl (cy 1, 17, .inr (.inl vmmf))), (vml, .inl (cy 0, 160, .inl vmlf)), (vo, .inr (12, [.int voth, .ref vmt, .int votp, .int vosz, .int volm, .int voto, .int vofr, .int vokd, .int vonu, .int vosg, .int vofa_202, .int vopl_203, .long vowd, .int votd, .ref vmn, .ref vmr, .ref vmk, .ref vms, .ref vma, .ref vmm, .ref vmrn, .ref vmkn, .ref vmik, .ref vmon, .int vosm, .int vohp, .ref vmw, .ref vmf, .ref vmb, .int vomb, .ref vmd, .ref vmc, .int vocm, .int voct, .int vocy, .ref vmx, .int votx, .int vose, .ref vml, .ref vmwr, .int voln, .int vohw, .ref vmno, .int vond, .int voon, .int vowi, .int votop]))] H := hP
      have hD : va_D A [(vmt, .inl (cy 0, 940, .inl vmtf)), (vmn, .inl (cy 0, 575, .inl vmnf)), (vmm, .inl (cy 1, 17, .inr (.inl vmmf))), (vml, .inl (cy 0, 160, .inl vmlf)), (vo, .inr (12, [.int voth, .ref vmt, .int votp, .int vosz, .int volm, .int voto, .int vofr, .int vokd, .int vonu, .int vosg, .int vofa_202, .int vopl_203, .long vowd, .int votd, .ref vmn, .ref vmr, .ref vmk, .ref vms, .ref vma, .ref vmm, .ref vmrn, .ref vmkn, .ref vmik, .ref vmon, .int vosm, .int vohp, .ref vmw, .ref vmf, .ref vmb, .int vomb, .ref vmd, .ref vmc, .int vocm, .int voct, .int vocy, .ref vmx, .int votx, .int vose, .ref vml, .ref vmwr, .int voln, .int vohw, .ref vmno, .int vond, .int voon, .int vowi, .int votop]))] := hD
      have aq_204 := q_204
      · skip
        refine as_i 0 aq_204 ?_
        have k_0 : (0 : Int32).toInt = 0 := by decide
        rw [hQ9]
        exact re_z (voto, vofr, vokd, vosg, vowd, vonu, vofa_202, vopl_203, votd, vmlf) hx hb hr hlocks (Or.inl rfl) ⟨(show ((0 : Int32) = 0) ∨ ((0 : Int32) = 1) from (Or.inl rfl)), (show 0 ≤ (voto : Int32).toInt ∧ (voto : Int32).toInt ≤ 940 from ⟨by omega, by omega⟩), (show -1 ≤ (votd : Int32).toInt ∧ (votd : Int32).toInt ≤ 999 from ⟨by omega, by omega⟩), (show LQ vmlf from p_vmlf)⟩ (hP.sub [4, 0, 1, 2, 3] rfl) (hD.sub [4, 0, 1, 2, 3] rfl rfl) hS dX11_readDoes_34
  refine lv_bipush (v := 8) hx hb dX11_readDoes_0 (by decide) ?_
  refine lv_istore_n (lv' := [(2, .int 8), (0, .ref vo), (1, .int vat)]) hx hb dX11_readDoes_2 rfl hl (by decide) rfl (fun ls hl => ?_)
  have loop205 : ∀ (n205 : Nat) (x_206 : Int32), (8 ≤ x_206.toInt ∧ x_206.toInt ≤ 14) → 14 - x_206.toInt < (n205 : Int) → ∀ (H : Heap) (locs : List Loc), va_P (dC, dI) vwCl [(vo, .inr (12, [.int voth, .ref vmt, .int votp, .int vosz, .int volm, .int voto, .int vofr, .int vokd, .int vonu, .int vosg, .int vofa, .int vopl, .long vowd, .int votd, .ref vmn, .ref vmr, .ref vmk, .ref vms, .ref vma, .ref vmm, .ref vmrn, .ref vmkn, .ref vmik, .ref vmon, .int vosm, .int vohp, .ref vmw, .ref vmf, .ref vmb, .int vomb, .ref vmd, .ref vmc, .int vocm, .int voct, .int vocy, .ref vmx, .int votx, .int vose, .ref vml, .ref vmwr, .int voln, .int vohw, .ref vmno, .int vond, .int voon, .int vowi, .int votop])), (vmt, .inl (cy 0, 940, .inl vmtf)), (vmn, .inl (cy 0, 575, .inl vmnf)), (vmm, .inl (cy 1, 17, .inr (.inl vmmf))), (vml, .inl (cy 0, 160, .inl vmlf))] H → va_D A [(vo, .inr (12, [.int voth, .ref vmt, .int votp, .int vosz, .int volm, .int voto, .int vofr, .int vokd, .int vonu, .int vosg, .int vofa, .int vopl, .long vowd, .int votd, .ref vmn, .ref vmr, .ref vmk, .ref vms, .ref vma, .ref vmm, .ref vmrn, .ref vmkn, .ref vmik, .ref vmon, .int vosm, .int vohp, .ref vmw, .ref vmf, .ref vmb, .int vomb, .ref vmd, .ref vmc, .int vocm, .int voct, .int vocy, .ref vmx, .int votx, .int vose, .ref vml, .ref vmwr, .int voln, .int vohw, .ref vmno, .int vond, .int voon, .int vowi, .int votop])), (vmt, .inl (cy 0, 940, .inl vmtf)), (vmn, .inl (cy 0, 575, .inl vmnf)), (vmm, .inl (cy 1, 17, .inr (.inl vmmf))), (vml, .inl (cy 0, 160, .inl vmlf))] → va_S A s.heap H locs → ∀ ls : Array Slot, lv_has ls 3 [(2, .int x_206), (0, .ref vo), (1, .int vat)] → W p l e ({ frames := 5, cells := 0, slots := 0, locals := 320 }) s m av9 below meth c H locs 0 0 Q9 (F0 m 3 ls []) := by
    intro n205
    induction n205 with
    | zero =>
      intro x_206 bx_206 hn205 H locs hP hD hS ls hl
      exfalso; omega
    | succ n205 ih205 =>
      intro x_206 bx_206 hn205 H locs hP hD hS ls hl
      refine lv_iload_n hx hb dX11_readDoes_3 rfl (lv_at hl 0 rfl) ?_
      refine lv_bipush (v := 13) hx hb dX11_readDoes_4 (by decide) ?_
      have k_13 : (13 : Int32).toInt = 13 := by decide
      refine lv_icmp_gt (tgt := 23) hx hb dX11_readDoes_6 (by decide) (fun c_207 => ?_) (fun c_207 => ?_)
      · skip
        have c_207 : (13 : Int32).toInt < x_206.toInt := i_lt.mp c_207
        exact join1 x_206 ⟨by omega, by omega⟩ _ _ (hP.sub [0, 1, 2, 3, 4] rfl) (hD.sub [0, 1, 2, 3, 4] rfl rfl) hS ls (lv_sub hl [0, 1, 2] rfl)
      · skip
        have c_207 : ¬ ((13 : Int32).toInt < x_206.toInt) := fun h9 => c_207 (i_lt.mpr h9)
        refine lv_aload_n hx hb dX11_readDoes_9 rfl (lv_at hl 1 rfl) ?_
        refine lv_iload_n hx hb dX11_readDoes_10 rfl (lv_at hl 0 rfl) ?_
        refine jr_i (rVr (As := [.int x_206]) (rest := []) (ci := 12) ⟨hx, hb, hml, hown, hts⟩ (m_isWord l dC dI cy vo voth vmt votp vosz volm voto vofr vokd vonu vosg vofa vopl vowd votd vmn vmr vmk vms vma vmm vmrn vmkn vmik vmon vosm vohp vmw vmf vmb vomb vmd vmc vocm voct vocy vmx votx vose vml vmwr voln vohw vmno vond voon vowi votop x_206 ) (cw_X11_185 hts rfl rfl ⟨Nat.le_of_ble_eq_true rfl, Nat.le_of_ble_eq_true rfl⟩) hP hK [0] rfl rfl rfl rfl hl.1 rfl (Nat.le_of_ble_eq_true rfl) dX11_readDoes_11 ⟨Nat.le_of_ble_eq_true rfl, Nat.le_of_ble_eq_true rfl⟩) hP hS (fun r_208 H locs hp_209 hP hS => ?_)
        have hp_209 : ((r_208 = 0) ∨ (r_208 = 1 ∧ (vokd : Int32).toInt = 2)) := hp_209
        have q_210 := hp_209
        rcases q_210 with aq_210 | ⟨aq_210, f0q_210⟩
        · skip
          refine as_i 0 aq_210 ?_
          refine lv_if_ne (tgt := 23) hx hb dX11_readDoes_14 (by decide) (fun c9 => absurd c9 (by decide)) (fun _ => ?_)
          obtain ⟨z_211, ez_211⟩ : ∃ z : Int32, z = x_206 + 1 := ⟨_, rfl⟩
          have k_1 : (1 : Int32).toInt = 1 := by decide
          have bz_211 : z_211.toInt = x_206.toInt + (1 : Int32).toInt := i_add ez_211 (by omega) (by omega)
          refine lv_iinc (v := z_211) (lv' := [(2, .int z_211), (0, .ref vo), (1, .int vat)]) hx hb dX11_readDoes_17 hl (k := 0) rfl ez_211.symm (by decide) rfl (fun ls hl => ?_)
          refine lv_goto (tgt := 3) hx hb dX11_readDoes_20 (by decide) ?_
          exact ih205 z_211 ⟨by omega, by omega⟩ (by omega) _ _ (hP.sub [0, 1, 2, 3, 4] rfl) (hD.sub [0, 1, 2, 3, 4] rfl rfl) hS ls (lv_sub hl [0, 1, 2] rfl)
        · skip
          refine as_i 1 aq_210 ?_
          refine lv_if_ne (tgt := 23) hx hb dX11_readDoes_14 (by decide) (fun _ => ?_) (fun c9 => absurd c9 (by decide))
          exact join1 x_206 ⟨by omega, by omega⟩ _ _ (hP.sub [0, 1, 2, 3, 4] rfl) (hD.sub [0, 1, 2, 3, 4] rfl rfl) hS ls (lv_sub hl [0, 1, 2] rfl)
  have k_8 : (8 : Int32).toInt = 8 := by decide
  exact loop205 ((14 - (8 : Int32).toInt).toNat + 1) 8 ⟨by omega, by omega⟩ (by omega) _ _ hP hD hS ls (lv_sub hl [0, 1, 2] rfl)
theorem lk_at {f : Nat → Int32} {n x v : Int32} {d : Nat} (hn : 0 ≤ n.toInt) (hx : x.toInt = 4 * n.toInt + d) : upd f x.toNatClampNeg v (4 * n.toNatClampNeg + d) = v := by
  have q0 := cl_nn (x := x) (by omega)
  have q1 := cl_nn (x := n) (by omega)
  rw [up_if, if_pos (by omega)]
theorem lk_un {f : Nat → Int32} {n x v : Int32} {d : Nat} {d' : Int} (hn : 0 ≤ n.toInt) (hd : d' ≠ d) (h0 : 0 ≤ d') (hx : x.toInt = 4 * n.toInt + d') : upd f x.toNatClampNeg v (4 * n.toNatClampNeg + d) = f (4 * n.toNatClampNeg + d) := by
  have q0 := cl_nn (x := x) (by omega)
  have q1 := cl_nn (x := n) (by omega)
  rw [up_if, if_neg (by omega)]
abbrev cX11_readBookLine : ByteArray := prog_13_method_113_code
def yX11_readBookLine : MethodName := ⟨RX11, "readBookLine", "()Z"⟩
theorem t1982 : Cond.code yX11_readBookLine cX11_readBookLine 3 (some .boolean) ∈ GW := gw_mem 2096 (by decide +kernel) (by decide +kernel)
abbrev O_m_readBookLine (cy : Nat → ClassId) (vnh : Nat → Int32) (vo : Nat) (voth : Int32) (vmt : Nat) (votp : Int32) (vosz : Int32) (volm : Int32) (voto : Int32) (vofr : Int32) (vokd : Int32) (vonu : Int32) (vosg : Int32) (vofa : Int32) (vopl : Int32) (vowd : Int64) (votd : Int32) (vmn : Nat) (vmr : Nat) (vmk : Nat) (vms : Nat) (vma : Nat) (vmm : Nat) (vmrn : Nat) (vmkn : Nat) (vmik : Nat) (vmon : Nat) (vosm : Int32) (vohp : Int32) (vmw : Nat) (vmf : Nat) (vmb : Nat) (vomb : Int32) (vmd : Nat) (vmc : Nat) (vocm : Int32) (voct : Int32) (vocy : Int32) (vmx : Nat) (votx : Int32) (vose : Int32) (vml : Nat) (vmwr : Nat) (voln : Int32) (vohw : Int32) (vmno : Nat) (vond : Int32) (voon : Int32) (vowi : Int32) (votop : Int32) (vmtf : Nat → Int32) (vmnf : Nat → Int32) (vmmf : Nat → Int64) (vmlf : Nat → Int32) (u : Int32 × Int32 × Int32 × Int32 × Int64 × Int32 × Int32 × Int32 × Int32 × (Nat → Int32)) : va_W := [(vo, .inr (12, [.int voth, .ref vmt, .int votp, .int vosz, .int volm, .int u.1, .int u.2.1, .int u.2.2.1, .int u.2.2.2.2.2.1, .int u.2.2.2.1, .int u.2.2.2.2.2.2.1, .int u.2.2.2.2.2.2.2.1, .long u.2.2.2.2.1, .int u.2.2.2.2.2.2.2.2.1, .ref vmn, .ref vmr, .ref vmk, .ref vms, .ref vma, .ref vmm, .ref vmrn, .ref vmkn, .ref vmik, .ref vmon, .int vosm, .int vohp, .ref vmw, .ref vmf, .ref vmb, .int vomb, .ref vmd, .ref vmc, .int vocm, .int voct, .int vocy, .ref vmx, .int votx, .int vose, .ref vml, .ref vmwr, .int voln, .int vohw, .ref vmno, .int vond, .int voon, .int vowi, .int votop])), (vmt, .inl (cy 0, 940, .inl vmtf)), (vmn, .inl (cy 0, 575, .inl vmnf)), (vmm, .inl (cy 1, 17, .inr (.inl vmmf))), (vml, .inl (cy 0, 160, .inl u.2.2.2.2.2.2.2.2.2))]
theorem dX11_readBookLine_0 : decode cX11_readBookLine 0 = .ok (.aload_n 0, 1) := by decide +kernel
theorem dX11_readBookLine_1 : decode cX11_readBookLine 1 = .ok (.bipush 14, 2) := by decide +kernel
theorem dX11_readBookLine_3 : decode cX11_readBookLine 3 = .ok (.invokevirtual 185, 3) := by decide +kernel
theorem dX11_readBookLine_6 : decode cX11_readBookLine 6 = .ok (.istore_n 1, 1) := by decide +kernel
theorem dX11_readBookLine_7 : decode cX11_readBookLine 7 = .ok (.iload_n 1, 1) := by decide +kernel
theorem dX11_readBookLine_8 : decode cX11_readBookLine 8 = .ok (.ifCond .ne 44, 3) := by decide +kernel
theorem dX11_readBookLine_11 : decode cX11_readBookLine 11 = .ok (.aload_n 0, 1) := by decide +kernel
theorem dX11_readBookLine_12 : decode cX11_readBookLine 12 = .ok (.invokevirtual 163, 3) := by decide +kernel
theorem dX11_readBookLine_15 : decode cX11_readBookLine 15 = .ok (.ifCond .ne 9, 3) := by decide +kernel
theorem dX11_readBookLine_18 : decode cX11_readBookLine 18 = .ok (.aload_n 0, 1) := by decide +kernel
theorem dX11_readBookLine_19 : decode cX11_readBookLine 19 = .ok (.iconst 1, 1) := by decide +kernel
theorem dX11_readBookLine_20 : decode cX11_readBookLine 20 = .ok (.invokevirtual 72, 3) := by decide +kernel
theorem dX11_readBookLine_23 : decode cX11_readBookLine 23 = .ok (.ireturn, 1) := by decide +kernel
theorem dX11_readBookLine_24 : decode cX11_readBookLine 24 = .ok (.aload_n 0, 1) := by decide +kernel
theorem dX11_readBookLine_25 : decode cX11_readBookLine 25 = .ok (.getfield 113, 3) := by decide +kernel
theorem dX11_readBookLine_28 : decode cX11_readBookLine 28 = .ok (.iconst 0, 1) := by decide +kernel
theorem dX11_readBookLine_29 : decode cX11_readBookLine 29 = .ok (.aload_n 0, 1) := by decide +kernel
theorem dX11_readBookLine_30 : decode cX11_readBookLine 30 = .ok (.getfield 98, 3) := by decide +kernel
theorem dX11_readBookLine_33 : decode cX11_readBookLine 33 = .ok (.iconst 0, 1) := by decide +kernel
theorem dX11_readBookLine_34 : decode cX11_readBookLine 34 = .ok (.iaload, 1) := by decide +kernel
theorem dX11_readBookLine_35 : decode cX11_readBookLine 35 = .ok (.aload_n 0, 1) := by decide +kernel
theorem dX11_readBookLine_36 : decode cX11_readBookLine 36 = .ok (.getfield 43, 3) := by decide +kernel
theorem dX11_readBookLine_39 : decode cX11_readBookLine 39 = .ok (.invokestatic 167, 3) := by decide +kernel
theorem dX11_readBookLine_42 : decode cX11_readBookLine 42 = .ok (.iconst (-1), 1) := by decide +kernel
theorem dX11_readBookLine_43 : decode cX11_readBookLine 43 = .ok (.if_icmp .ne 9, 3) := by decide +kernel
theorem dX11_readBookLine_52 : decode cX11_readBookLine 52 = .ok (.aload_n 0, 1) := by decide +kernel
theorem dX11_readBookLine_53 : decode cX11_readBookLine 53 = .ok (.getfield 382, 3) := by decide +kernel
theorem t1482 : Cond.fieldLink RX11 382 "LikenessPoundModel" "lineMany" "I" ∈ GW := gw_mem 1596 (by decide +kernel) (by decide +kernel)
theorem gf_X11_382 {p : Program} {l : Launch} {e : Env} {R : Room} {s : State} {m : MethodId} {args : Array Value} {below : List Frame} {meth : Method} {c : Code} {H : Heap} {locs : List Loc} {cells slots : Nat} {Q : State → Prop} {cc : ByteArray} {pc : Nat} {ls : Array Slot} {rest : List Value} {D : va_G} {a : Nat} {tys : List (ClassId × FieldType)} {ws : va_W} (hx : p.tables.exec = Jvm.exec) (hb : c.code = cc) (hts : ∀ w ∈ GW, w.before args s = true) (hown : s.vm.findClass RX11 = some m.cls) (hK : va_K D vwCl tys s) (hP : va_P D vwCl ws H) (q0 : Nat) {fs : List Value} (he : ws[q0]? = some (a, .inr (12, fs))) {v : Value} (hv : fs[40]? = some v) (hdg : decode cc pc = .ok (.getfield 382, 3)) (kk : W p l e R s m args below meth c H locs cells slots Q (F0 m (pc + 3) ls (v :: rest))) : W p l e R s m args below meth c H locs cells slots Q (F0 m pc ls (.ref a :: rest)) := va_get (C := RX11) (T := TX11) (N := 47) (ci := 12) hx hb hts inX11 hown hK hP q0 he rfl 40 (by decide) (hts _ t1482) (fun _ h => h) hv hdg kk
theorem dX11_readBookLine_56 : decode cX11_readBookLine 56 = .ok (.bipush 40, 2) := by decide +kernel
theorem dX11_readBookLine_58 : decode cX11_readBookLine 58 = .ok (.if_icmp .ne 9, 3) := by decide +kernel
theorem dX11_readBookLine_67 : decode cX11_readBookLine 67 = .ok (.iconst 4, 1) := by decide +kernel
theorem dX11_readBookLine_68 : decode cX11_readBookLine 68 = .ok (.aload_n 0, 1) := by decide +kernel
theorem dX11_readBookLine_69 : decode cX11_readBookLine 69 = .ok (.getfield 382, 3) := by decide +kernel
theorem dX11_readBookLine_72 : decode cX11_readBookLine 72 = .ok (.imul, 1) := by decide +kernel
theorem dX11_readBookLine_73 : decode cX11_readBookLine 73 = .ok (.istore_n 2, 1) := by decide +kernel
theorem dX11_readBookLine_74 : decode cX11_readBookLine 74 = .ok (.aload_n 0, 1) := by decide +kernel
theorem dX11_readBookLine_75 : decode cX11_readBookLine 75 = .ok (.getfield 151, 3) := by decide +kernel
theorem dX11_readBookLine_78 : decode cX11_readBookLine 78 = .ok (.iload_n 2, 1) := by decide +kernel
theorem dX11_readBookLine_79 : decode cX11_readBookLine 79 = .ok (.bipush 6, 2) := by decide +kernel
theorem dX11_readBookLine_81 : decode cX11_readBookLine 81 = .ok (.iastore, 1) := by decide +kernel
theorem dX11_readBookLine_82 : decode cX11_readBookLine 82 = .ok (.aload_n 0, 1) := by decide +kernel
theorem dX11_readBookLine_83 : decode cX11_readBookLine 83 = .ok (.getfield 151, 3) := by decide +kernel
theorem dX11_readBookLine_86 : decode cX11_readBookLine 86 = .ok (.iload_n 2, 1) := by decide +kernel
theorem dX11_readBookLine_87 : decode cX11_readBookLine 87 = .ok (.iconst 1, 1) := by decide +kernel
theorem dX11_readBookLine_88 : decode cX11_readBookLine 88 = .ok (.iadd, 1) := by decide +kernel
theorem dX11_readBookLine_89 : decode cX11_readBookLine 89 = .ok (.iload_n 1, 1) := by decide +kernel
theorem dX11_readBookLine_90 : decode cX11_readBookLine 90 = .ok (.ifCond .eq 7, 3) := by decide +kernel
theorem dX11_readBookLine_97 : decode cX11_readBookLine 97 = .ok (.aload_n 0, 1) := by decide +kernel
theorem dX11_readBookLine_98 : decode cX11_readBookLine 98 = .ok (.getfield 113, 3) := by decide +kernel
theorem dX11_readBookLine_101 : decode cX11_readBookLine 101 = .ok (.iconst 0, 1) := by decide +kernel
theorem dX11_readBookLine_102 : decode cX11_readBookLine 102 = .ok (.aload_n 0, 1) := by decide +kernel
theorem dX11_readBookLine_103 : decode cX11_readBookLine 103 = .ok (.getfield 98, 3) := by decide +kernel
theorem dX11_readBookLine_106 : decode cX11_readBookLine 106 = .ok (.iconst 0, 1) := by decide +kernel
theorem dX11_readBookLine_107 : decode cX11_readBookLine 107 = .ok (.iaload, 1) := by decide +kernel
theorem dX11_readBookLine_108 : decode cX11_readBookLine 108 = .ok (.aload_n 0, 1) := by decide +kernel
theorem dX11_readBookLine_109 : decode cX11_readBookLine 109 = .ok (.getfield 43, 3) := by decide +kernel
theorem dX11_readBookLine_112 : decode cX11_readBookLine 112 = .ok (.invokestatic 167, 3) := by decide +kernel
theorem dX11_readBookLine_115 : decode cX11_readBookLine 115 = .ok (.iastore, 1) := by decide +kernel
theorem dX11_readBookLine_116 : decode cX11_readBookLine 116 = .ok (.aload_n 0, 1) := by decide +kernel
theorem dX11_readBookLine_117 : decode cX11_readBookLine 117 = .ok (.getfield 151, 3) := by decide +kernel
theorem dX11_readBookLine_120 : decode cX11_readBookLine 120 = .ok (.iload_n 2, 1) := by decide +kernel
theorem dX11_readBookLine_121 : decode cX11_readBookLine 121 = .ok (.iconst 2, 1) := by decide +kernel
theorem dX11_readBookLine_122 : decode cX11_readBookLine 122 = .ok (.iadd, 1) := by decide +kernel
theorem dX11_readBookLine_123 : decode cX11_readBookLine 123 = .ok (.iconst 0, 1) := by decide +kernel
theorem dX11_readBookLine_124 : decode cX11_readBookLine 124 = .ok (.iastore, 1) := by decide +kernel
theorem dX11_readBookLine_125 : decode cX11_readBookLine 125 = .ok (.aload_n 0, 1) := by decide +kernel
theorem dX11_readBookLine_126 : decode cX11_readBookLine 126 = .ok (.getfield 151, 3) := by decide +kernel
theorem dX11_readBookLine_129 : decode cX11_readBookLine 129 = .ok (.iload_n 2, 1) := by decide +kernel
theorem dX11_readBookLine_130 : decode cX11_readBookLine 130 = .ok (.iconst 3, 1) := by decide +kernel
theorem dX11_readBookLine_131 : decode cX11_readBookLine 131 = .ok (.iadd, 1) := by decide +kernel
theorem dX11_readBookLine_132 : decode cX11_readBookLine 132 = .ok (.iconst 0, 1) := by decide +kernel
theorem dX11_readBookLine_133 : decode cX11_readBookLine 133 = .ok (.iastore, 1) := by decide +kernel
theorem dX11_readBookLine_134 : decode cX11_readBookLine 134 = .ok (.aload_n 0, 1) := by decide +kernel
theorem dX11_readBookLine_135 : decode cX11_readBookLine 135 = .ok (.invokevirtual 82, 3) := by decide +kernel
theorem dX11_readBookLine_138 : decode cX11_readBookLine 138 = .ok (.iload_n 1, 1) := by decide +kernel
theorem dX11_readBookLine_139 : decode cX11_readBookLine 139 = .ok (.ifCond .eq 23, 3) := by decide +kernel
theorem dX11_readBookLine_162 : decode cX11_readBookLine 162 = .ok (.aload_n 0, 1) := by decide +kernel
theorem dX11_readBookLine_163 : decode cX11_readBookLine 163 = .ok (.iload_n 2, 1) := by decide +kernel
theorem dX11_readBookLine_164 : decode cX11_readBookLine 164 = .ok (.invokevirtual 385, 3) := by decide +kernel
theorem t1987 : Cond.methodLink RX11 385 yX11_readDoes ∈ GW := gw_mem 2101 (by decide +kernel) (by decide +kernel)
theorem t1989 : Cond.instanceMethod yX11_readDoes ∈ GW := gw_mem 2103 (by decide +kernel) (by decide +kernel)
theorem s99 : Cond.selects RX11 yX11_readDoes yX11_readDoes ∈ GW := gw_mem 99 (by decide +kernel) (by decide +kernel)
theorem cw_X11_385 {R : Room} {s : State} {args : Array Value} {rm : Room} {mc ms : Nat} (hts : ∀ w ∈ GW, w.before args s = true) (hrc : rm.cells = mc) (hrs : rm.slots = ms) (hR : rm.frames + 1 ≤ R.frames ∧ 8 + (3 + 11) + rm.locals ≤ R.locals) : CallW R s args RX11 RX11 385 yX11_readDoes cX11_readDoes 3 (some .boolean) (wl yX11_readDoes cX11_readDoes 3 (some .boolean)) rm mc ms 1 := cwV 1 hts (gi_V t1987 t1989 s99 t18 t1990) rfl hrc hrs (by decide +kernel) hR
theorem dX11_readBookLine_167 : decode cX11_readBookLine 167 = .ok (.ifCond .eq 14, 3) := by decide +kernel
theorem dX11_readBookLine_181 : decode cX11_readBookLine 181 = .ok (.iconst 0, 1) := by decide +kernel
theorem dX11_readBookLine_182 : decode cX11_readBookLine 182 = .ok (.ireturn, 1) := by decide +kernel
theorem dX11_readBookLine_170 : decode cX11_readBookLine 170 = .ok (.aload_n 0, 1) := by decide +kernel
theorem dX11_readBookLine_171 : decode cX11_readBookLine 171 = .ok (.invokevirtual 222, 3) := by decide +kernel
theorem dX11_readBookLine_174 : decode cX11_readBookLine 174 = .ok (.ifCond .eq 7, 3) := by decide +kernel
theorem dX11_readBookLine_177 : decode cX11_readBookLine 177 = .ok (.iconst 1, 1) := by decide +kernel
theorem dX11_readBookLine_178 : decode cX11_readBookLine 178 = .ok (.goto 4, 3) := by decide +kernel
theorem dX11_readBookLine_61 : decode cX11_readBookLine 61 = .ok (.aload_n 0, 1) := by decide +kernel
theorem dX11_readBookLine_62 : decode cX11_readBookLine 62 = .ok (.iconst 4, 1) := by decide +kernel
theorem dX11_readBookLine_63 : decode cX11_readBookLine 63 = .ok (.invokevirtual 72, 3) := by decide +kernel
theorem dX11_readBookLine_66 : decode cX11_readBookLine 66 = .ok (.ireturn, 1) := by decide +kernel
theorem dX11_readBookLine_46 : decode cX11_readBookLine 46 = .ok (.aload_n 0, 1) := by decide +kernel
theorem dX11_readBookLine_47 : decode cX11_readBookLine 47 = .ok (.iconst 3, 1) := by decide +kernel
theorem dX11_readBookLine_48 : decode cX11_readBookLine 48 = .ok (.invokevirtual 72, 3) := by decide +kernel
theorem dX11_readBookLine_51 : decode cX11_readBookLine 51 = .ok (.ireturn, 1) := by decide +kernel
theorem dX11_readBookLine_93 : decode cX11_readBookLine 93 = .ok (.iconst 0, 1) := by decide +kernel
theorem dX11_readBookLine_94 : decode cX11_readBookLine 94 = .ok (.goto 21, 3) := by decide +kernel
theorem dX11_readBookLine_142 : decode cX11_readBookLine 142 = .ok (.aload_n 0, 1) := by decide +kernel
theorem dX11_readBookLine_143 : decode cX11_readBookLine 143 = .ok (.iload_n 2, 1) := by decide +kernel
theorem dX11_readBookLine_144 : decode cX11_readBookLine 144 = .ok (.iconst 1, 1) := by decide +kernel
theorem dX11_readBookLine_145 : decode cX11_readBookLine 145 = .ok (.iadd, 1) := by decide +kernel
theorem dX11_readBookLine_146 : decode cX11_readBookLine 146 = .ok (.aload_n 0, 1) := by decide +kernel
theorem dX11_readBookLine_147 : decode cX11_readBookLine 147 = .ok (.iconst 1, 1) := by decide +kernel
theorem dX11_readBookLine_148 : decode cX11_readBookLine 148 = .ok (.bipush 30, 2) := by decide +kernel
theorem dX11_readBookLine_150 : decode cX11_readBookLine 150 = .ok (.invokevirtual 178, 3) := by decide +kernel
theorem dX11_readBookLine_153 : decode cX11_readBookLine 153 = .ok (.invokevirtual 376, 3) := by decide +kernel
theorem dX11_readBookLine_156 : decode cX11_readBookLine 156 = .ok (.ifCond .eq 25, 3) := by decide +kernel
theorem dX11_readBookLine_159 : decode cX11_readBookLine 159 = .ok (.goto 11, 3) := by decide +kernel
set_option maxHeartbeats 4000000 in
set_option maxRecDepth 100000 in
theorem m_readBookLine (l : Launch) (dC : Nat → ClassId) (dI : Nat → Nat → Nat) (cy : Nat → ClassId) (sz : Nat) (vnh : Nat → Int32) (vo : Nat) (voth : Int32) (vmt : Nat) (votp : Int32) (vosz : Int32) (volm : Int32) (voto : Int32) (vofr : Int32) (vokd : Int32) (vonu : Int32) (vosg : Int32) (vofa : Int32) (vopl : Int32) (vowd : Int64) (votd : Int32) (vmn : Nat) (vmr : Nat) (vmk : Nat) (vms : Nat) (vma : Nat) (vmm : Nat) (vmrn : Nat) (vmkn : Nat) (vmik : Nat) (vmon : Nat) (vosm : Int32) (vohp : Int32) (vmw : Nat) (vmf : Nat) (vmb : Nat) (vomb : Int32) (vmd : Nat) (vmc : Nat) (vocm : Int32) (voct : Int32) (vocy : Int32) (vmx : Nat) (votx : Int32) (vose : Int32) (vml : Nat) (vmwr : Nat) (voln : Int32) (vohw : Int32) (vmno : Nat) (vond : Int32) (voon : Int32) (vowi : Int32) (votop : Int32) (vmtf : Nat → Int32) (vmnf : Nat → Int32) (vmmf : Nat → Int64) (vmlf : Nat → Int32) (r_vosz : 0 ≤ (vosz : Int32).toInt ∧ (vosz : Int32).toInt ≤ 940) (r_voto : 0 ≤ (voto : Int32).toInt ∧ (voto : Int32).toInt ≤ 940) (r_votd : -1 ≤ (votd : Int32).toInt ∧ (votd : Int32).toInt ≤ 999) (r_voln : 0 ≤ (voln : Int32).toInt ∧ (voln : Int32).toInt ≤ 40) (p_vmtf : Rg vmtf 940 0 255) (p_vmnf : NW vnh vmnf) (p_vmlf : LQ vmlf) : Met l yX11_readBookLine (wl yX11_readBookLine cX11_readBookLine 3 (some .boolean)) ({ frames := 6, cells := 0, slots := 0, locals := 384 }) (Pw (dC, dI) vwCl cy [(vo, .inr (12, [.int voth, .ref vmt, .int votp, .int vosz, .int volm, .int voto, .int vofr, .int vokd, .int vonu, .int vosg, .int vofa, .int vopl, .long vowd, .int votd, .ref vmn, .ref vmr, .ref vmk, .ref vms, .ref vma, .ref vmm, .ref vmrn, .ref vmkn, .ref vmik, .ref vmon, .int vosm, .int vohp, .ref vmw, .ref vmf, .ref vmb, .int vomb, .ref vmd, .ref vmc, .int vocm, .int voct, .int vocy, .ref vmx, .int votx, .int vose, .ref vml, .ref vmwr, .int voln, .int vohw, .ref vmno, .int vond, .int voon, .int vowi, .int votop])), (vmt, .inl (cy 0, 940, .inl vmtf)), (vmn, .inl (cy 0, 575, .inl vmnf)), (vmm, .inl (cy 1, 17, .inr (.inl vmmf))), (vml, .inl (cy 0, 160, .inl vmlf))] sz [.ref vo] nE) (Qi (dC, dI) vwCl (fun (r : Int32) (u : Int32 × Int32 × Int32 × Int32 × Int64 × Int32 × Int32 × Int32 × Int32 × (Nat → Int32)) => ((r = 0) ∨ (r = 1 ∧ (voln : Int32).toInt ≤ 39)) ∧ (0 ≤ (u.1 : Int32).toInt ∧ (u.1 : Int32).toInt ≤ 940) ∧ (-1 ≤ (u.2.2.2.2.2.2.2.2.1 : Int32).toInt ∧ (u.2.2.2.2.2.2.2.2.1 : Int32).toInt ≤ 999) ∧ (LQ u.2.2.2.2.2.2.2.2.2)) (O_m_readBookLine cy vnh vo voth vmt votp vosz volm voto vofr vokd vonu vosg vofa vopl vowd votd vmn vmr vmk vms vma vmm vmrn vmkn vmik vmon vosm vohp vmw vmf vmb vomb vmd vmc vocm voct vocy vmx votx vose vml vmwr voln vohw vmno vond voon vowi votop vmtf vmnf vmmf vmlf) (va_A [(vo, .inr (12, [.int voth, .ref vmt, .int votp, .int vosz, .int volm, .int voto, .int vofr, .int vokd, .int vonu, .int vosg, .int vofa, .int vopl, .long vowd, .int votd, .ref vmn, .ref vmr, .ref vmk, .ref vms, .ref vma, .ref vmm, .ref vmrn, .ref vmkn, .ref vmik, .ref vmon, .int vosm, .int vohp, .ref vmw, .ref vmf, .ref vmb, .int vomb, .ref vmd, .ref vmc, .int vocm, .int voct, .int vocy, .ref vmx, .int votx, .int vose, .ref vml, .ref vmwr, .int voln, .int vohw, .ref vmno, .int vond, .int voon, .int vowi, .int votop])), (vmt, .inl (cy 0, 940, .inl vmtf)), (vmn, .inl (cy 0, 575, .inl vmnf)), (vmm, .inl (cy 1, 17, .inr (.inl vmmf))), (vml, .inl (cy 0, 160, .inl vmlf))] sz)) 0 0 (va_A [(vo, .inr (12, [.int voth, .ref vmt, .int votp, .int vosz, .int volm, .int voto, .int vofr, .int vokd, .int vonu, .int vosg, .int vofa, .int vopl, .long vowd, .int votd, .ref vmn, .ref vmr, .ref vmk, .ref vms, .ref vma, .ref vmm, .ref vmrn, .ref vmkn, .ref vmik, .ref vmon, .int vosm, .int vohp, .ref vmw, .ref vmf, .ref vmb, .int vomb, .ref vmd, .ref vmc, .int vocm, .int voct, .int vocy, .ref vmx, .int votx, .int vose, .ref vml, .ref vmwr, .int voln, .int vohw, .ref vmno, .int vond, .int voon, .int vowi, .int votop])), (vmt, .inl (cy 0, 940, .inl vmtf)), (vmn, .inl (cy 0, 575, .inl vmnf)), (vmm, .inl (cy 1, 17, .inr (.inl vmmf))), (vml, .inl (cy 0, 160, .inl vmlf))] sz) := by
  refine mw (Qc := Qi (dC, dI) vwCl (fun (r : Int32) (u : Int32 × Int32 × Int32 × Int32 × Int64 × Int32 × Int32 × Int32 × Int32 × (Nat → Int32)) => ((r = 0) ∨ (r = 1 ∧ (voln : Int32).toInt ≤ 39)) ∧ (0 ≤ (u.1 : Int32).toInt ∧ (u.1 : Int32).toInt ≤ 940) ∧ (-1 ≤ (u.2.2.2.2.2.2.2.2.1 : Int32).toInt ∧ (u.2.2.2.2.2.2.2.2.1 : Int32).toInt ≤ 999) ∧ (LQ u.2.2.2.2.2.2.2.2.2)) (O_m_readBookLine cy vnh vo voth vmt votp vosz volm voto vofr vokd vonu vosg vofa vopl vowd votd vmn vmr vmk vms vma vmm vmrn vmkn vmik vmon vosm vohp vmw vmf vmb vomb vmd vmc vocm voct vocy vmx votx vose vml vmwr voln vohw vmno vond voon vowi votop vmtf vmnf vmmf vmlf)) RX11 rfl (by decide +kernel) (Nat.le_of_ble_eq_true rfl) ?_
  intro p e s m below meth c A hx hb hr hlocks av9 hav hts hown hnm hml hK hP hD hA hS hE hAe Q9 hQ9 ls hl
  have hl : lv_has ls 3 [(0, .ref vo)] := hl
  refine lv_aload_n hx hb dX11_readBookLine_0 rfl (lv_at hl 0 rfl) ?_
  refine lv_bipush (v := 14) hx hb dX11_readBookLine_1 (by decide) ?_
  have k_14 : (14 : Int32).toInt = 14 := by decide
  refine jr_i (rVr (As := [.int 14]) (rest := []) (ci := 12) ⟨hx, hb, hml, hown, hts⟩ (m_isWord l dC dI cy vo voth vmt votp vosz volm voto vofr vokd vonu vosg vofa vopl vowd votd vmn vmr vmk vms vma vmm vmrn vmkn vmik vmon vosm vohp vmw vmf vmb vomb vmd vmc vocm voct vocy vmx votx vose vml vmwr voln vohw vmno vond voon vowi votop 14 ) (cw_X11_185 hts rfl rfl ⟨Nat.le_of_ble_eq_true rfl, Nat.le_of_ble_eq_true rfl⟩) hP hK [0] rfl rfl rfl rfl hl.1 rfl (Nat.le_of_ble_eq_true rfl) dX11_readBookLine_3 ⟨Nat.le_of_ble_eq_true rfl, Nat.le_of_ble_eq_true rfl⟩) hP hS (fun r_1 H locs hp_2 hP hS => ?_)
  have hp_2 : ((r_1 = 0) ∨ (r_1 = 1 ∧ (vokd : Int32).toInt = 2)) := hp_2
  have q_3 := hp_2
  rcases q_3 with aq_3 | ⟨aq_3, f0q_3⟩
  · skip
    refine as_i 0 aq_3 ?_
    refine lv_istore_n (lv' := [(1, .int 0), (0, .ref vo)]) hx hb dX11_readBookLine_6 rfl hl (by decide) rfl (fun ls hl => ?_)
    refine lv_iload_n hx hb dX11_readBookLine_7 rfl (lv_at hl 0 rfl) ?_
    refine lv_if_ne (tgt := 52) hx hb dX11_readBookLine_8 (by decide) (fun c9 => absurd c9 (by decide)) (fun _ => ?_)
    refine lv_aload_n hx hb dX11_readBookLine_11 rfl (lv_at hl 1 rfl) ?_
    refine jr_i (rVr (As := []) (rest := []) (ci := 12) ⟨hx, hb, hml, hown, hts⟩ (m_isName l dC dI cy vo voth vmt votp vosz volm voto vofr vokd vonu vosg vofa vopl vowd votd vmn vmr vmk vms vma vmm vmrn vmkn vmik vmon vosm vohp vmw vmf vmb vomb vmd vmc vocm voct vocy vmx votx vose vml vmwr voln vohw vmno vond voon vowi votop ) (cw_X11_163 hts rfl rfl ⟨Nat.le_of_ble_eq_true rfl, Nat.le_of_ble_eq_true rfl⟩) hP hK [0] rfl rfl rfl rfl hl.1 rfl (Nat.le_of_ble_eq_true rfl) dX11_readBookLine_12 ⟨Nat.le_of_ble_eq_true rfl, Nat.le_of_ble_eq_true rfl⟩) hP hS (fun r_4 H locs hp_5 hP hS => ?_)
    have hp_5 : ((r_4 = 0) ∨ (r_4 = 1)) := hp_5
    have q_6 := hp_5
    rcases q_6 with aq_6 | aq_6
    · skip
      refine as_i 0 aq_6 ?_
      refine lv_if_ne (tgt := 24) hx hb dX11_readBookLine_15 (by decide) (fun c9 => absurd c9 (by decide)) (fun _ => ?_)
      refine lv_aload_n hx hb dX11_readBookLine_18 rfl (lv_at hl 1 rfl) ?_
      refine lv_iconst (v := 1) hx hb dX11_readBookLine_19 (by decide) ?_
      have k_1 : (1 : Int32).toInt = 1 := by decide
      refine jn_i (wr := [(vmt, .inl (cy 0, 940, .inl vmtf)), (vmn, .inl (cy 0, 575, .inl vmnf)), (vmm, .inl (cy 1, 17, .inr (.inl vmmf))), (vml, .inl (cy 0, 160, .inl vmlf))]) (rV (As := [.int 1]) (rest := []) (ci := 12) ⟨hx, hb, hml, hown, hts⟩ (m_bad l dC dI cy _ vo voth vmt votp vosz volm voto vofr vokd vonu vosg vofa vopl vowd votd vmn vmr vmk vms vma vmm vmrn vmkn vmik vmon vosm vohp vmw vmf vmb vomb vmd vmc vocm voct vocy vmx votx vose vml vmwr voln vohw vmno vond voon vowi votop 1 ) (cw_X11_72 hts rfl rfl ⟨Nat.le_of_ble_eq_true rfl, Nat.le_of_ble_eq_true rfl⟩) hP hD hK [0] rfl rfl rfl rfl bl0 e0 rfl hl.1 rfl (Nat.le_of_ble_eq_true rfl) dX11_readBookLine_20 ⟨Nat.le_of_ble_eq_true rfl, Nat.le_of_ble_eq_true rfl⟩) hP hD hS hA [0] [1, 2, 3, 4] rfl rfl rfl (by decide) (fun r_7 u_9 H locs hp_8 hP hD hS => ?_)
      obtain ⟨vofa_10, vopl_11⟩ := u_9
      have hp_8 : ((r_7 = 0)) := hp_8
      have q_12 := hp_8
      have hP : va_P (dC, dI) vwCl [(vmt, .inl (cy 0, 940, .inl vmtf)), (vmn, .inl (cy 0, 575, .inl vmnf)), (vmm, .inl (cy 1, 17, .inr (.inl vmmf))), (vml, .inl (cy 0, 160, .inl vmlf)), (vo, .inr (12, [.int voth, .ref vmt, .int votp, .int vosz, .int volm, .int voto, .int vofr, .int vokd, .int vonu, .int vosg, .int vofa_10, .int vopl_11, .long vowd, .int votd, .ref vmn, .ref vmr, .ref vmk, .ref vms, .ref vma, .ref vmm, .ref vmrn, .ref vmkn, .ref vmik, .ref vmon, .int vosm, .int vohp, .ref vmw, .ref vmf, .ref vmb, .int vomb, .ref vmd, .ref vmc, .int vocm, .int voct, .int vocy, .ref vmx, .int votx, .int vose, .ref vml, .ref vmwr, .int voln, .int vohw, .ref vmno, .int vond, .int voon, .int vowi, .int votop]))] H := hP
      have hD : va_D A [(vmt, .inl (cy 0, 940, .inl vmtf)), (vmn, .inl (cy 0, 575, .inl vmnf)), (vmm, .inl (cy 1, 17, .inr (.inl vmmf))), (vml, .inl (cy 0, 160, .inl vmlf)), (vo, .inr (12, [.int voth, .ref vmt, .int votp, .int vosz, .int volm, .int voto, .int vofr, .int vokd, .int vonu, .int vosg, .int vofa_10, .int vopl_11, .long vowd, .int votd, .ref vmn, .ref vmr, .ref vmk, .ref vms, .ref vma, .ref vmm, .ref vmrn, .ref vmkn, .ref vmik, .ref vmon, .int vosm, .int vohp, .ref vmw, .ref vmf, .ref vmb, .int vomb, .ref vmd, .ref vmc, .int vocm, .int voct, .int vocy, .ref vmx, .int votx, .int vose, .ref vml, .ref vmwr, .int voln, .int vohw, .ref vmno, .int vond, .int voon, .int vowi, .int votop]))] := hD
      have aq_12 := q_12
      · skip
        refine as_i 0 aq_12 ?_
        have k_0 : (0 : Int32).toInt = 0 := by decide
        rw [hQ9]
        exact re_z (voto, vofr, vokd, vosg, vowd, vonu, vofa_10, vopl_11, votd, vmlf) hx hb hr hlocks (Or.inl rfl) ⟨(show ((0 : Int32) = 0) ∨ ((0 : Int32) = 1 ∧ (voln : Int32).toInt ≤ 39) from (Or.inl rfl)), (show 0 ≤ (voto : Int32).toInt ∧ (voto : Int32).toInt ≤ 940 from ⟨by omega, by omega⟩), (show -1 ≤ (votd : Int32).toInt ∧ (votd : Int32).toInt ≤ 999 from ⟨by omega, by omega⟩), (show LQ vmlf from p_vmlf)⟩ (hP.sub [4, 0, 1, 2, 3] rfl) (hD.sub [4, 0, 1, 2, 3] rfl rfl) hS dX11_readBookLine_23
    · skip
      refine as_i 1 aq_6 ?_
      refine lv_if_ne (tgt := 24) hx hb dX11_readBookLine_15 (by decide) (fun _ => ?_) (fun c9 => absurd c9 (by decide))
      refine lv_aload_n hx hb dX11_readBookLine_24 rfl (lv_at hl 1 rfl) ?_
      refine gf_X11_113 hx hb hts hown hK hP 0 rfl rfl dX11_readBookLine_25 ?_
      refine lv_iconst (v := 0) hx hb dX11_readBookLine_28 (by decide) ?_
      refine lv_aload_n hx hb dX11_readBookLine_29 rfl (lv_at hl 1 rfl) ?_
      refine gf_X11_98 hx hb hts hown hK hP 0 rfl rfl dX11_readBookLine_30 ?_
      refine lv_iconst (v := 0) hx hb dX11_readBookLine_33 (by decide) ?_
      have k_0 : (0 : Int32).toInt = 0 := by decide
      have hin_13 : vp_in (0 : Int32) 575 := vp_in_iff.mpr ⟨by omega, by omega⟩
      refine va_iald hx hb hK hP 2 0 rfl rfl hin_13 dX11_readBookLine_34 ?_
      refine lv_topi (fun z_14 ez_14 => ?_)
      have bz_14 := p_vmnf.a0 (x := 0) ⟨by omega, by omega⟩ ez_14
      have tz_14 : z_14.toInt = (vmnf 0).toInt := by rw [ez_14]; rfl
      refine lv_aload_n hx hb dX11_readBookLine_35 rfl (lv_at hl 1 rfl) ?_
      refine gf_X11_43 hx hb hts hown hK hP 0 rfl rfl dX11_readBookLine_36 ?_
      refine jr_i (rSr (As := [.ref vmm, .int 0, .int z_14, .long vowd]) (rest := []) ⟨hx, hb, hml, hown, hts⟩ (s_findIn l dC dI cy vmm vmmf 0 z_14 vowd ⟨by omega, by omega⟩ ⟨by omega, by omega⟩ (by omega)) (cw_X11_167 hts rfl rfl ⟨Nat.le_of_ble_eq_true rfl, Nat.le_of_ble_eq_true rfl⟩) hP hK [3] rfl rfl hl.1 rfl (Nat.le_of_ble_eq_true rfl) dX11_readBookLine_39 ⟨Nat.le_of_ble_eq_true rfl, Nat.le_of_ble_eq_true rfl⟩) hP hS (fun r_15 H locs hp_16 hP hS => ?_)
      have hp_16 : (-1 ≤ (r_15 : Int32).toInt ∧ (r_15 : Int32).toInt ≤ 9) ∧ ((r_15 : Int32).toInt < (z_14 : Int32).toInt) ∧ ((r_15 : Int32).toInt = tksr vmmf (0 : Int32).toInt vowd (z_14 : Int32).toInt 0) := hp_16
      obtain ⟨q_17, q_18, q_19⟩ := hp_16
      refine lv_iconst (v := (-1)) hx hb dX11_readBookLine_42 (by decide) ?_
      have k_m1 : ((-1) : Int32).toInt = (-1) := by decide
      refine lv_icmp_ne (tgt := 52) hx hb dX11_readBookLine_43 (by decide) (fun c_20 => ?_) (fun c_20 => ?_)
      · skip
        have c_20 : ¬ (r_15.toInt = ((-1) : Int32).toInt) := fun h9 => c_20 (i_eq.mpr h9)
        refine lv_aload_n hx hb dX11_readBookLine_52 rfl (lv_at hl 1 rfl) ?_
        refine gf_X11_382 hx hb hts hown hK hP 0 rfl rfl dX11_readBookLine_53 ?_
        refine lv_bipush (v := 40) hx hb dX11_readBookLine_56 (by decide) ?_
        have k_40 : (40 : Int32).toInt = 40 := by decide
        refine lv_icmp_ne (tgt := 67) hx hb dX11_readBookLine_58 (by decide) (fun c_21 => ?_) (fun c_21 => ?_)
        · skip
          have c_21 : ¬ (voln.toInt = (40 : Int32).toInt) := fun h9 => c_21 (i_eq.mpr h9)
          refine lv_iconst (v := 4) hx hb dX11_readBookLine_67 (by decide) ?_
          refine lv_aload_n hx hb dX11_readBookLine_68 rfl (lv_at hl 1 rfl) ?_
          refine gf_X11_382 hx hb hts hown hK hP 0 rfl rfl dX11_readBookLine_69 ?_
          refine lv_imul hx hb dX11_readBookLine_72 ?_
          refine lv_topi (fun z_22 ez_22 => ?_)
          have k_4 : (4 : Int32).toInt = 4 := by decide
          have bz_22 : z_22.toInt = voln.toInt * 4 := i_cmul k_4 ez_22 (by omega) (by omega)
          refine lv_istore_n (lv' := [(2, .int z_22), (1, .int 0), (0, .ref vo)]) hx hb dX11_readBookLine_73 rfl hl (by decide) rfl (fun ls hl => ?_)
          refine lv_aload_n hx hb dX11_readBookLine_74 rfl (lv_at hl 2 rfl) ?_
          refine gf_X11_151 hx hb hts hown hK hP 0 rfl rfl dX11_readBookLine_75 ?_
          refine lv_iload_n hx hb dX11_readBookLine_78 rfl (lv_at hl 0 rfl) ?_
          refine lv_bipush (v := 6) hx hb dX11_readBookLine_79 (by decide) ?_
          have hin_23 : vp_in z_22 160 := vp_in_iff.mpr ⟨by omega, by omega⟩
          refine va_iast hx hb hK hP hD hS 4 0 rfl rfl hin_23 dX11_readBookLine_81 (fun H locs hP hD hS => ?_)
          obtain ⟨f_24, ef_24⟩ : ∃ z : Nat → Int32, z = upd vmlf (Int32.toNatClampNeg z_22) 6 := ⟨_, rfl⟩
          have hP : va_P (dC, dI) vwCl [(vo, .inr (12, [.int voth, .ref vmt, .int votp, .int vosz, .int volm, .int voto, .int vofr, .int vokd, .int vonu, .int vosg, .int vofa, .int vopl, .long vowd, .int votd, .ref vmn, .ref vmr, .ref vmk, .ref vms, .ref vma, .ref vmm, .ref vmrn, .ref vmkn, .ref vmik, .ref vmon, .int vosm, .int vohp, .ref vmw, .ref vmf, .ref vmb, .int vomb, .ref vmd, .ref vmc, .int vocm, .int voct, .int vocy, .ref vmx, .int votx, .int vose, .ref vml, .ref vmwr, .int voln, .int vohw, .ref vmno, .int vond, .int voon, .int vowi, .int votop])), (vmt, .inl (cy 0, 940, .inl vmtf)), (vmn, .inl (cy 0, 575, .inl vmnf)), (vmm, .inl (cy 1, 17, .inr (.inl vmmf))), (vml, .inl (cy 0, 160, .inl f_24))] H := by rw [ef_24]; exact hP
          have hD : va_D A [(vo, .inr (12, [.int voth, .ref vmt, .int votp, .int vosz, .int volm, .int voto, .int vofr, .int vokd, .int vonu, .int vosg, .int vofa, .int vopl, .long vowd, .int votd, .ref vmn, .ref vmr, .ref vmk, .ref vms, .ref vma, .ref vmm, .ref vmrn, .ref vmkn, .ref vmik, .ref vmon, .int vosm, .int vohp, .ref vmw, .ref vmf, .ref vmb, .int vomb, .ref vmd, .ref vmc, .int vocm, .int voct, .int vocy, .ref vmx, .int votx, .int vose, .ref vml, .ref vmwr, .int voln, .int vohw, .ref vmno, .int vond, .int voon, .int vowi, .int votop])), (vmt, .inl (cy 0, 940, .inl vmtf)), (vmn, .inl (cy 0, 575, .inl vmnf)), (vmm, .inl (cy 1, 17, .inr (.inl vmmf))), (vml, .inl (cy 0, 160, .inl f_24))] := by rw [ef_24]; exact hD
          have k_6 : (6 : Int32).toInt = 6 := by decide
          have p_f_24 : LQ f_24 := by rw [ef_24]; exact p_vmlf.put (n := voln) (d := 0) ⟨by omega, by omega⟩ (by omega) ⟨by decide, by decide⟩ ⟨by omega, by omega⟩ (fun _ => Or.inl (by omega)) (fun h9 => absurd h9 (by decide)) (fun h9 => absurd h9 (by decide))
          refine lv_aload_n hx hb dX11_readBookLine_82 rfl (lv_at hl 2 rfl) ?_
          refine gf_X11_151 hx hb hts hown hK hP 0 rfl rfl dX11_readBookLine_83 ?_
          refine lv_iload_n hx hb dX11_readBookLine_86 rfl (lv_at hl 0 rfl) ?_
          refine lv_iconst (v := 1) hx hb dX11_readBookLine_87 (by decide) ?_
          refine lv_iadd hx hb dX11_readBookLine_88 ?_
          refine lv_topi (fun z_25 ez_25 => ?_)
          have k_1 : (1 : Int32).toInt = 1 := by decide
          have bz_25 : z_25.toInt = z_22.toInt + (1 : Int32).toInt := i_add ez_25 (by omega) (by omega)
          refine lv_iload_n hx hb dX11_readBookLine_89 rfl (lv_at hl 1 rfl) ?_
          refine lv_if_eq (tgt := 97) hx hb dX11_readBookLine_90 (by decide) (fun _ => ?_) (fun c9 => absurd (by decide) c9)
          refine lv_aload_n hx hb dX11_readBookLine_97 rfl (lv_at hl 2 rfl) ?_
          refine gf_X11_113 hx hb hts hown hK hP 0 rfl rfl dX11_readBookLine_98 ?_
          refine lv_iconst (v := 0) hx hb dX11_readBookLine_101 (by decide) ?_
          refine lv_aload_n hx hb dX11_readBookLine_102 rfl (lv_at hl 2 rfl) ?_
          refine gf_X11_98 hx hb hts hown hK hP 0 rfl rfl dX11_readBookLine_103 ?_
          refine lv_iconst (v := 0) hx hb dX11_readBookLine_106 (by decide) ?_
          have hin_26 : vp_in (0 : Int32) 575 := vp_in_iff.mpr ⟨by omega, by omega⟩
          refine va_iald hx hb hK hP 2 0 rfl rfl hin_26 dX11_readBookLine_107 ?_
          refine lv_topi (fun z_27 ez_27 => ?_)
          have bz_27 := p_vmnf.a0 (x := 0) ⟨by omega, by omega⟩ ez_27
          have tz_27 : z_27.toInt = (vmnf 0).toInt := by rw [ez_27]; rfl
          refine lv_aload_n hx hb dX11_readBookLine_108 rfl (lv_at hl 2 rfl) ?_
          refine gf_X11_43 hx hb hts hown hK hP 0 rfl rfl dX11_readBookLine_109 ?_
          refine jr_i (rSr (As := [.ref vmm, .int 0, .int z_27, .long vowd]) (rest := [.int z_25, .ref vml]) ⟨hx, hb, hml, hown, hts⟩ (s_findIn l dC dI cy vmm vmmf 0 z_27 vowd ⟨by omega, by omega⟩ ⟨by omega, by omega⟩ (by omega)) (cw_X11_167 hts rfl rfl ⟨Nat.le_of_ble_eq_true rfl, Nat.le_of_ble_eq_true rfl⟩) hP hK [3] rfl rfl hl.1 rfl (Nat.le_of_ble_eq_true rfl) dX11_readBookLine_112 ⟨Nat.le_of_ble_eq_true rfl, Nat.le_of_ble_eq_true rfl⟩) hP hS (fun r_28 H locs hp_29 hP hS => ?_)
          have hp_29 : (-1 ≤ (r_28 : Int32).toInt ∧ (r_28 : Int32).toInt ≤ 9) ∧ ((r_28 : Int32).toInt < (z_27 : Int32).toInt) ∧ ((r_28 : Int32).toInt = tksr vmmf (0 : Int32).toInt vowd (z_27 : Int32).toInt 0) := hp_29
          obtain ⟨q_30, q_31, q_32⟩ := hp_29
          have hin_33 : vp_in z_25 160 := vp_in_iff.mpr ⟨by omega, by omega⟩
          refine va_iast hx hb hK hP hD hS 4 0 rfl rfl hin_33 dX11_readBookLine_115 (fun H locs hP hD hS => ?_)
          obtain ⟨f_34, ef_34⟩ : ∃ z : Nat → Int32, z = upd f_24 (Int32.toNatClampNeg z_25) r_28 := ⟨_, rfl⟩
          have hP : va_P (dC, dI) vwCl [(vo, .inr (12, [.int voth, .ref vmt, .int votp, .int vosz, .int volm, .int voto, .int vofr, .int vokd, .int vonu, .int vosg, .int vofa, .int vopl, .long vowd, .int votd, .ref vmn, .ref vmr, .ref vmk, .ref vms, .ref vma, .ref vmm, .ref vmrn, .ref vmkn, .ref vmik, .ref vmon, .int vosm, .int vohp, .ref vmw, .ref vmf, .ref vmb, .int vomb, .ref vmd, .ref vmc, .int vocm, .int voct, .int vocy, .ref vmx, .int votx, .int vose, .ref vml, .ref vmwr, .int voln, .int vohw, .ref vmno, .int vond, .int voon, .int vowi, .int votop])), (vmt, .inl (cy 0, 940, .inl vmtf)), (vmn, .inl (cy 0, 575, .inl vmnf)), (vmm, .inl (cy 1, 17, .inr (.inl vmmf))), (vml, .inl (cy 0, 160, .inl f_34))] H := by rw [ef_34]; exact hP
          have hD : va_D A [(vo, .inr (12, [.int voth, .ref vmt, .int votp, .int vosz, .int volm, .int voto, .int vofr, .int vokd, .int vonu, .int vosg, .int vofa, .int vopl, .long vowd, .int votd, .ref vmn, .ref vmr, .ref vmk, .ref vms, .ref vma, .ref vmm, .ref vmrn, .ref vmkn, .ref vmik, .ref vmon, .int vosm, .int vohp, .ref vmw, .ref vmf, .ref vmb, .int vomb, .ref vmd, .ref vmc, .int vocm, .int voct, .int vocy, .ref vmx, .int votx, .int vose, .ref vml, .ref vmwr, .int voln, .int vohw, .ref vmno, .int vond, .int voon, .int vowi, .int votop])), (vmt, .inl (cy 0, 940, .inl vmtf)), (vmn, .inl (cy 0, 575, .inl vmnf)), (vmm, .inl (cy 1, 17, .inr (.inl vmmf))), (vml, .inl (cy 0, 160, .inl f_34))] := by rw [ef_34]; exact hD
          have hfe : r_28.toInt = r_15.toInt := (by have h8 := q_32; have h9 := q_19; rw [tz_27] at h8; rw [tz_14] at h9; rw [h8, h9])
          have p_f_34 : LQ f_34 := by rw [ef_34]; exact p_f_24.put (n := voln) (d := 1) ⟨by omega, by omega⟩ (by omega) ⟨by decide, by decide⟩ ⟨by omega, by omega⟩ (fun h9 => absurd h9 (by decide)) (fun _ => Or.inr (by omega)) (fun _ => by omega)
          refine lv_aload_n hx hb dX11_readBookLine_116 rfl (lv_at hl 2 rfl) ?_
          refine gf_X11_151 hx hb hts hown hK hP 0 rfl rfl dX11_readBookLine_117 ?_
          refine lv_iload_n hx hb dX11_readBookLine_120 rfl (lv_at hl 0 rfl) ?_
          refine lv_iconst (v := 2) hx hb dX11_readBookLine_121 (by decide) ?_
          refine lv_iadd hx hb dX11_readBookLine_122 ?_
          refine lv_topi (fun z_35 ez_35 => ?_)
          have k_2 : (2 : Int32).toInt = 2 := by decide
          have bz_35 : z_35.toInt = z_22.toInt + (2 : Int32).toInt := i_add ez_35 (by omega) (by omega)
          refine lv_iconst (v := 0) hx hb dX11_readBookLine_123 (by decide) ?_
          have hin_36 : vp_in z_35 160 := vp_in_iff.mpr ⟨by omega, by omega⟩
          refine va_iast hx hb hK hP hD hS 4 0 rfl rfl hin_36 dX11_readBookLine_124 (fun H locs hP hD hS => ?_)
          obtain ⟨f_37, ef_37⟩ : ∃ z : Nat → Int32, z = upd f_34 (Int32.toNatClampNeg z_35) 0 := ⟨_, rfl⟩
          have hP : va_P (dC, dI) vwCl [(vo, .inr (12, [.int voth, .ref vmt, .int votp, .int vosz, .int volm, .int voto, .int vofr, .int vokd, .int vonu, .int vosg, .int vofa, .int vopl, .long vowd, .int votd, .ref vmn, .ref vmr, .ref vmk, .ref vms, .ref vma, .ref vmm, .ref vmrn, .ref vmkn, .ref vmik, .ref vmon, .int vosm, .int vohp, .ref vmw, .ref vmf, .ref vmb, .int vomb, .ref vmd, .ref vmc, .int vocm, .int voct, .int vocy, .ref vmx, .int votx, .int vose, .ref vml, .ref vmwr, .int voln, .int vohw, .ref vmno, .int vond, .int voon, .int vowi, .int votop])), (vmt, .inl (cy 0, 940, .inl vmtf)), (vmn, .inl (cy 0, 575, .inl vmnf)), (vmm, .inl (cy 1, 17, .inr (.inl vmmf))), (vml, .inl (cy 0, 160, .inl f_37))] H := by rw [ef_37]; exact hP
          have hD : va_D A [(vo, .inr (12, [.int voth, .ref vmt, .int votp, .int vosz, .int volm, .int voto, .int vofr, .int vokd, .int vonu, .int vosg, .int vofa, .int vopl, .long vowd, .int votd, .ref vmn, .ref vmr, .ref vmk, .ref vms, .ref vma, .ref vmm, .ref vmrn, .ref vmkn, .ref vmik, .ref vmon, .int vosm, .int vohp, .ref vmw, .ref vmf, .ref vmb, .int vomb, .ref vmd, .ref vmc, .int vocm, .int voct, .int vocy, .ref vmx, .int votx, .int vose, .ref vml, .ref vmwr, .int voln, .int vohw, .ref vmno, .int vond, .int voon, .int vowi, .int votop])), (vmt, .inl (cy 0, 940, .inl vmtf)), (vmn, .inl (cy 0, 575, .inl vmnf)), (vmm, .inl (cy 1, 17, .inr (.inl vmmf))), (vml, .inl (cy 0, 160, .inl f_37))] := by rw [ef_37]; exact hD
          have p_f_37 : LQ f_37 := by rw [ef_37]; exact p_f_34.put (n := voln) (d := 2) ⟨by omega, by omega⟩ (by omega) ⟨by decide, by decide⟩ ⟨by omega, by omega⟩ (fun h9 => absurd h9 (by decide)) (fun h9 => absurd h9 (by decide)) (fun h9 => absurd h9 (by decide))
          refine lv_aload_n hx hb dX11_readBookLine_125 rfl (lv_at hl 2 rfl) ?_
          refine gf_X11_151 hx hb hts hown hK hP 0 rfl rfl dX11_readBookLine_126 ?_
          refine lv_iload_n hx hb dX11_readBookLine_129 rfl (lv_at hl 0 rfl) ?_
          refine lv_iconst (v := 3) hx hb dX11_readBookLine_130 (by decide) ?_
          refine lv_iadd hx hb dX11_readBookLine_131 ?_
          refine lv_topi (fun z_38 ez_38 => ?_)
          have k_3 : (3 : Int32).toInt = 3 := by decide
          have bz_38 : z_38.toInt = z_22.toInt + (3 : Int32).toInt := i_add ez_38 (by omega) (by omega)
          refine lv_iconst (v := 0) hx hb dX11_readBookLine_132 (by decide) ?_
          have hin_39 : vp_in z_38 160 := vp_in_iff.mpr ⟨by omega, by omega⟩
          refine va_iast hx hb hK hP hD hS 4 0 rfl rfl hin_39 dX11_readBookLine_133 (fun H locs hP hD hS => ?_)
          obtain ⟨f_40, ef_40⟩ : ∃ z : Nat → Int32, z = upd f_37 (Int32.toNatClampNeg z_38) 0 := ⟨_, rfl⟩
          have hP : va_P (dC, dI) vwCl [(vo, .inr (12, [.int voth, .ref vmt, .int votp, .int vosz, .int volm, .int voto, .int vofr, .int vokd, .int vonu, .int vosg, .int vofa, .int vopl, .long vowd, .int votd, .ref vmn, .ref vmr, .ref vmk, .ref vms, .ref vma, .ref vmm, .ref vmrn, .ref vmkn, .ref vmik, .ref vmon, .int vosm, .int vohp, .ref vmw, .ref vmf, .ref vmb, .int vomb, .ref vmd, .ref vmc, .int vocm, .int voct, .int vocy, .ref vmx, .int votx, .int vose, .ref vml, .ref vmwr, .int voln, .int vohw, .ref vmno, .int vond, .int voon, .int vowi, .int votop])), (vmt, .inl (cy 0, 940, .inl vmtf)), (vmn, .inl (cy 0, 575, .inl vmnf)), (vmm, .inl (cy 1, 17, .inr (.inl vmmf))), (vml, .inl (cy 0, 160, .inl f_40))] H := by rw [ef_40]; exact hP
          have hD : va_D A [(vo, .inr (12, [.int voth, .ref vmt, .int votp, .int vosz, .int volm, .int voto, .int vofr, .int vokd, .int vonu, .int vosg, .int vofa, .int vopl, .long vowd, .int votd, .ref vmn, .ref vmr, .ref vmk, .ref vms, .ref vma, .ref vmm, .ref vmrn, .ref vmkn, .ref vmik, .ref vmon, .int vosm, .int vohp, .ref vmw, .ref vmf, .ref vmb, .int vomb, .ref vmd, .ref vmc, .int vocm, .int voct, .int vocy, .ref vmx, .int votx, .int vose, .ref vml, .ref vmwr, .int voln, .int vohw, .ref vmno, .int vond, .int voon, .int vowi, .int votop])), (vmt, .inl (cy 0, 940, .inl vmtf)), (vmn, .inl (cy 0, 575, .inl vmnf)), (vmm, .inl (cy 1, 17, .inr (.inl vmmf))), (vml, .inl (cy 0, 160, .inl f_40))] := by rw [ef_40]; exact hD
          have p_f_40 : LQ f_40 := by rw [ef_40]; exact p_f_37.put (n := voln) (d := 3) ⟨by omega, by omega⟩ (by omega) ⟨by decide, by decide⟩ ⟨by omega, by omega⟩ (fun h9 => absurd h9 (by decide)) (fun h9 => absurd h9 (by decide)) (fun h9 => absurd h9 (by decide))
          refine lv_aload_n hx hb dX11_readBookLine_134 rfl (lv_at hl 2 rfl) ?_
          refine jn_v (wr := [(vmn, .inl (cy 0, 575, .inl vmnf)), (vmm, .inl (cy 1, 17, .inr (.inl vmmf))), (vml, .inl (cy 0, 160, .inl f_40))]) (rV (As := []) (rest := []) (ci := 12) ⟨hx, hb, hml, hown, hts⟩ (m_go l dC dI cy _ vo voth vmt votp vosz volm voto vofr vokd vonu vosg vofa vopl vowd votd vmn vmr vmk vms vma vmm vmrn vmkn vmik vmon vosm vohp vmw vmf vmb vomb vmd vmc vocm voct vocy vmx votx vose vml vmwr voln vohw vmno vond voon vowi votop vmtf r_vosz r_voto p_vmtf) (cw_X11_82 hts rfl rfl ⟨Nat.le_of_ble_eq_true rfl, Nat.le_of_ble_eq_true rfl⟩) hP hD hK [0, 1] rfl rfl rfl rfl bl0 e0 rfl hl.1 rfl (Nat.le_of_ble_eq_true rfl) dX11_readBookLine_135 ⟨Nat.le_of_ble_eq_true rfl, Nat.le_of_ble_eq_true rfl⟩) hP hD hS hA [0, 1] [2, 3, 4] rfl rfl rfl (by decide) (fun u_43 H locs hp_42 hP hD hS => ?_)
          obtain ⟨voto_44, vofr_45, vokd_46, vosg_47, vowd_48, vonu_49⟩ := u_43
          have hp_42 : (0 ≤ (voto_44 : Int32).toInt ∧ (voto_44 : Int32).toInt ≤ 940) ∧ ((voto : Int32).toInt ≤ (voto_44 : Int32).toInt) ∧ (((vokd_46 : Int32).toInt = 0 ∨ (vokd_46 : Int32).toInt = 1 ∨ (voto : Int32).toInt + 1 ≤ (voto_44 : Int32).toInt)) := hp_42
          obtain ⟨q_50, q_51, q_52⟩ := hp_42
          have hP : va_P (dC, dI) vwCl [(vmn, .inl (cy 0, 575, .inl vmnf)), (vmm, .inl (cy 1, 17, .inr (.inl vmmf))), (vml, .inl (cy 0, 160, .inl f_40)), (vo, .inr (12, [.int voth, .ref vmt, .int votp, .int vosz, .int volm, .int voto_44, .int vofr_45, .int vokd_46, .int vonu_49, .int vosg_47, .int vofa, .int vopl, .long vowd_48, .int votd, .ref vmn, .ref vmr, .ref vmk, .ref vms, .ref vma, .ref vmm, .ref vmrn, .ref vmkn, .ref vmik, .ref vmon, .int vosm, .int vohp, .ref vmw, .ref vmf, .ref vmb, .int vomb, .ref vmd, .ref vmc, .int vocm, .int voct, .int vocy, .ref vmx, .int votx, .int vose, .ref vml, .ref vmwr, .int voln, .int vohw, .ref vmno, .int vond, .int voon, .int vowi, .int votop])), (vmt, .inl (cy 0, 940, .inl vmtf))] H := hP
          have hD : va_D A [(vmn, .inl (cy 0, 575, .inl vmnf)), (vmm, .inl (cy 1, 17, .inr (.inl vmmf))), (vml, .inl (cy 0, 160, .inl f_40)), (vo, .inr (12, [.int voth, .ref vmt, .int votp, .int vosz, .int volm, .int voto_44, .int vofr_45, .int vokd_46, .int vonu_49, .int vosg_47, .int vofa, .int vopl, .long vowd_48, .int votd, .ref vmn, .ref vmr, .ref vmk, .ref vms, .ref vma, .ref vmm, .ref vmrn, .ref vmkn, .ref vmik, .ref vmon, .int vosm, .int vohp, .ref vmw, .ref vmf, .ref vmb, .int vomb, .ref vmd, .ref vmc, .int vocm, .int voct, .int vocy, .ref vmx, .int votx, .int vose, .ref vml, .ref vmwr, .int voln, .int vohw, .ref vmno, .int vond, .int voon, .int vowi, .int votop])), (vmt, .inl (cy 0, 940, .inl vmtf))] := hD
          refine lv_iload_n hx hb dX11_readBookLine_138 rfl (lv_at hl 1 rfl) ?_
          refine lv_if_eq (tgt := 162) hx hb dX11_readBookLine_139 (by decide) (fun _ => ?_) (fun c9 => absurd (by decide) c9)
          refine lv_aload_n hx hb dX11_readBookLine_162 rfl (lv_at hl 2 rfl) ?_
          refine lv_iload_n hx hb dX11_readBookLine_163 rfl (lv_at hl 0 rfl) ?_
          refine jn_i (wr := []) (rV (As := [.int z_22]) (rest := []) (ci := 12) ⟨hx, hb, hml, hown, hts⟩ (m_readDoes l dC dI cy _ vnh vo voth vmt votp vosz volm voto_44 vofr_45 vokd_46 vonu_49 vosg_47 vofa vopl vowd_48 votd vmn vmr vmk vms vma vmm vmrn vmkn vmik vmon vosm vohp vmw vmf vmb vomb vmd vmc vocm voct vocy vmx votx vose vml vmwr voln vohw vmno vond voon vowi votop vmtf vmnf vmmf f_40 z_22 r_vosz ⟨by omega, by omega⟩ r_votd ⟨by omega, by omega⟩ ⟨by omega, by omega⟩ p_vmtf p_vmnf p_f_40 (by omega) (by rw [ef_40, lk_un (d := 1) (d' := 3) (by omega) (by decide) (by decide) (by omega), ef_37, lk_un (d := 1) (d' := 2) (by omega) (by decide) (by decide) (by omega), ef_34, lk_at (d := 1) (by omega) (by omega)]; omega)) (cw_X11_385 hts rfl rfl ⟨Nat.le_of_ble_eq_true rfl, Nat.le_of_ble_eq_true rfl⟩) hP hD hK [3, 4, 0, 1, 2] rfl rfl rfl rfl bl0 e0 rfl hl.1 rfl (Nat.le_of_ble_eq_true rfl) dX11_readBookLine_164 ⟨Nat.le_of_ble_eq_true rfl, Nat.le_of_ble_eq_true rfl⟩) hP hD hS hA [3, 4, 0, 1, 2] [] rfl rfl rfl (by decide) (fun r_53 u_55 H locs hp_54 hP hD hS => ?_)
          obtain ⟨voto_56, vofr_57, vokd_58, vosg_59, vowd_60, vonu_61, vofa_62, vopl_63, votd_64, vmlf_65⟩ := u_55
          have hp_54 : ((r_53 = 0) ∨ (r_53 = 1)) ∧ (0 ≤ (voto_56 : Int32).toInt ∧ (voto_56 : Int32).toInt ≤ 940) ∧ (-1 ≤ (votd_64 : Int32).toInt ∧ (votd_64 : Int32).toInt ≤ 999) ∧ (LQ vmlf_65) := hp_54
          obtain ⟨q_66, q_67, q_68, q_69⟩ := hp_54
          have hP : va_P (dC, dI) vwCl [(vo, .inr (12, [.int voth, .ref vmt, .int votp, .int vosz, .int volm, .int voto_56, .int vofr_57, .int vokd_58, .int vonu_61, .int vosg_59, .int vofa_62, .int vopl_63, .long vowd_60, .int votd_64, .ref vmn, .ref vmr, .ref vmk, .ref vms, .ref vma, .ref vmm, .ref vmrn, .ref vmkn, .ref vmik, .ref vmon, .int vosm, .int vohp, .ref vmw, .ref vmf, .ref vmb, .int vomb, .ref vmd, .ref vmc, .int vocm, .int voct, .int vocy, .ref vmx, .int votx, .int vose, .ref vml, .ref vmwr, .int voln, .int vohw, .ref vmno, .int vond, .int voon, .int vowi, .int votop])), (vmt, .inl (cy 0, 940, .inl vmtf)), (vmn, .inl (cy 0, 575, .inl vmnf)), (vmm, .inl (cy 1, 17, .inr (.inl vmmf))), (vml, .inl (cy 0, 160, .inl vmlf_65))] H := hP
          have hD : va_D A [(vo, .inr (12, [.int voth, .ref vmt, .int votp, .int vosz, .int volm, .int voto_56, .int vofr_57, .int vokd_58, .int vonu_61, .int vosg_59, .int vofa_62, .int vopl_63, .long vowd_60, .int votd_64, .ref vmn, .ref vmr, .ref vmk, .ref vms, .ref vma, .ref vmm, .ref vmrn, .ref vmkn, .ref vmik, .ref vmon, .int vosm, .int vohp, .ref vmw, .ref vmf, .ref vmb, .int vomb, .ref vmd, .ref vmc, .int vocm, .int voct, .int vocy, .ref vmx, .int votx, .int vose, .ref vml, .ref vmwr, .int voln, .int vohw, .ref vmno, .int vond, .int voon, .int vowi, .int votop])), (vmt, .inl (cy 0, 940, .inl vmtf)), (vmn, .inl (cy 0, 575, .inl vmnf)), (vmm, .inl (cy 1, 17, .inr (.inl vmmf))), (vml, .inl (cy 0, 160, .inl vmlf_65))] := hD
          rcases q_66 with aq_66 | aq_66
          · skip
            refine as_i 0 aq_66 ?_
            refine lv_if_eq (tgt := 181) hx hb dX11_readBookLine_167 (by decide) (fun _ => ?_) (fun c9 => absurd (by decide) c9)
            refine lv_iconst (v := 0) hx hb dX11_readBookLine_181 (by decide) ?_
            rw [hQ9]
            exact re_z (voto_56, vofr_57, vokd_58, vosg_59, vowd_60, vonu_61, vofa_62, vopl_63, votd_64, vmlf_65) hx hb hr hlocks (Or.inl rfl) ⟨(show ((0 : Int32) = 0) ∨ ((0 : Int32) = 1 ∧ (voln : Int32).toInt ≤ 39) from (Or.inl rfl)), (show 0 ≤ (voto_56 : Int32).toInt ∧ (voto_56 : Int32).toInt ≤ 940 from ⟨by omega, by omega⟩), (show -1 ≤ (votd_64 : Int32).toInt ∧ (votd_64 : Int32).toInt ≤ 999 from ⟨by omega, by omega⟩), (show LQ vmlf_65 from q_69)⟩ (hP.sub [0, 1, 2, 3, 4] rfl) (hD.sub [0, 1, 2, 3, 4] rfl rfl) hS dX11_readBookLine_182
          · skip
            refine as_i 1 aq_66 ?_
            refine lv_if_eq (tgt := 181) hx hb dX11_readBookLine_167 (by decide) (fun c9 => absurd c9 (by decide)) (fun _ => ?_)
            refine lv_aload_n hx hb dX11_readBookLine_170 rfl (lv_at hl 2 rfl) ?_
            refine jn_i (wr := [(vmn, .inl (cy 0, 575, .inl vmnf)), (vmm, .inl (cy 1, 17, .inr (.inl vmmf))), (vml, .inl (cy 0, 160, .inl vmlf_65))]) (rV (As := []) (rest := []) (ci := 12) ⟨hx, hb, hml, hown, hts⟩ (m_readEnd l dC dI cy _ vo voth vmt votp vosz volm voto_56 vofr_57 vokd_58 vonu_61 vosg_59 vofa_62 vopl_63 vowd_60 votd_64 vmn vmr vmk vms vma vmm vmrn vmkn vmik vmon vosm vohp vmw vmf vmb vomb vmd vmc vocm voct vocy vmx votx vose vml vmwr voln vohw vmno vond voon vowi votop vmtf r_vosz ⟨by omega, by omega⟩ p_vmtf) (cw_X11_222 hts rfl rfl ⟨Nat.le_of_ble_eq_true rfl, Nat.le_of_ble_eq_true rfl⟩) hP hD hK [0, 1] rfl rfl rfl rfl bl0 e0 rfl hl.1 rfl (Nat.le_of_ble_eq_true rfl) dX11_readBookLine_171 ⟨Nat.le_of_ble_eq_true rfl, Nat.le_of_ble_eq_true rfl⟩) hP hD hS hA [0, 1] [2, 3, 4] rfl rfl rfl (by decide) (fun r_70 u_72 H locs hp_71 hP hD hS => ?_)
            obtain ⟨voto_73, vofr_74, vokd_75, vosg_76, vowd_77, vonu_78, vofa_79, vopl_80⟩ := u_72
            have hp_71 : ((r_70 = 0) ∨ (r_70 = 1 ∧ (vokd_58 : Int32).toInt = 4)) ∧ (0 ≤ (voto_73 : Int32).toInt ∧ (voto_73 : Int32).toInt ≤ 940) ∧ ((voto_56 : Int32).toInt ≤ (voto_73 : Int32).toInt) := hp_71
            obtain ⟨q_81, q_82, q_83⟩ := hp_71
            have hP : va_P (dC, dI) vwCl [(vmn, .inl (cy 0, 575, .inl vmnf)), (vmm, .inl (cy 1, 17, .inr (.inl vmmf))), (vml, .inl (cy 0, 160, .inl vmlf_65)), (vo, .inr (12, [.int voth, .ref vmt, .int votp, .int vosz, .int volm, .int voto_73, .int vofr_74, .int vokd_75, .int vonu_78, .int vosg_76, .int vofa_79, .int vopl_80, .long vowd_77, .int votd_64, .ref vmn, .ref vmr, .ref vmk, .ref vms, .ref vma, .ref vmm, .ref vmrn, .ref vmkn, .ref vmik, .ref vmon, .int vosm, .int vohp, .ref vmw, .ref vmf, .ref vmb, .int vomb, .ref vmd, .ref vmc, .int vocm, .int voct, .int vocy, .ref vmx, .int votx, .int vose, .ref vml, .ref vmwr, .int voln, .int vohw, .ref vmno, .int vond, .int voon, .int vowi, .int votop])), (vmt, .inl (cy 0, 940, .inl vmtf))] H := hP
            have hD : va_D A [(vmn, .inl (cy 0, 575, .inl vmnf)), (vmm, .inl (cy 1, 17, .inr (.inl vmmf))), (vml, .inl (cy 0, 160, .inl vmlf_65)), (vo, .inr (12, [.int voth, .ref vmt, .int votp, .int vosz, .int volm, .int voto_73, .int vofr_74, .int vokd_75, .int vonu_78, .int vosg_76, .int vofa_79, .int vopl_80, .long vowd_77, .int votd_64, .ref vmn, .ref vmr, .ref vmk, .ref vms, .ref vma, .ref vmm, .ref vmrn, .ref vmkn, .ref vmik, .ref vmon, .int vosm, .int vohp, .ref vmw, .ref vmf, .ref vmb, .int vomb, .ref vmd, .ref vmc, .int vocm, .int voct, .int vocy, .ref vmx, .int votx, .int vose, .ref vml, .ref vmwr, .int voln, .int vohw, .ref vmno, .int vond, .int voon, .int vowi, .int votop])), (vmt, .inl (cy 0, 940, .inl vmtf))] := hD
            rcases q_81 with aq_81 | ⟨aq_81, f0q_81⟩
            · skip
              refine as_i 0 aq_81 ?_
              refine lv_if_eq (tgt := 181) hx hb dX11_readBookLine_174 (by decide) (fun _ => ?_) (fun c9 => absurd (by decide) c9)
              refine lv_iconst (v := 0) hx hb dX11_readBookLine_181 (by decide) ?_
              rw [hQ9]
              exact re_z (voto_73, vofr_74, vokd_75, vosg_76, vowd_77, vonu_78, vofa_79, vopl_80, votd_64, vmlf_65) hx hb hr hlocks (Or.inl rfl) ⟨(show ((0 : Int32) = 0) ∨ ((0 : Int32) = 1 ∧ (voln : Int32).toInt ≤ 39) from (Or.inl rfl)), (show 0 ≤ (voto_73 : Int32).toInt ∧ (voto_73 : Int32).toInt ≤ 940 from ⟨by omega, by omega⟩), (show -1 ≤ (votd_64 : Int32).toInt ∧ (votd_64 : Int32).toInt ≤ 999 from ⟨by omega, by omega⟩), (show LQ vmlf_65 from q_69)⟩ (hP.sub [3, 4, 0, 1, 2] rfl) (hD.sub [3, 4, 0, 1, 2] rfl rfl) hS dX11_readBookLine_182
            · skip
              refine as_i 1 aq_81 ?_
              refine lv_if_eq (tgt := 181) hx hb dX11_readBookLine_174 (by decide) (fun c9 => absurd c9 (by decide)) (fun _ => ?_)
              refine lv_iconst (v := 1) hx hb dX11_readBookLine_177 (by decide) ?_
              refine lv_goto (tgt := 182) hx hb dX11_readBookLine_178 (by decide) ?_
              rw [hQ9]
              exact re_z (voto_73, vofr_74, vokd_75, vosg_76, vowd_77, vonu_78, vofa_79, vopl_80, votd_64, vmlf_65) hx hb hr hlocks (Or.inr rfl) ⟨(show ((1 : Int32) = 0) ∨ ((1 : Int32) = 1 ∧ (voln : Int32).toInt ≤ 39) from (Or.inr (⟨rfl, by omega⟩))), (show 0 ≤ (voto_73 : Int32).toInt ∧ (voto_73 : Int32).toInt ≤ 940 from ⟨by omega, by omega⟩), (show -1 ≤ (votd_64 : Int32).toInt ∧ (votd_64 : Int32).toInt ≤ 999 from ⟨by omega, by omega⟩), (show LQ vmlf_65 from q_69)⟩ (hP.sub [3, 4, 0, 1, 2] rfl) (hD.sub [3, 4, 0, 1, 2] rfl rfl) hS dX11_readBookLine_182
        · skip
          have c_21 : voln.toInt = (40 : Int32).toInt := i_eq.mp c_21
          refine lv_aload_n hx hb dX11_readBookLine_61 rfl (lv_at hl 1 rfl) ?_
          refine lv_iconst (v := 4) hx hb dX11_readBookLine_62 (by decide) ?_
          have k_4 : (4 : Int32).toInt = 4 := by decide
          refine jn_i (wr := [(vmt, .inl (cy 0, 940, .inl vmtf)), (vmn, .inl (cy 0, 575, .inl vmnf)), (vmm, .inl (cy 1, 17, .inr (.inl vmmf))), (vml, .inl (cy 0, 160, .inl vmlf))]) (rV (As := [.int 4]) (rest := []) (ci := 12) ⟨hx, hb, hml, hown, hts⟩ (m_bad l dC dI cy _ vo voth vmt votp vosz volm voto vofr vokd vonu vosg vofa vopl vowd votd vmn vmr vmk vms vma vmm vmrn vmkn vmik vmon vosm vohp vmw vmf vmb vomb vmd vmc vocm voct vocy vmx votx vose vml vmwr voln vohw vmno vond voon vowi votop 4 ) (cw_X11_72 hts rfl rfl ⟨Nat.le_of_ble_eq_true rfl, Nat.le_of_ble_eq_true rfl⟩) hP hD hK [0] rfl rfl rfl rfl bl0 e0 rfl hl.1 rfl (Nat.le_of_ble_eq_true rfl) dX11_readBookLine_63 ⟨Nat.le_of_ble_eq_true rfl, Nat.le_of_ble_eq_true rfl⟩) hP hD hS hA [0] [1, 2, 3, 4] rfl rfl rfl (by decide) (fun r_84 u_86 H locs hp_85 hP hD hS => ?_)
          obtain ⟨vofa_87, vopl_88⟩ := u_86
          have hp_85 : ((r_84 = 0)) := hp_85
          have q_89 := hp_85
          have hP : va_P (dC, dI) vwCl [(vmt, .inl (cy 0, 940, .inl vmtf)), (vmn, .inl (cy 0, 575, .inl vmnf)), (vmm, .inl (cy 1, 17, .inr (.inl vmmf))), (vml, .inl (cy 0, 160, .inl vmlf)), (vo, .inr (12, [.int voth, .ref vmt, .int votp, .int vosz, .int volm, .int voto, .int vofr, .int vokd, .int vonu, .int vosg, .int vofa_87, .int vopl_88, .long vowd, .int votd, .ref vmn, .ref vmr, .ref vmk, .ref vms, .ref vma, .ref vmm, .ref vmrn, .ref vmkn, .ref vmik, .ref vmon, .int vosm, .int vohp, .ref vmw, .ref vmf, .ref vmb, .int vomb, .ref vmd, .ref vmc, .int vocm, .int voct, .int vocy, .ref vmx, .int votx, .int vose, .ref vml, .ref vmwr, .int voln, .int vohw, .ref vmno, .int vond, .int voon, .int vowi, .int votop]))] H := hP
          have hD : va_D A [(vmt, .inl (cy 0, 940, .inl vmtf)), (vmn, .inl (cy 0, 575, .inl vmnf)), (vmm, .inl (cy 1, 17, .inr (.inl vmmf))), (vml, .inl (cy 0, 160, .inl vmlf)), (vo, .inr (12, [.int voth, .ref vmt, .int votp, .int vosz, .int volm, .int voto, .int vofr, .int vokd, .int vonu, .int vosg, .int vofa_87, .int vopl_88, .long vowd, .int votd, .ref vmn, .ref vmr, .ref vmk, .ref vms, .ref vma, .ref vmm, .ref vmrn, .ref vmkn, .ref vmik, .ref vmon, .int vosm, .int vohp, .ref vmw, .ref vmf, .ref vmb, .int vomb, .ref vmd, .ref vmc, .int vocm, .int voct, .int vocy, .ref vmx, .int votx, .int vose, .ref vml, .ref vmwr, .int voln, .int vohw, .ref vmno, .int vond, .int voon, .int vowi, .int votop]))] := hD
          have aq_89 := q_89
          · skip
            refine as_i 0 aq_89 ?_
            rw [hQ9]
            exact re_z (voto, vofr, vokd, vosg, vowd, vonu, vofa_87, vopl_88, votd, vmlf) hx hb hr hlocks (Or.inl rfl) ⟨(show ((0 : Int32) = 0) ∨ ((0 : Int32) = 1 ∧ (voln : Int32).toInt ≤ 39) from (Or.inl rfl)), (show 0 ≤ (voto : Int32).toInt ∧ (voto : Int32).toInt ≤ 940 from ⟨by omega, by omega⟩), (show -1 ≤ (votd : Int32).toInt ∧ (votd : Int32).toInt ≤ 999 from ⟨by omega, by omega⟩), (show LQ vmlf from p_vmlf)⟩ (hP.sub [4, 0, 1, 2, 3] rfl) (hD.sub [4, 0, 1, 2, 3] rfl rfl) hS dX11_readBookLine_66
      · skip
        have c_20 : r_15.toInt = ((-1) : Int32).toInt := i_eq.mp c_20
        refine lv_aload_n hx hb dX11_readBookLine_46 rfl (lv_at hl 1 rfl) ?_
        refine lv_iconst (v := 3) hx hb dX11_readBookLine_47 (by decide) ?_
        have k_3 : (3 : Int32).toInt = 3 := by decide
        refine jn_i (wr := [(vmt, .inl (cy 0, 940, .inl vmtf)), (vmn, .inl (cy 0, 575, .inl vmnf)), (vmm, .inl (cy 1, 17, .inr (.inl vmmf))), (vml, .inl (cy 0, 160, .inl vmlf))]) (rV (As := [.int 3]) (rest := []) (ci := 12) ⟨hx, hb, hml, hown, hts⟩ (m_bad l dC dI cy _ vo voth vmt votp vosz volm voto vofr vokd vonu vosg vofa vopl vowd votd vmn vmr vmk vms vma vmm vmrn vmkn vmik vmon vosm vohp vmw vmf vmb vomb vmd vmc vocm voct vocy vmx votx vose vml vmwr voln vohw vmno vond voon vowi votop 3 ) (cw_X11_72 hts rfl rfl ⟨Nat.le_of_ble_eq_true rfl, Nat.le_of_ble_eq_true rfl⟩) hP hD hK [0] rfl rfl rfl rfl bl0 e0 rfl hl.1 rfl (Nat.le_of_ble_eq_true rfl) dX11_readBookLine_48 ⟨Nat.le_of_ble_eq_true rfl, Nat.le_of_ble_eq_true rfl⟩) hP hD hS hA [0] [1, 2, 3, 4] rfl rfl rfl (by decide) (fun r_90 u_92 H locs hp_91 hP hD hS => ?_)
        obtain ⟨vofa_93, vopl_94⟩ := u_92
        have hp_91 : ((r_90 = 0)) := hp_91
        have q_95 := hp_91
        have hP : va_P (dC, dI) vwCl [(vmt, .inl (cy 0, 940, .inl vmtf)), (vmn, .inl (cy 0, 575, .inl vmnf)), (vmm, .inl (cy 1, 17, .inr (.inl vmmf))), (vml, .inl (cy 0, 160, .inl vmlf)), (vo, .inr (12, [.int voth, .ref vmt, .int votp, .int vosz, .int volm, .int voto, .int vofr, .int vokd, .int vonu, .int vosg, .int vofa_93, .int vopl_94, .long vowd, .int votd, .ref vmn, .ref vmr, .ref vmk, .ref vms, .ref vma, .ref vmm, .ref vmrn, .ref vmkn, .ref vmik, .ref vmon, .int vosm, .int vohp, .ref vmw, .ref vmf, .ref vmb, .int vomb, .ref vmd, .ref vmc, .int vocm, .int voct, .int vocy, .ref vmx, .int votx, .int vose, .ref vml, .ref vmwr, .int voln, .int vohw, .ref vmno, .int vond, .int voon, .int vowi, .int votop]))] H := hP
        have hD : va_D A [(vmt, .inl (cy 0, 940, .inl vmtf)), (vmn, .inl (cy 0, 575, .inl vmnf)), (vmm, .inl (cy 1, 17, .inr (.inl vmmf))), (vml, .inl (cy 0, 160, .inl vmlf)), (vo, .inr (12, [.int voth, .ref vmt, .int votp, .int vosz, .int volm, .int voto, .int vofr, .int vokd, .int vonu, .int vosg, .int vofa_93, .int vopl_94, .long vowd, .int votd, .ref vmn, .ref vmr, .ref vmk, .ref vms, .ref vma, .ref vmm, .ref vmrn, .ref vmkn, .ref vmik, .ref vmon, .int vosm, .int vohp, .ref vmw, .ref vmf, .ref vmb, .int vomb, .ref vmd, .ref vmc, .int vocm, .int voct, .int vocy, .ref vmx, .int votx, .int vose, .ref vml, .ref vmwr, .int voln, .int vohw, .ref vmno, .int vond, .int voon, .int vowi, .int votop]))] := hD
        have aq_95 := q_95
        · skip
          refine as_i 0 aq_95 ?_
          rw [hQ9]
          exact re_z (voto, vofr, vokd, vosg, vowd, vonu, vofa_93, vopl_94, votd, vmlf) hx hb hr hlocks (Or.inl rfl) ⟨(show ((0 : Int32) = 0) ∨ ((0 : Int32) = 1 ∧ (voln : Int32).toInt ≤ 39) from (Or.inl rfl)), (show 0 ≤ (voto : Int32).toInt ∧ (voto : Int32).toInt ≤ 940 from ⟨by omega, by omega⟩), (show -1 ≤ (votd : Int32).toInt ∧ (votd : Int32).toInt ≤ 999 from ⟨by omega, by omega⟩), (show LQ vmlf from p_vmlf)⟩ (hP.sub [4, 0, 1, 2, 3] rfl) (hD.sub [4, 0, 1, 2, 3] rfl rfl) hS dX11_readBookLine_51
  · skip
    refine as_i 1 aq_3 ?_
    refine lv_istore_n (lv' := [(1, .int 1), (0, .ref vo)]) hx hb dX11_readBookLine_6 rfl hl (by decide) rfl (fun ls hl => ?_)
    refine lv_iload_n hx hb dX11_readBookLine_7 rfl (lv_at hl 0 rfl) ?_
    refine lv_if_ne (tgt := 52) hx hb dX11_readBookLine_8 (by decide) (fun _ => ?_) (fun c9 => absurd c9 (by decide))
    refine lv_aload_n hx hb dX11_readBookLine_52 rfl (lv_at hl 1 rfl) ?_
    refine gf_X11_382 hx hb hts hown hK hP 0 rfl rfl dX11_readBookLine_53 ?_
    refine lv_bipush (v := 40) hx hb dX11_readBookLine_56 (by decide) ?_
    have k_40 : (40 : Int32).toInt = 40 := by decide
    refine lv_icmp_ne (tgt := 67) hx hb dX11_readBookLine_58 (by decide) (fun c_96 => ?_) (fun c_96 => ?_)
    · skip
      have c_96 : ¬ (voln.toInt = (40 : Int32).toInt) := fun h9 => c_96 (i_eq.mpr h9)
      refine lv_iconst (v := 4) hx hb dX11_readBookLine_67 (by decide) ?_
      refine lv_aload_n hx hb dX11_readBookLine_68 rfl (lv_at hl 1 rfl) ?_
      refine gf_X11_382 hx hb hts hown hK hP 0 rfl rfl dX11_readBookLine_69 ?_
      refine lv_imul hx hb dX11_readBookLine_72 ?_
      refine lv_topi (fun z_97 ez_97 => ?_)
      have k_4 : (4 : Int32).toInt = 4 := by decide
      have bz_97 : z_97.toInt = voln.toInt * 4 := i_cmul k_4 ez_97 (by omega) (by omega)
      refine lv_istore_n (lv' := [(2, .int z_97), (1, .int 1), (0, .ref vo)]) hx hb dX11_readBookLine_73 rfl hl (by decide) rfl (fun ls hl => ?_)
      refine lv_aload_n hx hb dX11_readBookLine_74 rfl (lv_at hl 2 rfl) ?_
      refine gf_X11_151 hx hb hts hown hK hP 0 rfl rfl dX11_readBookLine_75 ?_
      refine lv_iload_n hx hb dX11_readBookLine_78 rfl (lv_at hl 0 rfl) ?_
      refine lv_bipush (v := 6) hx hb dX11_readBookLine_79 (by decide) ?_
      have hin_98 : vp_in z_97 160 := vp_in_iff.mpr ⟨by omega, by omega⟩
      refine va_iast hx hb hK hP hD hS 4 0 rfl rfl hin_98 dX11_readBookLine_81 (fun H locs hP hD hS => ?_)
      obtain ⟨f_99, ef_99⟩ : ∃ z : Nat → Int32, z = upd vmlf (Int32.toNatClampNeg z_97) 6 := ⟨_, rfl⟩
      have hP : va_P (dC, dI) vwCl [(vo, .inr (12, [.int voth, .ref vmt, .int votp, .int vosz, .int volm, .int voto, .int vofr, .int vokd, .int vonu, .int vosg, .int vofa, .int vopl, .long vowd, .int votd, .ref vmn, .ref vmr, .ref vmk, .ref vms, .ref vma, .ref vmm, .ref vmrn, .ref vmkn, .ref vmik, .ref vmon, .int vosm, .int vohp, .ref vmw, .ref vmf, .ref vmb, .int vomb, .ref vmd, .ref vmc, .int vocm, .int voct, .int vocy, .ref vmx, .int votx, .int vose, .ref vml, .ref vmwr, .int voln, .int vohw, .ref vmno, .int vond, .int voon, .int vowi, .int votop])), (vmt, .inl (cy 0, 940, .inl vmtf)), (vmn, .inl (cy 0, 575, .inl vmnf)), (vmm, .inl (cy 1, 17, .inr (.inl vmmf))), (vml, .inl (cy 0, 160, .inl f_99))] H := by rw [ef_99]; exact hP
      have hD : va_D A [(vo, .inr (12, [.int voth, .ref vmt, .int votp, .int vosz, .int volm, .int voto, .int vofr, .int vokd, .int vonu, .int vosg, .int vofa, .int vopl, .long vowd, .int votd, .ref vmn, .ref vmr, .ref vmk, .ref vms, .ref vma, .ref vmm, .ref vmrn, .ref vmkn, .ref vmik, .ref vmon, .int vosm, .int vohp, .ref vmw, .ref vmf, .ref vmb, .int vomb, .ref vmd, .ref vmc, .int vocm, .int voct, .int vocy, .ref vmx, .int votx, .int vose, .ref vml, .ref vmwr, .int voln, .int vohw, .ref vmno, .int vond, .int voon, .int vowi, .int votop])), (vmt, .inl (cy 0, 940, .inl vmtf)), (vmn, .inl (cy 0, 575, .inl vmnf)), (vmm, .inl (cy 1, 17, .inr (.inl vmmf))), (vml, .inl (cy 0, 160, .inl f_99))] := by rw [ef_99]; exact hD
      have k_6 : (6 : Int32).toInt = 6 := by decide
      have p_f_99 : LQ f_99 := by rw [ef_99]; exact p_vmlf.put (n := voln) (d := 0) ⟨by omega, by omega⟩ (by omega) ⟨by decide, by decide⟩ ⟨by omega, by omega⟩ (fun _ => Or.inl (by omega)) (fun h9 => absurd h9 (by decide)) (fun h9 => absurd h9 (by decide))
      refine lv_aload_n hx hb dX11_readBookLine_82 rfl (lv_at hl 2 rfl) ?_
      refine gf_X11_151 hx hb hts hown hK hP 0 rfl rfl dX11_readBookLine_83 ?_
      refine lv_iload_n hx hb dX11_readBookLine_86 rfl (lv_at hl 0 rfl) ?_
      refine lv_iconst (v := 1) hx hb dX11_readBookLine_87 (by decide) ?_
      refine lv_iadd hx hb dX11_readBookLine_88 ?_
      refine lv_topi (fun z_100 ez_100 => ?_)
      have k_1 : (1 : Int32).toInt = 1 := by decide
      have bz_100 : z_100.toInt = z_97.toInt + (1 : Int32).toInt := i_add ez_100 (by omega) (by omega)
      refine lv_iload_n hx hb dX11_readBookLine_89 rfl (lv_at hl 1 rfl) ?_
      refine lv_if_eq (tgt := 97) hx hb dX11_readBookLine_90 (by decide) (fun c9 => absurd c9 (by decide)) (fun _ => ?_)
      refine lv_iconst (v := 0) hx hb dX11_readBookLine_93 (by decide) ?_
      refine lv_goto (tgt := 115) hx hb dX11_readBookLine_94 (by decide) ?_
      have hin_101 : vp_in z_100 160 := vp_in_iff.mpr ⟨by omega, by omega⟩
      refine va_iast hx hb hK hP hD hS 4 0 rfl rfl hin_101 dX11_readBookLine_115 (fun H locs hP hD hS => ?_)
      obtain ⟨f_102, ef_102⟩ : ∃ z : Nat → Int32, z = upd f_99 (Int32.toNatClampNeg z_100) 0 := ⟨_, rfl⟩
      have hP : va_P (dC, dI) vwCl [(vo, .inr (12, [.int voth, .ref vmt, .int votp, .int vosz, .int volm, .int voto, .int vofr, .int vokd, .int vonu, .int vosg, .int vofa, .int vopl, .long vowd, .int votd, .ref vmn, .ref vmr, .ref vmk, .ref vms, .ref vma, .ref vmm, .ref vmrn, .ref vmkn, .ref vmik, .ref vmon, .int vosm, .int vohp, .ref vmw, .ref vmf, .ref vmb, .int vomb, .ref vmd, .ref vmc, .int vocm, .int voct, .int vocy, .ref vmx, .int votx, .int vose, .ref vml, .ref vmwr, .int voln, .int vohw, .ref vmno, .int vond, .int voon, .int vowi, .int votop])), (vmt, .inl (cy 0, 940, .inl vmtf)), (vmn, .inl (cy 0, 575, .inl vmnf)), (vmm, .inl (cy 1, 17, .inr (.inl vmmf))), (vml, .inl (cy 0, 160, .inl f_102))] H := by rw [ef_102]; exact hP
      have hD : va_D A [(vo, .inr (12, [.int voth, .ref vmt, .int votp, .int vosz, .int volm, .int voto, .int vofr, .int vokd, .int vonu, .int vosg, .int vofa, .int vopl, .long vowd, .int votd, .ref vmn, .ref vmr, .ref vmk, .ref vms, .ref vma, .ref vmm, .ref vmrn, .ref vmkn, .ref vmik, .ref vmon, .int vosm, .int vohp, .ref vmw, .ref vmf, .ref vmb, .int vomb, .ref vmd, .ref vmc, .int vocm, .int voct, .int vocy, .ref vmx, .int votx, .int vose, .ref vml, .ref vmwr, .int voln, .int vohw, .ref vmno, .int vond, .int voon, .int vowi, .int votop])), (vmt, .inl (cy 0, 940, .inl vmtf)), (vmn, .inl (cy 0, 575, .inl vmnf)), (vmm, .inl (cy 1, 17, .inr (.inl vmmf))), (vml, .inl (cy 0, 160, .inl f_102))] := by rw [ef_102]; exact hD
      have k_0 : (0 : Int32).toInt = 0 := by decide
      have p_f_102 : LQ f_102 := by rw [ef_102]; exact p_f_99.put (n := voln) (d := 1) ⟨by omega, by omega⟩ (by omega) ⟨by decide, by decide⟩ ⟨by omega, by omega⟩ (fun h9 => absurd h9 (by decide)) (fun _ => Or.inr (by omega)) (fun _ => by omega)
      refine lv_aload_n hx hb dX11_readBookLine_116 rfl (lv_at hl 2 rfl) ?_
      refine gf_X11_151 hx hb hts hown hK hP 0 rfl rfl dX11_readBookLine_117 ?_
      refine lv_iload_n hx hb dX11_readBookLine_120 rfl (lv_at hl 0 rfl) ?_
      refine lv_iconst (v := 2) hx hb dX11_readBookLine_121 (by decide) ?_
      refine lv_iadd hx hb dX11_readBookLine_122 ?_
      refine lv_topi (fun z_103 ez_103 => ?_)
      have k_2 : (2 : Int32).toInt = 2 := by decide
      have bz_103 : z_103.toInt = z_97.toInt + (2 : Int32).toInt := i_add ez_103 (by omega) (by omega)
      refine lv_iconst (v := 0) hx hb dX11_readBookLine_123 (by decide) ?_
      have hin_104 : vp_in z_103 160 := vp_in_iff.mpr ⟨by omega, by omega⟩
      refine va_iast hx hb hK hP hD hS 4 0 rfl rfl hin_104 dX11_readBookLine_124 (fun H locs hP hD hS => ?_)
      obtain ⟨f_105, ef_105⟩ : ∃ z : Nat → Int32, z = upd f_102 (Int32.toNatClampNeg z_103) 0 := ⟨_, rfl⟩
      have hP : va_P (dC, dI) vwCl [(vo, .inr (12, [.int voth, .ref vmt, .int votp, .int vosz, .int volm, .int voto, .int vofr, .int vokd, .int vonu, .int vosg, .int vofa, .int vopl, .long vowd, .int votd, .ref vmn, .ref vmr, .ref vmk, .ref vms, .ref vma, .ref vmm, .ref vmrn, .ref vmkn, .ref vmik, .ref vmon, .int vosm, .int vohp, .ref vmw, .ref vmf, .ref vmb, .int vomb, .ref vmd, .ref vmc, .int vocm, .int voct, .int vocy, .ref vmx, .int votx, .int vose, .ref vml, .ref vmwr, .int voln, .int vohw, .ref vmno, .int vond, .int voon, .int vowi, .int votop])), (vmt, .inl (cy 0, 940, .inl vmtf)), (vmn, .inl (cy 0, 575, .inl vmnf)), (vmm, .inl (cy 1, 17, .inr (.inl vmmf))), (vml, .inl (cy 0, 160, .inl f_105))] H := by rw [ef_105]; exact hP
      have hD : va_D A [(vo, .inr (12, [.int voth, .ref vmt, .int votp, .int vosz, .int volm, .int voto, .int vofr, .int vokd, .int vonu, .int vosg, .int vofa, .int vopl, .long vowd, .int votd, .ref vmn, .ref vmr, .ref vmk, .ref vms, .ref vma, .ref vmm, .ref vmrn, .ref vmkn, .ref vmik, .ref vmon, .int vosm, .int vohp, .ref vmw, .ref vmf, .ref vmb, .int vomb, .ref vmd, .ref vmc, .int vocm, .int voct, .int vocy, .ref vmx, .int votx, .int vose, .ref vml, .ref vmwr, .int voln, .int vohw, .ref vmno, .int vond, .int voon, .int vowi, .int votop])), (vmt, .inl (cy 0, 940, .inl vmtf)), (vmn, .inl (cy 0, 575, .inl vmnf)), (vmm, .inl (cy 1, 17, .inr (.inl vmmf))), (vml, .inl (cy 0, 160, .inl f_105))] := by rw [ef_105]; exact hD
      have p_f_105 : LQ f_105 := by rw [ef_105]; exact p_f_102.put (n := voln) (d := 2) ⟨by omega, by omega⟩ (by omega) ⟨by decide, by decide⟩ ⟨by omega, by omega⟩ (fun h9 => absurd h9 (by decide)) (fun h9 => absurd h9 (by decide)) (fun h9 => absurd h9 (by decide))
      refine lv_aload_n hx hb dX11_readBookLine_125 rfl (lv_at hl 2 rfl) ?_
      refine gf_X11_151 hx hb hts hown hK hP 0 rfl rfl dX11_readBookLine_126 ?_
      refine lv_iload_n hx hb dX11_readBookLine_129 rfl (lv_at hl 0 rfl) ?_
      refine lv_iconst (v := 3) hx hb dX11_readBookLine_130 (by decide) ?_
      refine lv_iadd hx hb dX11_readBookLine_131 ?_
      refine lv_topi (fun z_106 ez_106 => ?_)
      have k_3 : (3 : Int32).toInt = 3 := by decide
      have bz_106 : z_106.toInt = z_97.toInt + (3 : Int32).toInt := i_add ez_106 (by omega) (by omega)
      refine lv_iconst (v := 0) hx hb dX11_readBookLine_132 (by decide) ?_
      have hin_107 : vp_in z_106 160 := vp_in_iff.mpr ⟨by omega, by omega⟩
      refine va_iast hx hb hK hP hD hS 4 0 rfl rfl hin_107 dX11_readBookLine_133 (fun H locs hP hD hS => ?_)
      obtain ⟨f_108, ef_108⟩ : ∃ z : Nat → Int32, z = upd f_105 (Int32.toNatClampNeg z_106) 0 := ⟨_, rfl⟩
      have hP : va_P (dC, dI) vwCl [(vo, .inr (12, [.int voth, .ref vmt, .int votp, .int vosz, .int volm, .int voto, .int vofr, .int vokd, .int vonu, .int vosg, .int vofa, .int vopl, .long vowd, .int votd, .ref vmn, .ref vmr, .ref vmk, .ref vms, .ref vma, .ref vmm, .ref vmrn, .ref vmkn, .ref vmik, .ref vmon, .int vosm, .int vohp, .ref vmw, .ref vmf, .ref vmb, .int vomb, .ref vmd, .ref vmc, .int vocm, .int voct, .int vocy, .ref vmx, .int votx, .int vose, .ref vml, .ref vmwr, .int voln, .int vohw, .ref vmno, .int vond, .int voon, .int vowi, .int votop])), (vmt, .inl (cy 0, 940, .inl vmtf)), (vmn, .inl (cy 0, 575, .inl vmnf)), (vmm, .inl (cy 1, 17, .inr (.inl vmmf))), (vml, .inl (cy 0, 160, .inl f_108))] H := by rw [ef_108]; exact hP
      have hD : va_D A [(vo, .inr (12, [.int voth, .ref vmt, .int votp, .int vosz, .int volm, .int voto, .int vofr, .int vokd, .int vonu, .int vosg, .int vofa, .int vopl, .long vowd, .int votd, .ref vmn, .ref vmr, .ref vmk, .ref vms, .ref vma, .ref vmm, .ref vmrn, .ref vmkn, .ref vmik, .ref vmon, .int vosm, .int vohp, .ref vmw, .ref vmf, .ref vmb, .int vomb, .ref vmd, .ref vmc, .int vocm, .int voct, .int vocy, .ref vmx, .int votx, .int vose, .ref vml, .ref vmwr, .int voln, .int vohw, .ref vmno, .int vond, .int voon, .int vowi, .int votop])), (vmt, .inl (cy 0, 940, .inl vmtf)), (vmn, .inl (cy 0, 575, .inl vmnf)), (vmm, .inl (cy 1, 17, .inr (.inl vmmf))), (vml, .inl (cy 0, 160, .inl f_108))] := by rw [ef_108]; exact hD
      have p_f_108 : LQ f_108 := by rw [ef_108]; exact p_f_105.put (n := voln) (d := 3) ⟨by omega, by omega⟩ (by omega) ⟨by decide, by decide⟩ ⟨by omega, by omega⟩ (fun h9 => absurd h9 (by decide)) (fun h9 => absurd h9 (by decide)) (fun h9 => absurd h9 (by decide))
      refine lv_aload_n hx hb dX11_readBookLine_134 rfl (lv_at hl 2 rfl) ?_
      refine jn_v (wr := [(vmn, .inl (cy 0, 575, .inl vmnf)), (vmm, .inl (cy 1, 17, .inr (.inl vmmf))), (vml, .inl (cy 0, 160, .inl f_108))]) (rV (As := []) (rest := []) (ci := 12) ⟨hx, hb, hml, hown, hts⟩ (m_go l dC dI cy _ vo voth vmt votp vosz volm voto vofr vokd vonu vosg vofa vopl vowd votd vmn vmr vmk vms vma vmm vmrn vmkn vmik vmon vosm vohp vmw vmf vmb vomb vmd vmc vocm voct vocy vmx votx vose vml vmwr voln vohw vmno vond voon vowi votop vmtf r_vosz r_voto p_vmtf) (cw_X11_82 hts rfl rfl ⟨Nat.le_of_ble_eq_true rfl, Nat.le_of_ble_eq_true rfl⟩) hP hD hK [0, 1] rfl rfl rfl rfl bl0 e0 rfl hl.1 rfl (Nat.le_of_ble_eq_true rfl) dX11_readBookLine_135 ⟨Nat.le_of_ble_eq_true rfl, Nat.le_of_ble_eq_true rfl⟩) hP hD hS hA [0, 1] [2, 3, 4] rfl rfl rfl (by decide) (fun u_111 H locs hp_110 hP hD hS => ?_)
      obtain ⟨voto_112, vofr_113, vokd_114, vosg_115, vowd_116, vonu_117⟩ := u_111
      have hp_110 : (0 ≤ (voto_112 : Int32).toInt ∧ (voto_112 : Int32).toInt ≤ 940) ∧ ((voto : Int32).toInt ≤ (voto_112 : Int32).toInt) ∧ (((vokd_114 : Int32).toInt = 0 ∨ (vokd_114 : Int32).toInt = 1 ∨ (voto : Int32).toInt + 1 ≤ (voto_112 : Int32).toInt)) := hp_110
      obtain ⟨q_118, q_119, q_120⟩ := hp_110
      have hP : va_P (dC, dI) vwCl [(vmn, .inl (cy 0, 575, .inl vmnf)), (vmm, .inl (cy 1, 17, .inr (.inl vmmf))), (vml, .inl (cy 0, 160, .inl f_108)), (vo, .inr (12, [.int voth, .ref vmt, .int votp, .int vosz, .int volm, .int voto_112, .int vofr_113, .int vokd_114, .int vonu_117, .int vosg_115, .int vofa, .int vopl, .long vowd_116, .int votd, .ref vmn, .ref vmr, .ref vmk, .ref vms, .ref vma, .ref vmm, .ref vmrn, .ref vmkn, .ref vmik, .ref vmon, .int vosm, .int vohp, .ref vmw, .ref vmf, .ref vmb, .int vomb, .ref vmd, .ref vmc, .int vocm, .int voct, .int vocy, .ref vmx, .int votx, .int vose, .ref vml, .ref vmwr, .int voln, .int vohw, .ref vmno, .int vond, .int voon, .int vowi, .int votop])), (vmt, .inl (cy 0, 940, .inl vmtf))] H := hP
      have hD : va_D A [(vmn, .inl (cy 0, 575, .inl vmnf)), (vmm, .inl (cy 1, 17, .inr (.inl vmmf))), (vml, .inl (cy 0, 160, .inl f_108)), (vo, .inr (12, [.int voth, .ref vmt, .int votp, .int vosz, .int volm, .int voto_112, .int vofr_113, .int vokd_114, .int vonu_117, .int vosg_115, .int vofa, .int vopl, .long vowd_116, .int votd, .ref vmn, .ref vmr, .ref vmk, .ref vms, .ref vma, .ref vmm, .ref vmrn, .ref vmkn, .ref vmik, .ref vmon, .int vosm, .int vohp, .ref vmw, .ref vmf, .ref vmb, .int vomb, .ref vmd, .ref vmc, .int vocm, .int voct, .int vocy, .ref vmx, .int votx, .int vose, .ref vml, .ref vmwr, .int voln, .int vohw, .ref vmno, .int vond, .int voon, .int vowi, .int votop])), (vmt, .inl (cy 0, 940, .inl vmtf))] := hD
      refine lv_iload_n hx hb dX11_readBookLine_138 rfl (lv_at hl 1 rfl) ?_
      refine lv_if_eq (tgt := 162) hx hb dX11_readBookLine_139 (by decide) (fun c9 => absurd c9 (by decide)) (fun _ => ?_)
      refine lv_aload_n hx hb dX11_readBookLine_142 rfl (lv_at hl 2 rfl) ?_
      refine lv_iload_n hx hb dX11_readBookLine_143 rfl (lv_at hl 0 rfl) ?_
      refine lv_iconst (v := 1) hx hb dX11_readBookLine_144 (by decide) ?_
      refine lv_iadd hx hb dX11_readBookLine_145 ?_
      refine lv_topi (fun z_121 ez_121 => ?_)
      have bz_121 : z_121.toInt = z_97.toInt + (1 : Int32).toInt := i_add ez_121 (by omega) (by omega)
      refine lv_aload_n hx hb dX11_readBookLine_146 rfl (lv_at hl 2 rfl) ?_
      refine lv_iconst (v := 1) hx hb dX11_readBookLine_147 (by decide) ?_
      refine lv_bipush (v := 30) hx hb dX11_readBookLine_148 (by decide) ?_
      have k_30 : (30 : Int32).toInt = 30 := by decide
      refine jn_i (wr := [(vmn, .inl (cy 0, 575, .inl vmnf)), (vmm, .inl (cy 1, 17, .inr (.inl vmmf))), (vml, .inl (cy 0, 160, .inl f_108))]) (rV (As := [.int 1, .int 30]) (rest := [.int z_121, .ref vo]) (ci := 12) ⟨hx, hb, hml, hown, hts⟩ (m_readNumber l dC dI cy _ vo voth vmt votp vosz volm voto_112 vofr_113 vokd_114 vonu_117 vosg_115 vofa vopl vowd_116 votd vmn vmr vmk vms vma vmm vmrn vmkn vmik vmon vosm vohp vmw vmf vmb vomb vmd vmc vocm voct vocy vmx votx vose vml vmwr voln vohw vmno vond voon vowi votop vmtf 1 30 r_vosz ⟨by omega, by omega⟩ r_votd ⟨by omega, by omega⟩ ⟨by omega, by omega⟩ p_vmtf) (cw_X11_178 hts rfl rfl ⟨Nat.le_of_ble_eq_true rfl, Nat.le_of_ble_eq_true rfl⟩) hP hD hK [3, 4] rfl rfl rfl rfl bl0 e0 rfl hl.1 rfl (Nat.le_of_ble_eq_true rfl) dX11_readBookLine_150 ⟨Nat.le_of_ble_eq_true rfl, Nat.le_of_ble_eq_true rfl⟩) hP hD hS hA [3, 4] [0, 1, 2] rfl rfl rfl (by decide) (fun r_122 u_124 H locs hp_123 hP hD hS => ?_)
      obtain ⟨voto_125, vofr_126, vokd_127, vosg_128, vowd_129, vonu_130, vofa_131, vopl_132, votd_133⟩ := u_124
      have hp_123 : ((r_122 = 0 ∧ (votd_133 : Int32).toInt = (votd : Int32).toInt) ∨ (r_122 = 1 ∧ (1 : Int32).toInt ≤ (votd_133 : Int32).toInt ∧ (votd_133 : Int32).toInt ≤ (30 : Int32).toInt ∧ ((vokd_127 : Int32).toInt = 0 ∨ (vokd_127 : Int32).toInt = 1 ∨ (voto_112 : Int32).toInt + 1 ≤ (voto_125 : Int32).toInt))) ∧ (0 ≤ (voto_125 : Int32).toInt ∧ (voto_125 : Int32).toInt ≤ 940) ∧ (-1 ≤ (votd_133 : Int32).toInt ∧ (votd_133 : Int32).toInt ≤ 999) ∧ ((voto_112 : Int32).toInt ≤ (voto_125 : Int32).toInt) := hp_123
      obtain ⟨q_134, q_135, q_136, q_137⟩ := hp_123
      have hP : va_P (dC, dI) vwCl [(vmn, .inl (cy 0, 575, .inl vmnf)), (vmm, .inl (cy 1, 17, .inr (.inl vmmf))), (vml, .inl (cy 0, 160, .inl f_108)), (vo, .inr (12, [.int voth, .ref vmt, .int votp, .int vosz, .int volm, .int voto_125, .int vofr_126, .int vokd_127, .int vonu_130, .int vosg_128, .int vofa_131, .int vopl_132, .long vowd_129, .int votd_133, .ref vmn, .ref vmr, .ref vmk, .ref vms, .ref vma, .ref vmm, .ref vmrn, .ref vmkn, .ref vmik, .ref vmon, .int vosm, .int vohp, .ref vmw, .ref vmf, .ref vmb, .int vomb, .ref vmd, .ref vmc, .int vocm, .int voct, .int vocy, .ref vmx, .int votx, .int vose, .ref vml, .ref vmwr, .int voln, .int vohw, .ref vmno, .int vond, .int voon, .int vowi, .int votop])), (vmt, .inl (cy 0, 940, .inl vmtf))] H := hP
      have hD : va_D A [(vmn, .inl (cy 0, 575, .inl vmnf)), (vmm, .inl (cy 1, 17, .inr (.inl vmmf))), (vml, .inl (cy 0, 160, .inl f_108)), (vo, .inr (12, [.int voth, .ref vmt, .int votp, .int vosz, .int volm, .int voto_125, .int vofr_126, .int vokd_127, .int vonu_130, .int vosg_128, .int vofa_131, .int vopl_132, .long vowd_129, .int votd_133, .ref vmn, .ref vmr, .ref vmk, .ref vms, .ref vma, .ref vmm, .ref vmrn, .ref vmkn, .ref vmik, .ref vmon, .int vosm, .int vohp, .ref vmw, .ref vmf, .ref vmb, .int vomb, .ref vmd, .ref vmc, .int vocm, .int voct, .int vocy, .ref vmx, .int votx, .int vose, .ref vml, .ref vmwr, .int voln, .int vohw, .ref vmno, .int vond, .int voon, .int vowi, .int votop])), (vmt, .inl (cy 0, 940, .inl vmtf))] := hD
      rcases q_134 with ⟨aq_134, f0q_134⟩ | ⟨aq_134, f0q_134, f1q_134, f2q_134⟩
      · skip
        refine as_i 0 aq_134 ?_
        refine jr_i (rVr (As := [.int z_121, .int 0]) (rest := []) (ci := 12) ⟨hx, hb, hml, hown, hts⟩ (m_keep_0 l dC dI cy vo voth vmt votp vosz volm voto_125 vofr_126 vokd_127 vonu_130 vosg_128 vofa_131 vopl_132 vowd_129 votd_133 vmn vmr vmk vms vma vmm vmrn vmkn vmik vmon vosm vohp vmw vmf vmb vomb vmd vmc vocm voct vocy vmx votx vose vml vmwr voln vohw vmno vond voon vowi votop z_121 ) (cw_X11_376 hts rfl rfl ⟨Nat.le_of_ble_eq_true rfl, Nat.le_of_ble_eq_true rfl⟩) hP hK [3] rfl rfl rfl rfl hl.1 rfl (Nat.le_of_ble_eq_true rfl) dX11_readBookLine_153 ⟨Nat.le_of_ble_eq_true rfl, Nat.le_of_ble_eq_true rfl⟩) hP hS (fun r_138 H locs hp_139 hP hS => ?_)
        have hp_139 : ((r_138 = 0)) := hp_139
        have q_140 := hp_139
        have aq_140 := q_140
        · skip
          refine as_i 0 aq_140 ?_
          refine lv_if_eq (tgt := 181) hx hb dX11_readBookLine_156 (by decide) (fun _ => ?_) (fun c9 => absurd (by decide) c9)
          refine lv_iconst (v := 0) hx hb dX11_readBookLine_181 (by decide) ?_
          rw [hQ9]
          exact re_z (voto_125, vofr_126, vokd_127, vosg_128, vowd_129, vonu_130, vofa_131, vopl_132, votd_133, f_108) hx hb hr hlocks (Or.inl rfl) ⟨(show ((0 : Int32) = 0) ∨ ((0 : Int32) = 1 ∧ (voln : Int32).toInt ≤ 39) from (Or.inl rfl)), (show 0 ≤ (voto_125 : Int32).toInt ∧ (voto_125 : Int32).toInt ≤ 940 from ⟨by omega, by omega⟩), (show -1 ≤ (votd_133 : Int32).toInt ∧ (votd_133 : Int32).toInt ≤ 999 from ⟨by omega, by omega⟩), (show LQ f_108 from p_f_108)⟩ (hP.sub [3, 4, 0, 1, 2] rfl) (hD.sub [3, 4, 0, 1, 2] rfl rfl) hS dX11_readBookLine_182
      · skip
        refine as_i 1 aq_134 ?_
        refine jn_i (wr := [(vmn, .inl (cy 0, 575, .inl vmnf)), (vmm, .inl (cy 1, 17, .inr (.inl vmmf))), (vmt, .inl (cy 0, 940, .inl vmtf))]) (rV (As := [.int z_121, .int 1]) (rest := []) (ci := 12) ⟨hx, hb, hml, hown, hts⟩ (m_keep_1 l dC dI cy _ vo voth vmt votp vosz volm voto_125 vofr_126 vokd_127 vonu_130 vosg_128 vofa_131 vopl_132 vowd_129 votd_133 vmn vmr vmk vms vma vmm vmrn vmkn vmik vmon vosm vohp vmw vmf vmb vomb vmd vmc vocm voct vocy vmx votx vose vml vmwr voln vohw vmno vond voon vowi votop f_108 z_121 ⟨by omega, by omega⟩ ⟨by omega, by omega⟩ p_f_108 (fun z hz hz2 => p_f_108.put (n := voln) (d := 1) ⟨by omega, by omega⟩ (by omega) ⟨by decide, by decide⟩ hz (fun h9 => absurd h9 (by decide)) (fun _ => Or.inl (by have h5 := lk_un (f := f_105) (n := voln) (x := z_106) (v := 0) (d := 0) (d' := 3) (by omega) (by decide) (by decide) (by omega); have h4 := lk_un (f := f_102) (n := voln) (x := z_103) (v := 0) (d := 0) (d' := 2) (by omega) (by decide) (by decide) (by omega); have h3 := lk_un (f := f_99) (n := voln) (x := z_100) (v := 0) (d := 0) (d' := 1) (by omega) (by decide) (by decide) (by omega); have h2 := lk_at (f := vmlf) (n := voln) (x := z_97) (v := 6) (d := 0) (by omega) (by omega); rw [← ef_108] at h5; rw [← ef_105] at h4; rw [← ef_102] at h3; rw [← ef_99] at h2; rw [Nat.add_zero] at h5 h4 h3 h2; rw [h5, h4, h3, h2]; decide)) (fun _ => by omega))) (cw_X11_376 hts rfl rfl ⟨Nat.le_of_ble_eq_true rfl, Nat.le_of_ble_eq_true rfl⟩) hP hD hK [3, 2] rfl rfl rfl rfl bl0 e0 rfl hl.1 rfl (Nat.le_of_ble_eq_true rfl) dX11_readBookLine_153 ⟨Nat.le_of_ble_eq_true rfl, Nat.le_of_ble_eq_true rfl⟩) hP hD hS hA [3, 2] [0, 1, 4] rfl rfl rfl (by decide) (fun r_141 u_143 H locs hp_142 hP hD hS => ?_)
        obtain ⟨vmlf_144, rfl⟩ : ∃ z, z = u_143 := ⟨_, rfl⟩
        have hp_142 : ((r_141 = 1)) ∧ (LQ vmlf_144) := hp_142
        obtain ⟨q_145, q_146⟩ := hp_142
        have hP : va_P (dC, dI) vwCl [(vmn, .inl (cy 0, 575, .inl vmnf)), (vmm, .inl (cy 1, 17, .inr (.inl vmmf))), (vmt, .inl (cy 0, 940, .inl vmtf)), (vo, .inr (12, [.int voth, .ref vmt, .int votp, .int vosz, .int volm, .int voto_125, .int vofr_126, .int vokd_127, .int vonu_130, .int vosg_128, .int vofa_131, .int vopl_132, .long vowd_129, .int votd_133, .ref vmn, .ref vmr, .ref vmk, .ref vms, .ref vma, .ref vmm, .ref vmrn, .ref vmkn, .ref vmik, .ref vmon, .int vosm, .int vohp, .ref vmw, .ref vmf, .ref vmb, .int vomb, .ref vmd, .ref vmc, .int vocm, .int voct, .int vocy, .ref vmx, .int votx, .int vose, .ref vml, .ref vmwr, .int voln, .int vohw, .ref vmno, .int vond, .int voon, .int vowi, .int votop])), (vml, .inl (cy 0, 160, .inl vmlf_144))] H := hP
        have hD : va_D A [(vmn, .inl (cy 0, 575, .inl vmnf)), (vmm, .inl (cy 1, 17, .inr (.inl vmmf))), (vmt, .inl (cy 0, 940, .inl vmtf)), (vo, .inr (12, [.int voth, .ref vmt, .int votp, .int vosz, .int volm, .int voto_125, .int vofr_126, .int vokd_127, .int vonu_130, .int vosg_128, .int vofa_131, .int vopl_132, .long vowd_129, .int votd_133, .ref vmn, .ref vmr, .ref vmk, .ref vms, .ref vma, .ref vmm, .ref vmrn, .ref vmkn, .ref vmik, .ref vmon, .int vosm, .int vohp, .ref vmw, .ref vmf, .ref vmb, .int vomb, .ref vmd, .ref vmc, .int vocm, .int voct, .int vocy, .ref vmx, .int votx, .int vose, .ref vml, .ref vmwr, .int voln, .int vohw, .ref vmno, .int vond, .int voon, .int vowi, .int votop])), (vml, .inl (cy 0, 160, .inl vmlf_144))] := hD
        have aq_145 := q_145
        · skip
          refine as_i 1 aq_145 ?_
          refine lv_if_eq (tgt := 181) hx hb dX11_readBookLine_156 (by decide) (fun c9 => absurd c9 (by decide)) (fun _ => ?_)
          refine lv_goto (tgt := 170) hx hb dX11_readBookLine_159 (by decide) ?_
          refine lv_aload_n hx hb dX11_readBookLine_170 rfl (lv_at hl 2 rfl) ?_
          refine jn_i (wr := [(vmn, .inl (cy 0, 575, .inl vmnf)), (vmm, .inl (cy 1, 17, .inr (.inl vmmf))), (vml, .inl (cy 0, 160, .inl vmlf_144))]) (rV (As := []) (rest := []) (ci := 12) ⟨hx, hb, hml, hown, hts⟩ (m_readEnd l dC dI cy _ vo voth vmt votp vosz volm voto_125 vofr_126 vokd_127 vonu_130 vosg_128 vofa_131 vopl_132 vowd_129 votd_133 vmn vmr vmk vms vma vmm vmrn vmkn vmik vmon vosm vohp vmw vmf vmb vomb vmd vmc vocm voct vocy vmx votx vose vml vmwr voln vohw vmno vond voon vowi votop vmtf r_vosz ⟨by omega, by omega⟩ p_vmtf) (cw_X11_222 hts rfl rfl ⟨Nat.le_of_ble_eq_true rfl, Nat.le_of_ble_eq_true rfl⟩) hP hD hK [3, 2] rfl rfl rfl rfl bl0 e0 rfl hl.1 rfl (Nat.le_of_ble_eq_true rfl) dX11_readBookLine_171 ⟨Nat.le_of_ble_eq_true rfl, Nat.le_of_ble_eq_true rfl⟩) hP hD hS hA [3, 2] [0, 1, 4] rfl rfl rfl (by decide) (fun r_147 u_149 H locs hp_148 hP hD hS => ?_)
          obtain ⟨voto_150, vofr_151, vokd_152, vosg_153, vowd_154, vonu_155, vofa_156, vopl_157⟩ := u_149
          have hp_148 : ((r_147 = 0) ∨ (r_147 = 1 ∧ (vokd_127 : Int32).toInt = 4)) ∧ (0 ≤ (voto_150 : Int32).toInt ∧ (voto_150 : Int32).toInt ≤ 940) ∧ ((voto_125 : Int32).toInt ≤ (voto_150 : Int32).toInt) := hp_148
          obtain ⟨q_158, q_159, q_160⟩ := hp_148
          have hP : va_P (dC, dI) vwCl [(vmn, .inl (cy 0, 575, .inl vmnf)), (vmm, .inl (cy 1, 17, .inr (.inl vmmf))), (vml, .inl (cy 0, 160, .inl vmlf_144)), (vo, .inr (12, [.int voth, .ref vmt, .int votp, .int vosz, .int volm, .int voto_150, .int vofr_151, .int vokd_152, .int vonu_155, .int vosg_153, .int vofa_156, .int vopl_157, .long vowd_154, .int votd_133, .ref vmn, .ref vmr, .ref vmk, .ref vms, .ref vma, .ref vmm, .ref vmrn, .ref vmkn, .ref vmik, .ref vmon, .int vosm, .int vohp, .ref vmw, .ref vmf, .ref vmb, .int vomb, .ref vmd, .ref vmc, .int vocm, .int voct, .int vocy, .ref vmx, .int votx, .int vose, .ref vml, .ref vmwr, .int voln, .int vohw, .ref vmno, .int vond, .int voon, .int vowi, .int votop])), (vmt, .inl (cy 0, 940, .inl vmtf))] H := hP
          have hD : va_D A [(vmn, .inl (cy 0, 575, .inl vmnf)), (vmm, .inl (cy 1, 17, .inr (.inl vmmf))), (vml, .inl (cy 0, 160, .inl vmlf_144)), (vo, .inr (12, [.int voth, .ref vmt, .int votp, .int vosz, .int volm, .int voto_150, .int vofr_151, .int vokd_152, .int vonu_155, .int vosg_153, .int vofa_156, .int vopl_157, .long vowd_154, .int votd_133, .ref vmn, .ref vmr, .ref vmk, .ref vms, .ref vma, .ref vmm, .ref vmrn, .ref vmkn, .ref vmik, .ref vmon, .int vosm, .int vohp, .ref vmw, .ref vmf, .ref vmb, .int vomb, .ref vmd, .ref vmc, .int vocm, .int voct, .int vocy, .ref vmx, .int votx, .int vose, .ref vml, .ref vmwr, .int voln, .int vohw, .ref vmno, .int vond, .int voon, .int vowi, .int votop])), (vmt, .inl (cy 0, 940, .inl vmtf))] := hD
          rcases q_158 with aq_158 | ⟨aq_158, f0q_158⟩
          · skip
            refine as_i 0 aq_158 ?_
            refine lv_if_eq (tgt := 181) hx hb dX11_readBookLine_174 (by decide) (fun _ => ?_) (fun c9 => absurd (by decide) c9)
            refine lv_iconst (v := 0) hx hb dX11_readBookLine_181 (by decide) ?_
            rw [hQ9]
            exact re_z (voto_150, vofr_151, vokd_152, vosg_153, vowd_154, vonu_155, vofa_156, vopl_157, votd_133, vmlf_144) hx hb hr hlocks (Or.inl rfl) ⟨(show ((0 : Int32) = 0) ∨ ((0 : Int32) = 1 ∧ (voln : Int32).toInt ≤ 39) from (Or.inl rfl)), (show 0 ≤ (voto_150 : Int32).toInt ∧ (voto_150 : Int32).toInt ≤ 940 from ⟨by omega, by omega⟩), (show -1 ≤ (votd_133 : Int32).toInt ∧ (votd_133 : Int32).toInt ≤ 999 from ⟨by omega, by omega⟩), (show LQ vmlf_144 from q_146)⟩ (hP.sub [3, 4, 0, 1, 2] rfl) (hD.sub [3, 4, 0, 1, 2] rfl rfl) hS dX11_readBookLine_182
          · skip
            refine as_i 1 aq_158 ?_
            refine lv_if_eq (tgt := 181) hx hb dX11_readBookLine_174 (by decide) (fun c9 => absurd c9 (by decide)) (fun _ => ?_)
            refine lv_iconst (v := 1) hx hb dX11_readBookLine_177 (by decide) ?_
            refine lv_goto (tgt := 182) hx hb dX11_readBookLine_178 (by decide) ?_
            rw [hQ9]
            exact re_z (voto_150, vofr_151, vokd_152, vosg_153, vowd_154, vonu_155, vofa_156, vopl_157, votd_133, vmlf_144) hx hb hr hlocks (Or.inr rfl) ⟨(show ((1 : Int32) = 0) ∨ ((1 : Int32) = 1 ∧ (voln : Int32).toInt ≤ 39) from (Or.inr (⟨rfl, by omega⟩))), (show 0 ≤ (voto_150 : Int32).toInt ∧ (voto_150 : Int32).toInt ≤ 940 from ⟨by omega, by omega⟩), (show -1 ≤ (votd_133 : Int32).toInt ∧ (votd_133 : Int32).toInt ≤ 999 from ⟨by omega, by omega⟩), (show LQ vmlf_144 from q_146)⟩ (hP.sub [3, 4, 0, 1, 2] rfl) (hD.sub [3, 4, 0, 1, 2] rfl rfl) hS dX11_readBookLine_182
    · skip
      have c_96 : voln.toInt = (40 : Int32).toInt := i_eq.mp c_96
      refine lv_aload_n hx hb dX11_readBookLine_61 rfl (lv_at hl 1 rfl) ?_
      refine lv_iconst (v := 4) hx hb dX11_readBookLine_62 (by decide) ?_
      have k_4 : (4 : Int32).toInt = 4 := by decide
      refine jn_i (wr := [(vmt, .inl (cy 0, 940, .inl vmtf)), (vmn, .inl (cy 0, 575, .inl vmnf)), (vmm, .inl (cy 1, 17, .inr (.inl vmmf))), (vml, .inl (cy 0, 160, .inl vmlf))]) (rV (As := [.int 4]) (rest := []) (ci := 12) ⟨hx, hb, hml, hown, hts⟩ (m_bad l dC dI cy _ vo voth vmt votp vosz volm voto vofr vokd vonu vosg vofa vopl vowd votd vmn vmr vmk vms vma vmm vmrn vmkn vmik vmon vosm vohp vmw vmf vmb vomb vmd vmc vocm voct vocy vmx votx vose vml vmwr voln vohw vmno vond voon vowi votop 4 ) (cw_X11_72 hts rfl rfl ⟨Nat.le_of_ble_eq_true rfl, Nat.le_of_ble_eq_true rfl⟩) hP hD hK [0] rfl rfl rfl rfl bl0 e0 rfl hl.1 rfl (Nat.le_of_ble_eq_true rfl) dX11_readBookLine_63 ⟨Nat.le_of_ble_eq_true rfl, Nat.le_of_ble_eq_true rfl⟩) hP hD hS hA [0] [1, 2, 3, 4] rfl rfl rfl (by decide) (fun r_161 u_163 H locs hp_162 hP hD hS => ?_)
      obtain ⟨vofa_164, vopl_165⟩ := u_163
      have hp_162 : ((r_161 = 0)) := hp_162
      have q_166 := hp_162
      have hP : va_P (dC, dI) vwCl [(vmt, .inl (cy 0, 940, .inl vmtf)), (vmn, .inl (cy 0, 575, .inl vmnf)), (vmm, .inl (cy 1, 17, .inr (.inl vmmf))), (vml, .inl (cy 0, 160, .inl vmlf)), (vo, .inr (12, [.int voth, .ref vmt, .int votp, .int vosz, .int volm, .int voto, .int vofr, .int vokd, .int vonu, .int vosg, .int vofa_164, .int vopl_165, .long vowd, .int votd, .ref vmn, .ref vmr, .ref vmk, .ref vms, .ref vma, .ref vmm, .ref vmrn, .ref vmkn, .ref vmik, .ref vmon, .int vosm, .int vohp, .ref vmw, .ref vmf, .ref vmb, .int vomb, .ref vmd, .ref vmc, .int vocm, .int voct, .int vocy, .ref vmx, .int votx, .int vose, .ref vml, .ref vmwr, .int voln, .int vohw, .ref vmno, .int vond, .int voon, .int vowi, .int votop]))] H := hP
      have hD : va_D A [(vmt, .inl (cy 0, 940, .inl vmtf)), (vmn, .inl (cy 0, 575, .inl vmnf)), (vmm, .inl (cy 1, 17, .inr (.inl vmmf))), (vml, .inl (cy 0, 160, .inl vmlf)), (vo, .inr (12, [.int voth, .ref vmt, .int votp, .int vosz, .int volm, .int voto, .int vofr, .int vokd, .int vonu, .int vosg, .int vofa_164, .int vopl_165, .long vowd, .int votd, .ref vmn, .ref vmr, .ref vmk, .ref vms, .ref vma, .ref vmm, .ref vmrn, .ref vmkn, .ref vmik, .ref vmon, .int vosm, .int vohp, .ref vmw, .ref vmf, .ref vmb, .int vomb, .ref vmd, .ref vmc, .int vocm, .int voct, .int vocy, .ref vmx, .int votx, .int vose, .ref vml, .ref vmwr, .int voln, .int vohw, .ref vmno, .int vond, .int voon, .int vowi, .int votop]))] := hD
      have aq_166 := q_166
      · skip
        refine as_i 0 aq_166 ?_
        have k_0 : (0 : Int32).toInt = 0 := by decide
        rw [hQ9]
        exact re_z (voto, vofr, vokd, vosg, vowd, vonu, vofa_164, vopl_165, votd, vmlf) hx hb hr hlocks (Or.inl rfl) ⟨(show ((0 : Int32) = 0) ∨ ((0 : Int32) = 1 ∧ (voln : Int32).toInt ≤ 39) from (Or.inl rfl)), (show 0 ≤ (voto : Int32).toInt ∧ (voto : Int32).toInt ≤ 940 from ⟨by omega, by omega⟩), (show -1 ≤ (votd : Int32).toInt ∧ (votd : Int32).toInt ≤ 999 from ⟨by omega, by omega⟩), (show LQ vmlf from p_vmlf)⟩ (hP.sub [4, 0, 1, 2, 3] rfl) (hD.sub [4, 0, 1, 2, 3] rfl rfl) hS dX11_readBookLine_66
abbrev cX11_goBy : ByteArray := prog_13_method_114_code
def yX11_goBy : MethodName := ⟨RX11, "goBy", "(I)I"⟩
theorem t2006 : Cond.code yX11_goBy cX11_goBy 4 (some .int) ∈ GW := gw_mem 2120 (by decide +kernel) (by decide +kernel)
abbrev O_m_goBy (cy : Nat → ClassId) (vnh : Nat → Int32) (vo : Nat) (voth : Int32) (vmt : Nat) (votp : Int32) (vosz : Int32) (volm : Int32) (voto : Int32) (vofr : Int32) (vokd : Int32) (vonu : Int32) (vosg : Int32) (vofa : Int32) (vopl : Int32) (vowd : Int64) (votd : Int32) (vmn : Nat) (vmr : Nat) (vmk : Nat) (vms : Nat) (vma : Nat) (vmm : Nat) (vmrn : Nat) (vmkn : Nat) (vmik : Nat) (vmon : Nat) (vosm : Int32) (vohp : Int32) (vmw : Nat) (vmf : Nat) (vmb : Nat) (vomb : Int32) (vmd : Nat) (vmc : Nat) (vocm : Int32) (voct : Int32) (vocy : Int32) (vmx : Nat) (votx : Int32) (vose : Int32) (vml : Nat) (vmwr : Nat) (voln : Int32) (vohw : Int32) (vmno : Nat) (vond : Int32) (voon : Int32) (vowi : Int32) (votop : Int32) (vmnf : Nat → Int32) (vmlf : Nat → Int32) (vat : Int32) (u : (Nat → Int32)) : va_W := [(vo, .inr (12, [.int voth, .ref vmt, .int votp, .int vosz, .int volm, .int voto, .int vofr, .int vokd, .int vonu, .int vosg, .int vofa, .int vopl, .long vowd, .int votd, .ref vmn, .ref vmr, .ref vmk, .ref vms, .ref vma, .ref vmm, .ref vmrn, .ref vmkn, .ref vmik, .ref vmon, .int vosm, .int vohp, .ref vmw, .ref vmf, .ref vmb, .int vomb, .ref vmd, .ref vmc, .int vocm, .int voct, .int vocy, .ref vmx, .int votx, .int vose, .ref vml, .ref vmwr, .int voln, .int vohw, .ref vmno, .int vond, .int voon, .int vowi, .int votop])), (vmn, .inl (cy 0, 575, .inl u)), (vml, .inl (cy 0, 160, .inl vmlf))]
theorem dX11_goBy_0 : decode cX11_goBy 0 = .ok (.aload_n 0, 1) := by decide +kernel
theorem dX11_goBy_1 : decode cX11_goBy 1 = .ok (.getfield 151, 3) := by decide +kernel
theorem dX11_goBy_4 : decode cX11_goBy 4 = .ok (.iload_n 1, 1) := by decide +kernel
theorem dX11_goBy_5 : decode cX11_goBy 5 = .ok (.iconst 1, 1) := by decide +kernel
theorem dX11_goBy_6 : decode cX11_goBy 6 = .ok (.iadd, 1) := by decide +kernel
theorem dX11_goBy_7 : decode cX11_goBy 7 = .ok (.iaload, 1) := by decide +kernel
theorem dX11_goBy_8 : decode cX11_goBy 8 = .ok (.istore_n 2, 1) := by decide +kernel
theorem dX11_goBy_9 : decode cX11_goBy 9 = .ok (.aload_n 0, 1) := by decide +kernel
theorem dX11_goBy_10 : decode cX11_goBy 10 = .ok (.getfield 151, 3) := by decide +kernel
theorem dX11_goBy_13 : decode cX11_goBy 13 = .ok (.iload_n 1, 1) := by decide +kernel
theorem dX11_goBy_14 : decode cX11_goBy 14 = .ok (.iaload, 1) := by decide +kernel
theorem dX11_goBy_15 : decode cX11_goBy 15 = .ok (.bipush 6, 2) := by decide +kernel
theorem dX11_goBy_17 : decode cX11_goBy 17 = .ok (.if_icmp .ne 30, 3) := by decide +kernel
theorem dX11_goBy_47 : decode cX11_goBy 47 = .ok (.aload_n 0, 1) := by decide +kernel
theorem dX11_goBy_48 : decode cX11_goBy 48 = .ok (.aload_n 0, 1) := by decide +kernel
theorem dX11_goBy_49 : decode cX11_goBy 49 = .ok (.getfield 151, 3) := by decide +kernel
theorem dX11_goBy_52 : decode cX11_goBy 52 = .ok (.iload_n 1, 1) := by decide +kernel
theorem dX11_goBy_53 : decode cX11_goBy 53 = .ok (.iaload, 1) := by decide +kernel
theorem dX11_goBy_54 : decode cX11_goBy 54 = .ok (.iload_n 2, 1) := by decide +kernel
theorem dX11_goBy_55 : decode cX11_goBy 55 = .ok (.aload_n 0, 1) := by decide +kernel
theorem dX11_goBy_56 : decode cX11_goBy 56 = .ok (.getfield 151, 3) := by decide +kernel
theorem dX11_goBy_59 : decode cX11_goBy 59 = .ok (.iload_n 1, 1) := by decide +kernel
theorem dX11_goBy_60 : decode cX11_goBy 60 = .ok (.iconst 2, 1) := by decide +kernel
theorem dX11_goBy_61 : decode cX11_goBy 61 = .ok (.iadd, 1) := by decide +kernel
theorem dX11_goBy_62 : decode cX11_goBy 62 = .ok (.iaload, 1) := by decide +kernel
theorem dX11_goBy_63 : decode cX11_goBy 63 = .ok (.aload_n 0, 1) := by decide +kernel
theorem dX11_goBy_64 : decode cX11_goBy 64 = .ok (.getfield 151, 3) := by decide +kernel
theorem dX11_goBy_67 : decode cX11_goBy 67 = .ok (.iload_n 1, 1) := by decide +kernel
theorem dX11_goBy_68 : decode cX11_goBy 68 = .ok (.iconst 3, 1) := by decide +kernel
theorem dX11_goBy_69 : decode cX11_goBy 69 = .ok (.iadd, 1) := by decide +kernel
theorem dX11_goBy_70 : decode cX11_goBy 70 = .ok (.iaload, 1) := by decide +kernel
theorem dX11_goBy_71 : decode cX11_goBy 71 = .ok (.invokevirtual 274, 3) := by decide +kernel
theorem dX11_goBy_74 : decode cX11_goBy 74 = .ok (.istore_n 3, 1) := by decide +kernel
theorem dX11_goBy_75 : decode cX11_goBy 75 = .ok (.iload_n 3, 1) := by decide +kernel
theorem dX11_goBy_76 : decode cX11_goBy 76 = .ok (.ifCond .eq 15, 3) := by decide +kernel
theorem dX11_goBy_91 : decode cX11_goBy 91 = .ok (.aload_n 0, 1) := by decide +kernel
theorem dX11_goBy_92 : decode cX11_goBy 92 = .ok (.aload_n 0, 1) := by decide +kernel
theorem dX11_goBy_93 : decode cX11_goBy 93 = .ok (.getfield 151, 3) := by decide +kernel
theorem dX11_goBy_96 : decode cX11_goBy 96 = .ok (.iload_n 1, 1) := by decide +kernel
theorem dX11_goBy_97 : decode cX11_goBy 97 = .ok (.iaload, 1) := by decide +kernel
theorem dX11_goBy_98 : decode cX11_goBy 98 = .ok (.iload_n 2, 1) := by decide +kernel
theorem dX11_goBy_99 : decode cX11_goBy 99 = .ok (.aload_n 0, 1) := by decide +kernel
theorem dX11_goBy_100 : decode cX11_goBy 100 = .ok (.getfield 151, 3) := by decide +kernel
theorem dX11_goBy_103 : decode cX11_goBy 103 = .ok (.iload_n 1, 1) := by decide +kernel
theorem dX11_goBy_104 : decode cX11_goBy 104 = .ok (.iconst 2, 1) := by decide +kernel
theorem dX11_goBy_105 : decode cX11_goBy 105 = .ok (.iadd, 1) := by decide +kernel
theorem dX11_goBy_106 : decode cX11_goBy 106 = .ok (.iaload, 1) := by decide +kernel
theorem dX11_goBy_107 : decode cX11_goBy 107 = .ok (.aload_n 0, 1) := by decide +kernel
theorem dX11_goBy_108 : decode cX11_goBy 108 = .ok (.getfield 151, 3) := by decide +kernel
theorem dX11_goBy_111 : decode cX11_goBy 111 = .ok (.iload_n 1, 1) := by decide +kernel
theorem dX11_goBy_112 : decode cX11_goBy 112 = .ok (.iconst 3, 1) := by decide +kernel
theorem dX11_goBy_113 : decode cX11_goBy 113 = .ok (.iadd, 1) := by decide +kernel
theorem dX11_goBy_114 : decode cX11_goBy 114 = .ok (.iaload, 1) := by decide +kernel
theorem dX11_goBy_115 : decode cX11_goBy 115 = .ok (.invokevirtual 281, 3) := by decide +kernel
theorem dX11_goBy_118 : decode cX11_goBy 118 = .ok (.iconst 0, 1) := by decide +kernel
theorem dX11_goBy_119 : decode cX11_goBy 119 = .ok (.ireturn, 1) := by decide +kernel
theorem dX11_goBy_79 : decode cX11_goBy 79 = .ok (.bipush 10, 2) := by decide +kernel
theorem dX11_goBy_81 : decode cX11_goBy 81 = .ok (.aload_n 0, 1) := by decide +kernel
theorem dX11_goBy_82 : decode cX11_goBy 82 = .ok (.getfield 151, 3) := by decide +kernel
theorem dX11_goBy_85 : decode cX11_goBy 85 = .ok (.iload_n 1, 1) := by decide +kernel
theorem dX11_goBy_86 : decode cX11_goBy 86 = .ok (.iaload, 1) := by decide +kernel
theorem dX11_goBy_87 : decode cX11_goBy 87 = .ok (.imul, 1) := by decide +kernel
theorem dX11_goBy_88 : decode cX11_goBy 88 = .ok (.iload_n 3, 1) := by decide +kernel
theorem dX11_goBy_89 : decode cX11_goBy 89 = .ok (.iadd, 1) := by decide +kernel
theorem dX11_goBy_90 : decode cX11_goBy 90 = .ok (.ireturn, 1) := by decide +kernel
theorem dX11_goBy_20 : decode cX11_goBy 20 = .ok (.aload_n 0, 1) := by decide +kernel
theorem dX11_goBy_21 : decode cX11_goBy 21 = .ok (.getfield 98, 3) := by decide +kernel
theorem dX11_goBy_24 : decode cX11_goBy 24 = .ok (.sipush 157, 3) := by decide +kernel
theorem dX11_goBy_27 : decode cX11_goBy 27 = .ok (.iaload, 1) := by decide +kernel
theorem dX11_goBy_28 : decode cX11_goBy 28 = .ok (.iload_n 2, 1) := by decide +kernel
theorem dX11_goBy_29 : decode cX11_goBy 29 = .ok (.iadd, 1) := by decide +kernel
theorem dX11_goBy_30 : decode cX11_goBy 30 = .ok (.sipush 200, 3) := by decide +kernel
theorem dX11_goBy_33 : decode cX11_goBy 33 = .ok (.if_icmp .le 6, 3) := by decide +kernel
theorem dX11_goBy_39 : decode cX11_goBy 39 = .ok (.aload_n 0, 1) := by decide +kernel
theorem dX11_goBy_40 : decode cX11_goBy 40 = .ok (.iload_n 2, 1) := by decide +kernel
theorem dX11_goBy_41 : decode cX11_goBy 41 = .ok (.invokevirtual 294, 3) := by decide +kernel
theorem dX11_goBy_44 : decode cX11_goBy 44 = .ok (.pop, 1) := by decide +kernel
theorem dX11_goBy_45 : decode cX11_goBy 45 = .ok (.iconst 0, 1) := by decide +kernel
theorem dX11_goBy_46 : decode cX11_goBy 46 = .ok (.ireturn, 1) := by decide +kernel
theorem dX11_goBy_36 : decode cX11_goBy 36 = .ok (.bipush 61, 2) := by decide +kernel
theorem dX11_goBy_38 : decode cX11_goBy 38 = .ok (.ireturn, 1) := by decide +kernel
set_option maxHeartbeats 4000000 in
set_option maxRecDepth 100000 in
theorem m_goBy (l : Launch) (dC : Nat → ClassId) (dI : Nat → Nat → Nat) (cy : Nat → ClassId) (sz : Nat) (vnh : Nat → Int32) (vo : Nat) (voth : Int32) (vmt : Nat) (votp : Int32) (vosz : Int32) (volm : Int32) (voto : Int32) (vofr : Int32) (vokd : Int32) (vonu : Int32) (vosg : Int32) (vofa : Int32) (vopl : Int32) (vowd : Int64) (votd : Int32) (vmn : Nat) (vmr : Nat) (vmk : Nat) (vms : Nat) (vma : Nat) (vmm : Nat) (vmrn : Nat) (vmkn : Nat) (vmik : Nat) (vmon : Nat) (vosm : Int32) (vohp : Int32) (vmw : Nat) (vmf : Nat) (vmb : Nat) (vomb : Int32) (vmd : Nat) (vmc : Nat) (vocm : Int32) (voct : Int32) (vocy : Int32) (vmx : Nat) (votx : Int32) (vose : Int32) (vml : Nat) (vmwr : Nat) (voln : Int32) (vohw : Int32) (vmno : Nat) (vond : Int32) (voon : Int32) (vowi : Int32) (votop : Int32) (vmnf : Nat → Int32) (vmlf : Nat → Int32) (vat : Int32) (r_vat : 0 ≤ (vat : Int32).toInt ∧ (vat : Int32).toInt ≤ 156) (p_vmnf : NW vnh vmnf) (p_vmlf : LQ vmlf) (hq : 4 * ((vat : Int32).toInt / 4) = (vat : Int32).toInt) : Met l yX11_goBy (wl yX11_goBy cX11_goBy 4 (some .int)) ({ frames := 5, cells := 0, slots := 0, locals := 320 }) (Pw (dC, dI) vwCl cy [(vo, .inr (12, [.int voth, .ref vmt, .int votp, .int vosz, .int volm, .int voto, .int vofr, .int vokd, .int vonu, .int vosg, .int vofa, .int vopl, .long vowd, .int votd, .ref vmn, .ref vmr, .ref vmk, .ref vms, .ref vma, .ref vmm, .ref vmrn, .ref vmkn, .ref vmik, .ref vmon, .int vosm, .int vohp, .ref vmw, .ref vmf, .ref vmb, .int vomb, .ref vmd, .ref vmc, .int vocm, .int voct, .int vocy, .ref vmx, .int votx, .int vose, .ref vml, .ref vmwr, .int voln, .int vohw, .ref vmno, .int vond, .int voon, .int vowi, .int votop])), (vmn, .inl (cy 0, 575, .inl vmnf)), (vml, .inl (cy 0, 160, .inl vmlf))] sz [.ref vo, .int vat] nE) (Qi (dC, dI) vwCl (fun (r : Int32) (u : (Nat → Int32)) => (NW vnh u)) (O_m_goBy cy vnh vo voth vmt votp vosz volm voto vofr vokd vonu vosg vofa vopl vowd votd vmn vmr vmk vms vma vmm vmrn vmkn vmik vmon vosm vohp vmw vmf vmb vomb vmd vmc vocm voct vocy vmx votx vose vml vmwr voln vohw vmno vond voon vowi votop vmnf vmlf vat) (va_A [(vo, .inr (12, [.int voth, .ref vmt, .int votp, .int vosz, .int volm, .int voto, .int vofr, .int vokd, .int vonu, .int vosg, .int vofa, .int vopl, .long vowd, .int votd, .ref vmn, .ref vmr, .ref vmk, .ref vms, .ref vma, .ref vmm, .ref vmrn, .ref vmkn, .ref vmik, .ref vmon, .int vosm, .int vohp, .ref vmw, .ref vmf, .ref vmb, .int vomb, .ref vmd, .ref vmc, .int vocm, .int voct, .int vocy, .ref vmx, .int votx, .int vose, .ref vml, .ref vmwr, .int voln, .int vohw, .ref vmno, .int vond, .int voon, .int vowi, .int votop])), (vmn, .inl (cy 0, 575, .inl vmnf)), (vml, .inl (cy 0, 160, .inl vmlf))] sz)) 0 0 (va_A [(vo, .inr (12, [.int voth, .ref vmt, .int votp, .int vosz, .int volm, .int voto, .int vofr, .int vokd, .int vonu, .int vosg, .int vofa, .int vopl, .long vowd, .int votd, .ref vmn, .ref vmr, .ref vmk, .ref vms, .ref vma, .ref vmm, .ref vmrn, .ref vmkn, .ref vmik, .ref vmon, .int vosm, .int vohp, .ref vmw, .ref vmf, .ref vmb, .int vomb, .ref vmd, .ref vmc, .int vocm, .int voct, .int vocy, .ref vmx, .int votx, .int vose, .ref vml, .ref vmwr, .int voln, .int vohw, .ref vmno, .int vond, .int voon, .int vowi, .int votop])), (vmn, .inl (cy 0, 575, .inl vmnf)), (vml, .inl (cy 0, 160, .inl vmlf))] sz) := by
  refine mw (Qc := Qi (dC, dI) vwCl (fun (r : Int32) (u : (Nat → Int32)) => (NW vnh u)) (O_m_goBy cy vnh vo voth vmt votp vosz volm voto vofr vokd vonu vosg vofa vopl vowd votd vmn vmr vmk vms vma vmm vmrn vmkn vmik vmon vosm vohp vmw vmf vmb vomb vmd vmc vocm voct vocy vmx votx vose vml vmwr voln vohw vmno vond voon vowi votop vmnf vmlf vat)) RX11 rfl (by decide +kernel) (Nat.le_of_ble_eq_true rfl) ?_
  intro p e s m below meth c A hx hb hr hlocks av9 hav hts hown hnm hml hK hP hD hA hS hE hAe Q9 hQ9 ls hl
  have hl : lv_has ls 4 [(0, .ref vo), (1, .int vat)] := hl
  refine lv_aload_n hx hb dX11_goBy_0 rfl (lv_at hl 0 rfl) ?_
  refine gf_X11_151 hx hb hts hown hK hP 0 rfl rfl dX11_goBy_1 ?_
  refine lv_iload_n hx hb dX11_goBy_4 rfl (lv_at hl 1 rfl) ?_
  refine lv_iconst (v := 1) hx hb dX11_goBy_5 (by decide) ?_
  refine lv_iadd hx hb dX11_goBy_6 ?_
  refine lv_topi (fun z_1 ez_1 => ?_)
  have k_1 : (1 : Int32).toInt = 1 := by decide
  have bz_1 : z_1.toInt = vat.toInt + (1 : Int32).toInt := i_add ez_1 (by omega) (by omega)
  have hin_2 : vp_in z_1 160 := vp_in_iff.mpr ⟨by omega, by omega⟩
  refine va_iald hx hb hK hP 2 0 rfl rfl hin_2 dX11_goBy_7 ?_
  refine lv_topi (fun z_3 ez_3 => ?_)
  have bz_3 := p_vmlf.val hin_2 ez_3
  refine lv_istore_n (lv' := [(2, .int z_3), (0, .ref vo), (1, .int vat)]) hx hb dX11_goBy_8 rfl hl (by decide) rfl (fun ls hl => ?_)
  refine lv_aload_n hx hb dX11_goBy_9 rfl (lv_at hl 1 rfl) ?_
  refine gf_X11_151 hx hb hts hown hK hP 0 rfl rfl dX11_goBy_10 ?_
  refine lv_iload_n hx hb dX11_goBy_13 rfl (lv_at hl 2 rfl) ?_
  have hin_4 : vp_in vat 160 := vp_in_iff.mpr ⟨by omega, by omega⟩
  refine va_iald hx hb hK hP 2 0 rfl rfl hin_4 dX11_goBy_14 ?_
  refine lv_topi (fun z_5 ez_5 => ?_)
  have bz_5 := p_vmlf.val hin_4 ez_5
  refine lv_bipush (v := 6) hx hb dX11_goBy_15 (by decide) ?_
  have k_6 : (6 : Int32).toInt = 6 := by decide
  refine lv_icmp_ne (tgt := 47) hx hb dX11_goBy_17 (by decide) (fun c_6 => ?_) (fun c_6 => ?_)
  · skip
    have c_6 : ¬ (z_5.toInt = (6 : Int32).toInt) := fun h9 => c_6 (i_eq.mpr h9)
    have hm_z_3 := LQ.man p_vmlf (q := vat.toInt / 4) ⟨by omega, by omega⟩ (x := vat) (y := z_1) (by omega) (by omega) ez_5 ez_3 (by omega)
    refine lv_aload_n hx hb dX11_goBy_47 rfl (lv_at hl 1 rfl) ?_
    refine lv_aload_n hx hb dX11_goBy_48 rfl (lv_at hl 1 rfl) ?_
    refine gf_X11_151 hx hb hts hown hK hP 0 rfl rfl dX11_goBy_49 ?_
    refine lv_iload_n hx hb dX11_goBy_52 rfl (lv_at hl 2 rfl) ?_
    have hin_7 : vp_in vat 160 := vp_in_iff.mpr ⟨by omega, by omega⟩
    refine va_iald hx hb hK hP 2 0 rfl rfl hin_7 dX11_goBy_53 ?_
    refine lv_topi (fun z_8 ez_8 => ?_)
    have bz_8 := p_vmlf.val hin_7 ez_8
    refine lv_iload_n hx hb dX11_goBy_54 rfl (lv_at hl 0 rfl) ?_
    refine lv_aload_n hx hb dX11_goBy_55 rfl (lv_at hl 1 rfl) ?_
    refine gf_X11_151 hx hb hts hown hK hP 0 rfl rfl dX11_goBy_56 ?_
    refine lv_iload_n hx hb dX11_goBy_59 rfl (lv_at hl 2 rfl) ?_
    refine lv_iconst (v := 2) hx hb dX11_goBy_60 (by decide) ?_
    refine lv_iadd hx hb dX11_goBy_61 ?_
    refine lv_topi (fun z_9 ez_9 => ?_)
    have k_2 : (2 : Int32).toInt = 2 := by decide
    have bz_9 : z_9.toInt = vat.toInt + (2 : Int32).toInt := i_add ez_9 (by omega) (by omega)
    have hin_10 : vp_in z_9 160 := vp_in_iff.mpr ⟨by omega, by omega⟩
    refine va_iald hx hb hK hP 2 0 rfl rfl hin_10 dX11_goBy_62 ?_
    refine lv_topi (fun z_11 ez_11 => ?_)
    have bz_11 := p_vmlf.val hin_10 ez_11
    refine lv_aload_n hx hb dX11_goBy_63 rfl (lv_at hl 1 rfl) ?_
    refine gf_X11_151 hx hb hts hown hK hP 0 rfl rfl dX11_goBy_64 ?_
    refine lv_iload_n hx hb dX11_goBy_67 rfl (lv_at hl 2 rfl) ?_
    refine lv_iconst (v := 3) hx hb dX11_goBy_68 (by decide) ?_
    refine lv_iadd hx hb dX11_goBy_69 ?_
    refine lv_topi (fun z_12 ez_12 => ?_)
    have k_3 : (3 : Int32).toInt = 3 := by decide
    have bz_12 : z_12.toInt = vat.toInt + (3 : Int32).toInt := i_add ez_12 (by omega) (by omega)
    have hin_13 : vp_in z_12 160 := vp_in_iff.mpr ⟨by omega, by omega⟩
    refine va_iald hx hb hK hP 2 0 rfl rfl hin_13 dX11_goBy_70 ?_
    refine lv_topi (fun z_14 ez_14 => ?_)
    have bz_14 := p_vmlf.val hin_13 ez_14
    refine jr_i (rVr (As := [.int z_8, .int z_3, .int z_11, .int z_14]) (rest := []) (ci := 12) ⟨hx, hb, hml, hown, hts⟩ (m_why l dC dI cy vnh vo voth vmt votp vosz volm voto vofr vokd vonu vosg vofa vopl vowd votd vmn vmr vmk vms vma vmm vmrn vmkn vmik vmon vosm vohp vmw vmf vmb vomb vmd vmc vocm voct vocy vmx votx vose vml vmwr voln vohw vmno vond voon vowi votop vmnf z_8 z_3 z_11 z_14 ⟨by omega, by omega⟩ ⟨by omega, by omega⟩ ⟨by omega, by omega⟩ p_vmnf) (cw_X11_274 hts rfl rfl ⟨Nat.le_of_ble_eq_true rfl, Nat.le_of_ble_eq_true rfl⟩) hP hK [0, 1] rfl rfl rfl rfl hl.1 rfl (Nat.le_of_ble_eq_true rfl) dX11_goBy_71 ⟨Nat.le_of_ble_eq_true rfl, Nat.le_of_ble_eq_true rfl⟩) hP hS (fun r_15 H locs hp_16 hP hS => ?_)
    have hp_16 : (0 ≤ (r_15 : Int32).toInt ∧ (r_15 : Int32).toInt ≤ 3) := hp_16
    have q_17 := hp_16
    refine lv_istore_n (lv' := [(3, .int r_15), (2, .int z_3), (0, .ref vo), (1, .int vat)]) hx hb dX11_goBy_74 rfl hl (by decide) rfl (fun ls hl => ?_)
    refine lv_iload_n hx hb dX11_goBy_75 rfl (lv_at hl 0 rfl) ?_
    have k_0 : (0 : Int32).toInt = 0 := by decide
    refine lv_if_eq (tgt := 91) hx hb dX11_goBy_76 (by decide) (fun c_18 => ?_) (fun c_18 => ?_)
    · skip
      have c_18 : r_15.toInt = (0 : Int32).toInt := i_eq.mp c_18
      refine lv_aload_n hx hb dX11_goBy_91 rfl (lv_at hl 2 rfl) ?_
      refine lv_aload_n hx hb dX11_goBy_92 rfl (lv_at hl 2 rfl) ?_
      refine gf_X11_151 hx hb hts hown hK hP 0 rfl rfl dX11_goBy_93 ?_
      refine lv_iload_n hx hb dX11_goBy_96 rfl (lv_at hl 3 rfl) ?_
      have hin_19 : vp_in vat 160 := vp_in_iff.mpr ⟨by omega, by omega⟩
      refine va_iald hx hb hK hP 2 0 rfl rfl hin_19 dX11_goBy_97 ?_
      refine lv_topi (fun z_20 ez_20 => ?_)
      have bz_20 := p_vmlf.val hin_19 ez_20
      refine lv_iload_n hx hb dX11_goBy_98 rfl (lv_at hl 1 rfl) ?_
      refine lv_aload_n hx hb dX11_goBy_99 rfl (lv_at hl 2 rfl) ?_
      refine gf_X11_151 hx hb hts hown hK hP 0 rfl rfl dX11_goBy_100 ?_
      refine lv_iload_n hx hb dX11_goBy_103 rfl (lv_at hl 3 rfl) ?_
      refine lv_iconst (v := 2) hx hb dX11_goBy_104 (by decide) ?_
      refine lv_iadd hx hb dX11_goBy_105 ?_
      refine lv_topi (fun z_21 ez_21 => ?_)
      have bz_21 : z_21.toInt = vat.toInt + (2 : Int32).toInt := i_add ez_21 (by omega) (by omega)
      have hin_22 : vp_in z_21 160 := vp_in_iff.mpr ⟨by omega, by omega⟩
      refine va_iald hx hb hK hP 2 0 rfl rfl hin_22 dX11_goBy_106 ?_
      refine lv_topi (fun z_23 ez_23 => ?_)
      have bz_23 := p_vmlf.val hin_22 ez_23
      refine lv_aload_n hx hb dX11_goBy_107 rfl (lv_at hl 2 rfl) ?_
      refine gf_X11_151 hx hb hts hown hK hP 0 rfl rfl dX11_goBy_108 ?_
      refine lv_iload_n hx hb dX11_goBy_111 rfl (lv_at hl 3 rfl) ?_
      refine lv_iconst (v := 3) hx hb dX11_goBy_112 (by decide) ?_
      refine lv_iadd hx hb dX11_goBy_113 ?_
      refine lv_topi (fun z_24 ez_24 => ?_)
      have bz_24 : z_24.toInt = vat.toInt + (3 : Int32).toInt := i_add ez_24 (by omega) (by omega)
      have hin_25 : vp_in z_24 160 := vp_in_iff.mpr ⟨by omega, by omega⟩
      refine va_iald hx hb hK hP 2 0 rfl rfl hin_25 dX11_goBy_114 ?_
      refine lv_topi (fun z_26 ez_26 => ?_)
      have bz_26 := p_vmlf.val hin_25 ez_26
      refine jn_v (wr := [(vml, .inl (cy 0, 160, .inl vmlf))]) (rV (As := [.int z_20, .int z_3, .int z_23, .int z_26]) (rest := []) (ci := 12) ⟨hx, hb, hml, hown, hts⟩ (m_live l dC dI cy _ vnh vo voth vmt votp vosz volm voto vofr vokd vonu vosg vofa vopl vowd votd vmn vmr vmk vms vma vmm vmrn vmkn vmik vmon vosm vohp vmw vmf vmb vomb vmd vmc vocm voct vocy vmx votx vose vml vmwr voln vohw vmno vond voon vowi votop vmnf z_20 z_3 z_23 z_26 ⟨by omega, by omega⟩ ⟨by omega, by omega⟩ ⟨by omega, by omega⟩ p_vmnf) (cw_X11_281 hts rfl rfl ⟨Nat.le_of_ble_eq_true rfl, Nat.le_of_ble_eq_true rfl⟩) hP hD hK [0, 1] rfl rfl rfl rfl bl0 e0 rfl hl.1 rfl (Nat.le_of_ble_eq_true rfl) dX11_goBy_115 ⟨Nat.le_of_ble_eq_true rfl, Nat.le_of_ble_eq_true rfl⟩) hP hD hS hA [0, 1] [2] rfl rfl rfl (by decide) (fun u_29 H locs hp_28 hP hD hS => ?_)
      obtain ⟨vmnf_30, rfl⟩ : ∃ z, z = u_29 := ⟨_, rfl⟩
      have hp_28 : (NW vnh vmnf_30) := hp_28
      have q_31 := hp_28
      have hP : va_P (dC, dI) vwCl [(vml, .inl (cy 0, 160, .inl vmlf)), (vo, .inr (12, [.int voth, .ref vmt, .int votp, .int vosz, .int volm, .int voto, .int vofr, .int vokd, .int vonu, .int vosg, .int vofa, .int vopl, .long vowd, .int votd, .ref vmn, .ref vmr, .ref vmk, .ref vms, .ref vma, .ref vmm, .ref vmrn, .ref vmkn, .ref vmik, .ref vmon, .int vosm, .int vohp, .ref vmw, .ref vmf, .ref vmb, .int vomb, .ref vmd, .ref vmc, .int vocm, .int voct, .int vocy, .ref vmx, .int votx, .int vose, .ref vml, .ref vmwr, .int voln, .int vohw, .ref vmno, .int vond, .int voon, .int vowi, .int votop])), (vmn, .inl (cy 0, 575, .inl vmnf_30))] H := hP
      have hD : va_D A [(vml, .inl (cy 0, 160, .inl vmlf)), (vo, .inr (12, [.int voth, .ref vmt, .int votp, .int vosz, .int volm, .int voto, .int vofr, .int vokd, .int vonu, .int vosg, .int vofa, .int vopl, .long vowd, .int votd, .ref vmn, .ref vmr, .ref vmk, .ref vms, .ref vma, .ref vmm, .ref vmrn, .ref vmkn, .ref vmik, .ref vmon, .int vosm, .int vohp, .ref vmw, .ref vmf, .ref vmb, .int vomb, .ref vmd, .ref vmc, .int vocm, .int voct, .int vocy, .ref vmx, .int votx, .int vose, .ref vml, .ref vmwr, .int voln, .int vohw, .ref vmno, .int vond, .int voon, .int vowi, .int votop])), (vmn, .inl (cy 0, 575, .inl vmnf_30))] := hD
      refine lv_iconst (v := 0) hx hb dX11_goBy_118 (by decide) ?_
      rw [hQ9]
      exact re_i vmnf_30 hx hb hr hlocks (show NW vnh vmnf_30 from q_31) (hP.sub [1, 2, 0] rfl) (hD.sub [1, 2, 0] rfl rfl) hS dX11_goBy_119
    · skip
      have c_18 : ¬ (r_15.toInt = (0 : Int32).toInt) := fun h9 => c_18 (i_eq.mpr h9)
      refine lv_bipush (v := 10) hx hb dX11_goBy_79 (by decide) ?_
      refine lv_aload_n hx hb dX11_goBy_81 rfl (lv_at hl 2 rfl) ?_
      refine gf_X11_151 hx hb hts hown hK hP 0 rfl rfl dX11_goBy_82 ?_
      refine lv_iload_n hx hb dX11_goBy_85 rfl (lv_at hl 3 rfl) ?_
      have hin_32 : vp_in vat 160 := vp_in_iff.mpr ⟨by omega, by omega⟩
      refine va_iald hx hb hK hP 2 0 rfl rfl hin_32 dX11_goBy_86 ?_
      refine lv_topi (fun z_33 ez_33 => ?_)
      have bz_33 := p_vmlf.val hin_32 ez_33
      refine lv_imul hx hb dX11_goBy_87 ?_
      refine lv_topi (fun z_34 ez_34 => ?_)
      have k_10 : (10 : Int32).toInt = 10 := by decide
      have bz_34 : z_34.toInt = z_33.toInt * 10 := i_cmul k_10 ez_34 (by omega) (by omega)
      refine lv_iload_n hx hb dX11_goBy_88 rfl (lv_at hl 0 rfl) ?_
      refine lv_iadd hx hb dX11_goBy_89 ?_
      refine lv_topi (fun z_35 ez_35 => ?_)
      have bz_35 : z_35.toInt = z_34.toInt + r_15.toInt := i_add ez_35 (by omega) (by omega)
      rw [hQ9]
      exact re_i vmnf hx hb hr hlocks (show NW vnh vmnf from p_vmnf) (hP.sub [0, 1, 2] rfl) (hD.sub [0, 1, 2] rfl rfl) hS dX11_goBy_90
  · skip
    have c_6 : z_5.toInt = (6 : Int32).toInt := i_eq.mp c_6
    refine lv_aload_n hx hb dX11_goBy_20 rfl (lv_at hl 1 rfl) ?_
    refine gf_X11_98 hx hb hts hown hK hP 0 rfl rfl dX11_goBy_21 ?_
    refine lv_sipush (v := 157) hx hb dX11_goBy_24 (by decide) ?_
    have k_157 : (157 : Int32).toInt = 157 := by decide
    have hin_36 : vp_in (157 : Int32) 575 := vp_in_iff.mpr ⟨by omega, by omega⟩
    refine va_iald hx hb hK hP 1 0 rfl rfl hin_36 dX11_goBy_27 ?_
    refine lv_topi (fun z_37 ez_37 => ?_)
    have tz_37 : z_37.toInt = (vmnf 157).toInt := by rw [ez_37]; rfl
    refine lv_iload_n hx hb dX11_goBy_28 rfl (lv_at hl 0 rfl) ?_
    refine lv_iadd hx hb dX11_goBy_29 ?_
    refine lv_topi (fun z_38 ez_38 => ?_)
    refine lv_sipush (v := 200) hx hb dX11_goBy_30 (by decide) ?_
    have k_200 : (200 : Int32).toInt = 200 := by decide
    refine lv_icmp_le (tgt := 39) hx hb dX11_goBy_33 (by decide) (fun c_39 => ?_) (fun c_39 => ?_)
    · skip
      have c_39 : z_38.toInt ≤ (200 : Int32).toInt := i_le.mp c_39
      refine lv_aload_n hx hb dX11_goBy_39 rfl (lv_at hl 1 rfl) ?_
      refine lv_iload_n hx hb dX11_goBy_40 rfl (lv_at hl 0 rfl) ?_
      refine jn_i (wr := [(vml, .inl (cy 0, 160, .inl vmlf))]) (rV (As := [.int z_3]) (rest := []) (ci := 12) ⟨hx, hb, hml, hown, hts⟩ (m_passYears l dC dI cy _ vnh vo voth vmt votp vosz volm voto vofr vokd vonu vosg vofa vopl vowd votd vmn vmr vmk vms vma vmm vmrn vmkn vmik vmon vosm vohp vmw vmf vmb vomb vmd vmc vocm voct vocy vmx votx vose vml vmwr voln vohw vmno vond voon vowi votop vmnf z_3 p_vmnf) (cw_X11_294 hts rfl rfl ⟨Nat.le_of_ble_eq_true rfl, Nat.le_of_ble_eq_true rfl⟩) hP hD hK [0, 1] rfl rfl rfl rfl bl0 e0 rfl hl.1 rfl (Nat.le_of_ble_eq_true rfl) dX11_goBy_41 ⟨Nat.le_of_ble_eq_true rfl, Nat.le_of_ble_eq_true rfl⟩) hP hD hS hA [0, 1] [2] rfl rfl rfl (by decide) (fun r_40 u_42 H locs hp_41 hP hD hS => ?_)
      obtain ⟨vmnf_43, rfl⟩ : ∃ z, z = u_42 := ⟨_, rfl⟩
      have hp_41 : (NW vnh vmnf_43) := hp_41
      have q_44 := hp_41
      have hP : va_P (dC, dI) vwCl [(vml, .inl (cy 0, 160, .inl vmlf)), (vo, .inr (12, [.int voth, .ref vmt, .int votp, .int vosz, .int volm, .int voto, .int vofr, .int vokd, .int vonu, .int vosg, .int vofa, .int vopl, .long vowd, .int votd, .ref vmn, .ref vmr, .ref vmk, .ref vms, .ref vma, .ref vmm, .ref vmrn, .ref vmkn, .ref vmik, .ref vmon, .int vosm, .int vohp, .ref vmw, .ref vmf, .ref vmb, .int vomb, .ref vmd, .ref vmc, .int vocm, .int voct, .int vocy, .ref vmx, .int votx, .int vose, .ref vml, .ref vmwr, .int voln, .int vohw, .ref vmno, .int vond, .int voon, .int vowi, .int votop])), (vmn, .inl (cy 0, 575, .inl vmnf_43))] H := hP
      have hD : va_D A [(vml, .inl (cy 0, 160, .inl vmlf)), (vo, .inr (12, [.int voth, .ref vmt, .int votp, .int vosz, .int volm, .int voto, .int vofr, .int vokd, .int vonu, .int vosg, .int vofa, .int vopl, .long vowd, .int votd, .ref vmn, .ref vmr, .ref vmk, .ref vms, .ref vma, .ref vmm, .ref vmrn, .ref vmkn, .ref vmik, .ref vmon, .int vosm, .int vohp, .ref vmw, .ref vmf, .ref vmb, .int vomb, .ref vmd, .ref vmc, .int vocm, .int voct, .int vocy, .ref vmx, .int votx, .int vose, .ref vml, .ref vmwr, .int voln, .int vohw, .ref vmno, .int vond, .int voon, .int vowi, .int votop])), (vmn, .inl (cy 0, 575, .inl vmnf_43))] := hD
      refine lv_pop hx hb dX11_goBy_44 rfl ?_
      refine lv_iconst (v := 0) hx hb dX11_goBy_45 (by decide) ?_
      have k_0 : (0 : Int32).toInt = 0 := by decide
      rw [hQ9]
      exact re_i vmnf_43 hx hb hr hlocks (show NW vnh vmnf_43 from q_44) (hP.sub [1, 2, 0] rfl) (hD.sub [1, 2, 0] rfl rfl) hS dX11_goBy_46
    · skip
      have c_39 : ¬ (z_38.toInt ≤ (200 : Int32).toInt) := fun h9 => c_39 (i_le.mpr h9)
      refine lv_bipush (v := 61) hx hb dX11_goBy_36 (by decide) ?_
      have k_61 : (61 : Int32).toInt = 61 := by decide
      rw [hQ9]
      exact re_i vmnf hx hb hr hlocks (show NW vnh vmnf from p_vmnf) (hP.sub [0, 1, 2] rfl) (hD.sub [0, 1, 2] rfl rfl) hS dX11_goBy_38
abbrev cX11_book : ByteArray := prog_13_method_115_code
def yX11_book : MethodName := ⟨RX11, "book", "(I)I"⟩
theorem t1978 : Cond.code yX11_book cX11_book 4 (some .int) ∈ GW := gw_mem 2092 (by decide +kernel) (by decide +kernel)
abbrev O_m_book (cy : Nat → ClassId) (vnh : Nat → Int32) (vo : Nat) (voth : Int32) (vmt : Nat) (votp : Int32) (vosz : Int32) (volm : Int32) (voto : Int32) (vofr : Int32) (vokd : Int32) (vonu : Int32) (vosg : Int32) (vofa : Int32) (vopl : Int32) (vowd : Int64) (votd : Int32) (vmn : Nat) (vmr : Nat) (vmk : Nat) (vms : Nat) (vma : Nat) (vmm : Nat) (vmrn : Nat) (vmkn : Nat) (vmik : Nat) (vmon : Nat) (vosm : Int32) (vohp : Int32) (vmw : Nat) (vmf : Nat) (vmb : Nat) (vomb : Int32) (vmd : Nat) (vmc : Nat) (vocm : Int32) (voct : Int32) (vocy : Int32) (vmx : Nat) (votx : Int32) (vose : Int32) (vml : Nat) (vmwr : Nat) (voln : Int32) (vohw : Int32) (vmno : Nat) (vond : Int32) (voon : Int32) (vowi : Int32) (votop : Int32) (vmtf : Nat → Int32) (vmnf : Nat → Int32) (vmmf : Nat → Int64) (vmsf : Nat → Int32) (vmaf : Nat → Int32) (vmlf : Nat → Int32) (vmwrf : Nat → Int32) (vn : Int32) (u : Int32 × Int32 × Int32 × Int32 × Int32 × Int32 × Int32 × Int32 × Int64 × Int32 × Int32 × Int32 × Int32 × Int32 × (Nat → Int32) × (Nat → Int32) × (Nat → Int32) × (Nat → Int32) × Int32 × (Nat → Int32) × Int32) : va_W := [(vo, .inr (12, [.int u.1, .ref vmt, .int u.2.1, .int u.2.2.1, .int u.2.2.2.1, .int u.2.2.2.2.1, .int u.2.2.2.2.2.1, .int u.2.2.2.2.2.2.1, .int u.2.2.2.2.2.2.2.2.2.1, .int u.2.2.2.2.2.2.2.1, .int u.2.2.2.2.2.2.2.2.2.2.1, .int u.2.2.2.2.2.2.2.2.2.2.2.1, .long u.2.2.2.2.2.2.2.2.1, .int u.2.2.2.2.2.2.2.2.2.2.2.2.1, .ref vmn, .ref vmr, .ref vmk, .ref vms, .ref vma, .ref vmm, .ref vmrn, .ref vmkn, .ref vmik, .ref vmon, .int u.2.2.2.2.2.2.2.2.2.2.2.2.2.2.2.2.2.2.1, .int vohp, .ref vmw, .ref vmf, .ref vmb, .int vomb, .ref vmd, .ref vmc, .int vocm, .int voct, .int vocy, .ref vmx, .int votx, .int vose, .ref vml, .ref vmwr, .int u.2.2.2.2.2.2.2.2.2.2.2.2.2.1, .int u.2.2.2.2.2.2.2.2.2.2.2.2.2.2.2.2.2.2.2.2, .ref vmno, .int vond, .int voon, .int vowi, .int votop])), (vmt, .inl (cy 0, 940, .inl vmtf)), (vmn, .inl (cy 0, 575, .inl u.2.2.2.2.2.2.2.2.2.2.2.2.2.2.2.1)), (vmm, .inl (cy 1, 17, .inr (.inl vmmf))), (vms, .inl (cy 0, 1408, .inl u.2.2.2.2.2.2.2.2.2.2.2.2.2.2.2.2.2.1)), (vma, .inl (cy 0, 176, .inl u.2.2.2.2.2.2.2.2.2.2.2.2.2.2.2.2.1)), (vml, .inl (cy 0, 160, .inl u.2.2.2.2.2.2.2.2.2.2.2.2.2.2.1)), (vmwr, .inl (cy 0, 4, .inl u.2.2.2.2.2.2.2.2.2.2.2.2.2.2.2.2.2.2.2.1))]
theorem dX11_book_0 : decode cX11_book 0 = .ok (.aload_n 0, 1) := by decide +kernel
theorem dX11_book_1 : decode cX11_book 1 = .ok (.iconst 0, 1) := by decide +kernel
theorem dX11_book_2 : decode cX11_book 2 = .ok (.putfield 1, 3) := by decide +kernel
theorem dX11_book_5 : decode cX11_book 5 = .ok (.iload_n 1, 1) := by decide +kernel
theorem dX11_book_6 : decode cX11_book 6 = .ok (.iconst 0, 1) := by decide +kernel
theorem dX11_book_7 : decode cX11_book 7 = .ok (.iconst 1, 1) := by decide +kernel
theorem dX11_book_8 : decode cX11_book 8 = .ok (.invokestatic 75, 3) := by decide +kernel
theorem dX11_book_11 : decode cX11_book 11 = .ok (.ifCond .ne 7, 3) := by decide +kernel
theorem dX11_book_14 : decode cX11_book 14 = .ok (.sipush (-1000), 3) := by decide +kernel
theorem dX11_book_17 : decode cX11_book 17 = .ok (.ireturn, 1) := by decide +kernel
theorem dX11_book_18 : decode cX11_book 18 = .ok (.aload_n 0, 1) := by decide +kernel
theorem dX11_book_19 : decode cX11_book 19 = .ok (.sipush 400, 3) := by decide +kernel
theorem dX11_book_22 : decode cX11_book 22 = .ok (.invokevirtual 216, 3) := by decide +kernel
theorem dX11_book_25 : decode cX11_book 25 = .ok (.aload_n 0, 1) := by decide +kernel
theorem dX11_book_26 : decode cX11_book 26 = .ok (.iconst 0, 1) := by decide +kernel
theorem dX11_book_27 : decode cX11_book 27 = .ok (.putfield 382, 3) := by decide +kernel
theorem pf_X11_382 {p : Program} {l : Launch} {e : Env} {R : Room} {s : State} {m : MethodId} {args : Array Value} {below : List Frame} {meth : Method} {c : Code} {H : Heap} {locs : List Loc} {cells slots : Nat} {Q : State → Prop} {cc : ByteArray} {pc : Nat} {ls : Array Slot} {rest : List Value} {D : va_G} {A : Nat → Prop} {a : Nat} {tys : List (ClassId × FieldType)} {ws : va_W} {H0 : Heap} (hx : p.tables.exec = Jvm.exec) (hb : c.code = cc) (hts : ∀ w ∈ GW, w.before args s = true) (hown : s.vm.findClass RX11 = some m.cls) (hK : va_K D vwCl tys s) (hP : va_P D vwCl ws H) (hD : va_D A ws) (hS0 : va_S A H0 H locs) (q0 : Nat) {fs : List Value} (he : ws[q0]? = some (a, .inr (12, fs))) {v : Value} (hn : narrow (tyX11 40) v = v) (hfit : fits (tyX11 40) v = true) (hl : 40 < fs.length) (hdg : decode cc pc = .ok (.putfield 382, 3)) (kk : ∀ (H1 : Heap) (locs1 : List Loc), va_P D vwCl (ws.set q0 (a, .inr (12, fs.set 40 v))) H1 → va_D A (ws.set q0 (a, .inr (12, fs.set 40 v))) → va_S A H0 H1 locs1 → W p l e R s m args below meth c H1 locs1 cells slots Q (F0 m (pc + 3) ls rest)) : W p l e R s m args below meth c H locs cells slots Q (F0 m pc ls (v :: .ref a :: rest)) := va_put (C := RX11) (T := TX11) (N := 47) (ci := 12) hx hb hts inX11 tyX11 tkX11 nmX11 hown hK hP hD hS0 q0 he rfl 40 (by decide) (hts _ t1482) (fun _ h => h) rfl (tkX11 40 (by decide)) hn hfit hl hdg kk
theorem dX11_book_30 : decode cX11_book 30 = .ok (.aload_n 0, 1) := by decide +kernel
theorem dX11_book_31 : decode cX11_book 31 = .ok (.getfield 30, 3) := by decide +kernel
theorem dX11_book_34 : decode cX11_book 34 = .ok (.ifCond .eq 31, 3) := by decide +kernel
theorem dX11_book_65 : decode cX11_book 65 = .ok (.aload_n 0, 1) := by decide +kernel
theorem dX11_book_66 : decode cX11_book 66 = .ok (.invokevirtual 364, 3) := by decide +kernel
theorem dX11_book_69 : decode cX11_book 69 = .ok (.iconst 0, 1) := by decide +kernel
theorem dX11_book_70 : decode cX11_book 70 = .ok (.istore_n 2, 1) := by decide +kernel
theorem dX11_book_103 : decode cX11_book 103 = .ok (.aload_n 0, 1) := by decide +kernel
theorem dX11_book_104 : decode cX11_book 104 = .ok (.getfield 154, 3) := by decide +kernel
theorem dX11_book_107 : decode cX11_book 107 = .ok (.iconst 0, 1) := by decide +kernel
theorem dX11_book_108 : decode cX11_book 108 = .ok (.iload_n 3, 1) := by decide +kernel
theorem dX11_book_109 : decode cX11_book 109 = .ok (.iastore, 1) := by decide +kernel
theorem dX11_book_110 : decode cX11_book 110 = .ok (.aload_n 0, 1) := by decide +kernel
theorem dX11_book_111 : decode cX11_book 111 = .ok (.getfield 154, 3) := by decide +kernel
theorem dX11_book_114 : decode cX11_book 114 = .ok (.iconst 1, 1) := by decide +kernel
theorem dX11_book_115 : decode cX11_book 115 = .ok (.iload_n 2, 1) := by decide +kernel
theorem dX11_book_116 : decode cX11_book 116 = .ok (.iastore, 1) := by decide +kernel
theorem dX11_book_117 : decode cX11_book 117 = .ok (.aload_n 0, 1) := by decide +kernel
theorem dX11_book_118 : decode cX11_book 118 = .ok (.getfield 154, 3) := by decide +kernel
theorem dX11_book_121 : decode cX11_book 121 = .ok (.iconst 2, 1) := by decide +kernel
theorem dX11_book_122 : decode cX11_book 122 = .ok (.aload_n 0, 1) := by decide +kernel
theorem dX11_book_123 : decode cX11_book 123 = .ok (.getfield 98, 3) := by decide +kernel
theorem dX11_book_126 : decode cX11_book 126 = .ok (.sipush 157, 3) := by decide +kernel
theorem dX11_book_129 : decode cX11_book 129 = .ok (.iaload, 1) := by decide +kernel
theorem dX11_book_130 : decode cX11_book 130 = .ok (.iastore, 1) := by decide +kernel
theorem dX11_book_131 : decode cX11_book 131 = .ok (.aload_n 0, 1) := by decide +kernel
theorem dX11_book_132 : decode cX11_book 132 = .ok (.getfield 154, 3) := by decide +kernel
theorem dX11_book_135 : decode cX11_book 135 = .ok (.iconst 3, 1) := by decide +kernel
theorem dX11_book_136 : decode cX11_book 136 = .ok (.aload_n 0, 1) := by decide +kernel
theorem dX11_book_137 : decode cX11_book 137 = .ok (.iconst 1, 1) := by decide +kernel
theorem dX11_book_138 : decode cX11_book 138 = .ok (.invokevirtual 262, 3) := by decide +kernel
theorem dX11_book_141 : decode cX11_book 141 = .ok (.iastore, 1) := by decide +kernel
theorem dX11_book_142 : decode cX11_book 142 = .ok (.aload_n 0, 1) := by decide +kernel
theorem dX11_book_143 : decode cX11_book 143 = .ok (.iconst 1, 1) := by decide +kernel
theorem dX11_book_144 : decode cX11_book 144 = .ok (.putfield 394, 3) := by decide +kernel
theorem pf_X11_394 {p : Program} {l : Launch} {e : Env} {R : Room} {s : State} {m : MethodId} {args : Array Value} {below : List Frame} {meth : Method} {c : Code} {H : Heap} {locs : List Loc} {cells slots : Nat} {Q : State → Prop} {cc : ByteArray} {pc : Nat} {ls : Array Slot} {rest : List Value} {D : va_G} {A : Nat → Prop} {a : Nat} {tys : List (ClassId × FieldType)} {ws : va_W} {H0 : Heap} (hx : p.tables.exec = Jvm.exec) (hb : c.code = cc) (hts : ∀ w ∈ GW, w.before args s = true) (hown : s.vm.findClass RX11 = some m.cls) (hK : va_K D vwCl tys s) (hP : va_P D vwCl ws H) (hD : va_D A ws) (hS0 : va_S A H0 H locs) (q0 : Nat) {fs : List Value} (he : ws[q0]? = some (a, .inr (12, fs))) {v : Value} (hn : narrow (tyX11 41) v = v) (hfit : fits (tyX11 41) v = true) (hl : 41 < fs.length) (hdg : decode cc pc = .ok (.putfield 394, 3)) (kk : ∀ (H1 : Heap) (locs1 : List Loc), va_P D vwCl (ws.set q0 (a, .inr (12, fs.set 41 v))) H1 → va_D A (ws.set q0 (a, .inr (12, fs.set 41 v))) → va_S A H0 H1 locs1 → W p l e R s m args below meth c H1 locs1 cells slots Q (F0 m (pc + 3) ls rest)) : W p l e R s m args below meth c H locs cells slots Q (F0 m pc ls (v :: .ref a :: rest)) := va_put (C := RX11) (T := TX11) (N := 47) (ci := 12) hx hb hts inX11 tyX11 tkX11 nmX11 hown hK hP hD hS0 q0 he rfl 41 (by decide) (hts _ t1483) (fun _ h => h) rfl (tkX11 41 (by decide)) hn hfit hl hdg kk
theorem dX11_book_147 : decode cX11_book 147 = .ok (.aload_n 0, 1) := by decide +kernel
theorem dX11_book_148 : decode cX11_book 148 = .ok (.iload_n 1, 1) := by decide +kernel
theorem dX11_book_149 : decode cX11_book 149 = .ok (.iconst 1, 1) := by decide +kernel
theorem dX11_book_150 : decode cX11_book 150 = .ok (.if_icmp .ne 11, 3) := by decide +kernel
theorem dX11_book_161 : decode cX11_book 161 = .ok (.iconst 0, 1) := by decide +kernel
theorem dX11_book_162 : decode cX11_book 162 = .ok (.invokevirtual 398, 3) := by decide +kernel
theorem t2007 : Cond.methodLink RX11 398 yX11_stay ∈ GW := gw_mem 2121 (by decide +kernel) (by decide +kernel)
theorem t2009 : Cond.instanceMethod yX11_stay ∈ GW := gw_mem 2123 (by decide +kernel) (by decide +kernel)
theorem s104 : Cond.selects RX11 yX11_stay yX11_stay ∈ GW := gw_mem 104 (by decide +kernel) (by decide +kernel)
theorem cw_X11_398 {R : Room} {s : State} {args : Array Value} {rm : Room} {mc ms : Nat} (hts : ∀ w ∈ GW, w.before args s = true) (hrc : rm.cells = mc) (hrs : rm.slots = ms) (hR : rm.frames + 1 ≤ R.frames ∧ 8 + (4 + 11) + rm.locals ≤ R.locals) : CallW R s args RX11 RX11 398 yX11_stay cX11_stay 4 none (wl yX11_stay cX11_stay 4 none) rm mc ms 1 := cwV 1 hts (gi_V t2007 t2009 s104 t18 t2010) rfl hrc hrs (by decide +kernel) hR
theorem dX11_book_165 : decode cX11_book 165 = .ok (.iload_n 3, 1) := by decide +kernel
theorem dX11_book_166 : decode cX11_book 166 = .ok (.ifCond .ne 7, 3) := by decide +kernel
theorem dX11_book_173 : decode cX11_book 173 = .ok (.iload_n 2, 1) := by decide +kernel
theorem dX11_book_174 : decode cX11_book 174 = .ok (.ireturn, 1) := by decide +kernel
theorem dX11_book_169 : decode cX11_book 169 = .ok (.iconst (-1), 1) := by decide +kernel
theorem dX11_book_170 : decode cX11_book 170 = .ok (.goto 4, 3) := by decide +kernel
theorem dX11_book_153 : decode cX11_book 153 = .ok (.iload_n 2, 1) := by decide +kernel
theorem dX11_book_154 : decode cX11_book 154 = .ok (.ifCond .le 7, 3) := by decide +kernel
theorem dX11_book_157 : decode cX11_book 157 = .ok (.iconst 1, 1) := by decide +kernel
theorem dX11_book_158 : decode cX11_book 158 = .ok (.goto 4, 3) := by decide +kernel
theorem dX11_book_71 : decode cX11_book 71 = .ok (.iconst 0, 1) := by decide +kernel
theorem dX11_book_72 : decode cX11_book 72 = .ok (.istore_n 3, 1) := by decide +kernel
theorem dX11_book_73 : decode cX11_book 73 = .ok (.iload_n 2, 1) := by decide +kernel
theorem dX11_book_74 : decode cX11_book 74 = .ok (.aload_n 0, 1) := by decide +kernel
theorem dX11_book_75 : decode cX11_book 75 = .ok (.getfield 382, 3) := by decide +kernel
theorem dX11_book_78 : decode cX11_book 78 = .ok (.if_icmp .ge 25, 3) := by decide +kernel
theorem dX11_book_81 : decode cX11_book 81 = .ok (.iload_n 3, 1) := by decide +kernel
theorem dX11_book_82 : decode cX11_book 82 = .ok (.ifCond .ne 21, 3) := by decide +kernel
theorem dX11_book_85 : decode cX11_book 85 = .ok (.aload_n 0, 1) := by decide +kernel
theorem dX11_book_86 : decode cX11_book 86 = .ok (.iconst 4, 1) := by decide +kernel
theorem dX11_book_87 : decode cX11_book 87 = .ok (.iload_n 2, 1) := by decide +kernel
theorem dX11_book_88 : decode cX11_book 88 = .ok (.imul, 1) := by decide +kernel
theorem dX11_book_89 : decode cX11_book 89 = .ok (.invokevirtual 391, 3) := by decide +kernel
theorem t2003 : Cond.methodLink RX11 391 yX11_goBy ∈ GW := gw_mem 2117 (by decide +kernel) (by decide +kernel)
theorem t2005 : Cond.instanceMethod yX11_goBy ∈ GW := gw_mem 2119 (by decide +kernel) (by decide +kernel)
theorem s103 : Cond.selects RX11 yX11_goBy yX11_goBy ∈ GW := gw_mem 103 (by decide +kernel) (by decide +kernel)
theorem cw_X11_391 {R : Room} {s : State} {args : Array Value} {rm : Room} {mc ms : Nat} (hts : ∀ w ∈ GW, w.before args s = true) (hrc : rm.cells = mc) (hrs : rm.slots = ms) (hR : rm.frames + 1 ≤ R.frames ∧ 8 + (4 + 11) + rm.locals ≤ R.locals) : CallW R s args RX11 RX11 391 yX11_goBy cX11_goBy 4 (some .int) (wl yX11_goBy cX11_goBy 4 (some .int)) rm mc ms 1 := cwV 1 hts (gi_V t2003 t2005 s103 t18 t2006) rfl hrc hrs (by decide +kernel) hR
theorem dX11_book_92 : decode cX11_book 92 = .ok (.istore_n 3, 1) := by decide +kernel
theorem dX11_book_93 : decode cX11_book 93 = .ok (.iload_n 3, 1) := by decide +kernel
theorem dX11_book_94 : decode cX11_book 94 = .ok (.ifCond .ne (-21), 3) := by decide +kernel
theorem dX11_book_97 : decode cX11_book 97 = .ok (.iinc 2 1, 3) := by decide +kernel
theorem dX11_book_100 : decode cX11_book 100 = .ok (.goto (-27), 3) := by decide +kernel
theorem dX11_book_37 : decode cX11_book 37 = .ok (.aload_n 0, 1) := by decide +kernel
theorem dX11_book_38 : decode cX11_book 38 = .ok (.invokevirtual 388, 3) := by decide +kernel
theorem t1979 : Cond.methodLink RX11 388 yX11_readBookLine ∈ GW := gw_mem 2093 (by decide +kernel) (by decide +kernel)
theorem t1981 : Cond.instanceMethod yX11_readBookLine ∈ GW := gw_mem 2095 (by decide +kernel) (by decide +kernel)
theorem s97 : Cond.selects RX11 yX11_readBookLine yX11_readBookLine ∈ GW := gw_mem 97 (by decide +kernel) (by decide +kernel)
theorem cw_X11_388 {R : Room} {s : State} {args : Array Value} {rm : Room} {mc ms : Nat} (hts : ∀ w ∈ GW, w.before args s = true) (hrc : rm.cells = mc) (hrs : rm.slots = ms) (hR : rm.frames + 1 ≤ R.frames ∧ 8 + (3 + 11) + rm.locals ≤ R.locals) : CallW R s args RX11 RX11 388 yX11_readBookLine cX11_readBookLine 3 (some .boolean) (wl yX11_readBookLine cX11_readBookLine 3 (some .boolean)) rm mc ms 0 := cwV 0 hts (gi_V t1979 t1981 s97 t18 t1982) rfl hrc hrs (by decide +kernel) hR
theorem dX11_book_41 : decode cX11_book 41 = .ok (.ifCond .ne 11, 3) := by decide +kernel
theorem dX11_book_44 : decode cX11_book 44 = .ok (.bipush (-2), 2) := by decide +kernel
theorem dX11_book_46 : decode cX11_book 46 = .ok (.aload_n 0, 1) := by decide +kernel
theorem dX11_book_47 : decode cX11_book 47 = .ok (.getfield 69, 3) := by decide +kernel
theorem dX11_book_50 : decode cX11_book 50 = .ok (.isub, 1) := by decide +kernel
theorem dX11_book_51 : decode cX11_book 51 = .ok (.ireturn, 1) := by decide +kernel
theorem dX11_book_52 : decode cX11_book 52 = .ok (.aload_n 0, 1) := by decide +kernel
theorem dX11_book_53 : decode cX11_book 53 = .ok (.dup, 1) := by decide +kernel
theorem dX11_book_54 : decode cX11_book 54 = .ok (.getfield 382, 3) := by decide +kernel
theorem dX11_book_57 : decode cX11_book 57 = .ok (.iconst 1, 1) := by decide +kernel
theorem dX11_book_58 : decode cX11_book 58 = .ok (.iadd, 1) := by decide +kernel
theorem dX11_book_59 : decode cX11_book 59 = .ok (.putfield 382, 3) := by decide +kernel
theorem dX11_book_62 : decode cX11_book 62 = .ok (.goto (-32), 3) := by decide +kernel
set_option maxHeartbeats 4000000 in
set_option maxRecDepth 100000 in
theorem m_book (l : Launch) (dC : Nat → ClassId) (dI : Nat → Nat → Nat) (cy : Nat → ClassId) (sz : Nat) (vnh : Nat → Int32) (vo : Nat) (voth : Int32) (vmt : Nat) (votp : Int32) (vosz : Int32) (volm : Int32) (voto : Int32) (vofr : Int32) (vokd : Int32) (vonu : Int32) (vosg : Int32) (vofa : Int32) (vopl : Int32) (vowd : Int64) (votd : Int32) (vmn : Nat) (vmr : Nat) (vmk : Nat) (vms : Nat) (vma : Nat) (vmm : Nat) (vmrn : Nat) (vmkn : Nat) (vmik : Nat) (vmon : Nat) (vosm : Int32) (vohp : Int32) (vmw : Nat) (vmf : Nat) (vmb : Nat) (vomb : Int32) (vmd : Nat) (vmc : Nat) (vocm : Int32) (voct : Int32) (vocy : Int32) (vmx : Nat) (votx : Int32) (vose : Int32) (vml : Nat) (vmwr : Nat) (voln : Int32) (vohw : Int32) (vmno : Nat) (vond : Int32) (voon : Int32) (vowi : Int32) (votop : Int32) (vmtf : Nat → Int32) (vmnf : Nat → Int32) (vmmf : Nat → Int64) (vmsf : Nat → Int32) (vmaf : Nat → Int32) (vmlf : Nat → Int32) (vmwrf : Nat → Int32) (vn : Int32) (r_votp : 0 ≤ (votp : Int32).toInt ∧ (votp : Int32).toInt ≤ 940) (r_votd : -1 ≤ (votd : Int32).toInt ∧ (votd : Int32).toInt ≤ 999) (r_vosm : 0 ≤ (vosm : Int32).toInt ∧ (vosm : Int32).toInt ≤ 8) (p_vmtf : Rg vmtf 940 0 255) (p_vmnf : NW vnh vmnf) (p_vmlf : LQ vmlf) : Met l yX11_book (wl yX11_book cX11_book 4 (some .int)) ({ frames := 8, cells := 0, slots := 0, locals := 512 }) (Pw (dC, dI) vwCl cy [(vo, .inr (12, [.int voth, .ref vmt, .int votp, .int vosz, .int volm, .int voto, .int vofr, .int vokd, .int vonu, .int vosg, .int vofa, .int vopl, .long vowd, .int votd, .ref vmn, .ref vmr, .ref vmk, .ref vms, .ref vma, .ref vmm, .ref vmrn, .ref vmkn, .ref vmik, .ref vmon, .int vosm, .int vohp, .ref vmw, .ref vmf, .ref vmb, .int vomb, .ref vmd, .ref vmc, .int vocm, .int voct, .int vocy, .ref vmx, .int votx, .int vose, .ref vml, .ref vmwr, .int voln, .int vohw, .ref vmno, .int vond, .int voon, .int vowi, .int votop])), (vmt, .inl (cy 0, 940, .inl vmtf)), (vmn, .inl (cy 0, 575, .inl vmnf)), (vmm, .inl (cy 1, 17, .inr (.inl vmmf))), (vms, .inl (cy 0, 1408, .inl vmsf)), (vma, .inl (cy 0, 176, .inl vmaf)), (vml, .inl (cy 0, 160, .inl vmlf)), (vmwr, .inl (cy 0, 4, .inl vmwrf))] sz [.ref vo, .int vn] nE) (Qi (dC, dI) vwCl (fun (r : Int32) (u : Int32 × Int32 × Int32 × Int32 × Int32 × Int32 × Int32 × Int32 × Int64 × Int32 × Int32 × Int32 × Int32 × Int32 × (Nat → Int32) × (Nat → Int32) × (Nat → Int32) × (Nat → Int32) × Int32 × (Nat → Int32) × Int32) => (0 ≤ (u.2.1 : Int32).toInt ∧ (u.2.1 : Int32).toInt ≤ 940) ∧ (-1 ≤ (u.2.2.2.2.2.2.2.2.2.2.2.2.1 : Int32).toInt ∧ (u.2.2.2.2.2.2.2.2.2.2.2.2.1 : Int32).toInt ≤ 999) ∧ (LQ u.2.2.2.2.2.2.2.2.2.2.2.2.2.2.1) ∧ (NW vnh u.2.2.2.2.2.2.2.2.2.2.2.2.2.2.2.1) ∧ (0 ≤ (u.2.2.2.2.2.2.2.2.2.2.2.2.2.2.2.2.2.2.1 : Int32).toInt ∧ (u.2.2.2.2.2.2.2.2.2.2.2.2.2.2.2.2.2.2.1 : Int32).toInt ≤ 8) ∧ (((((vn : Int32).toInt < 0 ∨ 1 < (vn : Int32).toInt) ∧ (u.2.1 : Int32).toInt = (votp : Int32).toInt) ∨ (0 ≤ (vn : Int32).toInt ∧ (vn : Int32).toInt ≤ 1 ∧ (u.2.1 : Int32).toInt = 0)))) (O_m_book cy vnh vo voth vmt votp vosz volm voto vofr vokd vonu vosg vofa vopl vowd votd vmn vmr vmk vms vma vmm vmrn vmkn vmik vmon vosm vohp vmw vmf vmb vomb vmd vmc vocm voct vocy vmx votx vose vml vmwr voln vohw vmno vond voon vowi votop vmtf vmnf vmmf vmsf vmaf vmlf vmwrf vn) (va_A [(vo, .inr (12, [.int voth, .ref vmt, .int votp, .int vosz, .int volm, .int voto, .int vofr, .int vokd, .int vonu, .int vosg, .int vofa, .int vopl, .long vowd, .int votd, .ref vmn, .ref vmr, .ref vmk, .ref vms, .ref vma, .ref vmm, .ref vmrn, .ref vmkn, .ref vmik, .ref vmon, .int vosm, .int vohp, .ref vmw, .ref vmf, .ref vmb, .int vomb, .ref vmd, .ref vmc, .int vocm, .int voct, .int vocy, .ref vmx, .int votx, .int vose, .ref vml, .ref vmwr, .int voln, .int vohw, .ref vmno, .int vond, .int voon, .int vowi, .int votop])), (vmt, .inl (cy 0, 940, .inl vmtf)), (vmn, .inl (cy 0, 575, .inl vmnf)), (vmm, .inl (cy 1, 17, .inr (.inl vmmf))), (vms, .inl (cy 0, 1408, .inl vmsf)), (vma, .inl (cy 0, 176, .inl vmaf)), (vml, .inl (cy 0, 160, .inl vmlf)), (vmwr, .inl (cy 0, 4, .inl vmwrf))] sz)) 0 0 (va_A [(vo, .inr (12, [.int voth, .ref vmt, .int votp, .int vosz, .int volm, .int voto, .int vofr, .int vokd, .int vonu, .int vosg, .int vofa, .int vopl, .long vowd, .int votd, .ref vmn, .ref vmr, .ref vmk, .ref vms, .ref vma, .ref vmm, .ref vmrn, .ref vmkn, .ref vmik, .ref vmon, .int vosm, .int vohp, .ref vmw, .ref vmf, .ref vmb, .int vomb, .ref vmd, .ref vmc, .int vocm, .int voct, .int vocy, .ref vmx, .int votx, .int vose, .ref vml, .ref vmwr, .int voln, .int vohw, .ref vmno, .int vond, .int voon, .int vowi, .int votop])), (vmt, .inl (cy 0, 940, .inl vmtf)), (vmn, .inl (cy 0, 575, .inl vmnf)), (vmm, .inl (cy 1, 17, .inr (.inl vmmf))), (vms, .inl (cy 0, 1408, .inl vmsf)), (vma, .inl (cy 0, 176, .inl vmaf)), (vml, .inl (cy 0, 160, .inl vmlf)), (vmwr, .inl (cy 0, 4, .inl vmwrf))] sz) := by
  refine mw (Qc := Qi (dC, dI) vwCl (fun (r : Int32) (u : Int32 × Int32 × Int32 × Int32 × Int32 × Int32 × Int32 × Int32 × Int64 × Int32 × Int32 × Int32 × Int32 × Int32 × (Nat → Int32) × (Nat → Int32) × (Nat → Int32) × (Nat → Int32) × Int32 × (Nat → Int32) × Int32) => (0 ≤ (u.2.1 : Int32).toInt ∧ (u.2.1 : Int32).toInt ≤ 940) ∧ (-1 ≤ (u.2.2.2.2.2.2.2.2.2.2.2.2.1 : Int32).toInt ∧ (u.2.2.2.2.2.2.2.2.2.2.2.2.1 : Int32).toInt ≤ 999) ∧ (LQ u.2.2.2.2.2.2.2.2.2.2.2.2.2.2.1) ∧ (NW vnh u.2.2.2.2.2.2.2.2.2.2.2.2.2.2.2.1) ∧ (0 ≤ (u.2.2.2.2.2.2.2.2.2.2.2.2.2.2.2.2.2.2.1 : Int32).toInt ∧ (u.2.2.2.2.2.2.2.2.2.2.2.2.2.2.2.2.2.2.1 : Int32).toInt ≤ 8) ∧ (((((vn : Int32).toInt < 0 ∨ 1 < (vn : Int32).toInt) ∧ (u.2.1 : Int32).toInt = (votp : Int32).toInt) ∨ (0 ≤ (vn : Int32).toInt ∧ (vn : Int32).toInt ≤ 1 ∧ (u.2.1 : Int32).toInt = 0)))) (O_m_book cy vnh vo voth vmt votp vosz volm voto vofr vokd vonu vosg vofa vopl vowd votd vmn vmr vmk vms vma vmm vmrn vmkn vmik vmon vosm vohp vmw vmf vmb vomb vmd vmc vocm voct vocy vmx votx vose vml vmwr voln vohw vmno vond voon vowi votop vmtf vmnf vmmf vmsf vmaf vmlf vmwrf vn)) RX11 rfl (by decide +kernel) (Nat.le_of_ble_eq_true rfl) ?_
  intro p e s m below meth c A hx hb hr hlocks av9 hav hts hown hnm hml hK hP hD hA hS hE hAe Q9 hQ9 ls hl
  have hl : lv_has ls 4 [(0, .ref vo), (1, .int vn)] := hl
  refine lv_aload_n hx hb dX11_book_0 rfl (lv_at hl 0 rfl) ?_
  refine lv_iconst (v := 0) hx hb dX11_book_1 (by decide) ?_
  refine pf_X11_1 hx hb hts hown hK hP hD hS 0 rfl rfl rfl (Nat.le_of_ble_eq_true rfl) dX11_book_2 (fun H locs hP hD hS => ?_)
  have hP : va_P (dC, dI) vwCl [(vo, .inr (12, [.int 0, .ref vmt, .int votp, .int vosz, .int volm, .int voto, .int vofr, .int vokd, .int vonu, .int vosg, .int vofa, .int vopl, .long vowd, .int votd, .ref vmn, .ref vmr, .ref vmk, .ref vms, .ref vma, .ref vmm, .ref vmrn, .ref vmkn, .ref vmik, .ref vmon, .int vosm, .int vohp, .ref vmw, .ref vmf, .ref vmb, .int vomb, .ref vmd, .ref vmc, .int vocm, .int voct, .int vocy, .ref vmx, .int votx, .int vose, .ref vml, .ref vmwr, .int voln, .int vohw, .ref vmno, .int vond, .int voon, .int vowi, .int votop])), (vmt, .inl (cy 0, 940, .inl vmtf)), (vmn, .inl (cy 0, 575, .inl vmnf)), (vmm, .inl (cy 1, 17, .inr (.inl vmmf))), (vms, .inl (cy 0, 1408, .inl vmsf)), (vma, .inl (cy 0, 176, .inl vmaf)), (vml, .inl (cy 0, 160, .inl vmlf)), (vmwr, .inl (cy 0, 4, .inl vmwrf))] H := hP
  have hD : va_D A [(vo, .inr (12, [.int 0, .ref vmt, .int votp, .int vosz, .int volm, .int voto, .int vofr, .int vokd, .int vonu, .int vosg, .int vofa, .int vopl, .long vowd, .int votd, .ref vmn, .ref vmr, .ref vmk, .ref vms, .ref vma, .ref vmm, .ref vmrn, .ref vmkn, .ref vmik, .ref vmon, .int vosm, .int vohp, .ref vmw, .ref vmf, .ref vmb, .int vomb, .ref vmd, .ref vmc, .int vocm, .int voct, .int vocy, .ref vmx, .int votx, .int vose, .ref vml, .ref vmwr, .int voln, .int vohw, .ref vmno, .int vond, .int voon, .int vowi, .int votop])), (vmt, .inl (cy 0, 940, .inl vmtf)), (vmn, .inl (cy 0, 575, .inl vmnf)), (vmm, .inl (cy 1, 17, .inr (.inl vmmf))), (vms, .inl (cy 0, 1408, .inl vmsf)), (vma, .inl (cy 0, 176, .inl vmaf)), (vml, .inl (cy 0, 160, .inl vmlf)), (vmwr, .inl (cy 0, 4, .inl vmwrf))] := hD
  refine lv_iload_n hx hb dX11_book_5 rfl (lv_at hl 1 rfl) ?_
  refine lv_iconst (v := 0) hx hb dX11_book_6 (by decide) ?_
  refine lv_iconst (v := 1) hx hb dX11_book_7 (by decide) ?_
  have k_0 : (0 : Int32).toInt = 0 := by decide
  have k_1 : (1 : Int32).toInt = 1 := by decide
  refine jr_i (rSr (As := [.int vn, .int 0, .int 1]) (rest := []) ⟨hx, hb, hml, hown, hts⟩ (m_isIn l dC dI cy vn 0 1 ) (cw_X11_75 hts rfl rfl ⟨Nat.le_of_ble_eq_true rfl, Nat.le_of_ble_eq_true rfl⟩) hP hK [] rfl rfl hl.1 rfl (Nat.le_of_ble_eq_true rfl) dX11_book_8 ⟨Nat.le_of_ble_eq_true rfl, Nat.le_of_ble_eq_true rfl⟩) hP hS (fun r_1 H locs hp_2 hP hS => ?_)
  have hp_2 : ((r_1 = 0 ∧ ((vn : Int32).toInt < (0 : Int32).toInt ∨ (1 : Int32).toInt < (vn : Int32).toInt)) ∨ (r_1 = 1 ∧ (0 : Int32).toInt ≤ (vn : Int32).toInt ∧ (vn : Int32).toInt ≤ (1 : Int32).toInt)) := hp_2
  have q_3 := hp_2
  rcases q_3 with ⟨aq_3, f0q_3⟩ | ⟨aq_3, f0q_3, f1q_3⟩
  · skip
    refine as_i 0 aq_3 ?_
    refine lv_if_ne (tgt := 18) hx hb dX11_book_11 (by decide) (fun c9 => absurd c9 (by decide)) (fun _ => ?_)
    refine lv_sipush (v := (-1000)) hx hb dX11_book_14 (by decide) ?_
    have k_m1000 : ((-1000) : Int32).toInt = (-1000) := by decide
    rw [hQ9]
    exact re_i ((0 : Int32), votp, vosz, volm, voto, vofr, vokd, vosg, vowd, vonu, vofa, vopl, votd, voln, vmlf, vmnf, vmaf, vmsf, vosm, vmwrf, vohw) hx hb hr hlocks ⟨(show 0 ≤ (votp : Int32).toInt ∧ (votp : Int32).toInt ≤ 940 from ⟨by omega, by omega⟩), (show -1 ≤ (votd : Int32).toInt ∧ (votd : Int32).toInt ≤ 999 from ⟨by omega, by omega⟩), (show LQ vmlf from p_vmlf), (show NW vnh vmnf from p_vmnf), (show 0 ≤ (vosm : Int32).toInt ∧ (vosm : Int32).toInt ≤ 8 from ⟨by omega, by omega⟩), (show ((((vn : Int32).toInt < 0 ∨ 1 < (vn : Int32).toInt) ∧ (votp : Int32).toInt = (votp : Int32).toInt) ∨ (0 ≤ (vn : Int32).toInt ∧ (vn : Int32).toInt ≤ 1 ∧ (votp : Int32).toInt = 0)) from (by omega))⟩ (hP.sub [0, 1, 2, 3, 4, 5, 6, 7] rfl) (hD.sub [0, 1, 2, 3, 4, 5, 6, 7] rfl rfl) hS dX11_book_17
  · skip
    refine as_i 1 aq_3 ?_
    refine lv_if_ne (tgt := 18) hx hb dX11_book_11 (by decide) (fun _ => ?_) (fun c9 => absurd c9 (by decide))
    refine lv_aload_n hx hb dX11_book_18 rfl (lv_at hl 0 rfl) ?_
    refine lv_sipush (v := 400) hx hb dX11_book_19 (by decide) ?_
    have k_400 : (400 : Int32).toInt = 400 := by decide
    refine jn_v (wr := [(vmn, .inl (cy 0, 575, .inl vmnf)), (vmm, .inl (cy 1, 17, .inr (.inl vmmf))), (vms, .inl (cy 0, 1408, .inl vmsf)), (vma, .inl (cy 0, 176, .inl vmaf)), (vml, .inl (cy 0, 160, .inl vmlf)), (vmwr, .inl (cy 0, 4, .inl vmwrf))]) (rV (As := [.int 400]) (rest := []) (ci := 12) ⟨hx, hb, hml, hown, hts⟩ (m_begin l dC dI cy _ vo 0 vmt votp vosz volm voto vofr vokd vonu vosg vofa vopl vowd votd vmn vmr vmk vms vma vmm vmrn vmkn vmik vmon vosm vohp vmw vmf vmb vomb vmd vmc vocm voct vocy vmx votx vose vml vmwr voln vohw vmno vond voon vowi votop vmtf 400 r_votp p_vmtf) (cw_X11_216 hts rfl rfl ⟨Nat.le_of_ble_eq_true rfl, Nat.le_of_ble_eq_true rfl⟩) hP hD hK [0, 1] rfl rfl rfl rfl bl0 e0 rfl hl.1 rfl (Nat.le_of_ble_eq_true rfl) dX11_book_22 ⟨Nat.le_of_ble_eq_true rfl, Nat.le_of_ble_eq_true rfl⟩) hP hD hS hA [0, 1] [2, 3, 4, 5, 6, 7] rfl rfl rfl (by decide) (fun u_6 H locs hp_5 hP hD hS => ?_)
    obtain ⟨voto_7, vofr_8, vokd_9, vosg_10, vowd_11, vonu_12, vofa_13, voth_14, votp_15, vosz_16, volm_17⟩ := u_6
    have hp_5 : (0 ≤ (voto_7 : Int32).toInt ∧ (voto_7 : Int32).toInt ≤ 940) ∧ (0 ≤ (votp_15 : Int32).toInt ∧ (votp_15 : Int32).toInt ≤ 0) ∧ (0 ≤ (vosz_16 : Int32).toInt ∧ (vosz_16 : Int32).toInt ≤ 940) := hp_5
    obtain ⟨q_18, q_19, q_20⟩ := hp_5
    have hP : va_P (dC, dI) vwCl [(vmn, .inl (cy 0, 575, .inl vmnf)), (vmm, .inl (cy 1, 17, .inr (.inl vmmf))), (vms, .inl (cy 0, 1408, .inl vmsf)), (vma, .inl (cy 0, 176, .inl vmaf)), (vml, .inl (cy 0, 160, .inl vmlf)), (vmwr, .inl (cy 0, 4, .inl vmwrf)), (vo, .inr (12, [.int voth_14, .ref vmt, .int votp_15, .int vosz_16, .int volm_17, .int voto_7, .int vofr_8, .int vokd_9, .int vonu_12, .int vosg_10, .int vofa_13, .int vopl, .long vowd_11, .int votd, .ref vmn, .ref vmr, .ref vmk, .ref vms, .ref vma, .ref vmm, .ref vmrn, .ref vmkn, .ref vmik, .ref vmon, .int vosm, .int vohp, .ref vmw, .ref vmf, .ref vmb, .int vomb, .ref vmd, .ref vmc, .int vocm, .int voct, .int vocy, .ref vmx, .int votx, .int vose, .ref vml, .ref vmwr, .int voln, .int vohw, .ref vmno, .int vond, .int voon, .int vowi, .int votop])), (vmt, .inl (cy 0, 940, .inl vmtf))] H := hP
    have hD : va_D A [(vmn, .inl (cy 0, 575, .inl vmnf)), (vmm, .inl (cy 1, 17, .inr (.inl vmmf))), (vms, .inl (cy 0, 1408, .inl vmsf)), (vma, .inl (cy 0, 176, .inl vmaf)), (vml, .inl (cy 0, 160, .inl vmlf)), (vmwr, .inl (cy 0, 4, .inl vmwrf)), (vo, .inr (12, [.int voth_14, .ref vmt, .int votp_15, .int vosz_16, .int volm_17, .int voto_7, .int vofr_8, .int vokd_9, .int vonu_12, .int vosg_10, .int vofa_13, .int vopl, .long vowd_11, .int votd, .ref vmn, .ref vmr, .ref vmk, .ref vms, .ref vma, .ref vmm, .ref vmrn, .ref vmkn, .ref vmik, .ref vmon, .int vosm, .int vohp, .ref vmw, .ref vmf, .ref vmb, .int vomb, .ref vmd, .ref vmc, .int vocm, .int voct, .int vocy, .ref vmx, .int votx, .int vose, .ref vml, .ref vmwr, .int voln, .int vohw, .ref vmno, .int vond, .int voon, .int vowi, .int votop])), (vmt, .inl (cy 0, 940, .inl vmtf))] := hD
    refine lv_aload_n hx hb dX11_book_25 rfl (lv_at hl 0 rfl) ?_
    refine lv_iconst (v := 0) hx hb dX11_book_26 (by decide) ?_
    refine pf_X11_382 hx hb hts hown hK hP hD hS 6 rfl rfl rfl (Nat.le_of_ble_eq_true rfl) dX11_book_27 (fun H locs hP hD hS => ?_)
    have hP : va_P (dC, dI) vwCl [(vmn, .inl (cy 0, 575, .inl vmnf)), (vmm, .inl (cy 1, 17, .inr (.inl vmmf))), (vms, .inl (cy 0, 1408, .inl vmsf)), (vma, .inl (cy 0, 176, .inl vmaf)), (vml, .inl (cy 0, 160, .inl vmlf)), (vmwr, .inl (cy 0, 4, .inl vmwrf)), (vo, .inr (12, [.int voth_14, .ref vmt, .int votp_15, .int vosz_16, .int volm_17, .int voto_7, .int vofr_8, .int vokd_9, .int vonu_12, .int vosg_10, .int vofa_13, .int vopl, .long vowd_11, .int votd, .ref vmn, .ref vmr, .ref vmk, .ref vms, .ref vma, .ref vmm, .ref vmrn, .ref vmkn, .ref vmik, .ref vmon, .int vosm, .int vohp, .ref vmw, .ref vmf, .ref vmb, .int vomb, .ref vmd, .ref vmc, .int vocm, .int voct, .int vocy, .ref vmx, .int votx, .int vose, .ref vml, .ref vmwr, .int 0, .int vohw, .ref vmno, .int vond, .int voon, .int vowi, .int votop])), (vmt, .inl (cy 0, 940, .inl vmtf))] H := hP
    have hD : va_D A [(vmn, .inl (cy 0, 575, .inl vmnf)), (vmm, .inl (cy 1, 17, .inr (.inl vmmf))), (vms, .inl (cy 0, 1408, .inl vmsf)), (vma, .inl (cy 0, 176, .inl vmaf)), (vml, .inl (cy 0, 160, .inl vmlf)), (vmwr, .inl (cy 0, 4, .inl vmwrf)), (vo, .inr (12, [.int voth_14, .ref vmt, .int votp_15, .int vosz_16, .int volm_17, .int voto_7, .int vofr_8, .int vokd_9, .int vonu_12, .int vosg_10, .int vofa_13, .int vopl, .long vowd_11, .int votd, .ref vmn, .ref vmr, .ref vmk, .ref vms, .ref vma, .ref vmm, .ref vmrn, .ref vmkn, .ref vmik, .ref vmon, .int vosm, .int vohp, .ref vmw, .ref vmf, .ref vmb, .int vomb, .ref vmd, .ref vmc, .int vocm, .int voct, .int vocy, .ref vmx, .int votx, .int vose, .ref vml, .ref vmwr, .int 0, .int vohw, .ref vmno, .int vond, .int voon, .int vowi, .int votop])), (vmt, .inl (cy 0, 940, .inl vmtf))] := hD
    have loop21 : ∀ (n21 : Nat) (x_22 : Int32) (x_23 : Int32) (x_24 : Int32) (x_25 : Int32) (x_26 : Int64) (x_27 : Int32) (x_28 : Int32) (x_29 : Int32) (x_30 : Int32) (x_31 : Int32) (g_32 : Nat → Int32), (0 ≤ x_22.toInt ∧ x_22.toInt ≤ 940) → (-1 ≤ x_30.toInt ∧ x_30.toInt ≤ 999) → (0 ≤ x_31.toInt ∧ x_31.toInt ≤ 40) → LQ g_32 → 40 - x_31.toInt < (n21 : Int) → ∀ (H : Heap) (locs : List Loc), va_P (dC, dI) vwCl [(vmn, .inl (cy 0, 575, .inl vmnf)), (vmm, .inl (cy 1, 17, .inr (.inl vmmf))), (vms, .inl (cy 0, 1408, .inl vmsf)), (vma, .inl (cy 0, 176, .inl vmaf)), (vml, .inl (cy 0, 160, .inl g_32)), (vmwr, .inl (cy 0, 4, .inl vmwrf)), (vo, .inr (12, [.int voth_14, .ref vmt, .int votp_15, .int vosz_16, .int volm_17, .int x_22, .int x_23, .int x_24, .int x_27, .int x_25, .int x_28, .int x_29, .long x_26, .int x_30, .ref vmn, .ref vmr, .ref vmk, .ref vms, .ref vma, .ref vmm, .ref vmrn, .ref vmkn, .ref vmik, .ref vmon, .int vosm, .int vohp, .ref vmw, .ref vmf, .ref vmb, .int vomb, .ref vmd, .ref vmc, .int vocm, .int voct, .int vocy, .ref vmx, .int votx, .int vose, .ref vml, .ref vmwr, .int x_31, .int vohw, .ref vmno, .int vond, .int voon, .int vowi, .int votop])), (vmt, .inl (cy 0, 940, .inl vmtf))] H → va_D A [(vmn, .inl (cy 0, 575, .inl vmnf)), (vmm, .inl (cy 1, 17, .inr (.inl vmmf))), (vms, .inl (cy 0, 1408, .inl vmsf)), (vma, .inl (cy 0, 176, .inl vmaf)), (vml, .inl (cy 0, 160, .inl g_32)), (vmwr, .inl (cy 0, 4, .inl vmwrf)), (vo, .inr (12, [.int voth_14, .ref vmt, .int votp_15, .int vosz_16, .int volm_17, .int x_22, .int x_23, .int x_24, .int x_27, .int x_25, .int x_28, .int x_29, .long x_26, .int x_30, .ref vmn, .ref vmr, .ref vmk, .ref vms, .ref vma, .ref vmm, .ref vmrn, .ref vmkn, .ref vmik, .ref vmon, .int vosm, .int vohp, .ref vmw, .ref vmf, .ref vmb, .int vomb, .ref vmd, .ref vmc, .int vocm, .int voct, .int vocy, .ref vmx, .int votx, .int vose, .ref vml, .ref vmwr, .int x_31, .int vohw, .ref vmno, .int vond, .int voon, .int vowi, .int votop])), (vmt, .inl (cy 0, 940, .inl vmtf))] → va_S A s.heap H locs → ∀ ls : Array Slot, lv_has ls 4 [(0, .ref vo), (1, .int vn)] → W p l e ({ frames := 8, cells := 0, slots := 0, locals := 512 }) s m av9 below meth c H locs 0 0 Q9 (F0 m 30 ls []) := by
      intro n21
      induction n21 with
      | zero =>
        intro x_22 x_23 x_24 x_25 x_26 x_27 x_28 x_29 x_30 x_31 g_32 bx_22 bx_30 bx_31 p_g_32 hn21 H locs hP hD hS ls hl
        exfalso; omega
      | succ n21 ih21 =>
        intro x_22 x_23 x_24 x_25 x_26 x_27 x_28 x_29 x_30 x_31 g_32 bx_22 bx_30 bx_31 p_g_32 hn21 H locs hP hD hS ls hl
        refine lv_aload_n hx hb dX11_book_30 rfl (lv_at hl 0 rfl) ?_
        refine gf_X11_30 hx hb hts hown hK hP 6 rfl rfl dX11_book_31 ?_
        refine lv_if_eq (tgt := 65) hx hb dX11_book_34 (by decide) (fun c_33 => ?_) (fun c_33 => ?_)
        · skip
          have c_33 : x_24.toInt = (0 : Int32).toInt := i_eq.mp c_33
          refine lv_aload_n hx hb dX11_book_65 rfl (lv_at hl 0 rfl) ?_
          refine jn_v (wr := [(vmm, .inl (cy 1, 17, .inr (.inl vmmf))), (vms, .inl (cy 0, 1408, .inl vmsf)), (vml, .inl (cy 0, 160, .inl g_32)), (vmwr, .inl (cy 0, 4, .inl vmwrf)), (vmt, .inl (cy 0, 940, .inl vmtf))]) (rV (As := []) (rest := []) (ci := 12) ⟨hx, hb, hml, hown, hts⟩ (m_layAside l dC dI cy _ vnh vo voth_14 vmt votp_15 vosz_16 volm_17 x_22 x_23 x_24 x_27 x_25 x_28 x_29 x_26 x_30 vmn vmr vmk vms vma vmm vmrn vmkn vmik vmon vosm vohp vmw vmf vmb vomb vmd vmc vocm voct vocy vmx votx vose vml vmwr x_31 vohw vmno vond voon vowi votop vmnf vmaf p_vmnf) (cw_X11_364 hts rfl rfl ⟨Nat.le_of_ble_eq_true rfl, Nat.le_of_ble_eq_true rfl⟩) hP hD hK [6, 0, 3] rfl rfl rfl rfl bl0 e0 rfl hl.1 rfl (Nat.le_of_ble_eq_true rfl) dX11_book_66 ⟨Nat.le_of_ble_eq_true rfl, Nat.le_of_ble_eq_true rfl⟩) hP hD hS hA [6, 0, 3] [1, 2, 4, 5, 7] rfl rfl rfl (by decide) (fun u_36 H locs hp_35 hP hD hS => ?_)
          obtain ⟨vmaf_37, rfl⟩ : ∃ z, z = u_36 := ⟨_, rfl⟩
          have hP : va_P (dC, dI) vwCl [(vmm, .inl (cy 1, 17, .inr (.inl vmmf))), (vms, .inl (cy 0, 1408, .inl vmsf)), (vml, .inl (cy 0, 160, .inl g_32)), (vmwr, .inl (cy 0, 4, .inl vmwrf)), (vmt, .inl (cy 0, 940, .inl vmtf)), (vo, .inr (12, [.int voth_14, .ref vmt, .int votp_15, .int vosz_16, .int volm_17, .int x_22, .int x_23, .int x_24, .int x_27, .int x_25, .int x_28, .int x_29, .long x_26, .int x_30, .ref vmn, .ref vmr, .ref vmk, .ref vms, .ref vma, .ref vmm, .ref vmrn, .ref vmkn, .ref vmik, .ref vmon, .int vosm, .int vohp, .ref vmw, .ref vmf, .ref vmb, .int vomb, .ref vmd, .ref vmc, .int vocm, .int voct, .int vocy, .ref vmx, .int votx, .int vose, .ref vml, .ref vmwr, .int x_31, .int vohw, .ref vmno, .int vond, .int voon, .int vowi, .int votop])), (vmn, .inl (cy 0, 575, .inl vmnf)), (vma, .inl (cy 0, 176, .inl vmaf_37))] H := hP
          have hD : va_D A [(vmm, .inl (cy 1, 17, .inr (.inl vmmf))), (vms, .inl (cy 0, 1408, .inl vmsf)), (vml, .inl (cy 0, 160, .inl g_32)), (vmwr, .inl (cy 0, 4, .inl vmwrf)), (vmt, .inl (cy 0, 940, .inl vmtf)), (vo, .inr (12, [.int voth_14, .ref vmt, .int votp_15, .int vosz_16, .int volm_17, .int x_22, .int x_23, .int x_24, .int x_27, .int x_25, .int x_28, .int x_29, .long x_26, .int x_30, .ref vmn, .ref vmr, .ref vmk, .ref vms, .ref vma, .ref vmm, .ref vmrn, .ref vmkn, .ref vmik, .ref vmon, .int vosm, .int vohp, .ref vmw, .ref vmf, .ref vmb, .int vomb, .ref vmd, .ref vmc, .int vocm, .int voct, .int vocy, .ref vmx, .int votx, .int vose, .ref vml, .ref vmwr, .int x_31, .int vohw, .ref vmno, .int vond, .int voon, .int vowi, .int votop])), (vmn, .inl (cy 0, 575, .inl vmnf)), (vma, .inl (cy 0, 176, .inl vmaf_37))] := hD
          refine lv_iconst (v := 0) hx hb dX11_book_69 (by decide) ?_
          refine lv_istore_n (lv' := [(2, .int 0), (0, .ref vo), (1, .int vn)]) hx hb dX11_book_70 rfl hl (by decide) rfl (fun ls hl => ?_)
          have join38 : ∀ (x_39 : Int32) (x_40 : Int32) (g_41 : Nat → Int32), (0 ≤ x_39.toInt ∧ x_39.toInt ≤ 40) → NW vnh g_41 → ∀ (H : Heap) (locs : List Loc), va_P (dC, dI) vwCl [(vmm, .inl (cy 1, 17, .inr (.inl vmmf))), (vms, .inl (cy 0, 1408, .inl vmsf)), (vml, .inl (cy 0, 160, .inl g_32)), (vmwr, .inl (cy 0, 4, .inl vmwrf)), (vmt, .inl (cy 0, 940, .inl vmtf)), (vo, .inr (12, [.int voth_14, .ref vmt, .int votp_15, .int vosz_16, .int volm_17, .int x_22, .int x_23, .int x_24, .int x_27, .int x_25, .int x_28, .int x_29, .long x_26, .int x_30, .ref vmn, .ref vmr, .ref vmk, .ref vms, .ref vma, .ref vmm, .ref vmrn, .ref vmkn, .ref vmik, .ref vmon, .int vosm, .int vohp, .ref vmw, .ref vmf, .ref vmb, .int vomb, .ref vmd, .ref vmc, .int vocm, .int voct, .int vocy, .ref vmx, .int votx, .int vose, .ref vml, .ref vmwr, .int x_31, .int vohw, .ref vmno, .int vond, .int voon, .int vowi, .int votop])), (vmn, .inl (cy 0, 575, .inl g_41)), (vma, .inl (cy 0, 176, .inl vmaf_37))] H → va_D A [(vmm, .inl (cy 1, 17, .inr (.inl vmmf))), (vms, .inl (cy 0, 1408, .inl vmsf)), (vml, .inl (cy 0, 160, .inl g_32)), (vmwr, .inl (cy 0, 4, .inl vmwrf)), (vmt, .inl (cy 0, 940, .inl vmtf)), (vo, .inr (12, [.int voth_14, .ref vmt, .int votp_15, .int vosz_16, .int volm_17, .int x_22, .int x_23, .int x_24, .int x_27, .int x_25, .int x_28, .int x_29, .long x_26, .int x_30, .ref vmn, .ref vmr, .ref vmk, .ref vms, .ref vma, .ref vmm, .ref vmrn, .ref vmkn, .ref vmik, .ref vmon, .int vosm, .int vohp, .ref vmw, .ref vmf, .ref vmb, .int vomb, .ref vmd, .ref vmc, .int vocm, .int voct, .int vocy, .ref vmx, .int votx, .int vose, .ref vml, .ref vmwr, .int x_31, .int vohw, .ref vmno, .int vond, .int voon, .int vowi, .int votop])), (vmn, .inl (cy 0, 575, .inl g_41)), (vma, .inl (cy 0, 176, .inl vmaf_37))] → va_S A s.heap H locs → ∀ ls : Array Slot, lv_has ls 4 [(2, .int x_39), (3, .int x_40), (0, .ref vo), (1, .int vn)] → W p l e ({ frames := 8, cells := 0, slots := 0, locals := 512 }) s m av9 below meth c H locs 0 0 Q9 (F0 m 103 ls []) := by
            intro x_39 x_40 g_41 bx_39 p_g_41 H locs hP hD hS ls hl
            refine lv_aload_n hx hb dX11_book_103 rfl (lv_at hl 2 rfl) ?_
            refine gf_X11_154 hx hb hts hown hK hP 5 rfl rfl dX11_book_104 ?_
            refine lv_iconst (v := 0) hx hb dX11_book_107 (by decide) ?_
            refine lv_iload_n hx hb dX11_book_108 rfl (lv_at hl 1 rfl) ?_
            have hin_42 : vp_in (0 : Int32) 4 := vp_in_iff.mpr ⟨by omega, by omega⟩
            refine va_iast hx hb hK hP hD hS 3 0 rfl rfl hin_42 dX11_book_109 (fun H locs hP hD hS => ?_)
            obtain ⟨f_43, ef_43⟩ : ∃ z : Nat → Int32, z = upd vmwrf (Int32.toNatClampNeg 0) x_40 := ⟨_, rfl⟩
            have hP : va_P (dC, dI) vwCl [(vmm, .inl (cy 1, 17, .inr (.inl vmmf))), (vms, .inl (cy 0, 1408, .inl vmsf)), (vml, .inl (cy 0, 160, .inl g_32)), (vmwr, .inl (cy 0, 4, .inl f_43)), (vmt, .inl (cy 0, 940, .inl vmtf)), (vo, .inr (12, [.int voth_14, .ref vmt, .int votp_15, .int vosz_16, .int volm_17, .int x_22, .int x_23, .int x_24, .int x_27, .int x_25, .int x_28, .int x_29, .long x_26, .int x_30, .ref vmn, .ref vmr, .ref vmk, .ref vms, .ref vma, .ref vmm, .ref vmrn, .ref vmkn, .ref vmik, .ref vmon, .int vosm, .int vohp, .ref vmw, .ref vmf, .ref vmb, .int vomb, .ref vmd, .ref vmc, .int vocm, .int voct, .int vocy, .ref vmx, .int votx, .int vose, .ref vml, .ref vmwr, .int x_31, .int vohw, .ref vmno, .int vond, .int voon, .int vowi, .int votop])), (vmn, .inl (cy 0, 575, .inl g_41)), (vma, .inl (cy 0, 176, .inl vmaf_37))] H := by rw [ef_43]; exact hP
            have hD : va_D A [(vmm, .inl (cy 1, 17, .inr (.inl vmmf))), (vms, .inl (cy 0, 1408, .inl vmsf)), (vml, .inl (cy 0, 160, .inl g_32)), (vmwr, .inl (cy 0, 4, .inl f_43)), (vmt, .inl (cy 0, 940, .inl vmtf)), (vo, .inr (12, [.int voth_14, .ref vmt, .int votp_15, .int vosz_16, .int volm_17, .int x_22, .int x_23, .int x_24, .int x_27, .int x_25, .int x_28, .int x_29, .long x_26, .int x_30, .ref vmn, .ref vmr, .ref vmk, .ref vms, .ref vma, .ref vmm, .ref vmrn, .ref vmkn, .ref vmik, .ref vmon, .int vosm, .int vohp, .ref vmw, .ref vmf, .ref vmb, .int vomb, .ref vmd, .ref vmc, .int vocm, .int voct, .int vocy, .ref vmx, .int votx, .int vose, .ref vml, .ref vmwr, .int x_31, .int vohw, .ref vmno, .int vond, .int voon, .int vowi, .int votop])), (vmn, .inl (cy 0, 575, .inl g_41)), (vma, .inl (cy 0, 176, .inl vmaf_37))] := by rw [ef_43]; exact hD
            refine lv_aload_n hx hb dX11_book_110 rfl (lv_at hl 2 rfl) ?_
            refine gf_X11_154 hx hb hts hown hK hP 5 rfl rfl dX11_book_111 ?_
            refine lv_iconst (v := 1) hx hb dX11_book_114 (by decide) ?_
            refine lv_iload_n hx hb dX11_book_115 rfl (lv_at hl 0 rfl) ?_
            have hin_44 : vp_in (1 : Int32) 4 := vp_in_iff.mpr ⟨by omega, by omega⟩
            refine va_iast hx hb hK hP hD hS 3 0 rfl rfl hin_44 dX11_book_116 (fun H locs hP hD hS => ?_)
            obtain ⟨f_45, ef_45⟩ : ∃ z : Nat → Int32, z = upd f_43 (Int32.toNatClampNeg 1) x_39 := ⟨_, rfl⟩
            have hP : va_P (dC, dI) vwCl [(vmm, .inl (cy 1, 17, .inr (.inl vmmf))), (vms, .inl (cy 0, 1408, .inl vmsf)), (vml, .inl (cy 0, 160, .inl g_32)), (vmwr, .inl (cy 0, 4, .inl f_45)), (vmt, .inl (cy 0, 940, .inl vmtf)), (vo, .inr (12, [.int voth_14, .ref vmt, .int votp_15, .int vosz_16, .int volm_17, .int x_22, .int x_23, .int x_24, .int x_27, .int x_25, .int x_28, .int x_29, .long x_26, .int x_30, .ref vmn, .ref vmr, .ref vmk, .ref vms, .ref vma, .ref vmm, .ref vmrn, .ref vmkn, .ref vmik, .ref vmon, .int vosm, .int vohp, .ref vmw, .ref vmf, .ref vmb, .int vomb, .ref vmd, .ref vmc, .int vocm, .int voct, .int vocy, .ref vmx, .int votx, .int vose, .ref vml, .ref vmwr, .int x_31, .int vohw, .ref vmno, .int vond, .int voon, .int vowi, .int votop])), (vmn, .inl (cy 0, 575, .inl g_41)), (vma, .inl (cy 0, 176, .inl vmaf_37))] H := by rw [ef_45]; exact hP
            have hD : va_D A [(vmm, .inl (cy 1, 17, .inr (.inl vmmf))), (vms, .inl (cy 0, 1408, .inl vmsf)), (vml, .inl (cy 0, 160, .inl g_32)), (vmwr, .inl (cy 0, 4, .inl f_45)), (vmt, .inl (cy 0, 940, .inl vmtf)), (vo, .inr (12, [.int voth_14, .ref vmt, .int votp_15, .int vosz_16, .int volm_17, .int x_22, .int x_23, .int x_24, .int x_27, .int x_25, .int x_28, .int x_29, .long x_26, .int x_30, .ref vmn, .ref vmr, .ref vmk, .ref vms, .ref vma, .ref vmm, .ref vmrn, .ref vmkn, .ref vmik, .ref vmon, .int vosm, .int vohp, .ref vmw, .ref vmf, .ref vmb, .int vomb, .ref vmd, .ref vmc, .int vocm, .int voct, .int vocy, .ref vmx, .int votx, .int vose, .ref vml, .ref vmwr, .int x_31, .int vohw, .ref vmno, .int vond, .int voon, .int vowi, .int votop])), (vmn, .inl (cy 0, 575, .inl g_41)), (vma, .inl (cy 0, 176, .inl vmaf_37))] := by rw [ef_45]; exact hD
            refine lv_aload_n hx hb dX11_book_117 rfl (lv_at hl 2 rfl) ?_
            refine gf_X11_154 hx hb hts hown hK hP 5 rfl rfl dX11_book_118 ?_
            refine lv_iconst (v := 2) hx hb dX11_book_121 (by decide) ?_
            refine lv_aload_n hx hb dX11_book_122 rfl (lv_at hl 2 rfl) ?_
            refine gf_X11_98 hx hb hts hown hK hP 5 rfl rfl dX11_book_123 ?_
            refine lv_sipush (v := 157) hx hb dX11_book_126 (by decide) ?_
            have k_157 : (157 : Int32).toInt = 157 := by decide
            have hin_46 : vp_in (157 : Int32) 575 := vp_in_iff.mpr ⟨by omega, by omega⟩
            refine va_iald hx hb hK hP 6 0 rfl rfl hin_46 dX11_book_129 ?_
            refine lv_topi (fun z_47 ez_47 => ?_)
            have tz_47 : z_47.toInt = (g_41 157).toInt := by rw [ez_47]; rfl
            have k_2 : (2 : Int32).toInt = 2 := by decide
            have hin_48 : vp_in (2 : Int32) 4 := vp_in_iff.mpr ⟨by omega, by omega⟩
            refine va_iast hx hb hK hP hD hS 3 0 rfl rfl hin_48 dX11_book_130 (fun H locs hP hD hS => ?_)
            obtain ⟨f_49, ef_49⟩ : ∃ z : Nat → Int32, z = upd f_45 (Int32.toNatClampNeg 2) z_47 := ⟨_, rfl⟩
            have hP : va_P (dC, dI) vwCl [(vmm, .inl (cy 1, 17, .inr (.inl vmmf))), (vms, .inl (cy 0, 1408, .inl vmsf)), (vml, .inl (cy 0, 160, .inl g_32)), (vmwr, .inl (cy 0, 4, .inl f_49)), (vmt, .inl (cy 0, 940, .inl vmtf)), (vo, .inr (12, [.int voth_14, .ref vmt, .int votp_15, .int vosz_16, .int volm_17, .int x_22, .int x_23, .int x_24, .int x_27, .int x_25, .int x_28, .int x_29, .long x_26, .int x_30, .ref vmn, .ref vmr, .ref vmk, .ref vms, .ref vma, .ref vmm, .ref vmrn, .ref vmkn, .ref vmik, .ref vmon, .int vosm, .int vohp, .ref vmw, .ref vmf, .ref vmb, .int vomb, .ref vmd, .ref vmc, .int vocm, .int voct, .int vocy, .ref vmx, .int votx, .int vose, .ref vml, .ref vmwr, .int x_31, .int vohw, .ref vmno, .int vond, .int voon, .int vowi, .int votop])), (vmn, .inl (cy 0, 575, .inl g_41)), (vma, .inl (cy 0, 176, .inl vmaf_37))] H := by rw [ef_49]; exact hP
            have hD : va_D A [(vmm, .inl (cy 1, 17, .inr (.inl vmmf))), (vms, .inl (cy 0, 1408, .inl vmsf)), (vml, .inl (cy 0, 160, .inl g_32)), (vmwr, .inl (cy 0, 4, .inl f_49)), (vmt, .inl (cy 0, 940, .inl vmtf)), (vo, .inr (12, [.int voth_14, .ref vmt, .int votp_15, .int vosz_16, .int volm_17, .int x_22, .int x_23, .int x_24, .int x_27, .int x_25, .int x_28, .int x_29, .long x_26, .int x_30, .ref vmn, .ref vmr, .ref vmk, .ref vms, .ref vma, .ref vmm, .ref vmrn, .ref vmkn, .ref vmik, .ref vmon, .int vosm, .int vohp, .ref vmw, .ref vmf, .ref vmb, .int vomb, .ref vmd, .ref vmc, .int vocm, .int voct, .int vocy, .ref vmx, .int votx, .int vose, .ref vml, .ref vmwr, .int x_31, .int vohw, .ref vmno, .int vond, .int voon, .int vowi, .int votop])), (vmn, .inl (cy 0, 575, .inl g_41)), (vma, .inl (cy 0, 176, .inl vmaf_37))] := by rw [ef_49]; exact hD
            refine lv_aload_n hx hb dX11_book_131 rfl (lv_at hl 2 rfl) ?_
            refine gf_X11_154 hx hb hts hown hK hP 5 rfl rfl dX11_book_132 ?_
            refine lv_iconst (v := 3) hx hb dX11_book_135 (by decide) ?_
            refine lv_aload_n hx hb dX11_book_136 rfl (lv_at hl 2 rfl) ?_
            refine lv_iconst (v := 1) hx hb dX11_book_137 (by decide) ?_
            refine jr_i (rVr (As := [.int 1]) (rest := [.int 3, .ref vmwr]) (ci := 12) ⟨hx, hb, hml, hown, hts⟩ (m_those l dC dI cy vnh vo voth_14 vmt votp_15 vosz_16 volm_17 x_22 x_23 x_24 x_27 x_25 x_28 x_29 x_26 x_30 vmn vmr vmk vms vma vmm vmrn vmkn vmik vmon vosm vohp vmw vmf vmb vomb vmd vmc vocm voct vocy vmx votx vose vml vmwr x_31 vohw vmno vond voon vowi votop g_41 1 p_g_41) (cw_X11_262 hts rfl rfl ⟨Nat.le_of_ble_eq_true rfl, Nat.le_of_ble_eq_true rfl⟩) hP hK [5, 6] rfl rfl rfl rfl hl.1 rfl (Nat.le_of_ble_eq_true rfl) dX11_book_138 ⟨Nat.le_of_ble_eq_true rfl, Nat.le_of_ble_eq_true rfl⟩) hP hS (fun r_50 H locs hp_51 hP hS => ?_)
            have k_3 : (3 : Int32).toInt = 3 := by decide
            have hin_52 : vp_in (3 : Int32) 4 := vp_in_iff.mpr ⟨by omega, by omega⟩
            refine va_iast hx hb hK hP hD hS 3 0 rfl rfl hin_52 dX11_book_141 (fun H locs hP hD hS => ?_)
            obtain ⟨f_53, ef_53⟩ : ∃ z : Nat → Int32, z = upd f_49 (Int32.toNatClampNeg 3) r_50 := ⟨_, rfl⟩
            have hP : va_P (dC, dI) vwCl [(vmm, .inl (cy 1, 17, .inr (.inl vmmf))), (vms, .inl (cy 0, 1408, .inl vmsf)), (vml, .inl (cy 0, 160, .inl g_32)), (vmwr, .inl (cy 0, 4, .inl f_53)), (vmt, .inl (cy 0, 940, .inl vmtf)), (vo, .inr (12, [.int voth_14, .ref vmt, .int votp_15, .int vosz_16, .int volm_17, .int x_22, .int x_23, .int x_24, .int x_27, .int x_25, .int x_28, .int x_29, .long x_26, .int x_30, .ref vmn, .ref vmr, .ref vmk, .ref vms, .ref vma, .ref vmm, .ref vmrn, .ref vmkn, .ref vmik, .ref vmon, .int vosm, .int vohp, .ref vmw, .ref vmf, .ref vmb, .int vomb, .ref vmd, .ref vmc, .int vocm, .int voct, .int vocy, .ref vmx, .int votx, .int vose, .ref vml, .ref vmwr, .int x_31, .int vohw, .ref vmno, .int vond, .int voon, .int vowi, .int votop])), (vmn, .inl (cy 0, 575, .inl g_41)), (vma, .inl (cy 0, 176, .inl vmaf_37))] H := by rw [ef_53]; exact hP
            have hD : va_D A [(vmm, .inl (cy 1, 17, .inr (.inl vmmf))), (vms, .inl (cy 0, 1408, .inl vmsf)), (vml, .inl (cy 0, 160, .inl g_32)), (vmwr, .inl (cy 0, 4, .inl f_53)), (vmt, .inl (cy 0, 940, .inl vmtf)), (vo, .inr (12, [.int voth_14, .ref vmt, .int votp_15, .int vosz_16, .int volm_17, .int x_22, .int x_23, .int x_24, .int x_27, .int x_25, .int x_28, .int x_29, .long x_26, .int x_30, .ref vmn, .ref vmr, .ref vmk, .ref vms, .ref vma, .ref vmm, .ref vmrn, .ref vmkn, .ref vmik, .ref vmon, .int vosm, .int vohp, .ref vmw, .ref vmf, .ref vmb, .int vomb, .ref vmd, .ref vmc, .int vocm, .int voct, .int vocy, .ref vmx, .int votx, .int vose, .ref vml, .ref vmwr, .int x_31, .int vohw, .ref vmno, .int vond, .int voon, .int vowi, .int votop])), (vmn, .inl (cy 0, 575, .inl g_41)), (vma, .inl (cy 0, 176, .inl vmaf_37))] := by rw [ef_53]; exact hD
            refine lv_aload_n hx hb dX11_book_142 rfl (lv_at hl 2 rfl) ?_
            refine lv_iconst (v := 1) hx hb dX11_book_143 (by decide) ?_
            refine pf_X11_394 hx hb hts hown hK hP hD hS 5 rfl rfl rfl (Nat.le_of_ble_eq_true rfl) dX11_book_144 (fun H locs hP hD hS => ?_)
            have hP : va_P (dC, dI) vwCl [(vmm, .inl (cy 1, 17, .inr (.inl vmmf))), (vms, .inl (cy 0, 1408, .inl vmsf)), (vml, .inl (cy 0, 160, .inl g_32)), (vmwr, .inl (cy 0, 4, .inl f_53)), (vmt, .inl (cy 0, 940, .inl vmtf)), (vo, .inr (12, [.int voth_14, .ref vmt, .int votp_15, .int vosz_16, .int volm_17, .int x_22, .int x_23, .int x_24, .int x_27, .int x_25, .int x_28, .int x_29, .long x_26, .int x_30, .ref vmn, .ref vmr, .ref vmk, .ref vms, .ref vma, .ref vmm, .ref vmrn, .ref vmkn, .ref vmik, .ref vmon, .int vosm, .int vohp, .ref vmw, .ref vmf, .ref vmb, .int vomb, .ref vmd, .ref vmc, .int vocm, .int voct, .int vocy, .ref vmx, .int votx, .int vose, .ref vml, .ref vmwr, .int x_31, .int 1, .ref vmno, .int vond, .int voon, .int vowi, .int votop])), (vmn, .inl (cy 0, 575, .inl g_41)), (vma, .inl (cy 0, 176, .inl vmaf_37))] H := hP
            have hD : va_D A [(vmm, .inl (cy 1, 17, .inr (.inl vmmf))), (vms, .inl (cy 0, 1408, .inl vmsf)), (vml, .inl (cy 0, 160, .inl g_32)), (vmwr, .inl (cy 0, 4, .inl f_53)), (vmt, .inl (cy 0, 940, .inl vmtf)), (vo, .inr (12, [.int voth_14, .ref vmt, .int votp_15, .int vosz_16, .int volm_17, .int x_22, .int x_23, .int x_24, .int x_27, .int x_25, .int x_28, .int x_29, .long x_26, .int x_30, .ref vmn, .ref vmr, .ref vmk, .ref vms, .ref vma, .ref vmm, .ref vmrn, .ref vmkn, .ref vmik, .ref vmon, .int vosm, .int vohp, .ref vmw, .ref vmf, .ref vmb, .int vomb, .ref vmd, .ref vmc, .int vocm, .int voct, .int vocy, .ref vmx, .int votx, .int vose, .ref vml, .ref vmwr, .int x_31, .int 1, .ref vmno, .int vond, .int voon, .int vowi, .int votop])), (vmn, .inl (cy 0, 575, .inl g_41)), (vma, .inl (cy 0, 176, .inl vmaf_37))] := hD
            refine lv_aload_n hx hb dX11_book_147 rfl (lv_at hl 2 rfl) ?_
            refine lv_iload_n hx hb dX11_book_148 rfl (lv_at hl 3 rfl) ?_
            refine lv_iconst (v := 1) hx hb dX11_book_149 (by decide) ?_
            refine lv_icmp_ne (tgt := 161) hx hb dX11_book_150 (by decide) (fun c_54 => ?_) (fun c_54 => ?_)
            · skip
              have c_54 : ¬ (vn.toInt = (1 : Int32).toInt) := fun h9 => c_54 (i_eq.mpr h9)
              refine lv_iconst (v := 0) hx hb dX11_book_161 (by decide) ?_
              refine jn_v (wr := [(vmm, .inl (cy 1, 17, .inr (.inl vmmf))), (vml, .inl (cy 0, 160, .inl g_32)), (vmwr, .inl (cy 0, 4, .inl f_53)), (vmt, .inl (cy 0, 940, .inl vmtf))]) (rV (As := [.int 0]) (rest := []) (ci := 12) ⟨hx, hb, hml, hown, hts⟩ (m_stay l dC dI cy _ vnh vo voth_14 vmt votp_15 vosz_16 volm_17 x_22 x_23 x_24 x_27 x_25 x_28 x_29 x_26 x_30 vmn vmr vmk vms vma vmm vmrn vmkn vmik vmon vosm vohp vmw vmf vmb vomb vmd vmc vocm voct vocy vmx votx vose vml vmwr x_31 1 vmno vond voon vowi votop g_41 vmsf vmaf_37 0 r_vosm p_g_41) (cw_X11_398 hts rfl rfl ⟨Nat.le_of_ble_eq_true rfl, Nat.le_of_ble_eq_true rfl⟩) hP hD hK [5, 6, 1, 7] rfl rfl rfl rfl bl0 e0 rfl hl.1 rfl (Nat.le_of_ble_eq_true rfl) dX11_book_162 ⟨Nat.le_of_ble_eq_true rfl, Nat.le_of_ble_eq_true rfl⟩) hP hD hS hA [5, 6, 1, 7] [0, 2, 3, 4] rfl rfl rfl (by decide) (fun u_57 H locs hp_56 hP hD hS => ?_)
              obtain ⟨vmnf_58, vmsf_59, vosm_60, vmaf_61⟩ := u_57
              have hp_56 : (NW vnh vmnf_58) ∧ (0 ≤ (vosm_60 : Int32).toInt ∧ (vosm_60 : Int32).toInt ≤ 8) := hp_56
              obtain ⟨q_62, q_63⟩ := hp_56
              have hP : va_P (dC, dI) vwCl [(vmm, .inl (cy 1, 17, .inr (.inl vmmf))), (vml, .inl (cy 0, 160, .inl g_32)), (vmwr, .inl (cy 0, 4, .inl f_53)), (vmt, .inl (cy 0, 940, .inl vmtf)), (vo, .inr (12, [.int voth_14, .ref vmt, .int votp_15, .int vosz_16, .int volm_17, .int x_22, .int x_23, .int x_24, .int x_27, .int x_25, .int x_28, .int x_29, .long x_26, .int x_30, .ref vmn, .ref vmr, .ref vmk, .ref vms, .ref vma, .ref vmm, .ref vmrn, .ref vmkn, .ref vmik, .ref vmon, .int vosm_60, .int vohp, .ref vmw, .ref vmf, .ref vmb, .int vomb, .ref vmd, .ref vmc, .int vocm, .int voct, .int vocy, .ref vmx, .int votx, .int vose, .ref vml, .ref vmwr, .int x_31, .int 1, .ref vmno, .int vond, .int voon, .int vowi, .int votop])), (vmn, .inl (cy 0, 575, .inl vmnf_58)), (vms, .inl (cy 0, 1408, .inl vmsf_59)), (vma, .inl (cy 0, 176, .inl vmaf_61))] H := hP
              have hD : va_D A [(vmm, .inl (cy 1, 17, .inr (.inl vmmf))), (vml, .inl (cy 0, 160, .inl g_32)), (vmwr, .inl (cy 0, 4, .inl f_53)), (vmt, .inl (cy 0, 940, .inl vmtf)), (vo, .inr (12, [.int voth_14, .ref vmt, .int votp_15, .int vosz_16, .int volm_17, .int x_22, .int x_23, .int x_24, .int x_27, .int x_25, .int x_28, .int x_29, .long x_26, .int x_30, .ref vmn, .ref vmr, .ref vmk, .ref vms, .ref vma, .ref vmm, .ref vmrn, .ref vmkn, .ref vmik, .ref vmon, .int vosm_60, .int vohp, .ref vmw, .ref vmf, .ref vmb, .int vomb, .ref vmd, .ref vmc, .int vocm, .int voct, .int vocy, .ref vmx, .int votx, .int vose, .ref vml, .ref vmwr, .int x_31, .int 1, .ref vmno, .int vond, .int voon, .int vowi, .int votop])), (vmn, .inl (cy 0, 575, .inl vmnf_58)), (vms, .inl (cy 0, 1408, .inl vmsf_59)), (vma, .inl (cy 0, 176, .inl vmaf_61))] := hD
              refine lv_iload_n hx hb dX11_book_165 rfl (lv_at hl 1 rfl) ?_
              refine lv_if_ne (tgt := 173) hx hb dX11_book_166 (by decide) (fun c_64 => ?_) (fun c_64 => ?_)
              · skip
                have c_64 : ¬ (x_40.toInt = (0 : Int32).toInt) := fun h9 => c_64 (i_eq.mpr h9)
                refine lv_iload_n hx hb dX11_book_173 rfl (lv_at hl 0 rfl) ?_
                rw [hQ9]
                exact re_i (voth_14, votp_15, vosz_16, volm_17, x_22, x_23, x_24, x_25, x_26, x_27, x_28, x_29, x_30, x_31, g_32, vmnf_58, vmaf_61, vmsf_59, vosm_60, f_53, (1 : Int32)) hx hb hr hlocks ⟨(show 0 ≤ (votp_15 : Int32).toInt ∧ (votp_15 : Int32).toInt ≤ 940 from ⟨by omega, by omega⟩), (show -1 ≤ (x_30 : Int32).toInt ∧ (x_30 : Int32).toInt ≤ 999 from ⟨by omega, by omega⟩), (show LQ g_32 from p_g_32), (show NW vnh vmnf_58 from q_62), (show 0 ≤ (vosm_60 : Int32).toInt ∧ (vosm_60 : Int32).toInt ≤ 8 from ⟨by omega, by omega⟩), (show ((((vn : Int32).toInt < 0 ∨ 1 < (vn : Int32).toInt) ∧ (votp_15 : Int32).toInt = (votp : Int32).toInt) ∨ (0 ≤ (vn : Int32).toInt ∧ (vn : Int32).toInt ≤ 1 ∧ (votp_15 : Int32).toInt = 0)) from (by omega))⟩ (hP.sub [4, 3, 5, 0, 6, 7, 1, 2] rfl) (hD.sub [4, 3, 5, 0, 6, 7, 1, 2] rfl rfl) hS dX11_book_174
              · skip
                have c_64 : x_40.toInt = (0 : Int32).toInt := i_eq.mp c_64
                refine lv_iconst (v := (-1)) hx hb dX11_book_169 (by decide) ?_
                refine lv_goto (tgt := 174) hx hb dX11_book_170 (by decide) ?_
                have k_m1 : ((-1) : Int32).toInt = (-1) := by decide
                rw [hQ9]
                exact re_i (voth_14, votp_15, vosz_16, volm_17, x_22, x_23, x_24, x_25, x_26, x_27, x_28, x_29, x_30, x_31, g_32, vmnf_58, vmaf_61, vmsf_59, vosm_60, f_53, (1 : Int32)) hx hb hr hlocks ⟨(show 0 ≤ (votp_15 : Int32).toInt ∧ (votp_15 : Int32).toInt ≤ 940 from ⟨by omega, by omega⟩), (show -1 ≤ (x_30 : Int32).toInt ∧ (x_30 : Int32).toInt ≤ 999 from ⟨by omega, by omega⟩), (show LQ g_32 from p_g_32), (show NW vnh vmnf_58 from q_62), (show 0 ≤ (vosm_60 : Int32).toInt ∧ (vosm_60 : Int32).toInt ≤ 8 from ⟨by omega, by omega⟩), (show ((((vn : Int32).toInt < 0 ∨ 1 < (vn : Int32).toInt) ∧ (votp_15 : Int32).toInt = (votp : Int32).toInt) ∨ (0 ≤ (vn : Int32).toInt ∧ (vn : Int32).toInt ≤ 1 ∧ (votp_15 : Int32).toInt = 0)) from (by omega))⟩ (hP.sub [4, 3, 5, 0, 6, 7, 1, 2] rfl) (hD.sub [4, 3, 5, 0, 6, 7, 1, 2] rfl rfl) hS dX11_book_174
            · skip
              have c_54 : vn.toInt = (1 : Int32).toInt := i_eq.mp c_54
              refine lv_iload_n hx hb dX11_book_153 rfl (lv_at hl 0 rfl) ?_
              refine lv_if_le (tgt := 161) hx hb dX11_book_154 (by decide) (fun c_65 => ?_) (fun c_65 => ?_)
              · skip
                have c_65 : x_39.toInt ≤ (0 : Int32).toInt := i_le.mp c_65
                refine lv_iconst (v := 0) hx hb dX11_book_161 (by decide) ?_
                refine jn_v (wr := [(vmm, .inl (cy 1, 17, .inr (.inl vmmf))), (vml, .inl (cy 0, 160, .inl g_32)), (vmwr, .inl (cy 0, 4, .inl f_53)), (vmt, .inl (cy 0, 940, .inl vmtf))]) (rV (As := [.int 0]) (rest := []) (ci := 12) ⟨hx, hb, hml, hown, hts⟩ (m_stay l dC dI cy _ vnh vo voth_14 vmt votp_15 vosz_16 volm_17 x_22 x_23 x_24 x_27 x_25 x_28 x_29 x_26 x_30 vmn vmr vmk vms vma vmm vmrn vmkn vmik vmon vosm vohp vmw vmf vmb vomb vmd vmc vocm voct vocy vmx votx vose vml vmwr x_31 1 vmno vond voon vowi votop g_41 vmsf vmaf_37 0 r_vosm p_g_41) (cw_X11_398 hts rfl rfl ⟨Nat.le_of_ble_eq_true rfl, Nat.le_of_ble_eq_true rfl⟩) hP hD hK [5, 6, 1, 7] rfl rfl rfl rfl bl0 e0 rfl hl.1 rfl (Nat.le_of_ble_eq_true rfl) dX11_book_162 ⟨Nat.le_of_ble_eq_true rfl, Nat.le_of_ble_eq_true rfl⟩) hP hD hS hA [5, 6, 1, 7] [0, 2, 3, 4] rfl rfl rfl (by decide) (fun u_68 H locs hp_67 hP hD hS => ?_)
                obtain ⟨vmnf_69, vmsf_70, vosm_71, vmaf_72⟩ := u_68
                have hp_67 : (NW vnh vmnf_69) ∧ (0 ≤ (vosm_71 : Int32).toInt ∧ (vosm_71 : Int32).toInt ≤ 8) := hp_67
                obtain ⟨q_73, q_74⟩ := hp_67
                have hP : va_P (dC, dI) vwCl [(vmm, .inl (cy 1, 17, .inr (.inl vmmf))), (vml, .inl (cy 0, 160, .inl g_32)), (vmwr, .inl (cy 0, 4, .inl f_53)), (vmt, .inl (cy 0, 940, .inl vmtf)), (vo, .inr (12, [.int voth_14, .ref vmt, .int votp_15, .int vosz_16, .int volm_17, .int x_22, .int x_23, .int x_24, .int x_27, .int x_25, .int x_28, .int x_29, .long x_26, .int x_30, .ref vmn, .ref vmr, .ref vmk, .ref vms, .ref vma, .ref vmm, .ref vmrn, .ref vmkn, .ref vmik, .ref vmon, .int vosm_71, .int vohp, .ref vmw, .ref vmf, .ref vmb, .int vomb, .ref vmd, .ref vmc, .int vocm, .int voct, .int vocy, .ref vmx, .int votx, .int vose, .ref vml, .ref vmwr, .int x_31, .int 1, .ref vmno, .int vond, .int voon, .int vowi, .int votop])), (vmn, .inl (cy 0, 575, .inl vmnf_69)), (vms, .inl (cy 0, 1408, .inl vmsf_70)), (vma, .inl (cy 0, 176, .inl vmaf_72))] H := hP
                have hD : va_D A [(vmm, .inl (cy 1, 17, .inr (.inl vmmf))), (vml, .inl (cy 0, 160, .inl g_32)), (vmwr, .inl (cy 0, 4, .inl f_53)), (vmt, .inl (cy 0, 940, .inl vmtf)), (vo, .inr (12, [.int voth_14, .ref vmt, .int votp_15, .int vosz_16, .int volm_17, .int x_22, .int x_23, .int x_24, .int x_27, .int x_25, .int x_28, .int x_29, .long x_26, .int x_30, .ref vmn, .ref vmr, .ref vmk, .ref vms, .ref vma, .ref vmm, .ref vmrn, .ref vmkn, .ref vmik, .ref vmon, .int vosm_71, .int vohp, .ref vmw, .ref vmf, .ref vmb, .int vomb, .ref vmd, .ref vmc, .int vocm, .int voct, .int vocy, .ref vmx, .int votx, .int vose, .ref vml, .ref vmwr, .int x_31, .int 1, .ref vmno, .int vond, .int voon, .int vowi, .int votop])), (vmn, .inl (cy 0, 575, .inl vmnf_69)), (vms, .inl (cy 0, 1408, .inl vmsf_70)), (vma, .inl (cy 0, 176, .inl vmaf_72))] := hD
                refine lv_iload_n hx hb dX11_book_165 rfl (lv_at hl 1 rfl) ?_
                refine lv_if_ne (tgt := 173) hx hb dX11_book_166 (by decide) (fun c_75 => ?_) (fun c_75 => ?_)
                · skip
                  have c_75 : ¬ (x_40.toInt = (0 : Int32).toInt) := fun h9 => c_75 (i_eq.mpr h9)
                  refine lv_iload_n hx hb dX11_book_173 rfl (lv_at hl 0 rfl) ?_
                  rw [hQ9]
                  exact re_i (voth_14, votp_15, vosz_16, volm_17, x_22, x_23, x_24, x_25, x_26, x_27, x_28, x_29, x_30, x_31, g_32, vmnf_69, vmaf_72, vmsf_70, vosm_71, f_53, (1 : Int32)) hx hb hr hlocks ⟨(show 0 ≤ (votp_15 : Int32).toInt ∧ (votp_15 : Int32).toInt ≤ 940 from ⟨by omega, by omega⟩), (show -1 ≤ (x_30 : Int32).toInt ∧ (x_30 : Int32).toInt ≤ 999 from ⟨by omega, by omega⟩), (show LQ g_32 from p_g_32), (show NW vnh vmnf_69 from q_73), (show 0 ≤ (vosm_71 : Int32).toInt ∧ (vosm_71 : Int32).toInt ≤ 8 from ⟨by omega, by omega⟩), (show ((((vn : Int32).toInt < 0 ∨ 1 < (vn : Int32).toInt) ∧ (votp_15 : Int32).toInt = (votp : Int32).toInt) ∨ (0 ≤ (vn : Int32).toInt ∧ (vn : Int32).toInt ≤ 1 ∧ (votp_15 : Int32).toInt = 0)) from (by omega))⟩ (hP.sub [4, 3, 5, 0, 6, 7, 1, 2] rfl) (hD.sub [4, 3, 5, 0, 6, 7, 1, 2] rfl rfl) hS dX11_book_174
                · skip
                  have c_75 : x_40.toInt = (0 : Int32).toInt := i_eq.mp c_75
                  refine lv_iconst (v := (-1)) hx hb dX11_book_169 (by decide) ?_
                  refine lv_goto (tgt := 174) hx hb dX11_book_170 (by decide) ?_
                  have k_m1 : ((-1) : Int32).toInt = (-1) := by decide
                  rw [hQ9]
                  exact re_i (voth_14, votp_15, vosz_16, volm_17, x_22, x_23, x_24, x_25, x_26, x_27, x_28, x_29, x_30, x_31, g_32, vmnf_69, vmaf_72, vmsf_70, vosm_71, f_53, (1 : Int32)) hx hb hr hlocks ⟨(show 0 ≤ (votp_15 : Int32).toInt ∧ (votp_15 : Int32).toInt ≤ 940 from ⟨by omega, by omega⟩), (show -1 ≤ (x_30 : Int32).toInt ∧ (x_30 : Int32).toInt ≤ 999 from ⟨by omega, by omega⟩), (show LQ g_32 from p_g_32), (show NW vnh vmnf_69 from q_73), (show 0 ≤ (vosm_71 : Int32).toInt ∧ (vosm_71 : Int32).toInt ≤ 8 from ⟨by omega, by omega⟩), (show ((((vn : Int32).toInt < 0 ∨ 1 < (vn : Int32).toInt) ∧ (votp_15 : Int32).toInt = (votp : Int32).toInt) ∨ (0 ≤ (vn : Int32).toInt ∧ (vn : Int32).toInt ≤ 1 ∧ (votp_15 : Int32).toInt = 0)) from (by omega))⟩ (hP.sub [4, 3, 5, 0, 6, 7, 1, 2] rfl) (hD.sub [4, 3, 5, 0, 6, 7, 1, 2] rfl rfl) hS dX11_book_174
              · skip
                have c_65 : ¬ (x_39.toInt ≤ (0 : Int32).toInt) := fun h9 => c_65 (i_le.mpr h9)
                refine lv_iconst (v := 1) hx hb dX11_book_157 (by decide) ?_
                refine lv_goto (tgt := 162) hx hb dX11_book_158 (by decide) ?_
                refine jn_v (wr := [(vmm, .inl (cy 1, 17, .inr (.inl vmmf))), (vml, .inl (cy 0, 160, .inl g_32)), (vmwr, .inl (cy 0, 4, .inl f_53)), (vmt, .inl (cy 0, 940, .inl vmtf))]) (rV (As := [.int 1]) (rest := []) (ci := 12) ⟨hx, hb, hml, hown, hts⟩ (m_stay l dC dI cy _ vnh vo voth_14 vmt votp_15 vosz_16 volm_17 x_22 x_23 x_24 x_27 x_25 x_28 x_29 x_26 x_30 vmn vmr vmk vms vma vmm vmrn vmkn vmik vmon vosm vohp vmw vmf vmb vomb vmd vmc vocm voct vocy vmx votx vose vml vmwr x_31 1 vmno vond voon vowi votop g_41 vmsf vmaf_37 1 r_vosm p_g_41) (cw_X11_398 hts rfl rfl ⟨Nat.le_of_ble_eq_true rfl, Nat.le_of_ble_eq_true rfl⟩) hP hD hK [5, 6, 1, 7] rfl rfl rfl rfl bl0 e0 rfl hl.1 rfl (Nat.le_of_ble_eq_true rfl) dX11_book_162 ⟨Nat.le_of_ble_eq_true rfl, Nat.le_of_ble_eq_true rfl⟩) hP hD hS hA [5, 6, 1, 7] [0, 2, 3, 4] rfl rfl rfl (by decide) (fun u_78 H locs hp_77 hP hD hS => ?_)
                obtain ⟨vmnf_79, vmsf_80, vosm_81, vmaf_82⟩ := u_78
                have hp_77 : (NW vnh vmnf_79) ∧ (0 ≤ (vosm_81 : Int32).toInt ∧ (vosm_81 : Int32).toInt ≤ 8) := hp_77
                obtain ⟨q_83, q_84⟩ := hp_77
                have hP : va_P (dC, dI) vwCl [(vmm, .inl (cy 1, 17, .inr (.inl vmmf))), (vml, .inl (cy 0, 160, .inl g_32)), (vmwr, .inl (cy 0, 4, .inl f_53)), (vmt, .inl (cy 0, 940, .inl vmtf)), (vo, .inr (12, [.int voth_14, .ref vmt, .int votp_15, .int vosz_16, .int volm_17, .int x_22, .int x_23, .int x_24, .int x_27, .int x_25, .int x_28, .int x_29, .long x_26, .int x_30, .ref vmn, .ref vmr, .ref vmk, .ref vms, .ref vma, .ref vmm, .ref vmrn, .ref vmkn, .ref vmik, .ref vmon, .int vosm_81, .int vohp, .ref vmw, .ref vmf, .ref vmb, .int vomb, .ref vmd, .ref vmc, .int vocm, .int voct, .int vocy, .ref vmx, .int votx, .int vose, .ref vml, .ref vmwr, .int x_31, .int 1, .ref vmno, .int vond, .int voon, .int vowi, .int votop])), (vmn, .inl (cy 0, 575, .inl vmnf_79)), (vms, .inl (cy 0, 1408, .inl vmsf_80)), (vma, .inl (cy 0, 176, .inl vmaf_82))] H := hP
                have hD : va_D A [(vmm, .inl (cy 1, 17, .inr (.inl vmmf))), (vml, .inl (cy 0, 160, .inl g_32)), (vmwr, .inl (cy 0, 4, .inl f_53)), (vmt, .inl (cy 0, 940, .inl vmtf)), (vo, .inr (12, [.int voth_14, .ref vmt, .int votp_15, .int vosz_16, .int volm_17, .int x_22, .int x_23, .int x_24, .int x_27, .int x_25, .int x_28, .int x_29, .long x_26, .int x_30, .ref vmn, .ref vmr, .ref vmk, .ref vms, .ref vma, .ref vmm, .ref vmrn, .ref vmkn, .ref vmik, .ref vmon, .int vosm_81, .int vohp, .ref vmw, .ref vmf, .ref vmb, .int vomb, .ref vmd, .ref vmc, .int vocm, .int voct, .int vocy, .ref vmx, .int votx, .int vose, .ref vml, .ref vmwr, .int x_31, .int 1, .ref vmno, .int vond, .int voon, .int vowi, .int votop])), (vmn, .inl (cy 0, 575, .inl vmnf_79)), (vms, .inl (cy 0, 1408, .inl vmsf_80)), (vma, .inl (cy 0, 176, .inl vmaf_82))] := hD
                refine lv_iload_n hx hb dX11_book_165 rfl (lv_at hl 1 rfl) ?_
                refine lv_if_ne (tgt := 173) hx hb dX11_book_166 (by decide) (fun c_85 => ?_) (fun c_85 => ?_)
                · skip
                  have c_85 : ¬ (x_40.toInt = (0 : Int32).toInt) := fun h9 => c_85 (i_eq.mpr h9)
                  refine lv_iload_n hx hb dX11_book_173 rfl (lv_at hl 0 rfl) ?_
                  rw [hQ9]
                  exact re_i (voth_14, votp_15, vosz_16, volm_17, x_22, x_23, x_24, x_25, x_26, x_27, x_28, x_29, x_30, x_31, g_32, vmnf_79, vmaf_82, vmsf_80, vosm_81, f_53, (1 : Int32)) hx hb hr hlocks ⟨(show 0 ≤ (votp_15 : Int32).toInt ∧ (votp_15 : Int32).toInt ≤ 940 from ⟨by omega, by omega⟩), (show -1 ≤ (x_30 : Int32).toInt ∧ (x_30 : Int32).toInt ≤ 999 from ⟨by omega, by omega⟩), (show LQ g_32 from p_g_32), (show NW vnh vmnf_79 from q_83), (show 0 ≤ (vosm_81 : Int32).toInt ∧ (vosm_81 : Int32).toInt ≤ 8 from ⟨by omega, by omega⟩), (show ((((vn : Int32).toInt < 0 ∨ 1 < (vn : Int32).toInt) ∧ (votp_15 : Int32).toInt = (votp : Int32).toInt) ∨ (0 ≤ (vn : Int32).toInt ∧ (vn : Int32).toInt ≤ 1 ∧ (votp_15 : Int32).toInt = 0)) from (by omega))⟩ (hP.sub [4, 3, 5, 0, 6, 7, 1, 2] rfl) (hD.sub [4, 3, 5, 0, 6, 7, 1, 2] rfl rfl) hS dX11_book_174
                · skip
                  have c_85 : x_40.toInt = (0 : Int32).toInt := i_eq.mp c_85
                  refine lv_iconst (v := (-1)) hx hb dX11_book_169 (by decide) ?_
                  refine lv_goto (tgt := 174) hx hb dX11_book_170 (by decide) ?_
                  have k_m1 : ((-1) : Int32).toInt = (-1) := by decide
                  rw [hQ9]
                  exact re_i (voth_14, votp_15, vosz_16, volm_17, x_22, x_23, x_24, x_25, x_26, x_27, x_28, x_29, x_30, x_31, g_32, vmnf_79, vmaf_82, vmsf_80, vosm_81, f_53, (1 : Int32)) hx hb hr hlocks ⟨(show 0 ≤ (votp_15 : Int32).toInt ∧ (votp_15 : Int32).toInt ≤ 940 from ⟨by omega, by omega⟩), (show -1 ≤ (x_30 : Int32).toInt ∧ (x_30 : Int32).toInt ≤ 999 from ⟨by omega, by omega⟩), (show LQ g_32 from p_g_32), (show NW vnh vmnf_79 from q_83), (show 0 ≤ (vosm_81 : Int32).toInt ∧ (vosm_81 : Int32).toInt ≤ 8 from ⟨by omega, by omega⟩), (show ((((vn : Int32).toInt < 0 ∨ 1 < (vn : Int32).toInt) ∧ (votp_15 : Int32).toInt = (votp : Int32).toInt) ∨ (0 ≤ (vn : Int32).toInt ∧ (vn : Int32).toInt ≤ 1 ∧ (votp_15 : Int32).toInt = 0)) from (by omega))⟩ (hP.sub [4, 3, 5, 0, 6, 7, 1, 2] rfl) (hD.sub [4, 3, 5, 0, 6, 7, 1, 2] rfl rfl) hS dX11_book_174
          refine lv_iconst (v := 0) hx hb dX11_book_71 (by decide) ?_
          refine lv_istore_n (lv' := [(3, .int 0), (2, .int 0), (0, .ref vo), (1, .int vn)]) hx hb dX11_book_72 rfl hl (by decide) rfl (fun ls hl => ?_)
          have loop86 : ∀ (n86 : Nat) (x_88 : Int32) (x_87 : Int32) (g_89 : Nat → Int32), (0 ≤ x_88.toInt ∧ x_88.toInt ≤ 40) → NW vnh g_89 → 40 - x_88.toInt < (n86 : Int) → ∀ (H : Heap) (locs : List Loc), va_P (dC, dI) vwCl [(vmm, .inl (cy 1, 17, .inr (.inl vmmf))), (vms, .inl (cy 0, 1408, .inl vmsf)), (vml, .inl (cy 0, 160, .inl g_32)), (vmwr, .inl (cy 0, 4, .inl vmwrf)), (vmt, .inl (cy 0, 940, .inl vmtf)), (vo, .inr (12, [.int voth_14, .ref vmt, .int votp_15, .int vosz_16, .int volm_17, .int x_22, .int x_23, .int x_24, .int x_27, .int x_25, .int x_28, .int x_29, .long x_26, .int x_30, .ref vmn, .ref vmr, .ref vmk, .ref vms, .ref vma, .ref vmm, .ref vmrn, .ref vmkn, .ref vmik, .ref vmon, .int vosm, .int vohp, .ref vmw, .ref vmf, .ref vmb, .int vomb, .ref vmd, .ref vmc, .int vocm, .int voct, .int vocy, .ref vmx, .int votx, .int vose, .ref vml, .ref vmwr, .int x_31, .int vohw, .ref vmno, .int vond, .int voon, .int vowi, .int votop])), (vmn, .inl (cy 0, 575, .inl g_89)), (vma, .inl (cy 0, 176, .inl vmaf_37))] H → va_D A [(vmm, .inl (cy 1, 17, .inr (.inl vmmf))), (vms, .inl (cy 0, 1408, .inl vmsf)), (vml, .inl (cy 0, 160, .inl g_32)), (vmwr, .inl (cy 0, 4, .inl vmwrf)), (vmt, .inl (cy 0, 940, .inl vmtf)), (vo, .inr (12, [.int voth_14, .ref vmt, .int votp_15, .int vosz_16, .int volm_17, .int x_22, .int x_23, .int x_24, .int x_27, .int x_25, .int x_28, .int x_29, .long x_26, .int x_30, .ref vmn, .ref vmr, .ref vmk, .ref vms, .ref vma, .ref vmm, .ref vmrn, .ref vmkn, .ref vmik, .ref vmon, .int vosm, .int vohp, .ref vmw, .ref vmf, .ref vmb, .int vomb, .ref vmd, .ref vmc, .int vocm, .int voct, .int vocy, .ref vmx, .int votx, .int vose, .ref vml, .ref vmwr, .int x_31, .int vohw, .ref vmno, .int vond, .int voon, .int vowi, .int votop])), (vmn, .inl (cy 0, 575, .inl g_89)), (vma, .inl (cy 0, 176, .inl vmaf_37))] → va_S A s.heap H locs → ∀ ls : Array Slot, lv_has ls 4 [(3, .int x_87), (2, .int x_88), (0, .ref vo), (1, .int vn)] → W p l e ({ frames := 8, cells := 0, slots := 0, locals := 512 }) s m av9 below meth c H locs 0 0 Q9 (F0 m 73 ls []) := by
            intro n86
            induction n86 with
            | zero =>
              intro x_88 x_87 g_89 bx_88 p_g_89 hn86 H locs hP hD hS ls hl
              exfalso; omega
            | succ n86 ih86 =>
              intro x_88 x_87 g_89 bx_88 p_g_89 hn86 H locs hP hD hS ls hl
              refine lv_iload_n hx hb dX11_book_73 rfl (lv_at hl 1 rfl) ?_
              refine lv_aload_n hx hb dX11_book_74 rfl (lv_at hl 2 rfl) ?_
              refine gf_X11_382 hx hb hts hown hK hP 5 rfl rfl dX11_book_75 ?_
              refine lv_icmp_ge (tgt := 103) hx hb dX11_book_78 (by decide) (fun c_90 => ?_) (fun c_90 => ?_)
              · skip
                have c_90 : x_31.toInt ≤ x_88.toInt := i_le.mp c_90
                exact join38 x_88 x_87 g_89 ⟨by omega, by omega⟩ p_g_89 _ _ (hP.sub [0, 1, 2, 3, 4, 5, 6, 7] rfl) (hD.sub [0, 1, 2, 3, 4, 5, 6, 7] rfl rfl) hS ls (lv_sub hl [1, 0, 2, 3] rfl)
              · skip
                have c_90 : ¬ (x_31.toInt ≤ x_88.toInt) := fun h9 => c_90 (i_le.mpr h9)
                refine lv_iload_n hx hb dX11_book_81 rfl (lv_at hl 0 rfl) ?_
                refine lv_if_ne (tgt := 103) hx hb dX11_book_82 (by decide) (fun c_91 => ?_) (fun c_91 => ?_)
                · skip
                  have c_91 : ¬ (x_87.toInt = (0 : Int32).toInt) := fun h9 => c_91 (i_eq.mpr h9)
                  exact join38 x_88 x_87 g_89 ⟨by omega, by omega⟩ p_g_89 _ _ (hP.sub [0, 1, 2, 3, 4, 5, 6, 7] rfl) (hD.sub [0, 1, 2, 3, 4, 5, 6, 7] rfl rfl) hS ls (lv_sub hl [1, 0, 2, 3] rfl)
                · skip
                  have c_91 : x_87.toInt = (0 : Int32).toInt := i_eq.mp c_91
                  refine lv_aload_n hx hb dX11_book_85 rfl (lv_at hl 2 rfl) ?_
                  refine lv_iconst (v := 4) hx hb dX11_book_86 (by decide) ?_
                  refine lv_iload_n hx hb dX11_book_87 rfl (lv_at hl 1 rfl) ?_
                  refine lv_imul hx hb dX11_book_88 ?_
                  refine lv_topi (fun z_92 ez_92 => ?_)
                  have k_4 : (4 : Int32).toInt = 4 := by decide
                  have bz_92 : z_92.toInt = x_88.toInt * 4 := i_cmul k_4 ez_92 (by omega) (by omega)
                  refine jn_i (wr := [(vmm, .inl (cy 1, 17, .inr (.inl vmmf))), (vms, .inl (cy 0, 1408, .inl vmsf)), (vmwr, .inl (cy 0, 4, .inl vmwrf)), (vmt, .inl (cy 0, 940, .inl vmtf)), (vma, .inl (cy 0, 176, .inl vmaf_37))]) (rV (As := [.int z_92]) (rest := []) (ci := 12) ⟨hx, hb, hml, hown, hts⟩ (m_goBy l dC dI cy _ vnh vo voth_14 vmt votp_15 vosz_16 volm_17 x_22 x_23 x_24 x_27 x_25 x_28 x_29 x_26 x_30 vmn vmr vmk vms vma vmm vmrn vmkn vmik vmon vosm vohp vmw vmf vmb vomb vmd vmc vocm voct vocy vmx votx vose vml vmwr x_31 vohw vmno vond voon vowi votop g_89 g_32 z_92 ⟨by omega, by omega⟩ p_g_89 p_g_32 (by omega)) (cw_X11_391 hts rfl rfl ⟨Nat.le_of_ble_eq_true rfl, Nat.le_of_ble_eq_true rfl⟩) hP hD hK [5, 6, 2] rfl rfl rfl rfl bl0 e0 rfl hl.1 rfl (Nat.le_of_ble_eq_true rfl) dX11_book_89 ⟨Nat.le_of_ble_eq_true rfl, Nat.le_of_ble_eq_true rfl⟩) hP hD hS hA [5, 6, 2] [0, 1, 3, 4, 7] rfl rfl rfl (by decide) (fun r_93 u_95 H locs hp_94 hP hD hS => ?_)
                  obtain ⟨vmnf_96, rfl⟩ : ∃ z, z = u_95 := ⟨_, rfl⟩
                  have hp_94 : (NW vnh vmnf_96) := hp_94
                  have q_97 := hp_94
                  have hP : va_P (dC, dI) vwCl [(vmm, .inl (cy 1, 17, .inr (.inl vmmf))), (vms, .inl (cy 0, 1408, .inl vmsf)), (vmwr, .inl (cy 0, 4, .inl vmwrf)), (vmt, .inl (cy 0, 940, .inl vmtf)), (vma, .inl (cy 0, 176, .inl vmaf_37)), (vo, .inr (12, [.int voth_14, .ref vmt, .int votp_15, .int vosz_16, .int volm_17, .int x_22, .int x_23, .int x_24, .int x_27, .int x_25, .int x_28, .int x_29, .long x_26, .int x_30, .ref vmn, .ref vmr, .ref vmk, .ref vms, .ref vma, .ref vmm, .ref vmrn, .ref vmkn, .ref vmik, .ref vmon, .int vosm, .int vohp, .ref vmw, .ref vmf, .ref vmb, .int vomb, .ref vmd, .ref vmc, .int vocm, .int voct, .int vocy, .ref vmx, .int votx, .int vose, .ref vml, .ref vmwr, .int x_31, .int vohw, .ref vmno, .int vond, .int voon, .int vowi, .int votop])), (vmn, .inl (cy 0, 575, .inl vmnf_96)), (vml, .inl (cy 0, 160, .inl g_32))] H := hP
                  have hD : va_D A [(vmm, .inl (cy 1, 17, .inr (.inl vmmf))), (vms, .inl (cy 0, 1408, .inl vmsf)), (vmwr, .inl (cy 0, 4, .inl vmwrf)), (vmt, .inl (cy 0, 940, .inl vmtf)), (vma, .inl (cy 0, 176, .inl vmaf_37)), (vo, .inr (12, [.int voth_14, .ref vmt, .int votp_15, .int vosz_16, .int volm_17, .int x_22, .int x_23, .int x_24, .int x_27, .int x_25, .int x_28, .int x_29, .long x_26, .int x_30, .ref vmn, .ref vmr, .ref vmk, .ref vms, .ref vma, .ref vmm, .ref vmrn, .ref vmkn, .ref vmik, .ref vmon, .int vosm, .int vohp, .ref vmw, .ref vmf, .ref vmb, .int vomb, .ref vmd, .ref vmc, .int vocm, .int voct, .int vocy, .ref vmx, .int votx, .int vose, .ref vml, .ref vmwr, .int x_31, .int vohw, .ref vmno, .int vond, .int voon, .int vowi, .int votop])), (vmn, .inl (cy 0, 575, .inl vmnf_96)), (vml, .inl (cy 0, 160, .inl g_32))] := hD
                  refine lv_istore_n (lv' := [(3, .int r_93), (2, .int x_88), (0, .ref vo), (1, .int vn)]) hx hb dX11_book_92 rfl hl (by decide) rfl (fun ls hl => ?_)
                  refine lv_iload_n hx hb dX11_book_93 rfl (lv_at hl 0 rfl) ?_
                  refine lv_if_ne (tgt := 73) hx hb dX11_book_94 (by decide) (fun c_98 => ?_) (fun c_98 => ?_)
                  · skip
                    have c_98 : ¬ (r_93.toInt = (0 : Int32).toInt) := fun h9 => c_98 (i_eq.mpr h9)
                    refine lv_iload_n hx hb dX11_book_73 rfl (lv_at hl 1 rfl) ?_
                    refine lv_aload_n hx hb dX11_book_74 rfl (lv_at hl 2 rfl) ?_
                    refine gf_X11_382 hx hb hts hown hK hP 5 rfl rfl dX11_book_75 ?_
                    refine lv_icmp_ge (tgt := 103) hx hb dX11_book_78 (by decide) (fun c_99 => ?_) (fun c_99 => ?_)
                    · skip
                      have c_99 : x_31.toInt ≤ x_88.toInt := i_le.mp c_99
                      exact join38 x_88 r_93 vmnf_96 ⟨by omega, by omega⟩ q_97 _ _ (hP.sub [0, 1, 7, 2, 3, 5, 6, 4] rfl) (hD.sub [0, 1, 7, 2, 3, 5, 6, 4] rfl rfl) hS ls (lv_sub hl [1, 0, 2, 3] rfl)
                    · skip
                      have c_99 : ¬ (x_31.toInt ≤ x_88.toInt) := fun h9 => c_99 (i_le.mpr h9)
                      refine lv_iload_n hx hb dX11_book_81 rfl (lv_at hl 0 rfl) ?_
                      refine lv_if_ne (tgt := 103) hx hb dX11_book_82 (by decide) (fun _ => ?_) (fun c9 => absurd (i_eq.mp c9) (by omega))
                      exact join38 x_88 r_93 vmnf_96 ⟨by omega, by omega⟩ q_97 _ _ (hP.sub [0, 1, 7, 2, 3, 5, 6, 4] rfl) (hD.sub [0, 1, 7, 2, 3, 5, 6, 4] rfl rfl) hS ls (lv_sub hl [1, 0, 2, 3] rfl)
                  · skip
                    have c_98 : r_93.toInt = (0 : Int32).toInt := i_eq.mp c_98
                    obtain ⟨z_100, ez_100⟩ : ∃ z : Int32, z = x_88 + 1 := ⟨_, rfl⟩
                    have bz_100 : z_100.toInt = x_88.toInt + (1 : Int32).toInt := i_add ez_100 (by omega) (by omega)
                    refine lv_iinc (v := z_100) (lv' := [(2, .int z_100), (3, .int r_93), (0, .ref vo), (1, .int vn)]) hx hb dX11_book_97 hl (k := 1) rfl ez_100.symm (by decide) rfl (fun ls hl => ?_)
                    refine lv_goto (tgt := 73) hx hb dX11_book_100 (by decide) ?_
                    exact ih86 z_100 r_93 vmnf_96 ⟨by omega, by omega⟩ q_97 (by omega) _ _ (hP.sub [0, 1, 7, 2, 3, 5, 6, 4] rfl) (hD.sub [0, 1, 7, 2, 3, 5, 6, 4] rfl rfl) hS ls (lv_sub hl [1, 0, 2, 3] rfl)
          exact loop86 ((40 - (0 : Int32).toInt).toNat + 1) 0 0 vmnf ⟨by omega, by omega⟩ p_vmnf (by omega) _ _ hP hD hS ls (lv_sub hl [0, 1, 2, 3] rfl)
        · skip
          have c_33 : ¬ (x_24.toInt = (0 : Int32).toInt) := fun h9 => c_33 (i_eq.mpr h9)
          refine lv_aload_n hx hb dX11_book_37 rfl (lv_at hl 0 rfl) ?_
          refine jn_i (wr := [(vms, .inl (cy 0, 1408, .inl vmsf)), (vma, .inl (cy 0, 176, .inl vmaf)), (vmwr, .inl (cy 0, 4, .inl vmwrf))]) (rV (As := []) (rest := []) (ci := 12) ⟨hx, hb, hml, hown, hts⟩ (m_readBookLine l dC dI cy _ vnh vo voth_14 vmt votp_15 vosz_16 volm_17 x_22 x_23 x_24 x_27 x_25 x_28 x_29 x_26 x_30 vmn vmr vmk vms vma vmm vmrn vmkn vmik vmon vosm vohp vmw vmf vmb vomb vmd vmc vocm voct vocy vmx votx vose vml vmwr x_31 vohw vmno vond voon vowi votop vmtf vmnf vmmf g_32 ⟨by omega, by omega⟩ ⟨by omega, by omega⟩ ⟨by omega, by omega⟩ ⟨by omega, by omega⟩ p_vmtf p_vmnf p_g_32) (cw_X11_388 hts rfl rfl ⟨Nat.le_of_ble_eq_true rfl, Nat.le_of_ble_eq_true rfl⟩) hP hD hK [6, 7, 0, 1, 4] rfl rfl rfl rfl bl0 e0 rfl hl.1 rfl (Nat.le_of_ble_eq_true rfl) dX11_book_38 ⟨Nat.le_of_ble_eq_true rfl, Nat.le_of_ble_eq_true rfl⟩) hP hD hS hA [6, 7, 0, 1, 4] [2, 3, 5] rfl rfl rfl (by decide) (fun r_101 u_103 H locs hp_102 hP hD hS => ?_)
          obtain ⟨voto_104, vofr_105, vokd_106, vosg_107, vowd_108, vonu_109, vofa_110, vopl_111, votd_112, vmlf_113⟩ := u_103
          have hp_102 : ((r_101 = 0) ∨ (r_101 = 1 ∧ (x_31 : Int32).toInt ≤ 39)) ∧ (0 ≤ (voto_104 : Int32).toInt ∧ (voto_104 : Int32).toInt ≤ 940) ∧ (-1 ≤ (votd_112 : Int32).toInt ∧ (votd_112 : Int32).toInt ≤ 999) ∧ (LQ vmlf_113) := hp_102
          obtain ⟨q_114, q_115, q_116, q_117⟩ := hp_102
          have hP : va_P (dC, dI) vwCl [(vms, .inl (cy 0, 1408, .inl vmsf)), (vma, .inl (cy 0, 176, .inl vmaf)), (vmwr, .inl (cy 0, 4, .inl vmwrf)), (vo, .inr (12, [.int voth_14, .ref vmt, .int votp_15, .int vosz_16, .int volm_17, .int voto_104, .int vofr_105, .int vokd_106, .int vonu_109, .int vosg_107, .int vofa_110, .int vopl_111, .long vowd_108, .int votd_112, .ref vmn, .ref vmr, .ref vmk, .ref vms, .ref vma, .ref vmm, .ref vmrn, .ref vmkn, .ref vmik, .ref vmon, .int vosm, .int vohp, .ref vmw, .ref vmf, .ref vmb, .int vomb, .ref vmd, .ref vmc, .int vocm, .int voct, .int vocy, .ref vmx, .int votx, .int vose, .ref vml, .ref vmwr, .int x_31, .int vohw, .ref vmno, .int vond, .int voon, .int vowi, .int votop])), (vmt, .inl (cy 0, 940, .inl vmtf)), (vmn, .inl (cy 0, 575, .inl vmnf)), (vmm, .inl (cy 1, 17, .inr (.inl vmmf))), (vml, .inl (cy 0, 160, .inl vmlf_113))] H := hP
          have hD : va_D A [(vms, .inl (cy 0, 1408, .inl vmsf)), (vma, .inl (cy 0, 176, .inl vmaf)), (vmwr, .inl (cy 0, 4, .inl vmwrf)), (vo, .inr (12, [.int voth_14, .ref vmt, .int votp_15, .int vosz_16, .int volm_17, .int voto_104, .int vofr_105, .int vokd_106, .int vonu_109, .int vosg_107, .int vofa_110, .int vopl_111, .long vowd_108, .int votd_112, .ref vmn, .ref vmr, .ref vmk, .ref vms, .ref vma, .ref vmm, .ref vmrn, .ref vmkn, .ref vmik, .ref vmon, .int vosm, .int vohp, .ref vmw, .ref vmf, .ref vmb, .int vomb, .ref vmd, .ref vmc, .int vocm, .int voct, .int vocy, .ref vmx, .int votx, .int vose, .ref vml, .ref vmwr, .int x_31, .int vohw, .ref vmno, .int vond, .int voon, .int vowi, .int votop])), (vmt, .inl (cy 0, 940, .inl vmtf)), (vmn, .inl (cy 0, 575, .inl vmnf)), (vmm, .inl (cy 1, 17, .inr (.inl vmmf))), (vml, .inl (cy 0, 160, .inl vmlf_113))] := hD
          rcases q_114 with aq_114 | ⟨aq_114, f0q_114⟩
          · skip
            refine as_i 0 aq_114 ?_
            refine lv_if_ne (tgt := 52) hx hb dX11_book_41 (by decide) (fun c9 => absurd c9 (by decide)) (fun _ => ?_)
            refine lv_bipush (v := (-2)) hx hb dX11_book_44 (by decide) ?_
            refine lv_aload_n hx hb dX11_book_46 rfl (lv_at hl 0 rfl) ?_
            refine gf_X11_69 hx hb hts hown hK hP 3 rfl rfl dX11_book_47 ?_
            refine lv_isub hx hb dX11_book_50 ?_
            refine lv_topi (fun z_118 ez_118 => ?_)
            rw [hQ9]
            exact re_i (voth_14, votp_15, vosz_16, volm_17, voto_104, vofr_105, vokd_106, vosg_107, vowd_108, vonu_109, vofa_110, vopl_111, votd_112, x_31, vmlf_113, vmnf, vmaf, vmsf, vosm, vmwrf, vohw) hx hb hr hlocks ⟨(show 0 ≤ (votp_15 : Int32).toInt ∧ (votp_15 : Int32).toInt ≤ 940 from ⟨by omega, by omega⟩), (show -1 ≤ (votd_112 : Int32).toInt ∧ (votd_112 : Int32).toInt ≤ 999 from ⟨by omega, by omega⟩), (show LQ vmlf_113 from q_117), (show NW vnh vmnf from p_vmnf), (show 0 ≤ (vosm : Int32).toInt ∧ (vosm : Int32).toInt ≤ 8 from ⟨by omega, by omega⟩), (show ((((vn : Int32).toInt < 0 ∨ 1 < (vn : Int32).toInt) ∧ (votp_15 : Int32).toInt = (votp : Int32).toInt) ∨ (0 ≤ (vn : Int32).toInt ∧ (vn : Int32).toInt ≤ 1 ∧ (votp_15 : Int32).toInt = 0)) from (by omega))⟩ (hP.sub [3, 4, 5, 6, 0, 1, 7, 2] rfl) (hD.sub [3, 4, 5, 6, 0, 1, 7, 2] rfl rfl) hS dX11_book_51
          · skip
            refine as_i 1 aq_114 ?_
            refine lv_if_ne (tgt := 52) hx hb dX11_book_41 (by decide) (fun _ => ?_) (fun c9 => absurd c9 (by decide))
            refine lv_aload_n hx hb dX11_book_52 rfl (lv_at hl 0 rfl) ?_
            refine lv_dup hx hb dX11_book_53 rfl ?_
            refine gf_X11_382 hx hb hts hown hK hP 3 rfl rfl dX11_book_54 ?_
            refine lv_iconst (v := 1) hx hb dX11_book_57 (by decide) ?_
            refine lv_iadd hx hb dX11_book_58 ?_
            refine lv_topi (fun z_119 ez_119 => ?_)
            have bz_119 : z_119.toInt = x_31.toInt + (1 : Int32).toInt := i_add ez_119 (by omega) (by omega)
            refine pf_X11_382 hx hb hts hown hK hP hD hS 3 rfl rfl rfl (Nat.le_of_ble_eq_true rfl) dX11_book_59 (fun H locs hP hD hS => ?_)
            have hP : va_P (dC, dI) vwCl [(vms, .inl (cy 0, 1408, .inl vmsf)), (vma, .inl (cy 0, 176, .inl vmaf)), (vmwr, .inl (cy 0, 4, .inl vmwrf)), (vo, .inr (12, [.int voth_14, .ref vmt, .int votp_15, .int vosz_16, .int volm_17, .int voto_104, .int vofr_105, .int vokd_106, .int vonu_109, .int vosg_107, .int vofa_110, .int vopl_111, .long vowd_108, .int votd_112, .ref vmn, .ref vmr, .ref vmk, .ref vms, .ref vma, .ref vmm, .ref vmrn, .ref vmkn, .ref vmik, .ref vmon, .int vosm, .int vohp, .ref vmw, .ref vmf, .ref vmb, .int vomb, .ref vmd, .ref vmc, .int vocm, .int voct, .int vocy, .ref vmx, .int votx, .int vose, .ref vml, .ref vmwr, .int z_119, .int vohw, .ref vmno, .int vond, .int voon, .int vowi, .int votop])), (vmt, .inl (cy 0, 940, .inl vmtf)), (vmn, .inl (cy 0, 575, .inl vmnf)), (vmm, .inl (cy 1, 17, .inr (.inl vmmf))), (vml, .inl (cy 0, 160, .inl vmlf_113))] H := hP
            have hD : va_D A [(vms, .inl (cy 0, 1408, .inl vmsf)), (vma, .inl (cy 0, 176, .inl vmaf)), (vmwr, .inl (cy 0, 4, .inl vmwrf)), (vo, .inr (12, [.int voth_14, .ref vmt, .int votp_15, .int vosz_16, .int volm_17, .int voto_104, .int vofr_105, .int vokd_106, .int vonu_109, .int vosg_107, .int vofa_110, .int vopl_111, .long vowd_108, .int votd_112, .ref vmn, .ref vmr, .ref vmk, .ref vms, .ref vma, .ref vmm, .ref vmrn, .ref vmkn, .ref vmik, .ref vmon, .int vosm, .int vohp, .ref vmw, .ref vmf, .ref vmb, .int vomb, .ref vmd, .ref vmc, .int vocm, .int voct, .int vocy, .ref vmx, .int votx, .int vose, .ref vml, .ref vmwr, .int z_119, .int vohw, .ref vmno, .int vond, .int voon, .int vowi, .int votop])), (vmt, .inl (cy 0, 940, .inl vmtf)), (vmn, .inl (cy 0, 575, .inl vmnf)), (vmm, .inl (cy 1, 17, .inr (.inl vmmf))), (vml, .inl (cy 0, 160, .inl vmlf_113))] := hD
            refine lv_goto (tgt := 30) hx hb dX11_book_62 (by decide) ?_
            exact ih21 voto_104 vofr_105 vokd_106 vosg_107 vowd_108 vonu_109 vofa_110 vopl_111 votd_112 z_119 vmlf_113 ⟨by omega, by omega⟩ ⟨by omega, by omega⟩ ⟨by omega, by omega⟩ q_117 (by omega) _ _ (hP.sub [5, 6, 0, 1, 7, 2, 3, 4] rfl) (hD.sub [5, 6, 0, 1, 7, 2, 3, 4] rfl rfl) hS ls (lv_sub hl [0, 1] rfl)
    exact loop21 ((40 - (0 : Int32).toInt).toNat + 1) voto_7 vofr_8 vokd_9 vosg_10 vowd_11 vonu_12 vofa_13 vopl votd 0 vmlf ⟨by omega, by omega⟩ ⟨by omega, by omega⟩ ⟨by omega, by omega⟩ p_vmlf (by omega) _ _ hP hD hS ls (lv_sub hl [0, 1] rfl)
