set_option maxHeartbeats 4000000 in
set_option maxRecDepth 100000 in
theorem s_isWord_0 (l : Launch) (dC : Nat → ClassId) (dI : Nat → Nat → Nat) (cy : Nat → ClassId) (vo : Nat) (voth : Int32) (vmt : Nat) (votp : Int32) (vosz : Int32) (volm : Int32) (voto : Int32) (vofr : Int32) (vokd : Int32) (vonu : Int32) (vosg : Int32) (vofa : Int32) (vopl : Int32) (vowd : Int64) (votd : Int32) (vmn : Nat) (vmr : Nat) (vmk : Nat) (vms : Nat) (vma : Nat) (vmm : Nat) (vmrn : Nat) (vmkn : Nat) (vmik : Nat) (vmon : Nat) (vosm : Int32) (vohp : Int32) (vmw : Nat) (vmf : Nat) (vmb : Nat) (vomb : Int32) (vmd : Nat) (vmc : Nat) (vocm : Int32) (voct : Int32) (vocy : Int32) (vmx : Nat) (votx : Int32) (vose : Int32) (vml : Nat) (vmwr : Nat) (voln : Int32) (vohw : Int32) (vmno : Nat) (vond : Int32) (voon : Int32) (vowi : Int32) (votop : Int32)  : Met l yX11_isWord (wl yX11_isWord cX11_isWord 2 (some .boolean)) ({ frames := 2, cells := 0, slots := 0, locals := 128 }) (Pr (dC, dI) vwCl cy [(vo, .inr (12, [.int voth, .ref vmt, .int votp, .int vosz, .int volm, .int voto, .int vofr, .int vokd, .int vonu, .int vosg, .int vofa, .int vopl, .long vowd, .int votd, .ref vmn, .ref vmr, .ref vmk, .ref vms, .ref vma, .ref vmm, .ref vmrn, .ref vmkn, .ref vmik, .ref vmon, .int vosm, .int vohp, .ref vmw, .ref vmf, .ref vmb, .int vomb, .ref vmd, .ref vmc, .int vocm, .int voct, .int vocy, .ref vmx, .int votx, .int vose, .ref vml, .ref vmwr, .int voln, .int vohw, .ref vmno, .int vond, .int voon, .int vowi, .int votop]))] [.ref vo, .int 0]) (Ri (fun r => ((r = 0 ∧ ¬ (tkMW (vokd : Int32).toInt vowd = 0)) ∨ (r = 1 ∧ tkMW (vokd : Int32).toInt vowd = 0)))) 0 0 (fun _ => False) := by
  refine mr RX11 rfl (by decide +kernel) (Nat.le_of_ble_eq_true rfl) ?_
  intro p e s m below meth c hx hb hr hlocks av9 hav hts hown hml hK hP hS Q9 hQ9 ls hl
  have hl : lv_has ls 2 [(0, .ref vo), (1, .int 0)] := hl
  refine lv_aload_n hx hb dX11_isWord_0 rfl (lv_at hl 0 rfl) ?_
  refine gf_X11_30 hx hb hts hown hK hP 0 rfl rfl dX11_isWord_1 ?_
  refine lv_iconst (v := 2) hx hb dX11_isWord_4 (by decide) ?_
  have k_2 : (2 : Int32).toInt = 2 := by decide
  refine lv_icmp_ne (tgt := 24) hx hb dX11_isWord_5 (by decide) (fun c_1 => ?_) (fun c_1 => ?_)
  · skip
    have c_1 : ¬ (vokd.toInt = (2 : Int32).toInt) := fun h9 => c_1 (i_eq.mpr h9)
    refine lv_iconst (v := 0) hx hb dX11_isWord_24 (by decide) ?_
    have k_0 : (0 : Int32).toInt = 0 := by decide
    rw [hQ9]
    exact rr_z hx hb hr hlocks (Or.inl rfl) (show ((0 : Int32) = 0 ∧ ¬ (tkMW (vokd : Int32).toInt vowd = 0)) ∨ ((0 : Int32) = 1 ∧ tkMW (vokd : Int32).toInt vowd = 0) from Or.inl ⟨rfl, (show ¬ (tkMW (vokd : Int32).toInt vowd = 0) from (by rw [tkMW_not (by omega)]; decide))⟩) hS dX11_isWord_25
  · skip
    have c_1 : vokd.toInt = (2 : Int32).toInt := i_eq.mp c_1
    refine lv_aload_n hx hb dX11_isWord_8 rfl (lv_at hl 0 rfl) ?_
    refine gf_X11_43 hx hb hts hown hK hP 0 rfl rfl dX11_isWord_9 ?_
    refine lv_iload_n hx hb dX11_isWord_12 rfl (lv_at hl 1 rfl) ?_
    have k_0 : (0 : Int32).toInt = 0 := by decide
    refine jr_l (rSr (As := [.int 0]) (rest := [.long vowd]) ⟨hx, hb, hml, hown, hts⟩ (s_wordOf l dC dI cy 0 ⟨by omega, by omega⟩) (cw_X11_62 hts rfl rfl ⟨Nat.le_of_ble_eq_true rfl, Nat.le_of_ble_eq_true rfl⟩) hP hK [] rfl rfl hl.1 rfl (Nat.le_of_ble_eq_true rfl) dX11_isWord_13 ⟨Nat.le_of_ble_eq_true rfl, Nat.le_of_ble_eq_true rfl⟩) hP hS (fun r_2 H locs hp_3 hP hS => ?_)
    have hp_3 : ((r_2 : Int64).toInt = tkMM (0 : Int32).toInt) := hp_3
    have q_4 := hp_3
    have hr9 : r_2 = tkMT (0 : Int).toNat := l_eq.mpr (q_4.trans (by decide))
    refine W.lcmp hx hb dX11_isWord_16 ?_
    refine lv_topi (fun z_5 ez_5 => ?_)
    refine lv_if_ne (tgt := 24) hx hb dX11_isWord_17 (by decide) (fun c_6 => ?_) (fun c_6 => ?_)
    · skip
      have c_6 : ¬ (z_5.toInt = (0 : Int32).toInt) := fun h9 => c_6 (i_eq.mpr h9)
      refine lv_iconst (v := 0) hx hb dX11_isWord_24 (by decide) ?_
      rw [hQ9]
      exact rr_z hx hb hr hlocks (Or.inl rfl) (show ((0 : Int32) = 0 ∧ ¬ (tkMW (vokd : Int32).toInt vowd = 0)) ∨ ((0 : Int32) = 1 ∧ tkMW (vokd : Int32).toInt vowd = 0) from Or.inl ⟨rfl, (show ¬ (tkMW (vokd : Int32).toInt vowd = 0) from (fun h9 => c_6 ((l_cmp0 ez_5).mpr (((tkMW_isI (by decide) (by decide) (by omega)).mp h9).trans hr9.symm))))⟩) hS dX11_isWord_25
    · skip
      have c_6 : z_5.toInt = (0 : Int32).toInt := i_eq.mp c_6
      refine lv_iconst (v := 1) hx hb dX11_isWord_20 (by decide) ?_
      refine lv_goto (tgt := 25) hx hb dX11_isWord_21 (by decide) ?_
      have k_1 : (1 : Int32).toInt = 1 := by decide
      rw [hQ9]
      exact rr_z hx hb hr hlocks (Or.inr rfl) (show ((1 : Int32) = 0 ∧ ¬ (tkMW (vokd : Int32).toInt vowd = 0)) ∨ ((1 : Int32) = 1 ∧ tkMW (vokd : Int32).toInt vowd = 0) from Or.inr (⟨rfl, (show tkMW (vokd : Int32).toInt vowd = 0 from ((tkMW_isI (by decide) (by decide) (by omega)).mpr (((l_cmp0 ez_5).mp c_6).trans hr9)))⟩)) hS dX11_isWord_25
set_option maxHeartbeats 4000000 in
set_option maxRecDepth 100000 in
theorem s_isWord_1 (l : Launch) (dC : Nat → ClassId) (dI : Nat → Nat → Nat) (cy : Nat → ClassId) (vo : Nat) (voth : Int32) (vmt : Nat) (votp : Int32) (vosz : Int32) (volm : Int32) (voto : Int32) (vofr : Int32) (vokd : Int32) (vonu : Int32) (vosg : Int32) (vofa : Int32) (vopl : Int32) (vowd : Int64) (votd : Int32) (vmn : Nat) (vmr : Nat) (vmk : Nat) (vms : Nat) (vma : Nat) (vmm : Nat) (vmrn : Nat) (vmkn : Nat) (vmik : Nat) (vmon : Nat) (vosm : Int32) (vohp : Int32) (vmw : Nat) (vmf : Nat) (vmb : Nat) (vomb : Int32) (vmd : Nat) (vmc : Nat) (vocm : Int32) (voct : Int32) (vocy : Int32) (vmx : Nat) (votx : Int32) (vose : Int32) (vml : Nat) (vmwr : Nat) (voln : Int32) (vohw : Int32) (vmno : Nat) (vond : Int32) (voon : Int32) (vowi : Int32) (votop : Int32)  : Met l yX11_isWord (wl yX11_isWord cX11_isWord 2 (some .boolean)) ({ frames := 2, cells := 0, slots := 0, locals := 128 }) (Pr (dC, dI) vwCl cy [(vo, .inr (12, [.int voth, .ref vmt, .int votp, .int vosz, .int volm, .int voto, .int vofr, .int vokd, .int vonu, .int vosg, .int vofa, .int vopl, .long vowd, .int votd, .ref vmn, .ref vmr, .ref vmk, .ref vms, .ref vma, .ref vmm, .ref vmrn, .ref vmkn, .ref vmik, .ref vmon, .int vosm, .int vohp, .ref vmw, .ref vmf, .ref vmb, .int vomb, .ref vmd, .ref vmc, .int vocm, .int voct, .int vocy, .ref vmx, .int votx, .int vose, .ref vml, .ref vmwr, .int voln, .int vohw, .ref vmno, .int vond, .int voon, .int vowi, .int votop]))] [.ref vo, .int 1]) (Ri (fun r => ((r = 0 ∧ ¬ (tkMW (vokd : Int32).toInt vowd = 1)) ∨ (r = 1 ∧ tkMW (vokd : Int32).toInt vowd = 1)))) 0 0 (fun _ => False) := by
  refine mr RX11 rfl (by decide +kernel) (Nat.le_of_ble_eq_true rfl) ?_
  intro p e s m below meth c hx hb hr hlocks av9 hav hts hown hml hK hP hS Q9 hQ9 ls hl
  have hl : lv_has ls 2 [(0, .ref vo), (1, .int 1)] := hl
  refine lv_aload_n hx hb dX11_isWord_0 rfl (lv_at hl 0 rfl) ?_
  refine gf_X11_30 hx hb hts hown hK hP 0 rfl rfl dX11_isWord_1 ?_
  refine lv_iconst (v := 2) hx hb dX11_isWord_4 (by decide) ?_
  have k_2 : (2 : Int32).toInt = 2 := by decide
  refine lv_icmp_ne (tgt := 24) hx hb dX11_isWord_5 (by decide) (fun c_1 => ?_) (fun c_1 => ?_)
  · skip
    have c_1 : ¬ (vokd.toInt = (2 : Int32).toInt) := fun h9 => c_1 (i_eq.mpr h9)
    refine lv_iconst (v := 0) hx hb dX11_isWord_24 (by decide) ?_
    have k_0 : (0 : Int32).toInt = 0 := by decide
    rw [hQ9]
    exact rr_z hx hb hr hlocks (Or.inl rfl) (show ((0 : Int32) = 0 ∧ ¬ (tkMW (vokd : Int32).toInt vowd = 1)) ∨ ((0 : Int32) = 1 ∧ tkMW (vokd : Int32).toInt vowd = 1) from Or.inl ⟨rfl, (show ¬ (tkMW (vokd : Int32).toInt vowd = 1) from (by rw [tkMW_not (by omega)]; decide))⟩) hS dX11_isWord_25
  · skip
    have c_1 : vokd.toInt = (2 : Int32).toInt := i_eq.mp c_1
    refine lv_aload_n hx hb dX11_isWord_8 rfl (lv_at hl 0 rfl) ?_
    refine gf_X11_43 hx hb hts hown hK hP 0 rfl rfl dX11_isWord_9 ?_
    refine lv_iload_n hx hb dX11_isWord_12 rfl (lv_at hl 1 rfl) ?_
    have k_1 : (1 : Int32).toInt = 1 := by decide
    refine jr_l (rSr (As := [.int 1]) (rest := [.long vowd]) ⟨hx, hb, hml, hown, hts⟩ (s_wordOf l dC dI cy 1 ⟨by omega, by omega⟩) (cw_X11_62 hts rfl rfl ⟨Nat.le_of_ble_eq_true rfl, Nat.le_of_ble_eq_true rfl⟩) hP hK [] rfl rfl hl.1 rfl (Nat.le_of_ble_eq_true rfl) dX11_isWord_13 ⟨Nat.le_of_ble_eq_true rfl, Nat.le_of_ble_eq_true rfl⟩) hP hS (fun r_2 H locs hp_3 hP hS => ?_)
    have hp_3 : ((r_2 : Int64).toInt = tkMM (1 : Int32).toInt) := hp_3
    have q_4 := hp_3
    have hr9 : r_2 = tkMT (1 : Int).toNat := l_eq.mpr (q_4.trans (by decide))
    refine W.lcmp hx hb dX11_isWord_16 ?_
    refine lv_topi (fun z_5 ez_5 => ?_)
    have k_0 : (0 : Int32).toInt = 0 := by decide
    refine lv_if_ne (tgt := 24) hx hb dX11_isWord_17 (by decide) (fun c_6 => ?_) (fun c_6 => ?_)
    · skip
      have c_6 : ¬ (z_5.toInt = (0 : Int32).toInt) := fun h9 => c_6 (i_eq.mpr h9)
      refine lv_iconst (v := 0) hx hb dX11_isWord_24 (by decide) ?_
      rw [hQ9]
      exact rr_z hx hb hr hlocks (Or.inl rfl) (show ((0 : Int32) = 0 ∧ ¬ (tkMW (vokd : Int32).toInt vowd = 1)) ∨ ((0 : Int32) = 1 ∧ tkMW (vokd : Int32).toInt vowd = 1) from Or.inl ⟨rfl, (show ¬ (tkMW (vokd : Int32).toInt vowd = 1) from (fun h9 => c_6 ((l_cmp0 ez_5).mpr (((tkMW_isI (by decide) (by decide) (by omega)).mp h9).trans hr9.symm))))⟩) hS dX11_isWord_25
    · skip
      have c_6 : z_5.toInt = (0 : Int32).toInt := i_eq.mp c_6
      refine lv_iconst (v := 1) hx hb dX11_isWord_20 (by decide) ?_
      refine lv_goto (tgt := 25) hx hb dX11_isWord_21 (by decide) ?_
      rw [hQ9]
      exact rr_z hx hb hr hlocks (Or.inr rfl) (show ((1 : Int32) = 0 ∧ ¬ (tkMW (vokd : Int32).toInt vowd = 1)) ∨ ((1 : Int32) = 1 ∧ tkMW (vokd : Int32).toInt vowd = 1) from Or.inr (⟨rfl, (show tkMW (vokd : Int32).toInt vowd = 1 from ((tkMW_isI (by decide) (by decide) (by omega)).mpr (((l_cmp0 ez_5).mp c_6).trans hr9)))⟩)) hS dX11_isWord_25
set_option maxHeartbeats 4000000 in
set_option maxRecDepth 100000 in
theorem s_isWord_2 (l : Launch) (dC : Nat → ClassId) (dI : Nat → Nat → Nat) (cy : Nat → ClassId) (vo : Nat) (voth : Int32) (vmt : Nat) (votp : Int32) (vosz : Int32) (volm : Int32) (voto : Int32) (vofr : Int32) (vokd : Int32) (vonu : Int32) (vosg : Int32) (vofa : Int32) (vopl : Int32) (vowd : Int64) (votd : Int32) (vmn : Nat) (vmr : Nat) (vmk : Nat) (vms : Nat) (vma : Nat) (vmm : Nat) (vmrn : Nat) (vmkn : Nat) (vmik : Nat) (vmon : Nat) (vosm : Int32) (vohp : Int32) (vmw : Nat) (vmf : Nat) (vmb : Nat) (vomb : Int32) (vmd : Nat) (vmc : Nat) (vocm : Int32) (voct : Int32) (vocy : Int32) (vmx : Nat) (votx : Int32) (vose : Int32) (vml : Nat) (vmwr : Nat) (voln : Int32) (vohw : Int32) (vmno : Nat) (vond : Int32) (voon : Int32) (vowi : Int32) (votop : Int32)  : Met l yX11_isWord (wl yX11_isWord cX11_isWord 2 (some .boolean)) ({ frames := 2, cells := 0, slots := 0, locals := 128 }) (Pr (dC, dI) vwCl cy [(vo, .inr (12, [.int voth, .ref vmt, .int votp, .int vosz, .int volm, .int voto, .int vofr, .int vokd, .int vonu, .int vosg, .int vofa, .int vopl, .long vowd, .int votd, .ref vmn, .ref vmr, .ref vmk, .ref vms, .ref vma, .ref vmm, .ref vmrn, .ref vmkn, .ref vmik, .ref vmon, .int vosm, .int vohp, .ref vmw, .ref vmf, .ref vmb, .int vomb, .ref vmd, .ref vmc, .int vocm, .int voct, .int vocy, .ref vmx, .int votx, .int vose, .ref vml, .ref vmwr, .int voln, .int vohw, .ref vmno, .int vond, .int voon, .int vowi, .int votop]))] [.ref vo, .int 2]) (Ri (fun r => ((r = 0 ∧ ¬ (tkMW (vokd : Int32).toInt vowd = 2)) ∨ (r = 1 ∧ tkMW (vokd : Int32).toInt vowd = 2)))) 0 0 (fun _ => False) := by
  refine mr RX11 rfl (by decide +kernel) (Nat.le_of_ble_eq_true rfl) ?_
  intro p e s m below meth c hx hb hr hlocks av9 hav hts hown hml hK hP hS Q9 hQ9 ls hl
  have hl : lv_has ls 2 [(0, .ref vo), (1, .int 2)] := hl
  refine lv_aload_n hx hb dX11_isWord_0 rfl (lv_at hl 0 rfl) ?_
  refine gf_X11_30 hx hb hts hown hK hP 0 rfl rfl dX11_isWord_1 ?_
  refine lv_iconst (v := 2) hx hb dX11_isWord_4 (by decide) ?_
  have k_2 : (2 : Int32).toInt = 2 := by decide
  refine lv_icmp_ne (tgt := 24) hx hb dX11_isWord_5 (by decide) (fun c_1 => ?_) (fun c_1 => ?_)
  · skip
    have c_1 : ¬ (vokd.toInt = (2 : Int32).toInt) := fun h9 => c_1 (i_eq.mpr h9)
    refine lv_iconst (v := 0) hx hb dX11_isWord_24 (by decide) ?_
    have k_0 : (0 : Int32).toInt = 0 := by decide
    rw [hQ9]
    exact rr_z hx hb hr hlocks (Or.inl rfl) (show ((0 : Int32) = 0 ∧ ¬ (tkMW (vokd : Int32).toInt vowd = 2)) ∨ ((0 : Int32) = 1 ∧ tkMW (vokd : Int32).toInt vowd = 2) from Or.inl ⟨rfl, (show ¬ (tkMW (vokd : Int32).toInt vowd = 2) from (by rw [tkMW_not (by omega)]; decide))⟩) hS dX11_isWord_25
  · skip
    have c_1 : vokd.toInt = (2 : Int32).toInt := i_eq.mp c_1
    refine lv_aload_n hx hb dX11_isWord_8 rfl (lv_at hl 0 rfl) ?_
    refine gf_X11_43 hx hb hts hown hK hP 0 rfl rfl dX11_isWord_9 ?_
    refine lv_iload_n hx hb dX11_isWord_12 rfl (lv_at hl 1 rfl) ?_
    refine jr_l (rSr (As := [.int 2]) (rest := [.long vowd]) ⟨hx, hb, hml, hown, hts⟩ (s_wordOf l dC dI cy 2 ⟨by omega, by omega⟩) (cw_X11_62 hts rfl rfl ⟨Nat.le_of_ble_eq_true rfl, Nat.le_of_ble_eq_true rfl⟩) hP hK [] rfl rfl hl.1 rfl (Nat.le_of_ble_eq_true rfl) dX11_isWord_13 ⟨Nat.le_of_ble_eq_true rfl, Nat.le_of_ble_eq_true rfl⟩) hP hS (fun r_2 H locs hp_3 hP hS => ?_)
    have hp_3 : ((r_2 : Int64).toInt = tkMM (2 : Int32).toInt) := hp_3
    have q_4 := hp_3
    have hr9 : r_2 = tkMT (2 : Int).toNat := l_eq.mpr (q_4.trans (by decide))
    refine W.lcmp hx hb dX11_isWord_16 ?_
    refine lv_topi (fun z_5 ez_5 => ?_)
    have k_0 : (0 : Int32).toInt = 0 := by decide
    refine lv_if_ne (tgt := 24) hx hb dX11_isWord_17 (by decide) (fun c_6 => ?_) (fun c_6 => ?_)
    · skip
      have c_6 : ¬ (z_5.toInt = (0 : Int32).toInt) := fun h9 => c_6 (i_eq.mpr h9)
      refine lv_iconst (v := 0) hx hb dX11_isWord_24 (by decide) ?_
      rw [hQ9]
      exact rr_z hx hb hr hlocks (Or.inl rfl) (show ((0 : Int32) = 0 ∧ ¬ (tkMW (vokd : Int32).toInt vowd = 2)) ∨ ((0 : Int32) = 1 ∧ tkMW (vokd : Int32).toInt vowd = 2) from Or.inl ⟨rfl, (show ¬ (tkMW (vokd : Int32).toInt vowd = 2) from (fun h9 => c_6 ((l_cmp0 ez_5).mpr (((tkMW_isI (by decide) (by decide) (by omega)).mp h9).trans hr9.symm))))⟩) hS dX11_isWord_25
    · skip
      have c_6 : z_5.toInt = (0 : Int32).toInt := i_eq.mp c_6
      refine lv_iconst (v := 1) hx hb dX11_isWord_20 (by decide) ?_
      refine lv_goto (tgt := 25) hx hb dX11_isWord_21 (by decide) ?_
      have k_1 : (1 : Int32).toInt = 1 := by decide
      rw [hQ9]
      exact rr_z hx hb hr hlocks (Or.inr rfl) (show ((1 : Int32) = 0 ∧ ¬ (tkMW (vokd : Int32).toInt vowd = 2)) ∨ ((1 : Int32) = 1 ∧ tkMW (vokd : Int32).toInt vowd = 2) from Or.inr (⟨rfl, (show tkMW (vokd : Int32).toInt vowd = 2 from ((tkMW_isI (by decide) (by decide) (by omega)).mpr (((l_cmp0 ez_5).mp c_6).trans hr9)))⟩)) hS dX11_isWord_25
set_option maxHeartbeats 4000000 in
set_option maxRecDepth 100000 in
theorem s_isWord_3 (l : Launch) (dC : Nat → ClassId) (dI : Nat → Nat → Nat) (cy : Nat → ClassId) (vo : Nat) (voth : Int32) (vmt : Nat) (votp : Int32) (vosz : Int32) (volm : Int32) (voto : Int32) (vofr : Int32) (vokd : Int32) (vonu : Int32) (vosg : Int32) (vofa : Int32) (vopl : Int32) (vowd : Int64) (votd : Int32) (vmn : Nat) (vmr : Nat) (vmk : Nat) (vms : Nat) (vma : Nat) (vmm : Nat) (vmrn : Nat) (vmkn : Nat) (vmik : Nat) (vmon : Nat) (vosm : Int32) (vohp : Int32) (vmw : Nat) (vmf : Nat) (vmb : Nat) (vomb : Int32) (vmd : Nat) (vmc : Nat) (vocm : Int32) (voct : Int32) (vocy : Int32) (vmx : Nat) (votx : Int32) (vose : Int32) (vml : Nat) (vmwr : Nat) (voln : Int32) (vohw : Int32) (vmno : Nat) (vond : Int32) (voon : Int32) (vowi : Int32) (votop : Int32)  : Met l yX11_isWord (wl yX11_isWord cX11_isWord 2 (some .boolean)) ({ frames := 2, cells := 0, slots := 0, locals := 128 }) (Pr (dC, dI) vwCl cy [(vo, .inr (12, [.int voth, .ref vmt, .int votp, .int vosz, .int volm, .int voto, .int vofr, .int vokd, .int vonu, .int vosg, .int vofa, .int vopl, .long vowd, .int votd, .ref vmn, .ref vmr, .ref vmk, .ref vms, .ref vma, .ref vmm, .ref vmrn, .ref vmkn, .ref vmik, .ref vmon, .int vosm, .int vohp, .ref vmw, .ref vmf, .ref vmb, .int vomb, .ref vmd, .ref vmc, .int vocm, .int voct, .int vocy, .ref vmx, .int votx, .int vose, .ref vml, .ref vmwr, .int voln, .int vohw, .ref vmno, .int vond, .int voon, .int vowi, .int votop]))] [.ref vo, .int 3]) (Ri (fun r => ((r = 0 ∧ ¬ (tkMW (vokd : Int32).toInt vowd = 3)) ∨ (r = 1 ∧ tkMW (vokd : Int32).toInt vowd = 3)))) 0 0 (fun _ => False) := by
  refine mr RX11 rfl (by decide +kernel) (Nat.le_of_ble_eq_true rfl) ?_
  intro p e s m below meth c hx hb hr hlocks av9 hav hts hown hml hK hP hS Q9 hQ9 ls hl
  have hl : lv_has ls 2 [(0, .ref vo), (1, .int 3)] := hl
  refine lv_aload_n hx hb dX11_isWord_0 rfl (lv_at hl 0 rfl) ?_
  refine gf_X11_30 hx hb hts hown hK hP 0 rfl rfl dX11_isWord_1 ?_
  refine lv_iconst (v := 2) hx hb dX11_isWord_4 (by decide) ?_
  have k_2 : (2 : Int32).toInt = 2 := by decide
  refine lv_icmp_ne (tgt := 24) hx hb dX11_isWord_5 (by decide) (fun c_1 => ?_) (fun c_1 => ?_)
  · skip
    have c_1 : ¬ (vokd.toInt = (2 : Int32).toInt) := fun h9 => c_1 (i_eq.mpr h9)
    refine lv_iconst (v := 0) hx hb dX11_isWord_24 (by decide) ?_
    have k_0 : (0 : Int32).toInt = 0 := by decide
    rw [hQ9]
    exact rr_z hx hb hr hlocks (Or.inl rfl) (show ((0 : Int32) = 0 ∧ ¬ (tkMW (vokd : Int32).toInt vowd = 3)) ∨ ((0 : Int32) = 1 ∧ tkMW (vokd : Int32).toInt vowd = 3) from Or.inl ⟨rfl, (show ¬ (tkMW (vokd : Int32).toInt vowd = 3) from (by rw [tkMW_not (by omega)]; decide))⟩) hS dX11_isWord_25
  · skip
    have c_1 : vokd.toInt = (2 : Int32).toInt := i_eq.mp c_1
    refine lv_aload_n hx hb dX11_isWord_8 rfl (lv_at hl 0 rfl) ?_
    refine gf_X11_43 hx hb hts hown hK hP 0 rfl rfl dX11_isWord_9 ?_
    refine lv_iload_n hx hb dX11_isWord_12 rfl (lv_at hl 1 rfl) ?_
    have k_3 : (3 : Int32).toInt = 3 := by decide
    refine jr_l (rSr (As := [.int 3]) (rest := [.long vowd]) ⟨hx, hb, hml, hown, hts⟩ (s_wordOf l dC dI cy 3 ⟨by omega, by omega⟩) (cw_X11_62 hts rfl rfl ⟨Nat.le_of_ble_eq_true rfl, Nat.le_of_ble_eq_true rfl⟩) hP hK [] rfl rfl hl.1 rfl (Nat.le_of_ble_eq_true rfl) dX11_isWord_13 ⟨Nat.le_of_ble_eq_true rfl, Nat.le_of_ble_eq_true rfl⟩) hP hS (fun r_2 H locs hp_3 hP hS => ?_)
    have hp_3 : ((r_2 : Int64).toInt = tkMM (3 : Int32).toInt) := hp_3
    have q_4 := hp_3
    have hr9 : r_2 = tkMT (3 : Int).toNat := l_eq.mpr (q_4.trans (by decide))
    refine W.lcmp hx hb dX11_isWord_16 ?_
    refine lv_topi (fun z_5 ez_5 => ?_)
    have k_0 : (0 : Int32).toInt = 0 := by decide
    refine lv_if_ne (tgt := 24) hx hb dX11_isWord_17 (by decide) (fun c_6 => ?_) (fun c_6 => ?_)
    · skip
      have c_6 : ¬ (z_5.toInt = (0 : Int32).toInt) := fun h9 => c_6 (i_eq.mpr h9)
      refine lv_iconst (v := 0) hx hb dX11_isWord_24 (by decide) ?_
      rw [hQ9]
      exact rr_z hx hb hr hlocks (Or.inl rfl) (show ((0 : Int32) = 0 ∧ ¬ (tkMW (vokd : Int32).toInt vowd = 3)) ∨ ((0 : Int32) = 1 ∧ tkMW (vokd : Int32).toInt vowd = 3) from Or.inl ⟨rfl, (show ¬ (tkMW (vokd : Int32).toInt vowd = 3) from (fun h9 => c_6 ((l_cmp0 ez_5).mpr (((tkMW_isI (by decide) (by decide) (by omega)).mp h9).trans hr9.symm))))⟩) hS dX11_isWord_25
    · skip
      have c_6 : z_5.toInt = (0 : Int32).toInt := i_eq.mp c_6
      refine lv_iconst (v := 1) hx hb dX11_isWord_20 (by decide) ?_
      refine lv_goto (tgt := 25) hx hb dX11_isWord_21 (by decide) ?_
      have k_1 : (1 : Int32).toInt = 1 := by decide
      rw [hQ9]
      exact rr_z hx hb hr hlocks (Or.inr rfl) (show ((1 : Int32) = 0 ∧ ¬ (tkMW (vokd : Int32).toInt vowd = 3)) ∨ ((1 : Int32) = 1 ∧ tkMW (vokd : Int32).toInt vowd = 3) from Or.inr (⟨rfl, (show tkMW (vokd : Int32).toInt vowd = 3 from ((tkMW_isI (by decide) (by decide) (by omega)).mpr (((l_cmp0 ez_5).mp c_6).trans hr9)))⟩)) hS dX11_isWord_25
set_option maxHeartbeats 4000000 in
set_option maxRecDepth 100000 in
theorem s_isWord_4 (l : Launch) (dC : Nat → ClassId) (dI : Nat → Nat → Nat) (cy : Nat → ClassId) (vo : Nat) (voth : Int32) (vmt : Nat) (votp : Int32) (vosz : Int32) (volm : Int32) (voto : Int32) (vofr : Int32) (vokd : Int32) (vonu : Int32) (vosg : Int32) (vofa : Int32) (vopl : Int32) (vowd : Int64) (votd : Int32) (vmn : Nat) (vmr : Nat) (vmk : Nat) (vms : Nat) (vma : Nat) (vmm : Nat) (vmrn : Nat) (vmkn : Nat) (vmik : Nat) (vmon : Nat) (vosm : Int32) (vohp : Int32) (vmw : Nat) (vmf : Nat) (vmb : Nat) (vomb : Int32) (vmd : Nat) (vmc : Nat) (vocm : Int32) (voct : Int32) (vocy : Int32) (vmx : Nat) (votx : Int32) (vose : Int32) (vml : Nat) (vmwr : Nat) (voln : Int32) (vohw : Int32) (vmno : Nat) (vond : Int32) (voon : Int32) (vowi : Int32) (votop : Int32)  : Met l yX11_isWord (wl yX11_isWord cX11_isWord 2 (some .boolean)) ({ frames := 2, cells := 0, slots := 0, locals := 128 }) (Pr (dC, dI) vwCl cy [(vo, .inr (12, [.int voth, .ref vmt, .int votp, .int vosz, .int volm, .int voto, .int vofr, .int vokd, .int vonu, .int vosg, .int vofa, .int vopl, .long vowd, .int votd, .ref vmn, .ref vmr, .ref vmk, .ref vms, .ref vma, .ref vmm, .ref vmrn, .ref vmkn, .ref vmik, .ref vmon, .int vosm, .int vohp, .ref vmw, .ref vmf, .ref vmb, .int vomb, .ref vmd, .ref vmc, .int vocm, .int voct, .int vocy, .ref vmx, .int votx, .int vose, .ref vml, .ref vmwr, .int voln, .int vohw, .ref vmno, .int vond, .int voon, .int vowi, .int votop]))] [.ref vo, .int 4]) (Ri (fun r => ((r = 0 ∧ ¬ (tkMW (vokd : Int32).toInt vowd = 4)) ∨ (r = 1 ∧ tkMW (vokd : Int32).toInt vowd = 4)))) 0 0 (fun _ => False) := by
  refine mr RX11 rfl (by decide +kernel) (Nat.le_of_ble_eq_true rfl) ?_
  intro p e s m below meth c hx hb hr hlocks av9 hav hts hown hml hK hP hS Q9 hQ9 ls hl
  have hl : lv_has ls 2 [(0, .ref vo), (1, .int 4)] := hl
  refine lv_aload_n hx hb dX11_isWord_0 rfl (lv_at hl 0 rfl) ?_
  refine gf_X11_30 hx hb hts hown hK hP 0 rfl rfl dX11_isWord_1 ?_
  refine lv_iconst (v := 2) hx hb dX11_isWord_4 (by decide) ?_
  have k_2 : (2 : Int32).toInt = 2 := by decide
  refine lv_icmp_ne (tgt := 24) hx hb dX11_isWord_5 (by decide) (fun c_1 => ?_) (fun c_1 => ?_)
  · skip
    have c_1 : ¬ (vokd.toInt = (2 : Int32).toInt) := fun h9 => c_1 (i_eq.mpr h9)
    refine lv_iconst (v := 0) hx hb dX11_isWord_24 (by decide) ?_
    have k_0 : (0 : Int32).toInt = 0 := by decide
    rw [hQ9]
    exact rr_z hx hb hr hlocks (Or.inl rfl) (show ((0 : Int32) = 0 ∧ ¬ (tkMW (vokd : Int32).toInt vowd = 4)) ∨ ((0 : Int32) = 1 ∧ tkMW (vokd : Int32).toInt vowd = 4) from Or.inl ⟨rfl, (show ¬ (tkMW (vokd : Int32).toInt vowd = 4) from (by rw [tkMW_not (by omega)]; decide))⟩) hS dX11_isWord_25
  · skip
    have c_1 : vokd.toInt = (2 : Int32).toInt := i_eq.mp c_1
    refine lv_aload_n hx hb dX11_isWord_8 rfl (lv_at hl 0 rfl) ?_
    refine gf_X11_43 hx hb hts hown hK hP 0 rfl rfl dX11_isWord_9 ?_
    refine lv_iload_n hx hb dX11_isWord_12 rfl (lv_at hl 1 rfl) ?_
    have k_4 : (4 : Int32).toInt = 4 := by decide
    refine jr_l (rSr (As := [.int 4]) (rest := [.long vowd]) ⟨hx, hb, hml, hown, hts⟩ (s_wordOf l dC dI cy 4 ⟨by omega, by omega⟩) (cw_X11_62 hts rfl rfl ⟨Nat.le_of_ble_eq_true rfl, Nat.le_of_ble_eq_true rfl⟩) hP hK [] rfl rfl hl.1 rfl (Nat.le_of_ble_eq_true rfl) dX11_isWord_13 ⟨Nat.le_of_ble_eq_true rfl, Nat.le_of_ble_eq_true rfl⟩) hP hS (fun r_2 H locs hp_3 hP hS => ?_)
    have hp_3 : ((r_2 : Int64).toInt = tkMM (4 : Int32).toInt) := hp_3
    have q_4 := hp_3
    have hr9 : r_2 = tkMT (4 : Int).toNat := l_eq.mpr (q_4.trans (by decide))
    refine W.lcmp hx hb dX11_isWord_16 ?_
    refine lv_topi (fun z_5 ez_5 => ?_)
    have k_0 : (0 : Int32).toInt = 0 := by decide
    refine lv_if_ne (tgt := 24) hx hb dX11_isWord_17 (by decide) (fun c_6 => ?_) (fun c_6 => ?_)
    · skip
      have c_6 : ¬ (z_5.toInt = (0 : Int32).toInt) := fun h9 => c_6 (i_eq.mpr h9)
      refine lv_iconst (v := 0) hx hb dX11_isWord_24 (by decide) ?_
      rw [hQ9]
      exact rr_z hx hb hr hlocks (Or.inl rfl) (show ((0 : Int32) = 0 ∧ ¬ (tkMW (vokd : Int32).toInt vowd = 4)) ∨ ((0 : Int32) = 1 ∧ tkMW (vokd : Int32).toInt vowd = 4) from Or.inl ⟨rfl, (show ¬ (tkMW (vokd : Int32).toInt vowd = 4) from (fun h9 => c_6 ((l_cmp0 ez_5).mpr (((tkMW_isI (by decide) (by decide) (by omega)).mp h9).trans hr9.symm))))⟩) hS dX11_isWord_25
    · skip
      have c_6 : z_5.toInt = (0 : Int32).toInt := i_eq.mp c_6
      refine lv_iconst (v := 1) hx hb dX11_isWord_20 (by decide) ?_
      refine lv_goto (tgt := 25) hx hb dX11_isWord_21 (by decide) ?_
      have k_1 : (1 : Int32).toInt = 1 := by decide
      rw [hQ9]
      exact rr_z hx hb hr hlocks (Or.inr rfl) (show ((1 : Int32) = 0 ∧ ¬ (tkMW (vokd : Int32).toInt vowd = 4)) ∨ ((1 : Int32) = 1 ∧ tkMW (vokd : Int32).toInt vowd = 4) from Or.inr (⟨rfl, (show tkMW (vokd : Int32).toInt vowd = 4 from ((tkMW_isI (by decide) (by decide) (by omega)).mpr (((l_cmp0 ez_5).mp c_6).trans hr9)))⟩)) hS dX11_isWord_25
set_option maxHeartbeats 4000000 in
set_option maxRecDepth 100000 in
theorem s_isWord_5 (l : Launch) (dC : Nat → ClassId) (dI : Nat → Nat → Nat) (cy : Nat → ClassId) (vo : Nat) (voth : Int32) (vmt : Nat) (votp : Int32) (vosz : Int32) (volm : Int32) (voto : Int32) (vofr : Int32) (vokd : Int32) (vonu : Int32) (vosg : Int32) (vofa : Int32) (vopl : Int32) (vowd : Int64) (votd : Int32) (vmn : Nat) (vmr : Nat) (vmk : Nat) (vms : Nat) (vma : Nat) (vmm : Nat) (vmrn : Nat) (vmkn : Nat) (vmik : Nat) (vmon : Nat) (vosm : Int32) (vohp : Int32) (vmw : Nat) (vmf : Nat) (vmb : Nat) (vomb : Int32) (vmd : Nat) (vmc : Nat) (vocm : Int32) (voct : Int32) (vocy : Int32) (vmx : Nat) (votx : Int32) (vose : Int32) (vml : Nat) (vmwr : Nat) (voln : Int32) (vohw : Int32) (vmno : Nat) (vond : Int32) (voon : Int32) (vowi : Int32) (votop : Int32)  : Met l yX11_isWord (wl yX11_isWord cX11_isWord 2 (some .boolean)) ({ frames := 2, cells := 0, slots := 0, locals := 128 }) (Pr (dC, dI) vwCl cy [(vo, .inr (12, [.int voth, .ref vmt, .int votp, .int vosz, .int volm, .int voto, .int vofr, .int vokd, .int vonu, .int vosg, .int vofa, .int vopl, .long vowd, .int votd, .ref vmn, .ref vmr, .ref vmk, .ref vms, .ref vma, .ref vmm, .ref vmrn, .ref vmkn, .ref vmik, .ref vmon, .int vosm, .int vohp, .ref vmw, .ref vmf, .ref vmb, .int vomb, .ref vmd, .ref vmc, .int vocm, .int voct, .int vocy, .ref vmx, .int votx, .int vose, .ref vml, .ref vmwr, .int voln, .int vohw, .ref vmno, .int vond, .int voon, .int vowi, .int votop]))] [.ref vo, .int 5]) (Ri (fun r => ((r = 0 ∧ ¬ (tkMW (vokd : Int32).toInt vowd = 5)) ∨ (r = 1 ∧ tkMW (vokd : Int32).toInt vowd = 5)))) 0 0 (fun _ => False) := by
  refine mr RX11 rfl (by decide +kernel) (Nat.le_of_ble_eq_true rfl) ?_
  intro p e s m below meth c hx hb hr hlocks av9 hav hts hown hml hK hP hS Q9 hQ9 ls hl
  have hl : lv_has ls 2 [(0, .ref vo), (1, .int 5)] := hl
  refine lv_aload_n hx hb dX11_isWord_0 rfl (lv_at hl 0 rfl) ?_
  refine gf_X11_30 hx hb hts hown hK hP 0 rfl rfl dX11_isWord_1 ?_
  refine lv_iconst (v := 2) hx hb dX11_isWord_4 (by decide) ?_
  have k_2 : (2 : Int32).toInt = 2 := by decide
  refine lv_icmp_ne (tgt := 24) hx hb dX11_isWord_5 (by decide) (fun c_1 => ?_) (fun c_1 => ?_)
  · skip
    have c_1 : ¬ (vokd.toInt = (2 : Int32).toInt) := fun h9 => c_1 (i_eq.mpr h9)
    refine lv_iconst (v := 0) hx hb dX11_isWord_24 (by decide) ?_
    have k_0 : (0 : Int32).toInt = 0 := by decide
    rw [hQ9]
    exact rr_z hx hb hr hlocks (Or.inl rfl) (show ((0 : Int32) = 0 ∧ ¬ (tkMW (vokd : Int32).toInt vowd = 5)) ∨ ((0 : Int32) = 1 ∧ tkMW (vokd : Int32).toInt vowd = 5) from Or.inl ⟨rfl, (show ¬ (tkMW (vokd : Int32).toInt vowd = 5) from (by rw [tkMW_not (by omega)]; decide))⟩) hS dX11_isWord_25
  · skip
    have c_1 : vokd.toInt = (2 : Int32).toInt := i_eq.mp c_1
    refine lv_aload_n hx hb dX11_isWord_8 rfl (lv_at hl 0 rfl) ?_
    refine gf_X11_43 hx hb hts hown hK hP 0 rfl rfl dX11_isWord_9 ?_
    refine lv_iload_n hx hb dX11_isWord_12 rfl (lv_at hl 1 rfl) ?_
    have k_5 : (5 : Int32).toInt = 5 := by decide
    refine jr_l (rSr (As := [.int 5]) (rest := [.long vowd]) ⟨hx, hb, hml, hown, hts⟩ (s_wordOf l dC dI cy 5 ⟨by omega, by omega⟩) (cw_X11_62 hts rfl rfl ⟨Nat.le_of_ble_eq_true rfl, Nat.le_of_ble_eq_true rfl⟩) hP hK [] rfl rfl hl.1 rfl (Nat.le_of_ble_eq_true rfl) dX11_isWord_13 ⟨Nat.le_of_ble_eq_true rfl, Nat.le_of_ble_eq_true rfl⟩) hP hS (fun r_2 H locs hp_3 hP hS => ?_)
    have hp_3 : ((r_2 : Int64).toInt = tkMM (5 : Int32).toInt) := hp_3
    have q_4 := hp_3
    have hr9 : r_2 = tkMT (5 : Int).toNat := l_eq.mpr (q_4.trans (by decide))
    refine W.lcmp hx hb dX11_isWord_16 ?_
    refine lv_topi (fun z_5 ez_5 => ?_)
    have k_0 : (0 : Int32).toInt = 0 := by decide
    refine lv_if_ne (tgt := 24) hx hb dX11_isWord_17 (by decide) (fun c_6 => ?_) (fun c_6 => ?_)
    · skip
      have c_6 : ¬ (z_5.toInt = (0 : Int32).toInt) := fun h9 => c_6 (i_eq.mpr h9)
      refine lv_iconst (v := 0) hx hb dX11_isWord_24 (by decide) ?_
      rw [hQ9]
      exact rr_z hx hb hr hlocks (Or.inl rfl) (show ((0 : Int32) = 0 ∧ ¬ (tkMW (vokd : Int32).toInt vowd = 5)) ∨ ((0 : Int32) = 1 ∧ tkMW (vokd : Int32).toInt vowd = 5) from Or.inl ⟨rfl, (show ¬ (tkMW (vokd : Int32).toInt vowd = 5) from (fun h9 => c_6 ((l_cmp0 ez_5).mpr (((tkMW_isI (by decide) (by decide) (by omega)).mp h9).trans hr9.symm))))⟩) hS dX11_isWord_25
    · skip
      have c_6 : z_5.toInt = (0 : Int32).toInt := i_eq.mp c_6
      refine lv_iconst (v := 1) hx hb dX11_isWord_20 (by decide) ?_
      refine lv_goto (tgt := 25) hx hb dX11_isWord_21 (by decide) ?_
      have k_1 : (1 : Int32).toInt = 1 := by decide
      rw [hQ9]
      exact rr_z hx hb hr hlocks (Or.inr rfl) (show ((1 : Int32) = 0 ∧ ¬ (tkMW (vokd : Int32).toInt vowd = 5)) ∨ ((1 : Int32) = 1 ∧ tkMW (vokd : Int32).toInt vowd = 5) from Or.inr (⟨rfl, (show tkMW (vokd : Int32).toInt vowd = 5 from ((tkMW_isI (by decide) (by decide) (by omega)).mpr (((l_cmp0 ez_5).mp c_6).trans hr9)))⟩)) hS dX11_isWord_25
set_option maxHeartbeats 4000000 in
set_option maxRecDepth 100000 in
theorem s_isWord_6 (l : Launch) (dC : Nat → ClassId) (dI : Nat → Nat → Nat) (cy : Nat → ClassId) (vo : Nat) (voth : Int32) (vmt : Nat) (votp : Int32) (vosz : Int32) (volm : Int32) (voto : Int32) (vofr : Int32) (vokd : Int32) (vonu : Int32) (vosg : Int32) (vofa : Int32) (vopl : Int32) (vowd : Int64) (votd : Int32) (vmn : Nat) (vmr : Nat) (vmk : Nat) (vms : Nat) (vma : Nat) (vmm : Nat) (vmrn : Nat) (vmkn : Nat) (vmik : Nat) (vmon : Nat) (vosm : Int32) (vohp : Int32) (vmw : Nat) (vmf : Nat) (vmb : Nat) (vomb : Int32) (vmd : Nat) (vmc : Nat) (vocm : Int32) (voct : Int32) (vocy : Int32) (vmx : Nat) (votx : Int32) (vose : Int32) (vml : Nat) (vmwr : Nat) (voln : Int32) (vohw : Int32) (vmno : Nat) (vond : Int32) (voon : Int32) (vowi : Int32) (votop : Int32)  : Met l yX11_isWord (wl yX11_isWord cX11_isWord 2 (some .boolean)) ({ frames := 2, cells := 0, slots := 0, locals := 128 }) (Pr (dC, dI) vwCl cy [(vo, .inr (12, [.int voth, .ref vmt, .int votp, .int vosz, .int volm, .int voto, .int vofr, .int vokd, .int vonu, .int vosg, .int vofa, .int vopl, .long vowd, .int votd, .ref vmn, .ref vmr, .ref vmk, .ref vms, .ref vma, .ref vmm, .ref vmrn, .ref vmkn, .ref vmik, .ref vmon, .int vosm, .int vohp, .ref vmw, .ref vmf, .ref vmb, .int vomb, .ref vmd, .ref vmc, .int vocm, .int voct, .int vocy, .ref vmx, .int votx, .int vose, .ref vml, .ref vmwr, .int voln, .int vohw, .ref vmno, .int vond, .int voon, .int vowi, .int votop]))] [.ref vo, .int 6]) (Ri (fun r => ((r = 0 ∧ ¬ (tkMW (vokd : Int32).toInt vowd = 6)) ∨ (r = 1 ∧ tkMW (vokd : Int32).toInt vowd = 6)))) 0 0 (fun _ => False) := by
  refine mr RX11 rfl (by decide +kernel) (Nat.le_of_ble_eq_true rfl) ?_
  intro p e s m below meth c hx hb hr hlocks av9 hav hts hown hml hK hP hS Q9 hQ9 ls hl
  have hl : lv_has ls 2 [(0, .ref vo), (1, .int 6)] := hl
  refine lv_aload_n hx hb dX11_isWord_0 rfl (lv_at hl 0 rfl) ?_
  refine gf_X11_30 hx hb hts hown hK hP 0 rfl rfl dX11_isWord_1 ?_
  refine lv_iconst (v := 2) hx hb dX11_isWord_4 (by decide) ?_
  have k_2 : (2 : Int32).toInt = 2 := by decide
  refine lv_icmp_ne (tgt := 24) hx hb dX11_isWord_5 (by decide) (fun c_1 => ?_) (fun c_1 => ?_)
  · skip
    have c_1 : ¬ (vokd.toInt = (2 : Int32).toInt) := fun h9 => c_1 (i_eq.mpr h9)
    refine lv_iconst (v := 0) hx hb dX11_isWord_24 (by decide) ?_
    have k_0 : (0 : Int32).toInt = 0 := by decide
    rw [hQ9]
    exact rr_z hx hb hr hlocks (Or.inl rfl) (show ((0 : Int32) = 0 ∧ ¬ (tkMW (vokd : Int32).toInt vowd = 6)) ∨ ((0 : Int32) = 1 ∧ tkMW (vokd : Int32).toInt vowd = 6) from Or.inl ⟨rfl, (show ¬ (tkMW (vokd : Int32).toInt vowd = 6) from (by rw [tkMW_not (by omega)]; decide))⟩) hS dX11_isWord_25
  · skip
    have c_1 : vokd.toInt = (2 : Int32).toInt := i_eq.mp c_1
    refine lv_aload_n hx hb dX11_isWord_8 rfl (lv_at hl 0 rfl) ?_
    refine gf_X11_43 hx hb hts hown hK hP 0 rfl rfl dX11_isWord_9 ?_
    refine lv_iload_n hx hb dX11_isWord_12 rfl (lv_at hl 1 rfl) ?_
    have k_6 : (6 : Int32).toInt = 6 := by decide
    refine jr_l (rSr (As := [.int 6]) (rest := [.long vowd]) ⟨hx, hb, hml, hown, hts⟩ (s_wordOf l dC dI cy 6 ⟨by omega, by omega⟩) (cw_X11_62 hts rfl rfl ⟨Nat.le_of_ble_eq_true rfl, Nat.le_of_ble_eq_true rfl⟩) hP hK [] rfl rfl hl.1 rfl (Nat.le_of_ble_eq_true rfl) dX11_isWord_13 ⟨Nat.le_of_ble_eq_true rfl, Nat.le_of_ble_eq_true rfl⟩) hP hS (fun r_2 H locs hp_3 hP hS => ?_)
    have hp_3 : ((r_2 : Int64).toInt = tkMM (6 : Int32).toInt) := hp_3
    have q_4 := hp_3
    have hr9 : r_2 = tkMT (6 : Int).toNat := l_eq.mpr (q_4.trans (by decide))
    refine W.lcmp hx hb dX11_isWord_16 ?_
    refine lv_topi (fun z_5 ez_5 => ?_)
    have k_0 : (0 : Int32).toInt = 0 := by decide
    refine lv_if_ne (tgt := 24) hx hb dX11_isWord_17 (by decide) (fun c_6 => ?_) (fun c_6 => ?_)
    · skip
      have c_6 : ¬ (z_5.toInt = (0 : Int32).toInt) := fun h9 => c_6 (i_eq.mpr h9)
      refine lv_iconst (v := 0) hx hb dX11_isWord_24 (by decide) ?_
      rw [hQ9]
      exact rr_z hx hb hr hlocks (Or.inl rfl) (show ((0 : Int32) = 0 ∧ ¬ (tkMW (vokd : Int32).toInt vowd = 6)) ∨ ((0 : Int32) = 1 ∧ tkMW (vokd : Int32).toInt vowd = 6) from Or.inl ⟨rfl, (show ¬ (tkMW (vokd : Int32).toInt vowd = 6) from (fun h9 => c_6 ((l_cmp0 ez_5).mpr (((tkMW_isI (by decide) (by decide) (by omega)).mp h9).trans hr9.symm))))⟩) hS dX11_isWord_25
    · skip
      have c_6 : z_5.toInt = (0 : Int32).toInt := i_eq.mp c_6
      refine lv_iconst (v := 1) hx hb dX11_isWord_20 (by decide) ?_
      refine lv_goto (tgt := 25) hx hb dX11_isWord_21 (by decide) ?_
      have k_1 : (1 : Int32).toInt = 1 := by decide
      rw [hQ9]
      exact rr_z hx hb hr hlocks (Or.inr rfl) (show ((1 : Int32) = 0 ∧ ¬ (tkMW (vokd : Int32).toInt vowd = 6)) ∨ ((1 : Int32) = 1 ∧ tkMW (vokd : Int32).toInt vowd = 6) from Or.inr (⟨rfl, (show tkMW (vokd : Int32).toInt vowd = 6 from ((tkMW_isI (by decide) (by decide) (by omega)).mpr (((l_cmp0 ez_5).mp c_6).trans hr9)))⟩)) hS dX11_isWord_25
set_option maxHeartbeats 4000000 in
set_option maxRecDepth 100000 in
theorem s_isWord_7 (l : Launch) (dC : Nat → ClassId) (dI : Nat → Nat → Nat) (cy : Nat → ClassId) (vo : Nat) (voth : Int32) (vmt : Nat) (votp : Int32) (vosz : Int32) (volm : Int32) (voto : Int32) (vofr : Int32) (vokd : Int32) (vonu : Int32) (vosg : Int32) (vofa : Int32) (vopl : Int32) (vowd : Int64) (votd : Int32) (vmn : Nat) (vmr : Nat) (vmk : Nat) (vms : Nat) (vma : Nat) (vmm : Nat) (vmrn : Nat) (vmkn : Nat) (vmik : Nat) (vmon : Nat) (vosm : Int32) (vohp : Int32) (vmw : Nat) (vmf : Nat) (vmb : Nat) (vomb : Int32) (vmd : Nat) (vmc : Nat) (vocm : Int32) (voct : Int32) (vocy : Int32) (vmx : Nat) (votx : Int32) (vose : Int32) (vml : Nat) (vmwr : Nat) (voln : Int32) (vohw : Int32) (vmno : Nat) (vond : Int32) (voon : Int32) (vowi : Int32) (votop : Int32)  : Met l yX11_isWord (wl yX11_isWord cX11_isWord 2 (some .boolean)) ({ frames := 2, cells := 0, slots := 0, locals := 128 }) (Pr (dC, dI) vwCl cy [(vo, .inr (12, [.int voth, .ref vmt, .int votp, .int vosz, .int volm, .int voto, .int vofr, .int vokd, .int vonu, .int vosg, .int vofa, .int vopl, .long vowd, .int votd, .ref vmn, .ref vmr, .ref vmk, .ref vms, .ref vma, .ref vmm, .ref vmrn, .ref vmkn, .ref vmik, .ref vmon, .int vosm, .int vohp, .ref vmw, .ref vmf, .ref vmb, .int vomb, .ref vmd, .ref vmc, .int vocm, .int voct, .int vocy, .ref vmx, .int votx, .int vose, .ref vml, .ref vmwr, .int voln, .int vohw, .ref vmno, .int vond, .int voon, .int vowi, .int votop]))] [.ref vo, .int 7]) (Ri (fun r => ((r = 0 ∧ ¬ (tkMW (vokd : Int32).toInt vowd = 7)) ∨ (r = 1 ∧ tkMW (vokd : Int32).toInt vowd = 7)))) 0 0 (fun _ => False) := by
  refine mr RX11 rfl (by decide +kernel) (Nat.le_of_ble_eq_true rfl) ?_
  intro p e s m below meth c hx hb hr hlocks av9 hav hts hown hml hK hP hS Q9 hQ9 ls hl
  have hl : lv_has ls 2 [(0, .ref vo), (1, .int 7)] := hl
  refine lv_aload_n hx hb dX11_isWord_0 rfl (lv_at hl 0 rfl) ?_
  refine gf_X11_30 hx hb hts hown hK hP 0 rfl rfl dX11_isWord_1 ?_
  refine lv_iconst (v := 2) hx hb dX11_isWord_4 (by decide) ?_
  have k_2 : (2 : Int32).toInt = 2 := by decide
  refine lv_icmp_ne (tgt := 24) hx hb dX11_isWord_5 (by decide) (fun c_1 => ?_) (fun c_1 => ?_)
  · skip
    have c_1 : ¬ (vokd.toInt = (2 : Int32).toInt) := fun h9 => c_1 (i_eq.mpr h9)
    refine lv_iconst (v := 0) hx hb dX11_isWord_24 (by decide) ?_
    have k_0 : (0 : Int32).toInt = 0 := by decide
    rw [hQ9]
    exact rr_z hx hb hr hlocks (Or.inl rfl) (show ((0 : Int32) = 0 ∧ ¬ (tkMW (vokd : Int32).toInt vowd = 7)) ∨ ((0 : Int32) = 1 ∧ tkMW (vokd : Int32).toInt vowd = 7) from Or.inl ⟨rfl, (show ¬ (tkMW (vokd : Int32).toInt vowd = 7) from (by rw [tkMW_not (by omega)]; decide))⟩) hS dX11_isWord_25
  · skip
    have c_1 : vokd.toInt = (2 : Int32).toInt := i_eq.mp c_1
    refine lv_aload_n hx hb dX11_isWord_8 rfl (lv_at hl 0 rfl) ?_
    refine gf_X11_43 hx hb hts hown hK hP 0 rfl rfl dX11_isWord_9 ?_
    refine lv_iload_n hx hb dX11_isWord_12 rfl (lv_at hl 1 rfl) ?_
    have k_7 : (7 : Int32).toInt = 7 := by decide
    refine jr_l (rSr (As := [.int 7]) (rest := [.long vowd]) ⟨hx, hb, hml, hown, hts⟩ (s_wordOf l dC dI cy 7 ⟨by omega, by omega⟩) (cw_X11_62 hts rfl rfl ⟨Nat.le_of_ble_eq_true rfl, Nat.le_of_ble_eq_true rfl⟩) hP hK [] rfl rfl hl.1 rfl (Nat.le_of_ble_eq_true rfl) dX11_isWord_13 ⟨Nat.le_of_ble_eq_true rfl, Nat.le_of_ble_eq_true rfl⟩) hP hS (fun r_2 H locs hp_3 hP hS => ?_)
    have hp_3 : ((r_2 : Int64).toInt = tkMM (7 : Int32).toInt) := hp_3
    have q_4 := hp_3
    have hr9 : r_2 = tkMT (7 : Int).toNat := l_eq.mpr (q_4.trans (by decide))
    refine W.lcmp hx hb dX11_isWord_16 ?_
    refine lv_topi (fun z_5 ez_5 => ?_)
    have k_0 : (0 : Int32).toInt = 0 := by decide
    refine lv_if_ne (tgt := 24) hx hb dX11_isWord_17 (by decide) (fun c_6 => ?_) (fun c_6 => ?_)
    · skip
      have c_6 : ¬ (z_5.toInt = (0 : Int32).toInt) := fun h9 => c_6 (i_eq.mpr h9)
      refine lv_iconst (v := 0) hx hb dX11_isWord_24 (by decide) ?_
      rw [hQ9]
      exact rr_z hx hb hr hlocks (Or.inl rfl) (show ((0 : Int32) = 0 ∧ ¬ (tkMW (vokd : Int32).toInt vowd = 7)) ∨ ((0 : Int32) = 1 ∧ tkMW (vokd : Int32).toInt vowd = 7) from Or.inl ⟨rfl, (show ¬ (tkMW (vokd : Int32).toInt vowd = 7) from (fun h9 => c_6 ((l_cmp0 ez_5).mpr (((tkMW_isI (by decide) (by decide) (by omega)).mp h9).trans hr9.symm))))⟩) hS dX11_isWord_25
    · skip
      have c_6 : z_5.toInt = (0 : Int32).toInt := i_eq.mp c_6
      refine lv_iconst (v := 1) hx hb dX11_isWord_20 (by decide) ?_
      refine lv_goto (tgt := 25) hx hb dX11_isWord_21 (by decide) ?_
      have k_1 : (1 : Int32).toInt = 1 := by decide
      rw [hQ9]
      exact rr_z hx hb hr hlocks (Or.inr rfl) (show ((1 : Int32) = 0 ∧ ¬ (tkMW (vokd : Int32).toInt vowd = 7)) ∨ ((1 : Int32) = 1 ∧ tkMW (vokd : Int32).toInt vowd = 7) from Or.inr (⟨rfl, (show tkMW (vokd : Int32).toInt vowd = 7 from ((tkMW_isI (by decide) (by decide) (by omega)).mpr (((l_cmp0 ez_5).mp c_6).trans hr9)))⟩)) hS dX11_isWord_25
set_option maxHeartbeats 4000000 in
set_option maxRecDepth 100000 in
theorem s_isWord_19 (l : Launch) (dC : Nat → ClassId) (dI : Nat → Nat → Nat) (cy : Nat → ClassId) (vo : Nat) (voth : Int32) (vmt : Nat) (votp : Int32) (vosz : Int32) (volm : Int32) (voto : Int32) (vofr : Int32) (vokd : Int32) (vonu : Int32) (vosg : Int32) (vofa : Int32) (vopl : Int32) (vowd : Int64) (votd : Int32) (vmn : Nat) (vmr : Nat) (vmk : Nat) (vms : Nat) (vma : Nat) (vmm : Nat) (vmrn : Nat) (vmkn : Nat) (vmik : Nat) (vmon : Nat) (vosm : Int32) (vohp : Int32) (vmw : Nat) (vmf : Nat) (vmb : Nat) (vomb : Int32) (vmd : Nat) (vmc : Nat) (vocm : Int32) (voct : Int32) (vocy : Int32) (vmx : Nat) (votx : Int32) (vose : Int32) (vml : Nat) (vmwr : Nat) (voln : Int32) (vohw : Int32) (vmno : Nat) (vond : Int32) (voon : Int32) (vowi : Int32) (votop : Int32)  : Met l yX11_isWord (wl yX11_isWord cX11_isWord 2 (some .boolean)) ({ frames := 2, cells := 0, slots := 0, locals := 128 }) (Pr (dC, dI) vwCl cy [(vo, .inr (12, [.int voth, .ref vmt, .int votp, .int vosz, .int volm, .int voto, .int vofr, .int vokd, .int vonu, .int vosg, .int vofa, .int vopl, .long vowd, .int votd, .ref vmn, .ref vmr, .ref vmk, .ref vms, .ref vma, .ref vmm, .ref vmrn, .ref vmkn, .ref vmik, .ref vmon, .int vosm, .int vohp, .ref vmw, .ref vmf, .ref vmb, .int vomb, .ref vmd, .ref vmc, .int vocm, .int voct, .int vocy, .ref vmx, .int votx, .int vose, .ref vml, .ref vmwr, .int voln, .int vohw, .ref vmno, .int vond, .int voon, .int vowi, .int votop]))] [.ref vo, .int 19]) (Ri (fun r => ((r = 0 ∧ ¬ (tkMW (vokd : Int32).toInt vowd = 8)) ∨ (r = 1 ∧ tkMW (vokd : Int32).toInt vowd = 8)))) 0 0 (fun _ => False) := by
  refine mr RX11 rfl (by decide +kernel) (Nat.le_of_ble_eq_true rfl) ?_
  intro p e s m below meth c hx hb hr hlocks av9 hav hts hown hml hK hP hS Q9 hQ9 ls hl
  have hl : lv_has ls 2 [(0, .ref vo), (1, .int 19)] := hl
  refine lv_aload_n hx hb dX11_isWord_0 rfl (lv_at hl 0 rfl) ?_
  refine gf_X11_30 hx hb hts hown hK hP 0 rfl rfl dX11_isWord_1 ?_
  refine lv_iconst (v := 2) hx hb dX11_isWord_4 (by decide) ?_
  have k_2 : (2 : Int32).toInt = 2 := by decide
  refine lv_icmp_ne (tgt := 24) hx hb dX11_isWord_5 (by decide) (fun c_1 => ?_) (fun c_1 => ?_)
  · skip
    have c_1 : ¬ (vokd.toInt = (2 : Int32).toInt) := fun h9 => c_1 (i_eq.mpr h9)
    refine lv_iconst (v := 0) hx hb dX11_isWord_24 (by decide) ?_
    have k_0 : (0 : Int32).toInt = 0 := by decide
    rw [hQ9]
    exact rr_z hx hb hr hlocks (Or.inl rfl) (show ((0 : Int32) = 0 ∧ ¬ (tkMW (vokd : Int32).toInt vowd = 8)) ∨ ((0 : Int32) = 1 ∧ tkMW (vokd : Int32).toInt vowd = 8) from Or.inl ⟨rfl, (show ¬ (tkMW (vokd : Int32).toInt vowd = 8) from (by rw [tkMW_not (by omega)]; decide))⟩) hS dX11_isWord_25
  · skip
    have c_1 : vokd.toInt = (2 : Int32).toInt := i_eq.mp c_1
    refine lv_aload_n hx hb dX11_isWord_8 rfl (lv_at hl 0 rfl) ?_
    refine gf_X11_43 hx hb hts hown hK hP 0 rfl rfl dX11_isWord_9 ?_
    refine lv_iload_n hx hb dX11_isWord_12 rfl (lv_at hl 1 rfl) ?_
    have k_19 : (19 : Int32).toInt = 19 := by decide
    refine jr_l (rSr (As := [.int 19]) (rest := [.long vowd]) ⟨hx, hb, hml, hown, hts⟩ (s_wordOf l dC dI cy 19 ⟨by omega, by omega⟩) (cw_X11_62 hts rfl rfl ⟨Nat.le_of_ble_eq_true rfl, Nat.le_of_ble_eq_true rfl⟩) hP hK [] rfl rfl hl.1 rfl (Nat.le_of_ble_eq_true rfl) dX11_isWord_13 ⟨Nat.le_of_ble_eq_true rfl, Nat.le_of_ble_eq_true rfl⟩) hP hS (fun r_2 H locs hp_3 hP hS => ?_)
    have hp_3 : ((r_2 : Int64).toInt = tkMM (19 : Int32).toInt) := hp_3
    have q_4 := hp_3
    have hr9 : r_2 = tkMT (8 : Int).toNat := l_eq.mpr (q_4.trans (by decide))
    refine W.lcmp hx hb dX11_isWord_16 ?_
    refine lv_topi (fun z_5 ez_5 => ?_)
    have k_0 : (0 : Int32).toInt = 0 := by decide
    refine lv_if_ne (tgt := 24) hx hb dX11_isWord_17 (by decide) (fun c_6 => ?_) (fun c_6 => ?_)
    · skip
      have c_6 : ¬ (z_5.toInt = (0 : Int32).toInt) := fun h9 => c_6 (i_eq.mpr h9)
      refine lv_iconst (v := 0) hx hb dX11_isWord_24 (by decide) ?_
      rw [hQ9]
      exact rr_z hx hb hr hlocks (Or.inl rfl) (show ((0 : Int32) = 0 ∧ ¬ (tkMW (vokd : Int32).toInt vowd = 8)) ∨ ((0 : Int32) = 1 ∧ tkMW (vokd : Int32).toInt vowd = 8) from Or.inl ⟨rfl, (show ¬ (tkMW (vokd : Int32).toInt vowd = 8) from (fun h9 => c_6 ((l_cmp0 ez_5).mpr (((tkMW_isI (by decide) (by decide) (by omega)).mp h9).trans hr9.symm))))⟩) hS dX11_isWord_25
    · skip
      have c_6 : z_5.toInt = (0 : Int32).toInt := i_eq.mp c_6
      refine lv_iconst (v := 1) hx hb dX11_isWord_20 (by decide) ?_
      refine lv_goto (tgt := 25) hx hb dX11_isWord_21 (by decide) ?_
      have k_1 : (1 : Int32).toInt = 1 := by decide
      rw [hQ9]
      exact rr_z hx hb hr hlocks (Or.inr rfl) (show ((1 : Int32) = 0 ∧ ¬ (tkMW (vokd : Int32).toInt vowd = 8)) ∨ ((1 : Int32) = 1 ∧ tkMW (vokd : Int32).toInt vowd = 8) from Or.inr (⟨rfl, (show tkMW (vokd : Int32).toInt vowd = 8 from ((tkMW_isI (by decide) (by decide) (by omega)).mpr (((l_cmp0 ez_5).mp c_6).trans hr9)))⟩)) hS dX11_isWord_25
set_option maxHeartbeats 4000000 in
set_option maxRecDepth 100000 in
theorem s_isSign (l : Launch) (dC : Nat → ClassId) (dI : Nat → Nat → Nat) (cy : Nat → ClassId) (vo : Nat) (voth : Int32) (vmt : Nat) (votp : Int32) (vosz : Int32) (volm : Int32) (voto : Int32) (vofr : Int32) (vokd : Int32) (vonu : Int32) (vosg : Int32) (vofa : Int32) (vopl : Int32) (vowd : Int64) (votd : Int32) (vmn : Nat) (vmr : Nat) (vmk : Nat) (vms : Nat) (vma : Nat) (vmm : Nat) (vmrn : Nat) (vmkn : Nat) (vmik : Nat) (vmon : Nat) (vosm : Int32) (vohp : Int32) (vmw : Nat) (vmf : Nat) (vmb : Nat) (vomb : Int32) (vmd : Nat) (vmc : Nat) (vocm : Int32) (voct : Int32) (vocy : Int32) (vmx : Nat) (votx : Int32) (vose : Int32) (vml : Nat) (vmwr : Nat) (voln : Int32) (vohw : Int32) (vmno : Nat) (vond : Int32) (voon : Int32) (vowi : Int32) (votop : Int32) (vk : Int32) (r_vk : 40 ≤ (vk : Int32).toInt ∧ (vk : Int32).toInt ≤ 62) : Met l yX11_isSign (wl yX11_isSign cX11_isSign 2 (some .boolean)) ({ frames := 0, cells := 0, slots := 0, locals := 0 }) (Pr (dC, dI) vwCl cy [(vo, .inr (12, [.int voth, .ref vmt, .int votp, .int vosz, .int volm, .int voto, .int vofr, .int vokd, .int vonu, .int vosg, .int vofa, .int vopl, .long vowd, .int votd, .ref vmn, .ref vmr, .ref vmk, .ref vms, .ref vma, .ref vmm, .ref vmrn, .ref vmkn, .ref vmik, .ref vmon, .int vosm, .int vohp, .ref vmw, .ref vmf, .ref vmb, .int vomb, .ref vmd, .ref vmc, .int vocm, .int voct, .int vocy, .ref vmx, .int votx, .int vose, .ref vml, .ref vmwr, .int voln, .int vohw, .ref vmno, .int vond, .int voon, .int vowi, .int votop]))] [.ref vo, .int vk]) (Ri (fun r => ((r = 0 ∧ ¬ (tkMK (vokd : Int32).toInt (vosg : Int32).toInt = (vk : Int32).toInt)) ∨ (r = 1 ∧ tkMK (vokd : Int32).toInt (vosg : Int32).toInt = (vk : Int32).toInt)))) 0 0 (fun _ => False) := by
  refine mr RX11 rfl (by decide +kernel) (Nat.le_of_ble_eq_true rfl) ?_
  intro p e s m below meth c hx hb hr hlocks av9 hav hts hown hml hK hP hS Q9 hQ9 ls hl
  have hl : lv_has ls 2 [(0, .ref vo), (1, .int vk)] := hl
  refine lv_aload_n hx hb dX11_isSign_0 rfl (lv_at hl 0 rfl) ?_
  refine gf_X11_30 hx hb hts hown hK hP 0 rfl rfl dX11_isSign_1 ?_
  refine lv_iconst (v := 4) hx hb dX11_isSign_4 (by decide) ?_
  have k_4 : (4 : Int32).toInt = 4 := by decide
  refine lv_icmp_ne (tgt := 20) hx hb dX11_isSign_5 (by decide) (fun c_1 => ?_) (fun c_1 => ?_)
  · skip
    have c_1 : ¬ (vokd.toInt = (4 : Int32).toInt) := fun h9 => c_1 (i_eq.mpr h9)
    refine lv_iconst (v := 0) hx hb dX11_isSign_20 (by decide) ?_
    have k_0 : (0 : Int32).toInt = 0 := by decide
    rw [hQ9]
    exact rr_z hx hb hr hlocks (Or.inl rfl) (show ((0 : Int32) = 0 ∧ ¬ (tkMK (vokd : Int32).toInt (vosg : Int32).toInt = (vk : Int32).toInt)) ∨ ((0 : Int32) = 1 ∧ tkMK (vokd : Int32).toInt (vosg : Int32).toInt = (vk : Int32).toInt) from Or.inl ⟨rfl, (show ¬ (tkMK (vokd : Int32).toInt (vosg : Int32).toInt = (vk : Int32).toInt) from (by have m9 := tkMK_def (vokd : Int32).toInt (vosg : Int32).toInt; omega))⟩) hS dX11_isSign_21
  · skip
    have c_1 : vokd.toInt = (4 : Int32).toInt := i_eq.mp c_1
    refine lv_aload_n hx hb dX11_isSign_8 rfl (lv_at hl 0 rfl) ?_
    refine gf_X11_40 hx hb hts hown hK hP 0 rfl rfl dX11_isSign_9 ?_
    refine lv_iload_n hx hb dX11_isSign_12 rfl (lv_at hl 1 rfl) ?_
    refine lv_icmp_ne (tgt := 20) hx hb dX11_isSign_13 (by decide) (fun c_2 => ?_) (fun c_2 => ?_)
    · skip
      have c_2 : ¬ (vosg.toInt = vk.toInt) := fun h9 => c_2 (i_eq.mpr h9)
      refine lv_iconst (v := 0) hx hb dX11_isSign_20 (by decide) ?_
      have k_0 : (0 : Int32).toInt = 0 := by decide
      rw [hQ9]
      exact rr_z hx hb hr hlocks (Or.inl rfl) (show ((0 : Int32) = 0 ∧ ¬ (tkMK (vokd : Int32).toInt (vosg : Int32).toInt = (vk : Int32).toInt)) ∨ ((0 : Int32) = 1 ∧ tkMK (vokd : Int32).toInt (vosg : Int32).toInt = (vk : Int32).toInt) from Or.inl ⟨rfl, (show ¬ (tkMK (vokd : Int32).toInt (vosg : Int32).toInt = (vk : Int32).toInt) from (by have m9 := tkMK_def (vokd : Int32).toInt (vosg : Int32).toInt; omega))⟩) hS dX11_isSign_21
    · skip
      have c_2 : vosg.toInt = vk.toInt := i_eq.mp c_2
      refine lv_iconst (v := 1) hx hb dX11_isSign_16 (by decide) ?_
      refine lv_goto (tgt := 21) hx hb dX11_isSign_17 (by decide) ?_
      have k_1 : (1 : Int32).toInt = 1 := by decide
      rw [hQ9]
      exact rr_z hx hb hr hlocks (Or.inr rfl) (show ((1 : Int32) = 0 ∧ ¬ (tkMK (vokd : Int32).toInt (vosg : Int32).toInt = (vk : Int32).toInt)) ∨ ((1 : Int32) = 1 ∧ tkMK (vokd : Int32).toInt (vosg : Int32).toInt = (vk : Int32).toInt) from Or.inr (⟨rfl, (show tkMK (vokd : Int32).toInt (vosg : Int32).toInt = (vk : Int32).toInt from (by have m9 := tkMK_def (vokd : Int32).toInt (vosg : Int32).toInt; omega))⟩)) hS dX11_isSign_21
set_option maxHeartbeats 4000000 in
set_option maxRecDepth 100000 in
theorem s_isName (l : Launch) (dC : Nat → ClassId) (dI : Nat → Nat → Nat) (cy : Nat → ClassId) (vo : Nat) (voth : Int32) (vmt : Nat) (votp : Int32) (vosz : Int32) (volm : Int32) (voto : Int32) (vofr : Int32) (vokd : Int32) (vonu : Int32) (vosg : Int32) (vofa : Int32) (vopl : Int32) (vowd : Int64) (votd : Int32) (vmn : Nat) (vmr : Nat) (vmk : Nat) (vms : Nat) (vma : Nat) (vmm : Nat) (vmrn : Nat) (vmkn : Nat) (vmik : Nat) (vmon : Nat) (vosm : Int32) (vohp : Int32) (vmw : Nat) (vmf : Nat) (vmb : Nat) (vomb : Int32) (vmd : Nat) (vmc : Nat) (vocm : Int32) (voct : Int32) (vocy : Int32) (vmx : Nat) (votx : Int32) (vose : Int32) (vml : Nat) (vmwr : Nat) (voln : Int32) (vohw : Int32) (vmno : Nat) (vond : Int32) (voon : Int32) (vowi : Int32) (votop : Int32)  : Met l yX11_isName (wl yX11_isName cX11_isName 2 (some .boolean)) ({ frames := 2, cells := 0, slots := 0, locals := 128 }) (Pr (dC, dI) vwCl cy [(vo, .inr (12, [.int voth, .ref vmt, .int votp, .int vosz, .int volm, .int voto, .int vofr, .int vokd, .int vonu, .int vosg, .int vofa, .int vopl, .long vowd, .int votd, .ref vmn, .ref vmr, .ref vmk, .ref vms, .ref vma, .ref vmm, .ref vmrn, .ref vmkn, .ref vmik, .ref vmon, .int vosm, .int vohp, .ref vmw, .ref vmf, .ref vmb, .int vomb, .ref vmd, .ref vmc, .int vocm, .int voct, .int vocy, .ref vmx, .int votx, .int vose, .ref vml, .ref vmwr, .int voln, .int vohw, .ref vmno, .int vond, .int voon, .int vowi, .int votop]))] [.ref vo]) (Ri (fun r => ((r = 0 ∧ ¬ (tkMK (vokd : Int32).toInt (vosg : Int32).toInt = 1 ∧ tkMW (vokd : Int32).toInt vowd = -1)) ∨ (r = 1 ∧ tkMK (vokd : Int32).toInt (vosg : Int32).toInt = 1 ∧ tkMW (vokd : Int32).toInt vowd = -1)))) 0 0 (fun _ => False) := by
  refine mr RX11 rfl (by decide +kernel) (Nat.le_of_ble_eq_true rfl) ?_
  intro p e s m below meth c hx hb hr hlocks av9 hav hts hown hml hK hP hS Q9 hQ9 ls hl
  have hl : lv_has ls 2 [(0, .ref vo)] := hl
  refine lv_aload_n hx hb dX11_isName_0 rfl (lv_at hl 0 rfl) ?_
  refine gf_X11_30 hx hb hts hown hK hP 0 rfl rfl dX11_isName_1 ?_
  refine lv_iconst (v := 2) hx hb dX11_isName_4 (by decide) ?_
  have k_2 : (2 : Int32).toInt = 2 := by decide
  refine lv_icmp_eq (tgt := 10) hx hb dX11_isName_5 (by decide) (fun c_1 => ?_) (fun c_1 => ?_)
  · skip
    have c_1 : vokd.toInt = (2 : Int32).toInt := i_eq.mp c_1
    refine lv_iconst (v := 0) hx hb dX11_isName_10 (by decide) ?_
    refine lv_istore_n (lv' := [(1, .int 0), (0, .ref vo)]) hx hb dX11_isName_11 rfl hl (by decide) rfl (fun ls hl => ?_)
    have loop2 : ∀ (n2 : Nat) (x_3 : Int32), (0 ≤ x_3.toInt ∧ x_3.toInt ≤ 29) → (tkNW vowd x_3.toInt) → 29 - x_3.toInt < (n2 : Int) → ∀ (H : Heap) (locs : List Loc), va_P (dC, dI) vwCl [(vo, .inr (12, [.int voth, .ref vmt, .int votp, .int vosz, .int volm, .int voto, .int vofr, .int vokd, .int vonu, .int vosg, .int vofa, .int vopl, .long vowd, .int votd, .ref vmn, .ref vmr, .ref vmk, .ref vms, .ref vma, .ref vmm, .ref vmrn, .ref vmkn, .ref vmik, .ref vmon, .int vosm, .int vohp, .ref vmw, .ref vmf, .ref vmb, .int vomb, .ref vmd, .ref vmc, .int vocm, .int voct, .int vocy, .ref vmx, .int votx, .int vose, .ref vml, .ref vmwr, .int voln, .int vohw, .ref vmno, .int vond, .int voon, .int vowi, .int votop]))] H → va_S (fun _ => False) s.heap H locs → ∀ ls : Array Slot, lv_has ls 2 [(1, .int x_3), (0, .ref vo)] → W p l e ({ frames := 2, cells := 0, slots := 0, locals := 128 }) s m av9 below meth c H locs 0 0 Q9 (F0 m 12 ls []) := by
      intro n2
      induction n2 with
      | zero =>
        intro x_3 bx_3 v2_0 hn2 H locs hP hS ls hl
        exfalso; omega
      | succ n2 ih2 =>
        intro x_3 bx_3 v2_0 hn2 H locs hP hS ls hl
        refine lv_iload_n hx hb dX11_isName_12 rfl (lv_at hl 0 rfl) ?_
        refine lv_bipush (v := 28) hx hb dX11_isName_13 (by decide) ?_
        have k_28 : (28 : Int32).toInt = 28 := by decide
        refine lv_icmp_gt (tgt := 38) hx hb dX11_isName_15 (by decide) (fun c_4 => ?_) (fun c_4 => ?_)
        · skip
          have c_4 : (28 : Int32).toInt < x_3.toInt := i_lt.mp c_4
          refine lv_iconst (v := 1) hx hb dX11_isName_38 (by decide) ?_
          have k_1 : (1 : Int32).toInt = 1 := by decide
          rw [hQ9]
          exact rr_z hx hb hr hlocks (Or.inr rfl) (show ((1 : Int32) = 0 ∧ ¬ (tkMK (vokd : Int32).toInt (vosg : Int32).toInt = 1 ∧ tkMW (vokd : Int32).toInt vowd = -1)) ∨ ((1 : Int32) = 1 ∧ tkMK (vokd : Int32).toInt (vosg : Int32).toInt = 1 ∧ tkMW (vokd : Int32).toInt vowd = -1) from Or.inr (⟨rfl, (show tkMK (vokd : Int32).toInt (vosg : Int32).toInt = 1 from (by have m9 := tkMK_def (vokd : Int32).toInt (vosg : Int32).toInt; omega)), (show tkMW (vokd : Int32).toInt vowd = -1 from (tkNW_no (by have h9 := v2_0; rw [show x_3.toInt = 29 by omega] at h9; exact h9)))⟩)) hS dX11_isName_39
        · skip
          have c_4 : ¬ ((28 : Int32).toInt < x_3.toInt) := fun h9 => c_4 (i_lt.mpr h9)
          refine lv_aload_n hx hb dX11_isName_18 rfl (lv_at hl 1 rfl) ?_
          refine gf_X11_43 hx hb hts hown hK hP 0 rfl rfl dX11_isName_19 ?_
          refine lv_iload_n hx hb dX11_isName_22 rfl (lv_at hl 0 rfl) ?_
          refine jr_l (rSr (As := [.int x_3]) (rest := [.long vowd]) ⟨hx, hb, hml, hown, hts⟩ (s_wordOf l dC dI cy x_3 ⟨by omega, by omega⟩) (cw_X11_62 hts rfl rfl ⟨Nat.le_of_ble_eq_true rfl, Nat.le_of_ble_eq_true rfl⟩) hP hK [] rfl rfl hl.1 rfl (Nat.le_of_ble_eq_true rfl) dX11_isName_23 ⟨Nat.le_of_ble_eq_true rfl, Nat.le_of_ble_eq_true rfl⟩) hP hS (fun r_5 H locs hp_6 hP hS => ?_)
          have hp_6 : ((r_5 : Int64).toInt = tkMM (x_3 : Int32).toInt) := hp_6
          have q_7 := hp_6
          refine W.lcmp hx hb dX11_isName_26 ?_
          refine lv_topi (fun z_8 ez_8 => ?_)
          have k_0 : (0 : Int32).toInt = 0 := by decide
          refine lv_if_ne (tgt := 32) hx hb dX11_isName_27 (by decide) (fun c_9 => ?_) (fun c_9 => ?_)
          · skip
            have c_9 : ¬ (z_8.toInt = (0 : Int32).toInt) := fun h9 => c_9 (i_eq.mpr h9)
            obtain ⟨z_10, ez_10⟩ : ∃ z : Int32, z = x_3 + 1 := ⟨_, rfl⟩
            have k_1 : (1 : Int32).toInt = 1 := by decide
            have bz_10 : z_10.toInt = x_3.toInt + (1 : Int32).toInt := i_add ez_10 (by omega) (by omega)
            refine lv_iinc (v := z_10) (lv' := [(1, .int z_10), (0, .ref vo)]) hx hb dX11_isName_32 hl (k := 0) rfl ez_10.symm (by decide) rfl (fun ls hl => ?_)
            refine lv_goto (tgt := 12) hx hb dX11_isName_35 (by decide) ?_
            exact ih2 z_10 ⟨by omega, by omega⟩ (by rw [show z_10.toInt = x_3.toInt + 1 by omega]; exact tkNW_s v2_0 (fun h9 => c_9 ((l_cmp0 ez_8).mpr (l_eq.mpr (h9.trans q_7.symm))))) (by omega) _ _ (hP.sub [0] rfl) hS ls (lv_sub hl [0, 1] rfl)
          · skip
            have c_9 : z_8.toInt = (0 : Int32).toInt := i_eq.mp c_9
            refine lv_iconst (v := 0) hx hb dX11_isName_30 (by decide) ?_
            rw [hQ9]
            exact rr_z hx hb hr hlocks (Or.inl rfl) (show ((0 : Int32) = 0 ∧ ¬ (tkMK (vokd : Int32).toInt (vosg : Int32).toInt = 1 ∧ tkMW (vokd : Int32).toInt vowd = -1)) ∨ ((0 : Int32) = 1 ∧ tkMK (vokd : Int32).toInt (vosg : Int32).toInt = 1 ∧ tkMW (vokd : Int32).toInt vowd = -1) from Or.inl ⟨rfl, (show ¬ (tkMK (vokd : Int32).toInt (vosg : Int32).toInt = 1 ∧ tkMW (vokd : Int32).toInt vowd = -1) from (fun h9 => tkNW_yes (by omega) (by omega) (by omega) ((congrArg Int64.toInt ((l_cmp0 ez_8).mp c_9)).trans q_7) h9.2))⟩) hS dX11_isName_31
    have k_0 : (0 : Int32).toInt = 0 := by decide
    exact loop2 ((29 - (0 : Int32).toInt).toNat + 1) 0 ⟨by omega, by omega⟩ (by rw [k_0]; exact tkNW_0) (by omega) _ _ hP hS ls (lv_sub hl [0, 1] rfl)
  · skip
    have c_1 : ¬ (vokd.toInt = (2 : Int32).toInt) := fun h9 => c_1 (i_eq.mpr h9)
    refine lv_iconst (v := 0) hx hb dX11_isName_8 (by decide) ?_
    have k_0 : (0 : Int32).toInt = 0 := by decide
    rw [hQ9]
    exact rr_z hx hb hr hlocks (Or.inl rfl) (show ((0 : Int32) = 0 ∧ ¬ (tkMK (vokd : Int32).toInt (vosg : Int32).toInt = 1 ∧ tkMW (vokd : Int32).toInt vowd = -1)) ∨ ((0 : Int32) = 1 ∧ tkMK (vokd : Int32).toInt (vosg : Int32).toInt = 1 ∧ tkMW (vokd : Int32).toInt vowd = -1) from Or.inl ⟨rfl, (show ¬ (tkMK (vokd : Int32).toInt (vosg : Int32).toInt = 1 ∧ tkMW (vokd : Int32).toInt vowd = -1) from (fun h9 => absurd h9.1 (by have m9 := tkMK_def (vokd : Int32).toInt (vosg : Int32).toInt; omega)))⟩) hS dX11_isName_9
abbrev O_s_bad (cy : Nat → ClassId) (vo : Nat) (voth : Int32) (vmt : Nat) (votp : Int32) (vosz : Int32) (volm : Int32) (voto : Int32) (vofr : Int32) (vokd : Int32) (vonu : Int32) (vosg : Int32) (vofa : Int32) (vopl : Int32) (vowd : Int64) (votd : Int32) (vmn : Nat) (vmr : Nat) (vmk : Nat) (vms : Nat) (vma : Nat) (vmm : Nat) (vmrn : Nat) (vmkn : Nat) (vmik : Nat) (vmon : Nat) (vosm : Int32) (vohp : Int32) (vmw : Nat) (vmf : Nat) (vmb : Nat) (vomb : Int32) (vmd : Nat) (vmc : Nat) (vocm : Int32) (voct : Int32) (vocy : Int32) (vmx : Nat) (votx : Int32) (vose : Int32) (vml : Nat) (vmwr : Nat) (voln : Int32) (vohw : Int32) (vmno : Nat) (vond : Int32) (voon : Int32) (vowi : Int32) (votop : Int32) (vk : Int32) (u : Int32 × Int32) : va_W := [(vo, .inr (12, [.int voth, .ref vmt, .int votp, .int vosz, .int volm, .int voto, .int vofr, .int vokd, .int vonu, .int vosg, .int u.1, .int u.2, .long vowd, .int votd, .ref vmn, .ref vmr, .ref vmk, .ref vms, .ref vma, .ref vmm, .ref vmrn, .ref vmkn, .ref vmik, .ref vmon, .int vosm, .int vohp, .ref vmw, .ref vmf, .ref vmb, .int vomb, .ref vmd, .ref vmc, .int vocm, .int voct, .int vocy, .ref vmx, .int votx, .int vose, .ref vml, .ref vmwr, .int voln, .int vohw, .ref vmno, .int vond, .int voon, .int vowi, .int votop]))]
set_option maxHeartbeats 4000000 in
set_option maxRecDepth 100000 in
theorem s_bad (l : Launch) (dC : Nat → ClassId) (dI : Nat → Nat → Nat) (cy : Nat → ClassId) (sz : Nat) (vo : Nat) (voth : Int32) (vmt : Nat) (votp : Int32) (vosz : Int32) (volm : Int32) (voto : Int32) (vofr : Int32) (vokd : Int32) (vonu : Int32) (vosg : Int32) (vofa : Int32) (vopl : Int32) (vowd : Int64) (votd : Int32) (vmn : Nat) (vmr : Nat) (vmk : Nat) (vms : Nat) (vma : Nat) (vmm : Nat) (vmrn : Nat) (vmkn : Nat) (vmik : Nat) (vmon : Nat) (vosm : Int32) (vohp : Int32) (vmw : Nat) (vmf : Nat) (vmb : Nat) (vomb : Int32) (vmd : Nat) (vmc : Nat) (vocm : Int32) (voct : Int32) (vocy : Int32) (vmx : Nat) (votx : Int32) (vose : Int32) (vml : Nat) (vmwr : Nat) (voln : Int32) (vohw : Int32) (vmno : Nat) (vond : Int32) (voon : Int32) (vowi : Int32) (votop : Int32) (vk : Int32)  : Met l yX11_bad (wl yX11_bad cX11_bad 2 (some .boolean)) ({ frames := 0, cells := 0, slots := 0, locals := 0 }) (Pw (dC, dI) vwCl cy [(vo, .inr (12, [.int voth, .ref vmt, .int votp, .int vosz, .int volm, .int voto, .int vofr, .int vokd, .int vonu, .int vosg, .int vofa, .int vopl, .long vowd, .int votd, .ref vmn, .ref vmr, .ref vmk, .ref vms, .ref vma, .ref vmm, .ref vmrn, .ref vmkn, .ref vmik, .ref vmon, .int vosm, .int vohp, .ref vmw, .ref vmf, .ref vmb, .int vomb, .ref vmd, .ref vmc, .int vocm, .int voct, .int vocy, .ref vmx, .int votx, .int vose, .ref vml, .ref vmwr, .int voln, .int vohw, .ref vmno, .int vond, .int voon, .int vowi, .int votop]))] sz [.ref vo, .int vk] nE) (Qi (dC, dI) vwCl (fun (r : Int32) (u : Int32 × Int32) => ((r = 0 ∧ ((tkMK (vokd : Int32).toInt (vosg : Int32).toInt = 0 ∧ (u.1 : Int32).toInt = 1) ∨ (¬ (tkMK (vokd : Int32).toInt (vosg : Int32).toInt = 0) ∧ (u.1 : Int32).toInt = (vk : Int32).toInt)) ∧ (u.2 : Int32).toInt = (vofr : Int32).toInt))) (O_s_bad cy vo voth vmt votp vosz volm voto vofr vokd vonu vosg vofa vopl vowd votd vmn vmr vmk vms vma vmm vmrn vmkn vmik vmon vosm vohp vmw vmf vmb vomb vmd vmc vocm voct vocy vmx votx vose vml vmwr voln vohw vmno vond voon vowi votop vk) (va_A [(vo, .inr (12, [.int voth, .ref vmt, .int votp, .int vosz, .int volm, .int voto, .int vofr, .int vokd, .int vonu, .int vosg, .int vofa, .int vopl, .long vowd, .int votd, .ref vmn, .ref vmr, .ref vmk, .ref vms, .ref vma, .ref vmm, .ref vmrn, .ref vmkn, .ref vmik, .ref vmon, .int vosm, .int vohp, .ref vmw, .ref vmf, .ref vmb, .int vomb, .ref vmd, .ref vmc, .int vocm, .int voct, .int vocy, .ref vmx, .int votx, .int vose, .ref vml, .ref vmwr, .int voln, .int vohw, .ref vmno, .int vond, .int voon, .int vowi, .int votop]))] sz)) 0 0 (va_A [(vo, .inr (12, [.int voth, .ref vmt, .int votp, .int vosz, .int volm, .int voto, .int vofr, .int vokd, .int vonu, .int vosg, .int vofa, .int vopl, .long vowd, .int votd, .ref vmn, .ref vmr, .ref vmk, .ref vms, .ref vma, .ref vmm, .ref vmrn, .ref vmkn, .ref vmik, .ref vmon, .int vosm, .int vohp, .ref vmw, .ref vmf, .ref vmb, .int vomb, .ref vmd, .ref vmc, .int vocm, .int voct, .int vocy, .ref vmx, .int votx, .int vose, .ref vml, .ref vmwr, .int voln, .int vohw, .ref vmno, .int vond, .int voon, .int vowi, .int votop]))] sz) := by
  refine mw (Qc := Qi (dC, dI) vwCl (fun (r : Int32) (u : Int32 × Int32) => ((r = 0 ∧ ((tkMK (vokd : Int32).toInt (vosg : Int32).toInt = 0 ∧ (u.1 : Int32).toInt = 1) ∨ (¬ (tkMK (vokd : Int32).toInt (vosg : Int32).toInt = 0) ∧ (u.1 : Int32).toInt = (vk : Int32).toInt)) ∧ (u.2 : Int32).toInt = (vofr : Int32).toInt))) (O_s_bad cy vo voth vmt votp vosz volm voto vofr vokd vonu vosg vofa vopl vowd votd vmn vmr vmk vms vma vmm vmrn vmkn vmik vmon vosm vohp vmw vmf vmb vomb vmd vmc vocm voct vocy vmx votx vose vml vmwr voln vohw vmno vond voon vowi votop vk)) RX11 rfl (by decide +kernel) (Nat.le_of_ble_eq_true rfl) ?_
  intro p e s m below meth c A hx hb hr hlocks av9 hav hts hown hnm hml hK hP hD hA hS hE hAe Q9 hQ9 ls hl
  have hl : lv_has ls 2 [(0, .ref vo), (1, .int vk)] := hl
  refine lv_aload_n hx hb dX11_bad_0 rfl (lv_at hl 0 rfl) ?_
  refine lv_aload_n hx hb dX11_bad_1 rfl (lv_at hl 0 rfl) ?_
  refine gf_X11_30 hx hb hts hown hK hP 0 rfl rfl dX11_bad_2 ?_
  refine lv_iconst (v := 1) hx hb dX11_bad_5 (by decide) ?_
  have k_1 : (1 : Int32).toInt = 1 := by decide
  refine lv_icmp_ne (tgt := 13) hx hb dX11_bad_6 (by decide) (fun c_1 => ?_) (fun c_1 => ?_)
  · skip
    have c_1 : ¬ (vokd.toInt = (1 : Int32).toInt) := fun h9 => c_1 (i_eq.mpr h9)
    refine lv_iload_n hx hb dX11_bad_13 rfl (lv_at hl 1 rfl) ?_
    refine pf_X11_66 hx hb hts hown hK hP hD hS 0 rfl rfl rfl (Nat.le_of_ble_eq_true rfl) dX11_bad_14 (fun H locs hP hD hS => ?_)
    have hP : va_P (dC, dI) vwCl [(vo, .inr (12, [.int voth, .ref vmt, .int votp, .int vosz, .int volm, .int voto, .int vofr, .int vokd, .int vonu, .int vosg, .int vk, .int vopl, .long vowd, .int votd, .ref vmn, .ref vmr, .ref vmk, .ref vms, .ref vma, .ref vmm, .ref vmrn, .ref vmkn, .ref vmik, .ref vmon, .int vosm, .int vohp, .ref vmw, .ref vmf, .ref vmb, .int vomb, .ref vmd, .ref vmc, .int vocm, .int voct, .int vocy, .ref vmx, .int votx, .int vose, .ref vml, .ref vmwr, .int voln, .int vohw, .ref vmno, .int vond, .int voon, .int vowi, .int votop]))] H := hP
    have hD : va_D A [(vo, .inr (12, [.int voth, .ref vmt, .int votp, .int vosz, .int volm, .int voto, .int vofr, .int vokd, .int vonu, .int vosg, .int vk, .int vopl, .long vowd, .int votd, .ref vmn, .ref vmr, .ref vmk, .ref vms, .ref vma, .ref vmm, .ref vmrn, .ref vmkn, .ref vmik, .ref vmon, .int vosm, .int vohp, .ref vmw, .ref vmf, .ref vmb, .int vomb, .ref vmd, .ref vmc, .int vocm, .int voct, .int vocy, .ref vmx, .int votx, .int vose, .ref vml, .ref vmwr, .int voln, .int vohw, .ref vmno, .int vond, .int voon, .int vowi, .int votop]))] := hD
    refine lv_aload_n hx hb dX11_bad_17 rfl (lv_at hl 0 rfl) ?_
    refine lv_aload_n hx hb dX11_bad_18 rfl (lv_at hl 0 rfl) ?_
    refine gf_X11_24 hx hb hts hown hK hP 0 rfl rfl dX11_bad_19 ?_
    refine pf_X11_69 hx hb hts hown hK hP hD hS 0 rfl rfl rfl (Nat.le_of_ble_eq_true rfl) dX11_bad_22 (fun H locs hP hD hS => ?_)
    have hP : va_P (dC, dI) vwCl [(vo, .inr (12, [.int voth, .ref vmt, .int votp, .int vosz, .int volm, .int voto, .int vofr, .int vokd, .int vonu, .int vosg, .int vk, .int vofr, .long vowd, .int votd, .ref vmn, .ref vmr, .ref vmk, .ref vms, .ref vma, .ref vmm, .ref vmrn, .ref vmkn, .ref vmik, .ref vmon, .int vosm, .int vohp, .ref vmw, .ref vmf, .ref vmb, .int vomb, .ref vmd, .ref vmc, .int vocm, .int voct, .int vocy, .ref vmx, .int votx, .int vose, .ref vml, .ref vmwr, .int voln, .int vohw, .ref vmno, .int vond, .int voon, .int vowi, .int votop]))] H := hP
    have hD : va_D A [(vo, .inr (12, [.int voth, .ref vmt, .int votp, .int vosz, .int volm, .int voto, .int vofr, .int vokd, .int vonu, .int vosg, .int vk, .int vofr, .long vowd, .int votd, .ref vmn, .ref vmr, .ref vmk, .ref vms, .ref vma, .ref vmm, .ref vmrn, .ref vmkn, .ref vmik, .ref vmon, .int vosm, .int vohp, .ref vmw, .ref vmf, .ref vmb, .int vomb, .ref vmd, .ref vmc, .int vocm, .int voct, .int vocy, .ref vmx, .int votx, .int vose, .ref vml, .ref vmwr, .int voln, .int vohw, .ref vmno, .int vond, .int voon, .int vowi, .int votop]))] := hD
    refine lv_iconst (v := 0) hx hb dX11_bad_25 (by decide) ?_
    have k_0 : (0 : Int32).toInt = 0 := by decide
    rw [hQ9]
    exact re_z (vk, vofr) hx hb hr hlocks (Or.inl rfl) (show ((0 : Int32) = 0 ∧ ((tkMK (vokd : Int32).toInt (vosg : Int32).toInt = 0 ∧ (vk : Int32).toInt = 1) ∨ (¬ (tkMK (vokd : Int32).toInt (vosg : Int32).toInt = 0) ∧ (vk : Int32).toInt = (vk : Int32).toInt)) ∧ (vofr : Int32).toInt = (vofr : Int32).toInt) from ⟨rfl, (show (tkMK (vokd : Int32).toInt (vosg : Int32).toInt = 0 ∧ (vk : Int32).toInt = 1) ∨ (¬ (tkMK (vokd : Int32).toInt (vosg : Int32).toInt = 0) ∧ (vk : Int32).toInt = (vk : Int32).toInt) from (by have m9 := tkMK_def (vokd : Int32).toInt (vosg : Int32).toInt; omega)), (show (vofr : Int32).toInt = (vofr : Int32).toInt from (by have m9 := tkMK_def (vokd : Int32).toInt (vosg : Int32).toInt; omega))⟩) (hP.sub [0] rfl) (hD.sub [0] rfl rfl) hS dX11_bad_26
  · skip
    have c_1 : vokd.toInt = (1 : Int32).toInt := i_eq.mp c_1
    refine lv_iconst (v := 1) hx hb dX11_bad_9 (by decide) ?_
    refine lv_goto (tgt := 14) hx hb dX11_bad_10 (by decide) ?_
    refine pf_X11_66 hx hb hts hown hK hP hD hS 0 rfl rfl rfl (Nat.le_of_ble_eq_true rfl) dX11_bad_14 (fun H locs hP hD hS => ?_)
    have hP : va_P (dC, dI) vwCl [(vo, .inr (12, [.int voth, .ref vmt, .int votp, .int vosz, .int volm, .int voto, .int vofr, .int vokd, .int vonu, .int vosg, .int 1, .int vopl, .long vowd, .int votd, .ref vmn, .ref vmr, .ref vmk, .ref vms, .ref vma, .ref vmm, .ref vmrn, .ref vmkn, .ref vmik, .ref vmon, .int vosm, .int vohp, .ref vmw, .ref vmf, .ref vmb, .int vomb, .ref vmd, .ref vmc, .int vocm, .int voct, .int vocy, .ref vmx, .int votx, .int vose, .ref vml, .ref vmwr, .int voln, .int vohw, .ref vmno, .int vond, .int voon, .int vowi, .int votop]))] H := hP
    have hD : va_D A [(vo, .inr (12, [.int voth, .ref vmt, .int votp, .int vosz, .int volm, .int voto, .int vofr, .int vokd, .int vonu, .int vosg, .int 1, .int vopl, .long vowd, .int votd, .ref vmn, .ref vmr, .ref vmk, .ref vms, .ref vma, .ref vmm, .ref vmrn, .ref vmkn, .ref vmik, .ref vmon, .int vosm, .int vohp, .ref vmw, .ref vmf, .ref vmb, .int vomb, .ref vmd, .ref vmc, .int vocm, .int voct, .int vocy, .ref vmx, .int votx, .int vose, .ref vml, .ref vmwr, .int voln, .int vohw, .ref vmno, .int vond, .int voon, .int vowi, .int votop]))] := hD
    refine lv_aload_n hx hb dX11_bad_17 rfl (lv_at hl 0 rfl) ?_
    refine lv_aload_n hx hb dX11_bad_18 rfl (lv_at hl 0 rfl) ?_
    refine gf_X11_24 hx hb hts hown hK hP 0 rfl rfl dX11_bad_19 ?_
    refine pf_X11_69 hx hb hts hown hK hP hD hS 0 rfl rfl rfl (Nat.le_of_ble_eq_true rfl) dX11_bad_22 (fun H locs hP hD hS => ?_)
    have hP : va_P (dC, dI) vwCl [(vo, .inr (12, [.int voth, .ref vmt, .int votp, .int vosz, .int volm, .int voto, .int vofr, .int vokd, .int vonu, .int vosg, .int 1, .int vofr, .long vowd, .int votd, .ref vmn, .ref vmr, .ref vmk, .ref vms, .ref vma, .ref vmm, .ref vmrn, .ref vmkn, .ref vmik, .ref vmon, .int vosm, .int vohp, .ref vmw, .ref vmf, .ref vmb, .int vomb, .ref vmd, .ref vmc, .int vocm, .int voct, .int vocy, .ref vmx, .int votx, .int vose, .ref vml, .ref vmwr, .int voln, .int vohw, .ref vmno, .int vond, .int voon, .int vowi, .int votop]))] H := hP
    have hD : va_D A [(vo, .inr (12, [.int voth, .ref vmt, .int votp, .int vosz, .int volm, .int voto, .int vofr, .int vokd, .int vonu, .int vosg, .int 1, .int vofr, .long vowd, .int votd, .ref vmn, .ref vmr, .ref vmk, .ref vms, .ref vma, .ref vmm, .ref vmrn, .ref vmkn, .ref vmik, .ref vmon, .int vosm, .int vohp, .ref vmw, .ref vmf, .ref vmb, .int vomb, .ref vmd, .ref vmc, .int vocm, .int voct, .int vocy, .ref vmx, .int votx, .int vose, .ref vml, .ref vmwr, .int voln, .int vohw, .ref vmno, .int vond, .int voon, .int vowi, .int votop]))] := hD
    refine lv_iconst (v := 0) hx hb dX11_bad_25 (by decide) ?_
    have k_0 : (0 : Int32).toInt = 0 := by decide
    rw [hQ9]
    exact re_z ((1 : Int32), vofr) hx hb hr hlocks (Or.inl rfl) (show ((0 : Int32) = 0 ∧ ((tkMK (vokd : Int32).toInt (vosg : Int32).toInt = 0 ∧ (1 : Int32).toInt = 1) ∨ (¬ (tkMK (vokd : Int32).toInt (vosg : Int32).toInt = 0) ∧ (1 : Int32).toInt = (vk : Int32).toInt)) ∧ (vofr : Int32).toInt = (vofr : Int32).toInt) from ⟨rfl, (show (tkMK (vokd : Int32).toInt (vosg : Int32).toInt = 0 ∧ (1 : Int32).toInt = 1) ∨ (¬ (tkMK (vokd : Int32).toInt (vosg : Int32).toInt = 0) ∧ (1 : Int32).toInt = (vk : Int32).toInt) from (by have m9 := tkMK_def (vokd : Int32).toInt (vosg : Int32).toInt; omega)), (show (vofr : Int32).toInt = (vofr : Int32).toInt from (by have m9 := tkMK_def (vokd : Int32).toInt (vosg : Int32).toInt; omega))⟩) (hP.sub [0] rfl) (hD.sub [0] rfl rfl) hS dX11_bad_26
