abbrev cX11_saysOne : ByteArray := prog_13_method_118_code
def yX11_saysOne : MethodName := ⟨RX11, "saysOne", "(IIII)I"⟩
theorem t2042 : Cond.code yX11_saysOne cX11_saysOne 6 (some .int) ∈ GW := gw_mem 2156 (by decide +kernel) (by decide +kernel)
abbrev O_m_saysOne (cy : Nat → ClassId) (vo : Nat) (voth : Int32) (vmt : Nat) (votp : Int32) (vosz : Int32) (volm : Int32) (voto : Int32) (vofr : Int32) (vokd : Int32) (vonu : Int32) (vosg : Int32) (vofa : Int32) (vopl : Int32) (vowd : Int64) (votd : Int32) (vmn : Nat) (vmr : Nat) (vmk : Nat) (vms : Nat) (vma : Nat) (vmm : Nat) (vmrn : Nat) (vmkn : Nat) (vmik : Nat) (vmon : Nat) (vosm : Int32) (vohp : Int32) (vmw : Nat) (vmf : Nat) (vmb : Nat) (vomb : Int32) (vmd : Nat) (vmc : Nat) (vocm : Int32) (voct : Int32) (vocy : Int32) (vmx : Nat) (votx : Int32) (vose : Int32) (vml : Nat) (vmwr : Nat) (voln : Int32) (vohw : Int32) (vmno : Nat) (vond : Int32) (voon : Int32) (vowi : Int32) (votop : Int32) (vmnof : Nat → Int32) (vw : Int32) (vx : Int32) (vy : Int32) (vz : Int32) (u : (Nat → Int32) × Int32) : va_W := [(vo, .inr (12, [.int voth, .ref vmt, .int votp, .int vosz, .int volm, .int voto, .int vofr, .int vokd, .int vonu, .int vosg, .int vofa, .int vopl, .long vowd, .int votd, .ref vmn, .ref vmr, .ref vmk, .ref vms, .ref vma, .ref vmm, .ref vmrn, .ref vmkn, .ref vmik, .ref vmon, .int vosm, .int vohp, .ref vmw, .ref vmf, .ref vmb, .int vomb, .ref vmd, .ref vmc, .int vocm, .int voct, .int vocy, .ref vmx, .int votx, .int vose, .ref vml, .ref vmwr, .int voln, .int vohw, .ref vmno, .int u.2, .int voon, .int vowi, .int votop])), (vmno, .inl (cy 0, 240, .inl u.1))]
theorem dX11_saysOne_0 : decode cX11_saysOne 0 = .ok (.iconst 4, 1) := by decide +kernel
theorem dX11_saysOne_1 : decode cX11_saysOne 1 = .ok (.aload_n 0, 1) := by decide +kernel
theorem dX11_saysOne_2 : decode cX11_saysOne 2 = .ok (.getfield 402, 3) := by decide +kernel
theorem t1485 : Cond.fieldLink RX11 402 "LikenessPoundModel" "nodes" "I" ∈ GW := gw_mem 1599 (by decide +kernel) (by decide +kernel)
theorem gf_X11_402 {p : Program} {l : Launch} {e : Env} {R : Room} {s : State} {m : MethodId} {args : Array Value} {below : List Frame} {meth : Method} {c : Code} {H : Heap} {locs : List Loc} {cells slots : Nat} {Q : State → Prop} {cc : ByteArray} {pc : Nat} {ls : Array Slot} {rest : List Value} {D : va_G} {a : Nat} {tys : List (ClassId × FieldType)} {ws : va_W} (hx : p.tables.exec = Jvm.exec) (hb : c.code = cc) (hts : ∀ w ∈ GW, w.before args s = true) (hown : s.vm.findClass RX11 = some m.cls) (hK : va_K D vwCl tys s) (hP : va_P D vwCl ws H) (q0 : Nat) {fs : List Value} (he : ws[q0]? = some (a, .inr (12, fs))) {v : Value} (hv : fs[43]? = some v) (hdg : decode cc pc = .ok (.getfield 402, 3)) (kk : W p l e R s m args below meth c H locs cells slots Q (F0 m (pc + 3) ls (v :: rest))) : W p l e R s m args below meth c H locs cells slots Q (F0 m pc ls (.ref a :: rest)) := va_get (C := RX11) (T := TX11) (N := 47) (ci := 12) hx hb hts inX11 hown hK hP q0 he rfl 43 (by decide) (hts _ t1485) (fun _ h => h) hv hdg kk
theorem dX11_saysOne_5 : decode cX11_saysOne 5 = .ok (.imul, 1) := by decide +kernel
theorem dX11_saysOne_6 : decode cX11_saysOne 6 = .ok (.istore 5, 2) := by decide +kernel
theorem dX11_saysOne_8 : decode cX11_saysOne 8 = .ok (.aload_n 0, 1) := by decide +kernel
theorem dX11_saysOne_9 : decode cX11_saysOne 9 = .ok (.getfield 157, 3) := by decide +kernel
theorem t1484 : Cond.fieldLink RX11 157 "LikenessPoundModel" "node" "[I" ∈ GW := gw_mem 1598 (by decide +kernel) (by decide +kernel)
theorem gf_X11_157 {p : Program} {l : Launch} {e : Env} {R : Room} {s : State} {m : MethodId} {args : Array Value} {below : List Frame} {meth : Method} {c : Code} {H : Heap} {locs : List Loc} {cells slots : Nat} {Q : State → Prop} {cc : ByteArray} {pc : Nat} {ls : Array Slot} {rest : List Value} {D : va_G} {a : Nat} {tys : List (ClassId × FieldType)} {ws : va_W} (hx : p.tables.exec = Jvm.exec) (hb : c.code = cc) (hts : ∀ w ∈ GW, w.before args s = true) (hown : s.vm.findClass RX11 = some m.cls) (hK : va_K D vwCl tys s) (hP : va_P D vwCl ws H) (q0 : Nat) {fs : List Value} (he : ws[q0]? = some (a, .inr (12, fs))) {v : Value} (hv : fs[42]? = some v) (hdg : decode cc pc = .ok (.getfield 157, 3)) (kk : W p l e R s m args below meth c H locs cells slots Q (F0 m (pc + 3) ls (v :: rest))) : W p l e R s m args below meth c H locs cells slots Q (F0 m pc ls (.ref a :: rest)) := va_get (C := RX11) (T := TX11) (N := 47) (ci := 12) hx hb hts inX11 hown hK hP q0 he rfl 42 (by decide) (hts _ t1484) (fun _ h => h) hv hdg kk
theorem dX11_saysOne_12 : decode cX11_saysOne 12 = .ok (.iload 5, 2) := by decide +kernel
theorem dX11_saysOne_14 : decode cX11_saysOne 14 = .ok (.iload_n 1, 1) := by decide +kernel
theorem dX11_saysOne_15 : decode cX11_saysOne 15 = .ok (.iastore, 1) := by decide +kernel
theorem dX11_saysOne_16 : decode cX11_saysOne 16 = .ok (.aload_n 0, 1) := by decide +kernel
theorem dX11_saysOne_17 : decode cX11_saysOne 17 = .ok (.getfield 157, 3) := by decide +kernel
theorem dX11_saysOne_20 : decode cX11_saysOne 20 = .ok (.iload 5, 2) := by decide +kernel
theorem dX11_saysOne_22 : decode cX11_saysOne 22 = .ok (.iconst 1, 1) := by decide +kernel
theorem dX11_saysOne_23 : decode cX11_saysOne 23 = .ok (.iadd, 1) := by decide +kernel
theorem dX11_saysOne_24 : decode cX11_saysOne 24 = .ok (.iload_n 2, 1) := by decide +kernel
theorem dX11_saysOne_25 : decode cX11_saysOne 25 = .ok (.iastore, 1) := by decide +kernel
theorem dX11_saysOne_26 : decode cX11_saysOne 26 = .ok (.aload_n 0, 1) := by decide +kernel
theorem dX11_saysOne_27 : decode cX11_saysOne 27 = .ok (.getfield 157, 3) := by decide +kernel
theorem dX11_saysOne_30 : decode cX11_saysOne 30 = .ok (.iload 5, 2) := by decide +kernel
theorem dX11_saysOne_32 : decode cX11_saysOne 32 = .ok (.iconst 2, 1) := by decide +kernel
theorem dX11_saysOne_33 : decode cX11_saysOne 33 = .ok (.iadd, 1) := by decide +kernel
theorem dX11_saysOne_34 : decode cX11_saysOne 34 = .ok (.iload_n 3, 1) := by decide +kernel
theorem dX11_saysOne_35 : decode cX11_saysOne 35 = .ok (.iastore, 1) := by decide +kernel
theorem dX11_saysOne_36 : decode cX11_saysOne 36 = .ok (.aload_n 0, 1) := by decide +kernel
theorem dX11_saysOne_37 : decode cX11_saysOne 37 = .ok (.getfield 157, 3) := by decide +kernel
theorem dX11_saysOne_40 : decode cX11_saysOne 40 = .ok (.iload 5, 2) := by decide +kernel
theorem dX11_saysOne_42 : decode cX11_saysOne 42 = .ok (.iconst 3, 1) := by decide +kernel
theorem dX11_saysOne_43 : decode cX11_saysOne 43 = .ok (.iadd, 1) := by decide +kernel
theorem dX11_saysOne_44 : decode cX11_saysOne 44 = .ok (.iload 4, 2) := by decide +kernel
theorem dX11_saysOne_46 : decode cX11_saysOne 46 = .ok (.iastore, 1) := by decide +kernel
theorem dX11_saysOne_47 : decode cX11_saysOne 47 = .ok (.aload_n 0, 1) := by decide +kernel
theorem dX11_saysOne_48 : decode cX11_saysOne 48 = .ok (.dup, 1) := by decide +kernel
theorem dX11_saysOne_49 : decode cX11_saysOne 49 = .ok (.getfield 402, 3) := by decide +kernel
theorem dX11_saysOne_52 : decode cX11_saysOne 52 = .ok (.iconst 1, 1) := by decide +kernel
theorem dX11_saysOne_53 : decode cX11_saysOne 53 = .ok (.iadd, 1) := by decide +kernel
theorem dX11_saysOne_54 : decode cX11_saysOne 54 = .ok (.putfield 402, 3) := by decide +kernel
theorem pf_X11_402 {p : Program} {l : Launch} {e : Env} {R : Room} {s : State} {m : MethodId} {args : Array Value} {below : List Frame} {meth : Method} {c : Code} {H : Heap} {locs : List Loc} {cells slots : Nat} {Q : State → Prop} {cc : ByteArray} {pc : Nat} {ls : Array Slot} {rest : List Value} {D : va_G} {A : Nat → Prop} {a : Nat} {tys : List (ClassId × FieldType)} {ws : va_W} {H0 : Heap} (hx : p.tables.exec = Jvm.exec) (hb : c.code = cc) (hts : ∀ w ∈ GW, w.before args s = true) (hown : s.vm.findClass RX11 = some m.cls) (hK : va_K D vwCl tys s) (hP : va_P D vwCl ws H) (hD : va_D A ws) (hS0 : va_S A H0 H locs) (q0 : Nat) {fs : List Value} (he : ws[q0]? = some (a, .inr (12, fs))) {v : Value} (hn : narrow (tyX11 43) v = v) (hfit : fits (tyX11 43) v = true) (hl : 43 < fs.length) (hdg : decode cc pc = .ok (.putfield 402, 3)) (kk : ∀ (H1 : Heap) (locs1 : List Loc), va_P D vwCl (ws.set q0 (a, .inr (12, fs.set 43 v))) H1 → va_D A (ws.set q0 (a, .inr (12, fs.set 43 v))) → va_S A H0 H1 locs1 → W p l e R s m args below meth c H1 locs1 cells slots Q (F0 m (pc + 3) ls rest)) : W p l e R s m args below meth c H locs cells slots Q (F0 m pc ls (v :: .ref a :: rest)) := va_put (C := RX11) (T := TX11) (N := 47) (ci := 12) hx hb hts inX11 tyX11 tkX11 nmX11 hown hK hP hD hS0 q0 he rfl 43 (by decide) (hts _ t1485) (fun _ h => h) rfl (tkX11 43 (by decide)) hn hfit hl hdg kk
theorem dX11_saysOne_57 : decode cX11_saysOne 57 = .ok (.aload_n 0, 1) := by decide +kernel
theorem dX11_saysOne_58 : decode cX11_saysOne 58 = .ok (.getfield 402, 3) := by decide +kernel
theorem dX11_saysOne_61 : decode cX11_saysOne 61 = .ok (.iconst 1, 1) := by decide +kernel
theorem dX11_saysOne_62 : decode cX11_saysOne 62 = .ok (.isub, 1) := by decide +kernel
theorem dX11_saysOne_63 : decode cX11_saysOne 63 = .ok (.ireturn, 1) := by decide +kernel
set_option maxHeartbeats 4000000 in
set_option maxRecDepth 100000 in
theorem m_saysOne (l : Launch) (dC : Nat → ClassId) (dI : Nat → Nat → Nat) (cy : Nat → ClassId) (sz : Nat) (vo : Nat) (voth : Int32) (vmt : Nat) (votp : Int32) (vosz : Int32) (volm : Int32) (voto : Int32) (vofr : Int32) (vokd : Int32) (vonu : Int32) (vosg : Int32) (vofa : Int32) (vopl : Int32) (vowd : Int64) (votd : Int32) (vmn : Nat) (vmr : Nat) (vmk : Nat) (vms : Nat) (vma : Nat) (vmm : Nat) (vmrn : Nat) (vmkn : Nat) (vmik : Nat) (vmon : Nat) (vosm : Int32) (vohp : Int32) (vmw : Nat) (vmf : Nat) (vmb : Nat) (vomb : Int32) (vmd : Nat) (vmc : Nat) (vocm : Int32) (voct : Int32) (vocy : Int32) (vmx : Nat) (votx : Int32) (vose : Int32) (vml : Nat) (vmwr : Nat) (voln : Int32) (vohw : Int32) (vmno : Nat) (vond : Int32) (voon : Int32) (vowi : Int32) (votop : Int32) (vmnof : Nat → Int32) (vw : Int32) (vx : Int32) (vy : Int32) (vz : Int32) (r_vond : 0 ≤ (vond : Int32).toInt ∧ (vond : Int32).toInt ≤ 59) (hnk : NK vmnof) (hr9 : NR (vw : Int32).toInt (vx : Int32).toInt (vy : Int32).toInt (vond : Int32).toInt) : Met l yX11_saysOne (wl yX11_saysOne cX11_saysOne 6 (some .int)) ({ frames := 0, cells := 0, slots := 0, locals := 0 }) (Pw (dC, dI) vwCl cy [(vo, .inr (12, [.int voth, .ref vmt, .int votp, .int vosz, .int volm, .int voto, .int vofr, .int vokd, .int vonu, .int vosg, .int vofa, .int vopl, .long vowd, .int votd, .ref vmn, .ref vmr, .ref vmk, .ref vms, .ref vma, .ref vmm, .ref vmrn, .ref vmkn, .ref vmik, .ref vmon, .int vosm, .int vohp, .ref vmw, .ref vmf, .ref vmb, .int vomb, .ref vmd, .ref vmc, .int vocm, .int voct, .int vocy, .ref vmx, .int votx, .int vose, .ref vml, .ref vmwr, .int voln, .int vohw, .ref vmno, .int vond, .int voon, .int vowi, .int votop])), (vmno, .inl (cy 0, 240, .inl vmnof))] sz [.ref vo, .int vw, .int vx, .int vy, .int vz] nE) (Qi (dC, dI) vwCl (fun (r : Int32) (u : (Nat → Int32) × Int32) => (0 ≤ (r : Int32).toInt ∧ (r : Int32).toInt ≤ 59) ∧ (0 ≤ (u.2 : Int32).toInt ∧ (u.2 : Int32).toInt ≤ 60) ∧ (NK u.1) ∧ ((r : Int32).toInt = (vond : Int32).toInt) ∧ ((u.2 : Int32).toInt = (vond : Int32).toInt + 1)) (O_m_saysOne cy vo voth vmt votp vosz volm voto vofr vokd vonu vosg vofa vopl vowd votd vmn vmr vmk vms vma vmm vmrn vmkn vmik vmon vosm vohp vmw vmf vmb vomb vmd vmc vocm voct vocy vmx votx vose vml vmwr voln vohw vmno vond voon vowi votop vmnof vw vx vy vz) (va_A [(vo, .inr (12, [.int voth, .ref vmt, .int votp, .int vosz, .int volm, .int voto, .int vofr, .int vokd, .int vonu, .int vosg, .int vofa, .int vopl, .long vowd, .int votd, .ref vmn, .ref vmr, .ref vmk, .ref vms, .ref vma, .ref vmm, .ref vmrn, .ref vmkn, .ref vmik, .ref vmon, .int vosm, .int vohp, .ref vmw, .ref vmf, .ref vmb, .int vomb, .ref vmd, .ref vmc, .int vocm, .int voct, .int vocy, .ref vmx, .int votx, .int vose, .ref vml, .ref vmwr, .int voln, .int vohw, .ref vmno, .int vond, .int voon, .int vowi, .int votop])), (vmno, .inl (cy 0, 240, .inl vmnof))] sz)) 0 0 (va_A [(vo, .inr (12, [.int voth, .ref vmt, .int votp, .int vosz, .int volm, .int voto, .int vofr, .int vokd, .int vonu, .int vosg, .int vofa, .int vopl, .long vowd, .int votd, .ref vmn, .ref vmr, .ref vmk, .ref vms, .ref vma, .ref vmm, .ref vmrn, .ref vmkn, .ref vmik, .ref vmon, .int vosm, .int vohp, .ref vmw, .ref vmf, .ref vmb, .int vomb, .ref vmd, .ref vmc, .int vocm, .int voct, .int vocy, .ref vmx, .int votx, .int vose, .ref vml, .ref vmwr, .int voln, .int vohw, .ref vmno, .int vond, .int voon, .int vowi, .int votop])), (vmno, .inl (cy 0, 240, .inl vmnof))] sz) := by
  refine mw (Qc := Qi (dC, dI) vwCl (fun (r : Int32) (u : (Nat → Int32) × Int32) => (0 ≤ (r : Int32).toInt ∧ (r : Int32).toInt ≤ 59) ∧ (0 ≤ (u.2 : Int32).toInt ∧ (u.2 : Int32).toInt ≤ 60) ∧ (NK u.1) ∧ ((r : Int32).toInt = (vond : Int32).toInt) ∧ ((u.2 : Int32).toInt = (vond : Int32).toInt + 1)) (O_m_saysOne cy vo voth vmt votp vosz volm voto vofr vokd vonu vosg vofa vopl vowd votd vmn vmr vmk vms vma vmm vmrn vmkn vmik vmon vosm vohp vmw vmf vmb vomb vmd vmc vocm voct vocy vmx votx vose vml vmwr voln vohw vmno vond voon vowi votop vmnof vw vx vy vz)) RX11 rfl (by decide +kernel) (Nat.le_of_ble_eq_true rfl) ?_
  intro p e s m below meth c A hx hb hr hlocks av9 hav hts hown hnm hml hK hP hD hA hS hE hAe Q9 hQ9 ls hl
  have hl : lv_has ls 6 [(0, .ref vo), (1, .int vw), (2, .int vx), (3, .int vy), (4, .int vz)] := hl
  refine lv_iconst (v := 4) hx hb dX11_saysOne_0 (by decide) ?_
  refine lv_aload_n hx hb dX11_saysOne_1 rfl (lv_at hl 0 rfl) ?_
  refine gf_X11_402 hx hb hts hown hK hP 0 rfl rfl dX11_saysOne_2 ?_
  refine lv_imul hx hb dX11_saysOne_5 ?_
  refine lv_topi (fun z_1 ez_1 => ?_)
  have k_4 : (4 : Int32).toInt = 4 := by decide
  have bz_1 : z_1.toInt = vond.toInt * 4 := i_cmul k_4 ez_1 (by omega) (by omega)
  refine lv_istore (lv' := [(5, .int z_1), (0, .ref vo), (1, .int vw), (2, .int vx), (3, .int vy), (4, .int vz)]) hx hb dX11_saysOne_6 hl (by decide) rfl (fun ls hl => ?_)
  refine lv_aload_n hx hb dX11_saysOne_8 rfl (lv_at hl 1 rfl) ?_
  refine gf_X11_157 hx hb hts hown hK hP 0 rfl rfl dX11_saysOne_9 ?_
  refine lv_iload hx hb dX11_saysOne_12 (lv_at hl 0 rfl) ?_
  refine lv_iload_n hx hb dX11_saysOne_14 rfl (lv_at hl 2 rfl) ?_
  have hin_2 : vp_in z_1 240 := vp_in_iff.mpr ⟨by omega, by omega⟩
  refine va_iast hx hb hK hP hD hS 1 0 rfl rfl hin_2 dX11_saysOne_15 (fun H locs hP hD hS => ?_)
  obtain ⟨f_3, ef_3⟩ : ∃ z : Nat → Int32, z = upd vmnof (Int32.toNatClampNeg z_1) vw := ⟨_, rfl⟩
  have hP : va_P (dC, dI) vwCl [(vo, .inr (12, [.int voth, .ref vmt, .int votp, .int vosz, .int volm, .int voto, .int vofr, .int vokd, .int vonu, .int vosg, .int vofa, .int vopl, .long vowd, .int votd, .ref vmn, .ref vmr, .ref vmk, .ref vms, .ref vma, .ref vmm, .ref vmrn, .ref vmkn, .ref vmik, .ref vmon, .int vosm, .int vohp, .ref vmw, .ref vmf, .ref vmb, .int vomb, .ref vmd, .ref vmc, .int vocm, .int voct, .int vocy, .ref vmx, .int votx, .int vose, .ref vml, .ref vmwr, .int voln, .int vohw, .ref vmno, .int vond, .int voon, .int vowi, .int votop])), (vmno, .inl (cy 0, 240, .inl f_3))] H := by rw [ef_3]; exact hP
  have hD : va_D A [(vo, .inr (12, [.int voth, .ref vmt, .int votp, .int vosz, .int volm, .int voto, .int vofr, .int vokd, .int vonu, .int vosg, .int vofa, .int vopl, .long vowd, .int votd, .ref vmn, .ref vmr, .ref vmk, .ref vms, .ref vma, .ref vmm, .ref vmrn, .ref vmkn, .ref vmik, .ref vmon, .int vosm, .int vohp, .ref vmw, .ref vmf, .ref vmb, .int vomb, .ref vmd, .ref vmc, .int vocm, .int voct, .int vocy, .ref vmx, .int votx, .int vose, .ref vml, .ref vmwr, .int voln, .int vohw, .ref vmno, .int vond, .int voon, .int vowi, .int votop])), (vmno, .inl (cy 0, 240, .inl f_3))] := by rw [ef_3]; exact hD
  refine lv_aload_n hx hb dX11_saysOne_16 rfl (lv_at hl 1 rfl) ?_
  refine gf_X11_157 hx hb hts hown hK hP 0 rfl rfl dX11_saysOne_17 ?_
  refine lv_iload hx hb dX11_saysOne_20 (lv_at hl 0 rfl) ?_
  refine lv_iconst (v := 1) hx hb dX11_saysOne_22 (by decide) ?_
  refine lv_iadd hx hb dX11_saysOne_23 ?_
  refine lv_topi (fun z_4 ez_4 => ?_)
  have k_1 : (1 : Int32).toInt = 1 := by decide
  have bz_4 : z_4.toInt = z_1.toInt + (1 : Int32).toInt := i_add ez_4 (by omega) (by omega)
  refine lv_iload_n hx hb dX11_saysOne_24 rfl (lv_at hl 3 rfl) ?_
  have hin_5 : vp_in z_4 240 := vp_in_iff.mpr ⟨by omega, by omega⟩
  refine va_iast hx hb hK hP hD hS 1 0 rfl rfl hin_5 dX11_saysOne_25 (fun H locs hP hD hS => ?_)
  obtain ⟨f_6, ef_6⟩ : ∃ z : Nat → Int32, z = upd f_3 (Int32.toNatClampNeg z_4) vx := ⟨_, rfl⟩
  have hP : va_P (dC, dI) vwCl [(vo, .inr (12, [.int voth, .ref vmt, .int votp, .int vosz, .int volm, .int voto, .int vofr, .int vokd, .int vonu, .int vosg, .int vofa, .int vopl, .long vowd, .int votd, .ref vmn, .ref vmr, .ref vmk, .ref vms, .ref vma, .ref vmm, .ref vmrn, .ref vmkn, .ref vmik, .ref vmon, .int vosm, .int vohp, .ref vmw, .ref vmf, .ref vmb, .int vomb, .ref vmd, .ref vmc, .int vocm, .int voct, .int vocy, .ref vmx, .int votx, .int vose, .ref vml, .ref vmwr, .int voln, .int vohw, .ref vmno, .int vond, .int voon, .int vowi, .int votop])), (vmno, .inl (cy 0, 240, .inl f_6))] H := by rw [ef_6]; exact hP
  have hD : va_D A [(vo, .inr (12, [.int voth, .ref vmt, .int votp, .int vosz, .int volm, .int voto, .int vofr, .int vokd, .int vonu, .int vosg, .int vofa, .int vopl, .long vowd, .int votd, .ref vmn, .ref vmr, .ref vmk, .ref vms, .ref vma, .ref vmm, .ref vmrn, .ref vmkn, .ref vmik, .ref vmon, .int vosm, .int vohp, .ref vmw, .ref vmf, .ref vmb, .int vomb, .ref vmd, .ref vmc, .int vocm, .int voct, .int vocy, .ref vmx, .int votx, .int vose, .ref vml, .ref vmwr, .int voln, .int vohw, .ref vmno, .int vond, .int voon, .int vowi, .int votop])), (vmno, .inl (cy 0, 240, .inl f_6))] := by rw [ef_6]; exact hD
  refine lv_aload_n hx hb dX11_saysOne_26 rfl (lv_at hl 1 rfl) ?_
  refine gf_X11_157 hx hb hts hown hK hP 0 rfl rfl dX11_saysOne_27 ?_
  refine lv_iload hx hb dX11_saysOne_30 (lv_at hl 0 rfl) ?_
  refine lv_iconst (v := 2) hx hb dX11_saysOne_32 (by decide) ?_
  refine lv_iadd hx hb dX11_saysOne_33 ?_
  refine lv_topi (fun z_7 ez_7 => ?_)
  have k_2 : (2 : Int32).toInt = 2 := by decide
  have bz_7 : z_7.toInt = z_1.toInt + (2 : Int32).toInt := i_add ez_7 (by omega) (by omega)
  refine lv_iload_n hx hb dX11_saysOne_34 rfl (lv_at hl 4 rfl) ?_
  have hin_8 : vp_in z_7 240 := vp_in_iff.mpr ⟨by omega, by omega⟩
  refine va_iast hx hb hK hP hD hS 1 0 rfl rfl hin_8 dX11_saysOne_35 (fun H locs hP hD hS => ?_)
  obtain ⟨f_9, ef_9⟩ : ∃ z : Nat → Int32, z = upd f_6 (Int32.toNatClampNeg z_7) vy := ⟨_, rfl⟩
  have hP : va_P (dC, dI) vwCl [(vo, .inr (12, [.int voth, .ref vmt, .int votp, .int vosz, .int volm, .int voto, .int vofr, .int vokd, .int vonu, .int vosg, .int vofa, .int vopl, .long vowd, .int votd, .ref vmn, .ref vmr, .ref vmk, .ref vms, .ref vma, .ref vmm, .ref vmrn, .ref vmkn, .ref vmik, .ref vmon, .int vosm, .int vohp, .ref vmw, .ref vmf, .ref vmb, .int vomb, .ref vmd, .ref vmc, .int vocm, .int voct, .int vocy, .ref vmx, .int votx, .int vose, .ref vml, .ref vmwr, .int voln, .int vohw, .ref vmno, .int vond, .int voon, .int vowi, .int votop])), (vmno, .inl (cy 0, 240, .inl f_9))] H := by rw [ef_9]; exact hP
  have hD : va_D A [(vo, .inr (12, [.int voth, .ref vmt, .int votp, .int vosz, .int volm, .int voto, .int vofr, .int vokd, .int vonu, .int vosg, .int vofa, .int vopl, .long vowd, .int votd, .ref vmn, .ref vmr, .ref vmk, .ref vms, .ref vma, .ref vmm, .ref vmrn, .ref vmkn, .ref vmik, .ref vmon, .int vosm, .int vohp, .ref vmw, .ref vmf, .ref vmb, .int vomb, .ref vmd, .ref vmc, .int vocm, .int voct, .int vocy, .ref vmx, .int votx, .int vose, .ref vml, .ref vmwr, .int voln, .int vohw, .ref vmno, .int vond, .int voon, .int vowi, .int votop])), (vmno, .inl (cy 0, 240, .inl f_9))] := by rw [ef_9]; exact hD
  refine lv_aload_n hx hb dX11_saysOne_36 rfl (lv_at hl 1 rfl) ?_
  refine gf_X11_157 hx hb hts hown hK hP 0 rfl rfl dX11_saysOne_37 ?_
  refine lv_iload hx hb dX11_saysOne_40 (lv_at hl 0 rfl) ?_
  refine lv_iconst (v := 3) hx hb dX11_saysOne_42 (by decide) ?_
  refine lv_iadd hx hb dX11_saysOne_43 ?_
  refine lv_topi (fun z_10 ez_10 => ?_)
  have k_3 : (3 : Int32).toInt = 3 := by decide
  have bz_10 : z_10.toInt = z_1.toInt + (3 : Int32).toInt := i_add ez_10 (by omega) (by omega)
  refine lv_iload hx hb dX11_saysOne_44 (lv_at hl 5 rfl) ?_
  have hin_11 : vp_in z_10 240 := vp_in_iff.mpr ⟨by omega, by omega⟩
  refine va_iast hx hb hK hP hD hS 1 0 rfl rfl hin_11 dX11_saysOne_46 (fun H locs hP hD hS => ?_)
  obtain ⟨f_12, ef_12⟩ : ∃ z : Nat → Int32, z = upd f_9 (Int32.toNatClampNeg z_10) vz := ⟨_, rfl⟩
  have hP : va_P (dC, dI) vwCl [(vo, .inr (12, [.int voth, .ref vmt, .int votp, .int vosz, .int volm, .int voto, .int vofr, .int vokd, .int vonu, .int vosg, .int vofa, .int vopl, .long vowd, .int votd, .ref vmn, .ref vmr, .ref vmk, .ref vms, .ref vma, .ref vmm, .ref vmrn, .ref vmkn, .ref vmik, .ref vmon, .int vosm, .int vohp, .ref vmw, .ref vmf, .ref vmb, .int vomb, .ref vmd, .ref vmc, .int vocm, .int voct, .int vocy, .ref vmx, .int votx, .int vose, .ref vml, .ref vmwr, .int voln, .int vohw, .ref vmno, .int vond, .int voon, .int vowi, .int votop])), (vmno, .inl (cy 0, 240, .inl f_12))] H := by rw [ef_12]; exact hP
  have hD : va_D A [(vo, .inr (12, [.int voth, .ref vmt, .int votp, .int vosz, .int volm, .int voto, .int vofr, .int vokd, .int vonu, .int vosg, .int vofa, .int vopl, .long vowd, .int votd, .ref vmn, .ref vmr, .ref vmk, .ref vms, .ref vma, .ref vmm, .ref vmrn, .ref vmkn, .ref vmik, .ref vmon, .int vosm, .int vohp, .ref vmw, .ref vmf, .ref vmb, .int vomb, .ref vmd, .ref vmc, .int vocm, .int voct, .int vocy, .ref vmx, .int votx, .int vose, .ref vml, .ref vmwr, .int voln, .int vohw, .ref vmno, .int vond, .int voon, .int vowi, .int votop])), (vmno, .inl (cy 0, 240, .inl f_12))] := by rw [ef_12]; exact hD
  refine lv_aload_n hx hb dX11_saysOne_47 rfl (lv_at hl 1 rfl) ?_
  refine lv_dup hx hb dX11_saysOne_48 rfl ?_
  refine gf_X11_402 hx hb hts hown hK hP 0 rfl rfl dX11_saysOne_49 ?_
  refine lv_iconst (v := 1) hx hb dX11_saysOne_52 (by decide) ?_
  refine lv_iadd hx hb dX11_saysOne_53 ?_
  refine lv_topi (fun z_13 ez_13 => ?_)
  have bz_13 : z_13.toInt = vond.toInt + (1 : Int32).toInt := i_add ez_13 (by omega) (by omega)
  refine pf_X11_402 hx hb hts hown hK hP hD hS 0 rfl rfl rfl (Nat.le_of_ble_eq_true rfl) dX11_saysOne_54 (fun H locs hP hD hS => ?_)
  have hP : va_P (dC, dI) vwCl [(vo, .inr (12, [.int voth, .ref vmt, .int votp, .int vosz, .int volm, .int voto, .int vofr, .int vokd, .int vonu, .int vosg, .int vofa, .int vopl, .long vowd, .int votd, .ref vmn, .ref vmr, .ref vmk, .ref vms, .ref vma, .ref vmm, .ref vmrn, .ref vmkn, .ref vmik, .ref vmon, .int vosm, .int vohp, .ref vmw, .ref vmf, .ref vmb, .int vomb, .ref vmd, .ref vmc, .int vocm, .int voct, .int vocy, .ref vmx, .int votx, .int vose, .ref vml, .ref vmwr, .int voln, .int vohw, .ref vmno, .int z_13, .int voon, .int vowi, .int votop])), (vmno, .inl (cy 0, 240, .inl f_12))] H := hP
  have hD : va_D A [(vo, .inr (12, [.int voth, .ref vmt, .int votp, .int vosz, .int volm, .int voto, .int vofr, .int vokd, .int vonu, .int vosg, .int vofa, .int vopl, .long vowd, .int votd, .ref vmn, .ref vmr, .ref vmk, .ref vms, .ref vma, .ref vmm, .ref vmrn, .ref vmkn, .ref vmik, .ref vmon, .int vosm, .int vohp, .ref vmw, .ref vmf, .ref vmb, .int vomb, .ref vmd, .ref vmc, .int vocm, .int voct, .int vocy, .ref vmx, .int votx, .int vose, .ref vml, .ref vmwr, .int voln, .int vohw, .ref vmno, .int z_13, .int voon, .int vowi, .int votop])), (vmno, .inl (cy 0, 240, .inl f_12))] := hD
  refine lv_aload_n hx hb dX11_saysOne_57 rfl (lv_at hl 1 rfl) ?_
  refine gf_X11_402 hx hb hts hown hK hP 0 rfl rfl dX11_saysOne_58 ?_
  refine lv_iconst (v := 1) hx hb dX11_saysOne_61 (by decide) ?_
  refine lv_isub hx hb dX11_saysOne_62 ?_
  refine lv_topi (fun z_14 ez_14 => ?_)
  have bz_14 : z_14.toInt = z_13.toInt - (1 : Int32).toInt := i_sub ez_14 (by omega) (by omega)
  rw [hQ9]
  exact re_i (f_12, z_13) hx hb hr hlocks ⟨(show 0 ≤ (z_14 : Int32).toInt ∧ (z_14 : Int32).toInt ≤ 59 from ⟨by omega, by omega⟩), (show 0 ≤ (z_13 : Int32).toInt ∧ (z_13 : Int32).toInt ≤ 60 from ⟨by omega, by omega⟩), (show NK f_12 from (by rw [ef_12, ef_9, ef_6, ef_3]; exact NK.put hnk ⟨by omega, by omega⟩ (by omega) (by omega) (by omega) (by omega) hr9)), (show (z_14 : Int32).toInt = (vond : Int32).toInt from (by omega)), (show (z_13 : Int32).toInt = (vond : Int32).toInt + 1 from (by omega))⟩ (hP.sub [0, 1] rfl) (hD.sub [0, 1] rfl rfl) hS dX11_saysOne_63
abbrev cX11_readOf : ByteArray := prog_13_method_124_code
def yX11_readOf : MethodName := ⟨RX11, "readOf", "(I)Z"⟩
theorem t2046 : Cond.code yX11_readOf cX11_readOf 2 (some .boolean) ∈ GW := gw_mem 2160 (by decide +kernel) (by decide +kernel)
theorem dX11_readOf_0 : decode cX11_readOf 0 = .ok (.aload_n 0, 1) := by decide +kernel
theorem dX11_readOf_1 : decode cX11_readOf 1 = .ok (.iload_n 1, 1) := by decide +kernel
theorem dX11_readOf_2 : decode cX11_readOf 2 = .ok (.bipush 23, 2) := by decide +kernel
theorem dX11_readOf_4 : decode cX11_readOf 4 = .ok (.if_icmp .ne 8, 3) := by decide +kernel
theorem dX11_readOf_12 : decode cX11_readOf 12 = .ok (.iconst 0, 1) := by decide +kernel
theorem dX11_readOf_13 : decode cX11_readOf 13 = .ok (.aload_n 0, 1) := by decide +kernel
theorem dX11_readOf_14 : decode cX11_readOf 14 = .ok (.getfield 98, 3) := by decide +kernel
theorem dX11_readOf_17 : decode cX11_readOf 17 = .ok (.iload_n 1, 1) := by decide +kernel
theorem dX11_readOf_18 : decode cX11_readOf 18 = .ok (.bipush 23, 2) := by decide +kernel
theorem dX11_readOf_20 : decode cX11_readOf 20 = .ok (.if_icmp .ne 7, 3) := by decide +kernel
theorem dX11_readOf_27 : decode cX11_readOf 27 = .ok (.iconst 0, 1) := by decide +kernel
theorem dX11_readOf_28 : decode cX11_readOf 28 = .ok (.iaload, 1) := by decide +kernel
theorem dX11_readOf_29 : decode cX11_readOf 29 = .ok (.invokevirtual 370, 3) := by decide +kernel
theorem dX11_readOf_32 : decode cX11_readOf 32 = .ok (.ifCond .ne 5, 3) := by decide +kernel
theorem dX11_readOf_35 : decode cX11_readOf 35 = .ok (.iconst 0, 1) := by decide +kernel
theorem dX11_readOf_36 : decode cX11_readOf 36 = .ok (.ireturn, 1) := by decide +kernel
theorem dX11_readOf_37 : decode cX11_readOf 37 = .ok (.aload_n 0, 1) := by decide +kernel
theorem dX11_readOf_38 : decode cX11_readOf 38 = .ok (.aload_n 0, 1) := by decide +kernel
theorem dX11_readOf_39 : decode cX11_readOf 39 = .ok (.bipush 50, 2) := by decide +kernel
theorem dX11_readOf_41 : decode cX11_readOf 41 = .ok (.iload_n 1, 1) := by decide +kernel
theorem dX11_readOf_42 : decode cX11_readOf 42 = .ok (.iadd, 1) := by decide +kernel
theorem dX11_readOf_43 : decode cX11_readOf 43 = .ok (.aload_n 0, 1) := by decide +kernel
theorem dX11_readOf_44 : decode cX11_readOf 44 = .ok (.getfield 79, 3) := by decide +kernel
theorem dX11_readOf_47 : decode cX11_readOf 47 = .ok (.iconst 0, 1) := by decide +kernel
theorem dX11_readOf_48 : decode cX11_readOf 48 = .ok (.iconst 0, 1) := by decide +kernel
theorem dX11_readOf_49 : decode cX11_readOf 49 = .ok (.invokevirtual 411, 3) := by decide +kernel
theorem t2039 : Cond.methodLink RX11 411 yX11_saysOne ∈ GW := gw_mem 2153 (by decide +kernel) (by decide +kernel)
theorem t2041 : Cond.instanceMethod yX11_saysOne ∈ GW := gw_mem 2155 (by decide +kernel) (by decide +kernel)
theorem s110 : Cond.selects RX11 yX11_saysOne yX11_saysOne ∈ GW := gw_mem 110 (by decide +kernel) (by decide +kernel)
theorem cw_X11_411 {R : Room} {s : State} {args : Array Value} {rm : Room} {mc ms : Nat} (hts : ∀ w ∈ GW, w.before args s = true) (hrc : rm.cells = mc) (hrs : rm.slots = ms) (hR : rm.frames + 1 ≤ R.frames ∧ 8 + (6 + 11) + rm.locals ≤ R.locals) : CallW R s args RX11 RX11 411 yX11_saysOne cX11_saysOne 6 (some .int) (wl yX11_saysOne cX11_saysOne 6 (some .int)) rm mc ms 4 := cwV 4 hts (gi_V t2039 t2041 s110 t18 t2042) rfl hrc hrs (by decide +kernel) hR
theorem dX11_readOf_52 : decode cX11_readOf 52 = .ok (.putfield 408, 3) := by decide +kernel
theorem t1488 : Cond.fieldLink RX11 408 "LikenessPoundModel" "top" "I" ∈ GW := gw_mem 1602 (by decide +kernel) (by decide +kernel)
theorem pf_X11_408 {p : Program} {l : Launch} {e : Env} {R : Room} {s : State} {m : MethodId} {args : Array Value} {below : List Frame} {meth : Method} {c : Code} {H : Heap} {locs : List Loc} {cells slots : Nat} {Q : State → Prop} {cc : ByteArray} {pc : Nat} {ls : Array Slot} {rest : List Value} {D : va_G} {A : Nat → Prop} {a : Nat} {tys : List (ClassId × FieldType)} {ws : va_W} {H0 : Heap} (hx : p.tables.exec = Jvm.exec) (hb : c.code = cc) (hts : ∀ w ∈ GW, w.before args s = true) (hown : s.vm.findClass RX11 = some m.cls) (hK : va_K D vwCl tys s) (hP : va_P D vwCl ws H) (hD : va_D A ws) (hS0 : va_S A H0 H locs) (q0 : Nat) {fs : List Value} (he : ws[q0]? = some (a, .inr (12, fs))) {v : Value} (hn : narrow (tyX11 46) v = v) (hfit : fits (tyX11 46) v = true) (hl : 46 < fs.length) (hdg : decode cc pc = .ok (.putfield 408, 3)) (kk : ∀ (H1 : Heap) (locs1 : List Loc), va_P D vwCl (ws.set q0 (a, .inr (12, fs.set 46 v))) H1 → va_D A (ws.set q0 (a, .inr (12, fs.set 46 v))) → va_S A H0 H1 locs1 → W p l e R s m args below meth c H1 locs1 cells slots Q (F0 m (pc + 3) ls rest)) : W p l e R s m args below meth c H locs cells slots Q (F0 m pc ls (v :: .ref a :: rest)) := va_put (C := RX11) (T := TX11) (N := 47) (ci := 12) hx hb hts inX11 tyX11 tkX11 nmX11 hown hK hP hD hS0 q0 he rfl 46 (by decide) (hts _ t1488) (fun _ h => h) rfl (tkX11 46 (by decide)) hn hfit hl hdg kk
theorem dX11_readOf_55 : decode cX11_readOf 55 = .ok (.iconst 1, 1) := by decide +kernel
theorem dX11_readOf_56 : decode cX11_readOf 56 = .ok (.ireturn, 1) := by decide +kernel
theorem dX11_readOf_7 : decode cX11_readOf 7 = .ok (.bipush 7, 2) := by decide +kernel
theorem dX11_readOf_9 : decode cX11_readOf 9 = .ok (.goto 4, 3) := by decide +kernel
theorem dX11_readOf_23 : decode cX11_readOf 23 = .ok (.iconst 1, 1) := by decide +kernel
theorem dX11_readOf_24 : decode cX11_readOf 24 = .ok (.goto 4, 3) := by decide +kernel
abbrev cX11_readCompare : ByteArray := prog_13_method_125_code
def yX11_readCompare : MethodName := ⟨RX11, "readCompare", "(I)Z"⟩
theorem t2050 : Cond.code yX11_readCompare cX11_readCompare 3 (some .boolean) ∈ GW := gw_mem 2164 (by decide +kernel) (by decide +kernel)
theorem dX11_readCompare_0 : decode cX11_readCompare 0 = .ok (.aload_n 0, 1) := by decide +kernel
theorem dX11_readCompare_1 : decode cX11_readCompare 1 = .ok (.bipush 60, 2) := by decide +kernel
theorem dX11_readCompare_3 : decode cX11_readCompare 3 = .ok (.invokevirtual 86, 3) := by decide +kernel
theorem dX11_readCompare_6 : decode cX11_readCompare 6 = .ok (.ifCond .ne 27, 3) := by decide +kernel
theorem dX11_readCompare_9 : decode cX11_readCompare 9 = .ok (.aload_n 0, 1) := by decide +kernel
theorem dX11_readCompare_10 : decode cX11_readCompare 10 = .ok (.bipush 61, 2) := by decide +kernel
theorem dX11_readCompare_12 : decode cX11_readCompare 12 = .ok (.invokevirtual 86, 3) := by decide +kernel
theorem dX11_readCompare_15 : decode cX11_readCompare 15 = .ok (.ifCond .ne 18, 3) := by decide +kernel
theorem dX11_readCompare_18 : decode cX11_readCompare 18 = .ok (.aload_n 0, 1) := by decide +kernel
theorem dX11_readCompare_19 : decode cX11_readCompare 19 = .ok (.bipush 62, 2) := by decide +kernel
theorem dX11_readCompare_21 : decode cX11_readCompare 21 = .ok (.invokevirtual 86, 3) := by decide +kernel
theorem dX11_readCompare_24 : decode cX11_readCompare 24 = .ok (.ifCond .ne 9, 3) := by decide +kernel
theorem dX11_readCompare_27 : decode cX11_readCompare 27 = .ok (.aload_n 0, 1) := by decide +kernel
theorem dX11_readCompare_28 : decode cX11_readCompare 28 = .ok (.iconst 1, 1) := by decide +kernel
theorem dX11_readCompare_29 : decode cX11_readCompare 29 = .ok (.invokevirtual 72, 3) := by decide +kernel
theorem dX11_readCompare_32 : decode cX11_readCompare 32 = .ok (.ireturn, 1) := by decide +kernel
theorem dX11_readCompare_33 : decode cX11_readCompare 33 = .ok (.aload_n 0, 1) := by decide +kernel
theorem dX11_readCompare_34 : decode cX11_readCompare 34 = .ok (.getfield 40, 3) := by decide +kernel
theorem dX11_readCompare_37 : decode cX11_readCompare 37 = .ok (.istore_n 2, 1) := by decide +kernel
theorem dX11_readCompare_38 : decode cX11_readCompare 38 = .ok (.aload_n 0, 1) := by decide +kernel
theorem dX11_readCompare_39 : decode cX11_readCompare 39 = .ok (.invokevirtual 82, 3) := by decide +kernel
theorem dX11_readCompare_42 : decode cX11_readCompare 42 = .ok (.aload_n 0, 1) := by decide +kernel
theorem dX11_readCompare_43 : decode cX11_readCompare 43 = .ok (.iconst 0, 1) := by decide +kernel
theorem dX11_readCompare_44 : decode cX11_readCompare 44 = .ok (.sipush 999, 3) := by decide +kernel
theorem dX11_readCompare_47 : decode cX11_readCompare 47 = .ok (.invokevirtual 178, 3) := by decide +kernel
theorem dX11_readCompare_50 : decode cX11_readCompare 50 = .ok (.ifCond .ne 5, 3) := by decide +kernel
theorem dX11_readCompare_53 : decode cX11_readCompare 53 = .ok (.iconst 0, 1) := by decide +kernel
theorem dX11_readCompare_54 : decode cX11_readCompare 54 = .ok (.ireturn, 1) := by decide +kernel
theorem dX11_readCompare_55 : decode cX11_readCompare 55 = .ok (.aload_n 0, 1) := by decide +kernel
theorem dX11_readCompare_56 : decode cX11_readCompare 56 = .ok (.aload_n 0, 1) := by decide +kernel
theorem dX11_readCompare_57 : decode cX11_readCompare 57 = .ok (.bipush 50, 2) := by decide +kernel
theorem dX11_readCompare_59 : decode cX11_readCompare 59 = .ok (.iload_n 1, 1) := by decide +kernel
theorem dX11_readCompare_60 : decode cX11_readCompare 60 = .ok (.iadd, 1) := by decide +kernel
theorem dX11_readCompare_61 : decode cX11_readCompare 61 = .ok (.iconst 0, 1) := by decide +kernel
theorem dX11_readCompare_62 : decode cX11_readCompare 62 = .ok (.aload_n 0, 1) := by decide +kernel
theorem dX11_readCompare_63 : decode cX11_readCompare 63 = .ok (.getfield 79, 3) := by decide +kernel
theorem dX11_readCompare_66 : decode cX11_readCompare 66 = .ok (.iload_n 2, 1) := by decide +kernel
theorem dX11_readCompare_67 : decode cX11_readCompare 67 = .ok (.invokevirtual 411, 3) := by decide +kernel
theorem dX11_readCompare_70 : decode cX11_readCompare 70 = .ok (.putfield 408, 3) := by decide +kernel
theorem dX11_readCompare_73 : decode cX11_readCompare 73 = .ok (.iconst 1, 1) := by decide +kernel
theorem dX11_readCompare_74 : decode cX11_readCompare 74 = .ok (.ireturn, 1) := by decide +kernel
abbrev cX11_readSaid : ByteArray := prog_13_method_121_code
def yX11_readSaid : MethodName := ⟨RX11, "readSaid", "()Z"⟩
theorem t2030 : Cond.code yX11_readSaid cX11_readSaid 4 (some .boolean) ∈ GW := gw_mem 2144 (by decide +kernel) (by decide +kernel)
theorem dX11_readSaid_0 : decode cX11_readSaid 0 = .ok (.aload_n 0, 1) := by decide +kernel
theorem dX11_readSaid_1 : decode cX11_readSaid 1 = .ok (.bipush 40, 2) := by decide +kernel
theorem dX11_readSaid_3 : decode cX11_readSaid 3 = .ok (.invokevirtual 86, 3) := by decide +kernel
theorem dX11_readSaid_6 : decode cX11_readSaid 6 = .ok (.istore_n 1, 1) := by decide +kernel
theorem dX11_readSaid_30 : decode cX11_readSaid 30 = .ok (.iload_n 1, 1) := by decide +kernel
theorem dX11_readSaid_31 : decode cX11_readSaid 31 = .ok (.ifCond .ne 15, 3) := by decide +kernel
theorem dX11_readSaid_34 : decode cX11_readSaid 34 = .ok (.iload_n 2, 1) := by decide +kernel
theorem dX11_readSaid_35 : decode cX11_readSaid 35 = .ok (.bipush 28, 2) := by decide +kernel
theorem dX11_readSaid_37 : decode cX11_readSaid 37 = .ok (.if_icmp .le 9, 3) := by decide +kernel
theorem dX11_readSaid_46 : decode cX11_readSaid 46 = .ok (.aload_n 0, 1) := by decide +kernel
theorem dX11_readSaid_47 : decode cX11_readSaid 47 = .ok (.getfield 417, 3) := by decide +kernel
theorem t1486 : Cond.fieldLink RX11 417 "LikenessPoundModel" "onesMany" "I" ∈ GW := gw_mem 1600 (by decide +kernel) (by decide +kernel)
theorem gf_X11_417 {p : Program} {l : Launch} {e : Env} {R : Room} {s : State} {m : MethodId} {args : Array Value} {below : List Frame} {meth : Method} {c : Code} {H : Heap} {locs : List Loc} {cells slots : Nat} {Q : State → Prop} {cc : ByteArray} {pc : Nat} {ls : Array Slot} {rest : List Value} {D : va_G} {a : Nat} {tys : List (ClassId × FieldType)} {ws : va_W} (hx : p.tables.exec = Jvm.exec) (hb : c.code = cc) (hts : ∀ w ∈ GW, w.before args s = true) (hown : s.vm.findClass RX11 = some m.cls) (hK : va_K D vwCl tys s) (hP : va_P D vwCl ws H) (q0 : Nat) {fs : List Value} (he : ws[q0]? = some (a, .inr (12, fs))) {v : Value} (hv : fs[44]? = some v) (hdg : decode cc pc = .ok (.getfield 417, 3)) (kk : W p l e R s m args below meth c H locs cells slots Q (F0 m (pc + 3) ls (v :: rest))) : W p l e R s m args below meth c H locs cells slots Q (F0 m pc ls (.ref a :: rest)) := va_get (C := RX11) (T := TX11) (N := 47) (ci := 12) hx hb hts inX11 hown hK hP q0 he rfl 44 (by decide) (hts _ t1486) (fun _ h => h) hv hdg kk
theorem dX11_readSaid_50 : decode cX11_readSaid 50 = .ok (.bipush 20, 2) := by decide +kernel
theorem dX11_readSaid_52 : decode cX11_readSaid 52 = .ok (.if_icmp .eq 12, 3) := by decide +kernel
theorem dX11_readSaid_64 : decode cX11_readSaid 64 = .ok (.aload_n 0, 1) := by decide +kernel
theorem dX11_readSaid_65 : decode cX11_readSaid 65 = .ok (.iconst 4, 1) := by decide +kernel
theorem dX11_readSaid_66 : decode cX11_readSaid 66 = .ok (.invokevirtual 72, 3) := by decide +kernel
theorem dX11_readSaid_69 : decode cX11_readSaid 69 = .ok (.ireturn, 1) := by decide +kernel
theorem dX11_readSaid_55 : decode cX11_readSaid 55 = .ok (.aload_n 0, 1) := by decide +kernel
theorem dX11_readSaid_56 : decode cX11_readSaid 56 = .ok (.getfield 420, 3) := by decide +kernel
theorem t1487 : Cond.fieldLink RX11 420 "LikenessPoundModel" "within" "I" ∈ GW := gw_mem 1601 (by decide +kernel) (by decide +kernel)
theorem gf_X11_420 {p : Program} {l : Launch} {e : Env} {R : Room} {s : State} {m : MethodId} {args : Array Value} {below : List Frame} {meth : Method} {c : Code} {H : Heap} {locs : List Loc} {cells slots : Nat} {Q : State → Prop} {cc : ByteArray} {pc : Nat} {ls : Array Slot} {rest : List Value} {D : va_G} {a : Nat} {tys : List (ClassId × FieldType)} {ws : va_W} (hx : p.tables.exec = Jvm.exec) (hb : c.code = cc) (hts : ∀ w ∈ GW, w.before args s = true) (hown : s.vm.findClass RX11 = some m.cls) (hK : va_K D vwCl tys s) (hP : va_P D vwCl ws H) (q0 : Nat) {fs : List Value} (he : ws[q0]? = some (a, .inr (12, fs))) {v : Value} (hv : fs[45]? = some v) (hdg : decode cc pc = .ok (.getfield 420, 3)) (kk : W p l e R s m args below meth c H locs cells slots Q (F0 m (pc + 3) ls (v :: rest))) : W p l e R s m args below meth c H locs cells slots Q (F0 m pc ls (.ref a :: rest)) := va_get (C := RX11) (T := TX11) (N := 47) (ci := 12) hx hb hts inX11 hown hK hP q0 he rfl 45 (by decide) (hts _ t1487) (fun _ h => h) hv hdg kk
theorem dX11_readSaid_59 : decode cX11_readSaid 59 = .ok (.bipush 8, 2) := by decide +kernel
theorem dX11_readSaid_61 : decode cX11_readSaid 61 = .ok (.if_icmp .ne 9, 3) := by decide +kernel
theorem dX11_readSaid_40 : decode cX11_readSaid 40 = .ok (.aload_n 0, 1) := by decide +kernel
theorem dX11_readSaid_41 : decode cX11_readSaid 41 = .ok (.iconst 1, 1) := by decide +kernel
theorem dX11_readSaid_42 : decode cX11_readSaid 42 = .ok (.invokevirtual 72, 3) := by decide +kernel
theorem dX11_readSaid_45 : decode cX11_readSaid 45 = .ok (.ireturn, 1) := by decide +kernel
theorem dX11_readSaid_7 : decode cX11_readSaid 7 = .ok (.bipush 17, 2) := by decide +kernel
theorem dX11_readSaid_9 : decode cX11_readSaid 9 = .ok (.istore_n 2, 1) := by decide +kernel
theorem dX11_readSaid_10 : decode cX11_readSaid 10 = .ok (.iload_n 2, 1) := by decide +kernel
theorem dX11_readSaid_11 : decode cX11_readSaid 11 = .ok (.bipush 28, 2) := by decide +kernel
theorem dX11_readSaid_13 : decode cX11_readSaid 13 = .ok (.if_icmp .gt 17, 3) := by decide +kernel
theorem dX11_readSaid_16 : decode cX11_readSaid 16 = .ok (.aload_n 0, 1) := by decide +kernel
theorem dX11_readSaid_17 : decode cX11_readSaid 17 = .ok (.iload_n 2, 1) := by decide +kernel
theorem dX11_readSaid_18 : decode cX11_readSaid 18 = .ok (.invokevirtual 185, 3) := by decide +kernel
theorem dX11_readSaid_21 : decode cX11_readSaid 21 = .ok (.ifCond .ne 9, 3) := by decide +kernel
theorem dX11_readSaid_24 : decode cX11_readSaid 24 = .ok (.iinc 2 1, 3) := by decide +kernel
theorem dX11_readSaid_27 : decode cX11_readSaid 27 = .ok (.goto (-17), 3) := by decide +kernel
abbrev cX11_readNot : ByteArray := prog_13_method_122_code
def yX11_readNot : MethodName := ⟨RX11, "readNot", "()Z"⟩
theorem t2038 : Cond.code yX11_readNot cX11_readNot 1 (some .boolean) ∈ GW := gw_mem 2152 (by decide +kernel) (by decide +kernel)
theorem dX11_readNot_0 : decode cX11_readNot 0 = .ok (.aload_n 0, 1) := by decide +kernel
theorem dX11_readNot_1 : decode cX11_readNot 1 = .ok (.invokevirtual 414, 3) := by decide +kernel
theorem t2027 : Cond.methodLink RX11 414 yX11_readSaid ∈ GW := gw_mem 2141 (by decide +kernel) (by decide +kernel)
theorem t2029 : Cond.instanceMethod yX11_readSaid ∈ GW := gw_mem 2143 (by decide +kernel) (by decide +kernel)
theorem s107 : Cond.selects RX11 yX11_readSaid yX11_readSaid ∈ GW := gw_mem 107 (by decide +kernel) (by decide +kernel)
theorem cw_X11_414 {R : Room} {s : State} {args : Array Value} {rm : Room} {mc ms : Nat} (hts : ∀ w ∈ GW, w.before args s = true) (hrc : rm.cells = mc) (hrs : rm.slots = ms) (hR : rm.frames + 1 ≤ R.frames ∧ 8 + (4 + 11) + rm.locals ≤ R.locals) : CallW R s args RX11 RX11 414 yX11_readSaid cX11_readSaid 4 (some .boolean) (wl yX11_readSaid cX11_readSaid 4 (some .boolean)) rm mc ms 0 := cwV 0 hts (gi_V t2027 t2029 s107 t18 t2030) rfl hrc hrs (by decide +kernel) hR
theorem dX11_readNot_4 : decode cX11_readNot 4 = .ok (.ifCond .ne 5, 3) := by decide +kernel
theorem dX11_readNot_7 : decode cX11_readNot 7 = .ok (.iconst 0, 1) := by decide +kernel
theorem dX11_readNot_8 : decode cX11_readNot 8 = .ok (.ireturn, 1) := by decide +kernel
theorem dX11_readNot_9 : decode cX11_readNot 9 = .ok (.aload_n 0, 1) := by decide +kernel
theorem dX11_readNot_10 : decode cX11_readNot 10 = .ok (.aload_n 0, 1) := by decide +kernel
theorem dX11_readNot_11 : decode cX11_readNot 11 = .ok (.iconst 1, 1) := by decide +kernel
theorem dX11_readNot_12 : decode cX11_readNot 12 = .ok (.aload_n 0, 1) := by decide +kernel
theorem dX11_readNot_13 : decode cX11_readNot 13 = .ok (.getfield 408, 3) := by decide +kernel
theorem gf_X11_408 {p : Program} {l : Launch} {e : Env} {R : Room} {s : State} {m : MethodId} {args : Array Value} {below : List Frame} {meth : Method} {c : Code} {H : Heap} {locs : List Loc} {cells slots : Nat} {Q : State → Prop} {cc : ByteArray} {pc : Nat} {ls : Array Slot} {rest : List Value} {D : va_G} {a : Nat} {tys : List (ClassId × FieldType)} {ws : va_W} (hx : p.tables.exec = Jvm.exec) (hb : c.code = cc) (hts : ∀ w ∈ GW, w.before args s = true) (hown : s.vm.findClass RX11 = some m.cls) (hK : va_K D vwCl tys s) (hP : va_P D vwCl ws H) (q0 : Nat) {fs : List Value} (he : ws[q0]? = some (a, .inr (12, fs))) {v : Value} (hv : fs[46]? = some v) (hdg : decode cc pc = .ok (.getfield 408, 3)) (kk : W p l e R s m args below meth c H locs cells slots Q (F0 m (pc + 3) ls (v :: rest))) : W p l e R s m args below meth c H locs cells slots Q (F0 m pc ls (.ref a :: rest)) := va_get (C := RX11) (T := TX11) (N := 47) (ci := 12) hx hb hts inX11 hown hK hP q0 he rfl 46 (by decide) (hts _ t1488) (fun _ h => h) hv hdg kk
theorem dX11_readNot_16 : decode cX11_readNot 16 = .ok (.iconst 0, 1) := by decide +kernel
theorem dX11_readNot_17 : decode cX11_readNot 17 = .ok (.iconst 0, 1) := by decide +kernel
theorem dX11_readNot_18 : decode cX11_readNot 18 = .ok (.invokevirtual 411, 3) := by decide +kernel
theorem dX11_readNot_21 : decode cX11_readNot 21 = .ok (.putfield 408, 3) := by decide +kernel
theorem dX11_readNot_24 : decode cX11_readNot 24 = .ok (.iconst 1, 1) := by decide +kernel
theorem dX11_readNot_25 : decode cX11_readNot 25 = .ok (.ireturn, 1) := by decide +kernel
abbrev cX11_readAnd : ByteArray := prog_13_method_120_code
def yX11_readAnd : MethodName := ⟨RX11, "readAnd", "()Z"⟩
theorem t2026 : Cond.code yX11_readAnd cX11_readAnd 2 (some .boolean) ∈ GW := gw_mem 2140 (by decide +kernel) (by decide +kernel)
theorem dX11_readAnd_0 : decode cX11_readAnd 0 = .ok (.aload_n 0, 1) := by decide +kernel
theorem dX11_readAnd_1 : decode cX11_readAnd 1 = .ok (.invokevirtual 414, 3) := by decide +kernel
theorem dX11_readAnd_4 : decode cX11_readAnd 4 = .ok (.ifCond .ne 5, 3) := by decide +kernel
theorem dX11_readAnd_7 : decode cX11_readAnd 7 = .ok (.iconst 0, 1) := by decide +kernel
theorem dX11_readAnd_8 : decode cX11_readAnd 8 = .ok (.ireturn, 1) := by decide +kernel
theorem dX11_readAnd_9 : decode cX11_readAnd 9 = .ok (.aload_n 0, 1) := by decide +kernel
theorem dX11_readAnd_10 : decode cX11_readAnd 10 = .ok (.getfield 408, 3) := by decide +kernel
theorem dX11_readAnd_13 : decode cX11_readAnd 13 = .ok (.istore_n 1, 1) := by decide +kernel
theorem dX11_readAnd_14 : decode cX11_readAnd 14 = .ok (.aload_n 0, 1) := by decide +kernel
theorem dX11_readAnd_15 : decode cX11_readAnd 15 = .ok (.bipush 16, 2) := by decide +kernel
theorem dX11_readAnd_17 : decode cX11_readAnd 17 = .ok (.invokevirtual 185, 3) := by decide +kernel
theorem dX11_readAnd_20 : decode cX11_readAnd 20 = .ok (.ifCond .eq 31, 3) := by decide +kernel
theorem dX11_readAnd_51 : decode cX11_readAnd 51 = .ok (.aload_n 0, 1) := by decide +kernel
theorem dX11_readAnd_52 : decode cX11_readAnd 52 = .ok (.iload_n 1, 1) := by decide +kernel
theorem dX11_readAnd_53 : decode cX11_readAnd 53 = .ok (.putfield 408, 3) := by decide +kernel
theorem dX11_readAnd_56 : decode cX11_readAnd 56 = .ok (.iconst 1, 1) := by decide +kernel
theorem dX11_readAnd_57 : decode cX11_readAnd 57 = .ok (.ireturn, 1) := by decide +kernel
theorem dX11_readAnd_23 : decode cX11_readAnd 23 = .ok (.aload_n 0, 1) := by decide +kernel
theorem dX11_readAnd_24 : decode cX11_readAnd 24 = .ok (.invokevirtual 82, 3) := by decide +kernel
theorem dX11_readAnd_27 : decode cX11_readAnd 27 = .ok (.aload_n 0, 1) := by decide +kernel
theorem dX11_readAnd_28 : decode cX11_readAnd 28 = .ok (.invokevirtual 414, 3) := by decide +kernel
theorem dX11_readAnd_31 : decode cX11_readAnd 31 = .ok (.ifCond .ne 5, 3) := by decide +kernel
theorem dX11_readAnd_34 : decode cX11_readAnd 34 = .ok (.iconst 0, 1) := by decide +kernel
theorem dX11_readAnd_35 : decode cX11_readAnd 35 = .ok (.ireturn, 1) := by decide +kernel
theorem dX11_readAnd_36 : decode cX11_readAnd 36 = .ok (.aload_n 0, 1) := by decide +kernel
theorem dX11_readAnd_37 : decode cX11_readAnd 37 = .ok (.iconst 2, 1) := by decide +kernel
theorem dX11_readAnd_38 : decode cX11_readAnd 38 = .ok (.iload_n 1, 1) := by decide +kernel
theorem dX11_readAnd_39 : decode cX11_readAnd 39 = .ok (.aload_n 0, 1) := by decide +kernel
theorem dX11_readAnd_40 : decode cX11_readAnd 40 = .ok (.getfield 408, 3) := by decide +kernel
theorem dX11_readAnd_43 : decode cX11_readAnd 43 = .ok (.iconst 0, 1) := by decide +kernel
theorem dX11_readAnd_44 : decode cX11_readAnd 44 = .ok (.invokevirtual 411, 3) := by decide +kernel
theorem dX11_readAnd_47 : decode cX11_readAnd 47 = .ok (.istore_n 1, 1) := by decide +kernel
theorem dX11_readAnd_48 : decode cX11_readAnd 48 = .ok (.goto (-34), 3) := by decide +kernel
abbrev cX11_readOr : ByteArray := prog_13_method_119_code
def yX11_readOr : MethodName := ⟨RX11, "readOr", "()Z"⟩
theorem t2022 : Cond.code yX11_readOr cX11_readOr 2 (some .boolean) ∈ GW := gw_mem 2136 (by decide +kernel) (by decide +kernel)
theorem dX11_readOr_0 : decode cX11_readOr 0 = .ok (.aload_n 0, 1) := by decide +kernel
theorem dX11_readOr_1 : decode cX11_readOr 1 = .ok (.invokevirtual 405, 3) := by decide +kernel
theorem t2023 : Cond.methodLink RX11 405 yX11_readAnd ∈ GW := gw_mem 2137 (by decide +kernel) (by decide +kernel)
theorem t2025 : Cond.instanceMethod yX11_readAnd ∈ GW := gw_mem 2139 (by decide +kernel) (by decide +kernel)
theorem s106 : Cond.selects RX11 yX11_readAnd yX11_readAnd ∈ GW := gw_mem 106 (by decide +kernel) (by decide +kernel)
theorem cw_X11_405 {R : Room} {s : State} {args : Array Value} {rm : Room} {mc ms : Nat} (hts : ∀ w ∈ GW, w.before args s = true) (hrc : rm.cells = mc) (hrs : rm.slots = ms) (hR : rm.frames + 1 ≤ R.frames ∧ 8 + (2 + 11) + rm.locals ≤ R.locals) : CallW R s args RX11 RX11 405 yX11_readAnd cX11_readAnd 2 (some .boolean) (wl yX11_readAnd cX11_readAnd 2 (some .boolean)) rm mc ms 0 := cwV 0 hts (gi_V t2023 t2025 s106 t18 t2026) rfl hrc hrs (by decide +kernel) hR
theorem dX11_readOr_4 : decode cX11_readOr 4 = .ok (.ifCond .ne 5, 3) := by decide +kernel
theorem dX11_readOr_7 : decode cX11_readOr 7 = .ok (.iconst 0, 1) := by decide +kernel
theorem dX11_readOr_8 : decode cX11_readOr 8 = .ok (.ireturn, 1) := by decide +kernel
theorem dX11_readOr_9 : decode cX11_readOr 9 = .ok (.aload_n 0, 1) := by decide +kernel
theorem dX11_readOr_10 : decode cX11_readOr 10 = .ok (.getfield 408, 3) := by decide +kernel
theorem dX11_readOr_13 : decode cX11_readOr 13 = .ok (.istore_n 1, 1) := by decide +kernel
theorem dX11_readOr_14 : decode cX11_readOr 14 = .ok (.aload_n 0, 1) := by decide +kernel
theorem dX11_readOr_15 : decode cX11_readOr 15 = .ok (.bipush 15, 2) := by decide +kernel
theorem dX11_readOr_17 : decode cX11_readOr 17 = .ok (.invokevirtual 185, 3) := by decide +kernel
theorem dX11_readOr_20 : decode cX11_readOr 20 = .ok (.ifCond .eq 31, 3) := by decide +kernel
theorem dX11_readOr_51 : decode cX11_readOr 51 = .ok (.aload_n 0, 1) := by decide +kernel
theorem dX11_readOr_52 : decode cX11_readOr 52 = .ok (.iload_n 1, 1) := by decide +kernel
theorem dX11_readOr_53 : decode cX11_readOr 53 = .ok (.putfield 408, 3) := by decide +kernel
theorem dX11_readOr_56 : decode cX11_readOr 56 = .ok (.iconst 1, 1) := by decide +kernel
theorem dX11_readOr_57 : decode cX11_readOr 57 = .ok (.ireturn, 1) := by decide +kernel
theorem dX11_readOr_23 : decode cX11_readOr 23 = .ok (.aload_n 0, 1) := by decide +kernel
theorem dX11_readOr_24 : decode cX11_readOr 24 = .ok (.invokevirtual 82, 3) := by decide +kernel
theorem dX11_readOr_27 : decode cX11_readOr 27 = .ok (.aload_n 0, 1) := by decide +kernel
theorem dX11_readOr_28 : decode cX11_readOr 28 = .ok (.invokevirtual 405, 3) := by decide +kernel
theorem dX11_readOr_31 : decode cX11_readOr 31 = .ok (.ifCond .ne 5, 3) := by decide +kernel
theorem dX11_readOr_34 : decode cX11_readOr 34 = .ok (.iconst 0, 1) := by decide +kernel
theorem dX11_readOr_35 : decode cX11_readOr 35 = .ok (.ireturn, 1) := by decide +kernel
theorem dX11_readOr_36 : decode cX11_readOr 36 = .ok (.aload_n 0, 1) := by decide +kernel
theorem dX11_readOr_37 : decode cX11_readOr 37 = .ok (.iconst 3, 1) := by decide +kernel
theorem dX11_readOr_38 : decode cX11_readOr 38 = .ok (.iload_n 1, 1) := by decide +kernel
theorem dX11_readOr_39 : decode cX11_readOr 39 = .ok (.aload_n 0, 1) := by decide +kernel
theorem dX11_readOr_40 : decode cX11_readOr 40 = .ok (.getfield 408, 3) := by decide +kernel
theorem dX11_readOr_43 : decode cX11_readOr 43 = .ok (.iconst 0, 1) := by decide +kernel
theorem dX11_readOr_44 : decode cX11_readOr 44 = .ok (.invokevirtual 411, 3) := by decide +kernel
theorem dX11_readOr_47 : decode cX11_readOr 47 = .ok (.istore_n 1, 1) := by decide +kernel
theorem dX11_readOr_48 : decode cX11_readOr 48 = .ok (.goto (-34), 3) := by decide +kernel
abbrev cX11_readBracket : ByteArray := prog_13_method_123_code
def yX11_readBracket : MethodName := ⟨RX11, "readBracket", "()Z"⟩
theorem t2034 : Cond.code yX11_readBracket cX11_readBracket 1 (some .boolean) ∈ GW := gw_mem 2148 (by decide +kernel) (by decide +kernel)
theorem dX11_readBracket_0 : decode cX11_readBracket 0 = .ok (.aload_n 0, 1) := by decide +kernel
theorem dX11_readBracket_1 : decode cX11_readBracket 1 = .ok (.invokevirtual 435, 3) := by decide +kernel
theorem t2019 : Cond.methodLink RX11 435 yX11_readOr ∈ GW := gw_mem 2133 (by decide +kernel) (by decide +kernel)
theorem t2021 : Cond.instanceMethod yX11_readOr ∈ GW := gw_mem 2135 (by decide +kernel) (by decide +kernel)
theorem s105 : Cond.selects RX11 yX11_readOr yX11_readOr ∈ GW := gw_mem 105 (by decide +kernel) (by decide +kernel)
theorem cw_X11_435 {R : Room} {s : State} {args : Array Value} {rm : Room} {mc ms : Nat} (hts : ∀ w ∈ GW, w.before args s = true) (hrc : rm.cells = mc) (hrs : rm.slots = ms) (hR : rm.frames + 1 ≤ R.frames ∧ 8 + (2 + 11) + rm.locals ≤ R.locals) : CallW R s args RX11 RX11 435 yX11_readOr cX11_readOr 2 (some .boolean) (wl yX11_readOr cX11_readOr 2 (some .boolean)) rm mc ms 0 := cwV 0 hts (gi_V t2019 t2021 s105 t18 t2022) rfl hrc hrs (by decide +kernel) hR
theorem dX11_readBracket_4 : decode cX11_readBracket 4 = .ok (.ifCond .ne 5, 3) := by decide +kernel
theorem dX11_readBracket_7 : decode cX11_readBracket 7 = .ok (.iconst 0, 1) := by decide +kernel
theorem dX11_readBracket_8 : decode cX11_readBracket 8 = .ok (.ireturn, 1) := by decide +kernel
theorem dX11_readBracket_9 : decode cX11_readBracket 9 = .ok (.aload_n 0, 1) := by decide +kernel
theorem dX11_readBracket_10 : decode cX11_readBracket 10 = .ok (.bipush 41, 2) := by decide +kernel
theorem dX11_readBracket_12 : decode cX11_readBracket 12 = .ok (.invokevirtual 86, 3) := by decide +kernel
theorem dX11_readBracket_15 : decode cX11_readBracket 15 = .ok (.ifCond .ne 9, 3) := by decide +kernel
theorem dX11_readBracket_18 : decode cX11_readBracket 18 = .ok (.aload_n 0, 1) := by decide +kernel
theorem dX11_readBracket_19 : decode cX11_readBracket 19 = .ok (.iconst 1, 1) := by decide +kernel
theorem dX11_readBracket_20 : decode cX11_readBracket 20 = .ok (.invokevirtual 72, 3) := by decide +kernel
theorem dX11_readBracket_23 : decode cX11_readBracket 23 = .ok (.ireturn, 1) := by decide +kernel
theorem dX11_readBracket_24 : decode cX11_readBracket 24 = .ok (.aload_n 0, 1) := by decide +kernel
theorem dX11_readBracket_25 : decode cX11_readBracket 25 = .ok (.invokevirtual 82, 3) := by decide +kernel
theorem dX11_readBracket_28 : decode cX11_readBracket 28 = .ok (.iconst 1, 1) := by decide +kernel
theorem dX11_readBracket_29 : decode cX11_readBracket 29 = .ok (.ireturn, 1) := by decide +kernel
theorem dX11_readSaid_70 : decode cX11_readSaid 70 = .ok (.aload_n 0, 1) := by decide +kernel
theorem dX11_readSaid_71 : decode cX11_readSaid 71 = .ok (.dup, 1) := by decide +kernel
theorem dX11_readSaid_72 : decode cX11_readSaid 72 = .ok (.getfield 417, 3) := by decide +kernel
theorem dX11_readSaid_75 : decode cX11_readSaid 75 = .ok (.iconst 1, 1) := by decide +kernel
theorem dX11_readSaid_76 : decode cX11_readSaid 76 = .ok (.iadd, 1) := by decide +kernel
theorem dX11_readSaid_77 : decode cX11_readSaid 77 = .ok (.putfield 417, 3) := by decide +kernel
theorem pf_X11_417 {p : Program} {l : Launch} {e : Env} {R : Room} {s : State} {m : MethodId} {args : Array Value} {below : List Frame} {meth : Method} {c : Code} {H : Heap} {locs : List Loc} {cells slots : Nat} {Q : State → Prop} {cc : ByteArray} {pc : Nat} {ls : Array Slot} {rest : List Value} {D : va_G} {A : Nat → Prop} {a : Nat} {tys : List (ClassId × FieldType)} {ws : va_W} {H0 : Heap} (hx : p.tables.exec = Jvm.exec) (hb : c.code = cc) (hts : ∀ w ∈ GW, w.before args s = true) (hown : s.vm.findClass RX11 = some m.cls) (hK : va_K D vwCl tys s) (hP : va_P D vwCl ws H) (hD : va_D A ws) (hS0 : va_S A H0 H locs) (q0 : Nat) {fs : List Value} (he : ws[q0]? = some (a, .inr (12, fs))) {v : Value} (hn : narrow (tyX11 44) v = v) (hfit : fits (tyX11 44) v = true) (hl : 44 < fs.length) (hdg : decode cc pc = .ok (.putfield 417, 3)) (kk : ∀ (H1 : Heap) (locs1 : List Loc), va_P D vwCl (ws.set q0 (a, .inr (12, fs.set 44 v))) H1 → va_D A (ws.set q0 (a, .inr (12, fs.set 44 v))) → va_S A H0 H1 locs1 → W p l e R s m args below meth c H1 locs1 cells slots Q (F0 m (pc + 3) ls rest)) : W p l e R s m args below meth c H locs cells slots Q (F0 m pc ls (v :: .ref a :: rest)) := va_put (C := RX11) (T := TX11) (N := 47) (ci := 12) hx hb hts inX11 tyX11 tkX11 nmX11 hown hK hP hD hS0 q0 he rfl 44 (by decide) (hts _ t1486) (fun _ h => h) rfl (tkX11 44 (by decide)) hn hfit hl hdg kk
theorem dX11_readSaid_80 : decode cX11_readSaid 80 = .ok (.aload_n 0, 1) := by decide +kernel
theorem dX11_readSaid_81 : decode cX11_readSaid 81 = .ok (.dup, 1) := by decide +kernel
theorem dX11_readSaid_82 : decode cX11_readSaid 82 = .ok (.getfield 420, 3) := by decide +kernel
theorem dX11_readSaid_85 : decode cX11_readSaid 85 = .ok (.iconst 1, 1) := by decide +kernel
theorem dX11_readSaid_86 : decode cX11_readSaid 86 = .ok (.iadd, 1) := by decide +kernel
theorem dX11_readSaid_87 : decode cX11_readSaid 87 = .ok (.putfield 420, 3) := by decide +kernel
theorem pf_X11_420 {p : Program} {l : Launch} {e : Env} {R : Room} {s : State} {m : MethodId} {args : Array Value} {below : List Frame} {meth : Method} {c : Code} {H : Heap} {locs : List Loc} {cells slots : Nat} {Q : State → Prop} {cc : ByteArray} {pc : Nat} {ls : Array Slot} {rest : List Value} {D : va_G} {A : Nat → Prop} {a : Nat} {tys : List (ClassId × FieldType)} {ws : va_W} {H0 : Heap} (hx : p.tables.exec = Jvm.exec) (hb : c.code = cc) (hts : ∀ w ∈ GW, w.before args s = true) (hown : s.vm.findClass RX11 = some m.cls) (hK : va_K D vwCl tys s) (hP : va_P D vwCl ws H) (hD : va_D A ws) (hS0 : va_S A H0 H locs) (q0 : Nat) {fs : List Value} (he : ws[q0]? = some (a, .inr (12, fs))) {v : Value} (hn : narrow (tyX11 45) v = v) (hfit : fits (tyX11 45) v = true) (hl : 45 < fs.length) (hdg : decode cc pc = .ok (.putfield 420, 3)) (kk : ∀ (H1 : Heap) (locs1 : List Loc), va_P D vwCl (ws.set q0 (a, .inr (12, fs.set 45 v))) H1 → va_D A (ws.set q0 (a, .inr (12, fs.set 45 v))) → va_S A H0 H1 locs1 → W p l e R s m args below meth c H1 locs1 cells slots Q (F0 m (pc + 3) ls rest)) : W p l e R s m args below meth c H locs cells slots Q (F0 m pc ls (v :: .ref a :: rest)) := va_put (C := RX11) (T := TX11) (N := 47) (ci := 12) hx hb hts inX11 tyX11 tkX11 nmX11 hown hK hP hD hS0 q0 he rfl 45 (by decide) (hts _ t1487) (fun _ h => h) rfl (tkX11 45 (by decide)) hn hfit hl hdg kk
theorem dX11_readSaid_90 : decode cX11_readSaid 90 = .ok (.aload_n 0, 1) := by decide +kernel
theorem dX11_readSaid_91 : decode cX11_readSaid 91 = .ok (.invokevirtual 82, 3) := by decide +kernel
theorem dX11_readSaid_94 : decode cX11_readSaid 94 = .ok (.iconst 1, 1) := by decide +kernel
theorem dX11_readSaid_95 : decode cX11_readSaid 95 = .ok (.istore_n 3, 1) := by decide +kernel
theorem dX11_readSaid_166 : decode cX11_readSaid 166 = .ok (.aload_n 0, 1) := by decide +kernel
theorem dX11_readSaid_167 : decode cX11_readSaid 167 = .ok (.dup, 1) := by decide +kernel
theorem dX11_readSaid_168 : decode cX11_readSaid 168 = .ok (.getfield 420, 3) := by decide +kernel
theorem dX11_readSaid_171 : decode cX11_readSaid 171 = .ok (.iconst 1, 1) := by decide +kernel
theorem dX11_readSaid_172 : decode cX11_readSaid 172 = .ok (.isub, 1) := by decide +kernel
theorem dX11_readSaid_173 : decode cX11_readSaid 173 = .ok (.putfield 420, 3) := by decide +kernel
theorem dX11_readSaid_176 : decode cX11_readSaid 176 = .ok (.iload_n 3, 1) := by decide +kernel
theorem dX11_readSaid_177 : decode cX11_readSaid 177 = .ok (.ireturn, 1) := by decide +kernel
theorem dX11_readSaid_96 : decode cX11_readSaid 96 = .ok (.iload_n 1, 1) := by decide +kernel
theorem dX11_readSaid_97 : decode cX11_readSaid 97 = .ok (.ifCond .eq 11, 3) := by decide +kernel
theorem dX11_readSaid_108 : decode cX11_readSaid 108 = .ok (.iload_n 2, 1) := by decide +kernel
theorem dX11_readSaid_109 : decode cX11_readSaid 109 = .ok (.bipush 17, 2) := by decide +kernel
theorem dX11_readSaid_111 : decode cX11_readSaid 111 = .ok (.if_icmp .ne 11, 3) := by decide +kernel
theorem dX11_readSaid_122 : decode cX11_readSaid 122 = .ok (.iload_n 2, 1) := by decide +kernel
theorem dX11_readSaid_123 : decode cX11_readSaid 123 = .ok (.bipush 23, 2) := by decide +kernel
theorem dX11_readSaid_125 : decode cX11_readSaid 125 = .ok (.if_icmp .ge 21, 3) := by decide +kernel
theorem dX11_readSaid_146 : decode cX11_readSaid 146 = .ok (.iload_n 2, 1) := by decide +kernel
theorem dX11_readSaid_147 : decode cX11_readSaid 147 = .ok (.bipush 25, 2) := by decide +kernel
theorem dX11_readSaid_149 : decode cX11_readSaid 149 = .ok (.if_icmp .ge 11, 3) := by decide +kernel
theorem dX11_readSaid_160 : decode cX11_readSaid 160 = .ok (.aload_n 0, 1) := by decide +kernel
theorem dX11_readSaid_161 : decode cX11_readSaid 161 = .ok (.iload_n 2, 1) := by decide +kernel
theorem dX11_readSaid_162 : decode cX11_readSaid 162 = .ok (.invokevirtual 432, 3) := by decide +kernel
theorem t2047 : Cond.methodLink RX11 432 yX11_readCompare ∈ GW := gw_mem 2161 (by decide +kernel) (by decide +kernel)
theorem t2049 : Cond.instanceMethod yX11_readCompare ∈ GW := gw_mem 2163 (by decide +kernel) (by decide +kernel)
theorem s112 : Cond.selects RX11 yX11_readCompare yX11_readCompare ∈ GW := gw_mem 112 (by decide +kernel) (by decide +kernel)
theorem cw_X11_432 {R : Room} {s : State} {args : Array Value} {rm : Room} {mc ms : Nat} (hts : ∀ w ∈ GW, w.before args s = true) (hrc : rm.cells = mc) (hrs : rm.slots = ms) (hR : rm.frames + 1 ≤ R.frames ∧ 8 + (3 + 11) + rm.locals ≤ R.locals) : CallW R s args RX11 RX11 432 yX11_readCompare cX11_readCompare 3 (some .boolean) (wl yX11_readCompare cX11_readCompare 3 (some .boolean)) rm mc ms 1 := cwV 1 hts (gi_V t2047 t2049 s112 t18 t2050) rfl hrc hrs (by decide +kernel) hR
theorem dX11_readSaid_165 : decode cX11_readSaid 165 = .ok (.istore_n 3, 1) := by decide +kernel
theorem dX11_readSaid_152 : decode cX11_readSaid 152 = .ok (.aload_n 0, 1) := by decide +kernel
theorem dX11_readSaid_153 : decode cX11_readSaid 153 = .ok (.iload_n 2, 1) := by decide +kernel
theorem dX11_readSaid_154 : decode cX11_readSaid 154 = .ok (.invokevirtual 429, 3) := by decide +kernel
theorem t2043 : Cond.methodLink RX11 429 yX11_readOf ∈ GW := gw_mem 2157 (by decide +kernel) (by decide +kernel)
theorem t2045 : Cond.instanceMethod yX11_readOf ∈ GW := gw_mem 2159 (by decide +kernel) (by decide +kernel)
theorem s111 : Cond.selects RX11 yX11_readOf yX11_readOf ∈ GW := gw_mem 111 (by decide +kernel) (by decide +kernel)
theorem cw_X11_429 {R : Room} {s : State} {args : Array Value} {rm : Room} {mc ms : Nat} (hts : ∀ w ∈ GW, w.before args s = true) (hrc : rm.cells = mc) (hrs : rm.slots = ms) (hR : rm.frames + 1 ≤ R.frames ∧ 8 + (2 + 11) + rm.locals ≤ R.locals) : CallW R s args RX11 RX11 429 yX11_readOf cX11_readOf 2 (some .boolean) (wl yX11_readOf cX11_readOf 2 (some .boolean)) rm mc ms 1 := cwV 1 hts (gi_V t2043 t2045 s111 t18 t2046) rfl hrc hrs (by decide +kernel) hR
theorem dX11_readSaid_157 : decode cX11_readSaid 157 = .ok (.goto 8, 3) := by decide +kernel
theorem dX11_readSaid_128 : decode cX11_readSaid 128 = .ok (.aload_n 0, 1) := by decide +kernel
theorem dX11_readSaid_129 : decode cX11_readSaid 129 = .ok (.aload_n 0, 1) := by decide +kernel
theorem dX11_readSaid_130 : decode cX11_readSaid 130 = .ok (.bipush 50, 2) := by decide +kernel
theorem dX11_readSaid_132 : decode cX11_readSaid 132 = .ok (.iload_n 2, 1) := by decide +kernel
theorem dX11_readSaid_133 : decode cX11_readSaid 133 = .ok (.iadd, 1) := by decide +kernel
theorem dX11_readSaid_134 : decode cX11_readSaid 134 = .ok (.iconst 0, 1) := by decide +kernel
theorem dX11_readSaid_135 : decode cX11_readSaid 135 = .ok (.iconst 0, 1) := by decide +kernel
theorem dX11_readSaid_136 : decode cX11_readSaid 136 = .ok (.iconst 0, 1) := by decide +kernel
theorem dX11_readSaid_137 : decode cX11_readSaid 137 = .ok (.invokevirtual 411, 3) := by decide +kernel
theorem dX11_readSaid_140 : decode cX11_readSaid 140 = .ok (.putfield 408, 3) := by decide +kernel
theorem dX11_readSaid_143 : decode cX11_readSaid 143 = .ok (.goto 23, 3) := by decide +kernel
theorem dX11_readSaid_114 : decode cX11_readSaid 114 = .ok (.aload_n 0, 1) := by decide +kernel
theorem dX11_readSaid_115 : decode cX11_readSaid 115 = .ok (.invokevirtual 426, 3) := by decide +kernel
theorem t2035 : Cond.methodLink RX11 426 yX11_readNot ∈ GW := gw_mem 2149 (by decide +kernel) (by decide +kernel)
theorem t2037 : Cond.instanceMethod yX11_readNot ∈ GW := gw_mem 2151 (by decide +kernel) (by decide +kernel)
theorem s109 : Cond.selects RX11 yX11_readNot yX11_readNot ∈ GW := gw_mem 109 (by decide +kernel) (by decide +kernel)
theorem cw_X11_426 {R : Room} {s : State} {args : Array Value} {rm : Room} {mc ms : Nat} (hts : ∀ w ∈ GW, w.before args s = true) (hrc : rm.cells = mc) (hrs : rm.slots = ms) (hR : rm.frames + 1 ≤ R.frames ∧ 8 + (1 + 11) + rm.locals ≤ R.locals) : CallW R s args RX11 RX11 426 yX11_readNot cX11_readNot 1 (some .boolean) (wl yX11_readNot cX11_readNot 1 (some .boolean)) rm mc ms 0 := cwV 0 hts (gi_V t2035 t2037 s109 t18 t2038) rfl hrc hrs (by decide +kernel) hR
theorem dX11_readSaid_118 : decode cX11_readSaid 118 = .ok (.istore_n 3, 1) := by decide +kernel
theorem dX11_readSaid_119 : decode cX11_readSaid 119 = .ok (.goto 47, 3) := by decide +kernel
theorem dX11_readSaid_100 : decode cX11_readSaid 100 = .ok (.aload_n 0, 1) := by decide +kernel
theorem dX11_readSaid_101 : decode cX11_readSaid 101 = .ok (.invokevirtual 423, 3) := by decide +kernel
theorem t2031 : Cond.methodLink RX11 423 yX11_readBracket ∈ GW := gw_mem 2145 (by decide +kernel) (by decide +kernel)
theorem t2033 : Cond.instanceMethod yX11_readBracket ∈ GW := gw_mem 2147 (by decide +kernel) (by decide +kernel)
theorem s108 : Cond.selects RX11 yX11_readBracket yX11_readBracket ∈ GW := gw_mem 108 (by decide +kernel) (by decide +kernel)
theorem cw_X11_423 {R : Room} {s : State} {args : Array Value} {rm : Room} {mc ms : Nat} (hts : ∀ w ∈ GW, w.before args s = true) (hrc : rm.cells = mc) (hrs : rm.slots = ms) (hR : rm.frames + 1 ≤ R.frames ∧ 8 + (1 + 11) + rm.locals ≤ R.locals) : CallW R s args RX11 RX11 423 yX11_readBracket cX11_readBracket 1 (some .boolean) (wl yX11_readBracket cX11_readBracket 1 (some .boolean)) rm mc ms 0 := cwV 0 hts (gi_V t2031 t2033 s108 t18 t2034) rfl hrc hrs (by decide +kernel) hR
theorem dX11_readSaid_104 : decode cX11_readSaid 104 = .ok (.istore_n 3, 1) := by decide +kernel
theorem dX11_readSaid_105 : decode cX11_readSaid 105 = .ok (.goto 61, 3) := by decide +kernel
