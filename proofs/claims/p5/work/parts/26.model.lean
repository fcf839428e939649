abbrev cX11_snap : ByteArray := prog_13_method_63_code
def yX11_snap : MethodName := ⟨RX11, "snap", "()V"⟩
theorem t1802 : Cond.code yX11_snap cX11_snap 2 none ∈ GW := gw_mem 1916 (by decide +kernel) (by decide +kernel)
abbrev O_m_snap (cy : Nat → ClassId) (vnh : Nat → Int32) (vo : Nat) (voth : Int32) (vmt : Nat) (votp : Int32) (vosz : Int32) (volm : Int32) (voto : Int32) (vofr : Int32) (vokd : Int32) (vonu : Int32) (vosg : Int32) (vofa : Int32) (vopl : Int32) (vowd : Int64) (votd : Int32) (vmn : Nat) (vmr : Nat) (vmk : Nat) (vms : Nat) (vma : Nat) (vmm : Nat) (vmrn : Nat) (vmkn : Nat) (vmik : Nat) (vmon : Nat) (vosm : Int32) (vohp : Int32) (vmw : Nat) (vmf : Nat) (vmb : Nat) (vomb : Int32) (vmd : Nat) (vmc : Nat) (vocm : Int32) (voct : Int32) (vocy : Int32) (vmx : Nat) (votx : Int32) (vose : Int32) (vml : Nat) (vmwr : Nat) (voln : Int32) (vohw : Int32) (vmno : Nat) (vond : Int32) (voon : Int32) (vowi : Int32) (votop : Int32) (vmnf : Nat → Int32) (vmsf : Nat → Int32) (u : (Nat → Int32) × Int32) : va_W := [(vo, .inr (12, [.int voth, .ref vmt, .int votp, .int vosz, .int volm, .int voto, .int vofr, .int vokd, .int vonu, .int vosg, .int vofa, .int vopl, .long vowd, .int votd, .ref vmn, .ref vmr, .ref vmk, .ref vms, .ref vma, .ref vmm, .ref vmrn, .ref vmkn, .ref vmik, .ref vmon, .int u.2, .int vohp, .ref vmw, .ref vmf, .ref vmb, .int vomb, .ref vmd, .ref vmc, .int vocm, .int voct, .int vocy, .ref vmx, .int votx, .int vose, .ref vml, .ref vmwr, .int voln, .int vohw, .ref vmno, .int vond, .int voon, .int vowi, .int votop])), (vmn, .inl (cy 0, 575, .inl vmnf)), (vms, .inl (cy 0, 1408, .inl u.1))]
theorem dX11_snap_50 : decode cX11_snap 50 = .ok (.iconst 0, 1) := by decide +kernel
theorem dX11_snap_51 : decode cX11_snap 51 = .ok (.istore_n 1, 1) := by decide +kernel
theorem dX11_snap_52 : decode cX11_snap 52 = .ok (.iload_n 1, 1) := by decide +kernel
theorem dX11_snap_53 : decode cX11_snap 53 = .ok (.sipush 176, 3) := by decide +kernel
theorem dX11_snap_56 : decode cX11_snap 56 = .ok (.if_icmp .ge 34, 3) := by decide +kernel
theorem dX11_snap_90 : decode cX11_snap 90 = .ok (.aload_n 0, 1) := by decide +kernel
theorem dX11_snap_91 : decode cX11_snap 91 = .ok (.dup, 1) := by decide +kernel
theorem dX11_snap_92 : decode cX11_snap 92 = .ok (.getfield 225, 3) := by decide +kernel
theorem gf_X11_225 {p : Program} {l : Launch} {e : Env} {R : Room} {s : State} {m : MethodId} {args : Array Value} {below : List Frame} {meth : Method} {c : Code} {H : Heap} {locs : List Loc} {cells slots : Nat} {Q : State → Prop} {cc : ByteArray} {pc : Nat} {ls : Array Slot} {rest : List Value} {D : va_G} {a : Nat} {tys : List (ClassId × FieldType)} {ws : va_W} (hx : p.tables.exec = Jvm.exec) (hb : c.code = cc) (hts : ∀ w ∈ GW, w.before args s = true) (hown : s.vm.findClass RX11 = some m.cls) (hK : va_K D vwCl tys s) (hP : va_P D vwCl ws H) (q0 : Nat) {fs : List Value} (he : ws[q0]? = some (a, .inr (12, fs))) {v : Value} (hv : fs[24]? = some v) (hdg : decode cc pc = .ok (.getfield 225, 3)) (kk : W p l e R s m args below meth c H locs cells slots Q (F0 m (pc + 3) ls (v :: rest))) : W p l e R s m args below meth c H locs cells slots Q (F0 m pc ls (.ref a :: rest)) := va_get (C := RX11) (T := TX11) (N := 47) (ci := 12) hx hb hts inX11 hown hK hP q0 he rfl 24 (by decide) (hts _ t1466) (fun _ h => h) hv hdg kk
theorem dX11_snap_95 : decode cX11_snap 95 = .ok (.iconst 1, 1) := by decide +kernel
theorem dX11_snap_96 : decode cX11_snap 96 = .ok (.iadd, 1) := by decide +kernel
theorem dX11_snap_97 : decode cX11_snap 97 = .ok (.putfield 225, 3) := by decide +kernel
theorem dX11_snap_100 : decode cX11_snap 100 = .ok (.return_, 1) := by decide +kernel
theorem dX11_snap_59 : decode cX11_snap 59 = .ok (.aload_n 0, 1) := by decide +kernel
theorem dX11_snap_60 : decode cX11_snap 60 = .ok (.getfield 107, 3) := by decide +kernel
theorem t1459 : Cond.fieldLink RX11 107 "LikenessPoundModel" "snaps" "[I" ∈ GW := gw_mem 1573 (by decide +kernel) (by decide +kernel)
theorem gf_X11_107 {p : Program} {l : Launch} {e : Env} {R : Room} {s : State} {m : MethodId} {args : Array Value} {below : List Frame} {meth : Method} {c : Code} {H : Heap} {locs : List Loc} {cells slots : Nat} {Q : State → Prop} {cc : ByteArray} {pc : Nat} {ls : Array Slot} {rest : List Value} {D : va_G} {a : Nat} {tys : List (ClassId × FieldType)} {ws : va_W} (hx : p.tables.exec = Jvm.exec) (hb : c.code = cc) (hts : ∀ w ∈ GW, w.before args s = true) (hown : s.vm.findClass RX11 = some m.cls) (hK : va_K D vwCl tys s) (hP : va_P D vwCl ws H) (q0 : Nat) {fs : List Value} (he : ws[q0]? = some (a, .inr (12, fs))) {v : Value} (hv : fs[17]? = some v) (hdg : decode cc pc = .ok (.getfield 107, 3)) (kk : W p l e R s m args below meth c H locs cells slots Q (F0 m (pc + 3) ls (v :: rest))) : W p l e R s m args below meth c H locs cells slots Q (F0 m pc ls (.ref a :: rest)) := va_get (C := RX11) (T := TX11) (N := 47) (ci := 12) hx hb hts inX11 hown hK hP q0 he rfl 17 (by decide) (hts _ t1459) (fun _ h => h) hv hdg kk
theorem dX11_snap_63 : decode cX11_snap 63 = .ok (.sipush 176, 3) := by decide +kernel
theorem dX11_snap_66 : decode cX11_snap 66 = .ok (.aload_n 0, 1) := by decide +kernel
theorem dX11_snap_67 : decode cX11_snap 67 = .ok (.getfield 225, 3) := by decide +kernel
theorem dX11_snap_70 : decode cX11_snap 70 = .ok (.imul, 1) := by decide +kernel
theorem dX11_snap_71 : decode cX11_snap 71 = .ok (.iload_n 1, 1) := by decide +kernel
theorem dX11_snap_72 : decode cX11_snap 72 = .ok (.iadd, 1) := by decide +kernel
theorem dX11_snap_73 : decode cX11_snap 73 = .ok (.aload_n 0, 1) := by decide +kernel
theorem dX11_snap_74 : decode cX11_snap 74 = .ok (.getfield 98, 3) := by decide +kernel
theorem dX11_snap_77 : decode cX11_snap 77 = .ok (.sipush 157, 3) := by decide +kernel
theorem dX11_snap_80 : decode cX11_snap 80 = .ok (.iload_n 1, 1) := by decide +kernel
theorem dX11_snap_81 : decode cX11_snap 81 = .ok (.iadd, 1) := by decide +kernel
theorem dX11_snap_82 : decode cX11_snap 82 = .ok (.iaload, 1) := by decide +kernel
theorem dX11_snap_83 : decode cX11_snap 83 = .ok (.iastore, 1) := by decide +kernel
theorem dX11_snap_84 : decode cX11_snap 84 = .ok (.iinc 1 1, 3) := by decide +kernel
theorem dX11_snap_87 : decode cX11_snap 87 = .ok (.goto (-35), 3) := by decide +kernel
theorem dX11_snap_0 : decode cX11_snap 0 = .ok (.aload_n 0, 1) := by decide +kernel
theorem dX11_snap_1 : decode cX11_snap 1 = .ok (.getfield 225, 3) := by decide +kernel
theorem dX11_snap_4 : decode cX11_snap 4 = .ok (.bipush 8, 2) := by decide +kernel
theorem dX11_snap_6 : decode cX11_snap 6 = .ok (.if_icmp .ne 44, 3) := by decide +kernel
theorem dX11_snap_9 : decode cX11_snap 9 = .ok (.iconst 0, 1) := by decide +kernel
theorem dX11_snap_10 : decode cX11_snap 10 = .ok (.istore_n 1, 1) := by decide +kernel
theorem dX11_snap_11 : decode cX11_snap 11 = .ok (.iload_n 1, 1) := by decide +kernel
theorem dX11_snap_12 : decode cX11_snap 12 = .ok (.sipush 1232, 3) := by decide +kernel
theorem dX11_snap_15 : decode cX11_snap 15 = .ok (.if_icmp .ge 25, 3) := by decide +kernel
theorem dX11_snap_40 : decode cX11_snap 40 = .ok (.aload_n 0, 1) := by decide +kernel
theorem dX11_snap_41 : decode cX11_snap 41 = .ok (.dup, 1) := by decide +kernel
theorem dX11_snap_42 : decode cX11_snap 42 = .ok (.getfield 225, 3) := by decide +kernel
theorem dX11_snap_45 : decode cX11_snap 45 = .ok (.iconst 1, 1) := by decide +kernel
theorem dX11_snap_46 : decode cX11_snap 46 = .ok (.isub, 1) := by decide +kernel
theorem dX11_snap_47 : decode cX11_snap 47 = .ok (.putfield 225, 3) := by decide +kernel
theorem dX11_snap_18 : decode cX11_snap 18 = .ok (.aload_n 0, 1) := by decide +kernel
theorem dX11_snap_19 : decode cX11_snap 19 = .ok (.getfield 107, 3) := by decide +kernel
theorem dX11_snap_22 : decode cX11_snap 22 = .ok (.iload_n 1, 1) := by decide +kernel
theorem dX11_snap_23 : decode cX11_snap 23 = .ok (.aload_n 0, 1) := by decide +kernel
theorem dX11_snap_24 : decode cX11_snap 24 = .ok (.getfield 107, 3) := by decide +kernel
theorem dX11_snap_27 : decode cX11_snap 27 = .ok (.iload_n 1, 1) := by decide +kernel
theorem dX11_snap_28 : decode cX11_snap 28 = .ok (.sipush 176, 3) := by decide +kernel
theorem dX11_snap_31 : decode cX11_snap 31 = .ok (.iadd, 1) := by decide +kernel
theorem dX11_snap_32 : decode cX11_snap 32 = .ok (.iaload, 1) := by decide +kernel
theorem dX11_snap_33 : decode cX11_snap 33 = .ok (.iastore, 1) := by decide +kernel
theorem dX11_snap_34 : decode cX11_snap 34 = .ok (.iinc 1 1, 3) := by decide +kernel
theorem dX11_snap_37 : decode cX11_snap 37 = .ok (.goto (-26), 3) := by decide +kernel
set_option maxHeartbeats 4000000 in
set_option maxRecDepth 100000 in
theorem m_snap (l : Launch) (dC : Nat → ClassId) (dI : Nat → Nat → Nat) (cy : Nat → ClassId) (sz : Nat) (vnh : Nat → Int32) (vo : Nat) (voth : Int32) (vmt : Nat) (votp : Int32) (vosz : Int32) (volm : Int32) (voto : Int32) (vofr : Int32) (vokd : Int32) (vonu : Int32) (vosg : Int32) (vofa : Int32) (vopl : Int32) (vowd : Int64) (votd : Int32) (vmn : Nat) (vmr : Nat) (vmk : Nat) (vms : Nat) (vma : Nat) (vmm : Nat) (vmrn : Nat) (vmkn : Nat) (vmik : Nat) (vmon : Nat) (vosm : Int32) (vohp : Int32) (vmw : Nat) (vmf : Nat) (vmb : Nat) (vomb : Int32) (vmd : Nat) (vmc : Nat) (vocm : Int32) (voct : Int32) (vocy : Int32) (vmx : Nat) (votx : Int32) (vose : Int32) (vml : Nat) (vmwr : Nat) (voln : Int32) (vohw : Int32) (vmno : Nat) (vond : Int32) (voon : Int32) (vowi : Int32) (votop : Int32) (vmnf : Nat → Int32) (vmsf : Nat → Int32) (r_vosm : 0 ≤ (vosm : Int32).toInt ∧ (vosm : Int32).toInt ≤ 8) (p_vmnf : NW vnh vmnf) : Met l yX11_snap (wl yX11_snap cX11_snap 2 none) ({ frames := 0, cells := 0, slots := 0, locals := 0 }) (Pw (dC, dI) vwCl cy [(vo, .inr (12, [.int voth, .ref vmt, .int votp, .int vosz, .int volm, .int voto, .int vofr, .int vokd, .int vonu, .int vosg, .int vofa, .int vopl, .long vowd, .int votd, .ref vmn, .ref vmr, .ref vmk, .ref vms, .ref vma, .ref vmm, .ref vmrn, .ref vmkn, .ref vmik, .ref vmon, .int vosm, .int vohp, .ref vmw, .ref vmf, .ref vmb, .int vomb, .ref vmd, .ref vmc, .int vocm, .int voct, .int vocy, .ref vmx, .int votx, .int vose, .ref vml, .ref vmwr, .int voln, .int vohw, .ref vmno, .int vond, .int voon, .int vowi, .int votop])), (vmn, .inl (cy 0, 575, .inl vmnf)), (vms, .inl (cy 0, 1408, .inl vmsf))] sz [.ref vo] nE) (Qv (dC, dI) vwCl (fun (u : (Nat → Int32) × Int32) => (0 ≤ (u.2 : Int32).toInt ∧ (u.2 : Int32).toInt ≤ 8)) (O_m_snap cy vnh vo voth vmt votp vosz volm voto vofr vokd vonu vosg vofa vopl vowd votd vmn vmr vmk vms vma vmm vmrn vmkn vmik vmon vosm vohp vmw vmf vmb vomb vmd vmc vocm voct vocy vmx votx vose vml vmwr voln vohw vmno vond voon vowi votop vmnf vmsf) (va_A [(vo, .inr (12, [.int voth, .ref vmt, .int votp, .int vosz, .int volm, .int voto, .int vofr, .int vokd, .int vonu, .int vosg, .int vofa, .int vopl, .long vowd, .int votd, .ref vmn, .ref vmr, .ref vmk, .ref vms, .ref vma, .ref vmm, .ref vmrn, .ref vmkn, .ref vmik, .ref vmon, .int vosm, .int vohp, .ref vmw, .ref vmf, .ref vmb, .int vomb, .ref vmd, .ref vmc, .int vocm, .int voct, .int vocy, .ref vmx, .int votx, .int vose, .ref vml, .ref vmwr, .int voln, .int vohw, .ref vmno, .int vond, .int voon, .int vowi, .int votop])), (vmn, .inl (cy 0, 575, .inl vmnf)), (vms, .inl (cy 0, 1408, .inl vmsf))] sz)) 0 0 (va_A [(vo, .inr (12, [.int voth, .ref vmt, .int votp, .int vosz, .int volm, .int voto, .int vofr, .int vokd, .int vonu, .int vosg, .int vofa, .int vopl, .long vowd, .int votd, .ref vmn, .ref vmr, .ref vmk, .ref vms, .ref vma, .ref vmm, .ref vmrn, .ref vmkn, .ref vmik, .ref vmon, .int vosm, .int vohp, .ref vmw, .ref vmf, .ref vmb, .int vomb, .ref vmd, .ref vmc, .int vocm, .int voct, .int vocy, .ref vmx, .int votx, .int vose, .ref vml, .ref vmwr, .int voln, .int vohw, .ref vmno, .int vond, .int voon, .int vowi, .int votop])), (vmn, .inl (cy 0, 575, .inl vmnf)), (vms, .inl (cy 0, 1408, .inl vmsf))] sz) := by
  refine mw (Qc := Qv (dC, dI) vwCl (fun (u : (Nat → Int32) × Int32) => (0 ≤ (u.2 : Int32).toInt ∧ (u.2 : Int32).toInt ≤ 8)) (O_m_snap cy vnh vo voth vmt votp vosz volm voto vofr vokd vonu vosg vofa vopl vowd votd vmn vmr vmk vms vma vmm vmrn vmkn vmik vmon vosm vohp vmw vmf vmb vomb vmd vmc vocm voct vocy vmx votx vose vml vmwr voln vohw vmno vond voon vowi votop vmnf vmsf)) RX11 rfl (by decide +kernel) (Nat.le_of_ble_eq_true rfl) ?_
  intro p e s m below meth c A hx hb hr hlocks av9 hav hts hown hnm hml hK hP hD hA hS hE hAe Q9 hQ9 ls hl
  have hl : lv_has ls 2 [(0, .ref vo)] := hl
  have join1 : ∀ (x_2 : Int32) (g_3 : Nat → Int32), (0 ≤ x_2.toInt ∧ x_2.toInt ≤ 7) → ∀ (H : Heap) (locs : List Loc), va_P (dC, dI) vwCl [(vo, .inr (12, [.int voth, .ref vmt, .int votp, .int vosz, .int volm, .int voto, .int vofr, .int vokd, .int vonu, .int vosg, .int vofa, .int vopl, .long vowd, .int votd, .ref vmn, .ref vmr, .ref vmk, .ref vms, .ref vma, .ref vmm, .ref vmrn, .ref vmkn, .ref vmik, .ref vmon, .int x_2, .int vohp, .ref vmw, .ref vmf, .ref vmb, .int vomb, .ref vmd, .ref vmc, .int vocm, .int voct, .int vocy, .ref vmx, .int votx, .int vose, .ref vml, .ref vmwr, .int voln, .int vohw, .ref vmno, .int vond, .int voon, .int vowi, .int votop])), (vmn, .inl (cy 0, 575, .inl vmnf)), (vms, .inl (cy 0, 1408, .inl g_3))] H → va_D A [(vo, .inr (12, [.int voth, .ref vmt, .int votp, .int vosz, .int volm, .int voto, .int vofr, .int vokd, .int vonu, .int vosg, .int vofa, .int vopl, .long vowd, .int votd, .ref vmn, .ref vmr, .ref vmk, .ref vms, .ref vma, .ref vmm, .ref vmrn, .ref vmkn, .ref vmik, .ref vmon, .int x_2, .int vohp, .ref vmw, .ref vmf, .ref vmb, .int vomb, .ref vmd, .ref vmc, .int vocm, .int voct, .int vocy, .ref vmx, .int votx, .int vose, .ref vml, .ref vmwr, .int voln, .int vohw, .ref vmno, .int vond, .int voon, .int vowi, .int votop])), (vmn, .inl (cy 0, 575, .inl vmnf)), (vms, .inl (cy 0, 1408, .inl g_3))] → va_S A s.heap H locs → ∀ ls : Array Slot, lv_has ls 2 [(0, .ref vo)] → W p l e ({ frames := 0, cells := 0, slots := 0, locals := 0 }) s m av9 below meth c H locs 0 0 Q9 (F0 m 50 ls []) := by
    intro x_2 g_3 bx_2 H locs hP hD hS ls hl
    refine lv_iconst (v := 0) hx hb dX11_snap_50 (by decide) ?_
    refine lv_istore_n (lv' := [(1, .int 0), (0, .ref vo)]) hx hb dX11_snap_51 rfl hl (by decide) rfl (fun ls hl => ?_)
    have loop4 : ∀ (n4 : Nat) (x_5 : Int32) (g_6 : Nat → Int32), (0 ≤ x_5.toInt ∧ x_5.toInt ≤ 176) → 176 - x_5.toInt < (n4 : Int) → ∀ (H : Heap) (locs : List Loc), va_P (dC, dI) vwCl [(vo, .inr (12, [.int voth, .ref vmt, .int votp, .int vosz, .int volm, .int voto, .int vofr, .int vokd, .int vonu, .int vosg, .int vofa, .int vopl, .long vowd, .int votd, .ref vmn, .ref vmr, .ref vmk, .ref vms, .ref vma, .ref vmm, .ref vmrn, .ref vmkn, .ref vmik, .ref vmon, .int x_2, .int vohp, .ref vmw, .ref vmf, .ref vmb, .int vomb, .ref vmd, .ref vmc, .int vocm, .int voct, .int vocy, .ref vmx, .int votx, .int vose, .ref vml, .ref vmwr, .int voln, .int vohw, .ref vmno, .int vond, .int voon, .int vowi, .int votop])), (vmn, .inl (cy 0, 575, .inl vmnf)), (vms, .inl (cy 0, 1408, .inl g_6))] H → va_D A [(vo, .inr (12, [.int voth, .ref vmt, .int votp, .int vosz, .int volm, .int voto, .int vofr, .int vokd, .int vonu, .int vosg, .int vofa, .int vopl, .long vowd, .int votd, .ref vmn, .ref vmr, .ref vmk, .ref vms, .ref vma, .ref vmm, .ref vmrn, .ref vmkn, .ref vmik, .ref vmon, .int x_2, .int vohp, .ref vmw, .ref vmf, .ref vmb, .int vomb, .ref vmd, .ref vmc, .int vocm, .int voct, .int vocy, .ref vmx, .int votx, .int vose, .ref vml, .ref vmwr, .int voln, .int vohw, .ref vmno, .int vond, .int voon, .int vowi, .int votop])), (vmn, .inl (cy 0, 575, .inl vmnf)), (vms, .inl (cy 0, 1408, .inl g_6))] → va_S A s.heap H locs → ∀ ls : Array Slot, lv_has ls 2 [(1, .int x_5), (0, .ref vo)] → W p l e ({ frames := 0, cells := 0, slots := 0, locals := 0 }) s m av9 below meth c H locs 0 0 Q9 (F0 m 52 ls []) := by
      intro n4
      induction n4 with
      | zero =>
        intro x_5 g_6 bx_5 hn4 H locs hP hD hS ls hl
        exfalso; omega
      | succ n4 ih4 =>
        intro x_5 g_6 bx_5 hn4 H locs hP hD hS ls hl
        refine lv_iload_n hx hb dX11_snap_52 rfl (lv_at hl 0 rfl) ?_
        refine lv_sipush (v := 176) hx hb dX11_snap_53 (by decide) ?_
        have k_176 : (176 : Int32).toInt = 176 := by decide
        refine lv_icmp_ge (tgt := 90) hx hb dX11_snap_56 (by decide) (fun c_7 => ?_) (fun c_7 => ?_)
        · skip
          have c_7 : (176 : Int32).toInt ≤ x_5.toInt := i_le.mp c_7
          refine lv_aload_n hx hb dX11_snap_90 rfl (lv_at hl 1 rfl) ?_
          refine lv_dup hx hb dX11_snap_91 rfl ?_
          refine gf_X11_225 hx hb hts hown hK hP 0 rfl rfl dX11_snap_92 ?_
          refine lv_iconst (v := 1) hx hb dX11_snap_95 (by decide) ?_
          refine lv_iadd hx hb dX11_snap_96 ?_
          refine lv_topi (fun z_8 ez_8 => ?_)
          have k_1 : (1 : Int32).toInt = 1 := by decide
          have bz_8 : z_8.toInt = x_2.toInt + (1 : Int32).toInt := i_add ez_8 (by omega) (by omega)
          refine pf_X11_225 hx hb hts hown hK hP hD hS 0 rfl rfl rfl (Nat.le_of_ble_eq_true rfl) dX11_snap_97 (fun H locs hP hD hS => ?_)
          have hP : va_P (dC, dI) vwCl [(vo, .inr (12, [.int voth, .ref vmt, .int votp, .int vosz, .int volm, .int voto, .int vofr, .int vokd, .int vonu, .int vosg, .int vofa, .int vopl, .long vowd, .int votd, .ref vmn, .ref vmr, .ref vmk, .ref vms, .ref vma, .ref vmm, .ref vmrn, .ref vmkn, .ref vmik, .ref vmon, .int z_8, .int vohp, .ref vmw, .ref vmf, .ref vmb, .int vomb, .ref vmd, .ref vmc, .int vocm, .int voct, .int vocy, .ref vmx, .int votx, .int vose, .ref vml, .ref vmwr, .int voln, .int vohw, .ref vmno, .int vond, .int voon, .int vowi, .int votop])), (vmn, .inl (cy 0, 575, .inl vmnf)), (vms, .inl (cy 0, 1408, .inl g_6))] H := hP
          have hD : va_D A [(vo, .inr (12, [.int voth, .ref vmt, .int votp, .int vosz, .int volm, .int voto, .int vofr, .int vokd, .int vonu, .int vosg, .int vofa, .int vopl, .long vowd, .int votd, .ref vmn, .ref vmr, .ref vmk, .ref vms, .ref vma, .ref vmm, .ref vmrn, .ref vmkn, .ref vmik, .ref vmon, .int z_8, .int vohp, .ref vmw, .ref vmf, .ref vmb, .int vomb, .ref vmd, .ref vmc, .int vocm, .int voct, .int vocy, .ref vmx, .int votx, .int vose, .ref vml, .ref vmwr, .int voln, .int vohw, .ref vmno, .int vond, .int voon, .int vowi, .int votop])), (vmn, .inl (cy 0, 575, .inl vmnf)), (vms, .inl (cy 0, 1408, .inl g_6))] := hD
          rw [hQ9]
          exact re_v (g_6, z_8) hx hb hr hlocks (show 0 ≤ (z_8 : Int32).toInt ∧ (z_8 : Int32).toInt ≤ 8 from ⟨by omega, by omega⟩) (hP.sub [0, 1, 2] rfl) (hD.sub [0, 1, 2] rfl rfl) hS dX11_snap_100
        · skip
          have c_7 : ¬ ((176 : Int32).toInt ≤ x_5.toInt) := fun h9 => c_7 (i_le.mpr h9)
          refine lv_aload_n hx hb dX11_snap_59 rfl (lv_at hl 1 rfl) ?_
          refine gf_X11_107 hx hb hts hown hK hP 0 rfl rfl dX11_snap_60 ?_
          refine lv_sipush (v := 176) hx hb dX11_snap_63 (by decide) ?_
          refine lv_aload_n hx hb dX11_snap_66 rfl (lv_at hl 1 rfl) ?_
          refine gf_X11_225 hx hb hts hown hK hP 0 rfl rfl dX11_snap_67 ?_
          refine lv_imul hx hb dX11_snap_70 ?_
          refine lv_topi (fun z_9 ez_9 => ?_)
          have bz_9 : z_9.toInt = x_2.toInt * 176 := i_cmul k_176 ez_9 (by omega) (by omega)
          refine lv_iload_n hx hb dX11_snap_71 rfl (lv_at hl 0 rfl) ?_
          refine lv_iadd hx hb dX11_snap_72 ?_
          refine lv_topi (fun z_10 ez_10 => ?_)
          have bz_10 : z_10.toInt = z_9.toInt + x_5.toInt := i_add ez_10 (by omega) (by omega)
          refine lv_aload_n hx hb dX11_snap_73 rfl (lv_at hl 1 rfl) ?_
          refine gf_X11_98 hx hb hts hown hK hP 0 rfl rfl dX11_snap_74 ?_
          refine lv_sipush (v := 157) hx hb dX11_snap_77 (by decide) ?_
          refine lv_iload_n hx hb dX11_snap_80 rfl (lv_at hl 0 rfl) ?_
          refine lv_iadd hx hb dX11_snap_81 ?_
          refine lv_topi (fun z_11 ez_11 => ?_)
          have k_157 : (157 : Int32).toInt = 157 := by decide
          have bz_11 : z_11.toInt = (157 : Int32).toInt + x_5.toInt := i_add ez_11 (by omega) (by omega)
          have hin_12 : vp_in z_11 575 := vp_in_iff.mpr ⟨by omega, by omega⟩
          refine va_iald hx hb hK hP 1 0 rfl rfl hin_12 dX11_snap_82 ?_
          refine lv_topi (fun z_13 ez_13 => ?_)
          have hin_14 : vp_in z_10 1408 := vp_in_iff.mpr ⟨by omega, by omega⟩
          refine va_iast hx hb hK hP hD hS 2 0 rfl rfl hin_14 dX11_snap_83 (fun H locs hP hD hS => ?_)
          obtain ⟨f_15, ef_15⟩ : ∃ z : Nat → Int32, z = upd g_6 (Int32.toNatClampNeg z_10) z_13 := ⟨_, rfl⟩
          have hP : va_P (dC, dI) vwCl [(vo, .inr (12, [.int voth, .ref vmt, .int votp, .int vosz, .int volm, .int voto, .int vofr, .int vokd, .int vonu, .int vosg, .int vofa, .int vopl, .long vowd, .int votd, .ref vmn, .ref vmr, .ref vmk, .ref vms, .ref vma, .ref vmm, .ref vmrn, .ref vmkn, .ref vmik, .ref vmon, .int x_2, .int vohp, .ref vmw, .ref vmf, .ref vmb, .int vomb, .ref vmd, .ref vmc, .int vocm, .int voct, .int vocy, .ref vmx, .int votx, .int vose, .ref vml, .ref vmwr, .int voln, .int vohw, .ref vmno, .int vond, .int voon, .int vowi, .int votop])), (vmn, .inl (cy 0, 575, .inl vmnf)), (vms, .inl (cy 0, 1408, .inl f_15))] H := by rw [ef_15]; exact hP
          have hD : va_D A [(vo, .inr (12, [.int voth, .ref vmt, .int votp, .int vosz, .int volm, .int voto, .int vofr, .int vokd, .int vonu, .int vosg, .int vofa, .int vopl, .long vowd, .int votd, .ref vmn, .ref vmr, .ref vmk, .ref vms, .ref vma, .ref vmm, .ref vmrn, .ref vmkn, .ref vmik, .ref vmon, .int x_2, .int vohp, .ref vmw, .ref vmf, .ref vmb, .int vomb, .ref vmd, .ref vmc, .int vocm, .int voct, .int vocy, .ref vmx, .int votx, .int vose, .ref vml, .ref vmwr, .int voln, .int vohw, .ref vmno, .int vond, .int voon, .int vowi, .int votop])), (vmn, .inl (cy 0, 575, .inl vmnf)), (vms, .inl (cy 0, 1408, .inl f_15))] := by rw [ef_15]; exact hD
          obtain ⟨z_16, ez_16⟩ : ∃ z : Int32, z = x_5 + 1 := ⟨_, rfl⟩
          have k_1 : (1 : Int32).toInt = 1 := by decide
          have bz_16 : z_16.toInt = x_5.toInt + (1 : Int32).toInt := i_add ez_16 (by omega) (by omega)
          refine lv_iinc (v := z_16) (lv' := [(1, .int z_16), (0, .ref vo)]) hx hb dX11_snap_84 hl (k := 0) rfl ez_16.symm (by decide) rfl (fun ls hl => ?_)
          refine lv_goto (tgt := 52) hx hb dX11_snap_87 (by decide) ?_
          exact ih4 z_16 f_15 ⟨by omega, by omega⟩ (by omega) _ _ (hP.sub [0, 1, 2] rfl) (hD.sub [0, 1, 2] rfl rfl) hS ls (lv_sub hl [0, 1] rfl)
    have k_0 : (0 : Int32).toInt = 0 := by decide
    exact loop4 ((176 - (0 : Int32).toInt).toNat + 1) 0 g_3 ⟨by omega, by omega⟩ (by omega) _ _ hP hD hS ls (lv_sub hl [0, 1] rfl)
  refine lv_aload_n hx hb dX11_snap_0 rfl (lv_at hl 0 rfl) ?_
  refine gf_X11_225 hx hb hts hown hK hP 0 rfl rfl dX11_snap_1 ?_
  refine lv_bipush (v := 8) hx hb dX11_snap_4 (by decide) ?_
  have k_8 : (8 : Int32).toInt = 8 := by decide
  refine lv_icmp_ne (tgt := 50) hx hb dX11_snap_6 (by decide) (fun c_17 => ?_) (fun c_17 => ?_)
  · skip
    have c_17 : ¬ (vosm.toInt = (8 : Int32).toInt) := fun h9 => c_17 (i_eq.mpr h9)
    exact join1 vosm vmsf ⟨by omega, by omega⟩ _ _ (hP.sub [0, 1, 2] rfl) (hD.sub [0, 1, 2] rfl rfl) hS ls (lv_sub hl [0] rfl)
  · skip
    have c_17 : vosm.toInt = (8 : Int32).toInt := i_eq.mp c_17
    refine lv_iconst (v := 0) hx hb dX11_snap_9 (by decide) ?_
    refine lv_istore_n (lv' := [(1, .int 0), (0, .ref vo)]) hx hb dX11_snap_10 rfl hl (by decide) rfl (fun ls hl => ?_)
    have loop18 : ∀ (n18 : Nat) (x_19 : Int32) (g_20 : Nat → Int32), (0 ≤ x_19.toInt ∧ x_19.toInt ≤ 1232) → 1232 - x_19.toInt < (n18 : Int) → ∀ (H : Heap) (locs : List Loc), va_P (dC, dI) vwCl [(vo, .inr (12, [.int voth, .ref vmt, .int votp, .int vosz, .int volm, .int voto, .int vofr, .int vokd, .int vonu, .int vosg, .int vofa, .int vopl, .long vowd, .int votd, .ref vmn, .ref vmr, .ref vmk, .ref vms, .ref vma, .ref vmm, .ref vmrn, .ref vmkn, .ref vmik, .ref vmon, .int vosm, .int vohp, .ref vmw, .ref vmf, .ref vmb, .int vomb, .ref vmd, .ref vmc, .int vocm, .int voct, .int vocy, .ref vmx, .int votx, .int vose, .ref vml, .ref vmwr, .int voln, .int vohw, .ref vmno, .int vond, .int voon, .int vowi, .int votop])), (vmn, .inl (cy 0, 575, .inl vmnf)), (vms, .inl (cy 0, 1408, .inl g_20))] H → va_D A [(vo, .inr (12, [.int voth, .ref vmt, .int votp, .int vosz, .int volm, .int voto, .int vofr, .int vokd, .int vonu, .int vosg, .int vofa, .int vopl, .long vowd, .int votd, .ref vmn, .ref vmr, .ref vmk, .ref vms, .ref vma, .ref vmm, .ref vmrn, .ref vmkn, .ref vmik, .ref vmon, .int vosm, .int vohp, .ref vmw, .ref vmf, .ref vmb, .int vomb, .ref vmd, .ref vmc, .int vocm, .int voct, .int vocy, .ref vmx, .int votx, .int vose, .ref vml, .ref vmwr, .int voln, .int vohw, .ref vmno, .int vond, .int voon, .int vowi, .int votop])), (vmn, .inl (cy 0, 575, .inl vmnf)), (vms, .inl (cy 0, 1408, .inl g_20))] → va_S A s.heap H locs → ∀ ls : Array Slot, lv_has ls 2 [(1, .int x_19), (0, .ref vo)] → W p l e ({ frames := 0, cells := 0, slots := 0, locals := 0 }) s m av9 below meth c H locs 0 0 Q9 (F0 m 11 ls []) := by
      intro n18
      induction n18 with
      | zero =>
        intro x_19 g_20 bx_19 hn18 H locs hP hD hS ls hl
        exfalso; omega
      | succ n18 ih18 =>
        intro x_19 g_20 bx_19 hn18 H locs hP hD hS ls hl
        refine lv_iload_n hx hb dX11_snap_11 rfl (lv_at hl 0 rfl) ?_
        refine lv_sipush (v := 1232) hx hb dX11_snap_12 (by decide) ?_
        have k_1232 : (1232 : Int32).toInt = 1232 := by decide
        refine lv_icmp_ge (tgt := 40) hx hb dX11_snap_15 (by decide) (fun c_21 => ?_) (fun c_21 => ?_)
        · skip
          have c_21 : (1232 : Int32).toInt ≤ x_19.toInt := i_le.mp c_21
          refine lv_aload_n hx hb dX11_snap_40 rfl (lv_at hl 1 rfl) ?_
          refine lv_dup hx hb dX11_snap_41 rfl ?_
          refine gf_X11_225 hx hb hts hown hK hP 0 rfl rfl dX11_snap_42 ?_
          refine lv_iconst (v := 1) hx hb dX11_snap_45 (by decide) ?_
          refine lv_isub hx hb dX11_snap_46 ?_
          refine lv_topi (fun z_22 ez_22 => ?_)
          have k_1 : (1 : Int32).toInt = 1 := by decide
          have bz_22 : z_22.toInt = vosm.toInt - (1 : Int32).toInt := i_sub ez_22 (by omega) (by omega)
          refine pf_X11_225 hx hb hts hown hK hP hD hS 0 rfl rfl rfl (Nat.le_of_ble_eq_true rfl) dX11_snap_47 (fun H locs hP hD hS => ?_)
          have hP : va_P (dC, dI) vwCl [(vo, .inr (12, [.int voth, .ref vmt, .int votp, .int vosz, .int volm, .int voto, .int vofr, .int vokd, .int vonu, .int vosg, .int vofa, .int vopl, .long vowd, .int votd, .ref vmn, .ref vmr, .ref vmk, .ref vms, .ref vma, .ref vmm, .ref vmrn, .ref vmkn, .ref vmik, .ref vmon, .int z_22, .int vohp, .ref vmw, .ref vmf, .ref vmb, .int vomb, .ref vmd, .ref vmc, .int vocm, .int voct, .int vocy, .ref vmx, .int votx, .int vose, .ref vml, .ref vmwr, .int voln, .int vohw, .ref vmno, .int vond, .int voon, .int vowi, .int votop])), (vmn, .inl (cy 0, 575, .inl vmnf)), (vms, .inl (cy 0, 1408, .inl g_20))] H := hP
          have hD : va_D A [(vo, .inr (12, [.int voth, .ref vmt, .int votp, .int vosz, .int volm, .int voto, .int vofr, .int vokd, .int vonu, .int vosg, .int vofa, .int vopl, .long vowd, .int votd, .ref vmn, .ref vmr, .ref vmk, .ref vms, .ref vma, .ref vmm, .ref vmrn, .ref vmkn, .ref vmik, .ref vmon, .int z_22, .int vohp, .ref vmw, .ref vmf, .ref vmb, .int vomb, .ref vmd, .ref vmc, .int vocm, .int voct, .int vocy, .ref vmx, .int votx, .int vose, .ref vml, .ref vmwr, .int voln, .int vohw, .ref vmno, .int vond, .int voon, .int vowi, .int votop])), (vmn, .inl (cy 0, 575, .inl vmnf)), (vms, .inl (cy 0, 1408, .inl g_20))] := hD
          exact join1 z_22 g_20 ⟨by omega, by omega⟩ _ _ (hP.sub [0, 1, 2] rfl) (hD.sub [0, 1, 2] rfl rfl) hS ls (lv_sub hl [1] rfl)
        · skip
          have c_21 : ¬ ((1232 : Int32).toInt ≤ x_19.toInt) := fun h9 => c_21 (i_le.mpr h9)
          refine lv_aload_n hx hb dX11_snap_18 rfl (lv_at hl 1 rfl) ?_
          refine gf_X11_107 hx hb hts hown hK hP 0 rfl rfl dX11_snap_19 ?_
          refine lv_iload_n hx hb dX11_snap_22 rfl (lv_at hl 0 rfl) ?_
          refine lv_aload_n hx hb dX11_snap_23 rfl (lv_at hl 1 rfl) ?_
          refine gf_X11_107 hx hb hts hown hK hP 0 rfl rfl dX11_snap_24 ?_
          refine lv_iload_n hx hb dX11_snap_27 rfl (lv_at hl 0 rfl) ?_
          refine lv_sipush (v := 176) hx hb dX11_snap_28 (by decide) ?_
          refine lv_iadd hx hb dX11_snap_31 ?_
          refine lv_topi (fun z_23 ez_23 => ?_)
          have k_176 : (176 : Int32).toInt = 176 := by decide
          have bz_23 : z_23.toInt = x_19.toInt + (176 : Int32).toInt := i_add ez_23 (by omega) (by omega)
          have hin_24 : vp_in z_23 1408 := vp_in_iff.mpr ⟨by omega, by omega⟩
          refine va_iald hx hb hK hP 2 0 rfl rfl hin_24 dX11_snap_32 ?_
          refine lv_topi (fun z_25 ez_25 => ?_)
          have hin_26 : vp_in x_19 1408 := vp_in_iff.mpr ⟨by omega, by omega⟩
          refine va_iast hx hb hK hP hD hS 2 0 rfl rfl hin_26 dX11_snap_33 (fun H locs hP hD hS => ?_)
          obtain ⟨f_27, ef_27⟩ : ∃ z : Nat → Int32, z = upd g_20 (Int32.toNatClampNeg x_19) z_25 := ⟨_, rfl⟩
          have hP : va_P (dC, dI) vwCl [(vo, .inr (12, [.int voth, .ref vmt, .int votp, .int vosz, .int volm, .int voto, .int vofr, .int vokd, .int vonu, .int vosg, .int vofa, .int vopl, .long vowd, .int votd, .ref vmn, .ref vmr, .ref vmk, .ref vms, .ref vma, .ref vmm, .ref vmrn, .ref vmkn, .ref vmik, .ref vmon, .int vosm, .int vohp, .ref vmw, .ref vmf, .ref vmb, .int vomb, .ref vmd, .ref vmc, .int vocm, .int voct, .int vocy, .ref vmx, .int votx, .int vose, .ref vml, .ref vmwr, .int voln, .int vohw, .ref vmno, .int vond, .int voon, .int vowi, .int votop])), (vmn, .inl (cy 0, 575, .inl vmnf)), (vms, .inl (cy 0, 1408, .inl f_27))] H := by rw [ef_27]; exact hP
          have hD : va_D A [(vo, .inr (12, [.int voth, .ref vmt, .int votp, .int vosz, .int volm, .int voto, .int vofr, .int vokd, .int vonu, .int vosg, .int vofa, .int vopl, .long vowd, .int votd, .ref vmn, .ref vmr, .ref vmk, .ref vms, .ref vma, .ref vmm, .ref vmrn, .ref vmkn, .ref vmik, .ref vmon, .int vosm, .int vohp, .ref vmw, .ref vmf, .ref vmb, .int vomb, .ref vmd, .ref vmc, .int vocm, .int voct, .int vocy, .ref vmx, .int votx, .int vose, .ref vml, .ref vmwr, .int voln, .int vohw, .ref vmno, .int vond, .int voon, .int vowi, .int votop])), (vmn, .inl (cy 0, 575, .inl vmnf)), (vms, .inl (cy 0, 1408, .inl f_27))] := by rw [ef_27]; exact hD
          obtain ⟨z_28, ez_28⟩ : ∃ z : Int32, z = x_19 + 1 := ⟨_, rfl⟩
          have k_1 : (1 : Int32).toInt = 1 := by decide
          have bz_28 : z_28.toInt = x_19.toInt + (1 : Int32).toInt := i_add ez_28 (by omega) (by omega)
          refine lv_iinc (v := z_28) (lv' := [(1, .int z_28), (0, .ref vo)]) hx hb dX11_snap_34 hl (k := 0) rfl ez_28.symm (by decide) rfl (fun ls hl => ?_)
          refine lv_goto (tgt := 11) hx hb dX11_snap_37 (by decide) ?_
          exact ih18 z_28 f_27 ⟨by omega, by omega⟩ (by omega) _ _ (hP.sub [0, 1, 2] rfl) (hD.sub [0, 1, 2] rfl rfl) hS ls (lv_sub hl [0, 1] rfl)
    have k_0 : (0 : Int32).toInt = 0 := by decide
    exact loop18 ((1232 - (0 : Int32).toInt).toNat + 1) 0 vmsf ⟨by omega, by omega⟩ (by omega) _ _ hP hD hS ls (lv_sub hl [0, 1] rfl)
abbrev cX11_back1 : ByteArray := prog_13_method_65_code
def yX11_back1 : MethodName := ⟨RX11, "back1", "(I)V"⟩
theorem t1810 : Cond.code yX11_back1 cX11_back1 2 none ∈ GW := gw_mem 1924 (by decide +kernel) (by decide +kernel)
abbrev O_m_back1 (cy : Nat → ClassId) (vnh : Nat → Int32) (vo : Nat) (voth : Int32) (vmt : Nat) (votp : Int32) (vosz : Int32) (volm : Int32) (voto : Int32) (vofr : Int32) (vokd : Int32) (vonu : Int32) (vosg : Int32) (vofa : Int32) (vopl : Int32) (vowd : Int64) (votd : Int32) (vmn : Nat) (vmr : Nat) (vmk : Nat) (vms : Nat) (vma : Nat) (vmm : Nat) (vmrn : Nat) (vmkn : Nat) (vmik : Nat) (vmon : Nat) (vosm : Int32) (vohp : Int32) (vmw : Nat) (vmf : Nat) (vmb : Nat) (vomb : Int32) (vmd : Nat) (vmc : Nat) (vocm : Int32) (voct : Int32) (vocy : Int32) (vmx : Nat) (votx : Int32) (vose : Int32) (vml : Nat) (vmwr : Nat) (voln : Int32) (vohw : Int32) (vmno : Nat) (vond : Int32) (voon : Int32) (vowi : Int32) (votop : Int32) (vmnf : Nat → Int32) (vm : Int32) (u : (Nat → Int32)) : va_W := [(vo, .inr (12, [.int voth, .ref vmt, .int votp, .int vosz, .int volm, .int voto, .int vofr, .int vokd, .int vonu, .int vosg, .int vofa, .int vopl, .long vowd, .int votd, .ref vmn, .ref vmr, .ref vmk, .ref vms, .ref vma, .ref vmm, .ref vmrn, .ref vmkn, .ref vmik, .ref vmon, .int vosm, .int vohp, .ref vmw, .ref vmf, .ref vmb, .int vomb, .ref vmd, .ref vmc, .int vocm, .int voct, .int vocy, .ref vmx, .int votx, .int vose, .ref vml, .ref vmwr, .int voln, .int vohw, .ref vmno, .int vond, .int voon, .int vowi, .int votop])), (vmn, .inl (cy 0, 575, .inl u))]
theorem dX11_back1_0 : decode cX11_back1 0 = .ok (.aload_n 0, 1) := by decide +kernel
theorem dX11_back1_1 : decode cX11_back1 1 = .ok (.getfield 98, 3) := by decide +kernel
theorem dX11_back1_4 : decode cX11_back1 4 = .ok (.sipush 235, 3) := by decide +kernel
theorem dX11_back1_7 : decode cX11_back1 7 = .ok (.iload_n 1, 1) := by decide +kernel
theorem dX11_back1_8 : decode cX11_back1 8 = .ok (.iadd, 1) := by decide +kernel
theorem dX11_back1_9 : decode cX11_back1 9 = .ok (.iconst (-1), 1) := by decide +kernel
theorem dX11_back1_10 : decode cX11_back1 10 = .ok (.iastore, 1) := by decide +kernel
theorem dX11_back1_11 : decode cX11_back1 11 = .ok (.aload_n 0, 1) := by decide +kernel
theorem dX11_back1_12 : decode cX11_back1 12 = .ok (.getfield 98, 3) := by decide +kernel
theorem dX11_back1_15 : decode cX11_back1 15 = .ok (.sipush 242, 3) := by decide +kernel
theorem dX11_back1_18 : decode cX11_back1 18 = .ok (.iload_n 1, 1) := by decide +kernel
theorem dX11_back1_19 : decode cX11_back1 19 = .ok (.iadd, 1) := by decide +kernel
theorem dX11_back1_20 : decode cX11_back1 20 = .ok (.iconst (-1), 1) := by decide +kernel
theorem dX11_back1_21 : decode cX11_back1 21 = .ok (.iastore, 1) := by decide +kernel
theorem dX11_back1_22 : decode cX11_back1 22 = .ok (.return_, 1) := by decide +kernel
set_option maxHeartbeats 4000000 in
set_option maxRecDepth 100000 in
theorem m_back1 (l : Launch) (dC : Nat → ClassId) (dI : Nat → Nat → Nat) (cy : Nat → ClassId) (sz : Nat) (vnh : Nat → Int32) (vo : Nat) (voth : Int32) (vmt : Nat) (votp : Int32) (vosz : Int32) (volm : Int32) (voto : Int32) (vofr : Int32) (vokd : Int32) (vonu : Int32) (vosg : Int32) (vofa : Int32) (vopl : Int32) (vowd : Int64) (votd : Int32) (vmn : Nat) (vmr : Nat) (vmk : Nat) (vms : Nat) (vma : Nat) (vmm : Nat) (vmrn : Nat) (vmkn : Nat) (vmik : Nat) (vmon : Nat) (vosm : Int32) (vohp : Int32) (vmw : Nat) (vmf : Nat) (vmb : Nat) (vomb : Int32) (vmd : Nat) (vmc : Nat) (vocm : Int32) (voct : Int32) (vocy : Int32) (vmx : Nat) (votx : Int32) (vose : Int32) (vml : Nat) (vmwr : Nat) (voln : Int32) (vohw : Int32) (vmno : Nat) (vond : Int32) (voon : Int32) (vowi : Int32) (votop : Int32) (vmnf : Nat → Int32) (vm : Int32) (r_vm : -1 ≤ (vm : Int32).toInt ∧ (vm : Int32).toInt ≤ 6) (p_vmnf : NW vnh vmnf) : Met l yX11_back1 (wl yX11_back1 cX11_back1 2 none) ({ frames := 0, cells := 0, slots := 0, locals := 0 }) (Pw (dC, dI) vwCl cy [(vo, .inr (12, [.int voth, .ref vmt, .int votp, .int vosz, .int volm, .int voto, .int vofr, .int vokd, .int vonu, .int vosg, .int vofa, .int vopl, .long vowd, .int votd, .ref vmn, .ref vmr, .ref vmk, .ref vms, .ref vma, .ref vmm, .ref vmrn, .ref vmkn, .ref vmik, .ref vmon, .int vosm, .int vohp, .ref vmw, .ref vmf, .ref vmb, .int vomb, .ref vmd, .ref vmc, .int vocm, .int voct, .int vocy, .ref vmx, .int votx, .int vose, .ref vml, .ref vmwr, .int voln, .int vohw, .ref vmno, .int vond, .int voon, .int vowi, .int votop])), (vmn, .inl (cy 0, 575, .inl vmnf))] sz [.ref vo, .int vm] nE) (Qv (dC, dI) vwCl (fun (u : (Nat → Int32)) => (NW vnh u)) (O_m_back1 cy vnh vo voth vmt votp vosz volm voto vofr vokd vonu vosg vofa vopl vowd votd vmn vmr vmk vms vma vmm vmrn vmkn vmik vmon vosm vohp vmw vmf vmb vomb vmd vmc vocm voct vocy vmx votx vose vml vmwr voln vohw vmno vond voon vowi votop vmnf vm) (va_A [(vo, .inr (12, [.int voth, .ref vmt, .int votp, .int vosz, .int volm, .int voto, .int vofr, .int vokd, .int vonu, .int vosg, .int vofa, .int vopl, .long vowd, .int votd, .ref vmn, .ref vmr, .ref vmk, .ref vms, .ref vma, .ref vmm, .ref vmrn, .ref vmkn, .ref vmik, .ref vmon, .int vosm, .int vohp, .ref vmw, .ref vmf, .ref vmb, .int vomb, .ref vmd, .ref vmc, .int vocm, .int voct, .int vocy, .ref vmx, .int votx, .int vose, .ref vml, .ref vmwr, .int voln, .int vohw, .ref vmno, .int vond, .int voon, .int vowi, .int votop])), (vmn, .inl (cy 0, 575, .inl vmnf))] sz)) 0 0 (va_A [(vo, .inr (12, [.int voth, .ref vmt, .int votp, .int vosz, .int volm, .int voto, .int vofr, .int vokd, .int vonu, .int vosg, .int vofa, .int vopl, .long vowd, .int votd, .ref vmn, .ref vmr, .ref vmk, .ref vms, .ref vma, .ref vmm, .ref vmrn, .ref vmkn, .ref vmik, .ref vmon, .int vosm, .int vohp, .ref vmw, .ref vmf, .ref vmb, .int vomb, .ref vmd, .ref vmc, .int vocm, .int voct, .int vocy, .ref vmx, .int votx, .int vose, .ref vml, .ref vmwr, .int voln, .int vohw, .ref vmno, .int vond, .int voon, .int vowi, .int votop])), (vmn, .inl (cy 0, 575, .inl vmnf))] sz) := by
  refine mw (Qc := Qv (dC, dI) vwCl (fun (u : (Nat → Int32)) => (NW vnh u)) (O_m_back1 cy vnh vo voth vmt votp vosz volm voto vofr vokd vonu vosg vofa vopl vowd votd vmn vmr vmk vms vma vmm vmrn vmkn vmik vmon vosm vohp vmw vmf vmb vomb vmd vmc vocm voct vocy vmx votx vose vml vmwr voln vohw vmno vond voon vowi votop vmnf vm)) RX11 rfl (by decide +kernel) (Nat.le_of_ble_eq_true rfl) ?_
  intro p e s m below meth c A hx hb hr hlocks av9 hav hts hown hnm hml hK hP hD hA hS hE hAe Q9 hQ9 ls hl
  have hl : lv_has ls 2 [(0, .ref vo), (1, .int vm)] := hl
  refine lv_aload_n hx hb dX11_back1_0 rfl (lv_at hl 0 rfl) ?_
  refine gf_X11_98 hx hb hts hown hK hP 0 rfl rfl dX11_back1_1 ?_
  refine lv_sipush (v := 235) hx hb dX11_back1_4 (by decide) ?_
  refine lv_iload_n hx hb dX11_back1_7 rfl (lv_at hl 1 rfl) ?_
  refine lv_iadd hx hb dX11_back1_8 ?_
  refine lv_topi (fun z_1 ez_1 => ?_)
  have k_235 : (235 : Int32).toInt = 235 := by decide
  have bz_1 : z_1.toInt = (235 : Int32).toInt + vm.toInt := i_add ez_1 (by omega) (by omega)
  refine lv_iconst (v := (-1)) hx hb dX11_back1_9 (by decide) ?_
  have hin_2 : vp_in z_1 575 := vp_in_iff.mpr ⟨by omega, by omega⟩
  refine va_iast hx hb hK hP hD hS 1 0 rfl rfl hin_2 dX11_back1_10 (fun H locs hP hD hS => ?_)
  obtain ⟨f_3, ef_3⟩ : ∃ z : Nat → Int32, z = upd vmnf (Int32.toNatClampNeg z_1) (-1) := ⟨_, rfl⟩
  have hP : va_P (dC, dI) vwCl [(vo, .inr (12, [.int voth, .ref vmt, .int votp, .int vosz, .int volm, .int voto, .int vofr, .int vokd, .int vonu, .int vosg, .int vofa, .int vopl, .long vowd, .int votd, .ref vmn, .ref vmr, .ref vmk, .ref vms, .ref vma, .ref vmm, .ref vmrn, .ref vmkn, .ref vmik, .ref vmon, .int vosm, .int vohp, .ref vmw, .ref vmf, .ref vmb, .int vomb, .ref vmd, .ref vmc, .int vocm, .int voct, .int vocy, .ref vmx, .int votx, .int vose, .ref vml, .ref vmwr, .int voln, .int vohw, .ref vmno, .int vond, .int voon, .int vowi, .int votop])), (vmn, .inl (cy 0, 575, .inl f_3))] H := by rw [ef_3]; exact hP
  have hD : va_D A [(vo, .inr (12, [.int voth, .ref vmt, .int votp, .int vosz, .int volm, .int voto, .int vofr, .int vokd, .int vonu, .int vosg, .int vofa, .int vopl, .long vowd, .int votd, .ref vmn, .ref vmr, .ref vmk, .ref vms, .ref vma, .ref vmm, .ref vmrn, .ref vmkn, .ref vmik, .ref vmon, .int vosm, .int vohp, .ref vmw, .ref vmf, .ref vmb, .int vomb, .ref vmd, .ref vmc, .int vocm, .int voct, .int vocy, .ref vmx, .int votx, .int vose, .ref vml, .ref vmwr, .int voln, .int vohw, .ref vmno, .int vond, .int voon, .int vowi, .int votop])), (vmn, .inl (cy 0, 575, .inl f_3))] := by rw [ef_3]; exact hD
  have k_m1 : ((-1) : Int32).toInt = (-1) := by decide
  have p_f_3 : NW vnh f_3 := by rw [ef_3]; exact p_vmnf.upd ⟨by omega, by omega⟩
  refine lv_aload_n hx hb dX11_back1_11 rfl (lv_at hl 0 rfl) ?_
  refine gf_X11_98 hx hb hts hown hK hP 0 rfl rfl dX11_back1_12 ?_
  refine lv_sipush (v := 242) hx hb dX11_back1_15 (by decide) ?_
  refine lv_iload_n hx hb dX11_back1_18 rfl (lv_at hl 1 rfl) ?_
  refine lv_iadd hx hb dX11_back1_19 ?_
  refine lv_topi (fun z_4 ez_4 => ?_)
  have k_242 : (242 : Int32).toInt = 242 := by decide
  have bz_4 : z_4.toInt = (242 : Int32).toInt + vm.toInt := i_add ez_4 (by omega) (by omega)
  refine lv_iconst (v := (-1)) hx hb dX11_back1_20 (by decide) ?_
  have hin_5 : vp_in z_4 575 := vp_in_iff.mpr ⟨by omega, by omega⟩
  refine va_iast hx hb hK hP hD hS 1 0 rfl rfl hin_5 dX11_back1_21 (fun H locs hP hD hS => ?_)
  obtain ⟨f_6, ef_6⟩ : ∃ z : Nat → Int32, z = upd f_3 (Int32.toNatClampNeg z_4) (-1) := ⟨_, rfl⟩
  have hP : va_P (dC, dI) vwCl [(vo, .inr (12, [.int voth, .ref vmt, .int votp, .int vosz, .int volm, .int voto, .int vofr, .int vokd, .int vonu, .int vosg, .int vofa, .int vopl, .long vowd, .int votd, .ref vmn, .ref vmr, .ref vmk, .ref vms, .ref vma, .ref vmm, .ref vmrn, .ref vmkn, .ref vmik, .ref vmon, .int vosm, .int vohp, .ref vmw, .ref vmf, .ref vmb, .int vomb, .ref vmd, .ref vmc, .int vocm, .int voct, .int vocy, .ref vmx, .int votx, .int vose, .ref vml, .ref vmwr, .int voln, .int vohw, .ref vmno, .int vond, .int voon, .int vowi, .int votop])), (vmn, .inl (cy 0, 575, .inl f_6))] H := by rw [ef_6]; exact hP
  have hD : va_D A [(vo, .inr (12, [.int voth, .ref vmt, .int votp, .int vosz, .int volm, .int voto, .int vofr, .int vokd, .int vonu, .int vosg, .int vofa, .int vopl, .long vowd, .int votd, .ref vmn, .ref vmr, .ref vmk, .ref vms, .ref vma, .ref vmm, .ref vmrn, .ref vmkn, .ref vmik, .ref vmon, .int vosm, .int vohp, .ref vmw, .ref vmf, .ref vmb, .int vomb, .ref vmd, .ref vmc, .int vocm, .int voct, .int vocy, .ref vmx, .int votx, .int vose, .ref vml, .ref vmwr, .int voln, .int vohw, .ref vmno, .int vond, .int voon, .int vowi, .int votop])), (vmn, .inl (cy 0, 575, .inl f_6))] := by rw [ef_6]; exact hD
  have p_f_6 : NW vnh f_6 := by rw [ef_6]; exact p_f_3.upd ⟨by omega, by omega⟩
  rw [hQ9]
  exact re_v f_6 hx hb hr hlocks (show NW vnh f_6 from p_f_6) (hP.sub [0, 1] rfl) (hD.sub [0, 1] rfl rfl) hS dX11_back1_22
abbrev cX11_doSit : ByteArray := prog_13_method_66_code
def yX11_doSit : MethodName := ⟨RX11, "doSit", "(I)V"⟩
theorem t1814 : Cond.code yX11_doSit cX11_doSit 2 none ∈ GW := gw_mem 1928 (by decide +kernel) (by decide +kernel)
abbrev O_m_doSit (cy : Nat → ClassId) (vnh : Nat → Int32) (vo : Nat) (voth : Int32) (vmt : Nat) (votp : Int32) (vosz : Int32) (volm : Int32) (voto : Int32) (vofr : Int32) (vokd : Int32) (vonu : Int32) (vosg : Int32) (vofa : Int32) (vopl : Int32) (vowd : Int64) (votd : Int32) (vmn : Nat) (vmr : Nat) (vmk : Nat) (vms : Nat) (vma : Nat) (vmm : Nat) (vmrn : Nat) (vmkn : Nat) (vmik : Nat) (vmon : Nat) (vosm : Int32) (vohp : Int32) (vmw : Nat) (vmf : Nat) (vmb : Nat) (vomb : Int32) (vmd : Nat) (vmc : Nat) (vocm : Int32) (voct : Int32) (vocy : Int32) (vmx : Nat) (votx : Int32) (vose : Int32) (vml : Nat) (vmwr : Nat) (voln : Int32) (vohw : Int32) (vmno : Nat) (vond : Int32) (voon : Int32) (vowi : Int32) (votop : Int32) (vmnf : Nat → Int32) (vm : Int32) (u : (Nat → Int32)) : va_W := [(vo, .inr (12, [.int voth, .ref vmt, .int votp, .int vosz, .int volm, .int voto, .int vofr, .int vokd, .int vonu, .int vosg, .int vofa, .int vopl, .long vowd, .int votd, .ref vmn, .ref vmr, .ref vmk, .ref vms, .ref vma, .ref vmm, .ref vmrn, .ref vmkn, .ref vmik, .ref vmon, .int vosm, .int vohp, .ref vmw, .ref vmf, .ref vmb, .int vomb, .ref vmd, .ref vmc, .int vocm, .int voct, .int vocy, .ref vmx, .int votx, .int vose, .ref vml, .ref vmwr, .int voln, .int vohw, .ref vmno, .int vond, .int voon, .int vowi, .int votop])), (vmn, .inl (cy 0, 575, .inl u))]
theorem dX11_doSit_0 : decode cX11_doSit 0 = .ok (.aload_n 0, 1) := by decide +kernel
theorem dX11_doSit_1 : decode cX11_doSit 1 = .ok (.getfield 98, 3) := by decide +kernel
theorem dX11_doSit_4 : decode cX11_doSit 4 = .ok (.sipush 305, 3) := by decide +kernel
theorem dX11_doSit_7 : decode cX11_doSit 7 = .ok (.iconst 4, 1) := by decide +kernel
theorem dX11_doSit_8 : decode cX11_doSit 8 = .ok (.iload_n 1, 1) := by decide +kernel
theorem dX11_doSit_9 : decode cX11_doSit 9 = .ok (.imul, 1) := by decide +kernel
theorem dX11_doSit_10 : decode cX11_doSit 10 = .ok (.iadd, 1) := by decide +kernel
theorem dX11_doSit_11 : decode cX11_doSit 11 = .ok (.aload_n 0, 1) := by decide +kernel
theorem dX11_doSit_12 : decode cX11_doSit 12 = .ok (.iload_n 1, 1) := by decide +kernel
theorem dX11_doSit_13 : decode cX11_doSit 13 = .ok (.invokevirtual 241, 3) := by decide +kernel
theorem dX11_doSit_16 : decode cX11_doSit 16 = .ok (.iastore, 1) := by decide +kernel
theorem dX11_doSit_17 : decode cX11_doSit 17 = .ok (.aload_n 0, 1) := by decide +kernel
theorem dX11_doSit_18 : decode cX11_doSit 18 = .ok (.getfield 98, 3) := by decide +kernel
theorem dX11_doSit_21 : decode cX11_doSit 21 = .ok (.sipush 305, 3) := by decide +kernel
theorem dX11_doSit_24 : decode cX11_doSit 24 = .ok (.iconst 4, 1) := by decide +kernel
theorem dX11_doSit_25 : decode cX11_doSit 25 = .ok (.iload_n 1, 1) := by decide +kernel
theorem dX11_doSit_26 : decode cX11_doSit 26 = .ok (.imul, 1) := by decide +kernel
theorem dX11_doSit_27 : decode cX11_doSit 27 = .ok (.iadd, 1) := by decide +kernel
theorem dX11_doSit_28 : decode cX11_doSit 28 = .ok (.iconst 1, 1) := by decide +kernel
theorem dX11_doSit_29 : decode cX11_doSit 29 = .ok (.iadd, 1) := by decide +kernel
theorem dX11_doSit_30 : decode cX11_doSit 30 = .ok (.aload_n 0, 1) := by decide +kernel
theorem dX11_doSit_31 : decode cX11_doSit 31 = .ok (.iload_n 1, 1) := by decide +kernel
theorem dX11_doSit_32 : decode cX11_doSit 32 = .ok (.invokevirtual 244, 3) := by decide +kernel
theorem dX11_doSit_35 : decode cX11_doSit 35 = .ok (.iastore, 1) := by decide +kernel
theorem dX11_doSit_36 : decode cX11_doSit 36 = .ok (.aload_n 0, 1) := by decide +kernel
theorem dX11_doSit_37 : decode cX11_doSit 37 = .ok (.getfield 98, 3) := by decide +kernel
theorem dX11_doSit_40 : decode cX11_doSit 40 = .ok (.sipush 305, 3) := by decide +kernel
theorem dX11_doSit_43 : decode cX11_doSit 43 = .ok (.iconst 4, 1) := by decide +kernel
theorem dX11_doSit_44 : decode cX11_doSit 44 = .ok (.iload_n 1, 1) := by decide +kernel
theorem dX11_doSit_45 : decode cX11_doSit 45 = .ok (.imul, 1) := by decide +kernel
theorem dX11_doSit_46 : decode cX11_doSit 46 = .ok (.iadd, 1) := by decide +kernel
theorem dX11_doSit_47 : decode cX11_doSit 47 = .ok (.iconst 2, 1) := by decide +kernel
theorem dX11_doSit_48 : decode cX11_doSit 48 = .ok (.iadd, 1) := by decide +kernel
theorem dX11_doSit_49 : decode cX11_doSit 49 = .ok (.aload_n 0, 1) := by decide +kernel
theorem dX11_doSit_50 : decode cX11_doSit 50 = .ok (.getfield 98, 3) := by decide +kernel
theorem dX11_doSit_53 : decode cX11_doSit 53 = .ok (.sipush 157, 3) := by decide +kernel
theorem dX11_doSit_56 : decode cX11_doSit 56 = .ok (.iaload, 1) := by decide +kernel
theorem dX11_doSit_57 : decode cX11_doSit 57 = .ok (.iastore, 1) := by decide +kernel
theorem dX11_doSit_58 : decode cX11_doSit 58 = .ok (.aload_n 0, 1) := by decide +kernel
theorem dX11_doSit_59 : decode cX11_doSit 59 = .ok (.getfield 98, 3) := by decide +kernel
theorem dX11_doSit_62 : decode cX11_doSit 62 = .ok (.sipush 305, 3) := by decide +kernel
theorem dX11_doSit_65 : decode cX11_doSit 65 = .ok (.iconst 4, 1) := by decide +kernel
theorem dX11_doSit_66 : decode cX11_doSit 66 = .ok (.iload_n 1, 1) := by decide +kernel
theorem dX11_doSit_67 : decode cX11_doSit 67 = .ok (.imul, 1) := by decide +kernel
theorem dX11_doSit_68 : decode cX11_doSit 68 = .ok (.iadd, 1) := by decide +kernel
theorem dX11_doSit_69 : decode cX11_doSit 69 = .ok (.iconst 3, 1) := by decide +kernel
theorem dX11_doSit_70 : decode cX11_doSit 70 = .ok (.iadd, 1) := by decide +kernel
theorem dX11_doSit_71 : decode cX11_doSit 71 = .ok (.aload_n 0, 1) := by decide +kernel
theorem dX11_doSit_72 : decode cX11_doSit 72 = .ok (.getfield 98, 3) := by decide +kernel
theorem dX11_doSit_75 : decode cX11_doSit 75 = .ok (.sipush 158, 3) := by decide +kernel
theorem dX11_doSit_78 : decode cX11_doSit 78 = .ok (.iload_n 1, 1) := by decide +kernel
theorem dX11_doSit_79 : decode cX11_doSit 79 = .ok (.iadd, 1) := by decide +kernel
theorem dX11_doSit_80 : decode cX11_doSit 80 = .ok (.iaload, 1) := by decide +kernel
theorem dX11_doSit_81 : decode cX11_doSit 81 = .ok (.iastore, 1) := by decide +kernel
theorem dX11_doSit_82 : decode cX11_doSit 82 = .ok (.aload_n 0, 1) := by decide +kernel
theorem dX11_doSit_83 : decode cX11_doSit 83 = .ok (.getfield 98, 3) := by decide +kernel
theorem dX11_doSit_86 : decode cX11_doSit 86 = .ok (.sipush 298, 3) := by decide +kernel
theorem dX11_doSit_89 : decode cX11_doSit 89 = .ok (.iload_n 1, 1) := by decide +kernel
theorem dX11_doSit_90 : decode cX11_doSit 90 = .ok (.iadd, 1) := by decide +kernel
theorem dX11_doSit_91 : decode cX11_doSit 91 = .ok (.dup2, 1) := by decide +kernel
theorem dX11_doSit_92 : decode cX11_doSit 92 = .ok (.iaload, 1) := by decide +kernel
theorem dX11_doSit_93 : decode cX11_doSit 93 = .ok (.iconst 1, 1) := by decide +kernel
theorem dX11_doSit_94 : decode cX11_doSit 94 = .ok (.iadd, 1) := by decide +kernel
theorem dX11_doSit_95 : decode cX11_doSit 95 = .ok (.iastore, 1) := by decide +kernel
theorem dX11_doSit_96 : decode cX11_doSit 96 = .ok (.return_, 1) := by decide +kernel
set_option maxHeartbeats 4000000 in
set_option maxRecDepth 100000 in
theorem m_doSit (l : Launch) (dC : Nat → ClassId) (dI : Nat → Nat → Nat) (cy : Nat → ClassId) (sz : Nat) (vnh : Nat → Int32) (vo : Nat) (voth : Int32) (vmt : Nat) (votp : Int32) (vosz : Int32) (volm : Int32) (voto : Int32) (vofr : Int32) (vokd : Int32) (vonu : Int32) (vosg : Int32) (vofa : Int32) (vopl : Int32) (vowd : Int64) (votd : Int32) (vmn : Nat) (vmr : Nat) (vmk : Nat) (vms : Nat) (vma : Nat) (vmm : Nat) (vmrn : Nat) (vmkn : Nat) (vmik : Nat) (vmon : Nat) (vosm : Int32) (vohp : Int32) (vmw : Nat) (vmf : Nat) (vmb : Nat) (vomb : Int32) (vmd : Nat) (vmc : Nat) (vocm : Int32) (voct : Int32) (vocy : Int32) (vmx : Nat) (votx : Int32) (vose : Int32) (vml : Nat) (vmwr : Nat) (voln : Int32) (vohw : Int32) (vmno : Nat) (vond : Int32) (voon : Int32) (vowi : Int32) (votop : Int32) (vmnf : Nat → Int32) (vm : Int32) (r_vm : -1 ≤ (vm : Int32).toInt ∧ (vm : Int32).toInt ≤ 6) (p_vmnf : NW vnh vmnf) : Met l yX11_doSit (wl yX11_doSit cX11_doSit 2 none) ({ frames := 3, cells := 0, slots := 0, locals := 192 }) (Pw (dC, dI) vwCl cy [(vo, .inr (12, [.int voth, .ref vmt, .int votp, .int vosz, .int volm, .int voto, .int vofr, .int vokd, .int vonu, .int vosg, .int vofa, .int vopl, .long vowd, .int votd, .ref vmn, .ref vmr, .ref vmk, .ref vms, .ref vma, .ref vmm, .ref vmrn, .ref vmkn, .ref vmik, .ref vmon, .int vosm, .int vohp, .ref vmw, .ref vmf, .ref vmb, .int vomb, .ref vmd, .ref vmc, .int vocm, .int voct, .int vocy, .ref vmx, .int votx, .int vose, .ref vml, .ref vmwr, .int voln, .int vohw, .ref vmno, .int vond, .int voon, .int vowi, .int votop])), (vmn, .inl (cy 0, 575, .inl vmnf))] sz [.ref vo, .int vm] nE) (Qv (dC, dI) vwCl (fun (u : (Nat → Int32)) => (NW vnh u)) (O_m_doSit cy vnh vo voth vmt votp vosz volm voto vofr vokd vonu vosg vofa vopl vowd votd vmn vmr vmk vms vma vmm vmrn vmkn vmik vmon vosm vohp vmw vmf vmb vomb vmd vmc vocm voct vocy vmx votx vose vml vmwr voln vohw vmno vond voon vowi votop vmnf vm) (va_A [(vo, .inr (12, [.int voth, .ref vmt, .int votp, .int vosz, .int volm, .int voto, .int vofr, .int vokd, .int vonu, .int vosg, .int vofa, .int vopl, .long vowd, .int votd, .ref vmn, .ref vmr, .ref vmk, .ref vms, .ref vma, .ref vmm, .ref vmrn, .ref vmkn, .ref vmik, .ref vmon, .int vosm, .int vohp, .ref vmw, .ref vmf, .ref vmb, .int vomb, .ref vmd, .ref vmc, .int vocm, .int voct, .int vocy, .ref vmx, .int votx, .int vose, .ref vml, .ref vmwr, .int voln, .int vohw, .ref vmno, .int vond, .int voon, .int vowi, .int votop])), (vmn, .inl (cy 0, 575, .inl vmnf))] sz)) 0 0 (va_A [(vo, .inr (12, [.int voth, .ref vmt, .int votp, .int vosz, .int volm, .int voto, .int vofr, .int vokd, .int vonu, .int vosg, .int vofa, .int vopl, .long vowd, .int votd, .ref vmn, .ref vmr, .ref vmk, .ref vms, .ref vma, .ref vmm, .ref vmrn, .ref vmkn, .ref vmik, .ref vmon, .int vosm, .int vohp, .ref vmw, .ref vmf, .ref vmb, .int vomb, .ref vmd, .ref vmc, .int vocm, .int voct, .int vocy, .ref vmx, .int votx, .int vose, .ref vml, .ref vmwr, .int voln, .int vohw, .ref vmno, .int vond, .int voon, .int vowi, .int votop])), (vmn, .inl (cy 0, 575, .inl vmnf))] sz) := by
  refine mw (Qc := Qv (dC, dI) vwCl (fun (u : (Nat → Int32)) => (NW vnh u)) (O_m_doSit cy vnh vo voth vmt votp vosz volm voto vofr vokd vonu vosg vofa vopl vowd votd vmn vmr vmk vms vma vmm vmrn vmkn vmik vmon vosm vohp vmw vmf vmb vomb vmd vmc vocm voct vocy vmx votx vose vml vmwr voln vohw vmno vond voon vowi votop vmnf vm)) RX11 rfl (by decide +kernel) (Nat.le_of_ble_eq_true rfl) ?_
  intro p e s m below meth c A hx hb hr hlocks av9 hav hts hown hnm hml hK hP hD hA hS hE hAe Q9 hQ9 ls hl
  have hl : lv_has ls 2 [(0, .ref vo), (1, .int vm)] := hl
  refine lv_aload_n hx hb dX11_doSit_0 rfl (lv_at hl 0 rfl) ?_
  refine gf_X11_98 hx hb hts hown hK hP 0 rfl rfl dX11_doSit_1 ?_
  refine lv_sipush (v := 305) hx hb dX11_doSit_4 (by decide) ?_
  refine lv_iconst (v := 4) hx hb dX11_doSit_7 (by decide) ?_
  refine lv_iload_n hx hb dX11_doSit_8 rfl (lv_at hl 1 rfl) ?_
  refine lv_imul hx hb dX11_doSit_9 ?_
  refine lv_topi (fun z_1 ez_1 => ?_)
  have k_4 : (4 : Int32).toInt = 4 := by decide
  have bz_1 : z_1.toInt = vm.toInt * 4 := i_cmul k_4 ez_1 (by omega) (by omega)
  refine lv_iadd hx hb dX11_doSit_10 ?_
  refine lv_topi (fun z_2 ez_2 => ?_)
  have k_305 : (305 : Int32).toInt = 305 := by decide
  have bz_2 : z_2.toInt = (305 : Int32).toInt + z_1.toInt := i_add ez_2 (by omega) (by omega)
  refine lv_aload_n hx hb dX11_doSit_11 rfl (lv_at hl 0 rfl) ?_
  refine lv_iload_n hx hb dX11_doSit_12 rfl (lv_at hl 1 rfl) ?_
  refine jr_i (rVr (As := [.int vm]) (rest := [.int z_2, .ref vmn]) (ci := 12) ⟨hx, hb, hml, hown, hts⟩ (m_whiteOf l dC dI cy vnh vo voth vmt votp vosz volm voto vofr vokd vonu vosg vofa vopl vowd votd vmn vmr vmk vms vma vmm vmrn vmkn vmik vmon vosm vohp vmw vmf vmb vomb vmd vmc vocm voct vocy vmx votx vose vml vmwr voln vohw vmno vond voon vowi votop vmnf vm r_vm p_vmnf) (cw_X11_241 hts rfl rfl ⟨Nat.le_of_ble_eq_true rfl, Nat.le_of_ble_eq_true rfl⟩) hP hK [0, 1] rfl rfl rfl rfl hl.1 rfl (Nat.le_of_ble_eq_true rfl) dX11_doSit_13 ⟨Nat.le_of_ble_eq_true rfl, Nat.le_of_ble_eq_true rfl⟩) hP hS (fun r_3 H locs hp_4 hP hS => ?_)
  have hin_5 : vp_in z_2 575 := vp_in_iff.mpr ⟨by omega, by omega⟩
  refine va_iast hx hb hK hP hD hS 1 0 rfl rfl hin_5 dX11_doSit_16 (fun H locs hP hD hS => ?_)
  obtain ⟨f_6, ef_6⟩ : ∃ z : Nat → Int32, z = upd vmnf (Int32.toNatClampNeg z_2) r_3 := ⟨_, rfl⟩
  have hP : va_P (dC, dI) vwCl [(vo, .inr (12, [.int voth, .ref vmt, .int votp, .int vosz, .int volm, .int voto, .int vofr, .int vokd, .int vonu, .int vosg, .int vofa, .int vopl, .long vowd, .int votd, .ref vmn, .ref vmr, .ref vmk, .ref vms, .ref vma, .ref vmm, .ref vmrn, .ref vmkn, .ref vmik, .ref vmon, .int vosm, .int vohp, .ref vmw, .ref vmf, .ref vmb, .int vomb, .ref vmd, .ref vmc, .int vocm, .int voct, .int vocy, .ref vmx, .int votx, .int vose, .ref vml, .ref vmwr, .int voln, .int vohw, .ref vmno, .int vond, .int voon, .int vowi, .int votop])), (vmn, .inl (cy 0, 575, .inl f_6))] H := by rw [ef_6]; exact hP
  have hD : va_D A [(vo, .inr (12, [.int voth, .ref vmt, .int votp, .int vosz, .int volm, .int voto, .int vofr, .int vokd, .int vonu, .int vosg, .int vofa, .int vopl, .long vowd, .int votd, .ref vmn, .ref vmr, .ref vmk, .ref vms, .ref vma, .ref vmm, .ref vmrn, .ref vmkn, .ref vmik, .ref vmon, .int vosm, .int vohp, .ref vmw, .ref vmf, .ref vmb, .int vomb, .ref vmd, .ref vmc, .int vocm, .int voct, .int vocy, .ref vmx, .int votx, .int vose, .ref vml, .ref vmwr, .int voln, .int vohw, .ref vmno, .int vond, .int voon, .int vowi, .int votop])), (vmn, .inl (cy 0, 575, .inl f_6))] := by rw [ef_6]; exact hD
  have p_f_6 : NW vnh f_6 := by rw [ef_6]; exact p_vmnf.upd ⟨by omega, by omega⟩
  refine lv_aload_n hx hb dX11_doSit_17 rfl (lv_at hl 0 rfl) ?_
  refine gf_X11_98 hx hb hts hown hK hP 0 rfl rfl dX11_doSit_18 ?_
  refine lv_sipush (v := 305) hx hb dX11_doSit_21 (by decide) ?_
  refine lv_iconst (v := 4) hx hb dX11_doSit_24 (by decide) ?_
  refine lv_iload_n hx hb dX11_doSit_25 rfl (lv_at hl 1 rfl) ?_
  refine lv_imul hx hb dX11_doSit_26 ?_
  refine lv_topi (fun z_7 ez_7 => ?_)
  have bz_7 : z_7.toInt = vm.toInt * 4 := i_cmul k_4 ez_7 (by omega) (by omega)
  refine lv_iadd hx hb dX11_doSit_27 ?_
  refine lv_topi (fun z_8 ez_8 => ?_)
  have bz_8 : z_8.toInt = (305 : Int32).toInt + z_7.toInt := i_add ez_8 (by omega) (by omega)
  refine lv_iconst (v := 1) hx hb dX11_doSit_28 (by decide) ?_
  refine lv_iadd hx hb dX11_doSit_29 ?_
  refine lv_topi (fun z_9 ez_9 => ?_)
  have k_1 : (1 : Int32).toInt = 1 := by decide
  have bz_9 : z_9.toInt = z_8.toInt + (1 : Int32).toInt := i_add ez_9 (by omega) (by omega)
  refine lv_aload_n hx hb dX11_doSit_30 rfl (lv_at hl 0 rfl) ?_
  refine lv_iload_n hx hb dX11_doSit_31 rfl (lv_at hl 1 rfl) ?_
  refine jr_i (rVr (As := [.int vm]) (rest := [.int z_9, .ref vmn]) (ci := 12) ⟨hx, hb, hml, hown, hts⟩ (m_darkOf l dC dI cy vnh vo voth vmt votp vosz volm voto vofr vokd vonu vosg vofa vopl vowd votd vmn vmr vmk vms vma vmm vmrn vmkn vmik vmon vosm vohp vmw vmf vmb vomb vmd vmc vocm voct vocy vmx votx vose vml vmwr voln vohw vmno vond voon vowi votop f_6 vm r_vm p_f_6) (cw_X11_244 hts rfl rfl ⟨Nat.le_of_ble_eq_true rfl, Nat.le_of_ble_eq_true rfl⟩) hP hK [0, 1] rfl rfl rfl rfl hl.1 rfl (Nat.le_of_ble_eq_true rfl) dX11_doSit_32 ⟨Nat.le_of_ble_eq_true rfl, Nat.le_of_ble_eq_true rfl⟩) hP hS (fun r_10 H locs hp_11 hP hS => ?_)
  have hin_12 : vp_in z_9 575 := vp_in_iff.mpr ⟨by omega, by omega⟩
  refine va_iast hx hb hK hP hD hS 1 0 rfl rfl hin_12 dX11_doSit_35 (fun H locs hP hD hS => ?_)
  obtain ⟨f_13, ef_13⟩ : ∃ z : Nat → Int32, z = upd f_6 (Int32.toNatClampNeg z_9) r_10 := ⟨_, rfl⟩
  have hP : va_P (dC, dI) vwCl [(vo, .inr (12, [.int voth, .ref vmt, .int votp, .int vosz, .int volm, .int voto, .int vofr, .int vokd, .int vonu, .int vosg, .int vofa, .int vopl, .long vowd, .int votd, .ref vmn, .ref vmr, .ref vmk, .ref vms, .ref vma, .ref vmm, .ref vmrn, .ref vmkn, .ref vmik, .ref vmon, .int vosm, .int vohp, .ref vmw, .ref vmf, .ref vmb, .int vomb, .ref vmd, .ref vmc, .int vocm, .int voct, .int vocy, .ref vmx, .int votx, .int vose, .ref vml, .ref vmwr, .int voln, .int vohw, .ref vmno, .int vond, .int voon, .int vowi, .int votop])), (vmn, .inl (cy 0, 575, .inl f_13))] H := by rw [ef_13]; exact hP
  have hD : va_D A [(vo, .inr (12, [.int voth, .ref vmt, .int votp, .int vosz, .int volm, .int voto, .int vofr, .int vokd, .int vonu, .int vosg, .int vofa, .int vopl, .long vowd, .int votd, .ref vmn, .ref vmr, .ref vmk, .ref vms, .ref vma, .ref vmm, .ref vmrn, .ref vmkn, .ref vmik, .ref vmon, .int vosm, .int vohp, .ref vmw, .ref vmf, .ref vmb, .int vomb, .ref vmd, .ref vmc, .int vocm, .int voct, .int vocy, .ref vmx, .int votx, .int vose, .ref vml, .ref vmwr, .int voln, .int vohw, .ref vmno, .int vond, .int voon, .int vowi, .int votop])), (vmn, .inl (cy 0, 575, .inl f_13))] := by rw [ef_13]; exact hD
  have p_f_13 : NW vnh f_13 := by rw [ef_13]; exact p_f_6.upd ⟨by omega, by omega⟩
  refine lv_aload_n hx hb dX11_doSit_36 rfl (lv_at hl 0 rfl) ?_
  refine gf_X11_98 hx hb hts hown hK hP 0 rfl rfl dX11_doSit_37 ?_
  refine lv_sipush (v := 305) hx hb dX11_doSit_40 (by decide) ?_
  refine lv_iconst (v := 4) hx hb dX11_doSit_43 (by decide) ?_
  refine lv_iload_n hx hb dX11_doSit_44 rfl (lv_at hl 1 rfl) ?_
  refine lv_imul hx hb dX11_doSit_45 ?_
  refine lv_topi (fun z_14 ez_14 => ?_)
  have bz_14 : z_14.toInt = vm.toInt * 4 := i_cmul k_4 ez_14 (by omega) (by omega)
  refine lv_iadd hx hb dX11_doSit_46 ?_
  refine lv_topi (fun z_15 ez_15 => ?_)
  have bz_15 : z_15.toInt = (305 : Int32).toInt + z_14.toInt := i_add ez_15 (by omega) (by omega)
  refine lv_iconst (v := 2) hx hb dX11_doSit_47 (by decide) ?_
  refine lv_iadd hx hb dX11_doSit_48 ?_
  refine lv_topi (fun z_16 ez_16 => ?_)
  have k_2 : (2 : Int32).toInt = 2 := by decide
  have bz_16 : z_16.toInt = z_15.toInt + (2 : Int32).toInt := i_add ez_16 (by omega) (by omega)
  refine lv_aload_n hx hb dX11_doSit_49 rfl (lv_at hl 0 rfl) ?_
  refine gf_X11_98 hx hb hts hown hK hP 0 rfl rfl dX11_doSit_50 ?_
  refine lv_sipush (v := 157) hx hb dX11_doSit_53 (by decide) ?_
  have k_157 : (157 : Int32).toInt = 157 := by decide
  have hin_17 : vp_in (157 : Int32) 575 := vp_in_iff.mpr ⟨by omega, by omega⟩
  refine va_iald hx hb hK hP 1 0 rfl rfl hin_17 dX11_doSit_56 ?_
  refine lv_topi (fun z_18 ez_18 => ?_)
  have tz_18 : z_18.toInt = (f_13 157).toInt := by rw [ez_18]; rfl
  have hin_19 : vp_in z_16 575 := vp_in_iff.mpr ⟨by omega, by omega⟩
  refine va_iast hx hb hK hP hD hS 1 0 rfl rfl hin_19 dX11_doSit_57 (fun H locs hP hD hS => ?_)
  obtain ⟨f_20, ef_20⟩ : ∃ z : Nat → Int32, z = upd f_13 (Int32.toNatClampNeg z_16) z_18 := ⟨_, rfl⟩
  have hP : va_P (dC, dI) vwCl [(vo, .inr (12, [.int voth, .ref vmt, .int votp, .int vosz, .int volm, .int voto, .int vofr, .int vokd, .int vonu, .int vosg, .int vofa, .int vopl, .long vowd, .int votd, .ref vmn, .ref vmr, .ref vmk, .ref vms, .ref vma, .ref vmm, .ref vmrn, .ref vmkn, .ref vmik, .ref vmon, .int vosm, .int vohp, .ref vmw, .ref vmf, .ref vmb, .int vomb, .ref vmd, .ref vmc, .int vocm, .int voct, .int vocy, .ref vmx, .int votx, .int vose, .ref vml, .ref vmwr, .int voln, .int vohw, .ref vmno, .int vond, .int voon, .int vowi, .int votop])), (vmn, .inl (cy 0, 575, .inl f_20))] H := by rw [ef_20]; exact hP
  have hD : va_D A [(vo, .inr (12, [.int voth, .ref vmt, .int votp, .int vosz, .int volm, .int voto, .int vofr, .int vokd, .int vonu, .int vosg, .int vofa, .int vopl, .long vowd, .int votd, .ref vmn, .ref vmr, .ref vmk, .ref vms, .ref vma, .ref vmm, .ref vmrn, .ref vmkn, .ref vmik, .ref vmon, .int vosm, .int vohp, .ref vmw, .ref vmf, .ref vmb, .int vomb, .ref vmd, .ref vmc, .int vocm, .int voct, .int vocy, .ref vmx, .int votx, .int vose, .ref vml, .ref vmwr, .int voln, .int vohw, .ref vmno, .int vond, .int voon, .int vowi, .int votop])), (vmn, .inl (cy 0, 575, .inl f_20))] := by rw [ef_20]; exact hD
  have p_f_20 : NW vnh f_20 := by rw [ef_20]; exact p_f_13.upd ⟨by omega, by omega⟩
  refine lv_aload_n hx hb dX11_doSit_58 rfl (lv_at hl 0 rfl) ?_
  refine gf_X11_98 hx hb hts hown hK hP 0 rfl rfl dX11_doSit_59 ?_
  refine lv_sipush (v := 305) hx hb dX11_doSit_62 (by decide) ?_
  refine lv_iconst (v := 4) hx hb dX11_doSit_65 (by decide) ?_
  refine lv_iload_n hx hb dX11_doSit_66 rfl (lv_at hl 1 rfl) ?_
  refine lv_imul hx hb dX11_doSit_67 ?_
  refine lv_topi (fun z_21 ez_21 => ?_)
  have bz_21 : z_21.toInt = vm.toInt * 4 := i_cmul k_4 ez_21 (by omega) (by omega)
  refine lv_iadd hx hb dX11_doSit_68 ?_
  refine lv_topi (fun z_22 ez_22 => ?_)
  have bz_22 : z_22.toInt = (305 : Int32).toInt + z_21.toInt := i_add ez_22 (by omega) (by omega)
  refine lv_iconst (v := 3) hx hb dX11_doSit_69 (by decide) ?_
  refine lv_iadd hx hb dX11_doSit_70 ?_
  refine lv_topi (fun z_23 ez_23 => ?_)
  have k_3 : (3 : Int32).toInt = 3 := by decide
  have bz_23 : z_23.toInt = z_22.toInt + (3 : Int32).toInt := i_add ez_23 (by omega) (by omega)
  refine lv_aload_n hx hb dX11_doSit_71 rfl (lv_at hl 0 rfl) ?_
  refine gf_X11_98 hx hb hts hown hK hP 0 rfl rfl dX11_doSit_72 ?_
  refine lv_sipush (v := 158) hx hb dX11_doSit_75 (by decide) ?_
  refine lv_iload_n hx hb dX11_doSit_78 rfl (lv_at hl 1 rfl) ?_
  refine lv_iadd hx hb dX11_doSit_79 ?_
  refine lv_topi (fun z_24 ez_24 => ?_)
  have k_158 : (158 : Int32).toInt = 158 := by decide
  have bz_24 : z_24.toInt = (158 : Int32).toInt + vm.toInt := i_add ez_24 (by omega) (by omega)
  have hin_25 : vp_in z_24 575 := vp_in_iff.mpr ⟨by omega, by omega⟩
  refine va_iald hx hb hK hP 1 0 rfl rfl hin_25 dX11_doSit_80 ?_
  refine lv_topi (fun z_26 ez_26 => ?_)
  have hin_27 : vp_in z_23 575 := vp_in_iff.mpr ⟨by omega, by omega⟩
  refine va_iast hx hb hK hP hD hS 1 0 rfl rfl hin_27 dX11_doSit_81 (fun H locs hP hD hS => ?_)
  obtain ⟨f_28, ef_28⟩ : ∃ z : Nat → Int32, z = upd f_20 (Int32.toNatClampNeg z_23) z_26 := ⟨_, rfl⟩
  have hP : va_P (dC, dI) vwCl [(vo, .inr (12, [.int voth, .ref vmt, .int votp, .int vosz, .int volm, .int voto, .int vofr, .int vokd, .int vonu, .int vosg, .int vofa, .int vopl, .long vowd, .int votd, .ref vmn, .ref vmr, .ref vmk, .ref vms, .ref vma, .ref vmm, .ref vmrn, .ref vmkn, .ref vmik, .ref vmon, .int vosm, .int vohp, .ref vmw, .ref vmf, .ref vmb, .int vomb, .ref vmd, .ref vmc, .int vocm, .int voct, .int vocy, .ref vmx, .int votx, .int vose, .ref vml, .ref vmwr, .int voln, .int vohw, .ref vmno, .int vond, .int voon, .int vowi, .int votop])), (vmn, .inl (cy 0, 575, .inl f_28))] H := by rw [ef_28]; exact hP
  have hD : va_D A [(vo, .inr (12, [.int voth, .ref vmt, .int votp, .int vosz, .int volm, .int voto, .int vofr, .int vokd, .int vonu, .int vosg, .int vofa, .int vopl, .long vowd, .int votd, .ref vmn, .ref vmr, .ref vmk, .ref vms, .ref vma, .ref vmm, .ref vmrn, .ref vmkn, .ref vmik, .ref vmon, .int vosm, .int vohp, .ref vmw, .ref vmf, .ref vmb, .int vomb, .ref vmd, .ref vmc, .int vocm, .int voct, .int vocy, .ref vmx, .int votx, .int vose, .ref vml, .ref vmwr, .int voln, .int vohw, .ref vmno, .int vond, .int voon, .int vowi, .int votop])), (vmn, .inl (cy 0, 575, .inl f_28))] := by rw [ef_28]; exact hD
  have p_f_28 : NW vnh f_28 := by rw [ef_28]; exact p_f_20.upd ⟨by omega, by omega⟩
  refine lv_aload_n hx hb dX11_doSit_82 rfl (lv_at hl 0 rfl) ?_
  refine gf_X11_98 hx hb hts hown hK hP 0 rfl rfl dX11_doSit_83 ?_
  refine lv_sipush (v := 298) hx hb dX11_doSit_86 (by decide) ?_
  refine lv_iload_n hx hb dX11_doSit_89 rfl (lv_at hl 1 rfl) ?_
  refine lv_iadd hx hb dX11_doSit_90 ?_
  refine lv_topi (fun z_29 ez_29 => ?_)
  have k_298 : (298 : Int32).toInt = 298 := by decide
  have bz_29 : z_29.toInt = (298 : Int32).toInt + vm.toInt := i_add ez_29 (by omega) (by omega)
  refine lv_dup2_11 hx hb dX11_doSit_91 rfl rfl ?_
  have hin_30 : vp_in z_29 575 := vp_in_iff.mpr ⟨by omega, by omega⟩
  refine va_iald hx hb hK hP 1 0 rfl rfl hin_30 dX11_doSit_92 ?_
  refine lv_topi (fun z_31 ez_31 => ?_)
  refine lv_iconst (v := 1) hx hb dX11_doSit_93 (by decide) ?_
  refine lv_iadd hx hb dX11_doSit_94 ?_
  refine lv_topi (fun z_32 ez_32 => ?_)
  have hin_33 : vp_in z_29 575 := vp_in_iff.mpr ⟨by omega, by omega⟩
  refine va_iast hx hb hK hP hD hS 1 0 rfl rfl hin_33 dX11_doSit_95 (fun H locs hP hD hS => ?_)
  obtain ⟨f_34, ef_34⟩ : ∃ z : Nat → Int32, z = upd f_28 (Int32.toNatClampNeg z_29) z_32 := ⟨_, rfl⟩
  have hP : va_P (dC, dI) vwCl [(vo, .inr (12, [.int voth, .ref vmt, .int votp, .int vosz, .int volm, .int voto, .int vofr, .int vokd, .int vonu, .int vosg, .int vofa, .int vopl, .long vowd, .int votd, .ref vmn, .ref vmr, .ref vmk, .ref vms, .ref vma, .ref vmm, .ref vmrn, .ref vmkn, .ref vmik, .ref vmon, .int vosm, .int vohp, .ref vmw, .ref vmf, .ref vmb, .int vomb, .ref vmd, .ref vmc, .int vocm, .int voct, .int vocy, .ref vmx, .int votx, .int vose, .ref vml, .ref vmwr, .int voln, .int vohw, .ref vmno, .int vond, .int voon, .int vowi, .int votop])), (vmn, .inl (cy 0, 575, .inl f_34))] H := by rw [ef_34]; exact hP
  have hD : va_D A [(vo, .inr (12, [.int voth, .ref vmt, .int votp, .int vosz, .int volm, .int voto, .int vofr, .int vokd, .int vonu, .int vosg, .int vofa, .int vopl, .long vowd, .int votd, .ref vmn, .ref vmr, .ref vmk, .ref vms, .ref vma, .ref vmm, .ref vmrn, .ref vmkn, .ref vmik, .ref vmon, .int vosm, .int vohp, .ref vmw, .ref vmf, .ref vmb, .int vomb, .ref vmd, .ref vmc, .int vocm, .int voct, .int vocy, .ref vmx, .int votx, .int vose, .ref vml, .ref vmwr, .int voln, .int vohw, .ref vmno, .int vond, .int voon, .int vowi, .int votop])), (vmn, .inl (cy 0, 575, .inl f_34))] := by rw [ef_34]; exact hD
  have p_f_34 : NW vnh f_34 := by rw [ef_34]; exact p_f_28.upd ⟨by omega, by omega⟩
  rw [hQ9]
  exact re_v f_34 hx hb hr hlocks (show NW vnh f_34 from p_f_34) (hP.sub [0, 1] rfl) (hD.sub [0, 1] rfl rfl) hS dX11_doSit_96
abbrev cX11_live : ByteArray := prog_13_method_67_code
def yX11_live : MethodName := ⟨RX11, "live", "(IIII)V"⟩
theorem t1806 : Cond.code yX11_live cX11_live 5 none ∈ GW := gw_mem 1920 (by decide +kernel) (by decide +kernel)
abbrev O_m_live (cy : Nat → ClassId) (vnh : Nat → Int32) (vo : Nat) (voth : Int32) (vmt : Nat) (votp : Int32) (vosz : Int32) (volm : Int32) (voto : Int32) (vofr : Int32) (vokd : Int32) (vonu : Int32) (vosg : Int32) (vofa : Int32) (vopl : Int32) (vowd : Int64) (votd : Int32) (vmn : Nat) (vmr : Nat) (vmk : Nat) (vms : Nat) (vma : Nat) (vmm : Nat) (vmrn : Nat) (vmkn : Nat) (vmik : Nat) (vmon : Nat) (vosm : Int32) (vohp : Int32) (vmw : Nat) (vmf : Nat) (vmb : Nat) (vomb : Int32) (vmd : Nat) (vmc : Nat) (vocm : Int32) (voct : Int32) (vocy : Int32) (vmx : Nat) (votx : Int32) (vose : Int32) (vml : Nat) (vmwr : Nat) (voln : Int32) (vohw : Int32) (vmno : Nat) (vond : Int32) (voon : Int32) (vowi : Int32) (votop : Int32) (vmnf : Nat → Int32) (vwt : Int32) (vm : Int32) (vx : Int32) (vy : Int32) (u : (Nat → Int32)) : va_W := [(vo, .inr (12, [.int voth, .ref vmt, .int votp, .int vosz, .int volm, .int voto, .int vofr, .int vokd, .int vonu, .int vosg, .int vofa, .int vopl, .long vowd, .int votd, .ref vmn, .ref vmr, .ref vmk, .ref vms, .ref vma, .ref vmm, .ref vmrn, .ref vmkn, .ref vmik, .ref vmon, .int vosm, .int vohp, .ref vmw, .ref vmf, .ref vmb, .int vomb, .ref vmd, .ref vmc, .int vocm, .int voct, .int vocy, .ref vmx, .int votx, .int vose, .ref vml, .ref vmwr, .int voln, .int vohw, .ref vmno, .int vond, .int voon, .int vowi, .int votop])), (vmn, .inl (cy 0, 575, .inl u))]
theorem dX11_live_0 : decode cX11_live 0 = .ok (.iload_n 1, 1) := by decide +kernel
theorem dX11_live_1 : decode cX11_live 1 = .ok (.tableswitch 127 0 4 #[35, 55, 79, 85, 106], 35) := by decide +kernel
theorem dX11_live_36 : decode cX11_live 36 = .ok (.aload_n 0, 1) := by decide +kernel
theorem dX11_live_37 : decode cX11_live 37 = .ok (.getfield 98, 3) := by decide +kernel
theorem dX11_live_40 : decode cX11_live 40 = .ok (.sipush 165, 3) := by decide +kernel
theorem dX11_live_43 : decode cX11_live 43 = .ok (.bipush 10, 2) := by decide +kernel
theorem dX11_live_45 : decode cX11_live 45 = .ok (.iload_n 2, 1) := by decide +kernel
theorem dX11_live_46 : decode cX11_live 46 = .ok (.imul, 1) := by decide +kernel
theorem dX11_live_47 : decode cX11_live 47 = .ok (.iadd, 1) := by decide +kernel
theorem dX11_live_48 : decode cX11_live 48 = .ok (.iload_n 3, 1) := by decide +kernel
theorem dX11_live_49 : decode cX11_live 49 = .ok (.iadd, 1) := by decide +kernel
theorem dX11_live_50 : decode cX11_live 50 = .ok (.dup2, 1) := by decide +kernel
theorem dX11_live_51 : decode cX11_live 51 = .ok (.iaload, 1) := by decide +kernel
theorem dX11_live_52 : decode cX11_live 52 = .ok (.iconst 1, 1) := by decide +kernel
theorem dX11_live_53 : decode cX11_live 53 = .ok (.iadd, 1) := by decide +kernel
theorem dX11_live_54 : decode cX11_live 54 = .ok (.iastore, 1) := by decide +kernel
theorem dX11_live_55 : decode cX11_live 55 = .ok (.return_, 1) := by decide +kernel
theorem dX11_live_56 : decode cX11_live 56 = .ok (.aload_n 0, 1) := by decide +kernel
theorem dX11_live_57 : decode cX11_live 57 = .ok (.getfield 98, 3) := by decide +kernel
theorem dX11_live_60 : decode cX11_live 60 = .ok (.sipush 235, 3) := by decide +kernel
theorem dX11_live_63 : decode cX11_live 63 = .ok (.iload_n 2, 1) := by decide +kernel
theorem dX11_live_64 : decode cX11_live 64 = .ok (.iadd, 1) := by decide +kernel
theorem dX11_live_65 : decode cX11_live 65 = .ok (.iload_n 3, 1) := by decide +kernel
theorem dX11_live_66 : decode cX11_live 66 = .ok (.iastore, 1) := by decide +kernel
theorem dX11_live_67 : decode cX11_live 67 = .ok (.aload_n 0, 1) := by decide +kernel
theorem dX11_live_68 : decode cX11_live 68 = .ok (.getfield 98, 3) := by decide +kernel
theorem dX11_live_71 : decode cX11_live 71 = .ok (.sipush 242, 3) := by decide +kernel
theorem dX11_live_74 : decode cX11_live 74 = .ok (.iload_n 2, 1) := by decide +kernel
theorem dX11_live_75 : decode cX11_live 75 = .ok (.iadd, 1) := by decide +kernel
theorem dX11_live_76 : decode cX11_live 76 = .ok (.iload 4, 2) := by decide +kernel
theorem dX11_live_78 : decode cX11_live 78 = .ok (.iastore, 1) := by decide +kernel
theorem dX11_live_79 : decode cX11_live 79 = .ok (.return_, 1) := by decide +kernel
theorem dX11_live_80 : decode cX11_live 80 = .ok (.aload_n 0, 1) := by decide +kernel
theorem dX11_live_81 : decode cX11_live 81 = .ok (.iload_n 2, 1) := by decide +kernel
theorem dX11_live_82 : decode cX11_live 82 = .ok (.invokevirtual 268, 3) := by decide +kernel
theorem t1807 : Cond.methodLink RX11 268 yX11_back1 ∈ GW := gw_mem 1921 (by decide +kernel) (by decide +kernel)
theorem t1809 : Cond.instanceMethod yX11_back1 ∈ GW := gw_mem 1923 (by decide +kernel) (by decide +kernel)
theorem s79 : Cond.selects RX11 yX11_back1 yX11_back1 ∈ GW := gw_mem 79 (by decide +kernel) (by decide +kernel)
theorem cw_X11_268 {R : Room} {s : State} {args : Array Value} {rm : Room} {mc ms : Nat} (hts : ∀ w ∈ GW, w.before args s = true) (hrc : rm.cells = mc) (hrs : rm.slots = ms) (hR : rm.frames + 1 ≤ R.frames ∧ 8 + (2 + 11) + rm.locals ≤ R.locals) : CallW R s args RX11 RX11 268 yX11_back1 cX11_back1 2 none (wl yX11_back1 cX11_back1 2 none) rm mc ms 1 := cwV 1 hts (gi_V t1807 t1809 s79 t18 t1810) rfl hrc hrs (by decide +kernel) hR
theorem dX11_live_85 : decode cX11_live 85 = .ok (.return_, 1) := by decide +kernel
theorem dX11_live_86 : decode cX11_live 86 = .ok (.aload_n 0, 1) := by decide +kernel
theorem dX11_live_87 : decode cX11_live 87 = .ok (.getfield 98, 3) := by decide +kernel
theorem dX11_live_90 : decode cX11_live 90 = .ok (.sipush 249, 3) := by decide +kernel
theorem dX11_live_93 : decode cX11_live 93 = .ok (.bipush 7, 2) := by decide +kernel
theorem dX11_live_95 : decode cX11_live 95 = .ok (.iload_n 2, 1) := by decide +kernel
theorem dX11_live_96 : decode cX11_live 96 = .ok (.imul, 1) := by decide +kernel
theorem dX11_live_97 : decode cX11_live 97 = .ok (.iadd, 1) := by decide +kernel
theorem dX11_live_98 : decode cX11_live 98 = .ok (.iload_n 3, 1) := by decide +kernel
theorem dX11_live_99 : decode cX11_live 99 = .ok (.iadd, 1) := by decide +kernel
theorem dX11_live_100 : decode cX11_live 100 = .ok (.dup2, 1) := by decide +kernel
theorem dX11_live_101 : decode cX11_live 101 = .ok (.iaload, 1) := by decide +kernel
theorem dX11_live_102 : decode cX11_live 102 = .ok (.iload 4, 2) := by decide +kernel
theorem dX11_live_104 : decode cX11_live 104 = .ok (.iadd, 1) := by decide +kernel
theorem dX11_live_105 : decode cX11_live 105 = .ok (.iastore, 1) := by decide +kernel
theorem dX11_live_106 : decode cX11_live 106 = .ok (.return_, 1) := by decide +kernel
theorem dX11_live_107 : decode cX11_live 107 = .ok (.aload_n 0, 1) := by decide +kernel
theorem dX11_live_108 : decode cX11_live 108 = .ok (.getfield 98, 3) := by decide +kernel
theorem dX11_live_111 : decode cX11_live 111 = .ok (.sipush 249, 3) := by decide +kernel
theorem dX11_live_114 : decode cX11_live 114 = .ok (.bipush 7, 2) := by decide +kernel
theorem dX11_live_116 : decode cX11_live 116 = .ok (.iload_n 2, 1) := by decide +kernel
theorem dX11_live_117 : decode cX11_live 117 = .ok (.imul, 1) := by decide +kernel
theorem dX11_live_118 : decode cX11_live 118 = .ok (.iadd, 1) := by decide +kernel
theorem dX11_live_119 : decode cX11_live 119 = .ok (.iload_n 3, 1) := by decide +kernel
theorem dX11_live_120 : decode cX11_live 120 = .ok (.iadd, 1) := by decide +kernel
theorem dX11_live_121 : decode cX11_live 121 = .ok (.dup2, 1) := by decide +kernel
theorem dX11_live_122 : decode cX11_live 122 = .ok (.iaload, 1) := by decide +kernel
theorem dX11_live_123 : decode cX11_live 123 = .ok (.iload 4, 2) := by decide +kernel
theorem dX11_live_125 : decode cX11_live 125 = .ok (.isub, 1) := by decide +kernel
theorem dX11_live_126 : decode cX11_live 126 = .ok (.iastore, 1) := by decide +kernel
theorem dX11_live_127 : decode cX11_live 127 = .ok (.return_, 1) := by decide +kernel
theorem dX11_live_128 : decode cX11_live 128 = .ok (.aload_n 0, 1) := by decide +kernel
theorem dX11_live_129 : decode cX11_live 129 = .ok (.iload_n 2, 1) := by decide +kernel
theorem dX11_live_130 : decode cX11_live 130 = .ok (.invokevirtual 271, 3) := by decide +kernel
theorem t1811 : Cond.methodLink RX11 271 yX11_doSit ∈ GW := gw_mem 1925 (by decide +kernel) (by decide +kernel)
theorem t1813 : Cond.instanceMethod yX11_doSit ∈ GW := gw_mem 1927 (by decide +kernel) (by decide +kernel)
theorem s80 : Cond.selects RX11 yX11_doSit yX11_doSit ∈ GW := gw_mem 80 (by decide +kernel) (by decide +kernel)
theorem cw_X11_271 {R : Room} {s : State} {args : Array Value} {rm : Room} {mc ms : Nat} (hts : ∀ w ∈ GW, w.before args s = true) (hrc : rm.cells = mc) (hrs : rm.slots = ms) (hR : rm.frames + 1 ≤ R.frames ∧ 8 + (2 + 11) + rm.locals ≤ R.locals) : CallW R s args RX11 RX11 271 yX11_doSit cX11_doSit 2 none (wl yX11_doSit cX11_doSit 2 none) rm mc ms 1 := cwV 1 hts (gi_V t1811 t1813 s80 t18 t1814) rfl hrc hrs (by decide +kernel) hR
theorem dX11_live_133 : decode cX11_live 133 = .ok (.return_, 1) := by decide +kernel
set_option maxHeartbeats 4000000 in
set_option maxRecDepth 100000 in
theorem m_live (l : Launch) (dC : Nat → ClassId) (dI : Nat → Nat → Nat) (cy : Nat → ClassId) (sz : Nat) (vnh : Nat → Int32) (vo : Nat) (voth : Int32) (vmt : Nat) (votp : Int32) (vosz : Int32) (volm : Int32) (voto : Int32) (vofr : Int32) (vokd : Int32) (vonu : Int32) (vosg : Int32) (vofa : Int32) (vopl : Int32) (vowd : Int64) (votd : Int32) (vmn : Nat) (vmr : Nat) (vmk : Nat) (vms : Nat) (vma : Nat) (vmm : Nat) (vmrn : Nat) (vmkn : Nat) (vmik : Nat) (vmon : Nat) (vosm : Int32) (vohp : Int32) (vmw : Nat) (vmf : Nat) (vmb : Nat) (vomb : Int32) (vmd : Nat) (vmc : Nat) (vocm : Int32) (voct : Int32) (vocy : Int32) (vmx : Nat) (votx : Int32) (vose : Int32) (vml : Nat) (vmwr : Nat) (voln : Int32) (vohw : Int32) (vmno : Nat) (vond : Int32) (voon : Int32) (vowi : Int32) (votop : Int32) (vmnf : Nat → Int32) (vwt : Int32) (vm : Int32) (vx : Int32) (vy : Int32) (r_vm : 0 ≤ (vm : Int32).toInt ∧ (vm : Int32).toInt ≤ 6) (r_vx : -1 ≤ (vx : Int32).toInt ∧ (vx : Int32).toInt ≤ 40) (r_vy : -1 ≤ (vy : Int32).toInt ∧ (vy : Int32).toInt ≤ 40) (p_vmnf : NW vnh vmnf) : Met l yX11_live (wl yX11_live cX11_live 5 none) ({ frames := 4, cells := 0, slots := 0, locals := 256 }) (Pw (dC, dI) vwCl cy [(vo, .inr (12, [.int voth, .ref vmt, .int votp, .int vosz, .int volm, .int voto, .int vofr, .int vokd, .int vonu, .int vosg, .int vofa, .int vopl, .long vowd, .int votd, .ref vmn, .ref vmr, .ref vmk, .ref vms, .ref vma, .ref vmm, .ref vmrn, .ref vmkn, .ref vmik, .ref vmon, .int vosm, .int vohp, .ref vmw, .ref vmf, .ref vmb, .int vomb, .ref vmd, .ref vmc, .int vocm, .int voct, .int vocy, .ref vmx, .int votx, .int vose, .ref vml, .ref vmwr, .int voln, .int vohw, .ref vmno, .int vond, .int voon, .int vowi, .int votop])), (vmn, .inl (cy 0, 575, .inl vmnf))] sz [.ref vo, .int vwt, .int vm, .int vx, .int vy] nE) (Qv (dC, dI) vwCl (fun (u : (Nat → Int32)) => (NW vnh u)) (O_m_live cy vnh vo voth vmt votp vosz volm voto vofr vokd vonu vosg vofa vopl vowd votd vmn vmr vmk vms vma vmm vmrn vmkn vmik vmon vosm vohp vmw vmf vmb vomb vmd vmc vocm voct vocy vmx votx vose vml vmwr voln vohw vmno vond voon vowi votop vmnf vwt vm vx vy) (va_A [(vo, .inr (12, [.int voth, .ref vmt, .int votp, .int vosz, .int volm, .int voto, .int vofr, .int vokd, .int vonu, .int vosg, .int vofa, .int vopl, .long vowd, .int votd, .ref vmn, .ref vmr, .ref vmk, .ref vms, .ref vma, .ref vmm, .ref vmrn, .ref vmkn, .ref vmik, .ref vmon, .int vosm, .int vohp, .ref vmw, .ref vmf, .ref vmb, .int vomb, .ref vmd, .ref vmc, .int vocm, .int voct, .int vocy, .ref vmx, .int votx, .int vose, .ref vml, .ref vmwr, .int voln, .int vohw, .ref vmno, .int vond, .int voon, .int vowi, .int votop])), (vmn, .inl (cy 0, 575, .inl vmnf))] sz)) 0 0 (va_A [(vo, .inr (12, [.int voth, .ref vmt, .int votp, .int vosz, .int volm, .int voto, .int vofr, .int vokd, .int vonu, .int vosg, .int vofa, .int vopl, .long vowd, .int votd, .ref vmn, .ref vmr, .ref vmk, .ref vms, .ref vma, .ref vmm, .ref vmrn, .ref vmkn, .ref vmik, .ref vmon, .int vosm, .int vohp, .ref vmw, .ref vmf, .ref vmb, .int vomb, .ref vmd, .ref vmc, .int vocm, .int voct, .int vocy, .ref vmx, .int votx, .int vose, .ref vml, .ref vmwr, .int voln, .int vohw, .ref vmno, .int vond, .int voon, .int vowi, .int votop])), (vmn, .inl (cy 0, 575, .inl vmnf))] sz) := by
  refine mw (Qc := Qv (dC, dI) vwCl (fun (u : (Nat → Int32)) => (NW vnh u)) (O_m_live cy vnh vo voth vmt votp vosz volm voto vofr vokd vonu vosg vofa vopl vowd votd vmn vmr vmk vms vma vmm vmrn vmkn vmik vmon vosm vohp vmw vmf vmb vomb vmd vmc vocm voct vocy vmx votx vose vml vmwr voln vohw vmno vond voon vowi votop vmnf vwt vm vx vy)) RX11 rfl (by decide +kernel) (Nat.le_of_ble_eq_true rfl) ?_
  intro p e s m below meth c A hx hb hr hlocks av9 hav hts hown hnm hml hK hP hD hA hS hE hAe Q9 hQ9 ls hl
  have hl : lv_has ls 5 [(0, .ref vo), (1, .int vwt), (2, .int vm), (3, .int vx), (4, .int vy)] := hl
  refine lv_iload_n hx hb dX11_live_0 rfl (lv_at hl 1 rfl) ?_
  have k_0 : (0 : Int32).toInt = 0 := by decide
  have k_1 : (1 : Int32).toInt = 1 := by decide
  have k_2 : (2 : Int32).toInt = 2 := by decide
  have k_3 : (3 : Int32).toInt = 3 := by decide
  have k_4 : (4 : Int32).toInt = 4 := by decide
  by_cases sw_1_0 : vwt.toInt = 0
  · refine as_i 0 (i_eq.mpr (sw_1_0.trans k_0.symm)) ?_
    refine lv_tableIn (off := 35) (tgt := 36) hx hb dX11_live_1 (by decide) (by decide) (by decide) (by decide) ?_
    refine lv_aload_n hx hb dX11_live_36 rfl (lv_at hl 0 rfl) ?_
    refine gf_X11_98 hx hb hts hown hK hP 0 rfl rfl dX11_live_37 ?_
    refine lv_sipush (v := 165) hx hb dX11_live_40 (by decide) ?_
    refine lv_bipush (v := 10) hx hb dX11_live_43 (by decide) ?_
    refine lv_iload_n hx hb dX11_live_45 rfl (lv_at hl 2 rfl) ?_
    refine lv_imul hx hb dX11_live_46 ?_
    refine lv_topi (fun z_2 ez_2 => ?_)
    have k_10 : (10 : Int32).toInt = 10 := by decide
    have bz_2 : z_2.toInt = vm.toInt * 10 := i_cmul k_10 ez_2 (by omega) (by omega)
    refine lv_iadd hx hb dX11_live_47 ?_
    refine lv_topi (fun z_3 ez_3 => ?_)
    have k_165 : (165 : Int32).toInt = 165 := by decide
    have bz_3 : z_3.toInt = (165 : Int32).toInt + z_2.toInt := i_add ez_3 (by omega) (by omega)
    refine lv_iload_n hx hb dX11_live_48 rfl (lv_at hl 3 rfl) ?_
    refine lv_iadd hx hb dX11_live_49 ?_
    refine lv_topi (fun z_4 ez_4 => ?_)
    have bz_4 : z_4.toInt = z_3.toInt + vx.toInt := i_add ez_4 (by omega) (by omega)
    refine lv_dup2_11 hx hb dX11_live_50 rfl rfl ?_
    have hin_5 : vp_in z_4 575 := vp_in_iff.mpr ⟨by omega, by omega⟩
    refine va_iald hx hb hK hP 1 0 rfl rfl hin_5 dX11_live_51 ?_
    refine lv_topi (fun z_6 ez_6 => ?_)
    refine lv_iconst (v := 1) hx hb dX11_live_52 (by decide) ?_
    refine lv_iadd hx hb dX11_live_53 ?_
    refine lv_topi (fun z_7 ez_7 => ?_)
    have hin_8 : vp_in z_4 575 := vp_in_iff.mpr ⟨by omega, by omega⟩
    refine va_iast hx hb hK hP hD hS 1 0 rfl rfl hin_8 dX11_live_54 (fun H locs hP hD hS => ?_)
    obtain ⟨f_9, ef_9⟩ : ∃ z : Nat → Int32, z = upd vmnf (Int32.toNatClampNeg z_4) z_7 := ⟨_, rfl⟩
    have hP : va_P (dC, dI) vwCl [(vo, .inr (12, [.int voth, .ref vmt, .int votp, .int vosz, .int volm, .int voto, .int vofr, .int vokd, .int vonu, .int vosg, .int vofa, .int vopl, .long vowd, .int votd, .ref vmn, .ref vmr, .ref vmk, .ref vms, .ref vma, .ref vmm, .ref vmrn, .ref vmkn, .ref vmik, .ref vmon, .int vosm, .int vohp, .ref vmw, .ref vmf, .ref vmb, .int vomb, .ref vmd, .ref vmc, .int vocm, .int voct, .int vocy, .ref vmx, .int votx, .int vose, .ref vml, .ref vmwr, .int voln, .int vohw, .ref vmno, .int vond, .int voon, .int vowi, .int votop])), (vmn, .inl (cy 0, 575, .inl f_9))] H := by rw [ef_9]; exact hP
    have hD : va_D A [(vo, .inr (12, [.int voth, .ref vmt, .int votp, .int vosz, .int volm, .int voto, .int vofr, .int vokd, .int vonu, .int vosg, .int vofa, .int vopl, .long vowd, .int votd, .ref vmn, .ref vmr, .ref vmk, .ref vms, .ref vma, .ref vmm, .ref vmrn, .ref vmkn, .ref vmik, .ref vmon, .int vosm, .int vohp, .ref vmw, .ref vmf, .ref vmb, .int vomb, .ref vmd, .ref vmc, .int vocm, .int voct, .int vocy, .ref vmx, .int votx, .int vose, .ref vml, .ref vmwr, .int voln, .int vohw, .ref vmno, .int vond, .int voon, .int vowi, .int votop])), (vmn, .inl (cy 0, 575, .inl f_9))] := by rw [ef_9]; exact hD
    have p_f_9 : NW vnh f_9 := by rw [ef_9]; exact p_vmnf.upd ⟨by omega, by omega⟩
    rw [hQ9]
    exact re_v f_9 hx hb hr hlocks (show NW vnh f_9 from p_f_9) (hP.sub [0, 1] rfl) (hD.sub [0, 1] rfl rfl) hS dX11_live_55
  by_cases sw_1_1 : vwt.toInt = 1
  · refine as_i 1 (i_eq.mpr (sw_1_1.trans k_1.symm)) ?_
    refine lv_tableIn (off := 55) (tgt := 56) hx hb dX11_live_1 (by decide) (by decide) (by decide) (by decide) ?_
    refine lv_aload_n hx hb dX11_live_56 rfl (lv_at hl 0 rfl) ?_
    refine gf_X11_98 hx hb hts hown hK hP 0 rfl rfl dX11_live_57 ?_
    refine lv_sipush (v := 235) hx hb dX11_live_60 (by decide) ?_
    refine lv_iload_n hx hb dX11_live_63 rfl (lv_at hl 2 rfl) ?_
    refine lv_iadd hx hb dX11_live_64 ?_
    refine lv_topi (fun z_10 ez_10 => ?_)
    have k_235 : (235 : Int32).toInt = 235 := by decide
    have bz_10 : z_10.toInt = (235 : Int32).toInt + vm.toInt := i_add ez_10 (by omega) (by omega)
    refine lv_iload_n hx hb dX11_live_65 rfl (lv_at hl 3 rfl) ?_
    have hin_11 : vp_in z_10 575 := vp_in_iff.mpr ⟨by omega, by omega⟩
    refine va_iast hx hb hK hP hD hS 1 0 rfl rfl hin_11 dX11_live_66 (fun H locs hP hD hS => ?_)
    obtain ⟨f_12, ef_12⟩ : ∃ z : Nat → Int32, z = upd vmnf (Int32.toNatClampNeg z_10) vx := ⟨_, rfl⟩
    have hP : va_P (dC, dI) vwCl [(vo, .inr (12, [.int voth, .ref vmt, .int votp, .int vosz, .int volm, .int voto, .int vofr, .int vokd, .int vonu, .int vosg, .int vofa, .int vopl, .long vowd, .int votd, .ref vmn, .ref vmr, .ref vmk, .ref vms, .ref vma, .ref vmm, .ref vmrn, .ref vmkn, .ref vmik, .ref vmon, .int vosm, .int vohp, .ref vmw, .ref vmf, .ref vmb, .int vomb, .ref vmd, .ref vmc, .int vocm, .int voct, .int vocy, .ref vmx, .int votx, .int vose, .ref vml, .ref vmwr, .int voln, .int vohw, .ref vmno, .int vond, .int voon, .int vowi, .int votop])), (vmn, .inl (cy 0, 575, .inl f_12))] H := by rw [ef_12]; exact hP
    have hD : va_D A [(vo, .inr (12, [.int voth, .ref vmt, .int votp, .int vosz, .int volm, .int voto, .int vofr, .int vokd, .int vonu, .int vosg, .int vofa, .int vopl, .long vowd, .int votd, .ref vmn, .ref vmr, .ref vmk, .ref vms, .ref vma, .ref vmm, .ref vmrn, .ref vmkn, .ref vmik, .ref vmon, .int vosm, .int vohp, .ref vmw, .ref vmf, .ref vmb, .int vomb, .ref vmd, .ref vmc, .int vocm, .int voct, .int vocy, .ref vmx, .int votx, .int vose, .ref vml, .ref vmwr, .int voln, .int vohw, .ref vmno, .int vond, .int voon, .int vowi, .int votop])), (vmn, .inl (cy 0, 575, .inl f_12))] := by rw [ef_12]; exact hD
    have p_f_12 : NW vnh f_12 := by rw [ef_12]; exact p_vmnf.upd ⟨by omega, by omega⟩
    refine lv_aload_n hx hb dX11_live_67 rfl (lv_at hl 0 rfl) ?_
    refine gf_X11_98 hx hb hts hown hK hP 0 rfl rfl dX11_live_68 ?_
    refine lv_sipush (v := 242) hx hb dX11_live_71 (by decide) ?_
    refine lv_iload_n hx hb dX11_live_74 rfl (lv_at hl 2 rfl) ?_
    refine lv_iadd hx hb dX11_live_75 ?_
    refine lv_topi (fun z_13 ez_13 => ?_)
    have k_242 : (242 : Int32).toInt = 242 := by decide
    have bz_13 : z_13.toInt = (242 : Int32).toInt + vm.toInt := i_add ez_13 (by omega) (by omega)
    refine lv_iload hx hb dX11_live_76 (lv_at hl 4 rfl) ?_
    have hin_14 : vp_in z_13 575 := vp_in_iff.mpr ⟨by omega, by omega⟩
    refine va_iast hx hb hK hP hD hS 1 0 rfl rfl hin_14 dX11_live_78 (fun H locs hP hD hS => ?_)
    obtain ⟨f_15, ef_15⟩ : ∃ z : Nat → Int32, z = upd f_12 (Int32.toNatClampNeg z_13) vy := ⟨_, rfl⟩
    have hP : va_P (dC, dI) vwCl [(vo, .inr (12, [.int voth, .ref vmt, .int votp, .int vosz, .int volm, .int voto, .int vofr, .int vokd, .int vonu, .int vosg, .int vofa, .int vopl, .long vowd, .int votd, .ref vmn, .ref vmr, .ref vmk, .ref vms, .ref vma, .ref vmm, .ref vmrn, .ref vmkn, .ref vmik, .ref vmon, .int vosm, .int vohp, .ref vmw, .ref vmf, .ref vmb, .int vomb, .ref vmd, .ref vmc, .int vocm, .int voct, .int vocy, .ref vmx, .int votx, .int vose, .ref vml, .ref vmwr, .int voln, .int vohw, .ref vmno, .int vond, .int voon, .int vowi, .int votop])), (vmn, .inl (cy 0, 575, .inl f_15))] H := by rw [ef_15]; exact hP
    have hD : va_D A [(vo, .inr (12, [.int voth, .ref vmt, .int votp, .int vosz, .int volm, .int voto, .int vofr, .int vokd, .int vonu, .int vosg, .int vofa, .int vopl, .long vowd, .int votd, .ref vmn, .ref vmr, .ref vmk, .ref vms, .ref vma, .ref vmm, .ref vmrn, .ref vmkn, .ref vmik, .ref vmon, .int vosm, .int vohp, .ref vmw, .ref vmf, .ref vmb, .int vomb, .ref vmd, .ref vmc, .int vocm, .int voct, .int vocy, .ref vmx, .int votx, .int vose, .ref vml, .ref vmwr, .int voln, .int vohw, .ref vmno, .int vond, .int voon, .int vowi, .int votop])), (vmn, .inl (cy 0, 575, .inl f_15))] := by rw [ef_15]; exact hD
    have p_f_15 : NW vnh f_15 := by rw [ef_15]; exact p_f_12.upd ⟨by omega, by omega⟩
    rw [hQ9]
    exact re_v f_15 hx hb hr hlocks (show NW vnh f_15 from p_f_15) (hP.sub [0, 1] rfl) (hD.sub [0, 1] rfl rfl) hS dX11_live_79
  by_cases sw_1_2 : vwt.toInt = 2
  · refine as_i 2 (i_eq.mpr (sw_1_2.trans k_2.symm)) ?_
    refine lv_tableIn (off := 79) (tgt := 80) hx hb dX11_live_1 (by decide) (by decide) (by decide) (by decide) ?_
    refine lv_aload_n hx hb dX11_live_80 rfl (lv_at hl 0 rfl) ?_
    refine lv_iload_n hx hb dX11_live_81 rfl (lv_at hl 2 rfl) ?_
    refine jn_v (wr := []) (rV (As := [.int vm]) (rest := []) (ci := 12) ⟨hx, hb, hml, hown, hts⟩ (m_back1 l dC dI cy _ vnh vo voth vmt votp vosz volm voto vofr vokd vonu vosg vofa vopl vowd votd vmn vmr vmk vms vma vmm vmrn vmkn vmik vmon vosm vohp vmw vmf vmb vomb vmd vmc vocm voct vocy vmx votx vose vml vmwr voln vohw vmno vond voon vowi votop vmnf vm ⟨by omega, by omega⟩ p_vmnf) (cw_X11_268 hts rfl rfl ⟨Nat.le_of_ble_eq_true rfl, Nat.le_of_ble_eq_true rfl⟩) hP hD hK [0, 1] rfl rfl rfl rfl bl0 e0 rfl hl.1 rfl (Nat.le_of_ble_eq_true rfl) dX11_live_82 ⟨Nat.le_of_ble_eq_true rfl, Nat.le_of_ble_eq_true rfl⟩) hP hD hS hA [0, 1] [] rfl rfl rfl (by decide) (fun u_18 H locs hp_17 hP hD hS => ?_)
    obtain ⟨vmnf_19, rfl⟩ : ∃ z, z = u_18 := ⟨_, rfl⟩
    have hp_17 : (NW vnh vmnf_19) := hp_17
    have q_20 := hp_17
    have hP : va_P (dC, dI) vwCl [(vo, .inr (12, [.int voth, .ref vmt, .int votp, .int vosz, .int volm, .int voto, .int vofr, .int vokd, .int vonu, .int vosg, .int vofa, .int vopl, .long vowd, .int votd, .ref vmn, .ref vmr, .ref vmk, .ref vms, .ref vma, .ref vmm, .ref vmrn, .ref vmkn, .ref vmik, .ref vmon, .int vosm, .int vohp, .ref vmw, .ref vmf, .ref vmb, .int vomb, .ref vmd, .ref vmc, .int vocm, .int voct, .int vocy, .ref vmx, .int votx, .int vose, .ref vml, .ref vmwr, .int voln, .int vohw, .ref vmno, .int vond, .int voon, .int vowi, .int votop])), (vmn, .inl (cy 0, 575, .inl vmnf_19))] H := hP
    have hD : va_D A [(vo, .inr (12, [.int voth, .ref vmt, .int votp, .int vosz, .int volm, .int voto, .int vofr, .int vokd, .int vonu, .int vosg, .int vofa, .int vopl, .long vowd, .int votd, .ref vmn, .ref vmr, .ref vmk, .ref vms, .ref vma, .ref vmm, .ref vmrn, .ref vmkn, .ref vmik, .ref vmon, .int vosm, .int vohp, .ref vmw, .ref vmf, .ref vmb, .int vomb, .ref vmd, .ref vmc, .int vocm, .int voct, .int vocy, .ref vmx, .int votx, .int vose, .ref vml, .ref vmwr, .int voln, .int vohw, .ref vmno, .int vond, .int voon, .int vowi, .int votop])), (vmn, .inl (cy 0, 575, .inl vmnf_19))] := hD
    rw [hQ9]
    exact re_v vmnf_19 hx hb hr hlocks (show NW vnh vmnf_19 from q_20) (hP.sub [0, 1] rfl) (hD.sub [0, 1] rfl rfl) hS dX11_live_85
  by_cases sw_1_3 : vwt.toInt = 3
  · refine as_i 3 (i_eq.mpr (sw_1_3.trans k_3.symm)) ?_
    refine lv_tableIn (off := 85) (tgt := 86) hx hb dX11_live_1 (by decide) (by decide) (by decide) (by decide) ?_
    refine lv_aload_n hx hb dX11_live_86 rfl (lv_at hl 0 rfl) ?_
    refine gf_X11_98 hx hb hts hown hK hP 0 rfl rfl dX11_live_87 ?_
    refine lv_sipush (v := 249) hx hb dX11_live_90 (by decide) ?_
    refine lv_bipush (v := 7) hx hb dX11_live_93 (by decide) ?_
    refine lv_iload_n hx hb dX11_live_95 rfl (lv_at hl 2 rfl) ?_
    refine lv_imul hx hb dX11_live_96 ?_
    refine lv_topi (fun z_21 ez_21 => ?_)
    have k_7 : (7 : Int32).toInt = 7 := by decide
    have bz_21 : z_21.toInt = vm.toInt * 7 := i_cmul k_7 ez_21 (by omega) (by omega)
    refine lv_iadd hx hb dX11_live_97 ?_
    refine lv_topi (fun z_22 ez_22 => ?_)
    have k_249 : (249 : Int32).toInt = 249 := by decide
    have bz_22 : z_22.toInt = (249 : Int32).toInt + z_21.toInt := i_add ez_22 (by omega) (by omega)
    refine lv_iload_n hx hb dX11_live_98 rfl (lv_at hl 3 rfl) ?_
    refine lv_iadd hx hb dX11_live_99 ?_
    refine lv_topi (fun z_23 ez_23 => ?_)
    have bz_23 : z_23.toInt = z_22.toInt + vx.toInt := i_add ez_23 (by omega) (by omega)
    refine lv_dup2_11 hx hb dX11_live_100 rfl rfl ?_
    have hin_24 : vp_in z_23 575 := vp_in_iff.mpr ⟨by omega, by omega⟩
    refine va_iald hx hb hK hP 1 0 rfl rfl hin_24 dX11_live_101 ?_
    refine lv_topi (fun z_25 ez_25 => ?_)
    refine lv_iload hx hb dX11_live_102 (lv_at hl 4 rfl) ?_
    refine lv_iadd hx hb dX11_live_104 ?_
    refine lv_topi (fun z_26 ez_26 => ?_)
    have hin_27 : vp_in z_23 575 := vp_in_iff.mpr ⟨by omega, by omega⟩
    refine va_iast hx hb hK hP hD hS 1 0 rfl rfl hin_27 dX11_live_105 (fun H locs hP hD hS => ?_)
    obtain ⟨f_28, ef_28⟩ : ∃ z : Nat → Int32, z = upd vmnf (Int32.toNatClampNeg z_23) z_26 := ⟨_, rfl⟩
    have hP : va_P (dC, dI) vwCl [(vo, .inr (12, [.int voth, .ref vmt, .int votp, .int vosz, .int volm, .int voto, .int vofr, .int vokd, .int vonu, .int vosg, .int vofa, .int vopl, .long vowd, .int votd, .ref vmn, .ref vmr, .ref vmk, .ref vms, .ref vma, .ref vmm, .ref vmrn, .ref vmkn, .ref vmik, .ref vmon, .int vosm, .int vohp, .ref vmw, .ref vmf, .ref vmb, .int vomb, .ref vmd, .ref vmc, .int vocm, .int voct, .int vocy, .ref vmx, .int votx, .int vose, .ref vml, .ref vmwr, .int voln, .int vohw, .ref vmno, .int vond, .int voon, .int vowi, .int votop])), (vmn, .inl (cy 0, 575, .inl f_28))] H := by rw [ef_28]; exact hP
    have hD : va_D A [(vo, .inr (12, [.int voth, .ref vmt, .int votp, .int vosz, .int volm, .int voto, .int vofr, .int vokd, .int vonu, .int vosg, .int vofa, .int vopl, .long vowd, .int votd, .ref vmn, .ref vmr, .ref vmk, .ref vms, .ref vma, .ref vmm, .ref vmrn, .ref vmkn, .ref vmik, .ref vmon, .int vosm, .int vohp, .ref vmw, .ref vmf, .ref vmb, .int vomb, .ref vmd, .ref vmc, .int vocm, .int voct, .int vocy, .ref vmx, .int votx, .int vose, .ref vml, .ref vmwr, .int voln, .int vohw, .ref vmno, .int vond, .int voon, .int vowi, .int votop])), (vmn, .inl (cy 0, 575, .inl f_28))] := by rw [ef_28]; exact hD
    have p_f_28 : NW vnh f_28 := by rw [ef_28]; exact p_vmnf.upd ⟨by omega, by omega⟩
    rw [hQ9]
    exact re_v f_28 hx hb hr hlocks (show NW vnh f_28 from p_f_28) (hP.sub [0, 1] rfl) (hD.sub [0, 1] rfl rfl) hS dX11_live_106
  by_cases sw_1_4 : vwt.toInt = 4
  · refine as_i 4 (i_eq.mpr (sw_1_4.trans k_4.symm)) ?_
    refine lv_tableIn (off := 106) (tgt := 107) hx hb dX11_live_1 (by decide) (by decide) (by decide) (by decide) ?_
    refine lv_aload_n hx hb dX11_live_107 rfl (lv_at hl 0 rfl) ?_
    refine gf_X11_98 hx hb hts hown hK hP 0 rfl rfl dX11_live_108 ?_
    refine lv_sipush (v := 249) hx hb dX11_live_111 (by decide) ?_
    refine lv_bipush (v := 7) hx hb dX11_live_114 (by decide) ?_
    refine lv_iload_n hx hb dX11_live_116 rfl (lv_at hl 2 rfl) ?_
    refine lv_imul hx hb dX11_live_117 ?_
    refine lv_topi (fun z_29 ez_29 => ?_)
    have k_7 : (7 : Int32).toInt = 7 := by decide
    have bz_29 : z_29.toInt = vm.toInt * 7 := i_cmul k_7 ez_29 (by omega) (by omega)
    refine lv_iadd hx hb dX11_live_118 ?_
    refine lv_topi (fun z_30 ez_30 => ?_)
    have k_249 : (249 : Int32).toInt = 249 := by decide
    have bz_30 : z_30.toInt = (249 : Int32).toInt + z_29.toInt := i_add ez_30 (by omega) (by omega)
    refine lv_iload_n hx hb dX11_live_119 rfl (lv_at hl 3 rfl) ?_
    refine lv_iadd hx hb dX11_live_120 ?_
    refine lv_topi (fun z_31 ez_31 => ?_)
    have bz_31 : z_31.toInt = z_30.toInt + vx.toInt := i_add ez_31 (by omega) (by omega)
    refine lv_dup2_11 hx hb dX11_live_121 rfl rfl ?_
    have hin_32 : vp_in z_31 575 := vp_in_iff.mpr ⟨by omega, by omega⟩
    refine va_iald hx hb hK hP 1 0 rfl rfl hin_32 dX11_live_122 ?_
    refine lv_topi (fun z_33 ez_33 => ?_)
    refine lv_iload hx hb dX11_live_123 (lv_at hl 4 rfl) ?_
    refine lv_isub hx hb dX11_live_125 ?_
    refine lv_topi (fun z_34 ez_34 => ?_)
    have hin_35 : vp_in z_31 575 := vp_in_iff.mpr ⟨by omega, by omega⟩
    refine va_iast hx hb hK hP hD hS 1 0 rfl rfl hin_35 dX11_live_126 (fun H locs hP hD hS => ?_)
    obtain ⟨f_36, ef_36⟩ : ∃ z : Nat → Int32, z = upd vmnf (Int32.toNatClampNeg z_31) z_34 := ⟨_, rfl⟩
    have hP : va_P (dC, dI) vwCl [(vo, .inr (12, [.int voth, .ref vmt, .int votp, .int vosz, .int volm, .int voto, .int vofr, .int vokd, .int vonu, .int vosg, .int vofa, .int vopl, .long vowd, .int votd, .ref vmn, .ref vmr, .ref vmk, .ref vms, .ref vma, .ref vmm, .ref vmrn, .ref vmkn, .ref vmik, .ref vmon, .int vosm, .int vohp, .ref vmw, .ref vmf, .ref vmb, .int vomb, .ref vmd, .ref vmc, .int vocm, .int voct, .int vocy, .ref vmx, .int votx, .int vose, .ref vml, .ref vmwr, .int voln, .int vohw, .ref vmno, .int vond, .int voon, .int vowi, .int votop])), (vmn, .inl (cy 0, 575, .inl f_36))] H := by rw [ef_36]; exact hP
    have hD : va_D A [(vo, .inr (12, [.int voth, .ref vmt, .int votp, .int vosz, .int volm, .int voto, .int vofr, .int vokd, .int vonu, .int vosg, .int vofa, .int vopl, .long vowd, .int votd, .ref vmn, .ref vmr, .ref vmk, .ref vms, .ref vma, .ref vmm, .ref vmrn, .ref vmkn, .ref vmik, .ref vmon, .int vosm, .int vohp, .ref vmw, .ref vmf, .ref vmb, .int vomb, .ref vmd, .ref vmc, .int vocm, .int voct, .int vocy, .ref vmx, .int votx, .int vose, .ref vml, .ref vmwr, .int voln, .int vohw, .ref vmno, .int vond, .int voon, .int vowi, .int votop])), (vmn, .inl (cy 0, 575, .inl f_36))] := by rw [ef_36]; exact hD
    have p_f_36 : NW vnh f_36 := by rw [ef_36]; exact p_vmnf.upd ⟨by omega, by omega⟩
    rw [hQ9]
    exact re_v f_36 hx hb hr hlocks (show NW vnh f_36 from p_f_36) (hP.sub [0, 1] rfl) (hD.sub [0, 1] rfl rfl) hS dX11_live_127
  refine lv_tableOut (tgt := 128) hx hb dX11_live_1 (by omega) (by decide) ?_
  refine lv_aload_n hx hb dX11_live_128 rfl (lv_at hl 0 rfl) ?_
  refine lv_iload_n hx hb dX11_live_129 rfl (lv_at hl 2 rfl) ?_
  refine jn_v (wr := []) (rV (As := [.int vm]) (rest := []) (ci := 12) ⟨hx, hb, hml, hown, hts⟩ (m_doSit l dC dI cy _ vnh vo voth vmt votp vosz volm voto vofr vokd vonu vosg vofa vopl vowd votd vmn vmr vmk vms vma vmm vmrn vmkn vmik vmon vosm vohp vmw vmf vmb vomb vmd vmc vocm voct vocy vmx votx vose vml vmwr voln vohw vmno vond voon vowi votop vmnf vm ⟨by omega, by omega⟩ p_vmnf) (cw_X11_271 hts rfl rfl ⟨Nat.le_of_ble_eq_true rfl, Nat.le_of_ble_eq_true rfl⟩) hP hD hK [0, 1] rfl rfl rfl rfl bl0 e0 rfl hl.1 rfl (Nat.le_of_ble_eq_true rfl) dX11_live_130 ⟨Nat.le_of_ble_eq_true rfl, Nat.le_of_ble_eq_true rfl⟩) hP hD hS hA [0, 1] [] rfl rfl rfl (by decide) (fun u_39 H locs hp_38 hP hD hS => ?_)
  obtain ⟨vmnf_40, rfl⟩ : ∃ z, z = u_39 := ⟨_, rfl⟩
  have hp_38 : (NW vnh vmnf_40) := hp_38
  have q_41 := hp_38
  have hP : va_P (dC, dI) vwCl [(vo, .inr (12, [.int voth, .ref vmt, .int votp, .int vosz, .int volm, .int voto, .int vofr, .int vokd, .int vonu, .int vosg, .int vofa, .int vopl, .long vowd, .int votd, .ref vmn, .ref vmr, .ref vmk, .ref vms, .ref vma, .ref vmm, .ref vmrn, .ref vmkn, .ref vmik, .ref vmon, .int vosm, .int vohp, .ref vmw, .ref vmf, .ref vmb, .int vomb, .ref vmd, .ref vmc, .int vocm, .int voct, .int vocy, .ref vmx, .int votx, .int vose, .ref vml, .ref vmwr, .int voln, .int vohw, .ref vmno, .int vond, .int voon, .int vowi, .int votop])), (vmn, .inl (cy 0, 575, .inl vmnf_40))] H := hP
  have hD : va_D A [(vo, .inr (12, [.int voth, .ref vmt, .int votp, .int vosz, .int volm, .int voto, .int vofr, .int vokd, .int vonu, .int vosg, .int vofa, .int vopl, .long vowd, .int votd, .ref vmn, .ref vmr, .ref vmk, .ref vms, .ref vma, .ref vmm, .ref vmrn, .ref vmkn, .ref vmik, .ref vmon, .int vosm, .int vohp, .ref vmw, .ref vmf, .ref vmb, .int vomb, .ref vmd, .ref vmc, .int vocm, .int voct, .int vocy, .ref vmx, .int votx, .int vose, .ref vml, .ref vmwr, .int voln, .int vohw, .ref vmno, .int vond, .int voon, .int vowi, .int votop])), (vmn, .inl (cy 0, 575, .inl vmnf_40))] := hD
  rw [hQ9]
  exact re_v vmnf_40 hx hb hr hlocks (show NW vnh vmnf_40 from q_41) (hP.sub [0, 1] rfl) (hD.sub [0, 1] rfl rfl) hS dX11_live_133
abbrev cX11_doIt : ByteArray := prog_13_method_68_code
def yX11_doIt : MethodName := ⟨RX11, "doIt", "(IIII)I"⟩
theorem t1794 : Cond.code yX11_doIt cX11_doIt 6 (some .int) ∈ GW := gw_mem 1908 (by decide +kernel) (by decide +kernel)
abbrev O_m_doIt (cy : Nat → ClassId) (vnh : Nat → Int32) (vo : Nat) (voth : Int32) (vmt : Nat) (votp : Int32) (vosz : Int32) (volm : Int32) (voto : Int32) (vofr : Int32) (vokd : Int32) (vonu : Int32) (vosg : Int32) (vofa : Int32) (vopl : Int32) (vowd : Int64) (votd : Int32) (vmn : Nat) (vmr : Nat) (vmk : Nat) (vms : Nat) (vma : Nat) (vmm : Nat) (vmrn : Nat) (vmkn : Nat) (vmik : Nat) (vmon : Nat) (vosm : Int32) (vohp : Int32) (vmw : Nat) (vmf : Nat) (vmb : Nat) (vomb : Int32) (vmd : Nat) (vmc : Nat) (vocm : Int32) (voct : Int32) (vocy : Int32) (vmx : Nat) (votx : Int32) (vose : Int32) (vml : Nat) (vmwr : Nat) (voln : Int32) (vohw : Int32) (vmno : Nat) (vond : Int32) (voon : Int32) (vowi : Int32) (votop : Int32) (vmnf : Nat → Int32) (vmsf : Nat → Int32) (vwt : Int32) (vm : Int32) (vx : Int32) (vy : Int32) (u : (Nat → Int32) × (Nat → Int32) × Int32) : va_W := [(vo, .inr (12, [.int voth, .ref vmt, .int votp, .int vosz, .int volm, .int voto, .int vofr, .int vokd, .int vonu, .int vosg, .int vofa, .int vopl, .long vowd, .int votd, .ref vmn, .ref vmr, .ref vmk, .ref vms, .ref vma, .ref vmm, .ref vmrn, .ref vmkn, .ref vmik, .ref vmon, .int u.2.2, .int vohp, .ref vmw, .ref vmf, .ref vmb, .int vomb, .ref vmd, .ref vmc, .int vocm, .int voct, .int vocy, .ref vmx, .int votx, .int vose, .ref vml, .ref vmwr, .int voln, .int vohw, .ref vmno, .int vond, .int voon, .int vowi, .int votop])), (vmn, .inl (cy 0, 575, .inl u.1)), (vms, .inl (cy 0, 1408, .inl u.2.1))]
theorem dX11_doIt_0 : decode cX11_doIt 0 = .ok (.aload_n 0, 1) := by decide +kernel
theorem dX11_doIt_1 : decode cX11_doIt 1 = .ok (.iload_n 1, 1) := by decide +kernel
theorem dX11_doIt_2 : decode cX11_doIt 2 = .ok (.iload_n 2, 1) := by decide +kernel
theorem dX11_doIt_3 : decode cX11_doIt 3 = .ok (.iload_n 3, 1) := by decide +kernel
theorem dX11_doIt_4 : decode cX11_doIt 4 = .ok (.iload 4, 2) := by decide +kernel
theorem dX11_doIt_6 : decode cX11_doIt 6 = .ok (.invokevirtual 274, 3) := by decide +kernel
theorem t1795 : Cond.methodLink RX11 274 yX11_why ∈ GW := gw_mem 1909 (by decide +kernel) (by decide +kernel)
theorem t1797 : Cond.instanceMethod yX11_why ∈ GW := gw_mem 1911 (by decide +kernel) (by decide +kernel)
theorem s76 : Cond.selects RX11 yX11_why yX11_why ∈ GW := gw_mem 76 (by decide +kernel) (by decide +kernel)
theorem cw_X11_274 {R : Room} {s : State} {args : Array Value} {rm : Room} {mc ms : Nat} (hts : ∀ w ∈ GW, w.before args s = true) (hrc : rm.cells = mc) (hrs : rm.slots = ms) (hR : rm.frames + 1 ≤ R.frames ∧ 8 + (5 + 11) + rm.locals ≤ R.locals) : CallW R s args RX11 RX11 274 yX11_why cX11_why 5 (some .int) (wl yX11_why cX11_why 5 (some .int)) rm mc ms 4 := cwV 4 hts (gi_V t1795 t1797 s76 t18 t1798) rfl hrc hrs (by decide +kernel) hR
theorem dX11_doIt_9 : decode cX11_doIt 9 = .ok (.istore 5, 2) := by decide +kernel
theorem dX11_doIt_11 : decode cX11_doIt 11 = .ok (.iload 5, 2) := by decide +kernel
theorem dX11_doIt_13 : decode cX11_doIt 13 = .ok (.ifCond .eq 6, 3) := by decide +kernel
theorem dX11_doIt_19 : decode cX11_doIt 19 = .ok (.aload_n 0, 1) := by decide +kernel
theorem dX11_doIt_20 : decode cX11_doIt 20 = .ok (.invokevirtual 278, 3) := by decide +kernel
theorem t1799 : Cond.methodLink RX11 278 yX11_snap ∈ GW := gw_mem 1913 (by decide +kernel) (by decide +kernel)
theorem t1801 : Cond.instanceMethod yX11_snap ∈ GW := gw_mem 1915 (by decide +kernel) (by decide +kernel)
theorem s77 : Cond.selects RX11 yX11_snap yX11_snap ∈ GW := gw_mem 77 (by decide +kernel) (by decide +kernel)
theorem cw_X11_278 {R : Room} {s : State} {args : Array Value} {rm : Room} {mc ms : Nat} (hts : ∀ w ∈ GW, w.before args s = true) (hrc : rm.cells = mc) (hrs : rm.slots = ms) (hR : rm.frames + 1 ≤ R.frames ∧ 8 + (2 + 11) + rm.locals ≤ R.locals) : CallW R s args RX11 RX11 278 yX11_snap cX11_snap 2 none (wl yX11_snap cX11_snap 2 none) rm mc ms 0 := cwV 0 hts (gi_V t1799 t1801 s77 t18 t1802) rfl hrc hrs (by decide +kernel) hR
theorem dX11_doIt_23 : decode cX11_doIt 23 = .ok (.aload_n 0, 1) := by decide +kernel
theorem dX11_doIt_24 : decode cX11_doIt 24 = .ok (.iload_n 1, 1) := by decide +kernel
theorem dX11_doIt_25 : decode cX11_doIt 25 = .ok (.iload_n 2, 1) := by decide +kernel
theorem dX11_doIt_26 : decode cX11_doIt 26 = .ok (.iload_n 3, 1) := by decide +kernel
theorem dX11_doIt_27 : decode cX11_doIt 27 = .ok (.iload 4, 2) := by decide +kernel
theorem dX11_doIt_29 : decode cX11_doIt 29 = .ok (.invokevirtual 281, 3) := by decide +kernel
theorem t1803 : Cond.methodLink RX11 281 yX11_live ∈ GW := gw_mem 1917 (by decide +kernel) (by decide +kernel)
theorem t1805 : Cond.instanceMethod yX11_live ∈ GW := gw_mem 1919 (by decide +kernel) (by decide +kernel)
theorem s78 : Cond.selects RX11 yX11_live yX11_live ∈ GW := gw_mem 78 (by decide +kernel) (by decide +kernel)
theorem cw_X11_281 {R : Room} {s : State} {args : Array Value} {rm : Room} {mc ms : Nat} (hts : ∀ w ∈ GW, w.before args s = true) (hrc : rm.cells = mc) (hrs : rm.slots = ms) (hR : rm.frames + 1 ≤ R.frames ∧ 8 + (5 + 11) + rm.locals ≤ R.locals) : CallW R s args RX11 RX11 281 yX11_live cX11_live 5 none (wl yX11_live cX11_live 5 none) rm mc ms 4 := cwV 4 hts (gi_V t1803 t1805 s78 t18 t1806) rfl hrc hrs (by decide +kernel) hR
theorem dX11_doIt_32 : decode cX11_doIt 32 = .ok (.iconst 0, 1) := by decide +kernel
theorem dX11_doIt_33 : decode cX11_doIt 33 = .ok (.ireturn, 1) := by decide +kernel
theorem dX11_doIt_16 : decode cX11_doIt 16 = .ok (.iload 5, 2) := by decide +kernel
theorem dX11_doIt_18 : decode cX11_doIt 18 = .ok (.ireturn, 1) := by decide +kernel
set_option maxHeartbeats 4000000 in
set_option maxRecDepth 100000 in
theorem m_doIt (l : Launch) (dC : Nat → ClassId) (dI : Nat → Nat → Nat) (cy : Nat → ClassId) (sz : Nat) (vnh : Nat → Int32) (vo : Nat) (voth : Int32) (vmt : Nat) (votp : Int32) (vosz : Int32) (volm : Int32) (voto : Int32) (vofr : Int32) (vokd : Int32) (vonu : Int32) (vosg : Int32) (vofa : Int32) (vopl : Int32) (vowd : Int64) (votd : Int32) (vmn : Nat) (vmr : Nat) (vmk : Nat) (vms : Nat) (vma : Nat) (vmm : Nat) (vmrn : Nat) (vmkn : Nat) (vmik : Nat) (vmon : Nat) (vosm : Int32) (vohp : Int32) (vmw : Nat) (vmf : Nat) (vmb : Nat) (vomb : Int32) (vmd : Nat) (vmc : Nat) (vocm : Int32) (voct : Int32) (vocy : Int32) (vmx : Nat) (votx : Int32) (vose : Int32) (vml : Nat) (vmwr : Nat) (voln : Int32) (vohw : Int32) (vmno : Nat) (vond : Int32) (voon : Int32) (vowi : Int32) (votop : Int32) (vmnf : Nat → Int32) (vmsf : Nat → Int32) (vwt : Int32) (vm : Int32) (vx : Int32) (vy : Int32) (r_vosm : 0 ≤ (vosm : Int32).toInt ∧ (vosm : Int32).toInt ≤ 8) (r_vm : 0 ≤ (vm : Int32).toInt ∧ (vm : Int32).toInt ≤ 6) (r_vx : -1 ≤ (vx : Int32).toInt ∧ (vx : Int32).toInt ≤ 40) (r_vy : -1 ≤ (vy : Int32).toInt ∧ (vy : Int32).toInt ≤ 40) (p_vmnf : NW vnh vmnf) : Met l yX11_doIt (wl yX11_doIt cX11_doIt 6 (some .int)) ({ frames := 5, cells := 0, slots := 0, locals := 320 }) (Pw (dC, dI) vwCl cy [(vo, .inr (12, [.int voth, .ref vmt, .int votp, .int vosz, .int volm, .int voto, .int vofr, .int vokd, .int vonu, .int vosg, .int vofa, .int vopl, .long vowd, .int votd, .ref vmn, .ref vmr, .ref vmk, .ref vms, .ref vma, .ref vmm, .ref vmrn, .ref vmkn, .ref vmik, .ref vmon, .int vosm, .int vohp, .ref vmw, .ref vmf, .ref vmb, .int vomb, .ref vmd, .ref vmc, .int vocm, .int voct, .int vocy, .ref vmx, .int votx, .int vose, .ref vml, .ref vmwr, .int voln, .int vohw, .ref vmno, .int vond, .int voon, .int vowi, .int votop])), (vmn, .inl (cy 0, 575, .inl vmnf)), (vms, .inl (cy 0, 1408, .inl vmsf))] sz [.ref vo, .int vwt, .int vm, .int vx, .int vy] nE) (Qi (dC, dI) vwCl (fun (r : Int32) (u : (Nat → Int32) × (Nat → Int32) × Int32) => (NW vnh u.1) ∧ (0 ≤ (u.2.2 : Int32).toInt ∧ (u.2.2 : Int32).toInt ≤ 8)) (O_m_doIt cy vnh vo voth vmt votp vosz volm voto vofr vokd vonu vosg vofa vopl vowd votd vmn vmr vmk vms vma vmm vmrn vmkn vmik vmon vosm vohp vmw vmf vmb vomb vmd vmc vocm voct vocy vmx votx vose vml vmwr voln vohw vmno vond voon vowi votop vmnf vmsf vwt vm vx vy) (va_A [(vo, .inr (12, [.int voth, .ref vmt, .int votp, .int vosz, .int volm, .int voto, .int vofr, .int vokd, .int vonu, .int vosg, .int vofa, .int vopl, .long vowd, .int votd, .ref vmn, .ref vmr, .ref vmk, .ref vms, .ref vma, .ref vmm, .ref vmrn, .ref vmkn, .ref vmik, .ref vmon, .int vosm, .int vohp, .ref vmw, .ref vmf, .ref vmb, .int vomb, .ref vmd, .ref vmc, .int vocm, .int voct, .int vocy, .ref vmx, .int votx, .int vose, .ref vml, .ref vmwr, .int voln, .int vohw, .ref vmno, .int vond, .int voon, .int vowi, .int votop])), (vmn, .inl (cy 0, 575, .inl vmnf)), (vms, .inl (cy 0, 1408, .inl vmsf))] sz)) 0 0 (va_A [(vo, .inr (12, [.int voth, .ref vmt, .int votp, .int vosz, .int volm, .int voto, .int vofr, .int vokd, .int vonu, .int vosg, .int vofa, .int vopl, .long vowd, .int votd, .ref vmn, .ref vmr, .ref vmk, .ref vms, .ref vma, .ref vmm, .ref vmrn, .ref vmkn, .ref vmik, .ref vmon, .int vosm, .int vohp, .ref vmw, .ref vmf, .ref vmb, .int vomb, .ref vmd, .ref vmc, .int vocm, .int voct, .int vocy, .ref vmx, .int votx, .int vose, .ref vml, .ref vmwr, .int voln, .int vohw, .ref vmno, .int vond, .int voon, .int vowi, .int votop])), (vmn, .inl (cy 0, 575, .inl vmnf)), (vms, .inl (cy 0, 1408, .inl vmsf))] sz) := by
  refine mw (Qc := Qi (dC, dI) vwCl (fun (r : Int32) (u : (Nat → Int32) × (Nat → Int32) × Int32) => (NW vnh u.1) ∧ (0 ≤ (u.2.2 : Int32).toInt ∧ (u.2.2 : Int32).toInt ≤ 8)) (O_m_doIt cy vnh vo voth vmt votp vosz volm voto vofr vokd vonu vosg vofa vopl vowd votd vmn vmr vmk vms vma vmm vmrn vmkn vmik vmon vosm vohp vmw vmf vmb vomb vmd vmc vocm voct vocy vmx votx vose vml vmwr voln vohw vmno vond voon vowi votop vmnf vmsf vwt vm vx vy)) RX11 rfl (by decide +kernel) (Nat.le_of_ble_eq_true rfl) ?_
  intro p e s m below meth c A hx hb hr hlocks av9 hav hts hown hnm hml hK hP hD hA hS hE hAe Q9 hQ9 ls hl
  have hl : lv_has ls 6 [(0, .ref vo), (1, .int vwt), (2, .int vm), (3, .int vx), (4, .int vy)] := hl
  refine lv_aload_n hx hb dX11_doIt_0 rfl (lv_at hl 0 rfl) ?_
  refine lv_iload_n hx hb dX11_doIt_1 rfl (lv_at hl 1 rfl) ?_
  refine lv_iload_n hx hb dX11_doIt_2 rfl (lv_at hl 2 rfl) ?_
  refine lv_iload_n hx hb dX11_doIt_3 rfl (lv_at hl 3 rfl) ?_
  refine lv_iload hx hb dX11_doIt_4 (lv_at hl 4 rfl) ?_
  refine jr_i (rVr (As := [.int vwt, .int vm, .int vx, .int vy]) (rest := []) (ci := 12) ⟨hx, hb, hml, hown, hts⟩ (m_why l dC dI cy vnh vo voth vmt votp vosz volm voto vofr vokd vonu vosg vofa vopl vowd votd vmn vmr vmk vms vma vmm vmrn vmkn vmik vmon vosm vohp vmw vmf vmb vomb vmd vmc vocm voct vocy vmx votx vose vml vmwr voln vohw vmno vond voon vowi votop vmnf vwt vm vx vy ⟨by omega, by omega⟩ r_vx r_vy p_vmnf) (cw_X11_274 hts rfl rfl ⟨Nat.le_of_ble_eq_true rfl, Nat.le_of_ble_eq_true rfl⟩) hP hK [0, 1] rfl rfl rfl rfl hl.1 rfl (Nat.le_of_ble_eq_true rfl) dX11_doIt_6 ⟨Nat.le_of_ble_eq_true rfl, Nat.le_of_ble_eq_true rfl⟩) hP hS (fun r_1 H locs hp_2 hP hS => ?_)
  have hp_2 : (0 ≤ (r_1 : Int32).toInt ∧ (r_1 : Int32).toInt ≤ 3) := hp_2
  have q_3 := hp_2
  refine lv_istore (lv' := [(5, .int r_1), (0, .ref vo), (1, .int vwt), (2, .int vm), (3, .int vx), (4, .int vy)]) hx hb dX11_doIt_9 hl (by decide) rfl (fun ls hl => ?_)
  refine lv_iload hx hb dX11_doIt_11 (lv_at hl 0 rfl) ?_
  have k_0 : (0 : Int32).toInt = 0 := by decide
  refine lv_if_eq (tgt := 19) hx hb dX11_doIt_13 (by decide) (fun c_4 => ?_) (fun c_4 => ?_)
  · skip
    have c_4 : r_1.toInt = (0 : Int32).toInt := i_eq.mp c_4
    refine lv_aload_n hx hb dX11_doIt_19 rfl (lv_at hl 1 rfl) ?_
    refine jn_v (wr := []) (rV (As := []) (rest := []) (ci := 12) ⟨hx, hb, hml, hown, hts⟩ (m_snap l dC dI cy _ vnh vo voth vmt votp vosz volm voto vofr vokd vonu vosg vofa vopl vowd votd vmn vmr vmk vms vma vmm vmrn vmkn vmik vmon vosm vohp vmw vmf vmb vomb vmd vmc vocm voct vocy vmx votx vose vml vmwr voln vohw vmno vond voon vowi votop vmnf vmsf r_vosm p_vmnf) (cw_X11_278 hts rfl rfl ⟨Nat.le_of_ble_eq_true rfl, Nat.le_of_ble_eq_true rfl⟩) hP hD hK [0, 1, 2] rfl rfl rfl rfl bl0 e0 rfl hl.1 rfl (Nat.le_of_ble_eq_true rfl) dX11_doIt_20 ⟨Nat.le_of_ble_eq_true rfl, Nat.le_of_ble_eq_true rfl⟩) hP hD hS hA [0, 1, 2] [] rfl rfl rfl (by decide) (fun u_7 H locs hp_6 hP hD hS => ?_)
    obtain ⟨vmsf_8, vosm_9⟩ := u_7
    have hp_6 : (0 ≤ (vosm_9 : Int32).toInt ∧ (vosm_9 : Int32).toInt ≤ 8) := hp_6
    have q_10 := hp_6
    have hP : va_P (dC, dI) vwCl [(vo, .inr (12, [.int voth, .ref vmt, .int votp, .int vosz, .int volm, .int voto, .int vofr, .int vokd, .int vonu, .int vosg, .int vofa, .int vopl, .long vowd, .int votd, .ref vmn, .ref vmr, .ref vmk, .ref vms, .ref vma, .ref vmm, .ref vmrn, .ref vmkn, .ref vmik, .ref vmon, .int vosm_9, .int vohp, .ref vmw, .ref vmf, .ref vmb, .int vomb, .ref vmd, .ref vmc, .int vocm, .int voct, .int vocy, .ref vmx, .int votx, .int vose, .ref vml, .ref vmwr, .int voln, .int vohw, .ref vmno, .int vond, .int voon, .int vowi, .int votop])), (vmn, .inl (cy 0, 575, .inl vmnf)), (vms, .inl (cy 0, 1408, .inl vmsf_8))] H := hP
    have hD : va_D A [(vo, .inr (12, [.int voth, .ref vmt, .int votp, .int vosz, .int volm, .int voto, .int vofr, .int vokd, .int vonu, .int vosg, .int vofa, .int vopl, .long vowd, .int votd, .ref vmn, .ref vmr, .ref vmk, .ref vms, .ref vma, .ref vmm, .ref vmrn, .ref vmkn, .ref vmik, .ref vmon, .int vosm_9, .int vohp, .ref vmw, .ref vmf, .ref vmb, .int vomb, .ref vmd, .ref vmc, .int vocm, .int voct, .int vocy, .ref vmx, .int votx, .int vose, .ref vml, .ref vmwr, .int voln, .int vohw, .ref vmno, .int vond, .int voon, .int vowi, .int votop])), (vmn, .inl (cy 0, 575, .inl vmnf)), (vms, .inl (cy 0, 1408, .inl vmsf_8))] := hD
    refine lv_aload_n hx hb dX11_doIt_23 rfl (lv_at hl 1 rfl) ?_
    refine lv_iload_n hx hb dX11_doIt_24 rfl (lv_at hl 2 rfl) ?_
    refine lv_iload_n hx hb dX11_doIt_25 rfl (lv_at hl 3 rfl) ?_
    refine lv_iload_n hx hb dX11_doIt_26 rfl (lv_at hl 4 rfl) ?_
    refine lv_iload hx hb dX11_doIt_27 (lv_at hl 5 rfl) ?_
    refine jn_v (wr := [(vms, .inl (cy 0, 1408, .inl vmsf_8))]) (rV (As := [.int vwt, .int vm, .int vx, .int vy]) (rest := []) (ci := 12) ⟨hx, hb, hml, hown, hts⟩ (m_live l dC dI cy _ vnh vo voth vmt votp vosz volm voto vofr vokd vonu vosg vofa vopl vowd votd vmn vmr vmk vms vma vmm vmrn vmkn vmik vmon vosm_9 vohp vmw vmf vmb vomb vmd vmc vocm voct vocy vmx votx vose vml vmwr voln vohw vmno vond voon vowi votop vmnf vwt vm vx vy r_vm r_vx r_vy p_vmnf) (cw_X11_281 hts rfl rfl ⟨Nat.le_of_ble_eq_true rfl, Nat.le_of_ble_eq_true rfl⟩) hP hD hK [0, 1] rfl rfl rfl rfl bl0 e0 rfl hl.1 rfl (Nat.le_of_ble_eq_true rfl) dX11_doIt_29 ⟨Nat.le_of_ble_eq_true rfl, Nat.le_of_ble_eq_true rfl⟩) hP hD hS hA [0, 1] [2] rfl rfl rfl (by decide) (fun u_13 H locs hp_12 hP hD hS => ?_)
    obtain ⟨vmnf_14, rfl⟩ : ∃ z, z = u_13 := ⟨_, rfl⟩
    have hp_12 : (NW vnh vmnf_14) := hp_12
    have q_15 := hp_12
    have hP : va_P (dC, dI) vwCl [(vms, .inl (cy 0, 1408, .inl vmsf_8)), (vo, .inr (12, [.int voth, .ref vmt, .int votp, .int vosz, .int volm, .int voto, .int vofr, .int vokd, .int vonu, .int vosg, .int vofa, .int vopl, .long vowd, .int votd, .ref vmn, .ref vmr, .ref vmk, .ref vms, .ref vma, .ref vmm, .ref vmrn, .ref vmkn, .ref vmik, .ref vmon, .int vosm_9, .int vohp, .ref vmw, .ref vmf, .ref vmb, .int vomb, .ref vmd, .ref vmc, .int vocm, .int voct, .int vocy, .ref vmx, .int votx, .int vose, .ref vml, .ref vmwr, .int voln, .int vohw, .ref vmno, .int vond, .int voon, .int vowi, .int votop])), (vmn, .inl (cy 0, 575, .inl vmnf_14))] H := hP
    have hD : va_D A [(vms, .inl (cy 0, 1408, .inl vmsf_8)), (vo, .inr (12, [.int voth, .ref vmt, .int votp, .int vosz, .int volm, .int voto, .int vofr, .int vokd, .int vonu, .int vosg, .int vofa, .int vopl, .long vowd, .int votd, .ref vmn, .ref vmr, .ref vmk, .ref vms, .ref vma, .ref vmm, .ref vmrn, .ref vmkn, .ref vmik, .ref vmon, .int vosm_9, .int vohp, .ref vmw, .ref vmf, .ref vmb, .int vomb, .ref vmd, .ref vmc, .int vocm, .int voct, .int vocy, .ref vmx, .int votx, .int vose, .ref vml, .ref vmwr, .int voln, .int vohw, .ref vmno, .int vond, .int voon, .int vowi, .int votop])), (vmn, .inl (cy 0, 575, .inl vmnf_14))] := hD
    refine lv_iconst (v := 0) hx hb dX11_doIt_32 (by decide) ?_
    rw [hQ9]
    exact re_i (vmnf_14, vmsf_8, vosm_9) hx hb hr hlocks ⟨(show NW vnh vmnf_14 from q_15), (show 0 ≤ (vosm_9 : Int32).toInt ∧ (vosm_9 : Int32).toInt ≤ 8 from ⟨by omega, by omega⟩)⟩ (hP.sub [1, 2, 0] rfl) (hD.sub [1, 2, 0] rfl rfl) hS dX11_doIt_33
  · skip
    have c_4 : ¬ (r_1.toInt = (0 : Int32).toInt) := fun h9 => c_4 (i_eq.mpr h9)
    refine lv_iload hx hb dX11_doIt_16 (lv_at hl 0 rfl) ?_
    rw [hQ9]
    exact re_i (vmnf, vmsf, vosm) hx hb hr hlocks ⟨(show NW vnh vmnf from p_vmnf), (show 0 ≤ (vosm : Int32).toInt ∧ (vosm : Int32).toInt ≤ 8 from ⟨by omega, by omega⟩)⟩ (hP.sub [0, 1, 2] rfl) (hD.sub [0, 1, 2] rfl rfl) hS dX11_doIt_18
abbrev cX11_act : ByteArray := prog_13_method_69_code
def yX11_act : MethodName := ⟨RX11, "act", "(II)I"⟩
theorem t1790 : Cond.code yX11_act cX11_act 3 (some .int) ∈ GW := gw_mem 1904 (by decide +kernel) (by decide +kernel)
abbrev O_m_act (cy : Nat → ClassId) (vnh : Nat → Int32) (vo : Nat) (voth : Int32) (vmt : Nat) (votp : Int32) (vosz : Int32) (volm : Int32) (voto : Int32) (vofr : Int32) (vokd : Int32) (vonu : Int32) (vosg : Int32) (vofa : Int32) (vopl : Int32) (vowd : Int64) (votd : Int32) (vmn : Nat) (vmr : Nat) (vmk : Nat) (vms : Nat) (vma : Nat) (vmm : Nat) (vmrn : Nat) (vmkn : Nat) (vmik : Nat) (vmon : Nat) (vosm : Int32) (vohp : Int32) (vmw : Nat) (vmf : Nat) (vmb : Nat) (vomb : Int32) (vmd : Nat) (vmc : Nat) (vocm : Int32) (voct : Int32) (vocy : Int32) (vmx : Nat) (votx : Int32) (vose : Int32) (vml : Nat) (vmwr : Nat) (voln : Int32) (vohw : Int32) (vmno : Nat) (vond : Int32) (voon : Int32) (vowi : Int32) (votop : Int32) (vmnf : Nat → Int32) (vmsf : Nat → Int32) (vm : Int32) (vd : Int32) (u : Int32 × (Nat → Int32) × (Nat → Int32) × Int32) : va_W := [(vo, .inr (12, [.int u.1, .ref vmt, .int votp, .int vosz, .int volm, .int voto, .int vofr, .int vokd, .int vonu, .int vosg, .int vofa, .int vopl, .long vowd, .int votd, .ref vmn, .ref vmr, .ref vmk, .ref vms, .ref vma, .ref vmm, .ref vmrn, .ref vmkn, .ref vmik, .ref vmon, .int u.2.2.2, .int vohp, .ref vmw, .ref vmf, .ref vmb, .int vomb, .ref vmd, .ref vmc, .int vocm, .int voct, .int vocy, .ref vmx, .int votx, .int vose, .ref vml, .ref vmwr, .int voln, .int vohw, .ref vmno, .int vond, .int voon, .int vowi, .int votop])), (vmn, .inl (cy 0, 575, .inl u.2.1)), (vms, .inl (cy 0, 1408, .inl u.2.2.1))]
theorem dX11_act_0 : decode cX11_act 0 = .ok (.aload_n 0, 1) := by decide +kernel
theorem dX11_act_1 : decode cX11_act 1 = .ok (.iconst 0, 1) := by decide +kernel
theorem dX11_act_2 : decode cX11_act 2 = .ok (.putfield 1, 3) := by decide +kernel
theorem dX11_act_5 : decode cX11_act 5 = .ok (.aload_n 0, 1) := by decide +kernel
theorem dX11_act_6 : decode cX11_act 6 = .ok (.iload_n 1, 1) := by decide +kernel
theorem dX11_act_7 : decode cX11_act 7 = .ok (.invokevirtual 250, 3) := by decide +kernel
theorem dX11_act_10 : decode cX11_act 10 = .ok (.ifCond .eq 22, 3) := by decide +kernel
theorem dX11_act_32 : decode cX11_act 32 = .ok (.iconst (-1), 1) := by decide +kernel
theorem dX11_act_33 : decode cX11_act 33 = .ok (.ireturn, 1) := by decide +kernel
theorem dX11_act_13 : decode cX11_act 13 = .ok (.aload_n 0, 1) := by decide +kernel
theorem dX11_act_14 : decode cX11_act 14 = .ok (.iload_n 2, 1) := by decide +kernel
theorem dX11_act_15 : decode cX11_act 15 = .ok (.invokevirtual 259, 3) := by decide +kernel
theorem dX11_act_18 : decode cX11_act 18 = .ok (.ifCond .eq 14, 3) := by decide +kernel
theorem dX11_act_21 : decode cX11_act 21 = .ok (.aload_n 0, 1) := by decide +kernel
theorem dX11_act_22 : decode cX11_act 22 = .ok (.iconst 0, 1) := by decide +kernel
theorem dX11_act_23 : decode cX11_act 23 = .ok (.iload_n 1, 1) := by decide +kernel
theorem dX11_act_24 : decode cX11_act 24 = .ok (.iload_n 2, 1) := by decide +kernel
theorem dX11_act_25 : decode cX11_act 25 = .ok (.iconst 0, 1) := by decide +kernel
theorem dX11_act_26 : decode cX11_act 26 = .ok (.invokevirtual 285, 3) := by decide +kernel
theorem t1791 : Cond.methodLink RX11 285 yX11_doIt ∈ GW := gw_mem 1905 (by decide +kernel) (by decide +kernel)
theorem t1793 : Cond.instanceMethod yX11_doIt ∈ GW := gw_mem 1907 (by decide +kernel) (by decide +kernel)
theorem s75 : Cond.selects RX11 yX11_doIt yX11_doIt ∈ GW := gw_mem 75 (by decide +kernel) (by decide +kernel)
theorem cw_X11_285 {R : Room} {s : State} {args : Array Value} {rm : Room} {mc ms : Nat} (hts : ∀ w ∈ GW, w.before args s = true) (hrc : rm.cells = mc) (hrs : rm.slots = ms) (hR : rm.frames + 1 ≤ R.frames ∧ 8 + (6 + 11) + rm.locals ≤ R.locals) : CallW R s args RX11 RX11 285 yX11_doIt cX11_doIt 6 (some .int) (wl yX11_doIt cX11_doIt 6 (some .int)) rm mc ms 4 := cwV 4 hts (gi_V t1791 t1793 s75 t18 t1794) rfl hrc hrs (by decide +kernel) hR
theorem dX11_act_29 : decode cX11_act 29 = .ok (.goto 4, 3) := by decide +kernel
set_option maxHeartbeats 4000000 in
set_option maxRecDepth 100000 in
theorem m_act (l : Launch) (dC : Nat → ClassId) (dI : Nat → Nat → Nat) (cy : Nat → ClassId) (sz : Nat) (vnh : Nat → Int32) (vo : Nat) (voth : Int32) (vmt : Nat) (votp : Int32) (vosz : Int32) (volm : Int32) (voto : Int32) (vofr : Int32) (vokd : Int32) (vonu : Int32) (vosg : Int32) (vofa : Int32) (vopl : Int32) (vowd : Int64) (votd : Int32) (vmn : Nat) (vmr : Nat) (vmk : Nat) (vms : Nat) (vma : Nat) (vmm : Nat) (vmrn : Nat) (vmkn : Nat) (vmik : Nat) (vmon : Nat) (vosm : Int32) (vohp : Int32) (vmw : Nat) (vmf : Nat) (vmb : Nat) (vomb : Int32) (vmd : Nat) (vmc : Nat) (vocm : Int32) (voct : Int32) (vocy : Int32) (vmx : Nat) (votx : Int32) (vose : Int32) (vml : Nat) (vmwr : Nat) (voln : Int32) (vohw : Int32) (vmno : Nat) (vond : Int32) (voon : Int32) (vowi : Int32) (votop : Int32) (vmnf : Nat → Int32) (vmsf : Nat → Int32) (vm : Int32) (vd : Int32) (r_vosm : 0 ≤ (vosm : Int32).toInt ∧ (vosm : Int32).toInt ≤ 8) (p_vmnf : NW vnh vmnf) : Met l yX11_act (wl yX11_act cX11_act 3 (some .int)) ({ frames := 6, cells := 0, slots := 0, locals := 384 }) (Pw (dC, dI) vwCl cy [(vo, .inr (12, [.int voth, .ref vmt, .int votp, .int vosz, .int volm, .int voto, .int vofr, .int vokd, .int vonu, .int vosg, .int vofa, .int vopl, .long vowd, .int votd, .ref vmn, .ref vmr, .ref vmk, .ref vms, .ref vma, .ref vmm, .ref vmrn, .ref vmkn, .ref vmik, .ref vmon, .int vosm, .int vohp, .ref vmw, .ref vmf, .ref vmb, .int vomb, .ref vmd, .ref vmc, .int vocm, .int voct, .int vocy, .ref vmx, .int votx, .int vose, .ref vml, .ref vmwr, .int voln, .int vohw, .ref vmno, .int vond, .int voon, .int vowi, .int votop])), (vmn, .inl (cy 0, 575, .inl vmnf)), (vms, .inl (cy 0, 1408, .inl vmsf))] sz [.ref vo, .int vm, .int vd] nE) (Qi (dC, dI) vwCl (fun (r : Int32) (u : Int32 × (Nat → Int32) × (Nat → Int32) × Int32) => (NW vnh u.2.1) ∧ (0 ≤ (u.2.2.2 : Int32).toInt ∧ (u.2.2.2 : Int32).toInt ≤ 8)) (O_m_act cy vnh vo voth vmt votp vosz volm voto vofr vokd vonu vosg vofa vopl vowd votd vmn vmr vmk vms vma vmm vmrn vmkn vmik vmon vosm vohp vmw vmf vmb vomb vmd vmc vocm voct vocy vmx votx vose vml vmwr voln vohw vmno vond voon vowi votop vmnf vmsf vm vd) (va_A [(vo, .inr (12, [.int voth, .ref vmt, .int votp, .int vosz, .int volm, .int voto, .int vofr, .int vokd, .int vonu, .int vosg, .int vofa, .int vopl, .long vowd, .int votd, .ref vmn, .ref vmr, .ref vmk, .ref vms, .ref vma, .ref vmm, .ref vmrn, .ref vmkn, .ref vmik, .ref vmon, .int vosm, .int vohp, .ref vmw, .ref vmf, .ref vmb, .int vomb, .ref vmd, .ref vmc, .int vocm, .int voct, .int vocy, .ref vmx, .int votx, .int vose, .ref vml, .ref vmwr, .int voln, .int vohw, .ref vmno, .int vond, .int voon, .int vowi, .int votop])), (vmn, .inl (cy 0, 575, .inl vmnf)), (vms, .inl (cy 0, 1408, .inl vmsf))] sz)) 0 0 (va_A [(vo, .inr (12, [.int voth, .ref vmt, .int votp, .int vosz, .int volm, .int voto, .int vofr, .int vokd, .int vonu, .int vosg, .int vofa, .int vopl, .long vowd, .int votd, .ref vmn, .ref vmr, .ref vmk, .ref vms, .ref vma, .ref vmm, .ref vmrn, .ref vmkn, .ref vmik, .ref vmon, .int vosm, .int vohp, .ref vmw, .ref vmf, .ref vmb, .int vomb, .ref vmd, .ref vmc, .int vocm, .int voct, .int vocy, .ref vmx, .int votx, .int vose, .ref vml, .ref vmwr, .int voln, .int vohw, .ref vmno, .int vond, .int voon, .int vowi, .int votop])), (vmn, .inl (cy 0, 575, .inl vmnf)), (vms, .inl (cy 0, 1408, .inl vmsf))] sz) := by
  refine mw (Qc := Qi (dC, dI) vwCl (fun (r : Int32) (u : Int32 × (Nat → Int32) × (Nat → Int32) × Int32) => (NW vnh u.2.1) ∧ (0 ≤ (u.2.2.2 : Int32).toInt ∧ (u.2.2.2 : Int32).toInt ≤ 8)) (O_m_act cy vnh vo voth vmt votp vosz volm voto vofr vokd vonu vosg vofa vopl vowd votd vmn vmr vmk vms vma vmm vmrn vmkn vmik vmon vosm vohp vmw vmf vmb vomb vmd vmc vocm voct vocy vmx votx vose vml vmwr voln vohw vmno vond voon vowi votop vmnf vmsf vm vd)) RX11 rfl (by decide +kernel) (Nat.le_of_ble_eq_true rfl) ?_
  intro p e s m below meth c A hx hb hr hlocks av9 hav hts hown hnm hml hK hP hD hA hS hE hAe Q9 hQ9 ls hl
  have hl : lv_has ls 3 [(0, .ref vo), (1, .int vm), (2, .int vd)] := hl
  refine lv_aload_n hx hb dX11_act_0 rfl (lv_at hl 0 rfl) ?_
  refine lv_iconst (v := 0) hx hb dX11_act_1 (by decide) ?_
  refine pf_X11_1 hx hb hts hown hK hP hD hS 0 rfl rfl rfl (Nat.le_of_ble_eq_true rfl) dX11_act_2 (fun H locs hP hD hS => ?_)
  have hP : va_P (dC, dI) vwCl [(vo, .inr (12, [.int 0, .ref vmt, .int votp, .int vosz, .int volm, .int voto, .int vofr, .int vokd, .int vonu, .int vosg, .int vofa, .int vopl, .long vowd, .int votd, .ref vmn, .ref vmr, .ref vmk, .ref vms, .ref vma, .ref vmm, .ref vmrn, .ref vmkn, .ref vmik, .ref vmon, .int vosm, .int vohp, .ref vmw, .ref vmf, .ref vmb, .int vomb, .ref vmd, .ref vmc, .int vocm, .int voct, .int vocy, .ref vmx, .int votx, .int vose, .ref vml, .ref vmwr, .int voln, .int vohw, .ref vmno, .int vond, .int voon, .int vowi, .int votop])), (vmn, .inl (cy 0, 575, .inl vmnf)), (vms, .inl (cy 0, 1408, .inl vmsf))] H := hP
  have hD : va_D A [(vo, .inr (12, [.int 0, .ref vmt, .int votp, .int vosz, .int volm, .int voto, .int vofr, .int vokd, .int vonu, .int vosg, .int vofa, .int vopl, .long vowd, .int votd, .ref vmn, .ref vmr, .ref vmk, .ref vms, .ref vma, .ref vmm, .ref vmrn, .ref vmkn, .ref vmik, .ref vmon, .int vosm, .int vohp, .ref vmw, .ref vmf, .ref vmb, .int vomb, .ref vmd, .ref vmc, .int vocm, .int voct, .int vocy, .ref vmx, .int votx, .int vose, .ref vml, .ref vmwr, .int voln, .int vohw, .ref vmno, .int vond, .int voon, .int vowi, .int votop])), (vmn, .inl (cy 0, 575, .inl vmnf)), (vms, .inl (cy 0, 1408, .inl vmsf))] := hD
  refine lv_aload_n hx hb dX11_act_5 rfl (lv_at hl 0 rfl) ?_
  refine lv_iload_n hx hb dX11_act_6 rfl (lv_at hl 1 rfl) ?_
  have k_0 : (0 : Int32).toInt = 0 := by decide
  refine jr_i (rVr (As := [.int vm]) (rest := []) (ci := 12) ⟨hx, hb, hml, hown, hts⟩ (m_isMan l dC dI cy vnh vo 0 vmt votp vosz volm voto vofr vokd vonu vosg vofa vopl vowd votd vmn vmr vmk vms vma vmm vmrn vmkn vmik vmon vosm vohp vmw vmf vmb vomb vmd vmc vocm voct vocy vmx votx vose vml vmwr voln vohw vmno vond voon vowi votop vmnf vm p_vmnf) (cw_X11_250 hts rfl rfl ⟨Nat.le_of_ble_eq_true rfl, Nat.le_of_ble_eq_true rfl⟩) hP hK [0, 1] rfl rfl rfl rfl hl.1 rfl (Nat.le_of_ble_eq_true rfl) dX11_act_7 ⟨Nat.le_of_ble_eq_true rfl, Nat.le_of_ble_eq_true rfl⟩) hP hS (fun r_1 H locs hp_2 hP hS => ?_)
  have hp_2 : ((r_1 = 0 ∧ ((vm : Int32).toInt < 0 ∨ (vmnf 0).toInt ≤ (vm : Int32).toInt)) ∨ (r_1 = 1 ∧ 0 ≤ (vm : Int32).toInt ∧ (vm : Int32).toInt ≤ 6 ∧ (vm : Int32).toInt < (vmnf 0).toInt)) := hp_2
  have q_3 := hp_2
  rcases q_3 with ⟨aq_3, f0q_3⟩ | ⟨aq_3, f0q_3, f1q_3, f2q_3⟩
  · skip
    refine as_i 0 aq_3 ?_
    refine lv_if_eq (tgt := 32) hx hb dX11_act_10 (by decide) (fun _ => ?_) (fun c9 => absurd (by decide) c9)
    refine lv_iconst (v := (-1)) hx hb dX11_act_32 (by decide) ?_
    have k_m1 : ((-1) : Int32).toInt = (-1) := by decide
    rw [hQ9]
    exact re_i ((0 : Int32), vmnf, vmsf, vosm) hx hb hr hlocks ⟨(show NW vnh vmnf from p_vmnf), (show 0 ≤ (vosm : Int32).toInt ∧ (vosm : Int32).toInt ≤ 8 from ⟨by omega, by omega⟩)⟩ (hP.sub [0, 1, 2] rfl) (hD.sub [0, 1, 2] rfl rfl) hS dX11_act_33
  · skip
    refine as_i 1 aq_3 ?_
    refine lv_if_eq (tgt := 32) hx hb dX11_act_10 (by decide) (fun c9 => absurd c9 (by decide)) (fun _ => ?_)
    refine lv_aload_n hx hb dX11_act_13 rfl (lv_at hl 0 rfl) ?_
    refine lv_iload_n hx hb dX11_act_14 rfl (lv_at hl 2 rfl) ?_
    refine jr_i (rVr (As := [.int vd]) (rest := []) (ci := 12) ⟨hx, hb, hml, hown, hts⟩ (m_isDeed l dC dI cy vnh vo 0 vmt votp vosz volm voto vofr vokd vonu vosg vofa vopl vowd votd vmn vmr vmk vms vma vmm vmrn vmkn vmik vmon vosm vohp vmw vmf vmb vomb vmd vmc vocm voct vocy vmx votx vose vml vmwr voln vohw vmno vond voon vowi votop vmnf vd p_vmnf) (cw_X11_259 hts rfl rfl ⟨Nat.le_of_ble_eq_true rfl, Nat.le_of_ble_eq_true rfl⟩) hP hK [0, 1] rfl rfl rfl rfl hl.1 rfl (Nat.le_of_ble_eq_true rfl) dX11_act_15 ⟨Nat.le_of_ble_eq_true rfl, Nat.le_of_ble_eq_true rfl⟩) hP hS (fun r_4 H locs hp_5 hP hS => ?_)
    have hp_5 : ((r_4 = 0) ∨ (r_4 = 1 ∧ 0 ≤ (vd : Int32).toInt ∧ (vd : Int32).toInt ≤ 9)) := hp_5
    have q_6 := hp_5
    rcases q_6 with aq_6 | ⟨aq_6, f0q_6, f1q_6⟩
    · skip
      refine as_i 0 aq_6 ?_
      refine lv_if_eq (tgt := 32) hx hb dX11_act_18 (by decide) (fun _ => ?_) (fun c9 => absurd (by decide) c9)
      refine lv_iconst (v := (-1)) hx hb dX11_act_32 (by decide) ?_
      have k_m1 : ((-1) : Int32).toInt = (-1) := by decide
      rw [hQ9]
      exact re_i ((0 : Int32), vmnf, vmsf, vosm) hx hb hr hlocks ⟨(show NW vnh vmnf from p_vmnf), (show 0 ≤ (vosm : Int32).toInt ∧ (vosm : Int32).toInt ≤ 8 from ⟨by omega, by omega⟩)⟩ (hP.sub [0, 1, 2] rfl) (hD.sub [0, 1, 2] rfl rfl) hS dX11_act_33
    · skip
      refine as_i 1 aq_6 ?_
      refine lv_if_eq (tgt := 32) hx hb dX11_act_18 (by decide) (fun c9 => absurd c9 (by decide)) (fun _ => ?_)
      refine lv_aload_n hx hb dX11_act_21 rfl (lv_at hl 0 rfl) ?_
      refine lv_iconst (v := 0) hx hb dX11_act_22 (by decide) ?_
      refine lv_iload_n hx hb dX11_act_23 rfl (lv_at hl 1 rfl) ?_
      refine lv_iload_n hx hb dX11_act_24 rfl (lv_at hl 2 rfl) ?_
      refine lv_iconst (v := 0) hx hb dX11_act_25 (by decide) ?_
      refine jn_i (wr := []) (rV (As := [.int 0, .int vm, .int vd, .int 0]) (rest := []) (ci := 12) ⟨hx, hb, hml, hown, hts⟩ (m_doIt l dC dI cy _ vnh vo 0 vmt votp vosz volm voto vofr vokd vonu vosg vofa vopl vowd votd vmn vmr vmk vms vma vmm vmrn vmkn vmik vmon vosm vohp vmw vmf vmb vomb vmd vmc vocm voct vocy vmx votx vose vml vmwr voln vohw vmno vond voon vowi votop vmnf vmsf 0 vm vd 0 r_vosm ⟨by omega, by omega⟩ ⟨by omega, by omega⟩ ⟨by omega, by omega⟩ p_vmnf) (cw_X11_285 hts rfl rfl ⟨Nat.le_of_ble_eq_true rfl, Nat.le_of_ble_eq_true rfl⟩) hP hD hK [0, 1, 2] rfl rfl rfl rfl bl0 e0 rfl hl.1 rfl (Nat.le_of_ble_eq_true rfl) dX11_act_26 ⟨Nat.le_of_ble_eq_true rfl, Nat.le_of_ble_eq_true rfl⟩) hP hD hS hA [0, 1, 2] [] rfl rfl rfl (by decide) (fun r_7 u_9 H locs hp_8 hP hD hS => ?_)
      obtain ⟨vmnf_10, vmsf_11, vosm_12⟩ := u_9
      have hp_8 : (NW vnh vmnf_10) ∧ (0 ≤ (vosm_12 : Int32).toInt ∧ (vosm_12 : Int32).toInt ≤ 8) := hp_8
      obtain ⟨q_13, q_14⟩ := hp_8
      have hP : va_P (dC, dI) vwCl [(vo, .inr (12, [.int 0, .ref vmt, .int votp, .int vosz, .int volm, .int voto, .int vofr, .int vokd, .int vonu, .int vosg, .int vofa, .int vopl, .long vowd, .int votd, .ref vmn, .ref vmr, .ref vmk, .ref vms, .ref vma, .ref vmm, .ref vmrn, .ref vmkn, .ref vmik, .ref vmon, .int vosm_12, .int vohp, .ref vmw, .ref vmf, .ref vmb, .int vomb, .ref vmd, .ref vmc, .int vocm, .int voct, .int vocy, .ref vmx, .int votx, .int vose, .ref vml, .ref vmwr, .int voln, .int vohw, .ref vmno, .int vond, .int voon, .int vowi, .int votop])), (vmn, .inl (cy 0, 575, .inl vmnf_10)), (vms, .inl (cy 0, 1408, .inl vmsf_11))] H := hP
      have hD : va_D A [(vo, .inr (12, [.int 0, .ref vmt, .int votp, .int vosz, .int volm, .int voto, .int vofr, .int vokd, .int vonu, .int vosg, .int vofa, .int vopl, .long vowd, .int votd, .ref vmn, .ref vmr, .ref vmk, .ref vms, .ref vma, .ref vmm, .ref vmrn, .ref vmkn, .ref vmik, .ref vmon, .int vosm_12, .int vohp, .ref vmw, .ref vmf, .ref vmb, .int vomb, .ref vmd, .ref vmc, .int vocm, .int voct, .int vocy, .ref vmx, .int votx, .int vose, .ref vml, .ref vmwr, .int voln, .int vohw, .ref vmno, .int vond, .int voon, .int vowi, .int votop])), (vmn, .inl (cy 0, 575, .inl vmnf_10)), (vms, .inl (cy 0, 1408, .inl vmsf_11))] := hD
      refine lv_goto (tgt := 33) hx hb dX11_act_29 (by decide) ?_
      rw [hQ9]
      exact re_i ((0 : Int32), vmnf_10, vmsf_11, vosm_12) hx hb hr hlocks ⟨(show NW vnh vmnf_10 from q_13), (show 0 ≤ (vosm_12 : Int32).toInt ∧ (vosm_12 : Int32).toInt ≤ 8 from ⟨by omega, by omega⟩)⟩ (hP.sub [0, 1, 2] rfl) (hD.sub [0, 1, 2] rfl rfl) hS dX11_act_33
abbrev cX11_lend : ByteArray := prog_13_method_70_code
def yX11_lend : MethodName := ⟨RX11, "lend", "(III)I"⟩
theorem t1818 : Cond.code yX11_lend cX11_lend 4 (some .int) ∈ GW := gw_mem 1932 (by decide +kernel) (by decide +kernel)
abbrev O_m_lend (cy : Nat → ClassId) (vnh : Nat → Int32) (vo : Nat) (voth : Int32) (vmt : Nat) (votp : Int32) (vosz : Int32) (volm : Int32) (voto : Int32) (vofr : Int32) (vokd : Int32) (vonu : Int32) (vosg : Int32) (vofa : Int32) (vopl : Int32) (vowd : Int64) (votd : Int32) (vmn : Nat) (vmr : Nat) (vmk : Nat) (vms : Nat) (vma : Nat) (vmm : Nat) (vmrn : Nat) (vmkn : Nat) (vmik : Nat) (vmon : Nat) (vosm : Int32) (vohp : Int32) (vmw : Nat) (vmf : Nat) (vmb : Nat) (vomb : Int32) (vmd : Nat) (vmc : Nat) (vocm : Int32) (voct : Int32) (vocy : Int32) (vmx : Nat) (votx : Int32) (vose : Int32) (vml : Nat) (vmwr : Nat) (voln : Int32) (vohw : Int32) (vmno : Nat) (vond : Int32) (voon : Int32) (vowi : Int32) (votop : Int32) (vmnf : Nat → Int32) (vmsf : Nat → Int32) (vm : Int32) (vk : Int32) (vd : Int32) (u : Int32 × (Nat → Int32) × (Nat → Int32) × Int32) : va_W := [(vo, .inr (12, [.int u.1, .ref vmt, .int votp, .int vosz, .int volm, .int voto, .int vofr, .int vokd, .int vonu, .int vosg, .int vofa, .int vopl, .long vowd, .int votd, .ref vmn, .ref vmr, .ref vmk, .ref vms, .ref vma, .ref vmm, .ref vmrn, .ref vmkn, .ref vmik, .ref vmon, .int u.2.2.2, .int vohp, .ref vmw, .ref vmf, .ref vmb, .int vomb, .ref vmd, .ref vmc, .int vocm, .int voct, .int vocy, .ref vmx, .int votx, .int vose, .ref vml, .ref vmwr, .int voln, .int vohw, .ref vmno, .int vond, .int voon, .int vowi, .int votop])), (vmn, .inl (cy 0, 575, .inl u.2.1)), (vms, .inl (cy 0, 1408, .inl u.2.2.1))]
theorem dX11_lend_0 : decode cX11_lend 0 = .ok (.aload_n 0, 1) := by decide +kernel
theorem dX11_lend_1 : decode cX11_lend 1 = .ok (.iconst 0, 1) := by decide +kernel
theorem dX11_lend_2 : decode cX11_lend 2 = .ok (.putfield 1, 3) := by decide +kernel
theorem dX11_lend_5 : decode cX11_lend 5 = .ok (.aload_n 0, 1) := by decide +kernel
theorem dX11_lend_6 : decode cX11_lend 6 = .ok (.iload_n 1, 1) := by decide +kernel
theorem dX11_lend_7 : decode cX11_lend 7 = .ok (.invokevirtual 250, 3) := by decide +kernel
theorem dX11_lend_10 : decode cX11_lend 10 = .ok (.ifCond .eq 30, 3) := by decide +kernel
theorem dX11_lend_40 : decode cX11_lend 40 = .ok (.iconst (-1), 1) := by decide +kernel
theorem dX11_lend_41 : decode cX11_lend 41 = .ok (.ireturn, 1) := by decide +kernel
theorem dX11_lend_13 : decode cX11_lend 13 = .ok (.aload_n 0, 1) := by decide +kernel
theorem dX11_lend_14 : decode cX11_lend 14 = .ok (.iload_n 2, 1) := by decide +kernel
theorem dX11_lend_15 : decode cX11_lend 15 = .ok (.invokevirtual 250, 3) := by decide +kernel
theorem dX11_lend_18 : decode cX11_lend 18 = .ok (.ifCond .eq 22, 3) := by decide +kernel
theorem dX11_lend_21 : decode cX11_lend 21 = .ok (.aload_n 0, 1) := by decide +kernel
theorem dX11_lend_22 : decode cX11_lend 22 = .ok (.iload_n 3, 1) := by decide +kernel
theorem dX11_lend_23 : decode cX11_lend 23 = .ok (.invokevirtual 259, 3) := by decide +kernel
theorem dX11_lend_26 : decode cX11_lend 26 = .ok (.ifCond .eq 14, 3) := by decide +kernel
theorem dX11_lend_29 : decode cX11_lend 29 = .ok (.aload_n 0, 1) := by decide +kernel
theorem dX11_lend_30 : decode cX11_lend 30 = .ok (.iconst 1, 1) := by decide +kernel
theorem dX11_lend_31 : decode cX11_lend 31 = .ok (.iload_n 1, 1) := by decide +kernel
theorem dX11_lend_32 : decode cX11_lend 32 = .ok (.iload_n 2, 1) := by decide +kernel
theorem dX11_lend_33 : decode cX11_lend 33 = .ok (.iload_n 3, 1) := by decide +kernel
theorem dX11_lend_34 : decode cX11_lend 34 = .ok (.invokevirtual 285, 3) := by decide +kernel
theorem dX11_lend_37 : decode cX11_lend 37 = .ok (.goto 4, 3) := by decide +kernel
set_option maxHeartbeats 4000000 in
set_option maxRecDepth 100000 in
theorem m_lend (l : Launch) (dC : Nat → ClassId) (dI : Nat → Nat → Nat) (cy : Nat → ClassId) (sz : Nat) (vnh : Nat → Int32) (vo : Nat) (voth : Int32) (vmt : Nat) (votp : Int32) (vosz : Int32) (volm : Int32) (voto : Int32) (vofr : Int32) (vokd : Int32) (vonu : Int32) (vosg : Int32) (vofa : Int32) (vopl : Int32) (vowd : Int64) (votd : Int32) (vmn : Nat) (vmr : Nat) (vmk : Nat) (vms : Nat) (vma : Nat) (vmm : Nat) (vmrn : Nat) (vmkn : Nat) (vmik : Nat) (vmon : Nat) (vosm : Int32) (vohp : Int32) (vmw : Nat) (vmf : Nat) (vmb : Nat) (vomb : Int32) (vmd : Nat) (vmc : Nat) (vocm : Int32) (voct : Int32) (vocy : Int32) (vmx : Nat) (votx : Int32) (vose : Int32) (vml : Nat) (vmwr : Nat) (voln : Int32) (vohw : Int32) (vmno : Nat) (vond : Int32) (voon : Int32) (vowi : Int32) (votop : Int32) (vmnf : Nat → Int32) (vmsf : Nat → Int32) (vm : Int32) (vk : Int32) (vd : Int32) (r_vosm : 0 ≤ (vosm : Int32).toInt ∧ (vosm : Int32).toInt ≤ 8) (p_vmnf : NW vnh vmnf) : Met l yX11_lend (wl yX11_lend cX11_lend 4 (some .int)) ({ frames := 6, cells := 0, slots := 0, locals := 384 }) (Pw (dC, dI) vwCl cy [(vo, .inr (12, [.int voth, .ref vmt, .int votp, .int vosz, .int volm, .int voto, .int vofr, .int vokd, .int vonu, .int vosg, .int vofa, .int vopl, .long vowd, .int votd, .ref vmn, .ref vmr, .ref vmk, .ref vms, .ref vma, .ref vmm, .ref vmrn, .ref vmkn, .ref vmik, .ref vmon, .int vosm, .int vohp, .ref vmw, .ref vmf, .ref vmb, .int vomb, .ref vmd, .ref vmc, .int vocm, .int voct, .int vocy, .ref vmx, .int votx, .int vose, .ref vml, .ref vmwr, .int voln, .int vohw, .ref vmno, .int vond, .int voon, .int vowi, .int votop])), (vmn, .inl (cy 0, 575, .inl vmnf)), (vms, .inl (cy 0, 1408, .inl vmsf))] sz [.ref vo, .int vm, .int vk, .int vd] nE) (Qi (dC, dI) vwCl (fun (r : Int32) (u : Int32 × (Nat → Int32) × (Nat → Int32) × Int32) => (NW vnh u.2.1) ∧ (0 ≤ (u.2.2.2 : Int32).toInt ∧ (u.2.2.2 : Int32).toInt ≤ 8)) (O_m_lend cy vnh vo voth vmt votp vosz volm voto vofr vokd vonu vosg vofa vopl vowd votd vmn vmr vmk vms vma vmm vmrn vmkn vmik vmon vosm vohp vmw vmf vmb vomb vmd vmc vocm voct vocy vmx votx vose vml vmwr voln vohw vmno vond voon vowi votop vmnf vmsf vm vk vd) (va_A [(vo, .inr (12, [.int voth, .ref vmt, .int votp, .int vosz, .int volm, .int voto, .int vofr, .int vokd, .int vonu, .int vosg, .int vofa, .int vopl, .long vowd, .int votd, .ref vmn, .ref vmr, .ref vmk, .ref vms, .ref vma, .ref vmm, .ref vmrn, .ref vmkn, .ref vmik, .ref vmon, .int vosm, .int vohp, .ref vmw, .ref vmf, .ref vmb, .int vomb, .ref vmd, .ref vmc, .int vocm, .int voct, .int vocy, .ref vmx, .int votx, .int vose, .ref vml, .ref vmwr, .int voln, .int vohw, .ref vmno, .int vond, .int voon, .int vowi, .int votop])), (vmn, .inl (cy 0, 575, .inl vmnf)), (vms, .inl (cy 0, 1408, .inl vmsf))] sz)) 0 0 (va_A [(vo, .inr (12, [.int voth, .ref vmt, .int votp, .int vosz, .int volm, .int voto, .int vofr, .int vokd, .int vonu, .int vosg, .int vofa, .int vopl, .long vowd, .int votd, .ref vmn, .ref vmr, .ref vmk, .ref vms, .ref vma, .ref vmm, .ref vmrn, .ref vmkn, .ref vmik, .ref vmon, .int vosm, .int vohp, .ref vmw, .ref vmf, .ref vmb, .int vomb, .ref vmd, .ref vmc, .int vocm, .int voct, .int vocy, .ref vmx, .int votx, .int vose, .ref vml, .ref vmwr, .int voln, .int vohw, .ref vmno, .int vond, .int voon, .int vowi, .int votop])), (vmn, .inl (cy 0, 575, .inl vmnf)), (vms, .inl (cy 0, 1408, .inl vmsf))] sz) := by
  refine mw (Qc := Qi (dC, dI) vwCl (fun (r : Int32) (u : Int32 × (Nat → Int32) × (Nat → Int32) × Int32) => (NW vnh u.2.1) ∧ (0 ≤ (u.2.2.2 : Int32).toInt ∧ (u.2.2.2 : Int32).toInt ≤ 8)) (O_m_lend cy vnh vo voth vmt votp vosz volm voto vofr vokd vonu vosg vofa vopl vowd votd vmn vmr vmk vms vma vmm vmrn vmkn vmik vmon vosm vohp vmw vmf vmb vomb vmd vmc vocm voct vocy vmx votx vose vml vmwr voln vohw vmno vond voon vowi votop vmnf vmsf vm vk vd)) RX11 rfl (by decide +kernel) (Nat.le_of_ble_eq_true rfl) ?_
  intro p e s m below meth c A hx hb hr hlocks av9 hav hts hown hnm hml hK hP hD hA hS hE hAe Q9 hQ9 ls hl
  have hl : lv_has ls 4 [(0, .ref vo), (1, .int vm), (2, .int vk), (3, .int vd)] := hl
  refine lv_aload_n hx hb dX11_lend_0 rfl (lv_at hl 0 rfl) ?_
  refine lv_iconst (v := 0) hx hb dX11_lend_1 (by decide) ?_
  refine pf_X11_1 hx hb hts hown hK hP hD hS 0 rfl rfl rfl (Nat.le_of_ble_eq_true rfl) dX11_lend_2 (fun H locs hP hD hS => ?_)
  have hP : va_P (dC, dI) vwCl [(vo, .inr (12, [.int 0, .ref vmt, .int votp, .int vosz, .int volm, .int voto, .int vofr, .int vokd, .int vonu, .int vosg, .int vofa, .int vopl, .long vowd, .int votd, .ref vmn, .ref vmr, .ref vmk, .ref vms, .ref vma, .ref vmm, .ref vmrn, .ref vmkn, .ref vmik, .ref vmon, .int vosm, .int vohp, .ref vmw, .ref vmf, .ref vmb, .int vomb, .ref vmd, .ref vmc, .int vocm, .int voct, .int vocy, .ref vmx, .int votx, .int vose, .ref vml, .ref vmwr, .int voln, .int vohw, .ref vmno, .int vond, .int voon, .int vowi, .int votop])), (vmn, .inl (cy 0, 575, .inl vmnf)), (vms, .inl (cy 0, 1408, .inl vmsf))] H := hP
  have hD : va_D A [(vo, .inr (12, [.int 0, .ref vmt, .int votp, .int vosz, .int volm, .int voto, .int vofr, .int vokd, .int vonu, .int vosg, .int vofa, .int vopl, .long vowd, .int votd, .ref vmn, .ref vmr, .ref vmk, .ref vms, .ref vma, .ref vmm, .ref vmrn, .ref vmkn, .ref vmik, .ref vmon, .int vosm, .int vohp, .ref vmw, .ref vmf, .ref vmb, .int vomb, .ref vmd, .ref vmc, .int vocm, .int voct, .int vocy, .ref vmx, .int votx, .int vose, .ref vml, .ref vmwr, .int voln, .int vohw, .ref vmno, .int vond, .int voon, .int vowi, .int votop])), (vmn, .inl (cy 0, 575, .inl vmnf)), (vms, .inl (cy 0, 1408, .inl vmsf))] := hD
  refine lv_aload_n hx hb dX11_lend_5 rfl (lv_at hl 0 rfl) ?_
  refine lv_iload_n hx hb dX11_lend_6 rfl (lv_at hl 1 rfl) ?_
  have k_0 : (0 : Int32).toInt = 0 := by decide
  refine jr_i (rVr (As := [.int vm]) (rest := []) (ci := 12) ⟨hx, hb, hml, hown, hts⟩ (m_isMan l dC dI cy vnh vo 0 vmt votp vosz volm voto vofr vokd vonu vosg vofa vopl vowd votd vmn vmr vmk vms vma vmm vmrn vmkn vmik vmon vosm vohp vmw vmf vmb vomb vmd vmc vocm voct vocy vmx votx vose vml vmwr voln vohw vmno vond voon vowi votop vmnf vm p_vmnf) (cw_X11_250 hts rfl rfl ⟨Nat.le_of_ble_eq_true rfl, Nat.le_of_ble_eq_true rfl⟩) hP hK [0, 1] rfl rfl rfl rfl hl.1 rfl (Nat.le_of_ble_eq_true rfl) dX11_lend_7 ⟨Nat.le_of_ble_eq_true rfl, Nat.le_of_ble_eq_true rfl⟩) hP hS (fun r_1 H locs hp_2 hP hS => ?_)
  have hp_2 : ((r_1 = 0 ∧ ((vm : Int32).toInt < 0 ∨ (vmnf 0).toInt ≤ (vm : Int32).toInt)) ∨ (r_1 = 1 ∧ 0 ≤ (vm : Int32).toInt ∧ (vm : Int32).toInt ≤ 6 ∧ (vm : Int32).toInt < (vmnf 0).toInt)) := hp_2
  have q_3 := hp_2
  rcases q_3 with ⟨aq_3, f0q_3⟩ | ⟨aq_3, f0q_3, f1q_3, f2q_3⟩
  · skip
    refine as_i 0 aq_3 ?_
    refine lv_if_eq (tgt := 40) hx hb dX11_lend_10 (by decide) (fun _ => ?_) (fun c9 => absurd (by decide) c9)
    refine lv_iconst (v := (-1)) hx hb dX11_lend_40 (by decide) ?_
    have k_m1 : ((-1) : Int32).toInt = (-1) := by decide
    rw [hQ9]
    exact re_i ((0 : Int32), vmnf, vmsf, vosm) hx hb hr hlocks ⟨(show NW vnh vmnf from p_vmnf), (show 0 ≤ (vosm : Int32).toInt ∧ (vosm : Int32).toInt ≤ 8 from ⟨by omega, by omega⟩)⟩ (hP.sub [0, 1, 2] rfl) (hD.sub [0, 1, 2] rfl rfl) hS dX11_lend_41
  · skip
    refine as_i 1 aq_3 ?_
    refine lv_if_eq (tgt := 40) hx hb dX11_lend_10 (by decide) (fun c9 => absurd c9 (by decide)) (fun _ => ?_)
    refine lv_aload_n hx hb dX11_lend_13 rfl (lv_at hl 0 rfl) ?_
    refine lv_iload_n hx hb dX11_lend_14 rfl (lv_at hl 2 rfl) ?_
    refine jr_i (rVr (As := [.int vk]) (rest := []) (ci := 12) ⟨hx, hb, hml, hown, hts⟩ (m_isMan l dC dI cy vnh vo 0 vmt votp vosz volm voto vofr vokd vonu vosg vofa vopl vowd votd vmn vmr vmk vms vma vmm vmrn vmkn vmik vmon vosm vohp vmw vmf vmb vomb vmd vmc vocm voct vocy vmx votx vose vml vmwr voln vohw vmno vond voon vowi votop vmnf vk p_vmnf) (cw_X11_250 hts rfl rfl ⟨Nat.le_of_ble_eq_true rfl, Nat.le_of_ble_eq_true rfl⟩) hP hK [0, 1] rfl rfl rfl rfl hl.1 rfl (Nat.le_of_ble_eq_true rfl) dX11_lend_15 ⟨Nat.le_of_ble_eq_true rfl, Nat.le_of_ble_eq_true rfl⟩) hP hS (fun r_4 H locs hp_5 hP hS => ?_)
    have hp_5 : ((r_4 = 0 ∧ ((vk : Int32).toInt < 0 ∨ (vmnf 0).toInt ≤ (vk : Int32).toInt)) ∨ (r_4 = 1 ∧ 0 ≤ (vk : Int32).toInt ∧ (vk : Int32).toInt ≤ 6 ∧ (vk : Int32).toInt < (vmnf 0).toInt)) := hp_5
    have q_6 := hp_5
    rcases q_6 with ⟨aq_6, f0q_6⟩ | ⟨aq_6, f0q_6, f1q_6, f2q_6⟩
    · skip
      refine as_i 0 aq_6 ?_
      refine lv_if_eq (tgt := 40) hx hb dX11_lend_18 (by decide) (fun _ => ?_) (fun c9 => absurd (by decide) c9)
      refine lv_iconst (v := (-1)) hx hb dX11_lend_40 (by decide) ?_
      have k_m1 : ((-1) : Int32).toInt = (-1) := by decide
      rw [hQ9]
      exact re_i ((0 : Int32), vmnf, vmsf, vosm) hx hb hr hlocks ⟨(show NW vnh vmnf from p_vmnf), (show 0 ≤ (vosm : Int32).toInt ∧ (vosm : Int32).toInt ≤ 8 from ⟨by omega, by omega⟩)⟩ (hP.sub [0, 1, 2] rfl) (hD.sub [0, 1, 2] rfl rfl) hS dX11_lend_41
    · skip
      refine as_i 1 aq_6 ?_
      refine lv_if_eq (tgt := 40) hx hb dX11_lend_18 (by decide) (fun c9 => absurd c9 (by decide)) (fun _ => ?_)
      refine lv_aload_n hx hb dX11_lend_21 rfl (lv_at hl 0 rfl) ?_
      refine lv_iload_n hx hb dX11_lend_22 rfl (lv_at hl 3 rfl) ?_
      refine jr_i (rVr (As := [.int vd]) (rest := []) (ci := 12) ⟨hx, hb, hml, hown, hts⟩ (m_isDeed l dC dI cy vnh vo 0 vmt votp vosz volm voto vofr vokd vonu vosg vofa vopl vowd votd vmn vmr vmk vms vma vmm vmrn vmkn vmik vmon vosm vohp vmw vmf vmb vomb vmd vmc vocm voct vocy vmx votx vose vml vmwr voln vohw vmno vond voon vowi votop vmnf vd p_vmnf) (cw_X11_259 hts rfl rfl ⟨Nat.le_of_ble_eq_true rfl, Nat.le_of_ble_eq_true rfl⟩) hP hK [0, 1] rfl rfl rfl rfl hl.1 rfl (Nat.le_of_ble_eq_true rfl) dX11_lend_23 ⟨Nat.le_of_ble_eq_true rfl, Nat.le_of_ble_eq_true rfl⟩) hP hS (fun r_7 H locs hp_8 hP hS => ?_)
      have hp_8 : ((r_7 = 0) ∨ (r_7 = 1 ∧ 0 ≤ (vd : Int32).toInt ∧ (vd : Int32).toInt ≤ 9)) := hp_8
      have q_9 := hp_8
      rcases q_9 with aq_9 | ⟨aq_9, f0q_9, f1q_9⟩
      · skip
        refine as_i 0 aq_9 ?_
        refine lv_if_eq (tgt := 40) hx hb dX11_lend_26 (by decide) (fun _ => ?_) (fun c9 => absurd (by decide) c9)
        refine lv_iconst (v := (-1)) hx hb dX11_lend_40 (by decide) ?_
        have k_m1 : ((-1) : Int32).toInt = (-1) := by decide
        rw [hQ9]
        exact re_i ((0 : Int32), vmnf, vmsf, vosm) hx hb hr hlocks ⟨(show NW vnh vmnf from p_vmnf), (show 0 ≤ (vosm : Int32).toInt ∧ (vosm : Int32).toInt ≤ 8 from ⟨by omega, by omega⟩)⟩ (hP.sub [0, 1, 2] rfl) (hD.sub [0, 1, 2] rfl rfl) hS dX11_lend_41
      · skip
        refine as_i 1 aq_9 ?_
        refine lv_if_eq (tgt := 40) hx hb dX11_lend_26 (by decide) (fun c9 => absurd c9 (by decide)) (fun _ => ?_)
        refine lv_aload_n hx hb dX11_lend_29 rfl (lv_at hl 0 rfl) ?_
        refine lv_iconst (v := 1) hx hb dX11_lend_30 (by decide) ?_
        refine lv_iload_n hx hb dX11_lend_31 rfl (lv_at hl 1 rfl) ?_
        refine lv_iload_n hx hb dX11_lend_32 rfl (lv_at hl 2 rfl) ?_
        refine lv_iload_n hx hb dX11_lend_33 rfl (lv_at hl 3 rfl) ?_
        have k_1 : (1 : Int32).toInt = 1 := by decide
        refine jn_i (wr := []) (rV (As := [.int 1, .int vm, .int vk, .int vd]) (rest := []) (ci := 12) ⟨hx, hb, hml, hown, hts⟩ (m_doIt l dC dI cy _ vnh vo 0 vmt votp vosz volm voto vofr vokd vonu vosg vofa vopl vowd votd vmn vmr vmk vms vma vmm vmrn vmkn vmik vmon vosm vohp vmw vmf vmb vomb vmd vmc vocm voct vocy vmx votx vose vml vmwr voln vohw vmno vond voon vowi votop vmnf vmsf 1 vm vk vd r_vosm ⟨by omega, by omega⟩ ⟨by omega, by omega⟩ ⟨by omega, by omega⟩ p_vmnf) (cw_X11_285 hts rfl rfl ⟨Nat.le_of_ble_eq_true rfl, Nat.le_of_ble_eq_true rfl⟩) hP hD hK [0, 1, 2] rfl rfl rfl rfl bl0 e0 rfl hl.1 rfl (Nat.le_of_ble_eq_true rfl) dX11_lend_34 ⟨Nat.le_of_ble_eq_true rfl, Nat.le_of_ble_eq_true rfl⟩) hP hD hS hA [0, 1, 2] [] rfl rfl rfl (by decide) (fun r_10 u_12 H locs hp_11 hP hD hS => ?_)
        obtain ⟨vmnf_13, vmsf_14, vosm_15⟩ := u_12
        have hp_11 : (NW vnh vmnf_13) ∧ (0 ≤ (vosm_15 : Int32).toInt ∧ (vosm_15 : Int32).toInt ≤ 8) := hp_11
        obtain ⟨q_16, q_17⟩ := hp_11
        have hP : va_P (dC, dI) vwCl [(vo, .inr (12, [.int 0, .ref vmt, .int votp, .int vosz, .int volm, .int voto, .int vofr, .int vokd, .int vonu, .int vosg, .int vofa, .int vopl, .long vowd, .int votd, .ref vmn, .ref vmr, .ref vmk, .ref vms, .ref vma, .ref vmm, .ref vmrn, .ref vmkn, .ref vmik, .ref vmon, .int vosm_15, .int vohp, .ref vmw, .ref vmf, .ref vmb, .int vomb, .ref vmd, .ref vmc, .int vocm, .int voct, .int vocy, .ref vmx, .int votx, .int vose, .ref vml, .ref vmwr, .int voln, .int vohw, .ref vmno, .int vond, .int voon, .int vowi, .int votop])), (vmn, .inl (cy 0, 575, .inl vmnf_13)), (vms, .inl (cy 0, 1408, .inl vmsf_14))] H := hP
        have hD : va_D A [(vo, .inr (12, [.int 0, .ref vmt, .int votp, .int vosz, .int volm, .int voto, .int vofr, .int vokd, .int vonu, .int vosg, .int vofa, .int vopl, .long vowd, .int votd, .ref vmn, .ref vmr, .ref vmk, .ref vms, .ref vma, .ref vmm, .ref vmrn, .ref vmkn, .ref vmik, .ref vmon, .int vosm_15, .int vohp, .ref vmw, .ref vmf, .ref vmb, .int vomb, .ref vmd, .ref vmc, .int vocm, .int voct, .int vocy, .ref vmx, .int votx, .int vose, .ref vml, .ref vmwr, .int voln, .int vohw, .ref vmno, .int vond, .int voon, .int vowi, .int votop])), (vmn, .inl (cy 0, 575, .inl vmnf_13)), (vms, .inl (cy 0, 1408, .inl vmsf_14))] := hD
        refine lv_goto (tgt := 41) hx hb dX11_lend_37 (by decide) ?_
        rw [hQ9]
        exact re_i ((0 : Int32), vmnf_13, vmsf_14, vosm_15) hx hb hr hlocks ⟨(show NW vnh vmnf_13 from q_16), (show 0 ≤ (vosm_15 : Int32).toInt ∧ (vosm_15 : Int32).toInt ≤ 8 from ⟨by omega, by omega⟩)⟩ (hP.sub [0, 1, 2] rfl) (hD.sub [0, 1, 2] rfl rfl) hS dX11_lend_41
abbrev cX11_back : ByteArray := prog_13_method_71_code
def yX11_back : MethodName := ⟨RX11, "back", "(I)I"⟩
theorem t1822 : Cond.code yX11_back cX11_back 2 (some .int) ∈ GW := gw_mem 1936 (by decide +kernel) (by decide +kernel)
abbrev O_m_back (cy : Nat → ClassId) (vnh : Nat → Int32) (vo : Nat) (voth : Int32) (vmt : Nat) (votp : Int32) (vosz : Int32) (volm : Int32) (voto : Int32) (vofr : Int32) (vokd : Int32) (vonu : Int32) (vosg : Int32) (vofa : Int32) (vopl : Int32) (vowd : Int64) (votd : Int32) (vmn : Nat) (vmr : Nat) (vmk : Nat) (vms : Nat) (vma : Nat) (vmm : Nat) (vmrn : Nat) (vmkn : Nat) (vmik : Nat) (vmon : Nat) (vosm : Int32) (vohp : Int32) (vmw : Nat) (vmf : Nat) (vmb : Nat) (vomb : Int32) (vmd : Nat) (vmc : Nat) (vocm : Int32) (voct : Int32) (vocy : Int32) (vmx : Nat) (votx : Int32) (vose : Int32) (vml : Nat) (vmwr : Nat) (voln : Int32) (vohw : Int32) (vmno : Nat) (vond : Int32) (voon : Int32) (vowi : Int32) (votop : Int32) (vmnf : Nat → Int32) (vmsf : Nat → Int32) (vm : Int32) (u : Int32 × (Nat → Int32) × (Nat → Int32) × Int32) : va_W := [(vo, .inr (12, [.int u.1, .ref vmt, .int votp, .int vosz, .int volm, .int voto, .int vofr, .int vokd, .int vonu, .int vosg, .int vofa, .int vopl, .long vowd, .int votd, .ref vmn, .ref vmr, .ref vmk, .ref vms, .ref vma, .ref vmm, .ref vmrn, .ref vmkn, .ref vmik, .ref vmon, .int u.2.2.2, .int vohp, .ref vmw, .ref vmf, .ref vmb, .int vomb, .ref vmd, .ref vmc, .int vocm, .int voct, .int vocy, .ref vmx, .int votx, .int vose, .ref vml, .ref vmwr, .int voln, .int vohw, .ref vmno, .int vond, .int voon, .int vowi, .int votop])), (vmn, .inl (cy 0, 575, .inl u.2.1)), (vms, .inl (cy 0, 1408, .inl u.2.2.1))]
theorem dX11_back_0 : decode cX11_back 0 = .ok (.aload_n 0, 1) := by decide +kernel
theorem dX11_back_1 : decode cX11_back 1 = .ok (.iconst 0, 1) := by decide +kernel
theorem dX11_back_2 : decode cX11_back 2 = .ok (.putfield 1, 3) := by decide +kernel
theorem dX11_back_5 : decode cX11_back 5 = .ok (.aload_n 0, 1) := by decide +kernel
theorem dX11_back_6 : decode cX11_back 6 = .ok (.iload_n 1, 1) := by decide +kernel
theorem dX11_back_7 : decode cX11_back 7 = .ok (.invokevirtual 250, 3) := by decide +kernel
theorem dX11_back_10 : decode cX11_back 10 = .ok (.ifCond .eq 14, 3) := by decide +kernel
theorem dX11_back_24 : decode cX11_back 24 = .ok (.iconst (-1), 1) := by decide +kernel
theorem dX11_back_25 : decode cX11_back 25 = .ok (.ireturn, 1) := by decide +kernel
theorem dX11_back_13 : decode cX11_back 13 = .ok (.aload_n 0, 1) := by decide +kernel
theorem dX11_back_14 : decode cX11_back 14 = .ok (.iconst 2, 1) := by decide +kernel
theorem dX11_back_15 : decode cX11_back 15 = .ok (.iload_n 1, 1) := by decide +kernel
theorem dX11_back_16 : decode cX11_back 16 = .ok (.iconst 0, 1) := by decide +kernel
theorem dX11_back_17 : decode cX11_back 17 = .ok (.iconst 0, 1) := by decide +kernel
theorem dX11_back_18 : decode cX11_back 18 = .ok (.invokevirtual 285, 3) := by decide +kernel
theorem dX11_back_21 : decode cX11_back 21 = .ok (.goto 4, 3) := by decide +kernel
set_option maxHeartbeats 4000000 in
set_option maxRecDepth 100000 in
theorem m_back (l : Launch) (dC : Nat → ClassId) (dI : Nat → Nat → Nat) (cy : Nat → ClassId) (sz : Nat) (vnh : Nat → Int32) (vo : Nat) (voth : Int32) (vmt : Nat) (votp : Int32) (vosz : Int32) (volm : Int32) (voto : Int32) (vofr : Int32) (vokd : Int32) (vonu : Int32) (vosg : Int32) (vofa : Int32) (vopl : Int32) (vowd : Int64) (votd : Int32) (vmn : Nat) (vmr : Nat) (vmk : Nat) (vms : Nat) (vma : Nat) (vmm : Nat) (vmrn : Nat) (vmkn : Nat) (vmik : Nat) (vmon : Nat) (vosm : Int32) (vohp : Int32) (vmw : Nat) (vmf : Nat) (vmb : Nat) (vomb : Int32) (vmd : Nat) (vmc : Nat) (vocm : Int32) (voct : Int32) (vocy : Int32) (vmx : Nat) (votx : Int32) (vose : Int32) (vml : Nat) (vmwr : Nat) (voln : Int32) (vohw : Int32) (vmno : Nat) (vond : Int32) (voon : Int32) (vowi : Int32) (votop : Int32) (vmnf : Nat → Int32) (vmsf : Nat → Int32) (vm : Int32) (r_vosm : 0 ≤ (vosm : Int32).toInt ∧ (vosm : Int32).toInt ≤ 8) (p_vmnf : NW vnh vmnf) : Met l yX11_back (wl yX11_back cX11_back 2 (some .int)) ({ frames := 6, cells := 0, slots := 0, locals := 384 }) (Pw (dC, dI) vwCl cy [(vo, .inr (12, [.int voth, .ref vmt, .int votp, .int vosz, .int volm, .int voto, .int vofr, .int vokd, .int vonu, .int vosg, .int vofa, .int vopl, .long vowd, .int votd, .ref vmn, .ref vmr, .ref vmk, .ref vms, .ref vma, .ref vmm, .ref vmrn, .ref vmkn, .ref vmik, .ref vmon, .int vosm, .int vohp, .ref vmw, .ref vmf, .ref vmb, .int vomb, .ref vmd, .ref vmc, .int vocm, .int voct, .int vocy, .ref vmx, .int votx, .int vose, .ref vml, .ref vmwr, .int voln, .int vohw, .ref vmno, .int vond, .int voon, .int vowi, .int votop])), (vmn, .inl (cy 0, 575, .inl vmnf)), (vms, .inl (cy 0, 1408, .inl vmsf))] sz [.ref vo, .int vm] nE) (Qi (dC, dI) vwCl (fun (r : Int32) (u : Int32 × (Nat → Int32) × (Nat → Int32) × Int32) => (NW vnh u.2.1) ∧ (0 ≤ (u.2.2.2 : Int32).toInt ∧ (u.2.2.2 : Int32).toInt ≤ 8)) (O_m_back cy vnh vo voth vmt votp vosz volm voto vofr vokd vonu vosg vofa vopl vowd votd vmn vmr vmk vms vma vmm vmrn vmkn vmik vmon vosm vohp vmw vmf vmb vomb vmd vmc vocm voct vocy vmx votx vose vml vmwr voln vohw vmno vond voon vowi votop vmnf vmsf vm) (va_A [(vo, .inr (12, [.int voth, .ref vmt, .int votp, .int vosz, .int volm, .int voto, .int vofr, .int vokd, .int vonu, .int vosg, .int vofa, .int vopl, .long vowd, .int votd, .ref vmn, .ref vmr, .ref vmk, .ref vms, .ref vma, .ref vmm, .ref vmrn, .ref vmkn, .ref vmik, .ref vmon, .int vosm, .int vohp, .ref vmw, .ref vmf, .ref vmb, .int vomb, .ref vmd, .ref vmc, .int vocm, .int voct, .int vocy, .ref vmx, .int votx, .int vose, .ref vml, .ref vmwr, .int voln, .int vohw, .ref vmno, .int vond, .int voon, .int vowi, .int votop])), (vmn, .inl (cy 0, 575, .inl vmnf)), (vms, .inl (cy 0, 1408, .inl vmsf))] sz)) 0 0 (va_A [(vo, .inr (12, [.int voth, .ref vmt, .int votp, .int vosz, .int volm, .int voto, .int vofr, .int vokd, .int vonu, .int vosg, .int vofa, .int vopl, .long vowd, .int votd, .ref vmn, .ref vmr, .ref vmk, .ref vms, .ref vma, .ref vmm, .ref vmrn, .ref vmkn, .ref vmik, .ref vmon, .int vosm, .int vohp, .ref vmw, .ref vmf, .ref vmb, .int vomb, .ref vmd, .ref vmc, .int vocm, .int voct, .int vocy, .ref vmx, .int votx, .int vose, .ref vml, .ref vmwr, .int voln, .int vohw, .ref vmno, .int vond, .int voon, .int vowi, .int votop])), (vmn, .inl (cy 0, 575, .inl vmnf)), (vms, .inl (cy 0, 1408, .inl vmsf))] sz) := by
  refine mw (Qc := Qi (dC, dI) vwCl (fun (r : Int32) (u : Int32 × (Nat → Int32) × (Nat → Int32) × Int32) => (NW vnh u.2.1) ∧ (0 ≤ (u.2.2.2 : Int32).toInt ∧ (u.2.2.2 : Int32).toInt ≤ 8)) (O_m_back cy vnh vo voth vmt votp vosz volm voto vofr vokd vonu vosg vofa vopl vowd votd vmn vmr vmk vms vma vmm vmrn vmkn vmik vmon vosm vohp vmw vmf vmb vomb vmd vmc vocm voct vocy vmx votx vose vml vmwr voln vohw vmno vond voon vowi votop vmnf vmsf vm)) RX11 rfl (by decide +kernel) (Nat.le_of_ble_eq_true rfl) ?_
  intro p e s m below meth c A hx hb hr hlocks av9 hav hts hown hnm hml hK hP hD hA hS hE hAe Q9 hQ9 ls hl
  have hl : lv_has ls 2 [(0, .ref vo), (1, .int vm)] := hl
  refine lv_aload_n hx hb dX11_back_0 rfl (lv_at hl 0 rfl) ?_
  refine lv_iconst (v := 0) hx hb dX11_back_1 (by decide) ?_
  refine pf_X11_1 hx hb hts hown hK hP hD hS 0 rfl rfl rfl (Nat.le_of_ble_eq_true rfl) dX11_back_2 (fun H locs hP hD hS => ?_)
  have hP : va_P (dC, dI) vwCl [(vo, .inr (12, [.int 0, .ref vmt, .int votp, .int vosz, .int volm, .int voto, .int vofr, .int vokd, .int vonu, .int vosg, .int vofa, .int vopl, .long vowd, .int votd, .ref vmn, .ref vmr, .ref vmk, .ref vms, .ref vma, .ref vmm, .ref vmrn, .ref vmkn, .ref vmik, .ref vmon, .int vosm, .int vohp, .ref vmw, .ref vmf, .ref vmb, .int vomb, .ref vmd, .ref vmc, .int vocm, .int voct, .int vocy, .ref vmx, .int votx, .int vose, .ref vml, .ref vmwr, .int voln, .int vohw, .ref vmno, .int vond, .int voon, .int vowi, .int votop])), (vmn, .inl (cy 0, 575, .inl vmnf)), (vms, .inl (cy 0, 1408, .inl vmsf))] H := hP
  have hD : va_D A [(vo, .inr (12, [.int 0, .ref vmt, .int votp, .int vosz, .int volm, .int voto, .int vofr, .int vokd, .int vonu, .int vosg, .int vofa, .int vopl, .long vowd, .int votd, .ref vmn, .ref vmr, .ref vmk, .ref vms, .ref vma, .ref vmm, .ref vmrn, .ref vmkn, .ref vmik, .ref vmon, .int vosm, .int vohp, .ref vmw, .ref vmf, .ref vmb, .int vomb, .ref vmd, .ref vmc, .int vocm, .int voct, .int vocy, .ref vmx, .int votx, .int vose, .ref vml, .ref vmwr, .int voln, .int vohw, .ref vmno, .int vond, .int voon, .int vowi, .int votop])), (vmn, .inl (cy 0, 575, .inl vmnf)), (vms, .inl (cy 0, 1408, .inl vmsf))] := hD
  refine lv_aload_n hx hb dX11_back_5 rfl (lv_at hl 0 rfl) ?_
  refine lv_iload_n hx hb dX11_back_6 rfl (lv_at hl 1 rfl) ?_
  have k_0 : (0 : Int32).toInt = 0 := by decide
  refine jr_i (rVr (As := [.int vm]) (rest := []) (ci := 12) ⟨hx, hb, hml, hown, hts⟩ (m_isMan l dC dI cy vnh vo 0 vmt votp vosz volm voto vofr vokd vonu vosg vofa vopl vowd votd vmn vmr vmk vms vma vmm vmrn vmkn vmik vmon vosm vohp vmw vmf vmb vomb vmd vmc vocm voct vocy vmx votx vose vml vmwr voln vohw vmno vond voon vowi votop vmnf vm p_vmnf) (cw_X11_250 hts rfl rfl ⟨Nat.le_of_ble_eq_true rfl, Nat.le_of_ble_eq_true rfl⟩) hP hK [0, 1] rfl rfl rfl rfl hl.1 rfl (Nat.le_of_ble_eq_true rfl) dX11_back_7 ⟨Nat.le_of_ble_eq_true rfl, Nat.le_of_ble_eq_true rfl⟩) hP hS (fun r_1 H locs hp_2 hP hS => ?_)
  have hp_2 : ((r_1 = 0 ∧ ((vm : Int32).toInt < 0 ∨ (vmnf 0).toInt ≤ (vm : Int32).toInt)) ∨ (r_1 = 1 ∧ 0 ≤ (vm : Int32).toInt ∧ (vm : Int32).toInt ≤ 6 ∧ (vm : Int32).toInt < (vmnf 0).toInt)) := hp_2
  have q_3 := hp_2
  rcases q_3 with ⟨aq_3, f0q_3⟩ | ⟨aq_3, f0q_3, f1q_3, f2q_3⟩
  · skip
    refine as_i 0 aq_3 ?_
    refine lv_if_eq (tgt := 24) hx hb dX11_back_10 (by decide) (fun _ => ?_) (fun c9 => absurd (by decide) c9)
    refine lv_iconst (v := (-1)) hx hb dX11_back_24 (by decide) ?_
    have k_m1 : ((-1) : Int32).toInt = (-1) := by decide
    rw [hQ9]
    exact re_i ((0 : Int32), vmnf, vmsf, vosm) hx hb hr hlocks ⟨(show NW vnh vmnf from p_vmnf), (show 0 ≤ (vosm : Int32).toInt ∧ (vosm : Int32).toInt ≤ 8 from ⟨by omega, by omega⟩)⟩ (hP.sub [0, 1, 2] rfl) (hD.sub [0, 1, 2] rfl rfl) hS dX11_back_25
  · skip
    refine as_i 1 aq_3 ?_
    refine lv_if_eq (tgt := 24) hx hb dX11_back_10 (by decide) (fun c9 => absurd c9 (by decide)) (fun _ => ?_)
    refine lv_aload_n hx hb dX11_back_13 rfl (lv_at hl 0 rfl) ?_
    refine lv_iconst (v := 2) hx hb dX11_back_14 (by decide) ?_
    refine lv_iload_n hx hb dX11_back_15 rfl (lv_at hl 1 rfl) ?_
    refine lv_iconst (v := 0) hx hb dX11_back_16 (by decide) ?_
    refine lv_iconst (v := 0) hx hb dX11_back_17 (by decide) ?_
    have k_2 : (2 : Int32).toInt = 2 := by decide
    refine jn_i (wr := []) (rV (As := [.int 2, .int vm, .int 0, .int 0]) (rest := []) (ci := 12) ⟨hx, hb, hml, hown, hts⟩ (m_doIt l dC dI cy _ vnh vo 0 vmt votp vosz volm voto vofr vokd vonu vosg vofa vopl vowd votd vmn vmr vmk vms vma vmm vmrn vmkn vmik vmon vosm vohp vmw vmf vmb vomb vmd vmc vocm voct vocy vmx votx vose vml vmwr voln vohw vmno vond voon vowi votop vmnf vmsf 2 vm 0 0 r_vosm ⟨by omega, by omega⟩ ⟨by omega, by omega⟩ ⟨by omega, by omega⟩ p_vmnf) (cw_X11_285 hts rfl rfl ⟨Nat.le_of_ble_eq_true rfl, Nat.le_of_ble_eq_true rfl⟩) hP hD hK [0, 1, 2] rfl rfl rfl rfl bl0 e0 rfl hl.1 rfl (Nat.le_of_ble_eq_true rfl) dX11_back_18 ⟨Nat.le_of_ble_eq_true rfl, Nat.le_of_ble_eq_true rfl⟩) hP hD hS hA [0, 1, 2] [] rfl rfl rfl (by decide) (fun r_4 u_6 H locs hp_5 hP hD hS => ?_)
    obtain ⟨vmnf_7, vmsf_8, vosm_9⟩ := u_6
    have hp_5 : (NW vnh vmnf_7) ∧ (0 ≤ (vosm_9 : Int32).toInt ∧ (vosm_9 : Int32).toInt ≤ 8) := hp_5
    obtain ⟨q_10, q_11⟩ := hp_5
    have hP : va_P (dC, dI) vwCl [(vo, .inr (12, [.int 0, .ref vmt, .int votp, .int vosz, .int volm, .int voto, .int vofr, .int vokd, .int vonu, .int vosg, .int vofa, .int vopl, .long vowd, .int votd, .ref vmn, .ref vmr, .ref vmk, .ref vms, .ref vma, .ref vmm, .ref vmrn, .ref vmkn, .ref vmik, .ref vmon, .int vosm_9, .int vohp, .ref vmw, .ref vmf, .ref vmb, .int vomb, .ref vmd, .ref vmc, .int vocm, .int voct, .int vocy, .ref vmx, .int votx, .int vose, .ref vml, .ref vmwr, .int voln, .int vohw, .ref vmno, .int vond, .int voon, .int vowi, .int votop])), (vmn, .inl (cy 0, 575, .inl vmnf_7)), (vms, .inl (cy 0, 1408, .inl vmsf_8))] H := hP
    have hD : va_D A [(vo, .inr (12, [.int 0, .ref vmt, .int votp, .int vosz, .int volm, .int voto, .int vofr, .int vokd, .int vonu, .int vosg, .int vofa, .int vopl, .long vowd, .int votd, .ref vmn, .ref vmr, .ref vmk, .ref vms, .ref vma, .ref vmm, .ref vmrn, .ref vmkn, .ref vmik, .ref vmon, .int vosm_9, .int vohp, .ref vmw, .ref vmf, .ref vmb, .int vomb, .ref vmd, .ref vmc, .int vocm, .int voct, .int vocy, .ref vmx, .int votx, .int vose, .ref vml, .ref vmwr, .int voln, .int vohw, .ref vmno, .int vond, .int voon, .int vowi, .int votop])), (vmn, .inl (cy 0, 575, .inl vmnf_7)), (vms, .inl (cy 0, 1408, .inl vmsf_8))] := hD
    refine lv_goto (tgt := 25) hx hb dX11_back_21 (by decide) ?_
    rw [hQ9]
    exact re_i ((0 : Int32), vmnf_7, vmsf_8, vosm_9) hx hb hr hlocks ⟨(show NW vnh vmnf_7 from q_10), (show 0 ≤ (vosm_9 : Int32).toInt ∧ (vosm_9 : Int32).toInt ≤ 8 from ⟨by omega, by omega⟩)⟩ (hP.sub [0, 1, 2] rfl) (hD.sub [0, 1, 2] rfl rfl) hS dX11_back_25
abbrev cX11_borrow : ByteArray := prog_13_method_72_code
def yX11_borrow : MethodName := ⟨RX11, "borrow", "(III)I"⟩
theorem t1826 : Cond.code yX11_borrow cX11_borrow 4 (some .int) ∈ GW := gw_mem 1940 (by decide +kernel) (by decide +kernel)
abbrev O_m_borrow (cy : Nat → ClassId) (vnh : Nat → Int32) (vo : Nat) (voth : Int32) (vmt : Nat) (votp : Int32) (vosz : Int32) (volm : Int32) (voto : Int32) (vofr : Int32) (vokd : Int32) (vonu : Int32) (vosg : Int32) (vofa : Int32) (vopl : Int32) (vowd : Int64) (votd : Int32) (vmn : Nat) (vmr : Nat) (vmk : Nat) (vms : Nat) (vma : Nat) (vmm : Nat) (vmrn : Nat) (vmkn : Nat) (vmik : Nat) (vmon : Nat) (vosm : Int32) (vohp : Int32) (vmw : Nat) (vmf : Nat) (vmb : Nat) (vomb : Int32) (vmd : Nat) (vmc : Nat) (vocm : Int32) (voct : Int32) (vocy : Int32) (vmx : Nat) (votx : Int32) (vose : Int32) (vml : Nat) (vmwr : Nat) (voln : Int32) (vohw : Int32) (vmno : Nat) (vond : Int32) (voon : Int32) (vowi : Int32) (votop : Int32) (vmnf : Nat → Int32) (vmsf : Nat → Int32) (vm : Int32) (vk : Int32) (vn : Int32) (u : Int32 × (Nat → Int32) × (Nat → Int32) × Int32) : va_W := [(vo, .inr (12, [.int u.1, .ref vmt, .int votp, .int vosz, .int volm, .int voto, .int vofr, .int vokd, .int vonu, .int vosg, .int vofa, .int vopl, .long vowd, .int votd, .ref vmn, .ref vmr, .ref vmk, .ref vms, .ref vma, .ref vmm, .ref vmrn, .ref vmkn, .ref vmik, .ref vmon, .int u.2.2.2, .int vohp, .ref vmw, .ref vmf, .ref vmb, .int vomb, .ref vmd, .ref vmc, .int vocm, .int voct, .int vocy, .ref vmx, .int votx, .int vose, .ref vml, .ref vmwr, .int voln, .int vohw, .ref vmno, .int vond, .int voon, .int vowi, .int votop])), (vmn, .inl (cy 0, 575, .inl u.2.1)), (vms, .inl (cy 0, 1408, .inl u.2.2.1))]
theorem dX11_borrow_0 : decode cX11_borrow 0 = .ok (.aload_n 0, 1) := by decide +kernel
theorem dX11_borrow_1 : decode cX11_borrow 1 = .ok (.iconst 0, 1) := by decide +kernel
theorem dX11_borrow_2 : decode cX11_borrow 2 = .ok (.putfield 1, 3) := by decide +kernel
theorem dX11_borrow_5 : decode cX11_borrow 5 = .ok (.aload_n 0, 1) := by decide +kernel
theorem dX11_borrow_6 : decode cX11_borrow 6 = .ok (.iload_n 1, 1) := by decide +kernel
theorem dX11_borrow_7 : decode cX11_borrow 7 = .ok (.invokevirtual 250, 3) := by decide +kernel
theorem dX11_borrow_10 : decode cX11_borrow 10 = .ok (.ifCond .eq 32, 3) := by decide +kernel
theorem dX11_borrow_42 : decode cX11_borrow 42 = .ok (.iconst (-1), 1) := by decide +kernel
theorem dX11_borrow_43 : decode cX11_borrow 43 = .ok (.ireturn, 1) := by decide +kernel
theorem dX11_borrow_13 : decode cX11_borrow 13 = .ok (.aload_n 0, 1) := by decide +kernel
theorem dX11_borrow_14 : decode cX11_borrow 14 = .ok (.iload_n 2, 1) := by decide +kernel
theorem dX11_borrow_15 : decode cX11_borrow 15 = .ok (.invokevirtual 250, 3) := by decide +kernel
theorem dX11_borrow_18 : decode cX11_borrow 18 = .ok (.ifCond .eq 24, 3) := by decide +kernel
theorem dX11_borrow_21 : decode cX11_borrow 21 = .ok (.iload_n 3, 1) := by decide +kernel
theorem dX11_borrow_22 : decode cX11_borrow 22 = .ok (.iconst 1, 1) := by decide +kernel
theorem dX11_borrow_23 : decode cX11_borrow 23 = .ok (.bipush 40, 2) := by decide +kernel
theorem dX11_borrow_25 : decode cX11_borrow 25 = .ok (.invokestatic 75, 3) := by decide +kernel
theorem dX11_borrow_28 : decode cX11_borrow 28 = .ok (.ifCond .eq 14, 3) := by decide +kernel
theorem dX11_borrow_31 : decode cX11_borrow 31 = .ok (.aload_n 0, 1) := by decide +kernel
theorem dX11_borrow_32 : decode cX11_borrow 32 = .ok (.iconst 3, 1) := by decide +kernel
theorem dX11_borrow_33 : decode cX11_borrow 33 = .ok (.iload_n 1, 1) := by decide +kernel
theorem dX11_borrow_34 : decode cX11_borrow 34 = .ok (.iload_n 2, 1) := by decide +kernel
theorem dX11_borrow_35 : decode cX11_borrow 35 = .ok (.iload_n 3, 1) := by decide +kernel
theorem dX11_borrow_36 : decode cX11_borrow 36 = .ok (.invokevirtual 285, 3) := by decide +kernel
theorem dX11_borrow_39 : decode cX11_borrow 39 = .ok (.goto 4, 3) := by decide +kernel
set_option maxHeartbeats 4000000 in
set_option maxRecDepth 100000 in
theorem m_borrow (l : Launch) (dC : Nat → ClassId) (dI : Nat → Nat → Nat) (cy : Nat → ClassId) (sz : Nat) (vnh : Nat → Int32) (vo : Nat) (voth : Int32) (vmt : Nat) (votp : Int32) (vosz : Int32) (volm : Int32) (voto : Int32) (vofr : Int32) (vokd : Int32) (vonu : Int32) (vosg : Int32) (vofa : Int32) (vopl : Int32) (vowd : Int64) (votd : Int32) (vmn : Nat) (vmr : Nat) (vmk : Nat) (vms : Nat) (vma : Nat) (vmm : Nat) (vmrn : Nat) (vmkn : Nat) (vmik : Nat) (vmon : Nat) (vosm : Int32) (vohp : Int32) (vmw : Nat) (vmf : Nat) (vmb : Nat) (vomb : Int32) (vmd : Nat) (vmc : Nat) (vocm : Int32) (voct : Int32) (vocy : Int32) (vmx : Nat) (votx : Int32) (vose : Int32) (vml : Nat) (vmwr : Nat) (voln : Int32) (vohw : Int32) (vmno : Nat) (vond : Int32) (voon : Int32) (vowi : Int32) (votop : Int32) (vmnf : Nat → Int32) (vmsf : Nat → Int32) (vm : Int32) (vk : Int32) (vn : Int32) (r_vosm : 0 ≤ (vosm : Int32).toInt ∧ (vosm : Int32).toInt ≤ 8) (p_vmnf : NW vnh vmnf) : Met l yX11_borrow (wl yX11_borrow cX11_borrow 4 (some .int)) ({ frames := 6, cells := 0, slots := 0, locals := 384 }) (Pw (dC, dI) vwCl cy [(vo, .inr (12, [.int voth, .ref vmt, .int votp, .int vosz, .int volm, .int voto, .int vofr, .int vokd, .int vonu, .int vosg, .int vofa, .int vopl, .long vowd, .int votd, .ref vmn, .ref vmr, .ref vmk, .ref vms, .ref vma, .ref vmm, .ref vmrn, .ref vmkn, .ref vmik, .ref vmon, .int vosm, .int vohp, .ref vmw, .ref vmf, .ref vmb, .int vomb, .ref vmd, .ref vmc, .int vocm, .int voct, .int vocy, .ref vmx, .int votx, .int vose, .ref vml, .ref vmwr, .int voln, .int vohw, .ref vmno, .int vond, .int voon, .int vowi, .int votop])), (vmn, .inl (cy 0, 575, .inl vmnf)), (vms, .inl (cy 0, 1408, .inl vmsf))] sz [.ref vo, .int vm, .int vk, .int vn] nE) (Qi (dC, dI) vwCl (fun (r : Int32) (u : Int32 × (Nat → Int32) × (Nat → Int32) × Int32) => (NW vnh u.2.1) ∧ (0 ≤ (u.2.2.2 : Int32).toInt ∧ (u.2.2.2 : Int32).toInt ≤ 8)) (O_m_borrow cy vnh vo voth vmt votp vosz volm voto vofr vokd vonu vosg vofa vopl vowd votd vmn vmr vmk vms vma vmm vmrn vmkn vmik vmon vosm vohp vmw vmf vmb vomb vmd vmc vocm voct vocy vmx votx vose vml vmwr voln vohw vmno vond voon vowi votop vmnf vmsf vm vk vn) (va_A [(vo, .inr (12, [.int voth, .ref vmt, .int votp, .int vosz, .int volm, .int voto, .int vofr, .int vokd, .int vonu, .int vosg, .int vofa, .int vopl, .long vowd, .int votd, .ref vmn, .ref vmr, .ref vmk, .ref vms, .ref vma, .ref vmm, .ref vmrn, .ref vmkn, .ref vmik, .ref vmon, .int vosm, .int vohp, .ref vmw, .ref vmf, .ref vmb, .int vomb, .ref vmd, .ref vmc, .int vocm, .int voct, .int vocy, .ref vmx, .int votx, .int vose, .ref vml, .ref vmwr, .int voln, .int vohw, .ref vmno, .int vond, .int voon, .int vowi, .int votop])), (vmn, .inl (cy 0, 575, .inl vmnf)), (vms, .inl (cy 0, 1408, .inl vmsf))] sz)) 0 0 (va_A [(vo, .inr (12, [.int voth, .ref vmt, .int votp, .int vosz, .int volm, .int voto, .int vofr, .int vokd, .int vonu, .int vosg, .int vofa, .int vopl, .long vowd, .int votd, .ref vmn, .ref vmr, .ref vmk, .ref vms, .ref vma, .ref vmm, .ref vmrn, .ref vmkn, .ref vmik, .ref vmon, .int vosm, .int vohp, .ref vmw, .ref vmf, .ref vmb, .int vomb, .ref vmd, .ref vmc, .int vocm, .int voct, .int vocy, .ref vmx, .int votx, .int vose, .ref vml, .ref vmwr, .int voln, .int vohw, .ref vmno, .int vond, .int voon, .int vowi, .int votop])), (vmn, .inl (cy 0, 575, .inl vmnf)), (vms, .inl (cy 0, 1408, .inl vmsf))] sz) := by
  refine mw (Qc := Qi (dC, dI) vwCl (fun (r : Int32) (u : Int32 × (Nat → Int32) × (Nat → Int32) × Int32) => (NW vnh u.2.1) ∧ (0 ≤ (u.2.2.2 : Int32).toInt ∧ (u.2.2.2 : Int32).toInt ≤ 8)) (O_m_borrow cy vnh vo voth vmt votp vosz volm voto vofr vokd vonu vosg vofa vopl vowd votd vmn vmr vmk vms vma vmm vmrn vmkn vmik vmon vosm vohp vmw vmf vmb vomb vmd vmc vocm voct vocy vmx votx vose vml vmwr voln vohw vmno vond voon vowi votop vmnf vmsf vm vk vn)) RX11 rfl (by decide +kernel) (Nat.le_of_ble_eq_true rfl) ?_
  intro p e s m below meth c A hx hb hr hlocks av9 hav hts hown hnm hml hK hP hD hA hS hE hAe Q9 hQ9 ls hl
  have hl : lv_has ls 4 [(0, .ref vo), (1, .int vm), (2, .int vk), (3, .int vn)] := hl
  refine lv_aload_n hx hb dX11_borrow_0 rfl (lv_at hl 0 rfl) ?_
  refine lv_iconst (v := 0) hx hb dX11_borrow_1 (by decide) ?_
  refine pf_X11_1 hx hb hts hown hK hP hD hS 0 rfl rfl rfl (Nat.le_of_ble_eq_true rfl) dX11_borrow_2 (fun H locs hP hD hS => ?_)
  have hP : va_P (dC, dI) vwCl [(vo, .inr (12, [.int 0, .ref vmt, .int votp, .int vosz, .int volm, .int voto, .int vofr, .int vokd, .int vonu, .int vosg, .int vofa, .int vopl, .long vowd, .int votd, .ref vmn, .ref vmr, .ref vmk, .ref vms, .ref vma, .ref vmm, .ref vmrn, .ref vmkn, .ref vmik, .ref vmon, .int vosm, .int vohp, .ref vmw, .ref vmf, .ref vmb, .int vomb, .ref vmd, .ref vmc, .int vocm, .int voct, .int vocy, .ref vmx, .int votx, .int vose, .ref vml, .ref vmwr, .int voln, .int vohw, .ref vmno, .int vond, .int voon, .int vowi, .int votop])), (vmn, .inl (cy 0, 575, .inl vmnf)), (vms, .inl (cy 0, 1408, .inl vmsf))] H := hP
  have hD : va_D A [(vo, .inr (12, [.int 0, .ref vmt, .int votp, .int vosz, .int volm, .int voto, .int vofr, .int vokd, .int vonu, .int vosg, .int vofa, .int vopl, .long vowd, .int votd, .ref vmn, .ref vmr, .ref vmk, .ref vms, .ref vma, .ref vmm, .ref vmrn, .ref vmkn, .ref vmik, .ref vmon, .int vosm, .int vohp, .ref vmw, .ref vmf, .ref vmb, .int vomb, .ref vmd, .ref vmc, .int vocm, .int voct, .int vocy, .ref vmx, .int votx, .int vose, .ref vml, .ref vmwr, .int voln, .int vohw, .ref vmno, .int vond, .int voon, .int vowi, .int votop])), (vmn, .inl (cy 0, 575, .inl vmnf)), (vms, .inl (cy 0, 1408, .inl vmsf))] := hD
  refine lv_aload_n hx hb dX11_borrow_5 rfl (lv_at hl 0 rfl) ?_
  refine lv_iload_n hx hb dX11_borrow_6 rfl (lv_at hl 1 rfl) ?_
  have k_0 : (0 : Int32).toInt = 0 := by decide
  refine jr_i (rVr (As := [.int vm]) (rest := []) (ci := 12) ⟨hx, hb, hml, hown, hts⟩ (m_isMan l dC dI cy vnh vo 0 vmt votp vosz volm voto vofr vokd vonu vosg vofa vopl vowd votd vmn vmr vmk vms vma vmm vmrn vmkn vmik vmon vosm vohp vmw vmf vmb vomb vmd vmc vocm voct vocy vmx votx vose vml vmwr voln vohw vmno vond voon vowi votop vmnf vm p_vmnf) (cw_X11_250 hts rfl rfl ⟨Nat.le_of_ble_eq_true rfl, Nat.le_of_ble_eq_true rfl⟩) hP hK [0, 1] rfl rfl rfl rfl hl.1 rfl (Nat.le_of_ble_eq_true rfl) dX11_borrow_7 ⟨Nat.le_of_ble_eq_true rfl, Nat.le_of_ble_eq_true rfl⟩) hP hS (fun r_1 H locs hp_2 hP hS => ?_)
  have hp_2 : ((r_1 = 0 ∧ ((vm : Int32).toInt < 0 ∨ (vmnf 0).toInt ≤ (vm : Int32).toInt)) ∨ (r_1 = 1 ∧ 0 ≤ (vm : Int32).toInt ∧ (vm : Int32).toInt ≤ 6 ∧ (vm : Int32).toInt < (vmnf 0).toInt)) := hp_2
  have q_3 := hp_2
  rcases q_3 with ⟨aq_3, f0q_3⟩ | ⟨aq_3, f0q_3, f1q_3, f2q_3⟩
  · skip
    refine as_i 0 aq_3 ?_
    refine lv_if_eq (tgt := 42) hx hb dX11_borrow_10 (by decide) (fun _ => ?_) (fun c9 => absurd (by decide) c9)
    refine lv_iconst (v := (-1)) hx hb dX11_borrow_42 (by decide) ?_
    have k_m1 : ((-1) : Int32).toInt = (-1) := by decide
    rw [hQ9]
    exact re_i ((0 : Int32), vmnf, vmsf, vosm) hx hb hr hlocks ⟨(show NW vnh vmnf from p_vmnf), (show 0 ≤ (vosm : Int32).toInt ∧ (vosm : Int32).toInt ≤ 8 from ⟨by omega, by omega⟩)⟩ (hP.sub [0, 1, 2] rfl) (hD.sub [0, 1, 2] rfl rfl) hS dX11_borrow_43
  · skip
    refine as_i 1 aq_3 ?_
    refine lv_if_eq (tgt := 42) hx hb dX11_borrow_10 (by decide) (fun c9 => absurd c9 (by decide)) (fun _ => ?_)
    refine lv_aload_n hx hb dX11_borrow_13 rfl (lv_at hl 0 rfl) ?_
    refine lv_iload_n hx hb dX11_borrow_14 rfl (lv_at hl 2 rfl) ?_
    refine jr_i (rVr (As := [.int vk]) (rest := []) (ci := 12) ⟨hx, hb, hml, hown, hts⟩ (m_isMan l dC dI cy vnh vo 0 vmt votp vosz volm voto vofr vokd vonu vosg vofa vopl vowd votd vmn vmr vmk vms vma vmm vmrn vmkn vmik vmon vosm vohp vmw vmf vmb vomb vmd vmc vocm voct vocy vmx votx vose vml vmwr voln vohw vmno vond voon vowi votop vmnf vk p_vmnf) (cw_X11_250 hts rfl rfl ⟨Nat.le_of_ble_eq_true rfl, Nat.le_of_ble_eq_true rfl⟩) hP hK [0, 1] rfl rfl rfl rfl hl.1 rfl (Nat.le_of_ble_eq_true rfl) dX11_borrow_15 ⟨Nat.le_of_ble_eq_true rfl, Nat.le_of_ble_eq_true rfl⟩) hP hS (fun r_4 H locs hp_5 hP hS => ?_)
    have hp_5 : ((r_4 = 0 ∧ ((vk : Int32).toInt < 0 ∨ (vmnf 0).toInt ≤ (vk : Int32).toInt)) ∨ (r_4 = 1 ∧ 0 ≤ (vk : Int32).toInt ∧ (vk : Int32).toInt ≤ 6 ∧ (vk : Int32).toInt < (vmnf 0).toInt)) := hp_5
    have q_6 := hp_5
    rcases q_6 with ⟨aq_6, f0q_6⟩ | ⟨aq_6, f0q_6, f1q_6, f2q_6⟩
    · skip
      refine as_i 0 aq_6 ?_
      refine lv_if_eq (tgt := 42) hx hb dX11_borrow_18 (by decide) (fun _ => ?_) (fun c9 => absurd (by decide) c9)
      refine lv_iconst (v := (-1)) hx hb dX11_borrow_42 (by decide) ?_
      have k_m1 : ((-1) : Int32).toInt = (-1) := by decide
      rw [hQ9]
      exact re_i ((0 : Int32), vmnf, vmsf, vosm) hx hb hr hlocks ⟨(show NW vnh vmnf from p_vmnf), (show 0 ≤ (vosm : Int32).toInt ∧ (vosm : Int32).toInt ≤ 8 from ⟨by omega, by omega⟩)⟩ (hP.sub [0, 1, 2] rfl) (hD.sub [0, 1, 2] rfl rfl) hS dX11_borrow_43
    · skip
      refine as_i 1 aq_6 ?_
      refine lv_if_eq (tgt := 42) hx hb dX11_borrow_18 (by decide) (fun c9 => absurd c9 (by decide)) (fun _ => ?_)
      refine lv_iload_n hx hb dX11_borrow_21 rfl (lv_at hl 3 rfl) ?_
      refine lv_iconst (v := 1) hx hb dX11_borrow_22 (by decide) ?_
      refine lv_bipush (v := 40) hx hb dX11_borrow_23 (by decide) ?_
      have k_1 : (1 : Int32).toInt = 1 := by decide
      have k_40 : (40 : Int32).toInt = 40 := by decide
      refine jr_i (rSr (As := [.int vn, .int 1, .int 40]) (rest := []) ⟨hx, hb, hml, hown, hts⟩ (m_isIn l dC dI cy vn 1 40 ) (cw_X11_75 hts rfl rfl ⟨Nat.le_of_ble_eq_true rfl, Nat.le_of_ble_eq_true rfl⟩) hP hK [] rfl rfl hl.1 rfl (Nat.le_of_ble_eq_true rfl) dX11_borrow_25 ⟨Nat.le_of_ble_eq_true rfl, Nat.le_of_ble_eq_true rfl⟩) hP hS (fun r_7 H locs hp_8 hP hS => ?_)
      have hp_8 : ((r_7 = 0 ∧ ((vn : Int32).toInt < (1 : Int32).toInt ∨ (40 : Int32).toInt < (vn : Int32).toInt)) ∨ (r_7 = 1 ∧ (1 : Int32).toInt ≤ (vn : Int32).toInt ∧ (vn : Int32).toInt ≤ (40 : Int32).toInt)) := hp_8
      have q_9 := hp_8
      rcases q_9 with ⟨aq_9, f0q_9⟩ | ⟨aq_9, f0q_9, f1q_9⟩
      · skip
        refine as_i 0 aq_9 ?_
        refine lv_if_eq (tgt := 42) hx hb dX11_borrow_28 (by decide) (fun _ => ?_) (fun c9 => absurd (by decide) c9)
        refine lv_iconst (v := (-1)) hx hb dX11_borrow_42 (by decide) ?_
        have k_m1 : ((-1) : Int32).toInt = (-1) := by decide
        rw [hQ9]
        exact re_i ((0 : Int32), vmnf, vmsf, vosm) hx hb hr hlocks ⟨(show NW vnh vmnf from p_vmnf), (show 0 ≤ (vosm : Int32).toInt ∧ (vosm : Int32).toInt ≤ 8 from ⟨by omega, by omega⟩)⟩ (hP.sub [0, 1, 2] rfl) (hD.sub [0, 1, 2] rfl rfl) hS dX11_borrow_43
      · skip
        refine as_i 1 aq_9 ?_
        refine lv_if_eq (tgt := 42) hx hb dX11_borrow_28 (by decide) (fun c9 => absurd c9 (by decide)) (fun _ => ?_)
        refine lv_aload_n hx hb dX11_borrow_31 rfl (lv_at hl 0 rfl) ?_
        refine lv_iconst (v := 3) hx hb dX11_borrow_32 (by decide) ?_
        refine lv_iload_n hx hb dX11_borrow_33 rfl (lv_at hl 1 rfl) ?_
        refine lv_iload_n hx hb dX11_borrow_34 rfl (lv_at hl 2 rfl) ?_
        refine lv_iload_n hx hb dX11_borrow_35 rfl (lv_at hl 3 rfl) ?_
        have k_3 : (3 : Int32).toInt = 3 := by decide
        refine jn_i (wr := []) (rV (As := [.int 3, .int vm, .int vk, .int vn]) (rest := []) (ci := 12) ⟨hx, hb, hml, hown, hts⟩ (m_doIt l dC dI cy _ vnh vo 0 vmt votp vosz volm voto vofr vokd vonu vosg vofa vopl vowd votd vmn vmr vmk vms vma vmm vmrn vmkn vmik vmon vosm vohp vmw vmf vmb vomb vmd vmc vocm voct vocy vmx votx vose vml vmwr voln vohw vmno vond voon vowi votop vmnf vmsf 3 vm vk vn r_vosm ⟨by omega, by omega⟩ ⟨by omega, by omega⟩ ⟨by omega, by omega⟩ p_vmnf) (cw_X11_285 hts rfl rfl ⟨Nat.le_of_ble_eq_true rfl, Nat.le_of_ble_eq_true rfl⟩) hP hD hK [0, 1, 2] rfl rfl rfl rfl bl0 e0 rfl hl.1 rfl (Nat.le_of_ble_eq_true rfl) dX11_borrow_36 ⟨Nat.le_of_ble_eq_true rfl, Nat.le_of_ble_eq_true rfl⟩) hP hD hS hA [0, 1, 2] [] rfl rfl rfl (by decide) (fun r_10 u_12 H locs hp_11 hP hD hS => ?_)
        obtain ⟨vmnf_13, vmsf_14, vosm_15⟩ := u_12
        have hp_11 : (NW vnh vmnf_13) ∧ (0 ≤ (vosm_15 : Int32).toInt ∧ (vosm_15 : Int32).toInt ≤ 8) := hp_11
        obtain ⟨q_16, q_17⟩ := hp_11
        have hP : va_P (dC, dI) vwCl [(vo, .inr (12, [.int 0, .ref vmt, .int votp, .int vosz, .int volm, .int voto, .int vofr, .int vokd, .int vonu, .int vosg, .int vofa, .int vopl, .long vowd, .int votd, .ref vmn, .ref vmr, .ref vmk, .ref vms, .ref vma, .ref vmm, .ref vmrn, .ref vmkn, .ref vmik, .ref vmon, .int vosm_15, .int vohp, .ref vmw, .ref vmf, .ref vmb, .int vomb, .ref vmd, .ref vmc, .int vocm, .int voct, .int vocy, .ref vmx, .int votx, .int vose, .ref vml, .ref vmwr, .int voln, .int vohw, .ref vmno, .int vond, .int voon, .int vowi, .int votop])), (vmn, .inl (cy 0, 575, .inl vmnf_13)), (vms, .inl (cy 0, 1408, .inl vmsf_14))] H := hP
        have hD : va_D A [(vo, .inr (12, [.int 0, .ref vmt, .int votp, .int vosz, .int volm, .int voto, .int vofr, .int vokd, .int vonu, .int vosg, .int vofa, .int vopl, .long vowd, .int votd, .ref vmn, .ref vmr, .ref vmk, .ref vms, .ref vma, .ref vmm, .ref vmrn, .ref vmkn, .ref vmik, .ref vmon, .int vosm_15, .int vohp, .ref vmw, .ref vmf, .ref vmb, .int vomb, .ref vmd, .ref vmc, .int vocm, .int voct, .int vocy, .ref vmx, .int votx, .int vose, .ref vml, .ref vmwr, .int voln, .int vohw, .ref vmno, .int vond, .int voon, .int vowi, .int votop])), (vmn, .inl (cy 0, 575, .inl vmnf_13)), (vms, .inl (cy 0, 1408, .inl vmsf_14))] := hD
        refine lv_goto (tgt := 43) hx hb dX11_borrow_39 (by decide) ?_
        rw [hQ9]
        exact re_i ((0 : Int32), vmnf_13, vmsf_14, vosm_15) hx hb hr hlocks ⟨(show NW vnh vmnf_13 from q_16), (show 0 ≤ (vosm_15 : Int32).toInt ∧ (vosm_15 : Int32).toInt ≤ 8 from ⟨by omega, by omega⟩)⟩ (hP.sub [0, 1, 2] rfl) (hD.sub [0, 1, 2] rfl rfl) hS dX11_borrow_43
abbrev cX11_pay : ByteArray := prog_13_method_73_code
def yX11_pay : MethodName := ⟨RX11, "pay", "(III)I"⟩
theorem t1830 : Cond.code yX11_pay cX11_pay 4 (some .int) ∈ GW := gw_mem 1944 (by decide +kernel) (by decide +kernel)
abbrev O_m_pay (cy : Nat → ClassId) (vnh : Nat → Int32) (vo : Nat) (voth : Int32) (vmt : Nat) (votp : Int32) (vosz : Int32) (volm : Int32) (voto : Int32) (vofr : Int32) (vokd : Int32) (vonu : Int32) (vosg : Int32) (vofa : Int32) (vopl : Int32) (vowd : Int64) (votd : Int32) (vmn : Nat) (vmr : Nat) (vmk : Nat) (vms : Nat) (vma : Nat) (vmm : Nat) (vmrn : Nat) (vmkn : Nat) (vmik : Nat) (vmon : Nat) (vosm : Int32) (vohp : Int32) (vmw : Nat) (vmf : Nat) (vmb : Nat) (vomb : Int32) (vmd : Nat) (vmc : Nat) (vocm : Int32) (voct : Int32) (vocy : Int32) (vmx : Nat) (votx : Int32) (vose : Int32) (vml : Nat) (vmwr : Nat) (voln : Int32) (vohw : Int32) (vmno : Nat) (vond : Int32) (voon : Int32) (vowi : Int32) (votop : Int32) (vmnf : Nat → Int32) (vmsf : Nat → Int32) (vm : Int32) (vk : Int32) (vn : Int32) (u : Int32 × (Nat → Int32) × (Nat → Int32) × Int32) : va_W := [(vo, .inr (12, [.int u.1, .ref vmt, .int votp, .int vosz, .int volm, .int voto, .int vofr, .int vokd, .int vonu, .int vosg, .int vofa, .int vopl, .long vowd, .int votd, .ref vmn, .ref vmr, .ref vmk, .ref vms, .ref vma, .ref vmm, .ref vmrn, .ref vmkn, .ref vmik, .ref vmon, .int u.2.2.2, .int vohp, .ref vmw, .ref vmf, .ref vmb, .int vomb, .ref vmd, .ref vmc, .int vocm, .int voct, .int vocy, .ref vmx, .int votx, .int vose, .ref vml, .ref vmwr, .int voln, .int vohw, .ref vmno, .int vond, .int voon, .int vowi, .int votop])), (vmn, .inl (cy 0, 575, .inl u.2.1)), (vms, .inl (cy 0, 1408, .inl u.2.2.1))]
theorem dX11_pay_0 : decode cX11_pay 0 = .ok (.aload_n 0, 1) := by decide +kernel
theorem dX11_pay_1 : decode cX11_pay 1 = .ok (.iconst 0, 1) := by decide +kernel
theorem dX11_pay_2 : decode cX11_pay 2 = .ok (.putfield 1, 3) := by decide +kernel
theorem dX11_pay_5 : decode cX11_pay 5 = .ok (.aload_n 0, 1) := by decide +kernel
theorem dX11_pay_6 : decode cX11_pay 6 = .ok (.iload_n 1, 1) := by decide +kernel
theorem dX11_pay_7 : decode cX11_pay 7 = .ok (.invokevirtual 250, 3) := by decide +kernel
theorem dX11_pay_10 : decode cX11_pay 10 = .ok (.ifCond .eq 32, 3) := by decide +kernel
theorem dX11_pay_42 : decode cX11_pay 42 = .ok (.iconst (-1), 1) := by decide +kernel
theorem dX11_pay_43 : decode cX11_pay 43 = .ok (.ireturn, 1) := by decide +kernel
theorem dX11_pay_13 : decode cX11_pay 13 = .ok (.aload_n 0, 1) := by decide +kernel
theorem dX11_pay_14 : decode cX11_pay 14 = .ok (.iload_n 2, 1) := by decide +kernel
theorem dX11_pay_15 : decode cX11_pay 15 = .ok (.invokevirtual 250, 3) := by decide +kernel
theorem dX11_pay_18 : decode cX11_pay 18 = .ok (.ifCond .eq 24, 3) := by decide +kernel
theorem dX11_pay_21 : decode cX11_pay 21 = .ok (.iload_n 3, 1) := by decide +kernel
theorem dX11_pay_22 : decode cX11_pay 22 = .ok (.iconst 1, 1) := by decide +kernel
theorem dX11_pay_23 : decode cX11_pay 23 = .ok (.bipush 40, 2) := by decide +kernel
theorem dX11_pay_25 : decode cX11_pay 25 = .ok (.invokestatic 75, 3) := by decide +kernel
theorem dX11_pay_28 : decode cX11_pay 28 = .ok (.ifCond .eq 14, 3) := by decide +kernel
theorem dX11_pay_31 : decode cX11_pay 31 = .ok (.aload_n 0, 1) := by decide +kernel
theorem dX11_pay_32 : decode cX11_pay 32 = .ok (.iconst 4, 1) := by decide +kernel
theorem dX11_pay_33 : decode cX11_pay 33 = .ok (.iload_n 1, 1) := by decide +kernel
theorem dX11_pay_34 : decode cX11_pay 34 = .ok (.iload_n 2, 1) := by decide +kernel
theorem dX11_pay_35 : decode cX11_pay 35 = .ok (.iload_n 3, 1) := by decide +kernel
theorem dX11_pay_36 : decode cX11_pay 36 = .ok (.invokevirtual 285, 3) := by decide +kernel
theorem dX11_pay_39 : decode cX11_pay 39 = .ok (.goto 4, 3) := by decide +kernel
set_option maxHeartbeats 4000000 in
set_option maxRecDepth 100000 in
theorem m_pay (l : Launch) (dC : Nat → ClassId) (dI : Nat → Nat → Nat) (cy : Nat → ClassId) (sz : Nat) (vnh : Nat → Int32) (vo : Nat) (voth : Int32) (vmt : Nat) (votp : Int32) (vosz : Int32) (volm : Int32) (voto : Int32) (vofr : Int32) (vokd : Int32) (vonu : Int32) (vosg : Int32) (vofa : Int32) (vopl : Int32) (vowd : Int64) (votd : Int32) (vmn : Nat) (vmr : Nat) (vmk : Nat) (vms : Nat) (vma : Nat) (vmm : Nat) (vmrn : Nat) (vmkn : Nat) (vmik : Nat) (vmon : Nat) (vosm : Int32) (vohp : Int32) (vmw : Nat) (vmf : Nat) (vmb : Nat) (vomb : Int32) (vmd : Nat) (vmc : Nat) (vocm : Int32) (voct : Int32) (vocy : Int32) (vmx : Nat) (votx : Int32) (vose : Int32) (vml : Nat) (vmwr : Nat) (voln : Int32) (vohw : Int32) (vmno : Nat) (vond : Int32) (voon : Int32) (vowi : Int32) (votop : Int32) (vmnf : Nat → Int32) (vmsf : Nat → Int32) (vm : Int32) (vk : Int32) (vn : Int32) (r_vosm : 0 ≤ (vosm : Int32).toInt ∧ (vosm : Int32).toInt ≤ 8) (p_vmnf : NW vnh vmnf) : Met l yX11_pay (wl yX11_pay cX11_pay 4 (some .int)) ({ frames := 6, cells := 0, slots := 0, locals := 384 }) (Pw (dC, dI) vwCl cy [(vo, .inr (12, [.int voth, .ref vmt, .int votp, .int vosz, .int volm, .int voto, .int vofr, .int vokd, .int vonu, .int vosg, .int vofa, .int vopl, .long vowd, .int votd, .ref vmn, .ref vmr, .ref vmk, .ref vms, .ref vma, .ref vmm, .ref vmrn, .ref vmkn, .ref vmik, .ref vmon, .int vosm, .int vohp, .ref vmw, .ref vmf, .ref vmb, .int vomb, .ref vmd, .ref vmc, .int vocm, .int voct, .int vocy, .ref vmx, .int votx, .int vose, .ref vml, .ref vmwr, .int voln, .int vohw, .ref vmno, .int vond, .int voon, .int vowi, .int votop])), (vmn, .inl (cy 0, 575, .inl vmnf)), (vms, .inl (cy 0, 1408, .inl vmsf))] sz [.ref vo, .int vm, .int vk, .int vn] nE) (Qi (dC, dI) vwCl (fun (r : Int32) (u : Int32 × (Nat → Int32) × (Nat → Int32) × Int32) => (NW vnh u.2.1) ∧ (0 ≤ (u.2.2.2 : Int32).toInt ∧ (u.2.2.2 : Int32).toInt ≤ 8)) (O_m_pay cy vnh vo voth vmt votp vosz volm voto vofr vokd vonu vosg vofa vopl vowd votd vmn vmr vmk vms vma vmm vmrn vmkn vmik vmon vosm vohp vmw vmf vmb vomb vmd vmc vocm voct vocy vmx votx vose vml vmwr voln vohw vmno vond voon vowi votop vmnf vmsf vm vk vn) (va_A [(vo, .inr (12, [.int voth, .ref vmt, .int votp, .int vosz, .int volm, .int voto, .int vofr, .int vokd, .int vonu, .int vosg, .int vofa, .int vopl, .long vowd, .int votd, .ref vmn, .ref vmr, .ref vmk, .ref vms, .ref vma, .ref vmm, .ref vmrn, .ref vmkn, .ref vmik, .ref vmon, .int vosm, .int vohp, .ref vmw, .ref vmf, .ref vmb, .int vomb, .ref vmd, .ref vmc, .int vocm, .int voct, .int vocy, .ref vmx, .int votx, .int vose, .ref vml, .ref vmwr, .int voln, .int vohw, .ref vmno, .int vond, .int voon, .int vowi, .int votop])), (vmn, .inl (cy 0, 575, .inl vmnf)), (vms, .inl (cy 0, 1408, .inl vmsf))] sz)) 0 0 (va_A [(vo, .inr (12, [.int voth, .ref vmt, .int votp, .int vosz, .int volm, .int voto, .int vofr, .int vokd, .int vonu, .int vosg, .int vofa, .int vopl, .long vowd, .int votd, .ref vmn, .ref vmr, .ref vmk, .ref vms, .ref vma, .ref vmm, .ref vmrn, .ref vmkn, .ref vmik, .ref vmon, .int vosm, .int vohp, .ref vmw, .ref vmf, .ref vmb, .int vomb, .ref vmd, .ref vmc, .int vocm, .int voct, .int vocy, .ref vmx, .int votx, .int vose, .ref vml, .ref vmwr, .int voln, .int vohw, .ref vmno, .int vond, .int voon, .int vowi, .int votop])), (vmn, .inl (cy 0, 575, .inl vmnf)), (vms, .inl (cy 0, 1408, .inl vmsf))] sz) := by
  refine mw (Qc := Qi (dC, dI) vwCl (fun (r : Int32) (u : Int32 × (Nat → Int32) × (Nat → Int32) × Int32) => (NW vnh u.2.1) ∧ (0 ≤ (u.2.2.2 : Int32).toInt ∧ (u.2.2.2 : Int32).toInt ≤ 8)) (O_m_pay cy vnh vo voth vmt votp vosz volm voto vofr vokd vonu vosg vofa vopl vowd votd vmn vmr vmk vms vma vmm vmrn vmkn vmik vmon vosm vohp vmw vmf vmb vomb vmd vmc vocm voct vocy vmx votx vose vml vmwr voln vohw vmno vond voon vowi votop vmnf vmsf vm vk vn)) RX11 rfl (by decide +kernel) (Nat.le_of_ble_eq_true rfl) ?_
  intro p e s m below meth c A hx hb hr hlocks av9 hav hts hown hnm hml hK hP hD hA hS hE hAe Q9 hQ9 ls hl
  have hl : lv_has ls 4 [(0, .ref vo), (1, .int vm), (2, .int vk), (3, .int vn)] := hl
  refine lv_aload_n hx hb dX11_pay_0 rfl (lv_at hl 0 rfl) ?_
  refine lv_iconst (v := 0) hx hb dX11_pay_1 (by decide) ?_
  refine pf_X11_1 hx hb hts hown hK hP hD hS 0 rfl rfl rfl (Nat.le_of_ble_eq_true rfl) dX11_pay_2 (fun H locs hP hD hS => ?_)
  have hP : va_P (dC, dI) vwCl [(vo, .inr (12, [.int 0, .ref vmt, .int votp, .int vosz, .int volm, .int voto, .int vofr, .int vokd, .int vonu, .int vosg, .int vofa, .int vopl, .long vowd, .int votd, .ref vmn, .ref vmr, .ref vmk, .ref vms, .ref vma, .ref vmm, .ref vmrn, .ref vmkn, .ref vmik, .ref vmon, .int vosm, .int vohp, .ref vmw, .ref vmf, .ref vmb, .int vomb, .ref vmd, .ref vmc, .int vocm, .int voct, .int vocy, .ref vmx, .int votx, .int vose, .ref vml, .ref vmwr, .int voln, .int vohw, .ref vmno, .int vond, .int voon, .int vowi, .int votop])), (vmn, .inl (cy 0, 575, .inl vmnf)), (vms, .inl (cy 0, 1408, .inl vmsf))] H := hP
  have hD : va_D A [(vo, .inr (12, [.int 0, .ref vmt, .int votp, .int vosz, .int volm, .int voto, .int vofr, .int vokd, .int vonu, .int vosg, .int vofa, .int vopl, .long vowd, .int votd, .ref vmn, .ref vmr, .ref vmk, .ref vms, .ref vma, .ref vmm, .ref vmrn, .ref vmkn, .ref vmik, .ref vmon, .int vosm, .int vohp, .ref vmw, .ref vmf, .ref vmb, .int vomb, .ref vmd, .ref vmc, .int vocm, .int voct, .int vocy, .ref vmx, .int votx, .int vose, .ref vml, .ref vmwr, .int voln, .int vohw, .ref vmno, .int vond, .int voon, .int vowi, .int votop])), (vmn, .inl (cy 0, 575, .inl vmnf)), (vms, .inl (cy 0, 1408, .inl vmsf))] := hD
  refine lv_aload_n hx hb dX11_pay_5 rfl (lv_at hl 0 rfl) ?_
  refine lv_iload_n hx hb dX11_pay_6 rfl (lv_at hl 1 rfl) ?_
  have k_0 : (0 : Int32).toInt = 0 := by decide
  refine jr_i (rVr (As := [.int vm]) (rest := []) (ci := 12) ⟨hx, hb, hml, hown, hts⟩ (m_isMan l dC dI cy vnh vo 0 vmt votp vosz volm voto vofr vokd vonu vosg vofa vopl vowd votd vmn vmr vmk vms vma vmm vmrn vmkn vmik vmon vosm vohp vmw vmf vmb vomb vmd vmc vocm voct vocy vmx votx vose vml vmwr voln vohw vmno vond voon vowi votop vmnf vm p_vmnf) (cw_X11_250 hts rfl rfl ⟨Nat.le_of_ble_eq_true rfl, Nat.le_of_ble_eq_true rfl⟩) hP hK [0, 1] rfl rfl rfl rfl hl.1 rfl (Nat.le_of_ble_eq_true rfl) dX11_pay_7 ⟨Nat.le_of_ble_eq_true rfl, Nat.le_of_ble_eq_true rfl⟩) hP hS (fun r_1 H locs hp_2 hP hS => ?_)
  have hp_2 : ((r_1 = 0 ∧ ((vm : Int32).toInt < 0 ∨ (vmnf 0).toInt ≤ (vm : Int32).toInt)) ∨ (r_1 = 1 ∧ 0 ≤ (vm : Int32).toInt ∧ (vm : Int32).toInt ≤ 6 ∧ (vm : Int32).toInt < (vmnf 0).toInt)) := hp_2
  have q_3 := hp_2
  rcases q_3 with ⟨aq_3, f0q_3⟩ | ⟨aq_3, f0q_3, f1q_3, f2q_3⟩
  · skip
    refine as_i 0 aq_3 ?_
    refine lv_if_eq (tgt := 42) hx hb dX11_pay_10 (by decide) (fun _ => ?_) (fun c9 => absurd (by decide) c9)
    refine lv_iconst (v := (-1)) hx hb dX11_pay_42 (by decide) ?_
    have k_m1 : ((-1) : Int32).toInt = (-1) := by decide
    rw [hQ9]
    exact re_i ((0 : Int32), vmnf, vmsf, vosm) hx hb hr hlocks ⟨(show NW vnh vmnf from p_vmnf), (show 0 ≤ (vosm : Int32).toInt ∧ (vosm : Int32).toInt ≤ 8 from ⟨by omega, by omega⟩)⟩ (hP.sub [0, 1, 2] rfl) (hD.sub [0, 1, 2] rfl rfl) hS dX11_pay_43
  · skip
    refine as_i 1 aq_3 ?_
    refine lv_if_eq (tgt := 42) hx hb dX11_pay_10 (by decide) (fun c9 => absurd c9 (by decide)) (fun _ => ?_)
    refine lv_aload_n hx hb dX11_pay_13 rfl (lv_at hl 0 rfl) ?_
    refine lv_iload_n hx hb dX11_pay_14 rfl (lv_at hl 2 rfl) ?_
    refine jr_i (rVr (As := [.int vk]) (rest := []) (ci := 12) ⟨hx, hb, hml, hown, hts⟩ (m_isMan l dC dI cy vnh vo 0 vmt votp vosz volm voto vofr vokd vonu vosg vofa vopl vowd votd vmn vmr vmk vms vma vmm vmrn vmkn vmik vmon vosm vohp vmw vmf vmb vomb vmd vmc vocm voct vocy vmx votx vose vml vmwr voln vohw vmno vond voon vowi votop vmnf vk p_vmnf) (cw_X11_250 hts rfl rfl ⟨Nat.le_of_ble_eq_true rfl, Nat.le_of_ble_eq_true rfl⟩) hP hK [0, 1] rfl rfl rfl rfl hl.1 rfl (Nat.le_of_ble_eq_true rfl) dX11_pay_15 ⟨Nat.le_of_ble_eq_true rfl, Nat.le_of_ble_eq_true rfl⟩) hP hS (fun r_4 H locs hp_5 hP hS => ?_)
    have hp_5 : ((r_4 = 0 ∧ ((vk : Int32).toInt < 0 ∨ (vmnf 0).toInt ≤ (vk : Int32).toInt)) ∨ (r_4 = 1 ∧ 0 ≤ (vk : Int32).toInt ∧ (vk : Int32).toInt ≤ 6 ∧ (vk : Int32).toInt < (vmnf 0).toInt)) := hp_5
    have q_6 := hp_5
    rcases q_6 with ⟨aq_6, f0q_6⟩ | ⟨aq_6, f0q_6, f1q_6, f2q_6⟩
    · skip
      refine as_i 0 aq_6 ?_
      refine lv_if_eq (tgt := 42) hx hb dX11_pay_18 (by decide) (fun _ => ?_) (fun c9 => absurd (by decide) c9)
      refine lv_iconst (v := (-1)) hx hb dX11_pay_42 (by decide) ?_
      have k_m1 : ((-1) : Int32).toInt = (-1) := by decide
      rw [hQ9]
      exact re_i ((0 : Int32), vmnf, vmsf, vosm) hx hb hr hlocks ⟨(show NW vnh vmnf from p_vmnf), (show 0 ≤ (vosm : Int32).toInt ∧ (vosm : Int32).toInt ≤ 8 from ⟨by omega, by omega⟩)⟩ (hP.sub [0, 1, 2] rfl) (hD.sub [0, 1, 2] rfl rfl) hS dX11_pay_43
    · skip
      refine as_i 1 aq_6 ?_
      refine lv_if_eq (tgt := 42) hx hb dX11_pay_18 (by decide) (fun c9 => absurd c9 (by decide)) (fun _ => ?_)
      refine lv_iload_n hx hb dX11_pay_21 rfl (lv_at hl 3 rfl) ?_
      refine lv_iconst (v := 1) hx hb dX11_pay_22 (by decide) ?_
      refine lv_bipush (v := 40) hx hb dX11_pay_23 (by decide) ?_
      have k_1 : (1 : Int32).toInt = 1 := by decide
      have k_40 : (40 : Int32).toInt = 40 := by decide
      refine jr_i (rSr (As := [.int vn, .int 1, .int 40]) (rest := []) ⟨hx, hb, hml, hown, hts⟩ (m_isIn l dC dI cy vn 1 40 ) (cw_X11_75 hts rfl rfl ⟨Nat.le_of_ble_eq_true rfl, Nat.le_of_ble_eq_true rfl⟩) hP hK [] rfl rfl hl.1 rfl (Nat.le_of_ble_eq_true rfl) dX11_pay_25 ⟨Nat.le_of_ble_eq_true rfl, Nat.le_of_ble_eq_true rfl⟩) hP hS (fun r_7 H locs hp_8 hP hS => ?_)
      have hp_8 : ((r_7 = 0 ∧ ((vn : Int32).toInt < (1 : Int32).toInt ∨ (40 : Int32).toInt < (vn : Int32).toInt)) ∨ (r_7 = 1 ∧ (1 : Int32).toInt ≤ (vn : Int32).toInt ∧ (vn : Int32).toInt ≤ (40 : Int32).toInt)) := hp_8
      have q_9 := hp_8
      rcases q_9 with ⟨aq_9, f0q_9⟩ | ⟨aq_9, f0q_9, f1q_9⟩
      · skip
        refine as_i 0 aq_9 ?_
        refine lv_if_eq (tgt := 42) hx hb dX11_pay_28 (by decide) (fun _ => ?_) (fun c9 => absurd (by decide) c9)
        refine lv_iconst (v := (-1)) hx hb dX11_pay_42 (by decide) ?_
        have k_m1 : ((-1) : Int32).toInt = (-1) := by decide
        rw [hQ9]
        exact re_i ((0 : Int32), vmnf, vmsf, vosm) hx hb hr hlocks ⟨(show NW vnh vmnf from p_vmnf), (show 0 ≤ (vosm : Int32).toInt ∧ (vosm : Int32).toInt ≤ 8 from ⟨by omega, by omega⟩)⟩ (hP.sub [0, 1, 2] rfl) (hD.sub [0, 1, 2] rfl rfl) hS dX11_pay_43
      · skip
        refine as_i 1 aq_9 ?_
        refine lv_if_eq (tgt := 42) hx hb dX11_pay_28 (by decide) (fun c9 => absurd c9 (by decide)) (fun _ => ?_)
        refine lv_aload_n hx hb dX11_pay_31 rfl (lv_at hl 0 rfl) ?_
        refine lv_iconst (v := 4) hx hb dX11_pay_32 (by decide) ?_
        refine lv_iload_n hx hb dX11_pay_33 rfl (lv_at hl 1 rfl) ?_
        refine lv_iload_n hx hb dX11_pay_34 rfl (lv_at hl 2 rfl) ?_
        refine lv_iload_n hx hb dX11_pay_35 rfl (lv_at hl 3 rfl) ?_
        have k_4 : (4 : Int32).toInt = 4 := by decide
        refine jn_i (wr := []) (rV (As := [.int 4, .int vm, .int vk, .int vn]) (rest := []) (ci := 12) ⟨hx, hb, hml, hown, hts⟩ (m_doIt l dC dI cy _ vnh vo 0 vmt votp vosz volm voto vofr vokd vonu vosg vofa vopl vowd votd vmn vmr vmk vms vma vmm vmrn vmkn vmik vmon vosm vohp vmw vmf vmb vomb vmd vmc vocm voct vocy vmx votx vose vml vmwr voln vohw vmno vond voon vowi votop vmnf vmsf 4 vm vk vn r_vosm ⟨by omega, by omega⟩ ⟨by omega, by omega⟩ ⟨by omega, by omega⟩ p_vmnf) (cw_X11_285 hts rfl rfl ⟨Nat.le_of_ble_eq_true rfl, Nat.le_of_ble_eq_true rfl⟩) hP hD hK [0, 1, 2] rfl rfl rfl rfl bl0 e0 rfl hl.1 rfl (Nat.le_of_ble_eq_true rfl) dX11_pay_36 ⟨Nat.le_of_ble_eq_true rfl, Nat.le_of_ble_eq_true rfl⟩) hP hD hS hA [0, 1, 2] [] rfl rfl rfl (by decide) (fun r_10 u_12 H locs hp_11 hP hD hS => ?_)
        obtain ⟨vmnf_13, vmsf_14, vosm_15⟩ := u_12
        have hp_11 : (NW vnh vmnf_13) ∧ (0 ≤ (vosm_15 : Int32).toInt ∧ (vosm_15 : Int32).toInt ≤ 8) := hp_11
        obtain ⟨q_16, q_17⟩ := hp_11
        have hP : va_P (dC, dI) vwCl [(vo, .inr (12, [.int 0, .ref vmt, .int votp, .int vosz, .int volm, .int voto, .int vofr, .int vokd, .int vonu, .int vosg, .int vofa, .int vopl, .long vowd, .int votd, .ref vmn, .ref vmr, .ref vmk, .ref vms, .ref vma, .ref vmm, .ref vmrn, .ref vmkn, .ref vmik, .ref vmon, .int vosm_15, .int vohp, .ref vmw, .ref vmf, .ref vmb, .int vomb, .ref vmd, .ref vmc, .int vocm, .int voct, .int vocy, .ref vmx, .int votx, .int vose, .ref vml, .ref vmwr, .int voln, .int vohw, .ref vmno, .int vond, .int voon, .int vowi, .int votop])), (vmn, .inl (cy 0, 575, .inl vmnf_13)), (vms, .inl (cy 0, 1408, .inl vmsf_14))] H := hP
        have hD : va_D A [(vo, .inr (12, [.int 0, .ref vmt, .int votp, .int vosz, .int volm, .int voto, .int vofr, .int vokd, .int vonu, .int vosg, .int vofa, .int vopl, .long vowd, .int votd, .ref vmn, .ref vmr, .ref vmk, .ref vms, .ref vma, .ref vmm, .ref vmrn, .ref vmkn, .ref vmik, .ref vmon, .int vosm_15, .int vohp, .ref vmw, .ref vmf, .ref vmb, .int vomb, .ref vmd, .ref vmc, .int vocm, .int voct, .int vocy, .ref vmx, .int votx, .int vose, .ref vml, .ref vmwr, .int voln, .int vohw, .ref vmno, .int vond, .int voon, .int vowi, .int votop])), (vmn, .inl (cy 0, 575, .inl vmnf_13)), (vms, .inl (cy 0, 1408, .inl vmsf_14))] := hD
        refine lv_goto (tgt := 43) hx hb dX11_pay_39 (by decide) ?_
        rw [hQ9]
        exact re_i ((0 : Int32), vmnf_13, vmsf_14, vosm_15) hx hb hr hlocks ⟨(show NW vnh vmnf_13 from q_16), (show 0 ≤ (vosm_15 : Int32).toInt ∧ (vosm_15 : Int32).toInt ≤ 8 from ⟨by omega, by omega⟩)⟩ (hP.sub [0, 1, 2] rfl) (hD.sub [0, 1, 2] rfl rfl) hS dX11_pay_43
abbrev cX11_sit : ByteArray := prog_13_method_74_code
def yX11_sit : MethodName := ⟨RX11, "sit", "(I)I"⟩
theorem t1834 : Cond.code yX11_sit cX11_sit 2 (some .int) ∈ GW := gw_mem 1948 (by decide +kernel) (by decide +kernel)
abbrev O_m_sit (cy : Nat → ClassId) (vnh : Nat → Int32) (vo : Nat) (voth : Int32) (vmt : Nat) (votp : Int32) (vosz : Int32) (volm : Int32) (voto : Int32) (vofr : Int32) (vokd : Int32) (vonu : Int32) (vosg : Int32) (vofa : Int32) (vopl : Int32) (vowd : Int64) (votd : Int32) (vmn : Nat) (vmr : Nat) (vmk : Nat) (vms : Nat) (vma : Nat) (vmm : Nat) (vmrn : Nat) (vmkn : Nat) (vmik : Nat) (vmon : Nat) (vosm : Int32) (vohp : Int32) (vmw : Nat) (vmf : Nat) (vmb : Nat) (vomb : Int32) (vmd : Nat) (vmc : Nat) (vocm : Int32) (voct : Int32) (vocy : Int32) (vmx : Nat) (votx : Int32) (vose : Int32) (vml : Nat) (vmwr : Nat) (voln : Int32) (vohw : Int32) (vmno : Nat) (vond : Int32) (voon : Int32) (vowi : Int32) (votop : Int32) (vmnf : Nat → Int32) (vmsf : Nat → Int32) (vm : Int32) (u : Int32 × (Nat → Int32) × (Nat → Int32) × Int32) : va_W := [(vo, .inr (12, [.int u.1, .ref vmt, .int votp, .int vosz, .int volm, .int voto, .int vofr, .int vokd, .int vonu, .int vosg, .int vofa, .int vopl, .long vowd, .int votd, .ref vmn, .ref vmr, .ref vmk, .ref vms, .ref vma, .ref vmm, .ref vmrn, .ref vmkn, .ref vmik, .ref vmon, .int u.2.2.2, .int vohp, .ref vmw, .ref vmf, .ref vmb, .int vomb, .ref vmd, .ref vmc, .int vocm, .int voct, .int vocy, .ref vmx, .int votx, .int vose, .ref vml, .ref vmwr, .int voln, .int vohw, .ref vmno, .int vond, .int voon, .int vowi, .int votop])), (vmn, .inl (cy 0, 575, .inl u.2.1)), (vms, .inl (cy 0, 1408, .inl u.2.2.1))]
theorem dX11_sit_0 : decode cX11_sit 0 = .ok (.aload_n 0, 1) := by decide +kernel
theorem dX11_sit_1 : decode cX11_sit 1 = .ok (.iconst 0, 1) := by decide +kernel
theorem dX11_sit_2 : decode cX11_sit 2 = .ok (.putfield 1, 3) := by decide +kernel
theorem dX11_sit_5 : decode cX11_sit 5 = .ok (.aload_n 0, 1) := by decide +kernel
theorem dX11_sit_6 : decode cX11_sit 6 = .ok (.iload_n 1, 1) := by decide +kernel
theorem dX11_sit_7 : decode cX11_sit 7 = .ok (.invokevirtual 250, 3) := by decide +kernel
theorem dX11_sit_10 : decode cX11_sit 10 = .ok (.ifCond .eq 14, 3) := by decide +kernel
theorem dX11_sit_24 : decode cX11_sit 24 = .ok (.iconst (-1), 1) := by decide +kernel
theorem dX11_sit_25 : decode cX11_sit 25 = .ok (.ireturn, 1) := by decide +kernel
theorem dX11_sit_13 : decode cX11_sit 13 = .ok (.aload_n 0, 1) := by decide +kernel
theorem dX11_sit_14 : decode cX11_sit 14 = .ok (.iconst 5, 1) := by decide +kernel
theorem dX11_sit_15 : decode cX11_sit 15 = .ok (.iload_n 1, 1) := by decide +kernel
theorem dX11_sit_16 : decode cX11_sit 16 = .ok (.iconst 0, 1) := by decide +kernel
theorem dX11_sit_17 : decode cX11_sit 17 = .ok (.iconst 0, 1) := by decide +kernel
theorem dX11_sit_18 : decode cX11_sit 18 = .ok (.invokevirtual 285, 3) := by decide +kernel
theorem dX11_sit_21 : decode cX11_sit 21 = .ok (.goto 4, 3) := by decide +kernel
set_option maxHeartbeats 4000000 in
set_option maxRecDepth 100000 in
theorem m_sit (l : Launch) (dC : Nat → ClassId) (dI : Nat → Nat → Nat) (cy : Nat → ClassId) (sz : Nat) (vnh : Nat → Int32) (vo : Nat) (voth : Int32) (vmt : Nat) (votp : Int32) (vosz : Int32) (volm : Int32) (voto : Int32) (vofr : Int32) (vokd : Int32) (vonu : Int32) (vosg : Int32) (vofa : Int32) (vopl : Int32) (vowd : Int64) (votd : Int32) (vmn : Nat) (vmr : Nat) (vmk : Nat) (vms : Nat) (vma : Nat) (vmm : Nat) (vmrn : Nat) (vmkn : Nat) (vmik : Nat) (vmon : Nat) (vosm : Int32) (vohp : Int32) (vmw : Nat) (vmf : Nat) (vmb : Nat) (vomb : Int32) (vmd : Nat) (vmc : Nat) (vocm : Int32) (voct : Int32) (vocy : Int32) (vmx : Nat) (votx : Int32) (vose : Int32) (vml : Nat) (vmwr : Nat) (voln : Int32) (vohw : Int32) (vmno : Nat) (vond : Int32) (voon : Int32) (vowi : Int32) (votop : Int32) (vmnf : Nat → Int32) (vmsf : Nat → Int32) (vm : Int32) (r_vosm : 0 ≤ (vosm : Int32).toInt ∧ (vosm : Int32).toInt ≤ 8) (p_vmnf : NW vnh vmnf) : Met l yX11_sit (wl yX11_sit cX11_sit 2 (some .int)) ({ frames := 6, cells := 0, slots := 0, locals := 384 }) (Pw (dC, dI) vwCl cy [(vo, .inr (12, [.int voth, .ref vmt, .int votp, .int vosz, .int volm, .int voto, .int vofr, .int vokd, .int vonu, .int vosg, .int vofa, .int vopl, .long vowd, .int votd, .ref vmn, .ref vmr, .ref vmk, .ref vms, .ref vma, .ref vmm, .ref vmrn, .ref vmkn, .ref vmik, .ref vmon, .int vosm, .int vohp, .ref vmw, .ref vmf, .ref vmb, .int vomb, .ref vmd, .ref vmc, .int vocm, .int voct, .int vocy, .ref vmx, .int votx, .int vose, .ref vml, .ref vmwr, .int voln, .int vohw, .ref vmno, .int vond, .int voon, .int vowi, .int votop])), (vmn, .inl (cy 0, 575, .inl vmnf)), (vms, .inl (cy 0, 1408, .inl vmsf))] sz [.ref vo, .int vm] nE) (Qi (dC, dI) vwCl (fun (r : Int32) (u : Int32 × (Nat → Int32) × (Nat → Int32) × Int32) => (NW vnh u.2.1) ∧ (0 ≤ (u.2.2.2 : Int32).toInt ∧ (u.2.2.2 : Int32).toInt ≤ 8)) (O_m_sit cy vnh vo voth vmt votp vosz volm voto vofr vokd vonu vosg vofa vopl vowd votd vmn vmr vmk vms vma vmm vmrn vmkn vmik vmon vosm vohp vmw vmf vmb vomb vmd vmc vocm voct vocy vmx votx vose vml vmwr voln vohw vmno vond voon vowi votop vmnf vmsf vm) (va_A [(vo, .inr (12, [.int voth, .ref vmt, .int votp, .int vosz, .int volm, .int voto, .int vofr, .int vokd, .int vonu, .int vosg, .int vofa, .int vopl, .long vowd, .int votd, .ref vmn, .ref vmr, .ref vmk, .ref vms, .ref vma, .ref vmm, .ref vmrn, .ref vmkn, .ref vmik, .ref vmon, .int vosm, .int vohp, .ref vmw, .ref vmf, .ref vmb, .int vomb, .ref vmd, .ref vmc, .int vocm, .int voct, .int vocy, .ref vmx, .int votx, .int vose, .ref vml, .ref vmwr, .int voln, .int vohw, .ref vmno, .int vond, .int voon, .int vowi, .int votop])), (vmn, .inl (cy 0, 575, .inl vmnf)), (vms, .inl (cy 0, 1408, .inl vmsf))] sz)) 0 0 (va_A [(vo, .inr (12, [.int voth, .ref vmt, .int votp, .int vosz, .int volm, .int voto, .int vofr, .int vokd, .int vonu, .int vosg, .int vofa, .int vopl, .long vowd, .int votd, .ref vmn, .ref vmr, .ref vmk, .ref vms, .ref vma, .ref vmm, .ref vmrn, .ref vmkn, .ref vmik, .ref vmon, .int vosm, .int vohp, .ref vmw, .ref vmf, .ref vmb, .int vomb, .ref vmd, .ref vmc, .int vocm, .int voct, .int vocy, .ref vmx, .int votx, .int vose, .ref vml, .ref vmwr, .int voln, .int vohw, .ref vmno, .int vond, .int voon, .int vowi, .int votop])), (vmn, .inl (cy 0, 575, .inl vmnf)), (vms, .inl (cy 0, 1408, .inl vmsf))] sz) := by
  refine mw (Qc := Qi (dC, dI) vwCl (fun (r : Int32) (u : Int32 × (Nat → Int32) × (Nat → Int32) × Int32) => (NW vnh u.2.1) ∧ (0 ≤ (u.2.2.2 : Int32).toInt ∧ (u.2.2.2 : Int32).toInt ≤ 8)) (O_m_sit cy vnh vo voth vmt votp vosz volm voto vofr vokd vonu vosg vofa vopl vowd votd vmn vmr vmk vms vma vmm vmrn vmkn vmik vmon vosm vohp vmw vmf vmb vomb vmd vmc vocm voct vocy vmx votx vose vml vmwr voln vohw vmno vond voon vowi votop vmnf vmsf vm)) RX11 rfl (by decide +kernel) (Nat.le_of_ble_eq_true rfl) ?_
  intro p e s m below meth c A hx hb hr hlocks av9 hav hts hown hnm hml hK hP hD hA hS hE hAe Q9 hQ9 ls hl
  have hl : lv_has ls 2 [(0, .ref vo), (1, .int vm)] := hl
  refine lv_aload_n hx hb dX11_sit_0 rfl (lv_at hl 0 rfl) ?_
  refine lv_iconst (v := 0) hx hb dX11_sit_1 (by decide) ?_
  refine pf_X11_1 hx hb hts hown hK hP hD hS 0 rfl rfl rfl (Nat.le_of_ble_eq_true rfl) dX11_sit_2 (fun H locs hP hD hS => ?_)
  have hP : va_P (dC, dI) vwCl [(vo, .inr (12, [.int 0, .ref vmt, .int votp, .int vosz, .int volm, .int voto, .int vofr, .int vokd, .int vonu, .int vosg, .int vofa, .int vopl, .long vowd, .int votd, .ref vmn, .ref vmr, .ref vmk, .ref vms, .ref vma, .ref vmm, .ref vmrn, .ref vmkn, .ref vmik, .ref vmon, .int vosm, .int vohp, .ref vmw, .ref vmf, .ref vmb, .int vomb, .ref vmd, .ref vmc, .int vocm, .int voct, .int vocy, .ref vmx, .int votx, .int vose, .ref vml, .ref vmwr, .int voln, .int vohw, .ref vmno, .int vond, .int voon, .int vowi, .int votop])), (vmn, .inl (cy 0, 575, .inl vmnf)), (vms, .inl (cy 0, 1408, .inl vmsf))] H := hP
  have hD : va_D A [(vo, .inr (12, [.int 0, .ref vmt, .int votp, .int vosz, .int volm, .int voto, .int vofr, .int vokd, .int vonu, .int vosg, .int vofa, .int vopl, .long vowd, .int votd, .ref vmn, .ref vmr, .ref vmk, .ref vms, .ref vma, .ref vmm, .ref vmrn, .ref vmkn, .ref vmik, .ref vmon, .int vosm, .int vohp, .ref vmw, .ref vmf, .ref vmb, .int vomb, .ref vmd, .ref vmc, .int vocm, .int voct, .int vocy, .ref vmx, .int votx, .int vose, .ref vml, .ref vmwr, .int voln, .int vohw, .ref vmno, .int vond, .int voon, .int vowi, .int votop])), (vmn, .inl (cy 0, 575, .inl vmnf)), (vms, .inl (cy 0, 1408, .inl vmsf))] := hD
  refine lv_aload_n hx hb dX11_sit_5 rfl (lv_at hl 0 rfl) ?_
  refine lv_iload_n hx hb dX11_sit_6 rfl (lv_at hl 1 rfl) ?_
  have k_0 : (0 : Int32).toInt = 0 := by decide
  refine jr_i (rVr (As := [.int vm]) (rest := []) (ci := 12) ⟨hx, hb, hml, hown, hts⟩ (m_isMan l dC dI cy vnh vo 0 vmt votp vosz volm voto vofr vokd vonu vosg vofa vopl vowd votd vmn vmr vmk vms vma vmm vmrn vmkn vmik vmon vosm vohp vmw vmf vmb vomb vmd vmc vocm voct vocy vmx votx vose vml vmwr voln vohw vmno vond voon vowi votop vmnf vm p_vmnf) (cw_X11_250 hts rfl rfl ⟨Nat.le_of_ble_eq_true rfl, Nat.le_of_ble_eq_true rfl⟩) hP hK [0, 1] rfl rfl rfl rfl hl.1 rfl (Nat.le_of_ble_eq_true rfl) dX11_sit_7 ⟨Nat.le_of_ble_eq_true rfl, Nat.le_of_ble_eq_true rfl⟩) hP hS (fun r_1 H locs hp_2 hP hS => ?_)
  have hp_2 : ((r_1 = 0 ∧ ((vm : Int32).toInt < 0 ∨ (vmnf 0).toInt ≤ (vm : Int32).toInt)) ∨ (r_1 = 1 ∧ 0 ≤ (vm : Int32).toInt ∧ (vm : Int32).toInt ≤ 6 ∧ (vm : Int32).toInt < (vmnf 0).toInt)) := hp_2
  have q_3 := hp_2
  rcases q_3 with ⟨aq_3, f0q_3⟩ | ⟨aq_3, f0q_3, f1q_3, f2q_3⟩
  · skip
    refine as_i 0 aq_3 ?_
    refine lv_if_eq (tgt := 24) hx hb dX11_sit_10 (by decide) (fun _ => ?_) (fun c9 => absurd (by decide) c9)
    refine lv_iconst (v := (-1)) hx hb dX11_sit_24 (by decide) ?_
    have k_m1 : ((-1) : Int32).toInt = (-1) := by decide
    rw [hQ9]
    exact re_i ((0 : Int32), vmnf, vmsf, vosm) hx hb hr hlocks ⟨(show NW vnh vmnf from p_vmnf), (show 0 ≤ (vosm : Int32).toInt ∧ (vosm : Int32).toInt ≤ 8 from ⟨by omega, by omega⟩)⟩ (hP.sub [0, 1, 2] rfl) (hD.sub [0, 1, 2] rfl rfl) hS dX11_sit_25
  · skip
    refine as_i 1 aq_3 ?_
    refine lv_if_eq (tgt := 24) hx hb dX11_sit_10 (by decide) (fun c9 => absurd c9 (by decide)) (fun _ => ?_)
    refine lv_aload_n hx hb dX11_sit_13 rfl (lv_at hl 0 rfl) ?_
    refine lv_iconst (v := 5) hx hb dX11_sit_14 (by decide) ?_
    refine lv_iload_n hx hb dX11_sit_15 rfl (lv_at hl 1 rfl) ?_
    refine lv_iconst (v := 0) hx hb dX11_sit_16 (by decide) ?_
    refine lv_iconst (v := 0) hx hb dX11_sit_17 (by decide) ?_
    have k_5 : (5 : Int32).toInt = 5 := by decide
    refine jn_i (wr := []) (rV (As := [.int 5, .int vm, .int 0, .int 0]) (rest := []) (ci := 12) ⟨hx, hb, hml, hown, hts⟩ (m_doIt l dC dI cy _ vnh vo 0 vmt votp vosz volm voto vofr vokd vonu vosg vofa vopl vowd votd vmn vmr vmk vms vma vmm vmrn vmkn vmik vmon vosm vohp vmw vmf vmb vomb vmd vmc vocm voct vocy vmx votx vose vml vmwr voln vohw vmno vond voon vowi votop vmnf vmsf 5 vm 0 0 r_vosm ⟨by omega, by omega⟩ ⟨by omega, by omega⟩ ⟨by omega, by omega⟩ p_vmnf) (cw_X11_285 hts rfl rfl ⟨Nat.le_of_ble_eq_true rfl, Nat.le_of_ble_eq_true rfl⟩) hP hD hK [0, 1, 2] rfl rfl rfl rfl bl0 e0 rfl hl.1 rfl (Nat.le_of_ble_eq_true rfl) dX11_sit_18 ⟨Nat.le_of_ble_eq_true rfl, Nat.le_of_ble_eq_true rfl⟩) hP hD hS hA [0, 1, 2] [] rfl rfl rfl (by decide) (fun r_4 u_6 H locs hp_5 hP hD hS => ?_)
    obtain ⟨vmnf_7, vmsf_8, vosm_9⟩ := u_6
    have hp_5 : (NW vnh vmnf_7) ∧ (0 ≤ (vosm_9 : Int32).toInt ∧ (vosm_9 : Int32).toInt ≤ 8) := hp_5
    obtain ⟨q_10, q_11⟩ := hp_5
    have hP : va_P (dC, dI) vwCl [(vo, .inr (12, [.int 0, .ref vmt, .int votp, .int vosz, .int volm, .int voto, .int vofr, .int vokd, .int vonu, .int vosg, .int vofa, .int vopl, .long vowd, .int votd, .ref vmn, .ref vmr, .ref vmk, .ref vms, .ref vma, .ref vmm, .ref vmrn, .ref vmkn, .ref vmik, .ref vmon, .int vosm_9, .int vohp, .ref vmw, .ref vmf, .ref vmb, .int vomb, .ref vmd, .ref vmc, .int vocm, .int voct, .int vocy, .ref vmx, .int votx, .int vose, .ref vml, .ref vmwr, .int voln, .int vohw, .ref vmno, .int vond, .int voon, .int vowi, .int votop])), (vmn, .inl (cy 0, 575, .inl vmnf_7)), (vms, .inl (cy 0, 1408, .inl vmsf_8))] H := hP
    have hD : va_D A [(vo, .inr (12, [.int 0, .ref vmt, .int votp, .int vosz, .int volm, .int voto, .int vofr, .int vokd, .int vonu, .int vosg, .int vofa, .int vopl, .long vowd, .int votd, .ref vmn, .ref vmr, .ref vmk, .ref vms, .ref vma, .ref vmm, .ref vmrn, .ref vmkn, .ref vmik, .ref vmon, .int vosm_9, .int vohp, .ref vmw, .ref vmf, .ref vmb, .int vomb, .ref vmd, .ref vmc, .int vocm, .int voct, .int vocy, .ref vmx, .int votx, .int vose, .ref vml, .ref vmwr, .int voln, .int vohw, .ref vmno, .int vond, .int voon, .int vowi, .int votop])), (vmn, .inl (cy 0, 575, .inl vmnf_7)), (vms, .inl (cy 0, 1408, .inl vmsf_8))] := hD
    refine lv_goto (tgt := 25) hx hb dX11_sit_21 (by decide) ?_
    rw [hQ9]
    exact re_i ((0 : Int32), vmnf_7, vmsf_8, vosm_9) hx hb hr hlocks ⟨(show NW vnh vmnf_7 from q_10), (show 0 ≤ (vosm_9 : Int32).toInt ∧ (vosm_9 : Int32).toInt ≤ 8 from ⟨by omega, by omega⟩)⟩ (hP.sub [0, 1, 2] rfl) (hD.sub [0, 1, 2] rfl rfl) hS dX11_sit_25
abbrev cX11_oneYear : ByteArray := prog_13_method_75_code
def yX11_oneYear : MethodName := ⟨RX11, "oneYear", "()V"⟩
theorem t1849 : Cond.code yX11_oneYear cX11_oneYear 2 none ∈ GW := gw_mem 1963 (by decide +kernel) (by decide +kernel)
abbrev O_m_oneYear (cy : Nat → ClassId) (vnh : Nat → Int32) (vo : Nat) (voth : Int32) (vmt : Nat) (votp : Int32) (vosz : Int32) (volm : Int32) (voto : Int32) (vofr : Int32) (vokd : Int32) (vonu : Int32) (vosg : Int32) (vofa : Int32) (vopl : Int32) (vowd : Int64) (votd : Int32) (vmn : Nat) (vmr : Nat) (vmk : Nat) (vms : Nat) (vma : Nat) (vmm : Nat) (vmrn : Nat) (vmkn : Nat) (vmik : Nat) (vmon : Nat) (vosm : Int32) (vohp : Int32) (vmw : Nat) (vmf : Nat) (vmb : Nat) (vomb : Int32) (vmd : Nat) (vmc : Nat) (vocm : Int32) (voct : Int32) (vocy : Int32) (vmx : Nat) (votx : Int32) (vose : Int32) (vml : Nat) (vmwr : Nat) (voln : Int32) (vohw : Int32) (vmno : Nat) (vond : Int32) (voon : Int32) (vowi : Int32) (votop : Int32) (vmnf : Nat → Int32) (u : (Nat → Int32)) : va_W := [(vo, .inr (12, [.int voth, .ref vmt, .int votp, .int vosz, .int volm, .int voto, .int vofr, .int vokd, .int vonu, .int vosg, .int vofa, .int vopl, .long vowd, .int votd, .ref vmn, .ref vmr, .ref vmk, .ref vms, .ref vma, .ref vmm, .ref vmrn, .ref vmkn, .ref vmik, .ref vmon, .int vosm, .int vohp, .ref vmw, .ref vmf, .ref vmb, .int vomb, .ref vmd, .ref vmc, .int vocm, .int voct, .int vocy, .ref vmx, .int votx, .int vose, .ref vml, .ref vmwr, .int voln, .int vohw, .ref vmno, .int vond, .int voon, .int vowi, .int votop])), (vmn, .inl (cy 0, 575, .inl u))]
theorem dX11_oneYear_0 : decode cX11_oneYear 0 = .ok (.iconst 0, 1) := by decide +kernel
theorem dX11_oneYear_1 : decode cX11_oneYear 1 = .ok (.istore_n 1, 1) := by decide +kernel
theorem dX11_oneYear_2 : decode cX11_oneYear 2 = .ok (.iload_n 1, 1) := by decide +kernel
theorem dX11_oneYear_3 : decode cX11_oneYear 3 = .ok (.aload_n 0, 1) := by decide +kernel
theorem dX11_oneYear_4 : decode cX11_oneYear 4 = .ok (.getfield 98, 3) := by decide +kernel
theorem dX11_oneYear_7 : decode cX11_oneYear 7 = .ok (.iconst 0, 1) := by decide +kernel
theorem dX11_oneYear_8 : decode cX11_oneYear 8 = .ok (.iaload, 1) := by decide +kernel
theorem dX11_oneYear_9 : decode cX11_oneYear 9 = .ok (.if_icmp .ge 28, 3) := by decide +kernel
theorem dX11_oneYear_37 : decode cX11_oneYear 37 = .ok (.aload_n 0, 1) := by decide +kernel
theorem dX11_oneYear_38 : decode cX11_oneYear 38 = .ok (.getfield 98, 3) := by decide +kernel
theorem dX11_oneYear_41 : decode cX11_oneYear 41 = .ok (.sipush 157, 3) := by decide +kernel
theorem dX11_oneYear_44 : decode cX11_oneYear 44 = .ok (.dup2, 1) := by decide +kernel
theorem dX11_oneYear_45 : decode cX11_oneYear 45 = .ok (.iaload, 1) := by decide +kernel
theorem dX11_oneYear_46 : decode cX11_oneYear 46 = .ok (.iconst 1, 1) := by decide +kernel
theorem dX11_oneYear_47 : decode cX11_oneYear 47 = .ok (.iadd, 1) := by decide +kernel
theorem dX11_oneYear_48 : decode cX11_oneYear 48 = .ok (.iastore, 1) := by decide +kernel
theorem dX11_oneYear_49 : decode cX11_oneYear 49 = .ok (.return_, 1) := by decide +kernel
theorem dX11_oneYear_12 : decode cX11_oneYear 12 = .ok (.aload_n 0, 1) := by decide +kernel
theorem dX11_oneYear_13 : decode cX11_oneYear 13 = .ok (.getfield 98, 3) := by decide +kernel
theorem dX11_oneYear_16 : decode cX11_oneYear 16 = .ok (.sipush 158, 3) := by decide +kernel
theorem dX11_oneYear_19 : decode cX11_oneYear 19 = .ok (.iload_n 1, 1) := by decide +kernel
theorem dX11_oneYear_20 : decode cX11_oneYear 20 = .ok (.iadd, 1) := by decide +kernel
theorem dX11_oneYear_21 : decode cX11_oneYear 21 = .ok (.dup2, 1) := by decide +kernel
theorem dX11_oneYear_22 : decode cX11_oneYear 22 = .ok (.iaload, 1) := by decide +kernel
theorem dX11_oneYear_23 : decode cX11_oneYear 23 = .ok (.iconst 1, 1) := by decide +kernel
theorem dX11_oneYear_24 : decode cX11_oneYear 24 = .ok (.iadd, 1) := by decide +kernel
theorem dX11_oneYear_25 : decode cX11_oneYear 25 = .ok (.iastore, 1) := by decide +kernel
theorem dX11_oneYear_26 : decode cX11_oneYear 26 = .ok (.aload_n 0, 1) := by decide +kernel
theorem dX11_oneYear_27 : decode cX11_oneYear 27 = .ok (.iload_n 1, 1) := by decide +kernel
theorem dX11_oneYear_28 : decode cX11_oneYear 28 = .ok (.invokevirtual 268, 3) := by decide +kernel
theorem dX11_oneYear_31 : decode cX11_oneYear 31 = .ok (.iinc 1 1, 3) := by decide +kernel
theorem dX11_oneYear_34 : decode cX11_oneYear 34 = .ok (.goto (-32), 3) := by decide +kernel
set_option maxHeartbeats 4000000 in
set_option maxRecDepth 100000 in
theorem m_oneYear (l : Launch) (dC : Nat → ClassId) (dI : Nat → Nat → Nat) (cy : Nat → ClassId) (sz : Nat) (vnh : Nat → Int32) (vo : Nat) (voth : Int32) (vmt : Nat) (votp : Int32) (vosz : Int32) (volm : Int32) (voto : Int32) (vofr : Int32) (vokd : Int32) (vonu : Int32) (vosg : Int32) (vofa : Int32) (vopl : Int32) (vowd : Int64) (votd : Int32) (vmn : Nat) (vmr : Nat) (vmk : Nat) (vms : Nat) (vma : Nat) (vmm : Nat) (vmrn : Nat) (vmkn : Nat) (vmik : Nat) (vmon : Nat) (vosm : Int32) (vohp : Int32) (vmw : Nat) (vmf : Nat) (vmb : Nat) (vomb : Int32) (vmd : Nat) (vmc : Nat) (vocm : Int32) (voct : Int32) (vocy : Int32) (vmx : Nat) (votx : Int32) (vose : Int32) (vml : Nat) (vmwr : Nat) (voln : Int32) (vohw : Int32) (vmno : Nat) (vond : Int32) (voon : Int32) (vowi : Int32) (votop : Int32) (vmnf : Nat → Int32) (p_vmnf : NW vnh vmnf) : Met l yX11_oneYear (wl yX11_oneYear cX11_oneYear 2 none) ({ frames := 1, cells := 0, slots := 0, locals := 64 }) (Pw (dC, dI) vwCl cy [(vo, .inr (12, [.int voth, .ref vmt, .int votp, .int vosz, .int volm, .int voto, .int vofr, .int vokd, .int vonu, .int vosg, .int vofa, .int vopl, .long vowd, .int votd, .ref vmn, .ref vmr, .ref vmk, .ref vms, .ref vma, .ref vmm, .ref vmrn, .ref vmkn, .ref vmik, .ref vmon, .int vosm, .int vohp, .ref vmw, .ref vmf, .ref vmb, .int vomb, .ref vmd, .ref vmc, .int vocm, .int voct, .int vocy, .ref vmx, .int votx, .int vose, .ref vml, .ref vmwr, .int voln, .int vohw, .ref vmno, .int vond, .int voon, .int vowi, .int votop])), (vmn, .inl (cy 0, 575, .inl vmnf))] sz [.ref vo] nE) (Qv (dC, dI) vwCl (fun (u : (Nat → Int32)) => (NW vnh u)) (O_m_oneYear cy vnh vo voth vmt votp vosz volm voto vofr vokd vonu vosg vofa vopl vowd votd vmn vmr vmk vms vma vmm vmrn vmkn vmik vmon vosm vohp vmw vmf vmb vomb vmd vmc vocm voct vocy vmx votx vose vml vmwr voln vohw vmno vond voon vowi votop vmnf) (va_A [(vo, .inr (12, [.int voth, .ref vmt, .int votp, .int vosz, .int volm, .int voto, .int vofr, .int vokd, .int vonu, .int vosg, .int vofa, .int vopl, .long vowd, .int votd, .ref vmn, .ref vmr, .ref vmk, .ref vms, .ref vma, .ref vmm, .ref vmrn, .ref vmkn, .ref vmik, .ref vmon, .int vosm, .int vohp, .ref vmw, .ref vmf, .ref vmb, .int vomb, .ref vmd, .ref vmc, .int vocm, .int voct, .int vocy, .ref vmx, .int votx, .int vose, .ref vml, .ref vmwr, .int voln, .int vohw, .ref vmno, .int vond, .int voon, .int vowi, .int votop])), (vmn, .inl (cy 0, 575, .inl vmnf))] sz)) 0 0 (va_A [(vo, .inr (12, [.int voth, .ref vmt, .int votp, .int vosz, .int volm, .int voto, .int vofr, .int vokd, .int vonu, .int vosg, .int vofa, .int vopl, .long vowd, .int votd, .ref vmn, .ref vmr, .ref vmk, .ref vms, .ref vma, .ref vmm, .ref vmrn, .ref vmkn, .ref vmik, .ref vmon, .int vosm, .int vohp, .ref vmw, .ref vmf, .ref vmb, .int vomb, .ref vmd, .ref vmc, .int vocm, .int voct, .int vocy, .ref vmx, .int votx, .int vose, .ref vml, .ref vmwr, .int voln, .int vohw, .ref vmno, .int vond, .int voon, .int vowi, .int votop])), (vmn, .inl (cy 0, 575, .inl vmnf))] sz) := by
  refine mw (Qc := Qv (dC, dI) vwCl (fun (u : (Nat → Int32)) => (NW vnh u)) (O_m_oneYear cy vnh vo voth vmt votp vosz volm voto vofr vokd vonu vosg vofa vopl vowd votd vmn vmr vmk vms vma vmm vmrn vmkn vmik vmon vosm vohp vmw vmf vmb vomb vmd vmc vocm voct vocy vmx votx vose vml vmwr voln vohw vmno vond voon vowi votop vmnf)) RX11 rfl (by decide +kernel) (Nat.le_of_ble_eq_true rfl) ?_
  intro p e s m below meth c A hx hb hr hlocks av9 hav hts hown hnm hml hK hP hD hA hS hE hAe Q9 hQ9 ls hl
  have hl : lv_has ls 2 [(0, .ref vo)] := hl
  refine lv_iconst (v := 0) hx hb dX11_oneYear_0 (by decide) ?_
  refine lv_istore_n (lv' := [(1, .int 0), (0, .ref vo)]) hx hb dX11_oneYear_1 rfl hl (by decide) rfl (fun ls hl => ?_)
  have loop1 : ∀ (n1 : Nat) (x_2 : Int32) (g_3 : Nat → Int32), (0 ≤ x_2.toInt ∧ x_2.toInt ≤ 7) → NW vnh g_3 → 7 - x_2.toInt < (n1 : Int) → ∀ (H : Heap) (locs : List Loc), va_P (dC, dI) vwCl [(vo, .inr (12, [.int voth, .ref vmt, .int votp, .int vosz, .int volm, .int voto, .int vofr, .int vokd, .int vonu, .int vosg, .int vofa, .int vopl, .long vowd, .int votd, .ref vmn, .ref vmr, .ref vmk, .ref vms, .ref vma, .ref vmm, .ref vmrn, .ref vmkn, .ref vmik, .ref vmon, .int vosm, .int vohp, .ref vmw, .ref vmf, .ref vmb, .int vomb, .ref vmd, .ref vmc, .int vocm, .int voct, .int vocy, .ref vmx, .int votx, .int vose, .ref vml, .ref vmwr, .int voln, .int vohw, .ref vmno, .int vond, .int voon, .int vowi, .int votop])), (vmn, .inl (cy 0, 575, .inl g_3))] H → va_D A [(vo, .inr (12, [.int voth, .ref vmt, .int votp, .int vosz, .int volm, .int voto, .int vofr, .int vokd, .int vonu, .int vosg, .int vofa, .int vopl, .long vowd, .int votd, .ref vmn, .ref vmr, .ref vmk, .ref vms, .ref vma, .ref vmm, .ref vmrn, .ref vmkn, .ref vmik, .ref vmon, .int vosm, .int vohp, .ref vmw, .ref vmf, .ref vmb, .int vomb, .ref vmd, .ref vmc, .int vocm, .int voct, .int vocy, .ref vmx, .int votx, .int vose, .ref vml, .ref vmwr, .int voln, .int vohw, .ref vmno, .int vond, .int voon, .int vowi, .int votop])), (vmn, .inl (cy 0, 575, .inl g_3))] → va_S A s.heap H locs → ∀ ls : Array Slot, lv_has ls 2 [(1, .int x_2), (0, .ref vo)] → W p l e ({ frames := 1, cells := 0, slots := 0, locals := 64 }) s m av9 below meth c H locs 0 0 Q9 (F0 m 2 ls []) := by
    intro n1
    induction n1 with
    | zero =>
      intro x_2 g_3 bx_2 p_g_3 hn1 H locs hP hD hS ls hl
      exfalso; omega
    | succ n1 ih1 =>
      intro x_2 g_3 bx_2 p_g_3 hn1 H locs hP hD hS ls hl
      refine lv_iload_n hx hb dX11_oneYear_2 rfl (lv_at hl 0 rfl) ?_
      refine lv_aload_n hx hb dX11_oneYear_3 rfl (lv_at hl 1 rfl) ?_
      refine gf_X11_98 hx hb hts hown hK hP 0 rfl rfl dX11_oneYear_4 ?_
      refine lv_iconst (v := 0) hx hb dX11_oneYear_7 (by decide) ?_
      have k_0 : (0 : Int32).toInt = 0 := by decide
      have hin_4 : vp_in (0 : Int32) 575 := vp_in_iff.mpr ⟨by omega, by omega⟩
      refine va_iald hx hb hK hP 1 0 rfl rfl hin_4 dX11_oneYear_8 ?_
      refine lv_topi (fun z_5 ez_5 => ?_)
      have bz_5 := p_g_3.a0 (x := 0) ⟨by omega, by omega⟩ ez_5
      have tz_5 : z_5.toInt = (g_3 0).toInt := by rw [ez_5]; rfl
      refine lv_icmp_ge (tgt := 37) hx hb dX11_oneYear_9 (by decide) (fun c_6 => ?_) (fun c_6 => ?_)
      · skip
        have c_6 : z_5.toInt ≤ x_2.toInt := i_le.mp c_6
        refine lv_aload_n hx hb dX11_oneYear_37 rfl (lv_at hl 1 rfl) ?_
        refine gf_X11_98 hx hb hts hown hK hP 0 rfl rfl dX11_oneYear_38 ?_
        refine lv_sipush (v := 157) hx hb dX11_oneYear_41 (by decide) ?_
        refine lv_dup2_11 hx hb dX11_oneYear_44 rfl rfl ?_
        have k_157 : (157 : Int32).toInt = 157 := by decide
        have hin_7 : vp_in (157 : Int32) 575 := vp_in_iff.mpr ⟨by omega, by omega⟩
        refine va_iald hx hb hK hP 1 0 rfl rfl hin_7 dX11_oneYear_45 ?_
        refine lv_topi (fun z_8 ez_8 => ?_)
        have tz_8 : z_8.toInt = (g_3 157).toInt := by rw [ez_8]; rfl
        refine lv_iconst (v := 1) hx hb dX11_oneYear_46 (by decide) ?_
        refine lv_iadd hx hb dX11_oneYear_47 ?_
        refine lv_topi (fun z_9 ez_9 => ?_)
        have hin_10 : vp_in (157 : Int32) 575 := vp_in_iff.mpr ⟨by omega, by omega⟩
        refine va_iast hx hb hK hP hD hS 1 0 rfl rfl hin_10 dX11_oneYear_48 (fun H locs hP hD hS => ?_)
        obtain ⟨f_11, ef_11⟩ : ∃ z : Nat → Int32, z = upd g_3 (Int32.toNatClampNeg 157) z_9 := ⟨_, rfl⟩
        have hP : va_P (dC, dI) vwCl [(vo, .inr (12, [.int voth, .ref vmt, .int votp, .int vosz, .int volm, .int voto, .int vofr, .int vokd, .int vonu, .int vosg, .int vofa, .int vopl, .long vowd, .int votd, .ref vmn, .ref vmr, .ref vmk, .ref vms, .ref vma, .ref vmm, .ref vmrn, .ref vmkn, .ref vmik, .ref vmon, .int vosm, .int vohp, .ref vmw, .ref vmf, .ref vmb, .int vomb, .ref vmd, .ref vmc, .int vocm, .int voct, .int vocy, .ref vmx, .int votx, .int vose, .ref vml, .ref vmwr, .int voln, .int vohw, .ref vmno, .int vond, .int voon, .int vowi, .int votop])), (vmn, .inl (cy 0, 575, .inl f_11))] H := by rw [ef_11]; exact hP
        have hD : va_D A [(vo, .inr (12, [.int voth, .ref vmt, .int votp, .int vosz, .int volm, .int voto, .int vofr, .int vokd, .int vonu, .int vosg, .int vofa, .int vopl, .long vowd, .int votd, .ref vmn, .ref vmr, .ref vmk, .ref vms, .ref vma, .ref vmm, .ref vmrn, .ref vmkn, .ref vmik, .ref vmon, .int vosm, .int vohp, .ref vmw, .ref vmf, .ref vmb, .int vomb, .ref vmd, .ref vmc, .int vocm, .int voct, .int vocy, .ref vmx, .int votx, .int vose, .ref vml, .ref vmwr, .int voln, .int vohw, .ref vmno, .int vond, .int voon, .int vowi, .int votop])), (vmn, .inl (cy 0, 575, .inl f_11))] := by rw [ef_11]; exact hD
        have p_f_11 : NW vnh f_11 := by rw [ef_11]; exact p_g_3.upd ⟨by omega, by omega⟩
        rw [hQ9]
        exact re_v f_11 hx hb hr hlocks (show NW vnh f_11 from p_f_11) (hP.sub [0, 1] rfl) (hD.sub [0, 1] rfl rfl) hS dX11_oneYear_49
      · skip
        have c_6 : ¬ (z_5.toInt ≤ x_2.toInt) := fun h9 => c_6 (i_le.mpr h9)
        refine lv_aload_n hx hb dX11_oneYear_12 rfl (lv_at hl 1 rfl) ?_
        refine gf_X11_98 hx hb hts hown hK hP 0 rfl rfl dX11_oneYear_13 ?_
        refine lv_sipush (v := 158) hx hb dX11_oneYear_16 (by decide) ?_
        refine lv_iload_n hx hb dX11_oneYear_19 rfl (lv_at hl 0 rfl) ?_
        refine lv_iadd hx hb dX11_oneYear_20 ?_
        refine lv_topi (fun z_12 ez_12 => ?_)
        have k_158 : (158 : Int32).toInt = 158 := by decide
        have bz_12 : z_12.toInt = (158 : Int32).toInt + x_2.toInt := i_add ez_12 (by omega) (by omega)
        refine lv_dup2_11 hx hb dX11_oneYear_21 rfl rfl ?_
        have hin_13 : vp_in z_12 575 := vp_in_iff.mpr ⟨by omega, by omega⟩
        refine va_iald hx hb hK hP 1 0 rfl rfl hin_13 dX11_oneYear_22 ?_
        refine lv_topi (fun z_14 ez_14 => ?_)
        refine lv_iconst (v := 1) hx hb dX11_oneYear_23 (by decide) ?_
        refine lv_iadd hx hb dX11_oneYear_24 ?_
        refine lv_topi (fun z_15 ez_15 => ?_)
        have hin_16 : vp_in z_12 575 := vp_in_iff.mpr ⟨by omega, by omega⟩
        refine va_iast hx hb hK hP hD hS 1 0 rfl rfl hin_16 dX11_oneYear_25 (fun H locs hP hD hS => ?_)
        obtain ⟨f_17, ef_17⟩ : ∃ z : Nat → Int32, z = upd g_3 (Int32.toNatClampNeg z_12) z_15 := ⟨_, rfl⟩
        have hP : va_P (dC, dI) vwCl [(vo, .inr (12, [.int voth, .ref vmt, .int votp, .int vosz, .int volm, .int voto, .int vofr, .int vokd, .int vonu, .int vosg, .int vofa, .int vopl, .long vowd, .int votd, .ref vmn, .ref vmr, .ref vmk, .ref vms, .ref vma, .ref vmm, .ref vmrn, .ref vmkn, .ref vmik, .ref vmon, .int vosm, .int vohp, .ref vmw, .ref vmf, .ref vmb, .int vomb, .ref vmd, .ref vmc, .int vocm, .int voct, .int vocy, .ref vmx, .int votx, .int vose, .ref vml, .ref vmwr, .int voln, .int vohw, .ref vmno, .int vond, .int voon, .int vowi, .int votop])), (vmn, .inl (cy 0, 575, .inl f_17))] H := by rw [ef_17]; exact hP
        have hD : va_D A [(vo, .inr (12, [.int voth, .ref vmt, .int votp, .int vosz, .int volm, .int voto, .int vofr, .int vokd, .int vonu, .int vosg, .int vofa, .int vopl, .long vowd, .int votd, .ref vmn, .ref vmr, .ref vmk, .ref vms, .ref vma, .ref vmm, .ref vmrn, .ref vmkn, .ref vmik, .ref vmon, .int vosm, .int vohp, .ref vmw, .ref vmf, .ref vmb, .int vomb, .ref vmd, .ref vmc, .int vocm, .int voct, .int vocy, .ref vmx, .int votx, .int vose, .ref vml, .ref vmwr, .int voln, .int vohw, .ref vmno, .int vond, .int voon, .int vowi, .int votop])), (vmn, .inl (cy 0, 575, .inl f_17))] := by rw [ef_17]; exact hD
        have p_f_17 : NW vnh f_17 := by rw [ef_17]; exact p_g_3.upd ⟨by omega, by omega⟩
        refine lv_aload_n hx hb dX11_oneYear_26 rfl (lv_at hl 1 rfl) ?_
        refine lv_iload_n hx hb dX11_oneYear_27 rfl (lv_at hl 0 rfl) ?_
        refine jn_v (wr := []) (rV (As := [.int x_2]) (rest := []) (ci := 12) ⟨hx, hb, hml, hown, hts⟩ (m_back1 l dC dI cy _ vnh vo voth vmt votp vosz volm voto vofr vokd vonu vosg vofa vopl vowd votd vmn vmr vmk vms vma vmm vmrn vmkn vmik vmon vosm vohp vmw vmf vmb vomb vmd vmc vocm voct vocy vmx votx vose vml vmwr voln vohw vmno vond voon vowi votop f_17 x_2 ⟨by omega, by omega⟩ p_f_17) (cw_X11_268 hts rfl rfl ⟨Nat.le_of_ble_eq_true rfl, Nat.le_of_ble_eq_true rfl⟩) hP hD hK [0, 1] rfl rfl rfl rfl bl0 e0 rfl hl.1 rfl (Nat.le_of_ble_eq_true rfl) dX11_oneYear_28 ⟨Nat.le_of_ble_eq_true rfl, Nat.le_of_ble_eq_true rfl⟩) hP hD hS hA [0, 1] [] rfl rfl rfl (by decide) (fun u_20 H locs hp_19 hP hD hS => ?_)
        obtain ⟨vmnf_21, rfl⟩ : ∃ z, z = u_20 := ⟨_, rfl⟩
        have hp_19 : (NW vnh vmnf_21) := hp_19
        have q_22 := hp_19
        have hP : va_P (dC, dI) vwCl [(vo, .inr (12, [.int voth, .ref vmt, .int votp, .int vosz, .int volm, .int voto, .int vofr, .int vokd, .int vonu, .int vosg, .int vofa, .int vopl, .long vowd, .int votd, .ref vmn, .ref vmr, .ref vmk, .ref vms, .ref vma, .ref vmm, .ref vmrn, .ref vmkn, .ref vmik, .ref vmon, .int vosm, .int vohp, .ref vmw, .ref vmf, .ref vmb, .int vomb, .ref vmd, .ref vmc, .int vocm, .int voct, .int vocy, .ref vmx, .int votx, .int vose, .ref vml, .ref vmwr, .int voln, .int vohw, .ref vmno, .int vond, .int voon, .int vowi, .int votop])), (vmn, .inl (cy 0, 575, .inl vmnf_21))] H := hP
        have hD : va_D A [(vo, .inr (12, [.int voth, .ref vmt, .int votp, .int vosz, .int volm, .int voto, .int vofr, .int vokd, .int vonu, .int vosg, .int vofa, .int vopl, .long vowd, .int votd, .ref vmn, .ref vmr, .ref vmk, .ref vms, .ref vma, .ref vmm, .ref vmrn, .ref vmkn, .ref vmik, .ref vmon, .int vosm, .int vohp, .ref vmw, .ref vmf, .ref vmb, .int vomb, .ref vmd, .ref vmc, .int vocm, .int voct, .int vocy, .ref vmx, .int votx, .int vose, .ref vml, .ref vmwr, .int voln, .int vohw, .ref vmno, .int vond, .int voon, .int vowi, .int votop])), (vmn, .inl (cy 0, 575, .inl vmnf_21))] := hD
        obtain ⟨z_23, ez_23⟩ : ∃ z : Int32, z = x_2 + 1 := ⟨_, rfl⟩
        have k_1 : (1 : Int32).toInt = 1 := by decide
        have bz_23 : z_23.toInt = x_2.toInt + (1 : Int32).toInt := i_add ez_23 (by omega) (by omega)
        refine lv_iinc (v := z_23) (lv' := [(1, .int z_23), (0, .ref vo)]) hx hb dX11_oneYear_31 hl (k := 0) rfl ez_23.symm (by decide) rfl (fun ls hl => ?_)
        refine lv_goto (tgt := 2) hx hb dX11_oneYear_34 (by decide) ?_
        exact ih1 z_23 vmnf_21 ⟨by omega, by omega⟩ q_22 (by omega) _ _ (hP.sub [0, 1] rfl) (hD.sub [0, 1] rfl rfl) hS ls (lv_sub hl [0, 1] rfl)
  have k_0 : (0 : Int32).toInt = 0 := by decide
  exact loop1 ((7 - (0 : Int32).toInt).toNat + 1) 0 vmnf ⟨by omega, by omega⟩ p_vmnf (by omega) _ _ hP hD hS ls (lv_sub hl [0, 1] rfl)
abbrev cX11_passYears : ByteArray := prog_13_method_76_code
def yX11_passYears : MethodName := ⟨RX11, "passYears", "(I)I"⟩
theorem t1842 : Cond.code yX11_passYears cX11_passYears 4 (some .int) ∈ GW := gw_mem 1956 (by decide +kernel) (by decide +kernel)
abbrev O_m_passYears (cy : Nat → ClassId) (vnh : Nat → Int32) (vo : Nat) (voth : Int32) (vmt : Nat) (votp : Int32) (vosz : Int32) (volm : Int32) (voto : Int32) (vofr : Int32) (vokd : Int32) (vonu : Int32) (vosg : Int32) (vofa : Int32) (vopl : Int32) (vowd : Int64) (votd : Int32) (vmn : Nat) (vmr : Nat) (vmk : Nat) (vms : Nat) (vma : Nat) (vmm : Nat) (vmrn : Nat) (vmkn : Nat) (vmik : Nat) (vmon : Nat) (vosm : Int32) (vohp : Int32) (vmw : Nat) (vmf : Nat) (vmb : Nat) (vomb : Int32) (vmd : Nat) (vmc : Nat) (vocm : Int32) (voct : Int32) (vocy : Int32) (vmx : Nat) (votx : Int32) (vose : Int32) (vml : Nat) (vmwr : Nat) (voln : Int32) (vohw : Int32) (vmno : Nat) (vond : Int32) (voon : Int32) (vowi : Int32) (votop : Int32) (vmnf : Nat → Int32) (vn : Int32) (u : (Nat → Int32)) : va_W := [(vo, .inr (12, [.int voth, .ref vmt, .int votp, .int vosz, .int volm, .int voto, .int vofr, .int vokd, .int vonu, .int vosg, .int vofa, .int vopl, .long vowd, .int votd, .ref vmn, .ref vmr, .ref vmk, .ref vms, .ref vma, .ref vmm, .ref vmrn, .ref vmkn, .ref vmik, .ref vmon, .int vosm, .int vohp, .ref vmw, .ref vmf, .ref vmb, .int vomb, .ref vmd, .ref vmc, .int vocm, .int voct, .int vocy, .ref vmx, .int votx, .int vose, .ref vml, .ref vmwr, .int voln, .int vohw, .ref vmno, .int vond, .int voon, .int vowi, .int votop])), (vmn, .inl (cy 0, 575, .inl u))]
theorem dX11_passYears_0 : decode cX11_passYears 0 = .ok (.iload_n 1, 1) := by decide +kernel
theorem dX11_passYears_1 : decode cX11_passYears 1 = .ok (.sipush 200, 3) := by decide +kernel
theorem dX11_passYears_4 : decode cX11_passYears 4 = .ok (.aload_n 0, 1) := by decide +kernel
theorem dX11_passYears_5 : decode cX11_passYears 5 = .ok (.getfield 98, 3) := by decide +kernel
theorem dX11_passYears_8 : decode cX11_passYears 8 = .ok (.sipush 157, 3) := by decide +kernel
theorem dX11_passYears_11 : decode cX11_passYears 11 = .ok (.iaload, 1) := by decide +kernel
theorem dX11_passYears_12 : decode cX11_passYears 12 = .ok (.isub, 1) := by decide +kernel
theorem dX11_passYears_13 : decode cX11_passYears 13 = .ok (.invokestatic 288, 3) := by decide +kernel
theorem t1843 : Cond.methodLink RX11 288 yX11_least ∈ GW := gw_mem 1957 (by decide +kernel) (by decide +kernel)
theorem t1844 : Cond.static yX11_least ∈ GW := gw_mem 1958 (by decide +kernel) (by decide +kernel)
theorem cw_X11_288 {R : Room} {s : State} {args : Array Value} {rm : Room} {mc ms : Nat} (hts : ∀ w ∈ GW, w.before args s = true) (hrc : rm.cells = mc) (hrs : rm.slots = ms) (hR : rm.frames + 1 ≤ R.frames ∧ 8 + (2 + 11) + rm.locals ≤ R.locals) : CallB R s args RX11 288 yX11_least cX11_least 2 (some .int) (wl yX11_least cX11_least 2 (some .int)) rm mc ms 2 ∧ (Cond.static yX11_least).before args s = true := va_cwS 2 hts (gi_S t1843 t1844 t18 t1845) rfl hrc hrs (by decide +kernel) hR
theorem dX11_passYears_16 : decode cX11_passYears 16 = .ok (.istore_n 2, 1) := by decide +kernel
theorem dX11_passYears_17 : decode cX11_passYears 17 = .ok (.iconst 0, 1) := by decide +kernel
theorem dX11_passYears_18 : decode cX11_passYears 18 = .ok (.istore_n 3, 1) := by decide +kernel
theorem dX11_passYears_19 : decode cX11_passYears 19 = .ok (.iload_n 3, 1) := by decide +kernel
theorem dX11_passYears_20 : decode cX11_passYears 20 = .ok (.iload_n 2, 1) := by decide +kernel
theorem dX11_passYears_21 : decode cX11_passYears 21 = .ok (.if_icmp .ge 13, 3) := by decide +kernel
theorem dX11_passYears_34 : decode cX11_passYears 34 = .ok (.iload_n 2, 1) := by decide +kernel
theorem dX11_passYears_35 : decode cX11_passYears 35 = .ok (.ireturn, 1) := by decide +kernel
theorem dX11_passYears_24 : decode cX11_passYears 24 = .ok (.aload_n 0, 1) := by decide +kernel
theorem dX11_passYears_25 : decode cX11_passYears 25 = .ok (.invokevirtual 291, 3) := by decide +kernel
theorem t1846 : Cond.methodLink RX11 291 yX11_oneYear ∈ GW := gw_mem 1960 (by decide +kernel) (by decide +kernel)
theorem t1848 : Cond.instanceMethod yX11_oneYear ∈ GW := gw_mem 1962 (by decide +kernel) (by decide +kernel)
theorem s82 : Cond.selects RX11 yX11_oneYear yX11_oneYear ∈ GW := gw_mem 82 (by decide +kernel) (by decide +kernel)
theorem cw_X11_291 {R : Room} {s : State} {args : Array Value} {rm : Room} {mc ms : Nat} (hts : ∀ w ∈ GW, w.before args s = true) (hrc : rm.cells = mc) (hrs : rm.slots = ms) (hR : rm.frames + 1 ≤ R.frames ∧ 8 + (2 + 11) + rm.locals ≤ R.locals) : CallW R s args RX11 RX11 291 yX11_oneYear cX11_oneYear 2 none (wl yX11_oneYear cX11_oneYear 2 none) rm mc ms 0 := cwV 0 hts (gi_V t1846 t1848 s82 t18 t1849) rfl hrc hrs (by decide +kernel) hR
theorem dX11_passYears_28 : decode cX11_passYears 28 = .ok (.iinc 3 1, 3) := by decide +kernel
theorem dX11_passYears_31 : decode cX11_passYears 31 = .ok (.goto (-12), 3) := by decide +kernel
set_option maxHeartbeats 4000000 in
set_option maxRecDepth 100000 in
theorem m_passYears (l : Launch) (dC : Nat → ClassId) (dI : Nat → Nat → Nat) (cy : Nat → ClassId) (sz : Nat) (vnh : Nat → Int32) (vo : Nat) (voth : Int32) (vmt : Nat) (votp : Int32) (vosz : Int32) (volm : Int32) (voto : Int32) (vofr : Int32) (vokd : Int32) (vonu : Int32) (vosg : Int32) (vofa : Int32) (vopl : Int32) (vowd : Int64) (votd : Int32) (vmn : Nat) (vmr : Nat) (vmk : Nat) (vms : Nat) (vma : Nat) (vmm : Nat) (vmrn : Nat) (vmkn : Nat) (vmik : Nat) (vmon : Nat) (vosm : Int32) (vohp : Int32) (vmw : Nat) (vmf : Nat) (vmb : Nat) (vomb : Int32) (vmd : Nat) (vmc : Nat) (vocm : Int32) (voct : Int32) (vocy : Int32) (vmx : Nat) (votx : Int32) (vose : Int32) (vml : Nat) (vmwr : Nat) (voln : Int32) (vohw : Int32) (vmno : Nat) (vond : Int32) (voon : Int32) (vowi : Int32) (votop : Int32) (vmnf : Nat → Int32) (vn : Int32) (p_vmnf : NW vnh vmnf) : Met l yX11_passYears (wl yX11_passYears cX11_passYears 4 (some .int)) ({ frames := 2, cells := 0, slots := 0, locals := 128 }) (Pw (dC, dI) vwCl cy [(vo, .inr (12, [.int voth, .ref vmt, .int votp, .int vosz, .int volm, .int voto, .int vofr, .int vokd, .int vonu, .int vosg, .int vofa, .int vopl, .long vowd, .int votd, .ref vmn, .ref vmr, .ref vmk, .ref vms, .ref vma, .ref vmm, .ref vmrn, .ref vmkn, .ref vmik, .ref vmon, .int vosm, .int vohp, .ref vmw, .ref vmf, .ref vmb, .int vomb, .ref vmd, .ref vmc, .int vocm, .int voct, .int vocy, .ref vmx, .int votx, .int vose, .ref vml, .ref vmwr, .int voln, .int vohw, .ref vmno, .int vond, .int voon, .int vowi, .int votop])), (vmn, .inl (cy 0, 575, .inl vmnf))] sz [.ref vo, .int vn] nE) (Qi (dC, dI) vwCl (fun (r : Int32) (u : (Nat → Int32)) => (NW vnh u)) (O_m_passYears cy vnh vo voth vmt votp vosz volm voto vofr vokd vonu vosg vofa vopl vowd votd vmn vmr vmk vms vma vmm vmrn vmkn vmik vmon vosm vohp vmw vmf vmb vomb vmd vmc vocm voct vocy vmx votx vose vml vmwr voln vohw vmno vond voon vowi votop vmnf vn) (va_A [(vo, .inr (12, [.int voth, .ref vmt, .int votp, .int vosz, .int volm, .int voto, .int vofr, .int vokd, .int vonu, .int vosg, .int vofa, .int vopl, .long vowd, .int votd, .ref vmn, .ref vmr, .ref vmk, .ref vms, .ref vma, .ref vmm, .ref vmrn, .ref vmkn, .ref vmik, .ref vmon, .int vosm, .int vohp, .ref vmw, .ref vmf, .ref vmb, .int vomb, .ref vmd, .ref vmc, .int vocm, .int voct, .int vocy, .ref vmx, .int votx, .int vose, .ref vml, .ref vmwr, .int voln, .int vohw, .ref vmno, .int vond, .int voon, .int vowi, .int votop])), (vmn, .inl (cy 0, 575, .inl vmnf))] sz)) 0 0 (va_A [(vo, .inr (12, [.int voth, .ref vmt, .int votp, .int vosz, .int volm, .int voto, .int vofr, .int vokd, .int vonu, .int vosg, .int vofa, .int vopl, .long vowd, .int votd, .ref vmn, .ref vmr, .ref vmk, .ref vms, .ref vma, .ref vmm, .ref vmrn, .ref vmkn, .ref vmik, .ref vmon, .int vosm, .int vohp, .ref vmw, .ref vmf, .ref vmb, .int vomb, .ref vmd, .ref vmc, .int vocm, .int voct, .int vocy, .ref vmx, .int votx, .int vose, .ref vml, .ref vmwr, .int voln, .int vohw, .ref vmno, .int vond, .int voon, .int vowi, .int votop])), (vmn, .inl (cy 0, 575, .inl vmnf))] sz) := by
  refine mw (Qc := Qi (dC, dI) vwCl (fun (r : Int32) (u : (Nat → Int32)) => (NW vnh u)) (O_m_passYears cy vnh vo voth vmt votp vosz volm voto vofr vokd vonu vosg vofa vopl vowd votd vmn vmr vmk vms vma vmm vmrn vmkn vmik vmon vosm vohp vmw vmf vmb vomb vmd vmc vocm voct vocy vmx votx vose vml vmwr voln vohw vmno vond voon vowi votop vmnf vn)) RX11 rfl (by decide +kernel) (Nat.le_of_ble_eq_true rfl) ?_
  intro p e s m below meth c A hx hb hr hlocks av9 hav hts hown hnm hml hK hP hD hA hS hE hAe Q9 hQ9 ls hl
  have hl : lv_has ls 4 [(0, .ref vo), (1, .int vn)] := hl
  refine lv_iload_n hx hb dX11_passYears_0 rfl (lv_at hl 1 rfl) ?_
  refine lv_sipush (v := 200) hx hb dX11_passYears_1 (by decide) ?_
  refine lv_aload_n hx hb dX11_passYears_4 rfl (lv_at hl 0 rfl) ?_
  refine gf_X11_98 hx hb hts hown hK hP 0 rfl rfl dX11_passYears_5 ?_
  refine lv_sipush (v := 157) hx hb dX11_passYears_8 (by decide) ?_
  have k_157 : (157 : Int32).toInt = 157 := by decide
  have hin_1 : vp_in (157 : Int32) 575 := vp_in_iff.mpr ⟨by omega, by omega⟩
  refine va_iald hx hb hK hP 1 0 rfl rfl hin_1 dX11_passYears_11 ?_
  refine lv_topi (fun z_2 ez_2 => ?_)
  have tz_2 : z_2.toInt = (vmnf 157).toInt := by rw [ez_2]; rfl
  refine lv_isub hx hb dX11_passYears_12 ?_
  refine lv_topi (fun z_3 ez_3 => ?_)
  refine jr_i (rSr (As := [.int vn, .int z_3]) (rest := []) ⟨hx, hb, hml, hown, hts⟩ (m_least l dC dI cy vn z_3 ) (cw_X11_288 hts rfl rfl ⟨Nat.le_of_ble_eq_true rfl, Nat.le_of_ble_eq_true rfl⟩) hP hK [] rfl rfl hl.1 rfl (Nat.le_of_ble_eq_true rfl) dX11_passYears_13 ⟨Nat.le_of_ble_eq_true rfl, Nat.le_of_ble_eq_true rfl⟩) hP hS (fun r_4 H locs hp_5 hP hS => ?_)
  have hp_5 : ((r_4 : Int32).toInt ≤ (vn : Int32).toInt) ∧ ((r_4 : Int32).toInt ≤ (z_3 : Int32).toInt) ∧ (((r_4 : Int32).toInt = (vn : Int32).toInt ∨ (r_4 : Int32).toInt = (z_3 : Int32).toInt)) := hp_5
  obtain ⟨q_6, q_7, q_8⟩ := hp_5
  refine lv_istore_n (lv' := [(2, .int r_4), (0, .ref vo), (1, .int vn)]) hx hb dX11_passYears_16 rfl hl (by decide) rfl (fun ls hl => ?_)
  refine lv_iconst (v := 0) hx hb dX11_passYears_17 (by decide) ?_
  refine lv_istore_n (lv' := [(3, .int 0), (2, .int r_4), (0, .ref vo), (1, .int vn)]) hx hb dX11_passYears_18 rfl hl (by decide) rfl (fun ls hl => ?_)
  have loop9 : ∀ (n9 : Nat) (x_10 : Int32) (g_11 : Nat → Int32), (0 ≤ x_10.toInt ∧ x_10.toInt ≤ 2147483647) → NW vnh g_11 → ((r_4.toInt - x_10.toInt).toNat : Int) < (n9 : Int) → ∀ (H : Heap) (locs : List Loc), va_P (dC, dI) vwCl [(vo, .inr (12, [.int voth, .ref vmt, .int votp, .int vosz, .int volm, .int voto, .int vofr, .int vokd, .int vonu, .int vosg, .int vofa, .int vopl, .long vowd, .int votd, .ref vmn, .ref vmr, .ref vmk, .ref vms, .ref vma, .ref vmm, .ref vmrn, .ref vmkn, .ref vmik, .ref vmon, .int vosm, .int vohp, .ref vmw, .ref vmf, .ref vmb, .int vomb, .ref vmd, .ref vmc, .int vocm, .int voct, .int vocy, .ref vmx, .int votx, .int vose, .ref vml, .ref vmwr, .int voln, .int vohw, .ref vmno, .int vond, .int voon, .int vowi, .int votop])), (vmn, .inl (cy 0, 575, .inl g_11))] H → va_D A [(vo, .inr (12, [.int voth, .ref vmt, .int votp, .int vosz, .int volm, .int voto, .int vofr, .int vokd, .int vonu, .int vosg, .int vofa, .int vopl, .long vowd, .int votd, .ref vmn, .ref vmr, .ref vmk, .ref vms, .ref vma, .ref vmm, .ref vmrn, .ref vmkn, .ref vmik, .ref vmon, .int vosm, .int vohp, .ref vmw, .ref vmf, .ref vmb, .int vomb, .ref vmd, .ref vmc, .int vocm, .int voct, .int vocy, .ref vmx, .int votx, .int vose, .ref vml, .ref vmwr, .int voln, .int vohw, .ref vmno, .int vond, .int voon, .int vowi, .int votop])), (vmn, .inl (cy 0, 575, .inl g_11))] → va_S A s.heap H locs → ∀ ls : Array Slot, lv_has ls 4 [(3, .int x_10), (2, .int r_4), (0, .ref vo), (1, .int vn)] → W p l e ({ frames := 2, cells := 0, slots := 0, locals := 128 }) s m av9 below meth c H locs 0 0 Q9 (F0 m 19 ls []) := by
    intro n9
    induction n9 with
    | zero =>
      intro x_10 g_11 bx_10 p_g_11 hn9 H locs hP hD hS ls hl
      exfalso; omega
    | succ n9 ih9 =>
      intro x_10 g_11 bx_10 p_g_11 hn9 H locs hP hD hS ls hl
      refine lv_iload_n hx hb dX11_passYears_19 rfl (lv_at hl 0 rfl) ?_
      refine lv_iload_n hx hb dX11_passYears_20 rfl (lv_at hl 1 rfl) ?_
      refine lv_icmp_ge (tgt := 34) hx hb dX11_passYears_21 (by decide) (fun c_12 => ?_) (fun c_12 => ?_)
      · skip
        have c_12 : r_4.toInt ≤ x_10.toInt := i_le.mp c_12
        refine lv_iload_n hx hb dX11_passYears_34 rfl (lv_at hl 1 rfl) ?_
        rw [hQ9]
        exact re_i g_11 hx hb hr hlocks (show NW vnh g_11 from p_g_11) (hP.sub [0, 1] rfl) (hD.sub [0, 1] rfl rfl) hS dX11_passYears_35
      · skip
        have c_12 : ¬ (r_4.toInt ≤ x_10.toInt) := fun h9 => c_12 (i_le.mpr h9)
        have wh_13 := i_rng r_4
        refine lv_aload_n hx hb dX11_passYears_24 rfl (lv_at hl 2 rfl) ?_
        refine jn_v (wr := []) (rV (As := []) (rest := []) (ci := 12) ⟨hx, hb, hml, hown, hts⟩ (m_oneYear l dC dI cy _ vnh vo voth vmt votp vosz volm voto vofr vokd vonu vosg vofa vopl vowd votd vmn vmr vmk vms vma vmm vmrn vmkn vmik vmon vosm vohp vmw vmf vmb vomb vmd vmc vocm voct vocy vmx votx vose vml vmwr voln vohw vmno vond voon vowi votop g_11 p_g_11) (cw_X11_291 hts rfl rfl ⟨Nat.le_of_ble_eq_true rfl, Nat.le_of_ble_eq_true rfl⟩) hP hD hK [0, 1] rfl rfl rfl rfl bl0 e0 rfl hl.1 rfl (Nat.le_of_ble_eq_true rfl) dX11_passYears_25 ⟨Nat.le_of_ble_eq_true rfl, Nat.le_of_ble_eq_true rfl⟩) hP hD hS hA [0, 1] [] rfl rfl rfl (by decide) (fun u_16 H locs hp_15 hP hD hS => ?_)
        obtain ⟨vmnf_17, rfl⟩ : ∃ z, z = u_16 := ⟨_, rfl⟩
        have hp_15 : (NW vnh vmnf_17) := hp_15
        have q_18 := hp_15
        have hP : va_P (dC, dI) vwCl [(vo, .inr (12, [.int voth, .ref vmt, .int votp, .int vosz, .int volm, .int voto, .int vofr, .int vokd, .int vonu, .int vosg, .int vofa, .int vopl, .long vowd, .int votd, .ref vmn, .ref vmr, .ref vmk, .ref vms, .ref vma, .ref vmm, .ref vmrn, .ref vmkn, .ref vmik, .ref vmon, .int vosm, .int vohp, .ref vmw, .ref vmf, .ref vmb, .int vomb, .ref vmd, .ref vmc, .int vocm, .int voct, .int vocy, .ref vmx, .int votx, .int vose, .ref vml, .ref vmwr, .int voln, .int vohw, .ref vmno, .int vond, .int voon, .int vowi, .int votop])), (vmn, .inl (cy 0, 575, .inl vmnf_17))] H := hP
        have hD : va_D A [(vo, .inr (12, [.int voth, .ref vmt, .int votp, .int vosz, .int volm, .int voto, .int vofr, .int vokd, .int vonu, .int vosg, .int vofa, .int vopl, .long vowd, .int votd, .ref vmn, .ref vmr, .ref vmk, .ref vms, .ref vma, .ref vmm, .ref vmrn, .ref vmkn, .ref vmik, .ref vmon, .int vosm, .int vohp, .ref vmw, .ref vmf, .ref vmb, .int vomb, .ref vmd, .ref vmc, .int vocm, .int voct, .int vocy, .ref vmx, .int votx, .int vose, .ref vml, .ref vmwr, .int voln, .int vohw, .ref vmno, .int vond, .int voon, .int vowi, .int votop])), (vmn, .inl (cy 0, 575, .inl vmnf_17))] := hD
        obtain ⟨z_19, ez_19⟩ : ∃ z : Int32, z = x_10 + 1 := ⟨_, rfl⟩
        have k_1 : (1 : Int32).toInt = 1 := by decide
        have bz_19 : z_19.toInt = x_10.toInt + (1 : Int32).toInt := i_add ez_19 (by omega) (by omega)
        refine lv_iinc (v := z_19) (lv' := [(3, .int z_19), (2, .int r_4), (0, .ref vo), (1, .int vn)]) hx hb dX11_passYears_28 hl (k := 0) rfl ez_19.symm (by decide) rfl (fun ls hl => ?_)
        refine lv_goto (tgt := 19) hx hb dX11_passYears_31 (by decide) ?_
        have wh_20 := i_rng z_19
        exact ih9 z_19 vmnf_17 ⟨by omega, by omega⟩ q_18 (by omega) _ _ (hP.sub [0, 1] rfl) (hD.sub [0, 1] rfl rfl) hS ls (lv_sub hl [0, 1, 2, 3] rfl)
  have k_0 : (0 : Int32).toInt = 0 := by decide
  exact loop9 ((((r_4.toInt - (0 : Int32).toInt).toNat : Int)).toNat + 1) 0 vmnf ⟨by omega, by omega⟩ p_vmnf (by omega) _ _ hP hD hS ls (lv_sub hl [0, 1, 2, 3] rfl)
abbrev cX11_years : ByteArray := prog_13_method_77_code
def yX11_years : MethodName := ⟨RX11, "years", "(I)I"⟩
theorem t1838 : Cond.code yX11_years cX11_years 2 (some .int) ∈ GW := gw_mem 1952 (by decide +kernel) (by decide +kernel)
abbrev O_m_years (cy : Nat → ClassId) (vnh : Nat → Int32) (vo : Nat) (voth : Int32) (vmt : Nat) (votp : Int32) (vosz : Int32) (volm : Int32) (voto : Int32) (vofr : Int32) (vokd : Int32) (vonu : Int32) (vosg : Int32) (vofa : Int32) (vopl : Int32) (vowd : Int64) (votd : Int32) (vmn : Nat) (vmr : Nat) (vmk : Nat) (vms : Nat) (vma : Nat) (vmm : Nat) (vmrn : Nat) (vmkn : Nat) (vmik : Nat) (vmon : Nat) (vosm : Int32) (vohp : Int32) (vmw : Nat) (vmf : Nat) (vmb : Nat) (vomb : Int32) (vmd : Nat) (vmc : Nat) (vocm : Int32) (voct : Int32) (vocy : Int32) (vmx : Nat) (votx : Int32) (vose : Int32) (vml : Nat) (vmwr : Nat) (voln : Int32) (vohw : Int32) (vmno : Nat) (vond : Int32) (voon : Int32) (vowi : Int32) (votop : Int32) (vmnf : Nat → Int32) (vmsf : Nat → Int32) (vn : Int32) (u : Int32 × (Nat → Int32) × (Nat → Int32) × Int32) : va_W := [(vo, .inr (12, [.int u.1, .ref vmt, .int votp, .int vosz, .int volm, .int voto, .int vofr, .int vokd, .int vonu, .int vosg, .int vofa, .int vopl, .long vowd, .int votd, .ref vmn, .ref vmr, .ref vmk, .ref vms, .ref vma, .ref vmm, .ref vmrn, .ref vmkn, .ref vmik, .ref vmon, .int u.2.2.2, .int vohp, .ref vmw, .ref vmf, .ref vmb, .int vomb, .ref vmd, .ref vmc, .int vocm, .int voct, .int vocy, .ref vmx, .int votx, .int vose, .ref vml, .ref vmwr, .int voln, .int vohw, .ref vmno, .int vond, .int voon, .int vowi, .int votop])), (vmn, .inl (cy 0, 575, .inl u.2.1)), (vms, .inl (cy 0, 1408, .inl u.2.2.1))]
theorem dX11_years_0 : decode cX11_years 0 = .ok (.aload_n 0, 1) := by decide +kernel
theorem dX11_years_1 : decode cX11_years 1 = .ok (.iconst 0, 1) := by decide +kernel
theorem dX11_years_2 : decode cX11_years 2 = .ok (.putfield 1, 3) := by decide +kernel
theorem dX11_years_5 : decode cX11_years 5 = .ok (.iload_n 1, 1) := by decide +kernel
theorem dX11_years_6 : decode cX11_years 6 = .ok (.iconst 1, 1) := by decide +kernel
theorem dX11_years_7 : decode cX11_years 7 = .ok (.bipush 30, 2) := by decide +kernel
theorem dX11_years_9 : decode cX11_years 9 = .ok (.invokestatic 75, 3) := by decide +kernel
theorem dX11_years_12 : decode cX11_years 12 = .ok (.ifCond .ne 5, 3) := by decide +kernel
theorem dX11_years_15 : decode cX11_years 15 = .ok (.iconst (-1), 1) := by decide +kernel
theorem dX11_years_16 : decode cX11_years 16 = .ok (.ireturn, 1) := by decide +kernel
theorem dX11_years_17 : decode cX11_years 17 = .ok (.aload_n 0, 1) := by decide +kernel
theorem dX11_years_18 : decode cX11_years 18 = .ok (.getfield 98, 3) := by decide +kernel
theorem dX11_years_21 : decode cX11_years 21 = .ok (.sipush 157, 3) := by decide +kernel
theorem dX11_years_24 : decode cX11_years 24 = .ok (.iaload, 1) := by decide +kernel
theorem dX11_years_25 : decode cX11_years 25 = .ok (.sipush 200, 3) := by decide +kernel
theorem dX11_years_28 : decode cX11_years 28 = .ok (.if_icmp .ne 5, 3) := by decide +kernel
theorem dX11_years_33 : decode cX11_years 33 = .ok (.aload_n 0, 1) := by decide +kernel
theorem dX11_years_34 : decode cX11_years 34 = .ok (.invokevirtual 278, 3) := by decide +kernel
theorem dX11_years_37 : decode cX11_years 37 = .ok (.aload_n 0, 1) := by decide +kernel
theorem dX11_years_38 : decode cX11_years 38 = .ok (.iload_n 1, 1) := by decide +kernel
theorem dX11_years_39 : decode cX11_years 39 = .ok (.invokevirtual 294, 3) := by decide +kernel
theorem t1839 : Cond.methodLink RX11 294 yX11_passYears ∈ GW := gw_mem 1953 (by decide +kernel) (by decide +kernel)
theorem t1841 : Cond.instanceMethod yX11_passYears ∈ GW := gw_mem 1955 (by decide +kernel) (by decide +kernel)
theorem s81 : Cond.selects RX11 yX11_passYears yX11_passYears ∈ GW := gw_mem 81 (by decide +kernel) (by decide +kernel)
theorem cw_X11_294 {R : Room} {s : State} {args : Array Value} {rm : Room} {mc ms : Nat} (hts : ∀ w ∈ GW, w.before args s = true) (hrc : rm.cells = mc) (hrs : rm.slots = ms) (hR : rm.frames + 1 ≤ R.frames ∧ 8 + (4 + 11) + rm.locals ≤ R.locals) : CallW R s args RX11 RX11 294 yX11_passYears cX11_passYears 4 (some .int) (wl yX11_passYears cX11_passYears 4 (some .int)) rm mc ms 1 := cwV 1 hts (gi_V t1839 t1841 s81 t18 t1842) rfl hrc hrs (by decide +kernel) hR
theorem dX11_years_42 : decode cX11_years 42 = .ok (.ireturn, 1) := by decide +kernel
theorem dX11_years_31 : decode cX11_years 31 = .ok (.iconst 0, 1) := by decide +kernel
theorem dX11_years_32 : decode cX11_years 32 = .ok (.ireturn, 1) := by decide +kernel
set_option maxHeartbeats 4000000 in
set_option maxRecDepth 100000 in
theorem m_years (l : Launch) (dC : Nat → ClassId) (dI : Nat → Nat → Nat) (cy : Nat → ClassId) (sz : Nat) (vnh : Nat → Int32) (vo : Nat) (voth : Int32) (vmt : Nat) (votp : Int32) (vosz : Int32) (volm : Int32) (voto : Int32) (vofr : Int32) (vokd : Int32) (vonu : Int32) (vosg : Int32) (vofa : Int32) (vopl : Int32) (vowd : Int64) (votd : Int32) (vmn : Nat) (vmr : Nat) (vmk : Nat) (vms : Nat) (vma : Nat) (vmm : Nat) (vmrn : Nat) (vmkn : Nat) (vmik : Nat) (vmon : Nat) (vosm : Int32) (vohp : Int32) (vmw : Nat) (vmf : Nat) (vmb : Nat) (vomb : Int32) (vmd : Nat) (vmc : Nat) (vocm : Int32) (voct : Int32) (vocy : Int32) (vmx : Nat) (votx : Int32) (vose : Int32) (vml : Nat) (vmwr : Nat) (voln : Int32) (vohw : Int32) (vmno : Nat) (vond : Int32) (voon : Int32) (vowi : Int32) (votop : Int32) (vmnf : Nat → Int32) (vmsf : Nat → Int32) (vn : Int32) (r_vosm : 0 ≤ (vosm : Int32).toInt ∧ (vosm : Int32).toInt ≤ 8) (p_vmnf : NW vnh vmnf) : Met l yX11_years (wl yX11_years cX11_years 2 (some .int)) ({ frames := 3, cells := 0, slots := 0, locals := 192 }) (Pw (dC, dI) vwCl cy [(vo, .inr (12, [.int voth, .ref vmt, .int votp, .int vosz, .int volm, .int voto, .int vofr, .int vokd, .int vonu, .int vosg, .int vofa, .int vopl, .long vowd, .int votd, .ref vmn, .ref vmr, .ref vmk, .ref vms, .ref vma, .ref vmm, .ref vmrn, .ref vmkn, .ref vmik, .ref vmon, .int vosm, .int vohp, .ref vmw, .ref vmf, .ref vmb, .int vomb, .ref vmd, .ref vmc, .int vocm, .int voct, .int vocy, .ref vmx, .int votx, .int vose, .ref vml, .ref vmwr, .int voln, .int vohw, .ref vmno, .int vond, .int voon, .int vowi, .int votop])), (vmn, .inl (cy 0, 575, .inl vmnf)), (vms, .inl (cy 0, 1408, .inl vmsf))] sz [.ref vo, .int vn] nE) (Qi (dC, dI) vwCl (fun (r : Int32) (u : Int32 × (Nat → Int32) × (Nat → Int32) × Int32) => (NW vnh u.2.1) ∧ (0 ≤ (u.2.2.2 : Int32).toInt ∧ (u.2.2.2 : Int32).toInt ≤ 8)) (O_m_years cy vnh vo voth vmt votp vosz volm voto vofr vokd vonu vosg vofa vopl vowd votd vmn vmr vmk vms vma vmm vmrn vmkn vmik vmon vosm vohp vmw vmf vmb vomb vmd vmc vocm voct vocy vmx votx vose vml vmwr voln vohw vmno vond voon vowi votop vmnf vmsf vn) (va_A [(vo, .inr (12, [.int voth, .ref vmt, .int votp, .int vosz, .int volm, .int voto, .int vofr, .int vokd, .int vonu, .int vosg, .int vofa, .int vopl, .long vowd, .int votd, .ref vmn, .ref vmr, .ref vmk, .ref vms, .ref vma, .ref vmm, .ref vmrn, .ref vmkn, .ref vmik, .ref vmon, .int vosm, .int vohp, .ref vmw, .ref vmf, .ref vmb, .int vomb, .ref vmd, .ref vmc, .int vocm, .int voct, .int vocy, .ref vmx, .int votx, .int vose, .ref vml, .ref vmwr, .int voln, .int vohw, .ref vmno, .int vond, .int voon, .int vowi, .int votop])), (vmn, .inl (cy 0, 575, .inl vmnf)), (vms, .inl (cy 0, 1408, .inl vmsf))] sz)) 0 0 (va_A [(vo, .inr (12, [.int voth, .ref vmt, .int votp, .int vosz, .int volm, .int voto, .int vofr, .int vokd, .int vonu, .int vosg, .int vofa, .int vopl, .long vowd, .int votd, .ref vmn, .ref vmr, .ref vmk, .ref vms, .ref vma, .ref vmm, .ref vmrn, .ref vmkn, .ref vmik, .ref vmon, .int vosm, .int vohp, .ref vmw, .ref vmf, .ref vmb, .int vomb, .ref vmd, .ref vmc, .int vocm, .int voct, .int vocy, .ref vmx, .int votx, .int vose, .ref vml, .ref vmwr, .int voln, .int vohw, .ref vmno, .int vond, .int voon, .int vowi, .int votop])), (vmn, .inl (cy 0, 575, .inl vmnf)), (vms, .inl (cy 0, 1408, .inl vmsf))] sz) := by
  refine mw (Qc := Qi (dC, dI) vwCl (fun (r : Int32) (u : Int32 × (Nat → Int32) × (Nat → Int32) × Int32) => (NW vnh u.2.1) ∧ (0 ≤ (u.2.2.2 : Int32).toInt ∧ (u.2.2.2 : Int32).toInt ≤ 8)) (O_m_years cy vnh vo voth vmt votp vosz volm voto vofr vokd vonu vosg vofa vopl vowd votd vmn vmr vmk vms vma vmm vmrn vmkn vmik vmon vosm vohp vmw vmf vmb vomb vmd vmc vocm voct vocy vmx votx vose vml vmwr voln vohw vmno vond voon vowi votop vmnf vmsf vn)) RX11 rfl (by decide +kernel) (Nat.le_of_ble_eq_true rfl) ?_
  intro p e s m below meth c A hx hb hr hlocks av9 hav hts hown hnm hml hK hP hD hA hS hE hAe Q9 hQ9 ls hl
  have hl : lv_has ls 2 [(0, .ref vo), (1, .int vn)] := hl
  refine lv_aload_n hx hb dX11_years_0 rfl (lv_at hl 0 rfl) ?_
  refine lv_iconst (v := 0) hx hb dX11_years_1 (by decide) ?_
  refine pf_X11_1 hx hb hts hown hK hP hD hS 0 rfl rfl rfl (Nat.le_of_ble_eq_true rfl) dX11_years_2 (fun H locs hP hD hS => ?_)
  have hP : va_P (dC, dI) vwCl [(vo, .inr (12, [.int 0, .ref vmt, .int votp, .int vosz, .int volm, .int voto, .int vofr, .int vokd, .int vonu, .int vosg, .int vofa, .int vopl, .long vowd, .int votd, .ref vmn, .ref vmr, .ref vmk, .ref vms, .ref vma, .ref vmm, .ref vmrn, .ref vmkn, .ref vmik, .ref vmon, .int vosm, .int vohp, .ref vmw, .ref vmf, .ref vmb, .int vomb, .ref vmd, .ref vmc, .int vocm, .int voct, .int vocy, .ref vmx, .int votx, .int vose, .ref vml, .ref vmwr, .int voln, .int vohw, .ref vmno, .int vond, .int voon, .int vowi, .int votop])), (vmn, .inl (cy 0, 575, .inl vmnf)), (vms, .inl (cy 0, 1408, .inl vmsf))] H := hP
  have hD : va_D A [(vo, .inr (12, [.int 0, .ref vmt, .int votp, .int vosz, .int volm, .int voto, .int vofr, .int vokd, .int vonu, .int vosg, .int vofa, .int vopl, .long vowd, .int votd, .ref vmn, .ref vmr, .ref vmk, .ref vms, .ref vma, .ref vmm, .ref vmrn, .ref vmkn, .ref vmik, .ref vmon, .int vosm, .int vohp, .ref vmw, .ref vmf, .ref vmb, .int vomb, .ref vmd, .ref vmc, .int vocm, .int voct, .int vocy, .ref vmx, .int votx, .int vose, .ref vml, .ref vmwr, .int voln, .int vohw, .ref vmno, .int vond, .int voon, .int vowi, .int votop])), (vmn, .inl (cy 0, 575, .inl vmnf)), (vms, .inl (cy 0, 1408, .inl vmsf))] := hD
  refine lv_iload_n hx hb dX11_years_5 rfl (lv_at hl 1 rfl) ?_
  refine lv_iconst (v := 1) hx hb dX11_years_6 (by decide) ?_
  refine lv_bipush (v := 30) hx hb dX11_years_7 (by decide) ?_
  have k_1 : (1 : Int32).toInt = 1 := by decide
  have k_30 : (30 : Int32).toInt = 30 := by decide
  refine jr_i (rSr (As := [.int vn, .int 1, .int 30]) (rest := []) ⟨hx, hb, hml, hown, hts⟩ (m_isIn l dC dI cy vn 1 30 ) (cw_X11_75 hts rfl rfl ⟨Nat.le_of_ble_eq_true rfl, Nat.le_of_ble_eq_true rfl⟩) hP hK [] rfl rfl hl.1 rfl (Nat.le_of_ble_eq_true rfl) dX11_years_9 ⟨Nat.le_of_ble_eq_true rfl, Nat.le_of_ble_eq_true rfl⟩) hP hS (fun r_1 H locs hp_2 hP hS => ?_)
  have hp_2 : ((r_1 = 0 ∧ ((vn : Int32).toInt < (1 : Int32).toInt ∨ (30 : Int32).toInt < (vn : Int32).toInt)) ∨ (r_1 = 1 ∧ (1 : Int32).toInt ≤ (vn : Int32).toInt ∧ (vn : Int32).toInt ≤ (30 : Int32).toInt)) := hp_2
  have q_3 := hp_2
  rcases q_3 with ⟨aq_3, f0q_3⟩ | ⟨aq_3, f0q_3, f1q_3⟩
  · skip
    refine as_i 0 aq_3 ?_
    refine lv_if_ne (tgt := 17) hx hb dX11_years_12 (by decide) (fun c9 => absurd c9 (by decide)) (fun _ => ?_)
    refine lv_iconst (v := (-1)) hx hb dX11_years_15 (by decide) ?_
    have k_0 : (0 : Int32).toInt = 0 := by decide
    have k_m1 : ((-1) : Int32).toInt = (-1) := by decide
    rw [hQ9]
    exact re_i ((0 : Int32), vmnf, vmsf, vosm) hx hb hr hlocks ⟨(show NW vnh vmnf from p_vmnf), (show 0 ≤ (vosm : Int32).toInt ∧ (vosm : Int32).toInt ≤ 8 from ⟨by omega, by omega⟩)⟩ (hP.sub [0, 1, 2] rfl) (hD.sub [0, 1, 2] rfl rfl) hS dX11_years_16
  · skip
    refine as_i 1 aq_3 ?_
    refine lv_if_ne (tgt := 17) hx hb dX11_years_12 (by decide) (fun _ => ?_) (fun c9 => absurd c9 (by decide))
    refine lv_aload_n hx hb dX11_years_17 rfl (lv_at hl 0 rfl) ?_
    refine gf_X11_98 hx hb hts hown hK hP 0 rfl rfl dX11_years_18 ?_
    refine lv_sipush (v := 157) hx hb dX11_years_21 (by decide) ?_
    have k_157 : (157 : Int32).toInt = 157 := by decide
    have hin_4 : vp_in (157 : Int32) 575 := vp_in_iff.mpr ⟨by omega, by omega⟩
    refine va_iald hx hb hK hP 1 0 rfl rfl hin_4 dX11_years_24 ?_
    refine lv_topi (fun z_5 ez_5 => ?_)
    have tz_5 : z_5.toInt = (vmnf 157).toInt := by rw [ez_5]; rfl
    refine lv_sipush (v := 200) hx hb dX11_years_25 (by decide) ?_
    have k_200 : (200 : Int32).toInt = 200 := by decide
    refine lv_icmp_ne (tgt := 33) hx hb dX11_years_28 (by decide) (fun c_6 => ?_) (fun c_6 => ?_)
    · skip
      have c_6 : ¬ (z_5.toInt = (200 : Int32).toInt) := fun h9 => c_6 (i_eq.mpr h9)
      refine lv_aload_n hx hb dX11_years_33 rfl (lv_at hl 0 rfl) ?_
      have k_0 : (0 : Int32).toInt = 0 := by decide
      refine jn_v (wr := []) (rV (As := []) (rest := []) (ci := 12) ⟨hx, hb, hml, hown, hts⟩ (m_snap l dC dI cy _ vnh vo 0 vmt votp vosz volm voto vofr vokd vonu vosg vofa vopl vowd votd vmn vmr vmk vms vma vmm vmrn vmkn vmik vmon vosm vohp vmw vmf vmb vomb vmd vmc vocm voct vocy vmx votx vose vml vmwr voln vohw vmno vond voon vowi votop vmnf vmsf r_vosm p_vmnf) (cw_X11_278 hts rfl rfl ⟨Nat.le_of_ble_eq_true rfl, Nat.le_of_ble_eq_true rfl⟩) hP hD hK [0, 1, 2] rfl rfl rfl rfl bl0 e0 rfl hl.1 rfl (Nat.le_of_ble_eq_true rfl) dX11_years_34 ⟨Nat.le_of_ble_eq_true rfl, Nat.le_of_ble_eq_true rfl⟩) hP hD hS hA [0, 1, 2] [] rfl rfl rfl (by decide) (fun u_9 H locs hp_8 hP hD hS => ?_)
      obtain ⟨vmsf_10, vosm_11⟩ := u_9
      have hp_8 : (0 ≤ (vosm_11 : Int32).toInt ∧ (vosm_11 : Int32).toInt ≤ 8) := hp_8
      have q_12 := hp_8
      have hP : va_P (dC, dI) vwCl [(vo, .inr (12, [.int 0, .ref vmt, .int votp, .int vosz, .int volm, .int voto, .int vofr, .int vokd, .int vonu, .int vosg, .int vofa, .int vopl, .long vowd, .int votd, .ref vmn, .ref vmr, .ref vmk, .ref vms, .ref vma, .ref vmm, .ref vmrn, .ref vmkn, .ref vmik, .ref vmon, .int vosm_11, .int vohp, .ref vmw, .ref vmf, .ref vmb, .int vomb, .ref vmd, .ref vmc, .int vocm, .int voct, .int vocy, .ref vmx, .int votx, .int vose, .ref vml, .ref vmwr, .int voln, .int vohw, .ref vmno, .int vond, .int voon, .int vowi, .int votop])), (vmn, .inl (cy 0, 575, .inl vmnf)), (vms, .inl (cy 0, 1408, .inl vmsf_10))] H := hP
      have hD : va_D A [(vo, .inr (12, [.int 0, .ref vmt, .int votp, .int vosz, .int volm, .int voto, .int vofr, .int vokd, .int vonu, .int vosg, .int vofa, .int vopl, .long vowd, .int votd, .ref vmn, .ref vmr, .ref vmk, .ref vms, .ref vma, .ref vmm, .ref vmrn, .ref vmkn, .ref vmik, .ref vmon, .int vosm_11, .int vohp, .ref vmw, .ref vmf, .ref vmb, .int vomb, .ref vmd, .ref vmc, .int vocm, .int voct, .int vocy, .ref vmx, .int votx, .int vose, .ref vml, .ref vmwr, .int voln, .int vohw, .ref vmno, .int vond, .int voon, .int vowi, .int votop])), (vmn, .inl (cy 0, 575, .inl vmnf)), (vms, .inl (cy 0, 1408, .inl vmsf_10))] := hD
      refine lv_aload_n hx hb dX11_years_37 rfl (lv_at hl 0 rfl) ?_
      refine lv_iload_n hx hb dX11_years_38 rfl (lv_at hl 1 rfl) ?_
      refine jn_i (wr := [(vms, .inl (cy 0, 1408, .inl vmsf_10))]) (rV (As := [.int vn]) (rest := []) (ci := 12) ⟨hx, hb, hml, hown, hts⟩ (m_passYears l dC dI cy _ vnh vo 0 vmt votp vosz volm voto vofr vokd vonu vosg vofa vopl vowd votd vmn vmr vmk vms vma vmm vmrn vmkn vmik vmon vosm_11 vohp vmw vmf vmb vomb vmd vmc vocm voct vocy vmx votx vose vml vmwr voln vohw vmno vond voon vowi votop vmnf vn p_vmnf) (cw_X11_294 hts rfl rfl ⟨Nat.le_of_ble_eq_true rfl, Nat.le_of_ble_eq_true rfl⟩) hP hD hK [0, 1] rfl rfl rfl rfl bl0 e0 rfl hl.1 rfl (Nat.le_of_ble_eq_true rfl) dX11_years_39 ⟨Nat.le_of_ble_eq_true rfl, Nat.le_of_ble_eq_true rfl⟩) hP hD hS hA [0, 1] [2] rfl rfl rfl (by decide) (fun r_13 u_15 H locs hp_14 hP hD hS => ?_)
      obtain ⟨vmnf_16, rfl⟩ : ∃ z, z = u_15 := ⟨_, rfl⟩
      have hp_14 : (NW vnh vmnf_16) := hp_14
      have q_17 := hp_14
      have hP : va_P (dC, dI) vwCl [(vms, .inl (cy 0, 1408, .inl vmsf_10)), (vo, .inr (12, [.int 0, .ref vmt, .int votp, .int vosz, .int volm, .int voto, .int vofr, .int vokd, .int vonu, .int vosg, .int vofa, .int vopl, .long vowd, .int votd, .ref vmn, .ref vmr, .ref vmk, .ref vms, .ref vma, .ref vmm, .ref vmrn, .ref vmkn, .ref vmik, .ref vmon, .int vosm_11, .int vohp, .ref vmw, .ref vmf, .ref vmb, .int vomb, .ref vmd, .ref vmc, .int vocm, .int voct, .int vocy, .ref vmx, .int votx, .int vose, .ref vml, .ref vmwr, .int voln, .int vohw, .ref vmno, .int vond, .int voon, .int vowi, .int votop])), (vmn, .inl (cy 0, 575, .inl vmnf_16))] H := hP
      have hD : va_D A [(vms, .inl (cy 0, 1408, .inl vmsf_10)), (vo, .inr (12, [.int 0, .ref vmt, .int votp, .int vosz, .int volm, .int voto, .int vofr, .int vokd, .int vonu, .int vosg, .int vofa, .int vopl, .long vowd, .int votd, .ref vmn, .ref vmr, .ref vmk, .ref vms, .ref vma, .ref vmm, .ref vmrn, .ref vmkn, .ref vmik, .ref vmon, .int vosm_11, .int vohp, .ref vmw, .ref vmf, .ref vmb, .int vomb, .ref vmd, .ref vmc, .int vocm, .int voct, .int vocy, .ref vmx, .int votx, .int vose, .ref vml, .ref vmwr, .int voln, .int vohw, .ref vmno, .int vond, .int voon, .int vowi, .int votop])), (vmn, .inl (cy 0, 575, .inl vmnf_16))] := hD
      rw [hQ9]
      exact re_i ((0 : Int32), vmnf_16, vmsf_10, vosm_11) hx hb hr hlocks ⟨(show NW vnh vmnf_16 from q_17), (show 0 ≤ (vosm_11 : Int32).toInt ∧ (vosm_11 : Int32).toInt ≤ 8 from ⟨by omega, by omega⟩)⟩ (hP.sub [1, 2, 0] rfl) (hD.sub [1, 2, 0] rfl rfl) hS dX11_years_42
    · skip
      have c_6 : z_5.toInt = (200 : Int32).toInt := i_eq.mp c_6
      refine lv_iconst (v := 0) hx hb dX11_years_31 (by decide) ?_
      have k_0 : (0 : Int32).toInt = 0 := by decide
      rw [hQ9]
      exact re_i ((0 : Int32), vmnf, vmsf, vosm) hx hb hr hlocks ⟨(show NW vnh vmnf from p_vmnf), (show 0 ≤ (vosm : Int32).toInt ∧ (vosm : Int32).toInt ≤ 8 from ⟨by omega, by omega⟩)⟩ (hP.sub [0, 1, 2] rfl) (hD.sub [0, 1, 2] rfl rfl) hS dX11_years_32
abbrev cX11_undo : ByteArray := prog_13_method_78_code
def yX11_undo : MethodName := ⟨RX11, "undo", "()I"⟩
theorem t1853 : Cond.code yX11_undo cX11_undo 2 (some .int) ∈ GW := gw_mem 1967 (by decide +kernel) (by decide +kernel)
abbrev O_m_undo (cy : Nat → ClassId) (vnh : Nat → Int32) (vo : Nat) (voth : Int32) (vmt : Nat) (votp : Int32) (vosz : Int32) (volm : Int32) (voto : Int32) (vofr : Int32) (vokd : Int32) (vonu : Int32) (vosg : Int32) (vofa : Int32) (vopl : Int32) (vowd : Int64) (votd : Int32) (vmn : Nat) (vmr : Nat) (vmk : Nat) (vms : Nat) (vma : Nat) (vmm : Nat) (vmrn : Nat) (vmkn : Nat) (vmik : Nat) (vmon : Nat) (vosm : Int32) (vohp : Int32) (vmw : Nat) (vmf : Nat) (vmb : Nat) (vomb : Int32) (vmd : Nat) (vmc : Nat) (vocm : Int32) (voct : Int32) (vocy : Int32) (vmx : Nat) (votx : Int32) (vose : Int32) (vml : Nat) (vmwr : Nat) (voln : Int32) (vohw : Int32) (vmno : Nat) (vond : Int32) (voon : Int32) (vowi : Int32) (votop : Int32) (vmnf : Nat → Int32) (vmsf : Nat → Int32) (u : Int32 × (Nat → Int32) × Int32) : va_W := [(vo, .inr (12, [.int u.1, .ref vmt, .int votp, .int vosz, .int volm, .int voto, .int vofr, .int vokd, .int vonu, .int vosg, .int vofa, .int vopl, .long vowd, .int votd, .ref vmn, .ref vmr, .ref vmk, .ref vms, .ref vma, .ref vmm, .ref vmrn, .ref vmkn, .ref vmik, .ref vmon, .int u.2.2, .int vohp, .ref vmw, .ref vmf, .ref vmb, .int vomb, .ref vmd, .ref vmc, .int vocm, .int voct, .int vocy, .ref vmx, .int votx, .int vose, .ref vml, .ref vmwr, .int voln, .int vohw, .ref vmno, .int vond, .int voon, .int vowi, .int votop])), (vmn, .inl (cy 0, 575, .inl u.2.1)), (vms, .inl (cy 0, 1408, .inl vmsf))]
theorem dX11_undo_0 : decode cX11_undo 0 = .ok (.aload_n 0, 1) := by decide +kernel
theorem dX11_undo_1 : decode cX11_undo 1 = .ok (.iconst 0, 1) := by decide +kernel
theorem dX11_undo_2 : decode cX11_undo 2 = .ok (.putfield 1, 3) := by decide +kernel
theorem dX11_undo_5 : decode cX11_undo 5 = .ok (.aload_n 0, 1) := by decide +kernel
theorem dX11_undo_6 : decode cX11_undo 6 = .ok (.getfield 225, 3) := by decide +kernel
theorem dX11_undo_9 : decode cX11_undo 9 = .ok (.ifCond .ne 5, 3) := by decide +kernel
theorem dX11_undo_14 : decode cX11_undo 14 = .ok (.aload_n 0, 1) := by decide +kernel
theorem dX11_undo_15 : decode cX11_undo 15 = .ok (.dup, 1) := by decide +kernel
theorem dX11_undo_16 : decode cX11_undo 16 = .ok (.getfield 225, 3) := by decide +kernel
theorem dX11_undo_19 : decode cX11_undo 19 = .ok (.iconst 1, 1) := by decide +kernel
theorem dX11_undo_20 : decode cX11_undo 20 = .ok (.isub, 1) := by decide +kernel
theorem dX11_undo_21 : decode cX11_undo 21 = .ok (.putfield 225, 3) := by decide +kernel
theorem dX11_undo_24 : decode cX11_undo 24 = .ok (.iconst 0, 1) := by decide +kernel
theorem dX11_undo_25 : decode cX11_undo 25 = .ok (.istore_n 1, 1) := by decide +kernel
theorem dX11_undo_26 : decode cX11_undo 26 = .ok (.iload_n 1, 1) := by decide +kernel
theorem dX11_undo_27 : decode cX11_undo 27 = .ok (.sipush 176, 3) := by decide +kernel
theorem dX11_undo_30 : decode cX11_undo 30 = .ok (.if_icmp .ge 34, 3) := by decide +kernel
theorem dX11_undo_64 : decode cX11_undo 64 = .ok (.aload_n 0, 1) := by decide +kernel
theorem dX11_undo_65 : decode cX11_undo 65 = .ok (.getfield 225, 3) := by decide +kernel
theorem dX11_undo_68 : decode cX11_undo 68 = .ok (.ireturn, 1) := by decide +kernel
theorem dX11_undo_33 : decode cX11_undo 33 = .ok (.aload_n 0, 1) := by decide +kernel
theorem dX11_undo_34 : decode cX11_undo 34 = .ok (.getfield 98, 3) := by decide +kernel
theorem dX11_undo_37 : decode cX11_undo 37 = .ok (.sipush 157, 3) := by decide +kernel
theorem dX11_undo_40 : decode cX11_undo 40 = .ok (.iload_n 1, 1) := by decide +kernel
theorem dX11_undo_41 : decode cX11_undo 41 = .ok (.iadd, 1) := by decide +kernel
theorem dX11_undo_42 : decode cX11_undo 42 = .ok (.aload_n 0, 1) := by decide +kernel
theorem dX11_undo_43 : decode cX11_undo 43 = .ok (.getfield 107, 3) := by decide +kernel
theorem dX11_undo_46 : decode cX11_undo 46 = .ok (.sipush 176, 3) := by decide +kernel
theorem dX11_undo_49 : decode cX11_undo 49 = .ok (.aload_n 0, 1) := by decide +kernel
theorem dX11_undo_50 : decode cX11_undo 50 = .ok (.getfield 225, 3) := by decide +kernel
theorem dX11_undo_53 : decode cX11_undo 53 = .ok (.imul, 1) := by decide +kernel
theorem dX11_undo_54 : decode cX11_undo 54 = .ok (.iload_n 1, 1) := by decide +kernel
theorem dX11_undo_55 : decode cX11_undo 55 = .ok (.iadd, 1) := by decide +kernel
theorem dX11_undo_56 : decode cX11_undo 56 = .ok (.iaload, 1) := by decide +kernel
theorem dX11_undo_57 : decode cX11_undo 57 = .ok (.iastore, 1) := by decide +kernel
theorem dX11_undo_58 : decode cX11_undo 58 = .ok (.iinc 1 1, 3) := by decide +kernel
theorem dX11_undo_61 : decode cX11_undo 61 = .ok (.goto (-35), 3) := by decide +kernel
theorem dX11_undo_12 : decode cX11_undo 12 = .ok (.iconst (-1), 1) := by decide +kernel
theorem dX11_undo_13 : decode cX11_undo 13 = .ok (.ireturn, 1) := by decide +kernel
set_option maxHeartbeats 4000000 in
set_option maxRecDepth 100000 in
theorem m_undo (l : Launch) (dC : Nat → ClassId) (dI : Nat → Nat → Nat) (cy : Nat → ClassId) (sz : Nat) (vnh : Nat → Int32) (vo : Nat) (voth : Int32) (vmt : Nat) (votp : Int32) (vosz : Int32) (volm : Int32) (voto : Int32) (vofr : Int32) (vokd : Int32) (vonu : Int32) (vosg : Int32) (vofa : Int32) (vopl : Int32) (vowd : Int64) (votd : Int32) (vmn : Nat) (vmr : Nat) (vmk : Nat) (vms : Nat) (vma : Nat) (vmm : Nat) (vmrn : Nat) (vmkn : Nat) (vmik : Nat) (vmon : Nat) (vosm : Int32) (vohp : Int32) (vmw : Nat) (vmf : Nat) (vmb : Nat) (vomb : Int32) (vmd : Nat) (vmc : Nat) (vocm : Int32) (voct : Int32) (vocy : Int32) (vmx : Nat) (votx : Int32) (vose : Int32) (vml : Nat) (vmwr : Nat) (voln : Int32) (vohw : Int32) (vmno : Nat) (vond : Int32) (voon : Int32) (vowi : Int32) (votop : Int32) (vmnf : Nat → Int32) (vmsf : Nat → Int32) (r_vosm : 0 ≤ (vosm : Int32).toInt ∧ (vosm : Int32).toInt ≤ 8) (p_vmnf : NW vnh vmnf) : Met l yX11_undo (wl yX11_undo cX11_undo 2 (some .int)) ({ frames := 0, cells := 0, slots := 0, locals := 0 }) (Pw (dC, dI) vwCl cy [(vo, .inr (12, [.int voth, .ref vmt, .int votp, .int vosz, .int volm, .int voto, .int vofr, .int vokd, .int vonu, .int vosg, .int vofa, .int vopl, .long vowd, .int votd, .ref vmn, .ref vmr, .ref vmk, .ref vms, .ref vma, .ref vmm, .ref vmrn, .ref vmkn, .ref vmik, .ref vmon, .int vosm, .int vohp, .ref vmw, .ref vmf, .ref vmb, .int vomb, .ref vmd, .ref vmc, .int vocm, .int voct, .int vocy, .ref vmx, .int votx, .int vose, .ref vml, .ref vmwr, .int voln, .int vohw, .ref vmno, .int vond, .int voon, .int vowi, .int votop])), (vmn, .inl (cy 0, 575, .inl vmnf)), (vms, .inl (cy 0, 1408, .inl vmsf))] sz [.ref vo] nE) (Qi (dC, dI) vwCl (fun (r : Int32) (u : Int32 × (Nat → Int32) × Int32) => (NW vnh u.2.1) ∧ (0 ≤ (u.2.2 : Int32).toInt ∧ (u.2.2 : Int32).toInt ≤ 8)) (O_m_undo cy vnh vo voth vmt votp vosz volm voto vofr vokd vonu vosg vofa vopl vowd votd vmn vmr vmk vms vma vmm vmrn vmkn vmik vmon vosm vohp vmw vmf vmb vomb vmd vmc vocm voct vocy vmx votx vose vml vmwr voln vohw vmno vond voon vowi votop vmnf vmsf) (va_A [(vo, .inr (12, [.int voth, .ref vmt, .int votp, .int vosz, .int volm, .int voto, .int vofr, .int vokd, .int vonu, .int vosg, .int vofa, .int vopl, .long vowd, .int votd, .ref vmn, .ref vmr, .ref vmk, .ref vms, .ref vma, .ref vmm, .ref vmrn, .ref vmkn, .ref vmik, .ref vmon, .int vosm, .int vohp, .ref vmw, .ref vmf, .ref vmb, .int vomb, .ref vmd, .ref vmc, .int vocm, .int voct, .int vocy, .ref vmx, .int votx, .int vose, .ref vml, .ref vmwr, .int voln, .int vohw, .ref vmno, .int vond, .int voon, .int vowi, .int votop])), (vmn, .inl (cy 0, 575, .inl vmnf)), (vms, .inl (cy 0, 1408, .inl vmsf))] sz)) 0 0 (va_A [(vo, .inr (12, [.int voth, .ref vmt, .int votp, .int vosz, .int volm, .int voto, .int vofr, .int vokd, .int vonu, .int vosg, .int vofa, .int vopl, .long vowd, .int votd, .ref vmn, .ref vmr, .ref vmk, .ref vms, .ref vma, .ref vmm, .ref vmrn, .ref vmkn, .ref vmik, .ref vmon, .int vosm, .int vohp, .ref vmw, .ref vmf, .ref vmb, .int vomb, .ref vmd, .ref vmc, .int vocm, .int voct, .int vocy, .ref vmx, .int votx, .int vose, .ref vml, .ref vmwr, .int voln, .int vohw, .ref vmno, .int vond, .int voon, .int vowi, .int votop])), (vmn, .inl (cy 0, 575, .inl vmnf)), (vms, .inl (cy 0, 1408, .inl vmsf))] sz) := by
  refine mw (Qc := Qi (dC, dI) vwCl (fun (r : Int32) (u : Int32 × (Nat → Int32) × Int32) => (NW vnh u.2.1) ∧ (0 ≤ (u.2.2 : Int32).toInt ∧ (u.2.2 : Int32).toInt ≤ 8)) (O_m_undo cy vnh vo voth vmt votp vosz volm voto vofr vokd vonu vosg vofa vopl vowd votd vmn vmr vmk vms vma vmm vmrn vmkn vmik vmon vosm vohp vmw vmf vmb vomb vmd vmc vocm voct vocy vmx votx vose vml vmwr voln vohw vmno vond voon vowi votop vmnf vmsf)) RX11 rfl (by decide +kernel) (Nat.le_of_ble_eq_true rfl) ?_
  intro p e s m below meth c A hx hb hr hlocks av9 hav hts hown hnm hml hK hP hD hA hS hE hAe Q9 hQ9 ls hl
  have hl : lv_has ls 2 [(0, .ref vo)] := hl
  refine lv_aload_n hx hb dX11_undo_0 rfl (lv_at hl 0 rfl) ?_
  refine lv_iconst (v := 0) hx hb dX11_undo_1 (by decide) ?_
  refine pf_X11_1 hx hb hts hown hK hP hD hS 0 rfl rfl rfl (Nat.le_of_ble_eq_true rfl) dX11_undo_2 (fun H locs hP hD hS => ?_)
  have hP : va_P (dC, dI) vwCl [(vo, .inr (12, [.int 0, .ref vmt, .int votp, .int vosz, .int volm, .int voto, .int vofr, .int vokd, .int vonu, .int vosg, .int vofa, .int vopl, .long vowd, .int votd, .ref vmn, .ref vmr, .ref vmk, .ref vms, .ref vma, .ref vmm, .ref vmrn, .ref vmkn, .ref vmik, .ref vmon, .int vosm, .int vohp, .ref vmw, .ref vmf, .ref vmb, .int vomb, .ref vmd, .ref vmc, .int vocm, .int voct, .int vocy, .ref vmx, .int votx, .int vose, .ref vml, .ref vmwr, .int voln, .int vohw, .ref vmno, .int vond, .int voon, .int vowi, .int votop])), (vmn, .inl (cy 0, 575, .inl vmnf)), (vms, .inl (cy 0, 1408, .inl vmsf))] H := hP
  have hD : va_D A [(vo, .inr (12, [.int 0, .ref vmt, .int votp, .int vosz, .int volm, .int voto, .int vofr, .int vokd, .int vonu, .int vosg, .int vofa, .int vopl, .long vowd, .int votd, .ref vmn, .ref vmr, .ref vmk, .ref vms, .ref vma, .ref vmm, .ref vmrn, .ref vmkn, .ref vmik, .ref vmon, .int vosm, .int vohp, .ref vmw, .ref vmf, .ref vmb, .int vomb, .ref vmd, .ref vmc, .int vocm, .int voct, .int vocy, .ref vmx, .int votx, .int vose, .ref vml, .ref vmwr, .int voln, .int vohw, .ref vmno, .int vond, .int voon, .int vowi, .int votop])), (vmn, .inl (cy 0, 575, .inl vmnf)), (vms, .inl (cy 0, 1408, .inl vmsf))] := hD
  refine lv_aload_n hx hb dX11_undo_5 rfl (lv_at hl 0 rfl) ?_
  refine gf_X11_225 hx hb hts hown hK hP 0 rfl rfl dX11_undo_6 ?_
  have k_0 : (0 : Int32).toInt = 0 := by decide
  refine lv_if_ne (tgt := 14) hx hb dX11_undo_9 (by decide) (fun c_1 => ?_) (fun c_1 => ?_)
  · skip
    have c_1 : ¬ (vosm.toInt = (0 : Int32).toInt) := fun h9 => c_1 (i_eq.mpr h9)
    refine lv_aload_n hx hb dX11_undo_14 rfl (lv_at hl 0 rfl) ?_
    refine lv_dup hx hb dX11_undo_15 rfl ?_
    refine gf_X11_225 hx hb hts hown hK hP 0 rfl rfl dX11_undo_16 ?_
    refine lv_iconst (v := 1) hx hb dX11_undo_19 (by decide) ?_
    refine lv_isub hx hb dX11_undo_20 ?_
    refine lv_topi (fun z_2 ez_2 => ?_)
    have k_1 : (1 : Int32).toInt = 1 := by decide
    have bz_2 : z_2.toInt = vosm.toInt - (1 : Int32).toInt := i_sub ez_2 (by omega) (by omega)
    refine pf_X11_225 hx hb hts hown hK hP hD hS 0 rfl rfl rfl (Nat.le_of_ble_eq_true rfl) dX11_undo_21 (fun H locs hP hD hS => ?_)
    have hP : va_P (dC, dI) vwCl [(vo, .inr (12, [.int 0, .ref vmt, .int votp, .int vosz, .int volm, .int voto, .int vofr, .int vokd, .int vonu, .int vosg, .int vofa, .int vopl, .long vowd, .int votd, .ref vmn, .ref vmr, .ref vmk, .ref vms, .ref vma, .ref vmm, .ref vmrn, .ref vmkn, .ref vmik, .ref vmon, .int z_2, .int vohp, .ref vmw, .ref vmf, .ref vmb, .int vomb, .ref vmd, .ref vmc, .int vocm, .int voct, .int vocy, .ref vmx, .int votx, .int vose, .ref vml, .ref vmwr, .int voln, .int vohw, .ref vmno, .int vond, .int voon, .int vowi, .int votop])), (vmn, .inl (cy 0, 575, .inl vmnf)), (vms, .inl (cy 0, 1408, .inl vmsf))] H := hP
    have hD : va_D A [(vo, .inr (12, [.int 0, .ref vmt, .int votp, .int vosz, .int volm, .int voto, .int vofr, .int vokd, .int vonu, .int vosg, .int vofa, .int vopl, .long vowd, .int votd, .ref vmn, .ref vmr, .ref vmk, .ref vms, .ref vma, .ref vmm, .ref vmrn, .ref vmkn, .ref vmik, .ref vmon, .int z_2, .int vohp, .ref vmw, .ref vmf, .ref vmb, .int vomb, .ref vmd, .ref vmc, .int vocm, .int voct, .int vocy, .ref vmx, .int votx, .int vose, .ref vml, .ref vmwr, .int voln, .int vohw, .ref vmno, .int vond, .int voon, .int vowi, .int votop])), (vmn, .inl (cy 0, 575, .inl vmnf)), (vms, .inl (cy 0, 1408, .inl vmsf))] := hD
    refine lv_iconst (v := 0) hx hb dX11_undo_24 (by decide) ?_
    refine lv_istore_n (lv' := [(1, .int 0), (0, .ref vo)]) hx hb dX11_undo_25 rfl hl (by decide) rfl (fun ls hl => ?_)
    have loop3 : ∀ (n3 : Nat) (x_4 : Int32) (g_5 : Nat → Int32), (0 ≤ x_4.toInt ∧ x_4.toInt ≤ 176) → NW vnh g_5 → 176 - x_4.toInt < (n3 : Int) → ∀ (H : Heap) (locs : List Loc), va_P (dC, dI) vwCl [(vo, .inr (12, [.int 0, .ref vmt, .int votp, .int vosz, .int volm, .int voto, .int vofr, .int vokd, .int vonu, .int vosg, .int vofa, .int vopl, .long vowd, .int votd, .ref vmn, .ref vmr, .ref vmk, .ref vms, .ref vma, .ref vmm, .ref vmrn, .ref vmkn, .ref vmik, .ref vmon, .int z_2, .int vohp, .ref vmw, .ref vmf, .ref vmb, .int vomb, .ref vmd, .ref vmc, .int vocm, .int voct, .int vocy, .ref vmx, .int votx, .int vose, .ref vml, .ref vmwr, .int voln, .int vohw, .ref vmno, .int vond, .int voon, .int vowi, .int votop])), (vmn, .inl (cy 0, 575, .inl g_5)), (vms, .inl (cy 0, 1408, .inl vmsf))] H → va_D A [(vo, .inr (12, [.int 0, .ref vmt, .int votp, .int vosz, .int volm, .int voto, .int vofr, .int vokd, .int vonu, .int vosg, .int vofa, .int vopl, .long vowd, .int votd, .ref vmn, .ref vmr, .ref vmk, .ref vms, .ref vma, .ref vmm, .ref vmrn, .ref vmkn, .ref vmik, .ref vmon, .int z_2, .int vohp, .ref vmw, .ref vmf, .ref vmb, .int vomb, .ref vmd, .ref vmc, .int vocm, .int voct, .int vocy, .ref vmx, .int votx, .int vose, .ref vml, .ref vmwr, .int voln, .int vohw, .ref vmno, .int vond, .int voon, .int vowi, .int votop])), (vmn, .inl (cy 0, 575, .inl g_5)), (vms, .inl (cy 0, 1408, .inl vmsf))] → va_S A s.heap H locs → ∀ ls : Array Slot, lv_has ls 2 [(1, .int x_4), (0, .ref vo)] → W p l e ({ frames := 0, cells := 0, slots := 0, locals := 0 }) s m av9 below meth c H locs 0 0 Q9 (F0 m 26 ls []) := by
      intro n3
      induction n3 with
      | zero =>
        intro x_4 g_5 bx_4 p_g_5 hn3 H locs hP hD hS ls hl
        exfalso; omega
      | succ n3 ih3 =>
        intro x_4 g_5 bx_4 p_g_5 hn3 H locs hP hD hS ls hl
        refine lv_iload_n hx hb dX11_undo_26 rfl (lv_at hl 0 rfl) ?_
        refine lv_sipush (v := 176) hx hb dX11_undo_27 (by decide) ?_
        have k_176 : (176 : Int32).toInt = 176 := by decide
        refine lv_icmp_ge (tgt := 64) hx hb dX11_undo_30 (by decide) (fun c_6 => ?_) (fun c_6 => ?_)
        · skip
          have c_6 : (176 : Int32).toInt ≤ x_4.toInt := i_le.mp c_6
          refine lv_aload_n hx hb dX11_undo_64 rfl (lv_at hl 1 rfl) ?_
          refine gf_X11_225 hx hb hts hown hK hP 0 rfl rfl dX11_undo_65 ?_
          rw [hQ9]
          exact re_i ((0 : Int32), g_5, z_2) hx hb hr hlocks ⟨(show NW vnh g_5 from p_g_5), (show 0 ≤ (z_2 : Int32).toInt ∧ (z_2 : Int32).toInt ≤ 8 from ⟨by omega, by omega⟩)⟩ (hP.sub [0, 1, 2] rfl) (hD.sub [0, 1, 2] rfl rfl) hS dX11_undo_68
        · skip
          have c_6 : ¬ ((176 : Int32).toInt ≤ x_4.toInt) := fun h9 => c_6 (i_le.mpr h9)
          refine lv_aload_n hx hb dX11_undo_33 rfl (lv_at hl 1 rfl) ?_
          refine gf_X11_98 hx hb hts hown hK hP 0 rfl rfl dX11_undo_34 ?_
          refine lv_sipush (v := 157) hx hb dX11_undo_37 (by decide) ?_
          refine lv_iload_n hx hb dX11_undo_40 rfl (lv_at hl 0 rfl) ?_
          refine lv_iadd hx hb dX11_undo_41 ?_
          refine lv_topi (fun z_7 ez_7 => ?_)
          have k_157 : (157 : Int32).toInt = 157 := by decide
          have bz_7 : z_7.toInt = (157 : Int32).toInt + x_4.toInt := i_add ez_7 (by omega) (by omega)
          refine lv_aload_n hx hb dX11_undo_42 rfl (lv_at hl 1 rfl) ?_
          refine gf_X11_107 hx hb hts hown hK hP 0 rfl rfl dX11_undo_43 ?_
          refine lv_sipush (v := 176) hx hb dX11_undo_46 (by decide) ?_
          refine lv_aload_n hx hb dX11_undo_49 rfl (lv_at hl 1 rfl) ?_
          refine gf_X11_225 hx hb hts hown hK hP 0 rfl rfl dX11_undo_50 ?_
          refine lv_imul hx hb dX11_undo_53 ?_
          refine lv_topi (fun z_8 ez_8 => ?_)
          have bz_8 : z_8.toInt = z_2.toInt * 176 := i_cmul k_176 ez_8 (by omega) (by omega)
          refine lv_iload_n hx hb dX11_undo_54 rfl (lv_at hl 0 rfl) ?_
          refine lv_iadd hx hb dX11_undo_55 ?_
          refine lv_topi (fun z_9 ez_9 => ?_)
          have bz_9 : z_9.toInt = z_8.toInt + x_4.toInt := i_add ez_9 (by omega) (by omega)
          have hin_10 : vp_in z_9 1408 := vp_in_iff.mpr ⟨by omega, by omega⟩
          refine va_iald hx hb hK hP 2 0 rfl rfl hin_10 dX11_undo_56 ?_
          refine lv_topi (fun z_11 ez_11 => ?_)
          have hin_12 : vp_in z_7 575 := vp_in_iff.mpr ⟨by omega, by omega⟩
          refine va_iast hx hb hK hP hD hS 1 0 rfl rfl hin_12 dX11_undo_57 (fun H locs hP hD hS => ?_)
          obtain ⟨f_13, ef_13⟩ : ∃ z : Nat → Int32, z = upd g_5 (Int32.toNatClampNeg z_7) z_11 := ⟨_, rfl⟩
          have hP : va_P (dC, dI) vwCl [(vo, .inr (12, [.int 0, .ref vmt, .int votp, .int vosz, .int volm, .int voto, .int vofr, .int vokd, .int vonu, .int vosg, .int vofa, .int vopl, .long vowd, .int votd, .ref vmn, .ref vmr, .ref vmk, .ref vms, .ref vma, .ref vmm, .ref vmrn, .ref vmkn, .ref vmik, .ref vmon, .int z_2, .int vohp, .ref vmw, .ref vmf, .ref vmb, .int vomb, .ref vmd, .ref vmc, .int vocm, .int voct, .int vocy, .ref vmx, .int votx, .int vose, .ref vml, .ref vmwr, .int voln, .int vohw, .ref vmno, .int vond, .int voon, .int vowi, .int votop])), (vmn, .inl (cy 0, 575, .inl f_13)), (vms, .inl (cy 0, 1408, .inl vmsf))] H := by rw [ef_13]; exact hP
          have hD : va_D A [(vo, .inr (12, [.int 0, .ref vmt, .int votp, .int vosz, .int volm, .int voto, .int vofr, .int vokd, .int vonu, .int vosg, .int vofa, .int vopl, .long vowd, .int votd, .ref vmn, .ref vmr, .ref vmk, .ref vms, .ref vma, .ref vmm, .ref vmrn, .ref vmkn, .ref vmik, .ref vmon, .int z_2, .int vohp, .ref vmw, .ref vmf, .ref vmb, .int vomb, .ref vmd, .ref vmc, .int vocm, .int voct, .int vocy, .ref vmx, .int votx, .int vose, .ref vml, .ref vmwr, .int voln, .int vohw, .ref vmno, .int vond, .int voon, .int vowi, .int votop])), (vmn, .inl (cy 0, 575, .inl f_13)), (vms, .inl (cy 0, 1408, .inl vmsf))] := by rw [ef_13]; exact hD
          have p_f_13 : NW vnh f_13 := by rw [ef_13]; exact p_g_5.upd ⟨by omega, by omega⟩
          obtain ⟨z_14, ez_14⟩ : ∃ z : Int32, z = x_4 + 1 := ⟨_, rfl⟩
          have bz_14 : z_14.toInt = x_4.toInt + (1 : Int32).toInt := i_add ez_14 (by omega) (by omega)
          refine lv_iinc (v := z_14) (lv' := [(1, .int z_14), (0, .ref vo)]) hx hb dX11_undo_58 hl (k := 0) rfl ez_14.symm (by decide) rfl (fun ls hl => ?_)
          refine lv_goto (tgt := 26) hx hb dX11_undo_61 (by decide) ?_
          exact ih3 z_14 f_13 ⟨by omega, by omega⟩ p_f_13 (by omega) _ _ (hP.sub [0, 1, 2] rfl) (hD.sub [0, 1, 2] rfl rfl) hS ls (lv_sub hl [0, 1] rfl)
    exact loop3 ((176 - (0 : Int32).toInt).toNat + 1) 0 vmnf ⟨by omega, by omega⟩ p_vmnf (by omega) _ _ hP hD hS ls (lv_sub hl [0, 1] rfl)
  · skip
    have c_1 : vosm.toInt = (0 : Int32).toInt := i_eq.mp c_1
    refine lv_iconst (v := (-1)) hx hb dX11_undo_12 (by decide) ?_
    have k_m1 : ((-1) : Int32).toInt = (-1) := by decide
    rw [hQ9]
    exact re_i ((0 : Int32), vmnf, vosm) hx hb hr hlocks ⟨(show NW vnh vmnf from p_vmnf), (show 0 ≤ (vosm : Int32).toInt ∧ (vosm : Int32).toInt ≤ 8 from ⟨by omega, by omega⟩)⟩ (hP.sub [0, 1, 2] rfl) (hD.sub [0, 1, 2] rfl rfl) hS dX11_undo_13
abbrev cX11_draw : ByteArray := prog_13_method_101_code
def yX11_draw : MethodName := ⟨RX11, "draw", "(I)I"⟩
theorem t1961 : Cond.code yX11_draw cX11_draw 2 (some .int) ∈ GW := gw_mem 2075 (by decide +kernel) (by decide +kernel)
abbrev O_m_draw (cy : Nat → ClassId) (vnh : Nat → Int32) (vo : Nat) (voth : Int32) (vmt : Nat) (votp : Int32) (vosz : Int32) (volm : Int32) (voto : Int32) (vofr : Int32) (vokd : Int32) (vonu : Int32) (vosg : Int32) (vofa : Int32) (vopl : Int32) (vowd : Int64) (votd : Int32) (vmn : Nat) (vmr : Nat) (vmk : Nat) (vms : Nat) (vma : Nat) (vmm : Nat) (vmrn : Nat) (vmkn : Nat) (vmik : Nat) (vmon : Nat) (vosm : Int32) (vohp : Int32) (vmw : Nat) (vmf : Nat) (vmb : Nat) (vomb : Int32) (vmd : Nat) (vmc : Nat) (vocm : Int32) (voct : Int32) (vocy : Int32) (vmx : Nat) (votx : Int32) (vose : Int32) (vml : Nat) (vmwr : Nat) (voln : Int32) (vohw : Int32) (vmno : Nat) (vond : Int32) (voon : Int32) (vowi : Int32) (votop : Int32) (vmnf : Nat → Int32) (vn : Int32) (u : Int32) : va_W := [(vo, .inr (12, [.int voth, .ref vmt, .int votp, .int vosz, .int volm, .int voto, .int vofr, .int vokd, .int vonu, .int vosg, .int vofa, .int vopl, .long vowd, .int votd, .ref vmn, .ref vmr, .ref vmk, .ref vms, .ref vma, .ref vmm, .ref vmrn, .ref vmkn, .ref vmik, .ref vmon, .int vosm, .int vohp, .ref vmw, .ref vmf, .ref vmb, .int vomb, .ref vmd, .ref vmc, .int vocm, .int voct, .int vocy, .ref vmx, .int votx, .int u, .ref vml, .ref vmwr, .int voln, .int vohw, .ref vmno, .int vond, .int voon, .int vowi, .int votop])), (vmn, .inl (cy 0, 575, .inl vmnf))]
theorem dX11_draw_0 : decode cX11_draw 0 = .ok (.aload_n 0, 1) := by decide +kernel
theorem dX11_draw_1 : decode cX11_draw 1 = .ok (.aload_n 0, 1) := by decide +kernel
theorem dX11_draw_2 : decode cX11_draw 2 = .ok (.getfield 351, 3) := by decide +kernel
theorem t1479 : Cond.fieldLink RX11 351 "LikenessPoundModel" "seed" "I" ∈ GW := gw_mem 1593 (by decide +kernel) (by decide +kernel)
theorem gf_X11_351 {p : Program} {l : Launch} {e : Env} {R : Room} {s : State} {m : MethodId} {args : Array Value} {below : List Frame} {meth : Method} {c : Code} {H : Heap} {locs : List Loc} {cells slots : Nat} {Q : State → Prop} {cc : ByteArray} {pc : Nat} {ls : Array Slot} {rest : List Value} {D : va_G} {a : Nat} {tys : List (ClassId × FieldType)} {ws : va_W} (hx : p.tables.exec = Jvm.exec) (hb : c.code = cc) (hts : ∀ w ∈ GW, w.before args s = true) (hown : s.vm.findClass RX11 = some m.cls) (hK : va_K D vwCl tys s) (hP : va_P D vwCl ws H) (q0 : Nat) {fs : List Value} (he : ws[q0]? = some (a, .inr (12, fs))) {v : Value} (hv : fs[37]? = some v) (hdg : decode cc pc = .ok (.getfield 351, 3)) (kk : W p l e R s m args below meth c H locs cells slots Q (F0 m (pc + 3) ls (v :: rest))) : W p l e R s m args below meth c H locs cells slots Q (F0 m pc ls (.ref a :: rest)) := va_get (C := RX11) (T := TX11) (N := 47) (ci := 12) hx hb hts inX11 hown hK hP q0 he rfl 37 (by decide) (hts _ t1479) (fun _ h => h) hv hdg kk
theorem dX11_draw_5 : decode cX11_draw 5 = .ok (.ldc_w 354, 3) := by decide +kernel
theorem t1962 : Cond.constant RX11 354 1103515245 ∈ GW := gw_mem 2076 (by decide +kernel) (by decide +kernel)
theorem dX11_draw_8 : decode cX11_draw 8 = .ok (.imul, 1) := by decide +kernel
theorem dX11_draw_9 : decode cX11_draw 9 = .ok (.sipush 12345, 3) := by decide +kernel
theorem dX11_draw_12 : decode cX11_draw 12 = .ok (.iadd, 1) := by decide +kernel
theorem dX11_draw_13 : decode cX11_draw 13 = .ok (.putfield 351, 3) := by decide +kernel
theorem pf_X11_351 {p : Program} {l : Launch} {e : Env} {R : Room} {s : State} {m : MethodId} {args : Array Value} {below : List Frame} {meth : Method} {c : Code} {H : Heap} {locs : List Loc} {cells slots : Nat} {Q : State → Prop} {cc : ByteArray} {pc : Nat} {ls : Array Slot} {rest : List Value} {D : va_G} {A : Nat → Prop} {a : Nat} {tys : List (ClassId × FieldType)} {ws : va_W} {H0 : Heap} (hx : p.tables.exec = Jvm.exec) (hb : c.code = cc) (hts : ∀ w ∈ GW, w.before args s = true) (hown : s.vm.findClass RX11 = some m.cls) (hK : va_K D vwCl tys s) (hP : va_P D vwCl ws H) (hD : va_D A ws) (hS0 : va_S A H0 H locs) (q0 : Nat) {fs : List Value} (he : ws[q0]? = some (a, .inr (12, fs))) {v : Value} (hn : narrow (tyX11 37) v = v) (hfit : fits (tyX11 37) v = true) (hl : 37 < fs.length) (hdg : decode cc pc = .ok (.putfield 351, 3)) (kk : ∀ (H1 : Heap) (locs1 : List Loc), va_P D vwCl (ws.set q0 (a, .inr (12, fs.set 37 v))) H1 → va_D A (ws.set q0 (a, .inr (12, fs.set 37 v))) → va_S A H0 H1 locs1 → W p l e R s m args below meth c H1 locs1 cells slots Q (F0 m (pc + 3) ls rest)) : W p l e R s m args below meth c H locs cells slots Q (F0 m pc ls (v :: .ref a :: rest)) := va_put (C := RX11) (T := TX11) (N := 47) (ci := 12) hx hb hts inX11 tyX11 tkX11 nmX11 hown hK hP hD hS0 q0 he rfl 37 (by decide) (hts _ t1479) (fun _ h => h) rfl (tkX11 37 (by decide)) hn hfit hl hdg kk
theorem dX11_draw_16 : decode cX11_draw 16 = .ok (.aload_n 0, 1) := by decide +kernel
theorem dX11_draw_17 : decode cX11_draw 17 = .ok (.getfield 351, 3) := by decide +kernel
theorem dX11_draw_20 : decode cX11_draw 20 = .ok (.bipush 8, 2) := by decide +kernel
theorem dX11_draw_22 : decode cX11_draw 22 = .ok (.iushr, 1) := by decide +kernel
theorem dX11_draw_23 : decode cX11_draw 23 = .ok (.iload_n 1, 1) := by decide +kernel
theorem dX11_draw_24 : decode cX11_draw 24 = .ok (.irem, 1) := by decide +kernel
theorem dX11_draw_25 : decode cX11_draw 25 = .ok (.ireturn, 1) := by decide +kernel
set_option maxHeartbeats 4000000 in
set_option maxRecDepth 100000 in
theorem m_draw (l : Launch) (dC : Nat → ClassId) (dI : Nat → Nat → Nat) (cy : Nat → ClassId) (sz : Nat) (vnh : Nat → Int32) (vo : Nat) (voth : Int32) (vmt : Nat) (votp : Int32) (vosz : Int32) (volm : Int32) (voto : Int32) (vofr : Int32) (vokd : Int32) (vonu : Int32) (vosg : Int32) (vofa : Int32) (vopl : Int32) (vowd : Int64) (votd : Int32) (vmn : Nat) (vmr : Nat) (vmk : Nat) (vms : Nat) (vma : Nat) (vmm : Nat) (vmrn : Nat) (vmkn : Nat) (vmik : Nat) (vmon : Nat) (vosm : Int32) (vohp : Int32) (vmw : Nat) (vmf : Nat) (vmb : Nat) (vomb : Int32) (vmd : Nat) (vmc : Nat) (vocm : Int32) (voct : Int32) (vocy : Int32) (vmx : Nat) (votx : Int32) (vose : Int32) (vml : Nat) (vmwr : Nat) (voln : Int32) (vohw : Int32) (vmno : Nat) (vond : Int32) (voon : Int32) (vowi : Int32) (votop : Int32) (vmnf : Nat → Int32) (vn : Int32) (r_vn : 1 ≤ (vn : Int32).toInt ∧ (vn : Int32).toInt ≤ 10) (p_vmnf : NW vnh vmnf) : Met l yX11_draw (wl yX11_draw cX11_draw 2 (some .int)) ({ frames := 0, cells := 0, slots := 0, locals := 0 }) (Pw (dC, dI) vwCl cy [(vo, .inr (12, [.int voth, .ref vmt, .int votp, .int vosz, .int volm, .int voto, .int vofr, .int vokd, .int vonu, .int vosg, .int vofa, .int vopl, .long vowd, .int votd, .ref vmn, .ref vmr, .ref vmk, .ref vms, .ref vma, .ref vmm, .ref vmrn, .ref vmkn, .ref vmik, .ref vmon, .int vosm, .int vohp, .ref vmw, .ref vmf, .ref vmb, .int vomb, .ref vmd, .ref vmc, .int vocm, .int voct, .int vocy, .ref vmx, .int votx, .int vose, .ref vml, .ref vmwr, .int voln, .int vohw, .ref vmno, .int vond, .int voon, .int vowi, .int votop])), (vmn, .inl (cy 0, 575, .inl vmnf))] sz [.ref vo, .int vn] nE) (Qi (dC, dI) vwCl (fun (r : Int32) (u : Int32) => (0 ≤ (r : Int32).toInt ∧ (r : Int32).toInt ≤ 9) ∧ ((r : Int32).toInt < (vn : Int32).toInt)) (O_m_draw cy vnh vo voth vmt votp vosz volm voto vofr vokd vonu vosg vofa vopl vowd votd vmn vmr vmk vms vma vmm vmrn vmkn vmik vmon vosm vohp vmw vmf vmb vomb vmd vmc vocm voct vocy vmx votx vose vml vmwr voln vohw vmno vond voon vowi votop vmnf vn) (va_A [(vo, .inr (12, [.int voth, .ref vmt, .int votp, .int vosz, .int volm, .int voto, .int vofr, .int vokd, .int vonu, .int vosg, .int vofa, .int vopl, .long vowd, .int votd, .ref vmn, .ref vmr, .ref vmk, .ref vms, .ref vma, .ref vmm, .ref vmrn, .ref vmkn, .ref vmik, .ref vmon, .int vosm, .int vohp, .ref vmw, .ref vmf, .ref vmb, .int vomb, .ref vmd, .ref vmc, .int vocm, .int voct, .int vocy, .ref vmx, .int votx, .int vose, .ref vml, .ref vmwr, .int voln, .int vohw, .ref vmno, .int vond, .int voon, .int vowi, .int votop])), (vmn, .inl (cy 0, 575, .inl vmnf))] sz)) 0 0 (va_A [(vo, .inr (12, [.int voth, .ref vmt, .int votp, .int vosz, .int volm, .int voto, .int vofr, .int vokd, .int vonu, .int vosg, .int vofa, .int vopl, .long vowd, .int votd, .ref vmn, .ref vmr, .ref vmk, .ref vms, .ref vma, .ref vmm, .ref vmrn, .ref vmkn, .ref vmik, .ref vmon, .int vosm, .int vohp, .ref vmw, .ref vmf, .ref vmb, .int vomb, .ref vmd, .ref vmc, .int vocm, .int voct, .int vocy, .ref vmx, .int votx, .int vose, .ref vml, .ref vmwr, .int voln, .int vohw, .ref vmno, .int vond, .int voon, .int vowi, .int votop])), (vmn, .inl (cy 0, 575, .inl vmnf))] sz) := by
  refine mw (Qc := Qi (dC, dI) vwCl (fun (r : Int32) (u : Int32) => (0 ≤ (r : Int32).toInt ∧ (r : Int32).toInt ≤ 9) ∧ ((r : Int32).toInt < (vn : Int32).toInt)) (O_m_draw cy vnh vo voth vmt votp vosz volm voto vofr vokd vonu vosg vofa vopl vowd votd vmn vmr vmk vms vma vmm vmrn vmkn vmik vmon vosm vohp vmw vmf vmb vomb vmd vmc vocm voct vocy vmx votx vose vml vmwr voln vohw vmno vond voon vowi votop vmnf vn)) RX11 rfl (by decide +kernel) (Nat.le_of_ble_eq_true rfl) ?_
  intro p e s m below meth c A hx hb hr hlocks av9 hav hts hown hnm hml hK hP hD hA hS hE hAe Q9 hQ9 ls hl
  have hl : lv_has ls 2 [(0, .ref vo), (1, .int vn)] := hl
  refine lv_aload_n hx hb dX11_draw_0 rfl (lv_at hl 0 rfl) ?_
  refine lv_aload_n hx hb dX11_draw_1 rfl (lv_at hl 0 rfl) ?_
  refine gf_X11_351 hx hb hts hown hK hP 0 rfl rfl dX11_draw_2 ?_
  refine lv_ldcw hx hb hown (hts _ t1962) dX11_draw_5 ?_
  refine lv_imul hx hb dX11_draw_8 ?_
  refine lv_topi (fun z_1 ez_1 => ?_)
  refine lv_sipush (v := 12345) hx hb dX11_draw_9 (by decide) ?_
  refine lv_iadd hx hb dX11_draw_12 ?_
  refine lv_topi (fun z_2 ez_2 => ?_)
  refine pf_X11_351 hx hb hts hown hK hP hD hS 0 rfl rfl rfl (Nat.le_of_ble_eq_true rfl) dX11_draw_13 (fun H locs hP hD hS => ?_)
  have hP : va_P (dC, dI) vwCl [(vo, .inr (12, [.int voth, .ref vmt, .int votp, .int vosz, .int volm, .int voto, .int vofr, .int vokd, .int vonu, .int vosg, .int vofa, .int vopl, .long vowd, .int votd, .ref vmn, .ref vmr, .ref vmk, .ref vms, .ref vma, .ref vmm, .ref vmrn, .ref vmkn, .ref vmik, .ref vmon, .int vosm, .int vohp, .ref vmw, .ref vmf, .ref vmb, .int vomb, .ref vmd, .ref vmc, .int vocm, .int voct, .int vocy, .ref vmx, .int votx, .int z_2, .ref vml, .ref vmwr, .int voln, .int vohw, .ref vmno, .int vond, .int voon, .int vowi, .int votop])), (vmn, .inl (cy 0, 575, .inl vmnf))] H := hP
  have hD : va_D A [(vo, .inr (12, [.int voth, .ref vmt, .int votp, .int vosz, .int volm, .int voto, .int vofr, .int vokd, .int vonu, .int vosg, .int vofa, .int vopl, .long vowd, .int votd, .ref vmn, .ref vmr, .ref vmk, .ref vms, .ref vma, .ref vmm, .ref vmrn, .ref vmkn, .ref vmik, .ref vmon, .int vosm, .int vohp, .ref vmw, .ref vmf, .ref vmb, .int vomb, .ref vmd, .ref vmc, .int vocm, .int voct, .int vocy, .ref vmx, .int votx, .int z_2, .ref vml, .ref vmwr, .int voln, .int vohw, .ref vmno, .int vond, .int voon, .int vowi, .int votop])), (vmn, .inl (cy 0, 575, .inl vmnf))] := hD
  refine lv_aload_n hx hb dX11_draw_16 rfl (lv_at hl 0 rfl) ?_
  refine gf_X11_351 hx hb hts hown hK hP 0 rfl rfl dX11_draw_17 ?_
  refine lv_bipush (v := 8) hx hb dX11_draw_20 (by decide) ?_
  obtain ⟨z_3, ez_3⟩ : ∃ z : Int32, (Int32.toUInt32 z_2 >>> (Int32.toUInt32 8 &&& Int32.toUInt32 31)).toInt32 = z := ⟨_, rfl⟩
  refine lv_iushr (v := z_3) hx hb dX11_draw_22 ez_3 ?_
  have bz_3 : 0 ≤ z_3.toInt ∧ z_3.toInt ≤ 16777215 := i_ushr8 ez_3
  refine lv_iload_n hx hb dX11_draw_23 rfl (lv_at hl 1 rfl) ?_
  have k_0 : (0 : Int32).toInt = 0 := by decide
  refine lv_irem hx hb dX11_draw_24 (fun h9 => absurd (i_eq.mp h9) (by omega)) ?_
  refine lv_topi (fun z_4 ez_4 => ?_)
  have bz_4 : 0 ≤ z_4.toInt ∧ z_4.toInt < vn.toInt := i_rem ez_4 (by omega) (by omega)
  rw [hQ9]
  exact re_i z_2 hx hb hr hlocks ⟨(show 0 ≤ (z_4 : Int32).toInt ∧ (z_4 : Int32).toInt ≤ 9 from ⟨by omega, by omega⟩), (show (z_4 : Int32).toInt < (vn : Int32).toInt from (by omega))⟩ (hP.sub [0, 1] rfl) (hD.sub [0, 1] rfl rfl) hS dX11_draw_25
abbrev cX11_drawsFor : ByteArray := prog_13_method_102_code
def yX11_drawsFor : MethodName := ⟨RX11, "drawsFor", "(I)V"⟩
theorem t1957 : Cond.code yX11_drawsFor cX11_drawsFor 7 none ∈ GW := gw_mem 2071 (by decide +kernel) (by decide +kernel)
abbrev O_m_drawsFor (cy : Nat → ClassId) (vnh : Nat → Int32) (vo : Nat) (voth : Int32) (vmt : Nat) (votp : Int32) (vosz : Int32) (volm : Int32) (voto : Int32) (vofr : Int32) (vokd : Int32) (vonu : Int32) (vosg : Int32) (vofa : Int32) (vopl : Int32) (vowd : Int64) (votd : Int32) (vmn : Nat) (vmr : Nat) (vmk : Nat) (vms : Nat) (vma : Nat) (vmm : Nat) (vmrn : Nat) (vmkn : Nat) (vmik : Nat) (vmon : Nat) (vosm : Int32) (vohp : Int32) (vmw : Nat) (vmf : Nat) (vmb : Nat) (vomb : Int32) (vmd : Nat) (vmc : Nat) (vocm : Int32) (voct : Int32) (vocy : Int32) (vmx : Nat) (votx : Int32) (vose : Int32) (vml : Nat) (vmwr : Nat) (voln : Int32) (vohw : Int32) (vmno : Nat) (vond : Int32) (voon : Int32) (vowi : Int32) (votop : Int32) (vmnf : Nat → Int32) (vm : Int32) (u : (Nat → Int32) × Int32) : va_W := [(vo, .inr (12, [.int voth, .ref vmt, .int votp, .int vosz, .int volm, .int voto, .int vofr, .int vokd, .int vonu, .int vosg, .int vofa, .int vopl, .long vowd, .int votd, .ref vmn, .ref vmr, .ref vmk, .ref vms, .ref vma, .ref vmm, .ref vmrn, .ref vmkn, .ref vmik, .ref vmon, .int vosm, .int vohp, .ref vmw, .ref vmf, .ref vmb, .int vomb, .ref vmd, .ref vmc, .int vocm, .int voct, .int vocy, .ref vmx, .int votx, .int u.2, .ref vml, .ref vmwr, .int voln, .int vohw, .ref vmno, .int vond, .int voon, .int vowi, .int votop])), (vmn, .inl (cy 0, 575, .inl u.1))]
theorem dX11_drawsFor_0 : decode cX11_drawsFor 0 = .ok (.aload_n 0, 1) := by decide +kernel
theorem dX11_drawsFor_1 : decode cX11_drawsFor 1 = .ok (.bipush 6, 2) := by decide +kernel
theorem dX11_drawsFor_3 : decode cX11_drawsFor 3 = .ok (.invokevirtual 355, 3) := by decide +kernel
theorem t1958 : Cond.methodLink RX11 355 yX11_draw ∈ GW := gw_mem 2072 (by decide +kernel) (by decide +kernel)
theorem t1960 : Cond.instanceMethod yX11_draw ∈ GW := gw_mem 2074 (by decide +kernel) (by decide +kernel)
theorem s94 : Cond.selects RX11 yX11_draw yX11_draw ∈ GW := gw_mem 94 (by decide +kernel) (by decide +kernel)
theorem cw_X11_355 {R : Room} {s : State} {args : Array Value} {rm : Room} {mc ms : Nat} (hts : ∀ w ∈ GW, w.before args s = true) (hrc : rm.cells = mc) (hrs : rm.slots = ms) (hR : rm.frames + 1 ≤ R.frames ∧ 8 + (2 + 11) + rm.locals ≤ R.locals) : CallW R s args RX11 RX11 355 yX11_draw cX11_draw 2 (some .int) (wl yX11_draw cX11_draw 2 (some .int)) rm mc ms 1 := cwV 1 hts (gi_V t1958 t1960 s94 t18 t1961) rfl hrc hrs (by decide +kernel) hR
theorem dX11_drawsFor_6 : decode cX11_drawsFor 6 = .ok (.istore_n 2, 1) := by decide +kernel
theorem dX11_drawsFor_7 : decode cX11_drawsFor 7 = .ok (.iload_n 2, 1) := by decide +kernel
theorem dX11_drawsFor_8 : decode cX11_drawsFor 8 = .ok (.iconst 2, 1) := by decide +kernel
theorem dX11_drawsFor_9 : decode cX11_drawsFor 9 = .ok (.if_icmp .ne 16, 3) := by decide +kernel
theorem dX11_drawsFor_25 : decode cX11_drawsFor 25 = .ok (.iconst 0, 1) := by decide +kernel
theorem dX11_drawsFor_26 : decode cX11_drawsFor 26 = .ok (.istore_n 3, 1) := by decide +kernel
theorem dX11_drawsFor_51 : decode cX11_drawsFor 51 = .ok (.iload_n 2, 1) := by decide +kernel
theorem dX11_drawsFor_52 : decode cX11_drawsFor 52 = .ok (.iconst 2, 1) := by decide +kernel
theorem dX11_drawsFor_53 : decode cX11_drawsFor 53 = .ok (.if_icmp .gt 12, 3) := by decide +kernel
theorem dX11_drawsFor_65 : decode cX11_drawsFor 65 = .ok (.return_, 1) := by decide +kernel
theorem dX11_drawsFor_56 : decode cX11_drawsFor 56 = .ok (.aload_n 0, 1) := by decide +kernel
theorem dX11_drawsFor_57 : decode cX11_drawsFor 57 = .ok (.getfield 98, 3) := by decide +kernel
theorem dX11_drawsFor_60 : decode cX11_drawsFor 60 = .ok (.iconst 1, 1) := by decide +kernel
theorem dX11_drawsFor_61 : decode cX11_drawsFor 61 = .ok (.iaload, 1) := by decide +kernel
theorem dX11_drawsFor_62 : decode cX11_drawsFor 62 = .ok (.ifCond .ne 4, 3) := by decide +kernel
theorem dX11_drawsFor_66 : decode cX11_drawsFor 66 = .ok (.aload_n 0, 1) := by decide +kernel
theorem dX11_drawsFor_67 : decode cX11_drawsFor 67 = .ok (.aload_n 0, 1) := by decide +kernel
theorem dX11_drawsFor_68 : decode cX11_drawsFor 68 = .ok (.getfield 98, 3) := by decide +kernel
theorem dX11_drawsFor_71 : decode cX11_drawsFor 71 = .ok (.iconst 1, 1) := by decide +kernel
theorem dX11_drawsFor_72 : decode cX11_drawsFor 72 = .ok (.iaload, 1) := by decide +kernel
theorem dX11_drawsFor_73 : decode cX11_drawsFor 73 = .ok (.invokevirtual 355, 3) := by decide +kernel
theorem dX11_drawsFor_76 : decode cX11_drawsFor 76 = .ok (.istore 4, 2) := by decide +kernel
theorem dX11_drawsFor_78 : decode cX11_drawsFor 78 = .ok (.iload_n 2, 1) := by decide +kernel
theorem dX11_drawsFor_79 : decode cX11_drawsFor 79 = .ok (.iconst 2, 1) := by decide +kernel
theorem dX11_drawsFor_80 : decode cX11_drawsFor 80 = .ok (.if_icmp .ne 7, 3) := by decide +kernel
theorem dX11_drawsFor_87 : decode cX11_drawsFor 87 = .ok (.iconst 0, 1) := by decide +kernel
theorem dX11_drawsFor_88 : decode cX11_drawsFor 88 = .ok (.istore 5, 2) := by decide +kernel
theorem dX11_drawsFor_90 : decode cX11_drawsFor 90 = .ok (.iload_n 2, 1) := by decide +kernel
theorem dX11_drawsFor_91 : decode cX11_drawsFor 91 = .ok (.iconst 2, 1) := by decide +kernel
theorem dX11_drawsFor_92 : decode cX11_drawsFor 92 = .ok (.if_icmp .ne 7, 3) := by decide +kernel
theorem dX11_drawsFor_99 : decode cX11_drawsFor 99 = .ok (.iload 4, 2) := by decide +kernel
theorem dX11_drawsFor_101 : decode cX11_drawsFor 101 = .ok (.istore 6, 2) := by decide +kernel
theorem dX11_drawsFor_103 : decode cX11_drawsFor 103 = .ok (.aload_n 0, 1) := by decide +kernel
theorem dX11_drawsFor_104 : decode cX11_drawsFor 104 = .ok (.iload 5, 2) := by decide +kernel
theorem dX11_drawsFor_106 : decode cX11_drawsFor 106 = .ok (.iload_n 1, 1) := by decide +kernel
theorem dX11_drawsFor_107 : decode cX11_drawsFor 107 = .ok (.iload 6, 2) := by decide +kernel
theorem dX11_drawsFor_109 : decode cX11_drawsFor 109 = .ok (.iload 4, 2) := by decide +kernel
theorem dX11_drawsFor_111 : decode cX11_drawsFor 111 = .ok (.invokevirtual 274, 3) := by decide +kernel
theorem dX11_drawsFor_114 : decode cX11_drawsFor 114 = .ok (.ifCond .ne 14, 3) := by decide +kernel
theorem dX11_drawsFor_128 : decode cX11_drawsFor 128 = .ok (.return_, 1) := by decide +kernel
theorem dX11_drawsFor_117 : decode cX11_drawsFor 117 = .ok (.aload_n 0, 1) := by decide +kernel
theorem dX11_drawsFor_118 : decode cX11_drawsFor 118 = .ok (.iload 5, 2) := by decide +kernel
theorem dX11_drawsFor_120 : decode cX11_drawsFor 120 = .ok (.iload_n 1, 1) := by decide +kernel
theorem dX11_drawsFor_121 : decode cX11_drawsFor 121 = .ok (.iload 6, 2) := by decide +kernel
theorem dX11_drawsFor_123 : decode cX11_drawsFor 123 = .ok (.iload 4, 2) := by decide +kernel
theorem dX11_drawsFor_125 : decode cX11_drawsFor 125 = .ok (.invokevirtual 281, 3) := by decide +kernel
theorem dX11_drawsFor_83 : decode cX11_drawsFor 83 = .ok (.iconst 1, 1) := by decide +kernel
theorem dX11_drawsFor_84 : decode cX11_drawsFor 84 = .ok (.goto 4, 3) := by decide +kernel
theorem dX11_drawsFor_95 : decode cX11_drawsFor 95 = .ok (.iload_n 3, 1) := by decide +kernel
theorem dX11_drawsFor_96 : decode cX11_drawsFor 96 = .ok (.goto 5, 3) := by decide +kernel
theorem dX11_drawsFor_27 : decode cX11_drawsFor 27 = .ok (.iload_n 2, 1) := by decide +kernel
theorem dX11_drawsFor_28 : decode cX11_drawsFor 28 = .ok (.iconst 3, 1) := by decide +kernel
theorem dX11_drawsFor_29 : decode cX11_drawsFor 29 = .ok (.if_icmp .ne 22, 3) := by decide +kernel
theorem dX11_drawsFor_32 : decode cX11_drawsFor 32 = .ok (.aload_n 0, 1) := by decide +kernel
theorem dX11_drawsFor_33 : decode cX11_drawsFor 33 = .ok (.iconst 5, 1) := by decide +kernel
theorem dX11_drawsFor_34 : decode cX11_drawsFor 34 = .ok (.iload_n 1, 1) := by decide +kernel
theorem dX11_drawsFor_35 : decode cX11_drawsFor 35 = .ok (.iconst 0, 1) := by decide +kernel
theorem dX11_drawsFor_36 : decode cX11_drawsFor 36 = .ok (.iconst 0, 1) := by decide +kernel
theorem dX11_drawsFor_37 : decode cX11_drawsFor 37 = .ok (.invokevirtual 274, 3) := by decide +kernel
theorem dX11_drawsFor_40 : decode cX11_drawsFor 40 = .ok (.ifCond .ne 11, 3) := by decide +kernel
theorem dX11_drawsFor_43 : decode cX11_drawsFor 43 = .ok (.aload_n 0, 1) := by decide +kernel
theorem dX11_drawsFor_44 : decode cX11_drawsFor 44 = .ok (.iconst 5, 1) := by decide +kernel
theorem dX11_drawsFor_45 : decode cX11_drawsFor 45 = .ok (.iload_n 1, 1) := by decide +kernel
theorem dX11_drawsFor_46 : decode cX11_drawsFor 46 = .ok (.iconst 0, 1) := by decide +kernel
theorem dX11_drawsFor_47 : decode cX11_drawsFor 47 = .ok (.iconst 0, 1) := by decide +kernel
theorem dX11_drawsFor_48 : decode cX11_drawsFor 48 = .ok (.invokevirtual 281, 3) := by decide +kernel
theorem dX11_drawsFor_12 : decode cX11_drawsFor 12 = .ok (.aload_n 0, 1) := by decide +kernel
theorem dX11_drawsFor_13 : decode cX11_drawsFor 13 = .ok (.aload_n 0, 1) := by decide +kernel
theorem dX11_drawsFor_14 : decode cX11_drawsFor 14 = .ok (.getfield 98, 3) := by decide +kernel
theorem dX11_drawsFor_17 : decode cX11_drawsFor 17 = .ok (.iconst 0, 1) := by decide +kernel
theorem dX11_drawsFor_18 : decode cX11_drawsFor 18 = .ok (.iaload, 1) := by decide +kernel
theorem dX11_drawsFor_19 : decode cX11_drawsFor 19 = .ok (.invokevirtual 355, 3) := by decide +kernel
theorem dX11_drawsFor_22 : decode cX11_drawsFor 22 = .ok (.goto 4, 3) := by decide +kernel
set_option maxHeartbeats 4000000 in
set_option maxRecDepth 100000 in
theorem m_drawsFor (l : Launch) (dC : Nat → ClassId) (dI : Nat → Nat → Nat) (cy : Nat → ClassId) (sz : Nat) (vnh : Nat → Int32) (vo : Nat) (voth : Int32) (vmt : Nat) (votp : Int32) (vosz : Int32) (volm : Int32) (voto : Int32) (vofr : Int32) (vokd : Int32) (vonu : Int32) (vosg : Int32) (vofa : Int32) (vopl : Int32) (vowd : Int64) (votd : Int32) (vmn : Nat) (vmr : Nat) (vmk : Nat) (vms : Nat) (vma : Nat) (vmm : Nat) (vmrn : Nat) (vmkn : Nat) (vmik : Nat) (vmon : Nat) (vosm : Int32) (vohp : Int32) (vmw : Nat) (vmf : Nat) (vmb : Nat) (vomb : Int32) (vmd : Nat) (vmc : Nat) (vocm : Int32) (voct : Int32) (vocy : Int32) (vmx : Nat) (votx : Int32) (vose : Int32) (vml : Nat) (vmwr : Nat) (voln : Int32) (vohw : Int32) (vmno : Nat) (vond : Int32) (voon : Int32) (vowi : Int32) (votop : Int32) (vmnf : Nat → Int32) (vm : Int32) (r_vm : 0 ≤ (vm : Int32).toInt ∧ (vm : Int32).toInt ≤ 6) (p_vmnf : NW vnh vmnf) (hm : (vm : Int32).toInt < (vmnf 0).toInt) : Met l yX11_drawsFor (wl yX11_drawsFor cX11_drawsFor 7 none) ({ frames := 5, cells := 0, slots := 0, locals := 320 }) (Pw (dC, dI) vwCl cy [(vo, .inr (12, [.int voth, .ref vmt, .int votp, .int vosz, .int volm, .int voto, .int vofr, .int vokd, .int vonu, .int vosg, .int vofa, .int vopl, .long vowd, .int votd, .ref vmn, .ref vmr, .ref vmk, .ref vms, .ref vma, .ref vmm, .ref vmrn, .ref vmkn, .ref vmik, .ref vmon, .int vosm, .int vohp, .ref vmw, .ref vmf, .ref vmb, .int vomb, .ref vmd, .ref vmc, .int vocm, .int voct, .int vocy, .ref vmx, .int votx, .int vose, .ref vml, .ref vmwr, .int voln, .int vohw, .ref vmno, .int vond, .int voon, .int vowi, .int votop])), (vmn, .inl (cy 0, 575, .inl vmnf))] sz [.ref vo, .int vm] nE) (Qv (dC, dI) vwCl (fun (u : (Nat → Int32) × Int32) => (NW vnh u.1)) (O_m_drawsFor cy vnh vo voth vmt votp vosz volm voto vofr vokd vonu vosg vofa vopl vowd votd vmn vmr vmk vms vma vmm vmrn vmkn vmik vmon vosm vohp vmw vmf vmb vomb vmd vmc vocm voct vocy vmx votx vose vml vmwr voln vohw vmno vond voon vowi votop vmnf vm) (va_A [(vo, .inr (12, [.int voth, .ref vmt, .int votp, .int vosz, .int volm, .int voto, .int vofr, .int vokd, .int vonu, .int vosg, .int vofa, .int vopl, .long vowd, .int votd, .ref vmn, .ref vmr, .ref vmk, .ref vms, .ref vma, .ref vmm, .ref vmrn, .ref vmkn, .ref vmik, .ref vmon, .int vosm, .int vohp, .ref vmw, .ref vmf, .ref vmb, .int vomb, .ref vmd, .ref vmc, .int vocm, .int voct, .int vocy, .ref vmx, .int votx, .int vose, .ref vml, .ref vmwr, .int voln, .int vohw, .ref vmno, .int vond, .int voon, .int vowi, .int votop])), (vmn, .inl (cy 0, 575, .inl vmnf))] sz)) 0 0 (va_A [(vo, .inr (12, [.int voth, .ref vmt, .int votp, .int vosz, .int volm, .int voto, .int vofr, .int vokd, .int vonu, .int vosg, .int vofa, .int vopl, .long vowd, .int votd, .ref vmn, .ref vmr, .ref vmk, .ref vms, .ref vma, .ref vmm, .ref vmrn, .ref vmkn, .ref vmik, .ref vmon, .int vosm, .int vohp, .ref vmw, .ref vmf, .ref vmb, .int vomb, .ref vmd, .ref vmc, .int vocm, .int voct, .int vocy, .ref vmx, .int votx, .int vose, .ref vml, .ref vmwr, .int voln, .int vohw, .ref vmno, .int vond, .int voon, .int vowi, .int votop])), (vmn, .inl (cy 0, 575, .inl vmnf))] sz) := by
  refine mw (Qc := Qv (dC, dI) vwCl (fun (u : (Nat → Int32) × Int32) => (NW vnh u.1)) (O_m_drawsFor cy vnh vo voth vmt votp vosz volm voto vofr vokd vonu vosg vofa vopl vowd votd vmn vmr vmk vms vma vmm vmrn vmkn vmik vmon vosm vohp vmw vmf vmb vomb vmd vmc vocm voct vocy vmx votx vose vml vmwr voln vohw vmno vond voon vowi votop vmnf vm)) RX11 rfl (by decide +kernel) (Nat.le_of_ble_eq_true rfl) ?_
  intro p e s m below meth c A hx hb hr hlocks av9 hav hts hown hnm hml hK hP hD hA hS hE hAe Q9 hQ9 ls hl
  have hl : lv_has ls 7 [(0, .ref vo), (1, .int vm)] := hl
  refine lv_aload_n hx hb dX11_drawsFor_0 rfl (lv_at hl 0 rfl) ?_
  refine lv_bipush (v := 6) hx hb dX11_drawsFor_1 (by decide) ?_
  have k_6 : (6 : Int32).toInt = 6 := by decide
  refine jn_i (wr := []) (rV (As := [.int 6]) (rest := []) (ci := 12) ⟨hx, hb, hml, hown, hts⟩ (m_draw l dC dI cy _ vnh vo voth vmt votp vosz volm voto vofr vokd vonu vosg vofa vopl vowd votd vmn vmr vmk vms vma vmm vmrn vmkn vmik vmon vosm vohp vmw vmf vmb vomb vmd vmc vocm voct vocy vmx votx vose vml vmwr voln vohw vmno vond voon vowi votop vmnf 6 ⟨by omega, by omega⟩ p_vmnf) (cw_X11_355 hts rfl rfl ⟨Nat.le_of_ble_eq_true rfl, Nat.le_of_ble_eq_true rfl⟩) hP hD hK [0, 1] rfl rfl rfl rfl bl0 e0 rfl hl.1 rfl (Nat.le_of_ble_eq_true rfl) dX11_drawsFor_3 ⟨Nat.le_of_ble_eq_true rfl, Nat.le_of_ble_eq_true rfl⟩) hP hD hS hA [0, 1] [] rfl rfl rfl (by decide) (fun r_1 u_3 H locs hp_2 hP hD hS => ?_)
  obtain ⟨vose_4, rfl⟩ : ∃ z, z = u_3 := ⟨_, rfl⟩
  have hp_2 : (0 ≤ (r_1 : Int32).toInt ∧ (r_1 : Int32).toInt ≤ 9) ∧ ((r_1 : Int32).toInt < (6 : Int32).toInt) := hp_2
  obtain ⟨q_5, q_6⟩ := hp_2
  have hP : va_P (dC, dI) vwCl [(vo, .inr (12, [.int voth, .ref vmt, .int votp, .int vosz, .int volm, .int voto, .int vofr, .int vokd, .int vonu, .int vosg, .int vofa, .int vopl, .long vowd, .int votd, .ref vmn, .ref vmr, .ref vmk, .ref vms, .ref vma, .ref vmm, .ref vmrn, .ref vmkn, .ref vmik, .ref vmon, .int vosm, .int vohp, .ref vmw, .ref vmf, .ref vmb, .int vomb, .ref vmd, .ref vmc, .int vocm, .int voct, .int vocy, .ref vmx, .int votx, .int vose_4, .ref vml, .ref vmwr, .int voln, .int vohw, .ref vmno, .int vond, .int voon, .int vowi, .int votop])), (vmn, .inl (cy 0, 575, .inl vmnf))] H := hP
  have hD : va_D A [(vo, .inr (12, [.int voth, .ref vmt, .int votp, .int vosz, .int volm, .int voto, .int vofr, .int vokd, .int vonu, .int vosg, .int vofa, .int vopl, .long vowd, .int votd, .ref vmn, .ref vmr, .ref vmk, .ref vms, .ref vma, .ref vmm, .ref vmrn, .ref vmkn, .ref vmik, .ref vmon, .int vosm, .int vohp, .ref vmw, .ref vmf, .ref vmb, .int vomb, .ref vmd, .ref vmc, .int vocm, .int voct, .int vocy, .ref vmx, .int votx, .int vose_4, .ref vml, .ref vmwr, .int voln, .int vohw, .ref vmno, .int vond, .int voon, .int vowi, .int votop])), (vmn, .inl (cy 0, 575, .inl vmnf))] := hD
  refine lv_istore_n (lv' := [(2, .int r_1), (0, .ref vo), (1, .int vm)]) hx hb dX11_drawsFor_6 rfl hl (by decide) rfl (fun ls hl => ?_)
  refine lv_iload_n hx hb dX11_drawsFor_7 rfl (lv_at hl 0 rfl) ?_
  refine lv_iconst (v := 2) hx hb dX11_drawsFor_8 (by decide) ?_
  have k_2 : (2 : Int32).toInt = 2 := by decide
  refine lv_icmp_ne (tgt := 25) hx hb dX11_drawsFor_9 (by decide) (fun c_7 => ?_) (fun c_7 => ?_)
  · skip
    have c_7 : ¬ (r_1.toInt = (2 : Int32).toInt) := fun h9 => c_7 (i_eq.mpr h9)
    refine lv_iconst (v := 0) hx hb dX11_drawsFor_25 (by decide) ?_
    refine lv_istore_n (lv' := [(3, .int 0), (2, .int r_1), (0, .ref vo), (1, .int vm)]) hx hb dX11_drawsFor_26 rfl hl (by decide) rfl (fun ls hl => ?_)
    have join8 : ∀ (g_9 : Nat → Int32), NW vnh g_9 → ∀ (H : Heap) (locs : List Loc), va_P (dC, dI) vwCl [(vo, .inr (12, [.int voth, .ref vmt, .int votp, .int vosz, .int volm, .int voto, .int vofr, .int vokd, .int vonu, .int vosg, .int vofa, .int vopl, .long vowd, .int votd, .ref vmn, .ref vmr, .ref vmk, .ref vms, .ref vma, .ref vmm, .ref vmrn, .ref vmkn, .ref vmik, .ref vmon, .int vosm, .int vohp, .ref vmw, .ref vmf, .ref vmb, .int vomb, .ref vmd, .ref vmc, .int vocm, .int voct, .int vocy, .ref vmx, .int votx, .int vose_4, .ref vml, .ref vmwr, .int voln, .int vohw, .ref vmno, .int vond, .int voon, .int vowi, .int votop])), (vmn, .inl (cy 0, 575, .inl g_9))] H → va_D A [(vo, .inr (12, [.int voth, .ref vmt, .int votp, .int vosz, .int volm, .int voto, .int vofr, .int vokd, .int vonu, .int vosg, .int vofa, .int vopl, .long vowd, .int votd, .ref vmn, .ref vmr, .ref vmk, .ref vms, .ref vma, .ref vmm, .ref vmrn, .ref vmkn, .ref vmik, .ref vmon, .int vosm, .int vohp, .ref vmw, .ref vmf, .ref vmb, .int vomb, .ref vmd, .ref vmc, .int vocm, .int voct, .int vocy, .ref vmx, .int votx, .int vose_4, .ref vml, .ref vmwr, .int voln, .int vohw, .ref vmno, .int vond, .int voon, .int vowi, .int votop])), (vmn, .inl (cy 0, 575, .inl g_9))] → va_S A s.heap H locs → ∀ ls : Array Slot, lv_has ls 7 [(3, .int 0), (2, .int r_1), (0, .ref vo), (1, .int vm)] → W p l e ({ frames := 5, cells := 0, slots := 0, locals := 320 }) s m av9 below meth c H locs 0 0 Q9 (F0 m 51 ls []) := by
      intro g_9 p_g_9 H locs hP hD hS ls hl
      refine lv_iload_n hx hb dX11_drawsFor_51 rfl (lv_at hl 1 rfl) ?_
      refine lv_iconst (v := 2) hx hb dX11_drawsFor_52 (by decide) ?_
      refine lv_icmp_gt (tgt := 65) hx hb dX11_drawsFor_53 (by decide) (fun c_10 => ?_) (fun c_10 => ?_)
      · skip
        have c_10 : (2 : Int32).toInt < r_1.toInt := i_lt.mp c_10
        rw [hQ9]
        exact re_v (g_9, vose_4) hx hb hr hlocks (show NW vnh g_9 from p_g_9) (hP.sub [0, 1] rfl) (hD.sub [0, 1] rfl rfl) hS dX11_drawsFor_65
      · skip
        have c_10 : ¬ ((2 : Int32).toInt < r_1.toInt) := fun h9 => c_10 (i_lt.mpr h9)
        refine lv_aload_n hx hb dX11_drawsFor_56 rfl (lv_at hl 2 rfl) ?_
        refine gf_X11_98 hx hb hts hown hK hP 0 rfl rfl dX11_drawsFor_57 ?_
        refine lv_iconst (v := 1) hx hb dX11_drawsFor_60 (by decide) ?_
        have k_1 : (1 : Int32).toInt = 1 := by decide
        have hin_11 : vp_in (1 : Int32) 575 := vp_in_iff.mpr ⟨by omega, by omega⟩
        refine va_iald hx hb hK hP 1 0 rfl rfl hin_11 dX11_drawsFor_61 ?_
        refine lv_topi (fun z_12 ez_12 => ?_)
        have bz_12 := p_g_9.a1 (x := 1) ⟨by omega, by omega⟩ ez_12
        have tz_12 : z_12.toInt = (g_9 1).toInt := by rw [ez_12]; rfl
        have k_0 : (0 : Int32).toInt = 0 := by decide
        refine lv_if_ne (tgt := 66) hx hb dX11_drawsFor_62 (by decide) (fun c_13 => ?_) (fun c_13 => ?_)
        · skip
          have c_13 : ¬ (z_12.toInt = (0 : Int32).toInt) := fun h9 => c_13 (i_eq.mpr h9)
          refine lv_aload_n hx hb dX11_drawsFor_66 rfl (lv_at hl 2 rfl) ?_
          refine lv_aload_n hx hb dX11_drawsFor_67 rfl (lv_at hl 2 rfl) ?_
          refine gf_X11_98 hx hb hts hown hK hP 0 rfl rfl dX11_drawsFor_68 ?_
          refine lv_iconst (v := 1) hx hb dX11_drawsFor_71 (by decide) ?_
          have hin_14 : vp_in (1 : Int32) 575 := vp_in_iff.mpr ⟨by omega, by omega⟩
          refine va_iald hx hb hK hP 1 0 rfl rfl hin_14 dX11_drawsFor_72 ?_
          refine lv_topi (fun z_15 ez_15 => ?_)
          have bz_15 := p_g_9.a1 (x := 1) ⟨by omega, by omega⟩ ez_15
          have tz_15 : z_15.toInt = (g_9 1).toInt := by rw [ez_15]; rfl
          refine jn_i (wr := []) (rV (As := [.int z_15]) (rest := []) (ci := 12) ⟨hx, hb, hml, hown, hts⟩ (m_draw l dC dI cy _ vnh vo voth vmt votp vosz volm voto vofr vokd vonu vosg vofa vopl vowd votd vmn vmr vmk vms vma vmm vmrn vmkn vmik vmon vosm vohp vmw vmf vmb vomb vmd vmc vocm voct vocy vmx votx vose_4 vml vmwr voln vohw vmno vond voon vowi votop g_9 z_15 ⟨by omega, by omega⟩ p_g_9) (cw_X11_355 hts rfl rfl ⟨Nat.le_of_ble_eq_true rfl, Nat.le_of_ble_eq_true rfl⟩) hP hD hK [0, 1] rfl rfl rfl rfl bl0 e0 rfl hl.1 rfl (Nat.le_of_ble_eq_true rfl) dX11_drawsFor_73 ⟨Nat.le_of_ble_eq_true rfl, Nat.le_of_ble_eq_true rfl⟩) hP hD hS hA [0, 1] [] rfl rfl rfl (by decide) (fun r_16 u_18 H locs hp_17 hP hD hS => ?_)
          obtain ⟨vose_19, rfl⟩ : ∃ z, z = u_18 := ⟨_, rfl⟩
          have hp_17 : (0 ≤ (r_16 : Int32).toInt ∧ (r_16 : Int32).toInt ≤ 9) ∧ ((r_16 : Int32).toInt < (z_15 : Int32).toInt) := hp_17
          obtain ⟨q_20, q_21⟩ := hp_17
          have hP : va_P (dC, dI) vwCl [(vo, .inr (12, [.int voth, .ref vmt, .int votp, .int vosz, .int volm, .int voto, .int vofr, .int vokd, .int vonu, .int vosg, .int vofa, .int vopl, .long vowd, .int votd, .ref vmn, .ref vmr, .ref vmk, .ref vms, .ref vma, .ref vmm, .ref vmrn, .ref vmkn, .ref vmik, .ref vmon, .int vosm, .int vohp, .ref vmw, .ref vmf, .ref vmb, .int vomb, .ref vmd, .ref vmc, .int vocm, .int voct, .int vocy, .ref vmx, .int votx, .int vose_19, .ref vml, .ref vmwr, .int voln, .int vohw, .ref vmno, .int vond, .int voon, .int vowi, .int votop])), (vmn, .inl (cy 0, 575, .inl g_9))] H := hP
          have hD : va_D A [(vo, .inr (12, [.int voth, .ref vmt, .int votp, .int vosz, .int volm, .int voto, .int vofr, .int vokd, .int vonu, .int vosg, .int vofa, .int vopl, .long vowd, .int votd, .ref vmn, .ref vmr, .ref vmk, .ref vms, .ref vma, .ref vmm, .ref vmrn, .ref vmkn, .ref vmik, .ref vmon, .int vosm, .int vohp, .ref vmw, .ref vmf, .ref vmb, .int vomb, .ref vmd, .ref vmc, .int vocm, .int voct, .int vocy, .ref vmx, .int votx, .int vose_19, .ref vml, .ref vmwr, .int voln, .int vohw, .ref vmno, .int vond, .int voon, .int vowi, .int votop])), (vmn, .inl (cy 0, 575, .inl g_9))] := hD
          refine lv_istore (lv' := [(4, .int r_16), (3, .int 0), (2, .int r_1), (0, .ref vo), (1, .int vm)]) hx hb dX11_drawsFor_76 hl (by decide) rfl (fun ls hl => ?_)
          refine lv_iload_n hx hb dX11_drawsFor_78 rfl (lv_at hl 2 rfl) ?_
          refine lv_iconst (v := 2) hx hb dX11_drawsFor_79 (by decide) ?_
          refine lv_icmp_ne (tgt := 87) hx hb dX11_drawsFor_80 (by decide) (fun c_22 => ?_) (fun c_22 => ?_)
          · skip
            have c_22 : ¬ (r_1.toInt = (2 : Int32).toInt) := fun h9 => c_22 (i_eq.mpr h9)
            refine lv_iconst (v := 0) hx hb dX11_drawsFor_87 (by decide) ?_
            refine lv_istore (lv' := [(5, .int 0), (4, .int r_16), (3, .int 0), (2, .int r_1), (0, .ref vo), (1, .int vm)]) hx hb dX11_drawsFor_88 hl (by decide) rfl (fun ls hl => ?_)
            refine lv_iload_n hx hb dX11_drawsFor_90 rfl (lv_at hl 3 rfl) ?_
            refine lv_iconst (v := 2) hx hb dX11_drawsFor_91 (by decide) ?_
            refine lv_icmp_ne (tgt := 99) hx hb dX11_drawsFor_92 (by decide) (fun _ => ?_) (fun c9 => absurd (i_eq.mp c9) (by omega))
            refine lv_iload hx hb dX11_drawsFor_99 (lv_at hl 1 rfl) ?_
            refine lv_istore (lv' := [(6, .int r_16), (5, .int 0), (4, .int r_16), (3, .int 0), (2, .int r_1), (0, .ref vo), (1, .int vm)]) hx hb dX11_drawsFor_101 hl (by decide) rfl (fun ls hl => ?_)
            refine lv_aload_n hx hb dX11_drawsFor_103 rfl (lv_at hl 5 rfl) ?_
            refine lv_iload hx hb dX11_drawsFor_104 (lv_at hl 1 rfl) ?_
            refine lv_iload_n hx hb dX11_drawsFor_106 rfl (lv_at hl 6 rfl) ?_
            refine lv_iload hx hb dX11_drawsFor_107 (lv_at hl 0 rfl) ?_
            refine lv_iload hx hb dX11_drawsFor_109 (lv_at hl 2 rfl) ?_
            refine jr_i (rVr (As := [.int 0, .int vm, .int r_16, .int r_16]) (rest := []) (ci := 12) ⟨hx, hb, hml, hown, hts⟩ (m_why l dC dI cy vnh vo voth vmt votp vosz volm voto vofr vokd vonu vosg vofa vopl vowd votd vmn vmr vmk vms vma vmm vmrn vmkn vmik vmon vosm vohp vmw vmf vmb vomb vmd vmc vocm voct vocy vmx votx vose_19 vml vmwr voln vohw vmno vond voon vowi votop g_9 0 vm r_16 r_16 ⟨by omega, by omega⟩ ⟨by omega, by omega⟩ ⟨by omega, by omega⟩ p_g_9) (cw_X11_274 hts rfl rfl ⟨Nat.le_of_ble_eq_true rfl, Nat.le_of_ble_eq_true rfl⟩) hP hK [0, 1] rfl rfl rfl rfl hl.1 rfl (Nat.le_of_ble_eq_true rfl) dX11_drawsFor_111 ⟨Nat.le_of_ble_eq_true rfl, Nat.le_of_ble_eq_true rfl⟩) hP hS (fun r_23 H locs hp_24 hP hS => ?_)
            have hp_24 : (0 ≤ (r_23 : Int32).toInt ∧ (r_23 : Int32).toInt ≤ 3) := hp_24
            have q_25 := hp_24
            refine lv_if_ne (tgt := 128) hx hb dX11_drawsFor_114 (by decide) (fun c_26 => ?_) (fun c_26 => ?_)
            · skip
              have c_26 : ¬ (r_23.toInt = (0 : Int32).toInt) := fun h9 => c_26 (i_eq.mpr h9)
              rw [hQ9]
              exact re_v (g_9, vose_19) hx hb hr hlocks (show NW vnh g_9 from p_g_9) (hP.sub [0, 1] rfl) (hD.sub [0, 1] rfl rfl) hS dX11_drawsFor_128
            · skip
              have c_26 : r_23.toInt = (0 : Int32).toInt := i_eq.mp c_26
              refine lv_aload_n hx hb dX11_drawsFor_117 rfl (lv_at hl 5 rfl) ?_
              refine lv_iload hx hb dX11_drawsFor_118 (lv_at hl 1 rfl) ?_
              refine lv_iload_n hx hb dX11_drawsFor_120 rfl (lv_at hl 6 rfl) ?_
              refine lv_iload hx hb dX11_drawsFor_121 (lv_at hl 0 rfl) ?_
              refine lv_iload hx hb dX11_drawsFor_123 (lv_at hl 2 rfl) ?_
              refine jn_v (wr := []) (rV (As := [.int 0, .int vm, .int r_16, .int r_16]) (rest := []) (ci := 12) ⟨hx, hb, hml, hown, hts⟩ (m_live l dC dI cy _ vnh vo voth vmt votp vosz volm voto vofr vokd vonu vosg vofa vopl vowd votd vmn vmr vmk vms vma vmm vmrn vmkn vmik vmon vosm vohp vmw vmf vmb vomb vmd vmc vocm voct vocy vmx votx vose_19 vml vmwr voln vohw vmno vond voon vowi votop g_9 0 vm r_16 r_16 r_vm ⟨by omega, by omega⟩ ⟨by omega, by omega⟩ p_g_9) (cw_X11_281 hts rfl rfl ⟨Nat.le_of_ble_eq_true rfl, Nat.le_of_ble_eq_true rfl⟩) hP hD hK [0, 1] rfl rfl rfl rfl bl0 e0 rfl hl.1 rfl (Nat.le_of_ble_eq_true rfl) dX11_drawsFor_125 ⟨Nat.le_of_ble_eq_true rfl, Nat.le_of_ble_eq_true rfl⟩) hP hD hS hA [0, 1] [] rfl rfl rfl (by decide) (fun u_29 H locs hp_28 hP hD hS => ?_)
              obtain ⟨vmnf_30, rfl⟩ : ∃ z, z = u_29 := ⟨_, rfl⟩
              have hp_28 : (NW vnh vmnf_30) := hp_28
              have q_31 := hp_28
              have hP : va_P (dC, dI) vwCl [(vo, .inr (12, [.int voth, .ref vmt, .int votp, .int vosz, .int volm, .int voto, .int vofr, .int vokd, .int vonu, .int vosg, .int vofa, .int vopl, .long vowd, .int votd, .ref vmn, .ref vmr, .ref vmk, .ref vms, .ref vma, .ref vmm, .ref vmrn, .ref vmkn, .ref vmik, .ref vmon, .int vosm, .int vohp, .ref vmw, .ref vmf, .ref vmb, .int vomb, .ref vmd, .ref vmc, .int vocm, .int voct, .int vocy, .ref vmx, .int votx, .int vose_19, .ref vml, .ref vmwr, .int voln, .int vohw, .ref vmno, .int vond, .int voon, .int vowi, .int votop])), (vmn, .inl (cy 0, 575, .inl vmnf_30))] H := hP
              have hD : va_D A [(vo, .inr (12, [.int voth, .ref vmt, .int votp, .int vosz, .int volm, .int voto, .int vofr, .int vokd, .int vonu, .int vosg, .int vofa, .int vopl, .long vowd, .int votd, .ref vmn, .ref vmr, .ref vmk, .ref vms, .ref vma, .ref vmm, .ref vmrn, .ref vmkn, .ref vmik, .ref vmon, .int vosm, .int vohp, .ref vmw, .ref vmf, .ref vmb, .int vomb, .ref vmd, .ref vmc, .int vocm, .int voct, .int vocy, .ref vmx, .int votx, .int vose_19, .ref vml, .ref vmwr, .int voln, .int vohw, .ref vmno, .int vond, .int voon, .int vowi, .int votop])), (vmn, .inl (cy 0, 575, .inl vmnf_30))] := hD
              rw [hQ9]
              exact re_v (vmnf_30, vose_19) hx hb hr hlocks (show NW vnh vmnf_30 from q_31) (hP.sub [0, 1] rfl) (hD.sub [0, 1] rfl rfl) hS dX11_drawsFor_128
          · skip
            have c_22 : r_1.toInt = (2 : Int32).toInt := i_eq.mp c_22
            refine lv_iconst (v := 1) hx hb dX11_drawsFor_83 (by decide) ?_
            refine lv_goto (tgt := 88) hx hb dX11_drawsFor_84 (by decide) ?_
            refine lv_istore (lv' := [(5, .int 1), (4, .int r_16), (3, .int 0), (2, .int r_1), (0, .ref vo), (1, .int vm)]) hx hb dX11_drawsFor_88 hl (by decide) rfl (fun ls hl => ?_)
            refine lv_iload_n hx hb dX11_drawsFor_90 rfl (lv_at hl 3 rfl) ?_
            refine lv_iconst (v := 2) hx hb dX11_drawsFor_91 (by decide) ?_
            refine lv_icmp_ne (tgt := 99) hx hb dX11_drawsFor_92 (by decide) (fun c9 => (c9 (i_eq.mpr (by omega))).elim) (fun _ => ?_)
            refine lv_iload_n hx hb dX11_drawsFor_95 rfl (lv_at hl 2 rfl) ?_
            refine lv_goto (tgt := 101) hx hb dX11_drawsFor_96 (by decide) ?_
            refine lv_istore (lv' := [(6, .int 0), (5, .int 1), (4, .int r_16), (3, .int 0), (2, .int r_1), (0, .ref vo), (1, .int vm)]) hx hb dX11_drawsFor_101 hl (by decide) rfl (fun ls hl => ?_)
            refine lv_aload_n hx hb dX11_drawsFor_103 rfl (lv_at hl 5 rfl) ?_
            refine lv_iload hx hb dX11_drawsFor_104 (lv_at hl 1 rfl) ?_
            refine lv_iload_n hx hb dX11_drawsFor_106 rfl (lv_at hl 6 rfl) ?_
            refine lv_iload hx hb dX11_drawsFor_107 (lv_at hl 0 rfl) ?_
            refine lv_iload hx hb dX11_drawsFor_109 (lv_at hl 2 rfl) ?_
            refine jr_i (rVr (As := [.int 1, .int vm, .int 0, .int r_16]) (rest := []) (ci := 12) ⟨hx, hb, hml, hown, hts⟩ (m_why l dC dI cy vnh vo voth vmt votp vosz volm voto vofr vokd vonu vosg vofa vopl vowd votd vmn vmr vmk vms vma vmm vmrn vmkn vmik vmon vosm vohp vmw vmf vmb vomb vmd vmc vocm voct vocy vmx votx vose_19 vml vmwr voln vohw vmno vond voon vowi votop g_9 1 vm 0 r_16 ⟨by omega, by omega⟩ ⟨by omega, by omega⟩ ⟨by omega, by omega⟩ p_g_9) (cw_X11_274 hts rfl rfl ⟨Nat.le_of_ble_eq_true rfl, Nat.le_of_ble_eq_true rfl⟩) hP hK [0, 1] rfl rfl rfl rfl hl.1 rfl (Nat.le_of_ble_eq_true rfl) dX11_drawsFor_111 ⟨Nat.le_of_ble_eq_true rfl, Nat.le_of_ble_eq_true rfl⟩) hP hS (fun r_32 H locs hp_33 hP hS => ?_)
            have hp_33 : (0 ≤ (r_32 : Int32).toInt ∧ (r_32 : Int32).toInt ≤ 3) := hp_33
            have q_34 := hp_33
            refine lv_if_ne (tgt := 128) hx hb dX11_drawsFor_114 (by decide) (fun c_35 => ?_) (fun c_35 => ?_)
            · skip
              have c_35 : ¬ (r_32.toInt = (0 : Int32).toInt) := fun h9 => c_35 (i_eq.mpr h9)
              rw [hQ9]
              exact re_v (g_9, vose_19) hx hb hr hlocks (show NW vnh g_9 from p_g_9) (hP.sub [0, 1] rfl) (hD.sub [0, 1] rfl rfl) hS dX11_drawsFor_128
            · skip
              have c_35 : r_32.toInt = (0 : Int32).toInt := i_eq.mp c_35
              refine lv_aload_n hx hb dX11_drawsFor_117 rfl (lv_at hl 5 rfl) ?_
              refine lv_iload hx hb dX11_drawsFor_118 (lv_at hl 1 rfl) ?_
              refine lv_iload_n hx hb dX11_drawsFor_120 rfl (lv_at hl 6 rfl) ?_
              refine lv_iload hx hb dX11_drawsFor_121 (lv_at hl 0 rfl) ?_
              refine lv_iload hx hb dX11_drawsFor_123 (lv_at hl 2 rfl) ?_
              refine jn_v (wr := []) (rV (As := [.int 1, .int vm, .int 0, .int r_16]) (rest := []) (ci := 12) ⟨hx, hb, hml, hown, hts⟩ (m_live l dC dI cy _ vnh vo voth vmt votp vosz volm voto vofr vokd vonu vosg vofa vopl vowd votd vmn vmr vmk vms vma vmm vmrn vmkn vmik vmon vosm vohp vmw vmf vmb vomb vmd vmc vocm voct vocy vmx votx vose_19 vml vmwr voln vohw vmno vond voon vowi votop g_9 1 vm 0 r_16 r_vm ⟨by omega, by omega⟩ ⟨by omega, by omega⟩ p_g_9) (cw_X11_281 hts rfl rfl ⟨Nat.le_of_ble_eq_true rfl, Nat.le_of_ble_eq_true rfl⟩) hP hD hK [0, 1] rfl rfl rfl rfl bl0 e0 rfl hl.1 rfl (Nat.le_of_ble_eq_true rfl) dX11_drawsFor_125 ⟨Nat.le_of_ble_eq_true rfl, Nat.le_of_ble_eq_true rfl⟩) hP hD hS hA [0, 1] [] rfl rfl rfl (by decide) (fun u_38 H locs hp_37 hP hD hS => ?_)
              obtain ⟨vmnf_39, rfl⟩ : ∃ z, z = u_38 := ⟨_, rfl⟩
              have hp_37 : (NW vnh vmnf_39) := hp_37
              have q_40 := hp_37
              have hP : va_P (dC, dI) vwCl [(vo, .inr (12, [.int voth, .ref vmt, .int votp, .int vosz, .int volm, .int voto, .int vofr, .int vokd, .int vonu, .int vosg, .int vofa, .int vopl, .long vowd, .int votd, .ref vmn, .ref vmr, .ref vmk, .ref vms, .ref vma, .ref vmm, .ref vmrn, .ref vmkn, .ref vmik, .ref vmon, .int vosm, .int vohp, .ref vmw, .ref vmf, .ref vmb, .int vomb, .ref vmd, .ref vmc, .int vocm, .int voct, .int vocy, .ref vmx, .int votx, .int vose_19, .ref vml, .ref vmwr, .int voln, .int vohw, .ref vmno, .int vond, .int voon, .int vowi, .int votop])), (vmn, .inl (cy 0, 575, .inl vmnf_39))] H := hP
              have hD : va_D A [(vo, .inr (12, [.int voth, .ref vmt, .int votp, .int vosz, .int volm, .int voto, .int vofr, .int vokd, .int vonu, .int vosg, .int vofa, .int vopl, .long vowd, .int votd, .ref vmn, .ref vmr, .ref vmk, .ref vms, .ref vma, .ref vmm, .ref vmrn, .ref vmkn, .ref vmik, .ref vmon, .int vosm, .int vohp, .ref vmw, .ref vmf, .ref vmb, .int vomb, .ref vmd, .ref vmc, .int vocm, .int voct, .int vocy, .ref vmx, .int votx, .int vose_19, .ref vml, .ref vmwr, .int voln, .int vohw, .ref vmno, .int vond, .int voon, .int vowi, .int votop])), (vmn, .inl (cy 0, 575, .inl vmnf_39))] := hD
              rw [hQ9]
              exact re_v (vmnf_39, vose_19) hx hb hr hlocks (show NW vnh vmnf_39 from q_40) (hP.sub [0, 1] rfl) (hD.sub [0, 1] rfl rfl) hS dX11_drawsFor_128
        · skip
          have c_13 : z_12.toInt = (0 : Int32).toInt := i_eq.mp c_13
          rw [hQ9]
          exact re_v (g_9, vose_4) hx hb hr hlocks (show NW vnh g_9 from p_g_9) (hP.sub [0, 1] rfl) (hD.sub [0, 1] rfl rfl) hS dX11_drawsFor_65
    refine lv_iload_n hx hb dX11_drawsFor_27 rfl (lv_at hl 1 rfl) ?_
    refine lv_iconst (v := 3) hx hb dX11_drawsFor_28 (by decide) ?_
    have k_3 : (3 : Int32).toInt = 3 := by decide
    refine lv_icmp_ne (tgt := 51) hx hb dX11_drawsFor_29 (by decide) (fun c_41 => ?_) (fun c_41 => ?_)
    · skip
      have c_41 : ¬ (r_1.toInt = (3 : Int32).toInt) := fun h9 => c_41 (i_eq.mpr h9)
      exact join8 vmnf p_vmnf _ _ (hP.sub [0, 1] rfl) (hD.sub [0, 1] rfl rfl) hS ls (lv_sub hl [0, 1, 2, 3] rfl)
    · skip
      have c_41 : r_1.toInt = (3 : Int32).toInt := i_eq.mp c_41
      refine lv_aload_n hx hb dX11_drawsFor_32 rfl (lv_at hl 2 rfl) ?_
      refine lv_iconst (v := 5) hx hb dX11_drawsFor_33 (by decide) ?_
      refine lv_iload_n hx hb dX11_drawsFor_34 rfl (lv_at hl 3 rfl) ?_
      refine lv_iconst (v := 0) hx hb dX11_drawsFor_35 (by decide) ?_
      refine lv_iconst (v := 0) hx hb dX11_drawsFor_36 (by decide) ?_
      have k_5 : (5 : Int32).toInt = 5 := by decide
      have k_0 : (0 : Int32).toInt = 0 := by decide
      refine jr_i (rVr (As := [.int 5, .int vm, .int 0, .int 0]) (rest := []) (ci := 12) ⟨hx, hb, hml, hown, hts⟩ (m_why l dC dI cy vnh vo voth vmt votp vosz volm voto vofr vokd vonu vosg vofa vopl vowd votd vmn vmr vmk vms vma vmm vmrn vmkn vmik vmon vosm vohp vmw vmf vmb vomb vmd vmc vocm voct vocy vmx votx vose_4 vml vmwr voln vohw vmno vond voon vowi votop vmnf 5 vm 0 0 ⟨by omega, by omega⟩ ⟨by omega, by omega⟩ ⟨by omega, by omega⟩ p_vmnf) (cw_X11_274 hts rfl rfl ⟨Nat.le_of_ble_eq_true rfl, Nat.le_of_ble_eq_true rfl⟩) hP hK [0, 1] rfl rfl rfl rfl hl.1 rfl (Nat.le_of_ble_eq_true rfl) dX11_drawsFor_37 ⟨Nat.le_of_ble_eq_true rfl, Nat.le_of_ble_eq_true rfl⟩) hP hS (fun r_42 H locs hp_43 hP hS => ?_)
      have hp_43 : (0 ≤ (r_42 : Int32).toInt ∧ (r_42 : Int32).toInt ≤ 3) := hp_43
      have q_44 := hp_43
      refine lv_if_ne (tgt := 51) hx hb dX11_drawsFor_40 (by decide) (fun c_45 => ?_) (fun c_45 => ?_)
      · skip
        have c_45 : ¬ (r_42.toInt = (0 : Int32).toInt) := fun h9 => c_45 (i_eq.mpr h9)
        exact join8 vmnf p_vmnf _ _ (hP.sub [0, 1] rfl) (hD.sub [0, 1] rfl rfl) hS ls (lv_sub hl [0, 1, 2, 3] rfl)
      · skip
        have c_45 : r_42.toInt = (0 : Int32).toInt := i_eq.mp c_45
        refine lv_aload_n hx hb dX11_drawsFor_43 rfl (lv_at hl 2 rfl) ?_
        refine lv_iconst (v := 5) hx hb dX11_drawsFor_44 (by decide) ?_
        refine lv_iload_n hx hb dX11_drawsFor_45 rfl (lv_at hl 3 rfl) ?_
        refine lv_iconst (v := 0) hx hb dX11_drawsFor_46 (by decide) ?_
        refine lv_iconst (v := 0) hx hb dX11_drawsFor_47 (by decide) ?_
        refine jn_v (wr := []) (rV (As := [.int 5, .int vm, .int 0, .int 0]) (rest := []) (ci := 12) ⟨hx, hb, hml, hown, hts⟩ (m_live l dC dI cy _ vnh vo voth vmt votp vosz volm voto vofr vokd vonu vosg vofa vopl vowd votd vmn vmr vmk vms vma vmm vmrn vmkn vmik vmon vosm vohp vmw vmf vmb vomb vmd vmc vocm voct vocy vmx votx vose_4 vml vmwr voln vohw vmno vond voon vowi votop vmnf 5 vm 0 0 r_vm ⟨by omega, by omega⟩ ⟨by omega, by omega⟩ p_vmnf) (cw_X11_281 hts rfl rfl ⟨Nat.le_of_ble_eq_true rfl, Nat.le_of_ble_eq_true rfl⟩) hP hD hK [0, 1] rfl rfl rfl rfl bl0 e0 rfl hl.1 rfl (Nat.le_of_ble_eq_true rfl) dX11_drawsFor_48 ⟨Nat.le_of_ble_eq_true rfl, Nat.le_of_ble_eq_true rfl⟩) hP hD hS hA [0, 1] [] rfl rfl rfl (by decide) (fun u_48 H locs hp_47 hP hD hS => ?_)
        obtain ⟨vmnf_49, rfl⟩ : ∃ z, z = u_48 := ⟨_, rfl⟩
        have hp_47 : (NW vnh vmnf_49) := hp_47
        have q_50 := hp_47
        have hP : va_P (dC, dI) vwCl [(vo, .inr (12, [.int voth, .ref vmt, .int votp, .int vosz, .int volm, .int voto, .int vofr, .int vokd, .int vonu, .int vosg, .int vofa, .int vopl, .long vowd, .int votd, .ref vmn, .ref vmr, .ref vmk, .ref vms, .ref vma, .ref vmm, .ref vmrn, .ref vmkn, .ref vmik, .ref vmon, .int vosm, .int vohp, .ref vmw, .ref vmf, .ref vmb, .int vomb, .ref vmd, .ref vmc, .int vocm, .int voct, .int vocy, .ref vmx, .int votx, .int vose_4, .ref vml, .ref vmwr, .int voln, .int vohw, .ref vmno, .int vond, .int voon, .int vowi, .int votop])), (vmn, .inl (cy 0, 575, .inl vmnf_49))] H := hP
        have hD : va_D A [(vo, .inr (12, [.int voth, .ref vmt, .int votp, .int vosz, .int volm, .int voto, .int vofr, .int vokd, .int vonu, .int vosg, .int vofa, .int vopl, .long vowd, .int votd, .ref vmn, .ref vmr, .ref vmk, .ref vms, .ref vma, .ref vmm, .ref vmrn, .ref vmkn, .ref vmik, .ref vmon, .int vosm, .int vohp, .ref vmw, .ref vmf, .ref vmb, .int vomb, .ref vmd, .ref vmc, .int vocm, .int voct, .int vocy, .ref vmx, .int votx, .int vose_4, .ref vml, .ref vmwr, .int voln, .int vohw, .ref vmno, .int vond, .int voon, .int vowi, .int votop])), (vmn, .inl (cy 0, 575, .inl vmnf_49))] := hD
        exact join8 vmnf_49 q_50 _ _ (hP.sub [0, 1] rfl) (hD.sub [0, 1] rfl rfl) hS ls (lv_sub hl [0, 1, 2, 3] rfl)
  · skip
    have c_7 : r_1.toInt = (2 : Int32).toInt := i_eq.mp c_7
    refine lv_aload_n hx hb dX11_drawsFor_12 rfl (lv_at hl 1 rfl) ?_
    refine lv_aload_n hx hb dX11_drawsFor_13 rfl (lv_at hl 1 rfl) ?_
    refine gf_X11_98 hx hb hts hown hK hP 0 rfl rfl dX11_drawsFor_14 ?_
    refine lv_iconst (v := 0) hx hb dX11_drawsFor_17 (by decide) ?_
    have k_0 : (0 : Int32).toInt = 0 := by decide
    have hin_51 : vp_in (0 : Int32) 575 := vp_in_iff.mpr ⟨by omega, by omega⟩
    refine va_iald hx hb hK hP 1 0 rfl rfl hin_51 dX11_drawsFor_18 ?_
    refine lv_topi (fun z_52 ez_52 => ?_)
    have bz_52 := p_vmnf.a0 (x := 0) ⟨by omega, by omega⟩ ez_52
    have tz_52 : z_52.toInt = (vmnf 0).toInt := by rw [ez_52]; rfl
    refine jn_i (wr := []) (rV (As := [.int z_52]) (rest := []) (ci := 12) ⟨hx, hb, hml, hown, hts⟩ (m_draw l dC dI cy _ vnh vo voth vmt votp vosz volm voto vofr vokd vonu vosg vofa vopl vowd votd vmn vmr vmk vms vma vmm vmrn vmkn vmik vmon vosm vohp vmw vmf vmb vomb vmd vmc vocm voct vocy vmx votx vose_4 vml vmwr voln vohw vmno vond voon vowi votop vmnf z_52 ⟨by omega, by omega⟩ p_vmnf) (cw_X11_355 hts rfl rfl ⟨Nat.le_of_ble_eq_true rfl, Nat.le_of_ble_eq_true rfl⟩) hP hD hK [0, 1] rfl rfl rfl rfl bl0 e0 rfl hl.1 rfl (Nat.le_of_ble_eq_true rfl) dX11_drawsFor_19 ⟨Nat.le_of_ble_eq_true rfl, Nat.le_of_ble_eq_true rfl⟩) hP hD hS hA [0, 1] [] rfl rfl rfl (by decide) (fun r_53 u_55 H locs hp_54 hP hD hS => ?_)
    obtain ⟨vose_56, rfl⟩ : ∃ z, z = u_55 := ⟨_, rfl⟩
    have hp_54 : (0 ≤ (r_53 : Int32).toInt ∧ (r_53 : Int32).toInt ≤ 9) ∧ ((r_53 : Int32).toInt < (z_52 : Int32).toInt) := hp_54
    obtain ⟨q_57, q_58⟩ := hp_54
    have hP : va_P (dC, dI) vwCl [(vo, .inr (12, [.int voth, .ref vmt, .int votp, .int vosz, .int volm, .int voto, .int vofr, .int vokd, .int vonu, .int vosg, .int vofa, .int vopl, .long vowd, .int votd, .ref vmn, .ref vmr, .ref vmk, .ref vms, .ref vma, .ref vmm, .ref vmrn, .ref vmkn, .ref vmik, .ref vmon, .int vosm, .int vohp, .ref vmw, .ref vmf, .ref vmb, .int vomb, .ref vmd, .ref vmc, .int vocm, .int voct, .int vocy, .ref vmx, .int votx, .int vose_56, .ref vml, .ref vmwr, .int voln, .int vohw, .ref vmno, .int vond, .int voon, .int vowi, .int votop])), (vmn, .inl (cy 0, 575, .inl vmnf))] H := hP
    have hD : va_D A [(vo, .inr (12, [.int voth, .ref vmt, .int votp, .int vosz, .int volm, .int voto, .int vofr, .int vokd, .int vonu, .int vosg, .int vofa, .int vopl, .long vowd, .int votd, .ref vmn, .ref vmr, .ref vmk, .ref vms, .ref vma, .ref vmm, .ref vmrn, .ref vmkn, .ref vmik, .ref vmon, .int vosm, .int vohp, .ref vmw, .ref vmf, .ref vmb, .int vomb, .ref vmd, .ref vmc, .int vocm, .int voct, .int vocy, .ref vmx, .int votx, .int vose_56, .ref vml, .ref vmwr, .int voln, .int vohw, .ref vmno, .int vond, .int voon, .int vowi, .int votop])), (vmn, .inl (cy 0, 575, .inl vmnf))] := hD
    refine lv_goto (tgt := 26) hx hb dX11_drawsFor_22 (by decide) ?_
    refine lv_istore_n (lv' := [(3, .int r_53), (2, .int r_1), (0, .ref vo), (1, .int vm)]) hx hb dX11_drawsFor_26 rfl hl (by decide) rfl (fun ls hl => ?_)
    have join59 : ∀ (g_60 : Nat → Int32), NW vnh g_60 → ∀ (H : Heap) (locs : List Loc), va_P (dC, dI) vwCl [(vo, .inr (12, [.int voth, .ref vmt, .int votp, .int vosz, .int volm, .int voto, .int vofr, .int vokd, .int vonu, .int vosg, .int vofa, .int vopl, .long vowd, .int votd, .ref vmn, .ref vmr, .ref vmk, .ref vms, .ref vma, .ref vmm, .ref vmrn, .ref vmkn, .ref vmik, .ref vmon, .int vosm, .int vohp, .ref vmw, .ref vmf, .ref vmb, .int vomb, .ref vmd, .ref vmc, .int vocm, .int voct, .int vocy, .ref vmx, .int votx, .int vose_56, .ref vml, .ref vmwr, .int voln, .int vohw, .ref vmno, .int vond, .int voon, .int vowi, .int votop])), (vmn, .inl (cy 0, 575, .inl g_60))] H → va_D A [(vo, .inr (12, [.int voth, .ref vmt, .int votp, .int vosz, .int volm, .int voto, .int vofr, .int vokd, .int vonu, .int vosg, .int vofa, .int vopl, .long vowd, .int votd, .ref vmn, .ref vmr, .ref vmk, .ref vms, .ref vma, .ref vmm, .ref vmrn, .ref vmkn, .ref vmik, .ref vmon, .int vosm, .int vohp, .ref vmw, .ref vmf, .ref vmb, .int vomb, .ref vmd, .ref vmc, .int vocm, .int voct, .int vocy, .ref vmx, .int votx, .int vose_56, .ref vml, .ref vmwr, .int voln, .int vohw, .ref vmno, .int vond, .int voon, .int vowi, .int votop])), (vmn, .inl (cy 0, 575, .inl g_60))] → va_S A s.heap H locs → ∀ ls : Array Slot, lv_has ls 7 [(3, .int r_53), (2, .int r_1), (0, .ref vo), (1, .int vm)] → W p l e ({ frames := 5, cells := 0, slots := 0, locals := 320 }) s m av9 below meth c H locs 0 0 Q9 (F0 m 51 ls []) := by
      intro g_60 p_g_60 H locs hP hD hS ls hl
      refine lv_iload_n hx hb dX11_drawsFor_51 rfl (lv_at hl 1 rfl) ?_
      refine lv_iconst (v := 2) hx hb dX11_drawsFor_52 (by decide) ?_
      refine lv_icmp_gt (tgt := 65) hx hb dX11_drawsFor_53 (by decide) (fun c9 => absurd (i_lt.mp c9) (by omega)) (fun _ => ?_)
      refine lv_aload_n hx hb dX11_drawsFor_56 rfl (lv_at hl 2 rfl) ?_
      refine gf_X11_98 hx hb hts hown hK hP 0 rfl rfl dX11_drawsFor_57 ?_
      refine lv_iconst (v := 1) hx hb dX11_drawsFor_60 (by decide) ?_
      have k_1 : (1 : Int32).toInt = 1 := by decide
      have hin_61 : vp_in (1 : Int32) 575 := vp_in_iff.mpr ⟨by omega, by omega⟩
      refine va_iald hx hb hK hP 1 0 rfl rfl hin_61 dX11_drawsFor_61 ?_
      refine lv_topi (fun z_62 ez_62 => ?_)
      have bz_62 := p_g_60.a1 (x := 1) ⟨by omega, by omega⟩ ez_62
      have tz_62 : z_62.toInt = (g_60 1).toInt := by rw [ez_62]; rfl
      refine lv_if_ne (tgt := 66) hx hb dX11_drawsFor_62 (by decide) (fun c_63 => ?_) (fun c_63 => ?_)
      · skip
        have c_63 : ¬ (z_62.toInt = (0 : Int32).toInt) := fun h9 => c_63 (i_eq.mpr h9)
        refine lv_aload_n hx hb dX11_drawsFor_66 rfl (lv_at hl 2 rfl) ?_
        refine lv_aload_n hx hb dX11_drawsFor_67 rfl (lv_at hl 2 rfl) ?_
        refine gf_X11_98 hx hb hts hown hK hP 0 rfl rfl dX11_drawsFor_68 ?_
        refine lv_iconst (v := 1) hx hb dX11_drawsFor_71 (by decide) ?_
        have hin_64 : vp_in (1 : Int32) 575 := vp_in_iff.mpr ⟨by omega, by omega⟩
        refine va_iald hx hb hK hP 1 0 rfl rfl hin_64 dX11_drawsFor_72 ?_
        refine lv_topi (fun z_65 ez_65 => ?_)
        have bz_65 := p_g_60.a1 (x := 1) ⟨by omega, by omega⟩ ez_65
        have tz_65 : z_65.toInt = (g_60 1).toInt := by rw [ez_65]; rfl
        refine jn_i (wr := []) (rV (As := [.int z_65]) (rest := []) (ci := 12) ⟨hx, hb, hml, hown, hts⟩ (m_draw l dC dI cy _ vnh vo voth vmt votp vosz volm voto vofr vokd vonu vosg vofa vopl vowd votd vmn vmr vmk vms vma vmm vmrn vmkn vmik vmon vosm vohp vmw vmf vmb vomb vmd vmc vocm voct vocy vmx votx vose_56 vml vmwr voln vohw vmno vond voon vowi votop g_60 z_65 ⟨by omega, by omega⟩ p_g_60) (cw_X11_355 hts rfl rfl ⟨Nat.le_of_ble_eq_true rfl, Nat.le_of_ble_eq_true rfl⟩) hP hD hK [0, 1] rfl rfl rfl rfl bl0 e0 rfl hl.1 rfl (Nat.le_of_ble_eq_true rfl) dX11_drawsFor_73 ⟨Nat.le_of_ble_eq_true rfl, Nat.le_of_ble_eq_true rfl⟩) hP hD hS hA [0, 1] [] rfl rfl rfl (by decide) (fun r_66 u_68 H locs hp_67 hP hD hS => ?_)
        obtain ⟨vose_69, rfl⟩ : ∃ z, z = u_68 := ⟨_, rfl⟩
        have hp_67 : (0 ≤ (r_66 : Int32).toInt ∧ (r_66 : Int32).toInt ≤ 9) ∧ ((r_66 : Int32).toInt < (z_65 : Int32).toInt) := hp_67
        obtain ⟨q_70, q_71⟩ := hp_67
        have hP : va_P (dC, dI) vwCl [(vo, .inr (12, [.int voth, .ref vmt, .int votp, .int vosz, .int volm, .int voto, .int vofr, .int vokd, .int vonu, .int vosg, .int vofa, .int vopl, .long vowd, .int votd, .ref vmn, .ref vmr, .ref vmk, .ref vms, .ref vma, .ref vmm, .ref vmrn, .ref vmkn, .ref vmik, .ref vmon, .int vosm, .int vohp, .ref vmw, .ref vmf, .ref vmb, .int vomb, .ref vmd, .ref vmc, .int vocm, .int voct, .int vocy, .ref vmx, .int votx, .int vose_69, .ref vml, .ref vmwr, .int voln, .int vohw, .ref vmno, .int vond, .int voon, .int vowi, .int votop])), (vmn, .inl (cy 0, 575, .inl g_60))] H := hP
        have hD : va_D A [(vo, .inr (12, [.int voth, .ref vmt, .int votp, .int vosz, .int volm, .int voto, .int vofr, .int vokd, .int vonu, .int vosg, .int vofa, .int vopl, .long vowd, .int votd, .ref vmn, .ref vmr, .ref vmk, .ref vms, .ref vma, .ref vmm, .ref vmrn, .ref vmkn, .ref vmik, .ref vmon, .int vosm, .int vohp, .ref vmw, .ref vmf, .ref vmb, .int vomb, .ref vmd, .ref vmc, .int vocm, .int voct, .int vocy, .ref vmx, .int votx, .int vose_69, .ref vml, .ref vmwr, .int voln, .int vohw, .ref vmno, .int vond, .int voon, .int vowi, .int votop])), (vmn, .inl (cy 0, 575, .inl g_60))] := hD
        refine lv_istore (lv' := [(4, .int r_66), (3, .int r_53), (2, .int r_1), (0, .ref vo), (1, .int vm)]) hx hb dX11_drawsFor_76 hl (by decide) rfl (fun ls hl => ?_)
        refine lv_iload_n hx hb dX11_drawsFor_78 rfl (lv_at hl 2 rfl) ?_
        refine lv_iconst (v := 2) hx hb dX11_drawsFor_79 (by decide) ?_
        refine lv_icmp_ne (tgt := 87) hx hb dX11_drawsFor_80 (by decide) (fun c9 => (c9 (i_eq.mpr (by omega))).elim) (fun _ => ?_)
        refine lv_iconst (v := 1) hx hb dX11_drawsFor_83 (by decide) ?_
        refine lv_goto (tgt := 88) hx hb dX11_drawsFor_84 (by decide) ?_
        refine lv_istore (lv' := [(5, .int 1), (4, .int r_66), (3, .int r_53), (2, .int r_1), (0, .ref vo), (1, .int vm)]) hx hb dX11_drawsFor_88 hl (by decide) rfl (fun ls hl => ?_)
        refine lv_iload_n hx hb dX11_drawsFor_90 rfl (lv_at hl 3 rfl) ?_
        refine lv_iconst (v := 2) hx hb dX11_drawsFor_91 (by decide) ?_
        refine lv_icmp_ne (tgt := 99) hx hb dX11_drawsFor_92 (by decide) (fun c9 => (c9 (i_eq.mpr (by omega))).elim) (fun _ => ?_)
        refine lv_iload_n hx hb dX11_drawsFor_95 rfl (lv_at hl 2 rfl) ?_
        refine lv_goto (tgt := 101) hx hb dX11_drawsFor_96 (by decide) ?_
        refine lv_istore (lv' := [(6, .int r_53), (5, .int 1), (4, .int r_66), (3, .int r_53), (2, .int r_1), (0, .ref vo), (1, .int vm)]) hx hb dX11_drawsFor_101 hl (by decide) rfl (fun ls hl => ?_)
        refine lv_aload_n hx hb dX11_drawsFor_103 rfl (lv_at hl 5 rfl) ?_
        refine lv_iload hx hb dX11_drawsFor_104 (lv_at hl 1 rfl) ?_
        refine lv_iload_n hx hb dX11_drawsFor_106 rfl (lv_at hl 6 rfl) ?_
        refine lv_iload hx hb dX11_drawsFor_107 (lv_at hl 0 rfl) ?_
        refine lv_iload hx hb dX11_drawsFor_109 (lv_at hl 2 rfl) ?_
        refine jr_i (rVr (As := [.int 1, .int vm, .int r_53, .int r_66]) (rest := []) (ci := 12) ⟨hx, hb, hml, hown, hts⟩ (m_why l dC dI cy vnh vo voth vmt votp vosz volm voto vofr vokd vonu vosg vofa vopl vowd votd vmn vmr vmk vms vma vmm vmrn vmkn vmik vmon vosm vohp vmw vmf vmb vomb vmd vmc vocm voct vocy vmx votx vose_69 vml vmwr voln vohw vmno vond voon vowi votop g_60 1 vm r_53 r_66 ⟨by omega, by omega⟩ ⟨by omega, by omega⟩ ⟨by omega, by omega⟩ p_g_60) (cw_X11_274 hts rfl rfl ⟨Nat.le_of_ble_eq_true rfl, Nat.le_of_ble_eq_true rfl⟩) hP hK [0, 1] rfl rfl rfl rfl hl.1 rfl (Nat.le_of_ble_eq_true rfl) dX11_drawsFor_111 ⟨Nat.le_of_ble_eq_true rfl, Nat.le_of_ble_eq_true rfl⟩) hP hS (fun r_72 H locs hp_73 hP hS => ?_)
        have hp_73 : (0 ≤ (r_72 : Int32).toInt ∧ (r_72 : Int32).toInt ≤ 3) := hp_73
        have q_74 := hp_73
        refine lv_if_ne (tgt := 128) hx hb dX11_drawsFor_114 (by decide) (fun c_75 => ?_) (fun c_75 => ?_)
        · skip
          have c_75 : ¬ (r_72.toInt = (0 : Int32).toInt) := fun h9 => c_75 (i_eq.mpr h9)
          rw [hQ9]
          exact re_v (g_60, vose_69) hx hb hr hlocks (show NW vnh g_60 from p_g_60) (hP.sub [0, 1] rfl) (hD.sub [0, 1] rfl rfl) hS dX11_drawsFor_128
        · skip
          have c_75 : r_72.toInt = (0 : Int32).toInt := i_eq.mp c_75
          refine lv_aload_n hx hb dX11_drawsFor_117 rfl (lv_at hl 5 rfl) ?_
          refine lv_iload hx hb dX11_drawsFor_118 (lv_at hl 1 rfl) ?_
          refine lv_iload_n hx hb dX11_drawsFor_120 rfl (lv_at hl 6 rfl) ?_
          refine lv_iload hx hb dX11_drawsFor_121 (lv_at hl 0 rfl) ?_
          refine lv_iload hx hb dX11_drawsFor_123 (lv_at hl 2 rfl) ?_
          refine jn_v (wr := []) (rV (As := [.int 1, .int vm, .int r_53, .int r_66]) (rest := []) (ci := 12) ⟨hx, hb, hml, hown, hts⟩ (m_live l dC dI cy _ vnh vo voth vmt votp vosz volm voto vofr vokd vonu vosg vofa vopl vowd votd vmn vmr vmk vms vma vmm vmrn vmkn vmik vmon vosm vohp vmw vmf vmb vomb vmd vmc vocm voct vocy vmx votx vose_69 vml vmwr voln vohw vmno vond voon vowi votop g_60 1 vm r_53 r_66 r_vm ⟨by omega, by omega⟩ ⟨by omega, by omega⟩ p_g_60) (cw_X11_281 hts rfl rfl ⟨Nat.le_of_ble_eq_true rfl, Nat.le_of_ble_eq_true rfl⟩) hP hD hK [0, 1] rfl rfl rfl rfl bl0 e0 rfl hl.1 rfl (Nat.le_of_ble_eq_true rfl) dX11_drawsFor_125 ⟨Nat.le_of_ble_eq_true rfl, Nat.le_of_ble_eq_true rfl⟩) hP hD hS hA [0, 1] [] rfl rfl rfl (by decide) (fun u_78 H locs hp_77 hP hD hS => ?_)
          obtain ⟨vmnf_79, rfl⟩ : ∃ z, z = u_78 := ⟨_, rfl⟩
          have hp_77 : (NW vnh vmnf_79) := hp_77
          have q_80 := hp_77
          have hP : va_P (dC, dI) vwCl [(vo, .inr (12, [.int voth, .ref vmt, .int votp, .int vosz, .int volm, .int voto, .int vofr, .int vokd, .int vonu, .int vosg, .int vofa, .int vopl, .long vowd, .int votd, .ref vmn, .ref vmr, .ref vmk, .ref vms, .ref vma, .ref vmm, .ref vmrn, .ref vmkn, .ref vmik, .ref vmon, .int vosm, .int vohp, .ref vmw, .ref vmf, .ref vmb, .int vomb, .ref vmd, .ref vmc, .int vocm, .int voct, .int vocy, .ref vmx, .int votx, .int vose_69, .ref vml, .ref vmwr, .int voln, .int vohw, .ref vmno, .int vond, .int voon, .int vowi, .int votop])), (vmn, .inl (cy 0, 575, .inl vmnf_79))] H := hP
          have hD : va_D A [(vo, .inr (12, [.int voth, .ref vmt, .int votp, .int vosz, .int volm, .int voto, .int vofr, .int vokd, .int vonu, .int vosg, .int vofa, .int vopl, .long vowd, .int votd, .ref vmn, .ref vmr, .ref vmk, .ref vms, .ref vma, .ref vmm, .ref vmrn, .ref vmkn, .ref vmik, .ref vmon, .int vosm, .int vohp, .ref vmw, .ref vmf, .ref vmb, .int vomb, .ref vmd, .ref vmc, .int vocm, .int voct, .int vocy, .ref vmx, .int votx, .int vose_69, .ref vml, .ref vmwr, .int voln, .int vohw, .ref vmno, .int vond, .int voon, .int vowi, .int votop])), (vmn, .inl (cy 0, 575, .inl vmnf_79))] := hD
          rw [hQ9]
          exact re_v (vmnf_79, vose_69) hx hb hr hlocks (show NW vnh vmnf_79 from q_80) (hP.sub [0, 1] rfl) (hD.sub [0, 1] rfl rfl) hS dX11_drawsFor_128
      · skip
        have c_63 : z_62.toInt = (0 : Int32).toInt := i_eq.mp c_63
        rw [hQ9]
        exact re_v (g_60, vose_56) hx hb hr hlocks (show NW vnh g_60 from p_g_60) (hP.sub [0, 1] rfl) (hD.sub [0, 1] rfl rfl) hS dX11_drawsFor_65
    refine lv_iload_n hx hb dX11_drawsFor_27 rfl (lv_at hl 1 rfl) ?_
    refine lv_iconst (v := 3) hx hb dX11_drawsFor_28 (by decide) ?_
    have k_3 : (3 : Int32).toInt = 3 := by decide
    refine lv_icmp_ne (tgt := 51) hx hb dX11_drawsFor_29 (by decide) (fun _ => ?_) (fun c9 => absurd (i_eq.mp c9) (by omega))
    exact join59 vmnf p_vmnf _ _ (hP.sub [0, 1] rfl) (hD.sub [0, 1] rfl rfl) hS ls (lv_sub hl [0, 1, 2, 3] rfl)
abbrev cX11_drawYears : ByteArray := prog_13_method_103_code
def yX11_drawYears : MethodName := ⟨RX11, "drawYears", "(II)I"⟩
theorem t1953 : Cond.code yX11_drawYears cX11_drawYears 6 (some .int) ∈ GW := gw_mem 2067 (by decide +kernel) (by decide +kernel)
abbrev O_m_drawYears (cy : Nat → ClassId) (vnh : Nat → Int32) (vo : Nat) (voth : Int32) (vmt : Nat) (votp : Int32) (vosz : Int32) (volm : Int32) (voto : Int32) (vofr : Int32) (vokd : Int32) (vonu : Int32) (vosg : Int32) (vofa : Int32) (vopl : Int32) (vowd : Int64) (votd : Int32) (vmn : Nat) (vmr : Nat) (vmk : Nat) (vms : Nat) (vma : Nat) (vmm : Nat) (vmrn : Nat) (vmkn : Nat) (vmik : Nat) (vmon : Nat) (vosm : Int32) (vohp : Int32) (vmw : Nat) (vmf : Nat) (vmb : Nat) (vomb : Int32) (vmd : Nat) (vmc : Nat) (vocm : Int32) (voct : Int32) (vocy : Int32) (vmx : Nat) (votx : Int32) (vose : Int32) (vml : Nat) (vmwr : Nat) (voln : Int32) (vohw : Int32) (vmno : Nat) (vond : Int32) (voon : Int32) (vowi : Int32) (votop : Int32) (vmnf : Nat → Int32) (vn : Int32) (vx : Int32) (u : (Nat → Int32) × Int32) : va_W := [(vo, .inr (12, [.int voth, .ref vmt, .int votp, .int vosz, .int volm, .int voto, .int vofr, .int vokd, .int vonu, .int vosg, .int vofa, .int vopl, .long vowd, .int votd, .ref vmn, .ref vmr, .ref vmk, .ref vms, .ref vma, .ref vmm, .ref vmrn, .ref vmkn, .ref vmik, .ref vmon, .int vosm, .int vohp, .ref vmw, .ref vmf, .ref vmb, .int vomb, .ref vmd, .ref vmc, .int vocm, .int voct, .int vocy, .ref vmx, .int votx, .int u.2, .ref vml, .ref vmwr, .int voln, .int vohw, .ref vmno, .int vond, .int voon, .int vowi, .int votop])), (vmn, .inl (cy 0, 575, .inl u.1))]
theorem dX11_drawYears_0 : decode cX11_drawYears 0 = .ok (.aload_n 0, 1) := by decide +kernel
theorem dX11_drawYears_1 : decode cX11_drawYears 1 = .ok (.iload_n 2, 1) := by decide +kernel
theorem dX11_drawYears_2 : decode cX11_drawYears 2 = .ok (.putfield 351, 3) := by decide +kernel
theorem dX11_drawYears_5 : decode cX11_drawYears 5 = .ok (.iload_n 1, 1) := by decide +kernel
theorem dX11_drawYears_6 : decode cX11_drawYears 6 = .ok (.sipush 200, 3) := by decide +kernel
theorem dX11_drawYears_9 : decode cX11_drawYears 9 = .ok (.aload_n 0, 1) := by decide +kernel
theorem dX11_drawYears_10 : decode cX11_drawYears 10 = .ok (.getfield 98, 3) := by decide +kernel
theorem dX11_drawYears_13 : decode cX11_drawYears 13 = .ok (.sipush 157, 3) := by decide +kernel
theorem dX11_drawYears_16 : decode cX11_drawYears 16 = .ok (.iaload, 1) := by decide +kernel
theorem dX11_drawYears_17 : decode cX11_drawYears 17 = .ok (.isub, 1) := by decide +kernel
theorem dX11_drawYears_18 : decode cX11_drawYears 18 = .ok (.invokestatic 288, 3) := by decide +kernel
theorem dX11_drawYears_21 : decode cX11_drawYears 21 = .ok (.istore_n 3, 1) := by decide +kernel
theorem dX11_drawYears_22 : decode cX11_drawYears 22 = .ok (.iconst 0, 1) := by decide +kernel
theorem dX11_drawYears_23 : decode cX11_drawYears 23 = .ok (.istore 4, 2) := by decide +kernel
theorem dX11_drawYears_25 : decode cX11_drawYears 25 = .ok (.iload 4, 2) := by decide +kernel
theorem dX11_drawYears_27 : decode cX11_drawYears 27 = .ok (.iload_n 3, 1) := by decide +kernel
theorem dX11_drawYears_28 : decode cX11_drawYears 28 = .ok (.if_icmp .ge 39, 3) := by decide +kernel
theorem dX11_drawYears_67 : decode cX11_drawYears 67 = .ok (.iload_n 3, 1) := by decide +kernel
theorem dX11_drawYears_68 : decode cX11_drawYears 68 = .ok (.ireturn, 1) := by decide +kernel
theorem dX11_drawYears_31 : decode cX11_drawYears 31 = .ok (.iconst 0, 1) := by decide +kernel
theorem dX11_drawYears_32 : decode cX11_drawYears 32 = .ok (.istore 5, 2) := by decide +kernel
theorem dX11_drawYears_34 : decode cX11_drawYears 34 = .ok (.iload 5, 2) := by decide +kernel
theorem dX11_drawYears_36 : decode cX11_drawYears 36 = .ok (.aload_n 0, 1) := by decide +kernel
theorem dX11_drawYears_37 : decode cX11_drawYears 37 = .ok (.getfield 98, 3) := by decide +kernel
theorem dX11_drawYears_40 : decode cX11_drawYears 40 = .ok (.iconst 0, 1) := by decide +kernel
theorem dX11_drawYears_41 : decode cX11_drawYears 41 = .ok (.iaload, 1) := by decide +kernel
theorem dX11_drawYears_42 : decode cX11_drawYears 42 = .ok (.if_icmp .ge 15, 3) := by decide +kernel
theorem dX11_drawYears_57 : decode cX11_drawYears 57 = .ok (.aload_n 0, 1) := by decide +kernel
theorem dX11_drawYears_58 : decode cX11_drawYears 58 = .ok (.invokevirtual 291, 3) := by decide +kernel
theorem dX11_drawYears_61 : decode cX11_drawYears 61 = .ok (.iinc 4 1, 3) := by decide +kernel
theorem dX11_drawYears_64 : decode cX11_drawYears 64 = .ok (.goto (-39), 3) := by decide +kernel
theorem dX11_drawYears_45 : decode cX11_drawYears 45 = .ok (.aload_n 0, 1) := by decide +kernel
theorem dX11_drawYears_46 : decode cX11_drawYears 46 = .ok (.iload 5, 2) := by decide +kernel
theorem dX11_drawYears_48 : decode cX11_drawYears 48 = .ok (.invokevirtual 358, 3) := by decide +kernel
theorem t1954 : Cond.methodLink RX11 358 yX11_drawsFor ∈ GW := gw_mem 2068 (by decide +kernel) (by decide +kernel)
theorem t1956 : Cond.instanceMethod yX11_drawsFor ∈ GW := gw_mem 2070 (by decide +kernel) (by decide +kernel)
theorem s93 : Cond.selects RX11 yX11_drawsFor yX11_drawsFor ∈ GW := gw_mem 93 (by decide +kernel) (by decide +kernel)
theorem cw_X11_358 {R : Room} {s : State} {args : Array Value} {rm : Room} {mc ms : Nat} (hts : ∀ w ∈ GW, w.before args s = true) (hrc : rm.cells = mc) (hrs : rm.slots = ms) (hR : rm.frames + 1 ≤ R.frames ∧ 8 + (7 + 11) + rm.locals ≤ R.locals) : CallW R s args RX11 RX11 358 yX11_drawsFor cX11_drawsFor 7 none (wl yX11_drawsFor cX11_drawsFor 7 none) rm mc ms 1 := cwV 1 hts (gi_V t1954 t1956 s93 t18 t1957) rfl hrc hrs (by decide +kernel) hR
theorem dX11_drawYears_51 : decode cX11_drawYears 51 = .ok (.iinc 5 1, 3) := by decide +kernel
theorem dX11_drawYears_54 : decode cX11_drawYears 54 = .ok (.goto (-20), 3) := by decide +kernel
set_option maxHeartbeats 4000000 in
set_option maxRecDepth 100000 in
theorem m_drawYears (l : Launch) (dC : Nat → ClassId) (dI : Nat → Nat → Nat) (cy : Nat → ClassId) (sz : Nat) (vnh : Nat → Int32) (vo : Nat) (voth : Int32) (vmt : Nat) (votp : Int32) (vosz : Int32) (volm : Int32) (voto : Int32) (vofr : Int32) (vokd : Int32) (vonu : Int32) (vosg : Int32) (vofa : Int32) (vopl : Int32) (vowd : Int64) (votd : Int32) (vmn : Nat) (vmr : Nat) (vmk : Nat) (vms : Nat) (vma : Nat) (vmm : Nat) (vmrn : Nat) (vmkn : Nat) (vmik : Nat) (vmon : Nat) (vosm : Int32) (vohp : Int32) (vmw : Nat) (vmf : Nat) (vmb : Nat) (vomb : Int32) (vmd : Nat) (vmc : Nat) (vocm : Int32) (voct : Int32) (vocy : Int32) (vmx : Nat) (votx : Int32) (vose : Int32) (vml : Nat) (vmwr : Nat) (voln : Int32) (vohw : Int32) (vmno : Nat) (vond : Int32) (voon : Int32) (vowi : Int32) (votop : Int32) (vmnf : Nat → Int32) (vn : Int32) (vx : Int32) (r_vn : 0 ≤ (vn : Int32).toInt ∧ (vn : Int32).toInt ≤ 30) (p_vmnf : NW vnh vmnf) : Met l yX11_drawYears (wl yX11_drawYears cX11_drawYears 6 (some .int)) ({ frames := 6, cells := 0, slots := 0, locals := 384 }) (Pw (dC, dI) vwCl cy [(vo, .inr (12, [.int voth, .ref vmt, .int votp, .int vosz, .int volm, .int voto, .int vofr, .int vokd, .int vonu, .int vosg, .int vofa, .int vopl, .long vowd, .int votd, .ref vmn, .ref vmr, .ref vmk, .ref vms, .ref vma, .ref vmm, .ref vmrn, .ref vmkn, .ref vmik, .ref vmon, .int vosm, .int vohp, .ref vmw, .ref vmf, .ref vmb, .int vomb, .ref vmd, .ref vmc, .int vocm, .int voct, .int vocy, .ref vmx, .int votx, .int vose, .ref vml, .ref vmwr, .int voln, .int vohw, .ref vmno, .int vond, .int voon, .int vowi, .int votop])), (vmn, .inl (cy 0, 575, .inl vmnf))] sz [.ref vo, .int vn, .int vx] nE) (Qi (dC, dI) vwCl (fun (r : Int32) (u : (Nat → Int32) × Int32) => (NW vnh u.1)) (O_m_drawYears cy vnh vo voth vmt votp vosz volm voto vofr vokd vonu vosg vofa vopl vowd votd vmn vmr vmk vms vma vmm vmrn vmkn vmik vmon vosm vohp vmw vmf vmb vomb vmd vmc vocm voct vocy vmx votx vose vml vmwr voln vohw vmno vond voon vowi votop vmnf vn vx) (va_A [(vo, .inr (12, [.int voth, .ref vmt, .int votp, .int vosz, .int volm, .int voto, .int vofr, .int vokd, .int vonu, .int vosg, .int vofa, .int vopl, .long vowd, .int votd, .ref vmn, .ref vmr, .ref vmk, .ref vms, .ref vma, .ref vmm, .ref vmrn, .ref vmkn, .ref vmik, .ref vmon, .int vosm, .int vohp, .ref vmw, .ref vmf, .ref vmb, .int vomb, .ref vmd, .ref vmc, .int vocm, .int voct, .int vocy, .ref vmx, .int votx, .int vose, .ref vml, .ref vmwr, .int voln, .int vohw, .ref vmno, .int vond, .int voon, .int vowi, .int votop])), (vmn, .inl (cy 0, 575, .inl vmnf))] sz)) 0 0 (va_A [(vo, .inr (12, [.int voth, .ref vmt, .int votp, .int vosz, .int volm, .int voto, .int vofr, .int vokd, .int vonu, .int vosg, .int vofa, .int vopl, .long vowd, .int votd, .ref vmn, .ref vmr, .ref vmk, .ref vms, .ref vma, .ref vmm, .ref vmrn, .ref vmkn, .ref vmik, .ref vmon, .int vosm, .int vohp, .ref vmw, .ref vmf, .ref vmb, .int vomb, .ref vmd, .ref vmc, .int vocm, .int voct, .int vocy, .ref vmx, .int votx, .int vose, .ref vml, .ref vmwr, .int voln, .int vohw, .ref vmno, .int vond, .int voon, .int vowi, .int votop])), (vmn, .inl (cy 0, 575, .inl vmnf))] sz) := by
  refine mw (Qc := Qi (dC, dI) vwCl (fun (r : Int32) (u : (Nat → Int32) × Int32) => (NW vnh u.1)) (O_m_drawYears cy vnh vo voth vmt votp vosz volm voto vofr vokd vonu vosg vofa vopl vowd votd vmn vmr vmk vms vma vmm vmrn vmkn vmik vmon vosm vohp vmw vmf vmb vomb vmd vmc vocm voct vocy vmx votx vose vml vmwr voln vohw vmno vond voon vowi votop vmnf vn vx)) RX11 rfl (by decide +kernel) (Nat.le_of_ble_eq_true rfl) ?_
  intro p e s m below meth c A hx hb hr hlocks av9 hav hts hown hnm hml hK hP hD hA hS hE hAe Q9 hQ9 ls hl
  have hl : lv_has ls 6 [(0, .ref vo), (1, .int vn), (2, .int vx)] := hl
  refine lv_aload_n hx hb dX11_drawYears_0 rfl (lv_at hl 0 rfl) ?_
  refine lv_iload_n hx hb dX11_drawYears_1 rfl (lv_at hl 2 rfl) ?_
  refine pf_X11_351 hx hb hts hown hK hP hD hS 0 rfl rfl rfl (Nat.le_of_ble_eq_true rfl) dX11_drawYears_2 (fun H locs hP hD hS => ?_)
  have hP : va_P (dC, dI) vwCl [(vo, .inr (12, [.int voth, .ref vmt, .int votp, .int vosz, .int volm, .int voto, .int vofr, .int vokd, .int vonu, .int vosg, .int vofa, .int vopl, .long vowd, .int votd, .ref vmn, .ref vmr, .ref vmk, .ref vms, .ref vma, .ref vmm, .ref vmrn, .ref vmkn, .ref vmik, .ref vmon, .int vosm, .int vohp, .ref vmw, .ref vmf, .ref vmb, .int vomb, .ref vmd, .ref vmc, .int vocm, .int voct, .int vocy, .ref vmx, .int votx, .int vx, .ref vml, .ref vmwr, .int voln, .int vohw, .ref vmno, .int vond, .int voon, .int vowi, .int votop])), (vmn, .inl (cy 0, 575, .inl vmnf))] H := hP
  have hD : va_D A [(vo, .inr (12, [.int voth, .ref vmt, .int votp, .int vosz, .int volm, .int voto, .int vofr, .int vokd, .int vonu, .int vosg, .int vofa, .int vopl, .long vowd, .int votd, .ref vmn, .ref vmr, .ref vmk, .ref vms, .ref vma, .ref vmm, .ref vmrn, .ref vmkn, .ref vmik, .ref vmon, .int vosm, .int vohp, .ref vmw, .ref vmf, .ref vmb, .int vomb, .ref vmd, .ref vmc, .int vocm, .int voct, .int vocy, .ref vmx, .int votx, .int vx, .ref vml, .ref vmwr, .int voln, .int vohw, .ref vmno, .int vond, .int voon, .int vowi, .int votop])), (vmn, .inl (cy 0, 575, .inl vmnf))] := hD
  refine lv_iload_n hx hb dX11_drawYears_5 rfl (lv_at hl 1 rfl) ?_
  refine lv_sipush (v := 200) hx hb dX11_drawYears_6 (by decide) ?_
  refine lv_aload_n hx hb dX11_drawYears_9 rfl (lv_at hl 0 rfl) ?_
  refine gf_X11_98 hx hb hts hown hK hP 0 rfl rfl dX11_drawYears_10 ?_
  refine lv_sipush (v := 157) hx hb dX11_drawYears_13 (by decide) ?_
  have k_157 : (157 : Int32).toInt = 157 := by decide
  have hin_1 : vp_in (157 : Int32) 575 := vp_in_iff.mpr ⟨by omega, by omega⟩
  refine va_iald hx hb hK hP 1 0 rfl rfl hin_1 dX11_drawYears_16 ?_
  refine lv_topi (fun z_2 ez_2 => ?_)
  have tz_2 : z_2.toInt = (vmnf 157).toInt := by rw [ez_2]; rfl
  refine lv_isub hx hb dX11_drawYears_17 ?_
  refine lv_topi (fun z_3 ez_3 => ?_)
  refine jr_i (rSr (As := [.int vn, .int z_3]) (rest := []) ⟨hx, hb, hml, hown, hts⟩ (m_least l dC dI cy vn z_3 ) (cw_X11_288 hts rfl rfl ⟨Nat.le_of_ble_eq_true rfl, Nat.le_of_ble_eq_true rfl⟩) hP hK [] rfl rfl hl.1 rfl (Nat.le_of_ble_eq_true rfl) dX11_drawYears_18 ⟨Nat.le_of_ble_eq_true rfl, Nat.le_of_ble_eq_true rfl⟩) hP hS (fun r_4 H locs hp_5 hP hS => ?_)
  have hp_5 : ((r_4 : Int32).toInt ≤ (vn : Int32).toInt) ∧ ((r_4 : Int32).toInt ≤ (z_3 : Int32).toInt) ∧ (((r_4 : Int32).toInt = (vn : Int32).toInt ∨ (r_4 : Int32).toInt = (z_3 : Int32).toInt)) := hp_5
  obtain ⟨q_6, q_7, q_8⟩ := hp_5
  refine lv_istore_n (lv' := [(3, .int r_4), (0, .ref vo), (1, .int vn), (2, .int vx)]) hx hb dX11_drawYears_21 rfl hl (by decide) rfl (fun ls hl => ?_)
  refine lv_iconst (v := 0) hx hb dX11_drawYears_22 (by decide) ?_
  refine lv_istore (lv' := [(4, .int 0), (3, .int r_4), (0, .ref vo), (1, .int vn), (2, .int vx)]) hx hb dX11_drawYears_23 hl (by decide) rfl (fun ls hl => ?_)
  have loop9 : ∀ (n9 : Nat) (x_10 : Int32) (x_11 : Int32) (g_12 : Nat → Int32), (0 ≤ x_10.toInt ∧ x_10.toInt ≤ 30) → NW vnh g_12 → 30 - x_10.toInt < (n9 : Int) → ∀ (H : Heap) (locs : List Loc), va_P (dC, dI) vwCl [(vo, .inr (12, [.int voth, .ref vmt, .int votp, .int vosz, .int volm, .int voto, .int vofr, .int vokd, .int vonu, .int vosg, .int vofa, .int vopl, .long vowd, .int votd, .ref vmn, .ref vmr, .ref vmk, .ref vms, .ref vma, .ref vmm, .ref vmrn, .ref vmkn, .ref vmik, .ref vmon, .int vosm, .int vohp, .ref vmw, .ref vmf, .ref vmb, .int vomb, .ref vmd, .ref vmc, .int vocm, .int voct, .int vocy, .ref vmx, .int votx, .int x_11, .ref vml, .ref vmwr, .int voln, .int vohw, .ref vmno, .int vond, .int voon, .int vowi, .int votop])), (vmn, .inl (cy 0, 575, .inl g_12))] H → va_D A [(vo, .inr (12, [.int voth, .ref vmt, .int votp, .int vosz, .int volm, .int voto, .int vofr, .int vokd, .int vonu, .int vosg, .int vofa, .int vopl, .long vowd, .int votd, .ref vmn, .ref vmr, .ref vmk, .ref vms, .ref vma, .ref vmm, .ref vmrn, .ref vmkn, .ref vmik, .ref vmon, .int vosm, .int vohp, .ref vmw, .ref vmf, .ref vmb, .int vomb, .ref vmd, .ref vmc, .int vocm, .int voct, .int vocy, .ref vmx, .int votx, .int x_11, .ref vml, .ref vmwr, .int voln, .int vohw, .ref vmno, .int vond, .int voon, .int vowi, .int votop])), (vmn, .inl (cy 0, 575, .inl g_12))] → va_S A s.heap H locs → ∀ ls : Array Slot, lv_has ls 6 [(4, .int x_10), (3, .int r_4), (0, .ref vo), (1, .int vn), (2, .int vx)] → W p l e ({ frames := 6, cells := 0, slots := 0, locals := 384 }) s m av9 below meth c H locs 0 0 Q9 (F0 m 25 ls []) := by
    intro n9
    induction n9 with
    | zero =>
      intro x_10 x_11 g_12 bx_10 p_g_12 hn9 H locs hP hD hS ls hl
      exfalso; omega
    | succ n9 ih9 =>
      intro x_10 x_11 g_12 bx_10 p_g_12 hn9 H locs hP hD hS ls hl
      refine lv_iload hx hb dX11_drawYears_25 (lv_at hl 0 rfl) ?_
      refine lv_iload_n hx hb dX11_drawYears_27 rfl (lv_at hl 1 rfl) ?_
      refine lv_icmp_ge (tgt := 67) hx hb dX11_drawYears_28 (by decide) (fun c_13 => ?_) (fun c_13 => ?_)
      · skip
        have c_13 : r_4.toInt ≤ x_10.toInt := i_le.mp c_13
        refine lv_iload_n hx hb dX11_drawYears_67 rfl (lv_at hl 1 rfl) ?_
        rw [hQ9]
        exact re_i (g_12, x_11) hx hb hr hlocks (show NW vnh g_12 from p_g_12) (hP.sub [0, 1] rfl) (hD.sub [0, 1] rfl rfl) hS dX11_drawYears_68
      · skip
        have c_13 : ¬ (r_4.toInt ≤ x_10.toInt) := fun h9 => c_13 (i_le.mpr h9)
        refine lv_iconst (v := 0) hx hb dX11_drawYears_31 (by decide) ?_
        refine lv_istore (lv' := [(5, .int 0), (4, .int x_10), (3, .int r_4), (0, .ref vo), (1, .int vn), (2, .int vx)]) hx hb dX11_drawYears_32 hl (by decide) rfl (fun ls hl => ?_)
        have loop14 : ∀ (n14 : Nat) (x_15 : Int32) (x_16 : Int32) (g_17 : Nat → Int32), (0 ≤ x_15.toInt ∧ x_15.toInt ≤ 7) → NW vnh g_17 → 7 - x_15.toInt < (n14 : Int) → ∀ (H : Heap) (locs : List Loc), va_P (dC, dI) vwCl [(vo, .inr (12, [.int voth, .ref vmt, .int votp, .int vosz, .int volm, .int voto, .int vofr, .int vokd, .int vonu, .int vosg, .int vofa, .int vopl, .long vowd, .int votd, .ref vmn, .ref vmr, .ref vmk, .ref vms, .ref vma, .ref vmm, .ref vmrn, .ref vmkn, .ref vmik, .ref vmon, .int vosm, .int vohp, .ref vmw, .ref vmf, .ref vmb, .int vomb, .ref vmd, .ref vmc, .int vocm, .int voct, .int vocy, .ref vmx, .int votx, .int x_16, .ref vml, .ref vmwr, .int voln, .int vohw, .ref vmno, .int vond, .int voon, .int vowi, .int votop])), (vmn, .inl (cy 0, 575, .inl g_17))] H → va_D A [(vo, .inr (12, [.int voth, .ref vmt, .int votp, .int vosz, .int volm, .int voto, .int vofr, .int vokd, .int vonu, .int vosg, .int vofa, .int vopl, .long vowd, .int votd, .ref vmn, .ref vmr, .ref vmk, .ref vms, .ref vma, .ref vmm, .ref vmrn, .ref vmkn, .ref vmik, .ref vmon, .int vosm, .int vohp, .ref vmw, .ref vmf, .ref vmb, .int vomb, .ref vmd, .ref vmc, .int vocm, .int voct, .int vocy, .ref vmx, .int votx, .int x_16, .ref vml, .ref vmwr, .int voln, .int vohw, .ref vmno, .int vond, .int voon, .int vowi, .int votop])), (vmn, .inl (cy 0, 575, .inl g_17))] → va_S A s.heap H locs → ∀ ls : Array Slot, lv_has ls 6 [(5, .int x_15), (4, .int x_10), (3, .int r_4), (0, .ref vo), (1, .int vn), (2, .int vx)] → W p l e ({ frames := 6, cells := 0, slots := 0, locals := 384 }) s m av9 below meth c H locs 0 0 Q9 (F0 m 34 ls []) := by
          intro n14
          induction n14 with
          | zero =>
            intro x_15 x_16 g_17 bx_15 p_g_17 hn14 H locs hP hD hS ls hl
            exfalso; omega
          | succ n14 ih14 =>
            intro x_15 x_16 g_17 bx_15 p_g_17 hn14 H locs hP hD hS ls hl
            refine lv_iload hx hb dX11_drawYears_34 (lv_at hl 0 rfl) ?_
            refine lv_aload_n hx hb dX11_drawYears_36 rfl (lv_at hl 3 rfl) ?_
            refine gf_X11_98 hx hb hts hown hK hP 0 rfl rfl dX11_drawYears_37 ?_
            refine lv_iconst (v := 0) hx hb dX11_drawYears_40 (by decide) ?_
            have k_0 : (0 : Int32).toInt = 0 := by decide
            have hin_18 : vp_in (0 : Int32) 575 := vp_in_iff.mpr ⟨by omega, by omega⟩
            refine va_iald hx hb hK hP 1 0 rfl rfl hin_18 dX11_drawYears_41 ?_
            refine lv_topi (fun z_19 ez_19 => ?_)
            have bz_19 := p_g_17.a0 (x := 0) ⟨by omega, by omega⟩ ez_19
            have tz_19 : z_19.toInt = (g_17 0).toInt := by rw [ez_19]; rfl
            refine lv_icmp_ge (tgt := 57) hx hb dX11_drawYears_42 (by decide) (fun c_20 => ?_) (fun c_20 => ?_)
            · skip
              have c_20 : z_19.toInt ≤ x_15.toInt := i_le.mp c_20
              refine lv_aload_n hx hb dX11_drawYears_57 rfl (lv_at hl 3 rfl) ?_
              refine jn_v (wr := []) (rV (As := []) (rest := []) (ci := 12) ⟨hx, hb, hml, hown, hts⟩ (m_oneYear l dC dI cy _ vnh vo voth vmt votp vosz volm voto vofr vokd vonu vosg vofa vopl vowd votd vmn vmr vmk vms vma vmm vmrn vmkn vmik vmon vosm vohp vmw vmf vmb vomb vmd vmc vocm voct vocy vmx votx x_16 vml vmwr voln vohw vmno vond voon vowi votop g_17 p_g_17) (cw_X11_291 hts rfl rfl ⟨Nat.le_of_ble_eq_true rfl, Nat.le_of_ble_eq_true rfl⟩) hP hD hK [0, 1] rfl rfl rfl rfl bl0 e0 rfl hl.1 rfl (Nat.le_of_ble_eq_true rfl) dX11_drawYears_58 ⟨Nat.le_of_ble_eq_true rfl, Nat.le_of_ble_eq_true rfl⟩) hP hD hS hA [0, 1] [] rfl rfl rfl (by decide) (fun u_23 H locs hp_22 hP hD hS => ?_)
              obtain ⟨vmnf_24, rfl⟩ : ∃ z, z = u_23 := ⟨_, rfl⟩
              have hp_22 : (NW vnh vmnf_24) := hp_22
              have q_25 := hp_22
              have hP : va_P (dC, dI) vwCl [(vo, .inr (12, [.int voth, .ref vmt, .int votp, .int vosz, .int volm, .int voto, .int vofr, .int vokd, .int vonu, .int vosg, .int vofa, .int vopl, .long vowd, .int votd, .ref vmn, .ref vmr, .ref vmk, .ref vms, .ref vma, .ref vmm, .ref vmrn, .ref vmkn, .ref vmik, .ref vmon, .int vosm, .int vohp, .ref vmw, .ref vmf, .ref vmb, .int vomb, .ref vmd, .ref vmc, .int vocm, .int voct, .int vocy, .ref vmx, .int votx, .int x_16, .ref vml, .ref vmwr, .int voln, .int vohw, .ref vmno, .int vond, .int voon, .int vowi, .int votop])), (vmn, .inl (cy 0, 575, .inl vmnf_24))] H := hP
              have hD : va_D A [(vo, .inr (12, [.int voth, .ref vmt, .int votp, .int vosz, .int volm, .int voto, .int vofr, .int vokd, .int vonu, .int vosg, .int vofa, .int vopl, .long vowd, .int votd, .ref vmn, .ref vmr, .ref vmk, .ref vms, .ref vma, .ref vmm, .ref vmrn, .ref vmkn, .ref vmik, .ref vmon, .int vosm, .int vohp, .ref vmw, .ref vmf, .ref vmb, .int vomb, .ref vmd, .ref vmc, .int vocm, .int voct, .int vocy, .ref vmx, .int votx, .int x_16, .ref vml, .ref vmwr, .int voln, .int vohw, .ref vmno, .int vond, .int voon, .int vowi, .int votop])), (vmn, .inl (cy 0, 575, .inl vmnf_24))] := hD
              obtain ⟨z_26, ez_26⟩ : ∃ z : Int32, z = x_10 + 1 := ⟨_, rfl⟩
              have k_1 : (1 : Int32).toInt = 1 := by decide
              have bz_26 : z_26.toInt = x_10.toInt + (1 : Int32).toInt := i_add ez_26 (by omega) (by omega)
              refine lv_iinc (v := z_26) (lv' := [(4, .int z_26), (5, .int x_15), (3, .int r_4), (0, .ref vo), (1, .int vn), (2, .int vx)]) hx hb dX11_drawYears_61 hl (k := 1) rfl ez_26.symm (by decide) rfl (fun ls hl => ?_)
              refine lv_goto (tgt := 25) hx hb dX11_drawYears_64 (by decide) ?_
              exact ih9 z_26 x_16 vmnf_24 ⟨by omega, by omega⟩ q_25 (by omega) _ _ (hP.sub [0, 1] rfl) (hD.sub [0, 1] rfl rfl) hS ls (lv_sub hl [0, 2, 3, 4, 5] rfl)
            · skip
              have c_20 : ¬ (z_19.toInt ≤ x_15.toInt) := fun h9 => c_20 (i_le.mpr h9)
              refine lv_aload_n hx hb dX11_drawYears_45 rfl (lv_at hl 3 rfl) ?_
              refine lv_iload hx hb dX11_drawYears_46 (lv_at hl 0 rfl) ?_
              refine jn_v (wr := []) (rV (As := [.int x_15]) (rest := []) (ci := 12) ⟨hx, hb, hml, hown, hts⟩ (m_drawsFor l dC dI cy _ vnh vo voth vmt votp vosz volm voto vofr vokd vonu vosg vofa vopl vowd votd vmn vmr vmk vms vma vmm vmrn vmkn vmik vmon vosm vohp vmw vmf vmb vomb vmd vmc vocm voct vocy vmx votx x_16 vml vmwr voln vohw vmno vond voon vowi votop g_17 x_15 ⟨by omega, by omega⟩ p_g_17 (by omega)) (cw_X11_358 hts rfl rfl ⟨Nat.le_of_ble_eq_true rfl, Nat.le_of_ble_eq_true rfl⟩) hP hD hK [0, 1] rfl rfl rfl rfl bl0 e0 rfl hl.1 rfl (Nat.le_of_ble_eq_true rfl) dX11_drawYears_48 ⟨Nat.le_of_ble_eq_true rfl, Nat.le_of_ble_eq_true rfl⟩) hP hD hS hA [0, 1] [] rfl rfl rfl (by decide) (fun u_29 H locs hp_28 hP hD hS => ?_)
              obtain ⟨vmnf_30, vose_31⟩ := u_29
              have hp_28 : (NW vnh vmnf_30) := hp_28
              have q_32 := hp_28
              have hP : va_P (dC, dI) vwCl [(vo, .inr (12, [.int voth, .ref vmt, .int votp, .int vosz, .int volm, .int voto, .int vofr, .int vokd, .int vonu, .int vosg, .int vofa, .int vopl, .long vowd, .int votd, .ref vmn, .ref vmr, .ref vmk, .ref vms, .ref vma, .ref vmm, .ref vmrn, .ref vmkn, .ref vmik, .ref vmon, .int vosm, .int vohp, .ref vmw, .ref vmf, .ref vmb, .int vomb, .ref vmd, .ref vmc, .int vocm, .int voct, .int vocy, .ref vmx, .int votx, .int vose_31, .ref vml, .ref vmwr, .int voln, .int vohw, .ref vmno, .int vond, .int voon, .int vowi, .int votop])), (vmn, .inl (cy 0, 575, .inl vmnf_30))] H := hP
              have hD : va_D A [(vo, .inr (12, [.int voth, .ref vmt, .int votp, .int vosz, .int volm, .int voto, .int vofr, .int vokd, .int vonu, .int vosg, .int vofa, .int vopl, .long vowd, .int votd, .ref vmn, .ref vmr, .ref vmk, .ref vms, .ref vma, .ref vmm, .ref vmrn, .ref vmkn, .ref vmik, .ref vmon, .int vosm, .int vohp, .ref vmw, .ref vmf, .ref vmb, .int vomb, .ref vmd, .ref vmc, .int vocm, .int voct, .int vocy, .ref vmx, .int votx, .int vose_31, .ref vml, .ref vmwr, .int voln, .int vohw, .ref vmno, .int vond, .int voon, .int vowi, .int votop])), (vmn, .inl (cy 0, 575, .inl vmnf_30))] := hD
              obtain ⟨z_33, ez_33⟩ : ∃ z : Int32, z = x_15 + 1 := ⟨_, rfl⟩
              have k_1 : (1 : Int32).toInt = 1 := by decide
              have bz_33 : z_33.toInt = x_15.toInt + (1 : Int32).toInt := i_add ez_33 (by omega) (by omega)
              refine lv_iinc (v := z_33) (lv' := [(5, .int z_33), (4, .int x_10), (3, .int r_4), (0, .ref vo), (1, .int vn), (2, .int vx)]) hx hb dX11_drawYears_51 hl (k := 0) rfl ez_33.symm (by decide) rfl (fun ls hl => ?_)
              refine lv_goto (tgt := 34) hx hb dX11_drawYears_54 (by decide) ?_
              exact ih14 z_33 vose_31 vmnf_30 ⟨by omega, by omega⟩ q_32 (by omega) _ _ (hP.sub [0, 1] rfl) (hD.sub [0, 1] rfl rfl) hS ls (lv_sub hl [0, 1, 2, 3, 4, 5] rfl)
        have k_0 : (0 : Int32).toInt = 0 := by decide
        exact loop14 ((7 - (0 : Int32).toInt).toNat + 1) 0 x_11 g_12 ⟨by omega, by omega⟩ p_g_12 (by omega) _ _ hP hD hS ls (lv_sub hl [0, 1, 2, 3, 4, 5] rfl)
  have k_0 : (0 : Int32).toInt = 0 := by decide
  exact loop9 ((30 - (0 : Int32).toInt).toNat + 1) 0 vx vmnf ⟨by omega, by omega⟩ p_vmnf (by omega) _ _ hP hD hS ls (lv_sub hl [0, 1, 2, 3, 4] rfl)
abbrev cX11_drawn : ByteArray := prog_13_method_104_code
def yX11_drawn : MethodName := ⟨RX11, "drawn", "(II)I"⟩
theorem t1949 : Cond.code yX11_drawn cX11_drawn 3 (some .int) ∈ GW := gw_mem 2063 (by decide +kernel) (by decide +kernel)
abbrev O_m_drawn (cy : Nat → ClassId) (vnh : Nat → Int32) (vo : Nat) (voth : Int32) (vmt : Nat) (votp : Int32) (vosz : Int32) (volm : Int32) (voto : Int32) (vofr : Int32) (vokd : Int32) (vonu : Int32) (vosg : Int32) (vofa : Int32) (vopl : Int32) (vowd : Int64) (votd : Int32) (vmn : Nat) (vmr : Nat) (vmk : Nat) (vms : Nat) (vma : Nat) (vmm : Nat) (vmrn : Nat) (vmkn : Nat) (vmik : Nat) (vmon : Nat) (vosm : Int32) (vohp : Int32) (vmw : Nat) (vmf : Nat) (vmb : Nat) (vomb : Int32) (vmd : Nat) (vmc : Nat) (vocm : Int32) (voct : Int32) (vocy : Int32) (vmx : Nat) (votx : Int32) (vose : Int32) (vml : Nat) (vmwr : Nat) (voln : Int32) (vohw : Int32) (vmno : Nat) (vond : Int32) (voon : Int32) (vowi : Int32) (votop : Int32) (vmnf : Nat → Int32) (vmsf : Nat → Int32) (vn : Int32) (vx : Int32) (u : Int32 × (Nat → Int32) × (Nat → Int32) × Int32 × Int32) : va_W := [(vo, .inr (12, [.int u.1, .ref vmt, .int votp, .int vosz, .int volm, .int voto, .int vofr, .int vokd, .int vonu, .int vosg, .int vofa, .int vopl, .long vowd, .int votd, .ref vmn, .ref vmr, .ref vmk, .ref vms, .ref vma, .ref vmm, .ref vmrn, .ref vmkn, .ref vmik, .ref vmon, .int u.2.2.2.1, .int vohp, .ref vmw, .ref vmf, .ref vmb, .int vomb, .ref vmd, .ref vmc, .int vocm, .int voct, .int vocy, .ref vmx, .int votx, .int u.2.2.2.2, .ref vml, .ref vmwr, .int voln, .int vohw, .ref vmno, .int vond, .int voon, .int vowi, .int votop])), (vmn, .inl (cy 0, 575, .inl u.2.1)), (vms, .inl (cy 0, 1408, .inl u.2.2.1))]
theorem dX11_drawn_0 : decode cX11_drawn 0 = .ok (.aload_n 0, 1) := by decide +kernel
theorem dX11_drawn_1 : decode cX11_drawn 1 = .ok (.iconst 0, 1) := by decide +kernel
theorem dX11_drawn_2 : decode cX11_drawn 2 = .ok (.putfield 1, 3) := by decide +kernel
theorem dX11_drawn_5 : decode cX11_drawn 5 = .ok (.iload_n 1, 1) := by decide +kernel
theorem dX11_drawn_6 : decode cX11_drawn 6 = .ok (.iconst 1, 1) := by decide +kernel
theorem dX11_drawn_7 : decode cX11_drawn 7 = .ok (.bipush 30, 2) := by decide +kernel
theorem dX11_drawn_9 : decode cX11_drawn 9 = .ok (.invokestatic 75, 3) := by decide +kernel
theorem dX11_drawn_12 : decode cX11_drawn 12 = .ok (.ifCond .eq 12, 3) := by decide +kernel
theorem dX11_drawn_24 : decode cX11_drawn 24 = .ok (.iconst (-1), 1) := by decide +kernel
theorem dX11_drawn_25 : decode cX11_drawn 25 = .ok (.ireturn, 1) := by decide +kernel
theorem dX11_drawn_15 : decode cX11_drawn 15 = .ok (.aload_n 0, 1) := by decide +kernel
theorem dX11_drawn_16 : decode cX11_drawn 16 = .ok (.getfield 98, 3) := by decide +kernel
theorem dX11_drawn_19 : decode cX11_drawn 19 = .ok (.iconst 0, 1) := by decide +kernel
theorem dX11_drawn_20 : decode cX11_drawn 20 = .ok (.iaload, 1) := by decide +kernel
theorem dX11_drawn_21 : decode cX11_drawn 21 = .ok (.ifCond .ne 5, 3) := by decide +kernel
theorem dX11_drawn_26 : decode cX11_drawn 26 = .ok (.aload_n 0, 1) := by decide +kernel
theorem dX11_drawn_27 : decode cX11_drawn 27 = .ok (.getfield 98, 3) := by decide +kernel
theorem dX11_drawn_30 : decode cX11_drawn 30 = .ok (.sipush 157, 3) := by decide +kernel
theorem dX11_drawn_33 : decode cX11_drawn 33 = .ok (.iaload, 1) := by decide +kernel
theorem dX11_drawn_34 : decode cX11_drawn 34 = .ok (.sipush 200, 3) := by decide +kernel
theorem dX11_drawn_37 : decode cX11_drawn 37 = .ok (.if_icmp .ne 5, 3) := by decide +kernel
theorem dX11_drawn_42 : decode cX11_drawn 42 = .ok (.aload_n 0, 1) := by decide +kernel
theorem dX11_drawn_43 : decode cX11_drawn 43 = .ok (.invokevirtual 278, 3) := by decide +kernel
theorem dX11_drawn_46 : decode cX11_drawn 46 = .ok (.aload_n 0, 1) := by decide +kernel
theorem dX11_drawn_47 : decode cX11_drawn 47 = .ok (.iload_n 1, 1) := by decide +kernel
theorem dX11_drawn_48 : decode cX11_drawn 48 = .ok (.iload_n 2, 1) := by decide +kernel
theorem dX11_drawn_49 : decode cX11_drawn 49 = .ok (.invokevirtual 361, 3) := by decide +kernel
theorem t1950 : Cond.methodLink RX11 361 yX11_drawYears ∈ GW := gw_mem 2064 (by decide +kernel) (by decide +kernel)
theorem t1952 : Cond.instanceMethod yX11_drawYears ∈ GW := gw_mem 2066 (by decide +kernel) (by decide +kernel)
theorem s92 : Cond.selects RX11 yX11_drawYears yX11_drawYears ∈ GW := gw_mem 92 (by decide +kernel) (by decide +kernel)
theorem cw_X11_361 {R : Room} {s : State} {args : Array Value} {rm : Room} {mc ms : Nat} (hts : ∀ w ∈ GW, w.before args s = true) (hrc : rm.cells = mc) (hrs : rm.slots = ms) (hR : rm.frames + 1 ≤ R.frames ∧ 8 + (6 + 11) + rm.locals ≤ R.locals) : CallW R s args RX11 RX11 361 yX11_drawYears cX11_drawYears 6 (some .int) (wl yX11_drawYears cX11_drawYears 6 (some .int)) rm mc ms 2 := cwV 2 hts (gi_V t1950 t1952 s92 t18 t1953) rfl hrc hrs (by decide +kernel) hR
theorem dX11_drawn_52 : decode cX11_drawn 52 = .ok (.ireturn, 1) := by decide +kernel
theorem dX11_drawn_40 : decode cX11_drawn 40 = .ok (.iconst 0, 1) := by decide +kernel
theorem dX11_drawn_41 : decode cX11_drawn 41 = .ok (.ireturn, 1) := by decide +kernel
set_option maxHeartbeats 4000000 in
set_option maxRecDepth 100000 in
theorem m_drawn (l : Launch) (dC : Nat → ClassId) (dI : Nat → Nat → Nat) (cy : Nat → ClassId) (sz : Nat) (vnh : Nat → Int32) (vo : Nat) (voth : Int32) (vmt : Nat) (votp : Int32) (vosz : Int32) (volm : Int32) (voto : Int32) (vofr : Int32) (vokd : Int32) (vonu : Int32) (vosg : Int32) (vofa : Int32) (vopl : Int32) (vowd : Int64) (votd : Int32) (vmn : Nat) (vmr : Nat) (vmk : Nat) (vms : Nat) (vma : Nat) (vmm : Nat) (vmrn : Nat) (vmkn : Nat) (vmik : Nat) (vmon : Nat) (vosm : Int32) (vohp : Int32) (vmw : Nat) (vmf : Nat) (vmb : Nat) (vomb : Int32) (vmd : Nat) (vmc : Nat) (vocm : Int32) (voct : Int32) (vocy : Int32) (vmx : Nat) (votx : Int32) (vose : Int32) (vml : Nat) (vmwr : Nat) (voln : Int32) (vohw : Int32) (vmno : Nat) (vond : Int32) (voon : Int32) (vowi : Int32) (votop : Int32) (vmnf : Nat → Int32) (vmsf : Nat → Int32) (vn : Int32) (vx : Int32) (r_vosm : 0 ≤ (vosm : Int32).toInt ∧ (vosm : Int32).toInt ≤ 8) (p_vmnf : NW vnh vmnf) : Met l yX11_drawn (wl yX11_drawn cX11_drawn 3 (some .int)) ({ frames := 7, cells := 0, slots := 0, locals := 448 }) (Pw (dC, dI) vwCl cy [(vo, .inr (12, [.int voth, .ref vmt, .int votp, .int vosz, .int volm, .int voto, .int vofr, .int vokd, .int vonu, .int vosg, .int vofa, .int vopl, .long vowd, .int votd, .ref vmn, .ref vmr, .ref vmk, .ref vms, .ref vma, .ref vmm, .ref vmrn, .ref vmkn, .ref vmik, .ref vmon, .int vosm, .int vohp, .ref vmw, .ref vmf, .ref vmb, .int vomb, .ref vmd, .ref vmc, .int vocm, .int voct, .int vocy, .ref vmx, .int votx, .int vose, .ref vml, .ref vmwr, .int voln, .int vohw, .ref vmno, .int vond, .int voon, .int vowi, .int votop])), (vmn, .inl (cy 0, 575, .inl vmnf)), (vms, .inl (cy 0, 1408, .inl vmsf))] sz [.ref vo, .int vn, .int vx] nE) (Qi (dC, dI) vwCl (fun (r : Int32) (u : Int32 × (Nat → Int32) × (Nat → Int32) × Int32 × Int32) => (NW vnh u.2.1) ∧ (0 ≤ (u.2.2.2.1 : Int32).toInt ∧ (u.2.2.2.1 : Int32).toInt ≤ 8)) (O_m_drawn cy vnh vo voth vmt votp vosz volm voto vofr vokd vonu vosg vofa vopl vowd votd vmn vmr vmk vms vma vmm vmrn vmkn vmik vmon vosm vohp vmw vmf vmb vomb vmd vmc vocm voct vocy vmx votx vose vml vmwr voln vohw vmno vond voon vowi votop vmnf vmsf vn vx) (va_A [(vo, .inr (12, [.int voth, .ref vmt, .int votp, .int vosz, .int volm, .int voto, .int vofr, .int vokd, .int vonu, .int vosg, .int vofa, .int vopl, .long vowd, .int votd, .ref vmn, .ref vmr, .ref vmk, .ref vms, .ref vma, .ref vmm, .ref vmrn, .ref vmkn, .ref vmik, .ref vmon, .int vosm, .int vohp, .ref vmw, .ref vmf, .ref vmb, .int vomb, .ref vmd, .ref vmc, .int vocm, .int voct, .int vocy, .ref vmx, .int votx, .int vose, .ref vml, .ref vmwr, .int voln, .int vohw, .ref vmno, .int vond, .int voon, .int vowi, .int votop])), (vmn, .inl (cy 0, 575, .inl vmnf)), (vms, .inl (cy 0, 1408, .inl vmsf))] sz)) 0 0 (va_A [(vo, .inr (12, [.int voth, .ref vmt, .int votp, .int vosz, .int volm, .int voto, .int vofr, .int vokd, .int vonu, .int vosg, .int vofa, .int vopl, .long vowd, .int votd, .ref vmn, .ref vmr, .ref vmk, .ref vms, .ref vma, .ref vmm, .ref vmrn, .ref vmkn, .ref vmik, .ref vmon, .int vosm, .int vohp, .ref vmw, .ref vmf, .ref vmb, .int vomb, .ref vmd, .ref vmc, .int vocm, .int voct, .int vocy, .ref vmx, .int votx, .int vose, .ref vml, .ref vmwr, .int voln, .int vohw, .ref vmno, .int vond, .int voon, .int vowi, .int votop])), (vmn, .inl (cy 0, 575, .inl vmnf)), (vms, .inl (cy 0, 1408, .inl vmsf))] sz) := by
  refine mw (Qc := Qi (dC, dI) vwCl (fun (r : Int32) (u : Int32 × (Nat → Int32) × (Nat → Int32) × Int32 × Int32) => (NW vnh u.2.1) ∧ (0 ≤ (u.2.2.2.1 : Int32).toInt ∧ (u.2.2.2.1 : Int32).toInt ≤ 8)) (O_m_drawn cy vnh vo voth vmt votp vosz volm voto vofr vokd vonu vosg vofa vopl vowd votd vmn vmr vmk vms vma vmm vmrn vmkn vmik vmon vosm vohp vmw vmf vmb vomb vmd vmc vocm voct vocy vmx votx vose vml vmwr voln vohw vmno vond voon vowi votop vmnf vmsf vn vx)) RX11 rfl (by decide +kernel) (Nat.le_of_ble_eq_true rfl) ?_
  intro p e s m below meth c A hx hb hr hlocks av9 hav hts hown hnm hml hK hP hD hA hS hE hAe Q9 hQ9 ls hl
  have hl : lv_has ls 3 [(0, .ref vo), (1, .int vn), (2, .int vx)] := hl
  refine lv_aload_n hx hb dX11_drawn_0 rfl (lv_at hl 0 rfl) ?_
  refine lv_iconst (v := 0) hx hb dX11_drawn_1 (by decide) ?_
  refine pf_X11_1 hx hb hts hown hK hP hD hS 0 rfl rfl rfl (Nat.le_of_ble_eq_true rfl) dX11_drawn_2 (fun H locs hP hD hS => ?_)
  have hP : va_P (dC, dI) vwCl [(vo, .inr (12, [.int 0, .ref vmt, .int votp, .int vosz, .int volm, .int voto, .int vofr, .int vokd, .int vonu, .int vosg, .int vofa, .int vopl, .long vowd, .int votd, .ref vmn, .ref vmr, .ref vmk, .ref vms, .ref vma, .ref vmm, .ref vmrn, .ref vmkn, .ref vmik, .ref vmon, .int vosm, .int vohp, .ref vmw, .ref vmf, .ref vmb, .int vomb, .ref vmd, .ref vmc, .int vocm, .int voct, .int vocy, .ref vmx, .int votx, .int vose, .ref vml, .ref vmwr, .int voln, .int vohw, .ref vmno, .int vond, .int voon, .int vowi, .int votop])), (vmn, .inl (cy 0, 575, .inl vmnf)), (vms, .inl (cy 0, 1408, .inl vmsf))] H := hP
  have hD : va_D A [(vo, .inr (12, [.int 0, .ref vmt, .int votp, .int vosz, .int volm, .int voto, .int vofr, .int vokd, .int vonu, .int vosg, .int vofa, .int vopl, .long vowd, .int votd, .ref vmn, .ref vmr, .ref vmk, .ref vms, .ref vma, .ref vmm, .ref vmrn, .ref vmkn, .ref vmik, .ref vmon, .int vosm, .int vohp, .ref vmw, .ref vmf, .ref vmb, .int vomb, .ref vmd, .ref vmc, .int vocm, .int voct, .int vocy, .ref vmx, .int votx, .int vose, .ref vml, .ref vmwr, .int voln, .int vohw, .ref vmno, .int vond, .int voon, .int vowi, .int votop])), (vmn, .inl (cy 0, 575, .inl vmnf)), (vms, .inl (cy 0, 1408, .inl vmsf))] := hD
  refine lv_iload_n hx hb dX11_drawn_5 rfl (lv_at hl 1 rfl) ?_
  refine lv_iconst (v := 1) hx hb dX11_drawn_6 (by decide) ?_
  refine lv_bipush (v := 30) hx hb dX11_drawn_7 (by decide) ?_
  have k_1 : (1 : Int32).toInt = 1 := by decide
  have k_30 : (30 : Int32).toInt = 30 := by decide
  refine jr_i (rSr (As := [.int vn, .int 1, .int 30]) (rest := []) ⟨hx, hb, hml, hown, hts⟩ (m_isIn l dC dI cy vn 1 30 ) (cw_X11_75 hts rfl rfl ⟨Nat.le_of_ble_eq_true rfl, Nat.le_of_ble_eq_true rfl⟩) hP hK [] rfl rfl hl.1 rfl (Nat.le_of_ble_eq_true rfl) dX11_drawn_9 ⟨Nat.le_of_ble_eq_true rfl, Nat.le_of_ble_eq_true rfl⟩) hP hS (fun r_1 H locs hp_2 hP hS => ?_)
  have hp_2 : ((r_1 = 0 ∧ ((vn : Int32).toInt < (1 : Int32).toInt ∨ (30 : Int32).toInt < (vn : Int32).toInt)) ∨ (r_1 = 1 ∧ (1 : Int32).toInt ≤ (vn : Int32).toInt ∧ (vn : Int32).toInt ≤ (30 : Int32).toInt)) := hp_2
  have q_3 := hp_2
  rcases q_3 with ⟨aq_3, f0q_3⟩ | ⟨aq_3, f0q_3, f1q_3⟩
  · skip
    refine as_i 0 aq_3 ?_
    refine lv_if_eq (tgt := 24) hx hb dX11_drawn_12 (by decide) (fun _ => ?_) (fun c9 => absurd (by decide) c9)
    refine lv_iconst (v := (-1)) hx hb dX11_drawn_24 (by decide) ?_
    have k_0 : (0 : Int32).toInt = 0 := by decide
    have k_m1 : ((-1) : Int32).toInt = (-1) := by decide
    rw [hQ9]
    exact re_i ((0 : Int32), vmnf, vmsf, vosm, vose) hx hb hr hlocks ⟨(show NW vnh vmnf from p_vmnf), (show 0 ≤ (vosm : Int32).toInt ∧ (vosm : Int32).toInt ≤ 8 from ⟨by omega, by omega⟩)⟩ (hP.sub [0, 1, 2] rfl) (hD.sub [0, 1, 2] rfl rfl) hS dX11_drawn_25
  · skip
    refine as_i 1 aq_3 ?_
    refine lv_if_eq (tgt := 24) hx hb dX11_drawn_12 (by decide) (fun c9 => absurd c9 (by decide)) (fun _ => ?_)
    refine lv_aload_n hx hb dX11_drawn_15 rfl (lv_at hl 0 rfl) ?_
    refine gf_X11_98 hx hb hts hown hK hP 0 rfl rfl dX11_drawn_16 ?_
    refine lv_iconst (v := 0) hx hb dX11_drawn_19 (by decide) ?_
    have k_0 : (0 : Int32).toInt = 0 := by decide
    have hin_4 : vp_in (0 : Int32) 575 := vp_in_iff.mpr ⟨by omega, by omega⟩
    refine va_iald hx hb hK hP 1 0 rfl rfl hin_4 dX11_drawn_20 ?_
    refine lv_topi (fun z_5 ez_5 => ?_)
    have bz_5 := p_vmnf.a0 (x := 0) ⟨by omega, by omega⟩ ez_5
    have tz_5 : z_5.toInt = (vmnf 0).toInt := by rw [ez_5]; rfl
    refine lv_if_ne (tgt := 26) hx hb dX11_drawn_21 (by decide) (fun c_6 => ?_) (fun c_6 => ?_)
    · skip
      have c_6 : ¬ (z_5.toInt = (0 : Int32).toInt) := fun h9 => c_6 (i_eq.mpr h9)
      refine lv_aload_n hx hb dX11_drawn_26 rfl (lv_at hl 0 rfl) ?_
      refine gf_X11_98 hx hb hts hown hK hP 0 rfl rfl dX11_drawn_27 ?_
      refine lv_sipush (v := 157) hx hb dX11_drawn_30 (by decide) ?_
      have k_157 : (157 : Int32).toInt = 157 := by decide
      have hin_7 : vp_in (157 : Int32) 575 := vp_in_iff.mpr ⟨by omega, by omega⟩
      refine va_iald hx hb hK hP 1 0 rfl rfl hin_7 dX11_drawn_33 ?_
      refine lv_topi (fun z_8 ez_8 => ?_)
      have tz_8 : z_8.toInt = (vmnf 157).toInt := by rw [ez_8]; rfl
      refine lv_sipush (v := 200) hx hb dX11_drawn_34 (by decide) ?_
      have k_200 : (200 : Int32).toInt = 200 := by decide
      refine lv_icmp_ne (tgt := 42) hx hb dX11_drawn_37 (by decide) (fun c_9 => ?_) (fun c_9 => ?_)
      · skip
        have c_9 : ¬ (z_8.toInt = (200 : Int32).toInt) := fun h9 => c_9 (i_eq.mpr h9)
        refine lv_aload_n hx hb dX11_drawn_42 rfl (lv_at hl 0 rfl) ?_
        refine jn_v (wr := []) (rV (As := []) (rest := []) (ci := 12) ⟨hx, hb, hml, hown, hts⟩ (m_snap l dC dI cy _ vnh vo 0 vmt votp vosz volm voto vofr vokd vonu vosg vofa vopl vowd votd vmn vmr vmk vms vma vmm vmrn vmkn vmik vmon vosm vohp vmw vmf vmb vomb vmd vmc vocm voct vocy vmx votx vose vml vmwr voln vohw vmno vond voon vowi votop vmnf vmsf r_vosm p_vmnf) (cw_X11_278 hts rfl rfl ⟨Nat.le_of_ble_eq_true rfl, Nat.le_of_ble_eq_true rfl⟩) hP hD hK [0, 1, 2] rfl rfl rfl rfl bl0 e0 rfl hl.1 rfl (Nat.le_of_ble_eq_true rfl) dX11_drawn_43 ⟨Nat.le_of_ble_eq_true rfl, Nat.le_of_ble_eq_true rfl⟩) hP hD hS hA [0, 1, 2] [] rfl rfl rfl (by decide) (fun u_12 H locs hp_11 hP hD hS => ?_)
        obtain ⟨vmsf_13, vosm_14⟩ := u_12
        have hp_11 : (0 ≤ (vosm_14 : Int32).toInt ∧ (vosm_14 : Int32).toInt ≤ 8) := hp_11
        have q_15 := hp_11
        have hP : va_P (dC, dI) vwCl [(vo, .inr (12, [.int 0, .ref vmt, .int votp, .int vosz, .int volm, .int voto, .int vofr, .int vokd, .int vonu, .int vosg, .int vofa, .int vopl, .long vowd, .int votd, .ref vmn, .ref vmr, .ref vmk, .ref vms, .ref vma, .ref vmm, .ref vmrn, .ref vmkn, .ref vmik, .ref vmon, .int vosm_14, .int vohp, .ref vmw, .ref vmf, .ref vmb, .int vomb, .ref vmd, .ref vmc, .int vocm, .int voct, .int vocy, .ref vmx, .int votx, .int vose, .ref vml, .ref vmwr, .int voln, .int vohw, .ref vmno, .int vond, .int voon, .int vowi, .int votop])), (vmn, .inl (cy 0, 575, .inl vmnf)), (vms, .inl (cy 0, 1408, .inl vmsf_13))] H := hP
        have hD : va_D A [(vo, .inr (12, [.int 0, .ref vmt, .int votp, .int vosz, .int volm, .int voto, .int vofr, .int vokd, .int vonu, .int vosg, .int vofa, .int vopl, .long vowd, .int votd, .ref vmn, .ref vmr, .ref vmk, .ref vms, .ref vma, .ref vmm, .ref vmrn, .ref vmkn, .ref vmik, .ref vmon, .int vosm_14, .int vohp, .ref vmw, .ref vmf, .ref vmb, .int vomb, .ref vmd, .ref vmc, .int vocm, .int voct, .int vocy, .ref vmx, .int votx, .int vose, .ref vml, .ref vmwr, .int voln, .int vohw, .ref vmno, .int vond, .int voon, .int vowi, .int votop])), (vmn, .inl (cy 0, 575, .inl vmnf)), (vms, .inl (cy 0, 1408, .inl vmsf_13))] := hD
        refine lv_aload_n hx hb dX11_drawn_46 rfl (lv_at hl 0 rfl) ?_
        refine lv_iload_n hx hb dX11_drawn_47 rfl (lv_at hl 1 rfl) ?_
        refine lv_iload_n hx hb dX11_drawn_48 rfl (lv_at hl 2 rfl) ?_
        refine jn_i (wr := [(vms, .inl (cy 0, 1408, .inl vmsf_13))]) (rV (As := [.int vn, .int vx]) (rest := []) (ci := 12) ⟨hx, hb, hml, hown, hts⟩ (m_drawYears l dC dI cy _ vnh vo 0 vmt votp vosz volm voto vofr vokd vonu vosg vofa vopl vowd votd vmn vmr vmk vms vma vmm vmrn vmkn vmik vmon vosm_14 vohp vmw vmf vmb vomb vmd vmc vocm voct vocy vmx votx vose vml vmwr voln vohw vmno vond voon vowi votop vmnf vn vx ⟨by omega, by omega⟩ p_vmnf) (cw_X11_361 hts rfl rfl ⟨Nat.le_of_ble_eq_true rfl, Nat.le_of_ble_eq_true rfl⟩) hP hD hK [0, 1] rfl rfl rfl rfl bl0 e0 rfl hl.1 rfl (Nat.le_of_ble_eq_true rfl) dX11_drawn_49 ⟨Nat.le_of_ble_eq_true rfl, Nat.le_of_ble_eq_true rfl⟩) hP hD hS hA [0, 1] [2] rfl rfl rfl (by decide) (fun r_16 u_18 H locs hp_17 hP hD hS => ?_)
        obtain ⟨vmnf_19, vose_20⟩ := u_18
        have hp_17 : (NW vnh vmnf_19) := hp_17
        have q_21 := hp_17
        have hP : va_P (dC, dI) vwCl [(vms, .inl (cy 0, 1408, .inl vmsf_13)), (vo, .inr (12, [.int 0, .ref vmt, .int votp, .int vosz, .int volm, .int voto, .int vofr, .int vokd, .int vonu, .int vosg, .int vofa, .int vopl, .long vowd, .int votd, .ref vmn, .ref vmr, .ref vmk, .ref vms, .ref vma, .ref vmm, .ref vmrn, .ref vmkn, .ref vmik, .ref vmon, .int vosm_14, .int vohp, .ref vmw, .ref vmf, .ref vmb, .int vomb, .ref vmd, .ref vmc, .int vocm, .int voct, .int vocy, .ref vmx, .int votx, .int vose_20, .ref vml, .ref vmwr, .int voln, .int vohw, .ref vmno, .int vond, .int voon, .int vowi, .int votop])), (vmn, .inl (cy 0, 575, .inl vmnf_19))] H := hP
        have hD : va_D A [(vms, .inl (cy 0, 1408, .inl vmsf_13)), (vo, .inr (12, [.int 0, .ref vmt, .int votp, .int vosz, .int volm, .int voto, .int vofr, .int vokd, .int vonu, .int vosg, .int vofa, .int vopl, .long vowd, .int votd, .ref vmn, .ref vmr, .ref vmk, .ref vms, .ref vma, .ref vmm, .ref vmrn, .ref vmkn, .ref vmik, .ref vmon, .int vosm_14, .int vohp, .ref vmw, .ref vmf, .ref vmb, .int vomb, .ref vmd, .ref vmc, .int vocm, .int voct, .int vocy, .ref vmx, .int votx, .int vose_20, .ref vml, .ref vmwr, .int voln, .int vohw, .ref vmno, .int vond, .int voon, .int vowi, .int votop])), (vmn, .inl (cy 0, 575, .inl vmnf_19))] := hD
        rw [hQ9]
        exact re_i ((0 : Int32), vmnf_19, vmsf_13, vosm_14, vose_20) hx hb hr hlocks ⟨(show NW vnh vmnf_19 from q_21), (show 0 ≤ (vosm_14 : Int32).toInt ∧ (vosm_14 : Int32).toInt ≤ 8 from ⟨by omega, by omega⟩)⟩ (hP.sub [1, 2, 0] rfl) (hD.sub [1, 2, 0] rfl rfl) hS dX11_drawn_52
      · skip
        have c_9 : z_8.toInt = (200 : Int32).toInt := i_eq.mp c_9
        refine lv_iconst (v := 0) hx hb dX11_drawn_40 (by decide) ?_
        rw [hQ9]
        exact re_i ((0 : Int32), vmnf, vmsf, vosm, vose) hx hb hr hlocks ⟨(show NW vnh vmnf from p_vmnf), (show 0 ≤ (vosm : Int32).toInt ∧ (vosm : Int32).toInt ≤ 8 from ⟨by omega, by omega⟩)⟩ (hP.sub [0, 1, 2] rfl) (hD.sub [0, 1, 2] rfl rfl) hS dX11_drawn_41
    · skip
      have c_6 : z_5.toInt = (0 : Int32).toInt := i_eq.mp c_6
      refine lv_iconst (v := (-1)) hx hb dX11_drawn_24 (by decide) ?_
      have k_m1 : ((-1) : Int32).toInt = (-1) := by decide
      rw [hQ9]
      exact re_i ((0 : Int32), vmnf, vmsf, vosm, vose) hx hb hr hlocks ⟨(show NW vnh vmnf from p_vmnf), (show 0 ≤ (vosm : Int32).toInt ∧ (vosm : Int32).toInt ≤ 8 from ⟨by omega, by omega⟩)⟩ (hP.sub [0, 1, 2] rfl) (hD.sub [0, 1, 2] rfl rfl) hS dX11_drawn_25
abbrev cX11_layAside : ByteArray := prog_13_method_105_code
def yX11_layAside : MethodName := ⟨RX11, "layAside", "()V"⟩
theorem t1970 : Cond.code yX11_layAside cX11_layAside 2 none ∈ GW := gw_mem 2084 (by decide +kernel) (by decide +kernel)
abbrev O_m_layAside (cy : Nat → ClassId) (vnh : Nat → Int32) (vo : Nat) (voth : Int32) (vmt : Nat) (votp : Int32) (vosz : Int32) (volm : Int32) (voto : Int32) (vofr : Int32) (vokd : Int32) (vonu : Int32) (vosg : Int32) (vofa : Int32) (vopl : Int32) (vowd : Int64) (votd : Int32) (vmn : Nat) (vmr : Nat) (vmk : Nat) (vms : Nat) (vma : Nat) (vmm : Nat) (vmrn : Nat) (vmkn : Nat) (vmik : Nat) (vmon : Nat) (vosm : Int32) (vohp : Int32) (vmw : Nat) (vmf : Nat) (vmb : Nat) (vomb : Int32) (vmd : Nat) (vmc : Nat) (vocm : Int32) (voct : Int32) (vocy : Int32) (vmx : Nat) (votx : Int32) (vose : Int32) (vml : Nat) (vmwr : Nat) (voln : Int32) (vohw : Int32) (vmno : Nat) (vond : Int32) (voon : Int32) (vowi : Int32) (votop : Int32) (vmnf : Nat → Int32) (vmaf : Nat → Int32) (u : (Nat → Int32)) : va_W := [(vo, .inr (12, [.int voth, .ref vmt, .int votp, .int vosz, .int volm, .int voto, .int vofr, .int vokd, .int vonu, .int vosg, .int vofa, .int vopl, .long vowd, .int votd, .ref vmn, .ref vmr, .ref vmk, .ref vms, .ref vma, .ref vmm, .ref vmrn, .ref vmkn, .ref vmik, .ref vmon, .int vosm, .int vohp, .ref vmw, .ref vmf, .ref vmb, .int vomb, .ref vmd, .ref vmc, .int vocm, .int voct, .int vocy, .ref vmx, .int votx, .int vose, .ref vml, .ref vmwr, .int voln, .int vohw, .ref vmno, .int vond, .int voon, .int vowi, .int votop])), (vmn, .inl (cy 0, 575, .inl vmnf)), (vma, .inl (cy 0, 176, .inl u))]
theorem dX11_layAside_0 : decode cX11_layAside 0 = .ok (.iconst 0, 1) := by decide +kernel
theorem dX11_layAside_1 : decode cX11_layAside 1 = .ok (.istore_n 1, 1) := by decide +kernel
theorem dX11_layAside_2 : decode cX11_layAside 2 = .ok (.iload_n 1, 1) := by decide +kernel
theorem dX11_layAside_3 : decode cX11_layAside 3 = .ok (.sipush 176, 3) := by decide +kernel
theorem dX11_layAside_6 : decode cX11_layAside 6 = .ok (.if_icmp .ge 25, 3) := by decide +kernel
theorem dX11_layAside_31 : decode cX11_layAside 31 = .ok (.return_, 1) := by decide +kernel
theorem dX11_layAside_9 : decode cX11_layAside 9 = .ok (.aload_n 0, 1) := by decide +kernel
theorem dX11_layAside_10 : decode cX11_layAside 10 = .ok (.getfield 110, 3) := by decide +kernel
theorem t1460 : Cond.fieldLink RX11 110 "LikenessPoundModel" "aside" "[I" ∈ GW := gw_mem 1574 (by decide +kernel) (by decide +kernel)
theorem gf_X11_110 {p : Program} {l : Launch} {e : Env} {R : Room} {s : State} {m : MethodId} {args : Array Value} {below : List Frame} {meth : Method} {c : Code} {H : Heap} {locs : List Loc} {cells slots : Nat} {Q : State → Prop} {cc : ByteArray} {pc : Nat} {ls : Array Slot} {rest : List Value} {D : va_G} {a : Nat} {tys : List (ClassId × FieldType)} {ws : va_W} (hx : p.tables.exec = Jvm.exec) (hb : c.code = cc) (hts : ∀ w ∈ GW, w.before args s = true) (hown : s.vm.findClass RX11 = some m.cls) (hK : va_K D vwCl tys s) (hP : va_P D vwCl ws H) (q0 : Nat) {fs : List Value} (he : ws[q0]? = some (a, .inr (12, fs))) {v : Value} (hv : fs[18]? = some v) (hdg : decode cc pc = .ok (.getfield 110, 3)) (kk : W p l e R s m args below meth c H locs cells slots Q (F0 m (pc + 3) ls (v :: rest))) : W p l e R s m args below meth c H locs cells slots Q (F0 m pc ls (.ref a :: rest)) := va_get (C := RX11) (T := TX11) (N := 47) (ci := 12) hx hb hts inX11 hown hK hP q0 he rfl 18 (by decide) (hts _ t1460) (fun _ h => h) hv hdg kk
theorem dX11_layAside_13 : decode cX11_layAside 13 = .ok (.iload_n 1, 1) := by decide +kernel
theorem dX11_layAside_14 : decode cX11_layAside 14 = .ok (.aload_n 0, 1) := by decide +kernel
theorem dX11_layAside_15 : decode cX11_layAside 15 = .ok (.getfield 98, 3) := by decide +kernel
theorem dX11_layAside_18 : decode cX11_layAside 18 = .ok (.sipush 157, 3) := by decide +kernel
theorem dX11_layAside_21 : decode cX11_layAside 21 = .ok (.iload_n 1, 1) := by decide +kernel
theorem dX11_layAside_22 : decode cX11_layAside 22 = .ok (.iadd, 1) := by decide +kernel
theorem dX11_layAside_23 : decode cX11_layAside 23 = .ok (.iaload, 1) := by decide +kernel
theorem dX11_layAside_24 : decode cX11_layAside 24 = .ok (.iastore, 1) := by decide +kernel
theorem dX11_layAside_25 : decode cX11_layAside 25 = .ok (.iinc 1 1, 3) := by decide +kernel
theorem dX11_layAside_28 : decode cX11_layAside 28 = .ok (.goto (-26), 3) := by decide +kernel
set_option maxHeartbeats 4000000 in
set_option maxRecDepth 100000 in
theorem m_layAside (l : Launch) (dC : Nat → ClassId) (dI : Nat → Nat → Nat) (cy : Nat → ClassId) (sz : Nat) (vnh : Nat → Int32) (vo : Nat) (voth : Int32) (vmt : Nat) (votp : Int32) (vosz : Int32) (volm : Int32) (voto : Int32) (vofr : Int32) (vokd : Int32) (vonu : Int32) (vosg : Int32) (vofa : Int32) (vopl : Int32) (vowd : Int64) (votd : Int32) (vmn : Nat) (vmr : Nat) (vmk : Nat) (vms : Nat) (vma : Nat) (vmm : Nat) (vmrn : Nat) (vmkn : Nat) (vmik : Nat) (vmon : Nat) (vosm : Int32) (vohp : Int32) (vmw : Nat) (vmf : Nat) (vmb : Nat) (vomb : Int32) (vmd : Nat) (vmc : Nat) (vocm : Int32) (voct : Int32) (vocy : Int32) (vmx : Nat) (votx : Int32) (vose : Int32) (vml : Nat) (vmwr : Nat) (voln : Int32) (vohw : Int32) (vmno : Nat) (vond : Int32) (voon : Int32) (vowi : Int32) (votop : Int32) (vmnf : Nat → Int32) (vmaf : Nat → Int32) (p_vmnf : NW vnh vmnf) : Met l yX11_layAside (wl yX11_layAside cX11_layAside 2 none) ({ frames := 0, cells := 0, slots := 0, locals := 0 }) (Pw (dC, dI) vwCl cy [(vo, .inr (12, [.int voth, .ref vmt, .int votp, .int vosz, .int volm, .int voto, .int vofr, .int vokd, .int vonu, .int vosg, .int vofa, .int vopl, .long vowd, .int votd, .ref vmn, .ref vmr, .ref vmk, .ref vms, .ref vma, .ref vmm, .ref vmrn, .ref vmkn, .ref vmik, .ref vmon, .int vosm, .int vohp, .ref vmw, .ref vmf, .ref vmb, .int vomb, .ref vmd, .ref vmc, .int vocm, .int voct, .int vocy, .ref vmx, .int votx, .int vose, .ref vml, .ref vmwr, .int voln, .int vohw, .ref vmno, .int vond, .int voon, .int vowi, .int votop])), (vmn, .inl (cy 0, 575, .inl vmnf)), (vma, .inl (cy 0, 176, .inl vmaf))] sz [.ref vo] nE) (Qv (dC, dI) vwCl (fun (u : (Nat → Int32)) => True) (O_m_layAside cy vnh vo voth vmt votp vosz volm voto vofr vokd vonu vosg vofa vopl vowd votd vmn vmr vmk vms vma vmm vmrn vmkn vmik vmon vosm vohp vmw vmf vmb vomb vmd vmc vocm voct vocy vmx votx vose vml vmwr voln vohw vmno vond voon vowi votop vmnf vmaf) (va_A [(vo, .inr (12, [.int voth, .ref vmt, .int votp, .int vosz, .int volm, .int voto, .int vofr, .int vokd, .int vonu, .int vosg, .int vofa, .int vopl, .long vowd, .int votd, .ref vmn, .ref vmr, .ref vmk, .ref vms, .ref vma, .ref vmm, .ref vmrn, .ref vmkn, .ref vmik, .ref vmon, .int vosm, .int vohp, .ref vmw, .ref vmf, .ref vmb, .int vomb, .ref vmd, .ref vmc, .int vocm, .int voct, .int vocy, .ref vmx, .int votx, .int vose, .ref vml, .ref vmwr, .int voln, .int vohw, .ref vmno, .int vond, .int voon, .int vowi, .int votop])), (vmn, .inl (cy 0, 575, .inl vmnf)), (vma, .inl (cy 0, 176, .inl vmaf))] sz)) 0 0 (va_A [(vo, .inr (12, [.int voth, .ref vmt, .int votp, .int vosz, .int volm, .int voto, .int vofr, .int vokd, .int vonu, .int vosg, .int vofa, .int vopl, .long vowd, .int votd, .ref vmn, .ref vmr, .ref vmk, .ref vms, .ref vma, .ref vmm, .ref vmrn, .ref vmkn, .ref vmik, .ref vmon, .int vosm, .int vohp, .ref vmw, .ref vmf, .ref vmb, .int vomb, .ref vmd, .ref vmc, .int vocm, .int voct, .int vocy, .ref vmx, .int votx, .int vose, .ref vml, .ref vmwr, .int voln, .int vohw, .ref vmno, .int vond, .int voon, .int vowi, .int votop])), (vmn, .inl (cy 0, 575, .inl vmnf)), (vma, .inl (cy 0, 176, .inl vmaf))] sz) := by
  refine mw (Qc := Qv (dC, dI) vwCl (fun (u : (Nat → Int32)) => True) (O_m_layAside cy vnh vo voth vmt votp vosz volm voto vofr vokd vonu vosg vofa vopl vowd votd vmn vmr vmk vms vma vmm vmrn vmkn vmik vmon vosm vohp vmw vmf vmb vomb vmd vmc vocm voct vocy vmx votx vose vml vmwr voln vohw vmno vond voon vowi votop vmnf vmaf)) RX11 rfl (by decide +kernel) (Nat.le_of_ble_eq_true rfl) ?_
  intro p e s m below meth c A hx hb hr hlocks av9 hav hts hown hnm hml hK hP hD hA hS hE hAe Q9 hQ9 ls hl
  have hl : lv_has ls 2 [(0, .ref vo)] := hl
  refine lv_iconst (v := 0) hx hb dX11_layAside_0 (by decide) ?_
  refine lv_istore_n (lv' := [(1, .int 0), (0, .ref vo)]) hx hb dX11_layAside_1 rfl hl (by decide) rfl (fun ls hl => ?_)
  have loop1 : ∀ (n1 : Nat) (x_2 : Int32) (g_3 : Nat → Int32), (0 ≤ x_2.toInt ∧ x_2.toInt ≤ 176) → 176 - x_2.toInt < (n1 : Int) → ∀ (H : Heap) (locs : List Loc), va_P (dC, dI) vwCl [(vo, .inr (12, [.int voth, .ref vmt, .int votp, .int vosz, .int volm, .int voto, .int vofr, .int vokd, .int vonu, .int vosg, .int vofa, .int vopl, .long vowd, .int votd, .ref vmn, .ref vmr, .ref vmk, .ref vms, .ref vma, .ref vmm, .ref vmrn, .ref vmkn, .ref vmik, .ref vmon, .int vosm, .int vohp, .ref vmw, .ref vmf, .ref vmb, .int vomb, .ref vmd, .ref vmc, .int vocm, .int voct, .int vocy, .ref vmx, .int votx, .int vose, .ref vml, .ref vmwr, .int voln, .int vohw, .ref vmno, .int vond, .int voon, .int vowi, .int votop])), (vmn, .inl (cy 0, 575, .inl vmnf)), (vma, .inl (cy 0, 176, .inl g_3))] H → va_D A [(vo, .inr (12, [.int voth, .ref vmt, .int votp, .int vosz, .int volm, .int voto, .int vofr, .int vokd, .int vonu, .int vosg, .int vofa, .int vopl, .long vowd, .int votd, .ref vmn, .ref vmr, .ref vmk, .ref vms, .ref vma, .ref vmm, .ref vmrn, .ref vmkn, .ref vmik, .ref vmon, .int vosm, .int vohp, .ref vmw, .ref vmf, .ref vmb, .int vomb, .ref vmd, .ref vmc, .int vocm, .int voct, .int vocy, .ref vmx, .int votx, .int vose, .ref vml, .ref vmwr, .int voln, .int vohw, .ref vmno, .int vond, .int voon, .int vowi, .int votop])), (vmn, .inl (cy 0, 575, .inl vmnf)), (vma, .inl (cy 0, 176, .inl g_3))] → va_S A s.heap H locs → ∀ ls : Array Slot, lv_has ls 2 [(1, .int x_2), (0, .ref vo)] → W p l e ({ frames := 0, cells := 0, slots := 0, locals := 0 }) s m av9 below meth c H locs 0 0 Q9 (F0 m 2 ls []) := by
    intro n1
    induction n1 with
    | zero =>
      intro x_2 g_3 bx_2 hn1 H locs hP hD hS ls hl
      exfalso; omega
    | succ n1 ih1 =>
      intro x_2 g_3 bx_2 hn1 H locs hP hD hS ls hl
      refine lv_iload_n hx hb dX11_layAside_2 rfl (lv_at hl 0 rfl) ?_
      refine lv_sipush (v := 176) hx hb dX11_layAside_3 (by decide) ?_
      have k_176 : (176 : Int32).toInt = 176 := by decide
      refine lv_icmp_ge (tgt := 31) hx hb dX11_layAside_6 (by decide) (fun c_4 => ?_) (fun c_4 => ?_)
      · skip
        have c_4 : (176 : Int32).toInt ≤ x_2.toInt := i_le.mp c_4
        rw [hQ9]
        exact re_v g_3 hx hb hr hlocks trivial (hP.sub [0, 1, 2] rfl) (hD.sub [0, 1, 2] rfl rfl) hS dX11_layAside_31
      · skip
        have c_4 : ¬ ((176 : Int32).toInt ≤ x_2.toInt) := fun h9 => c_4 (i_le.mpr h9)
        refine lv_aload_n hx hb dX11_layAside_9 rfl (lv_at hl 1 rfl) ?_
        refine gf_X11_110 hx hb hts hown hK hP 0 rfl rfl dX11_layAside_10 ?_
        refine lv_iload_n hx hb dX11_layAside_13 rfl (lv_at hl 0 rfl) ?_
        refine lv_aload_n hx hb dX11_layAside_14 rfl (lv_at hl 1 rfl) ?_
        refine gf_X11_98 hx hb hts hown hK hP 0 rfl rfl dX11_layAside_15 ?_
        refine lv_sipush (v := 157) hx hb dX11_layAside_18 (by decide) ?_
        refine lv_iload_n hx hb dX11_layAside_21 rfl (lv_at hl 0 rfl) ?_
        refine lv_iadd hx hb dX11_layAside_22 ?_
        refine lv_topi (fun z_5 ez_5 => ?_)
        have k_157 : (157 : Int32).toInt = 157 := by decide
        have bz_5 : z_5.toInt = (157 : Int32).toInt + x_2.toInt := i_add ez_5 (by omega) (by omega)
        have hin_6 : vp_in z_5 575 := vp_in_iff.mpr ⟨by omega, by omega⟩
        refine va_iald hx hb hK hP 1 0 rfl rfl hin_6 dX11_layAside_23 ?_
        refine lv_topi (fun z_7 ez_7 => ?_)
        have hin_8 : vp_in x_2 176 := vp_in_iff.mpr ⟨by omega, by omega⟩
        refine va_iast hx hb hK hP hD hS 2 0 rfl rfl hin_8 dX11_layAside_24 (fun H locs hP hD hS => ?_)
        obtain ⟨f_9, ef_9⟩ : ∃ z : Nat → Int32, z = upd g_3 (Int32.toNatClampNeg x_2) z_7 := ⟨_, rfl⟩
        have hP : va_P (dC, dI) vwCl [(vo, .inr (12, [.int voth, .ref vmt, .int votp, .int vosz, .int volm, .int voto, .int vofr, .int vokd, .int vonu, .int vosg, .int vofa, .int vopl, .long vowd, .int votd, .ref vmn, .ref vmr, .ref vmk, .ref vms, .ref vma, .ref vmm, .ref vmrn, .ref vmkn, .ref vmik, .ref vmon, .int vosm, .int vohp, .ref vmw, .ref vmf, .ref vmb, .int vomb, .ref vmd, .ref vmc, .int vocm, .int voct, .int vocy, .ref vmx, .int votx, .int vose, .ref vml, .ref vmwr, .int voln, .int vohw, .ref vmno, .int vond, .int voon, .int vowi, .int votop])), (vmn, .inl (cy 0, 575, .inl vmnf)), (vma, .inl (cy 0, 176, .inl f_9))] H := by rw [ef_9]; exact hP
        have hD : va_D A [(vo, .inr (12, [.int voth, .ref vmt, .int votp, .int vosz, .int volm, .int voto, .int vofr, .int vokd, .int vonu, .int vosg, .int vofa, .int vopl, .long vowd, .int votd, .ref vmn, .ref vmr, .ref vmk, .ref vms, .ref vma, .ref vmm, .ref vmrn, .ref vmkn, .ref vmik, .ref vmon, .int vosm, .int vohp, .ref vmw, .ref vmf, .ref vmb, .int vomb, .ref vmd, .ref vmc, .int vocm, .int voct, .int vocy, .ref vmx, .int votx, .int vose, .ref vml, .ref vmwr, .int voln, .int vohw, .ref vmno, .int vond, .int voon, .int vowi, .int votop])), (vmn, .inl (cy 0, 575, .inl vmnf)), (vma, .inl (cy 0, 176, .inl f_9))] := by rw [ef_9]; exact hD
        obtain ⟨z_10, ez_10⟩ : ∃ z : Int32, z = x_2 + 1 := ⟨_, rfl⟩
        have k_1 : (1 : Int32).toInt = 1 := by decide
        have bz_10 : z_10.toInt = x_2.toInt + (1 : Int32).toInt := i_add ez_10 (by omega) (by omega)
        refine lv_iinc (v := z_10) (lv' := [(1, .int z_10), (0, .ref vo)]) hx hb dX11_layAside_25 hl (k := 0) rfl ez_10.symm (by decide) rfl (fun ls hl => ?_)
        refine lv_goto (tgt := 2) hx hb dX11_layAside_28 (by decide) ?_
        exact ih1 z_10 f_9 ⟨by omega, by omega⟩ (by omega) _ _ (hP.sub [0, 1, 2] rfl) (hD.sub [0, 1, 2] rfl rfl) hS ls (lv_sub hl [0, 1] rfl)
  have k_0 : (0 : Int32).toInt = 0 := by decide
  exact loop1 ((176 - (0 : Int32).toInt).toNat + 1) 0 vmaf ⟨by omega, by omega⟩ (by omega) _ _ hP hD hS ls (lv_sub hl [0, 1] rfl)
abbrev cX11_takeBack : ByteArray := prog_13_method_106_code
def yX11_takeBack : MethodName := ⟨RX11, "takeBack", "()V"⟩
theorem t1974 : Cond.code yX11_takeBack cX11_takeBack 2 none ∈ GW := gw_mem 2088 (by decide +kernel) (by decide +kernel)
abbrev O_m_takeBack (cy : Nat → ClassId) (vnh : Nat → Int32) (vo : Nat) (voth : Int32) (vmt : Nat) (votp : Int32) (vosz : Int32) (volm : Int32) (voto : Int32) (vofr : Int32) (vokd : Int32) (vonu : Int32) (vosg : Int32) (vofa : Int32) (vopl : Int32) (vowd : Int64) (votd : Int32) (vmn : Nat) (vmr : Nat) (vmk : Nat) (vms : Nat) (vma : Nat) (vmm : Nat) (vmrn : Nat) (vmkn : Nat) (vmik : Nat) (vmon : Nat) (vosm : Int32) (vohp : Int32) (vmw : Nat) (vmf : Nat) (vmb : Nat) (vomb : Int32) (vmd : Nat) (vmc : Nat) (vocm : Int32) (voct : Int32) (vocy : Int32) (vmx : Nat) (votx : Int32) (vose : Int32) (vml : Nat) (vmwr : Nat) (voln : Int32) (vohw : Int32) (vmno : Nat) (vond : Int32) (voon : Int32) (vowi : Int32) (votop : Int32) (vmnf : Nat → Int32) (vmaf : Nat → Int32) (u : (Nat → Int32)) : va_W := [(vo, .inr (12, [.int voth, .ref vmt, .int votp, .int vosz, .int volm, .int voto, .int vofr, .int vokd, .int vonu, .int vosg, .int vofa, .int vopl, .long vowd, .int votd, .ref vmn, .ref vmr, .ref vmk, .ref vms, .ref vma, .ref vmm, .ref vmrn, .ref vmkn, .ref vmik, .ref vmon, .int vosm, .int vohp, .ref vmw, .ref vmf, .ref vmb, .int vomb, .ref vmd, .ref vmc, .int vocm, .int voct, .int vocy, .ref vmx, .int votx, .int vose, .ref vml, .ref vmwr, .int voln, .int vohw, .ref vmno, .int vond, .int voon, .int vowi, .int votop])), (vmn, .inl (cy 0, 575, .inl u)), (vma, .inl (cy 0, 176, .inl vmaf))]
theorem dX11_takeBack_0 : decode cX11_takeBack 0 = .ok (.iconst 0, 1) := by decide +kernel
theorem dX11_takeBack_1 : decode cX11_takeBack 1 = .ok (.istore_n 1, 1) := by decide +kernel
theorem dX11_takeBack_2 : decode cX11_takeBack 2 = .ok (.iload_n 1, 1) := by decide +kernel
theorem dX11_takeBack_3 : decode cX11_takeBack 3 = .ok (.sipush 176, 3) := by decide +kernel
theorem dX11_takeBack_6 : decode cX11_takeBack 6 = .ok (.if_icmp .ge 25, 3) := by decide +kernel
theorem dX11_takeBack_31 : decode cX11_takeBack 31 = .ok (.return_, 1) := by decide +kernel
theorem dX11_takeBack_9 : decode cX11_takeBack 9 = .ok (.aload_n 0, 1) := by decide +kernel
theorem dX11_takeBack_10 : decode cX11_takeBack 10 = .ok (.getfield 98, 3) := by decide +kernel
theorem dX11_takeBack_13 : decode cX11_takeBack 13 = .ok (.sipush 157, 3) := by decide +kernel
theorem dX11_takeBack_16 : decode cX11_takeBack 16 = .ok (.iload_n 1, 1) := by decide +kernel
theorem dX11_takeBack_17 : decode cX11_takeBack 17 = .ok (.iadd, 1) := by decide +kernel
theorem dX11_takeBack_18 : decode cX11_takeBack 18 = .ok (.aload_n 0, 1) := by decide +kernel
theorem dX11_takeBack_19 : decode cX11_takeBack 19 = .ok (.getfield 110, 3) := by decide +kernel
theorem dX11_takeBack_22 : decode cX11_takeBack 22 = .ok (.iload_n 1, 1) := by decide +kernel
theorem dX11_takeBack_23 : decode cX11_takeBack 23 = .ok (.iaload, 1) := by decide +kernel
theorem dX11_takeBack_24 : decode cX11_takeBack 24 = .ok (.iastore, 1) := by decide +kernel
theorem dX11_takeBack_25 : decode cX11_takeBack 25 = .ok (.iinc 1 1, 3) := by decide +kernel
theorem dX11_takeBack_28 : decode cX11_takeBack 28 = .ok (.goto (-26), 3) := by decide +kernel
set_option maxHeartbeats 4000000 in
set_option maxRecDepth 100000 in
theorem m_takeBack (l : Launch) (dC : Nat → ClassId) (dI : Nat → Nat → Nat) (cy : Nat → ClassId) (sz : Nat) (vnh : Nat → Int32) (vo : Nat) (voth : Int32) (vmt : Nat) (votp : Int32) (vosz : Int32) (volm : Int32) (voto : Int32) (vofr : Int32) (vokd : Int32) (vonu : Int32) (vosg : Int32) (vofa : Int32) (vopl : Int32) (vowd : Int64) (votd : Int32) (vmn : Nat) (vmr : Nat) (vmk : Nat) (vms : Nat) (vma : Nat) (vmm : Nat) (vmrn : Nat) (vmkn : Nat) (vmik : Nat) (vmon : Nat) (vosm : Int32) (vohp : Int32) (vmw : Nat) (vmf : Nat) (vmb : Nat) (vomb : Int32) (vmd : Nat) (vmc : Nat) (vocm : Int32) (voct : Int32) (vocy : Int32) (vmx : Nat) (votx : Int32) (vose : Int32) (vml : Nat) (vmwr : Nat) (voln : Int32) (vohw : Int32) (vmno : Nat) (vond : Int32) (voon : Int32) (vowi : Int32) (votop : Int32) (vmnf : Nat → Int32) (vmaf : Nat → Int32) (p_vmnf : NW vnh vmnf) : Met l yX11_takeBack (wl yX11_takeBack cX11_takeBack 2 none) ({ frames := 0, cells := 0, slots := 0, locals := 0 }) (Pw (dC, dI) vwCl cy [(vo, .inr (12, [.int voth, .ref vmt, .int votp, .int vosz, .int volm, .int voto, .int vofr, .int vokd, .int vonu, .int vosg, .int vofa, .int vopl, .long vowd, .int votd, .ref vmn, .ref vmr, .ref vmk, .ref vms, .ref vma, .ref vmm, .ref vmrn, .ref vmkn, .ref vmik, .ref vmon, .int vosm, .int vohp, .ref vmw, .ref vmf, .ref vmb, .int vomb, .ref vmd, .ref vmc, .int vocm, .int voct, .int vocy, .ref vmx, .int votx, .int vose, .ref vml, .ref vmwr, .int voln, .int vohw, .ref vmno, .int vond, .int voon, .int vowi, .int votop])), (vmn, .inl (cy 0, 575, .inl vmnf)), (vma, .inl (cy 0, 176, .inl vmaf))] sz [.ref vo] nE) (Qv (dC, dI) vwCl (fun (u : (Nat → Int32)) => (NW vnh u)) (O_m_takeBack cy vnh vo voth vmt votp vosz volm voto vofr vokd vonu vosg vofa vopl vowd votd vmn vmr vmk vms vma vmm vmrn vmkn vmik vmon vosm vohp vmw vmf vmb vomb vmd vmc vocm voct vocy vmx votx vose vml vmwr voln vohw vmno vond voon vowi votop vmnf vmaf) (va_A [(vo, .inr (12, [.int voth, .ref vmt, .int votp, .int vosz, .int volm, .int voto, .int vofr, .int vokd, .int vonu, .int vosg, .int vofa, .int vopl, .long vowd, .int votd, .ref vmn, .ref vmr, .ref vmk, .ref vms, .ref vma, .ref vmm, .ref vmrn, .ref vmkn, .ref vmik, .ref vmon, .int vosm, .int vohp, .ref vmw, .ref vmf, .ref vmb, .int vomb, .ref vmd, .ref vmc, .int vocm, .int voct, .int vocy, .ref vmx, .int votx, .int vose, .ref vml, .ref vmwr, .int voln, .int vohw, .ref vmno, .int vond, .int voon, .int vowi, .int votop])), (vmn, .inl (cy 0, 575, .inl vmnf)), (vma, .inl (cy 0, 176, .inl vmaf))] sz)) 0 0 (va_A [(vo, .inr (12, [.int voth, .ref vmt, .int votp, .int vosz, .int volm, .int voto, .int vofr, .int vokd, .int vonu, .int vosg, .int vofa, .int vopl, .long vowd, .int votd, .ref vmn, .ref vmr, .ref vmk, .ref vms, .ref vma, .ref vmm, .ref vmrn, .ref vmkn, .ref vmik, .ref vmon, .int vosm, .int vohp, .ref vmw, .ref vmf, .ref vmb, .int vomb, .ref vmd, .ref vmc, .int vocm, .int voct, .int vocy, .ref vmx, .int votx, .int vose, .ref vml, .ref vmwr, .int voln, .int vohw, .ref vmno, .int vond, .int voon, .int vowi, .int votop])), (vmn, .inl (cy 0, 575, .inl vmnf)), (vma, .inl (cy 0, 176, .inl vmaf))] sz) := by
  refine mw (Qc := Qv (dC, dI) vwCl (fun (u : (Nat → Int32)) => (NW vnh u)) (O_m_takeBack cy vnh vo voth vmt votp vosz volm voto vofr vokd vonu vosg vofa vopl vowd votd vmn vmr vmk vms vma vmm vmrn vmkn vmik vmon vosm vohp vmw vmf vmb vomb vmd vmc vocm voct vocy vmx votx vose vml vmwr voln vohw vmno vond voon vowi votop vmnf vmaf)) RX11 rfl (by decide +kernel) (Nat.le_of_ble_eq_true rfl) ?_
  intro p e s m below meth c A hx hb hr hlocks av9 hav hts hown hnm hml hK hP hD hA hS hE hAe Q9 hQ9 ls hl
  have hl : lv_has ls 2 [(0, .ref vo)] := hl
  refine lv_iconst (v := 0) hx hb dX11_takeBack_0 (by decide) ?_
  refine lv_istore_n (lv' := [(1, .int 0), (0, .ref vo)]) hx hb dX11_takeBack_1 rfl hl (by decide) rfl (fun ls hl => ?_)
  have loop1 : ∀ (n1 : Nat) (x_2 : Int32) (g_3 : Nat → Int32), (0 ≤ x_2.toInt ∧ x_2.toInt ≤ 176) → NW vnh g_3 → 176 - x_2.toInt < (n1 : Int) → ∀ (H : Heap) (locs : List Loc), va_P (dC, dI) vwCl [(vo, .inr (12, [.int voth, .ref vmt, .int votp, .int vosz, .int volm, .int voto, .int vofr, .int vokd, .int vonu, .int vosg, .int vofa, .int vopl, .long vowd, .int votd, .ref vmn, .ref vmr, .ref vmk, .ref vms, .ref vma, .ref vmm, .ref vmrn, .ref vmkn, .ref vmik, .ref vmon, .int vosm, .int vohp, .ref vmw, .ref vmf, .ref vmb, .int vomb, .ref vmd, .ref vmc, .int vocm, .int voct, .int vocy, .ref vmx, .int votx, .int vose, .ref vml, .ref vmwr, .int voln, .int vohw, .ref vmno, .int vond, .int voon, .int vowi, .int votop])), (vmn, .inl (cy 0, 575, .inl g_3)), (vma, .inl (cy 0, 176, .inl vmaf))] H → va_D A [(vo, .inr (12, [.int voth, .ref vmt, .int votp, .int vosz, .int volm, .int voto, .int vofr, .int vokd, .int vonu, .int vosg, .int vofa, .int vopl, .long vowd, .int votd, .ref vmn, .ref vmr, .ref vmk, .ref vms, .ref vma, .ref vmm, .ref vmrn, .ref vmkn, .ref vmik, .ref vmon, .int vosm, .int vohp, .ref vmw, .ref vmf, .ref vmb, .int vomb, .ref vmd, .ref vmc, .int vocm, .int voct, .int vocy, .ref vmx, .int votx, .int vose, .ref vml, .ref vmwr, .int voln, .int vohw, .ref vmno, .int vond, .int voon, .int vowi, .int votop])), (vmn, .inl (cy 0, 575, .inl g_3)), (vma, .inl (cy 0, 176, .inl vmaf))] → va_S A s.heap H locs → ∀ ls : Array Slot, lv_has ls 2 [(1, .int x_2), (0, .ref vo)] → W p l e ({ frames := 0, cells := 0, slots := 0, locals := 0 }) s m av9 below meth c H locs 0 0 Q9 (F0 m 2 ls []) := by
    intro n1
    induction n1 with
    | zero =>
      intro x_2 g_3 bx_2 p_g_3 hn1 H locs hP hD hS ls hl
      exfalso; omega
    | succ n1 ih1 =>
      intro x_2 g_3 bx_2 p_g_3 hn1 H locs hP hD hS ls hl
      refine lv_iload_n hx hb dX11_takeBack_2 rfl (lv_at hl 0 rfl) ?_
      refine lv_sipush (v := 176) hx hb dX11_takeBack_3 (by decide) ?_
      have k_176 : (176 : Int32).toInt = 176 := by decide
      refine lv_icmp_ge (tgt := 31) hx hb dX11_takeBack_6 (by decide) (fun c_4 => ?_) (fun c_4 => ?_)
      · skip
        have c_4 : (176 : Int32).toInt ≤ x_2.toInt := i_le.mp c_4
        rw [hQ9]
        exact re_v g_3 hx hb hr hlocks (show NW vnh g_3 from p_g_3) (hP.sub [0, 1, 2] rfl) (hD.sub [0, 1, 2] rfl rfl) hS dX11_takeBack_31
      · skip
        have c_4 : ¬ ((176 : Int32).toInt ≤ x_2.toInt) := fun h9 => c_4 (i_le.mpr h9)
        refine lv_aload_n hx hb dX11_takeBack_9 rfl (lv_at hl 1 rfl) ?_
        refine gf_X11_98 hx hb hts hown hK hP 0 rfl rfl dX11_takeBack_10 ?_
        refine lv_sipush (v := 157) hx hb dX11_takeBack_13 (by decide) ?_
        refine lv_iload_n hx hb dX11_takeBack_16 rfl (lv_at hl 0 rfl) ?_
        refine lv_iadd hx hb dX11_takeBack_17 ?_
        refine lv_topi (fun z_5 ez_5 => ?_)
        have k_157 : (157 : Int32).toInt = 157 := by decide
        have bz_5 : z_5.toInt = (157 : Int32).toInt + x_2.toInt := i_add ez_5 (by omega) (by omega)
        refine lv_aload_n hx hb dX11_takeBack_18 rfl (lv_at hl 1 rfl) ?_
        refine gf_X11_110 hx hb hts hown hK hP 0 rfl rfl dX11_takeBack_19 ?_
        refine lv_iload_n hx hb dX11_takeBack_22 rfl (lv_at hl 0 rfl) ?_
        have hin_6 : vp_in x_2 176 := vp_in_iff.mpr ⟨by omega, by omega⟩
        refine va_iald hx hb hK hP 2 0 rfl rfl hin_6 dX11_takeBack_23 ?_
        refine lv_topi (fun z_7 ez_7 => ?_)
        have hin_8 : vp_in z_5 575 := vp_in_iff.mpr ⟨by omega, by omega⟩
        refine va_iast hx hb hK hP hD hS 1 0 rfl rfl hin_8 dX11_takeBack_24 (fun H locs hP hD hS => ?_)
        obtain ⟨f_9, ef_9⟩ : ∃ z : Nat → Int32, z = upd g_3 (Int32.toNatClampNeg z_5) z_7 := ⟨_, rfl⟩
        have hP : va_P (dC, dI) vwCl [(vo, .inr (12, [.int voth, .ref vmt, .int votp, .int vosz, .int volm, .int voto, .int vofr, .int vokd, .int vonu, .int vosg, .int vofa, .int vopl, .long vowd, .int votd, .ref vmn, .ref vmr, .ref vmk, .ref vms, .ref vma, .ref vmm, .ref vmrn, .ref vmkn, .ref vmik, .ref vmon, .int vosm, .int vohp, .ref vmw, .ref vmf, .ref vmb, .int vomb, .ref vmd, .ref vmc, .int vocm, .int voct, .int vocy, .ref vmx, .int votx, .int vose, .ref vml, .ref vmwr, .int voln, .int vohw, .ref vmno, .int vond, .int voon, .int vowi, .int votop])), (vmn, .inl (cy 0, 575, .inl f_9)), (vma, .inl (cy 0, 176, .inl vmaf))] H := by rw [ef_9]; exact hP
        have hD : va_D A [(vo, .inr (12, [.int voth, .ref vmt, .int votp, .int vosz, .int volm, .int voto, .int vofr, .int vokd, .int vonu, .int vosg, .int vofa, .int vopl, .long vowd, .int votd, .ref vmn, .ref vmr, .ref vmk, .ref vms, .ref vma, .ref vmm, .ref vmrn, .ref vmkn, .ref vmik, .ref vmon, .int vosm, .int vohp, .ref vmw, .ref vmf, .ref vmb, .int vomb, .ref vmd, .ref vmc, .int vocm, .int voct, .int vocy, .ref vmx, .int votx, .int vose, .ref vml, .ref vmwr, .int voln, .int vohw, .ref vmno, .int vond, .int voon, .int vowi, .int votop])), (vmn, .inl (cy 0, 575, .inl f_9)), (vma, .inl (cy 0, 176, .inl vmaf))] := by rw [ef_9]; exact hD
        have p_f_9 : NW vnh f_9 := by rw [ef_9]; exact p_g_3.upd ⟨by omega, by omega⟩
        obtain ⟨z_10, ez_10⟩ : ∃ z : Int32, z = x_2 + 1 := ⟨_, rfl⟩
        have k_1 : (1 : Int32).toInt = 1 := by decide
        have bz_10 : z_10.toInt = x_2.toInt + (1 : Int32).toInt := i_add ez_10 (by omega) (by omega)
        refine lv_iinc (v := z_10) (lv' := [(1, .int z_10), (0, .ref vo)]) hx hb dX11_takeBack_25 hl (k := 0) rfl ez_10.symm (by decide) rfl (fun ls hl => ?_)
        refine lv_goto (tgt := 2) hx hb dX11_takeBack_28 (by decide) ?_
        exact ih1 z_10 f_9 ⟨by omega, by omega⟩ p_f_9 (by omega) _ _ (hP.sub [0, 1, 2] rfl) (hD.sub [0, 1, 2] rfl rfl) hS ls (lv_sub hl [0, 1] rfl)
  have k_0 : (0 : Int32).toInt = 0 := by decide
  exact loop1 ((176 - (0 : Int32).toInt).toNat + 1) 0 vmnf ⟨by omega, by omega⟩ p_vmnf (by omega) _ _ hP hD hS ls (lv_sub hl [0, 1] rfl)
abbrev cX11_odds : ByteArray := prog_13_method_107_code
def yX11_odds : MethodName := ⟨RX11, "odds", "(III)I"⟩
theorem t1966 : Cond.code yX11_odds cX11_odds 6 (some .int) ∈ GW := gw_mem 2080 (by decide +kernel) (by decide +kernel)
abbrev O_m_odds (cy : Nat → ClassId) (vnh : Nat → Int32) (vo : Nat) (voth : Int32) (vmt : Nat) (votp : Int32) (vosz : Int32) (volm : Int32) (voto : Int32) (vofr : Int32) (vokd : Int32) (vonu : Int32) (vosg : Int32) (vofa : Int32) (vopl : Int32) (vowd : Int64) (votd : Int32) (vmn : Nat) (vmr : Nat) (vmk : Nat) (vms : Nat) (vma : Nat) (vmm : Nat) (vmrn : Nat) (vmkn : Nat) (vmik : Nat) (vmon : Nat) (vosm : Int32) (vohp : Int32) (vmw : Nat) (vmf : Nat) (vmb : Nat) (vomb : Int32) (vmd : Nat) (vmc : Nat) (vocm : Int32) (voct : Int32) (vocy : Int32) (vmx : Nat) (votx : Int32) (vose : Int32) (vml : Nat) (vmwr : Nat) (voln : Int32) (vohw : Int32) (vmno : Nat) (vond : Int32) (voon : Int32) (vowi : Int32) (votop : Int32) (vmnf : Nat → Int32) (vmaf : Nat → Int32) (vm : Int32) (vn : Int32) (vx : Int32) (u : Int32 × (Nat → Int32) × Int32 × (Nat → Int32)) : va_W := [(vo, .inr (12, [.int u.1, .ref vmt, .int votp, .int vosz, .int volm, .int voto, .int vofr, .int vokd, .int vonu, .int vosg, .int vofa, .int vopl, .long vowd, .int votd, .ref vmn, .ref vmr, .ref vmk, .ref vms, .ref vma, .ref vmm, .ref vmrn, .ref vmkn, .ref vmik, .ref vmon, .int vosm, .int vohp, .ref vmw, .ref vmf, .ref vmb, .int vomb, .ref vmd, .ref vmc, .int vocm, .int voct, .int vocy, .ref vmx, .int votx, .int u.2.2.1, .ref vml, .ref vmwr, .int voln, .int vohw, .ref vmno, .int vond, .int voon, .int vowi, .int votop])), (vmn, .inl (cy 0, 575, .inl u.2.1)), (vma, .inl (cy 0, 176, .inl u.2.2.2))]
theorem dX11_odds_0 : decode cX11_odds 0 = .ok (.aload_n 0, 1) := by decide +kernel
theorem dX11_odds_1 : decode cX11_odds 1 = .ok (.iconst 0, 1) := by decide +kernel
theorem dX11_odds_2 : decode cX11_odds 2 = .ok (.putfield 1, 3) := by decide +kernel
theorem dX11_odds_5 : decode cX11_odds 5 = .ok (.aload_n 0, 1) := by decide +kernel
theorem dX11_odds_6 : decode cX11_odds 6 = .ok (.iload_n 1, 1) := by decide +kernel
theorem dX11_odds_7 : decode cX11_odds 7 = .ok (.invokevirtual 250, 3) := by decide +kernel
theorem dX11_odds_10 : decode cX11_odds 10 = .ok (.ifCond .eq 13, 3) := by decide +kernel
theorem dX11_odds_23 : decode cX11_odds 23 = .ok (.iconst (-1), 1) := by decide +kernel
theorem dX11_odds_24 : decode cX11_odds 24 = .ok (.ireturn, 1) := by decide +kernel
theorem dX11_odds_13 : decode cX11_odds 13 = .ok (.iload_n 2, 1) := by decide +kernel
theorem dX11_odds_14 : decode cX11_odds 14 = .ok (.iconst 1, 1) := by decide +kernel
theorem dX11_odds_15 : decode cX11_odds 15 = .ok (.bipush 30, 2) := by decide +kernel
theorem dX11_odds_17 : decode cX11_odds 17 = .ok (.invokestatic 75, 3) := by decide +kernel
theorem dX11_odds_20 : decode cX11_odds 20 = .ok (.ifCond .ne 5, 3) := by decide +kernel
theorem dX11_odds_25 : decode cX11_odds 25 = .ok (.aload_n 0, 1) := by decide +kernel
theorem dX11_odds_26 : decode cX11_odds 26 = .ok (.invokevirtual 364, 3) := by decide +kernel
theorem t1967 : Cond.methodLink RX11 364 yX11_layAside ∈ GW := gw_mem 2081 (by decide +kernel) (by decide +kernel)
theorem t1969 : Cond.instanceMethod yX11_layAside ∈ GW := gw_mem 2083 (by decide +kernel) (by decide +kernel)
theorem s95 : Cond.selects RX11 yX11_layAside yX11_layAside ∈ GW := gw_mem 95 (by decide +kernel) (by decide +kernel)
theorem cw_X11_364 {R : Room} {s : State} {args : Array Value} {rm : Room} {mc ms : Nat} (hts : ∀ w ∈ GW, w.before args s = true) (hrc : rm.cells = mc) (hrs : rm.slots = ms) (hR : rm.frames + 1 ≤ R.frames ∧ 8 + (2 + 11) + rm.locals ≤ R.locals) : CallW R s args RX11 RX11 364 yX11_layAside cX11_layAside 2 none (wl yX11_layAside cX11_layAside 2 none) rm mc ms 0 := cwV 0 hts (gi_V t1967 t1969 s95 t18 t1970) rfl hrc hrs (by decide +kernel) hR
theorem dX11_odds_29 : decode cX11_odds 29 = .ok (.iconst 0, 1) := by decide +kernel
theorem dX11_odds_30 : decode cX11_odds 30 = .ok (.istore 4, 2) := by decide +kernel
theorem dX11_odds_32 : decode cX11_odds 32 = .ok (.iconst 0, 1) := by decide +kernel
theorem dX11_odds_33 : decode cX11_odds 33 = .ok (.istore 5, 2) := by decide +kernel
theorem dX11_odds_35 : decode cX11_odds 35 = .ok (.iload 5, 2) := by decide +kernel
theorem dX11_odds_37 : decode cX11_odds 37 = .ok (.iload_n 2, 1) := by decide +kernel
theorem dX11_odds_38 : decode cX11_odds 38 = .ok (.if_icmp .ge 36, 3) := by decide +kernel
theorem dX11_odds_74 : decode cX11_odds 74 = .ok (.iload 4, 2) := by decide +kernel
theorem dX11_odds_76 : decode cX11_odds 76 = .ok (.ireturn, 1) := by decide +kernel
theorem dX11_odds_64 : decode cX11_odds 64 = .ok (.aload_n 0, 1) := by decide +kernel
theorem dX11_odds_65 : decode cX11_odds 65 = .ok (.invokevirtual 367, 3) := by decide +kernel
theorem t1971 : Cond.methodLink RX11 367 yX11_takeBack ∈ GW := gw_mem 2085 (by decide +kernel) (by decide +kernel)
theorem t1973 : Cond.instanceMethod yX11_takeBack ∈ GW := gw_mem 2087 (by decide +kernel) (by decide +kernel)
theorem s96 : Cond.selects RX11 yX11_takeBack yX11_takeBack ∈ GW := gw_mem 96 (by decide +kernel) (by decide +kernel)
theorem cw_X11_367 {R : Room} {s : State} {args : Array Value} {rm : Room} {mc ms : Nat} (hts : ∀ w ∈ GW, w.before args s = true) (hrc : rm.cells = mc) (hrs : rm.slots = ms) (hR : rm.frames + 1 ≤ R.frames ∧ 8 + (2 + 11) + rm.locals ≤ R.locals) : CallW R s args RX11 RX11 367 yX11_takeBack cX11_takeBack 2 none (wl yX11_takeBack cX11_takeBack 2 none) rm mc ms 0 := cwV 0 hts (gi_V t1971 t1973 s96 t18 t1974) rfl hrc hrs (by decide +kernel) hR
theorem dX11_odds_68 : decode cX11_odds 68 = .ok (.iinc 5 1, 3) := by decide +kernel
theorem dX11_odds_71 : decode cX11_odds 71 = .ok (.goto (-36), 3) := by decide +kernel
theorem dX11_odds_41 : decode cX11_odds 41 = .ok (.aload_n 0, 1) := by decide +kernel
theorem dX11_odds_42 : decode cX11_odds 42 = .ok (.bipush 10, 2) := by decide +kernel
theorem dX11_odds_44 : decode cX11_odds 44 = .ok (.iload_n 3, 1) := by decide +kernel
theorem dX11_odds_45 : decode cX11_odds 45 = .ok (.iload 5, 2) := by decide +kernel
theorem dX11_odds_47 : decode cX11_odds 47 = .ok (.iadd, 1) := by decide +kernel
theorem dX11_odds_48 : decode cX11_odds 48 = .ok (.invokevirtual 361, 3) := by decide +kernel
theorem dX11_odds_51 : decode cX11_odds 51 = .ok (.pop, 1) := by decide +kernel
theorem dX11_odds_52 : decode cX11_odds 52 = .ok (.aload_n 0, 1) := by decide +kernel
theorem dX11_odds_53 : decode cX11_odds 53 = .ok (.iload_n 1, 1) := by decide +kernel
theorem dX11_odds_54 : decode cX11_odds 54 = .ok (.invokevirtual 256, 3) := by decide +kernel
theorem dX11_odds_57 : decode cX11_odds 57 = .ok (.iconst 1, 1) := by decide +kernel
theorem dX11_odds_58 : decode cX11_odds 58 = .ok (.if_icmp .ne 6, 3) := by decide +kernel
theorem dX11_odds_61 : decode cX11_odds 61 = .ok (.iinc 4 1, 3) := by decide +kernel
set_option maxHeartbeats 4000000 in
set_option maxRecDepth 100000 in
theorem m_odds (l : Launch) (dC : Nat → ClassId) (dI : Nat → Nat → Nat) (cy : Nat → ClassId) (sz : Nat) (vnh : Nat → Int32) (vo : Nat) (voth : Int32) (vmt : Nat) (votp : Int32) (vosz : Int32) (volm : Int32) (voto : Int32) (vofr : Int32) (vokd : Int32) (vonu : Int32) (vosg : Int32) (vofa : Int32) (vopl : Int32) (vowd : Int64) (votd : Int32) (vmn : Nat) (vmr : Nat) (vmk : Nat) (vms : Nat) (vma : Nat) (vmm : Nat) (vmrn : Nat) (vmkn : Nat) (vmik : Nat) (vmon : Nat) (vosm : Int32) (vohp : Int32) (vmw : Nat) (vmf : Nat) (vmb : Nat) (vomb : Int32) (vmd : Nat) (vmc : Nat) (vocm : Int32) (voct : Int32) (vocy : Int32) (vmx : Nat) (votx : Int32) (vose : Int32) (vml : Nat) (vmwr : Nat) (voln : Int32) (vohw : Int32) (vmno : Nat) (vond : Int32) (voon : Int32) (vowi : Int32) (votop : Int32) (vmnf : Nat → Int32) (vmaf : Nat → Int32) (vm : Int32) (vn : Int32) (vx : Int32) (p_vmnf : NW vnh vmnf) : Met l yX11_odds (wl yX11_odds cX11_odds 6 (some .int)) ({ frames := 7, cells := 0, slots := 0, locals := 448 }) (Pw (dC, dI) vwCl cy [(vo, .inr (12, [.int voth, .ref vmt, .int votp, .int vosz, .int volm, .int voto, .int vofr, .int vokd, .int vonu, .int vosg, .int vofa, .int vopl, .long vowd, .int votd, .ref vmn, .ref vmr, .ref vmk, .ref vms, .ref vma, .ref vmm, .ref vmrn, .ref vmkn, .ref vmik, .ref vmon, .int vosm, .int vohp, .ref vmw, .ref vmf, .ref vmb, .int vomb, .ref vmd, .ref vmc, .int vocm, .int voct, .int vocy, .ref vmx, .int votx, .int vose, .ref vml, .ref vmwr, .int voln, .int vohw, .ref vmno, .int vond, .int voon, .int vowi, .int votop])), (vmn, .inl (cy 0, 575, .inl vmnf)), (vma, .inl (cy 0, 176, .inl vmaf))] sz [.ref vo, .int vm, .int vn, .int vx] nE) (Qi (dC, dI) vwCl (fun (r : Int32) (u : Int32 × (Nat → Int32) × Int32 × (Nat → Int32)) => (NW vnh u.2.1)) (O_m_odds cy vnh vo voth vmt votp vosz volm voto vofr vokd vonu vosg vofa vopl vowd votd vmn vmr vmk vms vma vmm vmrn vmkn vmik vmon vosm vohp vmw vmf vmb vomb vmd vmc vocm voct vocy vmx votx vose vml vmwr voln vohw vmno vond voon vowi votop vmnf vmaf vm vn vx) (va_A [(vo, .inr (12, [.int voth, .ref vmt, .int votp, .int vosz, .int volm, .int voto, .int vofr, .int vokd, .int vonu, .int vosg, .int vofa, .int vopl, .long vowd, .int votd, .ref vmn, .ref vmr, .ref vmk, .ref vms, .ref vma, .ref vmm, .ref vmrn, .ref vmkn, .ref vmik, .ref vmon, .int vosm, .int vohp, .ref vmw, .ref vmf, .ref vmb, .int vomb, .ref vmd, .ref vmc, .int vocm, .int voct, .int vocy, .ref vmx, .int votx, .int vose, .ref vml, .ref vmwr, .int voln, .int vohw, .ref vmno, .int vond, .int voon, .int vowi, .int votop])), (vmn, .inl (cy 0, 575, .inl vmnf)), (vma, .inl (cy 0, 176, .inl vmaf))] sz)) 0 0 (va_A [(vo, .inr (12, [.int voth, .ref vmt, .int votp, .int vosz, .int volm, .int voto, .int vofr, .int vokd, .int vonu, .int vosg, .int vofa, .int vopl, .long vowd, .int votd, .ref vmn, .ref vmr, .ref vmk, .ref vms, .ref vma, .ref vmm, .ref vmrn, .ref vmkn, .ref vmik, .ref vmon, .int vosm, .int vohp, .ref vmw, .ref vmf, .ref vmb, .int vomb, .ref vmd, .ref vmc, .int vocm, .int voct, .int vocy, .ref vmx, .int votx, .int vose, .ref vml, .ref vmwr, .int voln, .int vohw, .ref vmno, .int vond, .int voon, .int vowi, .int votop])), (vmn, .inl (cy 0, 575, .inl vmnf)), (vma, .inl (cy 0, 176, .inl vmaf))] sz) := by
  refine mw (Qc := Qi (dC, dI) vwCl (fun (r : Int32) (u : Int32 × (Nat → Int32) × Int32 × (Nat → Int32)) => (NW vnh u.2.1)) (O_m_odds cy vnh vo voth vmt votp vosz volm voto vofr vokd vonu vosg vofa vopl vowd votd vmn vmr vmk vms vma vmm vmrn vmkn vmik vmon vosm vohp vmw vmf vmb vomb vmd vmc vocm voct vocy vmx votx vose vml vmwr voln vohw vmno vond voon vowi votop vmnf vmaf vm vn vx)) RX11 rfl (by decide +kernel) (Nat.le_of_ble_eq_true rfl) ?_
  intro p e s m below meth c A hx hb hr hlocks av9 hav hts hown hnm hml hK hP hD hA hS hE hAe Q9 hQ9 ls hl
  have hl : lv_has ls 6 [(0, .ref vo), (1, .int vm), (2, .int vn), (3, .int vx)] := hl
  refine lv_aload_n hx hb dX11_odds_0 rfl (lv_at hl 0 rfl) ?_
  refine lv_iconst (v := 0) hx hb dX11_odds_1 (by decide) ?_
  refine pf_X11_1 hx hb hts hown hK hP hD hS 0 rfl rfl rfl (Nat.le_of_ble_eq_true rfl) dX11_odds_2 (fun H locs hP hD hS => ?_)
  have hP : va_P (dC, dI) vwCl [(vo, .inr (12, [.int 0, .ref vmt, .int votp, .int vosz, .int volm, .int voto, .int vofr, .int vokd, .int vonu, .int vosg, .int vofa, .int vopl, .long vowd, .int votd, .ref vmn, .ref vmr, .ref vmk, .ref vms, .ref vma, .ref vmm, .ref vmrn, .ref vmkn, .ref vmik, .ref vmon, .int vosm, .int vohp, .ref vmw, .ref vmf, .ref vmb, .int vomb, .ref vmd, .ref vmc, .int vocm, .int voct, .int vocy, .ref vmx, .int votx, .int vose, .ref vml, .ref vmwr, .int voln, .int vohw, .ref vmno, .int vond, .int voon, .int vowi, .int votop])), (vmn, .inl (cy 0, 575, .inl vmnf)), (vma, .inl (cy 0, 176, .inl vmaf))] H := hP
  have hD : va_D A [(vo, .inr (12, [.int 0, .ref vmt, .int votp, .int vosz, .int volm, .int voto, .int vofr, .int vokd, .int vonu, .int vosg, .int vofa, .int vopl, .long vowd, .int votd, .ref vmn, .ref vmr, .ref vmk, .ref vms, .ref vma, .ref vmm, .ref vmrn, .ref vmkn, .ref vmik, .ref vmon, .int vosm, .int vohp, .ref vmw, .ref vmf, .ref vmb, .int vomb, .ref vmd, .ref vmc, .int vocm, .int voct, .int vocy, .ref vmx, .int votx, .int vose, .ref vml, .ref vmwr, .int voln, .int vohw, .ref vmno, .int vond, .int voon, .int vowi, .int votop])), (vmn, .inl (cy 0, 575, .inl vmnf)), (vma, .inl (cy 0, 176, .inl vmaf))] := hD
  refine lv_aload_n hx hb dX11_odds_5 rfl (lv_at hl 0 rfl) ?_
  refine lv_iload_n hx hb dX11_odds_6 rfl (lv_at hl 1 rfl) ?_
  have k_0 : (0 : Int32).toInt = 0 := by decide
  refine jr_i (rVr (As := [.int vm]) (rest := []) (ci := 12) ⟨hx, hb, hml, hown, hts⟩ (m_isMan l dC dI cy vnh vo 0 vmt votp vosz volm voto vofr vokd vonu vosg vofa vopl vowd votd vmn vmr vmk vms vma vmm vmrn vmkn vmik vmon vosm vohp vmw vmf vmb vomb vmd vmc vocm voct vocy vmx votx vose vml vmwr voln vohw vmno vond voon vowi votop vmnf vm p_vmnf) (cw_X11_250 hts rfl rfl ⟨Nat.le_of_ble_eq_true rfl, Nat.le_of_ble_eq_true rfl⟩) hP hK [0, 1] rfl rfl rfl rfl hl.1 rfl (Nat.le_of_ble_eq_true rfl) dX11_odds_7 ⟨Nat.le_of_ble_eq_true rfl, Nat.le_of_ble_eq_true rfl⟩) hP hS (fun r_1 H locs hp_2 hP hS => ?_)
  have hp_2 : ((r_1 = 0 ∧ ((vm : Int32).toInt < 0 ∨ (vmnf 0).toInt ≤ (vm : Int32).toInt)) ∨ (r_1 = 1 ∧ 0 ≤ (vm : Int32).toInt ∧ (vm : Int32).toInt ≤ 6 ∧ (vm : Int32).toInt < (vmnf 0).toInt)) := hp_2
  have q_3 := hp_2
  rcases q_3 with ⟨aq_3, f0q_3⟩ | ⟨aq_3, f0q_3, f1q_3, f2q_3⟩
  · skip
    refine as_i 0 aq_3 ?_
    refine lv_if_eq (tgt := 23) hx hb dX11_odds_10 (by decide) (fun _ => ?_) (fun c9 => absurd (by decide) c9)
    refine lv_iconst (v := (-1)) hx hb dX11_odds_23 (by decide) ?_
    have k_m1 : ((-1) : Int32).toInt = (-1) := by decide
    rw [hQ9]
    exact re_i ((0 : Int32), vmnf, vose, vmaf) hx hb hr hlocks (show NW vnh vmnf from p_vmnf) (hP.sub [0, 1, 2] rfl) (hD.sub [0, 1, 2] rfl rfl) hS dX11_odds_24
  · skip
    refine as_i 1 aq_3 ?_
    refine lv_if_eq (tgt := 23) hx hb dX11_odds_10 (by decide) (fun c9 => absurd c9 (by decide)) (fun _ => ?_)
    refine lv_iload_n hx hb dX11_odds_13 rfl (lv_at hl 2 rfl) ?_
    refine lv_iconst (v := 1) hx hb dX11_odds_14 (by decide) ?_
    refine lv_bipush (v := 30) hx hb dX11_odds_15 (by decide) ?_
    have k_1 : (1 : Int32).toInt = 1 := by decide
    have k_30 : (30 : Int32).toInt = 30 := by decide
    refine jr_i (rSr (As := [.int vn, .int 1, .int 30]) (rest := []) ⟨hx, hb, hml, hown, hts⟩ (m_isIn l dC dI cy vn 1 30 ) (cw_X11_75 hts rfl rfl ⟨Nat.le_of_ble_eq_true rfl, Nat.le_of_ble_eq_true rfl⟩) hP hK [] rfl rfl hl.1 rfl (Nat.le_of_ble_eq_true rfl) dX11_odds_17 ⟨Nat.le_of_ble_eq_true rfl, Nat.le_of_ble_eq_true rfl⟩) hP hS (fun r_4 H locs hp_5 hP hS => ?_)
    have hp_5 : ((r_4 = 0 ∧ ((vn : Int32).toInt < (1 : Int32).toInt ∨ (30 : Int32).toInt < (vn : Int32).toInt)) ∨ (r_4 = 1 ∧ (1 : Int32).toInt ≤ (vn : Int32).toInt ∧ (vn : Int32).toInt ≤ (30 : Int32).toInt)) := hp_5
    have q_6 := hp_5
    rcases q_6 with ⟨aq_6, f0q_6⟩ | ⟨aq_6, f0q_6, f1q_6⟩
    · skip
      refine as_i 0 aq_6 ?_
      refine lv_if_ne (tgt := 25) hx hb dX11_odds_20 (by decide) (fun c9 => absurd c9 (by decide)) (fun _ => ?_)
      refine lv_iconst (v := (-1)) hx hb dX11_odds_23 (by decide) ?_
      have k_m1 : ((-1) : Int32).toInt = (-1) := by decide
      rw [hQ9]
      exact re_i ((0 : Int32), vmnf, vose, vmaf) hx hb hr hlocks (show NW vnh vmnf from p_vmnf) (hP.sub [0, 1, 2] rfl) (hD.sub [0, 1, 2] rfl rfl) hS dX11_odds_24
    · skip
      refine as_i 1 aq_6 ?_
      refine lv_if_ne (tgt := 25) hx hb dX11_odds_20 (by decide) (fun _ => ?_) (fun c9 => absurd c9 (by decide))
      refine lv_aload_n hx hb dX11_odds_25 rfl (lv_at hl 0 rfl) ?_
      refine jn_v (wr := []) (rV (As := []) (rest := []) (ci := 12) ⟨hx, hb, hml, hown, hts⟩ (m_layAside l dC dI cy _ vnh vo 0 vmt votp vosz volm voto vofr vokd vonu vosg vofa vopl vowd votd vmn vmr vmk vms vma vmm vmrn vmkn vmik vmon vosm vohp vmw vmf vmb vomb vmd vmc vocm voct vocy vmx votx vose vml vmwr voln vohw vmno vond voon vowi votop vmnf vmaf p_vmnf) (cw_X11_364 hts rfl rfl ⟨Nat.le_of_ble_eq_true rfl, Nat.le_of_ble_eq_true rfl⟩) hP hD hK [0, 1, 2] rfl rfl rfl rfl bl0 e0 rfl hl.1 rfl (Nat.le_of_ble_eq_true rfl) dX11_odds_26 ⟨Nat.le_of_ble_eq_true rfl, Nat.le_of_ble_eq_true rfl⟩) hP hD hS hA [0, 1, 2] [] rfl rfl rfl (by decide) (fun u_9 H locs hp_8 hP hD hS => ?_)
      obtain ⟨vmaf_10, rfl⟩ : ∃ z, z = u_9 := ⟨_, rfl⟩
      have hP : va_P (dC, dI) vwCl [(vo, .inr (12, [.int 0, .ref vmt, .int votp, .int vosz, .int volm, .int voto, .int vofr, .int vokd, .int vonu, .int vosg, .int vofa, .int vopl, .long vowd, .int votd, .ref vmn, .ref vmr, .ref vmk, .ref vms, .ref vma, .ref vmm, .ref vmrn, .ref vmkn, .ref vmik, .ref vmon, .int vosm, .int vohp, .ref vmw, .ref vmf, .ref vmb, .int vomb, .ref vmd, .ref vmc, .int vocm, .int voct, .int vocy, .ref vmx, .int votx, .int vose, .ref vml, .ref vmwr, .int voln, .int vohw, .ref vmno, .int vond, .int voon, .int vowi, .int votop])), (vmn, .inl (cy 0, 575, .inl vmnf)), (vma, .inl (cy 0, 176, .inl vmaf_10))] H := hP
      have hD : va_D A [(vo, .inr (12, [.int 0, .ref vmt, .int votp, .int vosz, .int volm, .int voto, .int vofr, .int vokd, .int vonu, .int vosg, .int vofa, .int vopl, .long vowd, .int votd, .ref vmn, .ref vmr, .ref vmk, .ref vms, .ref vma, .ref vmm, .ref vmrn, .ref vmkn, .ref vmik, .ref vmon, .int vosm, .int vohp, .ref vmw, .ref vmf, .ref vmb, .int vomb, .ref vmd, .ref vmc, .int vocm, .int voct, .int vocy, .ref vmx, .int votx, .int vose, .ref vml, .ref vmwr, .int voln, .int vohw, .ref vmno, .int vond, .int voon, .int vowi, .int votop])), (vmn, .inl (cy 0, 575, .inl vmnf)), (vma, .inl (cy 0, 176, .inl vmaf_10))] := hD
      refine lv_iconst (v := 0) hx hb dX11_odds_29 (by decide) ?_
      refine lv_istore (lv' := [(4, .int 0), (0, .ref vo), (1, .int vm), (2, .int vn), (3, .int vx)]) hx hb dX11_odds_30 hl (by decide) rfl (fun ls hl => ?_)
      refine lv_iconst (v := 0) hx hb dX11_odds_32 (by decide) ?_
      refine lv_istore (lv' := [(5, .int 0), (4, .int 0), (0, .ref vo), (1, .int vm), (2, .int vn), (3, .int vx)]) hx hb dX11_odds_33 hl (by decide) rfl (fun ls hl => ?_)
      have loop11 : ∀ (n11 : Nat) (x_13 : Int32) (x_12 : Int32) (x_14 : Int32) (g_15 : Nat → Int32), (0 ≤ x_12.toInt ∧ x_12.toInt ≤ 30) → NW vnh g_15 → 30 - x_12.toInt < (n11 : Int) → ∀ (H : Heap) (locs : List Loc), va_P (dC, dI) vwCl [(vo, .inr (12, [.int 0, .ref vmt, .int votp, .int vosz, .int volm, .int voto, .int vofr, .int vokd, .int vonu, .int vosg, .int vofa, .int vopl, .long vowd, .int votd, .ref vmn, .ref vmr, .ref vmk, .ref vms, .ref vma, .ref vmm, .ref vmrn, .ref vmkn, .ref vmik, .ref vmon, .int vosm, .int vohp, .ref vmw, .ref vmf, .ref vmb, .int vomb, .ref vmd, .ref vmc, .int vocm, .int voct, .int vocy, .ref vmx, .int votx, .int x_14, .ref vml, .ref vmwr, .int voln, .int vohw, .ref vmno, .int vond, .int voon, .int vowi, .int votop])), (vmn, .inl (cy 0, 575, .inl g_15)), (vma, .inl (cy 0, 176, .inl vmaf_10))] H → va_D A [(vo, .inr (12, [.int 0, .ref vmt, .int votp, .int vosz, .int volm, .int voto, .int vofr, .int vokd, .int vonu, .int vosg, .int vofa, .int vopl, .long vowd, .int votd, .ref vmn, .ref vmr, .ref vmk, .ref vms, .ref vma, .ref vmm, .ref vmrn, .ref vmkn, .ref vmik, .ref vmon, .int vosm, .int vohp, .ref vmw, .ref vmf, .ref vmb, .int vomb, .ref vmd, .ref vmc, .int vocm, .int voct, .int vocy, .ref vmx, .int votx, .int x_14, .ref vml, .ref vmwr, .int voln, .int vohw, .ref vmno, .int vond, .int voon, .int vowi, .int votop])), (vmn, .inl (cy 0, 575, .inl g_15)), (vma, .inl (cy 0, 176, .inl vmaf_10))] → va_S A s.heap H locs → ∀ ls : Array Slot, lv_has ls 6 [(5, .int x_12), (4, .int x_13), (0, .ref vo), (1, .int vm), (2, .int vn), (3, .int vx)] → W p l e ({ frames := 7, cells := 0, slots := 0, locals := 448 }) s m av9 below meth c H locs 0 0 Q9 (F0 m 35 ls []) := by
        intro n11
        induction n11 with
        | zero =>
          intro x_13 x_12 x_14 g_15 bx_12 p_g_15 hn11 H locs hP hD hS ls hl
          exfalso; omega
        | succ n11 ih11 =>
          intro x_13 x_12 x_14 g_15 bx_12 p_g_15 hn11 H locs hP hD hS ls hl
          refine lv_iload hx hb dX11_odds_35 (lv_at hl 0 rfl) ?_
          refine lv_iload_n hx hb dX11_odds_37 rfl (lv_at hl 4 rfl) ?_
          refine lv_icmp_ge (tgt := 74) hx hb dX11_odds_38 (by decide) (fun c_16 => ?_) (fun c_16 => ?_)
          · skip
            have c_16 : vn.toInt ≤ x_12.toInt := i_le.mp c_16
            refine lv_iload hx hb dX11_odds_74 (lv_at hl 1 rfl) ?_
            rw [hQ9]
            exact re_i ((0 : Int32), g_15, x_14, vmaf_10) hx hb hr hlocks (show NW vnh g_15 from p_g_15) (hP.sub [0, 1, 2] rfl) (hD.sub [0, 1, 2] rfl rfl) hS dX11_odds_76
          · skip
            have c_16 : ¬ (vn.toInt ≤ x_12.toInt) := fun h9 => c_16 (i_le.mpr h9)
            have join17 : ∀ (x_18 : Int32) (x_19 : Int32) (g_20 : Nat → Int32), NW vnh g_20 → ∀ (H : Heap) (locs : List Loc), va_P (dC, dI) vwCl [(vo, .inr (12, [.int 0, .ref vmt, .int votp, .int vosz, .int volm, .int voto, .int vofr, .int vokd, .int vonu, .int vosg, .int vofa, .int vopl, .long vowd, .int votd, .ref vmn, .ref vmr, .ref vmk, .ref vms, .ref vma, .ref vmm, .ref vmrn, .ref vmkn, .ref vmik, .ref vmon, .int vosm, .int vohp, .ref vmw, .ref vmf, .ref vmb, .int vomb, .ref vmd, .ref vmc, .int vocm, .int voct, .int vocy, .ref vmx, .int votx, .int x_19, .ref vml, .ref vmwr, .int voln, .int vohw, .ref vmno, .int vond, .int voon, .int vowi, .int votop])), (vmn, .inl (cy 0, 575, .inl g_20)), (vma, .inl (cy 0, 176, .inl vmaf_10))] H → va_D A [(vo, .inr (12, [.int 0, .ref vmt, .int votp, .int vosz, .int volm, .int voto, .int vofr, .int vokd, .int vonu, .int vosg, .int vofa, .int vopl, .long vowd, .int votd, .ref vmn, .ref vmr, .ref vmk, .ref vms, .ref vma, .ref vmm, .ref vmrn, .ref vmkn, .ref vmik, .ref vmon, .int vosm, .int vohp, .ref vmw, .ref vmf, .ref vmb, .int vomb, .ref vmd, .ref vmc, .int vocm, .int voct, .int vocy, .ref vmx, .int votx, .int x_19, .ref vml, .ref vmwr, .int voln, .int vohw, .ref vmno, .int vond, .int voon, .int vowi, .int votop])), (vmn, .inl (cy 0, 575, .inl g_20)), (vma, .inl (cy 0, 176, .inl vmaf_10))] → va_S A s.heap H locs → ∀ ls : Array Slot, lv_has ls 6 [(4, .int x_18), (5, .int x_12), (0, .ref vo), (1, .int vm), (2, .int vn), (3, .int vx)] → W p l e ({ frames := 7, cells := 0, slots := 0, locals := 448 }) s m av9 below meth c H locs 0 0 Q9 (F0 m 64 ls []) := by
              intro x_18 x_19 g_20 p_g_20 H locs hP hD hS ls hl
              refine lv_aload_n hx hb dX11_odds_64 rfl (lv_at hl 2 rfl) ?_
              refine jn_v (wr := []) (rV (As := []) (rest := []) (ci := 12) ⟨hx, hb, hml, hown, hts⟩ (m_takeBack l dC dI cy _ vnh vo 0 vmt votp vosz volm voto vofr vokd vonu vosg vofa vopl vowd votd vmn vmr vmk vms vma vmm vmrn vmkn vmik vmon vosm vohp vmw vmf vmb vomb vmd vmc vocm voct vocy vmx votx x_19 vml vmwr voln vohw vmno vond voon vowi votop g_20 vmaf_10 p_g_20) (cw_X11_367 hts rfl rfl ⟨Nat.le_of_ble_eq_true rfl, Nat.le_of_ble_eq_true rfl⟩) hP hD hK [0, 1, 2] rfl rfl rfl rfl bl0 e0 rfl hl.1 rfl (Nat.le_of_ble_eq_true rfl) dX11_odds_65 ⟨Nat.le_of_ble_eq_true rfl, Nat.le_of_ble_eq_true rfl⟩) hP hD hS hA [0, 1, 2] [] rfl rfl rfl (by decide) (fun u_23 H locs hp_22 hP hD hS => ?_)
              obtain ⟨vmnf_24, rfl⟩ : ∃ z, z = u_23 := ⟨_, rfl⟩
              have hp_22 : (NW vnh vmnf_24) := hp_22
              have q_25 := hp_22
              have hP : va_P (dC, dI) vwCl [(vo, .inr (12, [.int 0, .ref vmt, .int votp, .int vosz, .int volm, .int voto, .int vofr, .int vokd, .int vonu, .int vosg, .int vofa, .int vopl, .long vowd, .int votd, .ref vmn, .ref vmr, .ref vmk, .ref vms, .ref vma, .ref vmm, .ref vmrn, .ref vmkn, .ref vmik, .ref vmon, .int vosm, .int vohp, .ref vmw, .ref vmf, .ref vmb, .int vomb, .ref vmd, .ref vmc, .int vocm, .int voct, .int vocy, .ref vmx, .int votx, .int x_19, .ref vml, .ref vmwr, .int voln, .int vohw, .ref vmno, .int vond, .int voon, .int vowi, .int votop])), (vmn, .inl (cy 0, 575, .inl vmnf_24)), (vma, .inl (cy 0, 176, .inl vmaf_10))] H := hP
              have hD : va_D A [(vo, .inr (12, [.int 0, .ref vmt, .int votp, .int vosz, .int volm, .int voto, .int vofr, .int vokd, .int vonu, .int vosg, .int vofa, .int vopl, .long vowd, .int votd, .ref vmn, .ref vmr, .ref vmk, .ref vms, .ref vma, .ref vmm, .ref vmrn, .ref vmkn, .ref vmik, .ref vmon, .int vosm, .int vohp, .ref vmw, .ref vmf, .ref vmb, .int vomb, .ref vmd, .ref vmc, .int vocm, .int voct, .int vocy, .ref vmx, .int votx, .int x_19, .ref vml, .ref vmwr, .int voln, .int vohw, .ref vmno, .int vond, .int voon, .int vowi, .int votop])), (vmn, .inl (cy 0, 575, .inl vmnf_24)), (vma, .inl (cy 0, 176, .inl vmaf_10))] := hD
              obtain ⟨z_26, ez_26⟩ : ∃ z : Int32, z = x_12 + 1 := ⟨_, rfl⟩
              have bz_26 : z_26.toInt = x_12.toInt + (1 : Int32).toInt := i_add ez_26 (by omega) (by omega)
              refine lv_iinc (v := z_26) (lv' := [(5, .int z_26), (4, .int x_18), (0, .ref vo), (1, .int vm), (2, .int vn), (3, .int vx)]) hx hb dX11_odds_68 hl (k := 1) rfl ez_26.symm (by decide) rfl (fun ls hl => ?_)
              refine lv_goto (tgt := 35) hx hb dX11_odds_71 (by decide) ?_
              exact ih11 x_18 z_26 x_19 vmnf_24 ⟨by omega, by omega⟩ q_25 (by omega) _ _ (hP.sub [0, 1, 2] rfl) (hD.sub [0, 1, 2] rfl rfl) hS ls (lv_sub hl [0, 1, 2, 3, 4, 5] rfl)
            refine lv_aload_n hx hb dX11_odds_41 rfl (lv_at hl 2 rfl) ?_
            refine lv_bipush (v := 10) hx hb dX11_odds_42 (by decide) ?_
            refine lv_iload_n hx hb dX11_odds_44 rfl (lv_at hl 5 rfl) ?_
            refine lv_iload hx hb dX11_odds_45 (lv_at hl 0 rfl) ?_
            refine lv_iadd hx hb dX11_odds_47 ?_
            refine lv_topi (fun z_27 ez_27 => ?_)
            have k_10 : (10 : Int32).toInt = 10 := by decide
            refine jn_i (wr := [(vma, .inl (cy 0, 176, .inl vmaf_10))]) (rV (As := [.int 10, .int z_27]) (rest := []) (ci := 12) ⟨hx, hb, hml, hown, hts⟩ (m_drawYears l dC dI cy _ vnh vo 0 vmt votp vosz volm voto vofr vokd vonu vosg vofa vopl vowd votd vmn vmr vmk vms vma vmm vmrn vmkn vmik vmon vosm vohp vmw vmf vmb vomb vmd vmc vocm voct vocy vmx votx x_14 vml vmwr voln vohw vmno vond voon vowi votop g_15 10 z_27 ⟨by omega, by omega⟩ p_g_15) (cw_X11_361 hts rfl rfl ⟨Nat.le_of_ble_eq_true rfl, Nat.le_of_ble_eq_true rfl⟩) hP hD hK [0, 1] rfl rfl rfl rfl bl0 e0 rfl hl.1 rfl (Nat.le_of_ble_eq_true rfl) dX11_odds_48 ⟨Nat.le_of_ble_eq_true rfl, Nat.le_of_ble_eq_true rfl⟩) hP hD hS hA [0, 1] [2] rfl rfl rfl (by decide) (fun r_28 u_30 H locs hp_29 hP hD hS => ?_)
            obtain ⟨vmnf_31, vose_32⟩ := u_30
            have hp_29 : (NW vnh vmnf_31) := hp_29
            have q_33 := hp_29
            have hP : va_P (dC, dI) vwCl [(vma, .inl (cy 0, 176, .inl vmaf_10)), (vo, .inr (12, [.int 0, .ref vmt, .int votp, .int vosz, .int volm, .int voto, .int vofr, .int vokd, .int vonu, .int vosg, .int vofa, .int vopl, .long vowd, .int votd, .ref vmn, .ref vmr, .ref vmk, .ref vms, .ref vma, .ref vmm, .ref vmrn, .ref vmkn, .ref vmik, .ref vmon, .int vosm, .int vohp, .ref vmw, .ref vmf, .ref vmb, .int vomb, .ref vmd, .ref vmc, .int vocm, .int voct, .int vocy, .ref vmx, .int votx, .int vose_32, .ref vml, .ref vmwr, .int voln, .int vohw, .ref vmno, .int vond, .int voon, .int vowi, .int votop])), (vmn, .inl (cy 0, 575, .inl vmnf_31))] H := hP
            have hD : va_D A [(vma, .inl (cy 0, 176, .inl vmaf_10)), (vo, .inr (12, [.int 0, .ref vmt, .int votp, .int vosz, .int volm, .int voto, .int vofr, .int vokd, .int vonu, .int vosg, .int vofa, .int vopl, .long vowd, .int votd, .ref vmn, .ref vmr, .ref vmk, .ref vms, .ref vma, .ref vmm, .ref vmrn, .ref vmkn, .ref vmik, .ref vmon, .int vosm, .int vohp, .ref vmw, .ref vmf, .ref vmb, .int vomb, .ref vmd, .ref vmc, .int vocm, .int voct, .int vocy, .ref vmx, .int votx, .int vose_32, .ref vml, .ref vmwr, .int voln, .int vohw, .ref vmno, .int vond, .int voon, .int vowi, .int votop])), (vmn, .inl (cy 0, 575, .inl vmnf_31))] := hD
            refine lv_pop hx hb dX11_odds_51 rfl ?_
            refine lv_aload_n hx hb dX11_odds_52 rfl (lv_at hl 2 rfl) ?_
            refine lv_iload_n hx hb dX11_odds_53 rfl (lv_at hl 3 rfl) ?_
            refine jr_i (rVr (As := [.int vm]) (rest := []) (ci := 12) ⟨hx, hb, hml, hown, hts⟩ (m_howOf l dC dI cy vnh vo 0 vmt votp vosz volm voto vofr vokd vonu vosg vofa vopl vowd votd vmn vmr vmk vms vma vmm vmrn vmkn vmik vmon vosm vohp vmw vmf vmb vomb vmd vmc vocm voct vocy vmx votx vose_32 vml vmwr voln vohw vmno vond voon vowi votop vmnf_31 vm ⟨by omega, by omega⟩ q_33) (cw_X11_256 hts rfl rfl ⟨Nat.le_of_ble_eq_true rfl, Nat.le_of_ble_eq_true rfl⟩) hP hK [1, 2] rfl rfl rfl rfl hl.1 rfl (Nat.le_of_ble_eq_true rfl) dX11_odds_54 ⟨Nat.le_of_ble_eq_true rfl, Nat.le_of_ble_eq_true rfl⟩) hP hS (fun r_34 H locs hp_35 hP hS => ?_)
            have hp_35 : (0 ≤ (r_34 : Int32).toInt ∧ (r_34 : Int32).toInt ≤ 2) := hp_35
            have q_36 := hp_35
            refine lv_iconst (v := 1) hx hb dX11_odds_57 (by decide) ?_
            refine lv_icmp_ne (tgt := 64) hx hb dX11_odds_58 (by decide) (fun c_37 => ?_) (fun c_37 => ?_)
            · skip
              have c_37 : ¬ (r_34.toInt = (1 : Int32).toInt) := fun h9 => c_37 (i_eq.mpr h9)
              exact join17 x_13 vose_32 vmnf_31 q_33 _ _ (hP.sub [1, 2, 0] rfl) (hD.sub [1, 2, 0] rfl rfl) hS ls (lv_sub hl [1, 0, 2, 3, 4, 5] rfl)
            · skip
              have c_37 : r_34.toInt = (1 : Int32).toInt := i_eq.mp c_37
              obtain ⟨z_38, ez_38⟩ : ∃ z : Int32, z = x_13 + 1 := ⟨_, rfl⟩
              refine lv_iinc (v := z_38) (lv' := [(4, .int z_38), (5, .int x_12), (0, .ref vo), (1, .int vm), (2, .int vn), (3, .int vx)]) hx hb dX11_odds_61 hl (k := 1) rfl ez_38.symm (by decide) rfl (fun ls hl => ?_)
              exact join17 z_38 vose_32 vmnf_31 q_33 _ _ (hP.sub [1, 2, 0] rfl) (hD.sub [1, 2, 0] rfl rfl) hS ls (lv_sub hl [0, 1, 2, 3, 4, 5] rfl)
      exact loop11 ((30 - (0 : Int32).toInt).toNat + 1) 0 0 vose vmnf ⟨by omega, by omega⟩ p_vmnf (by omega) _ _ hP hD hS ls (lv_sub hl [0, 1, 2, 3, 4, 5] rfl)
abbrev cX11_stay : ByteArray := prog_13_method_116_code
def yX11_stay : MethodName := ⟨RX11, "stay", "(Z)V"⟩
theorem t2010 : Cond.code yX11_stay cX11_stay 4 none ∈ GW := gw_mem 2124 (by decide +kernel) (by decide +kernel)
abbrev O_m_stay (cy : Nat → ClassId) (vnh : Nat → Int32) (vo : Nat) (voth : Int32) (vmt : Nat) (votp : Int32) (vosz : Int32) (volm : Int32) (voto : Int32) (vofr : Int32) (vokd : Int32) (vonu : Int32) (vosg : Int32) (vofa : Int32) (vopl : Int32) (vowd : Int64) (votd : Int32) (vmn : Nat) (vmr : Nat) (vmk : Nat) (vms : Nat) (vma : Nat) (vmm : Nat) (vmrn : Nat) (vmkn : Nat) (vmik : Nat) (vmon : Nat) (vosm : Int32) (vohp : Int32) (vmw : Nat) (vmf : Nat) (vmb : Nat) (vomb : Int32) (vmd : Nat) (vmc : Nat) (vocm : Int32) (voct : Int32) (vocy : Int32) (vmx : Nat) (votx : Int32) (vose : Int32) (vml : Nat) (vmwr : Nat) (voln : Int32) (vohw : Int32) (vmno : Nat) (vond : Int32) (voon : Int32) (vowi : Int32) (votop : Int32) (vmnf : Nat → Int32) (vmsf : Nat → Int32) (vmaf : Nat → Int32) (vb : Int32) (u : (Nat → Int32) × (Nat → Int32) × Int32 × (Nat → Int32)) : va_W := [(vo, .inr (12, [.int voth, .ref vmt, .int votp, .int vosz, .int volm, .int voto, .int vofr, .int vokd, .int vonu, .int vosg, .int vofa, .int vopl, .long vowd, .int votd, .ref vmn, .ref vmr, .ref vmk, .ref vms, .ref vma, .ref vmm, .ref vmrn, .ref vmkn, .ref vmik, .ref vmon, .int u.2.2.1, .int vohp, .ref vmw, .ref vmf, .ref vmb, .int vomb, .ref vmd, .ref vmc, .int vocm, .int voct, .int vocy, .ref vmx, .int votx, .int vose, .ref vml, .ref vmwr, .int voln, .int vohw, .ref vmno, .int vond, .int voon, .int vowi, .int votop])), (vmn, .inl (cy 0, 575, .inl u.1)), (vms, .inl (cy 0, 1408, .inl u.2.1)), (vma, .inl (cy 0, 176, .inl u.2.2.2))]
theorem dX11_stay_0 : decode cX11_stay 0 = .ok (.iconst 0, 1) := by decide +kernel
theorem dX11_stay_1 : decode cX11_stay 1 = .ok (.istore_n 2, 1) := by decide +kernel
theorem dX11_stay_2 : decode cX11_stay 2 = .ok (.iload_n 2, 1) := by decide +kernel
theorem dX11_stay_3 : decode cX11_stay 3 = .ok (.sipush 176, 3) := by decide +kernel
theorem dX11_stay_6 : decode cX11_stay 6 = .ok (.if_icmp .ge 43, 3) := by decide +kernel
theorem dX11_stay_49 : decode cX11_stay 49 = .ok (.iload_n 1, 1) := by decide +kernel
theorem dX11_stay_50 : decode cX11_stay 50 = .ok (.ifCond .ne 4, 3) := by decide +kernel
theorem dX11_stay_54 : decode cX11_stay 54 = .ok (.aload_n 0, 1) := by decide +kernel
theorem dX11_stay_55 : decode cX11_stay 55 = .ok (.invokevirtual 278, 3) := by decide +kernel
theorem dX11_stay_58 : decode cX11_stay 58 = .ok (.aload_n 0, 1) := by decide +kernel
theorem dX11_stay_59 : decode cX11_stay 59 = .ok (.invokevirtual 367, 3) := by decide +kernel
theorem dX11_stay_62 : decode cX11_stay 62 = .ok (.return_, 1) := by decide +kernel
theorem dX11_stay_53 : decode cX11_stay 53 = .ok (.return_, 1) := by decide +kernel
theorem dX11_stay_9 : decode cX11_stay 9 = .ok (.aload_n 0, 1) := by decide +kernel
theorem dX11_stay_10 : decode cX11_stay 10 = .ok (.getfield 98, 3) := by decide +kernel
theorem dX11_stay_13 : decode cX11_stay 13 = .ok (.sipush 157, 3) := by decide +kernel
theorem dX11_stay_16 : decode cX11_stay 16 = .ok (.iload_n 2, 1) := by decide +kernel
theorem dX11_stay_17 : decode cX11_stay 17 = .ok (.iadd, 1) := by decide +kernel
theorem dX11_stay_18 : decode cX11_stay 18 = .ok (.iaload, 1) := by decide +kernel
theorem dX11_stay_19 : decode cX11_stay 19 = .ok (.istore_n 3, 1) := by decide +kernel
theorem dX11_stay_20 : decode cX11_stay 20 = .ok (.aload_n 0, 1) := by decide +kernel
theorem dX11_stay_21 : decode cX11_stay 21 = .ok (.getfield 98, 3) := by decide +kernel
theorem dX11_stay_24 : decode cX11_stay 24 = .ok (.sipush 157, 3) := by decide +kernel
theorem dX11_stay_27 : decode cX11_stay 27 = .ok (.iload_n 2, 1) := by decide +kernel
theorem dX11_stay_28 : decode cX11_stay 28 = .ok (.iadd, 1) := by decide +kernel
theorem dX11_stay_29 : decode cX11_stay 29 = .ok (.aload_n 0, 1) := by decide +kernel
theorem dX11_stay_30 : decode cX11_stay 30 = .ok (.getfield 110, 3) := by decide +kernel
theorem dX11_stay_33 : decode cX11_stay 33 = .ok (.iload_n 2, 1) := by decide +kernel
theorem dX11_stay_34 : decode cX11_stay 34 = .ok (.iaload, 1) := by decide +kernel
theorem dX11_stay_35 : decode cX11_stay 35 = .ok (.iastore, 1) := by decide +kernel
theorem dX11_stay_36 : decode cX11_stay 36 = .ok (.aload_n 0, 1) := by decide +kernel
theorem dX11_stay_37 : decode cX11_stay 37 = .ok (.getfield 110, 3) := by decide +kernel
theorem dX11_stay_40 : decode cX11_stay 40 = .ok (.iload_n 2, 1) := by decide +kernel
theorem dX11_stay_41 : decode cX11_stay 41 = .ok (.iload_n 3, 1) := by decide +kernel
theorem dX11_stay_42 : decode cX11_stay 42 = .ok (.iastore, 1) := by decide +kernel
theorem dX11_stay_43 : decode cX11_stay 43 = .ok (.iinc 2 1, 3) := by decide +kernel
theorem dX11_stay_46 : decode cX11_stay 46 = .ok (.goto (-44), 3) := by decide +kernel
set_option maxHeartbeats 4000000 in
set_option maxRecDepth 100000 in
theorem m_stay (l : Launch) (dC : Nat → ClassId) (dI : Nat → Nat → Nat) (cy : Nat → ClassId) (sz : Nat) (vnh : Nat → Int32) (vo : Nat) (voth : Int32) (vmt : Nat) (votp : Int32) (vosz : Int32) (volm : Int32) (voto : Int32) (vofr : Int32) (vokd : Int32) (vonu : Int32) (vosg : Int32) (vofa : Int32) (vopl : Int32) (vowd : Int64) (votd : Int32) (vmn : Nat) (vmr : Nat) (vmk : Nat) (vms : Nat) (vma : Nat) (vmm : Nat) (vmrn : Nat) (vmkn : Nat) (vmik : Nat) (vmon : Nat) (vosm : Int32) (vohp : Int32) (vmw : Nat) (vmf : Nat) (vmb : Nat) (vomb : Int32) (vmd : Nat) (vmc : Nat) (vocm : Int32) (voct : Int32) (vocy : Int32) (vmx : Nat) (votx : Int32) (vose : Int32) (vml : Nat) (vmwr : Nat) (voln : Int32) (vohw : Int32) (vmno : Nat) (vond : Int32) (voon : Int32) (vowi : Int32) (votop : Int32) (vmnf : Nat → Int32) (vmsf : Nat → Int32) (vmaf : Nat → Int32) (vb : Int32) (r_vosm : 0 ≤ (vosm : Int32).toInt ∧ (vosm : Int32).toInt ≤ 8) (p_vmnf : NW vnh vmnf) : Met l yX11_stay (wl yX11_stay cX11_stay 4 none) ({ frames := 1, cells := 0, slots := 0, locals := 64 }) (Pw (dC, dI) vwCl cy [(vo, .inr (12, [.int voth, .ref vmt, .int votp, .int vosz, .int volm, .int voto, .int vofr, .int vokd, .int vonu, .int vosg, .int vofa, .int vopl, .long vowd, .int votd, .ref vmn, .ref vmr, .ref vmk, .ref vms, .ref vma, .ref vmm, .ref vmrn, .ref vmkn, .ref vmik, .ref vmon, .int vosm, .int vohp, .ref vmw, .ref vmf, .ref vmb, .int vomb, .ref vmd, .ref vmc, .int vocm, .int voct, .int vocy, .ref vmx, .int votx, .int vose, .ref vml, .ref vmwr, .int voln, .int vohw, .ref vmno, .int vond, .int voon, .int vowi, .int votop])), (vmn, .inl (cy 0, 575, .inl vmnf)), (vms, .inl (cy 0, 1408, .inl vmsf)), (vma, .inl (cy 0, 176, .inl vmaf))] sz [.ref vo, .int vb] nE) (Qv (dC, dI) vwCl (fun (u : (Nat → Int32) × (Nat → Int32) × Int32 × (Nat → Int32)) => (NW vnh u.1) ∧ (0 ≤ (u.2.2.1 : Int32).toInt ∧ (u.2.2.1 : Int32).toInt ≤ 8)) (O_m_stay cy vnh vo voth vmt votp vosz volm voto vofr vokd vonu vosg vofa vopl vowd votd vmn vmr vmk vms vma vmm vmrn vmkn vmik vmon vosm vohp vmw vmf vmb vomb vmd vmc vocm voct vocy vmx votx vose vml vmwr voln vohw vmno vond voon vowi votop vmnf vmsf vmaf vb) (va_A [(vo, .inr (12, [.int voth, .ref vmt, .int votp, .int vosz, .int volm, .int voto, .int vofr, .int vokd, .int vonu, .int vosg, .int vofa, .int vopl, .long vowd, .int votd, .ref vmn, .ref vmr, .ref vmk, .ref vms, .ref vma, .ref vmm, .ref vmrn, .ref vmkn, .ref vmik, .ref vmon, .int vosm, .int vohp, .ref vmw, .ref vmf, .ref vmb, .int vomb, .ref vmd, .ref vmc, .int vocm, .int voct, .int vocy, .ref vmx, .int votx, .int vose, .ref vml, .ref vmwr, .int voln, .int vohw, .ref vmno, .int vond, .int voon, .int vowi, .int votop])), (vmn, .inl (cy 0, 575, .inl vmnf)), (vms, .inl (cy 0, 1408, .inl vmsf)), (vma, .inl (cy 0, 176, .inl vmaf))] sz)) 0 0 (va_A [(vo, .inr (12, [.int voth, .ref vmt, .int votp, .int vosz, .int volm, .int voto, .int vofr, .int vokd, .int vonu, .int vosg, .int vofa, .int vopl, .long vowd, .int votd, .ref vmn, .ref vmr, .ref vmk, .ref vms, .ref vma, .ref vmm, .ref vmrn, .ref vmkn, .ref vmik, .ref vmon, .int vosm, .int vohp, .ref vmw, .ref vmf, .ref vmb, .int vomb, .ref vmd, .ref vmc, .int vocm, .int voct, .int vocy, .ref vmx, .int votx, .int vose, .ref vml, .ref vmwr, .int voln, .int vohw, .ref vmno, .int vond, .int voon, .int vowi, .int votop])), (vmn, .inl (cy 0, 575, .inl vmnf)), (vms, .inl (cy 0, 1408, .inl vmsf)), (vma, .inl (cy 0, 176, .inl vmaf))] sz) := by
  refine mw (Qc := Qv (dC, dI) vwCl (fun (u : (Nat → Int32) × (Nat → Int32) × Int32 × (Nat → Int32)) => (NW vnh u.1) ∧ (0 ≤ (u.2.2.1 : Int32).toInt ∧ (u.2.2.1 : Int32).toInt ≤ 8)) (O_m_stay cy vnh vo voth vmt votp vosz volm voto vofr vokd vonu vosg vofa vopl vowd votd vmn vmr vmk vms vma vmm vmrn vmkn vmik vmon vosm vohp vmw vmf vmb vomb vmd vmc vocm voct vocy vmx votx vose vml vmwr voln vohw vmno vond voon vowi votop vmnf vmsf vmaf vb)) RX11 rfl (by decide +kernel) (Nat.le_of_ble_eq_true rfl) ?_
  intro p e s m below meth c A hx hb hr hlocks av9 hav hts hown hnm hml hK hP hD hA hS hE hAe Q9 hQ9 ls hl
  have hl : lv_has ls 4 [(0, .ref vo), (1, .int vb)] := hl
  refine lv_iconst (v := 0) hx hb dX11_stay_0 (by decide) ?_
  refine lv_istore_n (lv' := [(2, .int 0), (0, .ref vo), (1, .int vb)]) hx hb dX11_stay_1 rfl hl (by decide) rfl (fun ls hl => ?_)
  have loop1 : ∀ (n1 : Nat) (x_2 : Int32) (g_3 : Nat → Int32) (g_4 : Nat → Int32), (0 ≤ x_2.toInt ∧ x_2.toInt ≤ 176) → NW vnh g_3 → 176 - x_2.toInt < (n1 : Int) → ∀ (H : Heap) (locs : List Loc), va_P (dC, dI) vwCl [(vo, .inr (12, [.int voth, .ref vmt, .int votp, .int vosz, .int volm, .int voto, .int vofr, .int vokd, .int vonu, .int vosg, .int vofa, .int vopl, .long vowd, .int votd, .ref vmn, .ref vmr, .ref vmk, .ref vms, .ref vma, .ref vmm, .ref vmrn, .ref vmkn, .ref vmik, .ref vmon, .int vosm, .int vohp, .ref vmw, .ref vmf, .ref vmb, .int vomb, .ref vmd, .ref vmc, .int vocm, .int voct, .int vocy, .ref vmx, .int votx, .int vose, .ref vml, .ref vmwr, .int voln, .int vohw, .ref vmno, .int vond, .int voon, .int vowi, .int votop])), (vmn, .inl (cy 0, 575, .inl g_3)), (vms, .inl (cy 0, 1408, .inl vmsf)), (vma, .inl (cy 0, 176, .inl g_4))] H → va_D A [(vo, .inr (12, [.int voth, .ref vmt, .int votp, .int vosz, .int volm, .int voto, .int vofr, .int vokd, .int vonu, .int vosg, .int vofa, .int vopl, .long vowd, .int votd, .ref vmn, .ref vmr, .ref vmk, .ref vms, .ref vma, .ref vmm, .ref vmrn, .ref vmkn, .ref vmik, .ref vmon, .int vosm, .int vohp, .ref vmw, .ref vmf, .ref vmb, .int vomb, .ref vmd, .ref vmc, .int vocm, .int voct, .int vocy, .ref vmx, .int votx, .int vose, .ref vml, .ref vmwr, .int voln, .int vohw, .ref vmno, .int vond, .int voon, .int vowi, .int votop])), (vmn, .inl (cy 0, 575, .inl g_3)), (vms, .inl (cy 0, 1408, .inl vmsf)), (vma, .inl (cy 0, 176, .inl g_4))] → va_S A s.heap H locs → ∀ ls : Array Slot, lv_has ls 4 [(2, .int x_2), (0, .ref vo), (1, .int vb)] → W p l e ({ frames := 1, cells := 0, slots := 0, locals := 64 }) s m av9 below meth c H locs 0 0 Q9 (F0 m 2 ls []) := by
    intro n1
    induction n1 with
    | zero =>
      intro x_2 g_3 g_4 bx_2 p_g_3 hn1 H locs hP hD hS ls hl
      exfalso; omega
    | succ n1 ih1 =>
      intro x_2 g_3 g_4 bx_2 p_g_3 hn1 H locs hP hD hS ls hl
      refine lv_iload_n hx hb dX11_stay_2 rfl (lv_at hl 0 rfl) ?_
      refine lv_sipush (v := 176) hx hb dX11_stay_3 (by decide) ?_
      have k_176 : (176 : Int32).toInt = 176 := by decide
      refine lv_icmp_ge (tgt := 49) hx hb dX11_stay_6 (by decide) (fun c_5 => ?_) (fun c_5 => ?_)
      · skip
        have c_5 : (176 : Int32).toInt ≤ x_2.toInt := i_le.mp c_5
        refine lv_iload_n hx hb dX11_stay_49 rfl (lv_at hl 2 rfl) ?_
        have k_0 : (0 : Int32).toInt = 0 := by decide
        refine lv_if_ne (tgt := 54) hx hb dX11_stay_50 (by decide) (fun c_6 => ?_) (fun c_6 => ?_)
        · skip
          have c_6 : ¬ (vb.toInt = (0 : Int32).toInt) := fun h9 => c_6 (i_eq.mpr h9)
          refine lv_aload_n hx hb dX11_stay_54 rfl (lv_at hl 1 rfl) ?_
          refine jn_v (wr := [(vma, .inl (cy 0, 176, .inl g_4))]) (rV (As := []) (rest := []) (ci := 12) ⟨hx, hb, hml, hown, hts⟩ (m_snap l dC dI cy _ vnh vo voth vmt votp vosz volm voto vofr vokd vonu vosg vofa vopl vowd votd vmn vmr vmk vms vma vmm vmrn vmkn vmik vmon vosm vohp vmw vmf vmb vomb vmd vmc vocm voct vocy vmx votx vose vml vmwr voln vohw vmno vond voon vowi votop g_3 vmsf r_vosm p_g_3) (cw_X11_278 hts rfl rfl ⟨Nat.le_of_ble_eq_true rfl, Nat.le_of_ble_eq_true rfl⟩) hP hD hK [0, 1, 2] rfl rfl rfl rfl bl0 e0 rfl hl.1 rfl (Nat.le_of_ble_eq_true rfl) dX11_stay_55 ⟨Nat.le_of_ble_eq_true rfl, Nat.le_of_ble_eq_true rfl⟩) hP hD hS hA [0, 1, 2] [3] rfl rfl rfl (by decide) (fun u_9 H locs hp_8 hP hD hS => ?_)
          obtain ⟨vmsf_10, vosm_11⟩ := u_9
          have hp_8 : (0 ≤ (vosm_11 : Int32).toInt ∧ (vosm_11 : Int32).toInt ≤ 8) := hp_8
          have q_12 := hp_8
          have hP : va_P (dC, dI) vwCl [(vma, .inl (cy 0, 176, .inl g_4)), (vo, .inr (12, [.int voth, .ref vmt, .int votp, .int vosz, .int volm, .int voto, .int vofr, .int vokd, .int vonu, .int vosg, .int vofa, .int vopl, .long vowd, .int votd, .ref vmn, .ref vmr, .ref vmk, .ref vms, .ref vma, .ref vmm, .ref vmrn, .ref vmkn, .ref vmik, .ref vmon, .int vosm_11, .int vohp, .ref vmw, .ref vmf, .ref vmb, .int vomb, .ref vmd, .ref vmc, .int vocm, .int voct, .int vocy, .ref vmx, .int votx, .int vose, .ref vml, .ref vmwr, .int voln, .int vohw, .ref vmno, .int vond, .int voon, .int vowi, .int votop])), (vmn, .inl (cy 0, 575, .inl g_3)), (vms, .inl (cy 0, 1408, .inl vmsf_10))] H := hP
          have hD : va_D A [(vma, .inl (cy 0, 176, .inl g_4)), (vo, .inr (12, [.int voth, .ref vmt, .int votp, .int vosz, .int volm, .int voto, .int vofr, .int vokd, .int vonu, .int vosg, .int vofa, .int vopl, .long vowd, .int votd, .ref vmn, .ref vmr, .ref vmk, .ref vms, .ref vma, .ref vmm, .ref vmrn, .ref vmkn, .ref vmik, .ref vmon, .int vosm_11, .int vohp, .ref vmw, .ref vmf, .ref vmb, .int vomb, .ref vmd, .ref vmc, .int vocm, .int voct, .int vocy, .ref vmx, .int votx, .int vose, .ref vml, .ref vmwr, .int voln, .int vohw, .ref vmno, .int vond, .int voon, .int vowi, .int votop])), (vmn, .inl (cy 0, 575, .inl g_3)), (vms, .inl (cy 0, 1408, .inl vmsf_10))] := hD
          refine lv_aload_n hx hb dX11_stay_58 rfl (lv_at hl 1 rfl) ?_
          refine jn_v (wr := [(vms, .inl (cy 0, 1408, .inl vmsf_10))]) (rV (As := []) (rest := []) (ci := 12) ⟨hx, hb, hml, hown, hts⟩ (m_takeBack l dC dI cy _ vnh vo voth vmt votp vosz volm voto vofr vokd vonu vosg vofa vopl vowd votd vmn vmr vmk vms vma vmm vmrn vmkn vmik vmon vosm_11 vohp vmw vmf vmb vomb vmd vmc vocm voct vocy vmx votx vose vml vmwr voln vohw vmno vond voon vowi votop g_3 g_4 p_g_3) (cw_X11_367 hts rfl rfl ⟨Nat.le_of_ble_eq_true rfl, Nat.le_of_ble_eq_true rfl⟩) hP hD hK [1, 2, 0] rfl rfl rfl rfl bl0 e0 rfl hl.1 rfl (Nat.le_of_ble_eq_true rfl) dX11_stay_59 ⟨Nat.le_of_ble_eq_true rfl, Nat.le_of_ble_eq_true rfl⟩) hP hD hS hA [1, 2, 0] [3] rfl rfl rfl (by decide) (fun u_15 H locs hp_14 hP hD hS => ?_)
          obtain ⟨vmnf_16, rfl⟩ : ∃ z, z = u_15 := ⟨_, rfl⟩
          have hp_14 : (NW vnh vmnf_16) := hp_14
          have q_17 := hp_14
          have hP : va_P (dC, dI) vwCl [(vms, .inl (cy 0, 1408, .inl vmsf_10)), (vo, .inr (12, [.int voth, .ref vmt, .int votp, .int vosz, .int volm, .int voto, .int vofr, .int vokd, .int vonu, .int vosg, .int vofa, .int vopl, .long vowd, .int votd, .ref vmn, .ref vmr, .ref vmk, .ref vms, .ref vma, .ref vmm, .ref vmrn, .ref vmkn, .ref vmik, .ref vmon, .int vosm_11, .int vohp, .ref vmw, .ref vmf, .ref vmb, .int vomb, .ref vmd, .ref vmc, .int vocm, .int voct, .int vocy, .ref vmx, .int votx, .int vose, .ref vml, .ref vmwr, .int voln, .int vohw, .ref vmno, .int vond, .int voon, .int vowi, .int votop])), (vmn, .inl (cy 0, 575, .inl vmnf_16)), (vma, .inl (cy 0, 176, .inl g_4))] H := hP
          have hD : va_D A [(vms, .inl (cy 0, 1408, .inl vmsf_10)), (vo, .inr (12, [.int voth, .ref vmt, .int votp, .int vosz, .int volm, .int voto, .int vofr, .int vokd, .int vonu, .int vosg, .int vofa, .int vopl, .long vowd, .int votd, .ref vmn, .ref vmr, .ref vmk, .ref vms, .ref vma, .ref vmm, .ref vmrn, .ref vmkn, .ref vmik, .ref vmon, .int vosm_11, .int vohp, .ref vmw, .ref vmf, .ref vmb, .int vomb, .ref vmd, .ref vmc, .int vocm, .int voct, .int vocy, .ref vmx, .int votx, .int vose, .ref vml, .ref vmwr, .int voln, .int vohw, .ref vmno, .int vond, .int voon, .int vowi, .int votop])), (vmn, .inl (cy 0, 575, .inl vmnf_16)), (vma, .inl (cy 0, 176, .inl g_4))] := hD
          rw [hQ9]
          exact re_v (vmnf_16, vmsf_10, vosm_11, g_4) hx hb hr hlocks ⟨(show NW vnh vmnf_16 from q_17), (show 0 ≤ (vosm_11 : Int32).toInt ∧ (vosm_11 : Int32).toInt ≤ 8 from ⟨by omega, by omega⟩)⟩ (hP.sub [1, 2, 0, 3] rfl) (hD.sub [1, 2, 0, 3] rfl rfl) hS dX11_stay_62
        · skip
          have c_6 : vb.toInt = (0 : Int32).toInt := i_eq.mp c_6
          rw [hQ9]
          exact re_v (g_3, vmsf, vosm, g_4) hx hb hr hlocks ⟨(show NW vnh g_3 from p_g_3), (show 0 ≤ (vosm : Int32).toInt ∧ (vosm : Int32).toInt ≤ 8 from ⟨by omega, by omega⟩)⟩ (hP.sub [0, 1, 2, 3] rfl) (hD.sub [0, 1, 2, 3] rfl rfl) hS dX11_stay_53
      · skip
        have c_5 : ¬ ((176 : Int32).toInt ≤ x_2.toInt) := fun h9 => c_5 (i_le.mpr h9)
        refine lv_aload_n hx hb dX11_stay_9 rfl (lv_at hl 1 rfl) ?_
        refine gf_X11_98 hx hb hts hown hK hP 0 rfl rfl dX11_stay_10 ?_
        refine lv_sipush (v := 157) hx hb dX11_stay_13 (by decide) ?_
        refine lv_iload_n hx hb dX11_stay_16 rfl (lv_at hl 0 rfl) ?_
        refine lv_iadd hx hb dX11_stay_17 ?_
        refine lv_topi (fun z_18 ez_18 => ?_)
        have k_157 : (157 : Int32).toInt = 157 := by decide
        have bz_18 : z_18.toInt = (157 : Int32).toInt + x_2.toInt := i_add ez_18 (by omega) (by omega)
        have hin_19 : vp_in z_18 575 := vp_in_iff.mpr ⟨by omega, by omega⟩
        refine va_iald hx hb hK hP 1 0 rfl rfl hin_19 dX11_stay_18 ?_
        refine lv_topi (fun z_20 ez_20 => ?_)
        refine lv_istore_n (lv' := [(3, .int z_20), (2, .int x_2), (0, .ref vo), (1, .int vb)]) hx hb dX11_stay_19 rfl hl (by decide) rfl (fun ls hl => ?_)
        refine lv_aload_n hx hb dX11_stay_20 rfl (lv_at hl 2 rfl) ?_
        refine gf_X11_98 hx hb hts hown hK hP 0 rfl rfl dX11_stay_21 ?_
        refine lv_sipush (v := 157) hx hb dX11_stay_24 (by decide) ?_
        refine lv_iload_n hx hb dX11_stay_27 rfl (lv_at hl 1 rfl) ?_
        refine lv_iadd hx hb dX11_stay_28 ?_
        refine lv_topi (fun z_21 ez_21 => ?_)
        have bz_21 : z_21.toInt = (157 : Int32).toInt + x_2.toInt := i_add ez_21 (by omega) (by omega)
        refine lv_aload_n hx hb dX11_stay_29 rfl (lv_at hl 2 rfl) ?_
        refine gf_X11_110 hx hb hts hown hK hP 0 rfl rfl dX11_stay_30 ?_
        refine lv_iload_n hx hb dX11_stay_33 rfl (lv_at hl 1 rfl) ?_
        have hin_22 : vp_in x_2 176 := vp_in_iff.mpr ⟨by omega, by omega⟩
        refine va_iald hx hb hK hP 3 0 rfl rfl hin_22 dX11_stay_34 ?_
        refine lv_topi (fun z_23 ez_23 => ?_)
        have hin_24 : vp_in z_21 575 := vp_in_iff.mpr ⟨by omega, by omega⟩
        refine va_iast hx hb hK hP hD hS 1 0 rfl rfl hin_24 dX11_stay_35 (fun H locs hP hD hS => ?_)
        obtain ⟨f_25, ef_25⟩ : ∃ z : Nat → Int32, z = upd g_3 (Int32.toNatClampNeg z_21) z_23 := ⟨_, rfl⟩
        have hP : va_P (dC, dI) vwCl [(vo, .inr (12, [.int voth, .ref vmt, .int votp, .int vosz, .int volm, .int voto, .int vofr, .int vokd, .int vonu, .int vosg, .int vofa, .int vopl, .long vowd, .int votd, .ref vmn, .ref vmr, .ref vmk, .ref vms, .ref vma, .ref vmm, .ref vmrn, .ref vmkn, .ref vmik, .ref vmon, .int vosm, .int vohp, .ref vmw, .ref vmf, .ref vmb, .int vomb, .ref vmd, .ref vmc, .int vocm, .int voct, .int vocy, .ref vmx, .int votx, .int vose, .ref vml, .ref vmwr, .int voln, .int vohw, .ref vmno, .int vond, .int voon, .int vowi, .int votop])), (vmn, .inl (cy 0, 575, .inl f_25)), (vms, .inl (cy 0, 1408, .inl vmsf)), (vma, .inl (cy 0, 176, .inl g_4))] H := by rw [ef_25]; exact hP
        have hD : va_D A [(vo, .inr (12, [.int voth, .ref vmt, .int votp, .int vosz, .int volm, .int voto, .int vofr, .int vokd, .int vonu, .int vosg, .int vofa, .int vopl, .long vowd, .int votd, .ref vmn, .ref vmr, .ref vmk, .ref vms, .ref vma, .ref vmm, .ref vmrn, .ref vmkn, .ref vmik, .ref vmon, .int vosm, .int vohp, .ref vmw, .ref vmf, .ref vmb, .int vomb, .ref vmd, .ref vmc, .int vocm, .int voct, .int vocy, .ref vmx, .int votx, .int vose, .ref vml, .ref vmwr, .int voln, .int vohw, .ref vmno, .int vond, .int voon, .int vowi, .int votop])), (vmn, .inl (cy 0, 575, .inl f_25)), (vms, .inl (cy 0, 1408, .inl vmsf)), (vma, .inl (cy 0, 176, .inl g_4))] := by rw [ef_25]; exact hD
        have p_f_25 : NW vnh f_25 := by rw [ef_25]; exact p_g_3.upd ⟨by omega, by omega⟩
        refine lv_aload_n hx hb dX11_stay_36 rfl (lv_at hl 2 rfl) ?_
        refine gf_X11_110 hx hb hts hown hK hP 0 rfl rfl dX11_stay_37 ?_
        refine lv_iload_n hx hb dX11_stay_40 rfl (lv_at hl 1 rfl) ?_
        refine lv_iload_n hx hb dX11_stay_41 rfl (lv_at hl 0 rfl) ?_
        have hin_26 : vp_in x_2 176 := vp_in_iff.mpr ⟨by omega, by omega⟩
        refine va_iast hx hb hK hP hD hS 3 0 rfl rfl hin_26 dX11_stay_42 (fun H locs hP hD hS => ?_)
        obtain ⟨f_27, ef_27⟩ : ∃ z : Nat → Int32, z = upd g_4 (Int32.toNatClampNeg x_2) z_20 := ⟨_, rfl⟩
        have hP : va_P (dC, dI) vwCl [(vo, .inr (12, [.int voth, .ref vmt, .int votp, .int vosz, .int volm, .int voto, .int vofr, .int vokd, .int vonu, .int vosg, .int vofa, .int vopl, .long vowd, .int votd, .ref vmn, .ref vmr, .ref vmk, .ref vms, .ref vma, .ref vmm, .ref vmrn, .ref vmkn, .ref vmik, .ref vmon, .int vosm, .int vohp, .ref vmw, .ref vmf, .ref vmb, .int vomb, .ref vmd, .ref vmc, .int vocm, .int voct, .int vocy, .ref vmx, .int votx, .int vose, .ref vml, .ref vmwr, .int voln, .int vohw, .ref vmno, .int vond, .int voon, .int vowi, .int votop])), (vmn, .inl (cy 0, 575, .inl f_25)), (vms, .inl (cy 0, 1408, .inl vmsf)), (vma, .inl (cy 0, 176, .inl f_27))] H := by rw [ef_27]; exact hP
        have hD : va_D A [(vo, .inr (12, [.int voth, .ref vmt, .int votp, .int vosz, .int volm, .int voto, .int vofr, .int vokd, .int vonu, .int vosg, .int vofa, .int vopl, .long vowd, .int votd, .ref vmn, .ref vmr, .ref vmk, .ref vms, .ref vma, .ref vmm, .ref vmrn, .ref vmkn, .ref vmik, .ref vmon, .int vosm, .int vohp, .ref vmw, .ref vmf, .ref vmb, .int vomb, .ref vmd, .ref vmc, .int vocm, .int voct, .int vocy, .ref vmx, .int votx, .int vose, .ref vml, .ref vmwr, .int voln, .int vohw, .ref vmno, .int vond, .int voon, .int vowi, .int votop])), (vmn, .inl (cy 0, 575, .inl f_25)), (vms, .inl (cy 0, 1408, .inl vmsf)), (vma, .inl (cy 0, 176, .inl f_27))] := by rw [ef_27]; exact hD
        obtain ⟨z_28, ez_28⟩ : ∃ z : Int32, z = x_2 + 1 := ⟨_, rfl⟩
        have k_1 : (1 : Int32).toInt = 1 := by decide
        have bz_28 : z_28.toInt = x_2.toInt + (1 : Int32).toInt := i_add ez_28 (by omega) (by omega)
        refine lv_iinc (v := z_28) (lv' := [(2, .int z_28), (3, .int z_20), (0, .ref vo), (1, .int vb)]) hx hb dX11_stay_43 hl (k := 1) rfl ez_28.symm (by decide) rfl (fun ls hl => ?_)
        refine lv_goto (tgt := 2) hx hb dX11_stay_46 (by decide) ?_
        exact ih1 z_28 f_25 f_27 ⟨by omega, by omega⟩ p_f_25 (by omega) _ _ (hP.sub [0, 1, 2, 3] rfl) (hD.sub [0, 1, 2, 3] rfl rfl) hS ls (lv_sub hl [0, 2, 3] rfl)
  have k_0 : (0 : Int32).toInt = 0 := by decide
  exact loop1 ((176 - (0 : Int32).toInt).toNat + 1) 0 vmnf vmaf ⟨by omega, by omega⟩ p_vmnf (by omega) _ _ hP hD hS ls (lv_sub hl [0, 1, 2] rfl)
