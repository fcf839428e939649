abbrev cX11_refuse : ByteArray := prog_13_method_2_code
def yX11_refuse : MethodName := ⟨RX11, "refuse", "()I"⟩
theorem t1714 : Cond.code yX11_refuse cX11_refuse 1 (some .int) ∈ GW := gw_mem 1828 (by decide +kernel) (by decide +kernel)
abbrev O_m_refuse (cy : Nat → ClassId) (vo : Nat) (voth : Int32) (vmt : Nat) (votp : Int32) (vosz : Int32) (volm : Int32) (voto : Int32) (vofr : Int32) (vokd : Int32) (vonu : Int32) (vosg : Int32) (vofa : Int32) (vopl : Int32) (vowd : Int64) (votd : Int32) (vmn : Nat) (vmr : Nat) (vmk : Nat) (vms : Nat) (vma : Nat) (vmm : Nat) (vmrn : Nat) (vmkn : Nat) (vmik : Nat) (vmon : Nat) (vosm : Int32) (vohp : Int32) (vmw : Nat) (vmf : Nat) (vmb : Nat) (vomb : Int32) (vmd : Nat) (vmc : Nat) (vocm : Int32) (voct : Int32) (vocy : Int32) (vmx : Nat) (votx : Int32) (vose : Int32) (vml : Nat) (vmwr : Nat) (voln : Int32) (vohw : Int32) (vmno : Nat) (vond : Int32) (voon : Int32) (vowi : Int32) (votop : Int32) (u : Int32) : va_W := [(vo, .inr (12, [.int u, .ref vmt, .int votp, .int vosz, .int volm, .int voto, .int vofr, .int vokd, .int vonu, .int vosg, .int vofa, .int vopl, .long vowd, .int votd, .ref vmn, .ref vmr, .ref vmk, .ref vms, .ref vma, .ref vmm, .ref vmrn, .ref vmkn, .ref vmik, .ref vmon, .int vosm, .int vohp, .ref vmw, .ref vmf, .ref vmb, .int vomb, .ref vmd, .ref vmc, .int vocm, .int voct, .int vocy, .ref vmx, .int votx, .int vose, .ref vml, .ref vmwr, .int voln, .int vohw, .ref vmno, .int vond, .int voon, .int vowi, .int votop]))]
theorem dX11_refuse_0 : decode cX11_refuse 0 = .ok (.aload_n 0, 1) := by decide +kernel
theorem dX11_refuse_1 : decode cX11_refuse 1 = .ok (.iconst 1, 1) := by decide +kernel
theorem dX11_refuse_2 : decode cX11_refuse 2 = .ok (.putfield 1, 3) := by decide +kernel
theorem t1442 : Cond.fieldLink RX11 1 "LikenessPoundModel" "thrown" "I" ∈ GW := gw_mem 1556 (by decide +kernel) (by decide +kernel)
theorem pf_X11_1 {p : Program} {l : Launch} {e : Env} {R : Room} {s : State} {m : MethodId} {args : Array Value} {below : List Frame} {meth : Method} {c : Code} {H : Heap} {locs : List Loc} {cells slots : Nat} {Q : State → Prop} {cc : ByteArray} {pc : Nat} {ls : Array Slot} {rest : List Value} {D : va_G} {A : Nat → Prop} {a : Nat} {tys : List (ClassId × FieldType)} {ws : va_W} {H0 : Heap} (hx : p.tables.exec = Jvm.exec) (hb : c.code = cc) (hts : ∀ w ∈ GW, w.before args s = true) (hown : s.vm.findClass RX11 = some m.cls) (hK : va_K D vwCl tys s) (hP : va_P D vwCl ws H) (hD : va_D A ws) (hS0 : va_S A H0 H locs) (q0 : Nat) {fs : List Value} (he : ws[q0]? = some (a, .inr (12, fs))) {v : Value} (hn : narrow (tyX11 0) v = v) (hfit : fits (tyX11 0) v = true) (hl : 0 < fs.length) (hdg : decode cc pc = .ok (.putfield 1, 3)) (kk : ∀ (H1 : Heap) (locs1 : List Loc), va_P D vwCl (ws.set q0 (a, .inr (12, fs.set 0 v))) H1 → va_D A (ws.set q0 (a, .inr (12, fs.set 0 v))) → va_S A H0 H1 locs1 → W p l e R s m args below meth c H1 locs1 cells slots Q (F0 m (pc + 3) ls rest)) : W p l e R s m args below meth c H locs cells slots Q (F0 m pc ls (v :: .ref a :: rest)) := va_put (C := RX11) (T := TX11) (N := 47) (ci := 12) hx hb hts inX11 tyX11 tkX11 nmX11 hown hK hP hD hS0 q0 he rfl 0 (by decide) (hts _ t1442) (fun _ h => h) rfl (tkX11 0 (by decide)) hn hfit hl hdg kk
theorem dX11_refuse_5 : decode cX11_refuse 5 = .ok (.iconst 0, 1) := by decide +kernel
theorem dX11_refuse_6 : decode cX11_refuse 6 = .ok (.ireturn, 1) := by decide +kernel
set_option maxHeartbeats 4000000 in
set_option maxRecDepth 100000 in
theorem m_refuse (l : Launch) (dC : Nat → ClassId) (dI : Nat → Nat → Nat) (cy : Nat → ClassId) (sz : Nat) (vo : Nat) (voth : Int32) (vmt : Nat) (votp : Int32) (vosz : Int32) (volm : Int32) (voto : Int32) (vofr : Int32) (vokd : Int32) (vonu : Int32) (vosg : Int32) (vofa : Int32) (vopl : Int32) (vowd : Int64) (votd : Int32) (vmn : Nat) (vmr : Nat) (vmk : Nat) (vms : Nat) (vma : Nat) (vmm : Nat) (vmrn : Nat) (vmkn : Nat) (vmik : Nat) (vmon : Nat) (vosm : Int32) (vohp : Int32) (vmw : Nat) (vmf : Nat) (vmb : Nat) (vomb : Int32) (vmd : Nat) (vmc : Nat) (vocm : Int32) (voct : Int32) (vocy : Int32) (vmx : Nat) (votx : Int32) (vose : Int32) (vml : Nat) (vmwr : Nat) (voln : Int32) (vohw : Int32) (vmno : Nat) (vond : Int32) (voon : Int32) (vowi : Int32) (votop : Int32)  : Met l yX11_refuse (wl yX11_refuse cX11_refuse 1 (some .int)) ({ frames := 0, cells := 0, slots := 0, locals := 0 }) (Pw (dC, dI) vwCl cy [(vo, .inr (12, [.int voth, .ref vmt, .int votp, .int vosz, .int volm, .int voto, .int vofr, .int vokd, .int vonu, .int vosg, .int vofa, .int vopl, .long vowd, .int votd, .ref vmn, .ref vmr, .ref vmk, .ref vms, .ref vma, .ref vmm, .ref vmrn, .ref vmkn, .ref vmik, .ref vmon, .int vosm, .int vohp, .ref vmw, .ref vmf, .ref vmb, .int vomb, .ref vmd, .ref vmc, .int vocm, .int voct, .int vocy, .ref vmx, .int votx, .int vose, .ref vml, .ref vmwr, .int voln, .int vohw, .ref vmno, .int vond, .int voon, .int vowi, .int votop]))] sz [.ref vo] nE) (Qi (dC, dI) vwCl (fun (r : Int32) (u : Int32) => True) (O_m_refuse cy vo voth vmt votp vosz volm voto vofr vokd vonu vosg vofa vopl vowd votd vmn vmr vmk vms vma vmm vmrn vmkn vmik vmon vosm vohp vmw vmf vmb vomb vmd vmc vocm voct vocy vmx votx vose vml vmwr voln vohw vmno vond voon vowi votop) (va_A [(vo, .inr (12, [.int voth, .ref vmt, .int votp, .int vosz, .int volm, .int voto, .int vofr, .int vokd, .int vonu, .int vosg, .int vofa, .int vopl, .long vowd, .int votd, .ref vmn, .ref vmr, .ref vmk, .ref vms, .ref vma, .ref vmm, .ref vmrn, .ref vmkn, .ref vmik, .ref vmon, .int vosm, .int vohp, .ref vmw, .ref vmf, .ref vmb, .int vomb, .ref vmd, .ref vmc, .int vocm, .int voct, .int vocy, .ref vmx, .int votx, .int vose, .ref vml, .ref vmwr, .int voln, .int vohw, .ref vmno, .int vond, .int voon, .int vowi, .int votop]))] sz)) 0 0 (va_A [(vo, .inr (12, [.int voth, .ref vmt, .int votp, .int vosz, .int volm, .int voto, .int vofr, .int vokd, .int vonu, .int vosg, .int vofa, .int vopl, .long vowd, .int votd, .ref vmn, .ref vmr, .ref vmk, .ref vms, .ref vma, .ref vmm, .ref vmrn, .ref vmkn, .ref vmik, .ref vmon, .int vosm, .int vohp, .ref vmw, .ref vmf, .ref vmb, .int vomb, .ref vmd, .ref vmc, .int vocm, .int voct, .int vocy, .ref vmx, .int votx, .int vose, .ref vml, .ref vmwr, .int voln, .int vohw, .ref vmno, .int vond, .int voon, .int vowi, .int votop]))] sz) := by
  refine mw (Qc := Qi (dC, dI) vwCl (fun (r : Int32) (u : Int32) => True) (O_m_refuse cy vo voth vmt votp vosz volm voto vofr vokd vonu vosg vofa vopl vowd votd vmn vmr vmk vms vma vmm vmrn vmkn vmik vmon vosm vohp vmw vmf vmb vomb vmd vmc vocm voct vocy vmx votx vose vml vmwr voln vohw vmno vond voon vowi votop)) RX11 rfl (by decide +kernel) (Nat.le_of_ble_eq_true rfl) ?_
  intro p e s m below meth c A hx hb hr hlocks av9 hav hts hown hnm hml hK hP hD hA hS hE hAe Q9 hQ9 ls hl
  have hl : lv_has ls 1 [(0, .ref vo)] := hl
  refine lv_aload_n hx hb dX11_refuse_0 rfl (lv_at hl 0 rfl) ?_
  refine lv_iconst (v := 1) hx hb dX11_refuse_1 (by decide) ?_
  refine pf_X11_1 hx hb hts hown hK hP hD hS 0 rfl rfl rfl (Nat.le_of_ble_eq_true rfl) dX11_refuse_2 (fun H locs hP hD hS => ?_)
  have hP : va_P (dC, dI) vwCl [(vo, .inr (12, [.int 1, .ref vmt, .int votp, .int vosz, .int volm, .int voto, .int vofr, .int vokd, .int vonu, .int vosg, .int vofa, .int vopl, .long vowd, .int votd, .ref vmn, .ref vmr, .ref vmk, .ref vms, .ref vma, .ref vmm, .ref vmrn, .ref vmkn, .ref vmik, .ref vmon, .int vosm, .int vohp, .ref vmw, .ref vmf, .ref vmb, .int vomb, .ref vmd, .ref vmc, .int vocm, .int voct, .int vocy, .ref vmx, .int votx, .int vose, .ref vml, .ref vmwr, .int voln, .int vohw, .ref vmno, .int vond, .int voon, .int vowi, .int votop]))] H := hP
  have hD : va_D A [(vo, .inr (12, [.int 1, .ref vmt, .int votp, .int vosz, .int volm, .int voto, .int vofr, .int vokd, .int vonu, .int vosg, .int vofa, .int vopl, .long vowd, .int votd, .ref vmn, .ref vmr, .ref vmk, .ref vms, .ref vma, .ref vmm, .ref vmrn, .ref vmkn, .ref vmik, .ref vmon, .int vosm, .int vohp, .ref vmw, .ref vmf, .ref vmb, .int vomb, .ref vmd, .ref vmc, .int vocm, .int voct, .int vocy, .ref vmx, .int votx, .int vose, .ref vml, .ref vmwr, .int voln, .int vohw, .ref vmno, .int vond, .int voon, .int vowi, .int votop]))] := hD
  refine lv_iconst (v := 0) hx hb dX11_refuse_5 (by decide) ?_
  have k_1 : (1 : Int32).toInt = 1 := by decide
  have k_0 : (0 : Int32).toInt = 0 := by decide
  rw [hQ9]
  exact re_i (1 : Int32) hx hb hr hlocks trivial (hP.sub [0] rfl) (hD.sub [0] rfl rfl) hS dX11_refuse_6
abbrev cX11_come : ByteArray := prog_13_method_3_code
def yX11_come : MethodName := ⟨RX11, "come", "(I)V"⟩
theorem t1428 : Cond.code yX11_come cX11_come 3 none ∈ GW := gw_mem 1542 (by decide +kernel) (by decide +kernel)
theorem dX11_come_0 : decode cX11_come 0 = .ok (.bipush 24, 2) := by decide +kernel
theorem dX11_come_2 : decode cX11_come 2 = .ok (.istore_n 2, 1) := by decide +kernel
theorem dX11_come_3 : decode cX11_come 3 = .ok (.iload_n 2, 1) := by decide +kernel
theorem dX11_come_4 : decode cX11_come 4 = .ok (.ifCond .lt 35, 3) := by decide +kernel
theorem dX11_come_39 : decode cX11_come 39 = .ok (.return_, 1) := by decide +kernel
theorem dX11_come_7 : decode cX11_come 7 = .ok (.aload_n 0, 1) := by decide +kernel
theorem dX11_come_8 : decode cX11_come 8 = .ok (.getfield 7, 3) := by decide +kernel
theorem t1443 : Cond.fieldLink RX11 7 "LikenessPoundModel" "tape" "[I" ∈ GW := gw_mem 1557 (by decide +kernel) (by decide +kernel)
theorem gf_X11_7 {p : Program} {l : Launch} {e : Env} {R : Room} {s : State} {m : MethodId} {args : Array Value} {below : List Frame} {meth : Method} {c : Code} {H : Heap} {locs : List Loc} {cells slots : Nat} {Q : State → Prop} {cc : ByteArray} {pc : Nat} {ls : Array Slot} {rest : List Value} {D : va_G} {a : Nat} {tys : List (ClassId × FieldType)} {ws : va_W} (hx : p.tables.exec = Jvm.exec) (hb : c.code = cc) (hts : ∀ w ∈ GW, w.before args s = true) (hown : s.vm.findClass RX11 = some m.cls) (hK : va_K D vwCl tys s) (hP : va_P D vwCl ws H) (q0 : Nat) {fs : List Value} (he : ws[q0]? = some (a, .inr (12, fs))) {v : Value} (hv : fs[1]? = some v) (hdg : decode cc pc = .ok (.getfield 7, 3)) (kk : W p l e R s m args below meth c H locs cells slots Q (F0 m (pc + 3) ls (v :: rest))) : W p l e R s m args below meth c H locs cells slots Q (F0 m pc ls (.ref a :: rest)) := va_get (C := RX11) (T := TX11) (N := 47) (ci := 12) hx hb hts inX11 hown hK hP q0 he rfl 1 (by decide) (hts _ t1443) (fun _ h => h) hv hdg kk
theorem dX11_come_11 : decode cX11_come 11 = .ok (.aload_n 0, 1) := by decide +kernel
theorem dX11_come_12 : decode cX11_come 12 = .ok (.getfield 11, 3) := by decide +kernel
theorem t1444 : Cond.fieldLink RX11 11 "LikenessPoundModel" "taped" "I" ∈ GW := gw_mem 1558 (by decide +kernel) (by decide +kernel)
theorem gf_X11_11 {p : Program} {l : Launch} {e : Env} {R : Room} {s : State} {m : MethodId} {args : Array Value} {below : List Frame} {meth : Method} {c : Code} {H : Heap} {locs : List Loc} {cells slots : Nat} {Q : State → Prop} {cc : ByteArray} {pc : Nat} {ls : Array Slot} {rest : List Value} {D : va_G} {a : Nat} {tys : List (ClassId × FieldType)} {ws : va_W} (hx : p.tables.exec = Jvm.exec) (hb : c.code = cc) (hts : ∀ w ∈ GW, w.before args s = true) (hown : s.vm.findClass RX11 = some m.cls) (hK : va_K D vwCl tys s) (hP : va_P D vwCl ws H) (q0 : Nat) {fs : List Value} (he : ws[q0]? = some (a, .inr (12, fs))) {v : Value} (hv : fs[2]? = some v) (hdg : decode cc pc = .ok (.getfield 11, 3)) (kk : W p l e R s m args below meth c H locs cells slots Q (F0 m (pc + 3) ls (v :: rest))) : W p l e R s m args below meth c H locs cells slots Q (F0 m pc ls (.ref a :: rest)) := va_get (C := RX11) (T := TX11) (N := 47) (ci := 12) hx hb hts inX11 hown hK hP q0 he rfl 2 (by decide) (hts _ t1444) (fun _ h => h) hv hdg kk
theorem dX11_come_15 : decode cX11_come 15 = .ok (.iload_n 1, 1) := by decide +kernel
theorem dX11_come_16 : decode cX11_come 16 = .ok (.iload_n 2, 1) := by decide +kernel
theorem dX11_come_17 : decode cX11_come 17 = .ok (.iushr, 1) := by decide +kernel
theorem dX11_come_18 : decode cX11_come 18 = .ok (.sipush 255, 3) := by decide +kernel
theorem dX11_come_21 : decode cX11_come 21 = .ok (.iand, 1) := by decide +kernel
theorem dX11_come_22 : decode cX11_come 22 = .ok (.iastore, 1) := by decide +kernel
theorem dX11_come_23 : decode cX11_come 23 = .ok (.aload_n 0, 1) := by decide +kernel
theorem dX11_come_24 : decode cX11_come 24 = .ok (.dup, 1) := by decide +kernel
theorem dX11_come_25 : decode cX11_come 25 = .ok (.getfield 11, 3) := by decide +kernel
theorem dX11_come_28 : decode cX11_come 28 = .ok (.iconst 1, 1) := by decide +kernel
theorem dX11_come_29 : decode cX11_come 29 = .ok (.iadd, 1) := by decide +kernel
theorem dX11_come_30 : decode cX11_come 30 = .ok (.putfield 11, 3) := by decide +kernel
theorem pf_X11_11 {p : Program} {l : Launch} {e : Env} {R : Room} {s : State} {m : MethodId} {args : Array Value} {below : List Frame} {meth : Method} {c : Code} {H : Heap} {locs : List Loc} {cells slots : Nat} {Q : State → Prop} {cc : ByteArray} {pc : Nat} {ls : Array Slot} {rest : List Value} {D : va_G} {A : Nat → Prop} {a : Nat} {tys : List (ClassId × FieldType)} {ws : va_W} {H0 : Heap} (hx : p.tables.exec = Jvm.exec) (hb : c.code = cc) (hts : ∀ w ∈ GW, w.before args s = true) (hown : s.vm.findClass RX11 = some m.cls) (hK : va_K D vwCl tys s) (hP : va_P D vwCl ws H) (hD : va_D A ws) (hS0 : va_S A H0 H locs) (q0 : Nat) {fs : List Value} (he : ws[q0]? = some (a, .inr (12, fs))) {v : Value} (hn : narrow (tyX11 2) v = v) (hfit : fits (tyX11 2) v = true) (hl : 2 < fs.length) (hdg : decode cc pc = .ok (.putfield 11, 3)) (kk : ∀ (H1 : Heap) (locs1 : List Loc), va_P D vwCl (ws.set q0 (a, .inr (12, fs.set 2 v))) H1 → va_D A (ws.set q0 (a, .inr (12, fs.set 2 v))) → va_S A H0 H1 locs1 → W p l e R s m args below meth c H1 locs1 cells slots Q (F0 m (pc + 3) ls rest)) : W p l e R s m args below meth c H locs cells slots Q (F0 m pc ls (v :: .ref a :: rest)) := va_put (C := RX11) (T := TX11) (N := 47) (ci := 12) hx hb hts inX11 tyX11 tkX11 nmX11 hown hK hP hD hS0 q0 he rfl 2 (by decide) (hts _ t1444) (fun _ h => h) rfl (tkX11 2 (by decide)) hn hfit hl hdg kk
theorem dX11_come_33 : decode cX11_come 33 = .ok (.iinc 2 (-8), 3) := by decide +kernel
theorem dX11_come_36 : decode cX11_come 36 = .ok (.goto (-33), 3) := by decide +kernel
abbrev cX11_feed : ByteArray := prog_13_method_4_code
def yX11_feed : MethodName := ⟨RX11, "feed", "(IIIII)I"⟩
theorem t1423 : Cond.code yX11_feed cX11_feed 6 (some .int) ∈ GW := gw_mem 1537 (by decide +kernel) (by decide +kernel)
theorem dX11_feed_0 : decode cX11_feed 0 = .ok (.aload_n 0, 1) := by decide +kernel
theorem dX11_feed_1 : decode cX11_feed 1 = .ok (.iconst 0, 1) := by decide +kernel
theorem dX11_feed_2 : decode cX11_feed 2 = .ok (.putfield 1, 3) := by decide +kernel
theorem dX11_feed_5 : decode cX11_feed 5 = .ok (.aload_n 0, 1) := by decide +kernel
theorem dX11_feed_6 : decode cX11_feed 6 = .ok (.getfield 11, 3) := by decide +kernel
theorem dX11_feed_9 : decode cX11_feed 9 = .ok (.bipush 20, 2) := by decide +kernel
theorem dX11_feed_11 : decode cX11_feed 11 = .ok (.iadd, 1) := by decide +kernel
theorem dX11_feed_12 : decode cX11_feed 12 = .ok (.sipush 940, 3) := by decide +kernel
theorem dX11_feed_15 : decode cX11_feed 15 = .ok (.if_icmp .le 5, 3) := by decide +kernel
theorem dX11_feed_20 : decode cX11_feed 20 = .ok (.aload_n 0, 1) := by decide +kernel
theorem dX11_feed_21 : decode cX11_feed 21 = .ok (.iload_n 1, 1) := by decide +kernel
theorem dX11_feed_22 : decode cX11_feed 22 = .ok (.invokevirtual 14, 3) := by decide +kernel
theorem t1424 : Cond.methodLink RX11 14 yX11_come ∈ GW := gw_mem 1538 (by decide +kernel) (by decide +kernel)
theorem t18 : Cond.initialized RX11 ∈ GW := gw_mem 132 (by decide +kernel) (by decide +kernel)
theorem t1426 : Cond.instanceMethod yX11_come ∈ GW := gw_mem 1540 (by decide +kernel) (by decide +kernel)
theorem s38 : Cond.selects RX11 yX11_come yX11_come ∈ GW := gw_mem 38 (by decide +kernel) (by decide +kernel)
theorem cw_X11_14 {R : Room} {s : State} {args : Array Value} {rm : Room} {mc ms : Nat} (hts : ∀ w ∈ GW, w.before args s = true) (hrc : rm.cells = mc) (hrs : rm.slots = ms) (hR : rm.frames + 1 ≤ R.frames ∧ 8 + (3 + 11) + rm.locals ≤ R.locals) : CallW R s args RX11 RX11 14 yX11_come cX11_come 3 none (wl yX11_come cX11_come 3 none) rm mc ms 1 := cwV 1 hts (gi_V t1424 t1426 s38 t18 t1428) rfl hrc hrs (by decide +kernel) hR
theorem dX11_feed_25 : decode cX11_feed 25 = .ok (.aload_n 0, 1) := by decide +kernel
theorem dX11_feed_26 : decode cX11_feed 26 = .ok (.iload_n 2, 1) := by decide +kernel
theorem dX11_feed_27 : decode cX11_feed 27 = .ok (.invokevirtual 14, 3) := by decide +kernel
theorem dX11_feed_30 : decode cX11_feed 30 = .ok (.aload_n 0, 1) := by decide +kernel
theorem dX11_feed_31 : decode cX11_feed 31 = .ok (.iload_n 3, 1) := by decide +kernel
theorem dX11_feed_32 : decode cX11_feed 32 = .ok (.invokevirtual 14, 3) := by decide +kernel
theorem dX11_feed_35 : decode cX11_feed 35 = .ok (.aload_n 0, 1) := by decide +kernel
theorem dX11_feed_36 : decode cX11_feed 36 = .ok (.iload 4, 2) := by decide +kernel
theorem dX11_feed_38 : decode cX11_feed 38 = .ok (.invokevirtual 14, 3) := by decide +kernel
theorem dX11_feed_41 : decode cX11_feed 41 = .ok (.aload_n 0, 1) := by decide +kernel
theorem dX11_feed_42 : decode cX11_feed 42 = .ok (.iload 5, 2) := by decide +kernel
theorem dX11_feed_44 : decode cX11_feed 44 = .ok (.invokevirtual 14, 3) := by decide +kernel
theorem dX11_feed_47 : decode cX11_feed 47 = .ok (.aload_n 0, 1) := by decide +kernel
theorem dX11_feed_48 : decode cX11_feed 48 = .ok (.getfield 11, 3) := by decide +kernel
theorem dX11_feed_51 : decode cX11_feed 51 = .ok (.ireturn, 1) := by decide +kernel
theorem dX11_feed_18 : decode cX11_feed 18 = .ok (.iconst (-1), 1) := by decide +kernel
theorem dX11_feed_19 : decode cX11_feed 19 = .ok (.ireturn, 1) := by decide +kernel
abbrev cX11_end : ByteArray := prog_13_method_5_code
def yX11_end : MethodName := ⟨RX11, "end", "(I)Z"⟩
theorem t1432 : Cond.code yX11_end cX11_end 2 (some .boolean) ∈ GW := gw_mem 1546 (by decide +kernel) (by decide +kernel)
abbrev O_m_end (cy : Nat → ClassId) (vo : Nat) (voth : Int32) (vmt : Nat) (votp : Int32) (vosz : Int32) (volm : Int32) (voto : Int32) (vofr : Int32) (vokd : Int32) (vonu : Int32) (vosg : Int32) (vofa : Int32) (vopl : Int32) (vowd : Int64) (votd : Int32) (vmn : Nat) (vmr : Nat) (vmk : Nat) (vms : Nat) (vma : Nat) (vmm : Nat) (vmrn : Nat) (vmkn : Nat) (vmik : Nat) (vmon : Nat) (vosm : Int32) (vohp : Int32) (vmw : Nat) (vmf : Nat) (vmb : Nat) (vomb : Int32) (vmd : Nat) (vmc : Nat) (vocm : Int32) (voct : Int32) (vocy : Int32) (vmx : Nat) (votx : Int32) (vose : Int32) (vml : Nat) (vmwr : Nat) (voln : Int32) (vohw : Int32) (vmno : Nat) (vond : Int32) (voon : Int32) (vowi : Int32) (votop : Int32) (vn : Int32) (u : Int32 × Int32) : va_W := [(vo, .inr (12, [.int u.1, .ref vmt, .int u.2, .int vosz, .int volm, .int voto, .int vofr, .int vokd, .int vonu, .int vosg, .int vofa, .int vopl, .long vowd, .int votd, .ref vmn, .ref vmr, .ref vmk, .ref vms, .ref vma, .ref vmm, .ref vmrn, .ref vmkn, .ref vmik, .ref vmon, .int vosm, .int vohp, .ref vmw, .ref vmf, .ref vmb, .int vomb, .ref vmd, .ref vmc, .int vocm, .int voct, .int vocy, .ref vmx, .int votx, .int vose, .ref vml, .ref vmwr, .int voln, .int vohw, .ref vmno, .int vond, .int voon, .int vowi, .int votop]))]
theorem dX11_end_0 : decode cX11_end 0 = .ok (.aload_n 0, 1) := by decide +kernel
theorem dX11_end_1 : decode cX11_end 1 = .ok (.iconst 0, 1) := by decide +kernel
theorem dX11_end_2 : decode cX11_end 2 = .ok (.putfield 1, 3) := by decide +kernel
theorem dX11_end_5 : decode cX11_end 5 = .ok (.iload_n 1, 1) := by decide +kernel
theorem dX11_end_6 : decode cX11_end 6 = .ok (.ifCond .lt 11, 3) := by decide +kernel
theorem dX11_end_17 : decode cX11_end 17 = .ok (.iconst 0, 1) := by decide +kernel
theorem dX11_end_18 : decode cX11_end 18 = .ok (.ireturn, 1) := by decide +kernel
theorem dX11_end_9 : decode cX11_end 9 = .ok (.iload_n 1, 1) := by decide +kernel
theorem dX11_end_10 : decode cX11_end 10 = .ok (.aload_n 0, 1) := by decide +kernel
theorem dX11_end_11 : decode cX11_end 11 = .ok (.getfield 11, 3) := by decide +kernel
theorem dX11_end_14 : decode cX11_end 14 = .ok (.if_icmp .le 5, 3) := by decide +kernel
theorem dX11_end_19 : decode cX11_end 19 = .ok (.aload_n 0, 1) := by decide +kernel
theorem dX11_end_20 : decode cX11_end 20 = .ok (.iload_n 1, 1) := by decide +kernel
theorem dX11_end_21 : decode cX11_end 21 = .ok (.putfield 11, 3) := by decide +kernel
theorem dX11_end_24 : decode cX11_end 24 = .ok (.iconst 1, 1) := by decide +kernel
theorem dX11_end_25 : decode cX11_end 25 = .ok (.ireturn, 1) := by decide +kernel
set_option maxHeartbeats 4000000 in
set_option maxRecDepth 100000 in
theorem m_end (l : Launch) (dC : Nat → ClassId) (dI : Nat → Nat → Nat) (cy : Nat → ClassId) (sz : Nat) (vo : Nat) (voth : Int32) (vmt : Nat) (votp : Int32) (vosz : Int32) (volm : Int32) (voto : Int32) (vofr : Int32) (vokd : Int32) (vonu : Int32) (vosg : Int32) (vofa : Int32) (vopl : Int32) (vowd : Int64) (votd : Int32) (vmn : Nat) (vmr : Nat) (vmk : Nat) (vms : Nat) (vma : Nat) (vmm : Nat) (vmrn : Nat) (vmkn : Nat) (vmik : Nat) (vmon : Nat) (vosm : Int32) (vohp : Int32) (vmw : Nat) (vmf : Nat) (vmb : Nat) (vomb : Int32) (vmd : Nat) (vmc : Nat) (vocm : Int32) (voct : Int32) (vocy : Int32) (vmx : Nat) (votx : Int32) (vose : Int32) (vml : Nat) (vmwr : Nat) (voln : Int32) (vohw : Int32) (vmno : Nat) (vond : Int32) (voon : Int32) (vowi : Int32) (votop : Int32) (vn : Int32) (r_votp : 0 ≤ (votp : Int32).toInt ∧ (votp : Int32).toInt ≤ 940) : Met l yX11_end (wl yX11_end cX11_end 2 (some .boolean)) ({ frames := 0, cells := 0, slots := 0, locals := 0 }) (Pw (dC, dI) vwCl cy [(vo, .inr (12, [.int voth, .ref vmt, .int votp, .int vosz, .int volm, .int voto, .int vofr, .int vokd, .int vonu, .int vosg, .int vofa, .int vopl, .long vowd, .int votd, .ref vmn, .ref vmr, .ref vmk, .ref vms, .ref vma, .ref vmm, .ref vmrn, .ref vmkn, .ref vmik, .ref vmon, .int vosm, .int vohp, .ref vmw, .ref vmf, .ref vmb, .int vomb, .ref vmd, .ref vmc, .int vocm, .int voct, .int vocy, .ref vmx, .int votx, .int vose, .ref vml, .ref vmwr, .int voln, .int vohw, .ref vmno, .int vond, .int voon, .int vowi, .int votop]))] sz [.ref vo, .int vn] nE) (Qi (dC, dI) vwCl (fun (r : Int32) (u : Int32 × Int32) => ((r = 0 ∧ ((vn : Int32).toInt < 0 ∨ (votp : Int32).toInt < (vn : Int32).toInt) ∧ (u.2 : Int32).toInt = (votp : Int32).toInt) ∨ (r = 1 ∧ 0 ≤ (vn : Int32).toInt ∧ (vn : Int32).toInt ≤ (votp : Int32).toInt ∧ (u.2 : Int32).toInt = (vn : Int32).toInt)) ∧ (0 ≤ (u.2 : Int32).toInt ∧ (u.2 : Int32).toInt ≤ 940)) (O_m_end cy vo voth vmt votp vosz volm voto vofr vokd vonu vosg vofa vopl vowd votd vmn vmr vmk vms vma vmm vmrn vmkn vmik vmon vosm vohp vmw vmf vmb vomb vmd vmc vocm voct vocy vmx votx vose vml vmwr voln vohw vmno vond voon vowi votop vn) (va_A [(vo, .inr (12, [.int voth, .ref vmt, .int votp, .int vosz, .int volm, .int voto, .int vofr, .int vokd, .int vonu, .int vosg, .int vofa, .int vopl, .long vowd, .int votd, .ref vmn, .ref vmr, .ref vmk, .ref vms, .ref vma, .ref vmm, .ref vmrn, .ref vmkn, .ref vmik, .ref vmon, .int vosm, .int vohp, .ref vmw, .ref vmf, .ref vmb, .int vomb, .ref vmd, .ref vmc, .int vocm, .int voct, .int vocy, .ref vmx, .int votx, .int vose, .ref vml, .ref vmwr, .int voln, .int vohw, .ref vmno, .int vond, .int voon, .int vowi, .int votop]))] sz)) 0 0 (va_A [(vo, .inr (12, [.int voth, .ref vmt, .int votp, .int vosz, .int volm, .int voto, .int vofr, .int vokd, .int vonu, .int vosg, .int vofa, .int vopl, .long vowd, .int votd, .ref vmn, .ref vmr, .ref vmk, .ref vms, .ref vma, .ref vmm, .ref vmrn, .ref vmkn, .ref vmik, .ref vmon, .int vosm, .int vohp, .ref vmw, .ref vmf, .ref vmb, .int vomb, .ref vmd, .ref vmc, .int vocm, .int voct, .int vocy, .ref vmx, .int votx, .int vose, .ref vml, .ref vmwr, .int voln, .int vohw, .ref vmno, .int vond, .int voon, .int vowi, .int votop]))] sz) := by
  refine mw (Qc := Qi (dC, dI) vwCl (fun (r : Int32) (u : Int32 × Int32) => ((r = 0 ∧ ((vn : Int32).toInt < 0 ∨ (votp : Int32).toInt < (vn : Int32).toInt) ∧ (u.2 : Int32).toInt = (votp : Int32).toInt) ∨ (r = 1 ∧ 0 ≤ (vn : Int32).toInt ∧ (vn : Int32).toInt ≤ (votp : Int32).toInt ∧ (u.2 : Int32).toInt = (vn : Int32).toInt)) ∧ (0 ≤ (u.2 : Int32).toInt ∧ (u.2 : Int32).toInt ≤ 940)) (O_m_end cy vo voth vmt votp vosz volm voto vofr vokd vonu vosg vofa vopl vowd votd vmn vmr vmk vms vma vmm vmrn vmkn vmik vmon vosm vohp vmw vmf vmb vomb vmd vmc vocm voct vocy vmx votx vose vml vmwr voln vohw vmno vond voon vowi votop vn)) RX11 rfl (by decide +kernel) (Nat.le_of_ble_eq_true rfl) ?_
  intro p e s m below meth c A hx hb hr hlocks av9 hav hts hown hnm hml hK hP hD hA hS hE hAe Q9 hQ9 ls hl
  have hl : lv_has ls 2 [(0, .ref vo), (1, .int vn)] := hl
  refine lv_aload_n hx hb dX11_end_0 rfl (lv_at hl 0 rfl) ?_
  refine lv_iconst (v := 0) hx hb dX11_end_1 (by decide) ?_
  refine pf_X11_1 hx hb hts hown hK hP hD hS 0 rfl rfl rfl (Nat.le_of_ble_eq_true rfl) dX11_end_2 (fun H locs hP hD hS => ?_)
  have hP : va_P (dC, dI) vwCl [(vo, .inr (12, [.int 0, .ref vmt, .int votp, .int vosz, .int volm, .int voto, .int vofr, .int vokd, .int vonu, .int vosg, .int vofa, .int vopl, .long vowd, .int votd, .ref vmn, .ref vmr, .ref vmk, .ref vms, .ref vma, .ref vmm, .ref vmrn, .ref vmkn, .ref vmik, .ref vmon, .int vosm, .int vohp, .ref vmw, .ref vmf, .ref vmb, .int vomb, .ref vmd, .ref vmc, .int vocm, .int voct, .int vocy, .ref vmx, .int votx, .int vose, .ref vml, .ref vmwr, .int voln, .int vohw, .ref vmno, .int vond, .int voon, .int vowi, .int votop]))] H := hP
  have hD : va_D A [(vo, .inr (12, [.int 0, .ref vmt, .int votp, .int vosz, .int volm, .int voto, .int vofr, .int vokd, .int vonu, .int vosg, .int vofa, .int vopl, .long vowd, .int votd, .ref vmn, .ref vmr, .ref vmk, .ref vms, .ref vma, .ref vmm, .ref vmrn, .ref vmkn, .ref vmik, .ref vmon, .int vosm, .int vohp, .ref vmw, .ref vmf, .ref vmb, .int vomb, .ref vmd, .ref vmc, .int vocm, .int voct, .int vocy, .ref vmx, .int votx, .int vose, .ref vml, .ref vmwr, .int voln, .int vohw, .ref vmno, .int vond, .int voon, .int vowi, .int votop]))] := hD
  refine lv_iload_n hx hb dX11_end_5 rfl (lv_at hl 1 rfl) ?_
  have k_0 : (0 : Int32).toInt = 0 := by decide
  refine lv_if_lt (tgt := 17) hx hb dX11_end_6 (by decide) (fun c_1 => ?_) (fun c_1 => ?_)
  · skip
    have c_1 : vn.toInt < (0 : Int32).toInt := i_lt.mp c_1
    refine lv_iconst (v := 0) hx hb dX11_end_17 (by decide) ?_
    rw [hQ9]
    exact re_z ((0 : Int32), votp) hx hb hr hlocks (Or.inl rfl) ⟨(show ((0 : Int32) = 0 ∧ ((vn : Int32).toInt < 0 ∨ (votp : Int32).toInt < (vn : Int32).toInt) ∧ (votp : Int32).toInt = (votp : Int32).toInt) ∨ ((0 : Int32) = 1 ∧ 0 ≤ (vn : Int32).toInt ∧ (vn : Int32).toInt ≤ (votp : Int32).toInt ∧ (votp : Int32).toInt = (vn : Int32).toInt) from (Or.inl ⟨rfl, by omega, by omega⟩)), (show 0 ≤ (votp : Int32).toInt ∧ (votp : Int32).toInt ≤ 940 from ⟨by omega, by omega⟩)⟩ (hP.sub [0] rfl) (hD.sub [0] rfl rfl) hS dX11_end_18
  · skip
    have c_1 : ¬ (vn.toInt < (0 : Int32).toInt) := fun h9 => c_1 (i_lt.mpr h9)
    refine lv_iload_n hx hb dX11_end_9 rfl (lv_at hl 1 rfl) ?_
    refine lv_aload_n hx hb dX11_end_10 rfl (lv_at hl 0 rfl) ?_
    refine gf_X11_11 hx hb hts hown hK hP 0 rfl rfl dX11_end_11 ?_
    refine lv_icmp_le (tgt := 19) hx hb dX11_end_14 (by decide) (fun c_2 => ?_) (fun c_2 => ?_)
    · skip
      have c_2 : vn.toInt ≤ votp.toInt := i_le.mp c_2
      refine lv_aload_n hx hb dX11_end_19 rfl (lv_at hl 0 rfl) ?_
      refine lv_iload_n hx hb dX11_end_20 rfl (lv_at hl 1 rfl) ?_
      refine pf_X11_11 hx hb hts hown hK hP hD hS 0 rfl rfl rfl (Nat.le_of_ble_eq_true rfl) dX11_end_21 (fun H locs hP hD hS => ?_)
      have hP : va_P (dC, dI) vwCl [(vo, .inr (12, [.int 0, .ref vmt, .int vn, .int vosz, .int volm, .int voto, .int vofr, .int vokd, .int vonu, .int vosg, .int vofa, .int vopl, .long vowd, .int votd, .ref vmn, .ref vmr, .ref vmk, .ref vms, .ref vma, .ref vmm, .ref vmrn, .ref vmkn, .ref vmik, .ref vmon, .int vosm, .int vohp, .ref vmw, .ref vmf, .ref vmb, .int vomb, .ref vmd, .ref vmc, .int vocm, .int voct, .int vocy, .ref vmx, .int votx, .int vose, .ref vml, .ref vmwr, .int voln, .int vohw, .ref vmno, .int vond, .int voon, .int vowi, .int votop]))] H := hP
      have hD : va_D A [(vo, .inr (12, [.int 0, .ref vmt, .int vn, .int vosz, .int volm, .int voto, .int vofr, .int vokd, .int vonu, .int vosg, .int vofa, .int vopl, .long vowd, .int votd, .ref vmn, .ref vmr, .ref vmk, .ref vms, .ref vma, .ref vmm, .ref vmrn, .ref vmkn, .ref vmik, .ref vmon, .int vosm, .int vohp, .ref vmw, .ref vmf, .ref vmb, .int vomb, .ref vmd, .ref vmc, .int vocm, .int voct, .int vocy, .ref vmx, .int votx, .int vose, .ref vml, .ref vmwr, .int voln, .int vohw, .ref vmno, .int vond, .int voon, .int vowi, .int votop]))] := hD
      refine lv_iconst (v := 1) hx hb dX11_end_24 (by decide) ?_
      have k_1 : (1 : Int32).toInt = 1 := by decide
      rw [hQ9]
      exact re_z ((0 : Int32), vn) hx hb hr hlocks (Or.inr rfl) ⟨(show ((1 : Int32) = 0 ∧ ((vn : Int32).toInt < 0 ∨ (votp : Int32).toInt < (vn : Int32).toInt) ∧ (vn : Int32).toInt = (votp : Int32).toInt) ∨ ((1 : Int32) = 1 ∧ 0 ≤ (vn : Int32).toInt ∧ (vn : Int32).toInt ≤ (votp : Int32).toInt ∧ (vn : Int32).toInt = (vn : Int32).toInt) from (Or.inr (⟨rfl, by omega, by omega, by omega⟩))), (show 0 ≤ (vn : Int32).toInt ∧ (vn : Int32).toInt ≤ 940 from ⟨by omega, by omega⟩)⟩ (hP.sub [0] rfl) (hD.sub [0] rfl rfl) hS dX11_end_25
    · skip
      have c_2 : ¬ (vn.toInt ≤ votp.toInt) := fun h9 => c_2 (i_le.mpr h9)
      refine lv_iconst (v := 0) hx hb dX11_end_17 (by decide) ?_
      rw [hQ9]
      exact re_z ((0 : Int32), votp) hx hb hr hlocks (Or.inl rfl) ⟨(show ((0 : Int32) = 0 ∧ ((vn : Int32).toInt < 0 ∨ (votp : Int32).toInt < (vn : Int32).toInt) ∧ (votp : Int32).toInt = (votp : Int32).toInt) ∨ ((0 : Int32) = 1 ∧ 0 ≤ (vn : Int32).toInt ∧ (vn : Int32).toInt ≤ (votp : Int32).toInt ∧ (votp : Int32).toInt = (vn : Int32).toInt) from (Or.inl ⟨rfl, by omega, by omega⟩)), (show 0 ≤ (votp : Int32).toInt ∧ (votp : Int32).toInt ≤ 940 from ⟨by omega, by omega⟩)⟩ (hP.sub [0] rfl) (hD.sub [0] rfl rfl) hS dX11_end_18
abbrev cX11_take : ByteArray := prog_13_method_6_code
def yX11_take : MethodName := ⟨RX11, "take", "()I"⟩
theorem t1595 : Cond.code yX11_take cX11_take 2 (some .int) ∈ GW := gw_mem 1709 (by decide +kernel) (by decide +kernel)
abbrev O_m_take (cy : Nat → ClassId) (vo : Nat) (voth : Int32) (vmt : Nat) (votp : Int32) (vosz : Int32) (volm : Int32) (voto : Int32) (vofr : Int32) (vokd : Int32) (vonu : Int32) (vosg : Int32) (vofa : Int32) (vopl : Int32) (vowd : Int64) (votd : Int32) (vmn : Nat) (vmr : Nat) (vmk : Nat) (vms : Nat) (vma : Nat) (vmm : Nat) (vmrn : Nat) (vmkn : Nat) (vmik : Nat) (vmon : Nat) (vosm : Int32) (vohp : Int32) (vmw : Nat) (vmf : Nat) (vmb : Nat) (vomb : Int32) (vmd : Nat) (vmc : Nat) (vocm : Int32) (voct : Int32) (vocy : Int32) (vmx : Nat) (votx : Int32) (vose : Int32) (vml : Nat) (vmwr : Nat) (voln : Int32) (vohw : Int32) (vmno : Nat) (vond : Int32) (voon : Int32) (vowi : Int32) (votop : Int32) (u : Int32) : va_W := [(vo, .inr (12, [.int voth, .ref vmt, .int u, .int vosz, .int volm, .int voto, .int vofr, .int vokd, .int vonu, .int vosg, .int vofa, .int vopl, .long vowd, .int votd, .ref vmn, .ref vmr, .ref vmk, .ref vms, .ref vma, .ref vmm, .ref vmrn, .ref vmkn, .ref vmik, .ref vmon, .int vosm, .int vohp, .ref vmw, .ref vmf, .ref vmb, .int vomb, .ref vmd, .ref vmc, .int vocm, .int voct, .int vocy, .ref vmx, .int votx, .int vose, .ref vml, .ref vmwr, .int voln, .int vohw, .ref vmno, .int vond, .int voon, .int vowi, .int votop]))]
theorem dX11_take_0 : decode cX11_take 0 = .ok (.aload_n 0, 1) := by decide +kernel
theorem dX11_take_1 : decode cX11_take 1 = .ok (.getfield 11, 3) := by decide +kernel
theorem dX11_take_4 : decode cX11_take 4 = .ok (.istore_n 1, 1) := by decide +kernel
theorem dX11_take_5 : decode cX11_take 5 = .ok (.aload_n 0, 1) := by decide +kernel
theorem dX11_take_6 : decode cX11_take 6 = .ok (.iconst 0, 1) := by decide +kernel
theorem dX11_take_7 : decode cX11_take 7 = .ok (.putfield 11, 3) := by decide +kernel
theorem dX11_take_10 : decode cX11_take 10 = .ok (.iload_n 1, 1) := by decide +kernel
theorem dX11_take_11 : decode cX11_take 11 = .ok (.ireturn, 1) := by decide +kernel
set_option maxHeartbeats 4000000 in
set_option maxRecDepth 100000 in
theorem m_take (l : Launch) (dC : Nat → ClassId) (dI : Nat → Nat → Nat) (cy : Nat → ClassId) (sz : Nat) (vo : Nat) (voth : Int32) (vmt : Nat) (votp : Int32) (vosz : Int32) (volm : Int32) (voto : Int32) (vofr : Int32) (vokd : Int32) (vonu : Int32) (vosg : Int32) (vofa : Int32) (vopl : Int32) (vowd : Int64) (votd : Int32) (vmn : Nat) (vmr : Nat) (vmk : Nat) (vms : Nat) (vma : Nat) (vmm : Nat) (vmrn : Nat) (vmkn : Nat) (vmik : Nat) (vmon : Nat) (vosm : Int32) (vohp : Int32) (vmw : Nat) (vmf : Nat) (vmb : Nat) (vomb : Int32) (vmd : Nat) (vmc : Nat) (vocm : Int32) (voct : Int32) (vocy : Int32) (vmx : Nat) (votx : Int32) (vose : Int32) (vml : Nat) (vmwr : Nat) (voln : Int32) (vohw : Int32) (vmno : Nat) (vond : Int32) (voon : Int32) (vowi : Int32) (votop : Int32) (r_votp : 0 ≤ (votp : Int32).toInt ∧ (votp : Int32).toInt ≤ 940) : Met l yX11_take (wl yX11_take cX11_take 2 (some .int)) ({ frames := 0, cells := 0, slots := 0, locals := 0 }) (Pw (dC, dI) vwCl cy [(vo, .inr (12, [.int voth, .ref vmt, .int votp, .int vosz, .int volm, .int voto, .int vofr, .int vokd, .int vonu, .int vosg, .int vofa, .int vopl, .long vowd, .int votd, .ref vmn, .ref vmr, .ref vmk, .ref vms, .ref vma, .ref vmm, .ref vmrn, .ref vmkn, .ref vmik, .ref vmon, .int vosm, .int vohp, .ref vmw, .ref vmf, .ref vmb, .int vomb, .ref vmd, .ref vmc, .int vocm, .int voct, .int vocy, .ref vmx, .int votx, .int vose, .ref vml, .ref vmwr, .int voln, .int vohw, .ref vmno, .int vond, .int voon, .int vowi, .int votop]))] sz [.ref vo] nE) (Qi (dC, dI) vwCl (fun (r : Int32) (u : Int32) => (0 ≤ (r : Int32).toInt ∧ (r : Int32).toInt ≤ 940) ∧ (0 ≤ (u : Int32).toInt ∧ (u : Int32).toInt ≤ 0)) (O_m_take cy vo voth vmt votp vosz volm voto vofr vokd vonu vosg vofa vopl vowd votd vmn vmr vmk vms vma vmm vmrn vmkn vmik vmon vosm vohp vmw vmf vmb vomb vmd vmc vocm voct vocy vmx votx vose vml vmwr voln vohw vmno vond voon vowi votop) (va_A [(vo, .inr (12, [.int voth, .ref vmt, .int votp, .int vosz, .int volm, .int voto, .int vofr, .int vokd, .int vonu, .int vosg, .int vofa, .int vopl, .long vowd, .int votd, .ref vmn, .ref vmr, .ref vmk, .ref vms, .ref vma, .ref vmm, .ref vmrn, .ref vmkn, .ref vmik, .ref vmon, .int vosm, .int vohp, .ref vmw, .ref vmf, .ref vmb, .int vomb, .ref vmd, .ref vmc, .int vocm, .int voct, .int vocy, .ref vmx, .int votx, .int vose, .ref vml, .ref vmwr, .int voln, .int vohw, .ref vmno, .int vond, .int voon, .int vowi, .int votop]))] sz)) 0 0 (va_A [(vo, .inr (12, [.int voth, .ref vmt, .int votp, .int vosz, .int volm, .int voto, .int vofr, .int vokd, .int vonu, .int vosg, .int vofa, .int vopl, .long vowd, .int votd, .ref vmn, .ref vmr, .ref vmk, .ref vms, .ref vma, .ref vmm, .ref vmrn, .ref vmkn, .ref vmik, .ref vmon, .int vosm, .int vohp, .ref vmw, .ref vmf, .ref vmb, .int vomb, .ref vmd, .ref vmc, .int vocm, .int voct, .int vocy, .ref vmx, .int votx, .int vose, .ref vml, .ref vmwr, .int voln, .int vohw, .ref vmno, .int vond, .int voon, .int vowi, .int votop]))] sz) := by
  refine mw (Qc := Qi (dC, dI) vwCl (fun (r : Int32) (u : Int32) => (0 ≤ (r : Int32).toInt ∧ (r : Int32).toInt ≤ 940) ∧ (0 ≤ (u : Int32).toInt ∧ (u : Int32).toInt ≤ 0)) (O_m_take cy vo voth vmt votp vosz volm voto vofr vokd vonu vosg vofa vopl vowd votd vmn vmr vmk vms vma vmm vmrn vmkn vmik vmon vosm vohp vmw vmf vmb vomb vmd vmc vocm voct vocy vmx votx vose vml vmwr voln vohw vmno vond voon vowi votop)) RX11 rfl (by decide +kernel) (Nat.le_of_ble_eq_true rfl) ?_
  intro p e s m below meth c A hx hb hr hlocks av9 hav hts hown hnm hml hK hP hD hA hS hE hAe Q9 hQ9 ls hl
  have hl : lv_has ls 2 [(0, .ref vo)] := hl
  refine lv_aload_n hx hb dX11_take_0 rfl (lv_at hl 0 rfl) ?_
  refine gf_X11_11 hx hb hts hown hK hP 0 rfl rfl dX11_take_1 ?_
  refine lv_istore_n (lv' := [(1, .int votp), (0, .ref vo)]) hx hb dX11_take_4 rfl hl (by decide) rfl (fun ls hl => ?_)
  refine lv_aload_n hx hb dX11_take_5 rfl (lv_at hl 1 rfl) ?_
  refine lv_iconst (v := 0) hx hb dX11_take_6 (by decide) ?_
  refine pf_X11_11 hx hb hts hown hK hP hD hS 0 rfl rfl rfl (Nat.le_of_ble_eq_true rfl) dX11_take_7 (fun H locs hP hD hS => ?_)
  have hP : va_P (dC, dI) vwCl [(vo, .inr (12, [.int voth, .ref vmt, .int 0, .int vosz, .int volm, .int voto, .int vofr, .int vokd, .int vonu, .int vosg, .int vofa, .int vopl, .long vowd, .int votd, .ref vmn, .ref vmr, .ref vmk, .ref vms, .ref vma, .ref vmm, .ref vmrn, .ref vmkn, .ref vmik, .ref vmon, .int vosm, .int vohp, .ref vmw, .ref vmf, .ref vmb, .int vomb, .ref vmd, .ref vmc, .int vocm, .int voct, .int vocy, .ref vmx, .int votx, .int vose, .ref vml, .ref vmwr, .int voln, .int vohw, .ref vmno, .int vond, .int voon, .int vowi, .int votop]))] H := hP
  have hD : va_D A [(vo, .inr (12, [.int voth, .ref vmt, .int 0, .int vosz, .int volm, .int voto, .int vofr, .int vokd, .int vonu, .int vosg, .int vofa, .int vopl, .long vowd, .int votd, .ref vmn, .ref vmr, .ref vmk, .ref vms, .ref vma, .ref vmm, .ref vmrn, .ref vmkn, .ref vmik, .ref vmon, .int vosm, .int vohp, .ref vmw, .ref vmf, .ref vmb, .int vomb, .ref vmd, .ref vmc, .int vocm, .int voct, .int vocy, .ref vmx, .int votx, .int vose, .ref vml, .ref vmwr, .int voln, .int vohw, .ref vmno, .int vond, .int voon, .int vowi, .int votop]))] := hD
  refine lv_iload_n hx hb dX11_take_10 rfl (lv_at hl 0 rfl) ?_
  have k_0 : (0 : Int32).toInt = 0 := by decide
  rw [hQ9]
  exact re_i (0 : Int32) hx hb hr hlocks ⟨(show 0 ≤ (votp : Int32).toInt ∧ (votp : Int32).toInt ≤ 940 from ⟨by omega, by omega⟩), (show 0 ≤ (0 : Int32).toInt ∧ (0 : Int32).toInt ≤ 0 from ⟨by omega, by omega⟩)⟩ (hP.sub [0] rfl) (hD.sub [0] rfl rfl) hS dX11_take_11
abbrev cX11_isIn : ByteArray := prog_13_method_7_code
def yX11_isIn : MethodName := ⟨RX11, "isIn", "(III)Z"⟩
theorem t1655 : Cond.code yX11_isIn cX11_isIn 3 (some .boolean) ∈ GW := gw_mem 1769 (by decide +kernel) (by decide +kernel)
theorem dX11_isIn_0 : decode cX11_isIn 0 = .ok (.iload_n 0, 1) := by decide +kernel
theorem dX11_isIn_1 : decode cX11_isIn 1 = .ok (.iload_n 1, 1) := by decide +kernel
theorem dX11_isIn_2 : decode cX11_isIn 2 = .ok (.if_icmp .lt 12, 3) := by decide +kernel
theorem dX11_isIn_14 : decode cX11_isIn 14 = .ok (.iconst 0, 1) := by decide +kernel
theorem dX11_isIn_15 : decode cX11_isIn 15 = .ok (.ireturn, 1) := by decide +kernel
theorem dX11_isIn_5 : decode cX11_isIn 5 = .ok (.iload_n 0, 1) := by decide +kernel
theorem dX11_isIn_6 : decode cX11_isIn 6 = .ok (.iload_n 2, 1) := by decide +kernel
theorem dX11_isIn_7 : decode cX11_isIn 7 = .ok (.if_icmp .gt 7, 3) := by decide +kernel
theorem dX11_isIn_10 : decode cX11_isIn 10 = .ok (.iconst 1, 1) := by decide +kernel
theorem dX11_isIn_11 : decode cX11_isIn 11 = .ok (.goto 4, 3) := by decide +kernel
set_option maxHeartbeats 4000000 in
set_option maxRecDepth 100000 in
theorem m_isIn (l : Launch) (dC : Nat → ClassId) (dI : Nat → Nat → Nat) (cy : Nat → ClassId) (vx : Int32) (va : Int32) (vb : Int32)  : Met l yX11_isIn (wl yX11_isIn cX11_isIn 3 (some .boolean)) ({ frames := 0, cells := 0, slots := 0, locals := 0 }) (Pr (dC, dI) vwCl cy [] [.int vx, .int va, .int vb]) (Ri (fun r => ((r = 0 ∧ ((vx : Int32).toInt < (va : Int32).toInt ∨ (vb : Int32).toInt < (vx : Int32).toInt)) ∨ (r = 1 ∧ (va : Int32).toInt ≤ (vx : Int32).toInt ∧ (vx : Int32).toInt ≤ (vb : Int32).toInt)))) 0 0 (fun _ => False) := by
  refine mr RX11 rfl (by decide +kernel) (Nat.le_of_ble_eq_true rfl) ?_
  intro p e s m below meth c hx hb hr hlocks av9 hav hts hown hml hK hP hS Q9 hQ9 ls hl
  have hl : lv_has ls 3 [(0, .int vx), (1, .int va), (2, .int vb)] := hl
  refine lv_iload_n hx hb dX11_isIn_0 rfl (lv_at hl 0 rfl) ?_
  refine lv_iload_n hx hb dX11_isIn_1 rfl (lv_at hl 1 rfl) ?_
  refine lv_icmp_lt (tgt := 14) hx hb dX11_isIn_2 (by decide) (fun c_1 => ?_) (fun c_1 => ?_)
  · skip
    have c_1 : vx.toInt < va.toInt := i_lt.mp c_1
    refine lv_iconst (v := 0) hx hb dX11_isIn_14 (by decide) ?_
    have k_0 : (0 : Int32).toInt = 0 := by decide
    rw [hQ9]
    exact rr_z hx hb hr hlocks (Or.inl rfl) (show ((0 : Int32) = 0 ∧ ((vx : Int32).toInt < (va : Int32).toInt ∨ (vb : Int32).toInt < (vx : Int32).toInt)) ∨ ((0 : Int32) = 1 ∧ (va : Int32).toInt ≤ (vx : Int32).toInt ∧ (vx : Int32).toInt ≤ (vb : Int32).toInt) from (Or.inl ⟨rfl, by omega⟩)) hS dX11_isIn_15
  · skip
    have c_1 : ¬ (vx.toInt < va.toInt) := fun h9 => c_1 (i_lt.mpr h9)
    refine lv_iload_n hx hb dX11_isIn_5 rfl (lv_at hl 0 rfl) ?_
    refine lv_iload_n hx hb dX11_isIn_6 rfl (lv_at hl 2 rfl) ?_
    refine lv_icmp_gt (tgt := 14) hx hb dX11_isIn_7 (by decide) (fun c_2 => ?_) (fun c_2 => ?_)
    · skip
      have c_2 : vb.toInt < vx.toInt := i_lt.mp c_2
      refine lv_iconst (v := 0) hx hb dX11_isIn_14 (by decide) ?_
      have k_0 : (0 : Int32).toInt = 0 := by decide
      rw [hQ9]
      exact rr_z hx hb hr hlocks (Or.inl rfl) (show ((0 : Int32) = 0 ∧ ((vx : Int32).toInt < (va : Int32).toInt ∨ (vb : Int32).toInt < (vx : Int32).toInt)) ∨ ((0 : Int32) = 1 ∧ (va : Int32).toInt ≤ (vx : Int32).toInt ∧ (vx : Int32).toInt ≤ (vb : Int32).toInt) from (Or.inl ⟨rfl, by omega⟩)) hS dX11_isIn_15
    · skip
      have c_2 : ¬ (vb.toInt < vx.toInt) := fun h9 => c_2 (i_lt.mpr h9)
      refine lv_iconst (v := 1) hx hb dX11_isIn_10 (by decide) ?_
      refine lv_goto (tgt := 15) hx hb dX11_isIn_11 (by decide) ?_
      have k_1 : (1 : Int32).toInt = 1 := by decide
      rw [hQ9]
      exact rr_z hx hb hr hlocks (Or.inr rfl) (show ((1 : Int32) = 0 ∧ ((vx : Int32).toInt < (va : Int32).toInt ∨ (vb : Int32).toInt < (vx : Int32).toInt)) ∨ ((1 : Int32) = 1 ∧ (va : Int32).toInt ≤ (vx : Int32).toInt ∧ (vx : Int32).toInt ≤ (vb : Int32).toInt) from (Or.inr (⟨rfl, by omega, by omega⟩))) hS dX11_isIn_15
abbrev cX11_has : ByteArray := prog_13_method_8_code
def yX11_has : MethodName := ⟨RX11, "has", "(II)Z"⟩
theorem t1682 : Cond.code yX11_has cX11_has 2 (some .boolean) ∈ GW := gw_mem 1796 (by decide +kernel) (by decide +kernel)
theorem dX11_has_0 : decode cX11_has 0 = .ok (.iload_n 0, 1) := by decide +kernel
theorem dX11_has_1 : decode cX11_has 1 = .ok (.iload_n 1, 1) := by decide +kernel
theorem dX11_has_2 : decode cX11_has 2 = .ok (.ishr, 1) := by decide +kernel
theorem dX11_has_3 : decode cX11_has 3 = .ok (.iconst 1, 1) := by decide +kernel
theorem dX11_has_4 : decode cX11_has 4 = .ok (.iand, 1) := by decide +kernel
theorem dX11_has_5 : decode cX11_has 5 = .ok (.iconst 1, 1) := by decide +kernel
theorem dX11_has_6 : decode cX11_has 6 = .ok (.if_icmp .ne 7, 3) := by decide +kernel
theorem dX11_has_13 : decode cX11_has 13 = .ok (.iconst 0, 1) := by decide +kernel
theorem dX11_has_14 : decode cX11_has 14 = .ok (.ireturn, 1) := by decide +kernel
theorem dX11_has_9 : decode cX11_has 9 = .ok (.iconst 1, 1) := by decide +kernel
theorem dX11_has_10 : decode cX11_has 10 = .ok (.goto 4, 3) := by decide +kernel
set_option maxHeartbeats 4000000 in
set_option maxRecDepth 100000 in
theorem m_has (l : Launch) (dC : Nat → ClassId) (dI : Nat → Nat → Nat) (cy : Nat → ClassId) (vx : Int32) (vk : Int32)  : Met l yX11_has (wl yX11_has cX11_has 2 (some .boolean)) ({ frames := 0, cells := 0, slots := 0, locals := 0 }) (Pr (dC, dI) vwCl cy [] [.int vx, .int vk]) (Ri (fun r => ((r = 0) ∨ (r = 1)))) 0 0 (fun _ => False) := by
  refine mr RX11 rfl (by decide +kernel) (Nat.le_of_ble_eq_true rfl) ?_
  intro p e s m below meth c hx hb hr hlocks av9 hav hts hown hml hK hP hS Q9 hQ9 ls hl
  have hl : lv_has ls 2 [(0, .int vx), (1, .int vk)] := hl
  refine lv_iload_n hx hb dX11_has_0 rfl (lv_at hl 0 rfl) ?_
  refine lv_iload_n hx hb dX11_has_1 rfl (lv_at hl 1 rfl) ?_
  refine lv_ishr hx hb dX11_has_2 ?_
  refine lv_topi (fun z_1 ez_1 => ?_)
  refine lv_iconst (v := 1) hx hb dX11_has_3 (by decide) ?_
  refine lv_iand hx hb dX11_has_4 ?_
  refine lv_topi (fun z_2 ez_2 => ?_)
  have k_1 : (1 : Int32).toInt = 1 := by decide
  have bz_2 : 0 ≤ z_2.toInt ∧ z_2.toInt ≤ 1 := i_and1 ez_2
  refine lv_iconst (v := 1) hx hb dX11_has_5 (by decide) ?_
  refine lv_icmp_ne (tgt := 13) hx hb dX11_has_6 (by decide) (fun c_3 => ?_) (fun c_3 => ?_)
  · skip
    have c_3 : ¬ (z_2.toInt = (1 : Int32).toInt) := fun h9 => c_3 (i_eq.mpr h9)
    refine lv_iconst (v := 0) hx hb dX11_has_13 (by decide) ?_
    have k_0 : (0 : Int32).toInt = 0 := by decide
    rw [hQ9]
    exact rr_z hx hb hr hlocks (Or.inl rfl) (show ((0 : Int32) = 0) ∨ ((0 : Int32) = 1) from (Or.inl rfl)) hS dX11_has_14
  · skip
    have c_3 : z_2.toInt = (1 : Int32).toInt := i_eq.mp c_3
    refine lv_iconst (v := 1) hx hb dX11_has_9 (by decide) ?_
    refine lv_goto (tgt := 14) hx hb dX11_has_10 (by decide) ?_
    rw [hQ9]
    exact rr_z hx hb hr hlocks (Or.inr rfl) (show ((1 : Int32) = 0) ∨ ((1 : Int32) = 1) from (Or.inr (rfl))) hS dX11_has_14
abbrev cX11_bits : ByteArray := prog_13_method_9_code
def yX11_bits : MethodName := ⟨RX11, "bits", "(I)I"⟩
theorem t1872 : Cond.code yX11_bits cX11_bits 3 (some .int) ∈ GW := gw_mem 1986 (by decide +kernel) (by decide +kernel)
theorem dX11_bits_0 : decode cX11_bits 0 = .ok (.iconst 0, 1) := by decide +kernel
theorem dX11_bits_1 : decode cX11_bits 1 = .ok (.istore_n 1, 1) := by decide +kernel
theorem dX11_bits_2 : decode cX11_bits 2 = .ok (.iload_n 0, 1) := by decide +kernel
theorem dX11_bits_3 : decode cX11_bits 3 = .ok (.istore_n 2, 1) := by decide +kernel
theorem dX11_bits_4 : decode cX11_bits 4 = .ok (.iload_n 2, 1) := by decide +kernel
theorem dX11_bits_5 : decode cX11_bits 5 = .ok (.ifCond .eq 15, 3) := by decide +kernel
theorem dX11_bits_20 : decode cX11_bits 20 = .ok (.iload_n 1, 1) := by decide +kernel
theorem dX11_bits_21 : decode cX11_bits 21 = .ok (.ireturn, 1) := by decide +kernel
theorem dX11_bits_8 : decode cX11_bits 8 = .ok (.iinc 1 1, 3) := by decide +kernel
theorem dX11_bits_11 : decode cX11_bits 11 = .ok (.iload_n 2, 1) := by decide +kernel
theorem dX11_bits_12 : decode cX11_bits 12 = .ok (.iload_n 2, 1) := by decide +kernel
theorem dX11_bits_13 : decode cX11_bits 13 = .ok (.iconst 1, 1) := by decide +kernel
theorem dX11_bits_14 : decode cX11_bits 14 = .ok (.isub, 1) := by decide +kernel
theorem dX11_bits_15 : decode cX11_bits 15 = .ok (.iand, 1) := by decide +kernel
theorem dX11_bits_16 : decode cX11_bits 16 = .ok (.istore_n 2, 1) := by decide +kernel
theorem dX11_bits_17 : decode cX11_bits 17 = .ok (.goto (-13), 3) := by decide +kernel
set_option maxHeartbeats 4000000 in
set_option maxRecDepth 100000 in
theorem m_bits (l : Launch) (dC : Nat → ClassId) (dI : Nat → Nat → Nat) (cy : Nat → ClassId) (vx : Int32) (r_vx : 0 ≤ (vx : Int32).toInt ∧ (vx : Int32).toInt ≤ 127) : Met l yX11_bits (wl yX11_bits cX11_bits 3 (some .int)) ({ frames := 0, cells := 0, slots := 0, locals := 0 }) (Pr (dC, dI) vwCl cy [] [.int vx]) (Ri (fun r => True)) 0 0 (fun _ => False) := by
  refine mr RX11 rfl (by decide +kernel) (Nat.le_of_ble_eq_true rfl) ?_
  intro p e s m below meth c hx hb hr hlocks av9 hav hts hown hml hK hP hS Q9 hQ9 ls hl
  have hl : lv_has ls 3 [(0, .int vx)] := hl
  refine lv_iconst (v := 0) hx hb dX11_bits_0 (by decide) ?_
  refine lv_istore_n (lv' := [(1, .int 0), (0, .int vx)]) hx hb dX11_bits_1 rfl hl (by decide) rfl (fun ls hl => ?_)
  refine lv_iload_n hx hb dX11_bits_2 rfl (lv_at hl 1 rfl) ?_
  refine lv_istore_n (lv' := [(2, .int vx), (1, .int 0), (0, .int vx)]) hx hb dX11_bits_3 rfl hl (by decide) rfl (fun ls hl => ?_)
  have loop1 : ∀ (n1 : Nat) (x_3 : Int32) (x_2 : Int32), (0 ≤ x_2.toInt ∧ x_2.toInt ≤ 127) → x_2.toInt < (n1 : Int) → ∀ (H : Heap) (locs : List Loc), va_P (dC, dI) vwCl [] H → va_S (fun _ => False) s.heap H locs → ∀ ls : Array Slot, lv_has ls 3 [(2, .int x_2), (1, .int x_3), (0, .int vx)] → W p l e ({ frames := 0, cells := 0, slots := 0, locals := 0 }) s m av9 below meth c H locs 0 0 Q9 (F0 m 4 ls []) := by
    intro n1
    induction n1 with
    | zero =>
      intro x_3 x_2 bx_2 hn1 H locs hP hS ls hl
      exfalso; omega
    | succ n1 ih1 =>
      intro x_3 x_2 bx_2 hn1 H locs hP hS ls hl
      refine lv_iload_n hx hb dX11_bits_4 rfl (lv_at hl 0 rfl) ?_
      have k_0 : (0 : Int32).toInt = 0 := by decide
      refine lv_if_eq (tgt := 20) hx hb dX11_bits_5 (by decide) (fun c_4 => ?_) (fun c_4 => ?_)
      · skip
        have c_4 : x_2.toInt = (0 : Int32).toInt := i_eq.mp c_4
        refine lv_iload_n hx hb dX11_bits_20 rfl (lv_at hl 1 rfl) ?_
        rw [hQ9]
        exact rr_i hx hb hr hlocks trivial hS dX11_bits_21
      · skip
        have c_4 : ¬ (x_2.toInt = (0 : Int32).toInt) := fun h9 => c_4 (i_eq.mpr h9)
        obtain ⟨z_5, ez_5⟩ : ∃ z : Int32, z = x_3 + 1 := ⟨_, rfl⟩
        refine lv_iinc (v := z_5) (lv' := [(1, .int z_5), (2, .int x_2), (0, .int vx)]) hx hb dX11_bits_8 hl (k := 1) rfl ez_5.symm (by decide) rfl (fun ls hl => ?_)
        refine lv_iload_n hx hb dX11_bits_11 rfl (lv_at hl 1 rfl) ?_
        refine lv_iload_n hx hb dX11_bits_12 rfl (lv_at hl 1 rfl) ?_
        refine lv_iconst (v := 1) hx hb dX11_bits_13 (by decide) ?_
        refine lv_isub hx hb dX11_bits_14 ?_
        refine lv_topi (fun z_6 ez_6 => ?_)
        have k_1 : (1 : Int32).toInt = 1 := by decide
        have bz_6 : z_6.toInt = x_2.toInt - (1 : Int32).toInt := i_sub ez_6 (by omega) (by omega)
        refine lv_iand hx hb dX11_bits_15 ?_
        refine lv_topi (fun z_7 ez_7 => ?_)
        have bz_7 : 0 ≤ z_7.toInt ∧ z_7.toInt < x_2.toInt := i_low ez_6 ez_7 ⟨by omega, by omega⟩
        refine lv_istore_n (lv' := [(2, .int z_7), (1, .int z_5), (0, .int vx)]) hx hb dX11_bits_16 rfl hl (by decide) rfl (fun ls hl => ?_)
        refine lv_goto (tgt := 4) hx hb dX11_bits_17 (by decide) ?_
        exact ih1 z_5 z_7 ⟨by omega, by omega⟩ (by omega) _ _ (hP.sub [] rfl) hS ls (lv_sub hl [0, 1, 2] rfl)
  have k_0 : (0 : Int32).toInt = 0 := by decide
  exact loop1 ((vx.toInt).toNat + 1) 0 vx ⟨by omega, by omega⟩ (by omega) _ _ hP hS ls (lv_sub hl [0, 1, 2] rfl)
abbrev cX11_least : ByteArray := prog_13_method_10_code
def yX11_least : MethodName := ⟨RX11, "least", "(II)I"⟩
theorem t1845 : Cond.code yX11_least cX11_least 2 (some .int) ∈ GW := gw_mem 1959 (by decide +kernel) (by decide +kernel)
theorem dX11_least_0 : decode cX11_least 0 = .ok (.iload_n 0, 1) := by decide +kernel
theorem dX11_least_1 : decode cX11_least 1 = .ok (.iload_n 1, 1) := by decide +kernel
theorem dX11_least_2 : decode cX11_least 2 = .ok (.if_icmp .ge 7, 3) := by decide +kernel
theorem dX11_least_9 : decode cX11_least 9 = .ok (.iload_n 1, 1) := by decide +kernel
theorem dX11_least_10 : decode cX11_least 10 = .ok (.ireturn, 1) := by decide +kernel
theorem dX11_least_5 : decode cX11_least 5 = .ok (.iload_n 0, 1) := by decide +kernel
theorem dX11_least_6 : decode cX11_least 6 = .ok (.goto 4, 3) := by decide +kernel
set_option maxHeartbeats 4000000 in
set_option maxRecDepth 100000 in
theorem m_least (l : Launch) (dC : Nat → ClassId) (dI : Nat → Nat → Nat) (cy : Nat → ClassId) (vx : Int32) (vy : Int32)  : Met l yX11_least (wl yX11_least cX11_least 2 (some .int)) ({ frames := 0, cells := 0, slots := 0, locals := 0 }) (Pr (dC, dI) vwCl cy [] [.int vx, .int vy]) (Ri (fun r => ((r : Int32).toInt ≤ (vx : Int32).toInt) ∧ ((r : Int32).toInt ≤ (vy : Int32).toInt) ∧ (((r : Int32).toInt = (vx : Int32).toInt ∨ (r : Int32).toInt = (vy : Int32).toInt)))) 0 0 (fun _ => False) := by
  refine mr RX11 rfl (by decide +kernel) (Nat.le_of_ble_eq_true rfl) ?_
  intro p e s m below meth c hx hb hr hlocks av9 hav hts hown hml hK hP hS Q9 hQ9 ls hl
  have hl : lv_has ls 2 [(0, .int vx), (1, .int vy)] := hl
  refine lv_iload_n hx hb dX11_least_0 rfl (lv_at hl 0 rfl) ?_
  refine lv_iload_n hx hb dX11_least_1 rfl (lv_at hl 1 rfl) ?_
  refine lv_icmp_ge (tgt := 9) hx hb dX11_least_2 (by decide) (fun c_1 => ?_) (fun c_1 => ?_)
  · skip
    have c_1 : vy.toInt ≤ vx.toInt := i_le.mp c_1
    refine lv_iload_n hx hb dX11_least_9 rfl (lv_at hl 1 rfl) ?_
    rw [hQ9]
    exact rr_i hx hb hr hlocks ⟨(show (vy : Int32).toInt ≤ (vx : Int32).toInt from (by omega)), (show (vy : Int32).toInt ≤ (vy : Int32).toInt from (by omega)), (show ((vy : Int32).toInt = (vx : Int32).toInt ∨ (vy : Int32).toInt = (vy : Int32).toInt) from (by omega))⟩ hS dX11_least_10
  · skip
    have c_1 : ¬ (vy.toInt ≤ vx.toInt) := fun h9 => c_1 (i_le.mpr h9)
    refine lv_iload_n hx hb dX11_least_5 rfl (lv_at hl 0 rfl) ?_
    refine lv_goto (tgt := 10) hx hb dX11_least_6 (by decide) ?_
    rw [hQ9]
    exact rr_i hx hb hr hlocks ⟨(show (vx : Int32).toInt ≤ (vx : Int32).toInt from (by omega)), (show (vx : Int32).toInt ≤ (vy : Int32).toInt from (by omega)), (show ((vx : Int32).toInt = (vx : Int32).toInt ∨ (vx : Int32).toInt = (vy : Int32).toInt) from (by omega))⟩ hS dX11_least_10
abbrev cX11_tapeAt : ByteArray := prog_13_method_13_code
def yX11_tapeAt : MethodName := ⟨RX11, "tapeAt", "(I)I"⟩
theorem t1609 : Cond.code yX11_tapeAt cX11_tapeAt 2 (some .int) ∈ GW := gw_mem 1723 (by decide +kernel) (by decide +kernel)
theorem dX11_tapeAt_0 : decode cX11_tapeAt 0 = .ok (.iload_n 1, 1) := by decide +kernel
theorem dX11_tapeAt_1 : decode cX11_tapeAt 1 = .ok (.aload_n 0, 1) := by decide +kernel
theorem dX11_tapeAt_2 : decode cX11_tapeAt 2 = .ok (.getfield 18, 3) := by decide +kernel
theorem t1445 : Cond.fieldLink RX11 18 "LikenessPoundModel" "size" "I" ∈ GW := gw_mem 1559 (by decide +kernel) (by decide +kernel)
theorem gf_X11_18 {p : Program} {l : Launch} {e : Env} {R : Room} {s : State} {m : MethodId} {args : Array Value} {below : List Frame} {meth : Method} {c : Code} {H : Heap} {locs : List Loc} {cells slots : Nat} {Q : State → Prop} {cc : ByteArray} {pc : Nat} {ls : Array Slot} {rest : List Value} {D : va_G} {a : Nat} {tys : List (ClassId × FieldType)} {ws : va_W} (hx : p.tables.exec = Jvm.exec) (hb : c.code = cc) (hts : ∀ w ∈ GW, w.before args s = true) (hown : s.vm.findClass RX11 = some m.cls) (hK : va_K D vwCl tys s) (hP : va_P D vwCl ws H) (q0 : Nat) {fs : List Value} (he : ws[q0]? = some (a, .inr (12, fs))) {v : Value} (hv : fs[3]? = some v) (hdg : decode cc pc = .ok (.getfield 18, 3)) (kk : W p l e R s m args below meth c H locs cells slots Q (F0 m (pc + 3) ls (v :: rest))) : W p l e R s m args below meth c H locs cells slots Q (F0 m pc ls (.ref a :: rest)) := va_get (C := RX11) (T := TX11) (N := 47) (ci := 12) hx hb hts inX11 hown hK hP q0 he rfl 3 (by decide) (hts _ t1445) (fun _ h => h) hv hdg kk
theorem dX11_tapeAt_5 : decode cX11_tapeAt 5 = .ok (.if_icmp .ge 12, 3) := by decide +kernel
theorem dX11_tapeAt_17 : decode cX11_tapeAt 17 = .ok (.iconst 0, 1) := by decide +kernel
theorem dX11_tapeAt_18 : decode cX11_tapeAt 18 = .ok (.ireturn, 1) := by decide +kernel
theorem dX11_tapeAt_8 : decode cX11_tapeAt 8 = .ok (.aload_n 0, 1) := by decide +kernel
theorem dX11_tapeAt_9 : decode cX11_tapeAt 9 = .ok (.getfield 7, 3) := by decide +kernel
theorem dX11_tapeAt_12 : decode cX11_tapeAt 12 = .ok (.iload_n 1, 1) := by decide +kernel
theorem dX11_tapeAt_13 : decode cX11_tapeAt 13 = .ok (.iaload, 1) := by decide +kernel
theorem dX11_tapeAt_14 : decode cX11_tapeAt 14 = .ok (.goto 4, 3) := by decide +kernel
set_option maxHeartbeats 4000000 in
set_option maxRecDepth 100000 in
theorem m_tapeAt (l : Launch) (dC : Nat → ClassId) (dI : Nat → Nat → Nat) (cy : Nat → ClassId) (vo : Nat) (voth : Int32) (vmt : Nat) (votp : Int32) (vosz : Int32) (volm : Int32) (voto : Int32) (vofr : Int32) (vokd : Int32) (vonu : Int32) (vosg : Int32) (vofa : Int32) (vopl : Int32) (vowd : Int64) (votd : Int32) (vmn : Nat) (vmr : Nat) (vmk : Nat) (vms : Nat) (vma : Nat) (vmm : Nat) (vmrn : Nat) (vmkn : Nat) (vmik : Nat) (vmon : Nat) (vosm : Int32) (vohp : Int32) (vmw : Nat) (vmf : Nat) (vmb : Nat) (vomb : Int32) (vmd : Nat) (vmc : Nat) (vocm : Int32) (voct : Int32) (vocy : Int32) (vmx : Nat) (votx : Int32) (vose : Int32) (vml : Nat) (vmwr : Nat) (voln : Int32) (vohw : Int32) (vmno : Nat) (vond : Int32) (voon : Int32) (vowi : Int32) (votop : Int32) (vmtf : Nat → Int32) (vp : Int32) (r_vosz : 0 ≤ (vosz : Int32).toInt ∧ (vosz : Int32).toInt ≤ 940) (r_vp : 0 ≤ (vp : Int32).toInt ∧ (vp : Int32).toInt ≤ 940) (p_vmtf : Rg vmtf 940 0 255) : Met l yX11_tapeAt (wl yX11_tapeAt cX11_tapeAt 2 (some .int)) ({ frames := 0, cells := 0, slots := 0, locals := 0 }) (Pr (dC, dI) vwCl cy [(vo, .inr (12, [.int voth, .ref vmt, .int votp, .int vosz, .int volm, .int voto, .int vofr, .int vokd, .int vonu, .int vosg, .int vofa, .int vopl, .long vowd, .int votd, .ref vmn, .ref vmr, .ref vmk, .ref vms, .ref vma, .ref vmm, .ref vmrn, .ref vmkn, .ref vmik, .ref vmon, .int vosm, .int vohp, .ref vmw, .ref vmf, .ref vmb, .int vomb, .ref vmd, .ref vmc, .int vocm, .int voct, .int vocy, .ref vmx, .int votx, .int vose, .ref vml, .ref vmwr, .int voln, .int vohw, .ref vmno, .int vond, .int voon, .int vowi, .int votop])), (vmt, .inl (cy 0, 940, .inl vmtf))] [.ref vo, .int vp]) (Ri (fun r => (0 ≤ (r : Int32).toInt ∧ (r : Int32).toInt ≤ 255) ∧ ((r : Int32).toInt ≠ 0 → (vp : Int32).toInt < (vosz : Int32).toInt) ∧ ((vp : Int32).toInt < (vosz : Int32).toInt → (r : Int32).toInt = (vmtf (Int32.toNatClampNeg vp)).toInt))) 0 0 (fun _ => False) := by
  refine mr RX11 rfl (by decide +kernel) (Nat.le_of_ble_eq_true rfl) ?_
  intro p e s m below meth c hx hb hr hlocks av9 hav hts hown hml hK hP hS Q9 hQ9 ls hl
  have hl : lv_has ls 2 [(0, .ref vo), (1, .int vp)] := hl
  refine lv_iload_n hx hb dX11_tapeAt_0 rfl (lv_at hl 1 rfl) ?_
  refine lv_aload_n hx hb dX11_tapeAt_1 rfl (lv_at hl 0 rfl) ?_
  refine gf_X11_18 hx hb hts hown hK hP 0 rfl rfl dX11_tapeAt_2 ?_
  refine lv_icmp_ge (tgt := 17) hx hb dX11_tapeAt_5 (by decide) (fun c_1 => ?_) (fun c_1 => ?_)
  · skip
    have c_1 : vosz.toInt ≤ vp.toInt := i_le.mp c_1
    refine lv_iconst (v := 0) hx hb dX11_tapeAt_17 (by decide) ?_
    have k_0 : (0 : Int32).toInt = 0 := by decide
    rw [hQ9]
    exact rr_i hx hb hr hlocks ⟨(show 0 ≤ ((0 : Int32) : Int32).toInt ∧ ((0 : Int32) : Int32).toInt ≤ 255 from ⟨by omega, by omega⟩), (show ((0 : Int32) : Int32).toInt ≠ 0 → (vp : Int32).toInt < (vosz : Int32).toInt from (fun h9 => absurd h9 (by omega))), (show (vp : Int32).toInt < (vosz : Int32).toInt → ((0 : Int32) : Int32).toInt = (vmtf (Int32.toNatClampNeg vp)).toInt from (fun h9 => absurd h9 (by omega)))⟩ hS dX11_tapeAt_18
  · skip
    have c_1 : ¬ (vosz.toInt ≤ vp.toInt) := fun h9 => c_1 (i_le.mpr h9)
    refine lv_aload_n hx hb dX11_tapeAt_8 rfl (lv_at hl 0 rfl) ?_
    refine gf_X11_7 hx hb hts hown hK hP 0 rfl rfl dX11_tapeAt_9 ?_
    refine lv_iload_n hx hb dX11_tapeAt_12 rfl (lv_at hl 1 rfl) ?_
    have hin_2 : vp_in vp 940 := vp_in_iff.mpr ⟨by omega, by omega⟩
    refine va_iald hx hb hK hP 1 0 rfl rfl hin_2 dX11_tapeAt_13 ?_
    refine lv_topi (fun z_3 ez_3 => ?_)
    have bz_3 := p_vmtf.at hin_2 ez_3
    refine lv_goto (tgt := 18) hx hb dX11_tapeAt_14 (by decide) ?_
    rw [hQ9]
    exact rr_i hx hb hr hlocks ⟨(show 0 ≤ (z_3 : Int32).toInt ∧ (z_3 : Int32).toInt ≤ 255 from ⟨by omega, by omega⟩), (show (z_3 : Int32).toInt ≠ 0 → (vp : Int32).toInt < (vosz : Int32).toInt from (fun _ => by omega)), (show (vp : Int32).toInt < (vosz : Int32).toInt → (z_3 : Int32).toInt = (vmtf (Int32.toNatClampNeg vp)).toInt from (fun _ => congrArg Int32.toInt ez_3))⟩ hS dX11_tapeAt_18
abbrev cX11_isDigit : ByteArray := prog_13_method_14_code
def yX11_isDigit : MethodName := ⟨RX11, "isDigit", "(I)Z"⟩
theorem t1605 : Cond.code yX11_isDigit cX11_isDigit 1 (some .boolean) ∈ GW := gw_mem 1719 (by decide +kernel) (by decide +kernel)
theorem dX11_isDigit_0 : decode cX11_isDigit 0 = .ok (.iload_n 0, 1) := by decide +kernel
theorem dX11_isDigit_1 : decode cX11_isDigit 1 = .ok (.bipush 48, 2) := by decide +kernel
theorem dX11_isDigit_3 : decode cX11_isDigit 3 = .ok (.if_icmp .lt 13, 3) := by decide +kernel
theorem dX11_isDigit_16 : decode cX11_isDigit 16 = .ok (.iconst 0, 1) := by decide +kernel
theorem dX11_isDigit_17 : decode cX11_isDigit 17 = .ok (.ireturn, 1) := by decide +kernel
theorem dX11_isDigit_6 : decode cX11_isDigit 6 = .ok (.iload_n 0, 1) := by decide +kernel
theorem dX11_isDigit_7 : decode cX11_isDigit 7 = .ok (.bipush 57, 2) := by decide +kernel
theorem dX11_isDigit_9 : decode cX11_isDigit 9 = .ok (.if_icmp .gt 7, 3) := by decide +kernel
theorem dX11_isDigit_12 : decode cX11_isDigit 12 = .ok (.iconst 1, 1) := by decide +kernel
theorem dX11_isDigit_13 : decode cX11_isDigit 13 = .ok (.goto 4, 3) := by decide +kernel
set_option maxHeartbeats 4000000 in
set_option maxRecDepth 100000 in
theorem m_isDigit (l : Launch) (dC : Nat → ClassId) (dI : Nat → Nat → Nat) (cy : Nat → ClassId) (vx : Int32)  : Met l yX11_isDigit (wl yX11_isDigit cX11_isDigit 1 (some .boolean)) ({ frames := 0, cells := 0, slots := 0, locals := 0 }) (Pr (dC, dI) vwCl cy [] [.int vx]) (Ri (fun r => ((r = 0 ∧ ((vx : Int32).toInt < 48 ∨ 57 < (vx : Int32).toInt)) ∨ (r = 1 ∧ 48 ≤ (vx : Int32).toInt ∧ (vx : Int32).toInt ≤ 57)))) 0 0 (fun _ => False) := by
  refine mr RX11 rfl (by decide +kernel) (Nat.le_of_ble_eq_true rfl) ?_
  intro p e s m below meth c hx hb hr hlocks av9 hav hts hown hml hK hP hS Q9 hQ9 ls hl
  have hl : lv_has ls 1 [(0, .int vx)] := hl
  refine lv_iload_n hx hb dX11_isDigit_0 rfl (lv_at hl 0 rfl) ?_
  refine lv_bipush (v := 48) hx hb dX11_isDigit_1 (by decide) ?_
  have k_48 : (48 : Int32).toInt = 48 := by decide
  refine lv_icmp_lt (tgt := 16) hx hb dX11_isDigit_3 (by decide) (fun c_1 => ?_) (fun c_1 => ?_)
  · skip
    have c_1 : vx.toInt < (48 : Int32).toInt := i_lt.mp c_1
    refine lv_iconst (v := 0) hx hb dX11_isDigit_16 (by decide) ?_
    have k_0 : (0 : Int32).toInt = 0 := by decide
    rw [hQ9]
    exact rr_z hx hb hr hlocks (Or.inl rfl) (show ((0 : Int32) = 0 ∧ ((vx : Int32).toInt < 48 ∨ 57 < (vx : Int32).toInt)) ∨ ((0 : Int32) = 1 ∧ 48 ≤ (vx : Int32).toInt ∧ (vx : Int32).toInt ≤ 57) from (Or.inl ⟨rfl, by omega⟩)) hS dX11_isDigit_17
  · skip
    have c_1 : ¬ (vx.toInt < (48 : Int32).toInt) := fun h9 => c_1 (i_lt.mpr h9)
    refine lv_iload_n hx hb dX11_isDigit_6 rfl (lv_at hl 0 rfl) ?_
    refine lv_bipush (v := 57) hx hb dX11_isDigit_7 (by decide) ?_
    have k_57 : (57 : Int32).toInt = 57 := by decide
    refine lv_icmp_gt (tgt := 16) hx hb dX11_isDigit_9 (by decide) (fun c_2 => ?_) (fun c_2 => ?_)
    · skip
      have c_2 : (57 : Int32).toInt < vx.toInt := i_lt.mp c_2
      refine lv_iconst (v := 0) hx hb dX11_isDigit_16 (by decide) ?_
      have k_0 : (0 : Int32).toInt = 0 := by decide
      rw [hQ9]
      exact rr_z hx hb hr hlocks (Or.inl rfl) (show ((0 : Int32) = 0 ∧ ((vx : Int32).toInt < 48 ∨ 57 < (vx : Int32).toInt)) ∨ ((0 : Int32) = 1 ∧ 48 ≤ (vx : Int32).toInt ∧ (vx : Int32).toInt ≤ 57) from (Or.inl ⟨rfl, by omega⟩)) hS dX11_isDigit_17
    · skip
      have c_2 : ¬ ((57 : Int32).toInt < vx.toInt) := fun h9 => c_2 (i_lt.mpr h9)
      refine lv_iconst (v := 1) hx hb dX11_isDigit_12 (by decide) ?_
      refine lv_goto (tgt := 17) hx hb dX11_isDigit_13 (by decide) ?_
      have k_1 : (1 : Int32).toInt = 1 := by decide
      rw [hQ9]
      exact rr_z hx hb hr hlocks (Or.inr rfl) (show ((1 : Int32) = 0 ∧ ((vx : Int32).toInt < 48 ∨ 57 < (vx : Int32).toInt)) ∨ ((1 : Int32) = 1 ∧ 48 ≤ (vx : Int32).toInt ∧ (vx : Int32).toInt ≤ 57) from (Or.inr (⟨rfl, by omega, by omega⟩))) hS dX11_isDigit_17
abbrev cX11_isLetter : ByteArray := prog_13_method_15_code
def yX11_isLetter : MethodName := ⟨RX11, "isLetter", "(I)Z"⟩
theorem t1602 : Cond.code yX11_isLetter cX11_isLetter 1 (some .boolean) ∈ GW := gw_mem 1716 (by decide +kernel) (by decide +kernel)
theorem dX11_isLetter_0 : decode cX11_isLetter 0 = .ok (.iload_n 0, 1) := by decide +kernel
theorem dX11_isLetter_1 : decode cX11_isLetter 1 = .ok (.bipush 97, 2) := by decide +kernel
theorem dX11_isLetter_3 : decode cX11_isLetter 3 = .ok (.if_icmp .lt 13, 3) := by decide +kernel
theorem dX11_isLetter_16 : decode cX11_isLetter 16 = .ok (.iconst 0, 1) := by decide +kernel
theorem dX11_isLetter_17 : decode cX11_isLetter 17 = .ok (.ireturn, 1) := by decide +kernel
theorem dX11_isLetter_6 : decode cX11_isLetter 6 = .ok (.iload_n 0, 1) := by decide +kernel
theorem dX11_isLetter_7 : decode cX11_isLetter 7 = .ok (.bipush 122, 2) := by decide +kernel
theorem dX11_isLetter_9 : decode cX11_isLetter 9 = .ok (.if_icmp .gt 7, 3) := by decide +kernel
theorem dX11_isLetter_12 : decode cX11_isLetter 12 = .ok (.iconst 1, 1) := by decide +kernel
theorem dX11_isLetter_13 : decode cX11_isLetter 13 = .ok (.goto 4, 3) := by decide +kernel
set_option maxHeartbeats 4000000 in
set_option maxRecDepth 100000 in
theorem m_isLetter (l : Launch) (dC : Nat → ClassId) (dI : Nat → Nat → Nat) (cy : Nat → ClassId) (vx : Int32)  : Met l yX11_isLetter (wl yX11_isLetter cX11_isLetter 1 (some .boolean)) ({ frames := 0, cells := 0, slots := 0, locals := 0 }) (Pr (dC, dI) vwCl cy [] [.int vx]) (Ri (fun r => ((r = 0 ∧ ((vx : Int32).toInt < 97 ∨ 122 < (vx : Int32).toInt)) ∨ (r = 1 ∧ 97 ≤ (vx : Int32).toInt ∧ (vx : Int32).toInt ≤ 122)))) 0 0 (fun _ => False) := by
  refine mr RX11 rfl (by decide +kernel) (Nat.le_of_ble_eq_true rfl) ?_
  intro p e s m below meth c hx hb hr hlocks av9 hav hts hown hml hK hP hS Q9 hQ9 ls hl
  have hl : lv_has ls 1 [(0, .int vx)] := hl
  refine lv_iload_n hx hb dX11_isLetter_0 rfl (lv_at hl 0 rfl) ?_
  refine lv_bipush (v := 97) hx hb dX11_isLetter_1 (by decide) ?_
  have k_97 : (97 : Int32).toInt = 97 := by decide
  refine lv_icmp_lt (tgt := 16) hx hb dX11_isLetter_3 (by decide) (fun c_1 => ?_) (fun c_1 => ?_)
  · skip
    have c_1 : vx.toInt < (97 : Int32).toInt := i_lt.mp c_1
    refine lv_iconst (v := 0) hx hb dX11_isLetter_16 (by decide) ?_
    have k_0 : (0 : Int32).toInt = 0 := by decide
    rw [hQ9]
    exact rr_z hx hb hr hlocks (Or.inl rfl) (show ((0 : Int32) = 0 ∧ ((vx : Int32).toInt < 97 ∨ 122 < (vx : Int32).toInt)) ∨ ((0 : Int32) = 1 ∧ 97 ≤ (vx : Int32).toInt ∧ (vx : Int32).toInt ≤ 122) from (Or.inl ⟨rfl, by omega⟩)) hS dX11_isLetter_17
  · skip
    have c_1 : ¬ (vx.toInt < (97 : Int32).toInt) := fun h9 => c_1 (i_lt.mpr h9)
    refine lv_iload_n hx hb dX11_isLetter_6 rfl (lv_at hl 0 rfl) ?_
    refine lv_bipush (v := 122) hx hb dX11_isLetter_7 (by decide) ?_
    have k_122 : (122 : Int32).toInt = 122 := by decide
    refine lv_icmp_gt (tgt := 16) hx hb dX11_isLetter_9 (by decide) (fun c_2 => ?_) (fun c_2 => ?_)
    · skip
      have c_2 : (122 : Int32).toInt < vx.toInt := i_lt.mp c_2
      refine lv_iconst (v := 0) hx hb dX11_isLetter_16 (by decide) ?_
      have k_0 : (0 : Int32).toInt = 0 := by decide
      rw [hQ9]
      exact rr_z hx hb hr hlocks (Or.inl rfl) (show ((0 : Int32) = 0 ∧ ((vx : Int32).toInt < 97 ∨ 122 < (vx : Int32).toInt)) ∨ ((0 : Int32) = 1 ∧ 97 ≤ (vx : Int32).toInt ∧ (vx : Int32).toInt ≤ 122) from (Or.inl ⟨rfl, by omega⟩)) hS dX11_isLetter_17
    · skip
      have c_2 : ¬ ((122 : Int32).toInt < vx.toInt) := fun h9 => c_2 (i_lt.mpr h9)
      refine lv_iconst (v := 1) hx hb dX11_isLetter_12 (by decide) ?_
      refine lv_goto (tgt := 17) hx hb dX11_isLetter_13 (by decide) ?_
      have k_1 : (1 : Int32).toInt = 1 := by decide
      rw [hQ9]
      exact rr_z hx hb hr hlocks (Or.inr rfl) (show ((1 : Int32) = 0 ∧ ((vx : Int32).toInt < 97 ∨ 122 < (vx : Int32).toInt)) ∨ ((1 : Int32) = 1 ∧ 97 ≤ (vx : Int32).toInt ∧ (vx : Int32).toInt ≤ 122) from (Or.inr (⟨rfl, by omega, by omega⟩))) hS dX11_isLetter_17
abbrev cX11_go : ByteArray := prog_13_method_16_code
def yX11_go : MethodName := ⟨RX11, "go", "()V"⟩
theorem t1599 : Cond.code yX11_go cX11_go 5 none ∈ GW := gw_mem 1713 (by decide +kernel) (by decide +kernel)
theorem dX11_go_52 : decode cX11_go 52 = .ok (.aload_n 0, 1) := by decide +kernel
theorem dX11_go_53 : decode cX11_go 53 = .ok (.aload_n 0, 1) := by decide +kernel
theorem dX11_go_54 : decode cX11_go 54 = .ok (.getfield 21, 3) := by decide +kernel
theorem t1447 : Cond.fieldLink RX11 21 "LikenessPoundModel" "to" "I" ∈ GW := gw_mem 1561 (by decide +kernel) (by decide +kernel)
theorem gf_X11_21 {p : Program} {l : Launch} {e : Env} {R : Room} {s : State} {m : MethodId} {args : Array Value} {below : List Frame} {meth : Method} {c : Code} {H : Heap} {locs : List Loc} {cells slots : Nat} {Q : State → Prop} {cc : ByteArray} {pc : Nat} {ls : Array Slot} {rest : List Value} {D : va_G} {a : Nat} {tys : List (ClassId × FieldType)} {ws : va_W} (hx : p.tables.exec = Jvm.exec) (hb : c.code = cc) (hts : ∀ w ∈ GW, w.before args s = true) (hown : s.vm.findClass RX11 = some m.cls) (hK : va_K D vwCl tys s) (hP : va_P D vwCl ws H) (q0 : Nat) {fs : List Value} (he : ws[q0]? = some (a, .inr (12, fs))) {v : Value} (hv : fs[5]? = some v) (hdg : decode cc pc = .ok (.getfield 21, 3)) (kk : W p l e R s m args below meth c H locs cells slots Q (F0 m (pc + 3) ls (v :: rest))) : W p l e R s m args below meth c H locs cells slots Q (F0 m pc ls (.ref a :: rest)) := va_get (C := RX11) (T := TX11) (N := 47) (ci := 12) hx hb hts inX11 hown hK hP q0 he rfl 5 (by decide) (hts _ t1447) (fun _ h => h) hv hdg kk
theorem dX11_go_57 : decode cX11_go 57 = .ok (.putfield 24, 3) := by decide +kernel
theorem t1448 : Cond.fieldLink RX11 24 "LikenessPoundModel" "from" "I" ∈ GW := gw_mem 1562 (by decide +kernel) (by decide +kernel)
theorem pf_X11_24 {p : Program} {l : Launch} {e : Env} {R : Room} {s : State} {m : MethodId} {args : Array Value} {below : List Frame} {meth : Method} {c : Code} {H : Heap} {locs : List Loc} {cells slots : Nat} {Q : State → Prop} {cc : ByteArray} {pc : Nat} {ls : Array Slot} {rest : List Value} {D : va_G} {A : Nat → Prop} {a : Nat} {tys : List (ClassId × FieldType)} {ws : va_W} {H0 : Heap} (hx : p.tables.exec = Jvm.exec) (hb : c.code = cc) (hts : ∀ w ∈ GW, w.before args s = true) (hown : s.vm.findClass RX11 = some m.cls) (hK : va_K D vwCl tys s) (hP : va_P D vwCl ws H) (hD : va_D A ws) (hS0 : va_S A H0 H locs) (q0 : Nat) {fs : List Value} (he : ws[q0]? = some (a, .inr (12, fs))) {v : Value} (hn : narrow (tyX11 6) v = v) (hfit : fits (tyX11 6) v = true) (hl : 6 < fs.length) (hdg : decode cc pc = .ok (.putfield 24, 3)) (kk : ∀ (H1 : Heap) (locs1 : List Loc), va_P D vwCl (ws.set q0 (a, .inr (12, fs.set 6 v))) H1 → va_D A (ws.set q0 (a, .inr (12, fs.set 6 v))) → va_S A H0 H1 locs1 → W p l e R s m args below meth c H1 locs1 cells slots Q (F0 m (pc + 3) ls rest)) : W p l e R s m args below meth c H locs cells slots Q (F0 m pc ls (v :: .ref a :: rest)) := va_put (C := RX11) (T := TX11) (N := 47) (ci := 12) hx hb hts inX11 tyX11 tkX11 nmX11 hown hK hP hD hS0 q0 he rfl 6 (by decide) (hts _ t1448) (fun _ h => h) rfl (tkX11 6 (by decide)) hn hfit hl hdg kk
theorem dX11_go_96 : decode cX11_go 96 = .ok (.aload_n 0, 1) := by decide +kernel
theorem dX11_go_97 : decode cX11_go 97 = .ok (.getfield 21, 3) := by decide +kernel
theorem dX11_go_100 : decode cX11_go 100 = .ok (.aload_n 0, 1) := by decide +kernel
theorem dX11_go_101 : decode cX11_go 101 = .ok (.getfield 18, 3) := by decide +kernel
theorem dX11_go_104 : decode cX11_go 104 = .ok (.if_icmp .lt 9, 3) := by decide +kernel
theorem dX11_go_113 : decode cX11_go 113 = .ok (.aload_n 0, 1) := by decide +kernel
theorem dX11_go_114 : decode cX11_go 114 = .ok (.getfield 7, 3) := by decide +kernel
theorem dX11_go_117 : decode cX11_go 117 = .ok (.aload_n 0, 1) := by decide +kernel
theorem dX11_go_118 : decode cX11_go 118 = .ok (.getfield 21, 3) := by decide +kernel
theorem dX11_go_121 : decode cX11_go 121 = .ok (.iaload, 1) := by decide +kernel
theorem dX11_go_122 : decode cX11_go 122 = .ok (.istore_n 1, 1) := by decide +kernel
theorem dX11_go_203 : decode cX11_go 203 = .ok (.iconst 1, 1) := by decide +kernel
theorem dX11_go_204 : decode cX11_go 204 = .ok (.istore_n 3, 1) := by decide +kernel
theorem dX11_go_205 : decode cX11_go 205 = .ok (.aload_n 0, 1) := by decide +kernel
theorem dX11_go_206 : decode cX11_go 206 = .ok (.lconst 0, 1) := by decide +kernel
theorem dX11_go_207 : decode cX11_go 207 = .ok (.putfield 43, 3) := by decide +kernel
theorem t1454 : Cond.fieldLink RX11 43 "LikenessPoundModel" "word" "J" ∈ GW := gw_mem 1568 (by decide +kernel) (by decide +kernel)
theorem pf_X11_43 {p : Program} {l : Launch} {e : Env} {R : Room} {s : State} {m : MethodId} {args : Array Value} {below : List Frame} {meth : Method} {c : Code} {H : Heap} {locs : List Loc} {cells slots : Nat} {Q : State → Prop} {cc : ByteArray} {pc : Nat} {ls : Array Slot} {rest : List Value} {D : va_G} {A : Nat → Prop} {a : Nat} {tys : List (ClassId × FieldType)} {ws : va_W} {H0 : Heap} (hx : p.tables.exec = Jvm.exec) (hb : c.code = cc) (hts : ∀ w ∈ GW, w.before args s = true) (hown : s.vm.findClass RX11 = some m.cls) (hK : va_K D vwCl tys s) (hP : va_P D vwCl ws H) (hD : va_D A ws) (hS0 : va_S A H0 H locs) (q0 : Nat) {fs : List Value} (he : ws[q0]? = some (a, .inr (12, fs))) {v : Value} (hn : narrow (tyX11 12) v = v) (hfit : fits (tyX11 12) v = true) (hl : 12 < fs.length) (hdg : decode cc pc = .ok (.putfield 43, 3)) (kk : ∀ (H1 : Heap) (locs1 : List Loc), va_P D vwCl (ws.set q0 (a, .inr (12, fs.set 12 v))) H1 → va_D A (ws.set q0 (a, .inr (12, fs.set 12 v))) → va_S A H0 H1 locs1 → W p l e R s m args below meth c H1 locs1 cells slots Q (F0 m (pc + 3) ls rest)) : W p l e R s m args below meth c H locs cells slots Q (F0 m pc ls (v :: .ref a :: rest)) := va_put (C := RX11) (T := TX11) (N := 47) (ci := 12) hx hb hts inX11 tyX11 tkX11 nmX11 hown hK hP hD hS0 q0 he rfl 12 (by decide) (hts _ t1454) (fun _ h => h) rfl (tkX11 12 (by decide)) hn hfit hl hdg kk
theorem dX11_go_210 : decode cX11_go 210 = .ok (.aload_n 0, 1) := by decide +kernel
theorem dX11_go_211 : decode cX11_go 211 = .ok (.iconst 0, 1) := by decide +kernel
theorem dX11_go_212 : decode cX11_go 212 = .ok (.putfield 47, 3) := by decide +kernel
theorem t1450 : Cond.fieldLink RX11 47 "LikenessPoundModel" "number" "I" ∈ GW := gw_mem 1564 (by decide +kernel) (by decide +kernel)
theorem pf_X11_47 {p : Program} {l : Launch} {e : Env} {R : Room} {s : State} {m : MethodId} {args : Array Value} {below : List Frame} {meth : Method} {c : Code} {H : Heap} {locs : List Loc} {cells slots : Nat} {Q : State → Prop} {cc : ByteArray} {pc : Nat} {ls : Array Slot} {rest : List Value} {D : va_G} {A : Nat → Prop} {a : Nat} {tys : List (ClassId × FieldType)} {ws : va_W} {H0 : Heap} (hx : p.tables.exec = Jvm.exec) (hb : c.code = cc) (hts : ∀ w ∈ GW, w.before args s = true) (hown : s.vm.findClass RX11 = some m.cls) (hK : va_K D vwCl tys s) (hP : va_P D vwCl ws H) (hD : va_D A ws) (hS0 : va_S A H0 H locs) (q0 : Nat) {fs : List Value} (he : ws[q0]? = some (a, .inr (12, fs))) {v : Value} (hn : narrow (tyX11 8) v = v) (hfit : fits (tyX11 8) v = true) (hl : 8 < fs.length) (hdg : decode cc pc = .ok (.putfield 47, 3)) (kk : ∀ (H1 : Heap) (locs1 : List Loc), va_P D vwCl (ws.set q0 (a, .inr (12, fs.set 8 v))) H1 → va_D A (ws.set q0 (a, .inr (12, fs.set 8 v))) → va_S A H0 H1 locs1 → W p l e R s m args below meth c H1 locs1 cells slots Q (F0 m (pc + 3) ls rest)) : W p l e R s m args below meth c H locs cells slots Q (F0 m pc ls (v :: .ref a :: rest)) := va_put (C := RX11) (T := TX11) (N := 47) (ci := 12) hx hb hts inX11 tyX11 tkX11 nmX11 hown hK hP hD hS0 q0 he rfl 8 (by decide) (hts _ t1450) (fun _ h => h) rfl (tkX11 8 (by decide)) hn hfit hl hdg kk
theorem dX11_go_215 : decode cX11_go 215 = .ok (.aload_n 0, 1) := by decide +kernel
theorem dX11_go_243 : decode cX11_go 243 = .ok (.aload_n 0, 1) := by decide +kernel
theorem dX11_go_244 : decode cX11_go 244 = .ok (.getfield 7, 3) := by decide +kernel
theorem dX11_go_247 : decode cX11_go 247 = .ok (.aload_n 0, 1) := by decide +kernel
theorem dX11_go_248 : decode cX11_go 248 = .ok (.getfield 21, 3) := by decide +kernel
theorem dX11_go_251 : decode cX11_go 251 = .ok (.iaload, 1) := by decide +kernel
theorem dX11_go_252 : decode cX11_go 252 = .ok (.istore 4, 2) := by decide +kernel
theorem dX11_go_337 : decode cX11_go 337 = .ok (.aload_n 0, 1) := by decide +kernel
theorem dX11_go_338 : decode cX11_go 338 = .ok (.dup, 1) := by decide +kernel
theorem dX11_go_339 : decode cX11_go 339 = .ok (.getfield 21, 3) := by decide +kernel
theorem dX11_go_342 : decode cX11_go 342 = .ok (.iconst 1, 1) := by decide +kernel
theorem dX11_go_343 : decode cX11_go 343 = .ok (.iadd, 1) := by decide +kernel
theorem dX11_go_344 : decode cX11_go 344 = .ok (.putfield 21, 3) := by decide +kernel
theorem pf_X11_21 {p : Program} {l : Launch} {e : Env} {R : Room} {s : State} {m : MethodId} {args : Array Value} {below : List Frame} {meth : Method} {c : Code} {H : Heap} {locs : List Loc} {cells slots : Nat} {Q : State → Prop} {cc : ByteArray} {pc : Nat} {ls : Array Slot} {rest : List Value} {D : va_G} {A : Nat → Prop} {a : Nat} {tys : List (ClassId × FieldType)} {ws : va_W} {H0 : Heap} (hx : p.tables.exec = Jvm.exec) (hb : c.code = cc) (hts : ∀ w ∈ GW, w.before args s = true) (hown : s.vm.findClass RX11 = some m.cls) (hK : va_K D vwCl tys s) (hP : va_P D vwCl ws H) (hD : va_D A ws) (hS0 : va_S A H0 H locs) (q0 : Nat) {fs : List Value} (he : ws[q0]? = some (a, .inr (12, fs))) {v : Value} (hn : narrow (tyX11 5) v = v) (hfit : fits (tyX11 5) v = true) (hl : 5 < fs.length) (hdg : decode cc pc = .ok (.putfield 21, 3)) (kk : ∀ (H1 : Heap) (locs1 : List Loc), va_P D vwCl (ws.set q0 (a, .inr (12, fs.set 5 v))) H1 → va_D A (ws.set q0 (a, .inr (12, fs.set 5 v))) → va_S A H0 H1 locs1 → W p l e R s m args below meth c H1 locs1 cells slots Q (F0 m (pc + 3) ls rest)) : W p l e R s m args below meth c H locs cells slots Q (F0 m pc ls (v :: .ref a :: rest)) := va_put (C := RX11) (T := TX11) (N := 47) (ci := 12) hx hb hts inX11 tyX11 tkX11 nmX11 hown hK hP hD hS0 q0 he rfl 5 (by decide) (hts _ t1447) (fun _ h => h) rfl (tkX11 5 (by decide)) hn hfit hl hdg kk
theorem dX11_go_347 : decode cX11_go 347 = .ok (.goto (-132), 3) := by decide +kernel
theorem dX11_go_307 : decode cX11_go 307 = .ok (.aload_n 0, 1) := by decide +kernel
theorem dX11_go_308 : decode cX11_go 308 = .ok (.getfield 21, 3) := by decide +kernel
theorem dX11_go_311 : decode cX11_go 311 = .ok (.aload_n 0, 1) := by decide +kernel
theorem dX11_go_312 : decode cX11_go 312 = .ok (.getfield 24, 3) := by decide +kernel
theorem gf_X11_24 {p : Program} {l : Launch} {e : Env} {R : Room} {s : State} {m : MethodId} {args : Array Value} {below : List Frame} {meth : Method} {c : Code} {H : Heap} {locs : List Loc} {cells slots : Nat} {Q : State → Prop} {cc : ByteArray} {pc : Nat} {ls : Array Slot} {rest : List Value} {D : va_G} {a : Nat} {tys : List (ClassId × FieldType)} {ws : va_W} (hx : p.tables.exec = Jvm.exec) (hb : c.code = cc) (hts : ∀ w ∈ GW, w.before args s = true) (hown : s.vm.findClass RX11 = some m.cls) (hK : va_K D vwCl tys s) (hP : va_P D vwCl ws H) (q0 : Nat) {fs : List Value} (he : ws[q0]? = some (a, .inr (12, fs))) {v : Value} (hv : fs[6]? = some v) (hdg : decode cc pc = .ok (.getfield 24, 3)) (kk : W p l e R s m args below meth c H locs cells slots Q (F0 m (pc + 3) ls (v :: rest))) : W p l e R s m args below meth c H locs cells slots Q (F0 m pc ls (.ref a :: rest)) := va_get (C := RX11) (T := TX11) (N := 47) (ci := 12) hx hb hts inX11 hown hK hP q0 he rfl 6 (by decide) (hts _ t1448) (fun _ h => h) hv hdg kk
theorem dX11_go_315 : decode cX11_go 315 = .ok (.isub, 1) := by decide +kernel
theorem dX11_go_316 : decode cX11_go 316 = .ok (.iconst 3, 1) := by decide +kernel
theorem dX11_go_317 : decode cX11_go 317 = .ok (.if_icmp .ge 20, 3) := by decide +kernel
theorem dX11_go_320 : decode cX11_go 320 = .ok (.aload_n 0, 1) := by decide +kernel
theorem dX11_go_321 : decode cX11_go 321 = .ok (.bipush 10, 2) := by decide +kernel
theorem dX11_go_323 : decode cX11_go 323 = .ok (.aload_n 0, 1) := by decide +kernel
theorem dX11_go_324 : decode cX11_go 324 = .ok (.getfield 47, 3) := by decide +kernel
theorem gf_X11_47 {p : Program} {l : Launch} {e : Env} {R : Room} {s : State} {m : MethodId} {args : Array Value} {below : List Frame} {meth : Method} {c : Code} {H : Heap} {locs : List Loc} {cells slots : Nat} {Q : State → Prop} {cc : ByteArray} {pc : Nat} {ls : Array Slot} {rest : List Value} {D : va_G} {a : Nat} {tys : List (ClassId × FieldType)} {ws : va_W} (hx : p.tables.exec = Jvm.exec) (hb : c.code = cc) (hts : ∀ w ∈ GW, w.before args s = true) (hown : s.vm.findClass RX11 = some m.cls) (hK : va_K D vwCl tys s) (hP : va_P D vwCl ws H) (q0 : Nat) {fs : List Value} (he : ws[q0]? = some (a, .inr (12, fs))) {v : Value} (hv : fs[8]? = some v) (hdg : decode cc pc = .ok (.getfield 47, 3)) (kk : W p l e R s m args below meth c H locs cells slots Q (F0 m (pc + 3) ls (v :: rest))) : W p l e R s m args below meth c H locs cells slots Q (F0 m pc ls (.ref a :: rest)) := va_get (C := RX11) (T := TX11) (N := 47) (ci := 12) hx hb hts inX11 hown hK hP q0 he rfl 8 (by decide) (hts _ t1450) (fun _ h => h) hv hdg kk
theorem dX11_go_327 : decode cX11_go 327 = .ok (.imul, 1) := by decide +kernel
theorem dX11_go_328 : decode cX11_go 328 = .ok (.iload 4, 2) := by decide +kernel
theorem dX11_go_330 : decode cX11_go 330 = .ok (.iadd, 1) := by decide +kernel
theorem dX11_go_331 : decode cX11_go 331 = .ok (.bipush 48, 2) := by decide +kernel
theorem dX11_go_333 : decode cX11_go 333 = .ok (.isub, 1) := by decide +kernel
theorem dX11_go_334 : decode cX11_go 334 = .ok (.putfield 47, 3) := by decide +kernel
theorem dX11_go_273 : decode cX11_go 273 = .ok (.aload_n 0, 1) := by decide +kernel
theorem dX11_go_274 : decode cX11_go 274 = .ok (.getfield 21, 3) := by decide +kernel
theorem dX11_go_277 : decode cX11_go 277 = .ok (.aload_n 0, 1) := by decide +kernel
theorem dX11_go_278 : decode cX11_go 278 = .ok (.getfield 24, 3) := by decide +kernel
theorem dX11_go_281 : decode cX11_go 281 = .ok (.isub, 1) := by decide +kernel
theorem dX11_go_282 : decode cX11_go 282 = .ok (.bipush 7, 2) := by decide +kernel
theorem dX11_go_284 : decode cX11_go 284 = .ok (.if_icmp .ge 23, 3) := by decide +kernel
theorem dX11_go_287 : decode cX11_go 287 = .ok (.aload_n 0, 1) := by decide +kernel
theorem dX11_go_288 : decode cX11_go 288 = .ok (.ldc2_w 54, 3) := by decide +kernel
theorem t1610 : Cond.constantLong RX11 54 27 ∈ GW := gw_mem 1724 (by decide +kernel) (by decide +kernel)
theorem dX11_go_291 : decode cX11_go 291 = .ok (.aload_n 0, 1) := by decide +kernel
theorem dX11_go_292 : decode cX11_go 292 = .ok (.getfield 43, 3) := by decide +kernel
theorem gf_X11_43 {p : Program} {l : Launch} {e : Env} {R : Room} {s : State} {m : MethodId} {args : Array Value} {below : List Frame} {meth : Method} {c : Code} {H : Heap} {locs : List Loc} {cells slots : Nat} {Q : State → Prop} {cc : ByteArray} {pc : Nat} {ls : Array Slot} {rest : List Value} {D : va_G} {a : Nat} {tys : List (ClassId × FieldType)} {ws : va_W} (hx : p.tables.exec = Jvm.exec) (hb : c.code = cc) (hts : ∀ w ∈ GW, w.before args s = true) (hown : s.vm.findClass RX11 = some m.cls) (hK : va_K D vwCl tys s) (hP : va_P D vwCl ws H) (q0 : Nat) {fs : List Value} (he : ws[q0]? = some (a, .inr (12, fs))) {v : Value} (hv : fs[12]? = some v) (hdg : decode cc pc = .ok (.getfield 43, 3)) (kk : W p l e R s m args below meth c H locs cells slots Q (F0 m (pc + 3) ls (v :: rest))) : W p l e R s m args below meth c H locs cells slots Q (F0 m pc ls (.ref a :: rest)) := va_get (C := RX11) (T := TX11) (N := 47) (ci := 12) hx hb hts inX11 hown hK hP q0 he rfl 12 (by decide) (hts _ t1454) (fun _ h => h) hv hdg kk
theorem dX11_go_295 : decode cX11_go 295 = .ok (.lmul, 1) := by decide +kernel
theorem dX11_go_296 : decode cX11_go 296 = .ok (.iload 4, 2) := by decide +kernel
theorem dX11_go_298 : decode cX11_go 298 = .ok (.i2l, 1) := by decide +kernel
theorem dX11_go_299 : decode cX11_go 299 = .ok (.ladd, 1) := by decide +kernel
theorem dX11_go_300 : decode cX11_go 300 = .ok (.ldc2_w 56, 3) := by decide +kernel
theorem t1611 : Cond.constantLong RX11 56 96 ∈ GW := gw_mem 1725 (by decide +kernel) (by decide +kernel)
theorem dX11_go_303 : decode cX11_go 303 = .ok (.lsub, 1) := by decide +kernel
theorem dX11_go_304 : decode cX11_go 304 = .ok (.putfield 43, 3) := by decide +kernel
theorem dX11_go_254 : decode cX11_go 254 = .ok (.iload_n 3, 1) := by decide +kernel
theorem dX11_go_255 : decode cX11_go 255 = .ok (.ifCond .eq 16, 3) := by decide +kernel
theorem dX11_go_271 : decode cX11_go 271 = .ok (.iconst 0, 1) := by decide +kernel
theorem dX11_go_272 : decode cX11_go 272 = .ok (.istore_n 3, 1) := by decide +kernel
theorem dX11_go_258 : decode cX11_go 258 = .ok (.iload 4, 2) := by decide +kernel
theorem dX11_go_260 : decode cX11_go 260 = .ok (.invokestatic 33, 3) := by decide +kernel
theorem t1600 : Cond.methodLink RX11 33 yX11_isLetter ∈ GW := gw_mem 1714 (by decide +kernel) (by decide +kernel)
theorem t1601 : Cond.static yX11_isLetter ∈ GW := gw_mem 1715 (by decide +kernel) (by decide +kernel)
theorem cw_X11_33 {R : Room} {s : State} {args : Array Value} {rm : Room} {mc ms : Nat} (hts : ∀ w ∈ GW, w.before args s = true) (hrc : rm.cells = mc) (hrs : rm.slots = ms) (hR : rm.frames + 1 ≤ R.frames ∧ 8 + (1 + 11) + rm.locals ≤ R.locals) : CallB R s args RX11 33 yX11_isLetter cX11_isLetter 1 (some .boolean) (wl yX11_isLetter cX11_isLetter 1 (some .boolean)) rm mc ms 1 ∧ (Cond.static yX11_isLetter).before args s = true := va_cwS 1 hts (gi_S t1600 t1601 t18 t1602) rfl hrc hrs (by decide +kernel) hR
theorem dX11_go_263 : decode cX11_go 263 = .ok (.iload_n 2, 1) := by decide +kernel
theorem dX11_go_264 : decode cX11_go 264 = .ok (.if_icmp .ne 7, 3) := by decide +kernel
theorem dX11_go_267 : decode cX11_go 267 = .ok (.iconst 1, 1) := by decide +kernel
theorem dX11_go_268 : decode cX11_go 268 = .ok (.goto 4, 3) := by decide +kernel
theorem dX11_go_216 : decode cX11_go 216 = .ok (.aload_n 0, 1) := by decide +kernel
theorem dX11_go_217 : decode cX11_go 217 = .ok (.getfield 21, 3) := by decide +kernel
theorem dX11_go_220 : decode cX11_go 220 = .ok (.invokevirtual 50, 3) := by decide +kernel
theorem t1606 : Cond.methodLink RX11 50 yX11_tapeAt ∈ GW := gw_mem 1720 (by decide +kernel) (by decide +kernel)
theorem t1608 : Cond.instanceMethod yX11_tapeAt ∈ GW := gw_mem 1722 (by decide +kernel) (by decide +kernel)
theorem s43 : Cond.selects RX11 yX11_tapeAt yX11_tapeAt ∈ GW := gw_mem 43 (by decide +kernel) (by decide +kernel)
theorem cw_X11_50 {R : Room} {s : State} {args : Array Value} {rm : Room} {mc ms : Nat} (hts : ∀ w ∈ GW, w.before args s = true) (hrc : rm.cells = mc) (hrs : rm.slots = ms) (hR : rm.frames + 1 ≤ R.frames ∧ 8 + (2 + 11) + rm.locals ≤ R.locals) : CallW R s args RX11 RX11 50 yX11_tapeAt cX11_tapeAt 2 (some .int) (wl yX11_tapeAt cX11_tapeAt 2 (some .int)) rm mc ms 1 := cwV 1 hts (gi_V t1606 t1608 s43 t18 t1609) rfl hrc hrs (by decide +kernel) hR
theorem dX11_go_223 : decode cX11_go 223 = .ok (.invokestatic 33, 3) := by decide +kernel
theorem dX11_go_226 : decode cX11_go 226 = .ok (.ifCond .ne 17, 3) := by decide +kernel
theorem dX11_go_229 : decode cX11_go 229 = .ok (.aload_n 0, 1) := by decide +kernel
theorem dX11_go_230 : decode cX11_go 230 = .ok (.aload_n 0, 1) := by decide +kernel
theorem dX11_go_231 : decode cX11_go 231 = .ok (.getfield 21, 3) := by decide +kernel
theorem dX11_go_234 : decode cX11_go 234 = .ok (.invokevirtual 50, 3) := by decide +kernel
theorem dX11_go_237 : decode cX11_go 237 = .ok (.invokestatic 37, 3) := by decide +kernel
theorem t1603 : Cond.methodLink RX11 37 yX11_isDigit ∈ GW := gw_mem 1717 (by decide +kernel) (by decide +kernel)
theorem t1604 : Cond.static yX11_isDigit ∈ GW := gw_mem 1718 (by decide +kernel) (by decide +kernel)
theorem cw_X11_37 {R : Room} {s : State} {args : Array Value} {rm : Room} {mc ms : Nat} (hts : ∀ w ∈ GW, w.before args s = true) (hrc : rm.cells = mc) (hrs : rm.slots = ms) (hR : rm.frames + 1 ≤ R.frames ∧ 8 + (1 + 11) + rm.locals ≤ R.locals) : CallB R s args RX11 37 yX11_isDigit cX11_isDigit 1 (some .boolean) (wl yX11_isDigit cX11_isDigit 1 (some .boolean)) rm mc ms 1 ∧ (Cond.static yX11_isDigit).before args s = true := va_cwS 1 hts (gi_S t1603 t1604 t18 t1605) rfl hrc hrs (by decide +kernel) hR
theorem dX11_go_240 : decode cX11_go 240 = .ok (.ifCond .eq 110, 3) := by decide +kernel
theorem dX11_go_350 : decode cX11_go 350 = .ok (.aload_n 0, 1) := by decide +kernel
theorem dX11_go_351 : decode cX11_go 351 = .ok (.iload_n 3, 1) := by decide +kernel
theorem dX11_go_352 : decode cX11_go 352 = .ok (.ifCond .eq 25, 3) := by decide +kernel
theorem dX11_go_377 : decode cX11_go 377 = .ok (.iconst 1, 1) := by decide +kernel
theorem dX11_go_378 : decode cX11_go 378 = .ok (.goto 12, 3) := by decide +kernel
theorem dX11_go_390 : decode cX11_go 390 = .ok (.putfield 30, 3) := by decide +kernel
theorem t1449 : Cond.fieldLink RX11 30 "LikenessPoundModel" "kind" "I" ∈ GW := gw_mem 1563 (by decide +kernel) (by decide +kernel)
theorem pf_X11_30 {p : Program} {l : Launch} {e : Env} {R : Room} {s : State} {m : MethodId} {args : Array Value} {below : List Frame} {meth : Method} {c : Code} {H : Heap} {locs : List Loc} {cells slots : Nat} {Q : State → Prop} {cc : ByteArray} {pc : Nat} {ls : Array Slot} {rest : List Value} {D : va_G} {A : Nat → Prop} {a : Nat} {tys : List (ClassId × FieldType)} {ws : va_W} {H0 : Heap} (hx : p.tables.exec = Jvm.exec) (hb : c.code = cc) (hts : ∀ w ∈ GW, w.before args s = true) (hown : s.vm.findClass RX11 = some m.cls) (hK : va_K D vwCl tys s) (hP : va_P D vwCl ws H) (hD : va_D A ws) (hS0 : va_S A H0 H locs) (q0 : Nat) {fs : List Value} (he : ws[q0]? = some (a, .inr (12, fs))) {v : Value} (hn : narrow (tyX11 7) v = v) (hfit : fits (tyX11 7) v = true) (hl : 7 < fs.length) (hdg : decode cc pc = .ok (.putfield 30, 3)) (kk : ∀ (H1 : Heap) (locs1 : List Loc), va_P D vwCl (ws.set q0 (a, .inr (12, fs.set 7 v))) H1 → va_D A (ws.set q0 (a, .inr (12, fs.set 7 v))) → va_S A H0 H1 locs1 → W p l e R s m args below meth c H1 locs1 cells slots Q (F0 m (pc + 3) ls rest)) : W p l e R s m args below meth c H locs cells slots Q (F0 m pc ls (v :: .ref a :: rest)) := va_put (C := RX11) (T := TX11) (N := 47) (ci := 12) hx hb hts inX11 tyX11 tkX11 nmX11 hown hK hP hD hS0 q0 he rfl 7 (by decide) (hts _ t1449) (fun _ h => h) rfl (tkX11 7 (by decide)) hn hfit hl hdg kk
theorem dX11_go_393 : decode cX11_go 393 = .ok (.return_, 1) := by decide +kernel
theorem dX11_go_355 : decode cX11_go 355 = .ok (.aload_n 0, 1) := by decide +kernel
theorem dX11_go_356 : decode cX11_go 356 = .ok (.getfield 21, 3) := by decide +kernel
theorem dX11_go_359 : decode cX11_go 359 = .ok (.aload_n 0, 1) := by decide +kernel
theorem dX11_go_360 : decode cX11_go 360 = .ok (.getfield 24, 3) := by decide +kernel
theorem dX11_go_363 : decode cX11_go 363 = .ok (.isub, 1) := by decide +kernel
theorem dX11_go_364 : decode cX11_go 364 = .ok (.iload_n 2, 1) := by decide +kernel
theorem dX11_go_365 : decode cX11_go 365 = .ok (.ifCond .eq 8, 3) := by decide +kernel
theorem dX11_go_373 : decode cX11_go 373 = .ok (.iconst 3, 1) := by decide +kernel
theorem dX11_go_374 : decode cX11_go 374 = .ok (.if_icmp .le 7, 3) := by decide +kernel
theorem dX11_go_381 : decode cX11_go 381 = .ok (.iload_n 2, 1) := by decide +kernel
theorem dX11_go_382 : decode cX11_go 382 = .ok (.ifCond .eq 7, 3) := by decide +kernel
theorem dX11_go_389 : decode cX11_go 389 = .ok (.iconst 3, 1) := by decide +kernel
theorem dX11_go_368 : decode cX11_go 368 = .ok (.bipush 7, 2) := by decide +kernel
theorem dX11_go_370 : decode cX11_go 370 = .ok (.goto 4, 3) := by decide +kernel
theorem dX11_go_385 : decode cX11_go 385 = .ok (.iconst 2, 1) := by decide +kernel
theorem dX11_go_386 : decode cX11_go 386 = .ok (.goto 4, 3) := by decide +kernel
theorem dX11_go_198 : decode cX11_go 198 = .ok (.iload_n 1, 1) := by decide +kernel
theorem dX11_go_199 : decode cX11_go 199 = .ok (.invokestatic 33, 3) := by decide +kernel
theorem dX11_go_202 : decode cX11_go 202 = .ok (.istore_n 2, 1) := by decide +kernel
theorem dX11_go_123 : decode cX11_go 123 = .ok (.iload_n 1, 1) := by decide +kernel
theorem dX11_go_124 : decode cX11_go 124 = .ok (.invokestatic 33, 3) := by decide +kernel
theorem dX11_go_127 : decode cX11_go 127 = .ok (.ifCond .ne 71, 3) := by decide +kernel
theorem dX11_go_130 : decode cX11_go 130 = .ok (.iload_n 1, 1) := by decide +kernel
theorem dX11_go_131 : decode cX11_go 131 = .ok (.invokestatic 37, 3) := by decide +kernel
theorem dX11_go_134 : decode cX11_go 134 = .ok (.ifCond .ne 64, 3) := by decide +kernel
theorem dX11_go_182 : decode cX11_go 182 = .ok (.aload_n 0, 1) := by decide +kernel
theorem dX11_go_183 : decode cX11_go 183 = .ok (.iload_n 1, 1) := by decide +kernel
theorem dX11_go_184 : decode cX11_go 184 = .ok (.putfield 40, 3) := by decide +kernel
theorem t1451 : Cond.fieldLink RX11 40 "LikenessPoundModel" "sign" "I" ∈ GW := gw_mem 1565 (by decide +kernel) (by decide +kernel)
theorem pf_X11_40 {p : Program} {l : Launch} {e : Env} {R : Room} {s : State} {m : MethodId} {args : Array Value} {below : List Frame} {meth : Method} {c : Code} {H : Heap} {locs : List Loc} {cells slots : Nat} {Q : State → Prop} {cc : ByteArray} {pc : Nat} {ls : Array Slot} {rest : List Value} {D : va_G} {A : Nat → Prop} {a : Nat} {tys : List (ClassId × FieldType)} {ws : va_W} {H0 : Heap} (hx : p.tables.exec = Jvm.exec) (hb : c.code = cc) (hts : ∀ w ∈ GW, w.before args s = true) (hown : s.vm.findClass RX11 = some m.cls) (hK : va_K D vwCl tys s) (hP : va_P D vwCl ws H) (hD : va_D A ws) (hS0 : va_S A H0 H locs) (q0 : Nat) {fs : List Value} (he : ws[q0]? = some (a, .inr (12, fs))) {v : Value} (hn : narrow (tyX11 9) v = v) (hfit : fits (tyX11 9) v = true) (hl : 9 < fs.length) (hdg : decode cc pc = .ok (.putfield 40, 3)) (kk : ∀ (H1 : Heap) (locs1 : List Loc), va_P D vwCl (ws.set q0 (a, .inr (12, fs.set 9 v))) H1 → va_D A (ws.set q0 (a, .inr (12, fs.set 9 v))) → va_S A H0 H1 locs1 → W p l e R s m args below meth c H1 locs1 cells slots Q (F0 m (pc + 3) ls rest)) : W p l e R s m args below meth c H locs cells slots Q (F0 m pc ls (v :: .ref a :: rest)) := va_put (C := RX11) (T := TX11) (N := 47) (ci := 12) hx hb hts inX11 tyX11 tkX11 nmX11 hown hK hP hD hS0 q0 he rfl 9 (by decide) (hts _ t1451) (fun _ h => h) rfl (tkX11 9 (by decide)) hn hfit hl hdg kk
theorem dX11_go_187 : decode cX11_go 187 = .ok (.aload_n 0, 1) := by decide +kernel
theorem dX11_go_188 : decode cX11_go 188 = .ok (.dup, 1) := by decide +kernel
theorem dX11_go_189 : decode cX11_go 189 = .ok (.getfield 21, 3) := by decide +kernel
theorem dX11_go_192 : decode cX11_go 192 = .ok (.iconst 1, 1) := by decide +kernel
theorem dX11_go_193 : decode cX11_go 193 = .ok (.iadd, 1) := by decide +kernel
theorem dX11_go_194 : decode cX11_go 194 = .ok (.putfield 21, 3) := by decide +kernel
theorem dX11_go_197 : decode cX11_go 197 = .ok (.return_, 1) := by decide +kernel
theorem dX11_go_137 : decode cX11_go 137 = .ok (.aload_n 0, 1) := by decide +kernel
theorem dX11_go_138 : decode cX11_go 138 = .ok (.iload_n 1, 1) := by decide +kernel
theorem dX11_go_139 : decode cX11_go 139 = .ok (.bipush 59, 2) := by decide +kernel
theorem dX11_go_141 : decode cX11_go 141 = .ok (.if_icmp .eq 33, 3) := by decide +kernel
theorem dX11_go_174 : decode cX11_go 174 = .ok (.iconst 4, 1) := by decide +kernel
theorem dX11_go_175 : decode cX11_go 175 = .ok (.goto 4, 3) := by decide +kernel
theorem dX11_go_179 : decode cX11_go 179 = .ok (.putfield 30, 3) := by decide +kernel
theorem dX11_go_144 : decode cX11_go 144 = .ok (.iload_n 1, 1) := by decide +kernel
theorem dX11_go_145 : decode cX11_go 145 = .ok (.bipush 60, 2) := by decide +kernel
theorem dX11_go_147 : decode cX11_go 147 = .ok (.if_icmp .eq 27, 3) := by decide +kernel
theorem dX11_go_150 : decode cX11_go 150 = .ok (.iload_n 1, 1) := by decide +kernel
theorem dX11_go_151 : decode cX11_go 151 = .ok (.bipush 61, 2) := by decide +kernel
theorem dX11_go_153 : decode cX11_go 153 = .ok (.if_icmp .eq 21, 3) := by decide +kernel
theorem dX11_go_156 : decode cX11_go 156 = .ok (.iload_n 1, 1) := by decide +kernel
theorem dX11_go_157 : decode cX11_go 157 = .ok (.bipush 62, 2) := by decide +kernel
theorem dX11_go_159 : decode cX11_go 159 = .ok (.if_icmp .eq 15, 3) := by decide +kernel
theorem dX11_go_162 : decode cX11_go 162 = .ok (.iload_n 1, 1) := by decide +kernel
theorem dX11_go_163 : decode cX11_go 163 = .ok (.bipush 40, 2) := by decide +kernel
theorem dX11_go_165 : decode cX11_go 165 = .ok (.if_icmp .eq 9, 3) := by decide +kernel
theorem dX11_go_168 : decode cX11_go 168 = .ok (.iload_n 1, 1) := by decide +kernel
theorem dX11_go_169 : decode cX11_go 169 = .ok (.bipush 41, 2) := by decide +kernel
theorem dX11_go_171 : decode cX11_go 171 = .ok (.if_icmp .ne 7, 3) := by decide +kernel
theorem dX11_go_178 : decode cX11_go 178 = .ok (.iconst 1, 1) := by decide +kernel
theorem dX11_go_107 : decode cX11_go 107 = .ok (.aload_n 0, 1) := by decide +kernel
theorem dX11_go_108 : decode cX11_go 108 = .ok (.iconst 0, 1) := by decide +kernel
theorem dX11_go_109 : decode cX11_go 109 = .ok (.putfield 30, 3) := by decide +kernel
theorem dX11_go_112 : decode cX11_go 112 = .ok (.return_, 1) := by decide +kernel
theorem dX11_go_60 : decode cX11_go 60 = .ok (.aload_n 0, 1) := by decide +kernel
theorem dX11_go_61 : decode cX11_go 61 = .ok (.getfield 18, 3) := by decide +kernel
theorem dX11_go_64 : decode cX11_go 64 = .ok (.aload_n 0, 1) := by decide +kernel
theorem dX11_go_65 : decode cX11_go 65 = .ok (.getfield 27, 3) := by decide +kernel
theorem t1446 : Cond.fieldLink RX11 27 "LikenessPoundModel" "limit" "I" ∈ GW := gw_mem 1560 (by decide +kernel) (by decide +kernel)
theorem gf_X11_27 {p : Program} {l : Launch} {e : Env} {R : Room} {s : State} {m : MethodId} {args : Array Value} {below : List Frame} {meth : Method} {c : Code} {H : Heap} {locs : List Loc} {cells slots : Nat} {Q : State → Prop} {cc : ByteArray} {pc : Nat} {ls : Array Slot} {rest : List Value} {D : va_G} {a : Nat} {tys : List (ClassId × FieldType)} {ws : va_W} (hx : p.tables.exec = Jvm.exec) (hb : c.code = cc) (hts : ∀ w ∈ GW, w.before args s = true) (hown : s.vm.findClass RX11 = some m.cls) (hK : va_K D vwCl tys s) (hP : va_P D vwCl ws H) (q0 : Nat) {fs : List Value} (he : ws[q0]? = some (a, .inr (12, fs))) {v : Value} (hv : fs[4]? = some v) (hdg : decode cc pc = .ok (.getfield 27, 3)) (kk : W p l e R s m args below meth c H locs cells slots Q (F0 m (pc + 3) ls (v :: rest))) : W p l e R s m args below meth c H locs cells slots Q (F0 m pc ls (.ref a :: rest)) := va_get (C := RX11) (T := TX11) (N := 47) (ci := 12) hx hb hts inX11 hown hK hP q0 he rfl 4 (by decide) (hts _ t1446) (fun _ h => h) hv hdg kk
theorem dX11_go_68 : decode cX11_go 68 = .ok (.if_icmp .le 28, 3) := by decide +kernel
theorem dX11_go_71 : decode cX11_go 71 = .ok (.aload_n 0, 1) := by decide +kernel
theorem dX11_go_72 : decode cX11_go 72 = .ok (.getfield 24, 3) := by decide +kernel
theorem dX11_go_75 : decode cX11_go 75 = .ok (.aload_n 0, 1) := by decide +kernel
theorem dX11_go_76 : decode cX11_go 76 = .ok (.getfield 27, 3) := by decide +kernel
theorem dX11_go_79 : decode cX11_go 79 = .ok (.if_icmp .lt 17, 3) := by decide +kernel
theorem dX11_go_82 : decode cX11_go 82 = .ok (.aload_n 0, 1) := by decide +kernel
theorem dX11_go_83 : decode cX11_go 83 = .ok (.aload_n 0, 1) := by decide +kernel
theorem dX11_go_84 : decode cX11_go 84 = .ok (.getfield 27, 3) := by decide +kernel
theorem dX11_go_87 : decode cX11_go 87 = .ok (.putfield 24, 3) := by decide +kernel
theorem dX11_go_90 : decode cX11_go 90 = .ok (.aload_n 0, 1) := by decide +kernel
theorem dX11_go_91 : decode cX11_go 91 = .ok (.iconst 1, 1) := by decide +kernel
theorem dX11_go_92 : decode cX11_go 92 = .ok (.putfield 30, 3) := by decide +kernel
theorem dX11_go_95 : decode cX11_go 95 = .ok (.return_, 1) := by decide +kernel
theorem dX11_go_0 : decode cX11_go 0 = .ok (.aload_n 0, 1) := by decide +kernel
theorem dX11_go_1 : decode cX11_go 1 = .ok (.getfield 21, 3) := by decide +kernel
theorem dX11_go_4 : decode cX11_go 4 = .ok (.aload_n 0, 1) := by decide +kernel
theorem dX11_go_5 : decode cX11_go 5 = .ok (.getfield 18, 3) := by decide +kernel
theorem dX11_go_8 : decode cX11_go 8 = .ok (.if_icmp .ge 44, 3) := by decide +kernel
theorem dX11_go_11 : decode cX11_go 11 = .ok (.aload_n 0, 1) := by decide +kernel
theorem dX11_go_12 : decode cX11_go 12 = .ok (.getfield 7, 3) := by decide +kernel
theorem dX11_go_15 : decode cX11_go 15 = .ok (.aload_n 0, 1) := by decide +kernel
theorem dX11_go_16 : decode cX11_go 16 = .ok (.getfield 21, 3) := by decide +kernel
theorem dX11_go_19 : decode cX11_go 19 = .ok (.iaload, 1) := by decide +kernel
theorem dX11_go_20 : decode cX11_go 20 = .ok (.bipush 32, 2) := by decide +kernel
theorem dX11_go_22 : decode cX11_go 22 = .ok (.if_icmp .eq 17, 3) := by decide +kernel
theorem dX11_go_39 : decode cX11_go 39 = .ok (.aload_n 0, 1) := by decide +kernel
theorem dX11_go_40 : decode cX11_go 40 = .ok (.dup, 1) := by decide +kernel
theorem dX11_go_41 : decode cX11_go 41 = .ok (.getfield 21, 3) := by decide +kernel
theorem dX11_go_44 : decode cX11_go 44 = .ok (.iconst 1, 1) := by decide +kernel
theorem dX11_go_45 : decode cX11_go 45 = .ok (.iadd, 1) := by decide +kernel
theorem dX11_go_46 : decode cX11_go 46 = .ok (.putfield 21, 3) := by decide +kernel
theorem dX11_go_49 : decode cX11_go 49 = .ok (.goto (-49), 3) := by decide +kernel
theorem dX11_go_25 : decode cX11_go 25 = .ok (.aload_n 0, 1) := by decide +kernel
theorem dX11_go_26 : decode cX11_go 26 = .ok (.getfield 7, 3) := by decide +kernel
theorem dX11_go_29 : decode cX11_go 29 = .ok (.aload_n 0, 1) := by decide +kernel
theorem dX11_go_30 : decode cX11_go 30 = .ok (.getfield 21, 3) := by decide +kernel
theorem dX11_go_33 : decode cX11_go 33 = .ok (.iaload, 1) := by decide +kernel
theorem dX11_go_34 : decode cX11_go 34 = .ok (.bipush 10, 2) := by decide +kernel
theorem dX11_go_36 : decode cX11_go 36 = .ok (.if_icmp .ne 16, 3) := by decide +kernel
