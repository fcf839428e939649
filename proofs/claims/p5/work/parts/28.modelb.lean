abbrev cX11_careerFrom : ByteArray := prog_13_method_90_code
def yX11_careerFrom : MethodName := ⟨RX11, "careerFrom", "(IIIII)V"⟩
theorem t1909 : Cond.code yX11_careerFrom cX11_careerFrom 8 none ∈ GW := gw_mem 2023 (by decide +kernel) (by decide +kernel)
abbrev O_m_careerFrom_10 (cy : Nat → ClassId) (vnh : Nat → Int32) (vo : Nat) (voth : Int32) (vmt : Nat) (votp : Int32) (vosz : Int32) (volm : Int32) (voto : Int32) (vofr : Int32) (vokd : Int32) (vonu : Int32) (vosg : Int32) (vofa : Int32) (vopl : Int32) (vowd : Int64) (votd : Int32) (vmn : Nat) (vmr : Nat) (vmk : Nat) (vms : Nat) (vma : Nat) (vmm : Nat) (vmrn : Nat) (vmkn : Nat) (vmik : Nat) (vmon : Nat) (vosm : Int32) (vohp : Int32) (vmw : Nat) (vmf : Nat) (vmb : Nat) (vomb : Int32) (vmd : Nat) (vmc : Nat) (vocm : Int32) (voct : Int32) (vocy : Int32) (vmx : Nat) (votx : Int32) (vose : Int32) (vml : Nat) (vmwr : Nat) (voln : Int32) (vohw : Int32) (vmno : Nat) (vond : Int32) (voon : Int32) (vowi : Int32) (votop : Int32) (vmnf : Nat → Int32) (vmdf : Nat → Int32) (vmcf : Nat → Int32) (vm : Int32) (vlf : Int32) (vti : Int32) (vwe : Int32) (u : Int32 × Int32 × (Nat → Int32) × Int32 × (Nat → Int32)) : va_W := [(vo, .inr (12, [.int voth, .ref vmt, .int votp, .int vosz, .int volm, .int voto, .int vofr, .int vokd, .int vonu, .int vosg, .int vofa, .int vopl, .long vowd, .int votd, .ref vmn, .ref vmr, .ref vmk, .ref vms, .ref vma, .ref vmm, .ref vmrn, .ref vmkn, .ref vmik, .ref vmon, .int vosm, .int vohp, .ref vmw, .ref vmf, .ref vmb, .int vomb, .ref vmd, .ref vmc, .int u.1, .int u.2.1, .int u.2.2.2.1, .ref vmx, .int votx, .int vose, .ref vml, .ref vmwr, .int voln, .int vohw, .ref vmno, .int vond, .int voon, .int vowi, .int votop])), (vmn, .inl (cy 0, 575, .inl vmnf)), (vmd, .inl (cy 0, 10, .inl u.2.2.2.2)), (vmc, .inl (cy 0, 10, .inl u.2.2.1))]
theorem dX11_careerFrom_0 : decode cX11_careerFrom 0 = .ok (.iload_n 2, 1) := by decide +kernel
theorem dX11_careerFrom_1 : decode cX11_careerFrom 1 = .ok (.aload_n 0, 1) := by decide +kernel
theorem dX11_careerFrom_2 : decode cX11_careerFrom 2 = .ok (.getfield 98, 3) := by decide +kernel
theorem dX11_careerFrom_5 : decode cX11_careerFrom 5 = .ok (.iconst 1, 1) := by decide +kernel
theorem dX11_careerFrom_6 : decode cX11_careerFrom 6 = .ok (.iaload, 1) := by decide +kernel
theorem dX11_careerFrom_7 : decode cX11_careerFrom 7 = .ok (.if_icmp .ne 78, 3) := by decide +kernel
theorem dX11_careerFrom_38 : decode cX11_careerFrom 38 = .ok (.aload_n 0, 1) := by decide +kernel
theorem dX11_careerFrom_39 : decode cX11_careerFrom 39 = .ok (.iload 5, 2) := by decide +kernel
theorem dX11_careerFrom_41 : decode cX11_careerFrom 41 = .ok (.putfield 322, 3) := by decide +kernel
theorem t1474 : Cond.fieldLink RX11 322 "LikenessPoundModel" "careerMost" "I" ∈ GW := gw_mem 1588 (by decide +kernel) (by decide +kernel)
theorem pf_X11_322 {p : Program} {l : Launch} {e : Env} {R : Room} {s : State} {m : MethodId} {args : Array Value} {below : List Frame} {meth : Method} {c : Code} {H : Heap} {locs : List Loc} {cells slots : Nat} {Q : State → Prop} {cc : ByteArray} {pc : Nat} {ls : Array Slot} {rest : List Value} {D : va_G} {A : Nat → Prop} {a : Nat} {tys : List (ClassId × FieldType)} {ws : va_W} {H0 : Heap} (hx : p.tables.exec = Jvm.exec) (hb : c.code = cc) (hts : ∀ w ∈ GW, w.before args s = true) (hown : s.vm.findClass RX11 = some m.cls) (hK : va_K D vwCl tys s) (hP : va_P D vwCl ws H) (hD : va_D A ws) (hS0 : va_S A H0 H locs) (q0 : Nat) {fs : List Value} (he : ws[q0]? = some (a, .inr (12, fs))) {v : Value} (hn : narrow (tyX11 32) v = v) (hfit : fits (tyX11 32) v = true) (hl : 32 < fs.length) (hdg : decode cc pc = .ok (.putfield 322, 3)) (kk : ∀ (H1 : Heap) (locs1 : List Loc), va_P D vwCl (ws.set q0 (a, .inr (12, fs.set 32 v))) H1 → va_D A (ws.set q0 (a, .inr (12, fs.set 32 v))) → va_S A H0 H1 locs1 → W p l e R s m args below meth c H1 locs1 cells slots Q (F0 m (pc + 3) ls rest)) : W p l e R s m args below meth c H locs cells slots Q (F0 m pc ls (v :: .ref a :: rest)) := va_put (C := RX11) (T := TX11) (N := 47) (ci := 12) hx hb hts inX11 tyX11 tkX11 nmX11 hown hK hP hD hS0 q0 he rfl 32 (by decide) (hts _ t1474) (fun _ h => h) rfl (tkX11 32 (by decide)) hn hfit hl hdg kk
theorem dX11_careerFrom_44 : decode cX11_careerFrom 44 = .ok (.aload_n 0, 1) := by decide +kernel
theorem dX11_careerFrom_45 : decode cX11_careerFrom 45 = .ok (.iload 4, 2) := by decide +kernel
theorem dX11_careerFrom_47 : decode cX11_careerFrom 47 = .ok (.putfield 325, 3) := by decide +kernel
theorem t1475 : Cond.fieldLink RX11 325 "LikenessPoundModel" "careerTimes" "I" ∈ GW := gw_mem 1589 (by decide +kernel) (by decide +kernel)
theorem pf_X11_325 {p : Program} {l : Launch} {e : Env} {R : Room} {s : State} {m : MethodId} {args : Array Value} {below : List Frame} {meth : Method} {c : Code} {H : Heap} {locs : List Loc} {cells slots : Nat} {Q : State → Prop} {cc : ByteArray} {pc : Nat} {ls : Array Slot} {rest : List Value} {D : va_G} {A : Nat → Prop} {a : Nat} {tys : List (ClassId × FieldType)} {ws : va_W} {H0 : Heap} (hx : p.tables.exec = Jvm.exec) (hb : c.code = cc) (hts : ∀ w ∈ GW, w.before args s = true) (hown : s.vm.findClass RX11 = some m.cls) (hK : va_K D vwCl tys s) (hP : va_P D vwCl ws H) (hD : va_D A ws) (hS0 : va_S A H0 H locs) (q0 : Nat) {fs : List Value} (he : ws[q0]? = some (a, .inr (12, fs))) {v : Value} (hn : narrow (tyX11 33) v = v) (hfit : fits (tyX11 33) v = true) (hl : 33 < fs.length) (hdg : decode cc pc = .ok (.putfield 325, 3)) (kk : ∀ (H1 : Heap) (locs1 : List Loc), va_P D vwCl (ws.set q0 (a, .inr (12, fs.set 33 v))) H1 → va_D A (ws.set q0 (a, .inr (12, fs.set 33 v))) → va_S A H0 H1 locs1 → W p l e R s m args below meth c H1 locs1 cells slots Q (F0 m (pc + 3) ls rest)) : W p l e R s m args below meth c H locs cells slots Q (F0 m pc ls (v :: .ref a :: rest)) := va_put (C := RX11) (T := TX11) (N := 47) (ci := 12) hx hb hts inX11 tyX11 tkX11 nmX11 hown hK hP hD hS0 q0 he rfl 33 (by decide) (hts _ t1475) (fun _ h => h) rfl (tkX11 33 (by decide)) hn hfit hl hdg kk
theorem dX11_careerFrom_50 : decode cX11_careerFrom 50 = .ok (.iconst 0, 1) := by decide +kernel
theorem dX11_careerFrom_51 : decode cX11_careerFrom 51 = .ok (.istore 6, 2) := by decide +kernel
theorem dX11_careerFrom_53 : decode cX11_careerFrom 53 = .ok (.iload 6, 2) := by decide +kernel
theorem dX11_careerFrom_55 : decode cX11_careerFrom 55 = .ok (.iload_n 2, 1) := by decide +kernel
theorem dX11_careerFrom_56 : decode cX11_careerFrom 56 = .ok (.if_icmp .ge 23, 3) := by decide +kernel
theorem dX11_careerFrom_79 : decode cX11_careerFrom 79 = .ok (.aload_n 0, 1) := by decide +kernel
theorem dX11_careerFrom_80 : decode cX11_careerFrom 80 = .ok (.iload_n 2, 1) := by decide +kernel
theorem dX11_careerFrom_81 : decode cX11_careerFrom 81 = .ok (.putfield 328, 3) := by decide +kernel
theorem pf_X11_328 {p : Program} {l : Launch} {e : Env} {R : Room} {s : State} {m : MethodId} {args : Array Value} {below : List Frame} {meth : Method} {c : Code} {H : Heap} {locs : List Loc} {cells slots : Nat} {Q : State → Prop} {cc : ByteArray} {pc : Nat} {ls : Array Slot} {rest : List Value} {D : va_G} {A : Nat → Prop} {a : Nat} {tys : List (ClassId × FieldType)} {ws : va_W} {H0 : Heap} (hx : p.tables.exec = Jvm.exec) (hb : c.code = cc) (hts : ∀ w ∈ GW, w.before args s = true) (hown : s.vm.findClass RX11 = some m.cls) (hK : va_K D vwCl tys s) (hP : va_P D vwCl ws H) (hD : va_D A ws) (hS0 : va_S A H0 H locs) (q0 : Nat) {fs : List Value} (he : ws[q0]? = some (a, .inr (12, fs))) {v : Value} (hn : narrow (tyX11 34) v = v) (hfit : fits (tyX11 34) v = true) (hl : 34 < fs.length) (hdg : decode cc pc = .ok (.putfield 328, 3)) (kk : ∀ (H1 : Heap) (locs1 : List Loc), va_P D vwCl (ws.set q0 (a, .inr (12, fs.set 34 v))) H1 → va_D A (ws.set q0 (a, .inr (12, fs.set 34 v))) → va_S A H0 H1 locs1 → W p l e R s m args below meth c H1 locs1 cells slots Q (F0 m (pc + 3) ls rest)) : W p l e R s m args below meth c H locs cells slots Q (F0 m pc ls (v :: .ref a :: rest)) := va_put (C := RX11) (T := TX11) (N := 47) (ci := 12) hx hb hts inX11 tyX11 tkX11 nmX11 hown hK hP hD hS0 q0 he rfl 34 (by decide) (hts _ t1476) (fun _ h => h) rfl (tkX11 34 (by decide)) hn hfit hl hdg kk
theorem dX11_careerFrom_84 : decode cX11_careerFrom 84 = .ok (.return_, 1) := by decide +kernel
theorem dX11_careerFrom_59 : decode cX11_careerFrom 59 = .ok (.aload_n 0, 1) := by decide +kernel
theorem dX11_careerFrom_60 : decode cX11_careerFrom 60 = .ok (.getfield 145, 3) := by decide +kernel
theorem dX11_careerFrom_63 : decode cX11_careerFrom 63 = .ok (.iload 6, 2) := by decide +kernel
theorem dX11_careerFrom_65 : decode cX11_careerFrom 65 = .ok (.aload_n 0, 1) := by decide +kernel
theorem dX11_careerFrom_66 : decode cX11_careerFrom 66 = .ok (.getfield 142, 3) := by decide +kernel
theorem t1472 : Cond.fieldLink RX11 142 "LikenessPoundModel" "doing" "[I" ∈ GW := gw_mem 1586 (by decide +kernel) (by decide +kernel)
theorem gf_X11_142 {p : Program} {l : Launch} {e : Env} {R : Room} {s : State} {m : MethodId} {args : Array Value} {below : List Frame} {meth : Method} {c : Code} {H : Heap} {locs : List Loc} {cells slots : Nat} {Q : State → Prop} {cc : ByteArray} {pc : Nat} {ls : Array Slot} {rest : List Value} {D : va_G} {a : Nat} {tys : List (ClassId × FieldType)} {ws : va_W} (hx : p.tables.exec = Jvm.exec) (hb : c.code = cc) (hts : ∀ w ∈ GW, w.before args s = true) (hown : s.vm.findClass RX11 = some m.cls) (hK : va_K D vwCl tys s) (hP : va_P D vwCl ws H) (q0 : Nat) {fs : List Value} (he : ws[q0]? = some (a, .inr (12, fs))) {v : Value} (hv : fs[30]? = some v) (hdg : decode cc pc = .ok (.getfield 142, 3)) (kk : W p l e R s m args below meth c H locs cells slots Q (F0 m (pc + 3) ls (v :: rest))) : W p l e R s m args below meth c H locs cells slots Q (F0 m pc ls (.ref a :: rest)) := va_get (C := RX11) (T := TX11) (N := 47) (ci := 12) hx hb hts inX11 hown hK hP q0 he rfl 30 (by decide) (hts _ t1472) (fun _ h => h) hv hdg kk
theorem dX11_careerFrom_69 : decode cX11_careerFrom 69 = .ok (.iload 6, 2) := by decide +kernel
theorem dX11_careerFrom_71 : decode cX11_careerFrom 71 = .ok (.iaload, 1) := by decide +kernel
theorem dX11_careerFrom_72 : decode cX11_careerFrom 72 = .ok (.iastore, 1) := by decide +kernel
theorem dX11_careerFrom_73 : decode cX11_careerFrom 73 = .ok (.iinc 6 1, 3) := by decide +kernel
theorem dX11_careerFrom_76 : decode cX11_careerFrom 76 = .ok (.goto (-23), 3) := by decide +kernel
theorem dX11_careerFrom_10 : decode cX11_careerFrom 10 = .ok (.iload 5, 2) := by decide +kernel
theorem dX11_careerFrom_12 : decode cX11_careerFrom 12 = .ok (.aload_n 0, 1) := by decide +kernel
theorem dX11_careerFrom_13 : decode cX11_careerFrom 13 = .ok (.getfield 322, 3) := by decide +kernel
theorem gf_X11_322 {p : Program} {l : Launch} {e : Env} {R : Room} {s : State} {m : MethodId} {args : Array Value} {below : List Frame} {meth : Method} {c : Code} {H : Heap} {locs : List Loc} {cells slots : Nat} {Q : State → Prop} {cc : ByteArray} {pc : Nat} {ls : Array Slot} {rest : List Value} {D : va_G} {a : Nat} {tys : List (ClassId × FieldType)} {ws : va_W} (hx : p.tables.exec = Jvm.exec) (hb : c.code = cc) (hts : ∀ w ∈ GW, w.before args s = true) (hown : s.vm.findClass RX11 = some m.cls) (hK : va_K D vwCl tys s) (hP : va_P D vwCl ws H) (q0 : Nat) {fs : List Value} (he : ws[q0]? = some (a, .inr (12, fs))) {v : Value} (hv : fs[32]? = some v) (hdg : decode cc pc = .ok (.getfield 322, 3)) (kk : W p l e R s m args below meth c H locs cells slots Q (F0 m (pc + 3) ls (v :: rest))) : W p l e R s m args below meth c H locs cells slots Q (F0 m pc ls (.ref a :: rest)) := va_get (C := RX11) (T := TX11) (N := 47) (ci := 12) hx hb hts inX11 hown hK hP q0 he rfl 32 (by decide) (hts _ t1474) (fun _ h => h) hv hdg kk
theorem dX11_careerFrom_16 : decode cX11_careerFrom 16 = .ok (.if_icmp .lt 21, 3) := by decide +kernel
theorem dX11_careerFrom_37 : decode cX11_careerFrom 37 = .ok (.return_, 1) := by decide +kernel
theorem dX11_careerFrom_19 : decode cX11_careerFrom 19 = .ok (.iload 5, 2) := by decide +kernel
theorem dX11_careerFrom_21 : decode cX11_careerFrom 21 = .ok (.aload_n 0, 1) := by decide +kernel
theorem dX11_careerFrom_22 : decode cX11_careerFrom 22 = .ok (.getfield 322, 3) := by decide +kernel
theorem dX11_careerFrom_25 : decode cX11_careerFrom 25 = .ok (.if_icmp .ne 13, 3) := by decide +kernel
theorem dX11_careerFrom_28 : decode cX11_careerFrom 28 = .ok (.iload 4, 2) := by decide +kernel
theorem dX11_careerFrom_30 : decode cX11_careerFrom 30 = .ok (.aload_n 0, 1) := by decide +kernel
theorem dX11_careerFrom_31 : decode cX11_careerFrom 31 = .ok (.getfield 325, 3) := by decide +kernel
theorem gf_X11_325 {p : Program} {l : Launch} {e : Env} {R : Room} {s : State} {m : MethodId} {args : Array Value} {below : List Frame} {meth : Method} {c : Code} {H : Heap} {locs : List Loc} {cells slots : Nat} {Q : State → Prop} {cc : ByteArray} {pc : Nat} {ls : Array Slot} {rest : List Value} {D : va_G} {a : Nat} {tys : List (ClassId × FieldType)} {ws : va_W} (hx : p.tables.exec = Jvm.exec) (hb : c.code = cc) (hts : ∀ w ∈ GW, w.before args s = true) (hown : s.vm.findClass RX11 = some m.cls) (hK : va_K D vwCl tys s) (hP : va_P D vwCl ws H) (q0 : Nat) {fs : List Value} (he : ws[q0]? = some (a, .inr (12, fs))) {v : Value} (hv : fs[33]? = some v) (hdg : decode cc pc = .ok (.getfield 325, 3)) (kk : W p l e R s m args below meth c H locs cells slots Q (F0 m (pc + 3) ls (v :: rest))) : W p l e R s m args below meth c H locs cells slots Q (F0 m pc ls (.ref a :: rest)) := va_get (C := RX11) (T := TX11) (N := 47) (ci := 12) hx hb hts inX11 hown hK hP q0 he rfl 33 (by decide) (hts _ t1475) (fun _ h => h) hv hdg kk
theorem dX11_careerFrom_34 : decode cX11_careerFrom 34 = .ok (.if_icmp .lt 4, 3) := by decide +kernel
set_option maxHeartbeats 4000000 in
set_option maxRecDepth 100000 in
theorem m_careerFrom_10 (l : Launch) (dC : Nat → ClassId) (dI : Nat → Nat → Nat) (cy : Nat → ClassId) (sz : Nat) (vnh : Nat → Int32) (vo : Nat) (voth : Int32) (vmt : Nat) (votp : Int32) (vosz : Int32) (volm : Int32) (voto : Int32) (vofr : Int32) (vokd : Int32) (vonu : Int32) (vosg : Int32) (vofa : Int32) (vopl : Int32) (vowd : Int64) (votd : Int32) (vmn : Nat) (vmr : Nat) (vmk : Nat) (vms : Nat) (vma : Nat) (vmm : Nat) (vmrn : Nat) (vmkn : Nat) (vmik : Nat) (vmon : Nat) (vosm : Int32) (vohp : Int32) (vmw : Nat) (vmf : Nat) (vmb : Nat) (vomb : Int32) (vmd : Nat) (vmc : Nat) (vocm : Int32) (voct : Int32) (vocy : Int32) (vmx : Nat) (votx : Int32) (vose : Int32) (vml : Nat) (vmwr : Nat) (voln : Int32) (vohw : Int32) (vmno : Nat) (vond : Int32) (voon : Int32) (vowi : Int32) (votop : Int32) (vmnf : Nat → Int32) (vmdf : Nat → Int32) (vmcf : Nat → Int32) (vm : Int32) (vlf : Int32) (vti : Int32) (vwe : Int32) (r_vocy : 0 ≤ (vocy : Int32).toInt ∧ (vocy : Int32).toInt ≤ 10) (r_vm : 0 ≤ (vm : Int32).toInt ∧ (vm : Int32).toInt ≤ 6) (r_vlf : 0 ≤ (vlf : Int32).toInt ∧ (vlf : Int32).toInt ≤ 10) (p_vmnf : NW vnh vmnf) (hd : 10 ≤ (vmnf 1).toInt) : Met l yX11_careerFrom (wl yX11_careerFrom cX11_careerFrom 8 none) ({ frames := 1, cells := 0, slots := 0, locals := 64 }) (Pw (dC, dI) vwCl cy [(vo, .inr (12, [.int voth, .ref vmt, .int votp, .int vosz, .int volm, .int voto, .int vofr, .int vokd, .int vonu, .int vosg, .int vofa, .int vopl, .long vowd, .int votd, .ref vmn, .ref vmr, .ref vmk, .ref vms, .ref vma, .ref vmm, .ref vmrn, .ref vmkn, .ref vmik, .ref vmon, .int vosm, .int vohp, .ref vmw, .ref vmf, .ref vmb, .int vomb, .ref vmd, .ref vmc, .int vocm, .int voct, .int vocy, .ref vmx, .int votx, .int vose, .ref vml, .ref vmwr, .int voln, .int vohw, .ref vmno, .int vond, .int voon, .int vowi, .int votop])), (vmn, .inl (cy 0, 575, .inl vmnf)), (vmd, .inl (cy 0, 10, .inl vmdf)), (vmc, .inl (cy 0, 10, .inl vmcf))] sz [.ref vo, .int vm, .int 10, .int vlf, .int vti, .int vwe] nE) (Qv (dC, dI) vwCl (fun (u : Int32 × Int32 × (Nat → Int32) × Int32 × (Nat → Int32)) => (0 ≤ (u.2.2.2.1 : Int32).toInt ∧ (u.2.2.2.1 : Int32).toInt ≤ 10)) (O_m_careerFrom_10 cy vnh vo voth vmt votp vosz volm voto vofr vokd vonu vosg vofa vopl vowd votd vmn vmr vmk vms vma vmm vmrn vmkn vmik vmon vosm vohp vmw vmf vmb vomb vmd vmc vocm voct vocy vmx votx vose vml vmwr voln vohw vmno vond voon vowi votop vmnf vmdf vmcf vm vlf vti vwe) (va_A [(vo, .inr (12, [.int voth, .ref vmt, .int votp, .int vosz, .int volm, .int voto, .int vofr, .int vokd, .int vonu, .int vosg, .int vofa, .int vopl, .long vowd, .int votd, .ref vmn, .ref vmr, .ref vmk, .ref vms, .ref vma, .ref vmm, .ref vmrn, .ref vmkn, .ref vmik, .ref vmon, .int vosm, .int vohp, .ref vmw, .ref vmf, .ref vmb, .int vomb, .ref vmd, .ref vmc, .int vocm, .int voct, .int vocy, .ref vmx, .int votx, .int vose, .ref vml, .ref vmwr, .int voln, .int vohw, .ref vmno, .int vond, .int voon, .int vowi, .int votop])), (vmn, .inl (cy 0, 575, .inl vmnf)), (vmd, .inl (cy 0, 10, .inl vmdf)), (vmc, .inl (cy 0, 10, .inl vmcf))] sz)) 0 0 (va_A [(vo, .inr (12, [.int voth, .ref vmt, .int votp, .int vosz, .int volm, .int voto, .int vofr, .int vokd, .int vonu, .int vosg, .int vofa, .int vopl, .long vowd, .int votd, .ref vmn, .ref vmr, .ref vmk, .ref vms, .ref vma, .ref vmm, .ref vmrn, .ref vmkn, .ref vmik, .ref vmon, .int vosm, .int vohp, .ref vmw, .ref vmf, .ref vmb, .int vomb, .ref vmd, .ref vmc, .int vocm, .int voct, .int vocy, .ref vmx, .int votx, .int vose, .ref vml, .ref vmwr, .int voln, .int vohw, .ref vmno, .int vond, .int voon, .int vowi, .int votop])), (vmn, .inl (cy 0, 575, .inl vmnf)), (vmd, .inl (cy 0, 10, .inl vmdf)), (vmc, .inl (cy 0, 10, .inl vmcf))] sz) := by
  refine mw (Qc := Qv (dC, dI) vwCl (fun (u : Int32 × Int32 × (Nat → Int32) × Int32 × (Nat → Int32)) => (0 ≤ (u.2.2.2.1 : Int32).toInt ∧ (u.2.2.2.1 : Int32).toInt ≤ 10)) (O_m_careerFrom_10 cy vnh vo voth vmt votp vosz volm voto vofr vokd vonu vosg vofa vopl vowd votd vmn vmr vmk vms vma vmm vmrn vmkn vmik vmon vosm vohp vmw vmf vmb vomb vmd vmc vocm voct vocy vmx votx vose vml vmwr voln vohw vmno vond voon vowi votop vmnf vmdf vmcf vm vlf vti vwe)) RX11 rfl (by decide +kernel) (Nat.le_of_ble_eq_true rfl) ?_
  intro p e s m below meth c A hx hb hr hlocks av9 hav hts hown hnm hml hK hP hD hA hS hE hAe Q9 hQ9 ls hl
  have hl : lv_has ls 8 [(0, .ref vo), (1, .int vm), (2, .int 10), (3, .int vlf), (4, .int vti), (5, .int vwe)] := hl
  refine lv_iload_n hx hb dX11_careerFrom_0 rfl (lv_at hl 2 rfl) ?_
  refine lv_aload_n hx hb dX11_careerFrom_1 rfl (lv_at hl 0 rfl) ?_
  refine gf_X11_98 hx hb hts hown hK hP 0 rfl rfl dX11_careerFrom_2 ?_
  refine lv_iconst (v := 1) hx hb dX11_careerFrom_5 (by decide) ?_
  have k_1 : (1 : Int32).toInt = 1 := by decide
  have hin_1 : vp_in (1 : Int32) 575 := vp_in_iff.mpr ⟨by omega, by omega⟩
  refine va_iald hx hb hK hP 1 0 rfl rfl hin_1 dX11_careerFrom_6 ?_
  refine lv_topi (fun z_2 ez_2 => ?_)
  have bz_2 := p_vmnf.a1 (x := 1) ⟨by omega, by omega⟩ ez_2
  have tz_2 : z_2.toInt = (vmnf 1).toInt := by rw [ez_2]; rfl
  have k_10 : (10 : Int32).toInt = 10 := by decide
  refine lv_icmp_ne (tgt := 85) hx hb dX11_careerFrom_7 (by decide) (fun c9 => (c9 (i_eq.mpr (by omega))).elim) (fun _ => ?_)
  have join3 : ∀ (H : Heap) (locs : List Loc), va_P (dC, dI) vwCl [(vo, .inr (12, [.int voth, .ref vmt, .int votp, .int vosz, .int volm, .int voto, .int vofr, .int vokd, .int vonu, .int vosg, .int vofa, .int vopl, .long vowd, .int votd, .ref vmn, .ref vmr, .ref vmk, .ref vms, .ref vma, .ref vmm, .ref vmrn, .ref vmkn, .ref vmik, .ref vmon, .int vosm, .int vohp, .ref vmw, .ref vmf, .ref vmb, .int vomb, .ref vmd, .ref vmc, .int vocm, .int voct, .int vocy, .ref vmx, .int votx, .int vose, .ref vml, .ref vmwr, .int voln, .int vohw, .ref vmno, .int vond, .int voon, .int vowi, .int votop])), (vmn, .inl (cy 0, 575, .inl vmnf)), (vmd, .inl (cy 0, 10, .inl vmdf)), (vmc, .inl (cy 0, 10, .inl vmcf))] H → va_D A [(vo, .inr (12, [.int voth, .ref vmt, .int votp, .int vosz, .int volm, .int voto, .int vofr, .int vokd, .int vonu, .int vosg, .int vofa, .int vopl, .long vowd, .int votd, .ref vmn, .ref vmr, .ref vmk, .ref vms, .ref vma, .ref vmm, .ref vmrn, .ref vmkn, .ref vmik, .ref vmon, .int vosm, .int vohp, .ref vmw, .ref vmf, .ref vmb, .int vomb, .ref vmd, .ref vmc, .int vocm, .int voct, .int vocy, .ref vmx, .int votx, .int vose, .ref vml, .ref vmwr, .int voln, .int vohw, .ref vmno, .int vond, .int voon, .int vowi, .int votop])), (vmn, .inl (cy 0, 575, .inl vmnf)), (vmd, .inl (cy 0, 10, .inl vmdf)), (vmc, .inl (cy 0, 10, .inl vmcf))] → va_S A s.heap H locs → ∀ ls : Array Slot, lv_has ls 8 [(0, .ref vo), (1, .int vm), (2, .int 10), (3, .int vlf), (4, .int vti), (5, .int vwe)] → W p l e ({ frames := 1, cells := 0, slots := 0, locals := 64 }) s m av9 below meth c H locs 0 0 Q9 (F0 m 38 ls []) := by
    intro  H locs hP hD hS ls hl
    refine lv_aload_n hx hb dX11_careerFrom_38 rfl (lv_at hl 0 rfl) ?_
    refine lv_iload hx hb dX11_careerFrom_39 (lv_at hl 5 rfl) ?_
    refine pf_X11_322 hx hb hts hown hK hP hD hS 0 rfl rfl rfl (Nat.le_of_ble_eq_true rfl) dX11_careerFrom_41 (fun H locs hP hD hS => ?_)
    have hP : va_P (dC, dI) vwCl [(vo, .inr (12, [.int voth, .ref vmt, .int votp, .int vosz, .int volm, .int voto, .int vofr, .int vokd, .int vonu, .int vosg, .int vofa, .int vopl, .long vowd, .int votd, .ref vmn, .ref vmr, .ref vmk, .ref vms, .ref vma, .ref vmm, .ref vmrn, .ref vmkn, .ref vmik, .ref vmon, .int vosm, .int vohp, .ref vmw, .ref vmf, .ref vmb, .int vomb, .ref vmd, .ref vmc, .int vwe, .int voct, .int vocy, .ref vmx, .int votx, .int vose, .ref vml, .ref vmwr, .int voln, .int vohw, .ref vmno, .int vond, .int voon, .int vowi, .int votop])), (vmn, .inl (cy 0, 575, .inl vmnf)), (vmd, .inl (cy 0, 10, .inl vmdf)), (vmc, .inl (cy 0, 10, .inl vmcf))] H := hP
    have hD : va_D A [(vo, .inr (12, [.int voth, .ref vmt, .int votp, .int vosz, .int volm, .int voto, .int vofr, .int vokd, .int vonu, .int vosg, .int vofa, .int vopl, .long vowd, .int votd, .ref vmn, .ref vmr, .ref vmk, .ref vms, .ref vma, .ref vmm, .ref vmrn, .ref vmkn, .ref vmik, .ref vmon, .int vosm, .int vohp, .ref vmw, .ref vmf, .ref vmb, .int vomb, .ref vmd, .ref vmc, .int vwe, .int voct, .int vocy, .ref vmx, .int votx, .int vose, .ref vml, .ref vmwr, .int voln, .int vohw, .ref vmno, .int vond, .int voon, .int vowi, .int votop])), (vmn, .inl (cy 0, 575, .inl vmnf)), (vmd, .inl (cy 0, 10, .inl vmdf)), (vmc, .inl (cy 0, 10, .inl vmcf))] := hD
    refine lv_aload_n hx hb dX11_careerFrom_44 rfl (lv_at hl 0 rfl) ?_
    refine lv_iload hx hb dX11_careerFrom_45 (lv_at hl 4 rfl) ?_
    refine pf_X11_325 hx hb hts hown hK hP hD hS 0 rfl rfl rfl (Nat.le_of_ble_eq_true rfl) dX11_careerFrom_47 (fun H locs hP hD hS => ?_)
    have hP : va_P (dC, dI) vwCl [(vo, .inr (12, [.int voth, .ref vmt, .int votp, .int vosz, .int volm, .int voto, .int vofr, .int vokd, .int vonu, .int vosg, .int vofa, .int vopl, .long vowd, .int votd, .ref vmn, .ref vmr, .ref vmk, .ref vms, .ref vma, .ref vmm, .ref vmrn, .ref vmkn, .ref vmik, .ref vmon, .int vosm, .int vohp, .ref vmw, .ref vmf, .ref vmb, .int vomb, .ref vmd, .ref vmc, .int vwe, .int vti, .int vocy, .ref vmx, .int votx, .int vose, .ref vml, .ref vmwr, .int voln, .int vohw, .ref vmno, .int vond, .int voon, .int vowi, .int votop])), (vmn, .inl (cy 0, 575, .inl vmnf)), (vmd, .inl (cy 0, 10, .inl vmdf)), (vmc, .inl (cy 0, 10, .inl vmcf))] H := hP
    have hD : va_D A [(vo, .inr (12, [.int voth, .ref vmt, .int votp, .int vosz, .int volm, .int voto, .int vofr, .int vokd, .int vonu, .int vosg, .int vofa, .int vopl, .long vowd, .int votd, .ref vmn, .ref vmr, .ref vmk, .ref vms, .ref vma, .ref vmm, .ref vmrn, .ref vmkn, .ref vmik, .ref vmon, .int vosm, .int vohp, .ref vmw, .ref vmf, .ref vmb, .int vomb, .ref vmd, .ref vmc, .int vwe, .int vti, .int vocy, .ref vmx, .int votx, .int vose, .ref vml, .ref vmwr, .int voln, .int vohw, .ref vmno, .int vond, .int voon, .int vowi, .int votop])), (vmn, .inl (cy 0, 575, .inl vmnf)), (vmd, .inl (cy 0, 10, .inl vmdf)), (vmc, .inl (cy 0, 10, .inl vmcf))] := hD
    refine lv_iconst (v := 0) hx hb dX11_careerFrom_50 (by decide) ?_
    refine lv_istore (lv' := [(6, .int 0), (0, .ref vo), (1, .int vm), (2, .int 10), (3, .int vlf), (4, .int vti), (5, .int vwe)]) hx hb dX11_careerFrom_51 hl (by decide) rfl (fun ls hl => ?_)
    have loop4 : ∀ (n4 : Nat) (x_5 : Int32) (g_6 : Nat → Int32), (0 ≤ x_5.toInt ∧ x_5.toInt ≤ 10) → 10 - x_5.toInt < (n4 : Int) → ∀ (H : Heap) (locs : List Loc), va_P (dC, dI) vwCl [(vo, .inr (12, [.int voth, .ref vmt, .int votp, .int vosz, .int volm, .int voto, .int vofr, .int vokd, .int vonu, .int vosg, .int vofa, .int vopl, .long vowd, .int votd, .ref vmn, .ref vmr, .ref vmk, .ref vms, .ref vma, .ref vmm, .ref vmrn, .ref vmkn, .ref vmik, .ref vmon, .int vosm, .int vohp, .ref vmw, .ref vmf, .ref vmb, .int vomb, .ref vmd, .ref vmc, .int vwe, .int vti, .int vocy, .ref vmx, .int votx, .int vose, .ref vml, .ref vmwr, .int voln, .int vohw, .ref vmno, .int vond, .int voon, .int vowi, .int votop])), (vmn, .inl (cy 0, 575, .inl vmnf)), (vmd, .inl (cy 0, 10, .inl vmdf)), (vmc, .inl (cy 0, 10, .inl g_6))] H → va_D A [(vo, .inr (12, [.int voth, .ref vmt, .int votp, .int vosz, .int volm, .int voto, .int vofr, .int vokd, .int vonu, .int vosg, .int vofa, .int vopl, .long vowd, .int votd, .ref vmn, .ref vmr, .ref vmk, .ref vms, .ref vma, .ref vmm, .ref vmrn, .ref vmkn, .ref vmik, .ref vmon, .int vosm, .int vohp, .ref vmw, .ref vmf, .ref vmb, .int vomb, .ref vmd, .ref vmc, .int vwe, .int vti, .int vocy, .ref vmx, .int votx, .int vose, .ref vml, .ref vmwr, .int voln, .int vohw, .ref vmno, .int vond, .int voon, .int vowi, .int votop])), (vmn, .inl (cy 0, 575, .inl vmnf)), (vmd, .inl (cy 0, 10, .inl vmdf)), (vmc, .inl (cy 0, 10, .inl g_6))] → va_S A s.heap H locs → ∀ ls : Array Slot, lv_has ls 8 [(6, .int x_5), (0, .ref vo), (1, .int vm), (2, .int 10), (3, .int vlf), (4, .int vti), (5, .int vwe)] → W p l e ({ frames := 1, cells := 0, slots := 0, locals := 64 }) s m av9 below meth c H locs 0 0 Q9 (F0 m 53 ls []) := by
      intro n4
      induction n4 with
      | zero =>
        intro x_5 g_6 bx_5 hn4 H locs hP hD hS ls hl
        exfalso; omega
      | succ n4 ih4 =>
        intro x_5 g_6 bx_5 hn4 H locs hP hD hS ls hl
        refine lv_iload hx hb dX11_careerFrom_53 (lv_at hl 0 rfl) ?_
        refine lv_iload_n hx hb dX11_careerFrom_55 rfl (lv_at hl 3 rfl) ?_
        refine lv_icmp_ge (tgt := 79) hx hb dX11_careerFrom_56 (by decide) (fun c_7 => ?_) (fun c_7 => ?_)
        · skip
          have c_7 : (10 : Int32).toInt ≤ x_5.toInt := i_le.mp c_7
          refine lv_aload_n hx hb dX11_careerFrom_79 rfl (lv_at hl 1 rfl) ?_
          refine lv_iload_n hx hb dX11_careerFrom_80 rfl (lv_at hl 3 rfl) ?_
          refine pf_X11_328 hx hb hts hown hK hP hD hS 0 rfl rfl rfl (Nat.le_of_ble_eq_true rfl) dX11_careerFrom_81 (fun H locs hP hD hS => ?_)
          have hP : va_P (dC, dI) vwCl [(vo, .inr (12, [.int voth, .ref vmt, .int votp, .int vosz, .int volm, .int voto, .int vofr, .int vokd, .int vonu, .int vosg, .int vofa, .int vopl, .long vowd, .int votd, .ref vmn, .ref vmr, .ref vmk, .ref vms, .ref vma, .ref vmm, .ref vmrn, .ref vmkn, .ref vmik, .ref vmon, .int vosm, .int vohp, .ref vmw, .ref vmf, .ref vmb, .int vomb, .ref vmd, .ref vmc, .int vwe, .int vti, .int 10, .ref vmx, .int votx, .int vose, .ref vml, .ref vmwr, .int voln, .int vohw, .ref vmno, .int vond, .int voon, .int vowi, .int votop])), (vmn, .inl (cy 0, 575, .inl vmnf)), (vmd, .inl (cy 0, 10, .inl vmdf)), (vmc, .inl (cy 0, 10, .inl g_6))] H := hP
          have hD : va_D A [(vo, .inr (12, [.int voth, .ref vmt, .int votp, .int vosz, .int volm, .int voto, .int vofr, .int vokd, .int vonu, .int vosg, .int vofa, .int vopl, .long vowd, .int votd, .ref vmn, .ref vmr, .ref vmk, .ref vms, .ref vma, .ref vmm, .ref vmrn, .ref vmkn, .ref vmik, .ref vmon, .int vosm, .int vohp, .ref vmw, .ref vmf, .ref vmb, .int vomb, .ref vmd, .ref vmc, .int vwe, .int vti, .int 10, .ref vmx, .int votx, .int vose, .ref vml, .ref vmwr, .int voln, .int vohw, .ref vmno, .int vond, .int voon, .int vowi, .int votop])), (vmn, .inl (cy 0, 575, .inl vmnf)), (vmd, .inl (cy 0, 10, .inl vmdf)), (vmc, .inl (cy 0, 10, .inl g_6))] := hD
          rw [hQ9]
          exact re_v (vwe, vti, g_6, (10 : Int32), vmdf) hx hb hr hlocks (show 0 ≤ (10 : Int32).toInt ∧ (10 : Int32).toInt ≤ 10 from ⟨by omega, by omega⟩) (hP.sub [0, 1, 2, 3] rfl) (hD.sub [0, 1, 2, 3] rfl rfl) hS dX11_careerFrom_84
        · skip
          have c_7 : ¬ ((10 : Int32).toInt ≤ x_5.toInt) := fun h9 => c_7 (i_le.mpr h9)
          refine lv_aload_n hx hb dX11_careerFrom_59 rfl (lv_at hl 1 rfl) ?_
          refine gf_X11_145 hx hb hts hown hK hP 0 rfl rfl dX11_careerFrom_60 ?_
          refine lv_iload hx hb dX11_careerFrom_63 (lv_at hl 0 rfl) ?_
          refine lv_aload_n hx hb dX11_careerFrom_65 rfl (lv_at hl 1 rfl) ?_
          refine gf_X11_142 hx hb hts hown hK hP 0 rfl rfl dX11_careerFrom_66 ?_
          refine lv_iload hx hb dX11_careerFrom_69 (lv_at hl 0 rfl) ?_
          have hin_8 : vp_in x_5 10 := vp_in_iff.mpr ⟨by omega, by omega⟩
          refine va_iald hx hb hK hP 2 0 rfl rfl hin_8 dX11_careerFrom_71 ?_
          refine lv_topi (fun z_9 ez_9 => ?_)
          have hin_10 : vp_in x_5 10 := vp_in_iff.mpr ⟨by omega, by omega⟩
          refine va_iast hx hb hK hP hD hS 3 0 rfl rfl hin_10 dX11_careerFrom_72 (fun H locs hP hD hS => ?_)
          obtain ⟨f_11, ef_11⟩ : ∃ z : Nat → Int32, z = upd g_6 (Int32.toNatClampNeg x_5) z_9 := ⟨_, rfl⟩
          have hP : va_P (dC, dI) vwCl [(vo, .inr (12, [.int voth, .ref vmt, .int votp, .int vosz, .int volm, .int voto, .int vofr, .int vokd, .int vonu, .int vosg, .int vofa, .int vopl, .long vowd, .int votd, .ref vmn, .ref vmr, .ref vmk, .ref vms, .ref vma, .ref vmm, .ref vmrn, .ref vmkn, .ref vmik, .ref vmon, .int vosm, .int vohp, .ref vmw, .ref vmf, .ref vmb, .int vomb, .ref vmd, .ref vmc, .int vwe, .int vti, .int vocy, .ref vmx, .int votx, .int vose, .ref vml, .ref vmwr, .int voln, .int vohw, .ref vmno, .int vond, .int voon, .int vowi, .int votop])), (vmn, .inl (cy 0, 575, .inl vmnf)), (vmd, .inl (cy 0, 10, .inl vmdf)), (vmc, .inl (cy 0, 10, .inl f_11))] H := by rw [ef_11]; exact hP
          have hD : va_D A [(vo, .inr (12, [.int voth, .ref vmt, .int votp, .int vosz, .int volm, .int voto, .int vofr, .int vokd, .int vonu, .int vosg, .int vofa, .int vopl, .long vowd, .int votd, .ref vmn, .ref vmr, .ref vmk, .ref vms, .ref vma, .ref vmm, .ref vmrn, .ref vmkn, .ref vmik, .ref vmon, .int vosm, .int vohp, .ref vmw, .ref vmf, .ref vmb, .int vomb, .ref vmd, .ref vmc, .int vwe, .int vti, .int vocy, .ref vmx, .int votx, .int vose, .ref vml, .ref vmwr, .int voln, .int vohw, .ref vmno, .int vond, .int voon, .int vowi, .int votop])), (vmn, .inl (cy 0, 575, .inl vmnf)), (vmd, .inl (cy 0, 10, .inl vmdf)), (vmc, .inl (cy 0, 10, .inl f_11))] := by rw [ef_11]; exact hD
          obtain ⟨z_12, ez_12⟩ : ∃ z : Int32, z = x_5 + 1 := ⟨_, rfl⟩
          have bz_12 : z_12.toInt = x_5.toInt + (1 : Int32).toInt := i_add ez_12 (by omega) (by omega)
          refine lv_iinc (v := z_12) (lv' := [(6, .int z_12), (0, .ref vo), (1, .int vm), (2, .int 10), (3, .int vlf), (4, .int vti), (5, .int vwe)]) hx hb dX11_careerFrom_73 hl (k := 0) rfl ez_12.symm (by decide) rfl (fun ls hl => ?_)
          refine lv_goto (tgt := 53) hx hb dX11_careerFrom_76 (by decide) ?_
          exact ih4 z_12 f_11 ⟨by omega, by omega⟩ (by omega) _ _ (hP.sub [0, 1, 2, 3] rfl) (hD.sub [0, 1, 2, 3] rfl rfl) hS ls (lv_sub hl [0, 1, 2, 3, 4, 5, 6] rfl)
    have k_0 : (0 : Int32).toInt = 0 := by decide
    exact loop4 ((10 - (0 : Int32).toInt).toNat + 1) 0 vmcf ⟨by omega, by omega⟩ (by omega) _ _ hP hD hS ls (lv_sub hl [0, 1, 2, 3, 4, 5, 6] rfl)
  refine lv_iload hx hb dX11_careerFrom_10 (lv_at hl 5 rfl) ?_
  refine lv_aload_n hx hb dX11_careerFrom_12 rfl (lv_at hl 0 rfl) ?_
  refine gf_X11_322 hx hb hts hown hK hP 0 rfl rfl dX11_careerFrom_13 ?_
  refine lv_icmp_lt (tgt := 37) hx hb dX11_careerFrom_16 (by decide) (fun c_13 => ?_) (fun c_13 => ?_)
  · skip
    have c_13 : vwe.toInt < vocm.toInt := i_lt.mp c_13
    rw [hQ9]
    exact re_v (vocm, voct, vmcf, vocy, vmdf) hx hb hr hlocks (show 0 ≤ (vocy : Int32).toInt ∧ (vocy : Int32).toInt ≤ 10 from ⟨by omega, by omega⟩) (hP.sub [0, 1, 2, 3] rfl) (hD.sub [0, 1, 2, 3] rfl rfl) hS dX11_careerFrom_37
  · skip
    have c_13 : ¬ (vwe.toInt < vocm.toInt) := fun h9 => c_13 (i_lt.mpr h9)
    refine lv_iload hx hb dX11_careerFrom_19 (lv_at hl 5 rfl) ?_
    refine lv_aload_n hx hb dX11_careerFrom_21 rfl (lv_at hl 0 rfl) ?_
    refine gf_X11_322 hx hb hts hown hK hP 0 rfl rfl dX11_careerFrom_22 ?_
    refine lv_icmp_ne (tgt := 38) hx hb dX11_careerFrom_25 (by decide) (fun c_14 => ?_) (fun c_14 => ?_)
    · skip
      have c_14 : ¬ (vwe.toInt = vocm.toInt) := fun h9 => c_14 (i_eq.mpr h9)
      exact join3  _ _ (hP.sub [0, 1, 2, 3] rfl) (hD.sub [0, 1, 2, 3] rfl rfl) hS ls (lv_sub hl [0, 1, 2, 3, 4, 5] rfl)
    · skip
      have c_14 : vwe.toInt = vocm.toInt := i_eq.mp c_14
      refine lv_iload hx hb dX11_careerFrom_28 (lv_at hl 4 rfl) ?_
      refine lv_aload_n hx hb dX11_careerFrom_30 rfl (lv_at hl 0 rfl) ?_
      refine gf_X11_325 hx hb hts hown hK hP 0 rfl rfl dX11_careerFrom_31 ?_
      refine lv_icmp_lt (tgt := 38) hx hb dX11_careerFrom_34 (by decide) (fun c_15 => ?_) (fun c_15 => ?_)
      · skip
        have c_15 : vti.toInt < voct.toInt := i_lt.mp c_15
        exact join3  _ _ (hP.sub [0, 1, 2, 3] rfl) (hD.sub [0, 1, 2, 3] rfl rfl) hS ls (lv_sub hl [0, 1, 2, 3, 4, 5] rfl)
      · skip
        have c_15 : ¬ (vti.toInt < voct.toInt) := fun h9 => c_15 (i_lt.mpr h9)
        rw [hQ9]
        exact re_v (vocm, voct, vmcf, vocy, vmdf) hx hb hr hlocks (show 0 ≤ (vocy : Int32).toInt ∧ (vocy : Int32).toInt ≤ 10 from ⟨by omega, by omega⟩) (hP.sub [0, 1, 2, 3] rfl) (hD.sub [0, 1, 2, 3] rfl rfl) hS dX11_careerFrom_37
abbrev O_m_careerFrom_9 (cy : Nat → ClassId) (vnh : Nat → Int32) (vo : Nat) (voth : Int32) (vmt : Nat) (votp : Int32) (vosz : Int32) (volm : Int32) (voto : Int32) (vofr : Int32) (vokd : Int32) (vonu : Int32) (vosg : Int32) (vofa : Int32) (vopl : Int32) (vowd : Int64) (votd : Int32) (vmn : Nat) (vmr : Nat) (vmk : Nat) (vms : Nat) (vma : Nat) (vmm : Nat) (vmrn : Nat) (vmkn : Nat) (vmik : Nat) (vmon : Nat) (vosm : Int32) (vohp : Int32) (vmw : Nat) (vmf : Nat) (vmb : Nat) (vomb : Int32) (vmd : Nat) (vmc : Nat) (vocm : Int32) (voct : Int32) (vocy : Int32) (vmx : Nat) (votx : Int32) (vose : Int32) (vml : Nat) (vmwr : Nat) (voln : Int32) (vohw : Int32) (vmno : Nat) (vond : Int32) (voon : Int32) (vowi : Int32) (votop : Int32) (vmnf : Nat → Int32) (vmdf : Nat → Int32) (vmcf : Nat → Int32) (vm : Int32) (vlf : Int32) (vti : Int32) (vwe : Int32) (u : Int32 × Int32 × (Nat → Int32) × Int32 × (Nat → Int32)) : va_W := [(vo, .inr (12, [.int voth, .ref vmt, .int votp, .int vosz, .int volm, .int voto, .int vofr, .int vokd, .int vonu, .int vosg, .int vofa, .int vopl, .long vowd, .int votd, .ref vmn, .ref vmr, .ref vmk, .ref vms, .ref vma, .ref vmm, .ref vmrn, .ref vmkn, .ref vmik, .ref vmon, .int vosm, .int vohp, .ref vmw, .ref vmf, .ref vmb, .int vomb, .ref vmd, .ref vmc, .int u.1, .int u.2.1, .int u.2.2.2.1, .ref vmx, .int votx, .int vose, .ref vml, .ref vmwr, .int voln, .int vohw, .ref vmno, .int vond, .int voon, .int vowi, .int votop])), (vmn, .inl (cy 0, 575, .inl vmnf)), (vmd, .inl (cy 0, 10, .inl u.2.2.2.2)), (vmc, .inl (cy 0, 10, .inl u.2.2.1))]
theorem dX11_careerFrom_85 : decode cX11_careerFrom 85 = .ok (.iload_n 3, 1) := by decide +kernel
theorem dX11_careerFrom_86 : decode cX11_careerFrom 86 = .ok (.bipush 9, 2) := by decide +kernel
theorem dX11_careerFrom_88 : decode cX11_careerFrom 88 = .ok (.aload_n 0, 1) := by decide +kernel
theorem dX11_careerFrom_89 : decode cX11_careerFrom 89 = .ok (.iload_n 1, 1) := by decide +kernel
theorem dX11_careerFrom_90 : decode cX11_careerFrom 90 = .ok (.iload_n 2, 1) := by decide +kernel
theorem dX11_careerFrom_91 : decode cX11_careerFrom 91 = .ok (.invokevirtual 228, 3) := by decide +kernel
theorem dX11_careerFrom_94 : decode cX11_careerFrom 94 = .ok (.isub, 1) := by decide +kernel
theorem dX11_careerFrom_95 : decode cX11_careerFrom 95 = .ok (.invokestatic 288, 3) := by decide +kernel
theorem dX11_careerFrom_98 : decode cX11_careerFrom 98 = .ok (.istore 6, 2) := by decide +kernel
theorem dX11_careerFrom_100 : decode cX11_careerFrom 100 = .ok (.iconst 0, 1) := by decide +kernel
theorem dX11_careerFrom_101 : decode cX11_careerFrom 101 = .ok (.istore 7, 2) := by decide +kernel
theorem dX11_careerFrom_103 : decode cX11_careerFrom 103 = .ok (.iload 7, 2) := by decide +kernel
theorem dX11_careerFrom_105 : decode cX11_careerFrom 105 = .ok (.iload 6, 2) := by decide +kernel
theorem dX11_careerFrom_107 : decode cX11_careerFrom 107 = .ok (.if_icmp .gt 73, 3) := by decide +kernel
theorem dX11_careerFrom_180 : decode cX11_careerFrom 180 = .ok (.return_, 1) := by decide +kernel
theorem dX11_careerFrom_110 : decode cX11_careerFrom 110 = .ok (.iload 5, 2) := by decide +kernel
theorem dX11_careerFrom_112 : decode cX11_careerFrom 112 = .ok (.iload 7, 2) := by decide +kernel
theorem dX11_careerFrom_114 : decode cX11_careerFrom 114 = .ok (.aload_n 0, 1) := by decide +kernel
theorem dX11_careerFrom_115 : decode cX11_careerFrom 115 = .ok (.getfield 98, 3) := by decide +kernel
theorem dX11_careerFrom_118 : decode cX11_careerFrom 118 = .ok (.bipush 11, 2) := by decide +kernel
theorem dX11_careerFrom_120 : decode cX11_careerFrom 120 = .ok (.iload_n 2, 1) := by decide +kernel
theorem dX11_careerFrom_121 : decode cX11_careerFrom 121 = .ok (.iadd, 1) := by decide +kernel
theorem dX11_careerFrom_122 : decode cX11_careerFrom 122 = .ok (.iaload, 1) := by decide +kernel
theorem dX11_careerFrom_123 : decode cX11_careerFrom 123 = .ok (.imul, 1) := by decide +kernel
theorem dX11_careerFrom_124 : decode cX11_careerFrom 124 = .ok (.iadd, 1) := by decide +kernel
theorem dX11_careerFrom_125 : decode cX11_careerFrom 125 = .ok (.aload_n 0, 1) := by decide +kernel
theorem dX11_careerFrom_126 : decode cX11_careerFrom 126 = .ok (.getfield 98, 3) := by decide +kernel
theorem dX11_careerFrom_129 : decode cX11_careerFrom 129 = .ok (.iconst 2, 1) := by decide +kernel
theorem dX11_careerFrom_130 : decode cX11_careerFrom 130 = .ok (.iaload, 1) := by decide +kernel
theorem dX11_careerFrom_131 : decode cX11_careerFrom 131 = .ok (.if_icmp .gt 49, 3) := by decide +kernel
theorem dX11_careerFrom_134 : decode cX11_careerFrom 134 = .ok (.aload_n 0, 1) := by decide +kernel
theorem dX11_careerFrom_135 : decode cX11_careerFrom 135 = .ok (.getfield 142, 3) := by decide +kernel
theorem dX11_careerFrom_138 : decode cX11_careerFrom 138 = .ok (.iload_n 2, 1) := by decide +kernel
theorem dX11_careerFrom_139 : decode cX11_careerFrom 139 = .ok (.iload 7, 2) := by decide +kernel
theorem dX11_careerFrom_141 : decode cX11_careerFrom 141 = .ok (.iastore, 1) := by decide +kernel
theorem dX11_careerFrom_142 : decode cX11_careerFrom 142 = .ok (.aload_n 0, 1) := by decide +kernel
theorem dX11_careerFrom_143 : decode cX11_careerFrom 143 = .ok (.iload_n 1, 1) := by decide +kernel
theorem dX11_careerFrom_144 : decode cX11_careerFrom 144 = .ok (.iload_n 2, 1) := by decide +kernel
theorem dX11_careerFrom_145 : decode cX11_careerFrom 145 = .ok (.iconst 1, 1) := by decide +kernel
theorem dX11_careerFrom_146 : decode cX11_careerFrom 146 = .ok (.iadd, 1) := by decide +kernel
theorem dX11_careerFrom_147 : decode cX11_careerFrom 147 = .ok (.iload_n 3, 1) := by decide +kernel
theorem dX11_careerFrom_148 : decode cX11_careerFrom 148 = .ok (.iload 7, 2) := by decide +kernel
theorem dX11_careerFrom_150 : decode cX11_careerFrom 150 = .ok (.isub, 1) := by decide +kernel
theorem dX11_careerFrom_151 : decode cX11_careerFrom 151 = .ok (.iload 4, 2) := by decide +kernel
theorem dX11_careerFrom_153 : decode cX11_careerFrom 153 = .ok (.iload 7, 2) := by decide +kernel
theorem dX11_careerFrom_155 : decode cX11_careerFrom 155 = .ok (.iadd, 1) := by decide +kernel
theorem dX11_careerFrom_156 : decode cX11_careerFrom 156 = .ok (.iload 5, 2) := by decide +kernel
theorem dX11_careerFrom_158 : decode cX11_careerFrom 158 = .ok (.iload 7, 2) := by decide +kernel
theorem dX11_careerFrom_160 : decode cX11_careerFrom 160 = .ok (.aload_n 0, 1) := by decide +kernel
theorem dX11_careerFrom_161 : decode cX11_careerFrom 161 = .ok (.getfield 98, 3) := by decide +kernel
theorem dX11_careerFrom_164 : decode cX11_careerFrom 164 = .ok (.bipush 11, 2) := by decide +kernel
theorem dX11_careerFrom_166 : decode cX11_careerFrom 166 = .ok (.iload_n 2, 1) := by decide +kernel
theorem dX11_careerFrom_167 : decode cX11_careerFrom 167 = .ok (.iadd, 1) := by decide +kernel
theorem dX11_careerFrom_168 : decode cX11_careerFrom 168 = .ok (.iaload, 1) := by decide +kernel
theorem dX11_careerFrom_169 : decode cX11_careerFrom 169 = .ok (.imul, 1) := by decide +kernel
theorem dX11_careerFrom_170 : decode cX11_careerFrom 170 = .ok (.iadd, 1) := by decide +kernel
theorem dX11_careerFrom_171 : decode cX11_careerFrom 171 = .ok (.invokevirtual 331, 3) := by decide +kernel
theorem t1906 : Cond.methodLink RX11 331 yX11_careerFrom ∈ GW := gw_mem 2020 (by decide +kernel) (by decide +kernel)
theorem t1908 : Cond.instanceMethod yX11_careerFrom ∈ GW := gw_mem 2022 (by decide +kernel) (by decide +kernel)
theorem s87 : Cond.selects RX11 yX11_careerFrom yX11_careerFrom ∈ GW := gw_mem 87 (by decide +kernel) (by decide +kernel)
theorem cw_X11_331 {R : Room} {s : State} {args : Array Value} {rm : Room} {mc ms : Nat} (hts : ∀ w ∈ GW, w.before args s = true) (hrc : rm.cells = mc) (hrs : rm.slots = ms) (hR : rm.frames + 1 ≤ R.frames ∧ 8 + (8 + 11) + rm.locals ≤ R.locals) : CallW R s args RX11 RX11 331 yX11_careerFrom cX11_careerFrom 8 none (wl yX11_careerFrom cX11_careerFrom 8 none) rm mc ms 5 := cwV 5 hts (gi_V t1906 t1908 s87 t18 t1909) rfl hrc hrs (by decide +kernel) hR
theorem dX11_careerFrom_174 : decode cX11_careerFrom 174 = .ok (.iinc 7 1, 3) := by decide +kernel
theorem dX11_careerFrom_177 : decode cX11_careerFrom 177 = .ok (.goto (-74), 3) := by decide +kernel
set_option maxHeartbeats 4000000 in
set_option maxRecDepth 100000 in
theorem m_careerFrom_9 (l : Launch) (dC : Nat → ClassId) (dI : Nat → Nat → Nat) (cy : Nat → ClassId) (sz : Nat) (vnh : Nat → Int32) (vo : Nat) (voth : Int32) (vmt : Nat) (votp : Int32) (vosz : Int32) (volm : Int32) (voto : Int32) (vofr : Int32) (vokd : Int32) (vonu : Int32) (vosg : Int32) (vofa : Int32) (vopl : Int32) (vowd : Int64) (votd : Int32) (vmn : Nat) (vmr : Nat) (vmk : Nat) (vms : Nat) (vma : Nat) (vmm : Nat) (vmrn : Nat) (vmkn : Nat) (vmik : Nat) (vmon : Nat) (vosm : Int32) (vohp : Int32) (vmw : Nat) (vmf : Nat) (vmb : Nat) (vomb : Int32) (vmd : Nat) (vmc : Nat) (vocm : Int32) (voct : Int32) (vocy : Int32) (vmx : Nat) (votx : Int32) (vose : Int32) (vml : Nat) (vmwr : Nat) (voln : Int32) (vohw : Int32) (vmno : Nat) (vond : Int32) (voon : Int32) (vowi : Int32) (votop : Int32) (vmnf : Nat → Int32) (vmdf : Nat → Int32) (vmcf : Nat → Int32) (vm : Int32) (vlf : Int32) (vti : Int32) (vwe : Int32) (r_vocy : 0 ≤ (vocy : Int32).toInt ∧ (vocy : Int32).toInt ≤ 10) (r_vm : 0 ≤ (vm : Int32).toInt ∧ (vm : Int32).toInt ≤ 6) (r_vlf : 0 ≤ (vlf : Int32).toInt ∧ (vlf : Int32).toInt ≤ 10) (p_vmnf : NW vnh vmnf) (hd : 9 ≤ (vmnf 1).toInt) : Met l yX11_careerFrom (wl yX11_careerFrom cX11_careerFrom 8 none) ({ frames := 2, cells := 0, slots := 0, locals := 128 }) (Pw (dC, dI) vwCl cy [(vo, .inr (12, [.int voth, .ref vmt, .int votp, .int vosz, .int volm, .int voto, .int vofr, .int vokd, .int vonu, .int vosg, .int vofa, .int vopl, .long vowd, .int votd, .ref vmn, .ref vmr, .ref vmk, .ref vms, .ref vma, .ref vmm, .ref vmrn, .ref vmkn, .ref vmik, .ref vmon, .int vosm, .int vohp, .ref vmw, .ref vmf, .ref vmb, .int vomb, .ref vmd, .ref vmc, .int vocm, .int voct, .int vocy, .ref vmx, .int votx, .int vose, .ref vml, .ref vmwr, .int voln, .int vohw, .ref vmno, .int vond, .int voon, .int vowi, .int votop])), (vmn, .inl (cy 0, 575, .inl vmnf)), (vmd, .inl (cy 0, 10, .inl vmdf)), (vmc, .inl (cy 0, 10, .inl vmcf))] sz [.ref vo, .int vm, .int 9, .int vlf, .int vti, .int vwe] nE) (Qv (dC, dI) vwCl (fun (u : Int32 × Int32 × (Nat → Int32) × Int32 × (Nat → Int32)) => (0 ≤ (u.2.2.2.1 : Int32).toInt ∧ (u.2.2.2.1 : Int32).toInt ≤ 10)) (O_m_careerFrom_9 cy vnh vo voth vmt votp vosz volm voto vofr vokd vonu vosg vofa vopl vowd votd vmn vmr vmk vms vma vmm vmrn vmkn vmik vmon vosm vohp vmw vmf vmb vomb vmd vmc vocm voct vocy vmx votx vose vml vmwr voln vohw vmno vond voon vowi votop vmnf vmdf vmcf vm vlf vti vwe) (va_A [(vo, .inr (12, [.int voth, .ref vmt, .int votp, .int vosz, .int volm, .int voto, .int vofr, .int vokd, .int vonu, .int vosg, .int vofa, .int vopl, .long vowd, .int votd, .ref vmn, .ref vmr, .ref vmk, .ref vms, .ref vma, .ref vmm, .ref vmrn, .ref vmkn, .ref vmik, .ref vmon, .int vosm, .int vohp, .ref vmw, .ref vmf, .ref vmb, .int vomb, .ref vmd, .ref vmc, .int vocm, .int voct, .int vocy, .ref vmx, .int votx, .int vose, .ref vml, .ref vmwr, .int voln, .int vohw, .ref vmno, .int vond, .int voon, .int vowi, .int votop])), (vmn, .inl (cy 0, 575, .inl vmnf)), (vmd, .inl (cy 0, 10, .inl vmdf)), (vmc, .inl (cy 0, 10, .inl vmcf))] sz)) 0 0 (va_A [(vo, .inr (12, [.int voth, .ref vmt, .int votp, .int vosz, .int volm, .int voto, .int vofr, .int vokd, .int vonu, .int vosg, .int vofa, .int vopl, .long vowd, .int votd, .ref vmn, .ref vmr, .ref vmk, .ref vms, .ref vma, .ref vmm, .ref vmrn, .ref vmkn, .ref vmik, .ref vmon, .int vosm, .int vohp, .ref vmw, .ref vmf, .ref vmb, .int vomb, .ref vmd, .ref vmc, .int vocm, .int voct, .int vocy, .ref vmx, .int votx, .int vose, .ref vml, .ref vmwr, .int voln, .int vohw, .ref vmno, .int vond, .int voon, .int vowi, .int votop])), (vmn, .inl (cy 0, 575, .inl vmnf)), (vmd, .inl (cy 0, 10, .inl vmdf)), (vmc, .inl (cy 0, 10, .inl vmcf))] sz) := by
  refine mw (Qc := Qv (dC, dI) vwCl (fun (u : Int32 × Int32 × (Nat → Int32) × Int32 × (Nat → Int32)) => (0 ≤ (u.2.2.2.1 : Int32).toInt ∧ (u.2.2.2.1 : Int32).toInt ≤ 10)) (O_m_careerFrom_9 cy vnh vo voth vmt votp vosz volm voto vofr vokd vonu vosg vofa vopl vowd votd vmn vmr vmk vms vma vmm vmrn vmkn vmik vmon vosm vohp vmw vmf vmb vomb vmd vmc vocm voct vocy vmx votx vose vml vmwr voln vohw vmno vond voon vowi votop vmnf vmdf vmcf vm vlf vti vwe)) RX11 rfl (by decide +kernel) (Nat.le_of_ble_eq_true rfl) ?_
  intro p e s m below meth c A hx hb hr hlocks av9 hav hts hown hnm hml hK hP hD hA hS hE hAe Q9 hQ9 ls hl
  have hl : lv_has ls 8 [(0, .ref vo), (1, .int vm), (2, .int 9), (3, .int vlf), (4, .int vti), (5, .int vwe)] := hl
  refine lv_iload_n hx hb dX11_careerFrom_0 rfl (lv_at hl 2 rfl) ?_
  refine lv_aload_n hx hb dX11_careerFrom_1 rfl (lv_at hl 0 rfl) ?_
  refine gf_X11_98 hx hb hts hown hK hP 0 rfl rfl dX11_careerFrom_2 ?_
  refine lv_iconst (v := 1) hx hb dX11_careerFrom_5 (by decide) ?_
  have k_1 : (1 : Int32).toInt = 1 := by decide
  have hin_1 : vp_in (1 : Int32) 575 := vp_in_iff.mpr ⟨by omega, by omega⟩
  refine va_iald hx hb hK hP 1 0 rfl rfl hin_1 dX11_careerFrom_6 ?_
  refine lv_topi (fun z_2 ez_2 => ?_)
  have bz_2 := p_vmnf.a1 (x := 1) ⟨by omega, by omega⟩ ez_2
  have tz_2 : z_2.toInt = (vmnf 1).toInt := by rw [ez_2]; rfl
  have k_9 : (9 : Int32).toInt = 9 := by decide
  refine lv_icmp_ne (tgt := 85) hx hb dX11_careerFrom_7 (by decide) (fun c_3 => ?_) (fun c_3 => ?_)
  · skip
    have c_3 : ¬ ((9 : Int32).toInt = z_2.toInt) := fun h9 => c_3 (i_eq.mpr h9)
    refine lv_iload_n hx hb dX11_careerFrom_85 rfl (lv_at hl 3 rfl) ?_
    refine lv_bipush (v := 9) hx hb dX11_careerFrom_86 (by decide) ?_
    refine lv_aload_n hx hb dX11_careerFrom_88 rfl (lv_at hl 0 rfl) ?_
    refine lv_iload_n hx hb dX11_careerFrom_89 rfl (lv_at hl 1 rfl) ?_
    refine lv_iload_n hx hb dX11_careerFrom_90 rfl (lv_at hl 2 rfl) ?_
    refine jr_i (rVr (As := [.int vm, .int 9]) (rest := [.int 9, .int vlf]) (ci := 12) ⟨hx, hb, hml, hown, hts⟩ (m_didOf l dC dI cy vnh vo voth vmt votp vosz volm voto vofr vokd vonu vosg vofa vopl vowd votd vmn vmr vmk vms vma vmm vmrn vmkn vmik vmon vosm vohp vmw vmf vmb vomb vmd vmc vocm voct vocy vmx votx vose vml vmwr voln vohw vmno vond voon vowi votop vmnf vm 9 ⟨by omega, by omega⟩ ⟨by omega, by omega⟩ p_vmnf) (cw_X11_228 hts rfl rfl ⟨Nat.le_of_ble_eq_true rfl, Nat.le_of_ble_eq_true rfl⟩) hP hK [0, 1] rfl rfl rfl rfl hl.1 rfl (Nat.le_of_ble_eq_true rfl) dX11_careerFrom_91 ⟨Nat.le_of_ble_eq_true rfl, Nat.le_of_ble_eq_true rfl⟩) hP hS (fun r_4 H locs hp_5 hP hS => ?_)
    refine lv_isub hx hb dX11_careerFrom_94 ?_
    refine lv_topi (fun z_6 ez_6 => ?_)
    refine jr_i (rSr (As := [.int vlf, .int z_6]) (rest := []) ⟨hx, hb, hml, hown, hts⟩ (m_least l dC dI cy vlf z_6 ) (cw_X11_288 hts rfl rfl ⟨Nat.le_of_ble_eq_true rfl, Nat.le_of_ble_eq_true rfl⟩) hP hK [] rfl rfl hl.1 rfl (Nat.le_of_ble_eq_true rfl) dX11_careerFrom_95 ⟨Nat.le_of_ble_eq_true rfl, Nat.le_of_ble_eq_true rfl⟩) hP hS (fun r_7 H locs hp_8 hP hS => ?_)
    have hp_8 : ((r_7 : Int32).toInt ≤ (vlf : Int32).toInt) ∧ ((r_7 : Int32).toInt ≤ (z_6 : Int32).toInt) ∧ (((r_7 : Int32).toInt = (vlf : Int32).toInt ∨ (r_7 : Int32).toInt = (z_6 : Int32).toInt)) := hp_8
    obtain ⟨q_9, q_10, q_11⟩ := hp_8
    refine lv_istore (lv' := [(6, .int r_7), (0, .ref vo), (1, .int vm), (2, .int 9), (3, .int vlf), (4, .int vti), (5, .int vwe)]) hx hb dX11_careerFrom_98 hl (by decide) rfl (fun ls hl => ?_)
    refine lv_iconst (v := 0) hx hb dX11_careerFrom_100 (by decide) ?_
    refine lv_istore (lv' := [(7, .int 0), (6, .int r_7), (0, .ref vo), (1, .int vm), (2, .int 9), (3, .int vlf), (4, .int vti), (5, .int vwe)]) hx hb dX11_careerFrom_101 hl (by decide) rfl (fun ls hl => ?_)
    have loop12 : ∀ (n12 : Nat) (x_13 : Int32) (x_14 : Int32) (x_15 : Int32) (x_16 : Int32) (g_17 : Nat → Int32) (g_18 : Nat → Int32), (0 ≤ x_13.toInt ∧ x_13.toInt ≤ 11) → (0 ≤ x_16.toInt ∧ x_16.toInt ≤ 10) → 11 - x_13.toInt < (n12 : Int) → ∀ (H : Heap) (locs : List Loc), va_P (dC, dI) vwCl [(vo, .inr (12, [.int voth, .ref vmt, .int votp, .int vosz, .int volm, .int voto, .int vofr, .int vokd, .int vonu, .int vosg, .int vofa, .int vopl, .long vowd, .int votd, .ref vmn, .ref vmr, .ref vmk, .ref vms, .ref vma, .ref vmm, .ref vmrn, .ref vmkn, .ref vmik, .ref vmon, .int vosm, .int vohp, .ref vmw, .ref vmf, .ref vmb, .int vomb, .ref vmd, .ref vmc, .int x_14, .int x_15, .int x_16, .ref vmx, .int votx, .int vose, .ref vml, .ref vmwr, .int voln, .int vohw, .ref vmno, .int vond, .int voon, .int vowi, .int votop])), (vmn, .inl (cy 0, 575, .inl vmnf)), (vmd, .inl (cy 0, 10, .inl g_18)), (vmc, .inl (cy 0, 10, .inl g_17))] H → va_D A [(vo, .inr (12, [.int voth, .ref vmt, .int votp, .int vosz, .int volm, .int voto, .int vofr, .int vokd, .int vonu, .int vosg, .int vofa, .int vopl, .long vowd, .int votd, .ref vmn, .ref vmr, .ref vmk, .ref vms, .ref vma, .ref vmm, .ref vmrn, .ref vmkn, .ref vmik, .ref vmon, .int vosm, .int vohp, .ref vmw, .ref vmf, .ref vmb, .int vomb, .ref vmd, .ref vmc, .int x_14, .int x_15, .int x_16, .ref vmx, .int votx, .int vose, .ref vml, .ref vmwr, .int voln, .int vohw, .ref vmno, .int vond, .int voon, .int vowi, .int votop])), (vmn, .inl (cy 0, 575, .inl vmnf)), (vmd, .inl (cy 0, 10, .inl g_18)), (vmc, .inl (cy 0, 10, .inl g_17))] → va_S A s.heap H locs → ∀ ls : Array Slot, lv_has ls 8 [(7, .int x_13), (6, .int r_7), (0, .ref vo), (1, .int vm), (2, .int 9), (3, .int vlf), (4, .int vti), (5, .int vwe)] → W p l e ({ frames := 2, cells := 0, slots := 0, locals := 128 }) s m av9 below meth c H locs 0 0 Q9 (F0 m 103 ls []) := by
      intro n12
      induction n12 with
      | zero =>
        intro x_13 x_14 x_15 x_16 g_17 g_18 bx_13 bx_16 hn12 H locs hP hD hS ls hl
        exfalso; omega
      | succ n12 ih12 =>
        intro x_13 x_14 x_15 x_16 g_17 g_18 bx_13 bx_16 hn12 H locs hP hD hS ls hl
        refine lv_iload hx hb dX11_careerFrom_103 (lv_at hl 0 rfl) ?_
        refine lv_iload hx hb dX11_careerFrom_105 (lv_at hl 1 rfl) ?_
        refine lv_icmp_gt (tgt := 180) hx hb dX11_careerFrom_107 (by decide) (fun c_19 => ?_) (fun c_19 => ?_)
        · skip
          have c_19 : r_7.toInt < x_13.toInt := i_lt.mp c_19
          rw [hQ9]
          exact re_v (x_14, x_15, g_17, x_16, g_18) hx hb hr hlocks (show 0 ≤ (x_16 : Int32).toInt ∧ (x_16 : Int32).toInt ≤ 10 from ⟨by omega, by omega⟩) (hP.sub [0, 1, 2, 3] rfl) (hD.sub [0, 1, 2, 3] rfl rfl) hS dX11_careerFrom_180
        · skip
          have c_19 : ¬ (r_7.toInt < x_13.toInt) := fun h9 => c_19 (i_lt.mpr h9)
          refine lv_iload hx hb dX11_careerFrom_110 (lv_at hl 7 rfl) ?_
          refine lv_iload hx hb dX11_careerFrom_112 (lv_at hl 0 rfl) ?_
          refine lv_aload_n hx hb dX11_careerFrom_114 rfl (lv_at hl 2 rfl) ?_
          refine gf_X11_98 hx hb hts hown hK hP 0 rfl rfl dX11_careerFrom_115 ?_
          refine lv_bipush (v := 11) hx hb dX11_careerFrom_118 (by decide) ?_
          refine lv_iload_n hx hb dX11_careerFrom_120 rfl (lv_at hl 4 rfl) ?_
          refine lv_iadd hx hb dX11_careerFrom_121 ?_
          refine as_i 20 (by decide) ?_
          have k_20 : (20 : Int32).toInt = 20 := by decide
          have hin_20 : vp_in (20 : Int32) 575 := vp_in_iff.mpr ⟨by omega, by omega⟩
          refine va_iald hx hb hK hP 1 0 rfl rfl hin_20 dX11_careerFrom_122 ?_
          refine lv_topi (fun z_21 ez_21 => ?_)
          have bz_21 := p_vmnf.aw (x := 20) ⟨by omega, by omega⟩ ez_21
          have tz_21 : z_21.toInt = (vmnf 20).toInt := by rw [ez_21]; rfl
          refine lv_imul hx hb dX11_careerFrom_123 ?_
          refine lv_topi (fun z_22 ez_22 => ?_)
          have bz_22 : 0 ≤ z_22.toInt ∧ z_22.toInt ≤ 400 ∧ z_22.toInt = x_13.toInt * z_21.toInt := i_mulb (A := 10) (B := 40) ez_22 ⟨by omega, by omega⟩ ⟨by omega, by omega⟩ (by decide)
          refine lv_iadd hx hb dX11_careerFrom_124 ?_
          refine lv_topi (fun z_23 ez_23 => ?_)
          refine lv_aload_n hx hb dX11_careerFrom_125 rfl (lv_at hl 2 rfl) ?_
          refine gf_X11_98 hx hb hts hown hK hP 0 rfl rfl dX11_careerFrom_126 ?_
          refine lv_iconst (v := 2) hx hb dX11_careerFrom_129 (by decide) ?_
          have k_2 : (2 : Int32).toInt = 2 := by decide
          have hin_24 : vp_in (2 : Int32) 575 := vp_in_iff.mpr ⟨by omega, by omega⟩
          refine va_iald hx hb hK hP 1 0 rfl rfl hin_24 dX11_careerFrom_130 ?_
          refine lv_topi (fun z_25 ez_25 => ?_)
          have tz_25 : z_25.toInt = (vmnf 2).toInt := by rw [ez_25]; rfl
          refine lv_icmp_gt (tgt := 180) hx hb dX11_careerFrom_131 (by decide) (fun c_26 => ?_) (fun c_26 => ?_)
          · skip
            have c_26 : z_25.toInt < z_23.toInt := i_lt.mp c_26
            rw [hQ9]
            exact re_v (x_14, x_15, g_17, x_16, g_18) hx hb hr hlocks (show 0 ≤ (x_16 : Int32).toInt ∧ (x_16 : Int32).toInt ≤ 10 from ⟨by omega, by omega⟩) (hP.sub [0, 1, 2, 3] rfl) (hD.sub [0, 1, 2, 3] rfl rfl) hS dX11_careerFrom_180
          · skip
            have c_26 : ¬ (z_25.toInt < z_23.toInt) := fun h9 => c_26 (i_lt.mpr h9)
            refine lv_aload_n hx hb dX11_careerFrom_134 rfl (lv_at hl 2 rfl) ?_
            refine gf_X11_142 hx hb hts hown hK hP 0 rfl rfl dX11_careerFrom_135 ?_
            refine lv_iload_n hx hb dX11_careerFrom_138 rfl (lv_at hl 4 rfl) ?_
            refine lv_iload hx hb dX11_careerFrom_139 (lv_at hl 0 rfl) ?_
            have hin_27 : vp_in (9 : Int32) 10 := vp_in_iff.mpr ⟨by omega, by omega⟩
            refine va_iast hx hb hK hP hD hS 2 0 rfl rfl hin_27 dX11_careerFrom_141 (fun H locs hP hD hS => ?_)
            obtain ⟨f_28, ef_28⟩ : ∃ z : Nat → Int32, z = upd g_18 (Int32.toNatClampNeg 9) x_13 := ⟨_, rfl⟩
            have hP : va_P (dC, dI) vwCl [(vo, .inr (12, [.int voth, .ref vmt, .int votp, .int vosz, .int volm, .int voto, .int vofr, .int vokd, .int vonu, .int vosg, .int vofa, .int vopl, .long vowd, .int votd, .ref vmn, .ref vmr, .ref vmk, .ref vms, .ref vma, .ref vmm, .ref vmrn, .ref vmkn, .ref vmik, .ref vmon, .int vosm, .int vohp, .ref vmw, .ref vmf, .ref vmb, .int vomb, .ref vmd, .ref vmc, .int x_14, .int x_15, .int x_16, .ref vmx, .int votx, .int vose, .ref vml, .ref vmwr, .int voln, .int vohw, .ref vmno, .int vond, .int voon, .int vowi, .int votop])), (vmn, .inl (cy 0, 575, .inl vmnf)), (vmd, .inl (cy 0, 10, .inl f_28)), (vmc, .inl (cy 0, 10, .inl g_17))] H := by rw [ef_28]; exact hP
            have hD : va_D A [(vo, .inr (12, [.int voth, .ref vmt, .int votp, .int vosz, .int volm, .int voto, .int vofr, .int vokd, .int vonu, .int vosg, .int vofa, .int vopl, .long vowd, .int votd, .ref vmn, .ref vmr, .ref vmk, .ref vms, .ref vma, .ref vmm, .ref vmrn, .ref vmkn, .ref vmik, .ref vmon, .int vosm, .int vohp, .ref vmw, .ref vmf, .ref vmb, .int vomb, .ref vmd, .ref vmc, .int x_14, .int x_15, .int x_16, .ref vmx, .int votx, .int vose, .ref vml, .ref vmwr, .int voln, .int vohw, .ref vmno, .int vond, .int voon, .int vowi, .int votop])), (vmn, .inl (cy 0, 575, .inl vmnf)), (vmd, .inl (cy 0, 10, .inl f_28)), (vmc, .inl (cy 0, 10, .inl g_17))] := by rw [ef_28]; exact hD
            refine lv_aload_n hx hb dX11_careerFrom_142 rfl (lv_at hl 2 rfl) ?_
            refine lv_iload_n hx hb dX11_careerFrom_143 rfl (lv_at hl 3 rfl) ?_
            refine lv_iload_n hx hb dX11_careerFrom_144 rfl (lv_at hl 4 rfl) ?_
            refine lv_iconst (v := 1) hx hb dX11_careerFrom_145 (by decide) ?_
            refine lv_iadd hx hb dX11_careerFrom_146 ?_
            refine as_i 10 (by decide) ?_
            refine lv_iload_n hx hb dX11_careerFrom_147 rfl (lv_at hl 5 rfl) ?_
            refine lv_iload hx hb dX11_careerFrom_148 (lv_at hl 0 rfl) ?_
            refine lv_isub hx hb dX11_careerFrom_150 ?_
            refine lv_topi (fun z_29 ez_29 => ?_)
            have bz_29 : z_29.toInt = vlf.toInt - x_13.toInt := i_sub ez_29 (by omega) (by omega)
            refine lv_iload hx hb dX11_careerFrom_151 (lv_at hl 6 rfl) ?_
            refine lv_iload hx hb dX11_careerFrom_153 (lv_at hl 0 rfl) ?_
            refine lv_iadd hx hb dX11_careerFrom_155 ?_
            refine lv_topi (fun z_30 ez_30 => ?_)
            refine lv_iload hx hb dX11_careerFrom_156 (lv_at hl 7 rfl) ?_
            refine lv_iload hx hb dX11_careerFrom_158 (lv_at hl 0 rfl) ?_
            refine lv_aload_n hx hb dX11_careerFrom_160 rfl (lv_at hl 2 rfl) ?_
            refine gf_X11_98 hx hb hts hown hK hP 0 rfl rfl dX11_careerFrom_161 ?_
            refine lv_bipush (v := 11) hx hb dX11_careerFrom_164 (by decide) ?_
            refine lv_iload_n hx hb dX11_careerFrom_166 rfl (lv_at hl 4 rfl) ?_
            refine lv_iadd hx hb dX11_careerFrom_167 ?_
            refine as_i 20 (by decide) ?_
            have hin_31 : vp_in (20 : Int32) 575 := vp_in_iff.mpr ⟨by omega, by omega⟩
            refine va_iald hx hb hK hP 1 0 rfl rfl hin_31 dX11_careerFrom_168 ?_
            refine lv_topi (fun z_32 ez_32 => ?_)
            have bz_32 := p_vmnf.aw (x := 20) ⟨by omega, by omega⟩ ez_32
            have tz_32 : z_32.toInt = (vmnf 20).toInt := by rw [ez_32]; rfl
            refine lv_imul hx hb dX11_careerFrom_169 ?_
            refine lv_topi (fun z_33 ez_33 => ?_)
            have bz_33 : 0 ≤ z_33.toInt ∧ z_33.toInt ≤ 400 ∧ z_33.toInt = x_13.toInt * z_32.toInt := i_mulb (A := 10) (B := 40) ez_33 ⟨by omega, by omega⟩ ⟨by omega, by omega⟩ (by decide)
            refine lv_iadd hx hb dX11_careerFrom_170 ?_
            refine lv_topi (fun z_34 ez_34 => ?_)
            refine jn_v (wr := []) (rV (As := [.int vm, .int 10, .int z_29, .int z_30, .int z_34]) (rest := []) (ci := 12) ⟨hx, hb, hml, hown, hts⟩ (m_careerFrom_10 l dC dI cy _ vnh vo voth vmt votp vosz volm voto vofr vokd vonu vosg vofa vopl vowd votd vmn vmr vmk vms vma vmm vmrn vmkn vmik vmon vosm vohp vmw vmf vmb vomb vmd vmc x_14 x_15 x_16 vmx votx vose vml vmwr voln vohw vmno vond voon vowi votop vmnf f_28 g_17 vm z_29 z_30 z_34 ⟨by omega, by omega⟩ r_vm ⟨by omega, by omega⟩ p_vmnf (by omega)) (cw_X11_331 hts rfl rfl ⟨Nat.le_of_ble_eq_true rfl, Nat.le_of_ble_eq_true rfl⟩) hP hD hK [0, 1, 2, 3] rfl rfl rfl rfl bl0 e0 rfl hl.1 rfl (Nat.le_of_ble_eq_true rfl) dX11_careerFrom_171 ⟨Nat.le_of_ble_eq_true rfl, Nat.le_of_ble_eq_true rfl⟩) hP hD hS hA [0, 1, 2, 3] [] rfl rfl rfl (by decide) (fun u_37 H locs hp_36 hP hD hS => ?_)
            obtain ⟨vocm_38, voct_39, vmcf_40, vocy_41, vmdf_42⟩ := u_37
            have hp_36 : (0 ≤ (vocy_41 : Int32).toInt ∧ (vocy_41 : Int32).toInt ≤ 10) := hp_36
            have q_43 := hp_36
            have hP : va_P (dC, dI) vwCl [(vo, .inr (12, [.int voth, .ref vmt, .int votp, .int vosz, .int volm, .int voto, .int vofr, .int vokd, .int vonu, .int vosg, .int vofa, .int vopl, .long vowd, .int votd, .ref vmn, .ref vmr, .ref vmk, .ref vms, .ref vma, .ref vmm, .ref vmrn, .ref vmkn, .ref vmik, .ref vmon, .int vosm, .int vohp, .ref vmw, .ref vmf, .ref vmb, .int vomb, .ref vmd, .ref vmc, .int vocm_38, .int voct_39, .int vocy_41, .ref vmx, .int votx, .int vose, .ref vml, .ref vmwr, .int voln, .int vohw, .ref vmno, .int vond, .int voon, .int vowi, .int votop])), (vmn, .inl (cy 0, 575, .inl vmnf)), (vmd, .inl (cy 0, 10, .inl vmdf_42)), (vmc, .inl (cy 0, 10, .inl vmcf_40))] H := hP
            have hD : va_D A [(vo, .inr (12, [.int voth, .ref vmt, .int votp, .int vosz, .int volm, .int voto, .int vofr, .int vokd, .int vonu, .int vosg, .int vofa, .int vopl, .long vowd, .int votd, .ref vmn, .ref vmr, .ref vmk, .ref vms, .ref vma, .ref vmm, .ref vmrn, .ref vmkn, .ref vmik, .ref vmon, .int vosm, .int vohp, .ref vmw, .ref vmf, .ref vmb, .int vomb, .ref vmd, .ref vmc, .int vocm_38, .int voct_39, .int vocy_41, .ref vmx, .int votx, .int vose, .ref vml, .ref vmwr, .int voln, .int vohw, .ref vmno, .int vond, .int voon, .int vowi, .int votop])), (vmn, .inl (cy 0, 575, .inl vmnf)), (vmd, .inl (cy 0, 10, .inl vmdf_42)), (vmc, .inl (cy 0, 10, .inl vmcf_40))] := hD
            obtain ⟨z_44, ez_44⟩ : ∃ z : Int32, z = x_13 + 1 := ⟨_, rfl⟩
            have bz_44 : z_44.toInt = x_13.toInt + (1 : Int32).toInt := i_add ez_44 (by omega) (by omega)
            refine lv_iinc (v := z_44) (lv' := [(7, .int z_44), (6, .int r_7), (0, .ref vo), (1, .int vm), (2, .int 9), (3, .int vlf), (4, .int vti), (5, .int vwe)]) hx hb dX11_careerFrom_174 hl (k := 0) rfl ez_44.symm (by decide) rfl (fun ls hl => ?_)
            refine lv_goto (tgt := 103) hx hb dX11_careerFrom_177 (by decide) ?_
            exact ih12 z_44 vocm_38 voct_39 vocy_41 vmcf_40 vmdf_42 ⟨by omega, by omega⟩ ⟨by omega, by omega⟩ (by omega) _ _ (hP.sub [0, 1, 2, 3] rfl) (hD.sub [0, 1, 2, 3] rfl rfl) hS ls (lv_sub hl [0, 1, 2, 3, 4, 5, 6, 7] rfl)
    have k_0 : (0 : Int32).toInt = 0 := by decide
    exact loop12 ((11 - (0 : Int32).toInt).toNat + 1) 0 vocm voct vocy vmcf vmdf ⟨by omega, by omega⟩ ⟨by omega, by omega⟩ (by omega) _ _ hP hD hS ls (lv_sub hl [0, 1, 2, 3, 4, 5, 6, 7] rfl)
  · skip
    have c_3 : (9 : Int32).toInt = z_2.toInt := i_eq.mp c_3
    have join45 : ∀ (H : Heap) (locs : List Loc), va_P (dC, dI) vwCl [(vo, .inr (12, [.int voth, .ref vmt, .int votp, .int vosz, .int volm, .int voto, .int vofr, .int vokd, .int vonu, .int vosg, .int vofa, .int vopl, .long vowd, .int votd, .ref vmn, .ref vmr, .ref vmk, .ref vms, .ref vma, .ref vmm, .ref vmrn, .ref vmkn, .ref vmik, .ref vmon, .int vosm, .int vohp, .ref vmw, .ref vmf, .ref vmb, .int vomb, .ref vmd, .ref vmc, .int vocm, .int voct, .int vocy, .ref vmx, .int votx, .int vose, .ref vml, .ref vmwr, .int voln, .int vohw, .ref vmno, .int vond, .int voon, .int vowi, .int votop])), (vmn, .inl (cy 0, 575, .inl vmnf)), (vmd, .inl (cy 0, 10, .inl vmdf)), (vmc, .inl (cy 0, 10, .inl vmcf))] H → va_D A [(vo, .inr (12, [.int voth, .ref vmt, .int votp, .int vosz, .int volm, .int voto, .int vofr, .int vokd, .int vonu, .int vosg, .int vofa, .int vopl, .long vowd, .int votd, .ref vmn, .ref vmr, .ref vmk, .ref vms, .ref vma, .ref vmm, .ref vmrn, .ref vmkn, .ref vmik, .ref vmon, .int vosm, .int vohp, .ref vmw, .ref vmf, .ref vmb, .int vomb, .ref vmd, .ref vmc, .int vocm, .int voct, .int vocy, .ref vmx, .int votx, .int vose, .ref vml, .ref vmwr, .int voln, .int vohw, .ref vmno, .int vond, .int voon, .int vowi, .int votop])), (vmn, .inl (cy 0, 575, .inl vmnf)), (vmd, .inl (cy 0, 10, .inl vmdf)), (vmc, .inl (cy 0, 10, .inl vmcf))] → va_S A s.heap H locs → ∀ ls : Array Slot, lv_has ls 8 [(0, .ref vo), (1, .int vm), (2, .int 9), (3, .int vlf), (4, .int vti), (5, .int vwe)] → W p l e ({ frames := 2, cells := 0, slots := 0, locals := 128 }) s m av9 below meth c H locs 0 0 Q9 (F0 m 38 ls []) := by
      intro  H locs hP hD hS ls hl
      refine lv_aload_n hx hb dX11_careerFrom_38 rfl (lv_at hl 0 rfl) ?_
      refine lv_iload hx hb dX11_careerFrom_39 (lv_at hl 5 rfl) ?_
      refine pf_X11_322 hx hb hts hown hK hP hD hS 0 rfl rfl rfl (Nat.le_of_ble_eq_true rfl) dX11_careerFrom_41 (fun H locs hP hD hS => ?_)
      have hP : va_P (dC, dI) vwCl [(vo, .inr (12, [.int voth, .ref vmt, .int votp, .int vosz, .int volm, .int voto, .int vofr, .int vokd, .int vonu, .int vosg, .int vofa, .int vopl, .long vowd, .int votd, .ref vmn, .ref vmr, .ref vmk, .ref vms, .ref vma, .ref vmm, .ref vmrn, .ref vmkn, .ref vmik, .ref vmon, .int vosm, .int vohp, .ref vmw, .ref vmf, .ref vmb, .int vomb, .ref vmd, .ref vmc, .int vwe, .int voct, .int vocy, .ref vmx, .int votx, .int vose, .ref vml, .ref vmwr, .int voln, .int vohw, .ref vmno, .int vond, .int voon, .int vowi, .int votop])), (vmn, .inl (cy 0, 575, .inl vmnf)), (vmd, .inl (cy 0, 10, .inl vmdf)), (vmc, .inl (cy 0, 10, .inl vmcf))] H := hP
      have hD : va_D A [(vo, .inr (12, [.int voth, .ref vmt, .int votp, .int vosz, .int volm, .int voto, .int vofr, .int vokd, .int vonu, .int vosg, .int vofa, .int vopl, .long vowd, .int votd, .ref vmn, .ref vmr, .ref vmk, .ref vms, .ref vma, .ref vmm, .ref vmrn, .ref vmkn, .ref vmik, .ref vmon, .int vosm, .int vohp, .ref vmw, .ref vmf, .ref vmb, .int vomb, .ref vmd, .ref vmc, .int vwe, .int voct, .int vocy, .ref vmx, .int votx, .int vose, .ref vml, .ref vmwr, .int voln, .int vohw, .ref vmno, .int vond, .int voon, .int vowi, .int votop])), (vmn, .inl (cy 0, 575, .inl vmnf)), (vmd, .inl (cy 0, 10, .inl vmdf)), (vmc, .inl (cy 0, 10, .inl vmcf))] := hD
      refine lv_aload_n hx hb dX11_careerFrom_44 rfl (lv_at hl 0 rfl) ?_
      refine lv_iload hx hb dX11_careerFrom_45 (lv_at hl 4 rfl) ?_
      refine pf_X11_325 hx hb hts hown hK hP hD hS 0 rfl rfl rfl (Nat.le_of_ble_eq_true rfl) dX11_careerFrom_47 (fun H locs hP hD hS => ?_)
      have hP : va_P (dC, dI) vwCl [(vo, .inr (12, [.int voth, .ref vmt, .int votp, .int vosz, .int volm, .int voto, .int vofr, .int vokd, .int vonu, .int vosg, .int vofa, .int vopl, .long vowd, .int votd, .ref vmn, .ref vmr, .ref vmk, .ref vms, .ref vma, .ref vmm, .ref vmrn, .ref vmkn, .ref vmik, .ref vmon, .int vosm, .int vohp, .ref vmw, .ref vmf, .ref vmb, .int vomb, .ref vmd, .ref vmc, .int vwe, .int vti, .int vocy, .ref vmx, .int votx, .int vose, .ref vml, .ref vmwr, .int voln, .int vohw, .ref vmno, .int vond, .int voon, .int vowi, .int votop])), (vmn, .inl (cy 0, 575, .inl vmnf)), (vmd, .inl (cy 0, 10, .inl vmdf)), (vmc, .inl (cy 0, 10, .inl vmcf))] H := hP
      have hD : va_D A [(vo, .inr (12, [.int voth, .ref vmt, .int votp, .int vosz, .int volm, .int voto, .int vofr, .int vokd, .int vonu, .int vosg, .int vofa, .int vopl, .long vowd, .int votd, .ref vmn, .ref vmr, .ref vmk, .ref vms, .ref vma, .ref vmm, .ref vmrn, .ref vmkn, .ref vmik, .ref vmon, .int vosm, .int vohp, .ref vmw, .ref vmf, .ref vmb, .int vomb, .ref vmd, .ref vmc, .int vwe, .int vti, .int vocy, .ref vmx, .int votx, .int vose, .ref vml, .ref vmwr, .int voln, .int vohw, .ref vmno, .int vond, .int voon, .int vowi, .int votop])), (vmn, .inl (cy 0, 575, .inl vmnf)), (vmd, .inl (cy 0, 10, .inl vmdf)), (vmc, .inl (cy 0, 10, .inl vmcf))] := hD
      refine lv_iconst (v := 0) hx hb dX11_careerFrom_50 (by decide) ?_
      refine lv_istore (lv' := [(6, .int 0), (0, .ref vo), (1, .int vm), (2, .int 9), (3, .int vlf), (4, .int vti), (5, .int vwe)]) hx hb dX11_careerFrom_51 hl (by decide) rfl (fun ls hl => ?_)
      have loop46 : ∀ (n46 : Nat) (x_47 : Int32) (g_48 : Nat → Int32), (0 ≤ x_47.toInt ∧ x_47.toInt ≤ 10) → 10 - x_47.toInt < (n46 : Int) → ∀ (H : Heap) (locs : List Loc), va_P (dC, dI) vwCl [(vo, .inr (12, [.int voth, .ref vmt, .int votp, .int vosz, .int volm, .int voto, .int vofr, .int vokd, .int vonu, .int vosg, .int vofa, .int vopl, .long vowd, .int votd, .ref vmn, .ref vmr, .ref vmk, .ref vms, .ref vma, .ref vmm, .ref vmrn, .ref vmkn, .ref vmik, .ref vmon, .int vosm, .int vohp, .ref vmw, .ref vmf, .ref vmb, .int vomb, .ref vmd, .ref vmc, .int vwe, .int vti, .int vocy, .ref vmx, .int votx, .int vose, .ref vml, .ref vmwr, .int voln, .int vohw, .ref vmno, .int vond, .int voon, .int vowi, .int votop])), (vmn, .inl (cy 0, 575, .inl vmnf)), (vmd, .inl (cy 0, 10, .inl vmdf)), (vmc, .inl (cy 0, 10, .inl g_48))] H → va_D A [(vo, .inr (12, [.int voth, .ref vmt, .int votp, .int vosz, .int volm, .int voto, .int vofr, .int vokd, .int vonu, .int vosg, .int vofa, .int vopl, .long vowd, .int votd, .ref vmn, .ref vmr, .ref vmk, .ref vms, .ref vma, .ref vmm, .ref vmrn, .ref vmkn, .ref vmik, .ref vmon, .int vosm, .int vohp, .ref vmw, .ref vmf, .ref vmb, .int vomb, .ref vmd, .ref vmc, .int vwe, .int vti, .int vocy, .ref vmx, .int votx, .int vose, .ref vml, .ref vmwr, .int voln, .int vohw, .ref vmno, .int vond, .int voon, .int vowi, .int votop])), (vmn, .inl (cy 0, 575, .inl vmnf)), (vmd, .inl (cy 0, 10, .inl vmdf)), (vmc, .inl (cy 0, 10, .inl g_48))] → va_S A s.heap H locs → ∀ ls : Array Slot, lv_has ls 8 [(6, .int x_47), (0, .ref vo), (1, .int vm), (2, .int 9), (3, .int vlf), (4, .int vti), (5, .int vwe)] → W p l e ({ frames := 2, cells := 0, slots := 0, locals := 128 }) s m av9 below meth c H locs 0 0 Q9 (F0 m 53 ls []) := by
        intro n46
        induction n46 with
        | zero =>
          intro x_47 g_48 bx_47 hn46 H locs hP hD hS ls hl
          exfalso; omega
        | succ n46 ih46 =>
          intro x_47 g_48 bx_47 hn46 H locs hP hD hS ls hl
          refine lv_iload hx hb dX11_careerFrom_53 (lv_at hl 0 rfl) ?_
          refine lv_iload_n hx hb dX11_careerFrom_55 rfl (lv_at hl 3 rfl) ?_
          refine lv_icmp_ge (tgt := 79) hx hb dX11_careerFrom_56 (by decide) (fun c_49 => ?_) (fun c_49 => ?_)
          · skip
            have c_49 : (9 : Int32).toInt ≤ x_47.toInt := i_le.mp c_49
            refine lv_aload_n hx hb dX11_careerFrom_79 rfl (lv_at hl 1 rfl) ?_
            refine lv_iload_n hx hb dX11_careerFrom_80 rfl (lv_at hl 3 rfl) ?_
            refine pf_X11_328 hx hb hts hown hK hP hD hS 0 rfl rfl rfl (Nat.le_of_ble_eq_true rfl) dX11_careerFrom_81 (fun H locs hP hD hS => ?_)
            have hP : va_P (dC, dI) vwCl [(vo, .inr (12, [.int voth, .ref vmt, .int votp, .int vosz, .int volm, .int voto, .int vofr, .int vokd, .int vonu, .int vosg, .int vofa, .int vopl, .long vowd, .int votd, .ref vmn, .ref vmr, .ref vmk, .ref vms, .ref vma, .ref vmm, .ref vmrn, .ref vmkn, .ref vmik, .ref vmon, .int vosm, .int vohp, .ref vmw, .ref vmf, .ref vmb, .int vomb, .ref vmd, .ref vmc, .int vwe, .int vti, .int 9, .ref vmx, .int votx, .int vose, .ref vml, .ref vmwr, .int voln, .int vohw, .ref vmno, .int vond, .int voon, .int vowi, .int votop])), (vmn, .inl (cy 0, 575, .inl vmnf)), (vmd, .inl (cy 0, 10, .inl vmdf)), (vmc, .inl (cy 0, 10, .inl g_48))] H := hP
            have hD : va_D A [(vo, .inr (12, [.int voth, .ref vmt, .int votp, .int vosz, .int volm, .int voto, .int vofr, .int vokd, .int vonu, .int vosg, .int vofa, .int vopl, .long vowd, .int votd, .ref vmn, .ref vmr, .ref vmk, .ref vms, .ref vma, .ref vmm, .ref vmrn, .ref vmkn, .ref vmik, .ref vmon, .int vosm, .int vohp, .ref vmw, .ref vmf, .ref vmb, .int vomb, .ref vmd, .ref vmc, .int vwe, .int vti, .int 9, .ref vmx, .int votx, .int vose, .ref vml, .ref vmwr, .int voln, .int vohw, .ref vmno, .int vond, .int voon, .int vowi, .int votop])), (vmn, .inl (cy 0, 575, .inl vmnf)), (vmd, .inl (cy 0, 10, .inl vmdf)), (vmc, .inl (cy 0, 10, .inl g_48))] := hD
            rw [hQ9]
            exact re_v (vwe, vti, g_48, (9 : Int32), vmdf) hx hb hr hlocks (show 0 ≤ (9 : Int32).toInt ∧ (9 : Int32).toInt ≤ 10 from ⟨by omega, by omega⟩) (hP.sub [0, 1, 2, 3] rfl) (hD.sub [0, 1, 2, 3] rfl rfl) hS dX11_careerFrom_84
          · skip
            have c_49 : ¬ ((9 : Int32).toInt ≤ x_47.toInt) := fun h9 => c_49 (i_le.mpr h9)
            refine lv_aload_n hx hb dX11_careerFrom_59 rfl (lv_at hl 1 rfl) ?_
            refine gf_X11_145 hx hb hts hown hK hP 0 rfl rfl dX11_careerFrom_60 ?_
            refine lv_iload hx hb dX11_careerFrom_63 (lv_at hl 0 rfl) ?_
            refine lv_aload_n hx hb dX11_careerFrom_65 rfl (lv_at hl 1 rfl) ?_
            refine gf_X11_142 hx hb hts hown hK hP 0 rfl rfl dX11_careerFrom_66 ?_
            refine lv_iload hx hb dX11_careerFrom_69 (lv_at hl 0 rfl) ?_
            have hin_50 : vp_in x_47 10 := vp_in_iff.mpr ⟨by omega, by omega⟩
            refine va_iald hx hb hK hP 2 0 rfl rfl hin_50 dX11_careerFrom_71 ?_
            refine lv_topi (fun z_51 ez_51 => ?_)
            have hin_52 : vp_in x_47 10 := vp_in_iff.mpr ⟨by omega, by omega⟩
            refine va_iast hx hb hK hP hD hS 3 0 rfl rfl hin_52 dX11_careerFrom_72 (fun H locs hP hD hS => ?_)
            obtain ⟨f_53, ef_53⟩ : ∃ z : Nat → Int32, z = upd g_48 (Int32.toNatClampNeg x_47) z_51 := ⟨_, rfl⟩
            have hP : va_P (dC, dI) vwCl [(vo, .inr (12, [.int voth, .ref vmt, .int votp, .int vosz, .int volm, .int voto, .int vofr, .int vokd, .int vonu, .int vosg, .int vofa, .int vopl, .long vowd, .int votd, .ref vmn, .ref vmr, .ref vmk, .ref vms, .ref vma, .ref vmm, .ref vmrn, .ref vmkn, .ref vmik, .ref vmon, .int vosm, .int vohp, .ref vmw, .ref vmf, .ref vmb, .int vomb, .ref vmd, .ref vmc, .int vwe, .int vti, .int vocy, .ref vmx, .int votx, .int vose, .ref vml, .ref vmwr, .int voln, .int vohw, .ref vmno, .int vond, .int voon, .int vowi, .int votop])), (vmn, .inl (cy 0, 575, .inl vmnf)), (vmd, .inl (cy 0, 10, .inl vmdf)), (vmc, .inl (cy 0, 10, .inl f_53))] H := by rw [ef_53]; exact hP
            have hD : va_D A [(vo, .inr (12, [.int voth, .ref vmt, .int votp, .int vosz, .int volm, .int voto, .int vofr, .int vokd, .int vonu, .int vosg, .int vofa, .int vopl, .long vowd, .int votd, .ref vmn, .ref vmr, .ref vmk, .ref vms, .ref vma, .ref vmm, .ref vmrn, .ref vmkn, .ref vmik, .ref vmon, .int vosm, .int vohp, .ref vmw, .ref vmf, .ref vmb, .int vomb, .ref vmd, .ref vmc, .int vwe, .int vti, .int vocy, .ref vmx, .int votx, .int vose, .ref vml, .ref vmwr, .int voln, .int vohw, .ref vmno, .int vond, .int voon, .int vowi, .int votop])), (vmn, .inl (cy 0, 575, .inl vmnf)), (vmd, .inl (cy 0, 10, .inl vmdf)), (vmc, .inl (cy 0, 10, .inl f_53))] := by rw [ef_53]; exact hD
            obtain ⟨z_54, ez_54⟩ : ∃ z : Int32, z = x_47 + 1 := ⟨_, rfl⟩
            have bz_54 : z_54.toInt = x_47.toInt + (1 : Int32).toInt := i_add ez_54 (by omega) (by omega)
            refine lv_iinc (v := z_54) (lv' := [(6, .int z_54), (0, .ref vo), (1, .int vm), (2, .int 9), (3, .int vlf), (4, .int vti), (5, .int vwe)]) hx hb dX11_careerFrom_73 hl (k := 0) rfl ez_54.symm (by decide) rfl (fun ls hl => ?_)
            refine lv_goto (tgt := 53) hx hb dX11_careerFrom_76 (by decide) ?_
            exact ih46 z_54 f_53 ⟨by omega, by omega⟩ (by omega) _ _ (hP.sub [0, 1, 2, 3] rfl) (hD.sub [0, 1, 2, 3] rfl rfl) hS ls (lv_sub hl [0, 1, 2, 3, 4, 5, 6] rfl)
      have k_0 : (0 : Int32).toInt = 0 := by decide
      exact loop46 ((10 - (0 : Int32).toInt).toNat + 1) 0 vmcf ⟨by omega, by omega⟩ (by omega) _ _ hP hD hS ls (lv_sub hl [0, 1, 2, 3, 4, 5, 6] rfl)
    refine lv_iload hx hb dX11_careerFrom_10 (lv_at hl 5 rfl) ?_
    refine lv_aload_n hx hb dX11_careerFrom_12 rfl (lv_at hl 0 rfl) ?_
    refine gf_X11_322 hx hb hts hown hK hP 0 rfl rfl dX11_careerFrom_13 ?_
    refine lv_icmp_lt (tgt := 37) hx hb dX11_careerFrom_16 (by decide) (fun c_55 => ?_) (fun c_55 => ?_)
    · skip
      have c_55 : vwe.toInt < vocm.toInt := i_lt.mp c_55
      rw [hQ9]
      exact re_v (vocm, voct, vmcf, vocy, vmdf) hx hb hr hlocks (show 0 ≤ (vocy : Int32).toInt ∧ (vocy : Int32).toInt ≤ 10 from ⟨by omega, by omega⟩) (hP.sub [0, 1, 2, 3] rfl) (hD.sub [0, 1, 2, 3] rfl rfl) hS dX11_careerFrom_37
    · skip
      have c_55 : ¬ (vwe.toInt < vocm.toInt) := fun h9 => c_55 (i_lt.mpr h9)
      refine lv_iload hx hb dX11_careerFrom_19 (lv_at hl 5 rfl) ?_
      refine lv_aload_n hx hb dX11_careerFrom_21 rfl (lv_at hl 0 rfl) ?_
      refine gf_X11_322 hx hb hts hown hK hP 0 rfl rfl dX11_careerFrom_22 ?_
      refine lv_icmp_ne (tgt := 38) hx hb dX11_careerFrom_25 (by decide) (fun c_56 => ?_) (fun c_56 => ?_)
      · skip
        have c_56 : ¬ (vwe.toInt = vocm.toInt) := fun h9 => c_56 (i_eq.mpr h9)
        exact join45  _ _ (hP.sub [0, 1, 2, 3] rfl) (hD.sub [0, 1, 2, 3] rfl rfl) hS ls (lv_sub hl [0, 1, 2, 3, 4, 5] rfl)
      · skip
        have c_56 : vwe.toInt = vocm.toInt := i_eq.mp c_56
        refine lv_iload hx hb dX11_careerFrom_28 (lv_at hl 4 rfl) ?_
        refine lv_aload_n hx hb dX11_careerFrom_30 rfl (lv_at hl 0 rfl) ?_
        refine gf_X11_325 hx hb hts hown hK hP 0 rfl rfl dX11_careerFrom_31 ?_
        refine lv_icmp_lt (tgt := 38) hx hb dX11_careerFrom_34 (by decide) (fun c_57 => ?_) (fun c_57 => ?_)
        · skip
          have c_57 : vti.toInt < voct.toInt := i_lt.mp c_57
          exact join45  _ _ (hP.sub [0, 1, 2, 3] rfl) (hD.sub [0, 1, 2, 3] rfl rfl) hS ls (lv_sub hl [0, 1, 2, 3, 4, 5] rfl)
        · skip
          have c_57 : ¬ (vti.toInt < voct.toInt) := fun h9 => c_57 (i_lt.mpr h9)
          rw [hQ9]
          exact re_v (vocm, voct, vmcf, vocy, vmdf) hx hb hr hlocks (show 0 ≤ (vocy : Int32).toInt ∧ (vocy : Int32).toInt ≤ 10 from ⟨by omega, by omega⟩) (hP.sub [0, 1, 2, 3] rfl) (hD.sub [0, 1, 2, 3] rfl rfl) hS dX11_careerFrom_37
abbrev O_m_careerFrom_8 (cy : Nat → ClassId) (vnh : Nat → Int32) (vo : Nat) (voth : Int32) (vmt : Nat) (votp : Int32) (vosz : Int32) (volm : Int32) (voto : Int32) (vofr : Int32) (vokd : Int32) (vonu : Int32) (vosg : Int32) (vofa : Int32) (vopl : Int32) (vowd : Int64) (votd : Int32) (vmn : Nat) (vmr : Nat) (vmk : Nat) (vms : Nat) (vma : Nat) (vmm : Nat) (vmrn : Nat) (vmkn : Nat) (vmik : Nat) (vmon : Nat) (vosm : Int32) (vohp : Int32) (vmw : Nat) (vmf : Nat) (vmb : Nat) (vomb : Int32) (vmd : Nat) (vmc : Nat) (vocm : Int32) (voct : Int32) (vocy : Int32) (vmx : Nat) (votx : Int32) (vose : Int32) (vml : Nat) (vmwr : Nat) (voln : Int32) (vohw : Int32) (vmno : Nat) (vond : Int32) (voon : Int32) (vowi : Int32) (votop : Int32) (vmnf : Nat → Int32) (vmdf : Nat → Int32) (vmcf : Nat → Int32) (vm : Int32) (vlf : Int32) (vti : Int32) (vwe : Int32) (u : Int32 × Int32 × (Nat → Int32) × Int32 × (Nat → Int32)) : va_W := [(vo, .inr (12, [.int voth, .ref vmt, .int votp, .int vosz, .int volm, .int voto, .int vofr, .int vokd, .int vonu, .int vosg, .int vofa, .int vopl, .long vowd, .int votd, .ref vmn, .ref vmr, .ref vmk, .ref vms, .ref vma, .ref vmm, .ref vmrn, .ref vmkn, .ref vmik, .ref vmon, .int vosm, .int vohp, .ref vmw, .ref vmf, .ref vmb, .int vomb, .ref vmd, .ref vmc, .int u.1, .int u.2.1, .int u.2.2.2.1, .ref vmx, .int votx, .int vose, .ref vml, .ref vmwr, .int voln, .int vohw, .ref vmno, .int vond, .int voon, .int vowi, .int votop])), (vmn, .inl (cy 0, 575, .inl vmnf)), (vmd, .inl (cy 0, 10, .inl u.2.2.2.2)), (vmc, .inl (cy 0, 10, .inl u.2.2.1))]
set_option maxHeartbeats 4000000 in
set_option maxRecDepth 100000 in
theorem m_careerFrom_8 (l : Launch) (dC : Nat → ClassId) (dI : Nat → Nat → Nat) (cy : Nat → ClassId) (sz : Nat) (vnh : Nat → Int32) (vo : Nat) (voth : Int32) (vmt : Nat) (votp : Int32) (vosz : Int32) (volm : Int32) (voto : Int32) (vofr : Int32) (vokd : Int32) (vonu : Int32) (vosg : Int32) (vofa : Int32) (vopl : Int32) (vowd : Int64) (votd : Int32) (vmn : Nat) (vmr : Nat) (vmk : Nat) (vms : Nat) (vma : Nat) (vmm : Nat) (vmrn : Nat) (vmkn : Nat) (vmik : Nat) (vmon : Nat) (vosm : Int32) (vohp : Int32) (vmw : Nat) (vmf : Nat) (vmb : Nat) (vomb : Int32) (vmd : Nat) (vmc : Nat) (vocm : Int32) (voct : Int32) (vocy : Int32) (vmx : Nat) (votx : Int32) (vose : Int32) (vml : Nat) (vmwr : Nat) (voln : Int32) (vohw : Int32) (vmno : Nat) (vond : Int32) (voon : Int32) (vowi : Int32) (votop : Int32) (vmnf : Nat → Int32) (vmdf : Nat → Int32) (vmcf : Nat → Int32) (vm : Int32) (vlf : Int32) (vti : Int32) (vwe : Int32) (r_vocy : 0 ≤ (vocy : Int32).toInt ∧ (vocy : Int32).toInt ≤ 10) (r_vm : 0 ≤ (vm : Int32).toInt ∧ (vm : Int32).toInt ≤ 6) (r_vlf : 0 ≤ (vlf : Int32).toInt ∧ (vlf : Int32).toInt ≤ 10) (p_vmnf : NW vnh vmnf) (hd : 8 ≤ (vmnf 1).toInt) : Met l yX11_careerFrom (wl yX11_careerFrom cX11_careerFrom 8 none) ({ frames := 3, cells := 0, slots := 0, locals := 192 }) (Pw (dC, dI) vwCl cy [(vo, .inr (12, [.int voth, .ref vmt, .int votp, .int vosz, .int volm, .int voto, .int vofr, .int vokd, .int vonu, .int vosg, .int vofa, .int vopl, .long vowd, .int votd, .ref vmn, .ref vmr, .ref vmk, .ref vms, .ref vma, .ref vmm, .ref vmrn, .ref vmkn, .ref vmik, .ref vmon, .int vosm, .int vohp, .ref vmw, .ref vmf, .ref vmb, .int vomb, .ref vmd, .ref vmc, .int vocm, .int voct, .int vocy, .ref vmx, .int votx, .int vose, .ref vml, .ref vmwr, .int voln, .int vohw, .ref vmno, .int vond, .int voon, .int vowi, .int votop])), (vmn, .inl (cy 0, 575, .inl vmnf)), (vmd, .inl (cy 0, 10, .inl vmdf)), (vmc, .inl (cy 0, 10, .inl vmcf))] sz [.ref vo, .int vm, .int 8, .int vlf, .int vti, .int vwe] nE) (Qv (dC, dI) vwCl (fun (u : Int32 × Int32 × (Nat → Int32) × Int32 × (Nat → Int32)) => (0 ≤ (u.2.2.2.1 : Int32).toInt ∧ (u.2.2.2.1 : Int32).toInt ≤ 10)) (O_m_careerFrom_8 cy vnh vo voth vmt votp vosz volm voto vofr vokd vonu vosg vofa vopl vowd votd vmn vmr vmk vms vma vmm vmrn vmkn vmik vmon vosm vohp vmw vmf vmb vomb vmd vmc vocm voct vocy vmx votx vose vml vmwr voln vohw vmno vond voon vowi votop vmnf vmdf vmcf vm vlf vti vwe) (va_A [(vo, .inr (12, [.int voth, .ref vmt, .int votp, .int vosz, .int volm, .int voto, .int vofr, .int vokd, .int vonu, .int vosg, .int vofa, .int vopl, .long vowd, .int votd, .ref vmn, .ref vmr, .ref vmk, .ref vms, .ref vma, .ref vmm, .ref vmrn, .ref vmkn, .ref vmik, .ref vmon, .int vosm, .int vohp, .ref vmw, .ref vmf, .ref vmb, .int vomb, .ref vmd, .ref vmc, .int vocm, .int voct, .int vocy, .ref vmx, .int votx, .int vose, .ref vml, .ref vmwr, .int voln, .int vohw, .ref vmno, .int vond, .int voon, .int vowi, .int votop])), (vmn, .inl (cy 0, 575, .inl vmnf)), (vmd, .inl (cy 0, 10, .inl vmdf)), (vmc, .inl (cy 0, 10, .inl vmcf))] sz)) 0 0 (va_A [(vo, .inr (12, [.int voth, .ref vmt, .int votp, .int vosz, .int volm, .int voto, .int vofr, .int vokd, .int vonu, .int vosg, .int vofa, .int vopl, .long vowd, .int votd, .ref vmn, .ref vmr, .ref vmk, .ref vms, .ref vma, .ref vmm, .ref vmrn, .ref vmkn, .ref vmik, .ref vmon, .int vosm, .int vohp, .ref vmw, .ref vmf, .ref vmb, .int vomb, .ref vmd, .ref vmc, .int vocm, .int voct, .int vocy, .ref vmx, .int votx, .int vose, .ref vml, .ref vmwr, .int voln, .int vohw, .ref vmno, .int vond, .int voon, .int vowi, .int votop])), (vmn, .inl (cy 0, 575, .inl vmnf)), (vmd, .inl (cy 0, 10, .inl vmdf)), (vmc, .inl (cy 0, 10, .inl vmcf))] sz) := by
  refine mw (Qc := Qv (dC, dI) vwCl (fun (u : Int32 × Int32 × (Nat → Int32) × Int32 × (Nat → Int32)) => (0 ≤ (u.2.2.2.1 : Int32).toInt ∧ (u.2.2.2.1 : Int32).toInt ≤ 10)) (O_m_careerFrom_8 cy vnh vo voth vmt votp vosz volm voto vofr vokd vonu vosg vofa vopl vowd votd vmn vmr vmk vms vma vmm vmrn vmkn vmik vmon vosm vohp vmw vmf vmb vomb vmd vmc vocm voct vocy vmx votx vose vml vmwr voln vohw vmno vond voon vowi votop vmnf vmdf vmcf vm vlf vti vwe)) RX11 rfl (by decide +kernel) (Nat.le_of_ble_eq_true rfl) ?_
  intro p e s m below meth c A hx hb hr hlocks av9 hav hts hown hnm hml hK hP hD hA hS hE hAe Q9 hQ9 ls hl
  have hl : lv_has ls 8 [(0, .ref vo), (1, .int vm), (2, .int 8), (3, .int vlf), (4, .int vti), (5, .int vwe)] := hl
  refine lv_iload_n hx hb dX11_careerFrom_0 rfl (lv_at hl 2 rfl) ?_
  refine lv_aload_n hx hb dX11_careerFrom_1 rfl (lv_at hl 0 rfl) ?_
  refine gf_X11_98 hx hb hts hown hK hP 0 rfl rfl dX11_careerFrom_2 ?_
  refine lv_iconst (v := 1) hx hb dX11_careerFrom_5 (by decide) ?_
  have k_1 : (1 : Int32).toInt = 1 := by decide
  have hin_1 : vp_in (1 : Int32) 575 := vp_in_iff.mpr ⟨by omega, by omega⟩
  refine va_iald hx hb hK hP 1 0 rfl rfl hin_1 dX11_careerFrom_6 ?_
  refine lv_topi (fun z_2 ez_2 => ?_)
  have bz_2 := p_vmnf.a1 (x := 1) ⟨by omega, by omega⟩ ez_2
  have tz_2 : z_2.toInt = (vmnf 1).toInt := by rw [ez_2]; rfl
  have k_8 : (8 : Int32).toInt = 8 := by decide
  refine lv_icmp_ne (tgt := 85) hx hb dX11_careerFrom_7 (by decide) (fun c_3 => ?_) (fun c_3 => ?_)
  · skip
    have c_3 : ¬ ((8 : Int32).toInt = z_2.toInt) := fun h9 => c_3 (i_eq.mpr h9)
    refine lv_iload_n hx hb dX11_careerFrom_85 rfl (lv_at hl 3 rfl) ?_
    refine lv_bipush (v := 9) hx hb dX11_careerFrom_86 (by decide) ?_
    refine lv_aload_n hx hb dX11_careerFrom_88 rfl (lv_at hl 0 rfl) ?_
    refine lv_iload_n hx hb dX11_careerFrom_89 rfl (lv_at hl 1 rfl) ?_
    refine lv_iload_n hx hb dX11_careerFrom_90 rfl (lv_at hl 2 rfl) ?_
    refine jr_i (rVr (As := [.int vm, .int 8]) (rest := [.int 9, .int vlf]) (ci := 12) ⟨hx, hb, hml, hown, hts⟩ (m_didOf l dC dI cy vnh vo voth vmt votp vosz volm voto vofr vokd vonu vosg vofa vopl vowd votd vmn vmr vmk vms vma vmm vmrn vmkn vmik vmon vosm vohp vmw vmf vmb vomb vmd vmc vocm voct vocy vmx votx vose vml vmwr voln vohw vmno vond voon vowi votop vmnf vm 8 ⟨by omega, by omega⟩ ⟨by omega, by omega⟩ p_vmnf) (cw_X11_228 hts rfl rfl ⟨Nat.le_of_ble_eq_true rfl, Nat.le_of_ble_eq_true rfl⟩) hP hK [0, 1] rfl rfl rfl rfl hl.1 rfl (Nat.le_of_ble_eq_true rfl) dX11_careerFrom_91 ⟨Nat.le_of_ble_eq_true rfl, Nat.le_of_ble_eq_true rfl⟩) hP hS (fun r_4 H locs hp_5 hP hS => ?_)
    refine lv_isub hx hb dX11_careerFrom_94 ?_
    refine lv_topi (fun z_6 ez_6 => ?_)
    refine jr_i (rSr (As := [.int vlf, .int z_6]) (rest := []) ⟨hx, hb, hml, hown, hts⟩ (m_least l dC dI cy vlf z_6 ) (cw_X11_288 hts rfl rfl ⟨Nat.le_of_ble_eq_true rfl, Nat.le_of_ble_eq_true rfl⟩) hP hK [] rfl rfl hl.1 rfl (Nat.le_of_ble_eq_true rfl) dX11_careerFrom_95 ⟨Nat.le_of_ble_eq_true rfl, Nat.le_of_ble_eq_true rfl⟩) hP hS (fun r_7 H locs hp_8 hP hS => ?_)
    have hp_8 : ((r_7 : Int32).toInt ≤ (vlf : Int32).toInt) ∧ ((r_7 : Int32).toInt ≤ (z_6 : Int32).toInt) ∧ (((r_7 : Int32).toInt = (vlf : Int32).toInt ∨ (r_7 : Int32).toInt = (z_6 : Int32).toInt)) := hp_8
    obtain ⟨q_9, q_10, q_11⟩ := hp_8
    refine lv_istore (lv' := [(6, .int r_7), (0, .ref vo), (1, .int vm), (2, .int 8), (3, .int vlf), (4, .int vti), (5, .int vwe)]) hx hb dX11_careerFrom_98 hl (by decide) rfl (fun ls hl => ?_)
    refine lv_iconst (v := 0) hx hb dX11_careerFrom_100 (by decide) ?_
    refine lv_istore (lv' := [(7, .int 0), (6, .int r_7), (0, .ref vo), (1, .int vm), (2, .int 8), (3, .int vlf), (4, .int vti), (5, .int vwe)]) hx hb dX11_careerFrom_101 hl (by decide) rfl (fun ls hl => ?_)
    have loop12 : ∀ (n12 : Nat) (x_13 : Int32) (x_14 : Int32) (x_15 : Int32) (x_16 : Int32) (g_17 : Nat → Int32) (g_18 : Nat → Int32), (0 ≤ x_13.toInt ∧ x_13.toInt ≤ 11) → (0 ≤ x_16.toInt ∧ x_16.toInt ≤ 10) → 11 - x_13.toInt < (n12 : Int) → ∀ (H : Heap) (locs : List Loc), va_P (dC, dI) vwCl [(vo, .inr (12, [.int voth, .ref vmt, .int votp, .int vosz, .int volm, .int voto, .int vofr, .int vokd, .int vonu, .int vosg, .int vofa, .int vopl, .long vowd, .int votd, .ref vmn, .ref vmr, .ref vmk, .ref vms, .ref vma, .ref vmm, .ref vmrn, .ref vmkn, .ref vmik, .ref vmon, .int vosm, .int vohp, .ref vmw, .ref vmf, .ref vmb, .int vomb, .ref vmd, .ref vmc, .int x_14, .int x_15, .int x_16, .ref vmx, .int votx, .int vose, .ref vml, .ref vmwr, .int voln, .int vohw, .ref vmno, .int vond, .int voon, .int vowi, .int votop])), (vmn, .inl (cy 0, 575, .inl vmnf)), (vmd, .inl (cy 0, 10, .inl g_18)), (vmc, .inl (cy 0, 10, .inl g_17))] H → va_D A [(vo, .inr (12, [.int voth, .ref vmt, .int votp, .int vosz, .int volm, .int voto, .int vofr, .int vokd, .int vonu, .int vosg, .int vofa, .int vopl, .long vowd, .int votd, .ref vmn, .ref vmr, .ref vmk, .ref vms, .ref vma, .ref vmm, .ref vmrn, .ref vmkn, .ref vmik, .ref vmon, .int vosm, .int vohp, .ref vmw, .ref vmf, .ref vmb, .int vomb, .ref vmd, .ref vmc, .int x_14, .int x_15, .int x_16, .ref vmx, .int votx, .int vose, .ref vml, .ref vmwr, .int voln, .int vohw, .ref vmno, .int vond, .int voon, .int vowi, .int votop])), (vmn, .inl (cy 0, 575, .inl vmnf)), (vmd, .inl (cy 0, 10, .inl g_18)), (vmc, .inl (cy 0, 10, .inl g_17))] → va_S A s.heap H locs → ∀ ls : Array Slot, lv_has ls 8 [(7, .int x_13), (6, .int r_7), (0, .ref vo), (1, .int vm), (2, .int 8), (3, .int vlf), (4, .int vti), (5, .int vwe)] → W p l e ({ frames := 3, cells := 0, slots := 0, locals := 192 }) s m av9 below meth c H locs 0 0 Q9 (F0 m 103 ls []) := by
      intro n12
      induction n12 with
      | zero =>
        intro x_13 x_14 x_15 x_16 g_17 g_18 bx_13 bx_16 hn12 H locs hP hD hS ls hl
        exfalso; omega
      | succ n12 ih12 =>
        intro x_13 x_14 x_15 x_16 g_17 g_18 bx_13 bx_16 hn12 H locs hP hD hS ls hl
        refine lv_iload hx hb dX11_careerFrom_103 (lv_at hl 0 rfl) ?_
        refine lv_iload hx hb dX11_careerFrom_105 (lv_at hl 1 rfl) ?_
        refine lv_icmp_gt (tgt := 180) hx hb dX11_careerFrom_107 (by decide) (fun c_19 => ?_) (fun c_19 => ?_)
        · skip
          have c_19 : r_7.toInt < x_13.toInt := i_lt.mp c_19
          rw [hQ9]
          exact re_v (x_14, x_15, g_17, x_16, g_18) hx hb hr hlocks (show 0 ≤ (x_16 : Int32).toInt ∧ (x_16 : Int32).toInt ≤ 10 from ⟨by omega, by omega⟩) (hP.sub [0, 1, 2, 3] rfl) (hD.sub [0, 1, 2, 3] rfl rfl) hS dX11_careerFrom_180
        · skip
          have c_19 : ¬ (r_7.toInt < x_13.toInt) := fun h9 => c_19 (i_lt.mpr h9)
          refine lv_iload hx hb dX11_careerFrom_110 (lv_at hl 7 rfl) ?_
          refine lv_iload hx hb dX11_careerFrom_112 (lv_at hl 0 rfl) ?_
          refine lv_aload_n hx hb dX11_careerFrom_114 rfl (lv_at hl 2 rfl) ?_
          refine gf_X11_98 hx hb hts hown hK hP 0 rfl rfl dX11_careerFrom_115 ?_
          refine lv_bipush (v := 11) hx hb dX11_careerFrom_118 (by decide) ?_
          refine lv_iload_n hx hb dX11_careerFrom_120 rfl (lv_at hl 4 rfl) ?_
          refine lv_iadd hx hb dX11_careerFrom_121 ?_
          refine as_i 19 (by decide) ?_
          have k_19 : (19 : Int32).toInt = 19 := by decide
          have hin_20 : vp_in (19 : Int32) 575 := vp_in_iff.mpr ⟨by omega, by omega⟩
          refine va_iald hx hb hK hP 1 0 rfl rfl hin_20 dX11_careerFrom_122 ?_
          refine lv_topi (fun z_21 ez_21 => ?_)
          have bz_21 := p_vmnf.aw (x := 19) ⟨by omega, by omega⟩ ez_21
          have tz_21 : z_21.toInt = (vmnf 19).toInt := by rw [ez_21]; rfl
          refine lv_imul hx hb dX11_careerFrom_123 ?_
          refine lv_topi (fun z_22 ez_22 => ?_)
          have bz_22 : 0 ≤ z_22.toInt ∧ z_22.toInt ≤ 400 ∧ z_22.toInt = x_13.toInt * z_21.toInt := i_mulb (A := 10) (B := 40) ez_22 ⟨by omega, by omega⟩ ⟨by omega, by omega⟩ (by decide)
          refine lv_iadd hx hb dX11_careerFrom_124 ?_
          refine lv_topi (fun z_23 ez_23 => ?_)
          refine lv_aload_n hx hb dX11_careerFrom_125 rfl (lv_at hl 2 rfl) ?_
          refine gf_X11_98 hx hb hts hown hK hP 0 rfl rfl dX11_careerFrom_126 ?_
          refine lv_iconst (v := 2) hx hb dX11_careerFrom_129 (by decide) ?_
          have k_2 : (2 : Int32).toInt = 2 := by decide
          have hin_24 : vp_in (2 : Int32) 575 := vp_in_iff.mpr ⟨by omega, by omega⟩
          refine va_iald hx hb hK hP 1 0 rfl rfl hin_24 dX11_careerFrom_130 ?_
          refine lv_topi (fun z_25 ez_25 => ?_)
          have tz_25 : z_25.toInt = (vmnf 2).toInt := by rw [ez_25]; rfl
          refine lv_icmp_gt (tgt := 180) hx hb dX11_careerFrom_131 (by decide) (fun c_26 => ?_) (fun c_26 => ?_)
          · skip
            have c_26 : z_25.toInt < z_23.toInt := i_lt.mp c_26
            rw [hQ9]
            exact re_v (x_14, x_15, g_17, x_16, g_18) hx hb hr hlocks (show 0 ≤ (x_16 : Int32).toInt ∧ (x_16 : Int32).toInt ≤ 10 from ⟨by omega, by omega⟩) (hP.sub [0, 1, 2, 3] rfl) (hD.sub [0, 1, 2, 3] rfl rfl) hS dX11_careerFrom_180
          · skip
            have c_26 : ¬ (z_25.toInt < z_23.toInt) := fun h9 => c_26 (i_lt.mpr h9)
            refine lv_aload_n hx hb dX11_careerFrom_134 rfl (lv_at hl 2 rfl) ?_
            refine gf_X11_142 hx hb hts hown hK hP 0 rfl rfl dX11_careerFrom_135 ?_
            refine lv_iload_n hx hb dX11_careerFrom_138 rfl (lv_at hl 4 rfl) ?_
            refine lv_iload hx hb dX11_careerFrom_139 (lv_at hl 0 rfl) ?_
            have hin_27 : vp_in (8 : Int32) 10 := vp_in_iff.mpr ⟨by omega, by omega⟩
            refine va_iast hx hb hK hP hD hS 2 0 rfl rfl hin_27 dX11_careerFrom_141 (fun H locs hP hD hS => ?_)
            obtain ⟨f_28, ef_28⟩ : ∃ z : Nat → Int32, z = upd g_18 (Int32.toNatClampNeg 8) x_13 := ⟨_, rfl⟩
            have hP : va_P (dC, dI) vwCl [(vo, .inr (12, [.int voth, .ref vmt, .int votp, .int vosz, .int volm, .int voto, .int vofr, .int vokd, .int vonu, .int vosg, .int vofa, .int vopl, .long vowd, .int votd, .ref vmn, .ref vmr, .ref vmk, .ref vms, .ref vma, .ref vmm, .ref vmrn, .ref vmkn, .ref vmik, .ref vmon, .int vosm, .int vohp, .ref vmw, .ref vmf, .ref vmb, .int vomb, .ref vmd, .ref vmc, .int x_14, .int x_15, .int x_16, .ref vmx, .int votx, .int vose, .ref vml, .ref vmwr, .int voln, .int vohw, .ref vmno, .int vond, .int voon, .int vowi, .int votop])), (vmn, .inl (cy 0, 575, .inl vmnf)), (vmd, .inl (cy 0, 10, .inl f_28)), (vmc, .inl (cy 0, 10, .inl g_17))] H := by rw [ef_28]; exact hP
            have hD : va_D A [(vo, .inr (12, [.int voth, .ref vmt, .int votp, .int vosz, .int volm, .int voto, .int vofr, .int vokd, .int vonu, .int vosg, .int vofa, .int vopl, .long vowd, .int votd, .ref vmn, .ref vmr, .ref vmk, .ref vms, .ref vma, .ref vmm, .ref vmrn, .ref vmkn, .ref vmik, .ref vmon, .int vosm, .int vohp, .ref vmw, .ref vmf, .ref vmb, .int vomb, .ref vmd, .ref vmc, .int x_14, .int x_15, .int x_16, .ref vmx, .int votx, .int vose, .ref vml, .ref vmwr, .int voln, .int vohw, .ref vmno, .int vond, .int voon, .int vowi, .int votop])), (vmn, .inl (cy 0, 575, .inl vmnf)), (vmd, .inl (cy 0, 10, .inl f_28)), (vmc, .inl (cy 0, 10, .inl g_17))] := by rw [ef_28]; exact hD
            refine lv_aload_n hx hb dX11_careerFrom_142 rfl (lv_at hl 2 rfl) ?_
            refine lv_iload_n hx hb dX11_careerFrom_143 rfl (lv_at hl 3 rfl) ?_
            refine lv_iload_n hx hb dX11_careerFrom_144 rfl (lv_at hl 4 rfl) ?_
            refine lv_iconst (v := 1) hx hb dX11_careerFrom_145 (by decide) ?_
            refine lv_iadd hx hb dX11_careerFrom_146 ?_
            refine as_i 9 (by decide) ?_
            refine lv_iload_n hx hb dX11_careerFrom_147 rfl (lv_at hl 5 rfl) ?_
            refine lv_iload hx hb dX11_careerFrom_148 (lv_at hl 0 rfl) ?_
            refine lv_isub hx hb dX11_careerFrom_150 ?_
            refine lv_topi (fun z_29 ez_29 => ?_)
            have bz_29 : z_29.toInt = vlf.toInt - x_13.toInt := i_sub ez_29 (by omega) (by omega)
            refine lv_iload hx hb dX11_careerFrom_151 (lv_at hl 6 rfl) ?_
            refine lv_iload hx hb dX11_careerFrom_153 (lv_at hl 0 rfl) ?_
            refine lv_iadd hx hb dX11_careerFrom_155 ?_
            refine lv_topi (fun z_30 ez_30 => ?_)
            refine lv_iload hx hb dX11_careerFrom_156 (lv_at hl 7 rfl) ?_
            refine lv_iload hx hb dX11_careerFrom_158 (lv_at hl 0 rfl) ?_
            refine lv_aload_n hx hb dX11_careerFrom_160 rfl (lv_at hl 2 rfl) ?_
            refine gf_X11_98 hx hb hts hown hK hP 0 rfl rfl dX11_careerFrom_161 ?_
            refine lv_bipush (v := 11) hx hb dX11_careerFrom_164 (by decide) ?_
            refine lv_iload_n hx hb dX11_careerFrom_166 rfl (lv_at hl 4 rfl) ?_
            refine lv_iadd hx hb dX11_careerFrom_167 ?_
            refine as_i 19 (by decide) ?_
            have hin_31 : vp_in (19 : Int32) 575 := vp_in_iff.mpr ⟨by omega, by omega⟩
            refine va_iald hx hb hK hP 1 0 rfl rfl hin_31 dX11_careerFrom_168 ?_
            refine lv_topi (fun z_32 ez_32 => ?_)
            have bz_32 := p_vmnf.aw (x := 19) ⟨by omega, by omega⟩ ez_32
            have tz_32 : z_32.toInt = (vmnf 19).toInt := by rw [ez_32]; rfl
            refine lv_imul hx hb dX11_careerFrom_169 ?_
            refine lv_topi (fun z_33 ez_33 => ?_)
            have bz_33 : 0 ≤ z_33.toInt ∧ z_33.toInt ≤ 400 ∧ z_33.toInt = x_13.toInt * z_32.toInt := i_mulb (A := 10) (B := 40) ez_33 ⟨by omega, by omega⟩ ⟨by omega, by omega⟩ (by decide)
            refine lv_iadd hx hb dX11_careerFrom_170 ?_
            refine lv_topi (fun z_34 ez_34 => ?_)
            refine jn_v (wr := []) (rV (As := [.int vm, .int 9, .int z_29, .int z_30, .int z_34]) (rest := []) (ci := 12) ⟨hx, hb, hml, hown, hts⟩ (m_careerFrom_9 l dC dI cy _ vnh vo voth vmt votp vosz volm voto vofr vokd vonu vosg vofa vopl vowd votd vmn vmr vmk vms vma vmm vmrn vmkn vmik vmon vosm vohp vmw vmf vmb vomb vmd vmc x_14 x_15 x_16 vmx votx vose vml vmwr voln vohw vmno vond voon vowi votop vmnf f_28 g_17 vm z_29 z_30 z_34 ⟨by omega, by omega⟩ r_vm ⟨by omega, by omega⟩ p_vmnf (by omega)) (cw_X11_331 hts rfl rfl ⟨Nat.le_of_ble_eq_true rfl, Nat.le_of_ble_eq_true rfl⟩) hP hD hK [0, 1, 2, 3] rfl rfl rfl rfl bl0 e0 rfl hl.1 rfl (Nat.le_of_ble_eq_true rfl) dX11_careerFrom_171 ⟨Nat.le_of_ble_eq_true rfl, Nat.le_of_ble_eq_true rfl⟩) hP hD hS hA [0, 1, 2, 3] [] rfl rfl rfl (by decide) (fun u_37 H locs hp_36 hP hD hS => ?_)
            obtain ⟨vocm_38, voct_39, vmcf_40, vocy_41, vmdf_42⟩ := u_37
            have hp_36 : (0 ≤ (vocy_41 : Int32).toInt ∧ (vocy_41 : Int32).toInt ≤ 10) := hp_36
            have q_43 := hp_36
            have hP : va_P (dC, dI) vwCl [(vo, .inr (12, [.int voth, .ref vmt, .int votp, .int vosz, .int volm, .int voto, .int vofr, .int vokd, .int vonu, .int vosg, .int vofa, .int vopl, .long vowd, .int votd, .ref vmn, .ref vmr, .ref vmk, .ref vms, .ref vma, .ref vmm, .ref vmrn, .ref vmkn, .ref vmik, .ref vmon, .int vosm, .int vohp, .ref vmw, .ref vmf, .ref vmb, .int vomb, .ref vmd, .ref vmc, .int vocm_38, .int voct_39, .int vocy_41, .ref vmx, .int votx, .int vose, .ref vml, .ref vmwr, .int voln, .int vohw, .ref vmno, .int vond, .int voon, .int vowi, .int votop])), (vmn, .inl (cy 0, 575, .inl vmnf)), (vmd, .inl (cy 0, 10, .inl vmdf_42)), (vmc, .inl (cy 0, 10, .inl vmcf_40))] H := hP
            have hD : va_D A [(vo, .inr (12, [.int voth, .ref vmt, .int votp, .int vosz, .int volm, .int voto, .int vofr, .int vokd, .int vonu, .int vosg, .int vofa, .int vopl, .long vowd, .int votd, .ref vmn, .ref vmr, .ref vmk, .ref vms, .ref vma, .ref vmm, .ref vmrn, .ref vmkn, .ref vmik, .ref vmon, .int vosm, .int vohp, .ref vmw, .ref vmf, .ref vmb, .int vomb, .ref vmd, .ref vmc, .int vocm_38, .int voct_39, .int vocy_41, .ref vmx, .int votx, .int vose, .ref vml, .ref vmwr, .int voln, .int vohw, .ref vmno, .int vond, .int voon, .int vowi, .int votop])), (vmn, .inl (cy 0, 575, .inl vmnf)), (vmd, .inl (cy 0, 10, .inl vmdf_42)), (vmc, .inl (cy 0, 10, .inl vmcf_40))] := hD
            obtain ⟨z_44, ez_44⟩ : ∃ z : Int32, z = x_13 + 1 := ⟨_, rfl⟩
            have bz_44 : z_44.toInt = x_13.toInt + (1 : Int32).toInt := i_add ez_44 (by omega) (by omega)
            refine lv_iinc (v := z_44) (lv' := [(7, .int z_44), (6, .int r_7), (0, .ref vo), (1, .int vm), (2, .int 8), (3, .int vlf), (4, .int vti), (5, .int vwe)]) hx hb dX11_careerFrom_174 hl (k := 0) rfl ez_44.symm (by decide) rfl (fun ls hl => ?_)
            refine lv_goto (tgt := 103) hx hb dX11_careerFrom_177 (by decide) ?_
            exact ih12 z_44 vocm_38 voct_39 vocy_41 vmcf_40 vmdf_42 ⟨by omega, by omega⟩ ⟨by omega, by omega⟩ (by omega) _ _ (hP.sub [0, 1, 2, 3] rfl) (hD.sub [0, 1, 2, 3] rfl rfl) hS ls (lv_sub hl [0, 1, 2, 3, 4, 5, 6, 7] rfl)
    have k_0 : (0 : Int32).toInt = 0 := by decide
    exact loop12 ((11 - (0 : Int32).toInt).toNat + 1) 0 vocm voct vocy vmcf vmdf ⟨by omega, by omega⟩ ⟨by omega, by omega⟩ (by omega) _ _ hP hD hS ls (lv_sub hl [0, 1, 2, 3, 4, 5, 6, 7] rfl)
  · skip
    have c_3 : (8 : Int32).toInt = z_2.toInt := i_eq.mp c_3
    have join45 : ∀ (H : Heap) (locs : List Loc), va_P (dC, dI) vwCl [(vo, .inr (12, [.int voth, .ref vmt, .int votp, .int vosz, .int volm, .int voto, .int vofr, .int vokd, .int vonu, .int vosg, .int vofa, .int vopl, .long vowd, .int votd, .ref vmn, .ref vmr, .ref vmk, .ref vms, .ref vma, .ref vmm, .ref vmrn, .ref vmkn, .ref vmik, .ref vmon, .int vosm, .int vohp, .ref vmw, .ref vmf, .ref vmb, .int vomb, .ref vmd, .ref vmc, .int vocm, .int voct, .int vocy, .ref vmx, .int votx, .int vose, .ref vml, .ref vmwr, .int voln, .int vohw, .ref vmno, .int vond, .int voon, .int vowi, .int votop])), (vmn, .inl (cy 0, 575, .inl vmnf)), (vmd, .inl (cy 0, 10, .inl vmdf)), (vmc, .inl (cy 0, 10, .inl vmcf))] H → va_D A [(vo, .inr (12, [.int voth, .ref vmt, .int votp, .int vosz, .int volm, .int voto, .int vofr, .int vokd, .int vonu, .int vosg, .int vofa, .int vopl, .long vowd, .int votd, .ref vmn, .ref vmr, .ref vmk, .ref vms, .ref vma, .ref vmm, .ref vmrn, .ref vmkn, .ref vmik, .ref vmon, .int vosm, .int vohp, .ref vmw, .ref vmf, .ref vmb, .int vomb, .ref vmd, .ref vmc, .int vocm, .int voct, .int vocy, .ref vmx, .int votx, .int vose, .ref vml, .ref vmwr, .int voln, .int vohw, .ref vmno, .int vond, .int voon, .int vowi, .int votop])), (vmn, .inl (cy 0, 575, .inl vmnf)), (vmd, .inl (cy 0, 10, .inl vmdf)), (vmc, .inl (cy 0, 10, .inl vmcf))] → va_S A s.heap H locs → ∀ ls : Array Slot, lv_has ls 8 [(0, .ref vo), (1, .int vm), (2, .int 8), (3, .int vlf), (4, .int vti), (5, .int vwe)] → W p l e ({ frames := 3, cells := 0, slots := 0, locals := 192 }) s m av9 below meth c H locs 0 0 Q9 (F0 m 38 ls []) := by
      intro  H locs hP hD hS ls hl
      refine lv_aload_n hx hb dX11_careerFrom_38 rfl (lv_at hl 0 rfl) ?_
      refine lv_iload hx hb dX11_careerFrom_39 (lv_at hl 5 rfl) ?_
      refine pf_X11_322 hx hb hts hown hK hP hD hS 0 rfl rfl rfl (Nat.le_of_ble_eq_true rfl) dX11_careerFrom_41 (fun H locs hP hD hS => ?_)
      have hP : va_P (dC, dI) vwCl [(vo, .inr (12, [.int voth, .ref vmt, .int votp, .int vosz, .int volm, .int voto, .int vofr, .int vokd, .int vonu, .int vosg, .int vofa, .int vopl, .long vowd, .int votd, .ref vmn, .ref vmr, .ref vmk, .ref vms, .ref vma, .ref vmm, .ref vmrn, .ref vmkn, .ref vmik, .ref vmon, .int vosm, .int vohp, .ref vmw, .ref vmf, .ref vmb, .int vomb, .ref vmd, .ref vmc, .int vwe, .int voct, .int vocy, .ref vmx, .int votx, .int vose, .ref vml, .ref vmwr, .int voln, .int vohw, .ref vmno, .int vond, .int voon, .int vowi, .int votop])), (vmn, .inl (cy 0, 575, .inl vmnf)), (vmd, .inl (cy 0, 10, .inl vmdf)), (vmc, .inl (cy 0, 10, .inl vmcf))] H := hP
      have hD : va_D A [(vo, .inr (12, [.int voth, .ref vmt, .int votp, .int vosz, .int volm, .int voto, .int vofr, .int vokd, .int vonu, .int vosg, .int vofa, .int vopl, .long vowd, .int votd, .ref vmn, .ref vmr, .ref vmk, .ref vms, .ref vma, .ref vmm, .ref vmrn, .ref vmkn, .ref vmik, .ref vmon, .int vosm, .int vohp, .ref vmw, .ref vmf, .ref vmb, .int vomb, .ref vmd, .ref vmc, .int vwe, .int voct, .int vocy, .ref vmx, .int votx, .int vose, .ref vml, .ref vmwr, .int voln, .int vohw, .ref vmno, .int vond, .int voon, .int vowi, .int votop])), (vmn, .inl (cy 0, 575, .inl vmnf)), (vmd, .inl (cy 0, 10, .inl vmdf)), (vmc, .inl (cy 0, 10, .inl vmcf))] := hD
      refine lv_aload_n hx hb dX11_careerFrom_44 rfl (lv_at hl 0 rfl) ?_
      refine lv_iload hx hb dX11_careerFrom_45 (lv_at hl 4 rfl) ?_
      refine pf_X11_325 hx hb hts hown hK hP hD hS 0 rfl rfl rfl (Nat.le_of_ble_eq_true rfl) dX11_careerFrom_47 (fun H locs hP hD hS => ?_)
      have hP : va_P (dC, dI) vwCl [(vo, .inr (12, [.int voth, .ref vmt, .int votp, .int vosz, .int volm, .int voto, .int vofr, .int vokd, .int vonu, .int vosg, .int vofa, .int vopl, .long vowd, .int votd, .ref vmn, .ref vmr, .ref vmk, .ref vms, .ref vma, .ref vmm, .ref vmrn, .ref vmkn, .ref vmik, .ref vmon, .int vosm, .int vohp, .ref vmw, .ref vmf, .ref vmb, .int vomb, .ref vmd, .ref vmc, .int vwe, .int vti, .int vocy, .ref vmx, .int votx, .int vose, .ref vml, .ref vmwr, .int voln, .int vohw, .ref vmno, .int vond, .int voon, .int vowi, .int votop])), (vmn, .inl (cy 0, 575, .inl vmnf)), (vmd, .inl (cy 0, 10, .inl vmdf)), (vmc, .inl (cy 0, 10, .inl vmcf))] H := hP
      have hD : va_D A [(vo, .inr (12, [.int voth, .ref vmt, .int votp, .int vosz, .int volm, .int voto, .int vofr, .int vokd, .int vonu, .int vosg, .int vofa, .int vopl, .long vowd, .int votd, .ref vmn, .ref vmr, .ref vmk, .ref vms, .ref vma, .ref vmm, .ref vmrn, .ref vmkn, .ref vmik, .ref vmon, .int vosm, .int vohp, .ref vmw, .ref vmf, .ref vmb, .int vomb, .ref vmd, .ref vmc, .int vwe, .int vti, .int vocy, .ref vmx, .int votx, .int vose, .ref vml, .ref vmwr, .int voln, .int vohw, .ref vmno, .int vond, .int voon, .int vowi, .int votop])), (vmn, .inl (cy 0, 575, .inl vmnf)), (vmd, .inl (cy 0, 10, .inl vmdf)), (vmc, .inl (cy 0, 10, .inl vmcf))] := hD
      refine lv_iconst (v := 0) hx hb dX11_careerFrom_50 (by decide) ?_
      refine lv_istore (lv' := [(6, .int 0), (0, .ref vo), (1, .int vm), (2, .int 8), (3, .int vlf), (4, .int vti), (5, .int vwe)]) hx hb dX11_careerFrom_51 hl (by decide) rfl (fun ls hl => ?_)
      have loop46 : ∀ (n46 : Nat) (x_47 : Int32) (g_48 : Nat → Int32), (0 ≤ x_47.toInt ∧ x_47.toInt ≤ 10) → 10 - x_47.toInt < (n46 : Int) → ∀ (H : Heap) (locs : List Loc), va_P (dC, dI) vwCl [(vo, .inr (12, [.int voth, .ref vmt, .int votp, .int vosz, .int volm, .int voto, .int vofr, .int vokd, .int vonu, .int vosg, .int vofa, .int vopl, .long vowd, .int votd, .ref vmn, .ref vmr, .ref vmk, .ref vms, .ref vma, .ref vmm, .ref vmrn, .ref vmkn, .ref vmik, .ref vmon, .int vosm, .int vohp, .ref vmw, .ref vmf, .ref vmb, .int vomb, .ref vmd, .ref vmc, .int vwe, .int vti, .int vocy, .ref vmx, .int votx, .int vose, .ref vml, .ref vmwr, .int voln, .int vohw, .ref vmno, .int vond, .int voon, .int vowi, .int votop])), (vmn, .inl (cy 0, 575, .inl vmnf)), (vmd, .inl (cy 0, 10, .inl vmdf)), (vmc, .inl (cy 0, 10, .inl g_48))] H → va_D A [(vo, .inr (12, [.int voth, .ref vmt, .int votp, .int vosz, .int volm, .int voto, .int vofr, .int vokd, .int vonu, .int vosg, .int vofa, .int vopl, .long vowd, .int votd, .ref vmn, .ref vmr, .ref vmk, .ref vms, .ref vma, .ref vmm, .ref vmrn, .ref vmkn, .ref vmik, .ref vmon, .int vosm, .int vohp, .ref vmw, .ref vmf, .ref vmb, .int vomb, .ref vmd, .ref vmc, .int vwe, .int vti, .int vocy, .ref vmx, .int votx, .int vose, .ref vml, .ref vmwr, .int voln, .int vohw, .ref vmno, .int vond, .int voon, .int vowi, .int votop])), (vmn, .inl (cy 0, 575, .inl vmnf)), (vmd, .inl (cy 0, 10, .inl vmdf)), (vmc, .inl (cy 0, 10, .inl g_48))] → va_S A s.heap H locs → ∀ ls : Array Slot, lv_has ls 8 [(6, .int x_47), (0, .ref vo), (1, .int vm), (2, .int 8), (3, .int vlf), (4, .int vti), (5, .int vwe)] → W p l e ({ frames := 3, cells := 0, slots := 0, locals := 192 }) s m av9 below meth c H locs 0 0 Q9 (F0 m 53 ls []) := by
        intro n46
        induction n46 with
        | zero =>
          intro x_47 g_48 bx_47 hn46 H locs hP hD hS ls hl
          exfalso; omega
        | succ n46 ih46 =>
          intro x_47 g_48 bx_47 hn46 H locs hP hD hS ls hl
          refine lv_iload hx hb dX11_careerFrom_53 (lv_at hl 0 rfl) ?_
          refine lv_iload_n hx hb dX11_careerFrom_55 rfl (lv_at hl 3 rfl) ?_
          refine lv_icmp_ge (tgt := 79) hx hb dX11_careerFrom_56 (by decide) (fun c_49 => ?_) (fun c_49 => ?_)
          · skip
            have c_49 : (8 : Int32).toInt ≤ x_47.toInt := i_le.mp c_49
            refine lv_aload_n hx hb dX11_careerFrom_79 rfl (lv_at hl 1 rfl) ?_
            refine lv_iload_n hx hb dX11_careerFrom_80 rfl (lv_at hl 3 rfl) ?_
            refine pf_X11_328 hx hb hts hown hK hP hD hS 0 rfl rfl rfl (Nat.le_of_ble_eq_true rfl) dX11_careerFrom_81 (fun H locs hP hD hS => ?_)
            have hP : va_P (dC, dI) vwCl [(vo, .inr (12, [.int voth, .ref vmt, .int votp, .int vosz, .int volm, .int voto, .int vofr, .int vokd, .int vonu, .int vosg, .int vofa, .int vopl, .long vowd, .int votd, .ref vmn, .ref vmr, .ref vmk, .ref vms, .ref vma, .ref vmm, .ref vmrn, .ref vmkn, .ref vmik, .ref vmon, .int vosm, .int vohp, .ref vmw, .ref vmf, .ref vmb, .int vomb, .ref vmd, .ref vmc, .int vwe, .int vti, .int 8, .ref vmx, .int votx, .int vose, .ref vml, .ref vmwr, .int voln, .int vohw, .ref vmno, .int vond, .int voon, .int vowi, .int votop])), (vmn, .inl (cy 0, 575, .inl vmnf)), (vmd, .inl (cy 0, 10, .inl vmdf)), (vmc, .inl (cy 0, 10, .inl g_48))] H := hP
            have hD : va_D A [(vo, .inr (12, [.int voth, .ref vmt, .int votp, .int vosz, .int volm, .int voto, .int vofr, .int vokd, .int vonu, .int vosg, .int vofa, .int vopl, .long vowd, .int votd, .ref vmn, .ref vmr, .ref vmk, .ref vms, .ref vma, .ref vmm, .ref vmrn, .ref vmkn, .ref vmik, .ref vmon, .int vosm, .int vohp, .ref vmw, .ref vmf, .ref vmb, .int vomb, .ref vmd, .ref vmc, .int vwe, .int vti, .int 8, .ref vmx, .int votx, .int vose, .ref vml, .ref vmwr, .int voln, .int vohw, .ref vmno, .int vond, .int voon, .int vowi, .int votop])), (vmn, .inl (cy 0, 575, .inl vmnf)), (vmd, .inl (cy 0, 10, .inl vmdf)), (vmc, .inl (cy 0, 10, .inl g_48))] := hD
            rw [hQ9]
            exact re_v (vwe, vti, g_48, (8 : Int32), vmdf) hx hb hr hlocks (show 0 ≤ (8 : Int32).toInt ∧ (8 : Int32).toInt ≤ 10 from ⟨by omega, by omega⟩) (hP.sub [0, 1, 2, 3] rfl) (hD.sub [0, 1, 2, 3] rfl rfl) hS dX11_careerFrom_84
          · skip
            have c_49 : ¬ ((8 : Int32).toInt ≤ x_47.toInt) := fun h9 => c_49 (i_le.mpr h9)
            refine lv_aload_n hx hb dX11_careerFrom_59 rfl (lv_at hl 1 rfl) ?_
            refine gf_X11_145 hx hb hts hown hK hP 0 rfl rfl dX11_careerFrom_60 ?_
            refine lv_iload hx hb dX11_careerFrom_63 (lv_at hl 0 rfl) ?_
            refine lv_aload_n hx hb dX11_careerFrom_65 rfl (lv_at hl 1 rfl) ?_
            refine gf_X11_142 hx hb hts hown hK hP 0 rfl rfl dX11_careerFrom_66 ?_
            refine lv_iload hx hb dX11_careerFrom_69 (lv_at hl 0 rfl) ?_
            have hin_50 : vp_in x_47 10 := vp_in_iff.mpr ⟨by omega, by omega⟩
            refine va_iald hx hb hK hP 2 0 rfl rfl hin_50 dX11_careerFrom_71 ?_
            refine lv_topi (fun z_51 ez_51 => ?_)
            have hin_52 : vp_in x_47 10 := vp_in_iff.mpr ⟨by omega, by omega⟩
            refine va_iast hx hb hK hP hD hS 3 0 rfl rfl hin_52 dX11_careerFrom_72 (fun H locs hP hD hS => ?_)
            obtain ⟨f_53, ef_53⟩ : ∃ z : Nat → Int32, z = upd g_48 (Int32.toNatClampNeg x_47) z_51 := ⟨_, rfl⟩
            have hP : va_P (dC, dI) vwCl [(vo, .inr (12, [.int voth, .ref vmt, .int votp, .int vosz, .int volm, .int voto, .int vofr, .int vokd, .int vonu, .int vosg, .int vofa, .int vopl, .long vowd, .int votd, .ref vmn, .ref vmr, .ref vmk, .ref vms, .ref vma, .ref vmm, .ref vmrn, .ref vmkn, .ref vmik, .ref vmon, .int vosm, .int vohp, .ref vmw, .ref vmf, .ref vmb, .int vomb, .ref vmd, .ref vmc, .int vwe, .int vti, .int vocy, .ref vmx, .int votx, .int vose, .ref vml, .ref vmwr, .int voln, .int vohw, .ref vmno, .int vond, .int voon, .int vowi, .int votop])), (vmn, .inl (cy 0, 575, .inl vmnf)), (vmd, .inl (cy 0, 10, .inl vmdf)), (vmc, .inl (cy 0, 10, .inl f_53))] H := by rw [ef_53]; exact hP
            have hD : va_D A [(vo, .inr (12, [.int voth, .ref vmt, .int votp, .int vosz, .int volm, .int voto, .int vofr, .int vokd, .int vonu, .int vosg, .int vofa, .int vopl, .long vowd, .int votd, .ref vmn, .ref vmr, .ref vmk, .ref vms, .ref vma, .ref vmm, .ref vmrn, .ref vmkn, .ref vmik, .ref vmon, .int vosm, .int vohp, .ref vmw, .ref vmf, .ref vmb, .int vomb, .ref vmd, .ref vmc, .int vwe, .int vti, .int vocy, .ref vmx, .int votx, .int vose, .ref vml, .ref vmwr, .int voln, .int vohw, .ref vmno, .int vond, .int voon, .int vowi, .int votop])), (vmn, .inl (cy 0, 575, .inl vmnf)), (vmd, .inl (cy 0, 10, .inl vmdf)), (vmc, .inl (cy 0, 10, .inl f_53))] := by rw [ef_53]; exact hD
            obtain ⟨z_54, ez_54⟩ : ∃ z : Int32, z = x_47 + 1 := ⟨_, rfl⟩
            have bz_54 : z_54.toInt = x_47.toInt + (1 : Int32).toInt := i_add ez_54 (by omega) (by omega)
            refine lv_iinc (v := z_54) (lv' := [(6, .int z_54), (0, .ref vo), (1, .int vm), (2, .int 8), (3, .int vlf), (4, .int vti), (5, .int vwe)]) hx hb dX11_careerFrom_73 hl (k := 0) rfl ez_54.symm (by decide) rfl (fun ls hl => ?_)
            refine lv_goto (tgt := 53) hx hb dX11_careerFrom_76 (by decide) ?_
            exact ih46 z_54 f_53 ⟨by omega, by omega⟩ (by omega) _ _ (hP.sub [0, 1, 2, 3] rfl) (hD.sub [0, 1, 2, 3] rfl rfl) hS ls (lv_sub hl [0, 1, 2, 3, 4, 5, 6] rfl)
      have k_0 : (0 : Int32).toInt = 0 := by decide
      exact loop46 ((10 - (0 : Int32).toInt).toNat + 1) 0 vmcf ⟨by omega, by omega⟩ (by omega) _ _ hP hD hS ls (lv_sub hl [0, 1, 2, 3, 4, 5, 6] rfl)
    refine lv_iload hx hb dX11_careerFrom_10 (lv_at hl 5 rfl) ?_
    refine lv_aload_n hx hb dX11_careerFrom_12 rfl (lv_at hl 0 rfl) ?_
    refine gf_X11_322 hx hb hts hown hK hP 0 rfl rfl dX11_careerFrom_13 ?_
    refine lv_icmp_lt (tgt := 37) hx hb dX11_careerFrom_16 (by decide) (fun c_55 => ?_) (fun c_55 => ?_)
    · skip
      have c_55 : vwe.toInt < vocm.toInt := i_lt.mp c_55
      rw [hQ9]
      exact re_v (vocm, voct, vmcf, vocy, vmdf) hx hb hr hlocks (show 0 ≤ (vocy : Int32).toInt ∧ (vocy : Int32).toInt ≤ 10 from ⟨by omega, by omega⟩) (hP.sub [0, 1, 2, 3] rfl) (hD.sub [0, 1, 2, 3] rfl rfl) hS dX11_careerFrom_37
    · skip
      have c_55 : ¬ (vwe.toInt < vocm.toInt) := fun h9 => c_55 (i_lt.mpr h9)
      refine lv_iload hx hb dX11_careerFrom_19 (lv_at hl 5 rfl) ?_
      refine lv_aload_n hx hb dX11_careerFrom_21 rfl (lv_at hl 0 rfl) ?_
      refine gf_X11_322 hx hb hts hown hK hP 0 rfl rfl dX11_careerFrom_22 ?_
      refine lv_icmp_ne (tgt := 38) hx hb dX11_careerFrom_25 (by decide) (fun c_56 => ?_) (fun c_56 => ?_)
      · skip
        have c_56 : ¬ (vwe.toInt = vocm.toInt) := fun h9 => c_56 (i_eq.mpr h9)
        exact join45  _ _ (hP.sub [0, 1, 2, 3] rfl) (hD.sub [0, 1, 2, 3] rfl rfl) hS ls (lv_sub hl [0, 1, 2, 3, 4, 5] rfl)
      · skip
        have c_56 : vwe.toInt = vocm.toInt := i_eq.mp c_56
        refine lv_iload hx hb dX11_careerFrom_28 (lv_at hl 4 rfl) ?_
        refine lv_aload_n hx hb dX11_careerFrom_30 rfl (lv_at hl 0 rfl) ?_
        refine gf_X11_325 hx hb hts hown hK hP 0 rfl rfl dX11_careerFrom_31 ?_
        refine lv_icmp_lt (tgt := 38) hx hb dX11_careerFrom_34 (by decide) (fun c_57 => ?_) (fun c_57 => ?_)
        · skip
          have c_57 : vti.toInt < voct.toInt := i_lt.mp c_57
          exact join45  _ _ (hP.sub [0, 1, 2, 3] rfl) (hD.sub [0, 1, 2, 3] rfl rfl) hS ls (lv_sub hl [0, 1, 2, 3, 4, 5] rfl)
        · skip
          have c_57 : ¬ (vti.toInt < voct.toInt) := fun h9 => c_57 (i_lt.mpr h9)
          rw [hQ9]
          exact re_v (vocm, voct, vmcf, vocy, vmdf) hx hb hr hlocks (show 0 ≤ (vocy : Int32).toInt ∧ (vocy : Int32).toInt ≤ 10 from ⟨by omega, by omega⟩) (hP.sub [0, 1, 2, 3] rfl) (hD.sub [0, 1, 2, 3] rfl rfl) hS dX11_careerFrom_37
abbrev O_m_careerFrom_7 (cy : Nat → ClassId) (vnh : Nat → Int32) (vo : Nat) (voth : Int32) (vmt : Nat) (votp : Int32) (vosz : Int32) (volm : Int32) (voto : Int32) (vofr : Int32) (vokd : Int32) (vonu : Int32) (vosg : Int32) (vofa : Int32) (vopl : Int32) (vowd : Int64) (votd : Int32) (vmn : Nat) (vmr : Nat) (vmk : Nat) (vms : Nat) (vma : Nat) (vmm : Nat) (vmrn : Nat) (vmkn : Nat) (vmik : Nat) (vmon : Nat) (vosm : Int32) (vohp : Int32) (vmw : Nat) (vmf : Nat) (vmb : Nat) (vomb : Int32) (vmd : Nat) (vmc : Nat) (vocm : Int32) (voct : Int32) (vocy : Int32) (vmx : Nat) (votx : Int32) (vose : Int32) (vml : Nat) (vmwr : Nat) (voln : Int32) (vohw : Int32) (vmno : Nat) (vond : Int32) (voon : Int32) (vowi : Int32) (votop : Int32) (vmnf : Nat → Int32) (vmdf : Nat → Int32) (vmcf : Nat → Int32) (vm : Int32) (vlf : Int32) (vti : Int32) (vwe : Int32) (u : Int32 × Int32 × (Nat → Int32) × Int32 × (Nat → Int32)) : va_W := [(vo, .inr (12, [.int voth, .ref vmt, .int votp, .int vosz, .int volm, .int voto, .int vofr, .int vokd, .int vonu, .int vosg, .int vofa, .int vopl, .long vowd, .int votd, .ref vmn, .ref vmr, .ref vmk, .ref vms, .ref vma, .ref vmm, .ref vmrn, .ref vmkn, .ref vmik, .ref vmon, .int vosm, .int vohp, .ref vmw, .ref vmf, .ref vmb, .int vomb, .ref vmd, .ref vmc, .int u.1, .int u.2.1, .int u.2.2.2.1, .ref vmx, .int votx, .int vose, .ref vml, .ref vmwr, .int voln, .int vohw, .ref vmno, .int vond, .int voon, .int vowi, .int votop])), (vmn, .inl (cy 0, 575, .inl vmnf)), (vmd, .inl (cy 0, 10, .inl u.2.2.2.2)), (vmc, .inl (cy 0, 10, .inl u.2.2.1))]
set_option maxHeartbeats 4000000 in
set_option maxRecDepth 100000 in
theorem m_careerFrom_7 (l : Launch) (dC : Nat → ClassId) (dI : Nat → Nat → Nat) (cy : Nat → ClassId) (sz : Nat) (vnh : Nat → Int32) (vo : Nat) (voth : Int32) (vmt : Nat) (votp : Int32) (vosz : Int32) (volm : Int32) (voto : Int32) (vofr : Int32) (vokd : Int32) (vonu : Int32) (vosg : Int32) (vofa : Int32) (vopl : Int32) (vowd : Int64) (votd : Int32) (vmn : Nat) (vmr : Nat) (vmk : Nat) (vms : Nat) (vma : Nat) (vmm : Nat) (vmrn : Nat) (vmkn : Nat) (vmik : Nat) (vmon : Nat) (vosm : Int32) (vohp : Int32) (vmw : Nat) (vmf : Nat) (vmb : Nat) (vomb : Int32) (vmd : Nat) (vmc : Nat) (vocm : Int32) (voct : Int32) (vocy : Int32) (vmx : Nat) (votx : Int32) (vose : Int32) (vml : Nat) (vmwr : Nat) (voln : Int32) (vohw : Int32) (vmno : Nat) (vond : Int32) (voon : Int32) (vowi : Int32) (votop : Int32) (vmnf : Nat → Int32) (vmdf : Nat → Int32) (vmcf : Nat → Int32) (vm : Int32) (vlf : Int32) (vti : Int32) (vwe : Int32) (r_vocy : 0 ≤ (vocy : Int32).toInt ∧ (vocy : Int32).toInt ≤ 10) (r_vm : 0 ≤ (vm : Int32).toInt ∧ (vm : Int32).toInt ≤ 6) (r_vlf : 0 ≤ (vlf : Int32).toInt ∧ (vlf : Int32).toInt ≤ 10) (p_vmnf : NW vnh vmnf) (hd : 7 ≤ (vmnf 1).toInt) : Met l yX11_careerFrom (wl yX11_careerFrom cX11_careerFrom 8 none) ({ frames := 4, cells := 0, slots := 0, locals := 256 }) (Pw (dC, dI) vwCl cy [(vo, .inr (12, [.int voth, .ref vmt, .int votp, .int vosz, .int volm, .int voto, .int vofr, .int vokd, .int vonu, .int vosg, .int vofa, .int vopl, .long vowd, .int votd, .ref vmn, .ref vmr, .ref vmk, .ref vms, .ref vma, .ref vmm, .ref vmrn, .ref vmkn, .ref vmik, .ref vmon, .int vosm, .int vohp, .ref vmw, .ref vmf, .ref vmb, .int vomb, .ref vmd, .ref vmc, .int vocm, .int voct, .int vocy, .ref vmx, .int votx, .int vose, .ref vml, .ref vmwr, .int voln, .int vohw, .ref vmno, .int vond, .int voon, .int vowi, .int votop])), (vmn, .inl (cy 0, 575, .inl vmnf)), (vmd, .inl (cy 0, 10, .inl vmdf)), (vmc, .inl (cy 0, 10, .inl vmcf))] sz [.ref vo, .int vm, .int 7, .int vlf, .int vti, .int vwe] nE) (Qv (dC, dI) vwCl (fun (u : Int32 × Int32 × (Nat → Int32) × Int32 × (Nat → Int32)) => (0 ≤ (u.2.2.2.1 : Int32).toInt ∧ (u.2.2.2.1 : Int32).toInt ≤ 10)) (O_m_careerFrom_7 cy vnh vo voth vmt votp vosz volm voto vofr vokd vonu vosg vofa vopl vowd votd vmn vmr vmk vms vma vmm vmrn vmkn vmik vmon vosm vohp vmw vmf vmb vomb vmd vmc vocm voct vocy vmx votx vose vml vmwr voln vohw vmno vond voon vowi votop vmnf vmdf vmcf vm vlf vti vwe) (va_A [(vo, .inr (12, [.int voth, .ref vmt, .int votp, .int vosz, .int volm, .int voto, .int vofr, .int vokd, .int vonu, .int vosg, .int vofa, .int vopl, .long vowd, .int votd, .ref vmn, .ref vmr, .ref vmk, .ref vms, .ref vma, .ref vmm, .ref vmrn, .ref vmkn, .ref vmik, .ref vmon, .int vosm, .int vohp, .ref vmw, .ref vmf, .ref vmb, .int vomb, .ref vmd, .ref vmc, .int vocm, .int voct, .int vocy, .ref vmx, .int votx, .int vose, .ref vml, .ref vmwr, .int voln, .int vohw, .ref vmno, .int vond, .int voon, .int vowi, .int votop])), (vmn, .inl (cy 0, 575, .inl vmnf)), (vmd, .inl (cy 0, 10, .inl vmdf)), (vmc, .inl (cy 0, 10, .inl vmcf))] sz)) 0 0 (va_A [(vo, .inr (12, [.int voth, .ref vmt, .int votp, .int vosz, .int volm, .int voto, .int vofr, .int vokd, .int vonu, .int vosg, .int vofa, .int vopl, .long vowd, .int votd, .ref vmn, .ref vmr, .ref vmk, .ref vms, .ref vma, .ref vmm, .ref vmrn, .ref vmkn, .ref vmik, .ref vmon, .int vosm, .int vohp, .ref vmw, .ref vmf, .ref vmb, .int vomb, .ref vmd, .ref vmc, .int vocm, .int voct, .int vocy, .ref vmx, .int votx, .int vose, .ref vml, .ref vmwr, .int voln, .int vohw, .ref vmno, .int vond, .int voon, .int vowi, .int votop])), (vmn, .inl (cy 0, 575, .inl vmnf)), (vmd, .inl (cy 0, 10, .inl vmdf)), (vmc, .inl (cy 0, 10, .inl vmcf))] sz) := by
  refine mw (Qc := Qv (dC, dI) vwCl (fun (u : Int32 × Int32 × (Nat → Int32) × Int32 × (Nat → Int32)) => (0 ≤ (u.2.2.2.1 : Int32).toInt ∧ (u.2.2.2.1 : Int32).toInt ≤ 10)) (O_m_careerFrom_7 cy vnh vo voth vmt votp vosz volm voto vofr vokd vonu vosg vofa vopl vowd votd vmn vmr vmk vms vma vmm vmrn vmkn vmik vmon vosm vohp vmw vmf vmb vomb vmd vmc vocm voct vocy vmx votx vose vml vmwr voln vohw vmno vond voon vowi votop vmnf vmdf vmcf vm vlf vti vwe)) RX11 rfl (by decide +kernel) (Nat.le_of_ble_eq_true rfl) ?_
  intro p e s m below meth c A hx hb hr hlocks av9 hav hts hown hnm hml hK hP hD hA hS hE hAe Q9 hQ9 ls hl
  have hl : lv_has ls 8 [(0, .ref vo), (1, .int vm), (2, .int 7), (3, .int vlf), (4, .int vti), (5, .int vwe)] := hl
  refine lv_iload_n hx hb dX11_careerFrom_0 rfl (lv_at hl 2 rfl) ?_
  refine lv_aload_n hx hb dX11_careerFrom_1 rfl (lv_at hl 0 rfl) ?_
  refine gf_X11_98 hx hb hts hown hK hP 0 rfl rfl dX11_careerFrom_2 ?_
  refine lv_iconst (v := 1) hx hb dX11_careerFrom_5 (by decide) ?_
  have k_1 : (1 : Int32).toInt = 1 := by decide
  have hin_1 : vp_in (1 : Int32) 575 := vp_in_iff.mpr ⟨by omega, by omega⟩
  refine va_iald hx hb hK hP 1 0 rfl rfl hin_1 dX11_careerFrom_6 ?_
  refine lv_topi (fun z_2 ez_2 => ?_)
  have bz_2 := p_vmnf.a1 (x := 1) ⟨by omega, by omega⟩ ez_2
  have tz_2 : z_2.toInt = (vmnf 1).toInt := by rw [ez_2]; rfl
  have k_7 : (7 : Int32).toInt = 7 := by decide
  refine lv_icmp_ne (tgt := 85) hx hb dX11_careerFrom_7 (by decide) (fun c_3 => ?_) (fun c_3 => ?_)
  · skip
    have c_3 : ¬ ((7 : Int32).toInt = z_2.toInt) := fun h9 => c_3 (i_eq.mpr h9)
    refine lv_iload_n hx hb dX11_careerFrom_85 rfl (lv_at hl 3 rfl) ?_
    refine lv_bipush (v := 9) hx hb dX11_careerFrom_86 (by decide) ?_
    refine lv_aload_n hx hb dX11_careerFrom_88 rfl (lv_at hl 0 rfl) ?_
    refine lv_iload_n hx hb dX11_careerFrom_89 rfl (lv_at hl 1 rfl) ?_
    refine lv_iload_n hx hb dX11_careerFrom_90 rfl (lv_at hl 2 rfl) ?_
    refine jr_i (rVr (As := [.int vm, .int 7]) (rest := [.int 9, .int vlf]) (ci := 12) ⟨hx, hb, hml, hown, hts⟩ (m_didOf l dC dI cy vnh vo voth vmt votp vosz volm voto vofr vokd vonu vosg vofa vopl vowd votd vmn vmr vmk vms vma vmm vmrn vmkn vmik vmon vosm vohp vmw vmf vmb vomb vmd vmc vocm voct vocy vmx votx vose vml vmwr voln vohw vmno vond voon vowi votop vmnf vm 7 ⟨by omega, by omega⟩ ⟨by omega, by omega⟩ p_vmnf) (cw_X11_228 hts rfl rfl ⟨Nat.le_of_ble_eq_true rfl, Nat.le_of_ble_eq_true rfl⟩) hP hK [0, 1] rfl rfl rfl rfl hl.1 rfl (Nat.le_of_ble_eq_true rfl) dX11_careerFrom_91 ⟨Nat.le_of_ble_eq_true rfl, Nat.le_of_ble_eq_true rfl⟩) hP hS (fun r_4 H locs hp_5 hP hS => ?_)
    refine lv_isub hx hb dX11_careerFrom_94 ?_
    refine lv_topi (fun z_6 ez_6 => ?_)
    refine jr_i (rSr (As := [.int vlf, .int z_6]) (rest := []) ⟨hx, hb, hml, hown, hts⟩ (m_least l dC dI cy vlf z_6 ) (cw_X11_288 hts rfl rfl ⟨Nat.le_of_ble_eq_true rfl, Nat.le_of_ble_eq_true rfl⟩) hP hK [] rfl rfl hl.1 rfl (Nat.le_of_ble_eq_true rfl) dX11_careerFrom_95 ⟨Nat.le_of_ble_eq_true rfl, Nat.le_of_ble_eq_true rfl⟩) hP hS (fun r_7 H locs hp_8 hP hS => ?_)
    have hp_8 : ((r_7 : Int32).toInt ≤ (vlf : Int32).toInt) ∧ ((r_7 : Int32).toInt ≤ (z_6 : Int32).toInt) ∧ (((r_7 : Int32).toInt = (vlf : Int32).toInt ∨ (r_7 : Int32).toInt = (z_6 : Int32).toInt)) := hp_8
    obtain ⟨q_9, q_10, q_11⟩ := hp_8
    refine lv_istore (lv' := [(6, .int r_7), (0, .ref vo), (1, .int vm), (2, .int 7), (3, .int vlf), (4, .int vti), (5, .int vwe)]) hx hb dX11_careerFrom_98 hl (by decide) rfl (fun ls hl => ?_)
    refine lv_iconst (v := 0) hx hb dX11_careerFrom_100 (by decide) ?_
    refine lv_istore (lv' := [(7, .int 0), (6, .int r_7), (0, .ref vo), (1, .int vm), (2, .int 7), (3, .int vlf), (4, .int vti), (5, .int vwe)]) hx hb dX11_careerFrom_101 hl (by decide) rfl (fun ls hl => ?_)
    have loop12 : ∀ (n12 : Nat) (x_13 : Int32) (x_14 : Int32) (x_15 : Int32) (x_16 : Int32) (g_17 : Nat → Int32) (g_18 : Nat → Int32), (0 ≤ x_13.toInt ∧ x_13.toInt ≤ 11) → (0 ≤ x_16.toInt ∧ x_16.toInt ≤ 10) → 11 - x_13.toInt < (n12 : Int) → ∀ (H : Heap) (locs : List Loc), va_P (dC, dI) vwCl [(vo, .inr (12, [.int voth, .ref vmt, .int votp, .int vosz, .int volm, .int voto, .int vofr, .int vokd, .int vonu, .int vosg, .int vofa, .int vopl, .long vowd, .int votd, .ref vmn, .ref vmr, .ref vmk, .ref vms, .ref vma, .ref vmm, .ref vmrn, .ref vmkn, .ref vmik, .ref vmon, .int vosm, .int vohp, .ref vmw, .ref vmf, .ref vmb, .int vomb, .ref vmd, .ref vmc, .int x_14, .int x_15, .int x_16, .ref vmx, .int votx, .int vose, .ref vml, .ref vmwr, .int voln, .int vohw, .ref vmno, .int vond, .int voon, .int vowi, .int votop])), (vmn, .inl (cy 0, 575, .inl vmnf)), (vmd, .inl (cy 0, 10, .inl g_18)), (vmc, .inl (cy 0, 10, .inl g_17))] H → va_D A [(vo, .inr (12, [.int voth, .ref vmt, .int votp, .int vosz, .int volm, .int voto, .int vofr, .int vokd, .int vonu, .int vosg, .int vofa, .int vopl, .long vowd, .int votd, .ref vmn, .ref vmr, .ref vmk, .ref vms, .ref vma, .ref vmm, .ref vmrn, .ref vmkn, .ref vmik, .ref vmon, .int vosm, .int vohp, .ref vmw, .ref vmf, .ref vmb, .int vomb, .ref vmd, .ref vmc, .int x_14, .int x_15, .int x_16, .ref vmx, .int votx, .int vose, .ref vml, .ref vmwr, .int voln, .int vohw, .ref vmno, .int vond, .int voon, .int vowi, .int votop])), (vmn, .inl (cy 0, 575, .inl vmnf)), (vmd, .inl (cy 0, 10, .inl g_18)), (vmc, .inl (cy 0, 10, .inl g_17))] → va_S A s.heap H locs → ∀ ls : Array Slot, lv_has ls 8 [(7, .int x_13), (6, .int r_7), (0, .ref vo), (1, .int vm), (2, .int 7), (3, .int vlf), (4, .int vti), (5, .int vwe)] → W p l e ({ frames := 4, cells := 0, slots := 0, locals := 256 }) s m av9 below meth c H locs 0 0 Q9 (F0 m 103 ls []) := by
      intro n12
      induction n12 with
      | zero =>
        intro x_13 x_14 x_15 x_16 g_17 g_18 bx_13 bx_16 hn12 H locs hP hD hS ls hl
        exfalso; omega
      | succ n12 ih12 =>
        intro x_13 x_14 x_15 x_16 g_17 g_18 bx_13 bx_16 hn12 H locs hP hD hS ls hl
        refine lv_iload hx hb dX11_careerFrom_103 (lv_at hl 0 rfl) ?_
        refine lv_iload hx hb dX11_careerFrom_105 (lv_at hl 1 rfl) ?_
        refine lv_icmp_gt (tgt := 180) hx hb dX11_careerFrom_107 (by decide) (fun c_19 => ?_) (fun c_19 => ?_)
        · skip
          have c_19 : r_7.toInt < x_13.toInt := i_lt.mp c_19
          rw [hQ9]
          exact re_v (x_14, x_15, g_17, x_16, g_18) hx hb hr hlocks (show 0 ≤ (x_16 : Int32).toInt ∧ (x_16 : Int32).toInt ≤ 10 from ⟨by omega, by omega⟩) (hP.sub [0, 1, 2, 3] rfl) (hD.sub [0, 1, 2, 3] rfl rfl) hS dX11_careerFrom_180
        · skip
          have c_19 : ¬ (r_7.toInt < x_13.toInt) := fun h9 => c_19 (i_lt.mpr h9)
          refine lv_iload hx hb dX11_careerFrom_110 (lv_at hl 7 rfl) ?_
          refine lv_iload hx hb dX11_careerFrom_112 (lv_at hl 0 rfl) ?_
          refine lv_aload_n hx hb dX11_careerFrom_114 rfl (lv_at hl 2 rfl) ?_
          refine gf_X11_98 hx hb hts hown hK hP 0 rfl rfl dX11_careerFrom_115 ?_
          refine lv_bipush (v := 11) hx hb dX11_careerFrom_118 (by decide) ?_
          refine lv_iload_n hx hb dX11_careerFrom_120 rfl (lv_at hl 4 rfl) ?_
          refine lv_iadd hx hb dX11_careerFrom_121 ?_
          refine as_i 18 (by decide) ?_
          have k_18 : (18 : Int32).toInt = 18 := by decide
          have hin_20 : vp_in (18 : Int32) 575 := vp_in_iff.mpr ⟨by omega, by omega⟩
          refine va_iald hx hb hK hP 1 0 rfl rfl hin_20 dX11_careerFrom_122 ?_
          refine lv_topi (fun z_21 ez_21 => ?_)
          have bz_21 := p_vmnf.aw (x := 18) ⟨by omega, by omega⟩ ez_21
          have tz_21 : z_21.toInt = (vmnf 18).toInt := by rw [ez_21]; rfl
          refine lv_imul hx hb dX11_careerFrom_123 ?_
          refine lv_topi (fun z_22 ez_22 => ?_)
          have bz_22 : 0 ≤ z_22.toInt ∧ z_22.toInt ≤ 400 ∧ z_22.toInt = x_13.toInt * z_21.toInt := i_mulb (A := 10) (B := 40) ez_22 ⟨by omega, by omega⟩ ⟨by omega, by omega⟩ (by decide)
          refine lv_iadd hx hb dX11_careerFrom_124 ?_
          refine lv_topi (fun z_23 ez_23 => ?_)
          refine lv_aload_n hx hb dX11_careerFrom_125 rfl (lv_at hl 2 rfl) ?_
          refine gf_X11_98 hx hb hts hown hK hP 0 rfl rfl dX11_careerFrom_126 ?_
          refine lv_iconst (v := 2) hx hb dX11_careerFrom_129 (by decide) ?_
          have k_2 : (2 : Int32).toInt = 2 := by decide
          have hin_24 : vp_in (2 : Int32) 575 := vp_in_iff.mpr ⟨by omega, by omega⟩
          refine va_iald hx hb hK hP 1 0 rfl rfl hin_24 dX11_careerFrom_130 ?_
          refine lv_topi (fun z_25 ez_25 => ?_)
          have tz_25 : z_25.toInt = (vmnf 2).toInt := by rw [ez_25]; rfl
          refine lv_icmp_gt (tgt := 180) hx hb dX11_careerFrom_131 (by decide) (fun c_26 => ?_) (fun c_26 => ?_)
          · skip
            have c_26 : z_25.toInt < z_23.toInt := i_lt.mp c_26
            rw [hQ9]
            exact re_v (x_14, x_15, g_17, x_16, g_18) hx hb hr hlocks (show 0 ≤ (x_16 : Int32).toInt ∧ (x_16 : Int32).toInt ≤ 10 from ⟨by omega, by omega⟩) (hP.sub [0, 1, 2, 3] rfl) (hD.sub [0, 1, 2, 3] rfl rfl) hS dX11_careerFrom_180
          · skip
            have c_26 : ¬ (z_25.toInt < z_23.toInt) := fun h9 => c_26 (i_lt.mpr h9)
            refine lv_aload_n hx hb dX11_careerFrom_134 rfl (lv_at hl 2 rfl) ?_
            refine gf_X11_142 hx hb hts hown hK hP 0 rfl rfl dX11_careerFrom_135 ?_
            refine lv_iload_n hx hb dX11_careerFrom_138 rfl (lv_at hl 4 rfl) ?_
            refine lv_iload hx hb dX11_careerFrom_139 (lv_at hl 0 rfl) ?_
            have hin_27 : vp_in (7 : Int32) 10 := vp_in_iff.mpr ⟨by omega, by omega⟩
            refine va_iast hx hb hK hP hD hS 2 0 rfl rfl hin_27 dX11_careerFrom_141 (fun H locs hP hD hS => ?_)
            obtain ⟨f_28, ef_28⟩ : ∃ z : Nat → Int32, z = upd g_18 (Int32.toNatClampNeg 7) x_13 := ⟨_, rfl⟩
            have hP : va_P (dC, dI) vwCl [(vo, .inr (12, [.int voth, .ref vmt, .int votp, .int vosz, .int volm, .int voto, .int vofr, .int vokd, .int vonu, .int vosg, .int vofa, .int vopl, .long vowd, .int votd, .ref vmn, .ref vmr, .ref vmk, .ref vms, .ref vma, .ref vmm, .ref vmrn, .ref vmkn, .ref vmik, .ref vmon, .int vosm, .int vohp, .ref vmw, .ref vmf, .ref vmb, .int vomb, .ref vmd, .ref vmc, .int x_14, .int x_15, .int x_16, .ref vmx, .int votx, .int vose, .ref vml, .ref vmwr, .int voln, .int vohw, .ref vmno, .int vond, .int voon, .int vowi, .int votop])), (vmn, .inl (cy 0, 575, .inl vmnf)), (vmd, .inl (cy 0, 10, .inl f_28)), (vmc, .inl (cy 0, 10, .inl g_17))] H := by rw [ef_28]; exact hP
            have hD : va_D A [(vo, .inr (12, [.int voth, .ref vmt, .int votp, .int vosz, .int volm, .int voto, .int vofr, .int vokd, .int vonu, .int vosg, .int vofa, .int vopl, .long vowd, .int votd, .ref vmn, .ref vmr, .ref vmk, .ref vms, .ref vma, .ref vmm, .ref vmrn, .ref vmkn, .ref vmik, .ref vmon, .int vosm, .int vohp, .ref vmw, .ref vmf, .ref vmb, .int vomb, .ref vmd, .ref vmc, .int x_14, .int x_15, .int x_16, .ref vmx, .int votx, .int vose, .ref vml, .ref vmwr, .int voln, .int vohw, .ref vmno, .int vond, .int voon, .int vowi, .int votop])), (vmn, .inl (cy 0, 575, .inl vmnf)), (vmd, .inl (cy 0, 10, .inl f_28)), (vmc, .inl (cy 0, 10, .inl g_17))] := by rw [ef_28]; exact hD
            refine lv_aload_n hx hb dX11_careerFrom_142 rfl (lv_at hl 2 rfl) ?_
            refine lv_iload_n hx hb dX11_careerFrom_143 rfl (lv_at hl 3 rfl) ?_
            refine lv_iload_n hx hb dX11_careerFrom_144 rfl (lv_at hl 4 rfl) ?_
            refine lv_iconst (v := 1) hx hb dX11_careerFrom_145 (by decide) ?_
            refine lv_iadd hx hb dX11_careerFrom_146 ?_
            refine as_i 8 (by decide) ?_
            refine lv_iload_n hx hb dX11_careerFrom_147 rfl (lv_at hl 5 rfl) ?_
            refine lv_iload hx hb dX11_careerFrom_148 (lv_at hl 0 rfl) ?_
            refine lv_isub hx hb dX11_careerFrom_150 ?_
            refine lv_topi (fun z_29 ez_29 => ?_)
            have bz_29 : z_29.toInt = vlf.toInt - x_13.toInt := i_sub ez_29 (by omega) (by omega)
            refine lv_iload hx hb dX11_careerFrom_151 (lv_at hl 6 rfl) ?_
            refine lv_iload hx hb dX11_careerFrom_153 (lv_at hl 0 rfl) ?_
            refine lv_iadd hx hb dX11_careerFrom_155 ?_
            refine lv_topi (fun z_30 ez_30 => ?_)
            refine lv_iload hx hb dX11_careerFrom_156 (lv_at hl 7 rfl) ?_
            refine lv_iload hx hb dX11_careerFrom_158 (lv_at hl 0 rfl) ?_
            refine lv_aload_n hx hb dX11_careerFrom_160 rfl (lv_at hl 2 rfl) ?_
            refine gf_X11_98 hx hb hts hown hK hP 0 rfl rfl dX11_careerFrom_161 ?_
            refine lv_bipush (v := 11) hx hb dX11_careerFrom_164 (by decide) ?_
            refine lv_iload_n hx hb dX11_careerFrom_166 rfl (lv_at hl 4 rfl) ?_
            refine lv_iadd hx hb dX11_careerFrom_167 ?_
            refine as_i 18 (by decide) ?_
            have hin_31 : vp_in (18 : Int32) 575 := vp_in_iff.mpr ⟨by omega, by omega⟩
            refine va_iald hx hb hK hP 1 0 rfl rfl hin_31 dX11_careerFrom_168 ?_
            refine lv_topi (fun z_32 ez_32 => ?_)
            have bz_32 := p_vmnf.aw (x := 18) ⟨by omega, by omega⟩ ez_32
            have tz_32 : z_32.toInt = (vmnf 18).toInt := by rw [ez_32]; rfl
            refine lv_imul hx hb dX11_careerFrom_169 ?_
            refine lv_topi (fun z_33 ez_33 => ?_)
            have bz_33 : 0 ≤ z_33.toInt ∧ z_33.toInt ≤ 400 ∧ z_33.toInt = x_13.toInt * z_32.toInt := i_mulb (A := 10) (B := 40) ez_33 ⟨by omega, by omega⟩ ⟨by omega, by omega⟩ (by decide)
            refine lv_iadd hx hb dX11_careerFrom_170 ?_
            refine lv_topi (fun z_34 ez_34 => ?_)
            refine jn_v (wr := []) (rV (As := [.int vm, .int 8, .int z_29, .int z_30, .int z_34]) (rest := []) (ci := 12) ⟨hx, hb, hml, hown, hts⟩ (m_careerFrom_8 l dC dI cy _ vnh vo voth vmt votp vosz volm voto vofr vokd vonu vosg vofa vopl vowd votd vmn vmr vmk vms vma vmm vmrn vmkn vmik vmon vosm vohp vmw vmf vmb vomb vmd vmc x_14 x_15 x_16 vmx votx vose vml vmwr voln vohw vmno vond voon vowi votop vmnf f_28 g_17 vm z_29 z_30 z_34 ⟨by omega, by omega⟩ r_vm ⟨by omega, by omega⟩ p_vmnf (by omega)) (cw_X11_331 hts rfl rfl ⟨Nat.le_of_ble_eq_true rfl, Nat.le_of_ble_eq_true rfl⟩) hP hD hK [0, 1, 2, 3] rfl rfl rfl rfl bl0 e0 rfl hl.1 rfl (Nat.le_of_ble_eq_true rfl) dX11_careerFrom_171 ⟨Nat.le_of_ble_eq_true rfl, Nat.le_of_ble_eq_true rfl⟩) hP hD hS hA [0, 1, 2, 3] [] rfl rfl rfl (by decide) (fun u_37 H locs hp_36 hP hD hS => ?_)
            obtain ⟨vocm_38, voct_39, vmcf_40, vocy_41, vmdf_42⟩ := u_37
            have hp_36 : (0 ≤ (vocy_41 : Int32).toInt ∧ (vocy_41 : Int32).toInt ≤ 10) := hp_36
            have q_43 := hp_36
            have hP : va_P (dC, dI) vwCl [(vo, .inr (12, [.int voth, .ref vmt, .int votp, .int vosz, .int volm, .int voto, .int vofr, .int vokd, .int vonu, .int vosg, .int vofa, .int vopl, .long vowd, .int votd, .ref vmn, .ref vmr, .ref vmk, .ref vms, .ref vma, .ref vmm, .ref vmrn, .ref vmkn, .ref vmik, .ref vmon, .int vosm, .int vohp, .ref vmw, .ref vmf, .ref vmb, .int vomb, .ref vmd, .ref vmc, .int vocm_38, .int voct_39, .int vocy_41, .ref vmx, .int votx, .int vose, .ref vml, .ref vmwr, .int voln, .int vohw, .ref vmno, .int vond, .int voon, .int vowi, .int votop])), (vmn, .inl (cy 0, 575, .inl vmnf)), (vmd, .inl (cy 0, 10, .inl vmdf_42)), (vmc, .inl (cy 0, 10, .inl vmcf_40))] H := hP
            have hD : va_D A [(vo, .inr (12, [.int voth, .ref vmt, .int votp, .int vosz, .int volm, .int voto, .int vofr, .int vokd, .int vonu, .int vosg, .int vofa, .int vopl, .long vowd, .int votd, .ref vmn, .ref vmr, .ref vmk, .ref vms, .ref vma, .ref vmm, .ref vmrn, .ref vmkn, .ref vmik, .ref vmon, .int vosm, .int vohp, .ref vmw, .ref vmf, .ref vmb, .int vomb, .ref vmd, .ref vmc, .int vocm_38, .int voct_39, .int vocy_41, .ref vmx, .int votx, .int vose, .ref vml, .ref vmwr, .int voln, .int vohw, .ref vmno, .int vond, .int voon, .int vowi, .int votop])), (vmn, .inl (cy 0, 575, .inl vmnf)), (vmd, .inl (cy 0, 10, .inl vmdf_42)), (vmc, .inl (cy 0, 10, .inl vmcf_40))] := hD
            obtain ⟨z_44, ez_44⟩ : ∃ z : Int32, z = x_13 + 1 := ⟨_, rfl⟩
            have bz_44 : z_44.toInt = x_13.toInt + (1 : Int32).toInt := i_add ez_44 (by omega) (by omega)
            refine lv_iinc (v := z_44) (lv' := [(7, .int z_44), (6, .int r_7), (0, .ref vo), (1, .int vm), (2, .int 7), (3, .int vlf), (4, .int vti), (5, .int vwe)]) hx hb dX11_careerFrom_174 hl (k := 0) rfl ez_44.symm (by decide) rfl (fun ls hl => ?_)
            refine lv_goto (tgt := 103) hx hb dX11_careerFrom_177 (by decide) ?_
            exact ih12 z_44 vocm_38 voct_39 vocy_41 vmcf_40 vmdf_42 ⟨by omega, by omega⟩ ⟨by omega, by omega⟩ (by omega) _ _ (hP.sub [0, 1, 2, 3] rfl) (hD.sub [0, 1, 2, 3] rfl rfl) hS ls (lv_sub hl [0, 1, 2, 3, 4, 5, 6, 7] rfl)
    have k_0 : (0 : Int32).toInt = 0 := by decide
    exact loop12 ((11 - (0 : Int32).toInt).toNat + 1) 0 vocm voct vocy vmcf vmdf ⟨by omega, by omega⟩ ⟨by omega, by omega⟩ (by omega) _ _ hP hD hS ls (lv_sub hl [0, 1, 2, 3, 4, 5, 6, 7] rfl)
  · skip
    have c_3 : (7 : Int32).toInt = z_2.toInt := i_eq.mp c_3
    have join45 : ∀ (H : Heap) (locs : List Loc), va_P (dC, dI) vwCl [(vo, .inr (12, [.int voth, .ref vmt, .int votp, .int vosz, .int volm, .int voto, .int vofr, .int vokd, .int vonu, .int vosg, .int vofa, .int vopl, .long vowd, .int votd, .ref vmn, .ref vmr, .ref vmk, .ref vms, .ref vma, .ref vmm, .ref vmrn, .ref vmkn, .ref vmik, .ref vmon, .int vosm, .int vohp, .ref vmw, .ref vmf, .ref vmb, .int vomb, .ref vmd, .ref vmc, .int vocm, .int voct, .int vocy, .ref vmx, .int votx, .int vose, .ref vml, .ref vmwr, .int voln, .int vohw, .ref vmno, .int vond, .int voon, .int vowi, .int votop])), (vmn, .inl (cy 0, 575, .inl vmnf)), (vmd, .inl (cy 0, 10, .inl vmdf)), (vmc, .inl (cy 0, 10, .inl vmcf))] H → va_D A [(vo, .inr (12, [.int voth, .ref vmt, .int votp, .int vosz, .int volm, .int voto, .int vofr, .int vokd, .int vonu, .int vosg, .int vofa, .int vopl, .long vowd, .int votd, .ref vmn, .ref vmr, .ref vmk, .ref vms, .ref vma, .ref vmm, .ref vmrn, .ref vmkn, .ref vmik, .ref vmon, .int vosm, .int vohp, .ref vmw, .ref vmf, .ref vmb, .int vomb, .ref vmd, .ref vmc, .int vocm, .int voct, .int vocy, .ref vmx, .int votx, .int vose, .ref vml, .ref vmwr, .int voln, .int vohw, .ref vmno, .int vond, .int voon, .int vowi, .int votop])), (vmn, .inl (cy 0, 575, .inl vmnf)), (vmd, .inl (cy 0, 10, .inl vmdf)), (vmc, .inl (cy 0, 10, .inl vmcf))] → va_S A s.heap H locs → ∀ ls : Array Slot, lv_has ls 8 [(0, .ref vo), (1, .int vm), (2, .int 7), (3, .int vlf), (4, .int vti), (5, .int vwe)] → W p l e ({ frames := 4, cells := 0, slots := 0, locals := 256 }) s m av9 below meth c H locs 0 0 Q9 (F0 m 38 ls []) := by
      intro  H locs hP hD hS ls hl
      refine lv_aload_n hx hb dX11_careerFrom_38 rfl (lv_at hl 0 rfl) ?_
      refine lv_iload hx hb dX11_careerFrom_39 (lv_at hl 5 rfl) ?_
      refine pf_X11_322 hx hb hts hown hK hP hD hS 0 rfl rfl rfl (Nat.le_of_ble_eq_true rfl) dX11_careerFrom_41 (fun H locs hP hD hS => ?_)
      have hP : va_P (dC, dI) vwCl [(vo, .inr (12, [.int voth, .ref vmt, .int votp, .int vosz, .int volm, .int voto, .int vofr, .int vokd, .int vonu, .int vosg, .int vofa, .int vopl, .long vowd, .int votd, .ref vmn, .ref vmr, .ref vmk, .ref vms, .ref vma, .ref vmm, .ref vmrn, .ref vmkn, .ref vmik, .ref vmon, .int vosm, .int vohp, .ref vmw, .ref vmf, .ref vmb, .int vomb, .ref vmd, .ref vmc, .int vwe, .int voct, .int vocy, .ref vmx, .int votx, .int vose, .ref vml, .ref vmwr, .int voln, .int vohw, .ref vmno, .int vond, .int voon, .int vowi, .int votop])), (vmn, .inl (cy 0, 575, .inl vmnf)), (vmd, .inl (cy 0, 10, .inl vmdf)), (vmc, .inl (cy 0, 10, .inl vmcf))] H := hP
      have hD : va_D A [(vo, .inr (12, [.int voth, .ref vmt, .int votp, .int vosz, .int volm, .int voto, .int vofr, .int vokd, .int vonu, .int vosg, .int vofa, .int vopl, .long vowd, .int votd, .ref vmn, .ref vmr, .ref vmk, .ref vms, .ref vma, .ref vmm, .ref vmrn, .ref vmkn, .ref vmik, .ref vmon, .int vosm, .int vohp, .ref vmw, .ref vmf, .ref vmb, .int vomb, .ref vmd, .ref vmc, .int vwe, .int voct, .int vocy, .ref vmx, .int votx, .int vose, .ref vml, .ref vmwr, .int voln, .int vohw, .ref vmno, .int vond, .int voon, .int vowi, .int votop])), (vmn, .inl (cy 0, 575, .inl vmnf)), (vmd, .inl (cy 0, 10, .inl vmdf)), (vmc, .inl (cy 0, 10, .inl vmcf))] := hD
      refine lv_aload_n hx hb dX11_careerFrom_44 rfl (lv_at hl 0 rfl) ?_
      refine lv_iload hx hb dX11_careerFrom_45 (lv_at hl 4 rfl) ?_
      refine pf_X11_325 hx hb hts hown hK hP hD hS 0 rfl rfl rfl (Nat.le_of_ble_eq_true rfl) dX11_careerFrom_47 (fun H locs hP hD hS => ?_)
      have hP : va_P (dC, dI) vwCl [(vo, .inr (12, [.int voth, .ref vmt, .int votp, .int vosz, .int volm, .int voto, .int vofr, .int vokd, .int vonu, .int vosg, .int vofa, .int vopl, .long vowd, .int votd, .ref vmn, .ref vmr, .ref vmk, .ref vms, .ref vma, .ref vmm, .ref vmrn, .ref vmkn, .ref vmik, .ref vmon, .int vosm, .int vohp, .ref vmw, .ref vmf, .ref vmb, .int vomb, .ref vmd, .ref vmc, .int vwe, .int vti, .int vocy, .ref vmx, .int votx, .int vose, .ref vml, .ref vmwr, .int voln, .int vohw, .ref vmno, .int vond, .int voon, .int vowi, .int votop])), (vmn, .inl (cy 0, 575, .inl vmnf)), (vmd, .inl (cy 0, 10, .inl vmdf)), (vmc, .inl (cy 0, 10, .inl vmcf))] H := hP
      have hD : va_D A [(vo, .inr (12, [.int voth, .ref vmt, .int votp, .int vosz, .int volm, .int voto, .int vofr, .int vokd, .int vonu, .int vosg, .int vofa, .int vopl, .long vowd, .int votd, .ref vmn, .ref vmr, .ref vmk, .ref vms, .ref vma, .ref vmm, .ref vmrn, .ref vmkn, .ref vmik, .ref vmon, .int vosm, .int vohp, .ref vmw, .ref vmf, .ref vmb, .int vomb, .ref vmd, .ref vmc, .int vwe, .int vti, .int vocy, .ref vmx, .int votx, .int vose, .ref vml, .ref vmwr, .int voln, .int vohw, .ref vmno, .int vond, .int voon, .int vowi, .int votop])), (vmn, .inl (cy 0, 575, .inl vmnf)), (vmd, .inl (cy 0, 10, .inl vmdf)), (vmc, .inl (cy 0, 10, .inl vmcf))] := hD
      refine lv_iconst (v := 0) hx hb dX11_careerFrom_50 (by decide) ?_
      refine lv_istore (lv' := [(6, .int 0), (0, .ref vo), (1, .int vm), (2, .int 7), (3, .int vlf), (4, .int vti), (5, .int vwe)]) hx hb dX11_careerFrom_51 hl (by decide) rfl (fun ls hl => ?_)
      have loop46 : ∀ (n46 : Nat) (x_47 : Int32) (g_48 : Nat → Int32), (0 ≤ x_47.toInt ∧ x_47.toInt ≤ 10) → 10 - x_47.toInt < (n46 : Int) → ∀ (H : Heap) (locs : List Loc), va_P (dC, dI) vwCl [(vo, .inr (12, [.int voth, .ref vmt, .int votp, .int vosz, .int volm, .int voto, .int vofr, .int vokd, .int vonu, .int vosg, .int vofa, .int vopl, .long vowd, .int votd, .ref vmn, .ref vmr, .ref vmk, .ref vms, .ref vma, .ref vmm, .ref vmrn, .ref vmkn, .ref vmik, .ref vmon, .int vosm, .int vohp, .ref vmw, .ref vmf, .ref vmb, .int vomb, .ref vmd, .ref vmc, .int vwe, .int vti, .int vocy, .ref vmx, .int votx, .int vose, .ref vml, .ref vmwr, .int voln, .int vohw, .ref vmno, .int vond, .int voon, .int vowi, .int votop])), (vmn, .inl (cy 0, 575, .inl vmnf)), (vmd, .inl (cy 0, 10, .inl vmdf)), (vmc, .inl (cy 0, 10, .inl g_48))] H → va_D A [(vo, .inr (12, [.int voth, .ref vmt, .int votp, .int vosz, .int volm, .int voto, .int vofr, .int vokd, .int vonu, .int vosg, .int vofa, .int vopl, .long vowd, .int votd, .ref vmn, .ref vmr, .ref vmk, .ref vms, .ref vma, .ref vmm, .ref vmrn, .ref vmkn, .ref vmik, .ref vmon, .int vosm, .int vohp, .ref vmw, .ref vmf, .ref vmb, .int vomb, .ref vmd, .ref vmc, .int vwe, .int vti, .int vocy, .ref vmx, .int votx, .int vose, .ref vml, .ref vmwr, .int voln, .int vohw, .ref vmno, .int vond, .int voon, .int vowi, .int votop])), (vmn, .inl (cy 0, 575, .inl vmnf)), (vmd, .inl (cy 0, 10, .inl vmdf)), (vmc, .inl (cy 0, 10, .inl g_48))] → va_S A s.heap H locs → ∀ ls : Array Slot, lv_has ls 8 [(6, .int x_47), (0, .ref vo), (1, .int vm), (2, .int 7), (3, .int vlf), (4, .int vti), (5, .int vwe)] → W p l e ({ frames := 4, cells := 0, slots := 0, locals := 256 }) s m av9 below meth c H locs 0 0 Q9 (F0 m 53 ls []) := by
        intro n46
        induction n46 with
        | zero =>
          intro x_47 g_48 bx_47 hn46 H locs hP hD hS ls hl
          exfalso; omega
        | succ n46 ih46 =>
          intro x_47 g_48 bx_47 hn46 H locs hP hD hS ls hl
          refine lv_iload hx hb dX11_careerFrom_53 (lv_at hl 0 rfl) ?_
          refine lv_iload_n hx hb dX11_careerFrom_55 rfl (lv_at hl 3 rfl) ?_
          refine lv_icmp_ge (tgt := 79) hx hb dX11_careerFrom_56 (by decide) (fun c_49 => ?_) (fun c_49 => ?_)
          · skip
            have c_49 : (7 : Int32).toInt ≤ x_47.toInt := i_le.mp c_49
            refine lv_aload_n hx hb dX11_careerFrom_79 rfl (lv_at hl 1 rfl) ?_
            refine lv_iload_n hx hb dX11_careerFrom_80 rfl (lv_at hl 3 rfl) ?_
            refine pf_X11_328 hx hb hts hown hK hP hD hS 0 rfl rfl rfl (Nat.le_of_ble_eq_true rfl) dX11_careerFrom_81 (fun H locs hP hD hS => ?_)
            have hP : va_P (dC, dI) vwCl [(vo, .inr (12, [.int voth, .ref vmt, .int votp, .int vosz, .int volm, .int voto, .int vofr, .int vokd, .int vonu, .int vosg, .int vofa, .int vopl, .long vowd, .int votd, .ref vmn, .ref vmr, .ref vmk, .ref vms, .ref vma, .ref vmm, .ref vmrn, .ref vmkn, .ref vmik, .ref vmon, .int vosm, .int vohp, .ref vmw, .ref vmf, .ref vmb, .int vomb, .ref vmd, .ref vmc, .int vwe, .int vti, .int 7, .ref vmx, .int votx, .int vose, .ref vml, .ref vmwr, .int voln, .int vohw, .ref vmno, .int vond, .int voon, .int vowi, .int votop])), (vmn, .inl (cy 0, 575, .inl vmnf)), (vmd, .inl (cy 0, 10, .inl vmdf)), (vmc, .inl (cy 0, 10, .inl g_48))] H := hP
            have hD : va_D A [(vo, .inr (12, [.int voth, .ref vmt, .int votp, .int vosz, .int volm, .int voto, .int vofr, .int vokd, .int vonu, .int vosg, .int vofa, .int vopl, .long vowd, .int votd, .ref vmn, .ref vmr, .ref vmk, .ref vms, .ref vma, .ref vmm, .ref vmrn, .ref vmkn, .ref vmik, .ref vmon, .int vosm, .int vohp, .ref vmw, .ref vmf, .ref vmb, .int vomb, .ref vmd, .ref vmc, .int vwe, .int vti, .int 7, .ref vmx, .int votx, .int vose, .ref vml, .ref vmwr, .int voln, .int vohw, .ref vmno, .int vond, .int voon, .int vowi, .int votop])), (vmn, .inl (cy 0, 575, .inl vmnf)), (vmd, .inl (cy 0, 10, .inl vmdf)), (vmc, .inl (cy 0, 10, .inl g_48))] := hD
            rw [hQ9]
            exact re_v (vwe, vti, g_48, (7 : Int32), vmdf) hx hb hr hlocks (show 0 ≤ (7 : Int32).toInt ∧ (7 : Int32).toInt ≤ 10 from ⟨by omega, by omega⟩) (hP.sub [0, 1, 2, 3] rfl) (hD.sub [0, 1, 2, 3] rfl rfl) hS dX11_careerFrom_84
          · skip
            have c_49 : ¬ ((7 : Int32).toInt ≤ x_47.toInt) := fun h9 => c_49 (i_le.mpr h9)
            refine lv_aload_n hx hb dX11_careerFrom_59 rfl (lv_at hl 1 rfl) ?_
            refine gf_X11_145 hx hb hts hown hK hP 0 rfl rfl dX11_careerFrom_60 ?_
            refine lv_iload hx hb dX11_careerFrom_63 (lv_at hl 0 rfl) ?_
            refine lv_aload_n hx hb dX11_careerFrom_65 rfl (lv_at hl 1 rfl) ?_
            refine gf_X11_142 hx hb hts hown hK hP 0 rfl rfl dX11_careerFrom_66 ?_
            refine lv_iload hx hb dX11_careerFrom_69 (lv_at hl 0 rfl) ?_
            have hin_50 : vp_in x_47 10 := vp_in_iff.mpr ⟨by omega, by omega⟩
            refine va_iald hx hb hK hP 2 0 rfl rfl hin_50 dX11_careerFrom_71 ?_
            refine lv_topi (fun z_51 ez_51 => ?_)
            have hin_52 : vp_in x_47 10 := vp_in_iff.mpr ⟨by omega, by omega⟩
            refine va_iast hx hb hK hP hD hS 3 0 rfl rfl hin_52 dX11_careerFrom_72 (fun H locs hP hD hS => ?_)
            obtain ⟨f_53, ef_53⟩ : ∃ z : Nat → Int32, z = upd g_48 (Int32.toNatClampNeg x_47) z_51 := ⟨_, rfl⟩
            have hP : va_P (dC, dI) vwCl [(vo, .inr (12, [.int voth, .ref vmt, .int votp, .int vosz, .int volm, .int voto, .int vofr, .int vokd, .int vonu, .int vosg, .int vofa, .int vopl, .long vowd, .int votd, .ref vmn, .ref vmr, .ref vmk, .ref vms, .ref vma, .ref vmm, .ref vmrn, .ref vmkn, .ref vmik, .ref vmon, .int vosm, .int vohp, .ref vmw, .ref vmf, .ref vmb, .int vomb, .ref vmd, .ref vmc, .int vwe, .int vti, .int vocy, .ref vmx, .int votx, .int vose, .ref vml, .ref vmwr, .int voln, .int vohw, .ref vmno, .int vond, .int voon, .int vowi, .int votop])), (vmn, .inl (cy 0, 575, .inl vmnf)), (vmd, .inl (cy 0, 10, .inl vmdf)), (vmc, .inl (cy 0, 10, .inl f_53))] H := by rw [ef_53]; exact hP
            have hD : va_D A [(vo, .inr (12, [.int voth, .ref vmt, .int votp, .int vosz, .int volm, .int voto, .int vofr, .int vokd, .int vonu, .int vosg, .int vofa, .int vopl, .long vowd, .int votd, .ref vmn, .ref vmr, .ref vmk, .ref vms, .ref vma, .ref vmm, .ref vmrn, .ref vmkn, .ref vmik, .ref vmon, .int vosm, .int vohp, .ref vmw, .ref vmf, .ref vmb, .int vomb, .ref vmd, .ref vmc, .int vwe, .int vti, .int vocy, .ref vmx, .int votx, .int vose, .ref vml, .ref vmwr, .int voln, .int vohw, .ref vmno, .int vond, .int voon, .int vowi, .int votop])), (vmn, .inl (cy 0, 575, .inl vmnf)), (vmd, .inl (cy 0, 10, .inl vmdf)), (vmc, .inl (cy 0, 10, .inl f_53))] := by rw [ef_53]; exact hD
            obtain ⟨z_54, ez_54⟩ : ∃ z : Int32, z = x_47 + 1 := ⟨_, rfl⟩
            have bz_54 : z_54.toInt = x_47.toInt + (1 : Int32).toInt := i_add ez_54 (by omega) (by omega)
            refine lv_iinc (v := z_54) (lv' := [(6, .int z_54), (0, .ref vo), (1, .int vm), (2, .int 7), (3, .int vlf), (4, .int vti), (5, .int vwe)]) hx hb dX11_careerFrom_73 hl (k := 0) rfl ez_54.symm (by decide) rfl (fun ls hl => ?_)
            refine lv_goto (tgt := 53) hx hb dX11_careerFrom_76 (by decide) ?_
            exact ih46 z_54 f_53 ⟨by omega, by omega⟩ (by omega) _ _ (hP.sub [0, 1, 2, 3] rfl) (hD.sub [0, 1, 2, 3] rfl rfl) hS ls (lv_sub hl [0, 1, 2, 3, 4, 5, 6] rfl)
      have k_0 : (0 : Int32).toInt = 0 := by decide
      exact loop46 ((10 - (0 : Int32).toInt).toNat + 1) 0 vmcf ⟨by omega, by omega⟩ (by omega) _ _ hP hD hS ls (lv_sub hl [0, 1, 2, 3, 4, 5, 6] rfl)
    refine lv_iload hx hb dX11_careerFrom_10 (lv_at hl 5 rfl) ?_
    refine lv_aload_n hx hb dX11_careerFrom_12 rfl (lv_at hl 0 rfl) ?_
    refine gf_X11_322 hx hb hts hown hK hP 0 rfl rfl dX11_careerFrom_13 ?_
    refine lv_icmp_lt (tgt := 37) hx hb dX11_careerFrom_16 (by decide) (fun c_55 => ?_) (fun c_55 => ?_)
    · skip
      have c_55 : vwe.toInt < vocm.toInt := i_lt.mp c_55
      rw [hQ9]
      exact re_v (vocm, voct, vmcf, vocy, vmdf) hx hb hr hlocks (show 0 ≤ (vocy : Int32).toInt ∧ (vocy : Int32).toInt ≤ 10 from ⟨by omega, by omega⟩) (hP.sub [0, 1, 2, 3] rfl) (hD.sub [0, 1, 2, 3] rfl rfl) hS dX11_careerFrom_37
    · skip
      have c_55 : ¬ (vwe.toInt < vocm.toInt) := fun h9 => c_55 (i_lt.mpr h9)
      refine lv_iload hx hb dX11_careerFrom_19 (lv_at hl 5 rfl) ?_
      refine lv_aload_n hx hb dX11_careerFrom_21 rfl (lv_at hl 0 rfl) ?_
      refine gf_X11_322 hx hb hts hown hK hP 0 rfl rfl dX11_careerFrom_22 ?_
      refine lv_icmp_ne (tgt := 38) hx hb dX11_careerFrom_25 (by decide) (fun c_56 => ?_) (fun c_56 => ?_)
      · skip
        have c_56 : ¬ (vwe.toInt = vocm.toInt) := fun h9 => c_56 (i_eq.mpr h9)
        exact join45  _ _ (hP.sub [0, 1, 2, 3] rfl) (hD.sub [0, 1, 2, 3] rfl rfl) hS ls (lv_sub hl [0, 1, 2, 3, 4, 5] rfl)
      · skip
        have c_56 : vwe.toInt = vocm.toInt := i_eq.mp c_56
        refine lv_iload hx hb dX11_careerFrom_28 (lv_at hl 4 rfl) ?_
        refine lv_aload_n hx hb dX11_careerFrom_30 rfl (lv_at hl 0 rfl) ?_
        refine gf_X11_325 hx hb hts hown hK hP 0 rfl rfl dX11_careerFrom_31 ?_
        refine lv_icmp_lt (tgt := 38) hx hb dX11_careerFrom_34 (by decide) (fun c_57 => ?_) (fun c_57 => ?_)
        · skip
          have c_57 : vti.toInt < voct.toInt := i_lt.mp c_57
          exact join45  _ _ (hP.sub [0, 1, 2, 3] rfl) (hD.sub [0, 1, 2, 3] rfl rfl) hS ls (lv_sub hl [0, 1, 2, 3, 4, 5] rfl)
        · skip
          have c_57 : ¬ (vti.toInt < voct.toInt) := fun h9 => c_57 (i_lt.mpr h9)
          rw [hQ9]
          exact re_v (vocm, voct, vmcf, vocy, vmdf) hx hb hr hlocks (show 0 ≤ (vocy : Int32).toInt ∧ (vocy : Int32).toInt ≤ 10 from ⟨by omega, by omega⟩) (hP.sub [0, 1, 2, 3] rfl) (hD.sub [0, 1, 2, 3] rfl rfl) hS dX11_careerFrom_37
abbrev O_m_careerFrom_6 (cy : Nat → ClassId) (vnh : Nat → Int32) (vo : Nat) (voth : Int32) (vmt : Nat) (votp : Int32) (vosz : Int32) (volm : Int32) (voto : Int32) (vofr : Int32) (vokd : Int32) (vonu : Int32) (vosg : Int32) (vofa : Int32) (vopl : Int32) (vowd : Int64) (votd : Int32) (vmn : Nat) (vmr : Nat) (vmk : Nat) (vms : Nat) (vma : Nat) (vmm : Nat) (vmrn : Nat) (vmkn : Nat) (vmik : Nat) (vmon : Nat) (vosm : Int32) (vohp : Int32) (vmw : Nat) (vmf : Nat) (vmb : Nat) (vomb : Int32) (vmd : Nat) (vmc : Nat) (vocm : Int32) (voct : Int32) (vocy : Int32) (vmx : Nat) (votx : Int32) (vose : Int32) (vml : Nat) (vmwr : Nat) (voln : Int32) (vohw : Int32) (vmno : Nat) (vond : Int32) (voon : Int32) (vowi : Int32) (votop : Int32) (vmnf : Nat → Int32) (vmdf : Nat → Int32) (vmcf : Nat → Int32) (vm : Int32) (vlf : Int32) (vti : Int32) (vwe : Int32) (u : Int32 × Int32 × (Nat → Int32) × Int32 × (Nat → Int32)) : va_W := [(vo, .inr (12, [.int voth, .ref vmt, .int votp, .int vosz, .int volm, .int voto, .int vofr, .int vokd, .int vonu, .int vosg, .int vofa, .int vopl, .long vowd, .int votd, .ref vmn, .ref vmr, .ref vmk, .ref vms, .ref vma, .ref vmm, .ref vmrn, .ref vmkn, .ref vmik, .ref vmon, .int vosm, .int vohp, .ref vmw, .ref vmf, .ref vmb, .int vomb, .ref vmd, .ref vmc, .int u.1, .int u.2.1, .int u.2.2.2.1, .ref vmx, .int votx, .int vose, .ref vml, .ref vmwr, .int voln, .int vohw, .ref vmno, .int vond, .int voon, .int vowi, .int votop])), (vmn, .inl (cy 0, 575, .inl vmnf)), (vmd, .inl (cy 0, 10, .inl u.2.2.2.2)), (vmc, .inl (cy 0, 10, .inl u.2.2.1))]
set_option maxHeartbeats 4000000 in
set_option maxRecDepth 100000 in
theorem m_careerFrom_6 (l : Launch) (dC : Nat → ClassId) (dI : Nat → Nat → Nat) (cy : Nat → ClassId) (sz : Nat) (vnh : Nat → Int32) (vo : Nat) (voth : Int32) (vmt : Nat) (votp : Int32) (vosz : Int32) (volm : Int32) (voto : Int32) (vofr : Int32) (vokd : Int32) (vonu : Int32) (vosg : Int32) (vofa : Int32) (vopl : Int32) (vowd : Int64) (votd : Int32) (vmn : Nat) (vmr : Nat) (vmk : Nat) (vms : Nat) (vma : Nat) (vmm : Nat) (vmrn : Nat) (vmkn : Nat) (vmik : Nat) (vmon : Nat) (vosm : Int32) (vohp : Int32) (vmw : Nat) (vmf : Nat) (vmb : Nat) (vomb : Int32) (vmd : Nat) (vmc : Nat) (vocm : Int32) (voct : Int32) (vocy : Int32) (vmx : Nat) (votx : Int32) (vose : Int32) (vml : Nat) (vmwr : Nat) (voln : Int32) (vohw : Int32) (vmno : Nat) (vond : Int32) (voon : Int32) (vowi : Int32) (votop : Int32) (vmnf : Nat → Int32) (vmdf : Nat → Int32) (vmcf : Nat → Int32) (vm : Int32) (vlf : Int32) (vti : Int32) (vwe : Int32) (r_vocy : 0 ≤ (vocy : Int32).toInt ∧ (vocy : Int32).toInt ≤ 10) (r_vm : 0 ≤ (vm : Int32).toInt ∧ (vm : Int32).toInt ≤ 6) (r_vlf : 0 ≤ (vlf : Int32).toInt ∧ (vlf : Int32).toInt ≤ 10) (p_vmnf : NW vnh vmnf) (hd : 6 ≤ (vmnf 1).toInt) : Met l yX11_careerFrom (wl yX11_careerFrom cX11_careerFrom 8 none) ({ frames := 5, cells := 0, slots := 0, locals := 320 }) (Pw (dC, dI) vwCl cy [(vo, .inr (12, [.int voth, .ref vmt, .int votp, .int vosz, .int volm, .int voto, .int vofr, .int vokd, .int vonu, .int vosg, .int vofa, .int vopl, .long vowd, .int votd, .ref vmn, .ref vmr, .ref vmk, .ref vms, .ref vma, .ref vmm, .ref vmrn, .ref vmkn, .ref vmik, .ref vmon, .int vosm, .int vohp, .ref vmw, .ref vmf, .ref vmb, .int vomb, .ref vmd, .ref vmc, .int vocm, .int voct, .int vocy, .ref vmx, .int votx, .int vose, .ref vml, .ref vmwr, .int voln, .int vohw, .ref vmno, .int vond, .int voon, .int vowi, .int votop])), (vmn, .inl (cy 0, 575, .inl vmnf)), (vmd, .inl (cy 0, 10, .inl vmdf)), (vmc, .inl (cy 0, 10, .inl vmcf))] sz [.ref vo, .int vm, .int 6, .int vlf, .int vti, .int vwe] nE) (Qv (dC, dI) vwCl (fun (u : Int32 × Int32 × (Nat → Int32) × Int32 × (Nat → Int32)) => (0 ≤ (u.2.2.2.1 : Int32).toInt ∧ (u.2.2.2.1 : Int32).toInt ≤ 10)) (O_m_careerFrom_6 cy vnh vo voth vmt votp vosz volm voto vofr vokd vonu vosg vofa vopl vowd votd vmn vmr vmk vms vma vmm vmrn vmkn vmik vmon vosm vohp vmw vmf vmb vomb vmd vmc vocm voct vocy vmx votx vose vml vmwr voln vohw vmno vond voon vowi votop vmnf vmdf vmcf vm vlf vti vwe) (va_A [(vo, .inr (12, [.int voth, .ref vmt, .int votp, .int vosz, .int volm, .int voto, .int vofr, .int vokd, .int vonu, .int vosg, .int vofa, .int vopl, .long vowd, .int votd, .ref vmn, .ref vmr, .ref vmk, .ref vms, .ref vma, .ref vmm, .ref vmrn, .ref vmkn, .ref vmik, .ref vmon, .int vosm, .int vohp, .ref vmw, .ref vmf, .ref vmb, .int vomb, .ref vmd, .ref vmc, .int vocm, .int voct, .int vocy, .ref vmx, .int votx, .int vose, .ref vml, .ref vmwr, .int voln, .int vohw, .ref vmno, .int vond, .int voon, .int vowi, .int votop])), (vmn, .inl (cy 0, 575, .inl vmnf)), (vmd, .inl (cy 0, 10, .inl vmdf)), (vmc, .inl (cy 0, 10, .inl vmcf))] sz)) 0 0 (va_A [(vo, .inr (12, [.int voth, .ref vmt, .int votp, .int vosz, .int volm, .int voto, .int vofr, .int vokd, .int vonu, .int vosg, .int vofa, .int vopl, .long vowd, .int votd, .ref vmn, .ref vmr, .ref vmk, .ref vms, .ref vma, .ref vmm, .ref vmrn, .ref vmkn, .ref vmik, .ref vmon, .int vosm, .int vohp, .ref vmw, .ref vmf, .ref vmb, .int vomb, .ref vmd, .ref vmc, .int vocm, .int voct, .int vocy, .ref vmx, .int votx, .int vose, .ref vml, .ref vmwr, .int voln, .int vohw, .ref vmno, .int vond, .int voon, .int vowi, .int votop])), (vmn, .inl (cy 0, 575, .inl vmnf)), (vmd, .inl (cy 0, 10, .inl vmdf)), (vmc, .inl (cy 0, 10, .inl vmcf))] sz) := by
  refine mw (Qc := Qv (dC, dI) vwCl (fun (u : Int32 × Int32 × (Nat → Int32) × Int32 × (Nat → Int32)) => (0 ≤ (u.2.2.2.1 : Int32).toInt ∧ (u.2.2.2.1 : Int32).toInt ≤ 10)) (O_m_careerFrom_6 cy vnh vo voth vmt votp vosz volm voto vofr vokd vonu vosg vofa vopl vowd votd vmn vmr vmk vms vma vmm vmrn vmkn vmik vmon vosm vohp vmw vmf vmb vomb vmd vmc vocm voct vocy vmx votx vose vml vmwr voln vohw vmno vond voon vowi votop vmnf vmdf vmcf vm vlf vti vwe)) RX11 rfl (by decide +kernel) (Nat.le_of_ble_eq_true rfl) ?_
  intro p e s m below meth c A hx hb hr hlocks av9 hav hts hown hnm hml hK hP hD hA hS hE hAe Q9 hQ9 ls hl
  have hl : lv_has ls 8 [(0, .ref vo), (1, .int vm), (2, .int 6), (3, .int vlf), (4, .int vti), (5, .int vwe)] := hl
  refine lv_iload_n hx hb dX11_careerFrom_0 rfl (lv_at hl 2 rfl) ?_
  refine lv_aload_n hx hb dX11_careerFrom_1 rfl (lv_at hl 0 rfl) ?_
  refine gf_X11_98 hx hb hts hown hK hP 0 rfl rfl dX11_careerFrom_2 ?_
  refine lv_iconst (v := 1) hx hb dX11_careerFrom_5 (by decide) ?_
  have k_1 : (1 : Int32).toInt = 1 := by decide
  have hin_1 : vp_in (1 : Int32) 575 := vp_in_iff.mpr ⟨by omega, by omega⟩
  refine va_iald hx hb hK hP 1 0 rfl rfl hin_1 dX11_careerFrom_6 ?_
  refine lv_topi (fun z_2 ez_2 => ?_)
  have bz_2 := p_vmnf.a1 (x := 1) ⟨by omega, by omega⟩ ez_2
  have tz_2 : z_2.toInt = (vmnf 1).toInt := by rw [ez_2]; rfl
  have k_6 : (6 : Int32).toInt = 6 := by decide
  refine lv_icmp_ne (tgt := 85) hx hb dX11_careerFrom_7 (by decide) (fun c_3 => ?_) (fun c_3 => ?_)
  · skip
    have c_3 : ¬ ((6 : Int32).toInt = z_2.toInt) := fun h9 => c_3 (i_eq.mpr h9)
    refine lv_iload_n hx hb dX11_careerFrom_85 rfl (lv_at hl 3 rfl) ?_
    refine lv_bipush (v := 9) hx hb dX11_careerFrom_86 (by decide) ?_
    refine lv_aload_n hx hb dX11_careerFrom_88 rfl (lv_at hl 0 rfl) ?_
    refine lv_iload_n hx hb dX11_careerFrom_89 rfl (lv_at hl 1 rfl) ?_
    refine lv_iload_n hx hb dX11_careerFrom_90 rfl (lv_at hl 2 rfl) ?_
    refine jr_i (rVr (As := [.int vm, .int 6]) (rest := [.int 9, .int vlf]) (ci := 12) ⟨hx, hb, hml, hown, hts⟩ (m_didOf l dC dI cy vnh vo voth vmt votp vosz volm voto vofr vokd vonu vosg vofa vopl vowd votd vmn vmr vmk vms vma vmm vmrn vmkn vmik vmon vosm vohp vmw vmf vmb vomb vmd vmc vocm voct vocy vmx votx vose vml vmwr voln vohw vmno vond voon vowi votop vmnf vm 6 ⟨by omega, by omega⟩ ⟨by omega, by omega⟩ p_vmnf) (cw_X11_228 hts rfl rfl ⟨Nat.le_of_ble_eq_true rfl, Nat.le_of_ble_eq_true rfl⟩) hP hK [0, 1] rfl rfl rfl rfl hl.1 rfl (Nat.le_of_ble_eq_true rfl) dX11_careerFrom_91 ⟨Nat.le_of_ble_eq_true rfl, Nat.le_of_ble_eq_true rfl⟩) hP hS (fun r_4 H locs hp_5 hP hS => ?_)
    refine lv_isub hx hb dX11_careerFrom_94 ?_
    refine lv_topi (fun z_6 ez_6 => ?_)
    refine jr_i (rSr (As := [.int vlf, .int z_6]) (rest := []) ⟨hx, hb, hml, hown, hts⟩ (m_least l dC dI cy vlf z_6 ) (cw_X11_288 hts rfl rfl ⟨Nat.le_of_ble_eq_true rfl, Nat.le_of_ble_eq_true rfl⟩) hP hK [] rfl rfl hl.1 rfl (Nat.le_of_ble_eq_true rfl) dX11_careerFrom_95 ⟨Nat.le_of_ble_eq_true rfl, Nat.le_of_ble_eq_true rfl⟩) hP hS (fun r_7 H locs hp_8 hP hS => ?_)
    have hp_8 : ((r_7 : Int32).toInt ≤ (vlf : Int32).toInt) ∧ ((r_7 : Int32).toInt ≤ (z_6 : Int32).toInt) ∧ (((r_7 : Int32).toInt = (vlf : Int32).toInt ∨ (r_7 : Int32).toInt = (z_6 : Int32).toInt)) := hp_8
    obtain ⟨q_9, q_10, q_11⟩ := hp_8
    refine lv_istore (lv' := [(6, .int r_7), (0, .ref vo), (1, .int vm), (2, .int 6), (3, .int vlf), (4, .int vti), (5, .int vwe)]) hx hb dX11_careerFrom_98 hl (by decide) rfl (fun ls hl => ?_)
    refine lv_iconst (v := 0) hx hb dX11_careerFrom_100 (by decide) ?_
    refine lv_istore (lv' := [(7, .int 0), (6, .int r_7), (0, .ref vo), (1, .int vm), (2, .int 6), (3, .int vlf), (4, .int vti), (5, .int vwe)]) hx hb dX11_careerFrom_101 hl (by decide) rfl (fun ls hl => ?_)
    have loop12 : ∀ (n12 : Nat) (x_13 : Int32) (x_14 : Int32) (x_15 : Int32) (x_16 : Int32) (g_17 : Nat → Int32) (g_18 : Nat → Int32), (0 ≤ x_13.toInt ∧ x_13.toInt ≤ 11) → (0 ≤ x_16.toInt ∧ x_16.toInt ≤ 10) → 11 - x_13.toInt < (n12 : Int) → ∀ (H : Heap) (locs : List Loc), va_P (dC, dI) vwCl [(vo, .inr (12, [.int voth, .ref vmt, .int votp, .int vosz, .int volm, .int voto, .int vofr, .int vokd, .int vonu, .int vosg, .int vofa, .int vopl, .long vowd, .int votd, .ref vmn, .ref vmr, .ref vmk, .ref vms, .ref vma, .ref vmm, .ref vmrn, .ref vmkn, .ref vmik, .ref vmon, .int vosm, .int vohp, .ref vmw, .ref vmf, .ref vmb, .int vomb, .ref vmd, .ref vmc, .int x_14, .int x_15, .int x_16, .ref vmx, .int votx, .int vose, .ref vml, .ref vmwr, .int voln, .int vohw, .ref vmno, .int vond, .int voon, .int vowi, .int votop])), (vmn, .inl (cy 0, 575, .inl vmnf)), (vmd, .inl (cy 0, 10, .inl g_18)), (vmc, .inl (cy 0, 10, .inl g_17))] H → va_D A [(vo, .inr (12, [.int voth, .ref vmt, .int votp, .int vosz, .int volm, .int voto, .int vofr, .int vokd, .int vonu, .int vosg, .int vofa, .int vopl, .long vowd, .int votd, .ref vmn, .ref vmr, .ref vmk, .ref vms, .ref vma, .ref vmm, .ref vmrn, .ref vmkn, .ref vmik, .ref vmon, .int vosm, .int vohp, .ref vmw, .ref vmf, .ref vmb, .int vomb, .ref vmd, .ref vmc, .int x_14, .int x_15, .int x_16, .ref vmx, .int votx, .int vose, .ref vml, .ref vmwr, .int voln, .int vohw, .ref vmno, .int vond, .int voon, .int vowi, .int votop])), (vmn, .inl (cy 0, 575, .inl vmnf)), (vmd, .inl (cy 0, 10, .inl g_18)), (vmc, .inl (cy 0, 10, .inl g_17))] → va_S A s.heap H locs → ∀ ls : Array Slot, lv_has ls 8 [(7, .int x_13), (6, .int r_7), (0, .ref vo), (1, .int vm), (2, .int 6), (3, .int vlf), (4, .int vti), (5, .int vwe)] → W p l e ({ frames := 5, cells := 0, slots := 0, locals := 320 }) s m av9 below meth c H locs 0 0 Q9 (F0 m 103 ls []) := by
      intro n12
      induction n12 with
      | zero =>
        intro x_13 x_14 x_15 x_16 g_17 g_18 bx_13 bx_16 hn12 H locs hP hD hS ls hl
        exfalso; omega
      | succ n12 ih12 =>
        intro x_13 x_14 x_15 x_16 g_17 g_18 bx_13 bx_16 hn12 H locs hP hD hS ls hl
        refine lv_iload hx hb dX11_careerFrom_103 (lv_at hl 0 rfl) ?_
        refine lv_iload hx hb dX11_careerFrom_105 (lv_at hl 1 rfl) ?_
        refine lv_icmp_gt (tgt := 180) hx hb dX11_careerFrom_107 (by decide) (fun c_19 => ?_) (fun c_19 => ?_)
        · skip
          have c_19 : r_7.toInt < x_13.toInt := i_lt.mp c_19
          rw [hQ9]
          exact re_v (x_14, x_15, g_17, x_16, g_18) hx hb hr hlocks (show 0 ≤ (x_16 : Int32).toInt ∧ (x_16 : Int32).toInt ≤ 10 from ⟨by omega, by omega⟩) (hP.sub [0, 1, 2, 3] rfl) (hD.sub [0, 1, 2, 3] rfl rfl) hS dX11_careerFrom_180
        · skip
          have c_19 : ¬ (r_7.toInt < x_13.toInt) := fun h9 => c_19 (i_lt.mpr h9)
          refine lv_iload hx hb dX11_careerFrom_110 (lv_at hl 7 rfl) ?_
          refine lv_iload hx hb dX11_careerFrom_112 (lv_at hl 0 rfl) ?_
          refine lv_aload_n hx hb dX11_careerFrom_114 rfl (lv_at hl 2 rfl) ?_
          refine gf_X11_98 hx hb hts hown hK hP 0 rfl rfl dX11_careerFrom_115 ?_
          refine lv_bipush (v := 11) hx hb dX11_careerFrom_118 (by decide) ?_
          refine lv_iload_n hx hb dX11_careerFrom_120 rfl (lv_at hl 4 rfl) ?_
          refine lv_iadd hx hb dX11_careerFrom_121 ?_
          refine as_i 17 (by decide) ?_
          have k_17 : (17 : Int32).toInt = 17 := by decide
          have hin_20 : vp_in (17 : Int32) 575 := vp_in_iff.mpr ⟨by omega, by omega⟩
          refine va_iald hx hb hK hP 1 0 rfl rfl hin_20 dX11_careerFrom_122 ?_
          refine lv_topi (fun z_21 ez_21 => ?_)
          have bz_21 := p_vmnf.aw (x := 17) ⟨by omega, by omega⟩ ez_21
          have tz_21 : z_21.toInt = (vmnf 17).toInt := by rw [ez_21]; rfl
          refine lv_imul hx hb dX11_careerFrom_123 ?_
          refine lv_topi (fun z_22 ez_22 => ?_)
          have bz_22 : 0 ≤ z_22.toInt ∧ z_22.toInt ≤ 400 ∧ z_22.toInt = x_13.toInt * z_21.toInt := i_mulb (A := 10) (B := 40) ez_22 ⟨by omega, by omega⟩ ⟨by omega, by omega⟩ (by decide)
          refine lv_iadd hx hb dX11_careerFrom_124 ?_
          refine lv_topi (fun z_23 ez_23 => ?_)
          refine lv_aload_n hx hb dX11_careerFrom_125 rfl (lv_at hl 2 rfl) ?_
          refine gf_X11_98 hx hb hts hown hK hP 0 rfl rfl dX11_careerFrom_126 ?_
          refine lv_iconst (v := 2) hx hb dX11_careerFrom_129 (by decide) ?_
          have k_2 : (2 : Int32).toInt = 2 := by decide
          have hin_24 : vp_in (2 : Int32) 575 := vp_in_iff.mpr ⟨by omega, by omega⟩
          refine va_iald hx hb hK hP 1 0 rfl rfl hin_24 dX11_careerFrom_130 ?_
          refine lv_topi (fun z_25 ez_25 => ?_)
          have tz_25 : z_25.toInt = (vmnf 2).toInt := by rw [ez_25]; rfl
          refine lv_icmp_gt (tgt := 180) hx hb dX11_careerFrom_131 (by decide) (fun c_26 => ?_) (fun c_26 => ?_)
          · skip
            have c_26 : z_25.toInt < z_23.toInt := i_lt.mp c_26
            rw [hQ9]
            exact re_v (x_14, x_15, g_17, x_16, g_18) hx hb hr hlocks (show 0 ≤ (x_16 : Int32).toInt ∧ (x_16 : Int32).toInt ≤ 10 from ⟨by omega, by omega⟩) (hP.sub [0, 1, 2, 3] rfl) (hD.sub [0, 1, 2, 3] rfl rfl) hS dX11_careerFrom_180
          · skip
            have c_26 : ¬ (z_25.toInt < z_23.toInt) := fun h9 => c_26 (i_lt.mpr h9)
            refine lv_aload_n hx hb dX11_careerFrom_134 rfl (lv_at hl 2 rfl) ?_
            refine gf_X11_142 hx hb hts hown hK hP 0 rfl rfl dX11_careerFrom_135 ?_
            refine lv_iload_n hx hb dX11_careerFrom_138 rfl (lv_at hl 4 rfl) ?_
            refine lv_iload hx hb dX11_careerFrom_139 (lv_at hl 0 rfl) ?_
            have hin_27 : vp_in (6 : Int32) 10 := vp_in_iff.mpr ⟨by omega, by omega⟩
            refine va_iast hx hb hK hP hD hS 2 0 rfl rfl hin_27 dX11_careerFrom_141 (fun H locs hP hD hS => ?_)
            obtain ⟨f_28, ef_28⟩ : ∃ z : Nat → Int32, z = upd g_18 (Int32.toNatClampNeg 6) x_13 := ⟨_, rfl⟩
            have hP : va_P (dC, dI) vwCl [(vo, .inr (12, [.int voth, .ref vmt, .int votp, .int vosz, .int volm, .int voto, .int vofr, .int vokd, .int vonu, .int vosg, .int vofa, .int vopl, .long vowd, .int votd, .ref vmn, .ref vmr, .ref vmk, .ref vms, .ref vma, .ref vmm, .ref vmrn, .ref vmkn, .ref vmik, .ref vmon, .int vosm, .int vohp, .ref vmw, .ref vmf, .ref vmb, .int vomb, .ref vmd, .ref vmc, .int x_14, .int x_15, .int x_16, .ref vmx, .int votx, .int vose, .ref vml, .ref vmwr, .int voln, .int vohw, .ref vmno, .int vond, .int voon, .int vowi, .int votop])), (vmn, .inl (cy 0, 575, .inl vmnf)), (vmd, .inl (cy 0, 10, .inl f_28)), (vmc, .inl (cy 0, 10, .inl g_17))] H := by rw [ef_28]; exact hP
            have hD : va_D A [(vo, .inr (12, [.int voth, .ref vmt, .int votp, .int vosz, .int volm, .int voto, .int vofr, .int vokd, .int vonu, .int vosg, .int vofa, .int vopl, .long vowd, .int votd, .ref vmn, .ref vmr, .ref vmk, .ref vms, .ref vma, .ref vmm, .ref vmrn, .ref vmkn, .ref vmik, .ref vmon, .int vosm, .int vohp, .ref vmw, .ref vmf, .ref vmb, .int vomb, .ref vmd, .ref vmc, .int x_14, .int x_15, .int x_16, .ref vmx, .int votx, .int vose, .ref vml, .ref vmwr, .int voln, .int vohw, .ref vmno, .int vond, .int voon, .int vowi, .int votop])), (vmn, .inl (cy 0, 575, .inl vmnf)), (vmd, .inl (cy 0, 10, .inl f_28)), (vmc, .inl (cy 0, 10, .inl g_17))] := by rw [ef_28]; exact hD
            refine lv_aload_n hx hb dX11_careerFrom_142 rfl (lv_at hl 2 rfl) ?_
            refine lv_iload_n hx hb dX11_careerFrom_143 rfl (lv_at hl 3 rfl) ?_
            refine lv_iload_n hx hb dX11_careerFrom_144 rfl (lv_at hl 4 rfl) ?_
            refine lv_iconst (v := 1) hx hb dX11_careerFrom_145 (by decide) ?_
            refine lv_iadd hx hb dX11_careerFrom_146 ?_
            refine as_i 7 (by decide) ?_
            refine lv_iload_n hx hb dX11_careerFrom_147 rfl (lv_at hl 5 rfl) ?_
            refine lv_iload hx hb dX11_careerFrom_148 (lv_at hl 0 rfl) ?_
            refine lv_isub hx hb dX11_careerFrom_150 ?_
            refine lv_topi (fun z_29 ez_29 => ?_)
            have bz_29 : z_29.toInt = vlf.toInt - x_13.toInt := i_sub ez_29 (by omega) (by omega)
            refine lv_iload hx hb dX11_careerFrom_151 (lv_at hl 6 rfl) ?_
            refine lv_iload hx hb dX11_careerFrom_153 (lv_at hl 0 rfl) ?_
            refine lv_iadd hx hb dX11_careerFrom_155 ?_
            refine lv_topi (fun z_30 ez_30 => ?_)
            refine lv_iload hx hb dX11_careerFrom_156 (lv_at hl 7 rfl) ?_
            refine lv_iload hx hb dX11_careerFrom_158 (lv_at hl 0 rfl) ?_
            refine lv_aload_n hx hb dX11_careerFrom_160 rfl (lv_at hl 2 rfl) ?_
            refine gf_X11_98 hx hb hts hown hK hP 0 rfl rfl dX11_careerFrom_161 ?_
            refine lv_bipush (v := 11) hx hb dX11_careerFrom_164 (by decide) ?_
            refine lv_iload_n hx hb dX11_careerFrom_166 rfl (lv_at hl 4 rfl) ?_
            refine lv_iadd hx hb dX11_careerFrom_167 ?_
            refine as_i 17 (by decide) ?_
            have hin_31 : vp_in (17 : Int32) 575 := vp_in_iff.mpr ⟨by omega, by omega⟩
            refine va_iald hx hb hK hP 1 0 rfl rfl hin_31 dX11_careerFrom_168 ?_
            refine lv_topi (fun z_32 ez_32 => ?_)
            have bz_32 := p_vmnf.aw (x := 17) ⟨by omega, by omega⟩ ez_32
            have tz_32 : z_32.toInt = (vmnf 17).toInt := by rw [ez_32]; rfl
            refine lv_imul hx hb dX11_careerFrom_169 ?_
            refine lv_topi (fun z_33 ez_33 => ?_)
            have bz_33 : 0 ≤ z_33.toInt ∧ z_33.toInt ≤ 400 ∧ z_33.toInt = x_13.toInt * z_32.toInt := i_mulb (A := 10) (B := 40) ez_33 ⟨by omega, by omega⟩ ⟨by omega, by omega⟩ (by decide)
            refine lv_iadd hx hb dX11_careerFrom_170 ?_
            refine lv_topi (fun z_34 ez_34 => ?_)
            refine jn_v (wr := []) (rV (As := [.int vm, .int 7, .int z_29, .int z_30, .int z_34]) (rest := []) (ci := 12) ⟨hx, hb, hml, hown, hts⟩ (m_careerFrom_7 l dC dI cy _ vnh vo voth vmt votp vosz volm voto vofr vokd vonu vosg vofa vopl vowd votd vmn vmr vmk vms vma vmm vmrn vmkn vmik vmon vosm vohp vmw vmf vmb vomb vmd vmc x_14 x_15 x_16 vmx votx vose vml vmwr voln vohw vmno vond voon vowi votop vmnf f_28 g_17 vm z_29 z_30 z_34 ⟨by omega, by omega⟩ r_vm ⟨by omega, by omega⟩ p_vmnf (by omega)) (cw_X11_331 hts rfl rfl ⟨Nat.le_of_ble_eq_true rfl, Nat.le_of_ble_eq_true rfl⟩) hP hD hK [0, 1, 2, 3] rfl rfl rfl rfl bl0 e0 rfl hl.1 rfl (Nat.le_of_ble_eq_true rfl) dX11_careerFrom_171 ⟨Nat.le_of_ble_eq_true rfl, Nat.le_of_ble_eq_true rfl⟩) hP hD hS hA [0, 1, 2, 3] [] rfl rfl rfl (by decide) (fun u_37 H locs hp_36 hP hD hS => ?_)
            obtain ⟨vocm_38, voct_39, vmcf_40, vocy_41, vmdf_42⟩ := u_37
            have hp_36 : (0 ≤ (vocy_41 : Int32).toInt ∧ (vocy_41 : Int32).toInt ≤ 10) := hp_36
            have q_43 := hp_36
            have hP : va_P (dC, dI) vwCl [(vo, .inr (12, [.int voth, .ref vmt, .int votp, .int vosz, .int volm, .int voto, .int vofr, .int vokd, .int vonu, .int vosg, .int vofa, .int vopl, .long vowd, .int votd, .ref vmn, .ref vmr, .ref vmk, .ref vms, .ref vma, .ref vmm, .ref vmrn, .ref vmkn, .ref vmik, .ref vmon, .int vosm, .int vohp, .ref vmw, .ref vmf, .ref vmb, .int vomb, .ref vmd, .ref vmc, .int vocm_38, .int voct_39, .int vocy_41, .ref vmx, .int votx, .int vose, .ref vml, .ref vmwr, .int voln, .int vohw, .ref vmno, .int vond, .int voon, .int vowi, .int votop])), (vmn, .inl (cy 0, 575, .inl vmnf)), (vmd, .inl (cy 0, 10, .inl vmdf_42)), (vmc, .inl (cy 0, 10, .inl vmcf_40))] H := hP
            have hD : va_D A [(vo, .inr (12, [.int voth, .ref vmt, .int votp, .int vosz, .int volm, .int voto, .int vofr, .int vokd, .int vonu, .int vosg, .int vofa, .int vopl, .long vowd, .int votd, .ref vmn, .ref vmr, .ref vmk, .ref vms, .ref vma, .ref vmm, .ref vmrn, .ref vmkn, .ref vmik, .ref vmon, .int vosm, .int vohp, .ref vmw, .ref vmf, .ref vmb, .int vomb, .ref vmd, .ref vmc, .int vocm_38, .int voct_39, .int vocy_41, .ref vmx, .int votx, .int vose, .ref vml, .ref vmwr, .int voln, .int vohw, .ref vmno, .int vond, .int voon, .int vowi, .int votop])), (vmn, .inl (cy 0, 575, .inl vmnf)), (vmd, .inl (cy 0, 10, .inl vmdf_42)), (vmc, .inl (cy 0, 10, .inl vmcf_40))] := hD
            obtain ⟨z_44, ez_44⟩ : ∃ z : Int32, z = x_13 + 1 := ⟨_, rfl⟩
            have bz_44 : z_44.toInt = x_13.toInt + (1 : Int32).toInt := i_add ez_44 (by omega) (by omega)
            refine lv_iinc (v := z_44) (lv' := [(7, .int z_44), (6, .int r_7), (0, .ref vo), (1, .int vm), (2, .int 6), (3, .int vlf), (4, .int vti), (5, .int vwe)]) hx hb dX11_careerFrom_174 hl (k := 0) rfl ez_44.symm (by decide) rfl (fun ls hl => ?_)
            refine lv_goto (tgt := 103) hx hb dX11_careerFrom_177 (by decide) ?_
            exact ih12 z_44 vocm_38 voct_39 vocy_41 vmcf_40 vmdf_42 ⟨by omega, by omega⟩ ⟨by omega, by omega⟩ (by omega) _ _ (hP.sub [0, 1, 2, 3] rfl) (hD.sub [0, 1, 2, 3] rfl rfl) hS ls (lv_sub hl [0, 1, 2, 3, 4, 5, 6, 7] rfl)
    have k_0 : (0 : Int32).toInt = 0 := by decide
    exact loop12 ((11 - (0 : Int32).toInt).toNat + 1) 0 vocm voct vocy vmcf vmdf ⟨by omega, by omega⟩ ⟨by omega, by omega⟩ (by omega) _ _ hP hD hS ls (lv_sub hl [0, 1, 2, 3, 4, 5, 6, 7] rfl)
  · skip
    have c_3 : (6 : Int32).toInt = z_2.toInt := i_eq.mp c_3
    have join45 : ∀ (H : Heap) (locs : List Loc), va_P (dC, dI) vwCl [(vo, .inr (12, [.int voth, .ref vmt, .int votp, .int vosz, .int volm, .int voto, .int vofr, .int vokd, .int vonu, .int vosg, .int vofa, .int vopl, .long vowd, .int votd, .ref vmn, .ref vmr, .ref vmk, .ref vms, .ref vma, .ref vmm, .ref vmrn, .ref vmkn, .ref vmik, .ref vmon, .int vosm, .int vohp, .ref vmw, .ref vmf, .ref vmb, .int vomb, .ref vmd, .ref vmc, .int vocm, .int voct, .int vocy, .ref vmx, .int votx, .int vose, .ref vml, .ref vmwr, .int voln, .int vohw, .ref vmno, .int vond, .int voon, .int vowi, .int votop])), (vmn, .inl (cy 0, 575, .inl vmnf)), (vmd, .inl (cy 0, 10, .inl vmdf)), (vmc, .inl (cy 0, 10, .inl vmcf))] H → va_D A [(vo, .inr (12, [.int voth, .ref vmt, .int votp, .int vosz, .int volm, .int voto, .int vofr, .int vokd, .int vonu, .int vosg, .int vofa, .int vopl, .long vowd, .int votd, .ref vmn, .ref vmr, .ref vmk, .ref vms, .ref vma, .ref vmm, .ref vmrn, .ref vmkn, .ref vmik, .ref vmon, .int vosm, .int vohp, .ref vmw, .ref vmf, .ref vmb, .int vomb, .ref vmd, .ref vmc, .int vocm, .int voct, .int vocy, .ref vmx, .int votx, .int vose, .ref vml, .ref vmwr, .int voln, .int vohw, .ref vmno, .int vond, .int voon, .int vowi, .int votop])), (vmn, .inl (cy 0, 575, .inl vmnf)), (vmd, .inl (cy 0, 10, .inl vmdf)), (vmc, .inl (cy 0, 10, .inl vmcf))] → va_S A s.heap H locs → ∀ ls : Array Slot, lv_has ls 8 [(0, .ref vo), (1, .int vm), (2, .int 6), (3, .int vlf), (4, .int vti), (5, .int vwe)] → W p l e ({ frames := 5, cells := 0, slots := 0, locals := 320 }) s m av9 below meth c H locs 0 0 Q9 (F0 m 38 ls []) := by
      intro  H locs hP hD hS ls hl
      refine lv_aload_n hx hb dX11_careerFrom_38 rfl (lv_at hl 0 rfl) ?_
      refine lv_iload hx hb dX11_careerFrom_39 (lv_at hl 5 rfl) ?_
      refine pf_X11_322 hx hb hts hown hK hP hD hS 0 rfl rfl rfl (Nat.le_of_ble_eq_true rfl) dX11_careerFrom_41 (fun H locs hP hD hS => ?_)
      have hP : va_P (dC, dI) vwCl [(vo, .inr (12, [.int voth, .ref vmt, .int votp, .int vosz, .int volm, .int voto, .int vofr, .int vokd, .int vonu, .int vosg, .int vofa, .int vopl, .long vowd, .int votd, .ref vmn, .ref vmr, .ref vmk, .ref vms, .ref vma, .ref vmm, .ref vmrn, .ref vmkn, .ref vmik, .ref vmon, .int vosm, .int vohp, .ref vmw, .ref vmf, .ref vmb, .int vomb, .ref vmd, .ref vmc, .int vwe, .int voct, .int vocy, .ref vmx, .int votx, .int vose, .ref vml, .ref vmwr, .int voln, .int vohw, .ref vmno, .int vond, .int voon, .int vowi, .int votop])), (vmn, .inl (cy 0, 575, .inl vmnf)), (vmd, .inl (cy 0, 10, .inl vmdf)), (vmc, .inl (cy 0, 10, .inl vmcf))] H := hP
      have hD : va_D A [(vo, .inr (12, [.int voth, .ref vmt, .int votp, .int vosz, .int volm, .int voto, .int vofr, .int vokd, .int vonu, .int vosg, .int vofa, .int vopl, .long vowd, .int votd, .ref vmn, .ref vmr, .ref vmk, .ref vms, .ref vma, .ref vmm, .ref vmrn, .ref vmkn, .ref vmik, .ref vmon, .int vosm, .int vohp, .ref vmw, .ref vmf, .ref vmb, .int vomb, .ref vmd, .ref vmc, .int vwe, .int voct, .int vocy, .ref vmx, .int votx, .int vose, .ref vml, .ref vmwr, .int voln, .int vohw, .ref vmno, .int vond, .int voon, .int vowi, .int votop])), (vmn, .inl (cy 0, 575, .inl vmnf)), (vmd, .inl (cy 0, 10, .inl vmdf)), (vmc, .inl (cy 0, 10, .inl vmcf))] := hD
      refine lv_aload_n hx hb dX11_careerFrom_44 rfl (lv_at hl 0 rfl) ?_
      refine lv_iload hx hb dX11_careerFrom_45 (lv_at hl 4 rfl) ?_
      refine pf_X11_325 hx hb hts hown hK hP hD hS 0 rfl rfl rfl (Nat.le_of_ble_eq_true rfl) dX11_careerFrom_47 (fun H locs hP hD hS => ?_)
      have hP : va_P (dC, dI) vwCl [(vo, .inr (12, [.int voth, .ref vmt, .int votp, .int vosz, .int volm, .int voto, .int vofr, .int vokd, .int vonu, .int vosg, .int vofa, .int vopl, .long vowd, .int votd, .ref vmn, .ref vmr, .ref vmk, .ref vms, .ref vma, .ref vmm, .ref vmrn, .ref vmkn, .ref vmik, .ref vmon, .int vosm, .int vohp, .ref vmw, .ref vmf, .ref vmb, .int vomb, .ref vmd, .ref vmc, .int vwe, .int vti, .int vocy, .ref vmx, .int votx, .int vose, .ref vml, .ref vmwr, .int voln, .int vohw, .ref vmno, .int vond, .int voon, .int vowi, .int votop])), (vmn, .inl (cy 0, 575, .inl vmnf)), (vmd, .inl (cy 0, 10, .inl vmdf)), (vmc, .inl (cy 0, 10, .inl vmcf))] H := hP
      have hD : va_D A [(vo, .inr (12, [.int voth, .ref vmt, .int votp, .int vosz, .int volm, .int voto, .int vofr, .int vokd, .int vonu, .int vosg, .int vofa, .int vopl, .long vowd, .int votd, .ref vmn, .ref vmr, .ref vmk, .ref vms, .ref vma, .ref vmm, .ref vmrn, .ref vmkn, .ref vmik, .ref vmon, .int vosm, .int vohp, .ref vmw, .ref vmf, .ref vmb, .int vomb, .ref vmd, .ref vmc, .int vwe, .int vti, .int vocy, .ref vmx, .int votx, .int vose, .ref vml, .ref vmwr, .int voln, .int vohw, .ref vmno, .int vond, .int voon, .int vowi, .int votop])), (vmn, .inl (cy 0, 575, .inl vmnf)), (vmd, .inl (cy 0, 10, .inl vmdf)), (vmc, .inl (cy 0, 10, .inl vmcf))] := hD
      refine lv_iconst (v := 0) hx hb dX11_careerFrom_50 (by decide) ?_
      refine lv_istore (lv' := [(6, .int 0), (0, .ref vo), (1, .int vm), (2, .int 6), (3, .int vlf), (4, .int vti), (5, .int vwe)]) hx hb dX11_careerFrom_51 hl (by decide) rfl (fun ls hl => ?_)
      have loop46 : ∀ (n46 : Nat) (x_47 : Int32) (g_48 : Nat → Int32), (0 ≤ x_47.toInt ∧ x_47.toInt ≤ 10) → 10 - x_47.toInt < (n46 : Int) → ∀ (H : Heap) (locs : List Loc), va_P (dC, dI) vwCl [(vo, .inr (12, [.int voth, .ref vmt, .int votp, .int vosz, .int volm, .int voto, .int vofr, .int vokd, .int vonu, .int vosg, .int vofa, .int vopl, .long vowd, .int votd, .ref vmn, .ref vmr, .ref vmk, .ref vms, .ref vma, .ref vmm, .ref vmrn, .ref vmkn, .ref vmik, .ref vmon, .int vosm, .int vohp, .ref vmw, .ref vmf, .ref vmb, .int vomb, .ref vmd, .ref vmc, .int vwe, .int vti, .int vocy, .ref vmx, .int votx, .int vose, .ref vml, .ref vmwr, .int voln, .int vohw, .ref vmno, .int vond, .int voon, .int vowi, .int votop])), (vmn, .inl (cy 0, 575, .inl vmnf)), (vmd, .inl (cy 0, 10, .inl vmdf)), (vmc, .inl (cy 0, 10, .inl g_48))] H → va_D A [(vo, .inr (12, [.int voth, .ref vmt, .int votp, .int vosz, .int volm, .int voto, .int vofr, .int vokd, .int vonu, .int vosg, .int vofa, .int vopl, .long vowd, .int votd, .ref vmn, .ref vmr, .ref vmk, .ref vms, .ref vma, .ref vmm, .ref vmrn, .ref vmkn, .ref vmik, .ref vmon, .int vosm, .int vohp, .ref vmw, .ref vmf, .ref vmb, .int vomb, .ref vmd, .ref vmc, .int vwe, .int vti, .int vocy, .ref vmx, .int votx, .int vose, .ref vml, .ref vmwr, .int voln, .int vohw, .ref vmno, .int vond, .int voon, .int vowi, .int votop])), (vmn, .inl (cy 0, 575, .inl vmnf)), (vmd, .inl (cy 0, 10, .inl vmdf)), (vmc, .inl (cy 0, 10, .inl g_48))] → va_S A s.heap H locs → ∀ ls : Array Slot, lv_has ls 8 [(6, .int x_47), (0, .ref vo), (1, .int vm), (2, .int 6), (3, .int vlf), (4, .int vti), (5, .int vwe)] → W p l e ({ frames := 5, cells := 0, slots := 0, locals := 320 }) s m av9 below meth c H locs 0 0 Q9 (F0 m 53 ls []) := by
        intro n46
        induction n46 with
        | zero =>
          intro x_47 g_48 bx_47 hn46 H locs hP hD hS ls hl
          exfalso; omega
        | succ n46 ih46 =>
          intro x_47 g_48 bx_47 hn46 H locs hP hD hS ls hl
          refine lv_iload hx hb dX11_careerFrom_53 (lv_at hl 0 rfl) ?_
          refine lv_iload_n hx hb dX11_careerFrom_55 rfl (lv_at hl 3 rfl) ?_
          refine lv_icmp_ge (tgt := 79) hx hb dX11_careerFrom_56 (by decide) (fun c_49 => ?_) (fun c_49 => ?_)
          · skip
            have c_49 : (6 : Int32).toInt ≤ x_47.toInt := i_le.mp c_49
            refine lv_aload_n hx hb dX11_careerFrom_79 rfl (lv_at hl 1 rfl) ?_
            refine lv_iload_n hx hb dX11_careerFrom_80 rfl (lv_at hl 3 rfl) ?_
            refine pf_X11_328 hx hb hts hown hK hP hD hS 0 rfl rfl rfl (Nat.le_of_ble_eq_true rfl) dX11_careerFrom_81 (fun H locs hP hD hS => ?_)
            have hP : va_P (dC, dI) vwCl [(vo, .inr (12, [.int voth, .ref vmt, .int votp, .int vosz, .int volm, .int voto, .int vofr, .int vokd, .int vonu, .int vosg, .int vofa, .int vopl, .long vowd, .int votd, .ref vmn, .ref vmr, .ref vmk, .ref vms, .ref vma, .ref vmm, .ref vmrn, .ref vmkn, .ref vmik, .ref vmon, .int vosm, .int vohp, .ref vmw, .ref vmf, .ref vmb, .int vomb, .ref vmd, .ref vmc, .int vwe, .int vti, .int 6, .ref vmx, .int votx, .int vose, .ref vml, .ref vmwr, .int voln, .int vohw, .ref vmno, .int vond, .int voon, .int vowi, .int votop])), (vmn, .inl (cy 0, 575, .inl vmnf)), (vmd, .inl (cy 0, 10, .inl vmdf)), (vmc, .inl (cy 0, 10, .inl g_48))] H := hP
            have hD : va_D A [(vo, .inr (12, [.int voth, .ref vmt, .int votp, .int vosz, .int volm, .int voto, .int vofr, .int vokd, .int vonu, .int vosg, .int vofa, .int vopl, .long vowd, .int votd, .ref vmn, .ref vmr, .ref vmk, .ref vms, .ref vma, .ref vmm, .ref vmrn, .ref vmkn, .ref vmik, .ref vmon, .int vosm, .int vohp, .ref vmw, .ref vmf, .ref vmb, .int vomb, .ref vmd, .ref vmc, .int vwe, .int vti, .int 6, .ref vmx, .int votx, .int vose, .ref vml, .ref vmwr, .int voln, .int vohw, .ref vmno, .int vond, .int voon, .int vowi, .int votop])), (vmn, .inl (cy 0, 575, .inl vmnf)), (vmd, .inl (cy 0, 10, .inl vmdf)), (vmc, .inl (cy 0, 10, .inl g_48))] := hD
            rw [hQ9]
            exact re_v (vwe, vti, g_48, (6 : Int32), vmdf) hx hb hr hlocks (show 0 ≤ (6 : Int32).toInt ∧ (6 : Int32).toInt ≤ 10 from ⟨by omega, by omega⟩) (hP.sub [0, 1, 2, 3] rfl) (hD.sub [0, 1, 2, 3] rfl rfl) hS dX11_careerFrom_84
          · skip
            have c_49 : ¬ ((6 : Int32).toInt ≤ x_47.toInt) := fun h9 => c_49 (i_le.mpr h9)
            refine lv_aload_n hx hb dX11_careerFrom_59 rfl (lv_at hl 1 rfl) ?_
            refine gf_X11_145 hx hb hts hown hK hP 0 rfl rfl dX11_careerFrom_60 ?_
            refine lv_iload hx hb dX11_careerFrom_63 (lv_at hl 0 rfl) ?_
            refine lv_aload_n hx hb dX11_careerFrom_65 rfl (lv_at hl 1 rfl) ?_
            refine gf_X11_142 hx hb hts hown hK hP 0 rfl rfl dX11_careerFrom_66 ?_
            refine lv_iload hx hb dX11_careerFrom_69 (lv_at hl 0 rfl) ?_
            have hin_50 : vp_in x_47 10 := vp_in_iff.mpr ⟨by omega, by omega⟩
            refine va_iald hx hb hK hP 2 0 rfl rfl hin_50 dX11_careerFrom_71 ?_
            refine lv_topi (fun z_51 ez_51 => ?_)
            have hin_52 : vp_in x_47 10 := vp_in_iff.mpr ⟨by omega, by omega⟩
            refine va_iast hx hb hK hP hD hS 3 0 rfl rfl hin_52 dX11_careerFrom_72 (fun H locs hP hD hS => ?_)
            obtain ⟨f_53, ef_53⟩ : ∃ z : Nat → Int32, z = upd g_48 (Int32.toNatClampNeg x_47) z_51 := ⟨_, rfl⟩
            have hP : va_P (dC, dI) vwCl [(vo, .inr (12, [.int voth, .ref vmt, .int votp, .int vosz, .int volm, .int voto, .int vofr, .int vokd, .int vonu, .int vosg, .int vofa, .int vopl, .long vowd, .int votd, .ref vmn, .ref vmr, .ref vmk, .ref vms, .ref vma, .ref vmm, .ref vmrn, .ref vmkn, .ref vmik, .ref vmon, .int vosm, .int vohp, .ref vmw, .ref vmf, .ref vmb, .int vomb, .ref vmd, .ref vmc, .int vwe, .int vti, .int vocy, .ref vmx, .int votx, .int vose, .ref vml, .ref vmwr, .int voln, .int vohw, .ref vmno, .int vond, .int voon, .int vowi, .int votop])), (vmn, .inl (cy 0, 575, .inl vmnf)), (vmd, .inl (cy 0, 10, .inl vmdf)), (vmc, .inl (cy 0, 10, .inl f_53))] H := by rw [ef_53]; exact hP
            have hD : va_D A [(vo, .inr (12, [.int voth, .ref vmt, .int votp, .int vosz, .int volm, .int voto, .int vofr, .int vokd, .int vonu, .int vosg, .int vofa, .int vopl, .long vowd, .int votd, .ref vmn, .ref vmr, .ref vmk, .ref vms, .ref vma, .ref vmm, .ref vmrn, .ref vmkn, .ref vmik, .ref vmon, .int vosm, .int vohp, .ref vmw, .ref vmf, .ref vmb, .int vomb, .ref vmd, .ref vmc, .int vwe, .int vti, .int vocy, .ref vmx, .int votx, .int vose, .ref vml, .ref vmwr, .int voln, .int vohw, .ref vmno, .int vond, .int voon, .int vowi, .int votop])), (vmn, .inl (cy 0, 575, .inl vmnf)), (vmd, .inl (cy 0, 10, .inl vmdf)), (vmc, .inl (cy 0, 10, .inl f_53))] := by rw [ef_53]; exact hD
            obtain ⟨z_54, ez_54⟩ : ∃ z : Int32, z = x_47 + 1 := ⟨_, rfl⟩
            have bz_54 : z_54.toInt = x_47.toInt + (1 : Int32).toInt := i_add ez_54 (by omega) (by omega)
            refine lv_iinc (v := z_54) (lv' := [(6, .int z_54), (0, .ref vo), (1, .int vm), (2, .int 6), (3, .int vlf), (4, .int vti), (5, .int vwe)]) hx hb dX11_careerFrom_73 hl (k := 0) rfl ez_54.symm (by decide) rfl (fun ls hl => ?_)
            refine lv_goto (tgt := 53) hx hb dX11_careerFrom_76 (by decide) ?_
            exact ih46 z_54 f_53 ⟨by omega, by omega⟩ (by omega) _ _ (hP.sub [0, 1, 2, 3] rfl) (hD.sub [0, 1, 2, 3] rfl rfl) hS ls (lv_sub hl [0, 1, 2, 3, 4, 5, 6] rfl)
      have k_0 : (0 : Int32).toInt = 0 := by decide
      exact loop46 ((10 - (0 : Int32).toInt).toNat + 1) 0 vmcf ⟨by omega, by omega⟩ (by omega) _ _ hP hD hS ls (lv_sub hl [0, 1, 2, 3, 4, 5, 6] rfl)
    refine lv_iload hx hb dX11_careerFrom_10 (lv_at hl 5 rfl) ?_
    refine lv_aload_n hx hb dX11_careerFrom_12 rfl (lv_at hl 0 rfl) ?_
    refine gf_X11_322 hx hb hts hown hK hP 0 rfl rfl dX11_careerFrom_13 ?_
    refine lv_icmp_lt (tgt := 37) hx hb dX11_careerFrom_16 (by decide) (fun c_55 => ?_) (fun c_55 => ?_)
    · skip
      have c_55 : vwe.toInt < vocm.toInt := i_lt.mp c_55
      rw [hQ9]
      exact re_v (vocm, voct, vmcf, vocy, vmdf) hx hb hr hlocks (show 0 ≤ (vocy : Int32).toInt ∧ (vocy : Int32).toInt ≤ 10 from ⟨by omega, by omega⟩) (hP.sub [0, 1, 2, 3] rfl) (hD.sub [0, 1, 2, 3] rfl rfl) hS dX11_careerFrom_37
    · skip
      have c_55 : ¬ (vwe.toInt < vocm.toInt) := fun h9 => c_55 (i_lt.mpr h9)
      refine lv_iload hx hb dX11_careerFrom_19 (lv_at hl 5 rfl) ?_
      refine lv_aload_n hx hb dX11_careerFrom_21 rfl (lv_at hl 0 rfl) ?_
      refine gf_X11_322 hx hb hts hown hK hP 0 rfl rfl dX11_careerFrom_22 ?_
      refine lv_icmp_ne (tgt := 38) hx hb dX11_careerFrom_25 (by decide) (fun c_56 => ?_) (fun c_56 => ?_)
      · skip
        have c_56 : ¬ (vwe.toInt = vocm.toInt) := fun h9 => c_56 (i_eq.mpr h9)
        exact join45  _ _ (hP.sub [0, 1, 2, 3] rfl) (hD.sub [0, 1, 2, 3] rfl rfl) hS ls (lv_sub hl [0, 1, 2, 3, 4, 5] rfl)
      · skip
        have c_56 : vwe.toInt = vocm.toInt := i_eq.mp c_56
        refine lv_iload hx hb dX11_careerFrom_28 (lv_at hl 4 rfl) ?_
        refine lv_aload_n hx hb dX11_careerFrom_30 rfl (lv_at hl 0 rfl) ?_
        refine gf_X11_325 hx hb hts hown hK hP 0 rfl rfl dX11_careerFrom_31 ?_
        refine lv_icmp_lt (tgt := 38) hx hb dX11_careerFrom_34 (by decide) (fun c_57 => ?_) (fun c_57 => ?_)
        · skip
          have c_57 : vti.toInt < voct.toInt := i_lt.mp c_57
          exact join45  _ _ (hP.sub [0, 1, 2, 3] rfl) (hD.sub [0, 1, 2, 3] rfl rfl) hS ls (lv_sub hl [0, 1, 2, 3, 4, 5] rfl)
        · skip
          have c_57 : ¬ (vti.toInt < voct.toInt) := fun h9 => c_57 (i_lt.mpr h9)
          rw [hQ9]
          exact re_v (vocm, voct, vmcf, vocy, vmdf) hx hb hr hlocks (show 0 ≤ (vocy : Int32).toInt ∧ (vocy : Int32).toInt ≤ 10 from ⟨by omega, by omega⟩) (hP.sub [0, 1, 2, 3] rfl) (hD.sub [0, 1, 2, 3] rfl rfl) hS dX11_careerFrom_37
abbrev O_m_careerFrom_5 (cy : Nat → ClassId) (vnh : Nat → Int32) (vo : Nat) (voth : Int32) (vmt : Nat) (votp : Int32) (vosz : Int32) (volm : Int32) (voto : Int32) (vofr : Int32) (vokd : Int32) (vonu : Int32) (vosg : Int32) (vofa : Int32) (vopl : Int32) (vowd : Int64) (votd : Int32) (vmn : Nat) (vmr : Nat) (vmk : Nat) (vms : Nat) (vma : Nat) (vmm : Nat) (vmrn : Nat) (vmkn : Nat) (vmik : Nat) (vmon : Nat) (vosm : Int32) (vohp : Int32) (vmw : Nat) (vmf : Nat) (vmb : Nat) (vomb : Int32) (vmd : Nat) (vmc : Nat) (vocm : Int32) (voct : Int32) (vocy : Int32) (vmx : Nat) (votx : Int32) (vose : Int32) (vml : Nat) (vmwr : Nat) (voln : Int32) (vohw : Int32) (vmno : Nat) (vond : Int32) (voon : Int32) (vowi : Int32) (votop : Int32) (vmnf : Nat → Int32) (vmdf : Nat → Int32) (vmcf : Nat → Int32) (vm : Int32) (vlf : Int32) (vti : Int32) (vwe : Int32) (u : Int32 × Int32 × (Nat → Int32) × Int32 × (Nat → Int32)) : va_W := [(vo, .inr (12, [.int voth, .ref vmt, .int votp, .int vosz, .int volm, .int voto, .int vofr, .int vokd, .int vonu, .int vosg, .int vofa, .int vopl, .long vowd, .int votd, .ref vmn, .ref vmr, .ref vmk, .ref vms, .ref vma, .ref vmm, .ref vmrn, .ref vmkn, .ref vmik, .ref vmon, .int vosm, .int vohp, .ref vmw, .ref vmf, .ref vmb, .int vomb, .ref vmd, .ref vmc, .int u.1, .int u.2.1, .int u.2.2.2.1, .ref vmx, .int votx, .int vose, .ref vml, .ref vmwr, .int voln, .int vohw, .ref vmno, .int vond, .int voon, .int vowi, .int votop])), (vmn, .inl (cy 0, 575, .inl vmnf)), (vmd, .inl (cy 0, 10, .inl u.2.2.2.2)), (vmc, .inl (cy 0, 10, .inl u.2.2.1))]
set_option maxHeartbeats 4000000 in
set_option maxRecDepth 100000 in
theorem m_careerFrom_5 (l : Launch) (dC : Nat → ClassId) (dI : Nat → Nat → Nat) (cy : Nat → ClassId) (sz : Nat) (vnh : Nat → Int32) (vo : Nat) (voth : Int32) (vmt : Nat) (votp : Int32) (vosz : Int32) (volm : Int32) (voto : Int32) (vofr : Int32) (vokd : Int32) (vonu : Int32) (vosg : Int32) (vofa : Int32) (vopl : Int32) (vowd : Int64) (votd : Int32) (vmn : Nat) (vmr : Nat) (vmk : Nat) (vms : Nat) (vma : Nat) (vmm : Nat) (vmrn : Nat) (vmkn : Nat) (vmik : Nat) (vmon : Nat) (vosm : Int32) (vohp : Int32) (vmw : Nat) (vmf : Nat) (vmb : Nat) (vomb : Int32) (vmd : Nat) (vmc : Nat) (vocm : Int32) (voct : Int32) (vocy : Int32) (vmx : Nat) (votx : Int32) (vose : Int32) (vml : Nat) (vmwr : Nat) (voln : Int32) (vohw : Int32) (vmno : Nat) (vond : Int32) (voon : Int32) (vowi : Int32) (votop : Int32) (vmnf : Nat → Int32) (vmdf : Nat → Int32) (vmcf : Nat → Int32) (vm : Int32) (vlf : Int32) (vti : Int32) (vwe : Int32) (r_vocy : 0 ≤ (vocy : Int32).toInt ∧ (vocy : Int32).toInt ≤ 10) (r_vm : 0 ≤ (vm : Int32).toInt ∧ (vm : Int32).toInt ≤ 6) (r_vlf : 0 ≤ (vlf : Int32).toInt ∧ (vlf : Int32).toInt ≤ 10) (p_vmnf : NW vnh vmnf) (hd : 5 ≤ (vmnf 1).toInt) : Met l yX11_careerFrom (wl yX11_careerFrom cX11_careerFrom 8 none) ({ frames := 6, cells := 0, slots := 0, locals := 384 }) (Pw (dC, dI) vwCl cy [(vo, .inr (12, [.int voth, .ref vmt, .int votp, .int vosz, .int volm, .int voto, .int vofr, .int vokd, .int vonu, .int vosg, .int vofa, .int vopl, .long vowd, .int votd, .ref vmn, .ref vmr, .ref vmk, .ref vms, .ref vma, .ref vmm, .ref vmrn, .ref vmkn, .ref vmik, .ref vmon, .int vosm, .int vohp, .ref vmw, .ref vmf, .ref vmb, .int vomb, .ref vmd, .ref vmc, .int vocm, .int voct, .int vocy, .ref vmx, .int votx, .int vose, .ref vml, .ref vmwr, .int voln, .int vohw, .ref vmno, .int vond, .int voon, .int vowi, .int votop])), (vmn, .inl (cy 0, 575, .inl vmnf)), (vmd, .inl (cy 0, 10, .inl vmdf)), (vmc, .inl (cy 0, 10, .inl vmcf))] sz [.ref vo, .int vm, .int 5, .int vlf, .int vti, .int vwe] nE) (Qv (dC, dI) vwCl (fun (u : Int32 × Int32 × (Nat → Int32) × Int32 × (Nat → Int32)) => (0 ≤ (u.2.2.2.1 : Int32).toInt ∧ (u.2.2.2.1 : Int32).toInt ≤ 10)) (O_m_careerFrom_5 cy vnh vo voth vmt votp vosz volm voto vofr vokd vonu vosg vofa vopl vowd votd vmn vmr vmk vms vma vmm vmrn vmkn vmik vmon vosm vohp vmw vmf vmb vomb vmd vmc vocm voct vocy vmx votx vose vml vmwr voln vohw vmno vond voon vowi votop vmnf vmdf vmcf vm vlf vti vwe) (va_A [(vo, .inr (12, [.int voth, .ref vmt, .int votp, .int vosz, .int volm, .int voto, .int vofr, .int vokd, .int vonu, .int vosg, .int vofa, .int vopl, .long vowd, .int votd, .ref vmn, .ref vmr, .ref vmk, .ref vms, .ref vma, .ref vmm, .ref vmrn, .ref vmkn, .ref vmik, .ref vmon, .int vosm, .int vohp, .ref vmw, .ref vmf, .ref vmb, .int vomb, .ref vmd, .ref vmc, .int vocm, .int voct, .int vocy, .ref vmx, .int votx, .int vose, .ref vml, .ref vmwr, .int voln, .int vohw, .ref vmno, .int vond, .int voon, .int vowi, .int votop])), (vmn, .inl (cy 0, 575, .inl vmnf)), (vmd, .inl (cy 0, 10, .inl vmdf)), (vmc, .inl (cy 0, 10, .inl vmcf))] sz)) 0 0 (va_A [(vo, .inr (12, [.int voth, .ref vmt, .int votp, .int vosz, .int volm, .int voto, .int vofr, .int vokd, .int vonu, .int vosg, .int vofa, .int vopl, .long vowd, .int votd, .ref vmn, .ref vmr, .ref vmk, .ref vms, .ref vma, .ref vmm, .ref vmrn, .ref vmkn, .ref vmik, .ref vmon, .int vosm, .int vohp, .ref vmw, .ref vmf, .ref vmb, .int vomb, .ref vmd, .ref vmc, .int vocm, .int voct, .int vocy, .ref vmx, .int votx, .int vose, .ref vml, .ref vmwr, .int voln, .int vohw, .ref vmno, .int vond, .int voon, .int vowi, .int votop])), (vmn, .inl (cy 0, 575, .inl vmnf)), (vmd, .inl (cy 0, 10, .inl vmdf)), (vmc, .inl (cy 0, 10, .inl vmcf))] sz) := by
  refine mw (Qc := Qv (dC, dI) vwCl (fun (u : Int32 × Int32 × (Nat → Int32) × Int32 × (Nat → Int32)) => (0 ≤ (u.2.2.2.1 : Int32).toInt ∧ (u.2.2.2.1 : Int32).toInt ≤ 10)) (O_m_careerFrom_5 cy vnh vo voth vmt votp vosz volm voto vofr vokd vonu vosg vofa vopl vowd votd vmn vmr vmk vms vma vmm vmrn vmkn vmik vmon vosm vohp vmw vmf vmb vomb vmd vmc vocm voct vocy vmx votx vose vml vmwr voln vohw vmno vond voon vowi votop vmnf vmdf vmcf vm vlf vti vwe)) RX11 rfl (by decide +kernel) (Nat.le_of_ble_eq_true rfl) ?_
  intro p e s m below meth c A hx hb hr hlocks av9 hav hts hown hnm hml hK hP hD hA hS hE hAe Q9 hQ9 ls hl
  have hl : lv_has ls 8 [(0, .ref vo), (1, .int vm), (2, .int 5), (3, .int vlf), (4, .int vti), (5, .int vwe)] := hl
  refine lv_iload_n hx hb dX11_careerFrom_0 rfl (lv_at hl 2 rfl) ?_
  refine lv_aload_n hx hb dX11_careerFrom_1 rfl (lv_at hl 0 rfl) ?_
  refine gf_X11_98 hx hb hts hown hK hP 0 rfl rfl dX11_careerFrom_2 ?_
  refine lv_iconst (v := 1) hx hb dX11_careerFrom_5 (by decide) ?_
  have k_1 : (1 : Int32).toInt = 1 := by decide
  have hin_1 : vp_in (1 : Int32) 575 := vp_in_iff.mpr ⟨by omega, by omega⟩
  refine va_iald hx hb hK hP 1 0 rfl rfl hin_1 dX11_careerFrom_6 ?_
  refine lv_topi (fun z_2 ez_2 => ?_)
  have bz_2 := p_vmnf.a1 (x := 1) ⟨by omega, by omega⟩ ez_2
  have tz_2 : z_2.toInt = (vmnf 1).toInt := by rw [ez_2]; rfl
  have k_5 : (5 : Int32).toInt = 5 := by decide
  refine lv_icmp_ne (tgt := 85) hx hb dX11_careerFrom_7 (by decide) (fun c_3 => ?_) (fun c_3 => ?_)
  · skip
    have c_3 : ¬ ((5 : Int32).toInt = z_2.toInt) := fun h9 => c_3 (i_eq.mpr h9)
    refine lv_iload_n hx hb dX11_careerFrom_85 rfl (lv_at hl 3 rfl) ?_
    refine lv_bipush (v := 9) hx hb dX11_careerFrom_86 (by decide) ?_
    refine lv_aload_n hx hb dX11_careerFrom_88 rfl (lv_at hl 0 rfl) ?_
    refine lv_iload_n hx hb dX11_careerFrom_89 rfl (lv_at hl 1 rfl) ?_
    refine lv_iload_n hx hb dX11_careerFrom_90 rfl (lv_at hl 2 rfl) ?_
    refine jr_i (rVr (As := [.int vm, .int 5]) (rest := [.int 9, .int vlf]) (ci := 12) ⟨hx, hb, hml, hown, hts⟩ (m_didOf l dC dI cy vnh vo voth vmt votp vosz volm voto vofr vokd vonu vosg vofa vopl vowd votd vmn vmr vmk vms vma vmm vmrn vmkn vmik vmon vosm vohp vmw vmf vmb vomb vmd vmc vocm voct vocy vmx votx vose vml vmwr voln vohw vmno vond voon vowi votop vmnf vm 5 ⟨by omega, by omega⟩ ⟨by omega, by omega⟩ p_vmnf) (cw_X11_228 hts rfl rfl ⟨Nat.le_of_ble_eq_true rfl, Nat.le_of_ble_eq_true rfl⟩) hP hK [0, 1] rfl rfl rfl rfl hl.1 rfl (Nat.le_of_ble_eq_true rfl) dX11_careerFrom_91 ⟨Nat.le_of_ble_eq_true rfl, Nat.le_of_ble_eq_true rfl⟩) hP hS (fun r_4 H locs hp_5 hP hS => ?_)
    refine lv_isub hx hb dX11_careerFrom_94 ?_
    refine lv_topi (fun z_6 ez_6 => ?_)
    refine jr_i (rSr (As := [.int vlf, .int z_6]) (rest := []) ⟨hx, hb, hml, hown, hts⟩ (m_least l dC dI cy vlf z_6 ) (cw_X11_288 hts rfl rfl ⟨Nat.le_of_ble_eq_true rfl, Nat.le_of_ble_eq_true rfl⟩) hP hK [] rfl rfl hl.1 rfl (Nat.le_of_ble_eq_true rfl) dX11_careerFrom_95 ⟨Nat.le_of_ble_eq_true rfl, Nat.le_of_ble_eq_true rfl⟩) hP hS (fun r_7 H locs hp_8 hP hS => ?_)
    have hp_8 : ((r_7 : Int32).toInt ≤ (vlf : Int32).toInt) ∧ ((r_7 : Int32).toInt ≤ (z_6 : Int32).toInt) ∧ (((r_7 : Int32).toInt = (vlf : Int32).toInt ∨ (r_7 : Int32).toInt = (z_6 : Int32).toInt)) := hp_8
    obtain ⟨q_9, q_10, q_11⟩ := hp_8
    refine lv_istore (lv' := [(6, .int r_7), (0, .ref vo), (1, .int vm), (2, .int 5), (3, .int vlf), (4, .int vti), (5, .int vwe)]) hx hb dX11_careerFrom_98 hl (by decide) rfl (fun ls hl => ?_)
    refine lv_iconst (v := 0) hx hb dX11_careerFrom_100 (by decide) ?_
    refine lv_istore (lv' := [(7, .int 0), (6, .int r_7), (0, .ref vo), (1, .int vm), (2, .int 5), (3, .int vlf), (4, .int vti), (5, .int vwe)]) hx hb dX11_careerFrom_101 hl (by decide) rfl (fun ls hl => ?_)
    have loop12 : ∀ (n12 : Nat) (x_13 : Int32) (x_14 : Int32) (x_15 : Int32) (x_16 : Int32) (g_17 : Nat → Int32) (g_18 : Nat → Int32), (0 ≤ x_13.toInt ∧ x_13.toInt ≤ 11) → (0 ≤ x_16.toInt ∧ x_16.toInt ≤ 10) → 11 - x_13.toInt < (n12 : Int) → ∀ (H : Heap) (locs : List Loc), va_P (dC, dI) vwCl [(vo, .inr (12, [.int voth, .ref vmt, .int votp, .int vosz, .int volm, .int voto, .int vofr, .int vokd, .int vonu, .int vosg, .int vofa, .int vopl, .long vowd, .int votd, .ref vmn, .ref vmr, .ref vmk, .ref vms, .ref vma, .ref vmm, .ref vmrn, .ref vmkn, .ref vmik, .ref vmon, .int vosm, .int vohp, .ref vmw, .ref vmf, .ref vmb, .int vomb, .ref vmd, .ref vmc, .int x_14, .int x_15, .int x_16, .ref vmx, .int votx, .int vose, .ref vml, .ref vmwr, .int voln, .int vohw, .ref vmno, .int vond, .int voon, .int vowi, .int votop])), (vmn, .inl (cy 0, 575, .inl vmnf)), (vmd, .inl (cy 0, 10, .inl g_18)), (vmc, .inl (cy 0, 10, .inl g_17))] H → va_D A [(vo, .inr (12, [.int voth, .ref vmt, .int votp, .int vosz, .int volm, .int voto, .int vofr, .int vokd, .int vonu, .int vosg, .int vofa, .int vopl, .long vowd, .int votd, .ref vmn, .ref vmr, .ref vmk, .ref vms, .ref vma, .ref vmm, .ref vmrn, .ref vmkn, .ref vmik, .ref vmon, .int vosm, .int vohp, .ref vmw, .ref vmf, .ref vmb, .int vomb, .ref vmd, .ref vmc, .int x_14, .int x_15, .int x_16, .ref vmx, .int votx, .int vose, .ref vml, .ref vmwr, .int voln, .int vohw, .ref vmno, .int vond, .int voon, .int vowi, .int votop])), (vmn, .inl (cy 0, 575, .inl vmnf)), (vmd, .inl (cy 0, 10, .inl g_18)), (vmc, .inl (cy 0, 10, .inl g_17))] → va_S A s.heap H locs → ∀ ls : Array Slot, lv_has ls 8 [(7, .int x_13), (6, .int r_7), (0, .ref vo), (1, .int vm), (2, .int 5), (3, .int vlf), (4, .int vti), (5, .int vwe)] → W p l e ({ frames := 6, cells := 0, slots := 0, locals := 384 }) s m av9 below meth c H locs 0 0 Q9 (F0 m 103 ls []) := by
      intro n12
      induction n12 with
      | zero =>
        intro x_13 x_14 x_15 x_16 g_17 g_18 bx_13 bx_16 hn12 H locs hP hD hS ls hl
        exfalso; omega
      | succ n12 ih12 =>
        intro x_13 x_14 x_15 x_16 g_17 g_18 bx_13 bx_16 hn12 H locs hP hD hS ls hl
        refine lv_iload hx hb dX11_careerFrom_103 (lv_at hl 0 rfl) ?_
        refine lv_iload hx hb dX11_careerFrom_105 (lv_at hl 1 rfl) ?_
        refine lv_icmp_gt (tgt := 180) hx hb dX11_careerFrom_107 (by decide) (fun c_19 => ?_) (fun c_19 => ?_)
        · skip
          have c_19 : r_7.toInt < x_13.toInt := i_lt.mp c_19
          rw [hQ9]
          exact re_v (x_14, x_15, g_17, x_16, g_18) hx hb hr hlocks (show 0 ≤ (x_16 : Int32).toInt ∧ (x_16 : Int32).toInt ≤ 10 from ⟨by omega, by omega⟩) (hP.sub [0, 1, 2, 3] rfl) (hD.sub [0, 1, 2, 3] rfl rfl) hS dX11_careerFrom_180
        · skip
          have c_19 : ¬ (r_7.toInt < x_13.toInt) := fun h9 => c_19 (i_lt.mpr h9)
          refine lv_iload hx hb dX11_careerFrom_110 (lv_at hl 7 rfl) ?_
          refine lv_iload hx hb dX11_careerFrom_112 (lv_at hl 0 rfl) ?_
          refine lv_aload_n hx hb dX11_careerFrom_114 rfl (lv_at hl 2 rfl) ?_
          refine gf_X11_98 hx hb hts hown hK hP 0 rfl rfl dX11_careerFrom_115 ?_
          refine lv_bipush (v := 11) hx hb dX11_careerFrom_118 (by decide) ?_
          refine lv_iload_n hx hb dX11_careerFrom_120 rfl (lv_at hl 4 rfl) ?_
          refine lv_iadd hx hb dX11_careerFrom_121 ?_
          refine as_i 16 (by decide) ?_
          have k_16 : (16 : Int32).toInt = 16 := by decide
          have hin_20 : vp_in (16 : Int32) 575 := vp_in_iff.mpr ⟨by omega, by omega⟩
          refine va_iald hx hb hK hP 1 0 rfl rfl hin_20 dX11_careerFrom_122 ?_
          refine lv_topi (fun z_21 ez_21 => ?_)
          have bz_21 := p_vmnf.aw (x := 16) ⟨by omega, by omega⟩ ez_21
          have tz_21 : z_21.toInt = (vmnf 16).toInt := by rw [ez_21]; rfl
          refine lv_imul hx hb dX11_careerFrom_123 ?_
          refine lv_topi (fun z_22 ez_22 => ?_)
          have bz_22 : 0 ≤ z_22.toInt ∧ z_22.toInt ≤ 400 ∧ z_22.toInt = x_13.toInt * z_21.toInt := i_mulb (A := 10) (B := 40) ez_22 ⟨by omega, by omega⟩ ⟨by omega, by omega⟩ (by decide)
          refine lv_iadd hx hb dX11_careerFrom_124 ?_
          refine lv_topi (fun z_23 ez_23 => ?_)
          refine lv_aload_n hx hb dX11_careerFrom_125 rfl (lv_at hl 2 rfl) ?_
          refine gf_X11_98 hx hb hts hown hK hP 0 rfl rfl dX11_careerFrom_126 ?_
          refine lv_iconst (v := 2) hx hb dX11_careerFrom_129 (by decide) ?_
          have k_2 : (2 : Int32).toInt = 2 := by decide
          have hin_24 : vp_in (2 : Int32) 575 := vp_in_iff.mpr ⟨by omega, by omega⟩
          refine va_iald hx hb hK hP 1 0 rfl rfl hin_24 dX11_careerFrom_130 ?_
          refine lv_topi (fun z_25 ez_25 => ?_)
          have tz_25 : z_25.toInt = (vmnf 2).toInt := by rw [ez_25]; rfl
          refine lv_icmp_gt (tgt := 180) hx hb dX11_careerFrom_131 (by decide) (fun c_26 => ?_) (fun c_26 => ?_)
          · skip
            have c_26 : z_25.toInt < z_23.toInt := i_lt.mp c_26
            rw [hQ9]
            exact re_v (x_14, x_15, g_17, x_16, g_18) hx hb hr hlocks (show 0 ≤ (x_16 : Int32).toInt ∧ (x_16 : Int32).toInt ≤ 10 from ⟨by omega, by omega⟩) (hP.sub [0, 1, 2, 3] rfl) (hD.sub [0, 1, 2, 3] rfl rfl) hS dX11_careerFrom_180
          · skip
            have c_26 : ¬ (z_25.toInt < z_23.toInt) := fun h9 => c_26 (i_lt.mpr h9)
            refine lv_aload_n hx hb dX11_careerFrom_134 rfl (lv_at hl 2 rfl) ?_
            refine gf_X11_142 hx hb hts hown hK hP 0 rfl rfl dX11_careerFrom_135 ?_
            refine lv_iload_n hx hb dX11_careerFrom_138 rfl (lv_at hl 4 rfl) ?_
            refine lv_iload hx hb dX11_careerFrom_139 (lv_at hl 0 rfl) ?_
            have hin_27 : vp_in (5 : Int32) 10 := vp_in_iff.mpr ⟨by omega, by omega⟩
            refine va_iast hx hb hK hP hD hS 2 0 rfl rfl hin_27 dX11_careerFrom_141 (fun H locs hP hD hS => ?_)
            obtain ⟨f_28, ef_28⟩ : ∃ z : Nat → Int32, z = upd g_18 (Int32.toNatClampNeg 5) x_13 := ⟨_, rfl⟩
            have hP : va_P (dC, dI) vwCl [(vo, .inr (12, [.int voth, .ref vmt, .int votp, .int vosz, .int volm, .int voto, .int vofr, .int vokd, .int vonu, .int vosg, .int vofa, .int vopl, .long vowd, .int votd, .ref vmn, .ref vmr, .ref vmk, .ref vms, .ref vma, .ref vmm, .ref vmrn, .ref vmkn, .ref vmik, .ref vmon, .int vosm, .int vohp, .ref vmw, .ref vmf, .ref vmb, .int vomb, .ref vmd, .ref vmc, .int x_14, .int x_15, .int x_16, .ref vmx, .int votx, .int vose, .ref vml, .ref vmwr, .int voln, .int vohw, .ref vmno, .int vond, .int voon, .int vowi, .int votop])), (vmn, .inl (cy 0, 575, .inl vmnf)), (vmd, .inl (cy 0, 10, .inl f_28)), (vmc, .inl (cy 0, 10, .inl g_17))] H := by rw [ef_28]; exact hP
            have hD : va_D A [(vo, .inr (12, [.int voth, .ref vmt, .int votp, .int vosz, .int volm, .int voto, .int vofr, .int vokd, .int vonu, .int vosg, .int vofa, .int vopl, .long vowd, .int votd, .ref vmn, .ref vmr, .ref vmk, .ref vms, .ref vma, .ref vmm, .ref vmrn, .ref vmkn, .ref vmik, .ref vmon, .int vosm, .int vohp, .ref vmw, .ref vmf, .ref vmb, .int vomb, .ref vmd, .ref vmc, .int x_14, .int x_15, .int x_16, .ref vmx, .int votx, .int vose, .ref vml, .ref vmwr, .int voln, .int vohw, .ref vmno, .int vond, .int voon, .int vowi, .int votop])), (vmn, .inl (cy 0, 575, .inl vmnf)), (vmd, .inl (cy 0, 10, .inl f_28)), (vmc, .inl (cy 0, 10, .inl g_17))] := by rw [ef_28]; exact hD
            refine lv_aload_n hx hb dX11_careerFrom_142 rfl (lv_at hl 2 rfl) ?_
            refine lv_iload_n hx hb dX11_careerFrom_143 rfl (lv_at hl 3 rfl) ?_
            refine lv_iload_n hx hb dX11_careerFrom_144 rfl (lv_at hl 4 rfl) ?_
            refine lv_iconst (v := 1) hx hb dX11_careerFrom_145 (by decide) ?_
            refine lv_iadd hx hb dX11_careerFrom_146 ?_
            refine as_i 6 (by decide) ?_
            refine lv_iload_n hx hb dX11_careerFrom_147 rfl (lv_at hl 5 rfl) ?_
            refine lv_iload hx hb dX11_careerFrom_148 (lv_at hl 0 rfl) ?_
            refine lv_isub hx hb dX11_careerFrom_150 ?_
            refine lv_topi (fun z_29 ez_29 => ?_)
            have bz_29 : z_29.toInt = vlf.toInt - x_13.toInt := i_sub ez_29 (by omega) (by omega)
            refine lv_iload hx hb dX11_careerFrom_151 (lv_at hl 6 rfl) ?_
            refine lv_iload hx hb dX11_careerFrom_153 (lv_at hl 0 rfl) ?_
            refine lv_iadd hx hb dX11_careerFrom_155 ?_
            refine lv_topi (fun z_30 ez_30 => ?_)
            refine lv_iload hx hb dX11_careerFrom_156 (lv_at hl 7 rfl) ?_
            refine lv_iload hx hb dX11_careerFrom_158 (lv_at hl 0 rfl) ?_
            refine lv_aload_n hx hb dX11_careerFrom_160 rfl (lv_at hl 2 rfl) ?_
            refine gf_X11_98 hx hb hts hown hK hP 0 rfl rfl dX11_careerFrom_161 ?_
            refine lv_bipush (v := 11) hx hb dX11_careerFrom_164 (by decide) ?_
            refine lv_iload_n hx hb dX11_careerFrom_166 rfl (lv_at hl 4 rfl) ?_
            refine lv_iadd hx hb dX11_careerFrom_167 ?_
            refine as_i 16 (by decide) ?_
            have hin_31 : vp_in (16 : Int32) 575 := vp_in_iff.mpr ⟨by omega, by omega⟩
            refine va_iald hx hb hK hP 1 0 rfl rfl hin_31 dX11_careerFrom_168 ?_
            refine lv_topi (fun z_32 ez_32 => ?_)
            have bz_32 := p_vmnf.aw (x := 16) ⟨by omega, by omega⟩ ez_32
            have tz_32 : z_32.toInt = (vmnf 16).toInt := by rw [ez_32]; rfl
            refine lv_imul hx hb dX11_careerFrom_169 ?_
            refine lv_topi (fun z_33 ez_33 => ?_)
            have bz_33 : 0 ≤ z_33.toInt ∧ z_33.toInt ≤ 400 ∧ z_33.toInt = x_13.toInt * z_32.toInt := i_mulb (A := 10) (B := 40) ez_33 ⟨by omega, by omega⟩ ⟨by omega, by omega⟩ (by decide)
            refine lv_iadd hx hb dX11_careerFrom_170 ?_
            refine lv_topi (fun z_34 ez_34 => ?_)
            refine jn_v (wr := []) (rV (As := [.int vm, .int 6, .int z_29, .int z_30, .int z_34]) (rest := []) (ci := 12) ⟨hx, hb, hml, hown, hts⟩ (m_careerFrom_6 l dC dI cy _ vnh vo voth vmt votp vosz volm voto vofr vokd vonu vosg vofa vopl vowd votd vmn vmr vmk vms vma vmm vmrn vmkn vmik vmon vosm vohp vmw vmf vmb vomb vmd vmc x_14 x_15 x_16 vmx votx vose vml vmwr voln vohw vmno vond voon vowi votop vmnf f_28 g_17 vm z_29 z_30 z_34 ⟨by omega, by omega⟩ r_vm ⟨by omega, by omega⟩ p_vmnf (by omega)) (cw_X11_331 hts rfl rfl ⟨Nat.le_of_ble_eq_true rfl, Nat.le_of_ble_eq_true rfl⟩) hP hD hK [0, 1, 2, 3] rfl rfl rfl rfl bl0 e0 rfl hl.1 rfl (Nat.le_of_ble_eq_true rfl) dX11_careerFrom_171 ⟨Nat.le_of_ble_eq_true rfl, Nat.le_of_ble_eq_true rfl⟩) hP hD hS hA [0, 1, 2, 3] [] rfl rfl rfl (by decide) (fun u_37 H locs hp_36 hP hD hS => ?_)
            obtain ⟨vocm_38, voct_39, vmcf_40, vocy_41, vmdf_42⟩ := u_37
            have hp_36 : (0 ≤ (vocy_41 : Int32).toInt ∧ (vocy_41 : Int32).toInt ≤ 10) := hp_36
            have q_43 := hp_36
            have hP : va_P (dC, dI) vwCl [(vo, .inr (12, [.int voth, .ref vmt, .int votp, .int vosz, .int volm, .int voto, .int vofr, .int vokd, .int vonu, .int vosg, .int vofa, .int vopl, .long vowd, .int votd, .ref vmn, .ref vmr, .ref vmk, .ref vms, .ref vma, .ref vmm, .ref vmrn, .ref vmkn, .ref vmik, .ref vmon, .int vosm, .int vohp, .ref vmw, .ref vmf, .ref vmb, .int vomb, .ref vmd, .ref vmc, .int vocm_38, .int voct_39, .int vocy_41, .ref vmx, .int votx, .int vose, .ref vml, .ref vmwr, .int voln, .int vohw, .ref vmno, .int vond, .int voon, .int vowi, .int votop])), (vmn, .inl (cy 0, 575, .inl vmnf)), (vmd, .inl (cy 0, 10, .inl vmdf_42)), (vmc, .inl (cy 0, 10, .inl vmcf_40))] H := hP
            have hD : va_D A [(vo, .inr (12, [.int voth, .ref vmt, .int votp, .int vosz, .int volm, .int voto, .int vofr, .int vokd, .int vonu, .int vosg, .int vofa, .int vopl, .long vowd, .int votd, .ref vmn, .ref vmr, .ref vmk, .ref vms, .ref vma, .ref vmm, .ref vmrn, .ref vmkn, .ref vmik, .ref vmon, .int vosm, .int vohp, .ref vmw, .ref vmf, .ref vmb, .int vomb, .ref vmd, .ref vmc, .int vocm_38, .int voct_39, .int vocy_41, .ref vmx, .int votx, .int vose, .ref vml, .ref vmwr, .int voln, .int vohw, .ref vmno, .int vond, .int voon, .int vowi, .int votop])), (vmn, .inl (cy 0, 575, .inl vmnf)), (vmd, .inl (cy 0, 10, .inl vmdf_42)), (vmc, .inl (cy 0, 10, .inl vmcf_40))] := hD
            obtain ⟨z_44, ez_44⟩ : ∃ z : Int32, z = x_13 + 1 := ⟨_, rfl⟩
            have bz_44 : z_44.toInt = x_13.toInt + (1 : Int32).toInt := i_add ez_44 (by omega) (by omega)
            refine lv_iinc (v := z_44) (lv' := [(7, .int z_44), (6, .int r_7), (0, .ref vo), (1, .int vm), (2, .int 5), (3, .int vlf), (4, .int vti), (5, .int vwe)]) hx hb dX11_careerFrom_174 hl (k := 0) rfl ez_44.symm (by decide) rfl (fun ls hl => ?_)
            refine lv_goto (tgt := 103) hx hb dX11_careerFrom_177 (by decide) ?_
            exact ih12 z_44 vocm_38 voct_39 vocy_41 vmcf_40 vmdf_42 ⟨by omega, by omega⟩ ⟨by omega, by omega⟩ (by omega) _ _ (hP.sub [0, 1, 2, 3] rfl) (hD.sub [0, 1, 2, 3] rfl rfl) hS ls (lv_sub hl [0, 1, 2, 3, 4, 5, 6, 7] rfl)
    have k_0 : (0 : Int32).toInt = 0 := by decide
    exact loop12 ((11 - (0 : Int32).toInt).toNat + 1) 0 vocm voct vocy vmcf vmdf ⟨by omega, by omega⟩ ⟨by omega, by omega⟩ (by omega) _ _ hP hD hS ls (lv_sub hl [0, 1, 2, 3, 4, 5, 6, 7] rfl)
  · skip
    have c_3 : (5 : Int32).toInt = z_2.toInt := i_eq.mp c_3
    have join45 : ∀ (H : Heap) (locs : List Loc), va_P (dC, dI) vwCl [(vo, .inr (12, [.int voth, .ref vmt, .int votp, .int vosz, .int volm, .int voto, .int vofr, .int vokd, .int vonu, .int vosg, .int vofa, .int vopl, .long vowd, .int votd, .ref vmn, .ref vmr, .ref vmk, .ref vms, .ref vma, .ref vmm, .ref vmrn, .ref vmkn, .ref vmik, .ref vmon, .int vosm, .int vohp, .ref vmw, .ref vmf, .ref vmb, .int vomb, .ref vmd, .ref vmc, .int vocm, .int voct, .int vocy, .ref vmx, .int votx, .int vose, .ref vml, .ref vmwr, .int voln, .int vohw, .ref vmno, .int vond, .int voon, .int vowi, .int votop])), (vmn, .inl (cy 0, 575, .inl vmnf)), (vmd, .inl (cy 0, 10, .inl vmdf)), (vmc, .inl (cy 0, 10, .inl vmcf))] H → va_D A [(vo, .inr (12, [.int voth, .ref vmt, .int votp, .int vosz, .int volm, .int voto, .int vofr, .int vokd, .int vonu, .int vosg, .int vofa, .int vopl, .long vowd, .int votd, .ref vmn, .ref vmr, .ref vmk, .ref vms, .ref vma, .ref vmm, .ref vmrn, .ref vmkn, .ref vmik, .ref vmon, .int vosm, .int vohp, .ref vmw, .ref vmf, .ref vmb, .int vomb, .ref vmd, .ref vmc, .int vocm, .int voct, .int vocy, .ref vmx, .int votx, .int vose, .ref vml, .ref vmwr, .int voln, .int vohw, .ref vmno, .int vond, .int voon, .int vowi, .int votop])), (vmn, .inl (cy 0, 575, .inl vmnf)), (vmd, .inl (cy 0, 10, .inl vmdf)), (vmc, .inl (cy 0, 10, .inl vmcf))] → va_S A s.heap H locs → ∀ ls : Array Slot, lv_has ls 8 [(0, .ref vo), (1, .int vm), (2, .int 5), (3, .int vlf), (4, .int vti), (5, .int vwe)] → W p l e ({ frames := 6, cells := 0, slots := 0, locals := 384 }) s m av9 below meth c H locs 0 0 Q9 (F0 m 38 ls []) := by
      intro  H locs hP hD hS ls hl
      refine lv_aload_n hx hb dX11_careerFrom_38 rfl (lv_at hl 0 rfl) ?_
      refine lv_iload hx hb dX11_careerFrom_39 (lv_at hl 5 rfl) ?_
      refine pf_X11_322 hx hb hts hown hK hP hD hS 0 rfl rfl rfl (Nat.le_of_ble_eq_true rfl) dX11_careerFrom_41 (fun H locs hP hD hS => ?_)
      have hP : va_P (dC, dI) vwCl [(vo, .inr (12, [.int voth, .ref vmt, .int votp, .int vosz, .int volm, .int voto, .int vofr, .int vokd, .int vonu, .int vosg, .int vofa, .int vopl, .long vowd, .int votd, .ref vmn, .ref vmr, .ref vmk, .ref vms, .ref vma, .ref vmm, .ref vmrn, .ref vmkn, .ref vmik, .ref vmon, .int vosm, .int vohp, .ref vmw, .ref vmf, .ref vmb, .int vomb, .ref vmd, .ref vmc, .int vwe, .int voct, .int vocy, .ref vmx, .int votx, .int vose, .ref vml, .ref vmwr, .int voln, .int vohw, .ref vmno, .int vond, .int voon, .int vowi, .int votop])), (vmn, .inl (cy 0, 575, .inl vmnf)), (vmd, .inl (cy 0, 10, .inl vmdf)), (vmc, .inl (cy 0, 10, .inl vmcf))] H := hP
      have hD : va_D A [(vo, .inr (12, [.int voth, .ref vmt, .int votp, .int vosz, .int volm, .int voto, .int vofr, .int vokd, .int vonu, .int vosg, .int vofa, .int vopl, .long vowd, .int votd, .ref vmn, .ref vmr, .ref vmk, .ref vms, .ref vma, .ref vmm, .ref vmrn, .ref vmkn, .ref vmik, .ref vmon, .int vosm, .int vohp, .ref vmw, .ref vmf, .ref vmb, .int vomb, .ref vmd, .ref vmc, .int vwe, .int voct, .int vocy, .ref vmx, .int votx, .int vose, .ref vml, .ref vmwr, .int voln, .int vohw, .ref vmno, .int vond, .int voon, .int vowi, .int votop])), (vmn, .inl (cy 0, 575, .inl vmnf)), (vmd, .inl (cy 0, 10, .inl vmdf)), (vmc, .inl (cy 0, 10, .inl vmcf))] := hD
      refine lv_aload_n hx hb dX11_careerFrom_44 rfl (lv_at hl 0 rfl) ?_
      refine lv_iload hx hb dX11_careerFrom_45 (lv_at hl 4 rfl) ?_
      refine pf_X11_325 hx hb hts hown hK hP hD hS 0 rfl rfl rfl (Nat.le_of_ble_eq_true rfl) dX11_careerFrom_47 (fun H locs hP hD hS => ?_)
      have hP : va_P (dC, dI) vwCl [(vo, .inr (12, [.int voth, .ref vmt, .int votp, .int vosz, .int volm, .int voto, .int vofr, .int vokd, .int vonu, .int vosg, .int vofa, .int vopl, .long vowd, .int votd, .ref vmn, .ref vmr, .ref vmk, .ref vms, .ref vma, .ref vmm, .ref vmrn, .ref vmkn, .ref vmik, .ref vmon, .int vosm, .int vohp, .ref vmw, .ref vmf, .ref vmb, .int vomb, .ref vmd, .ref vmc, .int vwe, .int vti, .int vocy, .ref vmx, .int votx, .int vose, .ref vml, .ref vmwr, .int voln, .int vohw, .ref vmno, .int vond, .int voon, .int vowi, .int votop])), (vmn, .inl (cy 0, 575, .inl vmnf)), (vmd, .inl (cy 0, 10, .inl vmdf)), (vmc, .inl (cy 0, 10, .inl vmcf))] H := hP
      have hD : va_D A [(vo, .inr (12, [.int voth, .ref vmt, .int votp, .int vosz, .int volm, .int voto, .int vofr, .int vokd, .int vonu, .int vosg, .int vofa, .int vopl, .long vowd, .int votd, .ref vmn, .ref vmr, .ref vmk, .ref vms, .ref vma, .ref vmm, .ref vmrn, .ref vmkn, .ref vmik, .ref vmon, .int vosm, .int vohp, .ref vmw, .ref vmf, .ref vmb, .int vomb, .ref vmd, .ref vmc, .int vwe, .int vti, .int vocy, .ref vmx, .int votx, .int vose, .ref vml, .ref vmwr, .int voln, .int vohw, .ref vmno, .int vond, .int voon, .int vowi, .int votop])), (vmn, .inl (cy 0, 575, .inl vmnf)), (vmd, .inl (cy 0, 10, .inl vmdf)), (vmc, .inl (cy 0, 10, .inl vmcf))] := hD
      refine lv_iconst (v := 0) hx hb dX11_careerFrom_50 (by decide) ?_
      refine lv_istore (lv' := [(6, .int 0), (0, .ref vo), (1, .int vm), (2, .int 5), (3, .int vlf), (4, .int vti), (5, .int vwe)]) hx hb dX11_careerFrom_51 hl (by decide) rfl (fun ls hl => ?_)
      have loop46 : ∀ (n46 : Nat) (x_47 : Int32) (g_48 : Nat → Int32), (0 ≤ x_47.toInt ∧ x_47.toInt ≤ 10) → 10 - x_47.toInt < (n46 : Int) → ∀ (H : Heap) (locs : List Loc), va_P (dC, dI) vwCl [(vo, .inr (12, [.int voth, .ref vmt, .int votp, .int vosz, .int volm, .int voto, .int vofr, .int vokd, .int vonu, .int vosg, .int vofa, .int vopl, .long vowd, .int votd, .ref vmn, .ref vmr, .ref vmk, .ref vms, .ref vma, .ref vmm, .ref vmrn, .ref vmkn, .ref vmik, .ref vmon, .int vosm, .int vohp, .ref vmw, .ref vmf, .ref vmb, .int vomb, .ref vmd, .ref vmc, .int vwe, .int vti, .int vocy, .ref vmx, .int votx, .int vose, .ref vml, .ref vmwr, .int voln, .int vohw, .ref vmno, .int vond, .int voon, .int vowi, .int votop])), (vmn, .inl (cy 0, 575, .inl vmnf)), (vmd, .inl (cy 0, 10, .inl vmdf)), (vmc, .inl (cy 0, 10, .inl g_48))] H → va_D A [(vo, .inr (12, [.int voth, .ref vmt, .int votp, .int vosz, .int volm, .int voto, .int vofr, .int vokd, .int vonu, .int vosg, .int vofa, .int vopl, .long vowd, .int votd, .ref vmn, .ref vmr, .ref vmk, .ref vms, .ref vma, .ref vmm, .ref vmrn, .ref vmkn, .ref vmik, .ref vmon, .int vosm, .int vohp, .ref vmw, .ref vmf, .ref vmb, .int vomb, .ref vmd, .ref vmc, .int vwe, .int vti, .int vocy, .ref vmx, .int votx, .int vose, .ref vml, .ref vmwr, .int voln, .int vohw, .ref vmno, .int vond, .int voon, .int vowi, .int votop])), (vmn, .inl (cy 0, 575, .inl vmnf)), (vmd, .inl (cy 0, 10, .inl vmdf)), (vmc, .inl (cy 0, 10, .inl g_48))] → va_S A s.heap H locs → ∀ ls : Array Slot, lv_has ls 8 [(6, .int x_47), (0, .ref vo), (1, .int vm), (2, .int 5), (3, .int vlf), (4, .int vti), (5, .int vwe)] → W p l e ({ frames := 6, cells := 0, slots := 0, locals := 384 }) s m av9 below meth c H locs 0 0 Q9 (F0 m 53 ls []) := by
        intro n46
        induction n46 with
        | zero =>
          intro x_47 g_48 bx_47 hn46 H locs hP hD hS ls hl
          exfalso; omega
        | succ n46 ih46 =>
          intro x_47 g_48 bx_47 hn46 H locs hP hD hS ls hl
          refine lv_iload hx hb dX11_careerFrom_53 (lv_at hl 0 rfl) ?_
          refine lv_iload_n hx hb dX11_careerFrom_55 rfl (lv_at hl 3 rfl) ?_
          refine lv_icmp_ge (tgt := 79) hx hb dX11_careerFrom_56 (by decide) (fun c_49 => ?_) (fun c_49 => ?_)
          · skip
            have c_49 : (5 : Int32).toInt ≤ x_47.toInt := i_le.mp c_49
            refine lv_aload_n hx hb dX11_careerFrom_79 rfl (lv_at hl 1 rfl) ?_
            refine lv_iload_n hx hb dX11_careerFrom_80 rfl (lv_at hl 3 rfl) ?_
            refine pf_X11_328 hx hb hts hown hK hP hD hS 0 rfl rfl rfl (Nat.le_of_ble_eq_true rfl) dX11_careerFrom_81 (fun H locs hP hD hS => ?_)
            have hP : va_P (dC, dI) vwCl [(vo, .inr (12, [.int voth, .ref vmt, .int votp, .int vosz, .int volm, .int voto, .int vofr, .int vokd, .int vonu, .int vosg, .int vofa, .int vopl, .long vowd, .int votd, .ref vmn, .ref vmr, .ref vmk, .ref vms, .ref vma, .ref vmm, .ref vmrn, .ref vmkn, .ref vmik, .ref vmon, .int vosm, .int vohp, .ref vmw, .ref vmf, .ref vmb, .int vomb, .ref vmd, .ref vmc, .int vwe, .int vti, .int 5, .ref vmx, .int votx, .int vose, .ref vml, .ref vmwr, .int voln, .int vohw, .ref vmno, .int vond, .int voon, .int vowi, .int votop])), (vmn, .inl (cy 0, 575, .inl vmnf)), (vmd, .inl (cy 0, 10, .inl vmdf)), (vmc, .inl (cy 0, 10, .inl g_48))] H := hP
            have hD : va_D A [(vo, .inr (12, [.int voth, .ref vmt, .int votp, .int vosz, .int volm, .int voto, .int vofr, .int vokd, .int vonu, .int vosg, .int vofa, .int vopl, .long vowd, .int votd, .ref vmn, .ref vmr, .ref vmk, .ref vms, .ref vma, .ref vmm, .ref vmrn, .ref vmkn, .ref vmik, .ref vmon, .int vosm, .int vohp, .ref vmw, .ref vmf, .ref vmb, .int vomb, .ref vmd, .ref vmc, .int vwe, .int vti, .int 5, .ref vmx, .int votx, .int vose, .ref vml, .ref vmwr, .int voln, .int vohw, .ref vmno, .int vond, .int voon, .int vowi, .int votop])), (vmn, .inl (cy 0, 575, .inl vmnf)), (vmd, .inl (cy 0, 10, .inl vmdf)), (vmc, .inl (cy 0, 10, .inl g_48))] := hD
            rw [hQ9]
            exact re_v (vwe, vti, g_48, (5 : Int32), vmdf) hx hb hr hlocks (show 0 ≤ (5 : Int32).toInt ∧ (5 : Int32).toInt ≤ 10 from ⟨by omega, by omega⟩) (hP.sub [0, 1, 2, 3] rfl) (hD.sub [0, 1, 2, 3] rfl rfl) hS dX11_careerFrom_84
          · skip
            have c_49 : ¬ ((5 : Int32).toInt ≤ x_47.toInt) := fun h9 => c_49 (i_le.mpr h9)
            refine lv_aload_n hx hb dX11_careerFrom_59 rfl (lv_at hl 1 rfl) ?_
            refine gf_X11_145 hx hb hts hown hK hP 0 rfl rfl dX11_careerFrom_60 ?_
            refine lv_iload hx hb dX11_careerFrom_63 (lv_at hl 0 rfl) ?_
            refine lv_aload_n hx hb dX11_careerFrom_65 rfl (lv_at hl 1 rfl) ?_
            refine gf_X11_142 hx hb hts hown hK hP 0 rfl rfl dX11_careerFrom_66 ?_
            refine lv_iload hx hb dX11_careerFrom_69 (lv_at hl 0 rfl) ?_
            have hin_50 : vp_in x_47 10 := vp_in_iff.mpr ⟨by omega, by omega⟩
            refine va_iald hx hb hK hP 2 0 rfl rfl hin_50 dX11_careerFrom_71 ?_
            refine lv_topi (fun z_51 ez_51 => ?_)
            have hin_52 : vp_in x_47 10 := vp_in_iff.mpr ⟨by omega, by omega⟩
            refine va_iast hx hb hK hP hD hS 3 0 rfl rfl hin_52 dX11_careerFrom_72 (fun H locs hP hD hS => ?_)
            obtain ⟨f_53, ef_53⟩ : ∃ z : Nat → Int32, z = upd g_48 (Int32.toNatClampNeg x_47) z_51 := ⟨_, rfl⟩
            have hP : va_P (dC, dI) vwCl [(vo, .inr (12, [.int voth, .ref vmt, .int votp, .int vosz, .int volm, .int voto, .int vofr, .int vokd, .int vonu, .int vosg, .int vofa, .int vopl, .long vowd, .int votd, .ref vmn, .ref vmr, .ref vmk, .ref vms, .ref vma, .ref vmm, .ref vmrn, .ref vmkn, .ref vmik, .ref vmon, .int vosm, .int vohp, .ref vmw, .ref vmf, .ref vmb, .int vomb, .ref vmd, .ref vmc, .int vwe, .int vti, .int vocy, .ref vmx, .int votx, .int vose, .ref vml, .ref vmwr, .int voln, .int vohw, .ref vmno, .int vond, .int voon, .int vowi, .int votop])), (vmn, .inl (cy 0, 575, .inl vmnf)), (vmd, .inl (cy 0, 10, .inl vmdf)), (vmc, .inl (cy 0, 10, .inl f_53))] H := by rw [ef_53]; exact hP
            have hD : va_D A [(vo, .inr (12, [.int voth, .ref vmt, .int votp, .int vosz, .int volm, .int voto, .int vofr, .int vokd, .int vonu, .int vosg, .int vofa, .int vopl, .long vowd, .int votd, .ref vmn, .ref vmr, .ref vmk, .ref vms, .ref vma, .ref vmm, .ref vmrn, .ref vmkn, .ref vmik, .ref vmon, .int vosm, .int vohp, .ref vmw, .ref vmf, .ref vmb, .int vomb, .ref vmd, .ref vmc, .int vwe, .int vti, .int vocy, .ref vmx, .int votx, .int vose, .ref vml, .ref vmwr, .int voln, .int vohw, .ref vmno, .int vond, .int voon, .int vowi, .int votop])), (vmn, .inl (cy 0, 575, .inl vmnf)), (vmd, .inl (cy 0, 10, .inl vmdf)), (vmc, .inl (cy 0, 10, .inl f_53))] := by rw [ef_53]; exact hD
            obtain ⟨z_54, ez_54⟩ : ∃ z : Int32, z = x_47 + 1 := ⟨_, rfl⟩
            have bz_54 : z_54.toInt = x_47.toInt + (1 : Int32).toInt := i_add ez_54 (by omega) (by omega)
            refine lv_iinc (v := z_54) (lv' := [(6, .int z_54), (0, .ref vo), (1, .int vm), (2, .int 5), (3, .int vlf), (4, .int vti), (5, .int vwe)]) hx hb dX11_careerFrom_73 hl (k := 0) rfl ez_54.symm (by decide) rfl (fun ls hl => ?_)
            refine lv_goto (tgt := 53) hx hb dX11_careerFrom_76 (by decide) ?_
            exact ih46 z_54 f_53 ⟨by omega, by omega⟩ (by omega) _ _ (hP.sub [0, 1, 2, 3] rfl) (hD.sub [0, 1, 2, 3] rfl rfl) hS ls (lv_sub hl [0, 1, 2, 3, 4, 5, 6] rfl)
      have k_0 : (0 : Int32).toInt = 0 := by decide
      exact loop46 ((10 - (0 : Int32).toInt).toNat + 1) 0 vmcf ⟨by omega, by omega⟩ (by omega) _ _ hP hD hS ls (lv_sub hl [0, 1, 2, 3, 4, 5, 6] rfl)
    refine lv_iload hx hb dX11_careerFrom_10 (lv_at hl 5 rfl) ?_
    refine lv_aload_n hx hb dX11_careerFrom_12 rfl (lv_at hl 0 rfl) ?_
    refine gf_X11_322 hx hb hts hown hK hP 0 rfl rfl dX11_careerFrom_13 ?_
    refine lv_icmp_lt (tgt := 37) hx hb dX11_careerFrom_16 (by decide) (fun c_55 => ?_) (fun c_55 => ?_)
    · skip
      have c_55 : vwe.toInt < vocm.toInt := i_lt.mp c_55
      rw [hQ9]
      exact re_v (vocm, voct, vmcf, vocy, vmdf) hx hb hr hlocks (show 0 ≤ (vocy : Int32).toInt ∧ (vocy : Int32).toInt ≤ 10 from ⟨by omega, by omega⟩) (hP.sub [0, 1, 2, 3] rfl) (hD.sub [0, 1, 2, 3] rfl rfl) hS dX11_careerFrom_37
    · skip
      have c_55 : ¬ (vwe.toInt < vocm.toInt) := fun h9 => c_55 (i_lt.mpr h9)
      refine lv_iload hx hb dX11_careerFrom_19 (lv_at hl 5 rfl) ?_
      refine lv_aload_n hx hb dX11_careerFrom_21 rfl (lv_at hl 0 rfl) ?_
      refine gf_X11_322 hx hb hts hown hK hP 0 rfl rfl dX11_careerFrom_22 ?_
      refine lv_icmp_ne (tgt := 38) hx hb dX11_careerFrom_25 (by decide) (fun c_56 => ?_) (fun c_56 => ?_)
      · skip
        have c_56 : ¬ (vwe.toInt = vocm.toInt) := fun h9 => c_56 (i_eq.mpr h9)
        exact join45  _ _ (hP.sub [0, 1, 2, 3] rfl) (hD.sub [0, 1, 2, 3] rfl rfl) hS ls (lv_sub hl [0, 1, 2, 3, 4, 5] rfl)
      · skip
        have c_56 : vwe.toInt = vocm.toInt := i_eq.mp c_56
        refine lv_iload hx hb dX11_careerFrom_28 (lv_at hl 4 rfl) ?_
        refine lv_aload_n hx hb dX11_careerFrom_30 rfl (lv_at hl 0 rfl) ?_
        refine gf_X11_325 hx hb hts hown hK hP 0 rfl rfl dX11_careerFrom_31 ?_
        refine lv_icmp_lt (tgt := 38) hx hb dX11_careerFrom_34 (by decide) (fun c_57 => ?_) (fun c_57 => ?_)
        · skip
          have c_57 : vti.toInt < voct.toInt := i_lt.mp c_57
          exact join45  _ _ (hP.sub [0, 1, 2, 3] rfl) (hD.sub [0, 1, 2, 3] rfl rfl) hS ls (lv_sub hl [0, 1, 2, 3, 4, 5] rfl)
        · skip
          have c_57 : ¬ (vti.toInt < voct.toInt) := fun h9 => c_57 (i_lt.mpr h9)
          rw [hQ9]
          exact re_v (vocm, voct, vmcf, vocy, vmdf) hx hb hr hlocks (show 0 ≤ (vocy : Int32).toInt ∧ (vocy : Int32).toInt ≤ 10 from ⟨by omega, by omega⟩) (hP.sub [0, 1, 2, 3] rfl) (hD.sub [0, 1, 2, 3] rfl rfl) hS dX11_careerFrom_37
abbrev O_m_careerFrom_4 (cy : Nat → ClassId) (vnh : Nat → Int32) (vo : Nat) (voth : Int32) (vmt : Nat) (votp : Int32) (vosz : Int32) (volm : Int32) (voto : Int32) (vofr : Int32) (vokd : Int32) (vonu : Int32) (vosg : Int32) (vofa : Int32) (vopl : Int32) (vowd : Int64) (votd : Int32) (vmn : Nat) (vmr : Nat) (vmk : Nat) (vms : Nat) (vma : Nat) (vmm : Nat) (vmrn : Nat) (vmkn : Nat) (vmik : Nat) (vmon : Nat) (vosm : Int32) (vohp : Int32) (vmw : Nat) (vmf : Nat) (vmb : Nat) (vomb : Int32) (vmd : Nat) (vmc : Nat) (vocm : Int32) (voct : Int32) (vocy : Int32) (vmx : Nat) (votx : Int32) (vose : Int32) (vml : Nat) (vmwr : Nat) (voln : Int32) (vohw : Int32) (vmno : Nat) (vond : Int32) (voon : Int32) (vowi : Int32) (votop : Int32) (vmnf : Nat → Int32) (vmdf : Nat → Int32) (vmcf : Nat → Int32) (vm : Int32) (vlf : Int32) (vti : Int32) (vwe : Int32) (u : Int32 × Int32 × (Nat → Int32) × Int32 × (Nat → Int32)) : va_W := [(vo, .inr (12, [.int voth, .ref vmt, .int votp, .int vosz, .int volm, .int voto, .int vofr, .int vokd, .int vonu, .int vosg, .int vofa, .int vopl, .long vowd, .int votd, .ref vmn, .ref vmr, .ref vmk, .ref vms, .ref vma, .ref vmm, .ref vmrn, .ref vmkn, .ref vmik, .ref vmon, .int vosm, .int vohp, .ref vmw, .ref vmf, .ref vmb, .int vomb, .ref vmd, .ref vmc, .int u.1, .int u.2.1, .int u.2.2.2.1, .ref vmx, .int votx, .int vose, .ref vml, .ref vmwr, .int voln, .int vohw, .ref vmno, .int vond, .int voon, .int vowi, .int votop])), (vmn, .inl (cy 0, 575, .inl vmnf)), (vmd, .inl (cy 0, 10, .inl u.2.2.2.2)), (vmc, .inl (cy 0, 10, .inl u.2.2.1))]
set_option maxHeartbeats 4000000 in
set_option maxRecDepth 100000 in
theorem m_careerFrom_4 (l : Launch) (dC : Nat → ClassId) (dI : Nat → Nat → Nat) (cy : Nat → ClassId) (sz : Nat) (vnh : Nat → Int32) (vo : Nat) (voth : Int32) (vmt : Nat) (votp : Int32) (vosz : Int32) (volm : Int32) (voto : Int32) (vofr : Int32) (vokd : Int32) (vonu : Int32) (vosg : Int32) (vofa : Int32) (vopl : Int32) (vowd : Int64) (votd : Int32) (vmn : Nat) (vmr : Nat) (vmk : Nat) (vms : Nat) (vma : Nat) (vmm : Nat) (vmrn : Nat) (vmkn : Nat) (vmik : Nat) (vmon : Nat) (vosm : Int32) (vohp : Int32) (vmw : Nat) (vmf : Nat) (vmb : Nat) (vomb : Int32) (vmd : Nat) (vmc : Nat) (vocm : Int32) (voct : Int32) (vocy : Int32) (vmx : Nat) (votx : Int32) (vose : Int32) (vml : Nat) (vmwr : Nat) (voln : Int32) (vohw : Int32) (vmno : Nat) (vond : Int32) (voon : Int32) (vowi : Int32) (votop : Int32) (vmnf : Nat → Int32) (vmdf : Nat → Int32) (vmcf : Nat → Int32) (vm : Int32) (vlf : Int32) (vti : Int32) (vwe : Int32) (r_vocy : 0 ≤ (vocy : Int32).toInt ∧ (vocy : Int32).toInt ≤ 10) (r_vm : 0 ≤ (vm : Int32).toInt ∧ (vm : Int32).toInt ≤ 6) (r_vlf : 0 ≤ (vlf : Int32).toInt ∧ (vlf : Int32).toInt ≤ 10) (p_vmnf : NW vnh vmnf) (hd : 4 ≤ (vmnf 1).toInt) : Met l yX11_careerFrom (wl yX11_careerFrom cX11_careerFrom 8 none) ({ frames := 7, cells := 0, slots := 0, locals := 448 }) (Pw (dC, dI) vwCl cy [(vo, .inr (12, [.int voth, .ref vmt, .int votp, .int vosz, .int volm, .int voto, .int vofr, .int vokd, .int vonu, .int vosg, .int vofa, .int vopl, .long vowd, .int votd, .ref vmn, .ref vmr, .ref vmk, .ref vms, .ref vma, .ref vmm, .ref vmrn, .ref vmkn, .ref vmik, .ref vmon, .int vosm, .int vohp, .ref vmw, .ref vmf, .ref vmb, .int vomb, .ref vmd, .ref vmc, .int vocm, .int voct, .int vocy, .ref vmx, .int votx, .int vose, .ref vml, .ref vmwr, .int voln, .int vohw, .ref vmno, .int vond, .int voon, .int vowi, .int votop])), (vmn, .inl (cy 0, 575, .inl vmnf)), (vmd, .inl (cy 0, 10, .inl vmdf)), (vmc, .inl (cy 0, 10, .inl vmcf))] sz [.ref vo, .int vm, .int 4, .int vlf, .int vti, .int vwe] nE) (Qv (dC, dI) vwCl (fun (u : Int32 × Int32 × (Nat → Int32) × Int32 × (Nat → Int32)) => (0 ≤ (u.2.2.2.1 : Int32).toInt ∧ (u.2.2.2.1 : Int32).toInt ≤ 10)) (O_m_careerFrom_4 cy vnh vo voth vmt votp vosz volm voto vofr vokd vonu vosg vofa vopl vowd votd vmn vmr vmk vms vma vmm vmrn vmkn vmik vmon vosm vohp vmw vmf vmb vomb vmd vmc vocm voct vocy vmx votx vose vml vmwr voln vohw vmno vond voon vowi votop vmnf vmdf vmcf vm vlf vti vwe) (va_A [(vo, .inr (12, [.int voth, .ref vmt, .int votp, .int vosz, .int volm, .int voto, .int vofr, .int vokd, .int vonu, .int vosg, .int vofa, .int vopl, .long vowd, .int votd, .ref vmn, .ref vmr, .ref vmk, .ref vms, .ref vma, .ref vmm, .ref vmrn, .ref vmkn, .ref vmik, .ref vmon, .int vosm, .int vohp, .ref vmw, .ref vmf, .ref vmb, .int vomb, .ref vmd, .ref vmc, .int vocm, .int voct, .int vocy, .ref vmx, .int votx, .int vose, .ref vml, .ref vmwr, .int voln, .int vohw, .ref vmno, .int vond, .int voon, .int vowi, .int votop])), (vmn, .inl (cy 0, 575, .inl vmnf)), (vmd, .inl (cy 0, 10, .inl vmdf)), (vmc, .inl (cy 0, 10, .inl vmcf))] sz)) 0 0 (va_A [(vo, .inr (12, [.int voth, .ref vmt, .int votp, .int vosz, .int volm, .int voto, .int vofr, .int vokd, .int vonu, .int vosg, .int vofa, .int vopl, .long vowd, .int votd, .ref vmn, .ref vmr, .ref vmk, .ref vms, .ref vma, .ref vmm, .ref vmrn, .ref vmkn, .ref vmik, .ref vmon, .int vosm, .int vohp, .ref vmw, .ref vmf, .ref vmb, .int vomb, .ref vmd, .ref vmc, .int vocm, .int voct, .int vocy, .ref vmx, .int votx, .int vose, .ref vml, .ref vmwr, .int voln, .int vohw, .ref vmno, .int vond, .int voon, .int vowi, .int votop])), (vmn, .inl (cy 0, 575, .inl vmnf)), (vmd, .inl (cy 0, 10, .inl vmdf)), (vmc, .inl (cy 0, 10, .inl vmcf))] sz) := by
  refine mw (Qc := Qv (dC, dI) vwCl (fun (u : Int32 × Int32 × (Nat → Int32) × Int32 × (Nat → Int32)) => (0 ≤ (u.2.2.2.1 : Int32).toInt ∧ (u.2.2.2.1 : Int32).toInt ≤ 10)) (O_m_careerFrom_4 cy vnh vo voth vmt votp vosz volm voto vofr vokd vonu vosg vofa vopl vowd votd vmn vmr vmk vms vma vmm vmrn vmkn vmik vmon vosm vohp vmw vmf vmb vomb vmd vmc vocm voct vocy vmx votx vose vml vmwr voln vohw vmno vond voon vowi votop vmnf vmdf vmcf vm vlf vti vwe)) RX11 rfl (by decide +kernel) (Nat.le_of_ble_eq_true rfl) ?_
  intro p e s m below meth c A hx hb hr hlocks av9 hav hts hown hnm hml hK hP hD hA hS hE hAe Q9 hQ9 ls hl
  have hl : lv_has ls 8 [(0, .ref vo), (1, .int vm), (2, .int 4), (3, .int vlf), (4, .int vti), (5, .int vwe)] := hl
  refine lv_iload_n hx hb dX11_careerFrom_0 rfl (lv_at hl 2 rfl) ?_
  refine lv_aload_n hx hb dX11_careerFrom_1 rfl (lv_at hl 0 rfl) ?_
  refine gf_X11_98 hx hb hts hown hK hP 0 rfl rfl dX11_careerFrom_2 ?_
  refine lv_iconst (v := 1) hx hb dX11_careerFrom_5 (by decide) ?_
  have k_1 : (1 : Int32).toInt = 1 := by decide
  have hin_1 : vp_in (1 : Int32) 575 := vp_in_iff.mpr ⟨by omega, by omega⟩
  refine va_iald hx hb hK hP 1 0 rfl rfl hin_1 dX11_careerFrom_6 ?_
  refine lv_topi (fun z_2 ez_2 => ?_)
  have bz_2 := p_vmnf.a1 (x := 1) ⟨by omega, by omega⟩ ez_2
  have tz_2 : z_2.toInt = (vmnf 1).toInt := by rw [ez_2]; rfl
  have k_4 : (4 : Int32).toInt = 4 := by decide
  refine lv_icmp_ne (tgt := 85) hx hb dX11_careerFrom_7 (by decide) (fun c_3 => ?_) (fun c_3 => ?_)
  · skip
    have c_3 : ¬ ((4 : Int32).toInt = z_2.toInt) := fun h9 => c_3 (i_eq.mpr h9)
    refine lv_iload_n hx hb dX11_careerFrom_85 rfl (lv_at hl 3 rfl) ?_
    refine lv_bipush (v := 9) hx hb dX11_careerFrom_86 (by decide) ?_
    refine lv_aload_n hx hb dX11_careerFrom_88 rfl (lv_at hl 0 rfl) ?_
    refine lv_iload_n hx hb dX11_careerFrom_89 rfl (lv_at hl 1 rfl) ?_
    refine lv_iload_n hx hb dX11_careerFrom_90 rfl (lv_at hl 2 rfl) ?_
    refine jr_i (rVr (As := [.int vm, .int 4]) (rest := [.int 9, .int vlf]) (ci := 12) ⟨hx, hb, hml, hown, hts⟩ (m_didOf l dC dI cy vnh vo voth vmt votp vosz volm voto vofr vokd vonu vosg vofa vopl vowd votd vmn vmr vmk vms vma vmm vmrn vmkn vmik vmon vosm vohp vmw vmf vmb vomb vmd vmc vocm voct vocy vmx votx vose vml vmwr voln vohw vmno vond voon vowi votop vmnf vm 4 ⟨by omega, by omega⟩ ⟨by omega, by omega⟩ p_vmnf) (cw_X11_228 hts rfl rfl ⟨Nat.le_of_ble_eq_true rfl, Nat.le_of_ble_eq_true rfl⟩) hP hK [0, 1] rfl rfl rfl rfl hl.1 rfl (Nat.le_of_ble_eq_true rfl) dX11_careerFrom_91 ⟨Nat.le_of_ble_eq_true rfl, Nat.le_of_ble_eq_true rfl⟩) hP hS (fun r_4 H locs hp_5 hP hS => ?_)
    refine lv_isub hx hb dX11_careerFrom_94 ?_
    refine lv_topi (fun z_6 ez_6 => ?_)
    refine jr_i (rSr (As := [.int vlf, .int z_6]) (rest := []) ⟨hx, hb, hml, hown, hts⟩ (m_least l dC dI cy vlf z_6 ) (cw_X11_288 hts rfl rfl ⟨Nat.le_of_ble_eq_true rfl, Nat.le_of_ble_eq_true rfl⟩) hP hK [] rfl rfl hl.1 rfl (Nat.le_of_ble_eq_true rfl) dX11_careerFrom_95 ⟨Nat.le_of_ble_eq_true rfl, Nat.le_of_ble_eq_true rfl⟩) hP hS (fun r_7 H locs hp_8 hP hS => ?_)
    have hp_8 : ((r_7 : Int32).toInt ≤ (vlf : Int32).toInt) ∧ ((r_7 : Int32).toInt ≤ (z_6 : Int32).toInt) ∧ (((r_7 : Int32).toInt = (vlf : Int32).toInt ∨ (r_7 : Int32).toInt = (z_6 : Int32).toInt)) := hp_8
    obtain ⟨q_9, q_10, q_11⟩ := hp_8
    refine lv_istore (lv' := [(6, .int r_7), (0, .ref vo), (1, .int vm), (2, .int 4), (3, .int vlf), (4, .int vti), (5, .int vwe)]) hx hb dX11_careerFrom_98 hl (by decide) rfl (fun ls hl => ?_)
    refine lv_iconst (v := 0) hx hb dX11_careerFrom_100 (by decide) ?_
    refine lv_istore (lv' := [(7, .int 0), (6, .int r_7), (0, .ref vo), (1, .int vm), (2, .int 4), (3, .int vlf), (4, .int vti), (5, .int vwe)]) hx hb dX11_careerFrom_101 hl (by decide) rfl (fun ls hl => ?_)
    have loop12 : ∀ (n12 : Nat) (x_13 : Int32) (x_14 : Int32) (x_15 : Int32) (x_16 : Int32) (g_17 : Nat → Int32) (g_18 : Nat → Int32), (0 ≤ x_13.toInt ∧ x_13.toInt ≤ 11) → (0 ≤ x_16.toInt ∧ x_16.toInt ≤ 10) → 11 - x_13.toInt < (n12 : Int) → ∀ (H : Heap) (locs : List Loc), va_P (dC, dI) vwCl [(vo, .inr (12, [.int voth, .ref vmt, .int votp, .int vosz, .int volm, .int voto, .int vofr, .int vokd, .int vonu, .int vosg, .int vofa, .int vopl, .long vowd, .int votd, .ref vmn, .ref vmr, .ref vmk, .ref vms, .ref vma, .ref vmm, .ref vmrn, .ref vmkn, .ref vmik, .ref vmon, .int vosm, .int vohp, .ref vmw, .ref vmf, .ref vmb, .int vomb, .ref vmd, .ref vmc, .int x_14, .int x_15, .int x_16, .ref vmx, .int votx, .int vose, .ref vml, .ref vmwr, .int voln, .int vohw, .ref vmno, .int vond, .int voon, .int vowi, .int votop])), (vmn, .inl (cy 0, 575, .inl vmnf)), (vmd, .inl (cy 0, 10, .inl g_18)), (vmc, .inl (cy 0, 10, .inl g_17))] H → va_D A [(vo, .inr (12, [.int voth, .ref vmt, .int votp, .int vosz, .int volm, .int voto, .int vofr, .int vokd, .int vonu, .int vosg, .int vofa, .int vopl, .long vowd, .int votd, .ref vmn, .ref vmr, .ref vmk, .ref vms, .ref vma, .ref vmm, .ref vmrn, .ref vmkn, .ref vmik, .ref vmon, .int vosm, .int vohp, .ref vmw, .ref vmf, .ref vmb, .int vomb, .ref vmd, .ref vmc, .int x_14, .int x_15, .int x_16, .ref vmx, .int votx, .int vose, .ref vml, .ref vmwr, .int voln, .int vohw, .ref vmno, .int vond, .int voon, .int vowi, .int votop])), (vmn, .inl (cy 0, 575, .inl vmnf)), (vmd, .inl (cy 0, 10, .inl g_18)), (vmc, .inl (cy 0, 10, .inl g_17))] → va_S A s.heap H locs → ∀ ls : Array Slot, lv_has ls 8 [(7, .int x_13), (6, .int r_7), (0, .ref vo), (1, .int vm), (2, .int 4), (3, .int vlf), (4, .int vti), (5, .int vwe)] → W p l e ({ frames := 7, cells := 0, slots := 0, locals := 448 }) s m av9 below meth c H locs 0 0 Q9 (F0 m 103 ls []) := by
      intro n12
      induction n12 with
      | zero =>
        intro x_13 x_14 x_15 x_16 g_17 g_18 bx_13 bx_16 hn12 H locs hP hD hS ls hl
        exfalso; omega
      | succ n12 ih12 =>
        intro x_13 x_14 x_15 x_16 g_17 g_18 bx_13 bx_16 hn12 H locs hP hD hS ls hl
        refine lv_iload hx hb dX11_careerFrom_103 (lv_at hl 0 rfl) ?_
        refine lv_iload hx hb dX11_careerFrom_105 (lv_at hl 1 rfl) ?_
        refine lv_icmp_gt (tgt := 180) hx hb dX11_careerFrom_107 (by decide) (fun c_19 => ?_) (fun c_19 => ?_)
        · skip
          have c_19 : r_7.toInt < x_13.toInt := i_lt.mp c_19
          rw [hQ9]
          exact re_v (x_14, x_15, g_17, x_16, g_18) hx hb hr hlocks (show 0 ≤ (x_16 : Int32).toInt ∧ (x_16 : Int32).toInt ≤ 10 from ⟨by omega, by omega⟩) (hP.sub [0, 1, 2, 3] rfl) (hD.sub [0, 1, 2, 3] rfl rfl) hS dX11_careerFrom_180
        · skip
          have c_19 : ¬ (r_7.toInt < x_13.toInt) := fun h9 => c_19 (i_lt.mpr h9)
          refine lv_iload hx hb dX11_careerFrom_110 (lv_at hl 7 rfl) ?_
          refine lv_iload hx hb dX11_careerFrom_112 (lv_at hl 0 rfl) ?_
          refine lv_aload_n hx hb dX11_careerFrom_114 rfl (lv_at hl 2 rfl) ?_
          refine gf_X11_98 hx hb hts hown hK hP 0 rfl rfl dX11_careerFrom_115 ?_
          refine lv_bipush (v := 11) hx hb dX11_careerFrom_118 (by decide) ?_
          refine lv_iload_n hx hb dX11_careerFrom_120 rfl (lv_at hl 4 rfl) ?_
          refine lv_iadd hx hb dX11_careerFrom_121 ?_
          refine as_i 15 (by decide) ?_
          have k_15 : (15 : Int32).toInt = 15 := by decide
          have hin_20 : vp_in (15 : Int32) 575 := vp_in_iff.mpr ⟨by omega, by omega⟩
          refine va_iald hx hb hK hP 1 0 rfl rfl hin_20 dX11_careerFrom_122 ?_
          refine lv_topi (fun z_21 ez_21 => ?_)
          have bz_21 := p_vmnf.aw (x := 15) ⟨by omega, by omega⟩ ez_21
          have tz_21 : z_21.toInt = (vmnf 15).toInt := by rw [ez_21]; rfl
          refine lv_imul hx hb dX11_careerFrom_123 ?_
          refine lv_topi (fun z_22 ez_22 => ?_)
          have bz_22 : 0 ≤ z_22.toInt ∧ z_22.toInt ≤ 400 ∧ z_22.toInt = x_13.toInt * z_21.toInt := i_mulb (A := 10) (B := 40) ez_22 ⟨by omega, by omega⟩ ⟨by omega, by omega⟩ (by decide)
          refine lv_iadd hx hb dX11_careerFrom_124 ?_
          refine lv_topi (fun z_23 ez_23 => ?_)
          refine lv_aload_n hx hb dX11_careerFrom_125 rfl (lv_at hl 2 rfl) ?_
          refine gf_X11_98 hx hb hts hown hK hP 0 rfl rfl dX11_careerFrom_126 ?_
          refine lv_iconst (v := 2) hx hb dX11_careerFrom_129 (by decide) ?_
          have k_2 : (2 : Int32).toInt = 2 := by decide
          have hin_24 : vp_in (2 : Int32) 575 := vp_in_iff.mpr ⟨by omega, by omega⟩
          refine va_iald hx hb hK hP 1 0 rfl rfl hin_24 dX11_careerFrom_130 ?_
          refine lv_topi (fun z_25 ez_25 => ?_)
          have tz_25 : z_25.toInt = (vmnf 2).toInt := by rw [ez_25]; rfl
          refine lv_icmp_gt (tgt := 180) hx hb dX11_careerFrom_131 (by decide) (fun c_26 => ?_) (fun c_26 => ?_)
          · skip
            have c_26 : z_25.toInt < z_23.toInt := i_lt.mp c_26
            rw [hQ9]
            exact re_v (x_14, x_15, g_17, x_16, g_18) hx hb hr hlocks (show 0 ≤ (x_16 : Int32).toInt ∧ (x_16 : Int32).toInt ≤ 10 from ⟨by omega, by omega⟩) (hP.sub [0, 1, 2, 3] rfl) (hD.sub [0, 1, 2, 3] rfl rfl) hS dX11_careerFrom_180
          · skip
            have c_26 : ¬ (z_25.toInt < z_23.toInt) := fun h9 => c_26 (i_lt.mpr h9)
            refine lv_aload_n hx hb dX11_careerFrom_134 rfl (lv_at hl 2 rfl) ?_
            refine gf_X11_142 hx hb hts hown hK hP 0 rfl rfl dX11_careerFrom_135 ?_
            refine lv_iload_n hx hb dX11_careerFrom_138 rfl (lv_at hl 4 rfl) ?_
            refine lv_iload hx hb dX11_careerFrom_139 (lv_at hl 0 rfl) ?_
            have hin_27 : vp_in (4 : Int32) 10 := vp_in_iff.mpr ⟨by omega, by omega⟩
            refine va_iast hx hb hK hP hD hS 2 0 rfl rfl hin_27 dX11_careerFrom_141 (fun H locs hP hD hS => ?_)
            obtain ⟨f_28, ef_28⟩ : ∃ z : Nat → Int32, z = upd g_18 (Int32.toNatClampNeg 4) x_13 := ⟨_, rfl⟩
            have hP : va_P (dC, dI) vwCl [(vo, .inr (12, [.int voth, .ref vmt, .int votp, .int vosz, .int volm, .int voto, .int vofr, .int vokd, .int vonu, .int vosg, .int vofa, .int vopl, .long vowd, .int votd, .ref vmn, .ref vmr, .ref vmk, .ref vms, .ref vma, .ref vmm, .ref vmrn, .ref vmkn, .ref vmik, .ref vmon, .int vosm, .int vohp, .ref vmw, .ref vmf, .ref vmb, .int vomb, .ref vmd, .ref vmc, .int x_14, .int x_15, .int x_16, .ref vmx, .int votx, .int vose, .ref vml, .ref vmwr, .int voln, .int vohw, .ref vmno, .int vond, .int voon, .int vowi, .int votop])), (vmn, .inl (cy 0, 575, .inl vmnf)), (vmd, .inl (cy 0, 10, .inl f_28)), (vmc, .inl (cy 0, 10, .inl g_17))] H := by rw [ef_28]; exact hP
            have hD : va_D A [(vo, .inr (12, [.int voth, .ref vmt, .int votp, .int vosz, .int volm, .int voto, .int vofr, .int vokd, .int vonu, .int vosg, .int vofa, .int vopl, .long vowd, .int votd, .ref vmn, .ref vmr, .ref vmk, .ref vms, .ref vma, .ref vmm, .ref vmrn, .ref vmkn, .ref vmik, .ref vmon, .int vosm, .int vohp, .ref vmw, .ref vmf, .ref vmb, .int vomb, .ref vmd, .ref vmc, .int x_14, .int x_15, .int x_16, .ref vmx, .int votx, .int vose, .ref vml, .ref vmwr, .int voln, .int vohw, .ref vmno, .int vond, .int voon, .int vowi, .int votop])), (vmn, .inl (cy 0, 575, .inl vmnf)), (vmd, .inl (cy 0, 10, .inl f_28)), (vmc, .inl (cy 0, 10, .inl g_17))] := by rw [ef_28]; exact hD
            refine lv_aload_n hx hb dX11_careerFrom_142 rfl (lv_at hl 2 rfl) ?_
            refine lv_iload_n hx hb dX11_careerFrom_143 rfl (lv_at hl 3 rfl) ?_
            refine lv_iload_n hx hb dX11_careerFrom_144 rfl (lv_at hl 4 rfl) ?_
            refine lv_iconst (v := 1) hx hb dX11_careerFrom_145 (by decide) ?_
            refine lv_iadd hx hb dX11_careerFrom_146 ?_
            refine as_i 5 (by decide) ?_
            refine lv_iload_n hx hb dX11_careerFrom_147 rfl (lv_at hl 5 rfl) ?_
            refine lv_iload hx hb dX11_careerFrom_148 (lv_at hl 0 rfl) ?_
            refine lv_isub hx hb dX11_careerFrom_150 ?_
            refine lv_topi (fun z_29 ez_29 => ?_)
            have bz_29 : z_29.toInt = vlf.toInt - x_13.toInt := i_sub ez_29 (by omega) (by omega)
            refine lv_iload hx hb dX11_careerFrom_151 (lv_at hl 6 rfl) ?_
            refine lv_iload hx hb dX11_careerFrom_153 (lv_at hl 0 rfl) ?_
            refine lv_iadd hx hb dX11_careerFrom_155 ?_
            refine lv_topi (fun z_30 ez_30 => ?_)
            refine lv_iload hx hb dX11_careerFrom_156 (lv_at hl 7 rfl) ?_
            refine lv_iload hx hb dX11_careerFrom_158 (lv_at hl 0 rfl) ?_
            refine lv_aload_n hx hb dX11_careerFrom_160 rfl (lv_at hl 2 rfl) ?_
            refine gf_X11_98 hx hb hts hown hK hP 0 rfl rfl dX11_careerFrom_161 ?_
            refine lv_bipush (v := 11) hx hb dX11_careerFrom_164 (by decide) ?_
            refine lv_iload_n hx hb dX11_careerFrom_166 rfl (lv_at hl 4 rfl) ?_
            refine lv_iadd hx hb dX11_careerFrom_167 ?_
            refine as_i 15 (by decide) ?_
            have hin_31 : vp_in (15 : Int32) 575 := vp_in_iff.mpr ⟨by omega, by omega⟩
            refine va_iald hx hb hK hP 1 0 rfl rfl hin_31 dX11_careerFrom_168 ?_
            refine lv_topi (fun z_32 ez_32 => ?_)
            have bz_32 := p_vmnf.aw (x := 15) ⟨by omega, by omega⟩ ez_32
            have tz_32 : z_32.toInt = (vmnf 15).toInt := by rw [ez_32]; rfl
            refine lv_imul hx hb dX11_careerFrom_169 ?_
            refine lv_topi (fun z_33 ez_33 => ?_)
            have bz_33 : 0 ≤ z_33.toInt ∧ z_33.toInt ≤ 400 ∧ z_33.toInt = x_13.toInt * z_32.toInt := i_mulb (A := 10) (B := 40) ez_33 ⟨by omega, by omega⟩ ⟨by omega, by omega⟩ (by decide)
            refine lv_iadd hx hb dX11_careerFrom_170 ?_
            refine lv_topi (fun z_34 ez_34 => ?_)
            refine jn_v (wr := []) (rV (As := [.int vm, .int 5, .int z_29, .int z_30, .int z_34]) (rest := []) (ci := 12) ⟨hx, hb, hml, hown, hts⟩ (m_careerFrom_5 l dC dI cy _ vnh vo voth vmt votp vosz volm voto vofr vokd vonu vosg vofa vopl vowd votd vmn vmr vmk vms vma vmm vmrn vmkn vmik vmon vosm vohp vmw vmf vmb vomb vmd vmc x_14 x_15 x_16 vmx votx vose vml vmwr voln vohw vmno vond voon vowi votop vmnf f_28 g_17 vm z_29 z_30 z_34 ⟨by omega, by omega⟩ r_vm ⟨by omega, by omega⟩ p_vmnf (by omega)) (cw_X11_331 hts rfl rfl ⟨Nat.le_of_ble_eq_true rfl, Nat.le_of_ble_eq_true rfl⟩) hP hD hK [0, 1, 2, 3] rfl rfl rfl rfl bl0 e0 rfl hl.1 rfl (Nat.le_of_ble_eq_true rfl) dX11_careerFrom_171 ⟨Nat.le_of_ble_eq_true rfl, Nat.le_of_ble_eq_true rfl⟩) hP hD hS hA [0, 1, 2, 3] [] rfl rfl rfl (by decide) (fun u_37 H locs hp_36 hP hD hS => ?_)
            obtain ⟨vocm_38, voct_39, vmcf_40, vocy_41, vmdf_42⟩ := u_37
            have hp_36 : (0 ≤ (vocy_41 : Int32).toInt ∧ (vocy_41 : Int32).toInt ≤ 10) := hp_36
            have q_43 := hp_36
            have hP : va_P (dC, dI) vwCl [(vo, .inr (12, [.int voth, .ref vmt, .int votp, .int vosz, .int volm, .int voto, .int vofr, .int vokd, .int vonu, .int vosg, .int vofa, .int vopl, .long vowd, .int votd, .ref vmn, .ref vmr, .ref vmk, .ref vms, .ref vma, .ref vmm, .ref vmrn, .ref vmkn, .ref vmik, .ref vmon, .int vosm, .int vohp, .ref vmw, .ref vmf, .ref vmb, .int vomb, .ref vmd, .ref vmc, .int vocm_38, .int voct_39, .int vocy_41, .ref vmx, .int votx, .int vose, .ref vml, .ref vmwr, .int voln, .int vohw, .ref vmno, .int vond, .int voon, .int vowi, .int votop])), (vmn, .inl (cy 0, 575, .inl vmnf)), (vmd, .inl (cy 0, 10, .inl vmdf_42)), (vmc, .inl (cy 0, 10, .inl vmcf_40))] H := hP
            have hD : va_D A [(vo, .inr (12, [.int voth, .ref vmt, .int votp, .int vosz, .int volm, .int voto, .int vofr, .int vokd, .int vonu, .int vosg, .int vofa, .int vopl, .long vowd, .int votd, .ref vmn, .ref vmr, .ref vmk, .ref vms, .ref vma, .ref vmm, .ref vmrn, .ref vmkn, .ref vmik, .ref vmon, .int vosm, .int vohp, .ref vmw, .ref vmf, .ref vmb, .int vomb, .ref vmd, .ref vmc, .int vocm_38, .int voct_39, .int vocy_41, .ref vmx, .int votx, .int vose, .ref vml, .ref vmwr, .int voln, .int vohw, .ref vmno, .int vond, .int voon, .int vowi, .int votop])), (vmn, .inl (cy 0, 575, .inl vmnf)), (vmd, .inl (cy 0, 10, .inl vmdf_42)), (vmc, .inl (cy 0, 10, .inl vmcf_40))] := hD
            obtain ⟨z_44, ez_44⟩ : ∃ z : Int32, z = x_13 + 1 := ⟨_, rfl⟩
            have bz_44 : z_44.toInt = x_13.toInt + (1 : Int32).toInt := i_add ez_44 (by omega) (by omega)
            refine lv_iinc (v := z_44) (lv' := [(7, .int z_44), (6, .int r_7), (0, .ref vo), (1, .int vm), (2, .int 4), (3, .int vlf), (4, .int vti), (5, .int vwe)]) hx hb dX11_careerFrom_174 hl (k := 0) rfl ez_44.symm (by decide) rfl (fun ls hl => ?_)
            refine lv_goto (tgt := 103) hx hb dX11_careerFrom_177 (by decide) ?_
            exact ih12 z_44 vocm_38 voct_39 vocy_41 vmcf_40 vmdf_42 ⟨by omega, by omega⟩ ⟨by omega, by omega⟩ (by omega) _ _ (hP.sub [0, 1, 2, 3] rfl) (hD.sub [0, 1, 2, 3] rfl rfl) hS ls (lv_sub hl [0, 1, 2, 3, 4, 5, 6, 7] rfl)
    have k_0 : (0 : Int32).toInt = 0 := by decide
    exact loop12 ((11 - (0 : Int32).toInt).toNat + 1) 0 vocm voct vocy vmcf vmdf ⟨by omega, by omega⟩ ⟨by omega, by omega⟩ (by omega) _ _ hP hD hS ls (lv_sub hl [0, 1, 2, 3, 4, 5, 6, 7] rfl)
  · skip
    have c_3 : (4 : Int32).toInt = z_2.toInt := i_eq.mp c_3
    have join45 : ∀ (H : Heap) (locs : List Loc), va_P (dC, dI) vwCl [(vo, .inr (12, [.int voth, .ref vmt, .int votp, .int vosz, .int volm, .int voto, .int vofr, .int vokd, .int vonu, .int vosg, .int vofa, .int vopl, .long vowd, .int votd, .ref vmn, .ref vmr, .ref vmk, .ref vms, .ref vma, .ref vmm, .ref vmrn, .ref vmkn, .ref vmik, .ref vmon, .int vosm, .int vohp, .ref vmw, .ref vmf, .ref vmb, .int vomb, .ref vmd, .ref vmc, .int vocm, .int voct, .int vocy, .ref vmx, .int votx, .int vose, .ref vml, .ref vmwr, .int voln, .int vohw, .ref vmno, .int vond, .int voon, .int vowi, .int votop])), (vmn, .inl (cy 0, 575, .inl vmnf)), (vmd, .inl (cy 0, 10, .inl vmdf)), (vmc, .inl (cy 0, 10, .inl vmcf))] H → va_D A [(vo, .inr (12, [.int voth, .ref vmt, .int votp, .int vosz, .int volm, .int voto, .int vofr, .int vokd, .int vonu, .int vosg, .int vofa, .int vopl, .long vowd, .int votd, .ref vmn, .ref vmr, .ref vmk, .ref vms, .ref vma, .ref vmm, .ref vmrn, .ref vmkn, .ref vmik, .ref vmon, .int vosm, .int vohp, .ref vmw, .ref vmf, .ref vmb, .int vomb, .ref vmd, .ref vmc, .int vocm, .int voct, .int vocy, .ref vmx, .int votx, .int vose, .ref vml, .ref vmwr, .int voln, .int vohw, .ref vmno, .int vond, .int voon, .int vowi, .int votop])), (vmn, .inl (cy 0, 575, .inl vmnf)), (vmd, .inl (cy 0, 10, .inl vmdf)), (vmc, .inl (cy 0, 10, .inl vmcf))] → va_S A s.heap H locs → ∀ ls : Array Slot, lv_has ls 8 [(0, .ref vo), (1, .int vm), (2, .int 4), (3, .int vlf), (4, .int vti), (5, .int vwe)] → W p l e ({ frames := 7, cells := 0, slots := 0, locals := 448 }) s m av9 below meth c H locs 0 0 Q9 (F0 m 38 ls []) := by
      intro  H locs hP hD hS ls hl
      refine lv_aload_n hx hb dX11_careerFrom_38 rfl (lv_at hl 0 rfl) ?_
      refine lv_iload hx hb dX11_careerFrom_39 (lv_at hl 5 rfl) ?_
      refine pf_X11_322 hx hb hts hown hK hP hD hS 0 rfl rfl rfl (Nat.le_of_ble_eq_true rfl) dX11_careerFrom_41 (fun H locs hP hD hS => ?_)
      have hP : va_P (dC, dI) vwCl [(vo, .inr (12, [.int voth, .ref vmt, .int votp, .int vosz, .int volm, .int voto, .int vofr, .int vokd, .int vonu, .int vosg, .int vofa, .int vopl, .long vowd, .int votd, .ref vmn, .ref vmr, .ref vmk, .ref vms, .ref vma, .ref vmm, .ref vmrn, .ref vmkn, .ref vmik, .ref vmon, .int vosm, .int vohp, .ref vmw, .ref vmf, .ref vmb, .int vomb, .ref vmd, .ref vmc, .int vwe, .int voct, .int vocy, .ref vmx, .int votx, .int vose, .ref vml, .ref vmwr, .int voln, .int vohw, .ref vmno, .int vond, .int voon, .int vowi, .int votop])), (vmn, .inl (cy 0, 575, .inl vmnf)), (vmd, .inl (cy 0, 10, .inl vmdf)), (vmc, .inl (cy 0, 10, .inl vmcf))] H := hP
      have hD : va_D A [(vo, .inr (12, [.int voth, .ref vmt, .int votp, .int vosz, .int volm, .int voto, .int vofr, .int vokd, .int vonu, .int vosg, .int vofa, .int vopl, .long vowd, .int votd, .ref vmn, .ref vmr, .ref vmk, .ref vms, .ref vma, .ref vmm, .ref vmrn, .ref vmkn, .ref vmik, .ref vmon, .int vosm, .int vohp, .ref vmw, .ref vmf, .ref vmb, .int vomb, .ref vmd, .ref vmc, .int vwe, .int voct, .int vocy, .ref vmx, .int votx, .int vose, .ref vml, .ref vmwr, .int voln, .int vohw, .ref vmno, .int vond, .int voon, .int vowi, .int votop])), (vmn, .inl (cy 0, 575, .inl vmnf)), (vmd, .inl (cy 0, 10, .inl vmdf)), (vmc, .inl (cy 0, 10, .inl vmcf))] := hD
      refine lv_aload_n hx hb dX11_careerFrom_44 rfl (lv_at hl 0 rfl) ?_
      refine lv_iload hx hb dX11_careerFrom_45 (lv_at hl 4 rfl) ?_
      refine pf_X11_325 hx hb hts hown hK hP hD hS 0 rfl rfl rfl (Nat.le_of_ble_eq_true rfl) dX11_careerFrom_47 (fun H locs hP hD hS => ?_)
      have hP : va_P (dC, dI) vwCl [(vo, .inr (12, [.int voth, .ref vmt, .int votp, .int vosz, .int volm, .int voto, .int vofr, .int vokd, .int vonu, .int vosg, .int vofa, .int vopl, .long vowd, .int votd, .ref vmn, .ref vmr, .ref vmk, .ref vms, .ref vma, .ref vmm, .ref vmrn, .ref vmkn, .ref vmik, .ref vmon, .int vosm, .int vohp, .ref vmw, .ref vmf, .ref vmb, .int vomb, .ref vmd, .ref vmc, .int vwe, .int vti, .int vocy, .ref vmx, .int votx, .int vose, .ref vml, .ref vmwr, .int voln, .int vohw, .ref vmno, .int vond, .int voon, .int vowi, .int votop])), (vmn, .inl (cy 0, 575, .inl vmnf)), (vmd, .inl (cy 0, 10, .inl vmdf)), (vmc, .inl (cy 0, 10, .inl vmcf))] H := hP
      have hD : va_D A [(vo, .inr (12, [.int voth, .ref vmt, .int votp, .int vosz, .int volm, .int voto, .int vofr, .int vokd, .int vonu, .int vosg, .int vofa, .int vopl, .long vowd, .int votd, .ref vmn, .ref vmr, .ref vmk, .ref vms, .ref vma, .ref vmm, .ref vmrn, .ref vmkn, .ref vmik, .ref vmon, .int vosm, .int vohp, .ref vmw, .ref vmf, .ref vmb, .int vomb, .ref vmd, .ref vmc, .int vwe, .int vti, .int vocy, .ref vmx, .int votx, .int vose, .ref vml, .ref vmwr, .int voln, .int vohw, .ref vmno, .int vond, .int voon, .int vowi, .int votop])), (vmn, .inl (cy 0, 575, .inl vmnf)), (vmd, .inl (cy 0, 10, .inl vmdf)), (vmc, .inl (cy 0, 10, .inl vmcf))] := hD
      refine lv_iconst (v := 0) hx hb dX11_careerFrom_50 (by decide) ?_
      refine lv_istore (lv' := [(6, .int 0), (0, .ref vo), (1, .int vm), (2, .int 4), (3, .int vlf), (4, .int vti), (5, .int vwe)]) hx hb dX11_careerFrom_51 hl (by decide) rfl (fun ls hl => ?_)
      have loop46 : ∀ (n46 : Nat) (x_47 : Int32) (g_48 : Nat → Int32), (0 ≤ x_47.toInt ∧ x_47.toInt ≤ 10) → 10 - x_47.toInt < (n46 : Int) → ∀ (H : Heap) (locs : List Loc), va_P (dC, dI) vwCl [(vo, .inr (12, [.int voth, .ref vmt, .int votp, .int vosz, .int volm, .int voto, .int vofr, .int vokd, .int vonu, .int vosg, .int vofa, .int vopl, .long vowd, .int votd, .ref vmn, .ref vmr, .ref vmk, .ref vms, .ref vma, .ref vmm, .ref vmrn, .ref vmkn, .ref vmik, .ref vmon, .int vosm, .int vohp, .ref vmw, .ref vmf, .ref vmb, .int vomb, .ref vmd, .ref vmc, .int vwe, .int vti, .int vocy, .ref vmx, .int votx, .int vose, .ref vml, .ref vmwr, .int voln, .int vohw, .ref vmno, .int vond, .int voon, .int vowi, .int votop])), (vmn, .inl (cy 0, 575, .inl vmnf)), (vmd, .inl (cy 0, 10, .inl vmdf)), (vmc, .inl (cy 0, 10, .inl g_48))] H → va_D A [(vo, .inr (12, [.int voth, .ref vmt, .int votp, .int vosz, .int volm, .int voto, .int vofr, .int vokd, .int vonu, .int vosg, .int vofa, .int vopl, .long vowd, .int votd, .ref vmn, .ref vmr, .ref vmk, .ref vms, .ref vma, .ref vmm, .ref vmrn, .ref vmkn, .ref vmik, .ref vmon, .int vosm, .int vohp, .ref vmw, .ref vmf, .ref vmb, .int vomb, .ref vmd, .ref vmc, .int vwe, .int vti, .int vocy, .ref vmx, .int votx, .int vose, .ref vml, .ref vmwr, .int voln, .int vohw, .ref vmno, .int vond, .int voon, .int vowi, .int votop])), (vmn, .inl (cy 0, 575, .inl vmnf)), (vmd, .inl (cy 0, 10, .inl vmdf)), (vmc, .inl (cy 0, 10, .inl g_48))] → va_S A s.heap H locs → ∀ ls : Array Slot, lv_has ls 8 [(6, .int x_47), (0, .ref vo), (1, .int vm), (2, .int 4), (3, .int vlf), (4, .int vti), (5, .int vwe)] → W p l e ({ frames := 7, cells := 0, slots := 0, locals := 448 }) s m av9 below meth c H locs 0 0 Q9 (F0 m 53 ls []) := by
        intro n46
        induction n46 with
        | zero =>
          intro x_47 g_48 bx_47 hn46 H locs hP hD hS ls hl
          exfalso; omega
        | succ n46 ih46 =>
          intro x_47 g_48 bx_47 hn46 H locs hP hD hS ls hl
          refine lv_iload hx hb dX11_careerFrom_53 (lv_at hl 0 rfl) ?_
          refine lv_iload_n hx hb dX11_careerFrom_55 rfl (lv_at hl 3 rfl) ?_
          refine lv_icmp_ge (tgt := 79) hx hb dX11_careerFrom_56 (by decide) (fun c_49 => ?_) (fun c_49 => ?_)
          · skip
            have c_49 : (4 : Int32).toInt ≤ x_47.toInt := i_le.mp c_49
            refine lv_aload_n hx hb dX11_careerFrom_79 rfl (lv_at hl 1 rfl) ?_
            refine lv_iload_n hx hb dX11_careerFrom_80 rfl (lv_at hl 3 rfl) ?_
            refine pf_X11_328 hx hb hts hown hK hP hD hS 0 rfl rfl rfl (Nat.le_of_ble_eq_true rfl) dX11_careerFrom_81 (fun H locs hP hD hS => ?_)
            have hP : va_P (dC, dI) vwCl [(vo, .inr (12, [.int voth, .ref vmt, .int votp, .int vosz, .int volm, .int voto, .int vofr, .int vokd, .int vonu, .int vosg, .int vofa, .int vopl, .long vowd, .int votd, .ref vmn, .ref vmr, .ref vmk, .ref vms, .ref vma, .ref vmm, .ref vmrn, .ref vmkn, .ref vmik, .ref vmon, .int vosm, .int vohp, .ref vmw, .ref vmf, .ref vmb, .int vomb, .ref vmd, .ref vmc, .int vwe, .int vti, .int 4, .ref vmx, .int votx, .int vose, .ref vml, .ref vmwr, .int voln, .int vohw, .ref vmno, .int vond, .int voon, .int vowi, .int votop])), (vmn, .inl (cy 0, 575, .inl vmnf)), (vmd, .inl (cy 0, 10, .inl vmdf)), (vmc, .inl (cy 0, 10, .inl g_48))] H := hP
            have hD : va_D A [(vo, .inr (12, [.int voth, .ref vmt, .int votp, .int vosz, .int volm, .int voto, .int vofr, .int vokd, .int vonu, .int vosg, .int vofa, .int vopl, .long vowd, .int votd, .ref vmn, .ref vmr, .ref vmk, .ref vms, .ref vma, .ref vmm, .ref vmrn, .ref vmkn, .ref vmik, .ref vmon, .int vosm, .int vohp, .ref vmw, .ref vmf, .ref vmb, .int vomb, .ref vmd, .ref vmc, .int vwe, .int vti, .int 4, .ref vmx, .int votx, .int vose, .ref vml, .ref vmwr, .int voln, .int vohw, .ref vmno, .int vond, .int voon, .int vowi, .int votop])), (vmn, .inl (cy 0, 575, .inl vmnf)), (vmd, .inl (cy 0, 10, .inl vmdf)), (vmc, .inl (cy 0, 10, .inl g_48))] := hD
            rw [hQ9]
            exact re_v (vwe, vti, g_48, (4 : Int32), vmdf) hx hb hr hlocks (show 0 ≤ (4 : Int32).toInt ∧ (4 : Int32).toInt ≤ 10 from ⟨by omega, by omega⟩) (hP.sub [0, 1, 2, 3] rfl) (hD.sub [0, 1, 2, 3] rfl rfl) hS dX11_careerFrom_84
          · skip
            have c_49 : ¬ ((4 : Int32).toInt ≤ x_47.toInt) := fun h9 => c_49 (i_le.mpr h9)
            refine lv_aload_n hx hb dX11_careerFrom_59 rfl (lv_at hl 1 rfl) ?_
            refine gf_X11_145 hx hb hts hown hK hP 0 rfl rfl dX11_careerFrom_60 ?_
            refine lv_iload hx hb dX11_careerFrom_63 (lv_at hl 0 rfl) ?_
            refine lv_aload_n hx hb dX11_careerFrom_65 rfl (lv_at hl 1 rfl) ?_
            refine gf_X11_142 hx hb hts hown hK hP 0 rfl rfl dX11_careerFrom_66 ?_
            refine lv_iload hx hb dX11_careerFrom_69 (lv_at hl 0 rfl) ?_
            have hin_50 : vp_in x_47 10 := vp_in_iff.mpr ⟨by omega, by omega⟩
            refine va_iald hx hb hK hP 2 0 rfl rfl hin_50 dX11_careerFrom_71 ?_
            refine lv_topi (fun z_51 ez_51 => ?_)
            have hin_52 : vp_in x_47 10 := vp_in_iff.mpr ⟨by omega, by omega⟩
            refine va_iast hx hb hK hP hD hS 3 0 rfl rfl hin_52 dX11_careerFrom_72 (fun H locs hP hD hS => ?_)
            obtain ⟨f_53, ef_53⟩ : ∃ z : Nat → Int32, z = upd g_48 (Int32.toNatClampNeg x_47) z_51 := ⟨_, rfl⟩
            have hP : va_P (dC, dI) vwCl [(vo, .inr (12, [.int voth, .ref vmt, .int votp, .int vosz, .int volm, .int voto, .int vofr, .int vokd, .int vonu, .int vosg, .int vofa, .int vopl, .long vowd, .int votd, .ref vmn, .ref vmr, .ref vmk, .ref vms, .ref vma, .ref vmm, .ref vmrn, .ref vmkn, .ref vmik, .ref vmon, .int vosm, .int vohp, .ref vmw, .ref vmf, .ref vmb, .int vomb, .ref vmd, .ref vmc, .int vwe, .int vti, .int vocy, .ref vmx, .int votx, .int vose, .ref vml, .ref vmwr, .int voln, .int vohw, .ref vmno, .int vond, .int voon, .int vowi, .int votop])), (vmn, .inl (cy 0, 575, .inl vmnf)), (vmd, .inl (cy 0, 10, .inl vmdf)), (vmc, .inl (cy 0, 10, .inl f_53))] H := by rw [ef_53]; exact hP
            have hD : va_D A [(vo, .inr (12, [.int voth, .ref vmt, .int votp, .int vosz, .int volm, .int voto, .int vofr, .int vokd, .int vonu, .int vosg, .int vofa, .int vopl, .long vowd, .int votd, .ref vmn, .ref vmr, .ref vmk, .ref vms, .ref vma, .ref vmm, .ref vmrn, .ref vmkn, .ref vmik, .ref vmon, .int vosm, .int vohp, .ref vmw, .ref vmf, .ref vmb, .int vomb, .ref vmd, .ref vmc, .int vwe, .int vti, .int vocy, .ref vmx, .int votx, .int vose, .ref vml, .ref vmwr, .int voln, .int vohw, .ref vmno, .int vond, .int voon, .int vowi, .int votop])), (vmn, .inl (cy 0, 575, .inl vmnf)), (vmd, .inl (cy 0, 10, .inl vmdf)), (vmc, .inl (cy 0, 10, .inl f_53))] := by rw [ef_53]; exact hD
            obtain ⟨z_54, ez_54⟩ : ∃ z : Int32, z = x_47 + 1 := ⟨_, rfl⟩
            have bz_54 : z_54.toInt = x_47.toInt + (1 : Int32).toInt := i_add ez_54 (by omega) (by omega)
            refine lv_iinc (v := z_54) (lv' := [(6, .int z_54), (0, .ref vo), (1, .int vm), (2, .int 4), (3, .int vlf), (4, .int vti), (5, .int vwe)]) hx hb dX11_careerFrom_73 hl (k := 0) rfl ez_54.symm (by decide) rfl (fun ls hl => ?_)
            refine lv_goto (tgt := 53) hx hb dX11_careerFrom_76 (by decide) ?_
            exact ih46 z_54 f_53 ⟨by omega, by omega⟩ (by omega) _ _ (hP.sub [0, 1, 2, 3] rfl) (hD.sub [0, 1, 2, 3] rfl rfl) hS ls (lv_sub hl [0, 1, 2, 3, 4, 5, 6] rfl)
      have k_0 : (0 : Int32).toInt = 0 := by decide
      exact loop46 ((10 - (0 : Int32).toInt).toNat + 1) 0 vmcf ⟨by omega, by omega⟩ (by omega) _ _ hP hD hS ls (lv_sub hl [0, 1, 2, 3, 4, 5, 6] rfl)
    refine lv_iload hx hb dX11_careerFrom_10 (lv_at hl 5 rfl) ?_
    refine lv_aload_n hx hb dX11_careerFrom_12 rfl (lv_at hl 0 rfl) ?_
    refine gf_X11_322 hx hb hts hown hK hP 0 rfl rfl dX11_careerFrom_13 ?_
    refine lv_icmp_lt (tgt := 37) hx hb dX11_careerFrom_16 (by decide) (fun c_55 => ?_) (fun c_55 => ?_)
    · skip
      have c_55 : vwe.toInt < vocm.toInt := i_lt.mp c_55
      rw [hQ9]
      exact re_v (vocm, voct, vmcf, vocy, vmdf) hx hb hr hlocks (show 0 ≤ (vocy : Int32).toInt ∧ (vocy : Int32).toInt ≤ 10 from ⟨by omega, by omega⟩) (hP.sub [0, 1, 2, 3] rfl) (hD.sub [0, 1, 2, 3] rfl rfl) hS dX11_careerFrom_37
    · skip
      have c_55 : ¬ (vwe.toInt < vocm.toInt) := fun h9 => c_55 (i_lt.mpr h9)
      refine lv_iload hx hb dX11_careerFrom_19 (lv_at hl 5 rfl) ?_
      refine lv_aload_n hx hb dX11_careerFrom_21 rfl (lv_at hl 0 rfl) ?_
      refine gf_X11_322 hx hb hts hown hK hP 0 rfl rfl dX11_careerFrom_22 ?_
      refine lv_icmp_ne (tgt := 38) hx hb dX11_careerFrom_25 (by decide) (fun c_56 => ?_) (fun c_56 => ?_)
      · skip
        have c_56 : ¬ (vwe.toInt = vocm.toInt) := fun h9 => c_56 (i_eq.mpr h9)
        exact join45  _ _ (hP.sub [0, 1, 2, 3] rfl) (hD.sub [0, 1, 2, 3] rfl rfl) hS ls (lv_sub hl [0, 1, 2, 3, 4, 5] rfl)
      · skip
        have c_56 : vwe.toInt = vocm.toInt := i_eq.mp c_56
        refine lv_iload hx hb dX11_careerFrom_28 (lv_at hl 4 rfl) ?_
        refine lv_aload_n hx hb dX11_careerFrom_30 rfl (lv_at hl 0 rfl) ?_
        refine gf_X11_325 hx hb hts hown hK hP 0 rfl rfl dX11_careerFrom_31 ?_
        refine lv_icmp_lt (tgt := 38) hx hb dX11_careerFrom_34 (by decide) (fun c_57 => ?_) (fun c_57 => ?_)
        · skip
          have c_57 : vti.toInt < voct.toInt := i_lt.mp c_57
          exact join45  _ _ (hP.sub [0, 1, 2, 3] rfl) (hD.sub [0, 1, 2, 3] rfl rfl) hS ls (lv_sub hl [0, 1, 2, 3, 4, 5] rfl)
        · skip
          have c_57 : ¬ (vti.toInt < voct.toInt) := fun h9 => c_57 (i_lt.mpr h9)
          rw [hQ9]
          exact re_v (vocm, voct, vmcf, vocy, vmdf) hx hb hr hlocks (show 0 ≤ (vocy : Int32).toInt ∧ (vocy : Int32).toInt ≤ 10 from ⟨by omega, by omega⟩) (hP.sub [0, 1, 2, 3] rfl) (hD.sub [0, 1, 2, 3] rfl rfl) hS dX11_careerFrom_37
abbrev O_m_careerFrom_3 (cy : Nat → ClassId) (vnh : Nat → Int32) (vo : Nat) (voth : Int32) (vmt : Nat) (votp : Int32) (vosz : Int32) (volm : Int32) (voto : Int32) (vofr : Int32) (vokd : Int32) (vonu : Int32) (vosg : Int32) (vofa : Int32) (vopl : Int32) (vowd : Int64) (votd : Int32) (vmn : Nat) (vmr : Nat) (vmk : Nat) (vms : Nat) (vma : Nat) (vmm : Nat) (vmrn : Nat) (vmkn : Nat) (vmik : Nat) (vmon : Nat) (vosm : Int32) (vohp : Int32) (vmw : Nat) (vmf : Nat) (vmb : Nat) (vomb : Int32) (vmd : Nat) (vmc : Nat) (vocm : Int32) (voct : Int32) (vocy : Int32) (vmx : Nat) (votx : Int32) (vose : Int32) (vml : Nat) (vmwr : Nat) (voln : Int32) (vohw : Int32) (vmno : Nat) (vond : Int32) (voon : Int32) (vowi : Int32) (votop : Int32) (vmnf : Nat → Int32) (vmdf : Nat → Int32) (vmcf : Nat → Int32) (vm : Int32) (vlf : Int32) (vti : Int32) (vwe : Int32) (u : Int32 × Int32 × (Nat → Int32) × Int32 × (Nat → Int32)) : va_W := [(vo, .inr (12, [.int voth, .ref vmt, .int votp, .int vosz, .int volm, .int voto, .int vofr, .int vokd, .int vonu, .int vosg, .int vofa, .int vopl, .long vowd, .int votd, .ref vmn, .ref vmr, .ref vmk, .ref vms, .ref vma, .ref vmm, .ref vmrn, .ref vmkn, .ref vmik, .ref vmon, .int vosm, .int vohp, .ref vmw, .ref vmf, .ref vmb, .int vomb, .ref vmd, .ref vmc, .int u.1, .int u.2.1, .int u.2.2.2.1, .ref vmx, .int votx, .int vose, .ref vml, .ref vmwr, .int voln, .int vohw, .ref vmno, .int vond, .int voon, .int vowi, .int votop])), (vmn, .inl (cy 0, 575, .inl vmnf)), (vmd, .inl (cy 0, 10, .inl u.2.2.2.2)), (vmc, .inl (cy 0, 10, .inl u.2.2.1))]
set_option maxHeartbeats 4000000 in
set_option maxRecDepth 100000 in
theorem m_careerFrom_3 (l : Launch) (dC : Nat → ClassId) (dI : Nat → Nat → Nat) (cy : Nat → ClassId) (sz : Nat) (vnh : Nat → Int32) (vo : Nat) (voth : Int32) (vmt : Nat) (votp : Int32) (vosz : Int32) (volm : Int32) (voto : Int32) (vofr : Int32) (vokd : Int32) (vonu : Int32) (vosg : Int32) (vofa : Int32) (vopl : Int32) (vowd : Int64) (votd : Int32) (vmn : Nat) (vmr : Nat) (vmk : Nat) (vms : Nat) (vma : Nat) (vmm : Nat) (vmrn : Nat) (vmkn : Nat) (vmik : Nat) (vmon : Nat) (vosm : Int32) (vohp : Int32) (vmw : Nat) (vmf : Nat) (vmb : Nat) (vomb : Int32) (vmd : Nat) (vmc : Nat) (vocm : Int32) (voct : Int32) (vocy : Int32) (vmx : Nat) (votx : Int32) (vose : Int32) (vml : Nat) (vmwr : Nat) (voln : Int32) (vohw : Int32) (vmno : Nat) (vond : Int32) (voon : Int32) (vowi : Int32) (votop : Int32) (vmnf : Nat → Int32) (vmdf : Nat → Int32) (vmcf : Nat → Int32) (vm : Int32) (vlf : Int32) (vti : Int32) (vwe : Int32) (r_vocy : 0 ≤ (vocy : Int32).toInt ∧ (vocy : Int32).toInt ≤ 10) (r_vm : 0 ≤ (vm : Int32).toInt ∧ (vm : Int32).toInt ≤ 6) (r_vlf : 0 ≤ (vlf : Int32).toInt ∧ (vlf : Int32).toInt ≤ 10) (p_vmnf : NW vnh vmnf) (hd : 3 ≤ (vmnf 1).toInt) : Met l yX11_careerFrom (wl yX11_careerFrom cX11_careerFrom 8 none) ({ frames := 8, cells := 0, slots := 0, locals := 512 }) (Pw (dC, dI) vwCl cy [(vo, .inr (12, [.int voth, .ref vmt, .int votp, .int vosz, .int volm, .int voto, .int vofr, .int vokd, .int vonu, .int vosg, .int vofa, .int vopl, .long vowd, .int votd, .ref vmn, .ref vmr, .ref vmk, .ref vms, .ref vma, .ref vmm, .ref vmrn, .ref vmkn, .ref vmik, .ref vmon, .int vosm, .int vohp, .ref vmw, .ref vmf, .ref vmb, .int vomb, .ref vmd, .ref vmc, .int vocm, .int voct, .int vocy, .ref vmx, .int votx, .int vose, .ref vml, .ref vmwr, .int voln, .int vohw, .ref vmno, .int vond, .int voon, .int vowi, .int votop])), (vmn, .inl (cy 0, 575, .inl vmnf)), (vmd, .inl (cy 0, 10, .inl vmdf)), (vmc, .inl (cy 0, 10, .inl vmcf))] sz [.ref vo, .int vm, .int 3, .int vlf, .int vti, .int vwe] nE) (Qv (dC, dI) vwCl (fun (u : Int32 × Int32 × (Nat → Int32) × Int32 × (Nat → Int32)) => (0 ≤ (u.2.2.2.1 : Int32).toInt ∧ (u.2.2.2.1 : Int32).toInt ≤ 10)) (O_m_careerFrom_3 cy vnh vo voth vmt votp vosz volm voto vofr vokd vonu vosg vofa vopl vowd votd vmn vmr vmk vms vma vmm vmrn vmkn vmik vmon vosm vohp vmw vmf vmb vomb vmd vmc vocm voct vocy vmx votx vose vml vmwr voln vohw vmno vond voon vowi votop vmnf vmdf vmcf vm vlf vti vwe) (va_A [(vo, .inr (12, [.int voth, .ref vmt, .int votp, .int vosz, .int volm, .int voto, .int vofr, .int vokd, .int vonu, .int vosg, .int vofa, .int vopl, .long vowd, .int votd, .ref vmn, .ref vmr, .ref vmk, .ref vms, .ref vma, .ref vmm, .ref vmrn, .ref vmkn, .ref vmik, .ref vmon, .int vosm, .int vohp, .ref vmw, .ref vmf, .ref vmb, .int vomb, .ref vmd, .ref vmc, .int vocm, .int voct, .int vocy, .ref vmx, .int votx, .int vose, .ref vml, .ref vmwr, .int voln, .int vohw, .ref vmno, .int vond, .int voon, .int vowi, .int votop])), (vmn, .inl (cy 0, 575, .inl vmnf)), (vmd, .inl (cy 0, 10, .inl vmdf)), (vmc, .inl (cy 0, 10, .inl vmcf))] sz)) 0 0 (va_A [(vo, .inr (12, [.int voth, .ref vmt, .int votp, .int vosz, .int volm, .int voto, .int vofr, .int vokd, .int vonu, .int vosg, .int vofa, .int vopl, .long vowd, .int votd, .ref vmn, .ref vmr, .ref vmk, .ref vms, .ref vma, .ref vmm, .ref vmrn, .ref vmkn, .ref vmik, .ref vmon, .int vosm, .int vohp, .ref vmw, .ref vmf, .ref vmb, .int vomb, .ref vmd, .ref vmc, .int vocm, .int voct, .int vocy, .ref vmx, .int votx, .int vose, .ref vml, .ref vmwr, .int voln, .int vohw, .ref vmno, .int vond, .int voon, .int vowi, .int votop])), (vmn, .inl (cy 0, 575, .inl vmnf)), (vmd, .inl (cy 0, 10, .inl vmdf)), (vmc, .inl (cy 0, 10, .inl vmcf))] sz) := by
  refine mw (Qc := Qv (dC, dI) vwCl (fun (u : Int32 × Int32 × (Nat → Int32) × Int32 × (Nat → Int32)) => (0 ≤ (u.2.2.2.1 : Int32).toInt ∧ (u.2.2.2.1 : Int32).toInt ≤ 10)) (O_m_careerFrom_3 cy vnh vo voth vmt votp vosz volm voto vofr vokd vonu vosg vofa vopl vowd votd vmn vmr vmk vms vma vmm vmrn vmkn vmik vmon vosm vohp vmw vmf vmb vomb vmd vmc vocm voct vocy vmx votx vose vml vmwr voln vohw vmno vond voon vowi votop vmnf vmdf vmcf vm vlf vti vwe)) RX11 rfl (by decide +kernel) (Nat.le_of_ble_eq_true rfl) ?_
  intro p e s m below meth c A hx hb hr hlocks av9 hav hts hown hnm hml hK hP hD hA hS hE hAe Q9 hQ9 ls hl
  have hl : lv_has ls 8 [(0, .ref vo), (1, .int vm), (2, .int 3), (3, .int vlf), (4, .int vti), (5, .int vwe)] := hl
  refine lv_iload_n hx hb dX11_careerFrom_0 rfl (lv_at hl 2 rfl) ?_
  refine lv_aload_n hx hb dX11_careerFrom_1 rfl (lv_at hl 0 rfl) ?_
  refine gf_X11_98 hx hb hts hown hK hP 0 rfl rfl dX11_careerFrom_2 ?_
  refine lv_iconst (v := 1) hx hb dX11_careerFrom_5 (by decide) ?_
  have k_1 : (1 : Int32).toInt = 1 := by decide
  have hin_1 : vp_in (1 : Int32) 575 := vp_in_iff.mpr ⟨by omega, by omega⟩
  refine va_iald hx hb hK hP 1 0 rfl rfl hin_1 dX11_careerFrom_6 ?_
  refine lv_topi (fun z_2 ez_2 => ?_)
  have bz_2 := p_vmnf.a1 (x := 1) ⟨by omega, by omega⟩ ez_2
  have tz_2 : z_2.toInt = (vmnf 1).toInt := by rw [ez_2]; rfl
  have k_3 : (3 : Int32).toInt = 3 := by decide
  refine lv_icmp_ne (tgt := 85) hx hb dX11_careerFrom_7 (by decide) (fun c_3 => ?_) (fun c_3 => ?_)
  · skip
    have c_3 : ¬ ((3 : Int32).toInt = z_2.toInt) := fun h9 => c_3 (i_eq.mpr h9)
    refine lv_iload_n hx hb dX11_careerFrom_85 rfl (lv_at hl 3 rfl) ?_
    refine lv_bipush (v := 9) hx hb dX11_careerFrom_86 (by decide) ?_
    refine lv_aload_n hx hb dX11_careerFrom_88 rfl (lv_at hl 0 rfl) ?_
    refine lv_iload_n hx hb dX11_careerFrom_89 rfl (lv_at hl 1 rfl) ?_
    refine lv_iload_n hx hb dX11_careerFrom_90 rfl (lv_at hl 2 rfl) ?_
    refine jr_i (rVr (As := [.int vm, .int 3]) (rest := [.int 9, .int vlf]) (ci := 12) ⟨hx, hb, hml, hown, hts⟩ (m_didOf l dC dI cy vnh vo voth vmt votp vosz volm voto vofr vokd vonu vosg vofa vopl vowd votd vmn vmr vmk vms vma vmm vmrn vmkn vmik vmon vosm vohp vmw vmf vmb vomb vmd vmc vocm voct vocy vmx votx vose vml vmwr voln vohw vmno vond voon vowi votop vmnf vm 3 ⟨by omega, by omega⟩ ⟨by omega, by omega⟩ p_vmnf) (cw_X11_228 hts rfl rfl ⟨Nat.le_of_ble_eq_true rfl, Nat.le_of_ble_eq_true rfl⟩) hP hK [0, 1] rfl rfl rfl rfl hl.1 rfl (Nat.le_of_ble_eq_true rfl) dX11_careerFrom_91 ⟨Nat.le_of_ble_eq_true rfl, Nat.le_of_ble_eq_true rfl⟩) hP hS (fun r_4 H locs hp_5 hP hS => ?_)
    refine lv_isub hx hb dX11_careerFrom_94 ?_
    refine lv_topi (fun z_6 ez_6 => ?_)
    refine jr_i (rSr (As := [.int vlf, .int z_6]) (rest := []) ⟨hx, hb, hml, hown, hts⟩ (m_least l dC dI cy vlf z_6 ) (cw_X11_288 hts rfl rfl ⟨Nat.le_of_ble_eq_true rfl, Nat.le_of_ble_eq_true rfl⟩) hP hK [] rfl rfl hl.1 rfl (Nat.le_of_ble_eq_true rfl) dX11_careerFrom_95 ⟨Nat.le_of_ble_eq_true rfl, Nat.le_of_ble_eq_true rfl⟩) hP hS (fun r_7 H locs hp_8 hP hS => ?_)
    have hp_8 : ((r_7 : Int32).toInt ≤ (vlf : Int32).toInt) ∧ ((r_7 : Int32).toInt ≤ (z_6 : Int32).toInt) ∧ (((r_7 : Int32).toInt = (vlf : Int32).toInt ∨ (r_7 : Int32).toInt = (z_6 : Int32).toInt)) := hp_8
    obtain ⟨q_9, q_10, q_11⟩ := hp_8
    refine lv_istore (lv' := [(6, .int r_7), (0, .ref vo), (1, .int vm), (2, .int 3), (3, .int vlf), (4, .int vti), (5, .int vwe)]) hx hb dX11_careerFrom_98 hl (by decide) rfl (fun ls hl => ?_)
    refine lv_iconst (v := 0) hx hb dX11_careerFrom_100 (by decide) ?_
    refine lv_istore (lv' := [(7, .int 0), (6, .int r_7), (0, .ref vo), (1, .int vm), (2, .int 3), (3, .int vlf), (4, .int vti), (5, .int vwe)]) hx hb dX11_careerFrom_101 hl (by decide) rfl (fun ls hl => ?_)
    have loop12 : ∀ (n12 : Nat) (x_13 : Int32) (x_14 : Int32) (x_15 : Int32) (x_16 : Int32) (g_17 : Nat → Int32) (g_18 : Nat → Int32), (0 ≤ x_13.toInt ∧ x_13.toInt ≤ 11) → (0 ≤ x_16.toInt ∧ x_16.toInt ≤ 10) → 11 - x_13.toInt < (n12 : Int) → ∀ (H : Heap) (locs : List Loc), va_P (dC, dI) vwCl [(vo, .inr (12, [.int voth, .ref vmt, .int votp, .int vosz, .int volm, .int voto, .int vofr, .int vokd, .int vonu, .int vosg, .int vofa, .int vopl, .long vowd, .int votd, .ref vmn, .ref vmr, .ref vmk, .ref vms, .ref vma, .ref vmm, .ref vmrn, .ref vmkn, .ref vmik, .ref vmon, .int vosm, .int vohp, .ref vmw, .ref vmf, .ref vmb, .int vomb, .ref vmd, .ref vmc, .int x_14, .int x_15, .int x_16, .ref vmx, .int votx, .int vose, .ref vml, .ref vmwr, .int voln, .int vohw, .ref vmno, .int vond, .int voon, .int vowi, .int votop])), (vmn, .inl (cy 0, 575, .inl vmnf)), (vmd, .inl (cy 0, 10, .inl g_18)), (vmc, .inl (cy 0, 10, .inl g_17))] H → va_D A [(vo, .inr (12, [.int voth, .ref vmt, .int votp, .int vosz, .int volm, .int voto, .int vofr, .int vokd, .int vonu, .int vosg, .int vofa, .int vopl, .long vowd, .int votd, .ref vmn, .ref vmr, .ref vmk, .ref vms, .ref vma, .ref vmm, .ref vmrn, .ref vmkn, .ref vmik, .ref vmon, .int vosm, .int vohp, .ref vmw, .ref vmf, .ref vmb, .int vomb, .ref vmd, .ref vmc, .int x_14, .int x_15, .int x_16, .ref vmx, .int votx, .int vose, .ref vml, .ref vmwr, .int voln, .int vohw, .ref vmno, .int vond, .int voon, .int vowi, .int votop])), (vmn, .inl (cy 0, 575, .inl vmnf)), (vmd, .inl (cy 0, 10, .inl g_18)), (vmc, .inl (cy 0, 10, .inl g_17))] → va_S A s.heap H locs → ∀ ls : Array Slot, lv_has ls 8 [(7, .int x_13), (6, .int r_7), (0, .ref vo), (1, .int vm), (2, .int 3), (3, .int vlf), (4, .int vti), (5, .int vwe)] → W p l e ({ frames := 8, cells := 0, slots := 0, locals := 512 }) s m av9 below meth c H locs 0 0 Q9 (F0 m 103 ls []) := by
      intro n12
      induction n12 with
      | zero =>
        intro x_13 x_14 x_15 x_16 g_17 g_18 bx_13 bx_16 hn12 H locs hP hD hS ls hl
        exfalso; omega
      | succ n12 ih12 =>
        intro x_13 x_14 x_15 x_16 g_17 g_18 bx_13 bx_16 hn12 H locs hP hD hS ls hl
        refine lv_iload hx hb dX11_careerFrom_103 (lv_at hl 0 rfl) ?_
        refine lv_iload hx hb dX11_careerFrom_105 (lv_at hl 1 rfl) ?_
        refine lv_icmp_gt (tgt := 180) hx hb dX11_careerFrom_107 (by decide) (fun c_19 => ?_) (fun c_19 => ?_)
        · skip
          have c_19 : r_7.toInt < x_13.toInt := i_lt.mp c_19
          rw [hQ9]
          exact re_v (x_14, x_15, g_17, x_16, g_18) hx hb hr hlocks (show 0 ≤ (x_16 : Int32).toInt ∧ (x_16 : Int32).toInt ≤ 10 from ⟨by omega, by omega⟩) (hP.sub [0, 1, 2, 3] rfl) (hD.sub [0, 1, 2, 3] rfl rfl) hS dX11_careerFrom_180
        · skip
          have c_19 : ¬ (r_7.toInt < x_13.toInt) := fun h9 => c_19 (i_lt.mpr h9)
          refine lv_iload hx hb dX11_careerFrom_110 (lv_at hl 7 rfl) ?_
          refine lv_iload hx hb dX11_careerFrom_112 (lv_at hl 0 rfl) ?_
          refine lv_aload_n hx hb dX11_careerFrom_114 rfl (lv_at hl 2 rfl) ?_
          refine gf_X11_98 hx hb hts hown hK hP 0 rfl rfl dX11_careerFrom_115 ?_
          refine lv_bipush (v := 11) hx hb dX11_careerFrom_118 (by decide) ?_
          refine lv_iload_n hx hb dX11_careerFrom_120 rfl (lv_at hl 4 rfl) ?_
          refine lv_iadd hx hb dX11_careerFrom_121 ?_
          refine as_i 14 (by decide) ?_
          have k_14 : (14 : Int32).toInt = 14 := by decide
          have hin_20 : vp_in (14 : Int32) 575 := vp_in_iff.mpr ⟨by omega, by omega⟩
          refine va_iald hx hb hK hP 1 0 rfl rfl hin_20 dX11_careerFrom_122 ?_
          refine lv_topi (fun z_21 ez_21 => ?_)
          have bz_21 := p_vmnf.aw (x := 14) ⟨by omega, by omega⟩ ez_21
          have tz_21 : z_21.toInt = (vmnf 14).toInt := by rw [ez_21]; rfl
          refine lv_imul hx hb dX11_careerFrom_123 ?_
          refine lv_topi (fun z_22 ez_22 => ?_)
          have bz_22 : 0 ≤ z_22.toInt ∧ z_22.toInt ≤ 400 ∧ z_22.toInt = x_13.toInt * z_21.toInt := i_mulb (A := 10) (B := 40) ez_22 ⟨by omega, by omega⟩ ⟨by omega, by omega⟩ (by decide)
          refine lv_iadd hx hb dX11_careerFrom_124 ?_
          refine lv_topi (fun z_23 ez_23 => ?_)
          refine lv_aload_n hx hb dX11_careerFrom_125 rfl (lv_at hl 2 rfl) ?_
          refine gf_X11_98 hx hb hts hown hK hP 0 rfl rfl dX11_careerFrom_126 ?_
          refine lv_iconst (v := 2) hx hb dX11_careerFrom_129 (by decide) ?_
          have k_2 : (2 : Int32).toInt = 2 := by decide
          have hin_24 : vp_in (2 : Int32) 575 := vp_in_iff.mpr ⟨by omega, by omega⟩
          refine va_iald hx hb hK hP 1 0 rfl rfl hin_24 dX11_careerFrom_130 ?_
          refine lv_topi (fun z_25 ez_25 => ?_)
          have tz_25 : z_25.toInt = (vmnf 2).toInt := by rw [ez_25]; rfl
          refine lv_icmp_gt (tgt := 180) hx hb dX11_careerFrom_131 (by decide) (fun c_26 => ?_) (fun c_26 => ?_)
          · skip
            have c_26 : z_25.toInt < z_23.toInt := i_lt.mp c_26
            rw [hQ9]
            exact re_v (x_14, x_15, g_17, x_16, g_18) hx hb hr hlocks (show 0 ≤ (x_16 : Int32).toInt ∧ (x_16 : Int32).toInt ≤ 10 from ⟨by omega, by omega⟩) (hP.sub [0, 1, 2, 3] rfl) (hD.sub [0, 1, 2, 3] rfl rfl) hS dX11_careerFrom_180
          · skip
            have c_26 : ¬ (z_25.toInt < z_23.toInt) := fun h9 => c_26 (i_lt.mpr h9)
            refine lv_aload_n hx hb dX11_careerFrom_134 rfl (lv_at hl 2 rfl) ?_
            refine gf_X11_142 hx hb hts hown hK hP 0 rfl rfl dX11_careerFrom_135 ?_
            refine lv_iload_n hx hb dX11_careerFrom_138 rfl (lv_at hl 4 rfl) ?_
            refine lv_iload hx hb dX11_careerFrom_139 (lv_at hl 0 rfl) ?_
            have hin_27 : vp_in (3 : Int32) 10 := vp_in_iff.mpr ⟨by omega, by omega⟩
            refine va_iast hx hb hK hP hD hS 2 0 rfl rfl hin_27 dX11_careerFrom_141 (fun H locs hP hD hS => ?_)
            obtain ⟨f_28, ef_28⟩ : ∃ z : Nat → Int32, z = upd g_18 (Int32.toNatClampNeg 3) x_13 := ⟨_, rfl⟩
            have hP : va_P (dC, dI) vwCl [(vo, .inr (12, [.int voth, .ref vmt, .int votp, .int vosz, .int volm, .int voto, .int vofr, .int vokd, .int vonu, .int vosg, .int vofa, .int vopl, .long vowd, .int votd, .ref vmn, .ref vmr, .ref vmk, .ref vms, .ref vma, .ref vmm, .ref vmrn, .ref vmkn, .ref vmik, .ref vmon, .int vosm, .int vohp, .ref vmw, .ref vmf, .ref vmb, .int vomb, .ref vmd, .ref vmc, .int x_14, .int x_15, .int x_16, .ref vmx, .int votx, .int vose, .ref vml, .ref vmwr, .int voln, .int vohw, .ref vmno, .int vond, .int voon, .int vowi, .int votop])), (vmn, .inl (cy 0, 575, .inl vmnf)), (vmd, .inl (cy 0, 10, .inl f_28)), (vmc, .inl (cy 0, 10, .inl g_17))] H := by rw [ef_28]; exact hP
            have hD : va_D A [(vo, .inr (12, [.int voth, .ref vmt, .int votp, .int vosz, .int volm, .int voto, .int vofr, .int vokd, .int vonu, .int vosg, .int vofa, .int vopl, .long vowd, .int votd, .ref vmn, .ref vmr, .ref vmk, .ref vms, .ref vma, .ref vmm, .ref vmrn, .ref vmkn, .ref vmik, .ref vmon, .int vosm, .int vohp, .ref vmw, .ref vmf, .ref vmb, .int vomb, .ref vmd, .ref vmc, .int x_14, .int x_15, .int x_16, .ref vmx, .int votx, .int vose, .ref vml, .ref vmwr, .int voln, .int vohw, .ref vmno, .int vond, .int voon, .int vowi, .int votop])), (vmn, .inl (cy 0, 575, .inl vmnf)), (vmd, .inl (cy 0, 10, .inl f_28)), (vmc, .inl (cy 0, 10, .inl g_17))] := by rw [ef_28]; exact hD
            refine lv_aload_n hx hb dX11_careerFrom_142 rfl (lv_at hl 2 rfl) ?_
            refine lv_iload_n hx hb dX11_careerFrom_143 rfl (lv_at hl 3 rfl) ?_
            refine lv_iload_n hx hb dX11_careerFrom_144 rfl (lv_at hl 4 rfl) ?_
            refine lv_iconst (v := 1) hx hb dX11_careerFrom_145 (by decide) ?_
            refine lv_iadd hx hb dX11_careerFrom_146 ?_
            refine as_i 4 (by decide) ?_
            refine lv_iload_n hx hb dX11_careerFrom_147 rfl (lv_at hl 5 rfl) ?_
            refine lv_iload hx hb dX11_careerFrom_148 (lv_at hl 0 rfl) ?_
            refine lv_isub hx hb dX11_careerFrom_150 ?_
            refine lv_topi (fun z_29 ez_29 => ?_)
            have bz_29 : z_29.toInt = vlf.toInt - x_13.toInt := i_sub ez_29 (by omega) (by omega)
            refine lv_iload hx hb dX11_careerFrom_151 (lv_at hl 6 rfl) ?_
            refine lv_iload hx hb dX11_careerFrom_153 (lv_at hl 0 rfl) ?_
            refine lv_iadd hx hb dX11_careerFrom_155 ?_
            refine lv_topi (fun z_30 ez_30 => ?_)
            refine lv_iload hx hb dX11_careerFrom_156 (lv_at hl 7 rfl) ?_
            refine lv_iload hx hb dX11_careerFrom_158 (lv_at hl 0 rfl) ?_
            refine lv_aload_n hx hb dX11_careerFrom_160 rfl (lv_at hl 2 rfl) ?_
            refine gf_X11_98 hx hb hts hown hK hP 0 rfl rfl dX11_careerFrom_161 ?_
            refine lv_bipush (v := 11) hx hb dX11_careerFrom_164 (by decide) ?_
            refine lv_iload_n hx hb dX11_careerFrom_166 rfl (lv_at hl 4 rfl) ?_
            refine lv_iadd hx hb dX11_careerFrom_167 ?_
            refine as_i 14 (by decide) ?_
            have hin_31 : vp_in (14 : Int32) 575 := vp_in_iff.mpr ⟨by omega, by omega⟩
            refine va_iald hx hb hK hP 1 0 rfl rfl hin_31 dX11_careerFrom_168 ?_
            refine lv_topi (fun z_32 ez_32 => ?_)
            have bz_32 := p_vmnf.aw (x := 14) ⟨by omega, by omega⟩ ez_32
            have tz_32 : z_32.toInt = (vmnf 14).toInt := by rw [ez_32]; rfl
            refine lv_imul hx hb dX11_careerFrom_169 ?_
            refine lv_topi (fun z_33 ez_33 => ?_)
            have bz_33 : 0 ≤ z_33.toInt ∧ z_33.toInt ≤ 400 ∧ z_33.toInt = x_13.toInt * z_32.toInt := i_mulb (A := 10) (B := 40) ez_33 ⟨by omega, by omega⟩ ⟨by omega, by omega⟩ (by decide)
            refine lv_iadd hx hb dX11_careerFrom_170 ?_
            refine lv_topi (fun z_34 ez_34 => ?_)
            refine jn_v (wr := []) (rV (As := [.int vm, .int 4, .int z_29, .int z_30, .int z_34]) (rest := []) (ci := 12) ⟨hx, hb, hml, hown, hts⟩ (m_careerFrom_4 l dC dI cy _ vnh vo voth vmt votp vosz volm voto vofr vokd vonu vosg vofa vopl vowd votd vmn vmr vmk vms vma vmm vmrn vmkn vmik vmon vosm vohp vmw vmf vmb vomb vmd vmc x_14 x_15 x_16 vmx votx vose vml vmwr voln vohw vmno vond voon vowi votop vmnf f_28 g_17 vm z_29 z_30 z_34 ⟨by omega, by omega⟩ r_vm ⟨by omega, by omega⟩ p_vmnf (by omega)) (cw_X11_331 hts rfl rfl ⟨Nat.le_of_ble_eq_true rfl, Nat.le_of_ble_eq_true rfl⟩) hP hD hK [0, 1, 2, 3] rfl rfl rfl rfl bl0 e0 rfl hl.1 rfl (Nat.le_of_ble_eq_true rfl) dX11_careerFrom_171 ⟨Nat.le_of_ble_eq_true rfl, Nat.le_of_ble_eq_true rfl⟩) hP hD hS hA [0, 1, 2, 3] [] rfl rfl rfl (by decide) (fun u_37 H locs hp_36 hP hD hS => ?_)
            obtain ⟨vocm_38, voct_39, vmcf_40, vocy_41, vmdf_42⟩ := u_37
            have hp_36 : (0 ≤ (vocy_41 : Int32).toInt ∧ (vocy_41 : Int32).toInt ≤ 10) := hp_36
            have q_43 := hp_36
            have hP : va_P (dC, dI) vwCl [(vo, .inr (12, [.int voth, .ref vmt, .int votp, .int vosz, .int volm, .int voto, .int vofr, .int vokd, .int vonu, .int vosg, .int vofa, .int vopl, .long vowd, .int votd, .ref vmn, .ref vmr, .ref vmk, .ref vms, .ref vma, .ref vmm, .ref vmrn, .ref vmkn, .ref vmik, .ref vmon, .int vosm, .int vohp, .ref vmw, .ref vmf, .ref vmb, .int vomb, .ref vmd, .ref vmc, .int vocm_38, .int voct_39, .int vocy_41, .ref vmx, .int votx, .int vose, .ref vml, .ref vmwr, .int voln, .int vohw, .ref vmno, .int vond, .int voon, .int vowi, .int votop])), (vmn, .inl (cy 0, 575, .inl vmnf)), (vmd, .inl (cy 0, 10, .inl vmdf_42)), (vmc, .inl (cy 0, 10, .inl vmcf_40))] H := hP
            have hD : va_D A [(vo, .inr (12, [.int voth, .ref vmt, .int votp, .int vosz, .int volm, .int voto, .int vofr, .int vokd, .int vonu, .int vosg, .int vofa, .int vopl, .long vowd, .int votd, .ref vmn, .ref vmr, .ref vmk, .ref vms, .ref vma, .ref vmm, .ref vmrn, .ref vmkn, .ref vmik, .ref vmon, .int vosm, .int vohp, .ref vmw, .ref vmf, .ref vmb, .int vomb, .ref vmd, .ref vmc, .int vocm_38, .int voct_39, .int vocy_41, .ref vmx, .int votx, .int vose, .ref vml, .ref vmwr, .int voln, .int vohw, .ref vmno, .int vond, .int voon, .int vowi, .int votop])), (vmn, .inl (cy 0, 575, .inl vmnf)), (vmd, .inl (cy 0, 10, .inl vmdf_42)), (vmc, .inl (cy 0, 10, .inl vmcf_40))] := hD
            obtain ⟨z_44, ez_44⟩ : ∃ z : Int32, z = x_13 + 1 := ⟨_, rfl⟩
            have bz_44 : z_44.toInt = x_13.toInt + (1 : Int32).toInt := i_add ez_44 (by omega) (by omega)
            refine lv_iinc (v := z_44) (lv' := [(7, .int z_44), (6, .int r_7), (0, .ref vo), (1, .int vm), (2, .int 3), (3, .int vlf), (4, .int vti), (5, .int vwe)]) hx hb dX11_careerFrom_174 hl (k := 0) rfl ez_44.symm (by decide) rfl (fun ls hl => ?_)
            refine lv_goto (tgt := 103) hx hb dX11_careerFrom_177 (by decide) ?_
            exact ih12 z_44 vocm_38 voct_39 vocy_41 vmcf_40 vmdf_42 ⟨by omega, by omega⟩ ⟨by omega, by omega⟩ (by omega) _ _ (hP.sub [0, 1, 2, 3] rfl) (hD.sub [0, 1, 2, 3] rfl rfl) hS ls (lv_sub hl [0, 1, 2, 3, 4, 5, 6, 7] rfl)
    have k_0 : (0 : Int32).toInt = 0 := by decide
    exact loop12 ((11 - (0 : Int32).toInt).toNat + 1) 0 vocm voct vocy vmcf vmdf ⟨by omega, by omega⟩ ⟨by omega, by omega⟩ (by omega) _ _ hP hD hS ls (lv_sub hl [0, 1, 2, 3, 4, 5, 6, 7] rfl)
  · skip
    have c_3 : (3 : Int32).toInt = z_2.toInt := i_eq.mp c_3
    have join45 : ∀ (H : Heap) (locs : List Loc), va_P (dC, dI) vwCl [(vo, .inr (12, [.int voth, .ref vmt, .int votp, .int vosz, .int volm, .int voto, .int vofr, .int vokd, .int vonu, .int vosg, .int vofa, .int vopl, .long vowd, .int votd, .ref vmn, .ref vmr, .ref vmk, .ref vms, .ref vma, .ref vmm, .ref vmrn, .ref vmkn, .ref vmik, .ref vmon, .int vosm, .int vohp, .ref vmw, .ref vmf, .ref vmb, .int vomb, .ref vmd, .ref vmc, .int vocm, .int voct, .int vocy, .ref vmx, .int votx, .int vose, .ref vml, .ref vmwr, .int voln, .int vohw, .ref vmno, .int vond, .int voon, .int vowi, .int votop])), (vmn, .inl (cy 0, 575, .inl vmnf)), (vmd, .inl (cy 0, 10, .inl vmdf)), (vmc, .inl (cy 0, 10, .inl vmcf))] H → va_D A [(vo, .inr (12, [.int voth, .ref vmt, .int votp, .int vosz, .int volm, .int voto, .int vofr, .int vokd, .int vonu, .int vosg, .int vofa, .int vopl, .long vowd, .int votd, .ref vmn, .ref vmr, .ref vmk, .ref vms, .ref vma, .ref vmm, .ref vmrn, .ref vmkn, .ref vmik, .ref vmon, .int vosm, .int vohp, .ref vmw, .ref vmf, .ref vmb, .int vomb, .ref vmd, .ref vmc, .int vocm, .int voct, .int vocy, .ref vmx, .int votx, .int vose, .ref vml, .ref vmwr, .int voln, .int vohw, .ref vmno, .int vond, .int voon, .int vowi, .int votop])), (vmn, .inl (cy 0, 575, .inl vmnf)), (vmd, .inl (cy 0, 10, .inl vmdf)), (vmc, .inl (cy 0, 10, .inl vmcf))] → va_S A s.heap H locs → ∀ ls : Array Slot, lv_has ls 8 [(0, .ref vo), (1, .int vm), (2, .int 3), (3, .int vlf), (4, .int vti), (5, .int vwe)] → W p l e ({ frames := 8, cells := 0, slots := 0, locals := 512 }) s m av9 below meth c H locs 0 0 Q9 (F0 m 38 ls []) := by
      intro  H locs hP hD hS ls hl
      refine lv_aload_n hx hb dX11_careerFrom_38 rfl (lv_at hl 0 rfl) ?_
      refine lv_iload hx hb dX11_careerFrom_39 (lv_at hl 5 rfl) ?_
      refine pf_X11_322 hx hb hts hown hK hP hD hS 0 rfl rfl rfl (Nat.le_of_ble_eq_true rfl) dX11_careerFrom_41 (fun H locs hP hD hS => ?_)
      have hP : va_P (dC, dI) vwCl [(vo, .inr (12, [.int voth, .ref vmt, .int votp, .int vosz, .int volm, .int voto, .int vofr, .int vokd, .int vonu, .int vosg, .int vofa, .int vopl, .long vowd, .int votd, .ref vmn, .ref vmr, .ref vmk, .ref vms, .ref vma, .ref vmm, .ref vmrn, .ref vmkn, .ref vmik, .ref vmon, .int vosm, .int vohp, .ref vmw, .ref vmf, .ref vmb, .int vomb, .ref vmd, .ref vmc, .int vwe, .int voct, .int vocy, .ref vmx, .int votx, .int vose, .ref vml, .ref vmwr, .int voln, .int vohw, .ref vmno, .int vond, .int voon, .int vowi, .int votop])), (vmn, .inl (cy 0, 575, .inl vmnf)), (vmd, .inl (cy 0, 10, .inl vmdf)), (vmc, .inl (cy 0, 10, .inl vmcf))] H := hP
      have hD : va_D A [(vo, .inr (12, [.int voth, .ref vmt, .int votp, .int vosz, .int volm, .int voto, .int vofr, .int vokd, .int vonu, .int vosg, .int vofa, .int vopl, .long vowd, .int votd, .ref vmn, .ref vmr, .ref vmk, .ref vms, .ref vma, .ref vmm, .ref vmrn, .ref vmkn, .ref vmik, .ref vmon, .int vosm, .int vohp, .ref vmw, .ref vmf, .ref vmb, .int vomb, .ref vmd, .ref vmc, .int vwe, .int voct, .int vocy, .ref vmx, .int votx, .int vose, .ref vml, .ref vmwr, .int voln, .int vohw, .ref vmno, .int vond, .int voon, .int vowi, .int votop])), (vmn, .inl (cy 0, 575, .inl vmnf)), (vmd, .inl (cy 0, 10, .inl vmdf)), (vmc, .inl (cy 0, 10, .inl vmcf))] := hD
      refine lv_aload_n hx hb dX11_careerFrom_44 rfl (lv_at hl 0 rfl) ?_
      refine lv_iload hx hb dX11_careerFrom_45 (lv_at hl 4 rfl) ?_
      refine pf_X11_325 hx hb hts hown hK hP hD hS 0 rfl rfl rfl (Nat.le_of_ble_eq_true rfl) dX11_careerFrom_47 (fun H locs hP hD hS => ?_)
      have hP : va_P (dC, dI) vwCl [(vo, .inr (12, [.int voth, .ref vmt, .int votp, .int vosz, .int volm, .int voto, .int vofr, .int vokd, .int vonu, .int vosg, .int vofa, .int vopl, .long vowd, .int votd, .ref vmn, .ref vmr, .ref vmk, .ref vms, .ref vma, .ref vmm, .ref vmrn, .ref vmkn, .ref vmik, .ref vmon, .int vosm, .int vohp, .ref vmw, .ref vmf, .ref vmb, .int vomb, .ref vmd, .ref vmc, .int vwe, .int vti, .int vocy, .ref vmx, .int votx, .int vose, .ref vml, .ref vmwr, .int voln, .int vohw, .ref vmno, .int vond, .int voon, .int vowi, .int votop])), (vmn, .inl (cy 0, 575, .inl vmnf)), (vmd, .inl (cy 0, 10, .inl vmdf)), (vmc, .inl (cy 0, 10, .inl vmcf))] H := hP
      have hD : va_D A [(vo, .inr (12, [.int voth, .ref vmt, .int votp, .int vosz, .int volm, .int voto, .int vofr, .int vokd, .int vonu, .int vosg, .int vofa, .int vopl, .long vowd, .int votd, .ref vmn, .ref vmr, .ref vmk, .ref vms, .ref vma, .ref vmm, .ref vmrn, .ref vmkn, .ref vmik, .ref vmon, .int vosm, .int vohp, .ref vmw, .ref vmf, .ref vmb, .int vomb, .ref vmd, .ref vmc, .int vwe, .int vti, .int vocy, .ref vmx, .int votx, .int vose, .ref vml, .ref vmwr, .int voln, .int vohw, .ref vmno, .int vond, .int voon, .int vowi, .int votop])), (vmn, .inl (cy 0, 575, .inl vmnf)), (vmd, .inl (cy 0, 10, .inl vmdf)), (vmc, .inl (cy 0, 10, .inl vmcf))] := hD
      refine lv_iconst (v := 0) hx hb dX11_careerFrom_50 (by decide) ?_
      refine lv_istore (lv' := [(6, .int 0), (0, .ref vo), (1, .int vm), (2, .int 3), (3, .int vlf), (4, .int vti), (5, .int vwe)]) hx hb dX11_careerFrom_51 hl (by decide) rfl (fun ls hl => ?_)
      have loop46 : ∀ (n46 : Nat) (x_47 : Int32) (g_48 : Nat → Int32), (0 ≤ x_47.toInt ∧ x_47.toInt ≤ 10) → 10 - x_47.toInt < (n46 : Int) → ∀ (H : Heap) (locs : List Loc), va_P (dC, dI) vwCl [(vo, .inr (12, [.int voth, .ref vmt, .int votp, .int vosz, .int volm, .int voto, .int vofr, .int vokd, .int vonu, .int vosg, .int vofa, .int vopl, .long vowd, .int votd, .ref vmn, .ref vmr, .ref vmk, .ref vms, .ref vma, .ref vmm, .ref vmrn, .ref vmkn, .ref vmik, .ref vmon, .int vosm, .int vohp, .ref vmw, .ref vmf, .ref vmb, .int vomb, .ref vmd, .ref vmc, .int vwe, .int vti, .int vocy, .ref vmx, .int votx, .int vose, .ref vml, .ref vmwr, .int voln, .int vohw, .ref vmno, .int vond, .int voon, .int vowi, .int votop])), (vmn, .inl (cy 0, 575, .inl vmnf)), (vmd, .inl (cy 0, 10, .inl vmdf)), (vmc, .inl (cy 0, 10, .inl g_48))] H → va_D A [(vo, .inr (12, [.int voth, .ref vmt, .int votp, .int vosz, .int volm, .int voto, .int vofr, .int vokd, .int vonu, .int vosg, .int vofa, .int vopl, .long vowd, .int votd, .ref vmn, .ref vmr, .ref vmk, .ref vms, .ref vma, .ref vmm, .ref vmrn, .ref vmkn, .ref vmik, .ref vmon, .int vosm, .int vohp, .ref vmw, .ref vmf, .ref vmb, .int vomb, .ref vmd, .ref vmc, .int vwe, .int vti, .int vocy, .ref vmx, .int votx, .int vose, .ref vml, .ref vmwr, .int voln, .int vohw, .ref vmno, .int vond, .int voon, .int vowi, .int votop])), (vmn, .inl (cy 0, 575, .inl vmnf)), (vmd, .inl (cy 0, 10, .inl vmdf)), (vmc, .inl (cy 0, 10, .inl g_48))] → va_S A s.heap H locs → ∀ ls : Array Slot, lv_has ls 8 [(6, .int x_47), (0, .ref vo), (1, .int vm), (2, .int 3), (3, .int vlf), (4, .int vti), (5, .int vwe)] → W p l e ({ frames := 8, cells := 0, slots := 0, locals := 512 }) s m av9 below meth c H locs 0 0 Q9 (F0 m 53 ls []) := by
        intro n46
        induction n46 with
        | zero =>
          intro x_47 g_48 bx_47 hn46 H locs hP hD hS ls hl
          exfalso; omega
        | succ n46 ih46 =>
          intro x_47 g_48 bx_47 hn46 H locs hP hD hS ls hl
          refine lv_iload hx hb dX11_careerFrom_53 (lv_at hl 0 rfl) ?_
          refine lv_iload_n hx hb dX11_careerFrom_55 rfl (lv_at hl 3 rfl) ?_
          refine lv_icmp_ge (tgt := 79) hx hb dX11_careerFrom_56 (by decide) (fun c_49 => ?_) (fun c_49 => ?_)
          · skip
            have c_49 : (3 : Int32).toInt ≤ x_47.toInt := i_le.mp c_49
            refine lv_aload_n hx hb dX11_careerFrom_79 rfl (lv_at hl 1 rfl) ?_
            refine lv_iload_n hx hb dX11_careerFrom_80 rfl (lv_at hl 3 rfl) ?_
            refine pf_X11_328 hx hb hts hown hK hP hD hS 0 rfl rfl rfl (Nat.le_of_ble_eq_true rfl) dX11_careerFrom_81 (fun H locs hP hD hS => ?_)
            have hP : va_P (dC, dI) vwCl [(vo, .inr (12, [.int voth, .ref vmt, .int votp, .int vosz, .int volm, .int voto, .int vofr, .int vokd, .int vonu, .int vosg, .int vofa, .int vopl, .long vowd, .int votd, .ref vmn, .ref vmr, .ref vmk, .ref vms, .ref vma, .ref vmm, .ref vmrn, .ref vmkn, .ref vmik, .ref vmon, .int vosm, .int vohp, .ref vmw, .ref vmf, .ref vmb, .int vomb, .ref vmd, .ref vmc, .int vwe, .int vti, .int 3, .ref vmx, .int votx, .int vose, .ref vml, .ref vmwr, .int voln, .int vohw, .ref vmno, .int vond, .int voon, .int vowi, .int votop])), (vmn, .inl (cy 0, 575, .inl vmnf)), (vmd, .inl (cy 0, 10, .inl vmdf)), (vmc, .inl (cy 0, 10, .inl g_48))] H := hP
            have hD : va_D A [(vo, .inr (12, [.int voth, .ref vmt, .int votp, .int vosz, .int volm, .int voto, .int vofr, .int vokd, .int vonu, .int vosg, .int vofa, .int vopl, .long vowd, .int votd, .ref vmn, .ref vmr, .ref vmk, .ref vms, .ref vma, .ref vmm, .ref vmrn, .ref vmkn, .ref vmik, .ref vmon, .int vosm, .int vohp, .ref vmw, .ref vmf, .ref vmb, .int vomb, .ref vmd, .ref vmc, .int vwe, .int vti, .int 3, .ref vmx, .int votx, .int vose, .ref vml, .ref vmwr, .int voln, .int vohw, .ref vmno, .int vond, .int voon, .int vowi, .int votop])), (vmn, .inl (cy 0, 575, .inl vmnf)), (vmd, .inl (cy 0, 10, .inl vmdf)), (vmc, .inl (cy 0, 10, .inl g_48))] := hD
            rw [hQ9]
            exact re_v (vwe, vti, g_48, (3 : Int32), vmdf) hx hb hr hlocks (show 0 ≤ (3 : Int32).toInt ∧ (3 : Int32).toInt ≤ 10 from ⟨by omega, by omega⟩) (hP.sub [0, 1, 2, 3] rfl) (hD.sub [0, 1, 2, 3] rfl rfl) hS dX11_careerFrom_84
          · skip
            have c_49 : ¬ ((3 : Int32).toInt ≤ x_47.toInt) := fun h9 => c_49 (i_le.mpr h9)
            refine lv_aload_n hx hb dX11_careerFrom_59 rfl (lv_at hl 1 rfl) ?_
            refine gf_X11_145 hx hb hts hown hK hP 0 rfl rfl dX11_careerFrom_60 ?_
            refine lv_iload hx hb dX11_careerFrom_63 (lv_at hl 0 rfl) ?_
            refine lv_aload_n hx hb dX11_careerFrom_65 rfl (lv_at hl 1 rfl) ?_
            refine gf_X11_142 hx hb hts hown hK hP 0 rfl rfl dX11_careerFrom_66 ?_
            refine lv_iload hx hb dX11_careerFrom_69 (lv_at hl 0 rfl) ?_
            have hin_50 : vp_in x_47 10 := vp_in_iff.mpr ⟨by omega, by omega⟩
            refine va_iald hx hb hK hP 2 0 rfl rfl hin_50 dX11_careerFrom_71 ?_
            refine lv_topi (fun z_51 ez_51 => ?_)
            have hin_52 : vp_in x_47 10 := vp_in_iff.mpr ⟨by omega, by omega⟩
            refine va_iast hx hb hK hP hD hS 3 0 rfl rfl hin_52 dX11_careerFrom_72 (fun H locs hP hD hS => ?_)
            obtain ⟨f_53, ef_53⟩ : ∃ z : Nat → Int32, z = upd g_48 (Int32.toNatClampNeg x_47) z_51 := ⟨_, rfl⟩
            have hP : va_P (dC, dI) vwCl [(vo, .inr (12, [.int voth, .ref vmt, .int votp, .int vosz, .int volm, .int voto, .int vofr, .int vokd, .int vonu, .int vosg, .int vofa, .int vopl, .long vowd, .int votd, .ref vmn, .ref vmr, .ref vmk, .ref vms, .ref vma, .ref vmm, .ref vmrn, .ref vmkn, .ref vmik, .ref vmon, .int vosm, .int vohp, .ref vmw, .ref vmf, .ref vmb, .int vomb, .ref vmd, .ref vmc, .int vwe, .int vti, .int vocy, .ref vmx, .int votx, .int vose, .ref vml, .ref vmwr, .int voln, .int vohw, .ref vmno, .int vond, .int voon, .int vowi, .int votop])), (vmn, .inl (cy 0, 575, .inl vmnf)), (vmd, .inl (cy 0, 10, .inl vmdf)), (vmc, .inl (cy 0, 10, .inl f_53))] H := by rw [ef_53]; exact hP
            have hD : va_D A [(vo, .inr (12, [.int voth, .ref vmt, .int votp, .int vosz, .int volm, .int voto, .int vofr, .int vokd, .int vonu, .int vosg, .int vofa, .int vopl, .long vowd, .int votd, .ref vmn, .ref vmr, .ref vmk, .ref vms, .ref vma, .ref vmm, .ref vmrn, .ref vmkn, .ref vmik, .ref vmon, .int vosm, .int vohp, .ref vmw, .ref vmf, .ref vmb, .int vomb, .ref vmd, .ref vmc, .int vwe, .int vti, .int vocy, .ref vmx, .int votx, .int vose, .ref vml, .ref vmwr, .int voln, .int vohw, .ref vmno, .int vond, .int voon, .int vowi, .int votop])), (vmn, .inl (cy 0, 575, .inl vmnf)), (vmd, .inl (cy 0, 10, .inl vmdf)), (vmc, .inl (cy 0, 10, .inl f_53))] := by rw [ef_53]; exact hD
            obtain ⟨z_54, ez_54⟩ : ∃ z : Int32, z = x_47 + 1 := ⟨_, rfl⟩
            have bz_54 : z_54.toInt = x_47.toInt + (1 : Int32).toInt := i_add ez_54 (by omega) (by omega)
            refine lv_iinc (v := z_54) (lv' := [(6, .int z_54), (0, .ref vo), (1, .int vm), (2, .int 3), (3, .int vlf), (4, .int vti), (5, .int vwe)]) hx hb dX11_careerFrom_73 hl (k := 0) rfl ez_54.symm (by decide) rfl (fun ls hl => ?_)
            refine lv_goto (tgt := 53) hx hb dX11_careerFrom_76 (by decide) ?_
            exact ih46 z_54 f_53 ⟨by omega, by omega⟩ (by omega) _ _ (hP.sub [0, 1, 2, 3] rfl) (hD.sub [0, 1, 2, 3] rfl rfl) hS ls (lv_sub hl [0, 1, 2, 3, 4, 5, 6] rfl)
      have k_0 : (0 : Int32).toInt = 0 := by decide
      exact loop46 ((10 - (0 : Int32).toInt).toNat + 1) 0 vmcf ⟨by omega, by omega⟩ (by omega) _ _ hP hD hS ls (lv_sub hl [0, 1, 2, 3, 4, 5, 6] rfl)
    refine lv_iload hx hb dX11_careerFrom_10 (lv_at hl 5 rfl) ?_
    refine lv_aload_n hx hb dX11_careerFrom_12 rfl (lv_at hl 0 rfl) ?_
    refine gf_X11_322 hx hb hts hown hK hP 0 rfl rfl dX11_careerFrom_13 ?_
    refine lv_icmp_lt (tgt := 37) hx hb dX11_careerFrom_16 (by decide) (fun c_55 => ?_) (fun c_55 => ?_)
    · skip
      have c_55 : vwe.toInt < vocm.toInt := i_lt.mp c_55
      rw [hQ9]
      exact re_v (vocm, voct, vmcf, vocy, vmdf) hx hb hr hlocks (show 0 ≤ (vocy : Int32).toInt ∧ (vocy : Int32).toInt ≤ 10 from ⟨by omega, by omega⟩) (hP.sub [0, 1, 2, 3] rfl) (hD.sub [0, 1, 2, 3] rfl rfl) hS dX11_careerFrom_37
    · skip
      have c_55 : ¬ (vwe.toInt < vocm.toInt) := fun h9 => c_55 (i_lt.mpr h9)
      refine lv_iload hx hb dX11_careerFrom_19 (lv_at hl 5 rfl) ?_
      refine lv_aload_n hx hb dX11_careerFrom_21 rfl (lv_at hl 0 rfl) ?_
      refine gf_X11_322 hx hb hts hown hK hP 0 rfl rfl dX11_careerFrom_22 ?_
      refine lv_icmp_ne (tgt := 38) hx hb dX11_careerFrom_25 (by decide) (fun c_56 => ?_) (fun c_56 => ?_)
      · skip
        have c_56 : ¬ (vwe.toInt = vocm.toInt) := fun h9 => c_56 (i_eq.mpr h9)
        exact join45  _ _ (hP.sub [0, 1, 2, 3] rfl) (hD.sub [0, 1, 2, 3] rfl rfl) hS ls (lv_sub hl [0, 1, 2, 3, 4, 5] rfl)
      · skip
        have c_56 : vwe.toInt = vocm.toInt := i_eq.mp c_56
        refine lv_iload hx hb dX11_careerFrom_28 (lv_at hl 4 rfl) ?_
        refine lv_aload_n hx hb dX11_careerFrom_30 rfl (lv_at hl 0 rfl) ?_
        refine gf_X11_325 hx hb hts hown hK hP 0 rfl rfl dX11_careerFrom_31 ?_
        refine lv_icmp_lt (tgt := 38) hx hb dX11_careerFrom_34 (by decide) (fun c_57 => ?_) (fun c_57 => ?_)
        · skip
          have c_57 : vti.toInt < voct.toInt := i_lt.mp c_57
          exact join45  _ _ (hP.sub [0, 1, 2, 3] rfl) (hD.sub [0, 1, 2, 3] rfl rfl) hS ls (lv_sub hl [0, 1, 2, 3, 4, 5] rfl)
        · skip
          have c_57 : ¬ (vti.toInt < voct.toInt) := fun h9 => c_57 (i_lt.mpr h9)
          rw [hQ9]
          exact re_v (vocm, voct, vmcf, vocy, vmdf) hx hb hr hlocks (show 0 ≤ (vocy : Int32).toInt ∧ (vocy : Int32).toInt ≤ 10 from ⟨by omega, by omega⟩) (hP.sub [0, 1, 2, 3] rfl) (hD.sub [0, 1, 2, 3] rfl rfl) hS dX11_careerFrom_37
abbrev O_m_careerFrom_2 (cy : Nat → ClassId) (vnh : Nat → Int32) (vo : Nat) (voth : Int32) (vmt : Nat) (votp : Int32) (vosz : Int32) (volm : Int32) (voto : Int32) (vofr : Int32) (vokd : Int32) (vonu : Int32) (vosg : Int32) (vofa : Int32) (vopl : Int32) (vowd : Int64) (votd : Int32) (vmn : Nat) (vmr : Nat) (vmk : Nat) (vms : Nat) (vma : Nat) (vmm : Nat) (vmrn : Nat) (vmkn : Nat) (vmik : Nat) (vmon : Nat) (vosm : Int32) (vohp : Int32) (vmw : Nat) (vmf : Nat) (vmb : Nat) (vomb : Int32) (vmd : Nat) (vmc : Nat) (vocm : Int32) (voct : Int32) (vocy : Int32) (vmx : Nat) (votx : Int32) (vose : Int32) (vml : Nat) (vmwr : Nat) (voln : Int32) (vohw : Int32) (vmno : Nat) (vond : Int32) (voon : Int32) (vowi : Int32) (votop : Int32) (vmnf : Nat → Int32) (vmdf : Nat → Int32) (vmcf : Nat → Int32) (vm : Int32) (vlf : Int32) (vti : Int32) (vwe : Int32) (u : Int32 × Int32 × (Nat → Int32) × Int32 × (Nat → Int32)) : va_W := [(vo, .inr (12, [.int voth, .ref vmt, .int votp, .int vosz, .int volm, .int voto, .int vofr, .int vokd, .int vonu, .int vosg, .int vofa, .int vopl, .long vowd, .int votd, .ref vmn, .ref vmr, .ref vmk, .ref vms, .ref vma, .ref vmm, .ref vmrn, .ref vmkn, .ref vmik, .ref vmon, .int vosm, .int vohp, .ref vmw, .ref vmf, .ref vmb, .int vomb, .ref vmd, .ref vmc, .int u.1, .int u.2.1, .int u.2.2.2.1, .ref vmx, .int votx, .int vose, .ref vml, .ref vmwr, .int voln, .int vohw, .ref vmno, .int vond, .int voon, .int vowi, .int votop])), (vmn, .inl (cy 0, 575, .inl vmnf)), (vmd, .inl (cy 0, 10, .inl u.2.2.2.2)), (vmc, .inl (cy 0, 10, .inl u.2.2.1))]
set_option maxHeartbeats 4000000 in
set_option maxRecDepth 100000 in
theorem m_careerFrom_2 (l : Launch) (dC : Nat → ClassId) (dI : Nat → Nat → Nat) (cy : Nat → ClassId) (sz : Nat) (vnh : Nat → Int32) (vo : Nat) (voth : Int32) (vmt : Nat) (votp : Int32) (vosz : Int32) (volm : Int32) (voto : Int32) (vofr : Int32) (vokd : Int32) (vonu : Int32) (vosg : Int32) (vofa : Int32) (vopl : Int32) (vowd : Int64) (votd : Int32) (vmn : Nat) (vmr : Nat) (vmk : Nat) (vms : Nat) (vma : Nat) (vmm : Nat) (vmrn : Nat) (vmkn : Nat) (vmik : Nat) (vmon : Nat) (vosm : Int32) (vohp : Int32) (vmw : Nat) (vmf : Nat) (vmb : Nat) (vomb : Int32) (vmd : Nat) (vmc : Nat) (vocm : Int32) (voct : Int32) (vocy : Int32) (vmx : Nat) (votx : Int32) (vose : Int32) (vml : Nat) (vmwr : Nat) (voln : Int32) (vohw : Int32) (vmno : Nat) (vond : Int32) (voon : Int32) (vowi : Int32) (votop : Int32) (vmnf : Nat → Int32) (vmdf : Nat → Int32) (vmcf : Nat → Int32) (vm : Int32) (vlf : Int32) (vti : Int32) (vwe : Int32) (r_vocy : 0 ≤ (vocy : Int32).toInt ∧ (vocy : Int32).toInt ≤ 10) (r_vm : 0 ≤ (vm : Int32).toInt ∧ (vm : Int32).toInt ≤ 6) (r_vlf : 0 ≤ (vlf : Int32).toInt ∧ (vlf : Int32).toInt ≤ 10) (p_vmnf : NW vnh vmnf) (hd : 2 ≤ (vmnf 1).toInt) : Met l yX11_careerFrom (wl yX11_careerFrom cX11_careerFrom 8 none) ({ frames := 9, cells := 0, slots := 0, locals := 576 }) (Pw (dC, dI) vwCl cy [(vo, .inr (12, [.int voth, .ref vmt, .int votp, .int vosz, .int volm, .int voto, .int vofr, .int vokd, .int vonu, .int vosg, .int vofa, .int vopl, .long vowd, .int votd, .ref vmn, .ref vmr, .ref vmk, .ref vms, .ref vma, .ref vmm, .ref vmrn, .ref vmkn, .ref vmik, .ref vmon, .int vosm, .int vohp, .ref vmw, .ref vmf, .ref vmb, .int vomb, .ref vmd, .ref vmc, .int vocm, .int voct, .int vocy, .ref vmx, .int votx, .int vose, .ref vml, .ref vmwr, .int voln, .int vohw, .ref vmno, .int vond, .int voon, .int vowi, .int votop])), (vmn, .inl (cy 0, 575, .inl vmnf)), (vmd, .inl (cy 0, 10, .inl vmdf)), (vmc, .inl (cy 0, 10, .inl vmcf))] sz [.ref vo, .int vm, .int 2, .int vlf, .int vti, .int vwe] nE) (Qv (dC, dI) vwCl (fun (u : Int32 × Int32 × (Nat → Int32) × Int32 × (Nat → Int32)) => (0 ≤ (u.2.2.2.1 : Int32).toInt ∧ (u.2.2.2.1 : Int32).toInt ≤ 10)) (O_m_careerFrom_2 cy vnh vo voth vmt votp vosz volm voto vofr vokd vonu vosg vofa vopl vowd votd vmn vmr vmk vms vma vmm vmrn vmkn vmik vmon vosm vohp vmw vmf vmb vomb vmd vmc vocm voct vocy vmx votx vose vml vmwr voln vohw vmno vond voon vowi votop vmnf vmdf vmcf vm vlf vti vwe) (va_A [(vo, .inr (12, [.int voth, .ref vmt, .int votp, .int vosz, .int volm, .int voto, .int vofr, .int vokd, .int vonu, .int vosg, .int vofa, .int vopl, .long vowd, .int votd, .ref vmn, .ref vmr, .ref vmk, .ref vms, .ref vma, .ref vmm, .ref vmrn, .ref vmkn, .ref vmik, .ref vmon, .int vosm, .int vohp, .ref vmw, .ref vmf, .ref vmb, .int vomb, .ref vmd, .ref vmc, .int vocm, .int voct, .int vocy, .ref vmx, .int votx, .int vose, .ref vml, .ref vmwr, .int voln, .int vohw, .ref vmno, .int vond, .int voon, .int vowi, .int votop])), (vmn, .inl (cy 0, 575, .inl vmnf)), (vmd, .inl (cy 0, 10, .inl vmdf)), (vmc, .inl (cy 0, 10, .inl vmcf))] sz)) 0 0 (va_A [(vo, .inr (12, [.int voth, .ref vmt, .int votp, .int vosz, .int volm, .int voto, .int vofr, .int vokd, .int vonu, .int vosg, .int vofa, .int vopl, .long vowd, .int votd, .ref vmn, .ref vmr, .ref vmk, .ref vms, .ref vma, .ref vmm, .ref vmrn, .ref vmkn, .ref vmik, .ref vmon, .int vosm, .int vohp, .ref vmw, .ref vmf, .ref vmb, .int vomb, .ref vmd, .ref vmc, .int vocm, .int voct, .int vocy, .ref vmx, .int votx, .int vose, .ref vml, .ref vmwr, .int voln, .int vohw, .ref vmno, .int vond, .int voon, .int vowi, .int votop])), (vmn, .inl (cy 0, 575, .inl vmnf)), (vmd, .inl (cy 0, 10, .inl vmdf)), (vmc, .inl (cy 0, 10, .inl vmcf))] sz) := by
  refine mw (Qc := Qv (dC, dI) vwCl (fun (u : Int32 × Int32 × (Nat → Int32) × Int32 × (Nat → Int32)) => (0 ≤ (u.2.2.2.1 : Int32).toInt ∧ (u.2.2.2.1 : Int32).toInt ≤ 10)) (O_m_careerFrom_2 cy vnh vo voth vmt votp vosz volm voto vofr vokd vonu vosg vofa vopl vowd votd vmn vmr vmk vms vma vmm vmrn vmkn vmik vmon vosm vohp vmw vmf vmb vomb vmd vmc vocm voct vocy vmx votx vose vml vmwr voln vohw vmno vond voon vowi votop vmnf vmdf vmcf vm vlf vti vwe)) RX11 rfl (by decide +kernel) (Nat.le_of_ble_eq_true rfl) ?_
  intro p e s m below meth c A hx hb hr hlocks av9 hav hts hown hnm hml hK hP hD hA hS hE hAe Q9 hQ9 ls hl
  have hl : lv_has ls 8 [(0, .ref vo), (1, .int vm), (2, .int 2), (3, .int vlf), (4, .int vti), (5, .int vwe)] := hl
  refine lv_iload_n hx hb dX11_careerFrom_0 rfl (lv_at hl 2 rfl) ?_
  refine lv_aload_n hx hb dX11_careerFrom_1 rfl (lv_at hl 0 rfl) ?_
  refine gf_X11_98 hx hb hts hown hK hP 0 rfl rfl dX11_careerFrom_2 ?_
  refine lv_iconst (v := 1) hx hb dX11_careerFrom_5 (by decide) ?_
  have k_1 : (1 : Int32).toInt = 1 := by decide
  have hin_1 : vp_in (1 : Int32) 575 := vp_in_iff.mpr ⟨by omega, by omega⟩
  refine va_iald hx hb hK hP 1 0 rfl rfl hin_1 dX11_careerFrom_6 ?_
  refine lv_topi (fun z_2 ez_2 => ?_)
  have bz_2 := p_vmnf.a1 (x := 1) ⟨by omega, by omega⟩ ez_2
  have tz_2 : z_2.toInt = (vmnf 1).toInt := by rw [ez_2]; rfl
  have k_2 : (2 : Int32).toInt = 2 := by decide
  refine lv_icmp_ne (tgt := 85) hx hb dX11_careerFrom_7 (by decide) (fun c_3 => ?_) (fun c_3 => ?_)
  · skip
    have c_3 : ¬ ((2 : Int32).toInt = z_2.toInt) := fun h9 => c_3 (i_eq.mpr h9)
    refine lv_iload_n hx hb dX11_careerFrom_85 rfl (lv_at hl 3 rfl) ?_
    refine lv_bipush (v := 9) hx hb dX11_careerFrom_86 (by decide) ?_
    refine lv_aload_n hx hb dX11_careerFrom_88 rfl (lv_at hl 0 rfl) ?_
    refine lv_iload_n hx hb dX11_careerFrom_89 rfl (lv_at hl 1 rfl) ?_
    refine lv_iload_n hx hb dX11_careerFrom_90 rfl (lv_at hl 2 rfl) ?_
    refine jr_i (rVr (As := [.int vm, .int 2]) (rest := [.int 9, .int vlf]) (ci := 12) ⟨hx, hb, hml, hown, hts⟩ (m_didOf l dC dI cy vnh vo voth vmt votp vosz volm voto vofr vokd vonu vosg vofa vopl vowd votd vmn vmr vmk vms vma vmm vmrn vmkn vmik vmon vosm vohp vmw vmf vmb vomb vmd vmc vocm voct vocy vmx votx vose vml vmwr voln vohw vmno vond voon vowi votop vmnf vm 2 ⟨by omega, by omega⟩ ⟨by omega, by omega⟩ p_vmnf) (cw_X11_228 hts rfl rfl ⟨Nat.le_of_ble_eq_true rfl, Nat.le_of_ble_eq_true rfl⟩) hP hK [0, 1] rfl rfl rfl rfl hl.1 rfl (Nat.le_of_ble_eq_true rfl) dX11_careerFrom_91 ⟨Nat.le_of_ble_eq_true rfl, Nat.le_of_ble_eq_true rfl⟩) hP hS (fun r_4 H locs hp_5 hP hS => ?_)
    refine lv_isub hx hb dX11_careerFrom_94 ?_
    refine lv_topi (fun z_6 ez_6 => ?_)
    refine jr_i (rSr (As := [.int vlf, .int z_6]) (rest := []) ⟨hx, hb, hml, hown, hts⟩ (m_least l dC dI cy vlf z_6 ) (cw_X11_288 hts rfl rfl ⟨Nat.le_of_ble_eq_true rfl, Nat.le_of_ble_eq_true rfl⟩) hP hK [] rfl rfl hl.1 rfl (Nat.le_of_ble_eq_true rfl) dX11_careerFrom_95 ⟨Nat.le_of_ble_eq_true rfl, Nat.le_of_ble_eq_true rfl⟩) hP hS (fun r_7 H locs hp_8 hP hS => ?_)
    have hp_8 : ((r_7 : Int32).toInt ≤ (vlf : Int32).toInt) ∧ ((r_7 : Int32).toInt ≤ (z_6 : Int32).toInt) ∧ (((r_7 : Int32).toInt = (vlf : Int32).toInt ∨ (r_7 : Int32).toInt = (z_6 : Int32).toInt)) := hp_8
    obtain ⟨q_9, q_10, q_11⟩ := hp_8
    refine lv_istore (lv' := [(6, .int r_7), (0, .ref vo), (1, .int vm), (2, .int 2), (3, .int vlf), (4, .int vti), (5, .int vwe)]) hx hb dX11_careerFrom_98 hl (by decide) rfl (fun ls hl => ?_)
    refine lv_iconst (v := 0) hx hb dX11_careerFrom_100 (by decide) ?_
    refine lv_istore (lv' := [(7, .int 0), (6, .int r_7), (0, .ref vo), (1, .int vm), (2, .int 2), (3, .int vlf), (4, .int vti), (5, .int vwe)]) hx hb dX11_careerFrom_101 hl (by decide) rfl (fun ls hl => ?_)
    have loop12 : ∀ (n12 : Nat) (x_13 : Int32) (x_14 : Int32) (x_15 : Int32) (x_16 : Int32) (g_17 : Nat → Int32) (g_18 : Nat → Int32), (0 ≤ x_13.toInt ∧ x_13.toInt ≤ 11) → (0 ≤ x_16.toInt ∧ x_16.toInt ≤ 10) → 11 - x_13.toInt < (n12 : Int) → ∀ (H : Heap) (locs : List Loc), va_P (dC, dI) vwCl [(vo, .inr (12, [.int voth, .ref vmt, .int votp, .int vosz, .int volm, .int voto, .int vofr, .int vokd, .int vonu, .int vosg, .int vofa, .int vopl, .long vowd, .int votd, .ref vmn, .ref vmr, .ref vmk, .ref vms, .ref vma, .ref vmm, .ref vmrn, .ref vmkn, .ref vmik, .ref vmon, .int vosm, .int vohp, .ref vmw, .ref vmf, .ref vmb, .int vomb, .ref vmd, .ref vmc, .int x_14, .int x_15, .int x_16, .ref vmx, .int votx, .int vose, .ref vml, .ref vmwr, .int voln, .int vohw, .ref vmno, .int vond, .int voon, .int vowi, .int votop])), (vmn, .inl (cy 0, 575, .inl vmnf)), (vmd, .inl (cy 0, 10, .inl g_18)), (vmc, .inl (cy 0, 10, .inl g_17))] H → va_D A [(vo, .inr (12, [.int voth, .ref vmt, .int votp, .int vosz, .int volm, .int voto, .int vofr, .int vokd, .int vonu, .int vosg, .int vofa, .int vopl, .long vowd, .int votd, .ref vmn, .ref vmr, .ref vmk, .ref vms, .ref vma, .ref vmm, .ref vmrn, .ref vmkn, .ref vmik, .ref vmon, .int vosm, .int vohp, .ref vmw, .ref vmf, .ref vmb, .int vomb, .ref vmd, .ref vmc, .int x_14, .int x_15, .int x_16, .ref vmx, .int votx, .int vose, .ref vml, .ref vmwr, .int voln, .int vohw, .ref vmno, .int vond, .int voon, .int vowi, .int votop])), (vmn, .inl (cy 0, 575, .inl vmnf)), (vmd, .inl (cy 0, 10, .inl g_18)), (vmc, .inl (cy 0, 10, .inl g_17))] → va_S A s.heap H locs → ∀ ls : Array Slot, lv_has ls 8 [(7, .int x_13), (6, .int r_7), (0, .ref vo), (1, .int vm), (2, .int 2), (3, .int vlf), (4, .int vti), (5, .int vwe)] → W p l e ({ frames := 9, cells := 0, slots := 0, locals := 576 }) s m av9 below meth c H locs 0 0 Q9 (F0 m 103 ls []) := by
      intro n12
      induction n12 with
      | zero =>
        intro x_13 x_14 x_15 x_16 g_17 g_18 bx_13 bx_16 hn12 H locs hP hD hS ls hl
        exfalso; omega
      | succ n12 ih12 =>
        intro x_13 x_14 x_15 x_16 g_17 g_18 bx_13 bx_16 hn12 H locs hP hD hS ls hl
        refine lv_iload hx hb dX11_careerFrom_103 (lv_at hl 0 rfl) ?_
        refine lv_iload hx hb dX11_careerFrom_105 (lv_at hl 1 rfl) ?_
        refine lv_icmp_gt (tgt := 180) hx hb dX11_careerFrom_107 (by decide) (fun c_19 => ?_) (fun c_19 => ?_)
        · skip
          have c_19 : r_7.toInt < x_13.toInt := i_lt.mp c_19
          rw [hQ9]
          exact re_v (x_14, x_15, g_17, x_16, g_18) hx hb hr hlocks (show 0 ≤ (x_16 : Int32).toInt ∧ (x_16 : Int32).toInt ≤ 10 from ⟨by omega, by omega⟩) (hP.sub [0, 1, 2, 3] rfl) (hD.sub [0, 1, 2, 3] rfl rfl) hS dX11_careerFrom_180
        · skip
          have c_19 : ¬ (r_7.toInt < x_13.toInt) := fun h9 => c_19 (i_lt.mpr h9)
          refine lv_iload hx hb dX11_careerFrom_110 (lv_at hl 7 rfl) ?_
          refine lv_iload hx hb dX11_careerFrom_112 (lv_at hl 0 rfl) ?_
          refine lv_aload_n hx hb dX11_careerFrom_114 rfl (lv_at hl 2 rfl) ?_
          refine gf_X11_98 hx hb hts hown hK hP 0 rfl rfl dX11_careerFrom_115 ?_
          refine lv_bipush (v := 11) hx hb dX11_careerFrom_118 (by decide) ?_
          refine lv_iload_n hx hb dX11_careerFrom_120 rfl (lv_at hl 4 rfl) ?_
          refine lv_iadd hx hb dX11_careerFrom_121 ?_
          refine as_i 13 (by decide) ?_
          have k_13 : (13 : Int32).toInt = 13 := by decide
          have hin_20 : vp_in (13 : Int32) 575 := vp_in_iff.mpr ⟨by omega, by omega⟩
          refine va_iald hx hb hK hP 1 0 rfl rfl hin_20 dX11_careerFrom_122 ?_
          refine lv_topi (fun z_21 ez_21 => ?_)
          have bz_21 := p_vmnf.aw (x := 13) ⟨by omega, by omega⟩ ez_21
          have tz_21 : z_21.toInt = (vmnf 13).toInt := by rw [ez_21]; rfl
          refine lv_imul hx hb dX11_careerFrom_123 ?_
          refine lv_topi (fun z_22 ez_22 => ?_)
          have bz_22 : 0 ≤ z_22.toInt ∧ z_22.toInt ≤ 400 ∧ z_22.toInt = x_13.toInt * z_21.toInt := i_mulb (A := 10) (B := 40) ez_22 ⟨by omega, by omega⟩ ⟨by omega, by omega⟩ (by decide)
          refine lv_iadd hx hb dX11_careerFrom_124 ?_
          refine lv_topi (fun z_23 ez_23 => ?_)
          refine lv_aload_n hx hb dX11_careerFrom_125 rfl (lv_at hl 2 rfl) ?_
          refine gf_X11_98 hx hb hts hown hK hP 0 rfl rfl dX11_careerFrom_126 ?_
          refine lv_iconst (v := 2) hx hb dX11_careerFrom_129 (by decide) ?_
          have hin_24 : vp_in (2 : Int32) 575 := vp_in_iff.mpr ⟨by omega, by omega⟩
          refine va_iald hx hb hK hP 1 0 rfl rfl hin_24 dX11_careerFrom_130 ?_
          refine lv_topi (fun z_25 ez_25 => ?_)
          have tz_25 : z_25.toInt = (vmnf 2).toInt := by rw [ez_25]; rfl
          refine lv_icmp_gt (tgt := 180) hx hb dX11_careerFrom_131 (by decide) (fun c_26 => ?_) (fun c_26 => ?_)
          · skip
            have c_26 : z_25.toInt < z_23.toInt := i_lt.mp c_26
            rw [hQ9]
            exact re_v (x_14, x_15, g_17, x_16, g_18) hx hb hr hlocks (show 0 ≤ (x_16 : Int32).toInt ∧ (x_16 : Int32).toInt ≤ 10 from ⟨by omega, by omega⟩) (hP.sub [0, 1, 2, 3] rfl) (hD.sub [0, 1, 2, 3] rfl rfl) hS dX11_careerFrom_180
          · skip
            have c_26 : ¬ (z_25.toInt < z_23.toInt) := fun h9 => c_26 (i_lt.mpr h9)
            refine lv_aload_n hx hb dX11_careerFrom_134 rfl (lv_at hl 2 rfl) ?_
            refine gf_X11_142 hx hb hts hown hK hP 0 rfl rfl dX11_careerFrom_135 ?_
            refine lv_iload_n hx hb dX11_careerFrom_138 rfl (lv_at hl 4 rfl) ?_
            refine lv_iload hx hb dX11_careerFrom_139 (lv_at hl 0 rfl) ?_
            have hin_27 : vp_in (2 : Int32) 10 := vp_in_iff.mpr ⟨by omega, by omega⟩
            refine va_iast hx hb hK hP hD hS 2 0 rfl rfl hin_27 dX11_careerFrom_141 (fun H locs hP hD hS => ?_)
            obtain ⟨f_28, ef_28⟩ : ∃ z : Nat → Int32, z = upd g_18 (Int32.toNatClampNeg 2) x_13 := ⟨_, rfl⟩
            have hP : va_P (dC, dI) vwCl [(vo, .inr (12, [.int voth, .ref vmt, .int votp, .int vosz, .int volm, .int voto, .int vofr, .int vokd, .int vonu, .int vosg, .int vofa, .int vopl, .long vowd, .int votd, .ref vmn, .ref vmr, .ref vmk, .ref vms, .ref vma, .ref vmm, .ref vmrn, .ref vmkn, .ref vmik, .ref vmon, .int vosm, .int vohp, .ref vmw, .ref vmf, .ref vmb, .int vomb, .ref vmd, .ref vmc, .int x_14, .int x_15, .int x_16, .ref vmx, .int votx, .int vose, .ref vml, .ref vmwr, .int voln, .int vohw, .ref vmno, .int vond, .int voon, .int vowi, .int votop])), (vmn, .inl (cy 0, 575, .inl vmnf)), (vmd, .inl (cy 0, 10, .inl f_28)), (vmc, .inl (cy 0, 10, .inl g_17))] H := by rw [ef_28]; exact hP
            have hD : va_D A [(vo, .inr (12, [.int voth, .ref vmt, .int votp, .int vosz, .int volm, .int voto, .int vofr, .int vokd, .int vonu, .int vosg, .int vofa, .int vopl, .long vowd, .int votd, .ref vmn, .ref vmr, .ref vmk, .ref vms, .ref vma, .ref vmm, .ref vmrn, .ref vmkn, .ref vmik, .ref vmon, .int vosm, .int vohp, .ref vmw, .ref vmf, .ref vmb, .int vomb, .ref vmd, .ref vmc, .int x_14, .int x_15, .int x_16, .ref vmx, .int votx, .int vose, .ref vml, .ref vmwr, .int voln, .int vohw, .ref vmno, .int vond, .int voon, .int vowi, .int votop])), (vmn, .inl (cy 0, 575, .inl vmnf)), (vmd, .inl (cy 0, 10, .inl f_28)), (vmc, .inl (cy 0, 10, .inl g_17))] := by rw [ef_28]; exact hD
            refine lv_aload_n hx hb dX11_careerFrom_142 rfl (lv_at hl 2 rfl) ?_
            refine lv_iload_n hx hb dX11_careerFrom_143 rfl (lv_at hl 3 rfl) ?_
            refine lv_iload_n hx hb dX11_careerFrom_144 rfl (lv_at hl 4 rfl) ?_
            refine lv_iconst (v := 1) hx hb dX11_careerFrom_145 (by decide) ?_
            refine lv_iadd hx hb dX11_careerFrom_146 ?_
            refine as_i 3 (by decide) ?_
            refine lv_iload_n hx hb dX11_careerFrom_147 rfl (lv_at hl 5 rfl) ?_
            refine lv_iload hx hb dX11_careerFrom_148 (lv_at hl 0 rfl) ?_
            refine lv_isub hx hb dX11_careerFrom_150 ?_
            refine lv_topi (fun z_29 ez_29 => ?_)
            have bz_29 : z_29.toInt = vlf.toInt - x_13.toInt := i_sub ez_29 (by omega) (by omega)
            refine lv_iload hx hb dX11_careerFrom_151 (lv_at hl 6 rfl) ?_
            refine lv_iload hx hb dX11_careerFrom_153 (lv_at hl 0 rfl) ?_
            refine lv_iadd hx hb dX11_careerFrom_155 ?_
            refine lv_topi (fun z_30 ez_30 => ?_)
            refine lv_iload hx hb dX11_careerFrom_156 (lv_at hl 7 rfl) ?_
            refine lv_iload hx hb dX11_careerFrom_158 (lv_at hl 0 rfl) ?_
            refine lv_aload_n hx hb dX11_careerFrom_160 rfl (lv_at hl 2 rfl) ?_
            refine gf_X11_98 hx hb hts hown hK hP 0 rfl rfl dX11_careerFrom_161 ?_
            refine lv_bipush (v := 11) hx hb dX11_careerFrom_164 (by decide) ?_
            refine lv_iload_n hx hb dX11_careerFrom_166 rfl (lv_at hl 4 rfl) ?_
            refine lv_iadd hx hb dX11_careerFrom_167 ?_
            refine as_i 13 (by decide) ?_
            have hin_31 : vp_in (13 : Int32) 575 := vp_in_iff.mpr ⟨by omega, by omega⟩
            refine va_iald hx hb hK hP 1 0 rfl rfl hin_31 dX11_careerFrom_168 ?_
            refine lv_topi (fun z_32 ez_32 => ?_)
            have bz_32 := p_vmnf.aw (x := 13) ⟨by omega, by omega⟩ ez_32
            have tz_32 : z_32.toInt = (vmnf 13).toInt := by rw [ez_32]; rfl
            refine lv_imul hx hb dX11_careerFrom_169 ?_
            refine lv_topi (fun z_33 ez_33 => ?_)
            have bz_33 : 0 ≤ z_33.toInt ∧ z_33.toInt ≤ 400 ∧ z_33.toInt = x_13.toInt * z_32.toInt := i_mulb (A := 10) (B := 40) ez_33 ⟨by omega, by omega⟩ ⟨by omega, by omega⟩ (by decide)
            refine lv_iadd hx hb dX11_careerFrom_170 ?_
            refine lv_topi (fun z_34 ez_34 => ?_)
            refine jn_v (wr := []) (rV (As := [.int vm, .int 3, .int z_29, .int z_30, .int z_34]) (rest := []) (ci := 12) ⟨hx, hb, hml, hown, hts⟩ (m_careerFrom_3 l dC dI cy _ vnh vo voth vmt votp vosz volm voto vofr vokd vonu vosg vofa vopl vowd votd vmn vmr vmk vms vma vmm vmrn vmkn vmik vmon vosm vohp vmw vmf vmb vomb vmd vmc x_14 x_15 x_16 vmx votx vose vml vmwr voln vohw vmno vond voon vowi votop vmnf f_28 g_17 vm z_29 z_30 z_34 ⟨by omega, by omega⟩ r_vm ⟨by omega, by omega⟩ p_vmnf (by omega)) (cw_X11_331 hts rfl rfl ⟨Nat.le_of_ble_eq_true rfl, Nat.le_of_ble_eq_true rfl⟩) hP hD hK [0, 1, 2, 3] rfl rfl rfl rfl bl0 e0 rfl hl.1 rfl (Nat.le_of_ble_eq_true rfl) dX11_careerFrom_171 ⟨Nat.le_of_ble_eq_true rfl, Nat.le_of_ble_eq_true rfl⟩) hP hD hS hA [0, 1, 2, 3] [] rfl rfl rfl (by decide) (fun u_37 H locs hp_36 hP hD hS => ?_)
            obtain ⟨vocm_38, voct_39, vmcf_40, vocy_41, vmdf_42⟩ := u_37
            have hp_36 : (0 ≤ (vocy_41 : Int32).toInt ∧ (vocy_41 : Int32).toInt ≤ 10) := hp_36
            have q_43 := hp_36
            have hP : va_P (dC, dI) vwCl [(vo, .inr (12, [.int voth, .ref vmt, .int votp, .int vosz, .int volm, .int voto, .int vofr, .int vokd, .int vonu, .int vosg, .int vofa, .int vopl, .long vowd, .int votd, .ref vmn, .ref vmr, .ref vmk, .ref vms, .ref vma, .ref vmm, .ref vmrn, .ref vmkn, .ref vmik, .ref vmon, .int vosm, .int vohp, .ref vmw, .ref vmf, .ref vmb, .int vomb, .ref vmd, .ref vmc, .int vocm_38, .int voct_39, .int vocy_41, .ref vmx, .int votx, .int vose, .ref vml, .ref vmwr, .int voln, .int vohw, .ref vmno, .int vond, .int voon, .int vowi, .int votop])), (vmn, .inl (cy 0, 575, .inl vmnf)), (vmd, .inl (cy 0, 10, .inl vmdf_42)), (vmc, .inl (cy 0, 10, .inl vmcf_40))] H := hP
            have hD : va_D A [(vo, .inr (12, [.int voth, .ref vmt, .int votp, .int vosz, .int volm, .int voto, .int vofr, .int vokd, .int vonu, .int vosg, .int vofa, .int vopl, .long vowd, .int votd, .ref vmn, .ref vmr, .ref vmk, .ref vms, .ref vma, .ref vmm, .ref vmrn, .ref vmkn, .ref vmik, .ref vmon, .int vosm, .int vohp, .ref vmw, .ref vmf, .ref vmb, .int vomb, .ref vmd, .ref vmc, .int vocm_38, .int voct_39, .int vocy_41, .ref vmx, .int votx, .int vose, .ref vml, .ref vmwr, .int voln, .int vohw, .ref vmno, .int vond, .int voon, .int vowi, .int votop])), (vmn, .inl (cy 0, 575, .inl vmnf)), (vmd, .inl (cy 0, 10, .inl vmdf_42)), (vmc, .inl (cy 0, 10, .inl vmcf_40))] := hD
            obtain ⟨z_44, ez_44⟩ : ∃ z : Int32, z = x_13 + 1 := ⟨_, rfl⟩
            have bz_44 : z_44.toInt = x_13.toInt + (1 : Int32).toInt := i_add ez_44 (by omega) (by omega)
            refine lv_iinc (v := z_44) (lv' := [(7, .int z_44), (6, .int r_7), (0, .ref vo), (1, .int vm), (2, .int 2), (3, .int vlf), (4, .int vti), (5, .int vwe)]) hx hb dX11_careerFrom_174 hl (k := 0) rfl ez_44.symm (by decide) rfl (fun ls hl => ?_)
            refine lv_goto (tgt := 103) hx hb dX11_careerFrom_177 (by decide) ?_
            exact ih12 z_44 vocm_38 voct_39 vocy_41 vmcf_40 vmdf_42 ⟨by omega, by omega⟩ ⟨by omega, by omega⟩ (by omega) _ _ (hP.sub [0, 1, 2, 3] rfl) (hD.sub [0, 1, 2, 3] rfl rfl) hS ls (lv_sub hl [0, 1, 2, 3, 4, 5, 6, 7] rfl)
    have k_0 : (0 : Int32).toInt = 0 := by decide
    exact loop12 ((11 - (0 : Int32).toInt).toNat + 1) 0 vocm voct vocy vmcf vmdf ⟨by omega, by omega⟩ ⟨by omega, by omega⟩ (by omega) _ _ hP hD hS ls (lv_sub hl [0, 1, 2, 3, 4, 5, 6, 7] rfl)
  · skip
    have c_3 : (2 : Int32).toInt = z_2.toInt := i_eq.mp c_3
    have join45 : ∀ (H : Heap) (locs : List Loc), va_P (dC, dI) vwCl [(vo, .inr (12, [.int voth, .ref vmt, .int votp, .int vosz, .int volm, .int voto, .int vofr, .int vokd, .int vonu, .int vosg, .int vofa, .int vopl, .long vowd, .int votd, .ref vmn, .ref vmr, .ref vmk, .ref vms, .ref vma, .ref vmm, .ref vmrn, .ref vmkn, .ref vmik, .ref vmon, .int vosm, .int vohp, .ref vmw, .ref vmf, .ref vmb, .int vomb, .ref vmd, .ref vmc, .int vocm, .int voct, .int vocy, .ref vmx, .int votx, .int vose, .ref vml, .ref vmwr, .int voln, .int vohw, .ref vmno, .int vond, .int voon, .int vowi, .int votop])), (vmn, .inl (cy 0, 575, .inl vmnf)), (vmd, .inl (cy 0, 10, .inl vmdf)), (vmc, .inl (cy 0, 10, .inl vmcf))] H → va_D A [(vo, .inr (12, [.int voth, .ref vmt, .int votp, .int vosz, .int volm, .int voto, .int vofr, .int vokd, .int vonu, .int vosg, .int vofa, .int vopl, .long vowd, .int votd, .ref vmn, .ref vmr, .ref vmk, .ref vms, .ref vma, .ref vmm, .ref vmrn, .ref vmkn, .ref vmik, .ref vmon, .int vosm, .int vohp, .ref vmw, .ref vmf, .ref vmb, .int vomb, .ref vmd, .ref vmc, .int vocm, .int voct, .int vocy, .ref vmx, .int votx, .int vose, .ref vml, .ref vmwr, .int voln, .int vohw, .ref vmno, .int vond, .int voon, .int vowi, .int votop])), (vmn, .inl (cy 0, 575, .inl vmnf)), (vmd, .inl (cy 0, 10, .inl vmdf)), (vmc, .inl (cy 0, 10, .inl vmcf))] → va_S A s.heap H locs → ∀ ls : Array Slot, lv_has ls 8 [(0, .ref vo), (1, .int vm), (2, .int 2), (3, .int vlf), (4, .int vti), (5, .int vwe)] → W p l e ({ frames := 9, cells := 0, slots := 0, locals := 576 }) s m av9 below meth c H locs 0 0 Q9 (F0 m 38 ls []) := by
      intro  H locs hP hD hS ls hl
      refine lv_aload_n hx hb dX11_careerFrom_38 rfl (lv_at hl 0 rfl) ?_
      refine lv_iload hx hb dX11_careerFrom_39 (lv_at hl 5 rfl) ?_
      refine pf_X11_322 hx hb hts hown hK hP hD hS 0 rfl rfl rfl (Nat.le_of_ble_eq_true rfl) dX11_careerFrom_41 (fun H locs hP hD hS => ?_)
      have hP : va_P (dC, dI) vwCl [(vo, .inr (12, [.int voth, .ref vmt, .int votp, .int vosz, .int volm, .int voto, .int vofr, .int vokd, .int vonu, .int vosg, .int vofa, .int vopl, .long vowd, .int votd, .ref vmn, .ref vmr, .ref vmk, .ref vms, .ref vma, .ref vmm, .ref vmrn, .ref vmkn, .ref vmik, .ref vmon, .int vosm, .int vohp, .ref vmw, .ref vmf, .ref vmb, .int vomb, .ref vmd, .ref vmc, .int vwe, .int voct, .int vocy, .ref vmx, .int votx, .int vose, .ref vml, .ref vmwr, .int voln, .int vohw, .ref vmno, .int vond, .int voon, .int vowi, .int votop])), (vmn, .inl (cy 0, 575, .inl vmnf)), (vmd, .inl (cy 0, 10, .inl vmdf)), (vmc, .inl (cy 0, 10, .inl vmcf))] H := hP
      have hD : va_D A [(vo, .inr (12, [.int voth, .ref vmt, .int votp, .int vosz, .int volm, .int voto, .int vofr, .int vokd, .int vonu, .int vosg, .int vofa, .int vopl, .long vowd, .int votd, .ref vmn, .ref vmr, .ref vmk, .ref vms, .ref vma, .ref vmm, .ref vmrn, .ref vmkn, .ref vmik, .ref vmon, .int vosm, .int vohp, .ref vmw, .ref vmf, .ref vmb, .int vomb, .ref vmd, .ref vmc, .int vwe, .int voct, .int vocy, .ref vmx, .int votx, .int vose, .ref vml, .ref vmwr, .int voln, .int vohw, .ref vmno, .int vond, .int voon, .int vowi, .int votop])), (vmn, .inl (cy 0, 575, .inl vmnf)), (vmd, .inl (cy 0, 10, .inl vmdf)), (vmc, .inl (cy 0, 10, .inl vmcf))] := hD
      refine lv_aload_n hx hb dX11_careerFrom_44 rfl (lv_at hl 0 rfl) ?_
      refine lv_iload hx hb dX11_careerFrom_45 (lv_at hl 4 rfl) ?_
      refine pf_X11_325 hx hb hts hown hK hP hD hS 0 rfl rfl rfl (Nat.le_of_ble_eq_true rfl) dX11_careerFrom_47 (fun H locs hP hD hS => ?_)
      have hP : va_P (dC, dI) vwCl [(vo, .inr (12, [.int voth, .ref vmt, .int votp, .int vosz, .int volm, .int voto, .int vofr, .int vokd, .int vonu, .int vosg, .int vofa, .int vopl, .long vowd, .int votd, .ref vmn, .ref vmr, .ref vmk, .ref vms, .ref vma, .ref vmm, .ref vmrn, .ref vmkn, .ref vmik, .ref vmon, .int vosm, .int vohp, .ref vmw, .ref vmf, .ref vmb, .int vomb, .ref vmd, .ref vmc, .int vwe, .int vti, .int vocy, .ref vmx, .int votx, .int vose, .ref vml, .ref vmwr, .int voln, .int vohw, .ref vmno, .int vond, .int voon, .int vowi, .int votop])), (vmn, .inl (cy 0, 575, .inl vmnf)), (vmd, .inl (cy 0, 10, .inl vmdf)), (vmc, .inl (cy 0, 10, .inl vmcf))] H := hP
      have hD : va_D A [(vo, .inr (12, [.int voth, .ref vmt, .int votp, .int vosz, .int volm, .int voto, .int vofr, .int vokd, .int vonu, .int vosg, .int vofa, .int vopl, .long vowd, .int votd, .ref vmn, .ref vmr, .ref vmk, .ref vms, .ref vma, .ref vmm, .ref vmrn, .ref vmkn, .ref vmik, .ref vmon, .int vosm, .int vohp, .ref vmw, .ref vmf, .ref vmb, .int vomb, .ref vmd, .ref vmc, .int vwe, .int vti, .int vocy, .ref vmx, .int votx, .int vose, .ref vml, .ref vmwr, .int voln, .int vohw, .ref vmno, .int vond, .int voon, .int vowi, .int votop])), (vmn, .inl (cy 0, 575, .inl vmnf)), (vmd, .inl (cy 0, 10, .inl vmdf)), (vmc, .inl (cy 0, 10, .inl vmcf))] := hD
      refine lv_iconst (v := 0) hx hb dX11_careerFrom_50 (by decide) ?_
      refine lv_istore (lv' := [(6, .int 0), (0, .ref vo), (1, .int vm), (2, .int 2), (3, .int vlf), (4, .int vti), (5, .int vwe)]) hx hb dX11_careerFrom_51 hl (by decide) rfl (fun ls hl => ?_)
      have loop46 : ∀ (n46 : Nat) (x_47 : Int32) (g_48 : Nat → Int32), (0 ≤ x_47.toInt ∧ x_47.toInt ≤ 10) → 10 - x_47.toInt < (n46 : Int) → ∀ (H : Heap) (locs : List Loc), va_P (dC, dI) vwCl [(vo, .inr (12, [.int voth, .ref vmt, .int votp, .int vosz, .int volm, .int voto, .int vofr, .int vokd, .int vonu, .int vosg, .int vofa, .int vopl, .long vowd, .int votd, .ref vmn, .ref vmr, .ref vmk, .ref vms, .ref vma, .ref vmm, .ref vmrn, .ref vmkn, .ref vmik, .ref vmon, .int vosm, .int vohp, .ref vmw, .ref vmf, .ref vmb, .int vomb, .ref vmd, .ref vmc, .int vwe, .int vti, .int vocy, .ref vmx, .int votx, .int vose, .ref vml, .ref vmwr, .int voln, .int vohw, .ref vmno, .int vond, .int voon, .int vowi, .int votop])), (vmn, .inl (cy 0, 575, .inl vmnf)), (vmd, .inl (cy 0, 10, .inl vmdf)), (vmc, .inl (cy 0, 10, .inl g_48))] H → va_D A [(vo, .inr (12, [.int voth, .ref vmt, .int votp, .int vosz, .int volm, .int voto, .int vofr, .int vokd, .int vonu, .int vosg, .int vofa, .int vopl, .long vowd, .int votd, .ref vmn, .ref vmr, .ref vmk, .ref vms, .ref vma, .ref vmm, .ref vmrn, .ref vmkn, .ref vmik, .ref vmon, .int vosm, .int vohp, .ref vmw, .ref vmf, .ref vmb, .int vomb, .ref vmd, .ref vmc, .int vwe, .int vti, .int vocy, .ref vmx, .int votx, .int vose, .ref vml, .ref vmwr, .int voln, .int vohw, .ref vmno, .int vond, .int voon, .int vowi, .int votop])), (vmn, .inl (cy 0, 575, .inl vmnf)), (vmd, .inl (cy 0, 10, .inl vmdf)), (vmc, .inl (cy 0, 10, .inl g_48))] → va_S A s.heap H locs → ∀ ls : Array Slot, lv_has ls 8 [(6, .int x_47), (0, .ref vo), (1, .int vm), (2, .int 2), (3, .int vlf), (4, .int vti), (5, .int vwe)] → W p l e ({ frames := 9, cells := 0, slots := 0, locals := 576 }) s m av9 below meth c H locs 0 0 Q9 (F0 m 53 ls []) := by
        intro n46
        induction n46 with
        | zero =>
          intro x_47 g_48 bx_47 hn46 H locs hP hD hS ls hl
          exfalso; omega
        | succ n46 ih46 =>
          intro x_47 g_48 bx_47 hn46 H locs hP hD hS ls hl
          refine lv_iload hx hb dX11_careerFrom_53 (lv_at hl 0 rfl) ?_
          refine lv_iload_n hx hb dX11_careerFrom_55 rfl (lv_at hl 3 rfl) ?_
          refine lv_icmp_ge (tgt := 79) hx hb dX11_careerFrom_56 (by decide) (fun c_49 => ?_) (fun c_49 => ?_)
          · skip
            have c_49 : (2 : Int32).toInt ≤ x_47.toInt := i_le.mp c_49
            refine lv_aload_n hx hb dX11_careerFrom_79 rfl (lv_at hl 1 rfl) ?_
            refine lv_iload_n hx hb dX11_careerFrom_80 rfl (lv_at hl 3 rfl) ?_
            refine pf_X11_328 hx hb hts hown hK hP hD hS 0 rfl rfl rfl (Nat.le_of_ble_eq_true rfl) dX11_careerFrom_81 (fun H locs hP hD hS => ?_)
            have hP : va_P (dC, dI) vwCl [(vo, .inr (12, [.int voth, .ref vmt, .int votp, .int vosz, .int volm, .int voto, .int vofr, .int vokd, .int vonu, .int vosg, .int vofa, .int vopl, .long vowd, .int votd, .ref vmn, .ref vmr, .ref vmk, .ref vms, .ref vma, .ref vmm, .ref vmrn, .ref vmkn, .ref vmik, .ref vmon, .int vosm, .int vohp, .ref vmw, .ref vmf, .ref vmb, .int vomb, .ref vmd, .ref vmc, .int vwe, .int vti, .int 2, .ref vmx, .int votx, .int vose, .ref vml, .ref vmwr, .int voln, .int vohw, .ref vmno, .int vond, .int voon, .int vowi, .int votop])), (vmn, .inl (cy 0, 575, .inl vmnf)), (vmd, .inl (cy 0, 10, .inl vmdf)), (vmc, .inl (cy 0, 10, .inl g_48))] H := hP
            have hD : va_D A [(vo, .inr (12, [.int voth, .ref vmt, .int votp, .int vosz, .int volm, .int voto, .int vofr, .int vokd, .int vonu, .int vosg, .int vofa, .int vopl, .long vowd, .int votd, .ref vmn, .ref vmr, .ref vmk, .ref vms, .ref vma, .ref vmm, .ref vmrn, .ref vmkn, .ref vmik, .ref vmon, .int vosm, .int vohp, .ref vmw, .ref vmf, .ref vmb, .int vomb, .ref vmd, .ref vmc, .int vwe, .int vti, .int 2, .ref vmx, .int votx, .int vose, .ref vml, .ref vmwr, .int voln, .int vohw, .ref vmno, .int vond, .int voon, .int vowi, .int votop])), (vmn, .inl (cy 0, 575, .inl vmnf)), (vmd, .inl (cy 0, 10, .inl vmdf)), (vmc, .inl (cy 0, 10, .inl g_48))] := hD
            rw [hQ9]
            exact re_v (vwe, vti, g_48, (2 : Int32), vmdf) hx hb hr hlocks (show 0 ≤ (2 : Int32).toInt ∧ (2 : Int32).toInt ≤ 10 from ⟨by omega, by omega⟩) (hP.sub [0, 1, 2, 3] rfl) (hD.sub [0, 1, 2, 3] rfl rfl) hS dX11_careerFrom_84
          · skip
            have c_49 : ¬ ((2 : Int32).toInt ≤ x_47.toInt) := fun h9 => c_49 (i_le.mpr h9)
            refine lv_aload_n hx hb dX11_careerFrom_59 rfl (lv_at hl 1 rfl) ?_
            refine gf_X11_145 hx hb hts hown hK hP 0 rfl rfl dX11_careerFrom_60 ?_
            refine lv_iload hx hb dX11_careerFrom_63 (lv_at hl 0 rfl) ?_
            refine lv_aload_n hx hb dX11_careerFrom_65 rfl (lv_at hl 1 rfl) ?_
            refine gf_X11_142 hx hb hts hown hK hP 0 rfl rfl dX11_careerFrom_66 ?_
            refine lv_iload hx hb dX11_careerFrom_69 (lv_at hl 0 rfl) ?_
            have hin_50 : vp_in x_47 10 := vp_in_iff.mpr ⟨by omega, by omega⟩
            refine va_iald hx hb hK hP 2 0 rfl rfl hin_50 dX11_careerFrom_71 ?_
            refine lv_topi (fun z_51 ez_51 => ?_)
            have hin_52 : vp_in x_47 10 := vp_in_iff.mpr ⟨by omega, by omega⟩
            refine va_iast hx hb hK hP hD hS 3 0 rfl rfl hin_52 dX11_careerFrom_72 (fun H locs hP hD hS => ?_)
            obtain ⟨f_53, ef_53⟩ : ∃ z : Nat → Int32, z = upd g_48 (Int32.toNatClampNeg x_47) z_51 := ⟨_, rfl⟩
            have hP : va_P (dC, dI) vwCl [(vo, .inr (12, [.int voth, .ref vmt, .int votp, .int vosz, .int volm, .int voto, .int vofr, .int vokd, .int vonu, .int vosg, .int vofa, .int vopl, .long vowd, .int votd, .ref vmn, .ref vmr, .ref vmk, .ref vms, .ref vma, .ref vmm, .ref vmrn, .ref vmkn, .ref vmik, .ref vmon, .int vosm, .int vohp, .ref vmw, .ref vmf, .ref vmb, .int vomb, .ref vmd, .ref vmc, .int vwe, .int vti, .int vocy, .ref vmx, .int votx, .int vose, .ref vml, .ref vmwr, .int voln, .int vohw, .ref vmno, .int vond, .int voon, .int vowi, .int votop])), (vmn, .inl (cy 0, 575, .inl vmnf)), (vmd, .inl (cy 0, 10, .inl vmdf)), (vmc, .inl (cy 0, 10, .inl f_53))] H := by rw [ef_53]; exact hP
            have hD : va_D A [(vo, .inr (12, [.int voth, .ref vmt, .int votp, .int vosz, .int volm, .int voto, .int vofr, .int vokd, .int vonu, .int vosg, .int vofa, .int vopl, .long vowd, .int votd, .ref vmn, .ref vmr, .ref vmk, .ref vms, .ref vma, .ref vmm, .ref vmrn, .ref vmkn, .ref vmik, .ref vmon, .int vosm, .int vohp, .ref vmw, .ref vmf, .ref vmb, .int vomb, .ref vmd, .ref vmc, .int vwe, .int vti, .int vocy, .ref vmx, .int votx, .int vose, .ref vml, .ref vmwr, .int voln, .int vohw, .ref vmno, .int vond, .int voon, .int vowi, .int votop])), (vmn, .inl (cy 0, 575, .inl vmnf)), (vmd, .inl (cy 0, 10, .inl vmdf)), (vmc, .inl (cy 0, 10, .inl f_53))] := by rw [ef_53]; exact hD
            obtain ⟨z_54, ez_54⟩ : ∃ z : Int32, z = x_47 + 1 := ⟨_, rfl⟩
            have bz_54 : z_54.toInt = x_47.toInt + (1 : Int32).toInt := i_add ez_54 (by omega) (by omega)
            refine lv_iinc (v := z_54) (lv' := [(6, .int z_54), (0, .ref vo), (1, .int vm), (2, .int 2), (3, .int vlf), (4, .int vti), (5, .int vwe)]) hx hb dX11_careerFrom_73 hl (k := 0) rfl ez_54.symm (by decide) rfl (fun ls hl => ?_)
            refine lv_goto (tgt := 53) hx hb dX11_careerFrom_76 (by decide) ?_
            exact ih46 z_54 f_53 ⟨by omega, by omega⟩ (by omega) _ _ (hP.sub [0, 1, 2, 3] rfl) (hD.sub [0, 1, 2, 3] rfl rfl) hS ls (lv_sub hl [0, 1, 2, 3, 4, 5, 6] rfl)
      have k_0 : (0 : Int32).toInt = 0 := by decide
      exact loop46 ((10 - (0 : Int32).toInt).toNat + 1) 0 vmcf ⟨by omega, by omega⟩ (by omega) _ _ hP hD hS ls (lv_sub hl [0, 1, 2, 3, 4, 5, 6] rfl)
    refine lv_iload hx hb dX11_careerFrom_10 (lv_at hl 5 rfl) ?_
    refine lv_aload_n hx hb dX11_careerFrom_12 rfl (lv_at hl 0 rfl) ?_
    refine gf_X11_322 hx hb hts hown hK hP 0 rfl rfl dX11_careerFrom_13 ?_
    refine lv_icmp_lt (tgt := 37) hx hb dX11_careerFrom_16 (by decide) (fun c_55 => ?_) (fun c_55 => ?_)
    · skip
      have c_55 : vwe.toInt < vocm.toInt := i_lt.mp c_55
      rw [hQ9]
      exact re_v (vocm, voct, vmcf, vocy, vmdf) hx hb hr hlocks (show 0 ≤ (vocy : Int32).toInt ∧ (vocy : Int32).toInt ≤ 10 from ⟨by omega, by omega⟩) (hP.sub [0, 1, 2, 3] rfl) (hD.sub [0, 1, 2, 3] rfl rfl) hS dX11_careerFrom_37
    · skip
      have c_55 : ¬ (vwe.toInt < vocm.toInt) := fun h9 => c_55 (i_lt.mpr h9)
      refine lv_iload hx hb dX11_careerFrom_19 (lv_at hl 5 rfl) ?_
      refine lv_aload_n hx hb dX11_careerFrom_21 rfl (lv_at hl 0 rfl) ?_
      refine gf_X11_322 hx hb hts hown hK hP 0 rfl rfl dX11_careerFrom_22 ?_
      refine lv_icmp_ne (tgt := 38) hx hb dX11_careerFrom_25 (by decide) (fun c_56 => ?_) (fun c_56 => ?_)
      · skip
        have c_56 : ¬ (vwe.toInt = vocm.toInt) := fun h9 => c_56 (i_eq.mpr h9)
        exact join45  _ _ (hP.sub [0, 1, 2, 3] rfl) (hD.sub [0, 1, 2, 3] rfl rfl) hS ls (lv_sub hl [0, 1, 2, 3, 4, 5] rfl)
      · skip
        have c_56 : vwe.toInt = vocm.toInt := i_eq.mp c_56
        refine lv_iload hx hb dX11_careerFrom_28 (lv_at hl 4 rfl) ?_
        refine lv_aload_n hx hb dX11_careerFrom_30 rfl (lv_at hl 0 rfl) ?_
        refine gf_X11_325 hx hb hts hown hK hP 0 rfl rfl dX11_careerFrom_31 ?_
        refine lv_icmp_lt (tgt := 38) hx hb dX11_careerFrom_34 (by decide) (fun c_57 => ?_) (fun c_57 => ?_)
        · skip
          have c_57 : vti.toInt < voct.toInt := i_lt.mp c_57
          exact join45  _ _ (hP.sub [0, 1, 2, 3] rfl) (hD.sub [0, 1, 2, 3] rfl rfl) hS ls (lv_sub hl [0, 1, 2, 3, 4, 5] rfl)
        · skip
          have c_57 : ¬ (vti.toInt < voct.toInt) := fun h9 => c_57 (i_lt.mpr h9)
          rw [hQ9]
          exact re_v (vocm, voct, vmcf, vocy, vmdf) hx hb hr hlocks (show 0 ≤ (vocy : Int32).toInt ∧ (vocy : Int32).toInt ≤ 10 from ⟨by omega, by omega⟩) (hP.sub [0, 1, 2, 3] rfl) (hD.sub [0, 1, 2, 3] rfl rfl) hS dX11_careerFrom_37
abbrev O_m_careerFrom_1 (cy : Nat → ClassId) (vnh : Nat → Int32) (vo : Nat) (voth : Int32) (vmt : Nat) (votp : Int32) (vosz : Int32) (volm : Int32) (voto : Int32) (vofr : Int32) (vokd : Int32) (vonu : Int32) (vosg : Int32) (vofa : Int32) (vopl : Int32) (vowd : Int64) (votd : Int32) (vmn : Nat) (vmr : Nat) (vmk : Nat) (vms : Nat) (vma : Nat) (vmm : Nat) (vmrn : Nat) (vmkn : Nat) (vmik : Nat) (vmon : Nat) (vosm : Int32) (vohp : Int32) (vmw : Nat) (vmf : Nat) (vmb : Nat) (vomb : Int32) (vmd : Nat) (vmc : Nat) (vocm : Int32) (voct : Int32) (vocy : Int32) (vmx : Nat) (votx : Int32) (vose : Int32) (vml : Nat) (vmwr : Nat) (voln : Int32) (vohw : Int32) (vmno : Nat) (vond : Int32) (voon : Int32) (vowi : Int32) (votop : Int32) (vmnf : Nat → Int32) (vmdf : Nat → Int32) (vmcf : Nat → Int32) (vm : Int32) (vlf : Int32) (vti : Int32) (vwe : Int32) (u : Int32 × Int32 × (Nat → Int32) × Int32 × (Nat → Int32)) : va_W := [(vo, .inr (12, [.int voth, .ref vmt, .int votp, .int vosz, .int volm, .int voto, .int vofr, .int vokd, .int vonu, .int vosg, .int vofa, .int vopl, .long vowd, .int votd, .ref vmn, .ref vmr, .ref vmk, .ref vms, .ref vma, .ref vmm, .ref vmrn, .ref vmkn, .ref vmik, .ref vmon, .int vosm, .int vohp, .ref vmw, .ref vmf, .ref vmb, .int vomb, .ref vmd, .ref vmc, .int u.1, .int u.2.1, .int u.2.2.2.1, .ref vmx, .int votx, .int vose, .ref vml, .ref vmwr, .int voln, .int vohw, .ref vmno, .int vond, .int voon, .int vowi, .int votop])), (vmn, .inl (cy 0, 575, .inl vmnf)), (vmd, .inl (cy 0, 10, .inl u.2.2.2.2)), (vmc, .inl (cy 0, 10, .inl u.2.2.1))]
set_option maxHeartbeats 4000000 in
set_option maxRecDepth 100000 in
theorem m_careerFrom_1 (l : Launch) (dC : Nat → ClassId) (dI : Nat → Nat → Nat) (cy : Nat → ClassId) (sz : Nat) (vnh : Nat → Int32) (vo : Nat) (voth : Int32) (vmt : Nat) (votp : Int32) (vosz : Int32) (volm : Int32) (voto : Int32) (vofr : Int32) (vokd : Int32) (vonu : Int32) (vosg : Int32) (vofa : Int32) (vopl : Int32) (vowd : Int64) (votd : Int32) (vmn : Nat) (vmr : Nat) (vmk : Nat) (vms : Nat) (vma : Nat) (vmm : Nat) (vmrn : Nat) (vmkn : Nat) (vmik : Nat) (vmon : Nat) (vosm : Int32) (vohp : Int32) (vmw : Nat) (vmf : Nat) (vmb : Nat) (vomb : Int32) (vmd : Nat) (vmc : Nat) (vocm : Int32) (voct : Int32) (vocy : Int32) (vmx : Nat) (votx : Int32) (vose : Int32) (vml : Nat) (vmwr : Nat) (voln : Int32) (vohw : Int32) (vmno : Nat) (vond : Int32) (voon : Int32) (vowi : Int32) (votop : Int32) (vmnf : Nat → Int32) (vmdf : Nat → Int32) (vmcf : Nat → Int32) (vm : Int32) (vlf : Int32) (vti : Int32) (vwe : Int32) (r_vocy : 0 ≤ (vocy : Int32).toInt ∧ (vocy : Int32).toInt ≤ 10) (r_vm : 0 ≤ (vm : Int32).toInt ∧ (vm : Int32).toInt ≤ 6) (r_vlf : 0 ≤ (vlf : Int32).toInt ∧ (vlf : Int32).toInt ≤ 10) (p_vmnf : NW vnh vmnf) (hd : 1 ≤ (vmnf 1).toInt) : Met l yX11_careerFrom (wl yX11_careerFrom cX11_careerFrom 8 none) ({ frames := 10, cells := 0, slots := 0, locals := 640 }) (Pw (dC, dI) vwCl cy [(vo, .inr (12, [.int voth, .ref vmt, .int votp, .int vosz, .int volm, .int voto, .int vofr, .int vokd, .int vonu, .int vosg, .int vofa, .int vopl, .long vowd, .int votd, .ref vmn, .ref vmr, .ref vmk, .ref vms, .ref vma, .ref vmm, .ref vmrn, .ref vmkn, .ref vmik, .ref vmon, .int vosm, .int vohp, .ref vmw, .ref vmf, .ref vmb, .int vomb, .ref vmd, .ref vmc, .int vocm, .int voct, .int vocy, .ref vmx, .int votx, .int vose, .ref vml, .ref vmwr, .int voln, .int vohw, .ref vmno, .int vond, .int voon, .int vowi, .int votop])), (vmn, .inl (cy 0, 575, .inl vmnf)), (vmd, .inl (cy 0, 10, .inl vmdf)), (vmc, .inl (cy 0, 10, .inl vmcf))] sz [.ref vo, .int vm, .int 1, .int vlf, .int vti, .int vwe] nE) (Qv (dC, dI) vwCl (fun (u : Int32 × Int32 × (Nat → Int32) × Int32 × (Nat → Int32)) => (0 ≤ (u.2.2.2.1 : Int32).toInt ∧ (u.2.2.2.1 : Int32).toInt ≤ 10)) (O_m_careerFrom_1 cy vnh vo voth vmt votp vosz volm voto vofr vokd vonu vosg vofa vopl vowd votd vmn vmr vmk vms vma vmm vmrn vmkn vmik vmon vosm vohp vmw vmf vmb vomb vmd vmc vocm voct vocy vmx votx vose vml vmwr voln vohw vmno vond voon vowi votop vmnf vmdf vmcf vm vlf vti vwe) (va_A [(vo, .inr (12, [.int voth, .ref vmt, .int votp, .int vosz, .int volm, .int voto, .int vofr, .int vokd, .int vonu, .int vosg, .int vofa, .int vopl, .long vowd, .int votd, .ref vmn, .ref vmr, .ref vmk, .ref vms, .ref vma, .ref vmm, .ref vmrn, .ref vmkn, .ref vmik, .ref vmon, .int vosm, .int vohp, .ref vmw, .ref vmf, .ref vmb, .int vomb, .ref vmd, .ref vmc, .int vocm, .int voct, .int vocy, .ref vmx, .int votx, .int vose, .ref vml, .ref vmwr, .int voln, .int vohw, .ref vmno, .int vond, .int voon, .int vowi, .int votop])), (vmn, .inl (cy 0, 575, .inl vmnf)), (vmd, .inl (cy 0, 10, .inl vmdf)), (vmc, .inl (cy 0, 10, .inl vmcf))] sz)) 0 0 (va_A [(vo, .inr (12, [.int voth, .ref vmt, .int votp, .int vosz, .int volm, .int voto, .int vofr, .int vokd, .int vonu, .int vosg, .int vofa, .int vopl, .long vowd, .int votd, .ref vmn, .ref vmr, .ref vmk, .ref vms, .ref vma, .ref vmm, .ref vmrn, .ref vmkn, .ref vmik, .ref vmon, .int vosm, .int vohp, .ref vmw, .ref vmf, .ref vmb, .int vomb, .ref vmd, .ref vmc, .int vocm, .int voct, .int vocy, .ref vmx, .int votx, .int vose, .ref vml, .ref vmwr, .int voln, .int vohw, .ref vmno, .int vond, .int voon, .int vowi, .int votop])), (vmn, .inl (cy 0, 575, .inl vmnf)), (vmd, .inl (cy 0, 10, .inl vmdf)), (vmc, .inl (cy 0, 10, .inl vmcf))] sz) := by
  refine mw (Qc := Qv (dC, dI) vwCl (fun (u : Int32 × Int32 × (Nat → Int32) × Int32 × (Nat → Int32)) => (0 ≤ (u.2.2.2.1 : Int32).toInt ∧ (u.2.2.2.1 : Int32).toInt ≤ 10)) (O_m_careerFrom_1 cy vnh vo voth vmt votp vosz volm voto vofr vokd vonu vosg vofa vopl vowd votd vmn vmr vmk vms vma vmm vmrn vmkn vmik vmon vosm vohp vmw vmf vmb vomb vmd vmc vocm voct vocy vmx votx vose vml vmwr voln vohw vmno vond voon vowi votop vmnf vmdf vmcf vm vlf vti vwe)) RX11 rfl (by decide +kernel) (Nat.le_of_ble_eq_true rfl) ?_
  intro p e s m below meth c A hx hb hr hlocks av9 hav hts hown hnm hml hK hP hD hA hS hE hAe Q9 hQ9 ls hl
  have hl : lv_has ls 8 [(0, .ref vo), (1, .int vm), (2, .int 1), (3, .int vlf), (4, .int vti), (5, .int vwe)] := hl
  refine lv_iload_n hx hb dX11_careerFrom_0 rfl (lv_at hl 2 rfl) ?_
  refine lv_aload_n hx hb dX11_careerFrom_1 rfl (lv_at hl 0 rfl) ?_
  refine gf_X11_98 hx hb hts hown hK hP 0 rfl rfl dX11_careerFrom_2 ?_
  refine lv_iconst (v := 1) hx hb dX11_careerFrom_5 (by decide) ?_
  have k_1 : (1 : Int32).toInt = 1 := by decide
  have hin_1 : vp_in (1 : Int32) 575 := vp_in_iff.mpr ⟨by omega, by omega⟩
  refine va_iald hx hb hK hP 1 0 rfl rfl hin_1 dX11_careerFrom_6 ?_
  refine lv_topi (fun z_2 ez_2 => ?_)
  have bz_2 := p_vmnf.a1 (x := 1) ⟨by omega, by omega⟩ ez_2
  have tz_2 : z_2.toInt = (vmnf 1).toInt := by rw [ez_2]; rfl
  refine lv_icmp_ne (tgt := 85) hx hb dX11_careerFrom_7 (by decide) (fun c_3 => ?_) (fun c_3 => ?_)
  · skip
    have c_3 : ¬ ((1 : Int32).toInt = z_2.toInt) := fun h9 => c_3 (i_eq.mpr h9)
    refine lv_iload_n hx hb dX11_careerFrom_85 rfl (lv_at hl 3 rfl) ?_
    refine lv_bipush (v := 9) hx hb dX11_careerFrom_86 (by decide) ?_
    refine lv_aload_n hx hb dX11_careerFrom_88 rfl (lv_at hl 0 rfl) ?_
    refine lv_iload_n hx hb dX11_careerFrom_89 rfl (lv_at hl 1 rfl) ?_
    refine lv_iload_n hx hb dX11_careerFrom_90 rfl (lv_at hl 2 rfl) ?_
    refine jr_i (rVr (As := [.int vm, .int 1]) (rest := [.int 9, .int vlf]) (ci := 12) ⟨hx, hb, hml, hown, hts⟩ (m_didOf l dC dI cy vnh vo voth vmt votp vosz volm voto vofr vokd vonu vosg vofa vopl vowd votd vmn vmr vmk vms vma vmm vmrn vmkn vmik vmon vosm vohp vmw vmf vmb vomb vmd vmc vocm voct vocy vmx votx vose vml vmwr voln vohw vmno vond voon vowi votop vmnf vm 1 ⟨by omega, by omega⟩ ⟨by omega, by omega⟩ p_vmnf) (cw_X11_228 hts rfl rfl ⟨Nat.le_of_ble_eq_true rfl, Nat.le_of_ble_eq_true rfl⟩) hP hK [0, 1] rfl rfl rfl rfl hl.1 rfl (Nat.le_of_ble_eq_true rfl) dX11_careerFrom_91 ⟨Nat.le_of_ble_eq_true rfl, Nat.le_of_ble_eq_true rfl⟩) hP hS (fun r_4 H locs hp_5 hP hS => ?_)
    refine lv_isub hx hb dX11_careerFrom_94 ?_
    refine lv_topi (fun z_6 ez_6 => ?_)
    refine jr_i (rSr (As := [.int vlf, .int z_6]) (rest := []) ⟨hx, hb, hml, hown, hts⟩ (m_least l dC dI cy vlf z_6 ) (cw_X11_288 hts rfl rfl ⟨Nat.le_of_ble_eq_true rfl, Nat.le_of_ble_eq_true rfl⟩) hP hK [] rfl rfl hl.1 rfl (Nat.le_of_ble_eq_true rfl) dX11_careerFrom_95 ⟨Nat.le_of_ble_eq_true rfl, Nat.le_of_ble_eq_true rfl⟩) hP hS (fun r_7 H locs hp_8 hP hS => ?_)
    have hp_8 : ((r_7 : Int32).toInt ≤ (vlf : Int32).toInt) ∧ ((r_7 : Int32).toInt ≤ (z_6 : Int32).toInt) ∧ (((r_7 : Int32).toInt = (vlf : Int32).toInt ∨ (r_7 : Int32).toInt = (z_6 : Int32).toInt)) := hp_8
    obtain ⟨q_9, q_10, q_11⟩ := hp_8
    refine lv_istore (lv' := [(6, .int r_7), (0, .ref vo), (1, .int vm), (2, .int 1), (3, .int vlf), (4, .int vti), (5, .int vwe)]) hx hb dX11_careerFrom_98 hl (by decide) rfl (fun ls hl => ?_)
    refine lv_iconst (v := 0) hx hb dX11_careerFrom_100 (by decide) ?_
    refine lv_istore (lv' := [(7, .int 0), (6, .int r_7), (0, .ref vo), (1, .int vm), (2, .int 1), (3, .int vlf), (4, .int vti), (5, .int vwe)]) hx hb dX11_careerFrom_101 hl (by decide) rfl (fun ls hl => ?_)
    have loop12 : ∀ (n12 : Nat) (x_13 : Int32) (x_14 : Int32) (x_15 : Int32) (x_16 : Int32) (g_17 : Nat → Int32) (g_18 : Nat → Int32), (0 ≤ x_13.toInt ∧ x_13.toInt ≤ 11) → (0 ≤ x_16.toInt ∧ x_16.toInt ≤ 10) → 11 - x_13.toInt < (n12 : Int) → ∀ (H : Heap) (locs : List Loc), va_P (dC, dI) vwCl [(vo, .inr (12, [.int voth, .ref vmt, .int votp, .int vosz, .int volm, .int voto, .int vofr, .int vokd, .int vonu, .int vosg, .int vofa, .int vopl, .long vowd, .int votd, .ref vmn, .ref vmr, .ref vmk, .ref vms, .ref vma, .ref vmm, .ref vmrn, .ref vmkn, .ref vmik, .ref vmon, .int vosm, .int vohp, .ref vmw, .ref vmf, .ref vmb, .int vomb, .ref vmd, .ref vmc, .int x_14, .int x_15, .int x_16, .ref vmx, .int votx, .int vose, .ref vml, .ref vmwr, .int voln, .int vohw, .ref vmno, .int vond, .int voon, .int vowi, .int votop])), (vmn, .inl (cy 0, 575, .inl vmnf)), (vmd, .inl (cy 0, 10, .inl g_18)), (vmc, .inl (cy 0, 10, .inl g_17))] H → va_D A [(vo, .inr (12, [.int voth, .ref vmt, .int votp, .int vosz, .int volm, .int voto, .int vofr, .int vokd, .int vonu, .int vosg, .int vofa, .int vopl, .long vowd, .int votd, .ref vmn, .ref vmr, .ref vmk, .ref vms, .ref vma, .ref vmm, .ref vmrn, .ref vmkn, .ref vmik, .ref vmon, .int vosm, .int vohp, .ref vmw, .ref vmf, .ref vmb, .int vomb, .ref vmd, .ref vmc, .int x_14, .int x_15, .int x_16, .ref vmx, .int votx, .int vose, .ref vml, .ref vmwr, .int voln, .int vohw, .ref vmno, .int vond, .int voon, .int vowi, .int votop])), (vmn, .inl (cy 0, 575, .inl vmnf)), (vmd, .inl (cy 0, 10, .inl g_18)), (vmc, .inl (cy 0, 10, .inl g_17))] → va_S A s.heap H locs → ∀ ls : Array Slot, lv_has ls 8 [(7, .int x_13), (6, .int r_7), (0, .ref vo), (1, .int vm), (2, .int 1), (3, .int vlf), (4, .int vti), (5, .int vwe)] → W p l e ({ frames := 10, cells := 0, slots := 0, locals := 640 }) s m av9 below meth c H locs 0 0 Q9 (F0 m 103 ls []) := by
      intro n12
      induction n12 with
      | zero =>
        intro x_13 x_14 x_15 x_16 g_17 g_18 bx_13 bx_16 hn12 H locs hP hD hS ls hl
        exfalso; omega
      | succ n12 ih12 =>
        intro x_13 x_14 x_15 x_16 g_17 g_18 bx_13 bx_16 hn12 H locs hP hD hS ls hl
        refine lv_iload hx hb dX11_careerFrom_103 (lv_at hl 0 rfl) ?_
        refine lv_iload hx hb dX11_careerFrom_105 (lv_at hl 1 rfl) ?_
        refine lv_icmp_gt (tgt := 180) hx hb dX11_careerFrom_107 (by decide) (fun c_19 => ?_) (fun c_19 => ?_)
        · skip
          have c_19 : r_7.toInt < x_13.toInt := i_lt.mp c_19
          rw [hQ9]
          exact re_v (x_14, x_15, g_17, x_16, g_18) hx hb hr hlocks (show 0 ≤ (x_16 : Int32).toInt ∧ (x_16 : Int32).toInt ≤ 10 from ⟨by omega, by omega⟩) (hP.sub [0, 1, 2, 3] rfl) (hD.sub [0, 1, 2, 3] rfl rfl) hS dX11_careerFrom_180
        · skip
          have c_19 : ¬ (r_7.toInt < x_13.toInt) := fun h9 => c_19 (i_lt.mpr h9)
          refine lv_iload hx hb dX11_careerFrom_110 (lv_at hl 7 rfl) ?_
          refine lv_iload hx hb dX11_careerFrom_112 (lv_at hl 0 rfl) ?_
          refine lv_aload_n hx hb dX11_careerFrom_114 rfl (lv_at hl 2 rfl) ?_
          refine gf_X11_98 hx hb hts hown hK hP 0 rfl rfl dX11_careerFrom_115 ?_
          refine lv_bipush (v := 11) hx hb dX11_careerFrom_118 (by decide) ?_
          refine lv_iload_n hx hb dX11_careerFrom_120 rfl (lv_at hl 4 rfl) ?_
          refine lv_iadd hx hb dX11_careerFrom_121 ?_
          refine as_i 12 (by decide) ?_
          have k_12 : (12 : Int32).toInt = 12 := by decide
          have hin_20 : vp_in (12 : Int32) 575 := vp_in_iff.mpr ⟨by omega, by omega⟩
          refine va_iald hx hb hK hP 1 0 rfl rfl hin_20 dX11_careerFrom_122 ?_
          refine lv_topi (fun z_21 ez_21 => ?_)
          have bz_21 := p_vmnf.aw (x := 12) ⟨by omega, by omega⟩ ez_21
          have tz_21 : z_21.toInt = (vmnf 12).toInt := by rw [ez_21]; rfl
          refine lv_imul hx hb dX11_careerFrom_123 ?_
          refine lv_topi (fun z_22 ez_22 => ?_)
          have bz_22 : 0 ≤ z_22.toInt ∧ z_22.toInt ≤ 400 ∧ z_22.toInt = x_13.toInt * z_21.toInt := i_mulb (A := 10) (B := 40) ez_22 ⟨by omega, by omega⟩ ⟨by omega, by omega⟩ (by decide)
          refine lv_iadd hx hb dX11_careerFrom_124 ?_
          refine lv_topi (fun z_23 ez_23 => ?_)
          refine lv_aload_n hx hb dX11_careerFrom_125 rfl (lv_at hl 2 rfl) ?_
          refine gf_X11_98 hx hb hts hown hK hP 0 rfl rfl dX11_careerFrom_126 ?_
          refine lv_iconst (v := 2) hx hb dX11_careerFrom_129 (by decide) ?_
          have k_2 : (2 : Int32).toInt = 2 := by decide
          have hin_24 : vp_in (2 : Int32) 575 := vp_in_iff.mpr ⟨by omega, by omega⟩
          refine va_iald hx hb hK hP 1 0 rfl rfl hin_24 dX11_careerFrom_130 ?_
          refine lv_topi (fun z_25 ez_25 => ?_)
          have tz_25 : z_25.toInt = (vmnf 2).toInt := by rw [ez_25]; rfl
          refine lv_icmp_gt (tgt := 180) hx hb dX11_careerFrom_131 (by decide) (fun c_26 => ?_) (fun c_26 => ?_)
          · skip
            have c_26 : z_25.toInt < z_23.toInt := i_lt.mp c_26
            rw [hQ9]
            exact re_v (x_14, x_15, g_17, x_16, g_18) hx hb hr hlocks (show 0 ≤ (x_16 : Int32).toInt ∧ (x_16 : Int32).toInt ≤ 10 from ⟨by omega, by omega⟩) (hP.sub [0, 1, 2, 3] rfl) (hD.sub [0, 1, 2, 3] rfl rfl) hS dX11_careerFrom_180
          · skip
            have c_26 : ¬ (z_25.toInt < z_23.toInt) := fun h9 => c_26 (i_lt.mpr h9)
            refine lv_aload_n hx hb dX11_careerFrom_134 rfl (lv_at hl 2 rfl) ?_
            refine gf_X11_142 hx hb hts hown hK hP 0 rfl rfl dX11_careerFrom_135 ?_
            refine lv_iload_n hx hb dX11_careerFrom_138 rfl (lv_at hl 4 rfl) ?_
            refine lv_iload hx hb dX11_careerFrom_139 (lv_at hl 0 rfl) ?_
            have hin_27 : vp_in (1 : Int32) 10 := vp_in_iff.mpr ⟨by omega, by omega⟩
            refine va_iast hx hb hK hP hD hS 2 0 rfl rfl hin_27 dX11_careerFrom_141 (fun H locs hP hD hS => ?_)
            obtain ⟨f_28, ef_28⟩ : ∃ z : Nat → Int32, z = upd g_18 (Int32.toNatClampNeg 1) x_13 := ⟨_, rfl⟩
            have hP : va_P (dC, dI) vwCl [(vo, .inr (12, [.int voth, .ref vmt, .int votp, .int vosz, .int volm, .int voto, .int vofr, .int vokd, .int vonu, .int vosg, .int vofa, .int vopl, .long vowd, .int votd, .ref vmn, .ref vmr, .ref vmk, .ref vms, .ref vma, .ref vmm, .ref vmrn, .ref vmkn, .ref vmik, .ref vmon, .int vosm, .int vohp, .ref vmw, .ref vmf, .ref vmb, .int vomb, .ref vmd, .ref vmc, .int x_14, .int x_15, .int x_16, .ref vmx, .int votx, .int vose, .ref vml, .ref vmwr, .int voln, .int vohw, .ref vmno, .int vond, .int voon, .int vowi, .int votop])), (vmn, .inl (cy 0, 575, .inl vmnf)), (vmd, .inl (cy 0, 10, .inl f_28)), (vmc, .inl (cy 0, 10, .inl g_17))] H := by rw [ef_28]; exact hP
            have hD : va_D A [(vo, .inr (12, [.int voth, .ref vmt, .int votp, .int vosz, .int volm, .int voto, .int vofr, .int vokd, .int vonu, .int vosg, .int vofa, .int vopl, .long vowd, .int votd, .ref vmn, .ref vmr, .ref vmk, .ref vms, .ref vma, .ref vmm, .ref vmrn, .ref vmkn, .ref vmik, .ref vmon, .int vosm, .int vohp, .ref vmw, .ref vmf, .ref vmb, .int vomb, .ref vmd, .ref vmc, .int x_14, .int x_15, .int x_16, .ref vmx, .int votx, .int vose, .ref vml, .ref vmwr, .int voln, .int vohw, .ref vmno, .int vond, .int voon, .int vowi, .int votop])), (vmn, .inl (cy 0, 575, .inl vmnf)), (vmd, .inl (cy 0, 10, .inl f_28)), (vmc, .inl (cy 0, 10, .inl g_17))] := by rw [ef_28]; exact hD
            refine lv_aload_n hx hb dX11_careerFrom_142 rfl (lv_at hl 2 rfl) ?_
            refine lv_iload_n hx hb dX11_careerFrom_143 rfl (lv_at hl 3 rfl) ?_
            refine lv_iload_n hx hb dX11_careerFrom_144 rfl (lv_at hl 4 rfl) ?_
            refine lv_iconst (v := 1) hx hb dX11_careerFrom_145 (by decide) ?_
            refine lv_iadd hx hb dX11_careerFrom_146 ?_
            refine as_i 2 (by decide) ?_
            refine lv_iload_n hx hb dX11_careerFrom_147 rfl (lv_at hl 5 rfl) ?_
            refine lv_iload hx hb dX11_careerFrom_148 (lv_at hl 0 rfl) ?_
            refine lv_isub hx hb dX11_careerFrom_150 ?_
            refine lv_topi (fun z_29 ez_29 => ?_)
            have bz_29 : z_29.toInt = vlf.toInt - x_13.toInt := i_sub ez_29 (by omega) (by omega)
            refine lv_iload hx hb dX11_careerFrom_151 (lv_at hl 6 rfl) ?_
            refine lv_iload hx hb dX11_careerFrom_153 (lv_at hl 0 rfl) ?_
            refine lv_iadd hx hb dX11_careerFrom_155 ?_
            refine lv_topi (fun z_30 ez_30 => ?_)
            refine lv_iload hx hb dX11_careerFrom_156 (lv_at hl 7 rfl) ?_
            refine lv_iload hx hb dX11_careerFrom_158 (lv_at hl 0 rfl) ?_
            refine lv_aload_n hx hb dX11_careerFrom_160 rfl (lv_at hl 2 rfl) ?_
            refine gf_X11_98 hx hb hts hown hK hP 0 rfl rfl dX11_careerFrom_161 ?_
            refine lv_bipush (v := 11) hx hb dX11_careerFrom_164 (by decide) ?_
            refine lv_iload_n hx hb dX11_careerFrom_166 rfl (lv_at hl 4 rfl) ?_
            refine lv_iadd hx hb dX11_careerFrom_167 ?_
            refine as_i 12 (by decide) ?_
            have hin_31 : vp_in (12 : Int32) 575 := vp_in_iff.mpr ⟨by omega, by omega⟩
            refine va_iald hx hb hK hP 1 0 rfl rfl hin_31 dX11_careerFrom_168 ?_
            refine lv_topi (fun z_32 ez_32 => ?_)
            have bz_32 := p_vmnf.aw (x := 12) ⟨by omega, by omega⟩ ez_32
            have tz_32 : z_32.toInt = (vmnf 12).toInt := by rw [ez_32]; rfl
            refine lv_imul hx hb dX11_careerFrom_169 ?_
            refine lv_topi (fun z_33 ez_33 => ?_)
            have bz_33 : 0 ≤ z_33.toInt ∧ z_33.toInt ≤ 400 ∧ z_33.toInt = x_13.toInt * z_32.toInt := i_mulb (A := 10) (B := 40) ez_33 ⟨by omega, by omega⟩ ⟨by omega, by omega⟩ (by decide)
            refine lv_iadd hx hb dX11_careerFrom_170 ?_
            refine lv_topi (fun z_34 ez_34 => ?_)
            refine jn_v (wr := []) (rV (As := [.int vm, .int 2, .int z_29, .int z_30, .int z_34]) (rest := []) (ci := 12) ⟨hx, hb, hml, hown, hts⟩ (m_careerFrom_2 l dC dI cy _ vnh vo voth vmt votp vosz volm voto vofr vokd vonu vosg vofa vopl vowd votd vmn vmr vmk vms vma vmm vmrn vmkn vmik vmon vosm vohp vmw vmf vmb vomb vmd vmc x_14 x_15 x_16 vmx votx vose vml vmwr voln vohw vmno vond voon vowi votop vmnf f_28 g_17 vm z_29 z_30 z_34 ⟨by omega, by omega⟩ r_vm ⟨by omega, by omega⟩ p_vmnf (by omega)) (cw_X11_331 hts rfl rfl ⟨Nat.le_of_ble_eq_true rfl, Nat.le_of_ble_eq_true rfl⟩) hP hD hK [0, 1, 2, 3] rfl rfl rfl rfl bl0 e0 rfl hl.1 rfl (Nat.le_of_ble_eq_true rfl) dX11_careerFrom_171 ⟨Nat.le_of_ble_eq_true rfl, Nat.le_of_ble_eq_true rfl⟩) hP hD hS hA [0, 1, 2, 3] [] rfl rfl rfl (by decide) (fun u_37 H locs hp_36 hP hD hS => ?_)
            obtain ⟨vocm_38, voct_39, vmcf_40, vocy_41, vmdf_42⟩ := u_37
            have hp_36 : (0 ≤ (vocy_41 : Int32).toInt ∧ (vocy_41 : Int32).toInt ≤ 10) := hp_36
            have q_43 := hp_36
            have hP : va_P (dC, dI) vwCl [(vo, .inr (12, [.int voth, .ref vmt, .int votp, .int vosz, .int volm, .int voto, .int vofr, .int vokd, .int vonu, .int vosg, .int vofa, .int vopl, .long vowd, .int votd, .ref vmn, .ref vmr, .ref vmk, .ref vms, .ref vma, .ref vmm, .ref vmrn, .ref vmkn, .ref vmik, .ref vmon, .int vosm, .int vohp, .ref vmw, .ref vmf, .ref vmb, .int vomb, .ref vmd, .ref vmc, .int vocm_38, .int voct_39, .int vocy_41, .ref vmx, .int votx, .int vose, .ref vml, .ref vmwr, .int voln, .int vohw, .ref vmno, .int vond, .int voon, .int vowi, .int votop])), (vmn, .inl (cy 0, 575, .inl vmnf)), (vmd, .inl (cy 0, 10, .inl vmdf_42)), (vmc, .inl (cy 0, 10, .inl vmcf_40))] H := hP
            have hD : va_D A [(vo, .inr (12, [.int voth, .ref vmt, .int votp, .int vosz, .int volm, .int voto, .int vofr, .int vokd, .int vonu, .int vosg, .int vofa, .int vopl, .long vowd, .int votd, .ref vmn, .ref vmr, .ref vmk, .ref vms, .ref vma, .ref vmm, .ref vmrn, .ref vmkn, .ref vmik, .ref vmon, .int vosm, .int vohp, .ref vmw, .ref vmf, .ref vmb, .int vomb, .ref vmd, .ref vmc, .int vocm_38, .int voct_39, .int vocy_41, .ref vmx, .int votx, .int vose, .ref vml, .ref vmwr, .int voln, .int vohw, .ref vmno, .int vond, .int voon, .int vowi, .int votop])), (vmn, .inl (cy 0, 575, .inl vmnf)), (vmd, .inl (cy 0, 10, .inl vmdf_42)), (vmc, .inl (cy 0, 10, .inl vmcf_40))] := hD
            obtain ⟨z_44, ez_44⟩ : ∃ z : Int32, z = x_13 + 1 := ⟨_, rfl⟩
            have bz_44 : z_44.toInt = x_13.toInt + (1 : Int32).toInt := i_add ez_44 (by omega) (by omega)
            refine lv_iinc (v := z_44) (lv' := [(7, .int z_44), (6, .int r_7), (0, .ref vo), (1, .int vm), (2, .int 1), (3, .int vlf), (4, .int vti), (5, .int vwe)]) hx hb dX11_careerFrom_174 hl (k := 0) rfl ez_44.symm (by decide) rfl (fun ls hl => ?_)
            refine lv_goto (tgt := 103) hx hb dX11_careerFrom_177 (by decide) ?_
            exact ih12 z_44 vocm_38 voct_39 vocy_41 vmcf_40 vmdf_42 ⟨by omega, by omega⟩ ⟨by omega, by omega⟩ (by omega) _ _ (hP.sub [0, 1, 2, 3] rfl) (hD.sub [0, 1, 2, 3] rfl rfl) hS ls (lv_sub hl [0, 1, 2, 3, 4, 5, 6, 7] rfl)
    have k_0 : (0 : Int32).toInt = 0 := by decide
    exact loop12 ((11 - (0 : Int32).toInt).toNat + 1) 0 vocm voct vocy vmcf vmdf ⟨by omega, by omega⟩ ⟨by omega, by omega⟩ (by omega) _ _ hP hD hS ls (lv_sub hl [0, 1, 2, 3, 4, 5, 6, 7] rfl)
  · skip
    have c_3 : (1 : Int32).toInt = z_2.toInt := i_eq.mp c_3
    have join45 : ∀ (H : Heap) (locs : List Loc), va_P (dC, dI) vwCl [(vo, .inr (12, [.int voth, .ref vmt, .int votp, .int vosz, .int volm, .int voto, .int vofr, .int vokd, .int vonu, .int vosg, .int vofa, .int vopl, .long vowd, .int votd, .ref vmn, .ref vmr, .ref vmk, .ref vms, .ref vma, .ref vmm, .ref vmrn, .ref vmkn, .ref vmik, .ref vmon, .int vosm, .int vohp, .ref vmw, .ref vmf, .ref vmb, .int vomb, .ref vmd, .ref vmc, .int vocm, .int voct, .int vocy, .ref vmx, .int votx, .int vose, .ref vml, .ref vmwr, .int voln, .int vohw, .ref vmno, .int vond, .int voon, .int vowi, .int votop])), (vmn, .inl (cy 0, 575, .inl vmnf)), (vmd, .inl (cy 0, 10, .inl vmdf)), (vmc, .inl (cy 0, 10, .inl vmcf))] H → va_D A [(vo, .inr (12, [.int voth, .ref vmt, .int votp, .int vosz, .int volm, .int voto, .int vofr, .int vokd, .int vonu, .int vosg, .int vofa, .int vopl, .long vowd, .int votd, .ref vmn, .ref vmr, .ref vmk, .ref vms, .ref vma, .ref vmm, .ref vmrn, .ref vmkn, .ref vmik, .ref vmon, .int vosm, .int vohp, .ref vmw, .ref vmf, .ref vmb, .int vomb, .ref vmd, .ref vmc, .int vocm, .int voct, .int vocy, .ref vmx, .int votx, .int vose, .ref vml, .ref vmwr, .int voln, .int vohw, .ref vmno, .int vond, .int voon, .int vowi, .int votop])), (vmn, .inl (cy 0, 575, .inl vmnf)), (vmd, .inl (cy 0, 10, .inl vmdf)), (vmc, .inl (cy 0, 10, .inl vmcf))] → va_S A s.heap H locs → ∀ ls : Array Slot, lv_has ls 8 [(0, .ref vo), (1, .int vm), (2, .int 1), (3, .int vlf), (4, .int vti), (5, .int vwe)] → W p l e ({ frames := 10, cells := 0, slots := 0, locals := 640 }) s m av9 below meth c H locs 0 0 Q9 (F0 m 38 ls []) := by
      intro  H locs hP hD hS ls hl
      refine lv_aload_n hx hb dX11_careerFrom_38 rfl (lv_at hl 0 rfl) ?_
      refine lv_iload hx hb dX11_careerFrom_39 (lv_at hl 5 rfl) ?_
      refine pf_X11_322 hx hb hts hown hK hP hD hS 0 rfl rfl rfl (Nat.le_of_ble_eq_true rfl) dX11_careerFrom_41 (fun H locs hP hD hS => ?_)
      have hP : va_P (dC, dI) vwCl [(vo, .inr (12, [.int voth, .ref vmt, .int votp, .int vosz, .int volm, .int voto, .int vofr, .int vokd, .int vonu, .int vosg, .int vofa, .int vopl, .long vowd, .int votd, .ref vmn, .ref vmr, .ref vmk, .ref vms, .ref vma, .ref vmm, .ref vmrn, .ref vmkn, .ref vmik, .ref vmon, .int vosm, .int vohp, .ref vmw, .ref vmf, .ref vmb, .int vomb, .ref vmd, .ref vmc, .int vwe, .int voct, .int vocy, .ref vmx, .int votx, .int vose, .ref vml, .ref vmwr, .int voln, .int vohw, .ref vmno, .int vond, .int voon, .int vowi, .int votop])), (vmn, .inl (cy 0, 575, .inl vmnf)), (vmd, .inl (cy 0, 10, .inl vmdf)), (vmc, .inl (cy 0, 10, .inl vmcf))] H := hP
      have hD : va_D A [(vo, .inr (12, [.int voth, .ref vmt, .int votp, .int vosz, .int volm, .int voto, .int vofr, .int vokd, .int vonu, .int vosg, .int vofa, .int vopl, .long vowd, .int votd, .ref vmn, .ref vmr, .ref vmk, .ref vms, .ref vma, .ref vmm, .ref vmrn, .ref vmkn, .ref vmik, .ref vmon, .int vosm, .int vohp, .ref vmw, .ref vmf, .ref vmb, .int vomb, .ref vmd, .ref vmc, .int vwe, .int voct, .int vocy, .ref vmx, .int votx, .int vose, .ref vml, .ref vmwr, .int voln, .int vohw, .ref vmno, .int vond, .int voon, .int vowi, .int votop])), (vmn, .inl (cy 0, 575, .inl vmnf)), (vmd, .inl (cy 0, 10, .inl vmdf)), (vmc, .inl (cy 0, 10, .inl vmcf))] := hD
      refine lv_aload_n hx hb dX11_careerFrom_44 rfl (lv_at hl 0 rfl) ?_
      refine lv_iload hx hb dX11_careerFrom_45 (lv_at hl 4 rfl) ?_
      refine pf_X11_325 hx hb hts hown hK hP hD hS 0 rfl rfl rfl (Nat.le_of_ble_eq_true rfl) dX11_careerFrom_47 (fun H locs hP hD hS => ?_)
      have hP : va_P (dC, dI) vwCl [(vo, .inr (12, [.int voth, .ref vmt, .int votp, .int vosz, .int volm, .int voto, .int vofr, .int vokd, .int vonu, .int vosg, .int vofa, .int vopl, .long vowd, .int votd, .ref vmn, .ref vmr, .ref vmk, .ref vms, .ref vma, .ref vmm, .ref vmrn, .ref vmkn, .ref vmik, .ref vmon, .int vosm, .int vohp, .ref vmw, .ref vmf, .ref vmb, .int vomb, .ref vmd, .ref vmc, .int vwe, .int vti, .int vocy, .ref vmx, .int votx, .int vose, .ref vml, .ref vmwr, .int voln, .int vohw, .ref vmno, .int vond, .int voon, .int vowi, .int votop])), (vmn, .inl (cy 0, 575, .inl vmnf)), (vmd, .inl (cy 0, 10, .inl vmdf)), (vmc, .inl (cy 0, 10, .inl vmcf))] H := hP
      have hD : va_D A [(vo, .inr (12, [.int voth, .ref vmt, .int votp, .int vosz, .int volm, .int voto, .int vofr, .int vokd, .int vonu, .int vosg, .int vofa, .int vopl, .long vowd, .int votd, .ref vmn, .ref vmr, .ref vmk, .ref vms, .ref vma, .ref vmm, .ref vmrn, .ref vmkn, .ref vmik, .ref vmon, .int vosm, .int vohp, .ref vmw, .ref vmf, .ref vmb, .int vomb, .ref vmd, .ref vmc, .int vwe, .int vti, .int vocy, .ref vmx, .int votx, .int vose, .ref vml, .ref vmwr, .int voln, .int vohw, .ref vmno, .int vond, .int voon, .int vowi, .int votop])), (vmn, .inl (cy 0, 575, .inl vmnf)), (vmd, .inl (cy 0, 10, .inl vmdf)), (vmc, .inl (cy 0, 10, .inl vmcf))] := hD
      refine lv_iconst (v := 0) hx hb dX11_careerFrom_50 (by decide) ?_
      refine lv_istore (lv' := [(6, .int 0), (0, .ref vo), (1, .int vm), (2, .int 1), (3, .int vlf), (4, .int vti), (5, .int vwe)]) hx hb dX11_careerFrom_51 hl (by decide) rfl (fun ls hl => ?_)
      have loop46 : ∀ (n46 : Nat) (x_47 : Int32) (g_48 : Nat → Int32), (0 ≤ x_47.toInt ∧ x_47.toInt ≤ 10) → 10 - x_47.toInt < (n46 : Int) → ∀ (H : Heap) (locs : List Loc), va_P (dC, dI) vwCl [(vo, .inr (12, [.int voth, .ref vmt, .int votp, .int vosz, .int volm, .int voto, .int vofr, .int vokd, .int vonu, .int vosg, .int vofa, .int vopl, .long vowd, .int votd, .ref vmn, .ref vmr, .ref vmk, .ref vms, .ref vma, .ref vmm, .ref vmrn, .ref vmkn, .ref vmik, .ref vmon, .int vosm, .int vohp, .ref vmw, .ref vmf, .ref vmb, .int vomb, .ref vmd, .ref vmc, .int vwe, .int vti, .int vocy, .ref vmx, .int votx, .int vose, .ref vml, .ref vmwr, .int voln, .int vohw, .ref vmno, .int vond, .int voon, .int vowi, .int votop])), (vmn, .inl (cy 0, 575, .inl vmnf)), (vmd, .inl (cy 0, 10, .inl vmdf)), (vmc, .inl (cy 0, 10, .inl g_48))] H → va_D A [(vo, .inr (12, [.int voth, .ref vmt, .int votp, .int vosz, .int volm, .int voto, .int vofr, .int vokd, .int vonu, .int vosg, .int vofa, .int vopl, .long vowd, .int votd, .ref vmn, .ref vmr, .ref vmk, .ref vms, .ref vma, .ref vmm, .ref vmrn, .ref vmkn, .ref vmik, .ref vmon, .int vosm, .int vohp, .ref vmw, .ref vmf, .ref vmb, .int vomb, .ref vmd, .ref vmc, .int vwe, .int vti, .int vocy, .ref vmx, .int votx, .int vose, .ref vml, .ref vmwr, .int voln, .int vohw, .ref vmno, .int vond, .int voon, .int vowi, .int votop])), (vmn, .inl (cy 0, 575, .inl vmnf)), (vmd, .inl (cy 0, 10, .inl vmdf)), (vmc, .inl (cy 0, 10, .inl g_48))] → va_S A s.heap H locs → ∀ ls : Array Slot, lv_has ls 8 [(6, .int x_47), (0, .ref vo), (1, .int vm), (2, .int 1), (3, .int vlf), (4, .int vti), (5, .int vwe)] → W p l e ({ frames := 10, cells := 0, slots := 0, locals := 640 }) s m av9 below meth c H locs 0 0 Q9 (F0 m 53 ls []) := by
        intro n46
        induction n46 with
        | zero =>
          intro x_47 g_48 bx_47 hn46 H locs hP hD hS ls hl
          exfalso; omega
        | succ n46 ih46 =>
          intro x_47 g_48 bx_47 hn46 H locs hP hD hS ls hl
          refine lv_iload hx hb dX11_careerFrom_53 (lv_at hl 0 rfl) ?_
          refine lv_iload_n hx hb dX11_careerFrom_55 rfl (lv_at hl 3 rfl) ?_
          refine lv_icmp_ge (tgt := 79) hx hb dX11_careerFrom_56 (by decide) (fun c_49 => ?_) (fun c_49 => ?_)
          · skip
            have c_49 : (1 : Int32).toInt ≤ x_47.toInt := i_le.mp c_49
            refine lv_aload_n hx hb dX11_careerFrom_79 rfl (lv_at hl 1 rfl) ?_
            refine lv_iload_n hx hb dX11_careerFrom_80 rfl (lv_at hl 3 rfl) ?_
            refine pf_X11_328 hx hb hts hown hK hP hD hS 0 rfl rfl rfl (Nat.le_of_ble_eq_true rfl) dX11_careerFrom_81 (fun H locs hP hD hS => ?_)
            have hP : va_P (dC, dI) vwCl [(vo, .inr (12, [.int voth, .ref vmt, .int votp, .int vosz, .int volm, .int voto, .int vofr, .int vokd, .int vonu, .int vosg, .int vofa, .int vopl, .long vowd, .int votd, .ref vmn, .ref vmr, .ref vmk, .ref vms, .ref vma, .ref vmm, .ref vmrn, .ref vmkn, .ref vmik, .ref vmon, .int vosm, .int vohp, .ref vmw, .ref vmf, .ref vmb, .int vomb, .ref vmd, .ref vmc, .int vwe, .int vti, .int 1, .ref vmx, .int votx, .int vose, .ref vml, .ref vmwr, .int voln, .int vohw, .ref vmno, .int vond, .int voon, .int vowi, .int votop])), (vmn, .inl (cy 0, 575, .inl vmnf)), (vmd, .inl (cy 0, 10, .inl vmdf)), (vmc, .inl (cy 0, 10, .inl g_48))] H := hP
            have hD : va_D A [(vo, .inr (12, [.int voth, .ref vmt, .int votp, .int vosz, .int volm, .int voto, .int vofr, .int vokd, .int vonu, .int vosg, .int vofa, .int vopl, .long vowd, .int votd, .ref vmn, .ref vmr, .ref vmk, .ref vms, .ref vma, .ref vmm, .ref vmrn, .ref vmkn, .ref vmik, .ref vmon, .int vosm, .int vohp, .ref vmw, .ref vmf, .ref vmb, .int vomb, .ref vmd, .ref vmc, .int vwe, .int vti, .int 1, .ref vmx, .int votx, .int vose, .ref vml, .ref vmwr, .int voln, .int vohw, .ref vmno, .int vond, .int voon, .int vowi, .int votop])), (vmn, .inl (cy 0, 575, .inl vmnf)), (vmd, .inl (cy 0, 10, .inl vmdf)), (vmc, .inl (cy 0, 10, .inl g_48))] := hD
            rw [hQ9]
            exact re_v (vwe, vti, g_48, (1 : Int32), vmdf) hx hb hr hlocks (show 0 ≤ (1 : Int32).toInt ∧ (1 : Int32).toInt ≤ 10 from ⟨by omega, by omega⟩) (hP.sub [0, 1, 2, 3] rfl) (hD.sub [0, 1, 2, 3] rfl rfl) hS dX11_careerFrom_84
          · skip
            have c_49 : ¬ ((1 : Int32).toInt ≤ x_47.toInt) := fun h9 => c_49 (i_le.mpr h9)
            refine lv_aload_n hx hb dX11_careerFrom_59 rfl (lv_at hl 1 rfl) ?_
            refine gf_X11_145 hx hb hts hown hK hP 0 rfl rfl dX11_careerFrom_60 ?_
            refine lv_iload hx hb dX11_careerFrom_63 (lv_at hl 0 rfl) ?_
            refine lv_aload_n hx hb dX11_careerFrom_65 rfl (lv_at hl 1 rfl) ?_
            refine gf_X11_142 hx hb hts hown hK hP 0 rfl rfl dX11_careerFrom_66 ?_
            refine lv_iload hx hb dX11_careerFrom_69 (lv_at hl 0 rfl) ?_
            have hin_50 : vp_in x_47 10 := vp_in_iff.mpr ⟨by omega, by omega⟩
            refine va_iald hx hb hK hP 2 0 rfl rfl hin_50 dX11_careerFrom_71 ?_
            refine lv_topi (fun z_51 ez_51 => ?_)
            have hin_52 : vp_in x_47 10 := vp_in_iff.mpr ⟨by omega, by omega⟩
            refine va_iast hx hb hK hP hD hS 3 0 rfl rfl hin_52 dX11_careerFrom_72 (fun H locs hP hD hS => ?_)
            obtain ⟨f_53, ef_53⟩ : ∃ z : Nat → Int32, z = upd g_48 (Int32.toNatClampNeg x_47) z_51 := ⟨_, rfl⟩
            have hP : va_P (dC, dI) vwCl [(vo, .inr (12, [.int voth, .ref vmt, .int votp, .int vosz, .int volm, .int voto, .int vofr, .int vokd, .int vonu, .int vosg, .int vofa, .int vopl, .long vowd, .int votd, .ref vmn, .ref vmr, .ref vmk, .ref vms, .ref vma, .ref vmm, .ref vmrn, .ref vmkn, .ref vmik, .ref vmon, .int vosm, .int vohp, .ref vmw, .ref vmf, .ref vmb, .int vomb, .ref vmd, .ref vmc, .int vwe, .int vti, .int vocy, .ref vmx, .int votx, .int vose, .ref vml, .ref vmwr, .int voln, .int vohw, .ref vmno, .int vond, .int voon, .int vowi, .int votop])), (vmn, .inl (cy 0, 575, .inl vmnf)), (vmd, .inl (cy 0, 10, .inl vmdf)), (vmc, .inl (cy 0, 10, .inl f_53))] H := by rw [ef_53]; exact hP
            have hD : va_D A [(vo, .inr (12, [.int voth, .ref vmt, .int votp, .int vosz, .int volm, .int voto, .int vofr, .int vokd, .int vonu, .int vosg, .int vofa, .int vopl, .long vowd, .int votd, .ref vmn, .ref vmr, .ref vmk, .ref vms, .ref vma, .ref vmm, .ref vmrn, .ref vmkn, .ref vmik, .ref vmon, .int vosm, .int vohp, .ref vmw, .ref vmf, .ref vmb, .int vomb, .ref vmd, .ref vmc, .int vwe, .int vti, .int vocy, .ref vmx, .int votx, .int vose, .ref vml, .ref vmwr, .int voln, .int vohw, .ref vmno, .int vond, .int voon, .int vowi, .int votop])), (vmn, .inl (cy 0, 575, .inl vmnf)), (vmd, .inl (cy 0, 10, .inl vmdf)), (vmc, .inl (cy 0, 10, .inl f_53))] := by rw [ef_53]; exact hD
            obtain ⟨z_54, ez_54⟩ : ∃ z : Int32, z = x_47 + 1 := ⟨_, rfl⟩
            have bz_54 : z_54.toInt = x_47.toInt + (1 : Int32).toInt := i_add ez_54 (by omega) (by omega)
            refine lv_iinc (v := z_54) (lv' := [(6, .int z_54), (0, .ref vo), (1, .int vm), (2, .int 1), (3, .int vlf), (4, .int vti), (5, .int vwe)]) hx hb dX11_careerFrom_73 hl (k := 0) rfl ez_54.symm (by decide) rfl (fun ls hl => ?_)
            refine lv_goto (tgt := 53) hx hb dX11_careerFrom_76 (by decide) ?_
            exact ih46 z_54 f_53 ⟨by omega, by omega⟩ (by omega) _ _ (hP.sub [0, 1, 2, 3] rfl) (hD.sub [0, 1, 2, 3] rfl rfl) hS ls (lv_sub hl [0, 1, 2, 3, 4, 5, 6] rfl)
      have k_0 : (0 : Int32).toInt = 0 := by decide
      exact loop46 ((10 - (0 : Int32).toInt).toNat + 1) 0 vmcf ⟨by omega, by omega⟩ (by omega) _ _ hP hD hS ls (lv_sub hl [0, 1, 2, 3, 4, 5, 6] rfl)
    refine lv_iload hx hb dX11_careerFrom_10 (lv_at hl 5 rfl) ?_
    refine lv_aload_n hx hb dX11_careerFrom_12 rfl (lv_at hl 0 rfl) ?_
    refine gf_X11_322 hx hb hts hown hK hP 0 rfl rfl dX11_careerFrom_13 ?_
    refine lv_icmp_lt (tgt := 37) hx hb dX11_careerFrom_16 (by decide) (fun c_55 => ?_) (fun c_55 => ?_)
    · skip
      have c_55 : vwe.toInt < vocm.toInt := i_lt.mp c_55
      rw [hQ9]
      exact re_v (vocm, voct, vmcf, vocy, vmdf) hx hb hr hlocks (show 0 ≤ (vocy : Int32).toInt ∧ (vocy : Int32).toInt ≤ 10 from ⟨by omega, by omega⟩) (hP.sub [0, 1, 2, 3] rfl) (hD.sub [0, 1, 2, 3] rfl rfl) hS dX11_careerFrom_37
    · skip
      have c_55 : ¬ (vwe.toInt < vocm.toInt) := fun h9 => c_55 (i_lt.mpr h9)
      refine lv_iload hx hb dX11_careerFrom_19 (lv_at hl 5 rfl) ?_
      refine lv_aload_n hx hb dX11_careerFrom_21 rfl (lv_at hl 0 rfl) ?_
      refine gf_X11_322 hx hb hts hown hK hP 0 rfl rfl dX11_careerFrom_22 ?_
      refine lv_icmp_ne (tgt := 38) hx hb dX11_careerFrom_25 (by decide) (fun c_56 => ?_) (fun c_56 => ?_)
      · skip
        have c_56 : ¬ (vwe.toInt = vocm.toInt) := fun h9 => c_56 (i_eq.mpr h9)
        exact join45  _ _ (hP.sub [0, 1, 2, 3] rfl) (hD.sub [0, 1, 2, 3] rfl rfl) hS ls (lv_sub hl [0, 1, 2, 3, 4, 5] rfl)
      · skip
        have c_56 : vwe.toInt = vocm.toInt := i_eq.mp c_56
        refine lv_iload hx hb dX11_careerFrom_28 (lv_at hl 4 rfl) ?_
        refine lv_aload_n hx hb dX11_careerFrom_30 rfl (lv_at hl 0 rfl) ?_
        refine gf_X11_325 hx hb hts hown hK hP 0 rfl rfl dX11_careerFrom_31 ?_
        refine lv_icmp_lt (tgt := 38) hx hb dX11_careerFrom_34 (by decide) (fun c_57 => ?_) (fun c_57 => ?_)
        · skip
          have c_57 : vti.toInt < voct.toInt := i_lt.mp c_57
          exact join45  _ _ (hP.sub [0, 1, 2, 3] rfl) (hD.sub [0, 1, 2, 3] rfl rfl) hS ls (lv_sub hl [0, 1, 2, 3, 4, 5] rfl)
        · skip
          have c_57 : ¬ (vti.toInt < voct.toInt) := fun h9 => c_57 (i_lt.mpr h9)
          rw [hQ9]
          exact re_v (vocm, voct, vmcf, vocy, vmdf) hx hb hr hlocks (show 0 ≤ (vocy : Int32).toInt ∧ (vocy : Int32).toInt ≤ 10 from ⟨by omega, by omega⟩) (hP.sub [0, 1, 2, 3] rfl) (hD.sub [0, 1, 2, 3] rfl rfl) hS dX11_careerFrom_37
abbrev O_m_careerFrom_0 (cy : Nat → ClassId) (vnh : Nat → Int32) (vo : Nat) (voth : Int32) (vmt : Nat) (votp : Int32) (vosz : Int32) (volm : Int32) (voto : Int32) (vofr : Int32) (vokd : Int32) (vonu : Int32) (vosg : Int32) (vofa : Int32) (vopl : Int32) (vowd : Int64) (votd : Int32) (vmn : Nat) (vmr : Nat) (vmk : Nat) (vms : Nat) (vma : Nat) (vmm : Nat) (vmrn : Nat) (vmkn : Nat) (vmik : Nat) (vmon : Nat) (vosm : Int32) (vohp : Int32) (vmw : Nat) (vmf : Nat) (vmb : Nat) (vomb : Int32) (vmd : Nat) (vmc : Nat) (vocm : Int32) (voct : Int32) (vocy : Int32) (vmx : Nat) (votx : Int32) (vose : Int32) (vml : Nat) (vmwr : Nat) (voln : Int32) (vohw : Int32) (vmno : Nat) (vond : Int32) (voon : Int32) (vowi : Int32) (votop : Int32) (vmnf : Nat → Int32) (vmdf : Nat → Int32) (vmcf : Nat → Int32) (vm : Int32) (vlf : Int32) (vti : Int32) (vwe : Int32) (u : Int32 × Int32 × (Nat → Int32) × Int32 × (Nat → Int32)) : va_W := [(vo, .inr (12, [.int voth, .ref vmt, .int votp, .int vosz, .int volm, .int voto, .int vofr, .int vokd, .int vonu, .int vosg, .int vofa, .int vopl, .long vowd, .int votd, .ref vmn, .ref vmr, .ref vmk, .ref vms, .ref vma, .ref vmm, .ref vmrn, .ref vmkn, .ref vmik, .ref vmon, .int vosm, .int vohp, .ref vmw, .ref vmf, .ref vmb, .int vomb, .ref vmd, .ref vmc, .int u.1, .int u.2.1, .int u.2.2.2.1, .ref vmx, .int votx, .int vose, .ref vml, .ref vmwr, .int voln, .int vohw, .ref vmno, .int vond, .int voon, .int vowi, .int votop])), (vmn, .inl (cy 0, 575, .inl vmnf)), (vmd, .inl (cy 0, 10, .inl u.2.2.2.2)), (vmc, .inl (cy 0, 10, .inl u.2.2.1))]
set_option maxHeartbeats 4000000 in
set_option maxRecDepth 100000 in
theorem m_careerFrom_0 (l : Launch) (dC : Nat → ClassId) (dI : Nat → Nat → Nat) (cy : Nat → ClassId) (sz : Nat) (vnh : Nat → Int32) (vo : Nat) (voth : Int32) (vmt : Nat) (votp : Int32) (vosz : Int32) (volm : Int32) (voto : Int32) (vofr : Int32) (vokd : Int32) (vonu : Int32) (vosg : Int32) (vofa : Int32) (vopl : Int32) (vowd : Int64) (votd : Int32) (vmn : Nat) (vmr : Nat) (vmk : Nat) (vms : Nat) (vma : Nat) (vmm : Nat) (vmrn : Nat) (vmkn : Nat) (vmik : Nat) (vmon : Nat) (vosm : Int32) (vohp : Int32) (vmw : Nat) (vmf : Nat) (vmb : Nat) (vomb : Int32) (vmd : Nat) (vmc : Nat) (vocm : Int32) (voct : Int32) (vocy : Int32) (vmx : Nat) (votx : Int32) (vose : Int32) (vml : Nat) (vmwr : Nat) (voln : Int32) (vohw : Int32) (vmno : Nat) (vond : Int32) (voon : Int32) (vowi : Int32) (votop : Int32) (vmnf : Nat → Int32) (vmdf : Nat → Int32) (vmcf : Nat → Int32) (vm : Int32) (vlf : Int32) (vti : Int32) (vwe : Int32) (r_vocy : 0 ≤ (vocy : Int32).toInt ∧ (vocy : Int32).toInt ≤ 10) (r_vm : 0 ≤ (vm : Int32).toInt ∧ (vm : Int32).toInt ≤ 6) (r_vlf : 0 ≤ (vlf : Int32).toInt ∧ (vlf : Int32).toInt ≤ 10) (p_vmnf : NW vnh vmnf) (hd : 0 ≤ (vmnf 1).toInt) : Met l yX11_careerFrom (wl yX11_careerFrom cX11_careerFrom 8 none) ({ frames := 11, cells := 0, slots := 0, locals := 704 }) (Pw (dC, dI) vwCl cy [(vo, .inr (12, [.int voth, .ref vmt, .int votp, .int vosz, .int volm, .int voto, .int vofr, .int vokd, .int vonu, .int vosg, .int vofa, .int vopl, .long vowd, .int votd, .ref vmn, .ref vmr, .ref vmk, .ref vms, .ref vma, .ref vmm, .ref vmrn, .ref vmkn, .ref vmik, .ref vmon, .int vosm, .int vohp, .ref vmw, .ref vmf, .ref vmb, .int vomb, .ref vmd, .ref vmc, .int vocm, .int voct, .int vocy, .ref vmx, .int votx, .int vose, .ref vml, .ref vmwr, .int voln, .int vohw, .ref vmno, .int vond, .int voon, .int vowi, .int votop])), (vmn, .inl (cy 0, 575, .inl vmnf)), (vmd, .inl (cy 0, 10, .inl vmdf)), (vmc, .inl (cy 0, 10, .inl vmcf))] sz [.ref vo, .int vm, .int 0, .int vlf, .int vti, .int vwe] nE) (Qv (dC, dI) vwCl (fun (u : Int32 × Int32 × (Nat → Int32) × Int32 × (Nat → Int32)) => (0 ≤ (u.2.2.2.1 : Int32).toInt ∧ (u.2.2.2.1 : Int32).toInt ≤ 10)) (O_m_careerFrom_0 cy vnh vo voth vmt votp vosz volm voto vofr vokd vonu vosg vofa vopl vowd votd vmn vmr vmk vms vma vmm vmrn vmkn vmik vmon vosm vohp vmw vmf vmb vomb vmd vmc vocm voct vocy vmx votx vose vml vmwr voln vohw vmno vond voon vowi votop vmnf vmdf vmcf vm vlf vti vwe) (va_A [(vo, .inr (12, [.int voth, .ref vmt, .int votp, .int vosz, .int volm, .int voto, .int vofr, .int vokd, .int vonu, .int vosg, .int vofa, .int vopl, .long vowd, .int votd, .ref vmn, .ref vmr, .ref vmk, .ref vms, .ref vma, .ref vmm, .ref vmrn, .ref vmkn, .ref vmik, .ref vmon, .int vosm, .int vohp, .ref vmw, .ref vmf, .ref vmb, .int vomb, .ref vmd, .ref vmc, .int vocm, .int voct, .int vocy, .ref vmx, .int votx, .int vose, .ref vml, .ref vmwr, .int voln, .int vohw, .ref vmno, .int vond, .int voon, .int vowi, .int votop])), (vmn, .inl (cy 0, 575, .inl vmnf)), (vmd, .inl (cy 0, 10, .inl vmdf)), (vmc, .inl (cy 0, 10, .inl vmcf))] sz)) 0 0 (va_A [(vo, .inr (12, [.int voth, .ref vmt, .int votp, .int vosz, .int volm, .int voto, .int vofr, .int vokd, .int vonu, .int vosg, .int vofa, .int vopl, .long vowd, .int votd, .ref vmn, .ref vmr, .ref vmk, .ref vms, .ref vma, .ref vmm, .ref vmrn, .ref vmkn, .ref vmik, .ref vmon, .int vosm, .int vohp, .ref vmw, .ref vmf, .ref vmb, .int vomb, .ref vmd, .ref vmc, .int vocm, .int voct, .int vocy, .ref vmx, .int votx, .int vose, .ref vml, .ref vmwr, .int voln, .int vohw, .ref vmno, .int vond, .int voon, .int vowi, .int votop])), (vmn, .inl (cy 0, 575, .inl vmnf)), (vmd, .inl (cy 0, 10, .inl vmdf)), (vmc, .inl (cy 0, 10, .inl vmcf))] sz) := by
  refine mw (Qc := Qv (dC, dI) vwCl (fun (u : Int32 × Int32 × (Nat → Int32) × Int32 × (Nat → Int32)) => (0 ≤ (u.2.2.2.1 : Int32).toInt ∧ (u.2.2.2.1 : Int32).toInt ≤ 10)) (O_m_careerFrom_0 cy vnh vo voth vmt votp vosz volm voto vofr vokd vonu vosg vofa vopl vowd votd vmn vmr vmk vms vma vmm vmrn vmkn vmik vmon vosm vohp vmw vmf vmb vomb vmd vmc vocm voct vocy vmx votx vose vml vmwr voln vohw vmno vond voon vowi votop vmnf vmdf vmcf vm vlf vti vwe)) RX11 rfl (by decide +kernel) (Nat.le_of_ble_eq_true rfl) ?_
  intro p e s m below meth c A hx hb hr hlocks av9 hav hts hown hnm hml hK hP hD hA hS hE hAe Q9 hQ9 ls hl
  have hl : lv_has ls 8 [(0, .ref vo), (1, .int vm), (2, .int 0), (3, .int vlf), (4, .int vti), (5, .int vwe)] := hl
  refine lv_iload_n hx hb dX11_careerFrom_0 rfl (lv_at hl 2 rfl) ?_
  refine lv_aload_n hx hb dX11_careerFrom_1 rfl (lv_at hl 0 rfl) ?_
  refine gf_X11_98 hx hb hts hown hK hP 0 rfl rfl dX11_careerFrom_2 ?_
  refine lv_iconst (v := 1) hx hb dX11_careerFrom_5 (by decide) ?_
  have k_1 : (1 : Int32).toInt = 1 := by decide
  have hin_1 : vp_in (1 : Int32) 575 := vp_in_iff.mpr ⟨by omega, by omega⟩
  refine va_iald hx hb hK hP 1 0 rfl rfl hin_1 dX11_careerFrom_6 ?_
  refine lv_topi (fun z_2 ez_2 => ?_)
  have bz_2 := p_vmnf.a1 (x := 1) ⟨by omega, by omega⟩ ez_2
  have tz_2 : z_2.toInt = (vmnf 1).toInt := by rw [ez_2]; rfl
  have k_0 : (0 : Int32).toInt = 0 := by decide
  refine lv_icmp_ne (tgt := 85) hx hb dX11_careerFrom_7 (by decide) (fun c_3 => ?_) (fun c_3 => ?_)
  · skip
    have c_3 : ¬ ((0 : Int32).toInt = z_2.toInt) := fun h9 => c_3 (i_eq.mpr h9)
    refine lv_iload_n hx hb dX11_careerFrom_85 rfl (lv_at hl 3 rfl) ?_
    refine lv_bipush (v := 9) hx hb dX11_careerFrom_86 (by decide) ?_
    refine lv_aload_n hx hb dX11_careerFrom_88 rfl (lv_at hl 0 rfl) ?_
    refine lv_iload_n hx hb dX11_careerFrom_89 rfl (lv_at hl 1 rfl) ?_
    refine lv_iload_n hx hb dX11_careerFrom_90 rfl (lv_at hl 2 rfl) ?_
    refine jr_i (rVr (As := [.int vm, .int 0]) (rest := [.int 9, .int vlf]) (ci := 12) ⟨hx, hb, hml, hown, hts⟩ (m_didOf l dC dI cy vnh vo voth vmt votp vosz volm voto vofr vokd vonu vosg vofa vopl vowd votd vmn vmr vmk vms vma vmm vmrn vmkn vmik vmon vosm vohp vmw vmf vmb vomb vmd vmc vocm voct vocy vmx votx vose vml vmwr voln vohw vmno vond voon vowi votop vmnf vm 0 ⟨by omega, by omega⟩ ⟨by omega, by omega⟩ p_vmnf) (cw_X11_228 hts rfl rfl ⟨Nat.le_of_ble_eq_true rfl, Nat.le_of_ble_eq_true rfl⟩) hP hK [0, 1] rfl rfl rfl rfl hl.1 rfl (Nat.le_of_ble_eq_true rfl) dX11_careerFrom_91 ⟨Nat.le_of_ble_eq_true rfl, Nat.le_of_ble_eq_true rfl⟩) hP hS (fun r_4 H locs hp_5 hP hS => ?_)
    refine lv_isub hx hb dX11_careerFrom_94 ?_
    refine lv_topi (fun z_6 ez_6 => ?_)
    refine jr_i (rSr (As := [.int vlf, .int z_6]) (rest := []) ⟨hx, hb, hml, hown, hts⟩ (m_least l dC dI cy vlf z_6 ) (cw_X11_288 hts rfl rfl ⟨Nat.le_of_ble_eq_true rfl, Nat.le_of_ble_eq_true rfl⟩) hP hK [] rfl rfl hl.1 rfl (Nat.le_of_ble_eq_true rfl) dX11_careerFrom_95 ⟨Nat.le_of_ble_eq_true rfl, Nat.le_of_ble_eq_true rfl⟩) hP hS (fun r_7 H locs hp_8 hP hS => ?_)
    have hp_8 : ((r_7 : Int32).toInt ≤ (vlf : Int32).toInt) ∧ ((r_7 : Int32).toInt ≤ (z_6 : Int32).toInt) ∧ (((r_7 : Int32).toInt = (vlf : Int32).toInt ∨ (r_7 : Int32).toInt = (z_6 : Int32).toInt)) := hp_8
    obtain ⟨q_9, q_10, q_11⟩ := hp_8
    refine lv_istore (lv' := [(6, .int r_7), (0, .ref vo), (1, .int vm), (2, .int 0), (3, .int vlf), (4, .int vti), (5, .int vwe)]) hx hb dX11_careerFrom_98 hl (by decide) rfl (fun ls hl => ?_)
    refine lv_iconst (v := 0) hx hb dX11_careerFrom_100 (by decide) ?_
    refine lv_istore (lv' := [(7, .int 0), (6, .int r_7), (0, .ref vo), (1, .int vm), (2, .int 0), (3, .int vlf), (4, .int vti), (5, .int vwe)]) hx hb dX11_careerFrom_101 hl (by decide) rfl (fun ls hl => ?_)
    have loop12 : ∀ (n12 : Nat) (x_13 : Int32) (x_14 : Int32) (x_15 : Int32) (x_16 : Int32) (g_17 : Nat → Int32) (g_18 : Nat → Int32), (0 ≤ x_13.toInt ∧ x_13.toInt ≤ 11) → (0 ≤ x_16.toInt ∧ x_16.toInt ≤ 10) → 11 - x_13.toInt < (n12 : Int) → ∀ (H : Heap) (locs : List Loc), va_P (dC, dI) vwCl [(vo, .inr (12, [.int voth, .ref vmt, .int votp, .int vosz, .int volm, .int voto, .int vofr, .int vokd, .int vonu, .int vosg, .int vofa, .int vopl, .long vowd, .int votd, .ref vmn, .ref vmr, .ref vmk, .ref vms, .ref vma, .ref vmm, .ref vmrn, .ref vmkn, .ref vmik, .ref vmon, .int vosm, .int vohp, .ref vmw, .ref vmf, .ref vmb, .int vomb, .ref vmd, .ref vmc, .int x_14, .int x_15, .int x_16, .ref vmx, .int votx, .int vose, .ref vml, .ref vmwr, .int voln, .int vohw, .ref vmno, .int vond, .int voon, .int vowi, .int votop])), (vmn, .inl (cy 0, 575, .inl vmnf)), (vmd, .inl (cy 0, 10, .inl g_18)), (vmc, .inl (cy 0, 10, .inl g_17))] H → va_D A [(vo, .inr (12, [.int voth, .ref vmt, .int votp, .int vosz, .int volm, .int voto, .int vofr, .int vokd, .int vonu, .int vosg, .int vofa, .int vopl, .long vowd, .int votd, .ref vmn, .ref vmr, .ref vmk, .ref vms, .ref vma, .ref vmm, .ref vmrn, .ref vmkn, .ref vmik, .ref vmon, .int vosm, .int vohp, .ref vmw, .ref vmf, .ref vmb, .int vomb, .ref vmd, .ref vmc, .int x_14, .int x_15, .int x_16, .ref vmx, .int votx, .int vose, .ref vml, .ref vmwr, .int voln, .int vohw, .ref vmno, .int vond, .int voon, .int vowi, .int votop])), (vmn, .inl (cy 0, 575, .inl vmnf)), (vmd, .inl (cy 0, 10, .inl g_18)), (vmc, .inl (cy 0, 10, .inl g_17))] → va_S A s.heap H locs → ∀ ls : Array Slot, lv_has ls 8 [(7, .int x_13), (6, .int r_7), (0, .ref vo), (1, .int vm), (2, .int 0), (3, .int vlf), (4, .int vti), (5, .int vwe)] → W p l e ({ frames := 11, cells := 0, slots := 0, locals := 704 }) s m av9 below meth c H locs 0 0 Q9 (F0 m 103 ls []) := by
      intro n12
      induction n12 with
      | zero =>
        intro x_13 x_14 x_15 x_16 g_17 g_18 bx_13 bx_16 hn12 H locs hP hD hS ls hl
        exfalso; omega
      | succ n12 ih12 =>
        intro x_13 x_14 x_15 x_16 g_17 g_18 bx_13 bx_16 hn12 H locs hP hD hS ls hl
        refine lv_iload hx hb dX11_careerFrom_103 (lv_at hl 0 rfl) ?_
        refine lv_iload hx hb dX11_careerFrom_105 (lv_at hl 1 rfl) ?_
        refine lv_icmp_gt (tgt := 180) hx hb dX11_careerFrom_107 (by decide) (fun c_19 => ?_) (fun c_19 => ?_)
        · skip
          have c_19 : r_7.toInt < x_13.toInt := i_lt.mp c_19
          rw [hQ9]
          exact re_v (x_14, x_15, g_17, x_16, g_18) hx hb hr hlocks (show 0 ≤ (x_16 : Int32).toInt ∧ (x_16 : Int32).toInt ≤ 10 from ⟨by omega, by omega⟩) (hP.sub [0, 1, 2, 3] rfl) (hD.sub [0, 1, 2, 3] rfl rfl) hS dX11_careerFrom_180
        · skip
          have c_19 : ¬ (r_7.toInt < x_13.toInt) := fun h9 => c_19 (i_lt.mpr h9)
          refine lv_iload hx hb dX11_careerFrom_110 (lv_at hl 7 rfl) ?_
          refine lv_iload hx hb dX11_careerFrom_112 (lv_at hl 0 rfl) ?_
          refine lv_aload_n hx hb dX11_careerFrom_114 rfl (lv_at hl 2 rfl) ?_
          refine gf_X11_98 hx hb hts hown hK hP 0 rfl rfl dX11_careerFrom_115 ?_
          refine lv_bipush (v := 11) hx hb dX11_careerFrom_118 (by decide) ?_
          refine lv_iload_n hx hb dX11_careerFrom_120 rfl (lv_at hl 4 rfl) ?_
          refine lv_iadd hx hb dX11_careerFrom_121 ?_
          refine as_i 11 (by decide) ?_
          have k_11 : (11 : Int32).toInt = 11 := by decide
          have hin_20 : vp_in (11 : Int32) 575 := vp_in_iff.mpr ⟨by omega, by omega⟩
          refine va_iald hx hb hK hP 1 0 rfl rfl hin_20 dX11_careerFrom_122 ?_
          refine lv_topi (fun z_21 ez_21 => ?_)
          have bz_21 := p_vmnf.aw (x := 11) ⟨by omega, by omega⟩ ez_21
          have tz_21 : z_21.toInt = (vmnf 11).toInt := by rw [ez_21]; rfl
          refine lv_imul hx hb dX11_careerFrom_123 ?_
          refine lv_topi (fun z_22 ez_22 => ?_)
          have bz_22 : 0 ≤ z_22.toInt ∧ z_22.toInt ≤ 400 ∧ z_22.toInt = x_13.toInt * z_21.toInt := i_mulb (A := 10) (B := 40) ez_22 ⟨by omega, by omega⟩ ⟨by omega, by omega⟩ (by decide)
          refine lv_iadd hx hb dX11_careerFrom_124 ?_
          refine lv_topi (fun z_23 ez_23 => ?_)
          refine lv_aload_n hx hb dX11_careerFrom_125 rfl (lv_at hl 2 rfl) ?_
          refine gf_X11_98 hx hb hts hown hK hP 0 rfl rfl dX11_careerFrom_126 ?_
          refine lv_iconst (v := 2) hx hb dX11_careerFrom_129 (by decide) ?_
          have k_2 : (2 : Int32).toInt = 2 := by decide
          have hin_24 : vp_in (2 : Int32) 575 := vp_in_iff.mpr ⟨by omega, by omega⟩
          refine va_iald hx hb hK hP 1 0 rfl rfl hin_24 dX11_careerFrom_130 ?_
          refine lv_topi (fun z_25 ez_25 => ?_)
          have tz_25 : z_25.toInt = (vmnf 2).toInt := by rw [ez_25]; rfl
          refine lv_icmp_gt (tgt := 180) hx hb dX11_careerFrom_131 (by decide) (fun c_26 => ?_) (fun c_26 => ?_)
          · skip
            have c_26 : z_25.toInt < z_23.toInt := i_lt.mp c_26
            rw [hQ9]
            exact re_v (x_14, x_15, g_17, x_16, g_18) hx hb hr hlocks (show 0 ≤ (x_16 : Int32).toInt ∧ (x_16 : Int32).toInt ≤ 10 from ⟨by omega, by omega⟩) (hP.sub [0, 1, 2, 3] rfl) (hD.sub [0, 1, 2, 3] rfl rfl) hS dX11_careerFrom_180
          · skip
            have c_26 : ¬ (z_25.toInt < z_23.toInt) := fun h9 => c_26 (i_lt.mpr h9)
            refine lv_aload_n hx hb dX11_careerFrom_134 rfl (lv_at hl 2 rfl) ?_
            refine gf_X11_142 hx hb hts hown hK hP 0 rfl rfl dX11_careerFrom_135 ?_
            refine lv_iload_n hx hb dX11_careerFrom_138 rfl (lv_at hl 4 rfl) ?_
            refine lv_iload hx hb dX11_careerFrom_139 (lv_at hl 0 rfl) ?_
            have hin_27 : vp_in (0 : Int32) 10 := vp_in_iff.mpr ⟨by omega, by omega⟩
            refine va_iast hx hb hK hP hD hS 2 0 rfl rfl hin_27 dX11_careerFrom_141 (fun H locs hP hD hS => ?_)
            obtain ⟨f_28, ef_28⟩ : ∃ z : Nat → Int32, z = upd g_18 (Int32.toNatClampNeg 0) x_13 := ⟨_, rfl⟩
            have hP : va_P (dC, dI) vwCl [(vo, .inr (12, [.int voth, .ref vmt, .int votp, .int vosz, .int volm, .int voto, .int vofr, .int vokd, .int vonu, .int vosg, .int vofa, .int vopl, .long vowd, .int votd, .ref vmn, .ref vmr, .ref vmk, .ref vms, .ref vma, .ref vmm, .ref vmrn, .ref vmkn, .ref vmik, .ref vmon, .int vosm, .int vohp, .ref vmw, .ref vmf, .ref vmb, .int vomb, .ref vmd, .ref vmc, .int x_14, .int x_15, .int x_16, .ref vmx, .int votx, .int vose, .ref vml, .ref vmwr, .int voln, .int vohw, .ref vmno, .int vond, .int voon, .int vowi, .int votop])), (vmn, .inl (cy 0, 575, .inl vmnf)), (vmd, .inl (cy 0, 10, .inl f_28)), (vmc, .inl (cy 0, 10, .inl g_17))] H := by rw [ef_28]; exact hP
            have hD : va_D A [(vo, .inr (12, [.int voth, .ref vmt, .int votp, .int vosz, .int volm, .int voto, .int vofr, .int vokd, .int vonu, .int vosg, .int vofa, .int vopl, .long vowd, .int votd, .ref vmn, .ref vmr, .ref vmk, .ref vms, .ref vma, .ref vmm, .ref vmrn, .ref vmkn, .ref vmik, .ref vmon, .int vosm, .int vohp, .ref vmw, .ref vmf, .ref vmb, .int vomb, .ref vmd, .ref vmc, .int x_14, .int x_15, .int x_16, .ref vmx, .int votx, .int vose, .ref vml, .ref vmwr, .int voln, .int vohw, .ref vmno, .int vond, .int voon, .int vowi, .int votop])), (vmn, .inl (cy 0, 575, .inl vmnf)), (vmd, .inl (cy 0, 10, .inl f_28)), (vmc, .inl (cy 0, 10, .inl g_17))] := by rw [ef_28]; exact hD
            refine lv_aload_n hx hb dX11_careerFrom_142 rfl (lv_at hl 2 rfl) ?_
            refine lv_iload_n hx hb dX11_careerFrom_143 rfl (lv_at hl 3 rfl) ?_
            refine lv_iload_n hx hb dX11_careerFrom_144 rfl (lv_at hl 4 rfl) ?_
            refine lv_iconst (v := 1) hx hb dX11_careerFrom_145 (by decide) ?_
            refine lv_iadd hx hb dX11_careerFrom_146 ?_
            refine as_i 1 (by decide) ?_
            refine lv_iload_n hx hb dX11_careerFrom_147 rfl (lv_at hl 5 rfl) ?_
            refine lv_iload hx hb dX11_careerFrom_148 (lv_at hl 0 rfl) ?_
            refine lv_isub hx hb dX11_careerFrom_150 ?_
            refine lv_topi (fun z_29 ez_29 => ?_)
            have bz_29 : z_29.toInt = vlf.toInt - x_13.toInt := i_sub ez_29 (by omega) (by omega)
            refine lv_iload hx hb dX11_careerFrom_151 (lv_at hl 6 rfl) ?_
            refine lv_iload hx hb dX11_careerFrom_153 (lv_at hl 0 rfl) ?_
            refine lv_iadd hx hb dX11_careerFrom_155 ?_
            refine lv_topi (fun z_30 ez_30 => ?_)
            refine lv_iload hx hb dX11_careerFrom_156 (lv_at hl 7 rfl) ?_
            refine lv_iload hx hb dX11_careerFrom_158 (lv_at hl 0 rfl) ?_
            refine lv_aload_n hx hb dX11_careerFrom_160 rfl (lv_at hl 2 rfl) ?_
            refine gf_X11_98 hx hb hts hown hK hP 0 rfl rfl dX11_careerFrom_161 ?_
            refine lv_bipush (v := 11) hx hb dX11_careerFrom_164 (by decide) ?_
            refine lv_iload_n hx hb dX11_careerFrom_166 rfl (lv_at hl 4 rfl) ?_
            refine lv_iadd hx hb dX11_careerFrom_167 ?_
            refine as_i 11 (by decide) ?_
            have hin_31 : vp_in (11 : Int32) 575 := vp_in_iff.mpr ⟨by omega, by omega⟩
            refine va_iald hx hb hK hP 1 0 rfl rfl hin_31 dX11_careerFrom_168 ?_
            refine lv_topi (fun z_32 ez_32 => ?_)
            have bz_32 := p_vmnf.aw (x := 11) ⟨by omega, by omega⟩ ez_32
            have tz_32 : z_32.toInt = (vmnf 11).toInt := by rw [ez_32]; rfl
            refine lv_imul hx hb dX11_careerFrom_169 ?_
            refine lv_topi (fun z_33 ez_33 => ?_)
            have bz_33 : 0 ≤ z_33.toInt ∧ z_33.toInt ≤ 400 ∧ z_33.toInt = x_13.toInt * z_32.toInt := i_mulb (A := 10) (B := 40) ez_33 ⟨by omega, by omega⟩ ⟨by omega, by omega⟩ (by decide)
            refine lv_iadd hx hb dX11_careerFrom_170 ?_
            refine lv_topi (fun z_34 ez_34 => ?_)
            refine jn_v (wr := []) (rV (As := [.int vm, .int 1, .int z_29, .int z_30, .int z_34]) (rest := []) (ci := 12) ⟨hx, hb, hml, hown, hts⟩ (m_careerFrom_1 l dC dI cy _ vnh vo voth vmt votp vosz volm voto vofr vokd vonu vosg vofa vopl vowd votd vmn vmr vmk vms vma vmm vmrn vmkn vmik vmon vosm vohp vmw vmf vmb vomb vmd vmc x_14 x_15 x_16 vmx votx vose vml vmwr voln vohw vmno vond voon vowi votop vmnf f_28 g_17 vm z_29 z_30 z_34 ⟨by omega, by omega⟩ r_vm ⟨by omega, by omega⟩ p_vmnf (by omega)) (cw_X11_331 hts rfl rfl ⟨Nat.le_of_ble_eq_true rfl, Nat.le_of_ble_eq_true rfl⟩) hP hD hK [0, 1, 2, 3] rfl rfl rfl rfl bl0 e0 rfl hl.1 rfl (Nat.le_of_ble_eq_true rfl) dX11_careerFrom_171 ⟨Nat.le_of_ble_eq_true rfl, Nat.le_of_ble_eq_true rfl⟩) hP hD hS hA [0, 1, 2, 3] [] rfl rfl rfl (by decide) (fun u_37 H locs hp_36 hP hD hS => ?_)
            obtain ⟨vocm_38, voct_39, vmcf_40, vocy_41, vmdf_42⟩ := u_37
            have hp_36 : (0 ≤ (vocy_41 : Int32).toInt ∧ (vocy_41 : Int32).toInt ≤ 10) := hp_36
            have q_43 := hp_36
            have hP : va_P (dC, dI) vwCl [(vo, .inr (12, [.int voth, .ref vmt, .int votp, .int vosz, .int volm, .int voto, .int vofr, .int vokd, .int vonu, .int vosg, .int vofa, .int vopl, .long vowd, .int votd, .ref vmn, .ref vmr, .ref vmk, .ref vms, .ref vma, .ref vmm, .ref vmrn, .ref vmkn, .ref vmik, .ref vmon, .int vosm, .int vohp, .ref vmw, .ref vmf, .ref vmb, .int vomb, .ref vmd, .ref vmc, .int vocm_38, .int voct_39, .int vocy_41, .ref vmx, .int votx, .int vose, .ref vml, .ref vmwr, .int voln, .int vohw, .ref vmno, .int vond, .int voon, .int vowi, .int votop])), (vmn, .inl (cy 0, 575, .inl vmnf)), (vmd, .inl (cy 0, 10, .inl vmdf_42)), (vmc, .inl (cy 0, 10, .inl vmcf_40))] H := hP
            have hD : va_D A [(vo, .inr (12, [.int voth, .ref vmt, .int votp, .int vosz, .int volm, .int voto, .int vofr, .int vokd, .int vonu, .int vosg, .int vofa, .int vopl, .long vowd, .int votd, .ref vmn, .ref vmr, .ref vmk, .ref vms, .ref vma, .ref vmm, .ref vmrn, .ref vmkn, .ref vmik, .ref vmon, .int vosm, .int vohp, .ref vmw, .ref vmf, .ref vmb, .int vomb, .ref vmd, .ref vmc, .int vocm_38, .int voct_39, .int vocy_41, .ref vmx, .int votx, .int vose, .ref vml, .ref vmwr, .int voln, .int vohw, .ref vmno, .int vond, .int voon, .int vowi, .int votop])), (vmn, .inl (cy 0, 575, .inl vmnf)), (vmd, .inl (cy 0, 10, .inl vmdf_42)), (vmc, .inl (cy 0, 10, .inl vmcf_40))] := hD
            obtain ⟨z_44, ez_44⟩ : ∃ z : Int32, z = x_13 + 1 := ⟨_, rfl⟩
            have bz_44 : z_44.toInt = x_13.toInt + (1 : Int32).toInt := i_add ez_44 (by omega) (by omega)
            refine lv_iinc (v := z_44) (lv' := [(7, .int z_44), (6, .int r_7), (0, .ref vo), (1, .int vm), (2, .int 0), (3, .int vlf), (4, .int vti), (5, .int vwe)]) hx hb dX11_careerFrom_174 hl (k := 0) rfl ez_44.symm (by decide) rfl (fun ls hl => ?_)
            refine lv_goto (tgt := 103) hx hb dX11_careerFrom_177 (by decide) ?_
            exact ih12 z_44 vocm_38 voct_39 vocy_41 vmcf_40 vmdf_42 ⟨by omega, by omega⟩ ⟨by omega, by omega⟩ (by omega) _ _ (hP.sub [0, 1, 2, 3] rfl) (hD.sub [0, 1, 2, 3] rfl rfl) hS ls (lv_sub hl [0, 1, 2, 3, 4, 5, 6, 7] rfl)
    exact loop12 ((11 - (0 : Int32).toInt).toNat + 1) 0 vocm voct vocy vmcf vmdf ⟨by omega, by omega⟩ ⟨by omega, by omega⟩ (by omega) _ _ hP hD hS ls (lv_sub hl [0, 1, 2, 3, 4, 5, 6, 7] rfl)
  · skip
    have c_3 : (0 : Int32).toInt = z_2.toInt := i_eq.mp c_3
    have join45 : ∀ (H : Heap) (locs : List Loc), va_P (dC, dI) vwCl [(vo, .inr (12, [.int voth, .ref vmt, .int votp, .int vosz, .int volm, .int voto, .int vofr, .int vokd, .int vonu, .int vosg, .int vofa, .int vopl, .long vowd, .int votd, .ref vmn, .ref vmr, .ref vmk, .ref vms, .ref vma, .ref vmm, .ref vmrn, .ref vmkn, .ref vmik, .ref vmon, .int vosm, .int vohp, .ref vmw, .ref vmf, .ref vmb, .int vomb, .ref vmd, .ref vmc, .int vocm, .int voct, .int vocy, .ref vmx, .int votx, .int vose, .ref vml, .ref vmwr, .int voln, .int vohw, .ref vmno, .int vond, .int voon, .int vowi, .int votop])), (vmn, .inl (cy 0, 575, .inl vmnf)), (vmd, .inl (cy 0, 10, .inl vmdf)), (vmc, .inl (cy 0, 10, .inl vmcf))] H → va_D A [(vo, .inr (12, [.int voth, .ref vmt, .int votp, .int vosz, .int volm, .int voto, .int vofr, .int vokd, .int vonu, .int vosg, .int vofa, .int vopl, .long vowd, .int votd, .ref vmn, .ref vmr, .ref vmk, .ref vms, .ref vma, .ref vmm, .ref vmrn, .ref vmkn, .ref vmik, .ref vmon, .int vosm, .int vohp, .ref vmw, .ref vmf, .ref vmb, .int vomb, .ref vmd, .ref vmc, .int vocm, .int voct, .int vocy, .ref vmx, .int votx, .int vose, .ref vml, .ref vmwr, .int voln, .int vohw, .ref vmno, .int vond, .int voon, .int vowi, .int votop])), (vmn, .inl (cy 0, 575, .inl vmnf)), (vmd, .inl (cy 0, 10, .inl vmdf)), (vmc, .inl (cy 0, 10, .inl vmcf))] → va_S A s.heap H locs → ∀ ls : Array Slot, lv_has ls 8 [(0, .ref vo), (1, .int vm), (2, .int 0), (3, .int vlf), (4, .int vti), (5, .int vwe)] → W p l e ({ frames := 11, cells := 0, slots := 0, locals := 704 }) s m av9 below meth c H locs 0 0 Q9 (F0 m 38 ls []) := by
      intro  H locs hP hD hS ls hl
      refine lv_aload_n hx hb dX11_careerFrom_38 rfl (lv_at hl 0 rfl) ?_
      refine lv_iload hx hb dX11_careerFrom_39 (lv_at hl 5 rfl) ?_
      refine pf_X11_322 hx hb hts hown hK hP hD hS 0 rfl rfl rfl (Nat.le_of_ble_eq_true rfl) dX11_careerFrom_41 (fun H locs hP hD hS => ?_)
      have hP : va_P (dC, dI) vwCl [(vo, .inr (12, [.int voth, .ref vmt, .int votp, .int vosz, .int volm, .int voto, .int vofr, .int vokd, .int vonu, .int vosg, .int vofa, .int vopl, .long vowd, .int votd, .ref vmn, .ref vmr, .ref vmk, .ref vms, .ref vma, .ref vmm, .ref vmrn, .ref vmkn, .ref vmik, .ref vmon, .int vosm, .int vohp, .ref vmw, .ref vmf, .ref vmb, .int vomb, .ref vmd, .ref vmc, .int vwe, .int voct, .int vocy, .ref vmx, .int votx, .int vose, .ref vml, .ref vmwr, .int voln, .int vohw, .ref vmno, .int vond, .int voon, .int vowi, .int votop])), (vmn, .inl (cy 0, 575, .inl vmnf)), (vmd, .inl (cy 0, 10, .inl vmdf)), (vmc, .inl (cy 0, 10, .inl vmcf))] H := hP
      have hD : va_D A [(vo, .inr (12, [.int voth, .ref vmt, .int votp, .int vosz, .int volm, .int voto, .int vofr, .int vokd, .int vonu, .int vosg, .int vofa, .int vopl, .long vowd, .int votd, .ref vmn, .ref vmr, .ref vmk, .ref vms, .ref vma, .ref vmm, .ref vmrn, .ref vmkn, .ref vmik, .ref vmon, .int vosm, .int vohp, .ref vmw, .ref vmf, .ref vmb, .int vomb, .ref vmd, .ref vmc, .int vwe, .int voct, .int vocy, .ref vmx, .int votx, .int vose, .ref vml, .ref vmwr, .int voln, .int vohw, .ref vmno, .int vond, .int voon, .int vowi, .int votop])), (vmn, .inl (cy 0, 575, .inl vmnf)), (vmd, .inl (cy 0, 10, .inl vmdf)), (vmc, .inl (cy 0, 10, .inl vmcf))] := hD
      refine lv_aload_n hx hb dX11_careerFrom_44 rfl (lv_at hl 0 rfl) ?_
      refine lv_iload hx hb dX11_careerFrom_45 (lv_at hl 4 rfl) ?_
      refine pf_X11_325 hx hb hts hown hK hP hD hS 0 rfl rfl rfl (Nat.le_of_ble_eq_true rfl) dX11_careerFrom_47 (fun H locs hP hD hS => ?_)
      have hP : va_P (dC, dI) vwCl [(vo, .inr (12, [.int voth, .ref vmt, .int votp, .int vosz, .int volm, .int voto, .int vofr, .int vokd, .int vonu, .int vosg, .int vofa, .int vopl, .long vowd, .int votd, .ref vmn, .ref vmr, .ref vmk, .ref vms, .ref vma, .ref vmm, .ref vmrn, .ref vmkn, .ref vmik, .ref vmon, .int vosm, .int vohp, .ref vmw, .ref vmf, .ref vmb, .int vomb, .ref vmd, .ref vmc, .int vwe, .int vti, .int vocy, .ref vmx, .int votx, .int vose, .ref vml, .ref vmwr, .int voln, .int vohw, .ref vmno, .int vond, .int voon, .int vowi, .int votop])), (vmn, .inl (cy 0, 575, .inl vmnf)), (vmd, .inl (cy 0, 10, .inl vmdf)), (vmc, .inl (cy 0, 10, .inl vmcf))] H := hP
      have hD : va_D A [(vo, .inr (12, [.int voth, .ref vmt, .int votp, .int vosz, .int volm, .int voto, .int vofr, .int vokd, .int vonu, .int vosg, .int vofa, .int vopl, .long vowd, .int votd, .ref vmn, .ref vmr, .ref vmk, .ref vms, .ref vma, .ref vmm, .ref vmrn, .ref vmkn, .ref vmik, .ref vmon, .int vosm, .int vohp, .ref vmw, .ref vmf, .ref vmb, .int vomb, .ref vmd, .ref vmc, .int vwe, .int vti, .int vocy, .ref vmx, .int votx, .int vose, .ref vml, .ref vmwr, .int voln, .int vohw, .ref vmno, .int vond, .int voon, .int vowi, .int votop])), (vmn, .inl (cy 0, 575, .inl vmnf)), (vmd, .inl (cy 0, 10, .inl vmdf)), (vmc, .inl (cy 0, 10, .inl vmcf))] := hD
      refine lv_iconst (v := 0) hx hb dX11_careerFrom_50 (by decide) ?_
      refine lv_istore (lv' := [(6, .int 0), (0, .ref vo), (1, .int vm), (2, .int 0), (3, .int vlf), (4, .int vti), (5, .int vwe)]) hx hb dX11_careerFrom_51 hl (by decide) rfl (fun ls hl => ?_)
      have loop46 : ∀ (n46 : Nat) (x_47 : Int32) (g_48 : Nat → Int32), (0 ≤ x_47.toInt ∧ x_47.toInt ≤ 10) → 10 - x_47.toInt < (n46 : Int) → ∀ (H : Heap) (locs : List Loc), va_P (dC, dI) vwCl [(vo, .inr (12, [.int voth, .ref vmt, .int votp, .int vosz, .int volm, .int voto, .int vofr, .int vokd, .int vonu, .int vosg, .int vofa, .int vopl, .long vowd, .int votd, .ref vmn, .ref vmr, .ref vmk, .ref vms, .ref vma, .ref vmm, .ref vmrn, .ref vmkn, .ref vmik, .ref vmon, .int vosm, .int vohp, .ref vmw, .ref vmf, .ref vmb, .int vomb, .ref vmd, .ref vmc, .int vwe, .int vti, .int vocy, .ref vmx, .int votx, .int vose, .ref vml, .ref vmwr, .int voln, .int vohw, .ref vmno, .int vond, .int voon, .int vowi, .int votop])), (vmn, .inl (cy 0, 575, .inl vmnf)), (vmd, .inl (cy 0, 10, .inl vmdf)), (vmc, .inl (cy 0, 10, .inl g_48))] H → va_D A [(vo, .inr (12, [.int voth, .ref vmt, .int votp, .int vosz, .int volm, .int voto, .int vofr, .int vokd, .int vonu, .int vosg, .int vofa, .int vopl, .long vowd, .int votd, .ref vmn, .ref vmr, .ref vmk, .ref vms, .ref vma, .ref vmm, .ref vmrn, .ref vmkn, .ref vmik, .ref vmon, .int vosm, .int vohp, .ref vmw, .ref vmf, .ref vmb, .int vomb, .ref vmd, .ref vmc, .int vwe, .int vti, .int vocy, .ref vmx, .int votx, .int vose, .ref vml, .ref vmwr, .int voln, .int vohw, .ref vmno, .int vond, .int voon, .int vowi, .int votop])), (vmn, .inl (cy 0, 575, .inl vmnf)), (vmd, .inl (cy 0, 10, .inl vmdf)), (vmc, .inl (cy 0, 10, .inl g_48))] → va_S A s.heap H locs → ∀ ls : Array Slot, lv_has ls 8 [(6, .int x_47), (0, .ref vo), (1, .int vm), (2, .int 0), (3, .int vlf), (4, .int vti), (5, .int vwe)] → W p l e ({ frames := 11, cells := 0, slots := 0, locals := 704 }) s m av9 below meth c H locs 0 0 Q9 (F0 m 53 ls []) := by
        intro n46
        induction n46 with
        | zero =>
          intro x_47 g_48 bx_47 hn46 H locs hP hD hS ls hl
          exfalso; omega
        | succ n46 ih46 =>
          intro x_47 g_48 bx_47 hn46 H locs hP hD hS ls hl
          refine lv_iload hx hb dX11_careerFrom_53 (lv_at hl 0 rfl) ?_
          refine lv_iload_n hx hb dX11_careerFrom_55 rfl (lv_at hl 3 rfl) ?_
          refine lv_icmp_ge (tgt := 79) hx hb dX11_careerFrom_56 (by decide) (fun _ => ?_) (fun c9 => (c9 (i_le.mpr (by omega))).elim)
          refine lv_aload_n hx hb dX11_careerFrom_79 rfl (lv_at hl 1 rfl) ?_
          refine lv_iload_n hx hb dX11_careerFrom_80 rfl (lv_at hl 3 rfl) ?_
          refine pf_X11_328 hx hb hts hown hK hP hD hS 0 rfl rfl rfl (Nat.le_of_ble_eq_true rfl) dX11_careerFrom_81 (fun H locs hP hD hS => ?_)
          have hP : va_P (dC, dI) vwCl [(vo, .inr (12, [.int voth, .ref vmt, .int votp, .int vosz, .int volm, .int voto, .int vofr, .int vokd, .int vonu, .int vosg, .int vofa, .int vopl, .long vowd, .int votd, .ref vmn, .ref vmr, .ref vmk, .ref vms, .ref vma, .ref vmm, .ref vmrn, .ref vmkn, .ref vmik, .ref vmon, .int vosm, .int vohp, .ref vmw, .ref vmf, .ref vmb, .int vomb, .ref vmd, .ref vmc, .int vwe, .int vti, .int 0, .ref vmx, .int votx, .int vose, .ref vml, .ref vmwr, .int voln, .int vohw, .ref vmno, .int vond, .int voon, .int vowi, .int votop])), (vmn, .inl (cy 0, 575, .inl vmnf)), (vmd, .inl (cy 0, 10, .inl vmdf)), (vmc, .inl (cy 0, 10, .inl g_48))] H := hP
          have hD : va_D A [(vo, .inr (12, [.int voth, .ref vmt, .int votp, .int vosz, .int volm, .int voto, .int vofr, .int vokd, .int vonu, .int vosg, .int vofa, .int vopl, .long vowd, .int votd, .ref vmn, .ref vmr, .ref vmk, .ref vms, .ref vma, .ref vmm, .ref vmrn, .ref vmkn, .ref vmik, .ref vmon, .int vosm, .int vohp, .ref vmw, .ref vmf, .ref vmb, .int vomb, .ref vmd, .ref vmc, .int vwe, .int vti, .int 0, .ref vmx, .int votx, .int vose, .ref vml, .ref vmwr, .int voln, .int vohw, .ref vmno, .int vond, .int voon, .int vowi, .int votop])), (vmn, .inl (cy 0, 575, .inl vmnf)), (vmd, .inl (cy 0, 10, .inl vmdf)), (vmc, .inl (cy 0, 10, .inl g_48))] := hD
          rw [hQ9]
          exact re_v (vwe, vti, g_48, (0 : Int32), vmdf) hx hb hr hlocks (show 0 ≤ (0 : Int32).toInt ∧ (0 : Int32).toInt ≤ 10 from ⟨by omega, by omega⟩) (hP.sub [0, 1, 2, 3] rfl) (hD.sub [0, 1, 2, 3] rfl rfl) hS dX11_careerFrom_84
      exact loop46 ((10 - (0 : Int32).toInt).toNat + 1) 0 vmcf ⟨by omega, by omega⟩ (by omega) _ _ hP hD hS ls (lv_sub hl [0, 1, 2, 3, 4, 5, 6] rfl)
    refine lv_iload hx hb dX11_careerFrom_10 (lv_at hl 5 rfl) ?_
    refine lv_aload_n hx hb dX11_careerFrom_12 rfl (lv_at hl 0 rfl) ?_
    refine gf_X11_322 hx hb hts hown hK hP 0 rfl rfl dX11_careerFrom_13 ?_
    refine lv_icmp_lt (tgt := 37) hx hb dX11_careerFrom_16 (by decide) (fun c_49 => ?_) (fun c_49 => ?_)
    · skip
      have c_49 : vwe.toInt < vocm.toInt := i_lt.mp c_49
      rw [hQ9]
      exact re_v (vocm, voct, vmcf, vocy, vmdf) hx hb hr hlocks (show 0 ≤ (vocy : Int32).toInt ∧ (vocy : Int32).toInt ≤ 10 from ⟨by omega, by omega⟩) (hP.sub [0, 1, 2, 3] rfl) (hD.sub [0, 1, 2, 3] rfl rfl) hS dX11_careerFrom_37
    · skip
      have c_49 : ¬ (vwe.toInt < vocm.toInt) := fun h9 => c_49 (i_lt.mpr h9)
      refine lv_iload hx hb dX11_careerFrom_19 (lv_at hl 5 rfl) ?_
      refine lv_aload_n hx hb dX11_careerFrom_21 rfl (lv_at hl 0 rfl) ?_
      refine gf_X11_322 hx hb hts hown hK hP 0 rfl rfl dX11_careerFrom_22 ?_
      refine lv_icmp_ne (tgt := 38) hx hb dX11_careerFrom_25 (by decide) (fun c_50 => ?_) (fun c_50 => ?_)
      · skip
        have c_50 : ¬ (vwe.toInt = vocm.toInt) := fun h9 => c_50 (i_eq.mpr h9)
        exact join45  _ _ (hP.sub [0, 1, 2, 3] rfl) (hD.sub [0, 1, 2, 3] rfl rfl) hS ls (lv_sub hl [0, 1, 2, 3, 4, 5] rfl)
      · skip
        have c_50 : vwe.toInt = vocm.toInt := i_eq.mp c_50
        refine lv_iload hx hb dX11_careerFrom_28 (lv_at hl 4 rfl) ?_
        refine lv_aload_n hx hb dX11_careerFrom_30 rfl (lv_at hl 0 rfl) ?_
        refine gf_X11_325 hx hb hts hown hK hP 0 rfl rfl dX11_careerFrom_31 ?_
        refine lv_icmp_lt (tgt := 38) hx hb dX11_careerFrom_34 (by decide) (fun c_51 => ?_) (fun c_51 => ?_)
        · skip
          have c_51 : vti.toInt < voct.toInt := i_lt.mp c_51
          exact join45  _ _ (hP.sub [0, 1, 2, 3] rfl) (hD.sub [0, 1, 2, 3] rfl rfl) hS ls (lv_sub hl [0, 1, 2, 3, 4, 5] rfl)
        · skip
          have c_51 : ¬ (vti.toInt < voct.toInt) := fun h9 => c_51 (i_lt.mpr h9)
          rw [hQ9]
          exact re_v (vocm, voct, vmcf, vocy, vmdf) hx hb hr hlocks (show 0 ≤ (vocy : Int32).toInt ∧ (vocy : Int32).toInt ≤ 10 from ⟨by omega, by omega⟩) (hP.sub [0, 1, 2, 3] rfl) (hD.sub [0, 1, 2, 3] rfl rfl) hS dX11_careerFrom_37
theorem nw_ge1 {hd f : Nat → Int32} (h : NW hd f) : 0 ≤ (f 1).toInt := h.2.1.2.1.1
abbrev cX11_career : ByteArray := prog_13_method_91_code
def yX11_career : MethodName := ⟨RX11, "career", "(II)I"⟩
theorem t1905 : Cond.code yX11_career cX11_career 3 (some .int) ∈ GW := gw_mem 2019 (by decide +kernel) (by decide +kernel)
abbrev O_m_career (cy : Nat → ClassId) (vnh : Nat → Int32) (vo : Nat) (voth : Int32) (vmt : Nat) (votp : Int32) (vosz : Int32) (volm : Int32) (voto : Int32) (vofr : Int32) (vokd : Int32) (vonu : Int32) (vosg : Int32) (vofa : Int32) (vopl : Int32) (vowd : Int64) (votd : Int32) (vmn : Nat) (vmr : Nat) (vmk : Nat) (vms : Nat) (vma : Nat) (vmm : Nat) (vmrn : Nat) (vmkn : Nat) (vmik : Nat) (vmon : Nat) (vosm : Int32) (vohp : Int32) (vmw : Nat) (vmf : Nat) (vmb : Nat) (vomb : Int32) (vmd : Nat) (vmc : Nat) (vocm : Int32) (voct : Int32) (vocy : Int32) (vmx : Nat) (votx : Int32) (vose : Int32) (vml : Nat) (vmwr : Nat) (voln : Int32) (vohw : Int32) (vmno : Nat) (vond : Int32) (voon : Int32) (vowi : Int32) (votop : Int32) (vmnf : Nat → Int32) (vmdf : Nat → Int32) (vmcf : Nat → Int32) (vm : Int32) (vk : Int32) (u : Int32 × Int32 × Int32 × (Nat → Int32) × Int32 × (Nat → Int32)) : va_W := [(vo, .inr (12, [.int u.1, .ref vmt, .int votp, .int vosz, .int volm, .int voto, .int vofr, .int vokd, .int vonu, .int vosg, .int vofa, .int vopl, .long vowd, .int votd, .ref vmn, .ref vmr, .ref vmk, .ref vms, .ref vma, .ref vmm, .ref vmrn, .ref vmkn, .ref vmik, .ref vmon, .int vosm, .int vohp, .ref vmw, .ref vmf, .ref vmb, .int vomb, .ref vmd, .ref vmc, .int u.2.1, .int u.2.2.1, .int u.2.2.2.2.1, .ref vmx, .int votx, .int vose, .ref vml, .ref vmwr, .int voln, .int vohw, .ref vmno, .int vond, .int voon, .int vowi, .int votop])), (vmn, .inl (cy 0, 575, .inl vmnf)), (vmd, .inl (cy 0, 10, .inl u.2.2.2.2.2)), (vmc, .inl (cy 0, 10, .inl u.2.2.2.1))]
theorem dX11_career_0 : decode cX11_career 0 = .ok (.aload_n 0, 1) := by decide +kernel
theorem dX11_career_1 : decode cX11_career 1 = .ok (.iconst 0, 1) := by decide +kernel
theorem dX11_career_2 : decode cX11_career 2 = .ok (.putfield 1, 3) := by decide +kernel
theorem dX11_career_5 : decode cX11_career 5 = .ok (.aload_n 0, 1) := by decide +kernel
theorem dX11_career_6 : decode cX11_career 6 = .ok (.iload_n 1, 1) := by decide +kernel
theorem dX11_career_7 : decode cX11_career 7 = .ok (.invokevirtual 250, 3) := by decide +kernel
theorem dX11_career_10 : decode cX11_career 10 = .ok (.ifCond .eq 27, 3) := by decide +kernel
theorem dX11_career_37 : decode cX11_career 37 = .ok (.iconst (-1), 1) := by decide +kernel
theorem dX11_career_38 : decode cX11_career 38 = .ok (.ireturn, 1) := by decide +kernel
theorem dX11_career_13 : decode cX11_career 13 = .ok (.iload_n 2, 1) := by decide +kernel
theorem dX11_career_14 : decode cX11_career 14 = .ok (.iconst 0, 1) := by decide +kernel
theorem dX11_career_15 : decode cX11_career 15 = .ok (.bipush 10, 2) := by decide +kernel
theorem dX11_career_17 : decode cX11_career 17 = .ok (.invokestatic 75, 3) := by decide +kernel
theorem dX11_career_20 : decode cX11_career 20 = .ok (.ifCond .eq 17, 3) := by decide +kernel
theorem dX11_career_23 : decode cX11_career 23 = .ok (.aload_n 0, 1) := by decide +kernel
theorem dX11_career_24 : decode cX11_career 24 = .ok (.iload_n 1, 1) := by decide +kernel
theorem dX11_career_25 : decode cX11_career 25 = .ok (.invokevirtual 247, 3) := by decide +kernel
theorem dX11_career_28 : decode cX11_career 28 = .ok (.aload_n 0, 1) := by decide +kernel
theorem dX11_career_29 : decode cX11_career 29 = .ok (.getfield 98, 3) := by decide +kernel
theorem dX11_career_32 : decode cX11_career 32 = .ok (.iconst 2, 1) := by decide +kernel
theorem dX11_career_33 : decode cX11_career 33 = .ok (.iaload, 1) := by decide +kernel
theorem dX11_career_34 : decode cX11_career 34 = .ok (.if_icmp .le 5, 3) := by decide +kernel
theorem dX11_career_39 : decode cX11_career 39 = .ok (.aload_n 0, 1) := by decide +kernel
theorem dX11_career_40 : decode cX11_career 40 = .ok (.iconst (-1), 1) := by decide +kernel
theorem dX11_career_41 : decode cX11_career 41 = .ok (.putfield 322, 3) := by decide +kernel
theorem dX11_career_44 : decode cX11_career 44 = .ok (.aload_n 0, 1) := by decide +kernel
theorem dX11_career_45 : decode cX11_career 45 = .ok (.iconst 0, 1) := by decide +kernel
theorem dX11_career_46 : decode cX11_career 46 = .ok (.putfield 325, 3) := by decide +kernel
theorem dX11_career_49 : decode cX11_career 49 = .ok (.aload_n 0, 1) := by decide +kernel
theorem dX11_career_50 : decode cX11_career 50 = .ok (.iload_n 1, 1) := by decide +kernel
theorem dX11_career_51 : decode cX11_career 51 = .ok (.iconst 0, 1) := by decide +kernel
theorem dX11_career_52 : decode cX11_career 52 = .ok (.iload_n 2, 1) := by decide +kernel
theorem dX11_career_53 : decode cX11_career 53 = .ok (.iconst 0, 1) := by decide +kernel
theorem dX11_career_54 : decode cX11_career 54 = .ok (.aload_n 0, 1) := by decide +kernel
theorem dX11_career_55 : decode cX11_career 55 = .ok (.iload_n 1, 1) := by decide +kernel
theorem dX11_career_56 : decode cX11_career 56 = .ok (.invokevirtual 247, 3) := by decide +kernel
theorem dX11_career_59 : decode cX11_career 59 = .ok (.invokevirtual 331, 3) := by decide +kernel
theorem dX11_career_62 : decode cX11_career 62 = .ok (.aload_n 0, 1) := by decide +kernel
theorem dX11_career_63 : decode cX11_career 63 = .ok (.getfield 322, 3) := by decide +kernel
theorem dX11_career_66 : decode cX11_career 66 = .ok (.ireturn, 1) := by decide +kernel
set_option maxHeartbeats 4000000 in
set_option maxRecDepth 100000 in
theorem m_career (l : Launch) (dC : Nat → ClassId) (dI : Nat → Nat → Nat) (cy : Nat → ClassId) (sz : Nat) (vnh : Nat → Int32) (vo : Nat) (voth : Int32) (vmt : Nat) (votp : Int32) (vosz : Int32) (volm : Int32) (voto : Int32) (vofr : Int32) (vokd : Int32) (vonu : Int32) (vosg : Int32) (vofa : Int32) (vopl : Int32) (vowd : Int64) (votd : Int32) (vmn : Nat) (vmr : Nat) (vmk : Nat) (vms : Nat) (vma : Nat) (vmm : Nat) (vmrn : Nat) (vmkn : Nat) (vmik : Nat) (vmon : Nat) (vosm : Int32) (vohp : Int32) (vmw : Nat) (vmf : Nat) (vmb : Nat) (vomb : Int32) (vmd : Nat) (vmc : Nat) (vocm : Int32) (voct : Int32) (vocy : Int32) (vmx : Nat) (votx : Int32) (vose : Int32) (vml : Nat) (vmwr : Nat) (voln : Int32) (vohw : Int32) (vmno : Nat) (vond : Int32) (voon : Int32) (vowi : Int32) (votop : Int32) (vmnf : Nat → Int32) (vmdf : Nat → Int32) (vmcf : Nat → Int32) (vm : Int32) (vk : Int32) (r_vocy : 0 ≤ (vocy : Int32).toInt ∧ (vocy : Int32).toInt ≤ 10) (p_vmnf : NW vnh vmnf) : Met l yX11_career (wl yX11_career cX11_career 3 (some .int)) ({ frames := 12, cells := 0, slots := 0, locals := 768 }) (Pw (dC, dI) vwCl cy [(vo, .inr (12, [.int voth, .ref vmt, .int votp, .int vosz, .int volm, .int voto, .int vofr, .int vokd, .int vonu, .int vosg, .int vofa, .int vopl, .long vowd, .int votd, .ref vmn, .ref vmr, .ref vmk, .ref vms, .ref vma, .ref vmm, .ref vmrn, .ref vmkn, .ref vmik, .ref vmon, .int vosm, .int vohp, .ref vmw, .ref vmf, .ref vmb, .int vomb, .ref vmd, .ref vmc, .int vocm, .int voct, .int vocy, .ref vmx, .int votx, .int vose, .ref vml, .ref vmwr, .int voln, .int vohw, .ref vmno, .int vond, .int voon, .int vowi, .int votop])), (vmn, .inl (cy 0, 575, .inl vmnf)), (vmd, .inl (cy 0, 10, .inl vmdf)), (vmc, .inl (cy 0, 10, .inl vmcf))] sz [.ref vo, .int vm, .int vk] nE) (Qi (dC, dI) vwCl (fun (r : Int32) (u : Int32 × Int32 × Int32 × (Nat → Int32) × Int32 × (Nat → Int32)) => (0 ≤ (u.2.2.2.2.1 : Int32).toInt ∧ (u.2.2.2.2.1 : Int32).toInt ≤ 10)) (O_m_career cy vnh vo voth vmt votp vosz volm voto vofr vokd vonu vosg vofa vopl vowd votd vmn vmr vmk vms vma vmm vmrn vmkn vmik vmon vosm vohp vmw vmf vmb vomb vmd vmc vocm voct vocy vmx votx vose vml vmwr voln vohw vmno vond voon vowi votop vmnf vmdf vmcf vm vk) (va_A [(vo, .inr (12, [.int voth, .ref vmt, .int votp, .int vosz, .int volm, .int voto, .int vofr, .int vokd, .int vonu, .int vosg, .int vofa, .int vopl, .long vowd, .int votd, .ref vmn, .ref vmr, .ref vmk, .ref vms, .ref vma, .ref vmm, .ref vmrn, .ref vmkn, .ref vmik, .ref vmon, .int vosm, .int vohp, .ref vmw, .ref vmf, .ref vmb, .int vomb, .ref vmd, .ref vmc, .int vocm, .int voct, .int vocy, .ref vmx, .int votx, .int vose, .ref vml, .ref vmwr, .int voln, .int vohw, .ref vmno, .int vond, .int voon, .int vowi, .int votop])), (vmn, .inl (cy 0, 575, .inl vmnf)), (vmd, .inl (cy 0, 10, .inl vmdf)), (vmc, .inl (cy 0, 10, .inl vmcf))] sz)) 0 0 (va_A [(vo, .inr (12, [.int voth, .ref vmt, .int votp, .int vosz, .int volm, .int voto, .int vofr, .int vokd, .int vonu, .int vosg, .int vofa, .int vopl, .long vowd, .int votd, .ref vmn, .ref vmr, .ref vmk, .ref vms, .ref vma, .ref vmm, .ref vmrn, .ref vmkn, .ref vmik, .ref vmon, .int vosm, .int vohp, .ref vmw, .ref vmf, .ref vmb, .int vomb, .ref vmd, .ref vmc, .int vocm, .int voct, .int vocy, .ref vmx, .int votx, .int vose, .ref vml, .ref vmwr, .int voln, .int vohw, .ref vmno, .int vond, .int voon, .int vowi, .int votop])), (vmn, .inl (cy 0, 575, .inl vmnf)), (vmd, .inl (cy 0, 10, .inl vmdf)), (vmc, .inl (cy 0, 10, .inl vmcf))] sz) := by
  refine mw (Qc := Qi (dC, dI) vwCl (fun (r : Int32) (u : Int32 × Int32 × Int32 × (Nat → Int32) × Int32 × (Nat → Int32)) => (0 ≤ (u.2.2.2.2.1 : Int32).toInt ∧ (u.2.2.2.2.1 : Int32).toInt ≤ 10)) (O_m_career cy vnh vo voth vmt votp vosz volm voto vofr vokd vonu vosg vofa vopl vowd votd vmn vmr vmk vms vma vmm vmrn vmkn vmik vmon vosm vohp vmw vmf vmb vomb vmd vmc vocm voct vocy vmx votx vose vml vmwr voln vohw vmno vond voon vowi votop vmnf vmdf vmcf vm vk)) RX11 rfl (by decide +kernel) (Nat.le_of_ble_eq_true rfl) ?_
  intro p e s m below meth c A hx hb hr hlocks av9 hav hts hown hnm hml hK hP hD hA hS hE hAe Q9 hQ9 ls hl
  have hl : lv_has ls 3 [(0, .ref vo), (1, .int vm), (2, .int vk)] := hl
  refine lv_aload_n hx hb dX11_career_0 rfl (lv_at hl 0 rfl) ?_
  refine lv_iconst (v := 0) hx hb dX11_career_1 (by decide) ?_
  refine pf_X11_1 hx hb hts hown hK hP hD hS 0 rfl rfl rfl (Nat.le_of_ble_eq_true rfl) dX11_career_2 (fun H locs hP hD hS => ?_)
  have hP : va_P (dC, dI) vwCl [(vo, .inr (12, [.int 0, .ref vmt, .int votp, .int vosz, .int volm, .int voto, .int vofr, .int vokd, .int vonu, .int vosg, .int vofa, .int vopl, .long vowd, .int votd, .ref vmn, .ref vmr, .ref vmk, .ref vms, .ref vma, .ref vmm, .ref vmrn, .ref vmkn, .ref vmik, .ref vmon, .int vosm, .int vohp, .ref vmw, .ref vmf, .ref vmb, .int vomb, .ref vmd, .ref vmc, .int vocm, .int voct, .int vocy, .ref vmx, .int votx, .int vose, .ref vml, .ref vmwr, .int voln, .int vohw, .ref vmno, .int vond, .int voon, .int vowi, .int votop])), (vmn, .inl (cy 0, 575, .inl vmnf)), (vmd, .inl (cy 0, 10, .inl vmdf)), (vmc, .inl (cy 0, 10, .inl vmcf))] H := hP
  have hD : va_D A [(vo, .inr (12, [.int 0, .ref vmt, .int votp, .int vosz, .int volm, .int voto, .int vofr, .int vokd, .int vonu, .int vosg, .int vofa, .int vopl, .long vowd, .int votd, .ref vmn, .ref vmr, .ref vmk, .ref vms, .ref vma, .ref vmm, .ref vmrn, .ref vmkn, .ref vmik, .ref vmon, .int vosm, .int vohp, .ref vmw, .ref vmf, .ref vmb, .int vomb, .ref vmd, .ref vmc, .int vocm, .int voct, .int vocy, .ref vmx, .int votx, .int vose, .ref vml, .ref vmwr, .int voln, .int vohw, .ref vmno, .int vond, .int voon, .int vowi, .int votop])), (vmn, .inl (cy 0, 575, .inl vmnf)), (vmd, .inl (cy 0, 10, .inl vmdf)), (vmc, .inl (cy 0, 10, .inl vmcf))] := hD
  refine lv_aload_n hx hb dX11_career_5 rfl (lv_at hl 0 rfl) ?_
  refine lv_iload_n hx hb dX11_career_6 rfl (lv_at hl 1 rfl) ?_
  have k_0 : (0 : Int32).toInt = 0 := by decide
  refine jr_i (rVr (As := [.int vm]) (rest := []) (ci := 12) ⟨hx, hb, hml, hown, hts⟩ (m_isMan l dC dI cy vnh vo 0 vmt votp vosz volm voto vofr vokd vonu vosg vofa vopl vowd votd vmn vmr vmk vms vma vmm vmrn vmkn vmik vmon vosm vohp vmw vmf vmb vomb vmd vmc vocm voct vocy vmx votx vose vml vmwr voln vohw vmno vond voon vowi votop vmnf vm p_vmnf) (cw_X11_250 hts rfl rfl ⟨Nat.le_of_ble_eq_true rfl, Nat.le_of_ble_eq_true rfl⟩) hP hK [0, 1] rfl rfl rfl rfl hl.1 rfl (Nat.le_of_ble_eq_true rfl) dX11_career_7 ⟨Nat.le_of_ble_eq_true rfl, Nat.le_of_ble_eq_true rfl⟩) hP hS (fun r_1 H locs hp_2 hP hS => ?_)
  have hp_2 : ((r_1 = 0 ∧ ((vm : Int32).toInt < 0 ∨ (vmnf 0).toInt ≤ (vm : Int32).toInt)) ∨ (r_1 = 1 ∧ 0 ≤ (vm : Int32).toInt ∧ (vm : Int32).toInt ≤ 6 ∧ (vm : Int32).toInt < (vmnf 0).toInt)) := hp_2
  have q_3 := hp_2
  rcases q_3 with ⟨aq_3, f0q_3⟩ | ⟨aq_3, f0q_3, f1q_3, f2q_3⟩
  · skip
    refine as_i 0 aq_3 ?_
    refine lv_if_eq (tgt := 37) hx hb dX11_career_10 (by decide) (fun _ => ?_) (fun c9 => absurd (by decide) c9)
    refine lv_iconst (v := (-1)) hx hb dX11_career_37 (by decide) ?_
    have k_m1 : ((-1) : Int32).toInt = (-1) := by decide
    rw [hQ9]
    exact re_i ((0 : Int32), vocm, voct, vmcf, vocy, vmdf) hx hb hr hlocks (show 0 ≤ (vocy : Int32).toInt ∧ (vocy : Int32).toInt ≤ 10 from ⟨by omega, by omega⟩) (hP.sub [0, 1, 2, 3] rfl) (hD.sub [0, 1, 2, 3] rfl rfl) hS dX11_career_38
  · skip
    refine as_i 1 aq_3 ?_
    refine lv_if_eq (tgt := 37) hx hb dX11_career_10 (by decide) (fun c9 => absurd c9 (by decide)) (fun _ => ?_)
    refine lv_iload_n hx hb dX11_career_13 rfl (lv_at hl 2 rfl) ?_
    refine lv_iconst (v := 0) hx hb dX11_career_14 (by decide) ?_
    refine lv_bipush (v := 10) hx hb dX11_career_15 (by decide) ?_
    have k_10 : (10 : Int32).toInt = 10 := by decide
    refine jr_i (rSr (As := [.int vk, .int 0, .int 10]) (rest := []) ⟨hx, hb, hml, hown, hts⟩ (m_isIn l dC dI cy vk 0 10 ) (cw_X11_75 hts rfl rfl ⟨Nat.le_of_ble_eq_true rfl, Nat.le_of_ble_eq_true rfl⟩) hP hK [] rfl rfl hl.1 rfl (Nat.le_of_ble_eq_true rfl) dX11_career_17 ⟨Nat.le_of_ble_eq_true rfl, Nat.le_of_ble_eq_true rfl⟩) hP hS (fun r_4 H locs hp_5 hP hS => ?_)
    have hp_5 : ((r_4 = 0 ∧ ((vk : Int32).toInt < (0 : Int32).toInt ∨ (10 : Int32).toInt < (vk : Int32).toInt)) ∨ (r_4 = 1 ∧ (0 : Int32).toInt ≤ (vk : Int32).toInt ∧ (vk : Int32).toInt ≤ (10 : Int32).toInt)) := hp_5
    have q_6 := hp_5
    rcases q_6 with ⟨aq_6, f0q_6⟩ | ⟨aq_6, f0q_6, f1q_6⟩
    · skip
      refine as_i 0 aq_6 ?_
      refine lv_if_eq (tgt := 37) hx hb dX11_career_20 (by decide) (fun _ => ?_) (fun c9 => absurd (by decide) c9)
      refine lv_iconst (v := (-1)) hx hb dX11_career_37 (by decide) ?_
      have k_m1 : ((-1) : Int32).toInt = (-1) := by decide
      rw [hQ9]
      exact re_i ((0 : Int32), vocm, voct, vmcf, vocy, vmdf) hx hb hr hlocks (show 0 ≤ (vocy : Int32).toInt ∧ (vocy : Int32).toInt ≤ 10 from ⟨by omega, by omega⟩) (hP.sub [0, 1, 2, 3] rfl) (hD.sub [0, 1, 2, 3] rfl rfl) hS dX11_career_38
    · skip
      refine as_i 1 aq_6 ?_
      refine lv_if_eq (tgt := 37) hx hb dX11_career_20 (by decide) (fun c9 => absurd c9 (by decide)) (fun _ => ?_)
      refine lv_aload_n hx hb dX11_career_23 rfl (lv_at hl 0 rfl) ?_
      refine lv_iload_n hx hb dX11_career_24 rfl (lv_at hl 1 rfl) ?_
      refine jr_i (rVr (As := [.int vm]) (rest := []) (ci := 12) ⟨hx, hb, hml, hown, hts⟩ (m_allOf l dC dI cy vnh vo 0 vmt votp vosz volm voto vofr vokd vonu vosg vofa vopl vowd votd vmn vmr vmk vms vma vmm vmrn vmkn vmik vmon vosm vohp vmw vmf vmb vomb vmd vmc vocm voct vocy vmx votx vose vml vmwr voln vohw vmno vond voon vowi votop vmnf vm ⟨by omega, by omega⟩ p_vmnf) (cw_X11_247 hts rfl rfl ⟨Nat.le_of_ble_eq_true rfl, Nat.le_of_ble_eq_true rfl⟩) hP hK [0, 1] rfl rfl rfl rfl hl.1 rfl (Nat.le_of_ble_eq_true rfl) dX11_career_25 ⟨Nat.le_of_ble_eq_true rfl, Nat.le_of_ble_eq_true rfl⟩) hP hS (fun r_7 H locs hp_8 hP hS => ?_)
      refine lv_aload_n hx hb dX11_career_28 rfl (lv_at hl 0 rfl) ?_
      refine gf_X11_98 hx hb hts hown hK hP 0 rfl rfl dX11_career_29 ?_
      refine lv_iconst (v := 2) hx hb dX11_career_32 (by decide) ?_
      have k_2 : (2 : Int32).toInt = 2 := by decide
      have hin_9 : vp_in (2 : Int32) 575 := vp_in_iff.mpr ⟨by omega, by omega⟩
      refine va_iald hx hb hK hP 1 0 rfl rfl hin_9 dX11_career_33 ?_
      refine lv_topi (fun z_10 ez_10 => ?_)
      have tz_10 : z_10.toInt = (vmnf 2).toInt := by rw [ez_10]; rfl
      refine lv_icmp_le (tgt := 39) hx hb dX11_career_34 (by decide) (fun c_11 => ?_) (fun c_11 => ?_)
      · skip
        have c_11 : r_7.toInt ≤ z_10.toInt := i_le.mp c_11
        refine lv_aload_n hx hb dX11_career_39 rfl (lv_at hl 0 rfl) ?_
        refine lv_iconst (v := (-1)) hx hb dX11_career_40 (by decide) ?_
        refine pf_X11_322 hx hb hts hown hK hP hD hS 0 rfl rfl rfl (Nat.le_of_ble_eq_true rfl) dX11_career_41 (fun H locs hP hD hS => ?_)
        have hP : va_P (dC, dI) vwCl [(vo, .inr (12, [.int 0, .ref vmt, .int votp, .int vosz, .int volm, .int voto, .int vofr, .int vokd, .int vonu, .int vosg, .int vofa, .int vopl, .long vowd, .int votd, .ref vmn, .ref vmr, .ref vmk, .ref vms, .ref vma, .ref vmm, .ref vmrn, .ref vmkn, .ref vmik, .ref vmon, .int vosm, .int vohp, .ref vmw, .ref vmf, .ref vmb, .int vomb, .ref vmd, .ref vmc, .int (-1), .int voct, .int vocy, .ref vmx, .int votx, .int vose, .ref vml, .ref vmwr, .int voln, .int vohw, .ref vmno, .int vond, .int voon, .int vowi, .int votop])), (vmn, .inl (cy 0, 575, .inl vmnf)), (vmd, .inl (cy 0, 10, .inl vmdf)), (vmc, .inl (cy 0, 10, .inl vmcf))] H := hP
        have hD : va_D A [(vo, .inr (12, [.int 0, .ref vmt, .int votp, .int vosz, .int volm, .int voto, .int vofr, .int vokd, .int vonu, .int vosg, .int vofa, .int vopl, .long vowd, .int votd, .ref vmn, .ref vmr, .ref vmk, .ref vms, .ref vma, .ref vmm, .ref vmrn, .ref vmkn, .ref vmik, .ref vmon, .int vosm, .int vohp, .ref vmw, .ref vmf, .ref vmb, .int vomb, .ref vmd, .ref vmc, .int (-1), .int voct, .int vocy, .ref vmx, .int votx, .int vose, .ref vml, .ref vmwr, .int voln, .int vohw, .ref vmno, .int vond, .int voon, .int vowi, .int votop])), (vmn, .inl (cy 0, 575, .inl vmnf)), (vmd, .inl (cy 0, 10, .inl vmdf)), (vmc, .inl (cy 0, 10, .inl vmcf))] := hD
        refine lv_aload_n hx hb dX11_career_44 rfl (lv_at hl 0 rfl) ?_
        refine lv_iconst (v := 0) hx hb dX11_career_45 (by decide) ?_
        refine pf_X11_325 hx hb hts hown hK hP hD hS 0 rfl rfl rfl (Nat.le_of_ble_eq_true rfl) dX11_career_46 (fun H locs hP hD hS => ?_)
        have hP : va_P (dC, dI) vwCl [(vo, .inr (12, [.int 0, .ref vmt, .int votp, .int vosz, .int volm, .int voto, .int vofr, .int vokd, .int vonu, .int vosg, .int vofa, .int vopl, .long vowd, .int votd, .ref vmn, .ref vmr, .ref vmk, .ref vms, .ref vma, .ref vmm, .ref vmrn, .ref vmkn, .ref vmik, .ref vmon, .int vosm, .int vohp, .ref vmw, .ref vmf, .ref vmb, .int vomb, .ref vmd, .ref vmc, .int (-1), .int 0, .int vocy, .ref vmx, .int votx, .int vose, .ref vml, .ref vmwr, .int voln, .int vohw, .ref vmno, .int vond, .int voon, .int vowi, .int votop])), (vmn, .inl (cy 0, 575, .inl vmnf)), (vmd, .inl (cy 0, 10, .inl vmdf)), (vmc, .inl (cy 0, 10, .inl vmcf))] H := hP
        have hD : va_D A [(vo, .inr (12, [.int 0, .ref vmt, .int votp, .int vosz, .int volm, .int voto, .int vofr, .int vokd, .int vonu, .int vosg, .int vofa, .int vopl, .long vowd, .int votd, .ref vmn, .ref vmr, .ref vmk, .ref vms, .ref vma, .ref vmm, .ref vmrn, .ref vmkn, .ref vmik, .ref vmon, .int vosm, .int vohp, .ref vmw, .ref vmf, .ref vmb, .int vomb, .ref vmd, .ref vmc, .int (-1), .int 0, .int vocy, .ref vmx, .int votx, .int vose, .ref vml, .ref vmwr, .int voln, .int vohw, .ref vmno, .int vond, .int voon, .int vowi, .int votop])), (vmn, .inl (cy 0, 575, .inl vmnf)), (vmd, .inl (cy 0, 10, .inl vmdf)), (vmc, .inl (cy 0, 10, .inl vmcf))] := hD
        refine lv_aload_n hx hb dX11_career_49 rfl (lv_at hl 0 rfl) ?_
        refine lv_iload_n hx hb dX11_career_50 rfl (lv_at hl 1 rfl) ?_
        refine lv_iconst (v := 0) hx hb dX11_career_51 (by decide) ?_
        refine lv_iload_n hx hb dX11_career_52 rfl (lv_at hl 2 rfl) ?_
        refine lv_iconst (v := 0) hx hb dX11_career_53 (by decide) ?_
        refine lv_aload_n hx hb dX11_career_54 rfl (lv_at hl 0 rfl) ?_
        refine lv_iload_n hx hb dX11_career_55 rfl (lv_at hl 1 rfl) ?_
        have k_m1 : ((-1) : Int32).toInt = (-1) := by decide
        refine jr_i (rVr (As := [.int vm]) (rest := [.int 0, .int vk, .int 0, .int vm, .ref vo]) (ci := 12) ⟨hx, hb, hml, hown, hts⟩ (m_allOf l dC dI cy vnh vo 0 vmt votp vosz volm voto vofr vokd vonu vosg vofa vopl vowd votd vmn vmr vmk vms vma vmm vmrn vmkn vmik vmon vosm vohp vmw vmf vmb vomb vmd vmc (-1) 0 vocy vmx votx vose vml vmwr voln vohw vmno vond voon vowi votop vmnf vm ⟨by omega, by omega⟩ p_vmnf) (cw_X11_247 hts rfl rfl ⟨Nat.le_of_ble_eq_true rfl, Nat.le_of_ble_eq_true rfl⟩) hP hK [0, 1] rfl rfl rfl rfl hl.1 rfl (Nat.le_of_ble_eq_true rfl) dX11_career_56 ⟨Nat.le_of_ble_eq_true rfl, Nat.le_of_ble_eq_true rfl⟩) hP hS (fun r_12 H locs hp_13 hP hS => ?_)
        refine jn_v (wr := []) (rV (As := [.int vm, .int 0, .int vk, .int 0, .int r_12]) (rest := []) (ci := 12) ⟨hx, hb, hml, hown, hts⟩ (m_careerFrom_0 l dC dI cy _ vnh vo 0 vmt votp vosz volm voto vofr vokd vonu vosg vofa vopl vowd votd vmn vmr vmk vms vma vmm vmrn vmkn vmik vmon vosm vohp vmw vmf vmb vomb vmd vmc (-1) 0 vocy vmx votx vose vml vmwr voln vohw vmno vond voon vowi votop vmnf vmdf vmcf vm vk 0 r_12 r_vocy ⟨by omega, by omega⟩ ⟨by omega, by omega⟩ p_vmnf (nw_ge1 p_vmnf)) (cw_X11_331 hts rfl rfl ⟨Nat.le_of_ble_eq_true rfl, Nat.le_of_ble_eq_true rfl⟩) hP hD hK [0, 1, 2, 3] rfl rfl rfl rfl bl0 e0 rfl hl.1 rfl (Nat.le_of_ble_eq_true rfl) dX11_career_59 ⟨Nat.le_of_ble_eq_true rfl, Nat.le_of_ble_eq_true rfl⟩) hP hD hS hA [0, 1, 2, 3] [] rfl rfl rfl (by decide) (fun u_16 H locs hp_15 hP hD hS => ?_)
        obtain ⟨vocm_17, voct_18, vmcf_19, vocy_20, vmdf_21⟩ := u_16
        have hp_15 : (0 ≤ (vocy_20 : Int32).toInt ∧ (vocy_20 : Int32).toInt ≤ 10) := hp_15
        have q_22 := hp_15
        have hP : va_P (dC, dI) vwCl [(vo, .inr (12, [.int 0, .ref vmt, .int votp, .int vosz, .int volm, .int voto, .int vofr, .int vokd, .int vonu, .int vosg, .int vofa, .int vopl, .long vowd, .int votd, .ref vmn, .ref vmr, .ref vmk, .ref vms, .ref vma, .ref vmm, .ref vmrn, .ref vmkn, .ref vmik, .ref vmon, .int vosm, .int vohp, .ref vmw, .ref vmf, .ref vmb, .int vomb, .ref vmd, .ref vmc, .int vocm_17, .int voct_18, .int vocy_20, .ref vmx, .int votx, .int vose, .ref vml, .ref vmwr, .int voln, .int vohw, .ref vmno, .int vond, .int voon, .int vowi, .int votop])), (vmn, .inl (cy 0, 575, .inl vmnf)), (vmd, .inl (cy 0, 10, .inl vmdf_21)), (vmc, .inl (cy 0, 10, .inl vmcf_19))] H := hP
        have hD : va_D A [(vo, .inr (12, [.int 0, .ref vmt, .int votp, .int vosz, .int volm, .int voto, .int vofr, .int vokd, .int vonu, .int vosg, .int vofa, .int vopl, .long vowd, .int votd, .ref vmn, .ref vmr, .ref vmk, .ref vms, .ref vma, .ref vmm, .ref vmrn, .ref vmkn, .ref vmik, .ref vmon, .int vosm, .int vohp, .ref vmw, .ref vmf, .ref vmb, .int vomb, .ref vmd, .ref vmc, .int vocm_17, .int voct_18, .int vocy_20, .ref vmx, .int votx, .int vose, .ref vml, .ref vmwr, .int voln, .int vohw, .ref vmno, .int vond, .int voon, .int vowi, .int votop])), (vmn, .inl (cy 0, 575, .inl vmnf)), (vmd, .inl (cy 0, 10, .inl vmdf_21)), (vmc, .inl (cy 0, 10, .inl vmcf_19))] := hD
        refine lv_aload_n hx hb dX11_career_62 rfl (lv_at hl 0 rfl) ?_
        refine gf_X11_322 hx hb hts hown hK hP 0 rfl rfl dX11_career_63 ?_
        rw [hQ9]
        exact re_i ((0 : Int32), vocm_17, voct_18, vmcf_19, vocy_20, vmdf_21) hx hb hr hlocks (show 0 ≤ (vocy_20 : Int32).toInt ∧ (vocy_20 : Int32).toInt ≤ 10 from ⟨by omega, by omega⟩) (hP.sub [0, 1, 2, 3] rfl) (hD.sub [0, 1, 2, 3] rfl rfl) hS dX11_career_66
      · skip
        have c_11 : ¬ (r_7.toInt ≤ z_10.toInt) := fun h9 => c_11 (i_le.mpr h9)
        refine lv_iconst (v := (-1)) hx hb dX11_career_37 (by decide) ?_
        have k_m1 : ((-1) : Int32).toInt = (-1) := by decide
        rw [hQ9]
        exact re_i ((0 : Int32), vocm, voct, vmcf, vocy, vmdf) hx hb hr hlocks (show 0 ≤ (vocy : Int32).toInt ∧ (vocy : Int32).toInt ≤ 10 from ⟨by omega, by omega⟩) (hP.sub [0, 1, 2, 3] rfl) (hD.sub [0, 1, 2, 3] rfl rfl) hS dX11_career_38
