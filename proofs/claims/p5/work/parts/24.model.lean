abbrev cX11_findIn : ByteArray := prog_13_method_28_code
def yX11_findIn : MethodName := ⟨RX11, "findIn", "([JIIJ)I"⟩
theorem t1648 : Cond.code yX11_findIn cX11_findIn 6 (some .int) ∈ GW := gw_mem 1762 (by decide +kernel) (by decide +kernel)
theorem dX11_findIn_0 : decode cX11_findIn 0 = .ok (.iconst 0, 1) := by decide +kernel
theorem dX11_findIn_1 : decode cX11_findIn 1 = .ok (.istore 5, 2) := by decide +kernel
theorem dX11_findIn_3 : decode cX11_findIn 3 = .ok (.iload 5, 2) := by decide +kernel
theorem dX11_findIn_5 : decode cX11_findIn 5 = .ok (.iload_n 2, 1) := by decide +kernel
theorem dX11_findIn_6 : decode cX11_findIn 6 = .ok (.if_icmp .ge 23, 3) := by decide +kernel
theorem dX11_findIn_29 : decode cX11_findIn 29 = .ok (.iconst (-1), 1) := by decide +kernel
theorem dX11_findIn_30 : decode cX11_findIn 30 = .ok (.ireturn, 1) := by decide +kernel
theorem dX11_findIn_9 : decode cX11_findIn 9 = .ok (.aload_n 0, 1) := by decide +kernel
theorem dX11_findIn_10 : decode cX11_findIn 10 = .ok (.iload_n 1, 1) := by decide +kernel
theorem dX11_findIn_11 : decode cX11_findIn 11 = .ok (.iload 5, 2) := by decide +kernel
theorem dX11_findIn_13 : decode cX11_findIn 13 = .ok (.iadd, 1) := by decide +kernel
theorem dX11_findIn_14 : decode cX11_findIn 14 = .ok (.laload, 1) := by decide +kernel
theorem dX11_findIn_15 : decode cX11_findIn 15 = .ok (.lload_n 3, 1) := by decide +kernel
theorem dX11_findIn_16 : decode cX11_findIn 16 = .ok (.lcmp, 1) := by decide +kernel
theorem dX11_findIn_17 : decode cX11_findIn 17 = .ok (.ifCond .ne 6, 3) := by decide +kernel
theorem dX11_findIn_23 : decode cX11_findIn 23 = .ok (.iinc 5 1, 3) := by decide +kernel
theorem dX11_findIn_26 : decode cX11_findIn 26 = .ok (.goto (-23), 3) := by decide +kernel
theorem dX11_findIn_20 : decode cX11_findIn 20 = .ok (.iload 5, 2) := by decide +kernel
theorem dX11_findIn_22 : decode cX11_findIn 22 = .ok (.ireturn, 1) := by decide +kernel
abbrev cX11_readNew : ByteArray := prog_13_method_29_code
def yX11_readNew : MethodName := ⟨RX11, "readNew", "(I)Z"⟩
theorem t1641 : Cond.code yX11_readNew cX11_readNew 2 (some .boolean) ∈ GW := gw_mem 1755 (by decide +kernel) (by decide +kernel)
theorem dX11_readNew_0 : decode cX11_readNew 0 = .ok (.aload_n 0, 1) := by decide +kernel
theorem dX11_readNew_1 : decode cX11_readNew 1 = .ok (.invokevirtual 163, 3) := by decide +kernel
theorem t1642 : Cond.methodLink RX11 163 yX11_isName ∈ GW := gw_mem 1756 (by decide +kernel) (by decide +kernel)
theorem t1644 : Cond.instanceMethod yX11_isName ∈ GW := gw_mem 1758 (by decide +kernel) (by decide +kernel)
theorem s50 : Cond.selects RX11 yX11_isName yX11_isName ∈ GW := gw_mem 50 (by decide +kernel) (by decide +kernel)
theorem cw_X11_163 {R : Room} {s : State} {args : Array Value} {rm : Room} {mc ms : Nat} (hts : ∀ w ∈ GW, w.before args s = true) (hrc : rm.cells = mc) (hrs : rm.slots = ms) (hR : rm.frames + 1 ≤ R.frames ∧ 8 + (2 + 11) + rm.locals ≤ R.locals) : CallW R s args RX11 RX11 163 yX11_isName cX11_isName 2 (some .boolean) (wl yX11_isName cX11_isName 2 (some .boolean)) rm mc ms 0 := cwV 0 hts (gi_V t1642 t1644 s50 t18 t1645) rfl hrc hrs (by decide +kernel) hR
theorem dX11_readNew_4 : decode cX11_readNew 4 = .ok (.ifCond .ne 9, 3) := by decide +kernel
theorem dX11_readNew_7 : decode cX11_readNew 7 = .ok (.aload_n 0, 1) := by decide +kernel
theorem dX11_readNew_8 : decode cX11_readNew 8 = .ok (.iconst 1, 1) := by decide +kernel
theorem dX11_readNew_9 : decode cX11_readNew 9 = .ok (.invokevirtual 72, 3) := by decide +kernel
theorem dX11_readNew_12 : decode cX11_readNew 12 = .ok (.ireturn, 1) := by decide +kernel
theorem dX11_readNew_13 : decode cX11_readNew 13 = .ok (.aload_n 0, 1) := by decide +kernel
theorem dX11_readNew_14 : decode cX11_readNew 14 = .ok (.getfield 117, 3) := by decide +kernel
theorem t1462 : Cond.fieldLink RX11 117 "LikenessPoundModel" "readName" "[J" ∈ GW := gw_mem 1576 (by decide +kernel) (by decide +kernel)
theorem gf_X11_117 {p : Program} {l : Launch} {e : Env} {R : Room} {s : State} {m : MethodId} {args : Array Value} {below : List Frame} {meth : Method} {c : Code} {H : Heap} {locs : List Loc} {cells slots : Nat} {Q : State → Prop} {cc : ByteArray} {pc : Nat} {ls : Array Slot} {rest : List Value} {D : va_G} {a : Nat} {tys : List (ClassId × FieldType)} {ws : va_W} (hx : p.tables.exec = Jvm.exec) (hb : c.code = cc) (hts : ∀ w ∈ GW, w.before args s = true) (hown : s.vm.findClass RX11 = some m.cls) (hK : va_K D vwCl tys s) (hP : va_P D vwCl ws H) (q0 : Nat) {fs : List Value} (he : ws[q0]? = some (a, .inr (12, fs))) {v : Value} (hv : fs[20]? = some v) (hdg : decode cc pc = .ok (.getfield 117, 3)) (kk : W p l e R s m args below meth c H locs cells slots Q (F0 m (pc + 3) ls (v :: rest))) : W p l e R s m args below meth c H locs cells slots Q (F0 m pc ls (.ref a :: rest)) := va_get (C := RX11) (T := TX11) (N := 47) (ci := 12) hx hb hts inX11 hown hK hP q0 he rfl 20 (by decide) (hts _ t1462) (fun _ h => h) hv hdg kk
theorem dX11_readNew_17 : decode cX11_readNew 17 = .ok (.iconst 0, 1) := by decide +kernel
theorem dX11_readNew_18 : decode cX11_readNew 18 = .ok (.aload_n 0, 1) := by decide +kernel
theorem dX11_readNew_19 : decode cX11_readNew 19 = .ok (.getfield 101, 3) := by decide +kernel
theorem t1457 : Cond.fieldLink RX11 101 "LikenessPoundModel" "read" "[I" ∈ GW := gw_mem 1571 (by decide +kernel) (by decide +kernel)
theorem gf_X11_101 {p : Program} {l : Launch} {e : Env} {R : Room} {s : State} {m : MethodId} {args : Array Value} {below : List Frame} {meth : Method} {c : Code} {H : Heap} {locs : List Loc} {cells slots : Nat} {Q : State → Prop} {cc : ByteArray} {pc : Nat} {ls : Array Slot} {rest : List Value} {D : va_G} {a : Nat} {tys : List (ClassId × FieldType)} {ws : va_W} (hx : p.tables.exec = Jvm.exec) (hb : c.code = cc) (hts : ∀ w ∈ GW, w.before args s = true) (hown : s.vm.findClass RX11 = some m.cls) (hK : va_K D vwCl tys s) (hP : va_P D vwCl ws H) (q0 : Nat) {fs : List Value} (he : ws[q0]? = some (a, .inr (12, fs))) {v : Value} (hv : fs[15]? = some v) (hdg : decode cc pc = .ok (.getfield 101, 3)) (kk : W p l e R s m args below meth c H locs cells slots Q (F0 m (pc + 3) ls (v :: rest))) : W p l e R s m args below meth c H locs cells slots Q (F0 m pc ls (.ref a :: rest)) := va_get (C := RX11) (T := TX11) (N := 47) (ci := 12) hx hb hts inX11 hown hK hP q0 he rfl 15 (by decide) (hts _ t1457) (fun _ h => h) hv hdg kk
theorem dX11_readNew_22 : decode cX11_readNew 22 = .ok (.iconst 0, 1) := by decide +kernel
theorem dX11_readNew_23 : decode cX11_readNew 23 = .ok (.iaload, 1) := by decide +kernel
theorem dX11_readNew_24 : decode cX11_readNew 24 = .ok (.aload_n 0, 1) := by decide +kernel
theorem dX11_readNew_25 : decode cX11_readNew 25 = .ok (.getfield 43, 3) := by decide +kernel
theorem dX11_readNew_28 : decode cX11_readNew 28 = .ok (.invokestatic 167, 3) := by decide +kernel
theorem t1646 : Cond.methodLink RX11 167 yX11_findIn ∈ GW := gw_mem 1760 (by decide +kernel) (by decide +kernel)
theorem t1647 : Cond.static yX11_findIn ∈ GW := gw_mem 1761 (by decide +kernel) (by decide +kernel)
theorem cw_X11_167 {R : Room} {s : State} {args : Array Value} {rm : Room} {mc ms : Nat} (hts : ∀ w ∈ GW, w.before args s = true) (hrc : rm.cells = mc) (hrs : rm.slots = ms) (hR : rm.frames + 1 ≤ R.frames ∧ 8 + (6 + 11) + rm.locals ≤ R.locals) : CallB R s args RX11 167 yX11_findIn cX11_findIn 6 (some .int) (wl yX11_findIn cX11_findIn 6 (some .int)) rm mc ms 4 ∧ (Cond.static yX11_findIn).before args s = true := va_cwS 4 hts (gi_S t1646 t1647 t18 t1648) rfl hrc hrs (by decide +kernel) hR
theorem dX11_readNew_31 : decode cX11_readNew 31 = .ok (.iconst (-1), 1) := by decide +kernel
theorem dX11_readNew_32 : decode cX11_readNew 32 = .ok (.if_icmp .ne 26, 3) := by decide +kernel
theorem dX11_readNew_58 : decode cX11_readNew 58 = .ok (.aload_n 0, 1) := by decide +kernel
theorem dX11_readNew_59 : decode cX11_readNew 59 = .ok (.iconst 3, 1) := by decide +kernel
theorem dX11_readNew_60 : decode cX11_readNew 60 = .ok (.invokevirtual 72, 3) := by decide +kernel
theorem dX11_readNew_63 : decode cX11_readNew 63 = .ok (.ireturn, 1) := by decide +kernel
theorem dX11_readNew_35 : decode cX11_readNew 35 = .ok (.aload_n 0, 1) := by decide +kernel
theorem dX11_readNew_36 : decode cX11_readNew 36 = .ok (.getfield 117, 3) := by decide +kernel
theorem dX11_readNew_39 : decode cX11_readNew 39 = .ok (.bipush 7, 2) := by decide +kernel
theorem dX11_readNew_41 : decode cX11_readNew 41 = .ok (.aload_n 0, 1) := by decide +kernel
theorem dX11_readNew_42 : decode cX11_readNew 42 = .ok (.getfield 101, 3) := by decide +kernel
theorem dX11_readNew_45 : decode cX11_readNew 45 = .ok (.iconst 1, 1) := by decide +kernel
theorem dX11_readNew_46 : decode cX11_readNew 46 = .ok (.iaload, 1) := by decide +kernel
theorem dX11_readNew_47 : decode cX11_readNew 47 = .ok (.aload_n 0, 1) := by decide +kernel
theorem dX11_readNew_48 : decode cX11_readNew 48 = .ok (.getfield 43, 3) := by decide +kernel
theorem dX11_readNew_51 : decode cX11_readNew 51 = .ok (.invokestatic 167, 3) := by decide +kernel
theorem dX11_readNew_54 : decode cX11_readNew 54 = .ok (.iconst (-1), 1) := by decide +kernel
theorem dX11_readNew_55 : decode cX11_readNew 55 = .ok (.if_icmp .eq 9, 3) := by decide +kernel
theorem dX11_readNew_64 : decode cX11_readNew 64 = .ok (.aload_n 0, 1) := by decide +kernel
theorem dX11_readNew_65 : decode cX11_readNew 65 = .ok (.getfield 117, 3) := by decide +kernel
theorem dX11_readNew_68 : decode cX11_readNew 68 = .ok (.iload_n 1, 1) := by decide +kernel
theorem dX11_readNew_69 : decode cX11_readNew 69 = .ok (.aload_n 0, 1) := by decide +kernel
theorem dX11_readNew_70 : decode cX11_readNew 70 = .ok (.getfield 43, 3) := by decide +kernel
theorem dX11_readNew_73 : decode cX11_readNew 73 = .ok (.lastore, 1) := by decide +kernel
theorem dX11_readNew_74 : decode cX11_readNew 74 = .ok (.aload_n 0, 1) := by decide +kernel
theorem dX11_readNew_75 : decode cX11_readNew 75 = .ok (.invokevirtual 82, 3) := by decide +kernel
theorem dX11_readNew_78 : decode cX11_readNew 78 = .ok (.iconst 1, 1) := by decide +kernel
theorem dX11_readNew_79 : decode cX11_readNew 79 = .ok (.ireturn, 1) := by decide +kernel
abbrev cX11_isOne : ByteArray := prog_13_method_30_code
def yX11_isOne : MethodName := ⟨RX11, "isOne", "(II)Z"⟩
theorem t1671 : Cond.code yX11_isOne cX11_isOne 3 (some .boolean) ∈ GW := gw_mem 1785 (by decide +kernel) (by decide +kernel)
theorem dX11_isOne_0 : decode cX11_isOne 0 = .ok (.aload_n 0, 1) := by decide +kernel
theorem dX11_isOne_1 : decode cX11_isOne 1 = .ok (.invokevirtual 163, 3) := by decide +kernel
theorem dX11_isOne_4 : decode cX11_isOne 4 = .ok (.ifCond .ne 9, 3) := by decide +kernel
theorem dX11_isOne_7 : decode cX11_isOne 7 = .ok (.aload_n 0, 1) := by decide +kernel
theorem dX11_isOne_8 : decode cX11_isOne 8 = .ok (.iconst 1, 1) := by decide +kernel
theorem dX11_isOne_9 : decode cX11_isOne 9 = .ok (.invokevirtual 72, 3) := by decide +kernel
theorem dX11_isOne_12 : decode cX11_isOne 12 = .ok (.ireturn, 1) := by decide +kernel
theorem dX11_isOne_13 : decode cX11_isOne 13 = .ok (.aload_n 0, 1) := by decide +kernel
theorem dX11_isOne_14 : decode cX11_isOne 14 = .ok (.aload_n 0, 1) := by decide +kernel
theorem dX11_isOne_15 : decode cX11_isOne 15 = .ok (.getfield 117, 3) := by decide +kernel
theorem dX11_isOne_18 : decode cX11_isOne 18 = .ok (.iload_n 1, 1) := by decide +kernel
theorem dX11_isOne_19 : decode cX11_isOne 19 = .ok (.iload_n 2, 1) := by decide +kernel
theorem dX11_isOne_20 : decode cX11_isOne 20 = .ok (.aload_n 0, 1) := by decide +kernel
theorem dX11_isOne_21 : decode cX11_isOne 21 = .ok (.getfield 43, 3) := by decide +kernel
theorem dX11_isOne_24 : decode cX11_isOne 24 = .ok (.invokestatic 167, 3) := by decide +kernel
theorem dX11_isOne_27 : decode cX11_isOne 27 = .ok (.putfield 79, 3) := by decide +kernel
theorem dX11_isOne_30 : decode cX11_isOne 30 = .ok (.aload_n 0, 1) := by decide +kernel
theorem dX11_isOne_31 : decode cX11_isOne 31 = .ok (.getfield 79, 3) := by decide +kernel
theorem gf_X11_79 {p : Program} {l : Launch} {e : Env} {R : Room} {s : State} {m : MethodId} {args : Array Value} {below : List Frame} {meth : Method} {c : Code} {H : Heap} {locs : List Loc} {cells slots : Nat} {Q : State → Prop} {cc : ByteArray} {pc : Nat} {ls : Array Slot} {rest : List Value} {D : va_G} {a : Nat} {tys : List (ClassId × FieldType)} {ws : va_W} (hx : p.tables.exec = Jvm.exec) (hb : c.code = cc) (hts : ∀ w ∈ GW, w.before args s = true) (hown : s.vm.findClass RX11 = some m.cls) (hK : va_K D vwCl tys s) (hP : va_P D vwCl ws H) (q0 : Nat) {fs : List Value} (he : ws[q0]? = some (a, .inr (12, fs))) {v : Value} (hv : fs[13]? = some v) (hdg : decode cc pc = .ok (.getfield 79, 3)) (kk : W p l e R s m args below meth c H locs cells slots Q (F0 m (pc + 3) ls (v :: rest))) : W p l e R s m args below meth c H locs cells slots Q (F0 m pc ls (.ref a :: rest)) := va_get (C := RX11) (T := TX11) (N := 47) (ci := 12) hx hb hts inX11 hown hK hP q0 he rfl 13 (by decide) (hts _ t1455) (fun _ h => h) hv hdg kk
theorem dX11_isOne_34 : decode cX11_isOne 34 = .ok (.iconst (-1), 1) := by decide +kernel
theorem dX11_isOne_35 : decode cX11_isOne 35 = .ok (.if_icmp .ne 11, 3) := by decide +kernel
theorem dX11_isOne_46 : decode cX11_isOne 46 = .ok (.iconst 1, 1) := by decide +kernel
theorem dX11_isOne_47 : decode cX11_isOne 47 = .ok (.goto 4, 3) := by decide +kernel
theorem dX11_isOne_51 : decode cX11_isOne 51 = .ok (.ireturn, 1) := by decide +kernel
theorem dX11_isOne_38 : decode cX11_isOne 38 = .ok (.aload_n 0, 1) := by decide +kernel
theorem dX11_isOne_39 : decode cX11_isOne 39 = .ok (.iconst 3, 1) := by decide +kernel
theorem dX11_isOne_40 : decode cX11_isOne 40 = .ok (.invokevirtual 72, 3) := by decide +kernel
theorem dX11_isOne_43 : decode cX11_isOne 43 = .ok (.ifCond .eq 7, 3) := by decide +kernel
theorem dX11_isOne_50 : decode cX11_isOne 50 = .ok (.iconst 0, 1) := by decide +kernel
abbrev cX11_readFirst : ByteArray := prog_13_method_31_code
def yX11_readFirst : MethodName := ⟨RX11, "readFirst", "(II)Z"⟩
theorem t1633 : Cond.code yX11_readFirst cX11_readFirst 3 (some .boolean) ∈ GW := gw_mem 1747 (by decide +kernel) (by decide +kernel)
theorem dX11_readFirst_0 : decode cX11_readFirst 0 = .ok (.aload_n 0, 1) := by decide +kernel
theorem dX11_readFirst_1 : decode cX11_readFirst 1 = .ok (.getfield 101, 3) := by decide +kernel
theorem dX11_readFirst_4 : decode cX11_readFirst 4 = .ok (.iload_n 1, 1) := by decide +kernel
theorem dX11_readFirst_5 : decode cX11_readFirst 5 = .ok (.iaload, 1) := by decide +kernel
theorem dX11_readFirst_6 : decode cX11_readFirst 6 = .ok (.iload_n 2, 1) := by decide +kernel
theorem dX11_readFirst_7 : decode cX11_readFirst 7 = .ok (.if_icmp .ne 9, 3) := by decide +kernel
theorem dX11_readFirst_16 : decode cX11_readFirst 16 = .ok (.aload_n 0, 1) := by decide +kernel
theorem dX11_readFirst_17 : decode cX11_readFirst 17 = .ok (.invokevirtual 82, 3) := by decide +kernel
theorem dX11_readFirst_20 : decode cX11_readFirst 20 = .ok (.iconst 1, 1) := by decide +kernel
theorem dX11_readFirst_21 : decode cX11_readFirst 21 = .ok (.ireturn, 1) := by decide +kernel
theorem dX11_readFirst_10 : decode cX11_readFirst 10 = .ok (.aload_n 0, 1) := by decide +kernel
theorem dX11_readFirst_11 : decode cX11_readFirst 11 = .ok (.iconst 4, 1) := by decide +kernel
theorem dX11_readFirst_12 : decode cX11_readFirst 12 = .ok (.invokevirtual 72, 3) := by decide +kernel
theorem dX11_readFirst_15 : decode cX11_readFirst 15 = .ok (.ireturn, 1) := by decide +kernel
abbrev cX11_put : ByteArray := prog_13_method_32_code
def yX11_put : MethodName := ⟨RX11, "put", "(IZ)Z"⟩
theorem t1659 : Cond.code yX11_put cX11_put 3 (some .boolean) ∈ GW := gw_mem 1773 (by decide +kernel) (by decide +kernel)
theorem dX11_put_0 : decode cX11_put 0 = .ok (.iload_n 2, 1) := by decide +kernel
theorem dX11_put_1 : decode cX11_put 1 = .ok (.ifCond .eq 13, 3) := by decide +kernel
theorem dX11_put_14 : decode cX11_put 14 = .ok (.iload_n 2, 1) := by decide +kernel
theorem dX11_put_15 : decode cX11_put 15 = .ok (.ireturn, 1) := by decide +kernel
set_option maxHeartbeats 4000000 in
set_option maxRecDepth 100000 in
theorem m_put_0 (l : Launch) (dC : Nat → ClassId) (dI : Nat → Nat → Nat) (cy : Nat → ClassId) (vo : Nat) (voth : Int32) (vmt : Nat) (votp : Int32) (vosz : Int32) (volm : Int32) (voto : Int32) (vofr : Int32) (vokd : Int32) (vonu : Int32) (vosg : Int32) (vofa : Int32) (vopl : Int32) (vowd : Int64) (votd : Int32) (vmn : Nat) (vmr : Nat) (vmk : Nat) (vms : Nat) (vma : Nat) (vmm : Nat) (vmrn : Nat) (vmkn : Nat) (vmik : Nat) (vmon : Nat) (vosm : Int32) (vohp : Int32) (vmw : Nat) (vmf : Nat) (vmb : Nat) (vomb : Int32) (vmd : Nat) (vmc : Nat) (vocm : Int32) (voct : Int32) (vocy : Int32) (vmx : Nat) (votx : Int32) (vose : Int32) (vml : Nat) (vmwr : Nat) (voln : Int32) (vohw : Int32) (vmno : Nat) (vond : Int32) (voon : Int32) (vowi : Int32) (votop : Int32) (vat : Int32)  : Met l yX11_put (wl yX11_put cX11_put 3 (some .boolean)) ({ frames := 0, cells := 0, slots := 0, locals := 0 }) (Pr (dC, dI) vwCl cy [(vo, .inr (12, [.int voth, .ref vmt, .int votp, .int vosz, .int volm, .int voto, .int vofr, .int vokd, .int vonu, .int vosg, .int vofa, .int vopl, .long vowd, .int votd, .ref vmn, .ref vmr, .ref vmk, .ref vms, .ref vma, .ref vmm, .ref vmrn, .ref vmkn, .ref vmik, .ref vmon, .int vosm, .int vohp, .ref vmw, .ref vmf, .ref vmb, .int vomb, .ref vmd, .ref vmc, .int vocm, .int voct, .int vocy, .ref vmx, .int votx, .int vose, .ref vml, .ref vmwr, .int voln, .int vohw, .ref vmno, .int vond, .int voon, .int vowi, .int votop]))] [.ref vo, .int vat, .int 0]) (Ri (fun r => ((r = 0)))) 0 0 (fun _ => False) := by
  refine mr RX11 rfl (by decide +kernel) (Nat.le_of_ble_eq_true rfl) ?_
  intro p e s m below meth c hx hb hr hlocks av9 hav hts hown hml hK hP hS Q9 hQ9 ls hl
  have hl : lv_has ls 3 [(0, .ref vo), (1, .int vat), (2, .int 0)] := hl
  refine lv_iload_n hx hb dX11_put_0 rfl (lv_at hl 2 rfl) ?_
  refine lv_if_eq (tgt := 14) hx hb dX11_put_1 (by decide) (fun _ => ?_) (fun c9 => absurd (by decide) c9)
  refine lv_iload_n hx hb dX11_put_14 rfl (lv_at hl 2 rfl) ?_
  have k_0 : (0 : Int32).toInt = 0 := by decide
  rw [hQ9]
  exact rr_z hx hb hr hlocks (Or.inl rfl) (show ((0 : Int32) = 0) from (rfl)) hS dX11_put_15
theorem dX11_put_4 : decode cX11_put 4 = .ok (.aload_n 0, 1) := by decide +kernel
theorem dX11_put_5 : decode cX11_put 5 = .ok (.getfield 101, 3) := by decide +kernel
theorem dX11_put_8 : decode cX11_put 8 = .ok (.iload_n 1, 1) := by decide +kernel
theorem dX11_put_9 : decode cX11_put 9 = .ok (.aload_n 0, 1) := by decide +kernel
theorem dX11_put_10 : decode cX11_put 10 = .ok (.getfield 79, 3) := by decide +kernel
theorem dX11_put_13 : decode cX11_put 13 = .ok (.iastore, 1) := by decide +kernel
abbrev cX11_readMan : ByteArray := prog_13_method_33_code
def yX11_readMan : MethodName := ⟨RX11, "readMan", "()Z"⟩
theorem t1629 : Cond.code yX11_readMan cX11_readMan 2 (some .boolean) ∈ GW := gw_mem 1743 (by decide +kernel) (by decide +kernel)
theorem dX11_readMan_0 : decode cX11_readMan 0 = .ok (.aload_n 0, 1) := by decide +kernel
theorem dX11_readMan_1 : decode cX11_readMan 1 = .ok (.iconst 0, 1) := by decide +kernel
theorem dX11_readMan_2 : decode cX11_readMan 2 = .ok (.bipush 7, 2) := by decide +kernel
theorem dX11_readMan_4 : decode cX11_readMan 4 = .ok (.invokevirtual 171, 3) := by decide +kernel
theorem t1630 : Cond.methodLink RX11 171 yX11_readFirst ∈ GW := gw_mem 1744 (by decide +kernel) (by decide +kernel)
theorem t1632 : Cond.instanceMethod yX11_readFirst ∈ GW := gw_mem 1746 (by decide +kernel) (by decide +kernel)
theorem s47 : Cond.selects RX11 yX11_readFirst yX11_readFirst ∈ GW := gw_mem 47 (by decide +kernel) (by decide +kernel)
theorem cw_X11_171 {R : Room} {s : State} {args : Array Value} {rm : Room} {mc ms : Nat} (hts : ∀ w ∈ GW, w.before args s = true) (hrc : rm.cells = mc) (hrs : rm.slots = ms) (hR : rm.frames + 1 ≤ R.frames ∧ 8 + (3 + 11) + rm.locals ≤ R.locals) : CallW R s args RX11 RX11 171 yX11_readFirst cX11_readFirst 3 (some .boolean) (wl yX11_readFirst cX11_readFirst 3 (some .boolean)) rm mc ms 2 := cwV 2 hts (gi_V t1630 t1632 s47 t18 t1633) rfl hrc hrs (by decide +kernel) hR
theorem dX11_readMan_7 : decode cX11_readMan 7 = .ok (.ifCond .ne 5, 3) := by decide +kernel
theorem dX11_readMan_10 : decode cX11_readMan 10 = .ok (.iconst 0, 1) := by decide +kernel
theorem dX11_readMan_11 : decode cX11_readMan 11 = .ok (.ireturn, 1) := by decide +kernel
theorem dX11_readMan_12 : decode cX11_readMan 12 = .ok (.aload_n 0, 1) := by decide +kernel
theorem dX11_readMan_13 : decode cX11_readMan 13 = .ok (.getfield 101, 3) := by decide +kernel
theorem dX11_readMan_16 : decode cX11_readMan 16 = .ok (.iconst 0, 1) := by decide +kernel
theorem dX11_readMan_17 : decode cX11_readMan 17 = .ok (.iaload, 1) := by decide +kernel
theorem dX11_readMan_18 : decode cX11_readMan 18 = .ok (.istore_n 1, 1) := by decide +kernel
theorem dX11_readMan_19 : decode cX11_readMan 19 = .ok (.aload_n 0, 1) := by decide +kernel
theorem dX11_readMan_20 : decode cX11_readMan 20 = .ok (.iload_n 1, 1) := by decide +kernel
theorem dX11_readMan_21 : decode cX11_readMan 21 = .ok (.invokevirtual 175, 3) := by decide +kernel
theorem t1638 : Cond.methodLink RX11 175 yX11_readNew ∈ GW := gw_mem 1752 (by decide +kernel) (by decide +kernel)
theorem t1640 : Cond.instanceMethod yX11_readNew ∈ GW := gw_mem 1754 (by decide +kernel) (by decide +kernel)
theorem s49 : Cond.selects RX11 yX11_readNew yX11_readNew ∈ GW := gw_mem 49 (by decide +kernel) (by decide +kernel)
theorem cw_X11_175 {R : Room} {s : State} {args : Array Value} {rm : Room} {mc ms : Nat} (hts : ∀ w ∈ GW, w.before args s = true) (hrc : rm.cells = mc) (hrs : rm.slots = ms) (hR : rm.frames + 1 ≤ R.frames ∧ 8 + (2 + 11) + rm.locals ≤ R.locals) : CallW R s args RX11 RX11 175 yX11_readNew cX11_readNew 2 (some .boolean) (wl yX11_readNew cX11_readNew 2 (some .boolean)) rm mc ms 1 := cwV 1 hts (gi_V t1638 t1640 s49 t18 t1641) rfl hrc hrs (by decide +kernel) hR
theorem dX11_readMan_24 : decode cX11_readMan 24 = .ok (.ifCond .eq 20, 3) := by decide +kernel
theorem dX11_readMan_44 : decode cX11_readMan 44 = .ok (.iconst 0, 1) := by decide +kernel
theorem dX11_readMan_45 : decode cX11_readMan 45 = .ok (.ireturn, 1) := by decide +kernel
theorem dX11_readMan_27 : decode cX11_readMan 27 = .ok (.aload_n 0, 1) := by decide +kernel
theorem dX11_readMan_28 : decode cX11_readMan 28 = .ok (.iconst 4, 1) := by decide +kernel
theorem dX11_readMan_29 : decode cX11_readMan 29 = .ok (.iload_n 1, 1) := by decide +kernel
theorem dX11_readMan_30 : decode cX11_readMan 30 = .ok (.iadd, 1) := by decide +kernel
theorem dX11_readMan_31 : decode cX11_readMan 31 = .ok (.aload_n 0, 1) := by decide +kernel
theorem dX11_readMan_32 : decode cX11_readMan 32 = .ok (.iconst 0, 1) := by decide +kernel
theorem dX11_readMan_33 : decode cX11_readMan 33 = .ok (.bipush 90, 2) := by decide +kernel
theorem dX11_readMan_35 : decode cX11_readMan 35 = .ok (.invokevirtual 178, 3) := by decide +kernel
theorem t1649 : Cond.methodLink RX11 178 yX11_readNumber ∈ GW := gw_mem 1763 (by decide +kernel) (by decide +kernel)
theorem t1651 : Cond.instanceMethod yX11_readNumber ∈ GW := gw_mem 1765 (by decide +kernel) (by decide +kernel)
theorem s51 : Cond.selects RX11 yX11_readNumber yX11_readNumber ∈ GW := gw_mem 51 (by decide +kernel) (by decide +kernel)
theorem cw_X11_178 {R : Room} {s : State} {args : Array Value} {rm : Room} {mc ms : Nat} (hts : ∀ w ∈ GW, w.before args s = true) (hrc : rm.cells = mc) (hrs : rm.slots = ms) (hR : rm.frames + 1 ≤ R.frames ∧ 8 + (3 + 11) + rm.locals ≤ R.locals) : CallW R s args RX11 RX11 178 yX11_readNumber cX11_readNumber 3 (some .boolean) (wl yX11_readNumber cX11_readNumber 3 (some .boolean)) rm mc ms 2 := cwV 2 hts (gi_V t1649 t1651 s51 t18 t1652) rfl hrc hrs (by decide +kernel) hR
theorem dX11_readMan_38 : decode cX11_readMan 38 = .ok (.invokevirtual 181, 3) := by decide +kernel
theorem t1656 : Cond.methodLink RX11 181 yX11_put ∈ GW := gw_mem 1770 (by decide +kernel) (by decide +kernel)
theorem t1658 : Cond.instanceMethod yX11_put ∈ GW := gw_mem 1772 (by decide +kernel) (by decide +kernel)
theorem s52 : Cond.selects RX11 yX11_put yX11_put ∈ GW := gw_mem 52 (by decide +kernel) (by decide +kernel)
theorem cw_X11_181 {R : Room} {s : State} {args : Array Value} {rm : Room} {mc ms : Nat} (hts : ∀ w ∈ GW, w.before args s = true) (hrc : rm.cells = mc) (hrs : rm.slots = ms) (hR : rm.frames + 1 ≤ R.frames ∧ 8 + (3 + 11) + rm.locals ≤ R.locals) : CallW R s args RX11 RX11 181 yX11_put cX11_put 3 (some .boolean) (wl yX11_put cX11_put 3 (some .boolean)) rm mc ms 2 := cwV 2 hts (gi_V t1656 t1658 s52 t18 t1659) rfl hrc hrs (by decide +kernel) hR
theorem dX11_readMan_41 : decode cX11_readMan 41 = .ok (.ifCond .ne 5, 3) := by decide +kernel
theorem dX11_readMan_46 : decode cX11_readMan 46 = .ok (.aload_n 0, 1) := by decide +kernel
theorem dX11_readMan_47 : decode cX11_readMan 47 = .ok (.getfield 101, 3) := by decide +kernel
theorem dX11_readMan_50 : decode cX11_readMan 50 = .ok (.iconst 0, 1) := by decide +kernel
theorem dX11_readMan_51 : decode cX11_readMan 51 = .ok (.dup2, 1) := by decide +kernel
theorem dX11_readMan_52 : decode cX11_readMan 52 = .ok (.iaload, 1) := by decide +kernel
theorem dX11_readMan_53 : decode cX11_readMan 53 = .ok (.iconst 1, 1) := by decide +kernel
theorem dX11_readMan_54 : decode cX11_readMan 54 = .ok (.iadd, 1) := by decide +kernel
theorem dX11_readMan_55 : decode cX11_readMan 55 = .ok (.iastore, 1) := by decide +kernel
theorem dX11_readMan_56 : decode cX11_readMan 56 = .ok (.iconst 1, 1) := by decide +kernel
theorem dX11_readMan_57 : decode cX11_readMan 57 = .ok (.ireturn, 1) := by decide +kernel
abbrev cX11_readDeed : ByteArray := prog_13_method_34_code
def yX11_readDeed : MethodName := ⟨RX11, "readDeed", "()Z"⟩
theorem t1663 : Cond.code yX11_readDeed cX11_readDeed 2 (some .boolean) ∈ GW := gw_mem 1777 (by decide +kernel) (by decide +kernel)
theorem dX11_readDeed_0 : decode cX11_readDeed 0 = .ok (.aload_n 0, 1) := by decide +kernel
theorem dX11_readDeed_1 : decode cX11_readDeed 1 = .ok (.iconst 1, 1) := by decide +kernel
theorem dX11_readDeed_2 : decode cX11_readDeed 2 = .ok (.bipush 10, 2) := by decide +kernel
theorem dX11_readDeed_4 : decode cX11_readDeed 4 = .ok (.invokevirtual 171, 3) := by decide +kernel
theorem dX11_readDeed_7 : decode cX11_readDeed 7 = .ok (.ifCond .ne 5, 3) := by decide +kernel
theorem dX11_readDeed_10 : decode cX11_readDeed 10 = .ok (.iconst 0, 1) := by decide +kernel
theorem dX11_readDeed_11 : decode cX11_readDeed 11 = .ok (.ireturn, 1) := by decide +kernel
theorem dX11_readDeed_12 : decode cX11_readDeed 12 = .ok (.aload_n 0, 1) := by decide +kernel
theorem dX11_readDeed_13 : decode cX11_readDeed 13 = .ok (.getfield 101, 3) := by decide +kernel
theorem dX11_readDeed_16 : decode cX11_readDeed 16 = .ok (.iconst 1, 1) := by decide +kernel
theorem dX11_readDeed_17 : decode cX11_readDeed 17 = .ok (.iaload, 1) := by decide +kernel
theorem dX11_readDeed_18 : decode cX11_readDeed 18 = .ok (.istore_n 1, 1) := by decide +kernel
theorem dX11_readDeed_19 : decode cX11_readDeed 19 = .ok (.aload_n 0, 1) := by decide +kernel
theorem dX11_readDeed_20 : decode cX11_readDeed 20 = .ok (.bipush 7, 2) := by decide +kernel
theorem dX11_readDeed_22 : decode cX11_readDeed 22 = .ok (.iload_n 1, 1) := by decide +kernel
theorem dX11_readDeed_23 : decode cX11_readDeed 23 = .ok (.iadd, 1) := by decide +kernel
theorem dX11_readDeed_24 : decode cX11_readDeed 24 = .ok (.invokevirtual 175, 3) := by decide +kernel
theorem dX11_readDeed_27 : decode cX11_readDeed 27 = .ok (.ifCond .ne 5, 3) := by decide +kernel
theorem dX11_readDeed_30 : decode cX11_readDeed 30 = .ok (.iconst 0, 1) := by decide +kernel
theorem dX11_readDeed_31 : decode cX11_readDeed 31 = .ok (.ireturn, 1) := by decide +kernel
theorem dX11_readDeed_54 : decode cX11_readDeed 54 = .ok (.aload_n 0, 1) := by decide +kernel
theorem dX11_readDeed_55 : decode cX11_readDeed 55 = .ok (.getfield 101, 3) := by decide +kernel
theorem dX11_readDeed_58 : decode cX11_readDeed 58 = .ok (.bipush 21, 2) := by decide +kernel
theorem dX11_readDeed_60 : decode cX11_readDeed 60 = .ok (.iload_n 1, 1) := by decide +kernel
theorem dX11_readDeed_61 : decode cX11_readDeed 61 = .ok (.iadd, 1) := by decide +kernel
theorem dX11_readDeed_62 : decode cX11_readDeed 62 = .ok (.aload_n 0, 1) := by decide +kernel
theorem dX11_readDeed_63 : decode cX11_readDeed 63 = .ok (.iconst 3, 1) := by decide +kernel
theorem dX11_readDeed_64 : decode cX11_readDeed 64 = .ok (.invokevirtual 185, 3) := by decide +kernel
theorem t1616 : Cond.methodLink RX11 185 yX11_isWord ∈ GW := gw_mem 1730 (by decide +kernel) (by decide +kernel)
theorem t1618 : Cond.instanceMethod yX11_isWord ∈ GW := gw_mem 1732 (by decide +kernel) (by decide +kernel)
theorem s45 : Cond.selects RX11 yX11_isWord yX11_isWord ∈ GW := gw_mem 45 (by decide +kernel) (by decide +kernel)
theorem cw_X11_185 {R : Room} {s : State} {args : Array Value} {rm : Room} {mc ms : Nat} (hts : ∀ w ∈ GW, w.before args s = true) (hrc : rm.cells = mc) (hrs : rm.slots = ms) (hR : rm.frames + 1 ≤ R.frames ∧ 8 + (2 + 11) + rm.locals ≤ R.locals) : CallW R s args RX11 RX11 185 yX11_isWord cX11_isWord 2 (some .boolean) (wl yX11_isWord cX11_isWord 2 (some .boolean)) rm mc ms 1 := cwV 1 hts (gi_V t1616 t1618 s45 t18 t1619) rfl hrc hrs (by decide +kernel) hR
theorem dX11_readDeed_67 : decode cX11_readDeed 67 = .ok (.ifCond .eq 7, 3) := by decide +kernel
theorem dX11_readDeed_74 : decode cX11_readDeed 74 = .ok (.iconst 0, 1) := by decide +kernel
theorem dX11_readDeed_75 : decode cX11_readDeed 75 = .ok (.iastore, 1) := by decide +kernel
theorem dX11_readDeed_76 : decode cX11_readDeed 76 = .ok (.aload_n 0, 1) := by decide +kernel
theorem dX11_readDeed_77 : decode cX11_readDeed 77 = .ok (.invokevirtual 82, 3) := by decide +kernel
theorem dX11_readDeed_80 : decode cX11_readDeed 80 = .ok (.aload_n 0, 1) := by decide +kernel
theorem dX11_readDeed_81 : decode cX11_readDeed 81 = .ok (.bipush 11, 2) := by decide +kernel
theorem dX11_readDeed_83 : decode cX11_readDeed 83 = .ok (.iload_n 1, 1) := by decide +kernel
theorem dX11_readDeed_84 : decode cX11_readDeed 84 = .ok (.iadd, 1) := by decide +kernel
theorem dX11_readDeed_85 : decode cX11_readDeed 85 = .ok (.aload_n 0, 1) := by decide +kernel
theorem dX11_readDeed_86 : decode cX11_readDeed 86 = .ok (.iconst 1, 1) := by decide +kernel
theorem dX11_readDeed_87 : decode cX11_readDeed 87 = .ok (.bipush 40, 2) := by decide +kernel
theorem dX11_readDeed_89 : decode cX11_readDeed 89 = .ok (.invokevirtual 178, 3) := by decide +kernel
theorem dX11_readDeed_92 : decode cX11_readDeed 92 = .ok (.invokevirtual 181, 3) := by decide +kernel
theorem dX11_readDeed_95 : decode cX11_readDeed 95 = .ok (.ifCond .ne 5, 3) := by decide +kernel
theorem dX11_readDeed_98 : decode cX11_readDeed 98 = .ok (.iconst 0, 1) := by decide +kernel
theorem dX11_readDeed_99 : decode cX11_readDeed 99 = .ok (.ireturn, 1) := by decide +kernel
theorem dX11_readDeed_100 : decode cX11_readDeed 100 = .ok (.aload_n 0, 1) := by decide +kernel
theorem dX11_readDeed_101 : decode cX11_readDeed 101 = .ok (.getfield 101, 3) := by decide +kernel
theorem dX11_readDeed_104 : decode cX11_readDeed 104 = .ok (.iconst 1, 1) := by decide +kernel
theorem dX11_readDeed_105 : decode cX11_readDeed 105 = .ok (.dup2, 1) := by decide +kernel
theorem dX11_readDeed_106 : decode cX11_readDeed 106 = .ok (.iaload, 1) := by decide +kernel
theorem dX11_readDeed_107 : decode cX11_readDeed 107 = .ok (.iconst 1, 1) := by decide +kernel
theorem dX11_readDeed_108 : decode cX11_readDeed 108 = .ok (.iadd, 1) := by decide +kernel
theorem dX11_readDeed_109 : decode cX11_readDeed 109 = .ok (.iastore, 1) := by decide +kernel
theorem dX11_readDeed_110 : decode cX11_readDeed 110 = .ok (.iconst 1, 1) := by decide +kernel
theorem dX11_readDeed_111 : decode cX11_readDeed 111 = .ok (.ireturn, 1) := by decide +kernel
theorem dX11_readDeed_70 : decode cX11_readDeed 70 = .ok (.iconst 1, 1) := by decide +kernel
theorem dX11_readDeed_71 : decode cX11_readDeed 71 = .ok (.goto 4, 3) := by decide +kernel
theorem dX11_readDeed_32 : decode cX11_readDeed 32 = .ok (.aload_n 0, 1) := by decide +kernel
theorem dX11_readDeed_33 : decode cX11_readDeed 33 = .ok (.iconst 2, 1) := by decide +kernel
theorem dX11_readDeed_34 : decode cX11_readDeed 34 = .ok (.invokevirtual 185, 3) := by decide +kernel
theorem dX11_readDeed_37 : decode cX11_readDeed 37 = .ok (.ifCond .ne 17, 3) := by decide +kernel
theorem dX11_readDeed_40 : decode cX11_readDeed 40 = .ok (.aload_n 0, 1) := by decide +kernel
theorem dX11_readDeed_41 : decode cX11_readDeed 41 = .ok (.iconst 3, 1) := by decide +kernel
theorem dX11_readDeed_42 : decode cX11_readDeed 42 = .ok (.invokevirtual 185, 3) := by decide +kernel
theorem dX11_readDeed_45 : decode cX11_readDeed 45 = .ok (.ifCond .ne 9, 3) := by decide +kernel
theorem dX11_readDeed_48 : decode cX11_readDeed 48 = .ok (.aload_n 0, 1) := by decide +kernel
theorem dX11_readDeed_49 : decode cX11_readDeed 49 = .ok (.iconst 1, 1) := by decide +kernel
theorem dX11_readDeed_50 : decode cX11_readDeed 50 = .ok (.invokevirtual 72, 3) := by decide +kernel
theorem dX11_readDeed_53 : decode cX11_readDeed 53 = .ok (.ireturn, 1) := by decide +kernel
abbrev cX11_readDid : ByteArray := prog_13_method_35_code
def yX11_readDid : MethodName := ⟨RX11, "readDid", "()Z"⟩
theorem t1667 : Cond.code yX11_readDid cX11_readDid 2 (some .boolean) ∈ GW := gw_mem 1781 (by decide +kernel) (by decide +kernel)
theorem dX11_readDid_0 : decode cX11_readDid 0 = .ok (.aload_n 0, 1) := by decide +kernel
theorem dX11_readDid_1 : decode cX11_readDid 1 = .ok (.invokevirtual 82, 3) := by decide +kernel
theorem dX11_readDid_4 : decode cX11_readDid 4 = .ok (.aload_n 0, 1) := by decide +kernel
theorem dX11_readDid_5 : decode cX11_readDid 5 = .ok (.iconst 0, 1) := by decide +kernel
theorem dX11_readDid_6 : decode cX11_readDid 6 = .ok (.aload_n 0, 1) := by decide +kernel
theorem dX11_readDid_7 : decode cX11_readDid 7 = .ok (.getfield 101, 3) := by decide +kernel
theorem dX11_readDid_10 : decode cX11_readDid 10 = .ok (.iconst 0, 1) := by decide +kernel
theorem dX11_readDid_11 : decode cX11_readDid 11 = .ok (.iaload, 1) := by decide +kernel
theorem dX11_readDid_12 : decode cX11_readDid 12 = .ok (.invokevirtual 188, 3) := by decide +kernel
theorem t1668 : Cond.methodLink RX11 188 yX11_isOne ∈ GW := gw_mem 1782 (by decide +kernel) (by decide +kernel)
theorem t1670 : Cond.instanceMethod yX11_isOne ∈ GW := gw_mem 1784 (by decide +kernel) (by decide +kernel)
theorem s55 : Cond.selects RX11 yX11_isOne yX11_isOne ∈ GW := gw_mem 55 (by decide +kernel) (by decide +kernel)
theorem cw_X11_188 {R : Room} {s : State} {args : Array Value} {rm : Room} {mc ms : Nat} (hts : ∀ w ∈ GW, w.before args s = true) (hrc : rm.cells = mc) (hrs : rm.slots = ms) (hR : rm.frames + 1 ≤ R.frames ∧ 8 + (3 + 11) + rm.locals ≤ R.locals) : CallW R s args RX11 RX11 188 yX11_isOne cX11_isOne 3 (some .boolean) (wl yX11_isOne cX11_isOne 3 (some .boolean)) rm mc ms 2 := cwV 2 hts (gi_V t1668 t1670 s55 t18 t1671) rfl hrc hrs (by decide +kernel) hR
theorem dX11_readDid_15 : decode cX11_readDid 15 = .ok (.ifCond .ne 5, 3) := by decide +kernel
theorem dX11_readDid_18 : decode cX11_readDid 18 = .ok (.iconst 0, 1) := by decide +kernel
theorem dX11_readDid_19 : decode cX11_readDid 19 = .ok (.ireturn, 1) := by decide +kernel
theorem dX11_readDid_20 : decode cX11_readDid 20 = .ok (.bipush 31, 2) := by decide +kernel
theorem dX11_readDid_22 : decode cX11_readDid 22 = .ok (.bipush 10, 2) := by decide +kernel
theorem dX11_readDid_24 : decode cX11_readDid 24 = .ok (.aload_n 0, 1) := by decide +kernel
theorem dX11_readDid_25 : decode cX11_readDid 25 = .ok (.getfield 79, 3) := by decide +kernel
theorem dX11_readDid_28 : decode cX11_readDid 28 = .ok (.imul, 1) := by decide +kernel
theorem dX11_readDid_29 : decode cX11_readDid 29 = .ok (.iadd, 1) := by decide +kernel
theorem dX11_readDid_30 : decode cX11_readDid 30 = .ok (.istore_n 1, 1) := by decide +kernel
theorem dX11_readDid_31 : decode cX11_readDid 31 = .ok (.aload_n 0, 1) := by decide +kernel
theorem dX11_readDid_32 : decode cX11_readDid 32 = .ok (.invokevirtual 82, 3) := by decide +kernel
theorem dX11_readDid_35 : decode cX11_readDid 35 = .ok (.aload_n 0, 1) := by decide +kernel
theorem dX11_readDid_36 : decode cX11_readDid 36 = .ok (.bipush 7, 2) := by decide +kernel
theorem dX11_readDid_38 : decode cX11_readDid 38 = .ok (.aload_n 0, 1) := by decide +kernel
theorem dX11_readDid_39 : decode cX11_readDid 39 = .ok (.getfield 101, 3) := by decide +kernel
theorem dX11_readDid_42 : decode cX11_readDid 42 = .ok (.iconst 1, 1) := by decide +kernel
theorem dX11_readDid_43 : decode cX11_readDid 43 = .ok (.iaload, 1) := by decide +kernel
theorem dX11_readDid_44 : decode cX11_readDid 44 = .ok (.invokevirtual 188, 3) := by decide +kernel
theorem dX11_readDid_47 : decode cX11_readDid 47 = .ok (.ifCond .ne 5, 3) := by decide +kernel
theorem dX11_readDid_50 : decode cX11_readDid 50 = .ok (.iconst 0, 1) := by decide +kernel
theorem dX11_readDid_51 : decode cX11_readDid 51 = .ok (.ireturn, 1) := by decide +kernel
theorem dX11_readDid_52 : decode cX11_readDid 52 = .ok (.iload_n 1, 1) := by decide +kernel
theorem dX11_readDid_53 : decode cX11_readDid 53 = .ok (.aload_n 0, 1) := by decide +kernel
theorem dX11_readDid_54 : decode cX11_readDid 54 = .ok (.getfield 79, 3) := by decide +kernel
theorem dX11_readDid_57 : decode cX11_readDid 57 = .ok (.iadd, 1) := by decide +kernel
theorem dX11_readDid_58 : decode cX11_readDid 58 = .ok (.istore_n 1, 1) := by decide +kernel
theorem dX11_readDid_59 : decode cX11_readDid 59 = .ok (.aload_n 0, 1) := by decide +kernel
theorem dX11_readDid_60 : decode cX11_readDid 60 = .ok (.getfield 101, 3) := by decide +kernel
theorem dX11_readDid_63 : decode cX11_readDid 63 = .ok (.iload_n 1, 1) := by decide +kernel
theorem dX11_readDid_64 : decode cX11_readDid 64 = .ok (.iaload, 1) := by decide +kernel
theorem dX11_readDid_65 : decode cX11_readDid 65 = .ok (.ifCond .eq 9, 3) := by decide +kernel
theorem dX11_readDid_74 : decode cX11_readDid 74 = .ok (.aload_n 0, 1) := by decide +kernel
theorem dX11_readDid_75 : decode cX11_readDid 75 = .ok (.invokevirtual 82, 3) := by decide +kernel
theorem dX11_readDid_78 : decode cX11_readDid 78 = .ok (.aload_n 0, 1) := by decide +kernel
theorem dX11_readDid_79 : decode cX11_readDid 79 = .ok (.iload_n 1, 1) := by decide +kernel
theorem dX11_readDid_80 : decode cX11_readDid 80 = .ok (.aload_n 0, 1) := by decide +kernel
theorem dX11_readDid_81 : decode cX11_readDid 81 = .ok (.iconst 1, 1) := by decide +kernel
theorem dX11_readDid_82 : decode cX11_readDid 82 = .ok (.bipush 9, 2) := by decide +kernel
theorem dX11_readDid_84 : decode cX11_readDid 84 = .ok (.invokevirtual 178, 3) := by decide +kernel
theorem dX11_readDid_87 : decode cX11_readDid 87 = .ok (.invokevirtual 181, 3) := by decide +kernel
theorem dX11_readDid_90 : decode cX11_readDid 90 = .ok (.ireturn, 1) := by decide +kernel
theorem dX11_readDid_68 : decode cX11_readDid 68 = .ok (.aload_n 0, 1) := by decide +kernel
theorem dX11_readDid_69 : decode cX11_readDid 69 = .ok (.iconst 3, 1) := by decide +kernel
theorem dX11_readDid_70 : decode cX11_readDid 70 = .ok (.invokevirtual 72, 3) := by decide +kernel
theorem dX11_readDid_73 : decode cX11_readDid 73 = .ok (.ireturn, 1) := by decide +kernel
abbrev cX11_readPair : ByteArray := prog_13_method_36_code
def yX11_readPair : MethodName := ⟨RX11, "readPair", "()I"⟩
theorem t1679 : Cond.code yX11_readPair cX11_readPair 2 (some .int) ∈ GW := gw_mem 1793 (by decide +kernel) (by decide +kernel)
theorem dX11_readPair_0 : decode cX11_readPair 0 = .ok (.aload_n 0, 1) := by decide +kernel
theorem dX11_readPair_1 : decode cX11_readPair 1 = .ok (.invokevirtual 82, 3) := by decide +kernel
theorem dX11_readPair_4 : decode cX11_readPair 4 = .ok (.aload_n 0, 1) := by decide +kernel
theorem dX11_readPair_5 : decode cX11_readPair 5 = .ok (.iconst 0, 1) := by decide +kernel
theorem dX11_readPair_6 : decode cX11_readPair 6 = .ok (.aload_n 0, 1) := by decide +kernel
theorem dX11_readPair_7 : decode cX11_readPair 7 = .ok (.getfield 101, 3) := by decide +kernel
theorem dX11_readPair_10 : decode cX11_readPair 10 = .ok (.iconst 0, 1) := by decide +kernel
theorem dX11_readPair_11 : decode cX11_readPair 11 = .ok (.iaload, 1) := by decide +kernel
theorem dX11_readPair_12 : decode cX11_readPair 12 = .ok (.invokevirtual 188, 3) := by decide +kernel
theorem dX11_readPair_15 : decode cX11_readPair 15 = .ok (.ifCond .ne 5, 3) := by decide +kernel
theorem dX11_readPair_18 : decode cX11_readPair 18 = .ok (.iconst (-1), 1) := by decide +kernel
theorem dX11_readPair_19 : decode cX11_readPair 19 = .ok (.ireturn, 1) := by decide +kernel
theorem dX11_readPair_20 : decode cX11_readPair 20 = .ok (.aload_n 0, 1) := by decide +kernel
theorem dX11_readPair_21 : decode cX11_readPair 21 = .ok (.getfield 79, 3) := by decide +kernel
theorem dX11_readPair_24 : decode cX11_readPair 24 = .ok (.istore_n 1, 1) := by decide +kernel
theorem dX11_readPair_25 : decode cX11_readPair 25 = .ok (.aload_n 0, 1) := by decide +kernel
theorem dX11_readPair_26 : decode cX11_readPair 26 = .ok (.invokevirtual 82, 3) := by decide +kernel
theorem dX11_readPair_29 : decode cX11_readPair 29 = .ok (.aload_n 0, 1) := by decide +kernel
theorem dX11_readPair_30 : decode cX11_readPair 30 = .ok (.iconst 0, 1) := by decide +kernel
theorem dX11_readPair_31 : decode cX11_readPair 31 = .ok (.aload_n 0, 1) := by decide +kernel
theorem dX11_readPair_32 : decode cX11_readPair 32 = .ok (.getfield 101, 3) := by decide +kernel
theorem dX11_readPair_35 : decode cX11_readPair 35 = .ok (.iconst 0, 1) := by decide +kernel
theorem dX11_readPair_36 : decode cX11_readPair 36 = .ok (.iaload, 1) := by decide +kernel
theorem dX11_readPair_37 : decode cX11_readPair 37 = .ok (.invokevirtual 188, 3) := by decide +kernel
theorem dX11_readPair_40 : decode cX11_readPair 40 = .ok (.ifCond .ne 5, 3) := by decide +kernel
theorem dX11_readPair_43 : decode cX11_readPair 43 = .ok (.iconst (-1), 1) := by decide +kernel
theorem dX11_readPair_44 : decode cX11_readPair 44 = .ok (.ireturn, 1) := by decide +kernel
theorem dX11_readPair_45 : decode cX11_readPair 45 = .ok (.aload_n 0, 1) := by decide +kernel
theorem dX11_readPair_46 : decode cX11_readPair 46 = .ok (.getfield 79, 3) := by decide +kernel
theorem dX11_readPair_49 : decode cX11_readPair 49 = .ok (.iload_n 1, 1) := by decide +kernel
theorem dX11_readPair_50 : decode cX11_readPair 50 = .ok (.if_icmp .eq 5, 3) := by decide +kernel
theorem dX11_readPair_55 : decode cX11_readPair 55 = .ok (.aload_n 0, 1) := by decide +kernel
theorem dX11_readPair_56 : decode cX11_readPair 56 = .ok (.iconst 3, 1) := by decide +kernel
theorem dX11_readPair_57 : decode cX11_readPair 57 = .ok (.invokevirtual 72, 3) := by decide +kernel
theorem dX11_readPair_60 : decode cX11_readPair 60 = .ok (.pop, 1) := by decide +kernel
theorem dX11_readPair_61 : decode cX11_readPair 61 = .ok (.iconst (-1), 1) := by decide +kernel
theorem dX11_readPair_62 : decode cX11_readPair 62 = .ok (.ireturn, 1) := by decide +kernel
theorem dX11_readPair_53 : decode cX11_readPair 53 = .ok (.iload_n 1, 1) := by decide +kernel
theorem dX11_readPair_54 : decode cX11_readPair 54 = .ok (.ireturn, 1) := by decide +kernel
abbrev cX11_readKin : ByteArray := prog_13_method_37_code
def yX11_readKin : MethodName := ⟨RX11, "readKin", "()Z"⟩
theorem t1675 : Cond.code yX11_readKin cX11_readKin 2 (some .boolean) ∈ GW := gw_mem 1789 (by decide +kernel) (by decide +kernel)
theorem dX11_readKin_0 : decode cX11_readKin 0 = .ok (.aload_n 0, 1) := by decide +kernel
theorem dX11_readKin_1 : decode cX11_readKin 1 = .ok (.invokevirtual 191, 3) := by decide +kernel
theorem t1676 : Cond.methodLink RX11 191 yX11_readPair ∈ GW := gw_mem 1790 (by decide +kernel) (by decide +kernel)
theorem t1678 : Cond.instanceMethod yX11_readPair ∈ GW := gw_mem 1792 (by decide +kernel) (by decide +kernel)
theorem s57 : Cond.selects RX11 yX11_readPair yX11_readPair ∈ GW := gw_mem 57 (by decide +kernel) (by decide +kernel)
theorem cw_X11_191 {R : Room} {s : State} {args : Array Value} {rm : Room} {mc ms : Nat} (hts : ∀ w ∈ GW, w.before args s = true) (hrc : rm.cells = mc) (hrs : rm.slots = ms) (hR : rm.frames + 1 ≤ R.frames ∧ 8 + (2 + 11) + rm.locals ≤ R.locals) : CallW R s args RX11 RX11 191 yX11_readPair cX11_readPair 2 (some .int) (wl yX11_readPair cX11_readPair 2 (some .int)) rm mc ms 0 := cwV 0 hts (gi_V t1676 t1678 s57 t18 t1679) rfl hrc hrs (by decide +kernel) hR
theorem dX11_readKin_4 : decode cX11_readKin 4 = .ok (.istore_n 1, 1) := by decide +kernel
theorem dX11_readKin_5 : decode cX11_readKin 5 = .ok (.iload_n 1, 1) := by decide +kernel
theorem dX11_readKin_6 : decode cX11_readKin 6 = .ok (.iconst (-1), 1) := by decide +kernel
theorem dX11_readKin_7 : decode cX11_readKin 7 = .ok (.if_icmp .ne 5, 3) := by decide +kernel
theorem dX11_readKin_12 : decode cX11_readKin 12 = .ok (.aload_n 0, 1) := by decide +kernel
theorem dX11_readKin_13 : decode cX11_readKin 13 = .ok (.getfield 101, 3) := by decide +kernel
theorem dX11_readKin_16 : decode cX11_readKin 16 = .ok (.bipush 101, 2) := by decide +kernel
theorem dX11_readKin_18 : decode cX11_readKin 18 = .ok (.iload_n 1, 1) := by decide +kernel
theorem dX11_readKin_19 : decode cX11_readKin 19 = .ok (.iadd, 1) := by decide +kernel
theorem dX11_readKin_20 : decode cX11_readKin 20 = .ok (.iaload, 1) := by decide +kernel
theorem dX11_readKin_21 : decode cX11_readKin 21 = .ok (.aload_n 0, 1) := by decide +kernel
theorem dX11_readKin_22 : decode cX11_readKin 22 = .ok (.getfield 79, 3) := by decide +kernel
theorem dX11_readKin_25 : decode cX11_readKin 25 = .ok (.invokestatic 194, 3) := by decide +kernel
theorem t1680 : Cond.methodLink RX11 194 yX11_has ∈ GW := gw_mem 1794 (by decide +kernel) (by decide +kernel)
theorem t1681 : Cond.static yX11_has ∈ GW := gw_mem 1795 (by decide +kernel) (by decide +kernel)
theorem cw_X11_194 {R : Room} {s : State} {args : Array Value} {rm : Room} {mc ms : Nat} (hts : ∀ w ∈ GW, w.before args s = true) (hrc : rm.cells = mc) (hrs : rm.slots = ms) (hR : rm.frames + 1 ≤ R.frames ∧ 8 + (2 + 11) + rm.locals ≤ R.locals) : CallB R s args RX11 194 yX11_has cX11_has 2 (some .boolean) (wl yX11_has cX11_has 2 (some .boolean)) rm mc ms 2 ∧ (Cond.static yX11_has).before args s = true := va_cwS 2 hts (gi_S t1680 t1681 t18 t1682) rfl hrc hrs (by decide +kernel) hR
theorem dX11_readKin_28 : decode cX11_readKin 28 = .ok (.ifCond .eq 9, 3) := by decide +kernel
theorem dX11_readKin_37 : decode cX11_readKin 37 = .ok (.aload_n 0, 1) := by decide +kernel
theorem dX11_readKin_38 : decode cX11_readKin 38 = .ok (.getfield 101, 3) := by decide +kernel
theorem dX11_readKin_41 : decode cX11_readKin 41 = .ok (.bipush 101, 2) := by decide +kernel
theorem dX11_readKin_43 : decode cX11_readKin 43 = .ok (.iload_n 1, 1) := by decide +kernel
theorem dX11_readKin_44 : decode cX11_readKin 44 = .ok (.iadd, 1) := by decide +kernel
theorem dX11_readKin_45 : decode cX11_readKin 45 = .ok (.dup2, 1) := by decide +kernel
theorem dX11_readKin_46 : decode cX11_readKin 46 = .ok (.iaload, 1) := by decide +kernel
theorem dX11_readKin_47 : decode cX11_readKin 47 = .ok (.iconst 1, 1) := by decide +kernel
theorem dX11_readKin_48 : decode cX11_readKin 48 = .ok (.aload_n 0, 1) := by decide +kernel
theorem dX11_readKin_49 : decode cX11_readKin 49 = .ok (.getfield 79, 3) := by decide +kernel
theorem dX11_readKin_52 : decode cX11_readKin 52 = .ok (.ishl, 1) := by decide +kernel
theorem dX11_readKin_53 : decode cX11_readKin 53 = .ok (.ior, 1) := by decide +kernel
theorem dX11_readKin_54 : decode cX11_readKin 54 = .ok (.iastore, 1) := by decide +kernel
theorem dX11_readKin_55 : decode cX11_readKin 55 = .ok (.aload_n 0, 1) := by decide +kernel
theorem dX11_readKin_56 : decode cX11_readKin 56 = .ok (.getfield 101, 3) := by decide +kernel
theorem dX11_readKin_59 : decode cX11_readKin 59 = .ok (.bipush 101, 2) := by decide +kernel
theorem dX11_readKin_61 : decode cX11_readKin 61 = .ok (.aload_n 0, 1) := by decide +kernel
theorem dX11_readKin_62 : decode cX11_readKin 62 = .ok (.getfield 79, 3) := by decide +kernel
theorem dX11_readKin_65 : decode cX11_readKin 65 = .ok (.iadd, 1) := by decide +kernel
theorem dX11_readKin_66 : decode cX11_readKin 66 = .ok (.dup2, 1) := by decide +kernel
theorem dX11_readKin_67 : decode cX11_readKin 67 = .ok (.iaload, 1) := by decide +kernel
theorem dX11_readKin_68 : decode cX11_readKin 68 = .ok (.iconst 1, 1) := by decide +kernel
theorem dX11_readKin_69 : decode cX11_readKin 69 = .ok (.iload_n 1, 1) := by decide +kernel
theorem dX11_readKin_70 : decode cX11_readKin 70 = .ok (.ishl, 1) := by decide +kernel
theorem dX11_readKin_71 : decode cX11_readKin 71 = .ok (.ior, 1) := by decide +kernel
theorem dX11_readKin_72 : decode cX11_readKin 72 = .ok (.iastore, 1) := by decide +kernel
theorem dX11_readKin_73 : decode cX11_readKin 73 = .ok (.aload_n 0, 1) := by decide +kernel
theorem dX11_readKin_74 : decode cX11_readKin 74 = .ok (.invokevirtual 82, 3) := by decide +kernel
theorem dX11_readKin_77 : decode cX11_readKin 77 = .ok (.iconst 1, 1) := by decide +kernel
theorem dX11_readKin_78 : decode cX11_readKin 78 = .ok (.ireturn, 1) := by decide +kernel
theorem dX11_readKin_31 : decode cX11_readKin 31 = .ok (.aload_n 0, 1) := by decide +kernel
theorem dX11_readKin_32 : decode cX11_readKin 32 = .ok (.iconst 3, 1) := by decide +kernel
theorem dX11_readKin_33 : decode cX11_readKin 33 = .ok (.invokevirtual 72, 3) := by decide +kernel
theorem dX11_readKin_36 : decode cX11_readKin 36 = .ok (.ireturn, 1) := by decide +kernel
theorem dX11_readKin_10 : decode cX11_readKin 10 = .ok (.iconst 0, 1) := by decide +kernel
theorem dX11_readKin_11 : decode cX11_readKin 11 = .ok (.ireturn, 1) := by decide +kernel
abbrev cX11_readOwes : ByteArray := prog_13_method_38_code
def yX11_readOwes : MethodName := ⟨RX11, "readOwes", "()Z"⟩
theorem t1686 : Cond.code yX11_readOwes cX11_readOwes 3 (some .boolean) ∈ GW := gw_mem 1800 (by decide +kernel) (by decide +kernel)
theorem dX11_readOwes_0 : decode cX11_readOwes 0 = .ok (.aload_n 0, 1) := by decide +kernel
theorem dX11_readOwes_1 : decode cX11_readOwes 1 = .ok (.invokevirtual 191, 3) := by decide +kernel
theorem dX11_readOwes_4 : decode cX11_readOwes 4 = .ok (.istore_n 1, 1) := by decide +kernel
theorem dX11_readOwes_5 : decode cX11_readOwes 5 = .ok (.iload_n 1, 1) := by decide +kernel
theorem dX11_readOwes_6 : decode cX11_readOwes 6 = .ok (.iconst (-1), 1) := by decide +kernel
theorem dX11_readOwes_7 : decode cX11_readOwes 7 = .ok (.if_icmp .ne 5, 3) := by decide +kernel
theorem dX11_readOwes_12 : decode cX11_readOwes 12 = .ok (.bipush 108, 2) := by decide +kernel
theorem dX11_readOwes_14 : decode cX11_readOwes 14 = .ok (.bipush 7, 2) := by decide +kernel
theorem dX11_readOwes_16 : decode cX11_readOwes 16 = .ok (.iload_n 1, 1) := by decide +kernel
theorem dX11_readOwes_17 : decode cX11_readOwes 17 = .ok (.imul, 1) := by decide +kernel
theorem dX11_readOwes_18 : decode cX11_readOwes 18 = .ok (.iadd, 1) := by decide +kernel
theorem dX11_readOwes_19 : decode cX11_readOwes 19 = .ok (.aload_n 0, 1) := by decide +kernel
theorem dX11_readOwes_20 : decode cX11_readOwes 20 = .ok (.getfield 79, 3) := by decide +kernel
theorem dX11_readOwes_23 : decode cX11_readOwes 23 = .ok (.iadd, 1) := by decide +kernel
theorem dX11_readOwes_24 : decode cX11_readOwes 24 = .ok (.istore_n 2, 1) := by decide +kernel
theorem dX11_readOwes_25 : decode cX11_readOwes 25 = .ok (.aload_n 0, 1) := by decide +kernel
theorem dX11_readOwes_26 : decode cX11_readOwes 26 = .ok (.getfield 101, 3) := by decide +kernel
theorem dX11_readOwes_29 : decode cX11_readOwes 29 = .ok (.iload_n 2, 1) := by decide +kernel
theorem dX11_readOwes_30 : decode cX11_readOwes 30 = .ok (.iaload, 1) := by decide +kernel
theorem dX11_readOwes_31 : decode cX11_readOwes 31 = .ok (.ifCond .eq 9, 3) := by decide +kernel
theorem dX11_readOwes_40 : decode cX11_readOwes 40 = .ok (.aload_n 0, 1) := by decide +kernel
theorem dX11_readOwes_41 : decode cX11_readOwes 41 = .ok (.invokevirtual 82, 3) := by decide +kernel
theorem dX11_readOwes_44 : decode cX11_readOwes 44 = .ok (.aload_n 0, 1) := by decide +kernel
theorem dX11_readOwes_45 : decode cX11_readOwes 45 = .ok (.iload_n 2, 1) := by decide +kernel
theorem dX11_readOwes_46 : decode cX11_readOwes 46 = .ok (.aload_n 0, 1) := by decide +kernel
theorem dX11_readOwes_47 : decode cX11_readOwes 47 = .ok (.iconst 1, 1) := by decide +kernel
theorem dX11_readOwes_48 : decode cX11_readOwes 48 = .ok (.bipush 40, 2) := by decide +kernel
theorem dX11_readOwes_50 : decode cX11_readOwes 50 = .ok (.invokevirtual 178, 3) := by decide +kernel
theorem dX11_readOwes_53 : decode cX11_readOwes 53 = .ok (.invokevirtual 181, 3) := by decide +kernel
theorem dX11_readOwes_56 : decode cX11_readOwes 56 = .ok (.ireturn, 1) := by decide +kernel
theorem dX11_readOwes_34 : decode cX11_readOwes 34 = .ok (.aload_n 0, 1) := by decide +kernel
theorem dX11_readOwes_35 : decode cX11_readOwes 35 = .ok (.iconst 3, 1) := by decide +kernel
theorem dX11_readOwes_36 : decode cX11_readOwes 36 = .ok (.invokevirtual 72, 3) := by decide +kernel
theorem dX11_readOwes_39 : decode cX11_readOwes 39 = .ok (.ireturn, 1) := by decide +kernel
theorem dX11_readOwes_10 : decode cX11_readOwes 10 = .ok (.iconst 0, 1) := by decide +kernel
theorem dX11_readOwes_11 : decode cX11_readOwes 11 = .ok (.ireturn, 1) := by decide +kernel
abbrev cX11_readOnce : ByteArray := prog_13_method_39_code
def yX11_readOnce : MethodName := ⟨RX11, "readOnce", "(IIII)Z"⟩
theorem t1690 : Cond.code yX11_readOnce cX11_readOnce 5 (some .boolean) ∈ GW := gw_mem 1804 (by decide +kernel) (by decide +kernel)
theorem dX11_readOnce_0 : decode cX11_readOnce 0 = .ok (.aload_n 0, 1) := by decide +kernel
theorem dX11_readOnce_1 : decode cX11_readOnce 1 = .ok (.getfield 127, 3) := by decide +kernel
theorem t1465 : Cond.fieldLink RX11 127 "LikenessPoundModel" "onces" "[Z" ∈ GW := gw_mem 1579 (by decide +kernel) (by decide +kernel)
theorem gf_X11_127 {p : Program} {l : Launch} {e : Env} {R : Room} {s : State} {m : MethodId} {args : Array Value} {below : List Frame} {meth : Method} {c : Code} {H : Heap} {locs : List Loc} {cells slots : Nat} {Q : State → Prop} {cc : ByteArray} {pc : Nat} {ls : Array Slot} {rest : List Value} {D : va_G} {a : Nat} {tys : List (ClassId × FieldType)} {ws : va_W} (hx : p.tables.exec = Jvm.exec) (hb : c.code = cc) (hts : ∀ w ∈ GW, w.before args s = true) (hown : s.vm.findClass RX11 = some m.cls) (hK : va_K D vwCl tys s) (hP : va_P D vwCl ws H) (q0 : Nat) {fs : List Value} (he : ws[q0]? = some (a, .inr (12, fs))) {v : Value} (hv : fs[23]? = some v) (hdg : decode cc pc = .ok (.getfield 127, 3)) (kk : W p l e R s m args below meth c H locs cells slots Q (F0 m (pc + 3) ls (v :: rest))) : W p l e R s m args below meth c H locs cells slots Q (F0 m pc ls (.ref a :: rest)) := va_get (C := RX11) (T := TX11) (N := 47) (ci := 12) hx hb hts inX11 hown hK hP q0 he rfl 23 (by decide) (hts _ t1465) (fun _ h => h) hv hdg kk
theorem dX11_readOnce_4 : decode cX11_readOnce 4 = .ok (.iload_n 1, 1) := by decide +kernel
theorem dX11_readOnce_5 : decode cX11_readOnce 5 = .ok (.baload, 1) := by decide +kernel
theorem dX11_readOnce_6 : decode cX11_readOnce 6 = .ok (.ifCond .eq 9, 3) := by decide +kernel
theorem dX11_readOnce_15 : decode cX11_readOnce 15 = .ok (.aload_n 0, 1) := by decide +kernel
theorem dX11_readOnce_16 : decode cX11_readOnce 16 = .ok (.getfield 127, 3) := by decide +kernel
theorem dX11_readOnce_19 : decode cX11_readOnce 19 = .ok (.iload_n 1, 1) := by decide +kernel
theorem dX11_readOnce_20 : decode cX11_readOnce 20 = .ok (.iconst 1, 1) := by decide +kernel
theorem dX11_readOnce_21 : decode cX11_readOnce 21 = .ok (.bastore, 1) := by decide +kernel
theorem dX11_readOnce_22 : decode cX11_readOnce 22 = .ok (.aload_n 0, 1) := by decide +kernel
theorem dX11_readOnce_23 : decode cX11_readOnce 23 = .ok (.invokevirtual 82, 3) := by decide +kernel
theorem dX11_readOnce_26 : decode cX11_readOnce 26 = .ok (.aload_n 0, 1) := by decide +kernel
theorem dX11_readOnce_27 : decode cX11_readOnce 27 = .ok (.iload_n 2, 1) := by decide +kernel
theorem dX11_readOnce_28 : decode cX11_readOnce 28 = .ok (.aload_n 0, 1) := by decide +kernel
theorem dX11_readOnce_29 : decode cX11_readOnce 29 = .ok (.iload_n 3, 1) := by decide +kernel
theorem dX11_readOnce_30 : decode cX11_readOnce 30 = .ok (.iload 4, 2) := by decide +kernel
theorem dX11_readOnce_32 : decode cX11_readOnce 32 = .ok (.invokevirtual 178, 3) := by decide +kernel
theorem dX11_readOnce_35 : decode cX11_readOnce 35 = .ok (.invokevirtual 181, 3) := by decide +kernel
theorem dX11_readOnce_38 : decode cX11_readOnce 38 = .ok (.ireturn, 1) := by decide +kernel
theorem dX11_readOnce_9 : decode cX11_readOnce 9 = .ok (.aload_n 0, 1) := by decide +kernel
theorem dX11_readOnce_10 : decode cX11_readOnce 10 = .ok (.iconst 3, 1) := by decide +kernel
theorem dX11_readOnce_11 : decode cX11_readOnce 11 = .ok (.invokevirtual 72, 3) := by decide +kernel
theorem dX11_readOnce_14 : decode cX11_readOnce 14 = .ok (.ireturn, 1) := by decide +kernel
abbrev cX11_readLine : ByteArray := prog_13_method_40_code
def yX11_readLine : MethodName := ⟨RX11, "readLine", "()Z"⟩
theorem t1615 : Cond.code yX11_readLine cX11_readLine 1 (some .boolean) ∈ GW := gw_mem 1729 (by decide +kernel) (by decide +kernel)
theorem dX11_readLine_0 : decode cX11_readLine 0 = .ok (.aload_n 0, 1) := by decide +kernel
theorem dX11_readLine_1 : decode cX11_readLine 1 = .ok (.iconst 0, 1) := by decide +kernel
theorem dX11_readLine_2 : decode cX11_readLine 2 = .ok (.invokevirtual 185, 3) := by decide +kernel
theorem dX11_readLine_5 : decode cX11_readLine 5 = .ok (.ifCond .eq 8, 3) := by decide +kernel
theorem dX11_readLine_13 : decode cX11_readLine 13 = .ok (.aload_n 0, 1) := by decide +kernel
theorem dX11_readLine_14 : decode cX11_readLine 14 = .ok (.iconst 1, 1) := by decide +kernel
theorem dX11_readLine_15 : decode cX11_readLine 15 = .ok (.invokevirtual 185, 3) := by decide +kernel
theorem dX11_readLine_18 : decode cX11_readLine 18 = .ok (.ifCond .eq 8, 3) := by decide +kernel
theorem dX11_readLine_26 : decode cX11_readLine 26 = .ok (.aload_n 0, 1) := by decide +kernel
theorem dX11_readLine_27 : decode cX11_readLine 27 = .ok (.iconst 4, 1) := by decide +kernel
theorem dX11_readLine_28 : decode cX11_readLine 28 = .ok (.invokevirtual 185, 3) := by decide +kernel
theorem dX11_readLine_31 : decode cX11_readLine 31 = .ok (.ifCond .eq 8, 3) := by decide +kernel
theorem dX11_readLine_39 : decode cX11_readLine 39 = .ok (.aload_n 0, 1) := by decide +kernel
theorem dX11_readLine_40 : decode cX11_readLine 40 = .ok (.iconst 5, 1) := by decide +kernel
theorem dX11_readLine_41 : decode cX11_readLine 41 = .ok (.invokevirtual 185, 3) := by decide +kernel
theorem dX11_readLine_44 : decode cX11_readLine 44 = .ok (.ifCond .eq 8, 3) := by decide +kernel
theorem dX11_readLine_52 : decode cX11_readLine 52 = .ok (.aload_n 0, 1) := by decide +kernel
theorem dX11_readLine_53 : decode cX11_readLine 53 = .ok (.bipush 6, 2) := by decide +kernel
theorem dX11_readLine_55 : decode cX11_readLine 55 = .ok (.invokevirtual 185, 3) := by decide +kernel
theorem dX11_readLine_58 : decode cX11_readLine 58 = .ok (.ifCond .eq 8, 3) := by decide +kernel
theorem dX11_readLine_66 : decode cX11_readLine 66 = .ok (.aload_n 0, 1) := by decide +kernel
theorem dX11_readLine_67 : decode cX11_readLine 67 = .ok (.bipush 7, 2) := by decide +kernel
theorem dX11_readLine_69 : decode cX11_readLine 69 = .ok (.invokevirtual 185, 3) := by decide +kernel
theorem dX11_readLine_72 : decode cX11_readLine 72 = .ok (.ifCond .eq 14, 3) := by decide +kernel
theorem dX11_readLine_86 : decode cX11_readLine 86 = .ok (.aload_n 0, 1) := by decide +kernel
theorem dX11_readLine_87 : decode cX11_readLine 87 = .ok (.bipush 19, 2) := by decide +kernel
theorem dX11_readLine_89 : decode cX11_readLine 89 = .ok (.invokevirtual 185, 3) := by decide +kernel
theorem dX11_readLine_92 : decode cX11_readLine 92 = .ok (.ifCond .eq 15, 3) := by decide +kernel
theorem dX11_readLine_107 : decode cX11_readLine 107 = .ok (.aload_n 0, 1) := by decide +kernel
theorem dX11_readLine_108 : decode cX11_readLine 108 = .ok (.iconst 1, 1) := by decide +kernel
theorem dX11_readLine_109 : decode cX11_readLine 109 = .ok (.invokevirtual 72, 3) := by decide +kernel
theorem dX11_readLine_112 : decode cX11_readLine 112 = .ok (.ireturn, 1) := by decide +kernel
theorem dX11_readLine_95 : decode cX11_readLine 95 = .ok (.aload_n 0, 1) := by decide +kernel
theorem dX11_readLine_96 : decode cX11_readLine 96 = .ok (.iconst 1, 1) := by decide +kernel
theorem dX11_readLine_97 : decode cX11_readLine 97 = .ok (.iconst 3, 1) := by decide +kernel
theorem dX11_readLine_98 : decode cX11_readLine 98 = .ok (.iconst 0, 1) := by decide +kernel
theorem dX11_readLine_99 : decode cX11_readLine 99 = .ok (.bipush 60, 2) := by decide +kernel
theorem dX11_readLine_101 : decode cX11_readLine 101 = .ok (.invokevirtual 212, 3) := by decide +kernel
theorem t1687 : Cond.methodLink RX11 212 yX11_readOnce ∈ GW := gw_mem 1801 (by decide +kernel) (by decide +kernel)
theorem t1689 : Cond.instanceMethod yX11_readOnce ∈ GW := gw_mem 1803 (by decide +kernel) (by decide +kernel)
theorem s59 : Cond.selects RX11 yX11_readOnce yX11_readOnce ∈ GW := gw_mem 59 (by decide +kernel) (by decide +kernel)
theorem cw_X11_212 {R : Room} {s : State} {args : Array Value} {rm : Room} {mc ms : Nat} (hts : ∀ w ∈ GW, w.before args s = true) (hrc : rm.cells = mc) (hrs : rm.slots = ms) (hR : rm.frames + 1 ≤ R.frames ∧ 8 + (5 + 11) + rm.locals ≤ R.locals) : CallW R s args RX11 RX11 212 yX11_readOnce cX11_readOnce 5 (some .boolean) (wl yX11_readOnce cX11_readOnce 5 (some .boolean)) rm mc ms 4 := cwV 4 hts (gi_V t1687 t1689 s59 t18 t1690) rfl hrc hrs (by decide +kernel) hR
theorem dX11_readLine_104 : decode cX11_readLine 104 = .ok (.goto 8, 3) := by decide +kernel
theorem dX11_readLine_75 : decode cX11_readLine 75 = .ok (.aload_n 0, 1) := by decide +kernel
theorem dX11_readLine_76 : decode cX11_readLine 76 = .ok (.iconst 0, 1) := by decide +kernel
theorem dX11_readLine_77 : decode cX11_readLine 77 = .ok (.iconst 2, 1) := by decide +kernel
theorem dX11_readLine_78 : decode cX11_readLine 78 = .ok (.iconst 1, 1) := by decide +kernel
theorem dX11_readLine_79 : decode cX11_readLine 79 = .ok (.sipush 200, 3) := by decide +kernel
theorem dX11_readLine_82 : decode cX11_readLine 82 = .ok (.invokevirtual 212, 3) := by decide +kernel
theorem dX11_readLine_85 : decode cX11_readLine 85 = .ok (.ireturn, 1) := by decide +kernel
theorem dX11_readLine_61 : decode cX11_readLine 61 = .ok (.aload_n 0, 1) := by decide +kernel
theorem dX11_readLine_62 : decode cX11_readLine 62 = .ok (.invokevirtual 209, 3) := by decide +kernel
theorem t1683 : Cond.methodLink RX11 209 yX11_readOwes ∈ GW := gw_mem 1797 (by decide +kernel) (by decide +kernel)
theorem t1685 : Cond.instanceMethod yX11_readOwes ∈ GW := gw_mem 1799 (by decide +kernel) (by decide +kernel)
theorem s58 : Cond.selects RX11 yX11_readOwes yX11_readOwes ∈ GW := gw_mem 58 (by decide +kernel) (by decide +kernel)
theorem cw_X11_209 {R : Room} {s : State} {args : Array Value} {rm : Room} {mc ms : Nat} (hts : ∀ w ∈ GW, w.before args s = true) (hrc : rm.cells = mc) (hrs : rm.slots = ms) (hR : rm.frames + 1 ≤ R.frames ∧ 8 + (3 + 11) + rm.locals ≤ R.locals) : CallW R s args RX11 RX11 209 yX11_readOwes cX11_readOwes 3 (some .boolean) (wl yX11_readOwes cX11_readOwes 3 (some .boolean)) rm mc ms 0 := cwV 0 hts (gi_V t1683 t1685 s58 t18 t1686) rfl hrc hrs (by decide +kernel) hR
theorem dX11_readLine_65 : decode cX11_readLine 65 = .ok (.ireturn, 1) := by decide +kernel
theorem dX11_readLine_47 : decode cX11_readLine 47 = .ok (.aload_n 0, 1) := by decide +kernel
theorem dX11_readLine_48 : decode cX11_readLine 48 = .ok (.invokevirtual 206, 3) := by decide +kernel
theorem t1672 : Cond.methodLink RX11 206 yX11_readKin ∈ GW := gw_mem 1786 (by decide +kernel) (by decide +kernel)
theorem t1674 : Cond.instanceMethod yX11_readKin ∈ GW := gw_mem 1788 (by decide +kernel) (by decide +kernel)
theorem s56 : Cond.selects RX11 yX11_readKin yX11_readKin ∈ GW := gw_mem 56 (by decide +kernel) (by decide +kernel)
theorem cw_X11_206 {R : Room} {s : State} {args : Array Value} {rm : Room} {mc ms : Nat} (hts : ∀ w ∈ GW, w.before args s = true) (hrc : rm.cells = mc) (hrs : rm.slots = ms) (hR : rm.frames + 1 ≤ R.frames ∧ 8 + (2 + 11) + rm.locals ≤ R.locals) : CallW R s args RX11 RX11 206 yX11_readKin cX11_readKin 2 (some .boolean) (wl yX11_readKin cX11_readKin 2 (some .boolean)) rm mc ms 0 := cwV 0 hts (gi_V t1672 t1674 s56 t18 t1675) rfl hrc hrs (by decide +kernel) hR
theorem dX11_readLine_51 : decode cX11_readLine 51 = .ok (.ireturn, 1) := by decide +kernel
theorem dX11_readLine_34 : decode cX11_readLine 34 = .ok (.aload_n 0, 1) := by decide +kernel
theorem dX11_readLine_35 : decode cX11_readLine 35 = .ok (.invokevirtual 203, 3) := by decide +kernel
theorem t1664 : Cond.methodLink RX11 203 yX11_readDid ∈ GW := gw_mem 1778 (by decide +kernel) (by decide +kernel)
theorem t1666 : Cond.instanceMethod yX11_readDid ∈ GW := gw_mem 1780 (by decide +kernel) (by decide +kernel)
theorem s54 : Cond.selects RX11 yX11_readDid yX11_readDid ∈ GW := gw_mem 54 (by decide +kernel) (by decide +kernel)
theorem cw_X11_203 {R : Room} {s : State} {args : Array Value} {rm : Room} {mc ms : Nat} (hts : ∀ w ∈ GW, w.before args s = true) (hrc : rm.cells = mc) (hrs : rm.slots = ms) (hR : rm.frames + 1 ≤ R.frames ∧ 8 + (2 + 11) + rm.locals ≤ R.locals) : CallW R s args RX11 RX11 203 yX11_readDid cX11_readDid 2 (some .boolean) (wl yX11_readDid cX11_readDid 2 (some .boolean)) rm mc ms 0 := cwV 0 hts (gi_V t1664 t1666 s54 t18 t1667) rfl hrc hrs (by decide +kernel) hR
theorem dX11_readLine_38 : decode cX11_readLine 38 = .ok (.ireturn, 1) := by decide +kernel
theorem dX11_readLine_21 : decode cX11_readLine 21 = .ok (.aload_n 0, 1) := by decide +kernel
theorem dX11_readLine_22 : decode cX11_readLine 22 = .ok (.invokevirtual 200, 3) := by decide +kernel
theorem t1660 : Cond.methodLink RX11 200 yX11_readDeed ∈ GW := gw_mem 1774 (by decide +kernel) (by decide +kernel)
theorem t1662 : Cond.instanceMethod yX11_readDeed ∈ GW := gw_mem 1776 (by decide +kernel) (by decide +kernel)
theorem s53 : Cond.selects RX11 yX11_readDeed yX11_readDeed ∈ GW := gw_mem 53 (by decide +kernel) (by decide +kernel)
theorem cw_X11_200 {R : Room} {s : State} {args : Array Value} {rm : Room} {mc ms : Nat} (hts : ∀ w ∈ GW, w.before args s = true) (hrc : rm.cells = mc) (hrs : rm.slots = ms) (hR : rm.frames + 1 ≤ R.frames ∧ 8 + (2 + 11) + rm.locals ≤ R.locals) : CallW R s args RX11 RX11 200 yX11_readDeed cX11_readDeed 2 (some .boolean) (wl yX11_readDeed cX11_readDeed 2 (some .boolean)) rm mc ms 0 := cwV 0 hts (gi_V t1660 t1662 s53 t18 t1663) rfl hrc hrs (by decide +kernel) hR
theorem dX11_readLine_25 : decode cX11_readLine 25 = .ok (.ireturn, 1) := by decide +kernel
theorem dX11_readLine_8 : decode cX11_readLine 8 = .ok (.aload_n 0, 1) := by decide +kernel
theorem dX11_readLine_9 : decode cX11_readLine 9 = .ok (.invokevirtual 197, 3) := by decide +kernel
theorem t1626 : Cond.methodLink RX11 197 yX11_readMan ∈ GW := gw_mem 1740 (by decide +kernel) (by decide +kernel)
theorem t1628 : Cond.instanceMethod yX11_readMan ∈ GW := gw_mem 1742 (by decide +kernel) (by decide +kernel)
theorem s46 : Cond.selects RX11 yX11_readMan yX11_readMan ∈ GW := gw_mem 46 (by decide +kernel) (by decide +kernel)
theorem cw_X11_197 {R : Room} {s : State} {args : Array Value} {rm : Room} {mc ms : Nat} (hts : ∀ w ∈ GW, w.before args s = true) (hrc : rm.cells = mc) (hrs : rm.slots = ms) (hR : rm.frames + 1 ≤ R.frames ∧ 8 + (2 + 11) + rm.locals ≤ R.locals) : CallW R s args RX11 RX11 197 yX11_readMan cX11_readMan 2 (some .boolean) (wl yX11_readMan cX11_readMan 2 (some .boolean)) rm mc ms 0 := cwV 0 hts (gi_V t1626 t1628 s46 t18 t1629) rfl hrc hrs (by decide +kernel) hR
theorem dX11_readLine_12 : decode cX11_readLine 12 = .ok (.ireturn, 1) := by decide +kernel
