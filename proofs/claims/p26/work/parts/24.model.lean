abbrev cX11_findIn : ByteArray := prog_13_method_28_code
def yX11_findIn : MethodName := ⟨RX11, "findIn", "([JIIJ)I"⟩
theorem t1648 : Cond.code yX11_findIn cX11_findIn 6 (some .int) ∈ GW := gw_mem 1762 (by decide +kernel) (by decide +kernel)
theorem dX11_findIn_0 : decode cX11_findIn 0 = .ok (.iconst 0, 1) := by decide +kernel
theorem dX11_findIn_1 : decode cX11_findIn 1 = .ok (.istore 5, 2) := by decide +kernel
theorem dX11_findIn_3 : decode cX11_findIn 3 = .ok (.iload 5, 2) := by decide +kernel
theorem dX11_findIn_5 : decode cX11_findIn 5 = .ok (.iload_n 2, 1) := by decide +kernel
theorem dX11_findIn_6 : decode cX11_findIn 6 = .ok (.if_icmp .ge 23, 3) := by decide +kernel
theorem dX11_findIn_29 : decode cX11_findIn 29 = .ok (.iconst (-1), 1) := by decide +kernel
theorem dX11_findIn_30 : decode cX11_findIn 30 = .ok (.ireturn, 1) := by decide +kernel
theorem dX11_findIn_9 : decode cX11_findIn 9 = .ok (.aload_n 0, 1) := by decide +kernel
theorem dX11_findIn_10 : decode cX11_findIn 10 = .ok (.iload_n 1, 1) := by decide +kernel
theorem dX11_findIn_11 : decode cX11_findIn 11 = .ok (.iload 5, 2) := by decide +kernel
theorem dX11_findIn_13 : decode cX11_findIn 13 = .ok (.iadd, 1) := by decide +kernel
theorem dX11_findIn_14 : decode cX11_findIn 14 = .ok (.laload, 1) := by decide +kernel
theorem dX11_findIn_15 : decode cX11_findIn 15 = .ok (.lload_n 3, 1) := by decide +kernel
theorem dX11_findIn_16 : decode cX11_findIn 16 = .ok (.lcmp, 1) := by decide +kernel
theorem dX11_findIn_17 : decode cX11_findIn 17 = .ok (.ifCond .ne 6, 3) := by decide +kernel
theorem dX11_findIn_23 : decode cX11_findIn 23 = .ok (.iinc 5 1, 3) := by decide +kernel
theorem dX11_findIn_26 : decode cX11_findIn 26 = .ok (.goto (-23), 3) := by decide +kernel
theorem dX11_findIn_20 : decode cX11_findIn 20 = .ok (.iload 5, 2) := by decide +kernel
theorem dX11_findIn_22 : decode cX11_findIn 22 = .ok (.ireturn, 1) := by decide +kernel
set_option maxHeartbeats 4000000 in
set_option maxRecDepth 100000 in
theorem m_findIn (l : Launch) (dC : Nat → ClassId) (dI : Nat → Nat → Nat) (cy : Nat → ClassId) (vq : Nat) (vqf : Nat → Int64) (vb : Int32) (vn : Int32) (vw : Int64) (r_vb : 0 ≤ (vb : Int32).toInt ∧ (vb : Int32).toInt ≤ 7) (r_vn : 0 ≤ (vn : Int32).toInt ∧ (vn : Int32).toInt ≤ 10) (hbn : (vb : Int32).toInt + (vn : Int32).toInt ≤ 17) : Met l yX11_findIn (wl yX11_findIn cX11_findIn 6 (some .int)) ({ frames := 0, cells := 0, slots := 0, locals := 0 }) (Pr (dC, dI) vwCl cy [(vq, .inl (cy 1, 17, .inr (.inl vqf)))] [.ref vq, .int vb, .int vn, .long vw]) (Ri (fun r => (-1 ≤ (r : Int32).toInt ∧ (r : Int32).toInt ≤ 9) ∧ ((r : Int32).toInt < (vn : Int32).toInt))) 0 0 (fun _ => False) := by
  refine mr RX11 rfl (by decide +kernel) (Nat.le_of_ble_eq_true rfl) ?_
  intro p e s m below meth c hx hb hr hlocks av9 hav hts hown hml hK hP hS Q9 hQ9 ls hl
  have hl : lv_has ls 6 [(0, .ref vq), (1, .int vb), (2, .int vn), (3, .long vw)] := hl
  refine lv_iconst (v := 0) hx hb dX11_findIn_0 (by decide) ?_
  refine lv_istore (lv' := [(5, .int 0), (0, .ref vq), (1, .int vb), (2, .int vn), (3, .long vw)]) hx hb dX11_findIn_1 hl (by decide) rfl (fun ls hl => ?_)
  have loop1 : ∀ (n1 : Nat) (x_2 : Int32), (0 ≤ x_2.toInt ∧ x_2.toInt ≤ 10) → 10 - x_2.toInt < (n1 : Int) → ∀ (H : Heap) (locs : List Loc), va_P (dC, dI) vwCl [(vq, .inl (cy 1, 17, .inr (.inl vqf)))] H → va_S (fun _ => False) s.heap H locs → ∀ ls : Array Slot, lv_has ls 6 [(5, .int x_2), (0, .ref vq), (1, .int vb), (2, .int vn), (3, .long vw)] → W p l e ({ frames := 0, cells := 0, slots := 0, locals := 0 }) s m av9 below meth c H locs 0 0 Q9 (F0 m 3 ls []) := by
    intro n1
    induction n1 with
    | zero =>
      intro x_2 bx_2 hn1 H locs hP hS ls hl
      exfalso; omega
    | succ n1 ih1 =>
      intro x_2 bx_2 hn1 H locs hP hS ls hl
      refine lv_iload hx hb dX11_findIn_3 (lv_at hl 0 rfl) ?_
      refine lv_iload_n hx hb dX11_findIn_5 rfl (lv_at hl 3 rfl) ?_
      refine lv_icmp_ge (tgt := 29) hx hb dX11_findIn_6 (by decide) (fun c_3 => ?_) (fun c_3 => ?_)
      · skip
        have c_3 : vn.toInt ≤ x_2.toInt := i_le.mp c_3
        refine lv_iconst (v := (-1)) hx hb dX11_findIn_29 (by decide) ?_
        have k_m1 : ((-1) : Int32).toInt = (-1) := by decide
        rw [hQ9]
        exact rr_i hx hb hr hlocks ⟨(show -1 ≤ (((-1) : Int32) : Int32).toInt ∧ (((-1) : Int32) : Int32).toInt ≤ 9 from ⟨by omega, by omega⟩), (show (((-1) : Int32) : Int32).toInt < (vn : Int32).toInt from (by omega))⟩ hS dX11_findIn_30
      · skip
        have c_3 : ¬ (vn.toInt ≤ x_2.toInt) := fun h9 => c_3 (i_le.mpr h9)
        refine lv_aload_n hx hb dX11_findIn_9 rfl (lv_at hl 1 rfl) ?_
        refine lv_iload_n hx hb dX11_findIn_10 rfl (lv_at hl 2 rfl) ?_
        refine lv_iload hx hb dX11_findIn_11 (lv_at hl 0 rfl) ?_
        refine lv_iadd hx hb dX11_findIn_13 ?_
        refine lv_topi (fun z_4 ez_4 => ?_)
        have bz_4 : z_4.toInt = vb.toInt + x_2.toInt := i_add ez_4 (by omega) (by omega)
        have hin_5 : vp_in z_4 17 := vp_in_iff.mpr ⟨by omega, by omega⟩
        refine va_lald hx hb hK hP 0 1 rfl rfl hin_5 dX11_findIn_14 ?_
        refine lv_topl (fun y_6 ey_6 => ?_)
        refine lv_lload_n hx hb dX11_findIn_15 rfl (lv_at hl 4 rfl) ?_
        refine W.lcmp hx hb dX11_findIn_16 ?_
        refine lv_topi (fun z_7 ez_7 => ?_)
        have k_0 : (0 : Int32).toInt = 0 := by decide
        refine lv_if_ne (tgt := 23) hx hb dX11_findIn_17 (by decide) (fun c_8 => ?_) (fun c_8 => ?_)
        · skip
          have c_8 : ¬ (z_7.toInt = (0 : Int32).toInt) := fun h9 => c_8 (i_eq.mpr h9)
          obtain ⟨z_9, ez_9⟩ : ∃ z : Int32, z = x_2 + 1 := ⟨_, rfl⟩
          have k_1 : (1 : Int32).toInt = 1 := by decide
          have bz_9 : z_9.toInt = x_2.toInt + (1 : Int32).toInt := i_add ez_9 (by omega) (by omega)
          refine lv_iinc (v := z_9) (lv' := [(5, .int z_9), (0, .ref vq), (1, .int vb), (2, .int vn), (3, .long vw)]) hx hb dX11_findIn_23 hl (k := 0) rfl ez_9.symm (by decide) rfl (fun ls hl => ?_)
          refine lv_goto (tgt := 3) hx hb dX11_findIn_26 (by decide) ?_
          exact ih1 z_9 ⟨by omega, by omega⟩ (by omega) _ _ (hP.sub [0] rfl) hS ls (lv_sub hl [0, 1, 2, 3, 4] rfl)
        · skip
          have c_8 : z_7.toInt = (0 : Int32).toInt := i_eq.mp c_8
          refine lv_iload hx hb dX11_findIn_20 (lv_at hl 0 rfl) ?_
          rw [hQ9]
          exact rr_i hx hb hr hlocks ⟨(show -1 ≤ (x_2 : Int32).toInt ∧ (x_2 : Int32).toInt ≤ 9 from ⟨by omega, by omega⟩), (show (x_2 : Int32).toInt < (vn : Int32).toInt from (by omega))⟩ hS dX11_findIn_22
  have k_0 : (0 : Int32).toInt = 0 := by decide
  exact loop1 ((10 - (0 : Int32).toInt).toNat + 1) 0 ⟨by omega, by omega⟩ (by omega) _ _ hP hS ls (lv_sub hl [0, 1, 2, 3, 4] rfl)
abbrev cX11_readNew : ByteArray := prog_13_method_29_code
def yX11_readNew : MethodName := ⟨RX11, "readNew", "(I)Z"⟩
theorem t1641 : Cond.code yX11_readNew cX11_readNew 2 (some .boolean) ∈ GW := gw_mem 1755 (by decide +kernel) (by decide +kernel)
abbrev O_m_readNew (cy : Nat → ClassId) (vo : Nat) (voth : Int32) (vmt : Nat) (votp : Int32) (vosz : Int32) (volm : Int32) (voto : Int32) (vofr : Int32) (vokd : Int32) (vonu : Int32) (vosg : Int32) (vofa : Int32) (vopl : Int32) (vowd : Int64) (votd : Int32) (vmn : Nat) (vmr : Nat) (vmk : Nat) (vms : Nat) (vma : Nat) (vmm : Nat) (vmrn : Nat) (vmkn : Nat) (vmik : Nat) (vmon : Nat) (vosm : Int32) (vohp : Int32) (vmw : Nat) (vmf : Nat) (vmb : Nat) (vomb : Int32) (vmd : Nat) (vmc : Nat) (vocm : Int32) (voct : Int32) (vocy : Int32) (vmx : Nat) (votx : Int32) (vose : Int32) (vml : Nat) (vmwr : Nat) (voln : Int32) (vohw : Int32) (vmno : Nat) (vond : Int32) (voon : Int32) (vowi : Int32) (votop : Int32) (vmtf : Nat → Int32) (vmrf : Nat → Int32) (vmrnf : Nat → Int64) (vsl : Int32) (u : Int32 × Int32 × Int32 × Int32 × Int64 × Int32 × Int32 × Int32 × (Nat → Int64)) : va_W := [(vo, .inr (12, [.int voth, .ref vmt, .int votp, .int vosz, .int volm, .int u.1, .int u.2.1, .int u.2.2.1, .int u.2.2.2.2.2.1, .int u.2.2.2.1, .int u.2.2.2.2.2.2.1, .int u.2.2.2.2.2.2.2.1, .long u.2.2.2.2.1, .int votd, .ref vmn, .ref vmr, .ref vmk, .ref vms, .ref vma, .ref vmm, .ref vmrn, .ref vmkn, .ref vmik, .ref vmon, .int vosm, .int vohp, .ref vmw, .ref vmf, .ref vmb, .int vomb, .ref vmd, .ref vmc, .int vocm, .int voct, .int vocy, .ref vmx, .int votx, .int vose, .ref vml, .ref vmwr, .int voln, .int vohw, .ref vmno, .int vond, .int voon, .int vowi, .int votop])), (vmt, .inl (cy 0, 940, .inl vmtf)), (vmr, .inl (cy 0, 157, .inl vmrf)), (vmrn, .inl (cy 1, 17, .inr (.inl u.2.2.2.2.2.2.2.2)))]
theorem dX11_readNew_0 : decode cX11_readNew 0 = .ok (.aload_n 0, 1) := by decide +kernel
theorem dX11_readNew_1 : decode cX11_readNew 1 = .ok (.invokevirtual 163, 3) := by decide +kernel
theorem t1642 : Cond.methodLink RX11 163 yX11_isName ∈ GW := gw_mem 1756 (by decide +kernel) (by decide +kernel)
theorem t1644 : Cond.instanceMethod yX11_isName ∈ GW := gw_mem 1758 (by decide +kernel) (by decide +kernel)
theorem s50 : Cond.selects RX11 yX11_isName yX11_isName ∈ GW := gw_mem 50 (by decide +kernel) (by decide +kernel)
theorem cw_X11_163 {R : Room} {s : State} {args : Array Value} {rm : Room} {mc ms : Nat} (hts : ∀ w ∈ GW, w.before args s = true) (hrc : rm.cells = mc) (hrs : rm.slots = ms) (hR : rm.frames + 1 ≤ R.frames ∧ 8 + (2 + 11) + rm.locals ≤ R.locals) : CallW R s args RX11 RX11 163 yX11_isName cX11_isName 2 (some .boolean) (wl yX11_isName cX11_isName 2 (some .boolean)) rm mc ms 0 := cwV 0 hts (gi_V t1642 t1644 s50 t18 t1645) rfl hrc hrs (by decide +kernel) hR
theorem dX11_readNew_4 : decode cX11_readNew 4 = .ok (.ifCond .ne 9, 3) := by decide +kernel
theorem dX11_readNew_7 : decode cX11_readNew 7 = .ok (.aload_n 0, 1) := by decide +kernel
theorem dX11_readNew_8 : decode cX11_readNew 8 = .ok (.iconst 1, 1) := by decide +kernel
theorem dX11_readNew_9 : decode cX11_readNew 9 = .ok (.invokevirtual 72, 3) := by decide +kernel
theorem dX11_readNew_12 : decode cX11_readNew 12 = .ok (.ireturn, 1) := by decide +kernel
theorem dX11_readNew_13 : decode cX11_readNew 13 = .ok (.aload_n 0, 1) := by decide +kernel
theorem dX11_readNew_14 : decode cX11_readNew 14 = .ok (.getfield 117, 3) := by decide +kernel
theorem t1462 : Cond.fieldLink RX11 117 "LikenessPoundModel" "readName" "[J" ∈ GW := gw_mem 1576 (by decide +kernel) (by decide +kernel)
theorem gf_X11_117 {p : Program} {l : Launch} {e : Env} {R : Room} {s : State} {m : MethodId} {args : Array Value} {below : List Frame} {meth : Method} {c : Code} {H : Heap} {locs : List Loc} {cells slots : Nat} {Q : State → Prop} {cc : ByteArray} {pc : Nat} {ls : Array Slot} {rest : List Value} {D : va_G} {a : Nat} {tys : List (ClassId × FieldType)} {ws : va_W} (hx : p.tables.exec = Jvm.exec) (hb : c.code = cc) (hts : ∀ w ∈ GW, w.before args s = true) (hown : s.vm.findClass RX11 = some m.cls) (hK : va_K D vwCl tys s) (hP : va_P D vwCl ws H) (q0 : Nat) {fs : List Value} (he : ws[q0]? = some (a, .inr (12, fs))) {v : Value} (hv : fs[20]? = some v) (hdg : decode cc pc = .ok (.getfield 117, 3)) (kk : W p l e R s m args below meth c H locs cells slots Q (F0 m (pc + 3) ls (v :: rest))) : W p l e R s m args below meth c H locs cells slots Q (F0 m pc ls (.ref a :: rest)) := va_get (C := RX11) (T := TX11) (N := 47) (ci := 12) hx hb hts inX11 hown hK hP q0 he rfl 20 (by decide) (hts _ t1462) (fun _ h => h) hv hdg kk
theorem dX11_readNew_17 : decode cX11_readNew 17 = .ok (.iconst 0, 1) := by decide +kernel
theorem dX11_readNew_18 : decode cX11_readNew 18 = .ok (.aload_n 0, 1) := by decide +kernel
theorem dX11_readNew_19 : decode cX11_readNew 19 = .ok (.getfield 101, 3) := by decide +kernel
theorem t1457 : Cond.fieldLink RX11 101 "LikenessPoundModel" "read" "[I" ∈ GW := gw_mem 1571 (by decide +kernel) (by decide +kernel)
theorem gf_X11_101 {p : Program} {l : Launch} {e : Env} {R : Room} {s : State} {m : MethodId} {args : Array Value} {below : List Frame} {meth : Method} {c : Code} {H : Heap} {locs : List Loc} {cells slots : Nat} {Q : State → Prop} {cc : ByteArray} {pc : Nat} {ls : Array Slot} {rest : List Value} {D : va_G} {a : Nat} {tys : List (ClassId × FieldType)} {ws : va_W} (hx : p.tables.exec = Jvm.exec) (hb : c.code = cc) (hts : ∀ w ∈ GW, w.before args s = true) (hown : s.vm.findClass RX11 = some m.cls) (hK : va_K D vwCl tys s) (hP : va_P D vwCl ws H) (q0 : Nat) {fs : List Value} (he : ws[q0]? = some (a, .inr (12, fs))) {v : Value} (hv : fs[15]? = some v) (hdg : decode cc pc = .ok (.getfield 101, 3)) (kk : W p l e R s m args below meth c H locs cells slots Q (F0 m (pc + 3) ls (v :: rest))) : W p l e R s m args below meth c H locs cells slots Q (F0 m pc ls (.ref a :: rest)) := va_get (C := RX11) (T := TX11) (N := 47) (ci := 12) hx hb hts inX11 hown hK hP q0 he rfl 15 (by decide) (hts _ t1457) (fun _ h => h) hv hdg kk
theorem dX11_readNew_22 : decode cX11_readNew 22 = .ok (.iconst 0, 1) := by decide +kernel
theorem dX11_readNew_23 : decode cX11_readNew 23 = .ok (.iaload, 1) := by decide +kernel
theorem dX11_readNew_24 : decode cX11_readNew 24 = .ok (.aload_n 0, 1) := by decide +kernel
theorem dX11_readNew_25 : decode cX11_readNew 25 = .ok (.getfield 43, 3) := by decide +kernel
theorem dX11_readNew_28 : decode cX11_readNew 28 = .ok (.invokestatic 167, 3) := by decide +kernel
theorem t1646 : Cond.methodLink RX11 167 yX11_findIn ∈ GW := gw_mem 1760 (by decide +kernel) (by decide +kernel)
theorem t1647 : Cond.static yX11_findIn ∈ GW := gw_mem 1761 (by decide +kernel) (by decide +kernel)
theorem cw_X11_167 {R : Room} {s : State} {args : Array Value} {rm : Room} {mc ms : Nat} (hts : ∀ w ∈ GW, w.before args s = true) (hrc : rm.cells = mc) (hrs : rm.slots = ms) (hR : rm.frames + 1 ≤ R.frames ∧ 8 + (6 + 11) + rm.locals ≤ R.locals) : CallB R s args RX11 167 yX11_findIn cX11_findIn 6 (some .int) (wl yX11_findIn cX11_findIn 6 (some .int)) rm mc ms 4 ∧ (Cond.static yX11_findIn).before args s = true := va_cwS 4 hts (gi_S t1646 t1647 t18 t1648) rfl hrc hrs (by decide +kernel) hR
theorem dX11_readNew_31 : decode cX11_readNew 31 = .ok (.iconst (-1), 1) := by decide +kernel
theorem dX11_readNew_32 : decode cX11_readNew 32 = .ok (.if_icmp .ne 26, 3) := by decide +kernel
theorem dX11_readNew_58 : decode cX11_readNew 58 = .ok (.aload_n 0, 1) := by decide +kernel
theorem dX11_readNew_59 : decode cX11_readNew 59 = .ok (.iconst 3, 1) := by decide +kernel
theorem dX11_readNew_60 : decode cX11_readNew 60 = .ok (.invokevirtual 72, 3) := by decide +kernel
theorem dX11_readNew_63 : decode cX11_readNew 63 = .ok (.ireturn, 1) := by decide +kernel
theorem dX11_readNew_35 : decode cX11_readNew 35 = .ok (.aload_n 0, 1) := by decide +kernel
theorem dX11_readNew_36 : decode cX11_readNew 36 = .ok (.getfield 117, 3) := by decide +kernel
theorem dX11_readNew_39 : decode cX11_readNew 39 = .ok (.bipush 7, 2) := by decide +kernel
theorem dX11_readNew_41 : decode cX11_readNew 41 = .ok (.aload_n 0, 1) := by decide +kernel
theorem dX11_readNew_42 : decode cX11_readNew 42 = .ok (.getfield 101, 3) := by decide +kernel
theorem dX11_readNew_45 : decode cX11_readNew 45 = .ok (.iconst 1, 1) := by decide +kernel
theorem dX11_readNew_46 : decode cX11_readNew 46 = .ok (.iaload, 1) := by decide +kernel
theorem dX11_readNew_47 : decode cX11_readNew 47 = .ok (.aload_n 0, 1) := by decide +kernel
theorem dX11_readNew_48 : decode cX11_readNew 48 = .ok (.getfield 43, 3) := by decide +kernel
theorem dX11_readNew_51 : decode cX11_readNew 51 = .ok (.invokestatic 167, 3) := by decide +kernel
theorem dX11_readNew_54 : decode cX11_readNew 54 = .ok (.iconst (-1), 1) := by decide +kernel
theorem dX11_readNew_55 : decode cX11_readNew 55 = .ok (.if_icmp .eq 9, 3) := by decide +kernel
theorem dX11_readNew_64 : decode cX11_readNew 64 = .ok (.aload_n 0, 1) := by decide +kernel
theorem dX11_readNew_65 : decode cX11_readNew 65 = .ok (.getfield 117, 3) := by decide +kernel
theorem dX11_readNew_68 : decode cX11_readNew 68 = .ok (.iload_n 1, 1) := by decide +kernel
theorem dX11_readNew_69 : decode cX11_readNew 69 = .ok (.aload_n 0, 1) := by decide +kernel
theorem dX11_readNew_70 : decode cX11_readNew 70 = .ok (.getfield 43, 3) := by decide +kernel
theorem dX11_readNew_73 : decode cX11_readNew 73 = .ok (.lastore, 1) := by decide +kernel
theorem dX11_readNew_74 : decode cX11_readNew 74 = .ok (.aload_n 0, 1) := by decide +kernel
theorem dX11_readNew_75 : decode cX11_readNew 75 = .ok (.invokevirtual 82, 3) := by decide +kernel
theorem dX11_readNew_78 : decode cX11_readNew 78 = .ok (.iconst 1, 1) := by decide +kernel
theorem dX11_readNew_79 : decode cX11_readNew 79 = .ok (.ireturn, 1) := by decide +kernel
set_option maxHeartbeats 4000000 in
set_option maxRecDepth 100000 in
theorem m_readNew (l : Launch) (dC : Nat → ClassId) (dI : Nat → Nat → Nat) (cy : Nat → ClassId) (sz : Nat) (vo : Nat) (voth : Int32) (vmt : Nat) (votp : Int32) (vosz : Int32) (volm : Int32) (voto : Int32) (vofr : Int32) (vokd : Int32) (vonu : Int32) (vosg : Int32) (vofa : Int32) (vopl : Int32) (vowd : Int64) (votd : Int32) (vmn : Nat) (vmr : Nat) (vmk : Nat) (vms : Nat) (vma : Nat) (vmm : Nat) (vmrn : Nat) (vmkn : Nat) (vmik : Nat) (vmon : Nat) (vosm : Int32) (vohp : Int32) (vmw : Nat) (vmf : Nat) (vmb : Nat) (vomb : Int32) (vmd : Nat) (vmc : Nat) (vocm : Int32) (voct : Int32) (vocy : Int32) (vmx : Nat) (votx : Int32) (vose : Int32) (vml : Nat) (vmwr : Nat) (voln : Int32) (vohw : Int32) (vmno : Nat) (vond : Int32) (voon : Int32) (vowi : Int32) (votop : Int32) (vmtf : Nat → Int32) (vmrf : Nat → Int32) (vmrnf : Nat → Int64) (vsl : Int32) (r_vosz : 0 ≤ (vosz : Int32).toInt ∧ (vosz : Int32).toInt ≤ 940) (r_voto : 0 ≤ (voto : Int32).toInt ∧ (voto : Int32).toInt ≤ 940) (r_vsl : 0 ≤ (vsl : Int32).toInt ∧ (vsl : Int32).toInt ≤ 16) (p_vmtf : Rg vmtf 940 0 255) (p_vmrf : RD vmrf) : Met l yX11_readNew (wl yX11_readNew cX11_readNew 2 (some .boolean)) ({ frames := 3, cells := 0, slots := 0, locals := 192 }) (Pw (dC, dI) vwCl cy [(vo, .inr (12, [.int voth, .ref vmt, .int votp, .int vosz, .int volm, .int voto, .int vofr, .int vokd, .int vonu, .int vosg, .int vofa, .int vopl, .long vowd, .int votd, .ref vmn, .ref vmr, .ref vmk, .ref vms, .ref vma, .ref vmm, .ref vmrn, .ref vmkn, .ref vmik, .ref vmon, .int vosm, .int vohp, .ref vmw, .ref vmf, .ref vmb, .int vomb, .ref vmd, .ref vmc, .int vocm, .int voct, .int vocy, .ref vmx, .int votx, .int vose, .ref vml, .ref vmwr, .int voln, .int vohw, .ref vmno, .int vond, .int voon, .int vowi, .int votop])), (vmt, .inl (cy 0, 940, .inl vmtf)), (vmr, .inl (cy 0, 157, .inl vmrf)), (vmrn, .inl (cy 1, 17, .inr (.inl vmrnf)))] sz [.ref vo, .int vsl] nE) (Qi (dC, dI) vwCl (fun (r : Int32) (u : Int32 × Int32 × Int32 × Int32 × Int64 × Int32 × Int32 × Int32 × (Nat → Int64)) => ((r = 0) ∨ (r = 1 ∧ ((u.2.2.1 : Int32).toInt = 0 ∨ (u.2.2.1 : Int32).toInt = 1 ∨ (voto : Int32).toInt + 1 ≤ (u.1 : Int32).toInt))) ∧ (0 ≤ (u.1 : Int32).toInt ∧ (u.1 : Int32).toInt ≤ 940) ∧ ((voto : Int32).toInt ≤ (u.1 : Int32).toInt)) (O_m_readNew cy vo voth vmt votp vosz volm voto vofr vokd vonu vosg vofa vopl vowd votd vmn vmr vmk vms vma vmm vmrn vmkn vmik vmon vosm vohp vmw vmf vmb vomb vmd vmc vocm voct vocy vmx votx vose vml vmwr voln vohw vmno vond voon vowi votop vmtf vmrf vmrnf vsl) (va_A [(vo, .inr (12, [.int voth, .ref vmt, .int votp, .int vosz, .int volm, .int voto, .int vofr, .int vokd, .int vonu, .int vosg, .int vofa, .int vopl, .long vowd, .int votd, .ref vmn, .ref vmr, .ref vmk, .ref vms, .ref vma, .ref vmm, .ref vmrn, .ref vmkn, .ref vmik, .ref vmon, .int vosm, .int vohp, .ref vmw, .ref vmf, .ref vmb, .int vomb, .ref vmd, .ref vmc, .int vocm, .int voct, .int vocy, .ref vmx, .int votx, .int vose, .ref vml, .ref vmwr, .int voln, .int vohw, .ref vmno, .int vond, .int voon, .int vowi, .int votop])), (vmt, .inl (cy 0, 940, .inl vmtf)), (vmr, .inl (cy 0, 157, .inl vmrf)), (vmrn, .inl (cy 1, 17, .inr (.inl vmrnf)))] sz)) 0 0 (va_A [(vo, .inr (12, [.int voth, .ref vmt, .int votp, .int vosz, .int volm, .int voto, .int vofr, .int vokd, .int vonu, .int vosg, .int vofa, .int vopl, .long vowd, .int votd, .ref vmn, .ref vmr, .ref vmk, .ref vms, .ref vma, .ref vmm, .ref vmrn, .ref vmkn, .ref vmik, .ref vmon, .int vosm, .int vohp, .ref vmw, .ref vmf, .ref vmb, .int vomb, .ref vmd, .ref vmc, .int vocm, .int voct, .int vocy, .ref vmx, .int votx, .int vose, .ref vml, .ref vmwr, .int voln, .int vohw, .ref vmno, .int vond, .int voon, .int vowi, .int votop])), (vmt, .inl (cy 0, 940, .inl vmtf)), (vmr, .inl (cy 0, 157, .inl vmrf)), (vmrn, .inl (cy 1, 17, .inr (.inl vmrnf)))] sz) := by
  refine mw (Qc := Qi (dC, dI) vwCl (fun (r : Int32) (u : Int32 × Int32 × Int32 × Int32 × Int64 × Int32 × Int32 × Int32 × (Nat → Int64)) => ((r = 0) ∨ (r = 1 ∧ ((u.2.2.1 : Int32).toInt = 0 ∨ (u.2.2.1 : Int32).toInt = 1 ∨ (voto : Int32).toInt + 1 ≤ (u.1 : Int32).toInt))) ∧ (0 ≤ (u.1 : Int32).toInt ∧ (u.1 : Int32).toInt ≤ 940) ∧ ((voto : Int32).toInt ≤ (u.1 : Int32).toInt)) (O_m_readNew cy vo voth vmt votp vosz volm voto vofr vokd vonu vosg vofa vopl vowd votd vmn vmr vmk vms vma vmm vmrn vmkn vmik vmon vosm vohp vmw vmf vmb vomb vmd vmc vocm voct vocy vmx votx vose vml vmwr voln vohw vmno vond voon vowi votop vmtf vmrf vmrnf vsl)) RX11 rfl (by decide +kernel) (Nat.le_of_ble_eq_true rfl) ?_
  intro p e s m below meth c A hx hb hr hlocks av9 hav hts hown hnm hml hK hP hD hA hS hE hAe Q9 hQ9 ls hl
  have hl : lv_has ls 2 [(0, .ref vo), (1, .int vsl)] := hl
  refine lv_aload_n hx hb dX11_readNew_0 rfl (lv_at hl 0 rfl) ?_
  refine jr_i (rVr (As := []) (rest := []) (ci := 12) ⟨hx, hb, hml, hown, hts⟩ (m_isName l dC dI cy vo voth vmt votp vosz volm voto vofr vokd vonu vosg vofa vopl vowd votd vmn vmr vmk vms vma vmm vmrn vmkn vmik vmon vosm vohp vmw vmf vmb vomb vmd vmc vocm voct vocy vmx votx vose vml vmwr voln vohw vmno vond voon vowi votop ) (cw_X11_163 hts rfl rfl ⟨Nat.le_of_ble_eq_true rfl, Nat.le_of_ble_eq_true rfl⟩) hP hK [0] rfl rfl rfl rfl hl.1 rfl (Nat.le_of_ble_eq_true rfl) dX11_readNew_1 ⟨Nat.le_of_ble_eq_true rfl, Nat.le_of_ble_eq_true rfl⟩) hP hS (fun r_1 H locs hp_2 hP hS => ?_)
  have hp_2 : ((r_1 = 0) ∨ (r_1 = 1)) := hp_2
  have q_3 := hp_2
  rcases q_3 with aq_3 | aq_3
  · skip
    refine as_i 0 aq_3 ?_
    refine lv_if_ne (tgt := 13) hx hb dX11_readNew_4 (by decide) (fun c9 => absurd c9 (by decide)) (fun _ => ?_)
    refine lv_aload_n hx hb dX11_readNew_7 rfl (lv_at hl 0 rfl) ?_
    refine lv_iconst (v := 1) hx hb dX11_readNew_8 (by decide) ?_
    have k_1 : (1 : Int32).toInt = 1 := by decide
    refine jn_i (wr := [(vmt, .inl (cy 0, 940, .inl vmtf)), (vmr, .inl (cy 0, 157, .inl vmrf)), (vmrn, .inl (cy 1, 17, .inr (.inl vmrnf)))]) (rV (As := [.int 1]) (rest := []) (ci := 12) ⟨hx, hb, hml, hown, hts⟩ (m_bad l dC dI cy _ vo voth vmt votp vosz volm voto vofr vokd vonu vosg vofa vopl vowd votd vmn vmr vmk vms vma vmm vmrn vmkn vmik vmon vosm vohp vmw vmf vmb vomb vmd vmc vocm voct vocy vmx votx vose vml vmwr voln vohw vmno vond voon vowi votop 1 ) (cw_X11_72 hts rfl rfl ⟨Nat.le_of_ble_eq_true rfl, Nat.le_of_ble_eq_true rfl⟩) hP hD hK [0] rfl rfl rfl rfl bl0 e0 rfl hl.1 rfl (Nat.le_of_ble_eq_true rfl) dX11_readNew_9 ⟨Nat.le_of_ble_eq_true rfl, Nat.le_of_ble_eq_true rfl⟩) hP hD hS hA [0] [1, 2, 3] rfl rfl rfl (by decide) (fun r_4 u_6 H locs hp_5 hP hD hS => ?_)
    obtain ⟨vofa_7, vopl_8⟩ := u_6
    have hp_5 : ((r_4 = 0)) := hp_5
    have q_9 := hp_5
    have hP : va_P (dC, dI) vwCl [(vmt, .inl (cy 0, 940, .inl vmtf)), (vmr, .inl (cy 0, 157, .inl vmrf)), (vmrn, .inl (cy 1, 17, .inr (.inl vmrnf))), (vo, .inr (12, [.int voth, .ref vmt, .int votp, .int vosz, .int volm, .int voto, .int vofr, .int vokd, .int vonu, .int vosg, .int vofa_7, .int vopl_8, .long vowd, .int votd, .ref vmn, .ref vmr, .ref vmk, .ref vms, .ref vma, .ref vmm, .ref vmrn, .ref vmkn, .ref vmik, .ref vmon, .int vosm, .int vohp, .ref vmw, .ref vmf, .ref vmb, .int vomb, .ref vmd, .ref vmc, .int vocm, .int voct, .int vocy, .ref vmx, .int votx, .int vose, .ref vml, .ref vmwr, .int voln, .int vohw, .ref vmno, .int vond, .int voon, .int vowi, .int votop]))] H := hP
    have hD : va_D A [(vmt, .inl (cy 0, 940, .inl vmtf)), (vmr, .inl (cy 0, 157, .inl vmrf)), (vmrn, .inl (cy 1, 17, .inr (.inl vmrnf))), (vo, .inr (12, [.int voth, .ref vmt, .int votp, .int vosz, .int volm, .int voto, .int vofr, .int vokd, .int vonu, .int vosg, .int vofa_7, .int vopl_8, .long vowd, .int votd, .ref vmn, .ref vmr, .ref vmk, .ref vms, .ref vma, .ref vmm, .ref vmrn, .ref vmkn, .ref vmik, .ref vmon, .int vosm, .int vohp, .ref vmw, .ref vmf, .ref vmb, .int vomb, .ref vmd, .ref vmc, .int vocm, .int voct, .int vocy, .ref vmx, .int votx, .int vose, .ref vml, .ref vmwr, .int voln, .int vohw, .ref vmno, .int vond, .int voon, .int vowi, .int votop]))] := hD
    have aq_9 := q_9
    · skip
      refine as_i 0 aq_9 ?_
      have k_0 : (0 : Int32).toInt = 0 := by decide
      rw [hQ9]
      exact re_z (voto, vofr, vokd, vosg, vowd, vonu, vofa_7, vopl_8, vmrnf) hx hb hr hlocks (Or.inl rfl) ⟨(show ((0 : Int32) = 0) ∨ ((0 : Int32) = 1 ∧ ((vokd : Int32).toInt = 0 ∨ (vokd : Int32).toInt = 1 ∨ (voto : Int32).toInt + 1 ≤ (voto : Int32).toInt)) from (Or.inl rfl)), (show 0 ≤ (voto : Int32).toInt ∧ (voto : Int32).toInt ≤ 940 from ⟨by omega, by omega⟩), (show (voto : Int32).toInt ≤ (voto : Int32).toInt from (by omega))⟩ (hP.sub [3, 0, 1, 2] rfl) (hD.sub [3, 0, 1, 2] rfl rfl) hS dX11_readNew_12
  · skip
    refine as_i 1 aq_3 ?_
    refine lv_if_ne (tgt := 13) hx hb dX11_readNew_4 (by decide) (fun _ => ?_) (fun c9 => absurd c9 (by decide))
    refine lv_aload_n hx hb dX11_readNew_13 rfl (lv_at hl 0 rfl) ?_
    refine gf_X11_117 hx hb hts hown hK hP 0 rfl rfl dX11_readNew_14 ?_
    refine lv_iconst (v := 0) hx hb dX11_readNew_17 (by decide) ?_
    refine lv_aload_n hx hb dX11_readNew_18 rfl (lv_at hl 0 rfl) ?_
    refine gf_X11_101 hx hb hts hown hK hP 0 rfl rfl dX11_readNew_19 ?_
    refine lv_iconst (v := 0) hx hb dX11_readNew_22 (by decide) ?_
    have k_0 : (0 : Int32).toInt = 0 := by decide
    have hin_10 : vp_in (0 : Int32) 157 := vp_in_iff.mpr ⟨by omega, by omega⟩
    refine va_iald hx hb hK hP 2 0 rfl rfl hin_10 dX11_readNew_23 ?_
    refine lv_topi (fun z_11 ez_11 => ?_)
    have bz_11 := p_vmrf.a0 (x := 0) ⟨by omega, by omega⟩ ez_11
    have tz_11 : z_11.toInt = (vmrf 0).toInt := by rw [ez_11]; rfl
    refine lv_aload_n hx hb dX11_readNew_24 rfl (lv_at hl 0 rfl) ?_
    refine gf_X11_43 hx hb hts hown hK hP 0 rfl rfl dX11_readNew_25 ?_
    refine jr_i (rSr (As := [.ref vmrn, .int 0, .int z_11, .long vowd]) (rest := []) ⟨hx, hb, hml, hown, hts⟩ (m_findIn l dC dI cy vmrn vmrnf 0 z_11 vowd ⟨by omega, by omega⟩ ⟨by omega, by omega⟩ (by omega)) (cw_X11_167 hts rfl rfl ⟨Nat.le_of_ble_eq_true rfl, Nat.le_of_ble_eq_true rfl⟩) hP hK [3] rfl rfl hl.1 rfl (Nat.le_of_ble_eq_true rfl) dX11_readNew_28 ⟨Nat.le_of_ble_eq_true rfl, Nat.le_of_ble_eq_true rfl⟩) hP hS (fun r_12 H locs hp_13 hP hS => ?_)
    have hp_13 : (-1 ≤ (r_12 : Int32).toInt ∧ (r_12 : Int32).toInt ≤ 9) ∧ ((r_12 : Int32).toInt < (z_11 : Int32).toInt) := hp_13
    obtain ⟨q_14, q_15⟩ := hp_13
    refine lv_iconst (v := (-1)) hx hb dX11_readNew_31 (by decide) ?_
    have k_m1 : ((-1) : Int32).toInt = (-1) := by decide
    refine lv_icmp_ne (tgt := 58) hx hb dX11_readNew_32 (by decide) (fun c_16 => ?_) (fun c_16 => ?_)
    · skip
      have c_16 : ¬ (r_12.toInt = ((-1) : Int32).toInt) := fun h9 => c_16 (i_eq.mpr h9)
      refine lv_aload_n hx hb dX11_readNew_58 rfl (lv_at hl 0 rfl) ?_
      refine lv_iconst (v := 3) hx hb dX11_readNew_59 (by decide) ?_
      have k_3 : (3 : Int32).toInt = 3 := by decide
      refine jn_i (wr := [(vmt, .inl (cy 0, 940, .inl vmtf)), (vmr, .inl (cy 0, 157, .inl vmrf)), (vmrn, .inl (cy 1, 17, .inr (.inl vmrnf)))]) (rV (As := [.int 3]) (rest := []) (ci := 12) ⟨hx, hb, hml, hown, hts⟩ (m_bad l dC dI cy _ vo voth vmt votp vosz volm voto vofr vokd vonu vosg vofa vopl vowd votd vmn vmr vmk vms vma vmm vmrn vmkn vmik vmon vosm vohp vmw vmf vmb vomb vmd vmc vocm voct vocy vmx votx vose vml vmwr voln vohw vmno vond voon vowi votop 3 ) (cw_X11_72 hts rfl rfl ⟨Nat.le_of_ble_eq_true rfl, Nat.le_of_ble_eq_true rfl⟩) hP hD hK [0] rfl rfl rfl rfl bl0 e0 rfl hl.1 rfl (Nat.le_of_ble_eq_true rfl) dX11_readNew_60 ⟨Nat.le_of_ble_eq_true rfl, Nat.le_of_ble_eq_true rfl⟩) hP hD hS hA [0] [1, 2, 3] rfl rfl rfl (by decide) (fun r_17 u_19 H locs hp_18 hP hD hS => ?_)
      obtain ⟨vofa_20, vopl_21⟩ := u_19
      have hp_18 : ((r_17 = 0)) := hp_18
      have q_22 := hp_18
      have hP : va_P (dC, dI) vwCl [(vmt, .inl (cy 0, 940, .inl vmtf)), (vmr, .inl (cy 0, 157, .inl vmrf)), (vmrn, .inl (cy 1, 17, .inr (.inl vmrnf))), (vo, .inr (12, [.int voth, .ref vmt, .int votp, .int vosz, .int volm, .int voto, .int vofr, .int vokd, .int vonu, .int vosg, .int vofa_20, .int vopl_21, .long vowd, .int votd, .ref vmn, .ref vmr, .ref vmk, .ref vms, .ref vma, .ref vmm, .ref vmrn, .ref vmkn, .ref vmik, .ref vmon, .int vosm, .int vohp, .ref vmw, .ref vmf, .ref vmb, .int vomb, .ref vmd, .ref vmc, .int vocm, .int voct, .int vocy, .ref vmx, .int votx, .int vose, .ref vml, .ref vmwr, .int voln, .int vohw, .ref vmno, .int vond, .int voon, .int vowi, .int votop]))] H := hP
      have hD : va_D A [(vmt, .inl (cy 0, 940, .inl vmtf)), (vmr, .inl (cy 0, 157, .inl vmrf)), (vmrn, .inl (cy 1, 17, .inr (.inl vmrnf))), (vo, .inr (12, [.int voth, .ref vmt, .int votp, .int vosz, .int volm, .int voto, .int vofr, .int vokd, .int vonu, .int vosg, .int vofa_20, .int vopl_21, .long vowd, .int votd, .ref vmn, .ref vmr, .ref vmk, .ref vms, .ref vma, .ref vmm, .ref vmrn, .ref vmkn, .ref vmik, .ref vmon, .int vosm, .int vohp, .ref vmw, .ref vmf, .ref vmb, .int vomb, .ref vmd, .ref vmc, .int vocm, .int voct, .int vocy, .ref vmx, .int votx, .int vose, .ref vml, .ref vmwr, .int voln, .int vohw, .ref vmno, .int vond, .int voon, .int vowi, .int votop]))] := hD
      have aq_22 := q_22
      · skip
        refine as_i 0 aq_22 ?_
        rw [hQ9]
        exact re_z (voto, vofr, vokd, vosg, vowd, vonu, vofa_20, vopl_21, vmrnf) hx hb hr hlocks (Or.inl rfl) ⟨(show ((0 : Int32) = 0) ∨ ((0 : Int32) = 1 ∧ ((vokd : Int32).toInt = 0 ∨ (vokd : Int32).toInt = 1 ∨ (voto : Int32).toInt + 1 ≤ (voto : Int32).toInt)) from (Or.inl rfl)), (show 0 ≤ (voto : Int32).toInt ∧ (voto : Int32).toInt ≤ 940 from ⟨by omega, by omega⟩), (show (voto : Int32).toInt ≤ (voto : Int32).toInt from (by omega))⟩ (hP.sub [3, 0, 1, 2] rfl) (hD.sub [3, 0, 1, 2] rfl rfl) hS dX11_readNew_63
    · skip
      have c_16 : r_12.toInt = ((-1) : Int32).toInt := i_eq.mp c_16
      refine lv_aload_n hx hb dX11_readNew_35 rfl (lv_at hl 0 rfl) ?_
      refine gf_X11_117 hx hb hts hown hK hP 0 rfl rfl dX11_readNew_36 ?_
      refine lv_bipush (v := 7) hx hb dX11_readNew_39 (by decide) ?_
      refine lv_aload_n hx hb dX11_readNew_41 rfl (lv_at hl 0 rfl) ?_
      refine gf_X11_101 hx hb hts hown hK hP 0 rfl rfl dX11_readNew_42 ?_
      refine lv_iconst (v := 1) hx hb dX11_readNew_45 (by decide) ?_
      have k_1 : (1 : Int32).toInt = 1 := by decide
      have hin_23 : vp_in (1 : Int32) 157 := vp_in_iff.mpr ⟨by omega, by omega⟩
      refine va_iald hx hb hK hP 2 0 rfl rfl hin_23 dX11_readNew_46 ?_
      refine lv_topi (fun z_24 ez_24 => ?_)
      have bz_24 := p_vmrf.a1 (x := 1) ⟨by omega, by omega⟩ ez_24
      have tz_24 : z_24.toInt = (vmrf 1).toInt := by rw [ez_24]; rfl
      refine lv_aload_n hx hb dX11_readNew_47 rfl (lv_at hl 0 rfl) ?_
      refine gf_X11_43 hx hb hts hown hK hP 0 rfl rfl dX11_readNew_48 ?_
      have k_7 : (7 : Int32).toInt = 7 := by decide
      refine jr_i (rSr (As := [.ref vmrn, .int 7, .int z_24, .long vowd]) (rest := []) ⟨hx, hb, hml, hown, hts⟩ (m_findIn l dC dI cy vmrn vmrnf 7 z_24 vowd ⟨by omega, by omega⟩ ⟨by omega, by omega⟩ (by omega)) (cw_X11_167 hts rfl rfl ⟨Nat.le_of_ble_eq_true rfl, Nat.le_of_ble_eq_true rfl⟩) hP hK [3] rfl rfl hl.1 rfl (Nat.le_of_ble_eq_true rfl) dX11_readNew_51 ⟨Nat.le_of_ble_eq_true rfl, Nat.le_of_ble_eq_true rfl⟩) hP hS (fun r_25 H locs hp_26 hP hS => ?_)
      have hp_26 : (-1 ≤ (r_25 : Int32).toInt ∧ (r_25 : Int32).toInt ≤ 9) ∧ ((r_25 : Int32).toInt < (z_24 : Int32).toInt) := hp_26
      obtain ⟨q_27, q_28⟩ := hp_26
      refine lv_iconst (v := (-1)) hx hb dX11_readNew_54 (by decide) ?_
      refine lv_icmp_eq (tgt := 64) hx hb dX11_readNew_55 (by decide) (fun c_29 => ?_) (fun c_29 => ?_)
      · skip
        have c_29 : r_25.toInt = ((-1) : Int32).toInt := i_eq.mp c_29
        refine lv_aload_n hx hb dX11_readNew_64 rfl (lv_at hl 0 rfl) ?_
        refine gf_X11_117 hx hb hts hown hK hP 0 rfl rfl dX11_readNew_65 ?_
        refine lv_iload_n hx hb dX11_readNew_68 rfl (lv_at hl 1 rfl) ?_
        refine lv_aload_n hx hb dX11_readNew_69 rfl (lv_at hl 0 rfl) ?_
        refine gf_X11_43 hx hb hts hown hK hP 0 rfl rfl dX11_readNew_70 ?_
        have hin_30 : vp_in vsl 17 := vp_in_iff.mpr ⟨by omega, by omega⟩
        refine va_last hx hb hK hP hD hS 3 1 rfl rfl hin_30 dX11_readNew_73 (fun H locs hP hD hS => ?_)
        obtain ⟨f_31, ef_31⟩ : ∃ z : Nat → Int64, z = vp_updL vmrnf (Int32.toNatClampNeg vsl) vowd := ⟨_, rfl⟩
        have hP : va_P (dC, dI) vwCl [(vo, .inr (12, [.int voth, .ref vmt, .int votp, .int vosz, .int volm, .int voto, .int vofr, .int vokd, .int vonu, .int vosg, .int vofa, .int vopl, .long vowd, .int votd, .ref vmn, .ref vmr, .ref vmk, .ref vms, .ref vma, .ref vmm, .ref vmrn, .ref vmkn, .ref vmik, .ref vmon, .int vosm, .int vohp, .ref vmw, .ref vmf, .ref vmb, .int vomb, .ref vmd, .ref vmc, .int vocm, .int voct, .int vocy, .ref vmx, .int votx, .int vose, .ref vml, .ref vmwr, .int voln, .int vohw, .ref vmno, .int vond, .int voon, .int vowi, .int votop])), (vmt, .inl (cy 0, 940, .inl vmtf)), (vmr, .inl (cy 0, 157, .inl vmrf)), (vmrn, .inl (cy 1, 17, .inr (.inl f_31)))] H := by rw [ef_31]; exact hP
        have hD : va_D A [(vo, .inr (12, [.int voth, .ref vmt, .int votp, .int vosz, .int volm, .int voto, .int vofr, .int vokd, .int vonu, .int vosg, .int vofa, .int vopl, .long vowd, .int votd, .ref vmn, .ref vmr, .ref vmk, .ref vms, .ref vma, .ref vmm, .ref vmrn, .ref vmkn, .ref vmik, .ref vmon, .int vosm, .int vohp, .ref vmw, .ref vmf, .ref vmb, .int vomb, .ref vmd, .ref vmc, .int vocm, .int voct, .int vocy, .ref vmx, .int votx, .int vose, .ref vml, .ref vmwr, .int voln, .int vohw, .ref vmno, .int vond, .int voon, .int vowi, .int votop])), (vmt, .inl (cy 0, 940, .inl vmtf)), (vmr, .inl (cy 0, 157, .inl vmrf)), (vmrn, .inl (cy 1, 17, .inr (.inl f_31)))] := by rw [ef_31]; exact hD
        refine lv_aload_n hx hb dX11_readNew_74 rfl (lv_at hl 0 rfl) ?_
        refine jn_v (wr := [(vmr, .inl (cy 0, 157, .inl vmrf)), (vmrn, .inl (cy 1, 17, .inr (.inl f_31)))]) (rV (As := []) (rest := []) (ci := 12) ⟨hx, hb, hml, hown, hts⟩ (m_go l dC dI cy _ vo voth vmt votp vosz volm voto vofr vokd vonu vosg vofa vopl vowd votd vmn vmr vmk vms vma vmm vmrn vmkn vmik vmon vosm vohp vmw vmf vmb vomb vmd vmc vocm voct vocy vmx votx vose vml vmwr voln vohw vmno vond voon vowi votop vmtf r_vosz r_voto p_vmtf) (cw_X11_82 hts rfl rfl ⟨Nat.le_of_ble_eq_true rfl, Nat.le_of_ble_eq_true rfl⟩) hP hD hK [0, 1] rfl rfl rfl rfl bl0 e0 rfl hl.1 rfl (Nat.le_of_ble_eq_true rfl) dX11_readNew_75 ⟨Nat.le_of_ble_eq_true rfl, Nat.le_of_ble_eq_true rfl⟩) hP hD hS hA [0, 1] [2, 3] rfl rfl rfl (by decide) (fun u_34 H locs hp_33 hP hD hS => ?_)
        obtain ⟨voto_35, vofr_36, vokd_37, vosg_38, vowd_39, vonu_40⟩ := u_34
        have hp_33 : (0 ≤ (voto_35 : Int32).toInt ∧ (voto_35 : Int32).toInt ≤ 940) ∧ ((voto : Int32).toInt ≤ (voto_35 : Int32).toInt) ∧ (((vokd_37 : Int32).toInt = 0 ∨ (vokd_37 : Int32).toInt = 1 ∨ (voto : Int32).toInt + 1 ≤ (voto_35 : Int32).toInt)) := hp_33
        obtain ⟨q_41, q_42, q_43⟩ := hp_33
        have hP : va_P (dC, dI) vwCl [(vmr, .inl (cy 0, 157, .inl vmrf)), (vmrn, .inl (cy 1, 17, .inr (.inl f_31))), (vo, .inr (12, [.int voth, .ref vmt, .int votp, .int vosz, .int volm, .int voto_35, .int vofr_36, .int vokd_37, .int vonu_40, .int vosg_38, .int vofa, .int vopl, .long vowd_39, .int votd, .ref vmn, .ref vmr, .ref vmk, .ref vms, .ref vma, .ref vmm, .ref vmrn, .ref vmkn, .ref vmik, .ref vmon, .int vosm, .int vohp, .ref vmw, .ref vmf, .ref vmb, .int vomb, .ref vmd, .ref vmc, .int vocm, .int voct, .int vocy, .ref vmx, .int votx, .int vose, .ref vml, .ref vmwr, .int voln, .int vohw, .ref vmno, .int vond, .int voon, .int vowi, .int votop])), (vmt, .inl (cy 0, 940, .inl vmtf))] H := hP
        have hD : va_D A [(vmr, .inl (cy 0, 157, .inl vmrf)), (vmrn, .inl (cy 1, 17, .inr (.inl f_31))), (vo, .inr (12, [.int voth, .ref vmt, .int votp, .int vosz, .int volm, .int voto_35, .int vofr_36, .int vokd_37, .int vonu_40, .int vosg_38, .int vofa, .int vopl, .long vowd_39, .int votd, .ref vmn, .ref vmr, .ref vmk, .ref vms, .ref vma, .ref vmm, .ref vmrn, .ref vmkn, .ref vmik, .ref vmon, .int vosm, .int vohp, .ref vmw, .ref vmf, .ref vmb, .int vomb, .ref vmd, .ref vmc, .int vocm, .int voct, .int vocy, .ref vmx, .int votx, .int vose, .ref vml, .ref vmwr, .int voln, .int vohw, .ref vmno, .int vond, .int voon, .int vowi, .int votop])), (vmt, .inl (cy 0, 940, .inl vmtf))] := hD
        refine lv_iconst (v := 1) hx hb dX11_readNew_78 (by decide) ?_
        rw [hQ9]
        exact re_z (voto_35, vofr_36, vokd_37, vosg_38, vowd_39, vonu_40, vofa, vopl, f_31) hx hb hr hlocks (Or.inr rfl) ⟨(show ((1 : Int32) = 0) ∨ ((1 : Int32) = 1 ∧ ((vokd_37 : Int32).toInt = 0 ∨ (vokd_37 : Int32).toInt = 1 ∨ (voto : Int32).toInt + 1 ≤ (voto_35 : Int32).toInt)) from (Or.inr (⟨rfl, by omega⟩))), (show 0 ≤ (voto_35 : Int32).toInt ∧ (voto_35 : Int32).toInt ≤ 940 from ⟨by omega, by omega⟩), (show (voto : Int32).toInt ≤ (voto_35 : Int32).toInt from q_42)⟩ (hP.sub [2, 3, 0, 1] rfl) (hD.sub [2, 3, 0, 1] rfl rfl) hS dX11_readNew_79
      · skip
        have c_29 : ¬ (r_25.toInt = ((-1) : Int32).toInt) := fun h9 => c_29 (i_eq.mpr h9)
        refine lv_aload_n hx hb dX11_readNew_58 rfl (lv_at hl 0 rfl) ?_
        refine lv_iconst (v := 3) hx hb dX11_readNew_59 (by decide) ?_
        have k_3 : (3 : Int32).toInt = 3 := by decide
        refine jn_i (wr := [(vmt, .inl (cy 0, 940, .inl vmtf)), (vmr, .inl (cy 0, 157, .inl vmrf)), (vmrn, .inl (cy 1, 17, .inr (.inl vmrnf)))]) (rV (As := [.int 3]) (rest := []) (ci := 12) ⟨hx, hb, hml, hown, hts⟩ (m_bad l dC dI cy _ vo voth vmt votp vosz volm voto vofr vokd vonu vosg vofa vopl vowd votd vmn vmr vmk vms vma vmm vmrn vmkn vmik vmon vosm vohp vmw vmf vmb vomb vmd vmc vocm voct vocy vmx votx vose vml vmwr voln vohw vmno vond voon vowi votop 3 ) (cw_X11_72 hts rfl rfl ⟨Nat.le_of_ble_eq_true rfl, Nat.le_of_ble_eq_true rfl⟩) hP hD hK [0] rfl rfl rfl rfl bl0 e0 rfl hl.1 rfl (Nat.le_of_ble_eq_true rfl) dX11_readNew_60 ⟨Nat.le_of_ble_eq_true rfl, Nat.le_of_ble_eq_true rfl⟩) hP hD hS hA [0] [1, 2, 3] rfl rfl rfl (by decide) (fun r_44 u_46 H locs hp_45 hP hD hS => ?_)
        obtain ⟨vofa_47, vopl_48⟩ := u_46
        have hp_45 : ((r_44 = 0)) := hp_45
        have q_49 := hp_45
        have hP : va_P (dC, dI) vwCl [(vmt, .inl (cy 0, 940, .inl vmtf)), (vmr, .inl (cy 0, 157, .inl vmrf)), (vmrn, .inl (cy 1, 17, .inr (.inl vmrnf))), (vo, .inr (12, [.int voth, .ref vmt, .int votp, .int vosz, .int volm, .int voto, .int vofr, .int vokd, .int vonu, .int vosg, .int vofa_47, .int vopl_48, .long vowd, .int votd, .ref vmn, .ref vmr, .ref vmk, .ref vms, .ref vma, .ref vmm, .ref vmrn, .ref vmkn, .ref vmik, .ref vmon, .int vosm, .int vohp, .ref vmw, .ref vmf, .ref vmb, .int vomb, .ref vmd, .ref vmc, .int vocm, .int voct, .int vocy, .ref vmx, .int votx, .int vose, .ref vml, .ref vmwr, .int voln, .int vohw, .ref vmno, .int vond, .int voon, .int vowi, .int votop]))] H := hP
        have hD : va_D A [(vmt, .inl (cy 0, 940, .inl vmtf)), (vmr, .inl (cy 0, 157, .inl vmrf)), (vmrn, .inl (cy 1, 17, .inr (.inl vmrnf))), (vo, .inr (12, [.int voth, .ref vmt, .int votp, .int vosz, .int volm, .int voto, .int vofr, .int vokd, .int vonu, .int vosg, .int vofa_47, .int vopl_48, .long vowd, .int votd, .ref vmn, .ref vmr, .ref vmk, .ref vms, .ref vma, .ref vmm, .ref vmrn, .ref vmkn, .ref vmik, .ref vmon, .int vosm, .int vohp, .ref vmw, .ref vmf, .ref vmb, .int vomb, .ref vmd, .ref vmc, .int vocm, .int voct, .int vocy, .ref vmx, .int votx, .int vose, .ref vml, .ref vmwr, .int voln, .int vohw, .ref vmno, .int vond, .int voon, .int vowi, .int votop]))] := hD
        have aq_49 := q_49
        · skip
          refine as_i 0 aq_49 ?_
          rw [hQ9]
          exact re_z (voto, vofr, vokd, vosg, vowd, vonu, vofa_47, vopl_48, vmrnf) hx hb hr hlocks (Or.inl rfl) ⟨(show ((0 : Int32) = 0) ∨ ((0 : Int32) = 1 ∧ ((vokd : Int32).toInt = 0 ∨ (vokd : Int32).toInt = 1 ∨ (voto : Int32).toInt + 1 ≤ (voto : Int32).toInt)) from (Or.inl rfl)), (show 0 ≤ (voto : Int32).toInt ∧ (voto : Int32).toInt ≤ 940 from ⟨by omega, by omega⟩), (show (voto : Int32).toInt ≤ (voto : Int32).toInt from (by omega))⟩ (hP.sub [3, 0, 1, 2] rfl) (hD.sub [3, 0, 1, 2] rfl rfl) hS dX11_readNew_63
abbrev cX11_isOne : ByteArray := prog_13_method_30_code
def yX11_isOne : MethodName := ⟨RX11, "isOne", "(II)Z"⟩
theorem t1671 : Cond.code yX11_isOne cX11_isOne 3 (some .boolean) ∈ GW := gw_mem 1785 (by decide +kernel) (by decide +kernel)
abbrev O_m_isOne (cy : Nat → ClassId) (vo : Nat) (voth : Int32) (vmt : Nat) (votp : Int32) (vosz : Int32) (volm : Int32) (voto : Int32) (vofr : Int32) (vokd : Int32) (vonu : Int32) (vosg : Int32) (vofa : Int32) (vopl : Int32) (vowd : Int64) (votd : Int32) (vmn : Nat) (vmr : Nat) (vmk : Nat) (vms : Nat) (vma : Nat) (vmm : Nat) (vmrn : Nat) (vmkn : Nat) (vmik : Nat) (vmon : Nat) (vosm : Int32) (vohp : Int32) (vmw : Nat) (vmf : Nat) (vmb : Nat) (vomb : Int32) (vmd : Nat) (vmc : Nat) (vocm : Int32) (voct : Int32) (vocy : Int32) (vmx : Nat) (votx : Int32) (vose : Int32) (vml : Nat) (vmwr : Nat) (voln : Int32) (vohw : Int32) (vmno : Nat) (vond : Int32) (voon : Int32) (vowi : Int32) (votop : Int32) (vmrnf : Nat → Int64) (vb : Int32) (vn : Int32) (u : Int32 × Int32 × Int32) : va_W := [(vo, .inr (12, [.int voth, .ref vmt, .int votp, .int vosz, .int volm, .int voto, .int vofr, .int vokd, .int vonu, .int vosg, .int u.1, .int u.2.1, .long vowd, .int u.2.2, .ref vmn, .ref vmr, .ref vmk, .ref vms, .ref vma, .ref vmm, .ref vmrn, .ref vmkn, .ref vmik, .ref vmon, .int vosm, .int vohp, .ref vmw, .ref vmf, .ref vmb, .int vomb, .ref vmd, .ref vmc, .int vocm, .int voct, .int vocy, .ref vmx, .int votx, .int vose, .ref vml, .ref vmwr, .int voln, .int vohw, .ref vmno, .int vond, .int voon, .int vowi, .int votop])), (vmrn, .inl (cy 1, 17, .inr (.inl vmrnf)))]
theorem dX11_isOne_0 : decode cX11_isOne 0 = .ok (.aload_n 0, 1) := by decide +kernel
theorem dX11_isOne_1 : decode cX11_isOne 1 = .ok (.invokevirtual 163, 3) := by decide +kernel
theorem dX11_isOne_4 : decode cX11_isOne 4 = .ok (.ifCond .ne 9, 3) := by decide +kernel
theorem dX11_isOne_7 : decode cX11_isOne 7 = .ok (.aload_n 0, 1) := by decide +kernel
theorem dX11_isOne_8 : decode cX11_isOne 8 = .ok (.iconst 1, 1) := by decide +kernel
theorem dX11_isOne_9 : decode cX11_isOne 9 = .ok (.invokevirtual 72, 3) := by decide +kernel
theorem dX11_isOne_12 : decode cX11_isOne 12 = .ok (.ireturn, 1) := by decide +kernel
theorem dX11_isOne_13 : decode cX11_isOne 13 = .ok (.aload_n 0, 1) := by decide +kernel
theorem dX11_isOne_14 : decode cX11_isOne 14 = .ok (.aload_n 0, 1) := by decide +kernel
theorem dX11_isOne_15 : decode cX11_isOne 15 = .ok (.getfield 117, 3) := by decide +kernel
theorem dX11_isOne_18 : decode cX11_isOne 18 = .ok (.iload_n 1, 1) := by decide +kernel
theorem dX11_isOne_19 : decode cX11_isOne 19 = .ok (.iload_n 2, 1) := by decide +kernel
theorem dX11_isOne_20 : decode cX11_isOne 20 = .ok (.aload_n 0, 1) := by decide +kernel
theorem dX11_isOne_21 : decode cX11_isOne 21 = .ok (.getfield 43, 3) := by decide +kernel
theorem dX11_isOne_24 : decode cX11_isOne 24 = .ok (.invokestatic 167, 3) := by decide +kernel
theorem dX11_isOne_27 : decode cX11_isOne 27 = .ok (.putfield 79, 3) := by decide +kernel
theorem dX11_isOne_30 : decode cX11_isOne 30 = .ok (.aload_n 0, 1) := by decide +kernel
theorem dX11_isOne_31 : decode cX11_isOne 31 = .ok (.getfield 79, 3) := by decide +kernel
theorem gf_X11_79 {p : Program} {l : Launch} {e : Env} {R : Room} {s : State} {m : MethodId} {args : Array Value} {below : List Frame} {meth : Method} {c : Code} {H : Heap} {locs : List Loc} {cells slots : Nat} {Q : State → Prop} {cc : ByteArray} {pc : Nat} {ls : Array Slot} {rest : List Value} {D : va_G} {a : Nat} {tys : List (ClassId × FieldType)} {ws : va_W} (hx : p.tables.exec = Jvm.exec) (hb : c.code = cc) (hts : ∀ w ∈ GW, w.before args s = true) (hown : s.vm.findClass RX11 = some m.cls) (hK : va_K D vwCl tys s) (hP : va_P D vwCl ws H) (q0 : Nat) {fs : List Value} (he : ws[q0]? = some (a, .inr (12, fs))) {v : Value} (hv : fs[13]? = some v) (hdg : decode cc pc = .ok (.getfield 79, 3)) (kk : W p l e R s m args below meth c H locs cells slots Q (F0 m (pc + 3) ls (v :: rest))) : W p l e R s m args below meth c H locs cells slots Q (F0 m pc ls (.ref a :: rest)) := va_get (C := RX11) (T := TX11) (N := 47) (ci := 12) hx hb hts inX11 hown hK hP q0 he rfl 13 (by decide) (hts _ t1455) (fun _ h => h) hv hdg kk
theorem dX11_isOne_34 : decode cX11_isOne 34 = .ok (.iconst (-1), 1) := by decide +kernel
theorem dX11_isOne_35 : decode cX11_isOne 35 = .ok (.if_icmp .ne 11, 3) := by decide +kernel
theorem dX11_isOne_46 : decode cX11_isOne 46 = .ok (.iconst 1, 1) := by decide +kernel
theorem dX11_isOne_47 : decode cX11_isOne 47 = .ok (.goto 4, 3) := by decide +kernel
theorem dX11_isOne_51 : decode cX11_isOne 51 = .ok (.ireturn, 1) := by decide +kernel
theorem dX11_isOne_38 : decode cX11_isOne 38 = .ok (.aload_n 0, 1) := by decide +kernel
theorem dX11_isOne_39 : decode cX11_isOne 39 = .ok (.iconst 3, 1) := by decide +kernel
theorem dX11_isOne_40 : decode cX11_isOne 40 = .ok (.invokevirtual 72, 3) := by decide +kernel
theorem dX11_isOne_43 : decode cX11_isOne 43 = .ok (.ifCond .eq 7, 3) := by decide +kernel
theorem dX11_isOne_50 : decode cX11_isOne 50 = .ok (.iconst 0, 1) := by decide +kernel
set_option maxHeartbeats 4000000 in
set_option maxRecDepth 100000 in
theorem m_isOne (l : Launch) (dC : Nat → ClassId) (dI : Nat → Nat → Nat) (cy : Nat → ClassId) (sz : Nat) (vo : Nat) (voth : Int32) (vmt : Nat) (votp : Int32) (vosz : Int32) (volm : Int32) (voto : Int32) (vofr : Int32) (vokd : Int32) (vonu : Int32) (vosg : Int32) (vofa : Int32) (vopl : Int32) (vowd : Int64) (votd : Int32) (vmn : Nat) (vmr : Nat) (vmk : Nat) (vms : Nat) (vma : Nat) (vmm : Nat) (vmrn : Nat) (vmkn : Nat) (vmik : Nat) (vmon : Nat) (vosm : Int32) (vohp : Int32) (vmw : Nat) (vmf : Nat) (vmb : Nat) (vomb : Int32) (vmd : Nat) (vmc : Nat) (vocm : Int32) (voct : Int32) (vocy : Int32) (vmx : Nat) (votx : Int32) (vose : Int32) (vml : Nat) (vmwr : Nat) (voln : Int32) (vohw : Int32) (vmno : Nat) (vond : Int32) (voon : Int32) (vowi : Int32) (votop : Int32) (vmrnf : Nat → Int64) (vb : Int32) (vn : Int32) (r_votd : -1 ≤ (votd : Int32).toInt ∧ (votd : Int32).toInt ≤ 999) (r_vb : 0 ≤ (vb : Int32).toInt ∧ (vb : Int32).toInt ≤ 7) (r_vn : 0 ≤ (vn : Int32).toInt ∧ (vn : Int32).toInt ≤ 10) (hbn : (vb : Int32).toInt + (vn : Int32).toInt ≤ 17) : Met l yX11_isOne (wl yX11_isOne cX11_isOne 3 (some .boolean)) ({ frames := 3, cells := 0, slots := 0, locals := 192 }) (Pw (dC, dI) vwCl cy [(vo, .inr (12, [.int voth, .ref vmt, .int votp, .int vosz, .int volm, .int voto, .int vofr, .int vokd, .int vonu, .int vosg, .int vofa, .int vopl, .long vowd, .int votd, .ref vmn, .ref vmr, .ref vmk, .ref vms, .ref vma, .ref vmm, .ref vmrn, .ref vmkn, .ref vmik, .ref vmon, .int vosm, .int vohp, .ref vmw, .ref vmf, .ref vmb, .int vomb, .ref vmd, .ref vmc, .int vocm, .int voct, .int vocy, .ref vmx, .int votx, .int vose, .ref vml, .ref vmwr, .int voln, .int vohw, .ref vmno, .int vond, .int voon, .int vowi, .int votop])), (vmrn, .inl (cy 1, 17, .inr (.inl vmrnf)))] sz [.ref vo, .int vb, .int vn] nE) (Qi (dC, dI) vwCl (fun (r : Int32) (u : Int32 × Int32 × Int32) => ((r = 0) ∨ (r = 1 ∧ 0 ≤ (u.2.2 : Int32).toInt ∧ (u.2.2 : Int32).toInt < (vn : Int32).toInt)) ∧ (-1 ≤ (u.2.2 : Int32).toInt ∧ (u.2.2 : Int32).toInt ≤ 999)) (O_m_isOne cy vo voth vmt votp vosz volm voto vofr vokd vonu vosg vofa vopl vowd votd vmn vmr vmk vms vma vmm vmrn vmkn vmik vmon vosm vohp vmw vmf vmb vomb vmd vmc vocm voct vocy vmx votx vose vml vmwr voln vohw vmno vond voon vowi votop vmrnf vb vn) (va_A [(vo, .inr (12, [.int voth, .ref vmt, .int votp, .int vosz, .int volm, .int voto, .int vofr, .int vokd, .int vonu, .int vosg, .int vofa, .int vopl, .long vowd, .int votd, .ref vmn, .ref vmr, .ref vmk, .ref vms, .ref vma, .ref vmm, .ref vmrn, .ref vmkn, .ref vmik, .ref vmon, .int vosm, .int vohp, .ref vmw, .ref vmf, .ref vmb, .int vomb, .ref vmd, .ref vmc, .int vocm, .int voct, .int vocy, .ref vmx, .int votx, .int vose, .ref vml, .ref vmwr, .int voln, .int vohw, .ref vmno, .int vond, .int voon, .int vowi, .int votop])), (vmrn, .inl (cy 1, 17, .inr (.inl vmrnf)))] sz)) 0 0 (va_A [(vo, .inr (12, [.int voth, .ref vmt, .int votp, .int vosz, .int volm, .int voto, .int vofr, .int vokd, .int vonu, .int vosg, .int vofa, .int vopl, .long vowd, .int votd, .ref vmn, .ref vmr, .ref vmk, .ref vms, .ref vma, .ref vmm, .ref vmrn, .ref vmkn, .ref vmik, .ref vmon, .int vosm, .int vohp, .ref vmw, .ref vmf, .ref vmb, .int vomb, .ref vmd, .ref vmc, .int vocm, .int voct, .int vocy, .ref vmx, .int votx, .int vose, .ref vml, .ref vmwr, .int voln, .int vohw, .ref vmno, .int vond, .int voon, .int vowi, .int votop])), (vmrn, .inl (cy 1, 17, .inr (.inl vmrnf)))] sz) := by
  refine mw (Qc := Qi (dC, dI) vwCl (fun (r : Int32) (u : Int32 × Int32 × Int32) => ((r = 0) ∨ (r = 1 ∧ 0 ≤ (u.2.2 : Int32).toInt ∧ (u.2.2 : Int32).toInt < (vn : Int32).toInt)) ∧ (-1 ≤ (u.2.2 : Int32).toInt ∧ (u.2.2 : Int32).toInt ≤ 999)) (O_m_isOne cy vo voth vmt votp vosz volm voto vofr vokd vonu vosg vofa vopl vowd votd vmn vmr vmk vms vma vmm vmrn vmkn vmik vmon vosm vohp vmw vmf vmb vomb vmd vmc vocm voct vocy vmx votx vose vml vmwr voln vohw vmno vond voon vowi votop vmrnf vb vn)) RX11 rfl (by decide +kernel) (Nat.le_of_ble_eq_true rfl) ?_
  intro p e s m below meth c A hx hb hr hlocks av9 hav hts hown hnm hml hK hP hD hA hS hE hAe Q9 hQ9 ls hl
  have hl : lv_has ls 3 [(0, .ref vo), (1, .int vb), (2, .int vn)] := hl
  refine lv_aload_n hx hb dX11_isOne_0 rfl (lv_at hl 0 rfl) ?_
  refine jr_i (rVr (As := []) (rest := []) (ci := 12) ⟨hx, hb, hml, hown, hts⟩ (m_isName l dC dI cy vo voth vmt votp vosz volm voto vofr vokd vonu vosg vofa vopl vowd votd vmn vmr vmk vms vma vmm vmrn vmkn vmik vmon vosm vohp vmw vmf vmb vomb vmd vmc vocm voct vocy vmx votx vose vml vmwr voln vohw vmno vond voon vowi votop ) (cw_X11_163 hts rfl rfl ⟨Nat.le_of_ble_eq_true rfl, Nat.le_of_ble_eq_true rfl⟩) hP hK [0] rfl rfl rfl rfl hl.1 rfl (Nat.le_of_ble_eq_true rfl) dX11_isOne_1 ⟨Nat.le_of_ble_eq_true rfl, Nat.le_of_ble_eq_true rfl⟩) hP hS (fun r_1 H locs hp_2 hP hS => ?_)
  have hp_2 : ((r_1 = 0) ∨ (r_1 = 1)) := hp_2
  have q_3 := hp_2
  rcases q_3 with aq_3 | aq_3
  · skip
    refine as_i 0 aq_3 ?_
    refine lv_if_ne (tgt := 13) hx hb dX11_isOne_4 (by decide) (fun c9 => absurd c9 (by decide)) (fun _ => ?_)
    refine lv_aload_n hx hb dX11_isOne_7 rfl (lv_at hl 0 rfl) ?_
    refine lv_iconst (v := 1) hx hb dX11_isOne_8 (by decide) ?_
    have k_1 : (1 : Int32).toInt = 1 := by decide
    refine jn_i (wr := [(vmrn, .inl (cy 1, 17, .inr (.inl vmrnf)))]) (rV (As := [.int 1]) (rest := []) (ci := 12) ⟨hx, hb, hml, hown, hts⟩ (m_bad l dC dI cy _ vo voth vmt votp vosz volm voto vofr vokd vonu vosg vofa vopl vowd votd vmn vmr vmk vms vma vmm vmrn vmkn vmik vmon vosm vohp vmw vmf vmb vomb vmd vmc vocm voct vocy vmx votx vose vml vmwr voln vohw vmno vond voon vowi votop 1 ) (cw_X11_72 hts rfl rfl ⟨Nat.le_of_ble_eq_true rfl, Nat.le_of_ble_eq_true rfl⟩) hP hD hK [0] rfl rfl rfl rfl bl0 e0 rfl hl.1 rfl (Nat.le_of_ble_eq_true rfl) dX11_isOne_9 ⟨Nat.le_of_ble_eq_true rfl, Nat.le_of_ble_eq_true rfl⟩) hP hD hS hA [0] [1] rfl rfl rfl (by decide) (fun r_4 u_6 H locs hp_5 hP hD hS => ?_)
    obtain ⟨vofa_7, vopl_8⟩ := u_6
    have hp_5 : ((r_4 = 0)) := hp_5
    have q_9 := hp_5
    have hP : va_P (dC, dI) vwCl [(vmrn, .inl (cy 1, 17, .inr (.inl vmrnf))), (vo, .inr (12, [.int voth, .ref vmt, .int votp, .int vosz, .int volm, .int voto, .int vofr, .int vokd, .int vonu, .int vosg, .int vofa_7, .int vopl_8, .long vowd, .int votd, .ref vmn, .ref vmr, .ref vmk, .ref vms, .ref vma, .ref vmm, .ref vmrn, .ref vmkn, .ref vmik, .ref vmon, .int vosm, .int vohp, .ref vmw, .ref vmf, .ref vmb, .int vomb, .ref vmd, .ref vmc, .int vocm, .int voct, .int vocy, .ref vmx, .int votx, .int vose, .ref vml, .ref vmwr, .int voln, .int vohw, .ref vmno, .int vond, .int voon, .int vowi, .int votop]))] H := hP
    have hD : va_D A [(vmrn, .inl (cy 1, 17, .inr (.inl vmrnf))), (vo, .inr (12, [.int voth, .ref vmt, .int votp, .int vosz, .int volm, .int voto, .int vofr, .int vokd, .int vonu, .int vosg, .int vofa_7, .int vopl_8, .long vowd, .int votd, .ref vmn, .ref vmr, .ref vmk, .ref vms, .ref vma, .ref vmm, .ref vmrn, .ref vmkn, .ref vmik, .ref vmon, .int vosm, .int vohp, .ref vmw, .ref vmf, .ref vmb, .int vomb, .ref vmd, .ref vmc, .int vocm, .int voct, .int vocy, .ref vmx, .int votx, .int vose, .ref vml, .ref vmwr, .int voln, .int vohw, .ref vmno, .int vond, .int voon, .int vowi, .int votop]))] := hD
    have aq_9 := q_9
    · skip
      refine as_i 0 aq_9 ?_
      have k_0 : (0 : Int32).toInt = 0 := by decide
      rw [hQ9]
      exact re_z (vofa_7, vopl_8, votd) hx hb hr hlocks (Or.inl rfl) ⟨(show ((0 : Int32) = 0) ∨ ((0 : Int32) = 1 ∧ 0 ≤ (votd : Int32).toInt ∧ (votd : Int32).toInt < (vn : Int32).toInt) from (Or.inl rfl)), (show -1 ≤ (votd : Int32).toInt ∧ (votd : Int32).toInt ≤ 999 from ⟨by omega, by omega⟩)⟩ (hP.sub [1, 0] rfl) (hD.sub [1, 0] rfl rfl) hS dX11_isOne_12
  · skip
    refine as_i 1 aq_3 ?_
    refine lv_if_ne (tgt := 13) hx hb dX11_isOne_4 (by decide) (fun _ => ?_) (fun c9 => absurd c9 (by decide))
    refine lv_aload_n hx hb dX11_isOne_13 rfl (lv_at hl 0 rfl) ?_
    refine lv_aload_n hx hb dX11_isOne_14 rfl (lv_at hl 0 rfl) ?_
    refine gf_X11_117 hx hb hts hown hK hP 0 rfl rfl dX11_isOne_15 ?_
    refine lv_iload_n hx hb dX11_isOne_18 rfl (lv_at hl 1 rfl) ?_
    refine lv_iload_n hx hb dX11_isOne_19 rfl (lv_at hl 2 rfl) ?_
    refine lv_aload_n hx hb dX11_isOne_20 rfl (lv_at hl 0 rfl) ?_
    refine gf_X11_43 hx hb hts hown hK hP 0 rfl rfl dX11_isOne_21 ?_
    refine jr_i (rSr (As := [.ref vmrn, .int vb, .int vn, .long vowd]) (rest := [.ref vo]) ⟨hx, hb, hml, hown, hts⟩ (m_findIn l dC dI cy vmrn vmrnf vb vn vowd r_vb r_vn hbn) (cw_X11_167 hts rfl rfl ⟨Nat.le_of_ble_eq_true rfl, Nat.le_of_ble_eq_true rfl⟩) hP hK [1] rfl rfl hl.1 rfl (Nat.le_of_ble_eq_true rfl) dX11_isOne_24 ⟨Nat.le_of_ble_eq_true rfl, Nat.le_of_ble_eq_true rfl⟩) hP hS (fun r_10 H locs hp_11 hP hS => ?_)
    have hp_11 : (-1 ≤ (r_10 : Int32).toInt ∧ (r_10 : Int32).toInt ≤ 9) ∧ ((r_10 : Int32).toInt < (vn : Int32).toInt) := hp_11
    obtain ⟨q_12, q_13⟩ := hp_11
    refine pf_X11_79 hx hb hts hown hK hP hD hS 0 rfl rfl rfl (Nat.le_of_ble_eq_true rfl) dX11_isOne_27 (fun H locs hP hD hS => ?_)
    have hP : va_P (dC, dI) vwCl [(vo, .inr (12, [.int voth, .ref vmt, .int votp, .int vosz, .int volm, .int voto, .int vofr, .int vokd, .int vonu, .int vosg, .int vofa, .int vopl, .long vowd, .int r_10, .ref vmn, .ref vmr, .ref vmk, .ref vms, .ref vma, .ref vmm, .ref vmrn, .ref vmkn, .ref vmik, .ref vmon, .int vosm, .int vohp, .ref vmw, .ref vmf, .ref vmb, .int vomb, .ref vmd, .ref vmc, .int vocm, .int voct, .int vocy, .ref vmx, .int votx, .int vose, .ref vml, .ref vmwr, .int voln, .int vohw, .ref vmno, .int vond, .int voon, .int vowi, .int votop])), (vmrn, .inl (cy 1, 17, .inr (.inl vmrnf)))] H := hP
    have hD : va_D A [(vo, .inr (12, [.int voth, .ref vmt, .int votp, .int vosz, .int volm, .int voto, .int vofr, .int vokd, .int vonu, .int vosg, .int vofa, .int vopl, .long vowd, .int r_10, .ref vmn, .ref vmr, .ref vmk, .ref vms, .ref vma, .ref vmm, .ref vmrn, .ref vmkn, .ref vmik, .ref vmon, .int vosm, .int vohp, .ref vmw, .ref vmf, .ref vmb, .int vomb, .ref vmd, .ref vmc, .int vocm, .int voct, .int vocy, .ref vmx, .int votx, .int vose, .ref vml, .ref vmwr, .int voln, .int vohw, .ref vmno, .int vond, .int voon, .int vowi, .int votop])), (vmrn, .inl (cy 1, 17, .inr (.inl vmrnf)))] := hD
    refine lv_aload_n hx hb dX11_isOne_30 rfl (lv_at hl 0 rfl) ?_
    refine gf_X11_79 hx hb hts hown hK hP 0 rfl rfl dX11_isOne_31 ?_
    refine lv_iconst (v := (-1)) hx hb dX11_isOne_34 (by decide) ?_
    have k_m1 : ((-1) : Int32).toInt = (-1) := by decide
    refine lv_icmp_ne (tgt := 46) hx hb dX11_isOne_35 (by decide) (fun c_14 => ?_) (fun c_14 => ?_)
    · skip
      have c_14 : ¬ (r_10.toInt = ((-1) : Int32).toInt) := fun h9 => c_14 (i_eq.mpr h9)
      refine lv_iconst (v := 1) hx hb dX11_isOne_46 (by decide) ?_
      refine lv_goto (tgt := 51) hx hb dX11_isOne_47 (by decide) ?_
      have k_1 : (1 : Int32).toInt = 1 := by decide
      rw [hQ9]
      exact re_z (vofa, vopl, r_10) hx hb hr hlocks (Or.inr rfl) ⟨(show ((1 : Int32) = 0) ∨ ((1 : Int32) = 1 ∧ 0 ≤ (r_10 : Int32).toInt ∧ (r_10 : Int32).toInt < (vn : Int32).toInt) from (Or.inr (⟨rfl, by omega, by omega⟩))), (show -1 ≤ (r_10 : Int32).toInt ∧ (r_10 : Int32).toInt ≤ 999 from ⟨by omega, by omega⟩)⟩ (hP.sub [0, 1] rfl) (hD.sub [0, 1] rfl rfl) hS dX11_isOne_51
    · skip
      have c_14 : r_10.toInt = ((-1) : Int32).toInt := i_eq.mp c_14
      refine lv_aload_n hx hb dX11_isOne_38 rfl (lv_at hl 0 rfl) ?_
      refine lv_iconst (v := 3) hx hb dX11_isOne_39 (by decide) ?_
      have k_3 : (3 : Int32).toInt = 3 := by decide
      refine jn_i (wr := [(vmrn, .inl (cy 1, 17, .inr (.inl vmrnf)))]) (rV (As := [.int 3]) (rest := []) (ci := 12) ⟨hx, hb, hml, hown, hts⟩ (m_bad l dC dI cy _ vo voth vmt votp vosz volm voto vofr vokd vonu vosg vofa vopl vowd r_10 vmn vmr vmk vms vma vmm vmrn vmkn vmik vmon vosm vohp vmw vmf vmb vomb vmd vmc vocm voct vocy vmx votx vose vml vmwr voln vohw vmno vond voon vowi votop 3 ) (cw_X11_72 hts rfl rfl ⟨Nat.le_of_ble_eq_true rfl, Nat.le_of_ble_eq_true rfl⟩) hP hD hK [0] rfl rfl rfl rfl bl0 e0 rfl hl.1 rfl (Nat.le_of_ble_eq_true rfl) dX11_isOne_40 ⟨Nat.le_of_ble_eq_true rfl, Nat.le_of_ble_eq_true rfl⟩) hP hD hS hA [0] [1] rfl rfl rfl (by decide) (fun r_15 u_17 H locs hp_16 hP hD hS => ?_)
      obtain ⟨vofa_18, vopl_19⟩ := u_17
      have hp_16 : ((r_15 = 0)) := hp_16
      have q_20 := hp_16
      have hP : va_P (dC, dI) vwCl [(vmrn, .inl (cy 1, 17, .inr (.inl vmrnf))), (vo, .inr (12, [.int voth, .ref vmt, .int votp, .int vosz, .int volm, .int voto, .int vofr, .int vokd, .int vonu, .int vosg, .int vofa_18, .int vopl_19, .long vowd, .int r_10, .ref vmn, .ref vmr, .ref vmk, .ref vms, .ref vma, .ref vmm, .ref vmrn, .ref vmkn, .ref vmik, .ref vmon, .int vosm, .int vohp, .ref vmw, .ref vmf, .ref vmb, .int vomb, .ref vmd, .ref vmc, .int vocm, .int voct, .int vocy, .ref vmx, .int votx, .int vose, .ref vml, .ref vmwr, .int voln, .int vohw, .ref vmno, .int vond, .int voon, .int vowi, .int votop]))] H := hP
      have hD : va_D A [(vmrn, .inl (cy 1, 17, .inr (.inl vmrnf))), (vo, .inr (12, [.int voth, .ref vmt, .int votp, .int vosz, .int volm, .int voto, .int vofr, .int vokd, .int vonu, .int vosg, .int vofa_18, .int vopl_19, .long vowd, .int r_10, .ref vmn, .ref vmr, .ref vmk, .ref vms, .ref vma, .ref vmm, .ref vmrn, .ref vmkn, .ref vmik, .ref vmon, .int vosm, .int vohp, .ref vmw, .ref vmf, .ref vmb, .int vomb, .ref vmd, .ref vmc, .int vocm, .int voct, .int vocy, .ref vmx, .int votx, .int vose, .ref vml, .ref vmwr, .int voln, .int vohw, .ref vmno, .int vond, .int voon, .int vowi, .int votop]))] := hD
      have aq_20 := q_20
      · skip
        refine as_i 0 aq_20 ?_
        refine lv_if_eq (tgt := 50) hx hb dX11_isOne_43 (by decide) (fun _ => ?_) (fun c9 => absurd (by decide) c9)
        refine lv_iconst (v := 0) hx hb dX11_isOne_50 (by decide) ?_
        have k_0 : (0 : Int32).toInt = 0 := by decide
        rw [hQ9]
        exact re_z (vofa_18, vopl_19, r_10) hx hb hr hlocks (Or.inl rfl) ⟨(show ((0 : Int32) = 0) ∨ ((0 : Int32) = 1 ∧ 0 ≤ (r_10 : Int32).toInt ∧ (r_10 : Int32).toInt < (vn : Int32).toInt) from (Or.inl rfl)), (show -1 ≤ (r_10 : Int32).toInt ∧ (r_10 : Int32).toInt ≤ 999 from ⟨by omega, by omega⟩)⟩ (hP.sub [1, 0] rfl) (hD.sub [1, 0] rfl rfl) hS dX11_isOne_51
abbrev cX11_readFirst : ByteArray := prog_13_method_31_code
def yX11_readFirst : MethodName := ⟨RX11, "readFirst", "(II)Z"⟩
theorem t1633 : Cond.code yX11_readFirst cX11_readFirst 3 (some .boolean) ∈ GW := gw_mem 1747 (by decide +kernel) (by decide +kernel)
abbrev O_m_readFirst_0 (cy : Nat → ClassId) (vo : Nat) (voth : Int32) (vmt : Nat) (votp : Int32) (vosz : Int32) (volm : Int32) (voto : Int32) (vofr : Int32) (vokd : Int32) (vonu : Int32) (vosg : Int32) (vofa : Int32) (vopl : Int32) (vowd : Int64) (votd : Int32) (vmn : Nat) (vmr : Nat) (vmk : Nat) (vms : Nat) (vma : Nat) (vmm : Nat) (vmrn : Nat) (vmkn : Nat) (vmik : Nat) (vmon : Nat) (vosm : Int32) (vohp : Int32) (vmw : Nat) (vmf : Nat) (vmb : Nat) (vomb : Int32) (vmd : Nat) (vmc : Nat) (vocm : Int32) (voct : Int32) (vocy : Int32) (vmx : Nat) (votx : Int32) (vose : Int32) (vml : Nat) (vmwr : Nat) (voln : Int32) (vohw : Int32) (vmno : Nat) (vond : Int32) (voon : Int32) (vowi : Int32) (votop : Int32) (vmtf : Nat → Int32) (vmrf : Nat → Int32) (u : Int32 × Int32 × Int32 × Int32 × Int64 × Int32 × Int32 × Int32) : va_W := [(vo, .inr (12, [.int voth, .ref vmt, .int votp, .int vosz, .int volm, .int u.1, .int u.2.1, .int u.2.2.1, .int u.2.2.2.2.2.1, .int u.2.2.2.1, .int u.2.2.2.2.2.2.1, .int u.2.2.2.2.2.2.2, .long u.2.2.2.2.1, .int votd, .ref vmn, .ref vmr, .ref vmk, .ref vms, .ref vma, .ref vmm, .ref vmrn, .ref vmkn, .ref vmik, .ref vmon, .int vosm, .int vohp, .ref vmw, .ref vmf, .ref vmb, .int vomb, .ref vmd, .ref vmc, .int vocm, .int voct, .int vocy, .ref vmx, .int votx, .int vose, .ref vml, .ref vmwr, .int voln, .int vohw, .ref vmno, .int vond, .int voon, .int vowi, .int votop])), (vmt, .inl (cy 0, 940, .inl vmtf)), (vmr, .inl (cy 0, 157, .inl vmrf))]
theorem dX11_readFirst_0 : decode cX11_readFirst 0 = .ok (.aload_n 0, 1) := by decide +kernel
theorem dX11_readFirst_1 : decode cX11_readFirst 1 = .ok (.getfield 101, 3) := by decide +kernel
theorem dX11_readFirst_4 : decode cX11_readFirst 4 = .ok (.iload_n 1, 1) := by decide +kernel
theorem dX11_readFirst_5 : decode cX11_readFirst 5 = .ok (.iaload, 1) := by decide +kernel
theorem dX11_readFirst_6 : decode cX11_readFirst 6 = .ok (.iload_n 2, 1) := by decide +kernel
theorem dX11_readFirst_7 : decode cX11_readFirst 7 = .ok (.if_icmp .ne 9, 3) := by decide +kernel
theorem dX11_readFirst_16 : decode cX11_readFirst 16 = .ok (.aload_n 0, 1) := by decide +kernel
theorem dX11_readFirst_17 : decode cX11_readFirst 17 = .ok (.invokevirtual 82, 3) := by decide +kernel
theorem dX11_readFirst_20 : decode cX11_readFirst 20 = .ok (.iconst 1, 1) := by decide +kernel
theorem dX11_readFirst_21 : decode cX11_readFirst 21 = .ok (.ireturn, 1) := by decide +kernel
theorem dX11_readFirst_10 : decode cX11_readFirst 10 = .ok (.aload_n 0, 1) := by decide +kernel
theorem dX11_readFirst_11 : decode cX11_readFirst 11 = .ok (.iconst 4, 1) := by decide +kernel
theorem dX11_readFirst_12 : decode cX11_readFirst 12 = .ok (.invokevirtual 72, 3) := by decide +kernel
theorem dX11_readFirst_15 : decode cX11_readFirst 15 = .ok (.ireturn, 1) := by decide +kernel
set_option maxHeartbeats 4000000 in
set_option maxRecDepth 100000 in
theorem m_readFirst_0 (l : Launch) (dC : Nat → ClassId) (dI : Nat → Nat → Nat) (cy : Nat → ClassId) (sz : Nat) (vo : Nat) (voth : Int32) (vmt : Nat) (votp : Int32) (vosz : Int32) (volm : Int32) (voto : Int32) (vofr : Int32) (vokd : Int32) (vonu : Int32) (vosg : Int32) (vofa : Int32) (vopl : Int32) (vowd : Int64) (votd : Int32) (vmn : Nat) (vmr : Nat) (vmk : Nat) (vms : Nat) (vma : Nat) (vmm : Nat) (vmrn : Nat) (vmkn : Nat) (vmik : Nat) (vmon : Nat) (vosm : Int32) (vohp : Int32) (vmw : Nat) (vmf : Nat) (vmb : Nat) (vomb : Int32) (vmd : Nat) (vmc : Nat) (vocm : Int32) (voct : Int32) (vocy : Int32) (vmx : Nat) (votx : Int32) (vose : Int32) (vml : Nat) (vmwr : Nat) (voln : Int32) (vohw : Int32) (vmno : Nat) (vond : Int32) (voon : Int32) (vowi : Int32) (votop : Int32) (vmtf : Nat → Int32) (vmrf : Nat → Int32) (r_vosz : 0 ≤ (vosz : Int32).toInt ∧ (vosz : Int32).toInt ≤ 940) (r_voto : 0 ≤ (voto : Int32).toInt ∧ (voto : Int32).toInt ≤ 940) (p_vmtf : Rg vmtf 940 0 255) (p_vmrf : RD vmrf) : Met l yX11_readFirst (wl yX11_readFirst cX11_readFirst 3 (some .boolean)) ({ frames := 2, cells := 0, slots := 0, locals := 128 }) (Pw (dC, dI) vwCl cy [(vo, .inr (12, [.int voth, .ref vmt, .int votp, .int vosz, .int volm, .int voto, .int vofr, .int vokd, .int vonu, .int vosg, .int vofa, .int vopl, .long vowd, .int votd, .ref vmn, .ref vmr, .ref vmk, .ref vms, .ref vma, .ref vmm, .ref vmrn, .ref vmkn, .ref vmik, .ref vmon, .int vosm, .int vohp, .ref vmw, .ref vmf, .ref vmb, .int vomb, .ref vmd, .ref vmc, .int vocm, .int voct, .int vocy, .ref vmx, .int votx, .int vose, .ref vml, .ref vmwr, .int voln, .int vohw, .ref vmno, .int vond, .int voon, .int vowi, .int votop])), (vmt, .inl (cy 0, 940, .inl vmtf)), (vmr, .inl (cy 0, 157, .inl vmrf))] sz [.ref vo, .int 0, .int 7] nE) (Qi (dC, dI) vwCl (fun (r : Int32) (u : Int32 × Int32 × Int32 × Int32 × Int64 × Int32 × Int32 × Int32) => ((r = 0) ∨ (r = 1 ∧ (vmrf 0).toInt ≤ 6 ∧ ((u.2.2.1 : Int32).toInt = 0 ∨ (u.2.2.1 : Int32).toInt = 1 ∨ (voto : Int32).toInt + 1 ≤ (u.1 : Int32).toInt))) ∧ (0 ≤ (u.1 : Int32).toInt ∧ (u.1 : Int32).toInt ≤ 940) ∧ ((voto : Int32).toInt ≤ (u.1 : Int32).toInt)) (O_m_readFirst_0 cy vo voth vmt votp vosz volm voto vofr vokd vonu vosg vofa vopl vowd votd vmn vmr vmk vms vma vmm vmrn vmkn vmik vmon vosm vohp vmw vmf vmb vomb vmd vmc vocm voct vocy vmx votx vose vml vmwr voln vohw vmno vond voon vowi votop vmtf vmrf) (va_A [(vo, .inr (12, [.int voth, .ref vmt, .int votp, .int vosz, .int volm, .int voto, .int vofr, .int vokd, .int vonu, .int vosg, .int vofa, .int vopl, .long vowd, .int votd, .ref vmn, .ref vmr, .ref vmk, .ref vms, .ref vma, .ref vmm, .ref vmrn, .ref vmkn, .ref vmik, .ref vmon, .int vosm, .int vohp, .ref vmw, .ref vmf, .ref vmb, .int vomb, .ref vmd, .ref vmc, .int vocm, .int voct, .int vocy, .ref vmx, .int votx, .int vose, .ref vml, .ref vmwr, .int voln, .int vohw, .ref vmno, .int vond, .int voon, .int vowi, .int votop])), (vmt, .inl (cy 0, 940, .inl vmtf)), (vmr, .inl (cy 0, 157, .inl vmrf))] sz)) 0 0 (va_A [(vo, .inr (12, [.int voth, .ref vmt, .int votp, .int vosz, .int volm, .int voto, .int vofr, .int vokd, .int vonu, .int vosg, .int vofa, .int vopl, .long vowd, .int votd, .ref vmn, .ref vmr, .ref vmk, .ref vms, .ref vma, .ref vmm, .ref vmrn, .ref vmkn, .ref vmik, .ref vmon, .int vosm, .int vohp, .ref vmw, .ref vmf, .ref vmb, .int vomb, .ref vmd, .ref vmc, .int vocm, .int voct, .int vocy, .ref vmx, .int votx, .int vose, .ref vml, .ref vmwr, .int voln, .int vohw, .ref vmno, .int vond, .int voon, .int vowi, .int votop])), (vmt, .inl (cy 0, 940, .inl vmtf)), (vmr, .inl (cy 0, 157, .inl vmrf))] sz) := by
  refine mw (Qc := Qi (dC, dI) vwCl (fun (r : Int32) (u : Int32 × Int32 × Int32 × Int32 × Int64 × Int32 × Int32 × Int32) => ((r = 0) ∨ (r = 1 ∧ (vmrf 0).toInt ≤ 6 ∧ ((u.2.2.1 : Int32).toInt = 0 ∨ (u.2.2.1 : Int32).toInt = 1 ∨ (voto : Int32).toInt + 1 ≤ (u.1 : Int32).toInt))) ∧ (0 ≤ (u.1 : Int32).toInt ∧ (u.1 : Int32).toInt ≤ 940) ∧ ((voto : Int32).toInt ≤ (u.1 : Int32).toInt)) (O_m_readFirst_0 cy vo voth vmt votp vosz volm voto vofr vokd vonu vosg vofa vopl vowd votd vmn vmr vmk vms vma vmm vmrn vmkn vmik vmon vosm vohp vmw vmf vmb vomb vmd vmc vocm voct vocy vmx votx vose vml vmwr voln vohw vmno vond voon vowi votop vmtf vmrf)) RX11 rfl (by decide +kernel) (Nat.le_of_ble_eq_true rfl) ?_
  intro p e s m below meth c A hx hb hr hlocks av9 hav hts hown hnm hml hK hP hD hA hS hE hAe Q9 hQ9 ls hl
  have hl : lv_has ls 3 [(0, .ref vo), (1, .int 0), (2, .int 7)] := hl
  refine lv_aload_n hx hb dX11_readFirst_0 rfl (lv_at hl 0 rfl) ?_
  refine gf_X11_101 hx hb hts hown hK hP 0 rfl rfl dX11_readFirst_1 ?_
  refine lv_iload_n hx hb dX11_readFirst_4 rfl (lv_at hl 1 rfl) ?_
  have k_0 : (0 : Int32).toInt = 0 := by decide
  have hin_1 : vp_in (0 : Int32) 157 := vp_in_iff.mpr ⟨by omega, by omega⟩
  refine va_iald hx hb hK hP 2 0 rfl rfl hin_1 dX11_readFirst_5 ?_
  refine lv_topi (fun z_2 ez_2 => ?_)
  have bz_2 := p_vmrf.a0 (x := 0) ⟨by omega, by omega⟩ ez_2
  have tz_2 : z_2.toInt = (vmrf 0).toInt := by rw [ez_2]; rfl
  refine lv_iload_n hx hb dX11_readFirst_6 rfl (lv_at hl 2 rfl) ?_
  have k_7 : (7 : Int32).toInt = 7 := by decide
  refine lv_icmp_ne (tgt := 16) hx hb dX11_readFirst_7 (by decide) (fun c_3 => ?_) (fun c_3 => ?_)
  · skip
    have c_3 : ¬ (z_2.toInt = (7 : Int32).toInt) := fun h9 => c_3 (i_eq.mpr h9)
    refine lv_aload_n hx hb dX11_readFirst_16 rfl (lv_at hl 0 rfl) ?_
    refine jn_v (wr := [(vmr, .inl (cy 0, 157, .inl vmrf))]) (rV (As := []) (rest := []) (ci := 12) ⟨hx, hb, hml, hown, hts⟩ (m_go l dC dI cy _ vo voth vmt votp vosz volm voto vofr vokd vonu vosg vofa vopl vowd votd vmn vmr vmk vms vma vmm vmrn vmkn vmik vmon vosm vohp vmw vmf vmb vomb vmd vmc vocm voct vocy vmx votx vose vml vmwr voln vohw vmno vond voon vowi votop vmtf r_vosz r_voto p_vmtf) (cw_X11_82 hts rfl rfl ⟨Nat.le_of_ble_eq_true rfl, Nat.le_of_ble_eq_true rfl⟩) hP hD hK [0, 1] rfl rfl rfl rfl bl0 e0 rfl hl.1 rfl (Nat.le_of_ble_eq_true rfl) dX11_readFirst_17 ⟨Nat.le_of_ble_eq_true rfl, Nat.le_of_ble_eq_true rfl⟩) hP hD hS hA [0, 1] [2] rfl rfl rfl (by decide) (fun u_6 H locs hp_5 hP hD hS => ?_)
    obtain ⟨voto_7, vofr_8, vokd_9, vosg_10, vowd_11, vonu_12⟩ := u_6
    have hp_5 : (0 ≤ (voto_7 : Int32).toInt ∧ (voto_7 : Int32).toInt ≤ 940) ∧ ((voto : Int32).toInt ≤ (voto_7 : Int32).toInt) ∧ (((vokd_9 : Int32).toInt = 0 ∨ (vokd_9 : Int32).toInt = 1 ∨ (voto : Int32).toInt + 1 ≤ (voto_7 : Int32).toInt)) := hp_5
    obtain ⟨q_13, q_14, q_15⟩ := hp_5
    have hP : va_P (dC, dI) vwCl [(vmr, .inl (cy 0, 157, .inl vmrf)), (vo, .inr (12, [.int voth, .ref vmt, .int votp, .int vosz, .int volm, .int voto_7, .int vofr_8, .int vokd_9, .int vonu_12, .int vosg_10, .int vofa, .int vopl, .long vowd_11, .int votd, .ref vmn, .ref vmr, .ref vmk, .ref vms, .ref vma, .ref vmm, .ref vmrn, .ref vmkn, .ref vmik, .ref vmon, .int vosm, .int vohp, .ref vmw, .ref vmf, .ref vmb, .int vomb, .ref vmd, .ref vmc, .int vocm, .int voct, .int vocy, .ref vmx, .int votx, .int vose, .ref vml, .ref vmwr, .int voln, .int vohw, .ref vmno, .int vond, .int voon, .int vowi, .int votop])), (vmt, .inl (cy 0, 940, .inl vmtf))] H := hP
    have hD : va_D A [(vmr, .inl (cy 0, 157, .inl vmrf)), (vo, .inr (12, [.int voth, .ref vmt, .int votp, .int vosz, .int volm, .int voto_7, .int vofr_8, .int vokd_9, .int vonu_12, .int vosg_10, .int vofa, .int vopl, .long vowd_11, .int votd, .ref vmn, .ref vmr, .ref vmk, .ref vms, .ref vma, .ref vmm, .ref vmrn, .ref vmkn, .ref vmik, .ref vmon, .int vosm, .int vohp, .ref vmw, .ref vmf, .ref vmb, .int vomb, .ref vmd, .ref vmc, .int vocm, .int voct, .int vocy, .ref vmx, .int votx, .int vose, .ref vml, .ref vmwr, .int voln, .int vohw, .ref vmno, .int vond, .int voon, .int vowi, .int votop])), (vmt, .inl (cy 0, 940, .inl vmtf))] := hD
    refine lv_iconst (v := 1) hx hb dX11_readFirst_20 (by decide) ?_
    have k_1 : (1 : Int32).toInt = 1 := by decide
    rw [hQ9]
    exact re_z (voto_7, vofr_8, vokd_9, vosg_10, vowd_11, vonu_12, vofa, vopl) hx hb hr hlocks (Or.inr rfl) ⟨(show ((1 : Int32) = 0) ∨ ((1 : Int32) = 1 ∧ (vmrf 0).toInt ≤ 6 ∧ ((vokd_9 : Int32).toInt = 0 ∨ (vokd_9 : Int32).toInt = 1 ∨ (voto : Int32).toInt + 1 ≤ (voto_7 : Int32).toInt)) from (Or.inr (⟨rfl, by omega, by omega⟩))), (show 0 ≤ (voto_7 : Int32).toInt ∧ (voto_7 : Int32).toInt ≤ 940 from ⟨by omega, by omega⟩), (show (voto : Int32).toInt ≤ (voto_7 : Int32).toInt from q_14)⟩ (hP.sub [1, 2, 0] rfl) (hD.sub [1, 2, 0] rfl rfl) hS dX11_readFirst_21
  · skip
    have c_3 : z_2.toInt = (7 : Int32).toInt := i_eq.mp c_3
    refine lv_aload_n hx hb dX11_readFirst_10 rfl (lv_at hl 0 rfl) ?_
    refine lv_iconst (v := 4) hx hb dX11_readFirst_11 (by decide) ?_
    have k_4 : (4 : Int32).toInt = 4 := by decide
    refine jn_i (wr := [(vmt, .inl (cy 0, 940, .inl vmtf)), (vmr, .inl (cy 0, 157, .inl vmrf))]) (rV (As := [.int 4]) (rest := []) (ci := 12) ⟨hx, hb, hml, hown, hts⟩ (m_bad l dC dI cy _ vo voth vmt votp vosz volm voto vofr vokd vonu vosg vofa vopl vowd votd vmn vmr vmk vms vma vmm vmrn vmkn vmik vmon vosm vohp vmw vmf vmb vomb vmd vmc vocm voct vocy vmx votx vose vml vmwr voln vohw vmno vond voon vowi votop 4 ) (cw_X11_72 hts rfl rfl ⟨Nat.le_of_ble_eq_true rfl, Nat.le_of_ble_eq_true rfl⟩) hP hD hK [0] rfl rfl rfl rfl bl0 e0 rfl hl.1 rfl (Nat.le_of_ble_eq_true rfl) dX11_readFirst_12 ⟨Nat.le_of_ble_eq_true rfl, Nat.le_of_ble_eq_true rfl⟩) hP hD hS hA [0] [1, 2] rfl rfl rfl (by decide) (fun r_16 u_18 H locs hp_17 hP hD hS => ?_)
    obtain ⟨vofa_19, vopl_20⟩ := u_18
    have hp_17 : ((r_16 = 0)) := hp_17
    have q_21 := hp_17
    have hP : va_P (dC, dI) vwCl [(vmt, .inl (cy 0, 940, .inl vmtf)), (vmr, .inl (cy 0, 157, .inl vmrf)), (vo, .inr (12, [.int voth, .ref vmt, .int votp, .int vosz, .int volm, .int voto, .int vofr, .int vokd, .int vonu, .int vosg, .int vofa_19, .int vopl_20, .long vowd, .int votd, .ref vmn, .ref vmr, .ref vmk, .ref vms, .ref vma, .ref vmm, .ref vmrn, .ref vmkn, .ref vmik, .ref vmon, .int vosm, .int vohp, .ref vmw, .ref vmf, .ref vmb, .int vomb, .ref vmd, .ref vmc, .int vocm, .int voct, .int vocy, .ref vmx, .int votx, .int vose, .ref vml, .ref vmwr, .int voln, .int vohw, .ref vmno, .int vond, .int voon, .int vowi, .int votop]))] H := hP
    have hD : va_D A [(vmt, .inl (cy 0, 940, .inl vmtf)), (vmr, .inl (cy 0, 157, .inl vmrf)), (vo, .inr (12, [.int voth, .ref vmt, .int votp, .int vosz, .int volm, .int voto, .int vofr, .int vokd, .int vonu, .int vosg, .int vofa_19, .int vopl_20, .long vowd, .int votd, .ref vmn, .ref vmr, .ref vmk, .ref vms, .ref vma, .ref vmm, .ref vmrn, .ref vmkn, .ref vmik, .ref vmon, .int vosm, .int vohp, .ref vmw, .ref vmf, .ref vmb, .int vomb, .ref vmd, .ref vmc, .int vocm, .int voct, .int vocy, .ref vmx, .int votx, .int vose, .ref vml, .ref vmwr, .int voln, .int vohw, .ref vmno, .int vond, .int voon, .int vowi, .int votop]))] := hD
    have aq_21 := q_21
    · skip
      refine as_i 0 aq_21 ?_
      rw [hQ9]
      exact re_z (voto, vofr, vokd, vosg, vowd, vonu, vofa_19, vopl_20) hx hb hr hlocks (Or.inl rfl) ⟨(show ((0 : Int32) = 0) ∨ ((0 : Int32) = 1 ∧ (vmrf 0).toInt ≤ 6 ∧ ((vokd : Int32).toInt = 0 ∨ (vokd : Int32).toInt = 1 ∨ (voto : Int32).toInt + 1 ≤ (voto : Int32).toInt)) from (Or.inl rfl)), (show 0 ≤ (voto : Int32).toInt ∧ (voto : Int32).toInt ≤ 940 from ⟨by omega, by omega⟩), (show (voto : Int32).toInt ≤ (voto : Int32).toInt from (by omega))⟩ (hP.sub [2, 0, 1] rfl) (hD.sub [2, 0, 1] rfl rfl) hS dX11_readFirst_15
abbrev O_m_readFirst_1 (cy : Nat → ClassId) (vo : Nat) (voth : Int32) (vmt : Nat) (votp : Int32) (vosz : Int32) (volm : Int32) (voto : Int32) (vofr : Int32) (vokd : Int32) (vonu : Int32) (vosg : Int32) (vofa : Int32) (vopl : Int32) (vowd : Int64) (votd : Int32) (vmn : Nat) (vmr : Nat) (vmk : Nat) (vms : Nat) (vma : Nat) (vmm : Nat) (vmrn : Nat) (vmkn : Nat) (vmik : Nat) (vmon : Nat) (vosm : Int32) (vohp : Int32) (vmw : Nat) (vmf : Nat) (vmb : Nat) (vomb : Int32) (vmd : Nat) (vmc : Nat) (vocm : Int32) (voct : Int32) (vocy : Int32) (vmx : Nat) (votx : Int32) (vose : Int32) (vml : Nat) (vmwr : Nat) (voln : Int32) (vohw : Int32) (vmno : Nat) (vond : Int32) (voon : Int32) (vowi : Int32) (votop : Int32) (vmtf : Nat → Int32) (vmrf : Nat → Int32) (u : Int32 × Int32 × Int32 × Int32 × Int64 × Int32 × Int32 × Int32) : va_W := [(vo, .inr (12, [.int voth, .ref vmt, .int votp, .int vosz, .int volm, .int u.1, .int u.2.1, .int u.2.2.1, .int u.2.2.2.2.2.1, .int u.2.2.2.1, .int u.2.2.2.2.2.2.1, .int u.2.2.2.2.2.2.2, .long u.2.2.2.2.1, .int votd, .ref vmn, .ref vmr, .ref vmk, .ref vms, .ref vma, .ref vmm, .ref vmrn, .ref vmkn, .ref vmik, .ref vmon, .int vosm, .int vohp, .ref vmw, .ref vmf, .ref vmb, .int vomb, .ref vmd, .ref vmc, .int vocm, .int voct, .int vocy, .ref vmx, .int votx, .int vose, .ref vml, .ref vmwr, .int voln, .int vohw, .ref vmno, .int vond, .int voon, .int vowi, .int votop])), (vmt, .inl (cy 0, 940, .inl vmtf)), (vmr, .inl (cy 0, 157, .inl vmrf))]
set_option maxHeartbeats 4000000 in
set_option maxRecDepth 100000 in
theorem m_readFirst_1 (l : Launch) (dC : Nat → ClassId) (dI : Nat → Nat → Nat) (cy : Nat → ClassId) (sz : Nat) (vo : Nat) (voth : Int32) (vmt : Nat) (votp : Int32) (vosz : Int32) (volm : Int32) (voto : Int32) (vofr : Int32) (vokd : Int32) (vonu : Int32) (vosg : Int32) (vofa : Int32) (vopl : Int32) (vowd : Int64) (votd : Int32) (vmn : Nat) (vmr : Nat) (vmk : Nat) (vms : Nat) (vma : Nat) (vmm : Nat) (vmrn : Nat) (vmkn : Nat) (vmik : Nat) (vmon : Nat) (vosm : Int32) (vohp : Int32) (vmw : Nat) (vmf : Nat) (vmb : Nat) (vomb : Int32) (vmd : Nat) (vmc : Nat) (vocm : Int32) (voct : Int32) (vocy : Int32) (vmx : Nat) (votx : Int32) (vose : Int32) (vml : Nat) (vmwr : Nat) (voln : Int32) (vohw : Int32) (vmno : Nat) (vond : Int32) (voon : Int32) (vowi : Int32) (votop : Int32) (vmtf : Nat → Int32) (vmrf : Nat → Int32) (r_vosz : 0 ≤ (vosz : Int32).toInt ∧ (vosz : Int32).toInt ≤ 940) (r_voto : 0 ≤ (voto : Int32).toInt ∧ (voto : Int32).toInt ≤ 940) (p_vmtf : Rg vmtf 940 0 255) (p_vmrf : RD vmrf) : Met l yX11_readFirst (wl yX11_readFirst cX11_readFirst 3 (some .boolean)) ({ frames := 2, cells := 0, slots := 0, locals := 128 }) (Pw (dC, dI) vwCl cy [(vo, .inr (12, [.int voth, .ref vmt, .int votp, .int vosz, .int volm, .int voto, .int vofr, .int vokd, .int vonu, .int vosg, .int vofa, .int vopl, .long vowd, .int votd, .ref vmn, .ref vmr, .ref vmk, .ref vms, .ref vma, .ref vmm, .ref vmrn, .ref vmkn, .ref vmik, .ref vmon, .int vosm, .int vohp, .ref vmw, .ref vmf, .ref vmb, .int vomb, .ref vmd, .ref vmc, .int vocm, .int voct, .int vocy, .ref vmx, .int votx, .int vose, .ref vml, .ref vmwr, .int voln, .int vohw, .ref vmno, .int vond, .int voon, .int vowi, .int votop])), (vmt, .inl (cy 0, 940, .inl vmtf)), (vmr, .inl (cy 0, 157, .inl vmrf))] sz [.ref vo, .int 1, .int 10] nE) (Qi (dC, dI) vwCl (fun (r : Int32) (u : Int32 × Int32 × Int32 × Int32 × Int64 × Int32 × Int32 × Int32) => ((r = 0) ∨ (r = 1 ∧ (vmrf 1).toInt ≤ 9 ∧ ((u.2.2.1 : Int32).toInt = 0 ∨ (u.2.2.1 : Int32).toInt = 1 ∨ (voto : Int32).toInt + 1 ≤ (u.1 : Int32).toInt))) ∧ (0 ≤ (u.1 : Int32).toInt ∧ (u.1 : Int32).toInt ≤ 940) ∧ ((voto : Int32).toInt ≤ (u.1 : Int32).toInt)) (O_m_readFirst_1 cy vo voth vmt votp vosz volm voto vofr vokd vonu vosg vofa vopl vowd votd vmn vmr vmk vms vma vmm vmrn vmkn vmik vmon vosm vohp vmw vmf vmb vomb vmd vmc vocm voct vocy vmx votx vose vml vmwr voln vohw vmno vond voon vowi votop vmtf vmrf) (va_A [(vo, .inr (12, [.int voth, .ref vmt, .int votp, .int vosz, .int volm, .int voto, .int vofr, .int vokd, .int vonu, .int vosg, .int vofa, .int vopl, .long vowd, .int votd, .ref vmn, .ref vmr, .ref vmk, .ref vms, .ref vma, .ref vmm, .ref vmrn, .ref vmkn, .ref vmik, .ref vmon, .int vosm, .int vohp, .ref vmw, .ref vmf, .ref vmb, .int vomb, .ref vmd, .ref vmc, .int vocm, .int voct, .int vocy, .ref vmx, .int votx, .int vose, .ref vml, .ref vmwr, .int voln, .int vohw, .ref vmno, .int vond, .int voon, .int vowi, .int votop])), (vmt, .inl (cy 0, 940, .inl vmtf)), (vmr, .inl (cy 0, 157, .inl vmrf))] sz)) 0 0 (va_A [(vo, .inr (12, [.int voth, .ref vmt, .int votp, .int vosz, .int volm, .int voto, .int vofr, .int vokd, .int vonu, .int vosg, .int vofa, .int vopl, .long vowd, .int votd, .ref vmn, .ref vmr, .ref vmk, .ref vms, .ref vma, .ref vmm, .ref vmrn, .ref vmkn, .ref vmik, .ref vmon, .int vosm, .int vohp, .ref vmw, .ref vmf, .ref vmb, .int vomb, .ref vmd, .ref vmc, .int vocm, .int voct, .int vocy, .ref vmx, .int votx, .int vose, .ref vml, .ref vmwr, .int voln, .int vohw, .ref vmno, .int vond, .int voon, .int vowi, .int votop])), (vmt, .inl (cy 0, 940, .inl vmtf)), (vmr, .inl (cy 0, 157, .inl vmrf))] sz) := by
  refine mw (Qc := Qi (dC, dI) vwCl (fun (r : Int32) (u : Int32 × Int32 × Int32 × Int32 × Int64 × Int32 × Int32 × Int32) => ((r = 0) ∨ (r = 1 ∧ (vmrf 1).toInt ≤ 9 ∧ ((u.2.2.1 : Int32).toInt = 0 ∨ (u.2.2.1 : Int32).toInt = 1 ∨ (voto : Int32).toInt + 1 ≤ (u.1 : Int32).toInt))) ∧ (0 ≤ (u.1 : Int32).toInt ∧ (u.1 : Int32).toInt ≤ 940) ∧ ((voto : Int32).toInt ≤ (u.1 : Int32).toInt)) (O_m_readFirst_1 cy vo voth vmt votp vosz volm voto vofr vokd vonu vosg vofa vopl vowd votd vmn vmr vmk vms vma vmm vmrn vmkn vmik vmon vosm vohp vmw vmf vmb vomb vmd vmc vocm voct vocy vmx votx vose vml vmwr voln vohw vmno vond voon vowi votop vmtf vmrf)) RX11 rfl (by decide +kernel) (Nat.le_of_ble_eq_true rfl) ?_
  intro p e s m below meth c A hx hb hr hlocks av9 hav hts hown hnm hml hK hP hD hA hS hE hAe Q9 hQ9 ls hl
  have hl : lv_has ls 3 [(0, .ref vo), (1, .int 1), (2, .int 10)] := hl
  refine lv_aload_n hx hb dX11_readFirst_0 rfl (lv_at hl 0 rfl) ?_
  refine gf_X11_101 hx hb hts hown hK hP 0 rfl rfl dX11_readFirst_1 ?_
  refine lv_iload_n hx hb dX11_readFirst_4 rfl (lv_at hl 1 rfl) ?_
  have k_1 : (1 : Int32).toInt = 1 := by decide
  have hin_1 : vp_in (1 : Int32) 157 := vp_in_iff.mpr ⟨by omega, by omega⟩
  refine va_iald hx hb hK hP 2 0 rfl rfl hin_1 dX11_readFirst_5 ?_
  refine lv_topi (fun z_2 ez_2 => ?_)
  have bz_2 := p_vmrf.a1 (x := 1) ⟨by omega, by omega⟩ ez_2
  have tz_2 : z_2.toInt = (vmrf 1).toInt := by rw [ez_2]; rfl
  refine lv_iload_n hx hb dX11_readFirst_6 rfl (lv_at hl 2 rfl) ?_
  have k_10 : (10 : Int32).toInt = 10 := by decide
  refine lv_icmp_ne (tgt := 16) hx hb dX11_readFirst_7 (by decide) (fun c_3 => ?_) (fun c_3 => ?_)
  · skip
    have c_3 : ¬ (z_2.toInt = (10 : Int32).toInt) := fun h9 => c_3 (i_eq.mpr h9)
    refine lv_aload_n hx hb dX11_readFirst_16 rfl (lv_at hl 0 rfl) ?_
    refine jn_v (wr := [(vmr, .inl (cy 0, 157, .inl vmrf))]) (rV (As := []) (rest := []) (ci := 12) ⟨hx, hb, hml, hown, hts⟩ (m_go l dC dI cy _ vo voth vmt votp vosz volm voto vofr vokd vonu vosg vofa vopl vowd votd vmn vmr vmk vms vma vmm vmrn vmkn vmik vmon vosm vohp vmw vmf vmb vomb vmd vmc vocm voct vocy vmx votx vose vml vmwr voln vohw vmno vond voon vowi votop vmtf r_vosz r_voto p_vmtf) (cw_X11_82 hts rfl rfl ⟨Nat.le_of_ble_eq_true rfl, Nat.le_of_ble_eq_true rfl⟩) hP hD hK [0, 1] rfl rfl rfl rfl bl0 e0 rfl hl.1 rfl (Nat.le_of_ble_eq_true rfl) dX11_readFirst_17 ⟨Nat.le_of_ble_eq_true rfl, Nat.le_of_ble_eq_true rfl⟩) hP hD hS hA [0, 1] [2] rfl rfl rfl (by decide) (fun u_6 H locs hp_5 hP hD hS => ?_)
    obtain ⟨voto_7, vofr_8, vokd_9, vosg_10, vowd_11, vonu_12⟩ := u_6
    have hp_5 : (0 ≤ (voto_7 : Int32).toInt ∧ (voto_7 : Int32).toInt ≤ 940) ∧ ((voto : Int32).toInt ≤ (voto_7 : Int32).toInt) ∧ (((vokd_9 : Int32).toInt = 0 ∨ (vokd_9 : Int32).toInt = 1 ∨ (voto : Int32).toInt + 1 ≤ (voto_7 : Int32).toInt)) := hp_5
    obtain ⟨q_13, q_14, q_15⟩ := hp_5
    have hP : va_P (dC, dI) vwCl [(vmr, .inl (cy 0, 157, .inl vmrf)), (vo, .inr (12, [.int voth, .ref vmt, .int votp, .int vosz, .int volm, .int voto_7, .int vofr_8, .int vokd_9, .int vonu_12, .int vosg_10, .int vofa, .int vopl, .long vowd_11, .int votd, .ref vmn, .ref vmr, .ref vmk, .ref vms, .ref vma, .ref vmm, .ref vmrn, .ref vmkn, .ref vmik, .ref vmon, .int vosm, .int vohp, .ref vmw, .ref vmf, .ref vmb, .int vomb, .ref vmd, .ref vmc, .int vocm, .int voct, .int vocy, .ref vmx, .int votx, .int vose, .ref vml, .ref vmwr, .int voln, .int vohw, .ref vmno, .int vond, .int voon, .int vowi, .int votop])), (vmt, .inl (cy 0, 940, .inl vmtf))] H := hP
    have hD : va_D A [(vmr, .inl (cy 0, 157, .inl vmrf)), (vo, .inr (12, [.int voth, .ref vmt, .int votp, .int vosz, .int volm, .int voto_7, .int vofr_8, .int vokd_9, .int vonu_12, .int vosg_10, .int vofa, .int vopl, .long vowd_11, .int votd, .ref vmn, .ref vmr, .ref vmk, .ref vms, .ref vma, .ref vmm, .ref vmrn, .ref vmkn, .ref vmik, .ref vmon, .int vosm, .int vohp, .ref vmw, .ref vmf, .ref vmb, .int vomb, .ref vmd, .ref vmc, .int vocm, .int voct, .int vocy, .ref vmx, .int votx, .int vose, .ref vml, .ref vmwr, .int voln, .int vohw, .ref vmno, .int vond, .int voon, .int vowi, .int votop])), (vmt, .inl (cy 0, 940, .inl vmtf))] := hD
    refine lv_iconst (v := 1) hx hb dX11_readFirst_20 (by decide) ?_
    rw [hQ9]
    exact re_z (voto_7, vofr_8, vokd_9, vosg_10, vowd_11, vonu_12, vofa, vopl) hx hb hr hlocks (Or.inr rfl) ⟨(show ((1 : Int32) = 0) ∨ ((1 : Int32) = 1 ∧ (vmrf 1).toInt ≤ 9 ∧ ((vokd_9 : Int32).toInt = 0 ∨ (vokd_9 : Int32).toInt = 1 ∨ (voto : Int32).toInt + 1 ≤ (voto_7 : Int32).toInt)) from (Or.inr (⟨rfl, by omega, by omega⟩))), (show 0 ≤ (voto_7 : Int32).toInt ∧ (voto_7 : Int32).toInt ≤ 940 from ⟨by omega, by omega⟩), (show (voto : Int32).toInt ≤ (voto_7 : Int32).toInt from q_14)⟩ (hP.sub [1, 2, 0] rfl) (hD.sub [1, 2, 0] rfl rfl) hS dX11_readFirst_21
  · skip
    have c_3 : z_2.toInt = (10 : Int32).toInt := i_eq.mp c_3
    refine lv_aload_n hx hb dX11_readFirst_10 rfl (lv_at hl 0 rfl) ?_
    refine lv_iconst (v := 4) hx hb dX11_readFirst_11 (by decide) ?_
    have k_4 : (4 : Int32).toInt = 4 := by decide
    refine jn_i (wr := [(vmt, .inl (cy 0, 940, .inl vmtf)), (vmr, .inl (cy 0, 157, .inl vmrf))]) (rV (As := [.int 4]) (rest := []) (ci := 12) ⟨hx, hb, hml, hown, hts⟩ (m_bad l dC dI cy _ vo voth vmt votp vosz volm voto vofr vokd vonu vosg vofa vopl vowd votd vmn vmr vmk vms vma vmm vmrn vmkn vmik vmon vosm vohp vmw vmf vmb vomb vmd vmc vocm voct vocy vmx votx vose vml vmwr voln vohw vmno vond voon vowi votop 4 ) (cw_X11_72 hts rfl rfl ⟨Nat.le_of_ble_eq_true rfl, Nat.le_of_ble_eq_true rfl⟩) hP hD hK [0] rfl rfl rfl rfl bl0 e0 rfl hl.1 rfl (Nat.le_of_ble_eq_true rfl) dX11_readFirst_12 ⟨Nat.le_of_ble_eq_true rfl, Nat.le_of_ble_eq_true rfl⟩) hP hD hS hA [0] [1, 2] rfl rfl rfl (by decide) (fun r_16 u_18 H locs hp_17 hP hD hS => ?_)
    obtain ⟨vofa_19, vopl_20⟩ := u_18
    have hp_17 : ((r_16 = 0)) := hp_17
    have q_21 := hp_17
    have hP : va_P (dC, dI) vwCl [(vmt, .inl (cy 0, 940, .inl vmtf)), (vmr, .inl (cy 0, 157, .inl vmrf)), (vo, .inr (12, [.int voth, .ref vmt, .int votp, .int vosz, .int volm, .int voto, .int vofr, .int vokd, .int vonu, .int vosg, .int vofa_19, .int vopl_20, .long vowd, .int votd, .ref vmn, .ref vmr, .ref vmk, .ref vms, .ref vma, .ref vmm, .ref vmrn, .ref vmkn, .ref vmik, .ref vmon, .int vosm, .int vohp, .ref vmw, .ref vmf, .ref vmb, .int vomb, .ref vmd, .ref vmc, .int vocm, .int voct, .int vocy, .ref vmx, .int votx, .int vose, .ref vml, .ref vmwr, .int voln, .int vohw, .ref vmno, .int vond, .int voon, .int vowi, .int votop]))] H := hP
    have hD : va_D A [(vmt, .inl (cy 0, 940, .inl vmtf)), (vmr, .inl (cy 0, 157, .inl vmrf)), (vo, .inr (12, [.int voth, .ref vmt, .int votp, .int vosz, .int volm, .int voto, .int vofr, .int vokd, .int vonu, .int vosg, .int vofa_19, .int vopl_20, .long vowd, .int votd, .ref vmn, .ref vmr, .ref vmk, .ref vms, .ref vma, .ref vmm, .ref vmrn, .ref vmkn, .ref vmik, .ref vmon, .int vosm, .int vohp, .ref vmw, .ref vmf, .ref vmb, .int vomb, .ref vmd, .ref vmc, .int vocm, .int voct, .int vocy, .ref vmx, .int votx, .int vose, .ref vml, .ref vmwr, .int voln, .int vohw, .ref vmno, .int vond, .int voon, .int vowi, .int votop]))] := hD
    have aq_21 := q_21
    · skip
      refine as_i 0 aq_21 ?_
      have k_0 : (0 : Int32).toInt = 0 := by decide
      rw [hQ9]
      exact re_z (voto, vofr, vokd, vosg, vowd, vonu, vofa_19, vopl_20) hx hb hr hlocks (Or.inl rfl) ⟨(show ((0 : Int32) = 0) ∨ ((0 : Int32) = 1 ∧ (vmrf 1).toInt ≤ 9 ∧ ((vokd : Int32).toInt = 0 ∨ (vokd : Int32).toInt = 1 ∨ (voto : Int32).toInt + 1 ≤ (voto : Int32).toInt)) from (Or.inl rfl)), (show 0 ≤ (voto : Int32).toInt ∧ (voto : Int32).toInt ≤ 940 from ⟨by omega, by omega⟩), (show (voto : Int32).toInt ≤ (voto : Int32).toInt from (by omega))⟩ (hP.sub [2, 0, 1] rfl) (hD.sub [2, 0, 1] rfl rfl) hS dX11_readFirst_15
abbrev cX11_put : ByteArray := prog_13_method_32_code
def yX11_put : MethodName := ⟨RX11, "put", "(IZ)Z"⟩
theorem t1659 : Cond.code yX11_put cX11_put 3 (some .boolean) ∈ GW := gw_mem 1773 (by decide +kernel) (by decide +kernel)
theorem dX11_put_0 : decode cX11_put 0 = .ok (.iload_n 2, 1) := by decide +kernel
theorem dX11_put_1 : decode cX11_put 1 = .ok (.ifCond .eq 13, 3) := by decide +kernel
theorem dX11_put_14 : decode cX11_put 14 = .ok (.iload_n 2, 1) := by decide +kernel
theorem dX11_put_15 : decode cX11_put 15 = .ok (.ireturn, 1) := by decide +kernel
set_option maxHeartbeats 4000000 in
set_option maxRecDepth 100000 in
theorem m_put_0 (l : Launch) (dC : Nat → ClassId) (dI : Nat → Nat → Nat) (cy : Nat → ClassId) (vo : Nat) (voth : Int32) (vmt : Nat) (votp : Int32) (vosz : Int32) (volm : Int32) (voto : Int32) (vofr : Int32) (vokd : Int32) (vonu : Int32) (vosg : Int32) (vofa : Int32) (vopl : Int32) (vowd : Int64) (votd : Int32) (vmn : Nat) (vmr : Nat) (vmk : Nat) (vms : Nat) (vma : Nat) (vmm : Nat) (vmrn : Nat) (vmkn : Nat) (vmik : Nat) (vmon : Nat) (vosm : Int32) (vohp : Int32) (vmw : Nat) (vmf : Nat) (vmb : Nat) (vomb : Int32) (vmd : Nat) (vmc : Nat) (vocm : Int32) (voct : Int32) (vocy : Int32) (vmx : Nat) (votx : Int32) (vose : Int32) (vml : Nat) (vmwr : Nat) (voln : Int32) (vohw : Int32) (vmno : Nat) (vond : Int32) (voon : Int32) (vowi : Int32) (votop : Int32) (vat : Int32)  : Met l yX11_put (wl yX11_put cX11_put 3 (some .boolean)) ({ frames := 0, cells := 0, slots := 0, locals := 0 }) (Pr (dC, dI) vwCl cy [(vo, .inr (12, [.int voth, .ref vmt, .int votp, .int vosz, .int volm, .int voto, .int vofr, .int vokd, .int vonu, .int vosg, .int vofa, .int vopl, .long vowd, .int votd, .ref vmn, .ref vmr, .ref vmk, .ref vms, .ref vma, .ref vmm, .ref vmrn, .ref vmkn, .ref vmik, .ref vmon, .int vosm, .int vohp, .ref vmw, .ref vmf, .ref vmb, .int vomb, .ref vmd, .ref vmc, .int vocm, .int voct, .int vocy, .ref vmx, .int votx, .int vose, .ref vml, .ref vmwr, .int voln, .int vohw, .ref vmno, .int vond, .int voon, .int vowi, .int votop]))] [.ref vo, .int vat, .int 0]) (Ri (fun r => ((r = 0)))) 0 0 (fun _ => False) := by
  refine mr RX11 rfl (by decide +kernel) (Nat.le_of_ble_eq_true rfl) ?_
  intro p e s m below meth c hx hb hr hlocks av9 hav hts hown hml hK hP hS Q9 hQ9 ls hl
  have hl : lv_has ls 3 [(0, .ref vo), (1, .int vat), (2, .int 0)] := hl
  refine lv_iload_n hx hb dX11_put_0 rfl (lv_at hl 2 rfl) ?_
  refine lv_if_eq (tgt := 14) hx hb dX11_put_1 (by decide) (fun _ => ?_) (fun c9 => absurd (by decide) c9)
  refine lv_iload_n hx hb dX11_put_14 rfl (lv_at hl 2 rfl) ?_
  have k_0 : (0 : Int32).toInt = 0 := by decide
  rw [hQ9]
  exact rr_z hx hb hr hlocks (Or.inl rfl) (show ((0 : Int32) = 0) from (rfl)) hS dX11_put_15
abbrev O_m_put_1 (cy : Nat → ClassId) (vo : Nat) (voth : Int32) (vmt : Nat) (votp : Int32) (vosz : Int32) (volm : Int32) (voto : Int32) (vofr : Int32) (vokd : Int32) (vonu : Int32) (vosg : Int32) (vofa : Int32) (vopl : Int32) (vowd : Int64) (votd : Int32) (vmn : Nat) (vmr : Nat) (vmk : Nat) (vms : Nat) (vma : Nat) (vmm : Nat) (vmrn : Nat) (vmkn : Nat) (vmik : Nat) (vmon : Nat) (vosm : Int32) (vohp : Int32) (vmw : Nat) (vmf : Nat) (vmb : Nat) (vomb : Int32) (vmd : Nat) (vmc : Nat) (vocm : Int32) (voct : Int32) (vocy : Int32) (vmx : Nat) (votx : Int32) (vose : Int32) (vml : Nat) (vmwr : Nat) (voln : Int32) (vohw : Int32) (vmno : Nat) (vond : Int32) (voon : Int32) (vowi : Int32) (votop : Int32) (vmrf : Nat → Int32) (vat : Int32) (u : (Nat → Int32)) : va_W := [(vo, .inr (12, [.int voth, .ref vmt, .int votp, .int vosz, .int volm, .int voto, .int vofr, .int vokd, .int vonu, .int vosg, .int vofa, .int vopl, .long vowd, .int votd, .ref vmn, .ref vmr, .ref vmk, .ref vms, .ref vma, .ref vmm, .ref vmrn, .ref vmkn, .ref vmik, .ref vmon, .int vosm, .int vohp, .ref vmw, .ref vmf, .ref vmb, .int vomb, .ref vmd, .ref vmc, .int vocm, .int voct, .int vocy, .ref vmx, .int votx, .int vose, .ref vml, .ref vmwr, .int voln, .int vohw, .ref vmno, .int vond, .int voon, .int vowi, .int votop])), (vmr, .inl (cy 0, 157, .inl u))]
theorem dX11_put_4 : decode cX11_put 4 = .ok (.aload_n 0, 1) := by decide +kernel
theorem dX11_put_5 : decode cX11_put 5 = .ok (.getfield 101, 3) := by decide +kernel
theorem dX11_put_8 : decode cX11_put 8 = .ok (.iload_n 1, 1) := by decide +kernel
theorem dX11_put_9 : decode cX11_put 9 = .ok (.aload_n 0, 1) := by decide +kernel
theorem dX11_put_10 : decode cX11_put 10 = .ok (.getfield 79, 3) := by decide +kernel
theorem dX11_put_13 : decode cX11_put 13 = .ok (.iastore, 1) := by decide +kernel
set_option maxHeartbeats 4000000 in
set_option maxRecDepth 100000 in
theorem m_put_1 (l : Launch) (dC : Nat → ClassId) (dI : Nat → Nat → Nat) (cy : Nat → ClassId) (sz : Nat) (vo : Nat) (voth : Int32) (vmt : Nat) (votp : Int32) (vosz : Int32) (volm : Int32) (voto : Int32) (vofr : Int32) (vokd : Int32) (vonu : Int32) (vosg : Int32) (vofa : Int32) (vopl : Int32) (vowd : Int64) (votd : Int32) (vmn : Nat) (vmr : Nat) (vmk : Nat) (vms : Nat) (vma : Nat) (vmm : Nat) (vmrn : Nat) (vmkn : Nat) (vmik : Nat) (vmon : Nat) (vosm : Int32) (vohp : Int32) (vmw : Nat) (vmf : Nat) (vmb : Nat) (vomb : Int32) (vmd : Nat) (vmc : Nat) (vocm : Int32) (voct : Int32) (vocy : Int32) (vmx : Nat) (votx : Int32) (vose : Int32) (vml : Nat) (vmwr : Nat) (voln : Int32) (vohw : Int32) (vmno : Nat) (vond : Int32) (voon : Int32) (vowi : Int32) (votop : Int32) (vmrf : Nat → Int32) (vat : Int32) (r_votd : -1 ≤ (votd : Int32).toInt ∧ (votd : Int32).toInt ≤ 999) (r_vat : 2 ≤ (vat : Int32).toInt ∧ (vat : Int32).toInt ≤ 156) (p_vmrf : RD vmrf) (hv : ((vat : Int32).toInt ≤ 10 ∨ 21 ≤ (vat : Int32).toInt) ∨ (0 ≤ (votd : Int32).toInt ∧ (votd : Int32).toInt ≤ 40)) : Met l yX11_put (wl yX11_put cX11_put 3 (some .boolean)) ({ frames := 0, cells := 0, slots := 0, locals := 0 }) (Pw (dC, dI) vwCl cy [(vo, .inr (12, [.int voth, .ref vmt, .int votp, .int vosz, .int volm, .int voto, .int vofr, .int vokd, .int vonu, .int vosg, .int vofa, .int vopl, .long vowd, .int votd, .ref vmn, .ref vmr, .ref vmk, .ref vms, .ref vma, .ref vmm, .ref vmrn, .ref vmkn, .ref vmik, .ref vmon, .int vosm, .int vohp, .ref vmw, .ref vmf, .ref vmb, .int vomb, .ref vmd, .ref vmc, .int vocm, .int voct, .int vocy, .ref vmx, .int votx, .int vose, .ref vml, .ref vmwr, .int voln, .int vohw, .ref vmno, .int vond, .int voon, .int vowi, .int votop])), (vmr, .inl (cy 0, 157, .inl vmrf))] sz [.ref vo, .int vat, .int 1] nE) (Qi (dC, dI) vwCl (fun (r : Int32) (u : (Nat → Int32)) => ((r = 1)) ∧ (RD u) ∧ ((u 0).toInt = (vmrf 0).toInt) ∧ ((u 1).toInt = (vmrf 1).toInt)) (O_m_put_1 cy vo voth vmt votp vosz volm voto vofr vokd vonu vosg vofa vopl vowd votd vmn vmr vmk vms vma vmm vmrn vmkn vmik vmon vosm vohp vmw vmf vmb vomb vmd vmc vocm voct vocy vmx votx vose vml vmwr voln vohw vmno vond voon vowi votop vmrf vat) (va_A [(vo, .inr (12, [.int voth, .ref vmt, .int votp, .int vosz, .int volm, .int voto, .int vofr, .int vokd, .int vonu, .int vosg, .int vofa, .int vopl, .long vowd, .int votd, .ref vmn, .ref vmr, .ref vmk, .ref vms, .ref vma, .ref vmm, .ref vmrn, .ref vmkn, .ref vmik, .ref vmon, .int vosm, .int vohp, .ref vmw, .ref vmf, .ref vmb, .int vomb, .ref vmd, .ref vmc, .int vocm, .int voct, .int vocy, .ref vmx, .int votx, .int vose, .ref vml, .ref vmwr, .int voln, .int vohw, .ref vmno, .int vond, .int voon, .int vowi, .int votop])), (vmr, .inl (cy 0, 157, .inl vmrf))] sz)) 0 0 (va_A [(vo, .inr (12, [.int voth, .ref vmt, .int votp, .int vosz, .int volm, .int voto, .int vofr, .int vokd, .int vonu, .int vosg, .int vofa, .int vopl, .long vowd, .int votd, .ref vmn, .ref vmr, .ref vmk, .ref vms, .ref vma, .ref vmm, .ref vmrn, .ref vmkn, .ref vmik, .ref vmon, .int vosm, .int vohp, .ref vmw, .ref vmf, .ref vmb, .int vomb, .ref vmd, .ref vmc, .int vocm, .int voct, .int vocy, .ref vmx, .int votx, .int vose, .ref vml, .ref vmwr, .int voln, .int vohw, .ref vmno, .int vond, .int voon, .int vowi, .int votop])), (vmr, .inl (cy 0, 157, .inl vmrf))] sz) := by
  refine mw (Qc := Qi (dC, dI) vwCl (fun (r : Int32) (u : (Nat → Int32)) => ((r = 1)) ∧ (RD u) ∧ ((u 0).toInt = (vmrf 0).toInt) ∧ ((u 1).toInt = (vmrf 1).toInt)) (O_m_put_1 cy vo voth vmt votp vosz volm voto vofr vokd vonu vosg vofa vopl vowd votd vmn vmr vmk vms vma vmm vmrn vmkn vmik vmon vosm vohp vmw vmf vmb vomb vmd vmc vocm voct vocy vmx votx vose vml vmwr voln vohw vmno vond voon vowi votop vmrf vat)) RX11 rfl (by decide +kernel) (Nat.le_of_ble_eq_true rfl) ?_
  intro p e s m below meth c A hx hb hr hlocks av9 hav hts hown hnm hml hK hP hD hA hS hE hAe Q9 hQ9 ls hl
  have hl : lv_has ls 3 [(0, .ref vo), (1, .int vat), (2, .int 1)] := hl
  refine lv_iload_n hx hb dX11_put_0 rfl (lv_at hl 2 rfl) ?_
  refine lv_if_eq (tgt := 14) hx hb dX11_put_1 (by decide) (fun c9 => absurd c9 (by decide)) (fun _ => ?_)
  refine lv_aload_n hx hb dX11_put_4 rfl (lv_at hl 0 rfl) ?_
  refine gf_X11_101 hx hb hts hown hK hP 0 rfl rfl dX11_put_5 ?_
  refine lv_iload_n hx hb dX11_put_8 rfl (lv_at hl 1 rfl) ?_
  refine lv_aload_n hx hb dX11_put_9 rfl (lv_at hl 0 rfl) ?_
  refine gf_X11_79 hx hb hts hown hK hP 0 rfl rfl dX11_put_10 ?_
  have hin_1 : vp_in vat 157 := vp_in_iff.mpr ⟨by omega, by omega⟩
  refine va_iast hx hb hK hP hD hS 1 0 rfl rfl hin_1 dX11_put_13 (fun H locs hP hD hS => ?_)
  obtain ⟨f_2, ef_2⟩ : ∃ z : Nat → Int32, z = upd vmrf (Int32.toNatClampNeg vat) votd := ⟨_, rfl⟩
  have hP : va_P (dC, dI) vwCl [(vo, .inr (12, [.int voth, .ref vmt, .int votp, .int vosz, .int volm, .int voto, .int vofr, .int vokd, .int vonu, .int vosg, .int vofa, .int vopl, .long vowd, .int votd, .ref vmn, .ref vmr, .ref vmk, .ref vms, .ref vma, .ref vmm, .ref vmrn, .ref vmkn, .ref vmik, .ref vmon, .int vosm, .int vohp, .ref vmw, .ref vmf, .ref vmb, .int vomb, .ref vmd, .ref vmc, .int vocm, .int voct, .int vocy, .ref vmx, .int votx, .int vose, .ref vml, .ref vmwr, .int voln, .int vohw, .ref vmno, .int vond, .int voon, .int vowi, .int votop])), (vmr, .inl (cy 0, 157, .inl f_2))] H := by rw [ef_2]; exact hP
  have hD : va_D A [(vo, .inr (12, [.int voth, .ref vmt, .int votp, .int vosz, .int volm, .int voto, .int vofr, .int vokd, .int vonu, .int vosg, .int vofa, .int vopl, .long vowd, .int votd, .ref vmn, .ref vmr, .ref vmk, .ref vms, .ref vma, .ref vmm, .ref vmrn, .ref vmkn, .ref vmik, .ref vmon, .int vosm, .int vohp, .ref vmw, .ref vmf, .ref vmb, .int vomb, .ref vmd, .ref vmc, .int vocm, .int voct, .int vocy, .ref vmx, .int votx, .int vose, .ref vml, .ref vmwr, .int voln, .int vohw, .ref vmno, .int vond, .int voon, .int vowi, .int votop])), (vmr, .inl (cy 0, 157, .inl f_2))] := by rw [ef_2]; exact hD
  have p_f_2 : RD f_2 := by rw [ef_2]; exact p_vmrf.upd ⟨by omega, by omega⟩
  have q0_f_2 : (f_2 0).toInt = (vmrf 0).toInt := by rw [ef_2, pk_un (RDne0 (x := vat) (by omega))]
  have q1_f_2 : (f_2 1).toInt = (vmrf 1).toInt := by rw [ef_2, pk_un (RDne1 (x := vat) (by omega))]
  refine lv_iload_n hx hb dX11_put_14 rfl (lv_at hl 2 rfl) ?_
  have k_1 : (1 : Int32).toInt = 1 := by decide
  rw [hQ9]
  exact re_z f_2 hx hb hr hlocks (Or.inr rfl) ⟨(show ((1 : Int32) = 1) from (rfl)), (show RD f_2 from p_f_2), (show (f_2 0).toInt = (vmrf 0).toInt from (by omega)), (show (f_2 1).toInt = (vmrf 1).toInt from (by omega))⟩ (hP.sub [0, 1] rfl) (hD.sub [0, 1] rfl rfl) hS dX11_put_15
abbrev cX11_readMan : ByteArray := prog_13_method_33_code
def yX11_readMan : MethodName := ⟨RX11, "readMan", "()Z"⟩
theorem t1629 : Cond.code yX11_readMan cX11_readMan 2 (some .boolean) ∈ GW := gw_mem 1743 (by decide +kernel) (by decide +kernel)
abbrev O_m_readMan (cy : Nat → ClassId) (vo : Nat) (voth : Int32) (vmt : Nat) (votp : Int32) (vosz : Int32) (volm : Int32) (voto : Int32) (vofr : Int32) (vokd : Int32) (vonu : Int32) (vosg : Int32) (vofa : Int32) (vopl : Int32) (vowd : Int64) (votd : Int32) (vmn : Nat) (vmr : Nat) (vmk : Nat) (vms : Nat) (vma : Nat) (vmm : Nat) (vmrn : Nat) (vmkn : Nat) (vmik : Nat) (vmon : Nat) (vosm : Int32) (vohp : Int32) (vmw : Nat) (vmf : Nat) (vmb : Nat) (vomb : Int32) (vmd : Nat) (vmc : Nat) (vocm : Int32) (voct : Int32) (vocy : Int32) (vmx : Nat) (votx : Int32) (vose : Int32) (vml : Nat) (vmwr : Nat) (voln : Int32) (vohw : Int32) (vmno : Nat) (vond : Int32) (voon : Int32) (vowi : Int32) (votop : Int32) (vmtf : Nat → Int32) (vmrf : Nat → Int32) (vmrnf : Nat → Int64) (u : Int32 × Int32 × Int32 × Int32 × Int64 × Int32 × Int32 × Int32 × Int32 × (Nat → Int32) × (Nat → Int64)) : va_W := [(vo, .inr (12, [.int voth, .ref vmt, .int votp, .int vosz, .int volm, .int u.1, .int u.2.1, .int u.2.2.1, .int u.2.2.2.2.2.1, .int u.2.2.2.1, .int u.2.2.2.2.2.2.1, .int u.2.2.2.2.2.2.2.1, .long u.2.2.2.2.1, .int u.2.2.2.2.2.2.2.2.1, .ref vmn, .ref vmr, .ref vmk, .ref vms, .ref vma, .ref vmm, .ref vmrn, .ref vmkn, .ref vmik, .ref vmon, .int vosm, .int vohp, .ref vmw, .ref vmf, .ref vmb, .int vomb, .ref vmd, .ref vmc, .int vocm, .int voct, .int vocy, .ref vmx, .int votx, .int vose, .ref vml, .ref vmwr, .int voln, .int vohw, .ref vmno, .int vond, .int voon, .int vowi, .int votop])), (vmt, .inl (cy 0, 940, .inl vmtf)), (vmr, .inl (cy 0, 157, .inl u.2.2.2.2.2.2.2.2.2.1)), (vmrn, .inl (cy 1, 17, .inr (.inl u.2.2.2.2.2.2.2.2.2.2)))]
theorem dX11_readMan_0 : decode cX11_readMan 0 = .ok (.aload_n 0, 1) := by decide +kernel
theorem dX11_readMan_1 : decode cX11_readMan 1 = .ok (.iconst 0, 1) := by decide +kernel
theorem dX11_readMan_2 : decode cX11_readMan 2 = .ok (.bipush 7, 2) := by decide +kernel
theorem dX11_readMan_4 : decode cX11_readMan 4 = .ok (.invokevirtual 171, 3) := by decide +kernel
theorem t1630 : Cond.methodLink RX11 171 yX11_readFirst ∈ GW := gw_mem 1744 (by decide +kernel) (by decide +kernel)
theorem t1632 : Cond.instanceMethod yX11_readFirst ∈ GW := gw_mem 1746 (by decide +kernel) (by decide +kernel)
theorem s47 : Cond.selects RX11 yX11_readFirst yX11_readFirst ∈ GW := gw_mem 47 (by decide +kernel) (by decide +kernel)
theorem cw_X11_171 {R : Room} {s : State} {args : Array Value} {rm : Room} {mc ms : Nat} (hts : ∀ w ∈ GW, w.before args s = true) (hrc : rm.cells = mc) (hrs : rm.slots = ms) (hR : rm.frames + 1 ≤ R.frames ∧ 8 + (3 + 11) + rm.locals ≤ R.locals) : CallW R s args RX11 RX11 171 yX11_readFirst cX11_readFirst 3 (some .boolean) (wl yX11_readFirst cX11_readFirst 3 (some .boolean)) rm mc ms 2 := cwV 2 hts (gi_V t1630 t1632 s47 t18 t1633) rfl hrc hrs (by decide +kernel) hR
theorem dX11_readMan_7 : decode cX11_readMan 7 = .ok (.ifCond .ne 5, 3) := by decide +kernel
theorem dX11_readMan_10 : decode cX11_readMan 10 = .ok (.iconst 0, 1) := by decide +kernel
theorem dX11_readMan_11 : decode cX11_readMan 11 = .ok (.ireturn, 1) := by decide +kernel
theorem dX11_readMan_12 : decode cX11_readMan 12 = .ok (.aload_n 0, 1) := by decide +kernel
theorem dX11_readMan_13 : decode cX11_readMan 13 = .ok (.getfield 101, 3) := by decide +kernel
theorem dX11_readMan_16 : decode cX11_readMan 16 = .ok (.iconst 0, 1) := by decide +kernel
theorem dX11_readMan_17 : decode cX11_readMan 17 = .ok (.iaload, 1) := by decide +kernel
theorem dX11_readMan_18 : decode cX11_readMan 18 = .ok (.istore_n 1, 1) := by decide +kernel
theorem dX11_readMan_19 : decode cX11_readMan 19 = .ok (.aload_n 0, 1) := by decide +kernel
theorem dX11_readMan_20 : decode cX11_readMan 20 = .ok (.iload_n 1, 1) := by decide +kernel
theorem dX11_readMan_21 : decode cX11_readMan 21 = .ok (.invokevirtual 175, 3) := by decide +kernel
theorem t1638 : Cond.methodLink RX11 175 yX11_readNew ∈ GW := gw_mem 1752 (by decide +kernel) (by decide +kernel)
theorem t1640 : Cond.instanceMethod yX11_readNew ∈ GW := gw_mem 1754 (by decide +kernel) (by decide +kernel)
theorem s49 : Cond.selects RX11 yX11_readNew yX11_readNew ∈ GW := gw_mem 49 (by decide +kernel) (by decide +kernel)
theorem cw_X11_175 {R : Room} {s : State} {args : Array Value} {rm : Room} {mc ms : Nat} (hts : ∀ w ∈ GW, w.before args s = true) (hrc : rm.cells = mc) (hrs : rm.slots = ms) (hR : rm.frames + 1 ≤ R.frames ∧ 8 + (2 + 11) + rm.locals ≤ R.locals) : CallW R s args RX11 RX11 175 yX11_readNew cX11_readNew 2 (some .boolean) (wl yX11_readNew cX11_readNew 2 (some .boolean)) rm mc ms 1 := cwV 1 hts (gi_V t1638 t1640 s49 t18 t1641) rfl hrc hrs (by decide +kernel) hR
theorem dX11_readMan_24 : decode cX11_readMan 24 = .ok (.ifCond .eq 20, 3) := by decide +kernel
theorem dX11_readMan_44 : decode cX11_readMan 44 = .ok (.iconst 0, 1) := by decide +kernel
theorem dX11_readMan_45 : decode cX11_readMan 45 = .ok (.ireturn, 1) := by decide +kernel
theorem dX11_readMan_27 : decode cX11_readMan 27 = .ok (.aload_n 0, 1) := by decide +kernel
theorem dX11_readMan_28 : decode cX11_readMan 28 = .ok (.iconst 4, 1) := by decide +kernel
theorem dX11_readMan_29 : decode cX11_readMan 29 = .ok (.iload_n 1, 1) := by decide +kernel
theorem dX11_readMan_30 : decode cX11_readMan 30 = .ok (.iadd, 1) := by decide +kernel
theorem dX11_readMan_31 : decode cX11_readMan 31 = .ok (.aload_n 0, 1) := by decide +kernel
theorem dX11_readMan_32 : decode cX11_readMan 32 = .ok (.iconst 0, 1) := by decide +kernel
theorem dX11_readMan_33 : decode cX11_readMan 33 = .ok (.bipush 90, 2) := by decide +kernel
theorem dX11_readMan_35 : decode cX11_readMan 35 = .ok (.invokevirtual 178, 3) := by decide +kernel
theorem t1649 : Cond.methodLink RX11 178 yX11_readNumber ∈ GW := gw_mem 1763 (by decide +kernel) (by decide +kernel)
theorem t1651 : Cond.instanceMethod yX11_readNumber ∈ GW := gw_mem 1765 (by decide +kernel) (by decide +kernel)
theorem s51 : Cond.selects RX11 yX11_readNumber yX11_readNumber ∈ GW := gw_mem 51 (by decide +kernel) (by decide +kernel)
theorem cw_X11_178 {R : Room} {s : State} {args : Array Value} {rm : Room} {mc ms : Nat} (hts : ∀ w ∈ GW, w.before args s = true) (hrc : rm.cells = mc) (hrs : rm.slots = ms) (hR : rm.frames + 1 ≤ R.frames ∧ 8 + (3 + 11) + rm.locals ≤ R.locals) : CallW R s args RX11 RX11 178 yX11_readNumber cX11_readNumber 3 (some .boolean) (wl yX11_readNumber cX11_readNumber 3 (some .boolean)) rm mc ms 2 := cwV 2 hts (gi_V t1649 t1651 s51 t18 t1652) rfl hrc hrs (by decide +kernel) hR
theorem dX11_readMan_38 : decode cX11_readMan 38 = .ok (.invokevirtual 181, 3) := by decide +kernel
theorem t1656 : Cond.methodLink RX11 181 yX11_put ∈ GW := gw_mem 1770 (by decide +kernel) (by decide +kernel)
theorem t1658 : Cond.instanceMethod yX11_put ∈ GW := gw_mem 1772 (by decide +kernel) (by decide +kernel)
theorem s52 : Cond.selects RX11 yX11_put yX11_put ∈ GW := gw_mem 52 (by decide +kernel) (by decide +kernel)
theorem cw_X11_181 {R : Room} {s : State} {args : Array Value} {rm : Room} {mc ms : Nat} (hts : ∀ w ∈ GW, w.before args s = true) (hrc : rm.cells = mc) (hrs : rm.slots = ms) (hR : rm.frames + 1 ≤ R.frames ∧ 8 + (3 + 11) + rm.locals ≤ R.locals) : CallW R s args RX11 RX11 181 yX11_put cX11_put 3 (some .boolean) (wl yX11_put cX11_put 3 (some .boolean)) rm mc ms 2 := cwV 2 hts (gi_V t1656 t1658 s52 t18 t1659) rfl hrc hrs (by decide +kernel) hR
theorem dX11_readMan_41 : decode cX11_readMan 41 = .ok (.ifCond .ne 5, 3) := by decide +kernel
theorem dX11_readMan_46 : decode cX11_readMan 46 = .ok (.aload_n 0, 1) := by decide +kernel
theorem dX11_readMan_47 : decode cX11_readMan 47 = .ok (.getfield 101, 3) := by decide +kernel
theorem dX11_readMan_50 : decode cX11_readMan 50 = .ok (.iconst 0, 1) := by decide +kernel
theorem dX11_readMan_51 : decode cX11_readMan 51 = .ok (.dup2, 1) := by decide +kernel
theorem dX11_readMan_52 : decode cX11_readMan 52 = .ok (.iaload, 1) := by decide +kernel
theorem dX11_readMan_53 : decode cX11_readMan 53 = .ok (.iconst 1, 1) := by decide +kernel
theorem dX11_readMan_54 : decode cX11_readMan 54 = .ok (.iadd, 1) := by decide +kernel
theorem dX11_readMan_55 : decode cX11_readMan 55 = .ok (.iastore, 1) := by decide +kernel
theorem dX11_readMan_56 : decode cX11_readMan 56 = .ok (.iconst 1, 1) := by decide +kernel
theorem dX11_readMan_57 : decode cX11_readMan 57 = .ok (.ireturn, 1) := by decide +kernel
set_option maxHeartbeats 4000000 in
set_option maxRecDepth 100000 in
theorem m_readMan (l : Launch) (dC : Nat → ClassId) (dI : Nat → Nat → Nat) (cy : Nat → ClassId) (sz : Nat) (vo : Nat) (voth : Int32) (vmt : Nat) (votp : Int32) (vosz : Int32) (volm : Int32) (voto : Int32) (vofr : Int32) (vokd : Int32) (vonu : Int32) (vosg : Int32) (vofa : Int32) (vopl : Int32) (vowd : Int64) (votd : Int32) (vmn : Nat) (vmr : Nat) (vmk : Nat) (vms : Nat) (vma : Nat) (vmm : Nat) (vmrn : Nat) (vmkn : Nat) (vmik : Nat) (vmon : Nat) (vosm : Int32) (vohp : Int32) (vmw : Nat) (vmf : Nat) (vmb : Nat) (vomb : Int32) (vmd : Nat) (vmc : Nat) (vocm : Int32) (voct : Int32) (vocy : Int32) (vmx : Nat) (votx : Int32) (vose : Int32) (vml : Nat) (vmwr : Nat) (voln : Int32) (vohw : Int32) (vmno : Nat) (vond : Int32) (voon : Int32) (vowi : Int32) (votop : Int32) (vmtf : Nat → Int32) (vmrf : Nat → Int32) (vmrnf : Nat → Int64) (r_vosz : 0 ≤ (vosz : Int32).toInt ∧ (vosz : Int32).toInt ≤ 940) (r_voto : 0 ≤ (voto : Int32).toInt ∧ (voto : Int32).toInt ≤ 940) (r_votd : -1 ≤ (votd : Int32).toInt ∧ (votd : Int32).toInt ≤ 999) (p_vmtf : Rg vmtf 940 0 255) (p_vmrf : RD vmrf) : Met l yX11_readMan (wl yX11_readMan cX11_readMan 2 (some .boolean)) ({ frames := 4, cells := 0, slots := 0, locals := 256 }) (Pw (dC, dI) vwCl cy [(vo, .inr (12, [.int voth, .ref vmt, .int votp, .int vosz, .int volm, .int voto, .int vofr, .int vokd, .int vonu, .int vosg, .int vofa, .int vopl, .long vowd, .int votd, .ref vmn, .ref vmr, .ref vmk, .ref vms, .ref vma, .ref vmm, .ref vmrn, .ref vmkn, .ref vmik, .ref vmon, .int vosm, .int vohp, .ref vmw, .ref vmf, .ref vmb, .int vomb, .ref vmd, .ref vmc, .int vocm, .int voct, .int vocy, .ref vmx, .int votx, .int vose, .ref vml, .ref vmwr, .int voln, .int vohw, .ref vmno, .int vond, .int voon, .int vowi, .int votop])), (vmt, .inl (cy 0, 940, .inl vmtf)), (vmr, .inl (cy 0, 157, .inl vmrf)), (vmrn, .inl (cy 1, 17, .inr (.inl vmrnf)))] sz [.ref vo] nE) (Qi (dC, dI) vwCl (fun (r : Int32) (u : Int32 × Int32 × Int32 × Int32 × Int64 × Int32 × Int32 × Int32 × Int32 × (Nat → Int32) × (Nat → Int64)) => ((r = 0) ∨ (r = 1 ∧ ((u.2.2.1 : Int32).toInt = 0 ∨ (u.2.2.1 : Int32).toInt = 1 ∨ (voto : Int32).toInt + 1 ≤ (u.1 : Int32).toInt))) ∧ (0 ≤ (u.1 : Int32).toInt ∧ (u.1 : Int32).toInt ≤ 940) ∧ (-1 ≤ (u.2.2.2.2.2.2.2.2.1 : Int32).toInt ∧ (u.2.2.2.2.2.2.2.2.1 : Int32).toInt ≤ 999) ∧ (RD u.2.2.2.2.2.2.2.2.2.1) ∧ ((voto : Int32).toInt ≤ (u.1 : Int32).toInt)) (O_m_readMan cy vo voth vmt votp vosz volm voto vofr vokd vonu vosg vofa vopl vowd votd vmn vmr vmk vms vma vmm vmrn vmkn vmik vmon vosm vohp vmw vmf vmb vomb vmd vmc vocm voct vocy vmx votx vose vml vmwr voln vohw vmno vond voon vowi votop vmtf vmrf vmrnf) (va_A [(vo, .inr (12, [.int voth, .ref vmt, .int votp, .int vosz, .int volm, .int voto, .int vofr, .int vokd, .int vonu, .int vosg, .int vofa, .int vopl, .long vowd, .int votd, .ref vmn, .ref vmr, .ref vmk, .ref vms, .ref vma, .ref vmm, .ref vmrn, .ref vmkn, .ref vmik, .ref vmon, .int vosm, .int vohp, .ref vmw, .ref vmf, .ref vmb, .int vomb, .ref vmd, .ref vmc, .int vocm, .int voct, .int vocy, .ref vmx, .int votx, .int vose, .ref vml, .ref vmwr, .int voln, .int vohw, .ref vmno, .int vond, .int voon, .int vowi, .int votop])), (vmt, .inl (cy 0, 940, .inl vmtf)), (vmr, .inl (cy 0, 157, .inl vmrf)), (vmrn, .inl (cy 1, 17, .inr (.inl vmrnf)))] sz)) 0 0 (va_A [(vo, .inr (12, [.int voth, .ref vmt, .int votp, .int vosz, .int volm, .int voto, .int vofr, .int vokd, .int vonu, .int vosg, .int vofa, .int vopl, .long vowd, .int votd, .ref vmn, .ref vmr, .ref vmk, .ref vms, .ref vma, .ref vmm, .ref vmrn, .ref vmkn, .ref vmik, .ref vmon, .int vosm, .int vohp, .ref vmw, .ref vmf, .ref vmb, .int vomb, .ref vmd, .ref vmc, .int vocm, .int voct, .int vocy, .ref vmx, .int votx, .int vose, .ref vml, .ref vmwr, .int voln, .int vohw, .ref vmno, .int vond, .int voon, .int vowi, .int votop])), (vmt, .inl (cy 0, 940, .inl vmtf)), (vmr, .inl (cy 0, 157, .inl vmrf)), (vmrn, .inl (cy 1, 17, .inr (.inl vmrnf)))] sz) := by
  refine mw (Qc := Qi (dC, dI) vwCl (fun (r : Int32) (u : Int32 × Int32 × Int32 × Int32 × Int64 × Int32 × Int32 × Int32 × Int32 × (Nat → Int32) × (Nat → Int64)) => ((r = 0) ∨ (r = 1 ∧ ((u.2.2.1 : Int32).toInt = 0 ∨ (u.2.2.1 : Int32).toInt = 1 ∨ (voto : Int32).toInt + 1 ≤ (u.1 : Int32).toInt))) ∧ (0 ≤ (u.1 : Int32).toInt ∧ (u.1 : Int32).toInt ≤ 940) ∧ (-1 ≤ (u.2.2.2.2.2.2.2.2.1 : Int32).toInt ∧ (u.2.2.2.2.2.2.2.2.1 : Int32).toInt ≤ 999) ∧ (RD u.2.2.2.2.2.2.2.2.2.1) ∧ ((voto : Int32).toInt ≤ (u.1 : Int32).toInt)) (O_m_readMan cy vo voth vmt votp vosz volm voto vofr vokd vonu vosg vofa vopl vowd votd vmn vmr vmk vms vma vmm vmrn vmkn vmik vmon vosm vohp vmw vmf vmb vomb vmd vmc vocm voct vocy vmx votx vose vml vmwr voln vohw vmno vond voon vowi votop vmtf vmrf vmrnf)) RX11 rfl (by decide +kernel) (Nat.le_of_ble_eq_true rfl) ?_
  intro p e s m below meth c A hx hb hr hlocks av9 hav hts hown hnm hml hK hP hD hA hS hE hAe Q9 hQ9 ls hl
  have hl : lv_has ls 2 [(0, .ref vo)] := hl
  refine lv_aload_n hx hb dX11_readMan_0 rfl (lv_at hl 0 rfl) ?_
  refine lv_iconst (v := 0) hx hb dX11_readMan_1 (by decide) ?_
  refine lv_bipush (v := 7) hx hb dX11_readMan_2 (by decide) ?_
  refine jn_i (wr := [(vmrn, .inl (cy 1, 17, .inr (.inl vmrnf)))]) (rV (As := [.int 0, .int 7]) (rest := []) (ci := 12) ⟨hx, hb, hml, hown, hts⟩ (m_readFirst_0 l dC dI cy _ vo voth vmt votp vosz volm voto vofr vokd vonu vosg vofa vopl vowd votd vmn vmr vmk vms vma vmm vmrn vmkn vmik vmon vosm vohp vmw vmf vmb vomb vmd vmc vocm voct vocy vmx votx vose vml vmwr voln vohw vmno vond voon vowi votop vmtf vmrf r_vosz r_voto p_vmtf p_vmrf) (cw_X11_171 hts rfl rfl ⟨Nat.le_of_ble_eq_true rfl, Nat.le_of_ble_eq_true rfl⟩) hP hD hK [0, 1, 2] rfl rfl rfl rfl bl0 e0 rfl hl.1 rfl (Nat.le_of_ble_eq_true rfl) dX11_readMan_4 ⟨Nat.le_of_ble_eq_true rfl, Nat.le_of_ble_eq_true rfl⟩) hP hD hS hA [0, 1, 2] [3] rfl rfl rfl (by decide) (fun r_1 u_3 H locs hp_2 hP hD hS => ?_)
  obtain ⟨voto_4, vofr_5, vokd_6, vosg_7, vowd_8, vonu_9, vofa_10, vopl_11⟩ := u_3
  have hp_2 : ((r_1 = 0) ∨ (r_1 = 1 ∧ (vmrf 0).toInt ≤ 6 ∧ ((vokd_6 : Int32).toInt = 0 ∨ (vokd_6 : Int32).toInt = 1 ∨ (voto : Int32).toInt + 1 ≤ (voto_4 : Int32).toInt))) ∧ (0 ≤ (voto_4 : Int32).toInt ∧ (voto_4 : Int32).toInt ≤ 940) ∧ ((voto : Int32).toInt ≤ (voto_4 : Int32).toInt) := hp_2
  obtain ⟨q_12, q_13, q_14⟩ := hp_2
  have hP : va_P (dC, dI) vwCl [(vmrn, .inl (cy 1, 17, .inr (.inl vmrnf))), (vo, .inr (12, [.int voth, .ref vmt, .int votp, .int vosz, .int volm, .int voto_4, .int vofr_5, .int vokd_6, .int vonu_9, .int vosg_7, .int vofa_10, .int vopl_11, .long vowd_8, .int votd, .ref vmn, .ref vmr, .ref vmk, .ref vms, .ref vma, .ref vmm, .ref vmrn, .ref vmkn, .ref vmik, .ref vmon, .int vosm, .int vohp, .ref vmw, .ref vmf, .ref vmb, .int vomb, .ref vmd, .ref vmc, .int vocm, .int voct, .int vocy, .ref vmx, .int votx, .int vose, .ref vml, .ref vmwr, .int voln, .int vohw, .ref vmno, .int vond, .int voon, .int vowi, .int votop])), (vmt, .inl (cy 0, 940, .inl vmtf)), (vmr, .inl (cy 0, 157, .inl vmrf))] H := hP
  have hD : va_D A [(vmrn, .inl (cy 1, 17, .inr (.inl vmrnf))), (vo, .inr (12, [.int voth, .ref vmt, .int votp, .int vosz, .int volm, .int voto_4, .int vofr_5, .int vokd_6, .int vonu_9, .int vosg_7, .int vofa_10, .int vopl_11, .long vowd_8, .int votd, .ref vmn, .ref vmr, .ref vmk, .ref vms, .ref vma, .ref vmm, .ref vmrn, .ref vmkn, .ref vmik, .ref vmon, .int vosm, .int vohp, .ref vmw, .ref vmf, .ref vmb, .int vomb, .ref vmd, .ref vmc, .int vocm, .int voct, .int vocy, .ref vmx, .int votx, .int vose, .ref vml, .ref vmwr, .int voln, .int vohw, .ref vmno, .int vond, .int voon, .int vowi, .int votop])), (vmt, .inl (cy 0, 940, .inl vmtf)), (vmr, .inl (cy 0, 157, .inl vmrf))] := hD
  rcases q_12 with aq_12 | ⟨aq_12, f0q_12, f1q_12⟩
  · skip
    refine as_i 0 aq_12 ?_
    refine lv_if_ne (tgt := 12) hx hb dX11_readMan_7 (by decide) (fun c9 => absurd c9 (by decide)) (fun _ => ?_)
    refine lv_iconst (v := 0) hx hb dX11_readMan_10 (by decide) ?_
    have k_0 : (0 : Int32).toInt = 0 := by decide
    rw [hQ9]
    exact re_z (voto_4, vofr_5, vokd_6, vosg_7, vowd_8, vonu_9, vofa_10, vopl_11, votd, vmrf, vmrnf) hx hb hr hlocks (Or.inl rfl) ⟨(show ((0 : Int32) = 0) ∨ ((0 : Int32) = 1 ∧ ((vokd_6 : Int32).toInt = 0 ∨ (vokd_6 : Int32).toInt = 1 ∨ (voto : Int32).toInt + 1 ≤ (voto_4 : Int32).toInt)) from (Or.inl rfl)), (show 0 ≤ (voto_4 : Int32).toInt ∧ (voto_4 : Int32).toInt ≤ 940 from ⟨by omega, by omega⟩), (show -1 ≤ (votd : Int32).toInt ∧ (votd : Int32).toInt ≤ 999 from ⟨by omega, by omega⟩), (show RD vmrf from p_vmrf), (show (voto : Int32).toInt ≤ (voto_4 : Int32).toInt from q_14)⟩ (hP.sub [1, 2, 3, 0] rfl) (hD.sub [1, 2, 3, 0] rfl rfl) hS dX11_readMan_11
  · skip
    refine as_i 1 aq_12 ?_
    refine lv_if_ne (tgt := 12) hx hb dX11_readMan_7 (by decide) (fun _ => ?_) (fun c9 => absurd c9 (by decide))
    refine lv_aload_n hx hb dX11_readMan_12 rfl (lv_at hl 0 rfl) ?_
    refine gf_X11_101 hx hb hts hown hK hP 1 rfl rfl dX11_readMan_13 ?_
    refine lv_iconst (v := 0) hx hb dX11_readMan_16 (by decide) ?_
    have k_0 : (0 : Int32).toInt = 0 := by decide
    have hin_15 : vp_in (0 : Int32) 157 := vp_in_iff.mpr ⟨by omega, by omega⟩
    refine va_iald hx hb hK hP 3 0 rfl rfl hin_15 dX11_readMan_17 ?_
    refine lv_topi (fun z_16 ez_16 => ?_)
    have bz_16 := p_vmrf.a0 (x := 0) ⟨by omega, by omega⟩ ez_16
    have tz_16 : z_16.toInt = (vmrf 0).toInt := by rw [ez_16]; rfl
    refine lv_istore_n (lv' := [(1, .int z_16), (0, .ref vo)]) hx hb dX11_readMan_18 rfl hl (by decide) rfl (fun ls hl => ?_)
    refine lv_aload_n hx hb dX11_readMan_19 rfl (lv_at hl 1 rfl) ?_
    refine lv_iload_n hx hb dX11_readMan_20 rfl (lv_at hl 0 rfl) ?_
    refine jn_i (wr := []) (rV (As := [.int z_16]) (rest := []) (ci := 12) ⟨hx, hb, hml, hown, hts⟩ (m_readNew l dC dI cy _ vo voth vmt votp vosz volm voto_4 vofr_5 vokd_6 vonu_9 vosg_7 vofa_10 vopl_11 vowd_8 votd vmn vmr vmk vms vma vmm vmrn vmkn vmik vmon vosm vohp vmw vmf vmb vomb vmd vmc vocm voct vocy vmx votx vose vml vmwr voln vohw vmno vond voon vowi votop vmtf vmrf vmrnf z_16 r_vosz ⟨by omega, by omega⟩ ⟨by omega, by omega⟩ p_vmtf p_vmrf) (cw_X11_175 hts rfl rfl ⟨Nat.le_of_ble_eq_true rfl, Nat.le_of_ble_eq_true rfl⟩) hP hD hK [1, 2, 3, 0] rfl rfl rfl rfl bl0 e0 rfl hl.1 rfl (Nat.le_of_ble_eq_true rfl) dX11_readMan_21 ⟨Nat.le_of_ble_eq_true rfl, Nat.le_of_ble_eq_true rfl⟩) hP hD hS hA [1, 2, 3, 0] [] rfl rfl rfl (by decide) (fun r_17 u_19 H locs hp_18 hP hD hS => ?_)
    obtain ⟨voto_20, vofr_21, vokd_22, vosg_23, vowd_24, vonu_25, vofa_26, vopl_27, vmrnf_28⟩ := u_19
    have hp_18 : ((r_17 = 0) ∨ (r_17 = 1 ∧ ((vokd_22 : Int32).toInt = 0 ∨ (vokd_22 : Int32).toInt = 1 ∨ (voto_4 : Int32).toInt + 1 ≤ (voto_20 : Int32).toInt))) ∧ (0 ≤ (voto_20 : Int32).toInt ∧ (voto_20 : Int32).toInt ≤ 940) ∧ ((voto_4 : Int32).toInt ≤ (voto_20 : Int32).toInt) := hp_18
    obtain ⟨q_29, q_30, q_31⟩ := hp_18
    have hP : va_P (dC, dI) vwCl [(vo, .inr (12, [.int voth, .ref vmt, .int votp, .int vosz, .int volm, .int voto_20, .int vofr_21, .int vokd_22, .int vonu_25, .int vosg_23, .int vofa_26, .int vopl_27, .long vowd_24, .int votd, .ref vmn, .ref vmr, .ref vmk, .ref vms, .ref vma, .ref vmm, .ref vmrn, .ref vmkn, .ref vmik, .ref vmon, .int vosm, .int vohp, .ref vmw, .ref vmf, .ref vmb, .int vomb, .ref vmd, .ref vmc, .int vocm, .int voct, .int vocy, .ref vmx, .int votx, .int vose, .ref vml, .ref vmwr, .int voln, .int vohw, .ref vmno, .int vond, .int voon, .int vowi, .int votop])), (vmt, .inl (cy 0, 940, .inl vmtf)), (vmr, .inl (cy 0, 157, .inl vmrf)), (vmrn, .inl (cy 1, 17, .inr (.inl vmrnf_28)))] H := hP
    have hD : va_D A [(vo, .inr (12, [.int voth, .ref vmt, .int votp, .int vosz, .int volm, .int voto_20, .int vofr_21, .int vokd_22, .int vonu_25, .int vosg_23, .int vofa_26, .int vopl_27, .long vowd_24, .int votd, .ref vmn, .ref vmr, .ref vmk, .ref vms, .ref vma, .ref vmm, .ref vmrn, .ref vmkn, .ref vmik, .ref vmon, .int vosm, .int vohp, .ref vmw, .ref vmf, .ref vmb, .int vomb, .ref vmd, .ref vmc, .int vocm, .int voct, .int vocy, .ref vmx, .int votx, .int vose, .ref vml, .ref vmwr, .int voln, .int vohw, .ref vmno, .int vond, .int voon, .int vowi, .int votop])), (vmt, .inl (cy 0, 940, .inl vmtf)), (vmr, .inl (cy 0, 157, .inl vmrf)), (vmrn, .inl (cy 1, 17, .inr (.inl vmrnf_28)))] := hD
    rcases q_29 with aq_29 | ⟨aq_29, f0q_29⟩
    · skip
      refine as_i 0 aq_29 ?_
      refine lv_if_eq (tgt := 44) hx hb dX11_readMan_24 (by decide) (fun _ => ?_) (fun c9 => absurd (by decide) c9)
      refine lv_iconst (v := 0) hx hb dX11_readMan_44 (by decide) ?_
      rw [hQ9]
      exact re_z (voto_20, vofr_21, vokd_22, vosg_23, vowd_24, vonu_25, vofa_26, vopl_27, votd, vmrf, vmrnf_28) hx hb hr hlocks (Or.inl rfl) ⟨(show ((0 : Int32) = 0) ∨ ((0 : Int32) = 1 ∧ ((vokd_22 : Int32).toInt = 0 ∨ (vokd_22 : Int32).toInt = 1 ∨ (voto : Int32).toInt + 1 ≤ (voto_20 : Int32).toInt)) from (Or.inl rfl)), (show 0 ≤ (voto_20 : Int32).toInt ∧ (voto_20 : Int32).toInt ≤ 940 from ⟨by omega, by omega⟩), (show -1 ≤ (votd : Int32).toInt ∧ (votd : Int32).toInt ≤ 999 from ⟨by omega, by omega⟩), (show RD vmrf from p_vmrf), (show (voto : Int32).toInt ≤ (voto_20 : Int32).toInt from (by omega))⟩ (hP.sub [0, 1, 2, 3] rfl) (hD.sub [0, 1, 2, 3] rfl rfl) hS dX11_readMan_45
    · skip
      refine as_i 1 aq_29 ?_
      refine lv_if_eq (tgt := 44) hx hb dX11_readMan_24 (by decide) (fun c9 => absurd c9 (by decide)) (fun _ => ?_)
      refine lv_aload_n hx hb dX11_readMan_27 rfl (lv_at hl 1 rfl) ?_
      refine lv_iconst (v := 4) hx hb dX11_readMan_28 (by decide) ?_
      refine lv_iload_n hx hb dX11_readMan_29 rfl (lv_at hl 0 rfl) ?_
      refine lv_iadd hx hb dX11_readMan_30 ?_
      refine lv_topi (fun z_32 ez_32 => ?_)
      have k_4 : (4 : Int32).toInt = 4 := by decide
      have bz_32 : z_32.toInt = (4 : Int32).toInt + z_16.toInt := i_add ez_32 (by omega) (by omega)
      refine lv_aload_n hx hb dX11_readMan_31 rfl (lv_at hl 1 rfl) ?_
      refine lv_iconst (v := 0) hx hb dX11_readMan_32 (by decide) ?_
      refine lv_bipush (v := 90) hx hb dX11_readMan_33 (by decide) ?_
      have k_90 : (90 : Int32).toInt = 90 := by decide
      refine jn_i (wr := [(vmr, .inl (cy 0, 157, .inl vmrf)), (vmrn, .inl (cy 1, 17, .inr (.inl vmrnf_28)))]) (rV (As := [.int 0, .int 90]) (rest := [.int z_32, .ref vo]) (ci := 12) ⟨hx, hb, hml, hown, hts⟩ (m_readNumber l dC dI cy _ vo voth vmt votp vosz volm voto_20 vofr_21 vokd_22 vonu_25 vosg_23 vofa_26 vopl_27 vowd_24 votd vmn vmr vmk vms vma vmm vmrn vmkn vmik vmon vosm vohp vmw vmf vmb vomb vmd vmc vocm voct vocy vmx votx vose vml vmwr voln vohw vmno vond voon vowi votop vmtf 0 90 r_vosz ⟨by omega, by omega⟩ r_votd ⟨by omega, by omega⟩ ⟨by omega, by omega⟩ p_vmtf) (cw_X11_178 hts rfl rfl ⟨Nat.le_of_ble_eq_true rfl, Nat.le_of_ble_eq_true rfl⟩) hP hD hK [0, 1] rfl rfl rfl rfl bl0 e0 rfl hl.1 rfl (Nat.le_of_ble_eq_true rfl) dX11_readMan_35 ⟨Nat.le_of_ble_eq_true rfl, Nat.le_of_ble_eq_true rfl⟩) hP hD hS hA [0, 1] [2, 3] rfl rfl rfl (by decide) (fun r_33 u_35 H locs hp_34 hP hD hS => ?_)
      obtain ⟨voto_36, vofr_37, vokd_38, vosg_39, vowd_40, vonu_41, vofa_42, vopl_43, votd_44⟩ := u_35
      have hp_34 : ((r_33 = 0 ∧ (votd_44 : Int32).toInt = (votd : Int32).toInt) ∨ (r_33 = 1 ∧ (0 : Int32).toInt ≤ (votd_44 : Int32).toInt ∧ (votd_44 : Int32).toInt ≤ (90 : Int32).toInt ∧ ((vokd_38 : Int32).toInt = 0 ∨ (vokd_38 : Int32).toInt = 1 ∨ (voto_20 : Int32).toInt + 1 ≤ (voto_36 : Int32).toInt))) ∧ (0 ≤ (voto_36 : Int32).toInt ∧ (voto_36 : Int32).toInt ≤ 940) ∧ (-1 ≤ (votd_44 : Int32).toInt ∧ (votd_44 : Int32).toInt ≤ 999) ∧ ((voto_20 : Int32).toInt ≤ (voto_36 : Int32).toInt) := hp_34
      obtain ⟨q_45, q_46, q_47, q_48⟩ := hp_34
      have hP : va_P (dC, dI) vwCl [(vmr, .inl (cy 0, 157, .inl vmrf)), (vmrn, .inl (cy 1, 17, .inr (.inl vmrnf_28))), (vo, .inr (12, [.int voth, .ref vmt, .int votp, .int vosz, .int volm, .int voto_36, .int vofr_37, .int vokd_38, .int vonu_41, .int vosg_39, .int vofa_42, .int vopl_43, .long vowd_40, .int votd_44, .ref vmn, .ref vmr, .ref vmk, .ref vms, .ref vma, .ref vmm, .ref vmrn, .ref vmkn, .ref vmik, .ref vmon, .int vosm, .int vohp, .ref vmw, .ref vmf, .ref vmb, .int vomb, .ref vmd, .ref vmc, .int vocm, .int voct, .int vocy, .ref vmx, .int votx, .int vose, .ref vml, .ref vmwr, .int voln, .int vohw, .ref vmno, .int vond, .int voon, .int vowi, .int votop])), (vmt, .inl (cy 0, 940, .inl vmtf))] H := hP
      have hD : va_D A [(vmr, .inl (cy 0, 157, .inl vmrf)), (vmrn, .inl (cy 1, 17, .inr (.inl vmrnf_28))), (vo, .inr (12, [.int voth, .ref vmt, .int votp, .int vosz, .int volm, .int voto_36, .int vofr_37, .int vokd_38, .int vonu_41, .int vosg_39, .int vofa_42, .int vopl_43, .long vowd_40, .int votd_44, .ref vmn, .ref vmr, .ref vmk, .ref vms, .ref vma, .ref vmm, .ref vmrn, .ref vmkn, .ref vmik, .ref vmon, .int vosm, .int vohp, .ref vmw, .ref vmf, .ref vmb, .int vomb, .ref vmd, .ref vmc, .int vocm, .int voct, .int vocy, .ref vmx, .int votx, .int vose, .ref vml, .ref vmwr, .int voln, .int vohw, .ref vmno, .int vond, .int voon, .int vowi, .int votop])), (vmt, .inl (cy 0, 940, .inl vmtf))] := hD
      rcases q_45 with ⟨aq_45, f0q_45⟩ | ⟨aq_45, f0q_45, f1q_45, f2q_45⟩
      · skip
        refine as_i 0 aq_45 ?_
        refine jr_i (rVr (As := [.int z_32, .int 0]) (rest := []) (ci := 12) ⟨hx, hb, hml, hown, hts⟩ (m_put_0 l dC dI cy vo voth vmt votp vosz volm voto_36 vofr_37 vokd_38 vonu_41 vosg_39 vofa_42 vopl_43 vowd_40 votd_44 vmn vmr vmk vms vma vmm vmrn vmkn vmik vmon vosm vohp vmw vmf vmb vomb vmd vmc vocm voct vocy vmx votx vose vml vmwr voln vohw vmno vond voon vowi votop z_32 ) (cw_X11_181 hts rfl rfl ⟨Nat.le_of_ble_eq_true rfl, Nat.le_of_ble_eq_true rfl⟩) hP hK [2] rfl rfl rfl rfl hl.1 rfl (Nat.le_of_ble_eq_true rfl) dX11_readMan_38 ⟨Nat.le_of_ble_eq_true rfl, Nat.le_of_ble_eq_true rfl⟩) hP hS (fun r_49 H locs hp_50 hP hS => ?_)
        have hp_50 : ((r_49 = 0)) := hp_50
        have q_51 := hp_50
        have aq_51 := q_51
        · skip
          refine as_i 0 aq_51 ?_
          refine lv_if_ne (tgt := 46) hx hb dX11_readMan_41 (by decide) (fun c9 => absurd c9 (by decide)) (fun _ => ?_)
          refine lv_iconst (v := 0) hx hb dX11_readMan_44 (by decide) ?_
          rw [hQ9]
          exact re_z (voto_36, vofr_37, vokd_38, vosg_39, vowd_40, vonu_41, vofa_42, vopl_43, votd_44, vmrf, vmrnf_28) hx hb hr hlocks (Or.inl rfl) ⟨(show ((0 : Int32) = 0) ∨ ((0 : Int32) = 1 ∧ ((vokd_38 : Int32).toInt = 0 ∨ (vokd_38 : Int32).toInt = 1 ∨ (voto : Int32).toInt + 1 ≤ (voto_36 : Int32).toInt)) from (Or.inl rfl)), (show 0 ≤ (voto_36 : Int32).toInt ∧ (voto_36 : Int32).toInt ≤ 940 from ⟨by omega, by omega⟩), (show -1 ≤ (votd_44 : Int32).toInt ∧ (votd_44 : Int32).toInt ≤ 999 from ⟨by omega, by omega⟩), (show RD vmrf from p_vmrf), (show (voto : Int32).toInt ≤ (voto_36 : Int32).toInt from (by omega))⟩ (hP.sub [2, 3, 0, 1] rfl) (hD.sub [2, 3, 0, 1] rfl rfl) hS dX11_readMan_45
      · skip
        refine as_i 1 aq_45 ?_
        refine jn_i (wr := [(vmrn, .inl (cy 1, 17, .inr (.inl vmrnf_28))), (vmt, .inl (cy 0, 940, .inl vmtf))]) (rV (As := [.int z_32, .int 1]) (rest := []) (ci := 12) ⟨hx, hb, hml, hown, hts⟩ (m_put_1 l dC dI cy _ vo voth vmt votp vosz volm voto_36 vofr_37 vokd_38 vonu_41 vosg_39 vofa_42 vopl_43 vowd_40 votd_44 vmn vmr vmk vms vma vmm vmrn vmkn vmik vmon vosm vohp vmw vmf vmb vomb vmd vmc vocm voct vocy vmx votx vose vml vmwr voln vohw vmno vond voon vowi votop vmrf z_32 ⟨by omega, by omega⟩ ⟨by omega, by omega⟩ p_vmrf (by omega)) (cw_X11_181 hts rfl rfl ⟨Nat.le_of_ble_eq_true rfl, Nat.le_of_ble_eq_true rfl⟩) hP hD hK [2, 0] rfl rfl rfl rfl bl0 e0 rfl hl.1 rfl (Nat.le_of_ble_eq_true rfl) dX11_readMan_38 ⟨Nat.le_of_ble_eq_true rfl, Nat.le_of_ble_eq_true rfl⟩) hP hD hS hA [2, 0] [1, 3] rfl rfl rfl (by decide) (fun r_52 u_54 H locs hp_53 hP hD hS => ?_)
        obtain ⟨vmrf_55, rfl⟩ : ∃ z, z = u_54 := ⟨_, rfl⟩
        have hp_53 : ((r_52 = 1)) ∧ (RD vmrf_55) ∧ ((vmrf_55 0).toInt = (vmrf 0).toInt) ∧ ((vmrf_55 1).toInt = (vmrf 1).toInt) := hp_53
        obtain ⟨q_56, q_57, q_58, q_59⟩ := hp_53
        have hP : va_P (dC, dI) vwCl [(vmrn, .inl (cy 1, 17, .inr (.inl vmrnf_28))), (vmt, .inl (cy 0, 940, .inl vmtf)), (vo, .inr (12, [.int voth, .ref vmt, .int votp, .int vosz, .int volm, .int voto_36, .int vofr_37, .int vokd_38, .int vonu_41, .int vosg_39, .int vofa_42, .int vopl_43, .long vowd_40, .int votd_44, .ref vmn, .ref vmr, .ref vmk, .ref vms, .ref vma, .ref vmm, .ref vmrn, .ref vmkn, .ref vmik, .ref vmon, .int vosm, .int vohp, .ref vmw, .ref vmf, .ref vmb, .int vomb, .ref vmd, .ref vmc, .int vocm, .int voct, .int vocy, .ref vmx, .int votx, .int vose, .ref vml, .ref vmwr, .int voln, .int vohw, .ref vmno, .int vond, .int voon, .int vowi, .int votop])), (vmr, .inl (cy 0, 157, .inl vmrf_55))] H := hP
        have hD : va_D A [(vmrn, .inl (cy 1, 17, .inr (.inl vmrnf_28))), (vmt, .inl (cy 0, 940, .inl vmtf)), (vo, .inr (12, [.int voth, .ref vmt, .int votp, .int vosz, .int volm, .int voto_36, .int vofr_37, .int vokd_38, .int vonu_41, .int vosg_39, .int vofa_42, .int vopl_43, .long vowd_40, .int votd_44, .ref vmn, .ref vmr, .ref vmk, .ref vms, .ref vma, .ref vmm, .ref vmrn, .ref vmkn, .ref vmik, .ref vmon, .int vosm, .int vohp, .ref vmw, .ref vmf, .ref vmb, .int vomb, .ref vmd, .ref vmc, .int vocm, .int voct, .int vocy, .ref vmx, .int votx, .int vose, .ref vml, .ref vmwr, .int voln, .int vohw, .ref vmno, .int vond, .int voon, .int vowi, .int votop])), (vmr, .inl (cy 0, 157, .inl vmrf_55))] := hD
        have aq_56 := q_56
        · skip
          refine as_i 1 aq_56 ?_
          refine lv_if_ne (tgt := 46) hx hb dX11_readMan_41 (by decide) (fun _ => ?_) (fun c9 => absurd c9 (by decide))
          refine lv_aload_n hx hb dX11_readMan_46 rfl (lv_at hl 1 rfl) ?_
          refine gf_X11_101 hx hb hts hown hK hP 2 rfl rfl dX11_readMan_47 ?_
          refine lv_iconst (v := 0) hx hb dX11_readMan_50 (by decide) ?_
          refine lv_dup2_11 hx hb dX11_readMan_51 rfl rfl ?_
          have hin_60 : vp_in (0 : Int32) 157 := vp_in_iff.mpr ⟨by omega, by omega⟩
          refine va_iald hx hb hK hP 3 0 rfl rfl hin_60 dX11_readMan_52 ?_
          refine lv_topi (fun z_61 ez_61 => ?_)
          have bz_61 := q_57.a0 (x := 0) ⟨by omega, by omega⟩ ez_61
          have tz_61 : z_61.toInt = (vmrf_55 0).toInt := by rw [ez_61]; rfl
          refine lv_iconst (v := 1) hx hb dX11_readMan_53 (by decide) ?_
          refine lv_iadd hx hb dX11_readMan_54 ?_
          refine lv_topi (fun z_62 ez_62 => ?_)
          have k_1 : (1 : Int32).toInt = 1 := by decide
          have bz_62 : z_62.toInt = z_61.toInt + (1 : Int32).toInt := i_add ez_62 (by omega) (by omega)
          have hin_63 : vp_in (0 : Int32) 157 := vp_in_iff.mpr ⟨by omega, by omega⟩
          refine va_iast hx hb hK hP hD hS 3 0 rfl rfl hin_63 dX11_readMan_55 (fun H locs hP hD hS => ?_)
          obtain ⟨f_64, ef_64⟩ : ∃ z : Nat → Int32, z = upd vmrf_55 (Int32.toNatClampNeg 0) z_62 := ⟨_, rfl⟩
          have hP : va_P (dC, dI) vwCl [(vmrn, .inl (cy 1, 17, .inr (.inl vmrnf_28))), (vmt, .inl (cy 0, 940, .inl vmtf)), (vo, .inr (12, [.int voth, .ref vmt, .int votp, .int vosz, .int volm, .int voto_36, .int vofr_37, .int vokd_38, .int vonu_41, .int vosg_39, .int vofa_42, .int vopl_43, .long vowd_40, .int votd_44, .ref vmn, .ref vmr, .ref vmk, .ref vms, .ref vma, .ref vmm, .ref vmrn, .ref vmkn, .ref vmik, .ref vmon, .int vosm, .int vohp, .ref vmw, .ref vmf, .ref vmb, .int vomb, .ref vmd, .ref vmc, .int vocm, .int voct, .int vocy, .ref vmx, .int votx, .int vose, .ref vml, .ref vmwr, .int voln, .int vohw, .ref vmno, .int vond, .int voon, .int vowi, .int votop])), (vmr, .inl (cy 0, 157, .inl f_64))] H := by rw [ef_64]; exact hP
          have hD : va_D A [(vmrn, .inl (cy 1, 17, .inr (.inl vmrnf_28))), (vmt, .inl (cy 0, 940, .inl vmtf)), (vo, .inr (12, [.int voth, .ref vmt, .int votp, .int vosz, .int volm, .int voto_36, .int vofr_37, .int vokd_38, .int vonu_41, .int vosg_39, .int vofa_42, .int vopl_43, .long vowd_40, .int votd_44, .ref vmn, .ref vmr, .ref vmk, .ref vms, .ref vma, .ref vmm, .ref vmrn, .ref vmkn, .ref vmik, .ref vmon, .int vosm, .int vohp, .ref vmw, .ref vmf, .ref vmb, .int vomb, .ref vmd, .ref vmc, .int vocm, .int voct, .int vocy, .ref vmx, .int votx, .int vose, .ref vml, .ref vmwr, .int voln, .int vohw, .ref vmno, .int vond, .int voon, .int vowi, .int votop])), (vmr, .inl (cy 0, 157, .inl f_64))] := by rw [ef_64]; exact hD
          have p_f_64 : RD f_64 := by rw [ef_64]; exact q_57.upd ⟨by omega, by omega⟩
          refine lv_iconst (v := 1) hx hb dX11_readMan_56 (by decide) ?_
          rw [hQ9]
          exact re_z (voto_36, vofr_37, vokd_38, vosg_39, vowd_40, vonu_41, vofa_42, vopl_43, votd_44, f_64, vmrnf_28) hx hb hr hlocks (Or.inr rfl) ⟨(show ((1 : Int32) = 0) ∨ ((1 : Int32) = 1 ∧ ((vokd_38 : Int32).toInt = 0 ∨ (vokd_38 : Int32).toInt = 1 ∨ (voto : Int32).toInt + 1 ≤ (voto_36 : Int32).toInt)) from (Or.inr (⟨rfl, by omega⟩))), (show 0 ≤ (voto_36 : Int32).toInt ∧ (voto_36 : Int32).toInt ≤ 940 from ⟨by omega, by omega⟩), (show -1 ≤ (votd_44 : Int32).toInt ∧ (votd_44 : Int32).toInt ≤ 999 from ⟨by omega, by omega⟩), (show RD f_64 from p_f_64), (show (voto : Int32).toInt ≤ (voto_36 : Int32).toInt from (by omega))⟩ (hP.sub [2, 1, 3, 0] rfl) (hD.sub [2, 1, 3, 0] rfl rfl) hS dX11_readMan_57
abbrev cX11_readDeed : ByteArray := prog_13_method_34_code
def yX11_readDeed : MethodName := ⟨RX11, "readDeed", "()Z"⟩
theorem t1663 : Cond.code yX11_readDeed cX11_readDeed 2 (some .boolean) ∈ GW := gw_mem 1777 (by decide +kernel) (by decide +kernel)
abbrev O_m_readDeed (cy : Nat → ClassId) (vo : Nat) (voth : Int32) (vmt : Nat) (votp : Int32) (vosz : Int32) (volm : Int32) (voto : Int32) (vofr : Int32) (vokd : Int32) (vonu : Int32) (vosg : Int32) (vofa : Int32) (vopl : Int32) (vowd : Int64) (votd : Int32) (vmn : Nat) (vmr : Nat) (vmk : Nat) (vms : Nat) (vma : Nat) (vmm : Nat) (vmrn : Nat) (vmkn : Nat) (vmik : Nat) (vmon : Nat) (vosm : Int32) (vohp : Int32) (vmw : Nat) (vmf : Nat) (vmb : Nat) (vomb : Int32) (vmd : Nat) (vmc : Nat) (vocm : Int32) (voct : Int32) (vocy : Int32) (vmx : Nat) (votx : Int32) (vose : Int32) (vml : Nat) (vmwr : Nat) (voln : Int32) (vohw : Int32) (vmno : Nat) (vond : Int32) (voon : Int32) (vowi : Int32) (votop : Int32) (vmtf : Nat → Int32) (vmrf : Nat → Int32) (vmrnf : Nat → Int64) (u : Int32 × Int32 × Int32 × Int32 × Int64 × Int32 × Int32 × Int32 × Int32 × (Nat → Int32) × (Nat → Int64)) : va_W := [(vo, .inr (12, [.int voth, .ref vmt, .int votp, .int vosz, .int volm, .int u.1, .int u.2.1, .int u.2.2.1, .int u.2.2.2.2.2.1, .int u.2.2.2.1, .int u.2.2.2.2.2.2.1, .int u.2.2.2.2.2.2.2.1, .long u.2.2.2.2.1, .int u.2.2.2.2.2.2.2.2.1, .ref vmn, .ref vmr, .ref vmk, .ref vms, .ref vma, .ref vmm, .ref vmrn, .ref vmkn, .ref vmik, .ref vmon, .int vosm, .int vohp, .ref vmw, .ref vmf, .ref vmb, .int vomb, .ref vmd, .ref vmc, .int vocm, .int voct, .int vocy, .ref vmx, .int votx, .int vose, .ref vml, .ref vmwr, .int voln, .int vohw, .ref vmno, .int vond, .int voon, .int vowi, .int votop])), (vmt, .inl (cy 0, 940, .inl vmtf)), (vmr, .inl (cy 0, 157, .inl u.2.2.2.2.2.2.2.2.2.1)), (vmrn, .inl (cy 1, 17, .inr (.inl u.2.2.2.2.2.2.2.2.2.2)))]
theorem dX11_readDeed_0 : decode cX11_readDeed 0 = .ok (.aload_n 0, 1) := by decide +kernel
theorem dX11_readDeed_1 : decode cX11_readDeed 1 = .ok (.iconst 1, 1) := by decide +kernel
theorem dX11_readDeed_2 : decode cX11_readDeed 2 = .ok (.bipush 10, 2) := by decide +kernel
theorem dX11_readDeed_4 : decode cX11_readDeed 4 = .ok (.invokevirtual 171, 3) := by decide +kernel
theorem dX11_readDeed_7 : decode cX11_readDeed 7 = .ok (.ifCond .ne 5, 3) := by decide +kernel
theorem dX11_readDeed_10 : decode cX11_readDeed 10 = .ok (.iconst 0, 1) := by decide +kernel
theorem dX11_readDeed_11 : decode cX11_readDeed 11 = .ok (.ireturn, 1) := by decide +kernel
theorem dX11_readDeed_12 : decode cX11_readDeed 12 = .ok (.aload_n 0, 1) := by decide +kernel
theorem dX11_readDeed_13 : decode cX11_readDeed 13 = .ok (.getfield 101, 3) := by decide +kernel
theorem dX11_readDeed_16 : decode cX11_readDeed 16 = .ok (.iconst 1, 1) := by decide +kernel
theorem dX11_readDeed_17 : decode cX11_readDeed 17 = .ok (.iaload, 1) := by decide +kernel
theorem dX11_readDeed_18 : decode cX11_readDeed 18 = .ok (.istore_n 1, 1) := by decide +kernel
theorem dX11_readDeed_19 : decode cX11_readDeed 19 = .ok (.aload_n 0, 1) := by decide +kernel
theorem dX11_readDeed_20 : decode cX11_readDeed 20 = .ok (.bipush 7, 2) := by decide +kernel
theorem dX11_readDeed_22 : decode cX11_readDeed 22 = .ok (.iload_n 1, 1) := by decide +kernel
theorem dX11_readDeed_23 : decode cX11_readDeed 23 = .ok (.iadd, 1) := by decide +kernel
theorem dX11_readDeed_24 : decode cX11_readDeed 24 = .ok (.invokevirtual 175, 3) := by decide +kernel
theorem dX11_readDeed_27 : decode cX11_readDeed 27 = .ok (.ifCond .ne 5, 3) := by decide +kernel
theorem dX11_readDeed_30 : decode cX11_readDeed 30 = .ok (.iconst 0, 1) := by decide +kernel
theorem dX11_readDeed_31 : decode cX11_readDeed 31 = .ok (.ireturn, 1) := by decide +kernel
theorem dX11_readDeed_54 : decode cX11_readDeed 54 = .ok (.aload_n 0, 1) := by decide +kernel
theorem dX11_readDeed_55 : decode cX11_readDeed 55 = .ok (.getfield 101, 3) := by decide +kernel
theorem dX11_readDeed_58 : decode cX11_readDeed 58 = .ok (.bipush 21, 2) := by decide +kernel
theorem dX11_readDeed_60 : decode cX11_readDeed 60 = .ok (.iload_n 1, 1) := by decide +kernel
theorem dX11_readDeed_61 : decode cX11_readDeed 61 = .ok (.iadd, 1) := by decide +kernel
theorem dX11_readDeed_62 : decode cX11_readDeed 62 = .ok (.aload_n 0, 1) := by decide +kernel
theorem dX11_readDeed_63 : decode cX11_readDeed 63 = .ok (.iconst 3, 1) := by decide +kernel
theorem dX11_readDeed_64 : decode cX11_readDeed 64 = .ok (.invokevirtual 185, 3) := by decide +kernel
theorem t1616 : Cond.methodLink RX11 185 yX11_isWord ∈ GW := gw_mem 1730 (by decide +kernel) (by decide +kernel)
theorem t1618 : Cond.instanceMethod yX11_isWord ∈ GW := gw_mem 1732 (by decide +kernel) (by decide +kernel)
theorem s45 : Cond.selects RX11 yX11_isWord yX11_isWord ∈ GW := gw_mem 45 (by decide +kernel) (by decide +kernel)
theorem cw_X11_185 {R : Room} {s : State} {args : Array Value} {rm : Room} {mc ms : Nat} (hts : ∀ w ∈ GW, w.before args s = true) (hrc : rm.cells = mc) (hrs : rm.slots = ms) (hR : rm.frames + 1 ≤ R.frames ∧ 8 + (2 + 11) + rm.locals ≤ R.locals) : CallW R s args RX11 RX11 185 yX11_isWord cX11_isWord 2 (some .boolean) (wl yX11_isWord cX11_isWord 2 (some .boolean)) rm mc ms 1 := cwV 1 hts (gi_V t1616 t1618 s45 t18 t1619) rfl hrc hrs (by decide +kernel) hR
theorem dX11_readDeed_67 : decode cX11_readDeed 67 = .ok (.ifCond .eq 7, 3) := by decide +kernel
theorem dX11_readDeed_74 : decode cX11_readDeed 74 = .ok (.iconst 0, 1) := by decide +kernel
theorem dX11_readDeed_75 : decode cX11_readDeed 75 = .ok (.iastore, 1) := by decide +kernel
theorem dX11_readDeed_76 : decode cX11_readDeed 76 = .ok (.aload_n 0, 1) := by decide +kernel
theorem dX11_readDeed_77 : decode cX11_readDeed 77 = .ok (.invokevirtual 82, 3) := by decide +kernel
theorem dX11_readDeed_80 : decode cX11_readDeed 80 = .ok (.aload_n 0, 1) := by decide +kernel
theorem dX11_readDeed_81 : decode cX11_readDeed 81 = .ok (.bipush 11, 2) := by decide +kernel
theorem dX11_readDeed_83 : decode cX11_readDeed 83 = .ok (.iload_n 1, 1) := by decide +kernel
theorem dX11_readDeed_84 : decode cX11_readDeed 84 = .ok (.iadd, 1) := by decide +kernel
theorem dX11_readDeed_85 : decode cX11_readDeed 85 = .ok (.aload_n 0, 1) := by decide +kernel
theorem dX11_readDeed_86 : decode cX11_readDeed 86 = .ok (.iconst 1, 1) := by decide +kernel
theorem dX11_readDeed_87 : decode cX11_readDeed 87 = .ok (.bipush 40, 2) := by decide +kernel
theorem dX11_readDeed_89 : decode cX11_readDeed 89 = .ok (.invokevirtual 178, 3) := by decide +kernel
theorem dX11_readDeed_92 : decode cX11_readDeed 92 = .ok (.invokevirtual 181, 3) := by decide +kernel
theorem dX11_readDeed_95 : decode cX11_readDeed 95 = .ok (.ifCond .ne 5, 3) := by decide +kernel
theorem dX11_readDeed_98 : decode cX11_readDeed 98 = .ok (.iconst 0, 1) := by decide +kernel
theorem dX11_readDeed_99 : decode cX11_readDeed 99 = .ok (.ireturn, 1) := by decide +kernel
theorem dX11_readDeed_100 : decode cX11_readDeed 100 = .ok (.aload_n 0, 1) := by decide +kernel
theorem dX11_readDeed_101 : decode cX11_readDeed 101 = .ok (.getfield 101, 3) := by decide +kernel
theorem dX11_readDeed_104 : decode cX11_readDeed 104 = .ok (.iconst 1, 1) := by decide +kernel
theorem dX11_readDeed_105 : decode cX11_readDeed 105 = .ok (.dup2, 1) := by decide +kernel
theorem dX11_readDeed_106 : decode cX11_readDeed 106 = .ok (.iaload, 1) := by decide +kernel
theorem dX11_readDeed_107 : decode cX11_readDeed 107 = .ok (.iconst 1, 1) := by decide +kernel
theorem dX11_readDeed_108 : decode cX11_readDeed 108 = .ok (.iadd, 1) := by decide +kernel
theorem dX11_readDeed_109 : decode cX11_readDeed 109 = .ok (.iastore, 1) := by decide +kernel
theorem dX11_readDeed_110 : decode cX11_readDeed 110 = .ok (.iconst 1, 1) := by decide +kernel
theorem dX11_readDeed_111 : decode cX11_readDeed 111 = .ok (.ireturn, 1) := by decide +kernel
theorem dX11_readDeed_70 : decode cX11_readDeed 70 = .ok (.iconst 1, 1) := by decide +kernel
theorem dX11_readDeed_71 : decode cX11_readDeed 71 = .ok (.goto 4, 3) := by decide +kernel
theorem dX11_readDeed_32 : decode cX11_readDeed 32 = .ok (.aload_n 0, 1) := by decide +kernel
theorem dX11_readDeed_33 : decode cX11_readDeed 33 = .ok (.iconst 2, 1) := by decide +kernel
theorem dX11_readDeed_34 : decode cX11_readDeed 34 = .ok (.invokevirtual 185, 3) := by decide +kernel
theorem dX11_readDeed_37 : decode cX11_readDeed 37 = .ok (.ifCond .ne 17, 3) := by decide +kernel
theorem dX11_readDeed_40 : decode cX11_readDeed 40 = .ok (.aload_n 0, 1) := by decide +kernel
theorem dX11_readDeed_41 : decode cX11_readDeed 41 = .ok (.iconst 3, 1) := by decide +kernel
theorem dX11_readDeed_42 : decode cX11_readDeed 42 = .ok (.invokevirtual 185, 3) := by decide +kernel
theorem dX11_readDeed_45 : decode cX11_readDeed 45 = .ok (.ifCond .ne 9, 3) := by decide +kernel
theorem dX11_readDeed_48 : decode cX11_readDeed 48 = .ok (.aload_n 0, 1) := by decide +kernel
theorem dX11_readDeed_49 : decode cX11_readDeed 49 = .ok (.iconst 1, 1) := by decide +kernel
theorem dX11_readDeed_50 : decode cX11_readDeed 50 = .ok (.invokevirtual 72, 3) := by decide +kernel
theorem dX11_readDeed_53 : decode cX11_readDeed 53 = .ok (.ireturn, 1) := by decide +kernel
set_option maxHeartbeats 4000000 in
set_option maxRecDepth 100000 in
theorem m_readDeed (l : Launch) (dC : Nat → ClassId) (dI : Nat → Nat → Nat) (cy : Nat → ClassId) (sz : Nat) (vo : Nat) (voth : Int32) (vmt : Nat) (votp : Int32) (vosz : Int32) (volm : Int32) (voto : Int32) (vofr : Int32) (vokd : Int32) (vonu : Int32) (vosg : Int32) (vofa : Int32) (vopl : Int32) (vowd : Int64) (votd : Int32) (vmn : Nat) (vmr : Nat) (vmk : Nat) (vms : Nat) (vma : Nat) (vmm : Nat) (vmrn : Nat) (vmkn : Nat) (vmik : Nat) (vmon : Nat) (vosm : Int32) (vohp : Int32) (vmw : Nat) (vmf : Nat) (vmb : Nat) (vomb : Int32) (vmd : Nat) (vmc : Nat) (vocm : Int32) (voct : Int32) (vocy : Int32) (vmx : Nat) (votx : Int32) (vose : Int32) (vml : Nat) (vmwr : Nat) (voln : Int32) (vohw : Int32) (vmno : Nat) (vond : Int32) (voon : Int32) (vowi : Int32) (votop : Int32) (vmtf : Nat → Int32) (vmrf : Nat → Int32) (vmrnf : Nat → Int64) (r_vosz : 0 ≤ (vosz : Int32).toInt ∧ (vosz : Int32).toInt ≤ 940) (r_voto : 0 ≤ (voto : Int32).toInt ∧ (voto : Int32).toInt ≤ 940) (r_votd : -1 ≤ (votd : Int32).toInt ∧ (votd : Int32).toInt ≤ 999) (p_vmtf : Rg vmtf 940 0 255) (p_vmrf : RD vmrf) : Met l yX11_readDeed (wl yX11_readDeed cX11_readDeed 2 (some .boolean)) ({ frames := 4, cells := 0, slots := 0, locals := 256 }) (Pw (dC, dI) vwCl cy [(vo, .inr (12, [.int voth, .ref vmt, .int votp, .int vosz, .int volm, .int voto, .int vofr, .int vokd, .int vonu, .int vosg, .int vofa, .int vopl, .long vowd, .int votd, .ref vmn, .ref vmr, .ref vmk, .ref vms, .ref vma, .ref vmm, .ref vmrn, .ref vmkn, .ref vmik, .ref vmon, .int vosm, .int vohp, .ref vmw, .ref vmf, .ref vmb, .int vomb, .ref vmd, .ref vmc, .int vocm, .int voct, .int vocy, .ref vmx, .int votx, .int vose, .ref vml, .ref vmwr, .int voln, .int vohw, .ref vmno, .int vond, .int voon, .int vowi, .int votop])), (vmt, .inl (cy 0, 940, .inl vmtf)), (vmr, .inl (cy 0, 157, .inl vmrf)), (vmrn, .inl (cy 1, 17, .inr (.inl vmrnf)))] sz [.ref vo] nE) (Qi (dC, dI) vwCl (fun (r : Int32) (u : Int32 × Int32 × Int32 × Int32 × Int64 × Int32 × Int32 × Int32 × Int32 × (Nat → Int32) × (Nat → Int64)) => ((r = 0) ∨ (r = 1 ∧ ((u.2.2.1 : Int32).toInt = 0 ∨ (u.2.2.1 : Int32).toInt = 1 ∨ (voto : Int32).toInt + 1 ≤ (u.1 : Int32).toInt))) ∧ (0 ≤ (u.1 : Int32).toInt ∧ (u.1 : Int32).toInt ≤ 940) ∧ (-1 ≤ (u.2.2.2.2.2.2.2.2.1 : Int32).toInt ∧ (u.2.2.2.2.2.2.2.2.1 : Int32).toInt ≤ 999) ∧ (RD u.2.2.2.2.2.2.2.2.2.1) ∧ ((voto : Int32).toInt ≤ (u.1 : Int32).toInt)) (O_m_readDeed cy vo voth vmt votp vosz volm voto vofr vokd vonu vosg vofa vopl vowd votd vmn vmr vmk vms vma vmm vmrn vmkn vmik vmon vosm vohp vmw vmf vmb vomb vmd vmc vocm voct vocy vmx votx vose vml vmwr voln vohw vmno vond voon vowi votop vmtf vmrf vmrnf) (va_A [(vo, .inr (12, [.int voth, .ref vmt, .int votp, .int vosz, .int volm, .int voto, .int vofr, .int vokd, .int vonu, .int vosg, .int vofa, .int vopl, .long vowd, .int votd, .ref vmn, .ref vmr, .ref vmk, .ref vms, .ref vma, .ref vmm, .ref vmrn, .ref vmkn, .ref vmik, .ref vmon, .int vosm, .int vohp, .ref vmw, .ref vmf, .ref vmb, .int vomb, .ref vmd, .ref vmc, .int vocm, .int voct, .int vocy, .ref vmx, .int votx, .int vose, .ref vml, .ref vmwr, .int voln, .int vohw, .ref vmno, .int vond, .int voon, .int vowi, .int votop])), (vmt, .inl (cy 0, 940, .inl vmtf)), (vmr, .inl (cy 0, 157, .inl vmrf)), (vmrn, .inl (cy 1, 17, .inr (.inl vmrnf)))] sz)) 0 0 (va_A [(vo, .inr (12, [.int voth, .ref vmt, .int votp, .int vosz, .int volm, .int voto, .int vofr, .int vokd, .int vonu, .int vosg, .int vofa, .int vopl, .long vowd, .int votd, .ref vmn, .ref vmr, .ref vmk, .ref vms, .ref vma, .ref vmm, .ref vmrn, .ref vmkn, .ref vmik, .ref vmon, .int vosm, .int vohp, .ref vmw, .ref vmf, .ref vmb, .int vomb, .ref vmd, .ref vmc, .int vocm, .int voct, .int vocy, .ref vmx, .int votx, .int vose, .ref vml, .ref vmwr, .int voln, .int vohw, .ref vmno, .int vond, .int voon, .int vowi, .int votop])), (vmt, .inl (cy 0, 940, .inl vmtf)), (vmr, .inl (cy 0, 157, .inl vmrf)), (vmrn, .inl (cy 1, 17, .inr (.inl vmrnf)))] sz) := by
  refine mw (Qc := Qi (dC, dI) vwCl (fun (r : Int32) (u : Int32 × Int32 × Int32 × Int32 × Int64 × Int32 × Int32 × Int32 × Int32 × (Nat → Int32) × (Nat → Int64)) => ((r = 0) ∨ (r = 1 ∧ ((u.2.2.1 : Int32).toInt = 0 ∨ (u.2.2.1 : Int32).toInt = 1 ∨ (voto : Int32).toInt + 1 ≤ (u.1 : Int32).toInt))) ∧ (0 ≤ (u.1 : Int32).toInt ∧ (u.1 : Int32).toInt ≤ 940) ∧ (-1 ≤ (u.2.2.2.2.2.2.2.2.1 : Int32).toInt ∧ (u.2.2.2.2.2.2.2.2.1 : Int32).toInt ≤ 999) ∧ (RD u.2.2.2.2.2.2.2.2.2.1) ∧ ((voto : Int32).toInt ≤ (u.1 : Int32).toInt)) (O_m_readDeed cy vo voth vmt votp vosz volm voto vofr vokd vonu vosg vofa vopl vowd votd vmn vmr vmk vms vma vmm vmrn vmkn vmik vmon vosm vohp vmw vmf vmb vomb vmd vmc vocm voct vocy vmx votx vose vml vmwr voln vohw vmno vond voon vowi votop vmtf vmrf vmrnf)) RX11 rfl (by decide +kernel) (Nat.le_of_ble_eq_true rfl) ?_
  intro p e s m below meth c A hx hb hr hlocks av9 hav hts hown hnm hml hK hP hD hA hS hE hAe Q9 hQ9 ls hl
  have hl : lv_has ls 2 [(0, .ref vo)] := hl
  refine lv_aload_n hx hb dX11_readDeed_0 rfl (lv_at hl 0 rfl) ?_
  refine lv_iconst (v := 1) hx hb dX11_readDeed_1 (by decide) ?_
  refine lv_bipush (v := 10) hx hb dX11_readDeed_2 (by decide) ?_
  refine jn_i (wr := [(vmrn, .inl (cy 1, 17, .inr (.inl vmrnf)))]) (rV (As := [.int 1, .int 10]) (rest := []) (ci := 12) ⟨hx, hb, hml, hown, hts⟩ (m_readFirst_1 l dC dI cy _ vo voth vmt votp vosz volm voto vofr vokd vonu vosg vofa vopl vowd votd vmn vmr vmk vms vma vmm vmrn vmkn vmik vmon vosm vohp vmw vmf vmb vomb vmd vmc vocm voct vocy vmx votx vose vml vmwr voln vohw vmno vond voon vowi votop vmtf vmrf r_vosz r_voto p_vmtf p_vmrf) (cw_X11_171 hts rfl rfl ⟨Nat.le_of_ble_eq_true rfl, Nat.le_of_ble_eq_true rfl⟩) hP hD hK [0, 1, 2] rfl rfl rfl rfl bl0 e0 rfl hl.1 rfl (Nat.le_of_ble_eq_true rfl) dX11_readDeed_4 ⟨Nat.le_of_ble_eq_true rfl, Nat.le_of_ble_eq_true rfl⟩) hP hD hS hA [0, 1, 2] [3] rfl rfl rfl (by decide) (fun r_1 u_3 H locs hp_2 hP hD hS => ?_)
  obtain ⟨voto_4, vofr_5, vokd_6, vosg_7, vowd_8, vonu_9, vofa_10, vopl_11⟩ := u_3
  have hp_2 : ((r_1 = 0) ∨ (r_1 = 1 ∧ (vmrf 1).toInt ≤ 9 ∧ ((vokd_6 : Int32).toInt = 0 ∨ (vokd_6 : Int32).toInt = 1 ∨ (voto : Int32).toInt + 1 ≤ (voto_4 : Int32).toInt))) ∧ (0 ≤ (voto_4 : Int32).toInt ∧ (voto_4 : Int32).toInt ≤ 940) ∧ ((voto : Int32).toInt ≤ (voto_4 : Int32).toInt) := hp_2
  obtain ⟨q_12, q_13, q_14⟩ := hp_2
  have hP : va_P (dC, dI) vwCl [(vmrn, .inl (cy 1, 17, .inr (.inl vmrnf))), (vo, .inr (12, [.int voth, .ref vmt, .int votp, .int vosz, .int volm, .int voto_4, .int vofr_5, .int vokd_6, .int vonu_9, .int vosg_7, .int vofa_10, .int vopl_11, .long vowd_8, .int votd, .ref vmn, .ref vmr, .ref vmk, .ref vms, .ref vma, .ref vmm, .ref vmrn, .ref vmkn, .ref vmik, .ref vmon, .int vosm, .int vohp, .ref vmw, .ref vmf, .ref vmb, .int vomb, .ref vmd, .ref vmc, .int vocm, .int voct, .int vocy, .ref vmx, .int votx, .int vose, .ref vml, .ref vmwr, .int voln, .int vohw, .ref vmno, .int vond, .int voon, .int vowi, .int votop])), (vmt, .inl (cy 0, 940, .inl vmtf)), (vmr, .inl (cy 0, 157, .inl vmrf))] H := hP
  have hD : va_D A [(vmrn, .inl (cy 1, 17, .inr (.inl vmrnf))), (vo, .inr (12, [.int voth, .ref vmt, .int votp, .int vosz, .int volm, .int voto_4, .int vofr_5, .int vokd_6, .int vonu_9, .int vosg_7, .int vofa_10, .int vopl_11, .long vowd_8, .int votd, .ref vmn, .ref vmr, .ref vmk, .ref vms, .ref vma, .ref vmm, .ref vmrn, .ref vmkn, .ref vmik, .ref vmon, .int vosm, .int vohp, .ref vmw, .ref vmf, .ref vmb, .int vomb, .ref vmd, .ref vmc, .int vocm, .int voct, .int vocy, .ref vmx, .int votx, .int vose, .ref vml, .ref vmwr, .int voln, .int vohw, .ref vmno, .int vond, .int voon, .int vowi, .int votop])), (vmt, .inl (cy 0, 940, .inl vmtf)), (vmr, .inl (cy 0, 157, .inl vmrf))] := hD
  rcases q_12 with aq_12 | ⟨aq_12, f0q_12, f1q_12⟩
  · skip
    refine as_i 0 aq_12 ?_
    refine lv_if_ne (tgt := 12) hx hb dX11_readDeed_7 (by decide) (fun c9 => absurd c9 (by decide)) (fun _ => ?_)
    refine lv_iconst (v := 0) hx hb dX11_readDeed_10 (by decide) ?_
    have k_0 : (0 : Int32).toInt = 0 := by decide
    rw [hQ9]
    exact re_z (voto_4, vofr_5, vokd_6, vosg_7, vowd_8, vonu_9, vofa_10, vopl_11, votd, vmrf, vmrnf) hx hb hr hlocks (Or.inl rfl) ⟨(show ((0 : Int32) = 0) ∨ ((0 : Int32) = 1 ∧ ((vokd_6 : Int32).toInt = 0 ∨ (vokd_6 : Int32).toInt = 1 ∨ (voto : Int32).toInt + 1 ≤ (voto_4 : Int32).toInt)) from (Or.inl rfl)), (show 0 ≤ (voto_4 : Int32).toInt ∧ (voto_4 : Int32).toInt ≤ 940 from ⟨by omega, by omega⟩), (show -1 ≤ (votd : Int32).toInt ∧ (votd : Int32).toInt ≤ 999 from ⟨by omega, by omega⟩), (show RD vmrf from p_vmrf), (show (voto : Int32).toInt ≤ (voto_4 : Int32).toInt from q_14)⟩ (hP.sub [1, 2, 3, 0] rfl) (hD.sub [1, 2, 3, 0] rfl rfl) hS dX11_readDeed_11
  · skip
    refine as_i 1 aq_12 ?_
    refine lv_if_ne (tgt := 12) hx hb dX11_readDeed_7 (by decide) (fun _ => ?_) (fun c9 => absurd c9 (by decide))
    refine lv_aload_n hx hb dX11_readDeed_12 rfl (lv_at hl 0 rfl) ?_
    refine gf_X11_101 hx hb hts hown hK hP 1 rfl rfl dX11_readDeed_13 ?_
    refine lv_iconst (v := 1) hx hb dX11_readDeed_16 (by decide) ?_
    have k_1 : (1 : Int32).toInt = 1 := by decide
    have hin_15 : vp_in (1 : Int32) 157 := vp_in_iff.mpr ⟨by omega, by omega⟩
    refine va_iald hx hb hK hP 3 0 rfl rfl hin_15 dX11_readDeed_17 ?_
    refine lv_topi (fun z_16 ez_16 => ?_)
    have bz_16 := p_vmrf.a1 (x := 1) ⟨by omega, by omega⟩ ez_16
    have tz_16 : z_16.toInt = (vmrf 1).toInt := by rw [ez_16]; rfl
    refine lv_istore_n (lv' := [(1, .int z_16), (0, .ref vo)]) hx hb dX11_readDeed_18 rfl hl (by decide) rfl (fun ls hl => ?_)
    refine lv_aload_n hx hb dX11_readDeed_19 rfl (lv_at hl 1 rfl) ?_
    refine lv_bipush (v := 7) hx hb dX11_readDeed_20 (by decide) ?_
    refine lv_iload_n hx hb dX11_readDeed_22 rfl (lv_at hl 0 rfl) ?_
    refine lv_iadd hx hb dX11_readDeed_23 ?_
    refine lv_topi (fun z_17 ez_17 => ?_)
    have k_7 : (7 : Int32).toInt = 7 := by decide
    have bz_17 : z_17.toInt = (7 : Int32).toInt + z_16.toInt := i_add ez_17 (by omega) (by omega)
    refine jn_i (wr := []) (rV (As := [.int z_17]) (rest := []) (ci := 12) ⟨hx, hb, hml, hown, hts⟩ (m_readNew l dC dI cy _ vo voth vmt votp vosz volm voto_4 vofr_5 vokd_6 vonu_9 vosg_7 vofa_10 vopl_11 vowd_8 votd vmn vmr vmk vms vma vmm vmrn vmkn vmik vmon vosm vohp vmw vmf vmb vomb vmd vmc vocm voct vocy vmx votx vose vml vmwr voln vohw vmno vond voon vowi votop vmtf vmrf vmrnf z_17 r_vosz ⟨by omega, by omega⟩ ⟨by omega, by omega⟩ p_vmtf p_vmrf) (cw_X11_175 hts rfl rfl ⟨Nat.le_of_ble_eq_true rfl, Nat.le_of_ble_eq_true rfl⟩) hP hD hK [1, 2, 3, 0] rfl rfl rfl rfl bl0 e0 rfl hl.1 rfl (Nat.le_of_ble_eq_true rfl) dX11_readDeed_24 ⟨Nat.le_of_ble_eq_true rfl, Nat.le_of_ble_eq_true rfl⟩) hP hD hS hA [1, 2, 3, 0] [] rfl rfl rfl (by decide) (fun r_18 u_20 H locs hp_19 hP hD hS => ?_)
    obtain ⟨voto_21, vofr_22, vokd_23, vosg_24, vowd_25, vonu_26, vofa_27, vopl_28, vmrnf_29⟩ := u_20
    have hp_19 : ((r_18 = 0) ∨ (r_18 = 1 ∧ ((vokd_23 : Int32).toInt = 0 ∨ (vokd_23 : Int32).toInt = 1 ∨ (voto_4 : Int32).toInt + 1 ≤ (voto_21 : Int32).toInt))) ∧ (0 ≤ (voto_21 : Int32).toInt ∧ (voto_21 : Int32).toInt ≤ 940) ∧ ((voto_4 : Int32).toInt ≤ (voto_21 : Int32).toInt) := hp_19
    obtain ⟨q_30, q_31, q_32⟩ := hp_19
    have hP : va_P (dC, dI) vwCl [(vo, .inr (12, [.int voth, .ref vmt, .int votp, .int vosz, .int volm, .int voto_21, .int vofr_22, .int vokd_23, .int vonu_26, .int vosg_24, .int vofa_27, .int vopl_28, .long vowd_25, .int votd, .ref vmn, .ref vmr, .ref vmk, .ref vms, .ref vma, .ref vmm, .ref vmrn, .ref vmkn, .ref vmik, .ref vmon, .int vosm, .int vohp, .ref vmw, .ref vmf, .ref vmb, .int vomb, .ref vmd, .ref vmc, .int vocm, .int voct, .int vocy, .ref vmx, .int votx, .int vose, .ref vml, .ref vmwr, .int voln, .int vohw, .ref vmno, .int vond, .int voon, .int vowi, .int votop])), (vmt, .inl (cy 0, 940, .inl vmtf)), (vmr, .inl (cy 0, 157, .inl vmrf)), (vmrn, .inl (cy 1, 17, .inr (.inl vmrnf_29)))] H := hP
    have hD : va_D A [(vo, .inr (12, [.int voth, .ref vmt, .int votp, .int vosz, .int volm, .int voto_21, .int vofr_22, .int vokd_23, .int vonu_26, .int vosg_24, .int vofa_27, .int vopl_28, .long vowd_25, .int votd, .ref vmn, .ref vmr, .ref vmk, .ref vms, .ref vma, .ref vmm, .ref vmrn, .ref vmkn, .ref vmik, .ref vmon, .int vosm, .int vohp, .ref vmw, .ref vmf, .ref vmb, .int vomb, .ref vmd, .ref vmc, .int vocm, .int voct, .int vocy, .ref vmx, .int votx, .int vose, .ref vml, .ref vmwr, .int voln, .int vohw, .ref vmno, .int vond, .int voon, .int vowi, .int votop])), (vmt, .inl (cy 0, 940, .inl vmtf)), (vmr, .inl (cy 0, 157, .inl vmrf)), (vmrn, .inl (cy 1, 17, .inr (.inl vmrnf_29)))] := hD
    rcases q_30 with aq_30 | ⟨aq_30, f0q_30⟩
    · skip
      refine as_i 0 aq_30 ?_
      refine lv_if_ne (tgt := 32) hx hb dX11_readDeed_27 (by decide) (fun c9 => absurd c9 (by decide)) (fun _ => ?_)
      refine lv_iconst (v := 0) hx hb dX11_readDeed_30 (by decide) ?_
      have k_0 : (0 : Int32).toInt = 0 := by decide
      rw [hQ9]
      exact re_z (voto_21, vofr_22, vokd_23, vosg_24, vowd_25, vonu_26, vofa_27, vopl_28, votd, vmrf, vmrnf_29) hx hb hr hlocks (Or.inl rfl) ⟨(show ((0 : Int32) = 0) ∨ ((0 : Int32) = 1 ∧ ((vokd_23 : Int32).toInt = 0 ∨ (vokd_23 : Int32).toInt = 1 ∨ (voto : Int32).toInt + 1 ≤ (voto_21 : Int32).toInt)) from (Or.inl rfl)), (show 0 ≤ (voto_21 : Int32).toInt ∧ (voto_21 : Int32).toInt ≤ 940 from ⟨by omega, by omega⟩), (show -1 ≤ (votd : Int32).toInt ∧ (votd : Int32).toInt ≤ 999 from ⟨by omega, by omega⟩), (show RD vmrf from p_vmrf), (show (voto : Int32).toInt ≤ (voto_21 : Int32).toInt from (by omega))⟩ (hP.sub [0, 1, 2, 3] rfl) (hD.sub [0, 1, 2, 3] rfl rfl) hS dX11_readDeed_31
    · skip
      refine as_i 1 aq_30 ?_
      refine lv_if_ne (tgt := 32) hx hb dX11_readDeed_27 (by decide) (fun _ => ?_) (fun c9 => absurd c9 (by decide))
      have join33 : ∀ (H : Heap) (locs : List Loc), va_P (dC, dI) vwCl [(vo, .inr (12, [.int voth, .ref vmt, .int votp, .int vosz, .int volm, .int voto_21, .int vofr_22, .int vokd_23, .int vonu_26, .int vosg_24, .int vofa_27, .int vopl_28, .long vowd_25, .int votd, .ref vmn, .ref vmr, .ref vmk, .ref vms, .ref vma, .ref vmm, .ref vmrn, .ref vmkn, .ref vmik, .ref vmon, .int vosm, .int vohp, .ref vmw, .ref vmf, .ref vmb, .int vomb, .ref vmd, .ref vmc, .int vocm, .int voct, .int vocy, .ref vmx, .int votx, .int vose, .ref vml, .ref vmwr, .int voln, .int vohw, .ref vmno, .int vond, .int voon, .int vowi, .int votop])), (vmt, .inl (cy 0, 940, .inl vmtf)), (vmr, .inl (cy 0, 157, .inl vmrf)), (vmrn, .inl (cy 1, 17, .inr (.inl vmrnf_29)))] H → va_D A [(vo, .inr (12, [.int voth, .ref vmt, .int votp, .int vosz, .int volm, .int voto_21, .int vofr_22, .int vokd_23, .int vonu_26, .int vosg_24, .int vofa_27, .int vopl_28, .long vowd_25, .int votd, .ref vmn, .ref vmr, .ref vmk, .ref vms, .ref vma, .ref vmm, .ref vmrn, .ref vmkn, .ref vmik, .ref vmon, .int vosm, .int vohp, .ref vmw, .ref vmf, .ref vmb, .int vomb, .ref vmd, .ref vmc, .int vocm, .int voct, .int vocy, .ref vmx, .int votx, .int vose, .ref vml, .ref vmwr, .int voln, .int vohw, .ref vmno, .int vond, .int voon, .int vowi, .int votop])), (vmt, .inl (cy 0, 940, .inl vmtf)), (vmr, .inl (cy 0, 157, .inl vmrf)), (vmrn, .inl (cy 1, 17, .inr (.inl vmrnf_29)))] → va_S A s.heap H locs → ∀ ls : Array Slot, lv_has ls 2 [(1, .int z_16), (0, .ref vo)] → W p l e ({ frames := 4, cells := 0, slots := 0, locals := 256 }) s m av9 below meth c H locs 0 0 Q9 (F0 m 54 ls []) := by
        intro  H locs hP hD hS ls hl
        refine lv_aload_n hx hb dX11_readDeed_54 rfl (lv_at hl 1 rfl) ?_
        refine gf_X11_101 hx hb hts hown hK hP 0 rfl rfl dX11_readDeed_55 ?_
        refine lv_bipush (v := 21) hx hb dX11_readDeed_58 (by decide) ?_
        refine lv_iload_n hx hb dX11_readDeed_60 rfl (lv_at hl 0 rfl) ?_
        refine lv_iadd hx hb dX11_readDeed_61 ?_
        refine lv_topi (fun z_34 ez_34 => ?_)
        have k_21 : (21 : Int32).toInt = 21 := by decide
        have bz_34 : z_34.toInt = (21 : Int32).toInt + z_16.toInt := i_add ez_34 (by omega) (by omega)
        refine lv_aload_n hx hb dX11_readDeed_62 rfl (lv_at hl 1 rfl) ?_
        refine lv_iconst (v := 3) hx hb dX11_readDeed_63 (by decide) ?_
        have k_3 : (3 : Int32).toInt = 3 := by decide
        refine jr_i (rVr (As := [.int 3]) (rest := [.int z_34, .ref vmr]) (ci := 12) ⟨hx, hb, hml, hown, hts⟩ (m_isWord l dC dI cy vo voth vmt votp vosz volm voto_21 vofr_22 vokd_23 vonu_26 vosg_24 vofa_27 vopl_28 vowd_25 votd vmn vmr vmk vms vma vmm vmrn vmkn vmik vmon vosm vohp vmw vmf vmb vomb vmd vmc vocm voct vocy vmx votx vose vml vmwr voln vohw vmno vond voon vowi votop 3 ) (cw_X11_185 hts rfl rfl ⟨Nat.le_of_ble_eq_true rfl, Nat.le_of_ble_eq_true rfl⟩) hP hK [0] rfl rfl rfl rfl hl.1 rfl (Nat.le_of_ble_eq_true rfl) dX11_readDeed_64 ⟨Nat.le_of_ble_eq_true rfl, Nat.le_of_ble_eq_true rfl⟩) hP hS (fun r_35 H locs hp_36 hP hS => ?_)
        have hp_36 : ((r_35 = 0) ∨ (r_35 = 1 ∧ (vokd_23 : Int32).toInt = 2)) := hp_36
        have q_37 := hp_36
        rcases q_37 with aq_37 | ⟨aq_37, f0q_37⟩
        · skip
          refine as_i 0 aq_37 ?_
          refine lv_if_eq (tgt := 74) hx hb dX11_readDeed_67 (by decide) (fun _ => ?_) (fun c9 => absurd (by decide) c9)
          refine lv_iconst (v := 0) hx hb dX11_readDeed_74 (by decide) ?_
          have hin_38 : vp_in z_34 157 := vp_in_iff.mpr ⟨by omega, by omega⟩
          refine va_iast hx hb hK hP hD hS 2 0 rfl rfl hin_38 dX11_readDeed_75 (fun H locs hP hD hS => ?_)
          obtain ⟨f_39, ef_39⟩ : ∃ z : Nat → Int32, z = upd vmrf (Int32.toNatClampNeg z_34) 0 := ⟨_, rfl⟩
          have hP : va_P (dC, dI) vwCl [(vo, .inr (12, [.int voth, .ref vmt, .int votp, .int vosz, .int volm, .int voto_21, .int vofr_22, .int vokd_23, .int vonu_26, .int vosg_24, .int vofa_27, .int vopl_28, .long vowd_25, .int votd, .ref vmn, .ref vmr, .ref vmk, .ref vms, .ref vma, .ref vmm, .ref vmrn, .ref vmkn, .ref vmik, .ref vmon, .int vosm, .int vohp, .ref vmw, .ref vmf, .ref vmb, .int vomb, .ref vmd, .ref vmc, .int vocm, .int voct, .int vocy, .ref vmx, .int votx, .int vose, .ref vml, .ref vmwr, .int voln, .int vohw, .ref vmno, .int vond, .int voon, .int vowi, .int votop])), (vmt, .inl (cy 0, 940, .inl vmtf)), (vmr, .inl (cy 0, 157, .inl f_39)), (vmrn, .inl (cy 1, 17, .inr (.inl vmrnf_29)))] H := by rw [ef_39]; exact hP
          have hD : va_D A [(vo, .inr (12, [.int voth, .ref vmt, .int votp, .int vosz, .int volm, .int voto_21, .int vofr_22, .int vokd_23, .int vonu_26, .int vosg_24, .int vofa_27, .int vopl_28, .long vowd_25, .int votd, .ref vmn, .ref vmr, .ref vmk, .ref vms, .ref vma, .ref vmm, .ref vmrn, .ref vmkn, .ref vmik, .ref vmon, .int vosm, .int vohp, .ref vmw, .ref vmf, .ref vmb, .int vomb, .ref vmd, .ref vmc, .int vocm, .int voct, .int vocy, .ref vmx, .int votx, .int vose, .ref vml, .ref vmwr, .int voln, .int vohw, .ref vmno, .int vond, .int voon, .int vowi, .int votop])), (vmt, .inl (cy 0, 940, .inl vmtf)), (vmr, .inl (cy 0, 157, .inl f_39)), (vmrn, .inl (cy 1, 17, .inr (.inl vmrnf_29)))] := by rw [ef_39]; exact hD
          have k_0 : (0 : Int32).toInt = 0 := by decide
          have p_f_39 : RD f_39 := by rw [ef_39]; exact p_vmrf.upd ⟨by omega, by omega⟩
          have q0_f_39 : (f_39 0).toInt = (vmrf 0).toInt := by rw [ef_39, pk_un (RDne0 (x := z_34) (by omega))]
          have q1_f_39 : (f_39 1).toInt = (vmrf 1).toInt := by rw [ef_39, pk_un (RDne1 (x := z_34) (by omega))]
          refine lv_aload_n hx hb dX11_readDeed_76 rfl (lv_at hl 1 rfl) ?_
          refine jn_v (wr := [(vmr, .inl (cy 0, 157, .inl f_39)), (vmrn, .inl (cy 1, 17, .inr (.inl vmrnf_29)))]) (rV (As := []) (rest := []) (ci := 12) ⟨hx, hb, hml, hown, hts⟩ (m_go l dC dI cy _ vo voth vmt votp vosz volm voto_21 vofr_22 vokd_23 vonu_26 vosg_24 vofa_27 vopl_28 vowd_25 votd vmn vmr vmk vms vma vmm vmrn vmkn vmik vmon vosm vohp vmw vmf vmb vomb vmd vmc vocm voct vocy vmx votx vose vml vmwr voln vohw vmno vond voon vowi votop vmtf r_vosz ⟨by omega, by omega⟩ p_vmtf) (cw_X11_82 hts rfl rfl ⟨Nat.le_of_ble_eq_true rfl, Nat.le_of_ble_eq_true rfl⟩) hP hD hK [0, 1] rfl rfl rfl rfl bl0 e0 rfl hl.1 rfl (Nat.le_of_ble_eq_true rfl) dX11_readDeed_77 ⟨Nat.le_of_ble_eq_true rfl, Nat.le_of_ble_eq_true rfl⟩) hP hD hS hA [0, 1] [2, 3] rfl rfl rfl (by decide) (fun u_42 H locs hp_41 hP hD hS => ?_)
          obtain ⟨voto_43, vofr_44, vokd_45, vosg_46, vowd_47, vonu_48⟩ := u_42
          have hp_41 : (0 ≤ (voto_43 : Int32).toInt ∧ (voto_43 : Int32).toInt ≤ 940) ∧ ((voto_21 : Int32).toInt ≤ (voto_43 : Int32).toInt) ∧ (((vokd_45 : Int32).toInt = 0 ∨ (vokd_45 : Int32).toInt = 1 ∨ (voto_21 : Int32).toInt + 1 ≤ (voto_43 : Int32).toInt)) := hp_41
          obtain ⟨q_49, q_50, q_51⟩ := hp_41
          have hP : va_P (dC, dI) vwCl [(vmr, .inl (cy 0, 157, .inl f_39)), (vmrn, .inl (cy 1, 17, .inr (.inl vmrnf_29))), (vo, .inr (12, [.int voth, .ref vmt, .int votp, .int vosz, .int volm, .int voto_43, .int vofr_44, .int vokd_45, .int vonu_48, .int vosg_46, .int vofa_27, .int vopl_28, .long vowd_47, .int votd, .ref vmn, .ref vmr, .ref vmk, .ref vms, .ref vma, .ref vmm, .ref vmrn, .ref vmkn, .ref vmik, .ref vmon, .int vosm, .int vohp, .ref vmw, .ref vmf, .ref vmb, .int vomb, .ref vmd, .ref vmc, .int vocm, .int voct, .int vocy, .ref vmx, .int votx, .int vose, .ref vml, .ref vmwr, .int voln, .int vohw, .ref vmno, .int vond, .int voon, .int vowi, .int votop])), (vmt, .inl (cy 0, 940, .inl vmtf))] H := hP
          have hD : va_D A [(vmr, .inl (cy 0, 157, .inl f_39)), (vmrn, .inl (cy 1, 17, .inr (.inl vmrnf_29))), (vo, .inr (12, [.int voth, .ref vmt, .int votp, .int vosz, .int volm, .int voto_43, .int vofr_44, .int vokd_45, .int vonu_48, .int vosg_46, .int vofa_27, .int vopl_28, .long vowd_47, .int votd, .ref vmn, .ref vmr, .ref vmk, .ref vms, .ref vma, .ref vmm, .ref vmrn, .ref vmkn, .ref vmik, .ref vmon, .int vosm, .int vohp, .ref vmw, .ref vmf, .ref vmb, .int vomb, .ref vmd, .ref vmc, .int vocm, .int voct, .int vocy, .ref vmx, .int votx, .int vose, .ref vml, .ref vmwr, .int voln, .int vohw, .ref vmno, .int vond, .int voon, .int vowi, .int votop])), (vmt, .inl (cy 0, 940, .inl vmtf))] := hD
          refine lv_aload_n hx hb dX11_readDeed_80 rfl (lv_at hl 1 rfl) ?_
          refine lv_bipush (v := 11) hx hb dX11_readDeed_81 (by decide) ?_
          refine lv_iload_n hx hb dX11_readDeed_83 rfl (lv_at hl 0 rfl) ?_
          refine lv_iadd hx hb dX11_readDeed_84 ?_
          refine lv_topi (fun z_52 ez_52 => ?_)
          have k_11 : (11 : Int32).toInt = 11 := by decide
          have bz_52 : z_52.toInt = (11 : Int32).toInt + z_16.toInt := i_add ez_52 (by omega) (by omega)
          refine lv_aload_n hx hb dX11_readDeed_85 rfl (lv_at hl 1 rfl) ?_
          refine lv_iconst (v := 1) hx hb dX11_readDeed_86 (by decide) ?_
          refine lv_bipush (v := 40) hx hb dX11_readDeed_87 (by decide) ?_
          have k_40 : (40 : Int32).toInt = 40 := by decide
          refine jn_i (wr := [(vmr, .inl (cy 0, 157, .inl f_39)), (vmrn, .inl (cy 1, 17, .inr (.inl vmrnf_29)))]) (rV (As := [.int 1, .int 40]) (rest := [.int z_52, .ref vo]) (ci := 12) ⟨hx, hb, hml, hown, hts⟩ (m_readNumber l dC dI cy _ vo voth vmt votp vosz volm voto_43 vofr_44 vokd_45 vonu_48 vosg_46 vofa_27 vopl_28 vowd_47 votd vmn vmr vmk vms vma vmm vmrn vmkn vmik vmon vosm vohp vmw vmf vmb vomb vmd vmc vocm voct vocy vmx votx vose vml vmwr voln vohw vmno vond voon vowi votop vmtf 1 40 r_vosz ⟨by omega, by omega⟩ r_votd ⟨by omega, by omega⟩ ⟨by omega, by omega⟩ p_vmtf) (cw_X11_178 hts rfl rfl ⟨Nat.le_of_ble_eq_true rfl, Nat.le_of_ble_eq_true rfl⟩) hP hD hK [2, 3] rfl rfl rfl rfl bl0 e0 rfl hl.1 rfl (Nat.le_of_ble_eq_true rfl) dX11_readDeed_89 ⟨Nat.le_of_ble_eq_true rfl, Nat.le_of_ble_eq_true rfl⟩) hP hD hS hA [2, 3] [0, 1] rfl rfl rfl (by decide) (fun r_53 u_55 H locs hp_54 hP hD hS => ?_)
          obtain ⟨voto_56, vofr_57, vokd_58, vosg_59, vowd_60, vonu_61, vofa_62, vopl_63, votd_64⟩ := u_55
          have hp_54 : ((r_53 = 0 ∧ (votd_64 : Int32).toInt = (votd : Int32).toInt) ∨ (r_53 = 1 ∧ (1 : Int32).toInt ≤ (votd_64 : Int32).toInt ∧ (votd_64 : Int32).toInt ≤ (40 : Int32).toInt ∧ ((vokd_58 : Int32).toInt = 0 ∨ (vokd_58 : Int32).toInt = 1 ∨ (voto_43 : Int32).toInt + 1 ≤ (voto_56 : Int32).toInt))) ∧ (0 ≤ (voto_56 : Int32).toInt ∧ (voto_56 : Int32).toInt ≤ 940) ∧ (-1 ≤ (votd_64 : Int32).toInt ∧ (votd_64 : Int32).toInt ≤ 999) ∧ ((voto_43 : Int32).toInt ≤ (voto_56 : Int32).toInt) := hp_54
          obtain ⟨q_65, q_66, q_67, q_68⟩ := hp_54
          have hP : va_P (dC, dI) vwCl [(vmr, .inl (cy 0, 157, .inl f_39)), (vmrn, .inl (cy 1, 17, .inr (.inl vmrnf_29))), (vo, .inr (12, [.int voth, .ref vmt, .int votp, .int vosz, .int volm, .int voto_56, .int vofr_57, .int vokd_58, .int vonu_61, .int vosg_59, .int vofa_62, .int vopl_63, .long vowd_60, .int votd_64, .ref vmn, .ref vmr, .ref vmk, .ref vms, .ref vma, .ref vmm, .ref vmrn, .ref vmkn, .ref vmik, .ref vmon, .int vosm, .int vohp, .ref vmw, .ref vmf, .ref vmb, .int vomb, .ref vmd, .ref vmc, .int vocm, .int voct, .int vocy, .ref vmx, .int votx, .int vose, .ref vml, .ref vmwr, .int voln, .int vohw, .ref vmno, .int vond, .int voon, .int vowi, .int votop])), (vmt, .inl (cy 0, 940, .inl vmtf))] H := hP
          have hD : va_D A [(vmr, .inl (cy 0, 157, .inl f_39)), (vmrn, .inl (cy 1, 17, .inr (.inl vmrnf_29))), (vo, .inr (12, [.int voth, .ref vmt, .int votp, .int vosz, .int volm, .int voto_56, .int vofr_57, .int vokd_58, .int vonu_61, .int vosg_59, .int vofa_62, .int vopl_63, .long vowd_60, .int votd_64, .ref vmn, .ref vmr, .ref vmk, .ref vms, .ref vma, .ref vmm, .ref vmrn, .ref vmkn, .ref vmik, .ref vmon, .int vosm, .int vohp, .ref vmw, .ref vmf, .ref vmb, .int vomb, .ref vmd, .ref vmc, .int vocm, .int voct, .int vocy, .ref vmx, .int votx, .int vose, .ref vml, .ref vmwr, .int voln, .int vohw, .ref vmno, .int vond, .int voon, .int vowi, .int votop])), (vmt, .inl (cy 0, 940, .inl vmtf))] := hD
          rcases q_65 with ⟨aq_65, f0q_65⟩ | ⟨aq_65, f0q_65, f1q_65, f2q_65⟩
          · skip
            refine as_i 0 aq_65 ?_
            refine jr_i (rVr (As := [.int z_52, .int 0]) (rest := []) (ci := 12) ⟨hx, hb, hml, hown, hts⟩ (m_put_0 l dC dI cy vo voth vmt votp vosz volm voto_56 vofr_57 vokd_58 vonu_61 vosg_59 vofa_62 vopl_63 vowd_60 votd_64 vmn vmr vmk vms vma vmm vmrn vmkn vmik vmon vosm vohp vmw vmf vmb vomb vmd vmc vocm voct vocy vmx votx vose vml vmwr voln vohw vmno vond voon vowi votop z_52 ) (cw_X11_181 hts rfl rfl ⟨Nat.le_of_ble_eq_true rfl, Nat.le_of_ble_eq_true rfl⟩) hP hK [2] rfl rfl rfl rfl hl.1 rfl (Nat.le_of_ble_eq_true rfl) dX11_readDeed_92 ⟨Nat.le_of_ble_eq_true rfl, Nat.le_of_ble_eq_true rfl⟩) hP hS (fun r_69 H locs hp_70 hP hS => ?_)
            have hp_70 : ((r_69 = 0)) := hp_70
            have q_71 := hp_70
            have aq_71 := q_71
            · skip
              refine as_i 0 aq_71 ?_
              refine lv_if_ne (tgt := 100) hx hb dX11_readDeed_95 (by decide) (fun c9 => absurd c9 (by decide)) (fun _ => ?_)
              refine lv_iconst (v := 0) hx hb dX11_readDeed_98 (by decide) ?_
              rw [hQ9]
              exact re_z (voto_56, vofr_57, vokd_58, vosg_59, vowd_60, vonu_61, vofa_62, vopl_63, votd_64, f_39, vmrnf_29) hx hb hr hlocks (Or.inl rfl) ⟨(show ((0 : Int32) = 0) ∨ ((0 : Int32) = 1 ∧ ((vokd_58 : Int32).toInt = 0 ∨ (vokd_58 : Int32).toInt = 1 ∨ (voto : Int32).toInt + 1 ≤ (voto_56 : Int32).toInt)) from (Or.inl rfl)), (show 0 ≤ (voto_56 : Int32).toInt ∧ (voto_56 : Int32).toInt ≤ 940 from ⟨by omega, by omega⟩), (show -1 ≤ (votd_64 : Int32).toInt ∧ (votd_64 : Int32).toInt ≤ 999 from ⟨by omega, by omega⟩), (show RD f_39 from p_f_39), (show (voto : Int32).toInt ≤ (voto_56 : Int32).toInt from (by omega))⟩ (hP.sub [2, 3, 0, 1] rfl) (hD.sub [2, 3, 0, 1] rfl rfl) hS dX11_readDeed_99
          · skip
            refine as_i 1 aq_65 ?_
            refine jn_i (wr := [(vmrn, .inl (cy 1, 17, .inr (.inl vmrnf_29))), (vmt, .inl (cy 0, 940, .inl vmtf))]) (rV (As := [.int z_52, .int 1]) (rest := []) (ci := 12) ⟨hx, hb, hml, hown, hts⟩ (m_put_1 l dC dI cy _ vo voth vmt votp vosz volm voto_56 vofr_57 vokd_58 vonu_61 vosg_59 vofa_62 vopl_63 vowd_60 votd_64 vmn vmr vmk vms vma vmm vmrn vmkn vmik vmon vosm vohp vmw vmf vmb vomb vmd vmc vocm voct vocy vmx votx vose vml vmwr voln vohw vmno vond voon vowi votop f_39 z_52 ⟨by omega, by omega⟩ ⟨by omega, by omega⟩ p_f_39 (by omega)) (cw_X11_181 hts rfl rfl ⟨Nat.le_of_ble_eq_true rfl, Nat.le_of_ble_eq_true rfl⟩) hP hD hK [2, 0] rfl rfl rfl rfl bl0 e0 rfl hl.1 rfl (Nat.le_of_ble_eq_true rfl) dX11_readDeed_92 ⟨Nat.le_of_ble_eq_true rfl, Nat.le_of_ble_eq_true rfl⟩) hP hD hS hA [2, 0] [1, 3] rfl rfl rfl (by decide) (fun r_72 u_74 H locs hp_73 hP hD hS => ?_)
            obtain ⟨vmrf_75, rfl⟩ : ∃ z, z = u_74 := ⟨_, rfl⟩
            have hp_73 : ((r_72 = 1)) ∧ (RD vmrf_75) ∧ ((vmrf_75 0).toInt = (f_39 0).toInt) ∧ ((vmrf_75 1).toInt = (f_39 1).toInt) := hp_73
            obtain ⟨q_76, q_77, q_78, q_79⟩ := hp_73
            have hP : va_P (dC, dI) vwCl [(vmrn, .inl (cy 1, 17, .inr (.inl vmrnf_29))), (vmt, .inl (cy 0, 940, .inl vmtf)), (vo, .inr (12, [.int voth, .ref vmt, .int votp, .int vosz, .int volm, .int voto_56, .int vofr_57, .int vokd_58, .int vonu_61, .int vosg_59, .int vofa_62, .int vopl_63, .long vowd_60, .int votd_64, .ref vmn, .ref vmr, .ref vmk, .ref vms, .ref vma, .ref vmm, .ref vmrn, .ref vmkn, .ref vmik, .ref vmon, .int vosm, .int vohp, .ref vmw, .ref vmf, .ref vmb, .int vomb, .ref vmd, .ref vmc, .int vocm, .int voct, .int vocy, .ref vmx, .int votx, .int vose, .ref vml, .ref vmwr, .int voln, .int vohw, .ref vmno, .int vond, .int voon, .int vowi, .int votop])), (vmr, .inl (cy 0, 157, .inl vmrf_75))] H := hP
            have hD : va_D A [(vmrn, .inl (cy 1, 17, .inr (.inl vmrnf_29))), (vmt, .inl (cy 0, 940, .inl vmtf)), (vo, .inr (12, [.int voth, .ref vmt, .int votp, .int vosz, .int volm, .int voto_56, .int vofr_57, .int vokd_58, .int vonu_61, .int vosg_59, .int vofa_62, .int vopl_63, .long vowd_60, .int votd_64, .ref vmn, .ref vmr, .ref vmk, .ref vms, .ref vma, .ref vmm, .ref vmrn, .ref vmkn, .ref vmik, .ref vmon, .int vosm, .int vohp, .ref vmw, .ref vmf, .ref vmb, .int vomb, .ref vmd, .ref vmc, .int vocm, .int voct, .int vocy, .ref vmx, .int votx, .int vose, .ref vml, .ref vmwr, .int voln, .int vohw, .ref vmno, .int vond, .int voon, .int vowi, .int votop])), (vmr, .inl (cy 0, 157, .inl vmrf_75))] := hD
            have aq_76 := q_76
            · skip
              refine as_i 1 aq_76 ?_
              refine lv_if_ne (tgt := 100) hx hb dX11_readDeed_95 (by decide) (fun _ => ?_) (fun c9 => absurd c9 (by decide))
              refine lv_aload_n hx hb dX11_readDeed_100 rfl (lv_at hl 1 rfl) ?_
              refine gf_X11_101 hx hb hts hown hK hP 2 rfl rfl dX11_readDeed_101 ?_
              refine lv_iconst (v := 1) hx hb dX11_readDeed_104 (by decide) ?_
              refine lv_dup2_11 hx hb dX11_readDeed_105 rfl rfl ?_
              have hin_80 : vp_in (1 : Int32) 157 := vp_in_iff.mpr ⟨by omega, by omega⟩
              refine va_iald hx hb hK hP 3 0 rfl rfl hin_80 dX11_readDeed_106 ?_
              refine lv_topi (fun z_81 ez_81 => ?_)
              have bz_81 := q_77.a1 (x := 1) ⟨by omega, by omega⟩ ez_81
              have tz_81 : z_81.toInt = (vmrf_75 1).toInt := by rw [ez_81]; rfl
              refine lv_iconst (v := 1) hx hb dX11_readDeed_107 (by decide) ?_
              refine lv_iadd hx hb dX11_readDeed_108 ?_
              refine lv_topi (fun z_82 ez_82 => ?_)
              have bz_82 : z_82.toInt = z_81.toInt + (1 : Int32).toInt := i_add ez_82 (by omega) (by omega)
              have hin_83 : vp_in (1 : Int32) 157 := vp_in_iff.mpr ⟨by omega, by omega⟩
              refine va_iast hx hb hK hP hD hS 3 0 rfl rfl hin_83 dX11_readDeed_109 (fun H locs hP hD hS => ?_)
              obtain ⟨f_84, ef_84⟩ : ∃ z : Nat → Int32, z = upd vmrf_75 (Int32.toNatClampNeg 1) z_82 := ⟨_, rfl⟩
              have hP : va_P (dC, dI) vwCl [(vmrn, .inl (cy 1, 17, .inr (.inl vmrnf_29))), (vmt, .inl (cy 0, 940, .inl vmtf)), (vo, .inr (12, [.int voth, .ref vmt, .int votp, .int vosz, .int volm, .int voto_56, .int vofr_57, .int vokd_58, .int vonu_61, .int vosg_59, .int vofa_62, .int vopl_63, .long vowd_60, .int votd_64, .ref vmn, .ref vmr, .ref vmk, .ref vms, .ref vma, .ref vmm, .ref vmrn, .ref vmkn, .ref vmik, .ref vmon, .int vosm, .int vohp, .ref vmw, .ref vmf, .ref vmb, .int vomb, .ref vmd, .ref vmc, .int vocm, .int voct, .int vocy, .ref vmx, .int votx, .int vose, .ref vml, .ref vmwr, .int voln, .int vohw, .ref vmno, .int vond, .int voon, .int vowi, .int votop])), (vmr, .inl (cy 0, 157, .inl f_84))] H := by rw [ef_84]; exact hP
              have hD : va_D A [(vmrn, .inl (cy 1, 17, .inr (.inl vmrnf_29))), (vmt, .inl (cy 0, 940, .inl vmtf)), (vo, .inr (12, [.int voth, .ref vmt, .int votp, .int vosz, .int volm, .int voto_56, .int vofr_57, .int vokd_58, .int vonu_61, .int vosg_59, .int vofa_62, .int vopl_63, .long vowd_60, .int votd_64, .ref vmn, .ref vmr, .ref vmk, .ref vms, .ref vma, .ref vmm, .ref vmrn, .ref vmkn, .ref vmik, .ref vmon, .int vosm, .int vohp, .ref vmw, .ref vmf, .ref vmb, .int vomb, .ref vmd, .ref vmc, .int vocm, .int voct, .int vocy, .ref vmx, .int votx, .int vose, .ref vml, .ref vmwr, .int voln, .int vohw, .ref vmno, .int vond, .int voon, .int vowi, .int votop])), (vmr, .inl (cy 0, 157, .inl f_84))] := by rw [ef_84]; exact hD
              have p_f_84 : RD f_84 := by rw [ef_84]; exact q_77.upd ⟨by omega, by omega⟩
              refine lv_iconst (v := 1) hx hb dX11_readDeed_110 (by decide) ?_
              rw [hQ9]
              exact re_z (voto_56, vofr_57, vokd_58, vosg_59, vowd_60, vonu_61, vofa_62, vopl_63, votd_64, f_84, vmrnf_29) hx hb hr hlocks (Or.inr rfl) ⟨(show ((1 : Int32) = 0) ∨ ((1 : Int32) = 1 ∧ ((vokd_58 : Int32).toInt = 0 ∨ (vokd_58 : Int32).toInt = 1 ∨ (voto : Int32).toInt + 1 ≤ (voto_56 : Int32).toInt)) from (Or.inr (⟨rfl, by omega⟩))), (show 0 ≤ (voto_56 : Int32).toInt ∧ (voto_56 : Int32).toInt ≤ 940 from ⟨by omega, by omega⟩), (show -1 ≤ (votd_64 : Int32).toInt ∧ (votd_64 : Int32).toInt ≤ 999 from ⟨by omega, by omega⟩), (show RD f_84 from p_f_84), (show (voto : Int32).toInt ≤ (voto_56 : Int32).toInt from (by omega))⟩ (hP.sub [2, 1, 3, 0] rfl) (hD.sub [2, 1, 3, 0] rfl rfl) hS dX11_readDeed_111
        · skip
          refine as_i 1 aq_37 ?_
          refine lv_if_eq (tgt := 74) hx hb dX11_readDeed_67 (by decide) (fun c9 => absurd c9 (by decide)) (fun _ => ?_)
          refine lv_iconst (v := 1) hx hb dX11_readDeed_70 (by decide) ?_
          refine lv_goto (tgt := 75) hx hb dX11_readDeed_71 (by decide) ?_
          have hin_85 : vp_in z_34 157 := vp_in_iff.mpr ⟨by omega, by omega⟩
          refine va_iast hx hb hK hP hD hS 2 0 rfl rfl hin_85 dX11_readDeed_75 (fun H locs hP hD hS => ?_)
          obtain ⟨f_86, ef_86⟩ : ∃ z : Nat → Int32, z = upd vmrf (Int32.toNatClampNeg z_34) 1 := ⟨_, rfl⟩
          have hP : va_P (dC, dI) vwCl [(vo, .inr (12, [.int voth, .ref vmt, .int votp, .int vosz, .int volm, .int voto_21, .int vofr_22, .int vokd_23, .int vonu_26, .int vosg_24, .int vofa_27, .int vopl_28, .long vowd_25, .int votd, .ref vmn, .ref vmr, .ref vmk, .ref vms, .ref vma, .ref vmm, .ref vmrn, .ref vmkn, .ref vmik, .ref vmon, .int vosm, .int vohp, .ref vmw, .ref vmf, .ref vmb, .int vomb, .ref vmd, .ref vmc, .int vocm, .int voct, .int vocy, .ref vmx, .int votx, .int vose, .ref vml, .ref vmwr, .int voln, .int vohw, .ref vmno, .int vond, .int voon, .int vowi, .int votop])), (vmt, .inl (cy 0, 940, .inl vmtf)), (vmr, .inl (cy 0, 157, .inl f_86)), (vmrn, .inl (cy 1, 17, .inr (.inl vmrnf_29)))] H := by rw [ef_86]; exact hP
          have hD : va_D A [(vo, .inr (12, [.int voth, .ref vmt, .int votp, .int vosz, .int volm, .int voto_21, .int vofr_22, .int vokd_23, .int vonu_26, .int vosg_24, .int vofa_27, .int vopl_28, .long vowd_25, .int votd, .ref vmn, .ref vmr, .ref vmk, .ref vms, .ref vma, .ref vmm, .ref vmrn, .ref vmkn, .ref vmik, .ref vmon, .int vosm, .int vohp, .ref vmw, .ref vmf, .ref vmb, .int vomb, .ref vmd, .ref vmc, .int vocm, .int voct, .int vocy, .ref vmx, .int votx, .int vose, .ref vml, .ref vmwr, .int voln, .int vohw, .ref vmno, .int vond, .int voon, .int vowi, .int votop])), (vmt, .inl (cy 0, 940, .inl vmtf)), (vmr, .inl (cy 0, 157, .inl f_86)), (vmrn, .inl (cy 1, 17, .inr (.inl vmrnf_29)))] := by rw [ef_86]; exact hD
          have p_f_86 : RD f_86 := by rw [ef_86]; exact p_vmrf.upd ⟨by omega, by omega⟩
          have q0_f_86 : (f_86 0).toInt = (vmrf 0).toInt := by rw [ef_86, pk_un (RDne0 (x := z_34) (by omega))]
          have q1_f_86 : (f_86 1).toInt = (vmrf 1).toInt := by rw [ef_86, pk_un (RDne1 (x := z_34) (by omega))]
          refine lv_aload_n hx hb dX11_readDeed_76 rfl (lv_at hl 1 rfl) ?_
          refine jn_v (wr := [(vmr, .inl (cy 0, 157, .inl f_86)), (vmrn, .inl (cy 1, 17, .inr (.inl vmrnf_29)))]) (rV (As := []) (rest := []) (ci := 12) ⟨hx, hb, hml, hown, hts⟩ (m_go l dC dI cy _ vo voth vmt votp vosz volm voto_21 vofr_22 vokd_23 vonu_26 vosg_24 vofa_27 vopl_28 vowd_25 votd vmn vmr vmk vms vma vmm vmrn vmkn vmik vmon vosm vohp vmw vmf vmb vomb vmd vmc vocm voct vocy vmx votx vose vml vmwr voln vohw vmno vond voon vowi votop vmtf r_vosz ⟨by omega, by omega⟩ p_vmtf) (cw_X11_82 hts rfl rfl ⟨Nat.le_of_ble_eq_true rfl, Nat.le_of_ble_eq_true rfl⟩) hP hD hK [0, 1] rfl rfl rfl rfl bl0 e0 rfl hl.1 rfl (Nat.le_of_ble_eq_true rfl) dX11_readDeed_77 ⟨Nat.le_of_ble_eq_true rfl, Nat.le_of_ble_eq_true rfl⟩) hP hD hS hA [0, 1] [2, 3] rfl rfl rfl (by decide) (fun u_89 H locs hp_88 hP hD hS => ?_)
          obtain ⟨voto_90, vofr_91, vokd_92, vosg_93, vowd_94, vonu_95⟩ := u_89
          have hp_88 : (0 ≤ (voto_90 : Int32).toInt ∧ (voto_90 : Int32).toInt ≤ 940) ∧ ((voto_21 : Int32).toInt ≤ (voto_90 : Int32).toInt) ∧ (((vokd_92 : Int32).toInt = 0 ∨ (vokd_92 : Int32).toInt = 1 ∨ (voto_21 : Int32).toInt + 1 ≤ (voto_90 : Int32).toInt)) := hp_88
          obtain ⟨q_96, q_97, q_98⟩ := hp_88
          have hP : va_P (dC, dI) vwCl [(vmr, .inl (cy 0, 157, .inl f_86)), (vmrn, .inl (cy 1, 17, .inr (.inl vmrnf_29))), (vo, .inr (12, [.int voth, .ref vmt, .int votp, .int vosz, .int volm, .int voto_90, .int vofr_91, .int vokd_92, .int vonu_95, .int vosg_93, .int vofa_27, .int vopl_28, .long vowd_94, .int votd, .ref vmn, .ref vmr, .ref vmk, .ref vms, .ref vma, .ref vmm, .ref vmrn, .ref vmkn, .ref vmik, .ref vmon, .int vosm, .int vohp, .ref vmw, .ref vmf, .ref vmb, .int vomb, .ref vmd, .ref vmc, .int vocm, .int voct, .int vocy, .ref vmx, .int votx, .int vose, .ref vml, .ref vmwr, .int voln, .int vohw, .ref vmno, .int vond, .int voon, .int vowi, .int votop])), (vmt, .inl (cy 0, 940, .inl vmtf))] H := hP
          have hD : va_D A [(vmr, .inl (cy 0, 157, .inl f_86)), (vmrn, .inl (cy 1, 17, .inr (.inl vmrnf_29))), (vo, .inr (12, [.int voth, .ref vmt, .int votp, .int vosz, .int volm, .int voto_90, .int vofr_91, .int vokd_92, .int vonu_95, .int vosg_93, .int vofa_27, .int vopl_28, .long vowd_94, .int votd, .ref vmn, .ref vmr, .ref vmk, .ref vms, .ref vma, .ref vmm, .ref vmrn, .ref vmkn, .ref vmik, .ref vmon, .int vosm, .int vohp, .ref vmw, .ref vmf, .ref vmb, .int vomb, .ref vmd, .ref vmc, .int vocm, .int voct, .int vocy, .ref vmx, .int votx, .int vose, .ref vml, .ref vmwr, .int voln, .int vohw, .ref vmno, .int vond, .int voon, .int vowi, .int votop])), (vmt, .inl (cy 0, 940, .inl vmtf))] := hD
          refine lv_aload_n hx hb dX11_readDeed_80 rfl (lv_at hl 1 rfl) ?_
          refine lv_bipush (v := 11) hx hb dX11_readDeed_81 (by decide) ?_
          refine lv_iload_n hx hb dX11_readDeed_83 rfl (lv_at hl 0 rfl) ?_
          refine lv_iadd hx hb dX11_readDeed_84 ?_
          refine lv_topi (fun z_99 ez_99 => ?_)
          have k_11 : (11 : Int32).toInt = 11 := by decide
          have bz_99 : z_99.toInt = (11 : Int32).toInt + z_16.toInt := i_add ez_99 (by omega) (by omega)
          refine lv_aload_n hx hb dX11_readDeed_85 rfl (lv_at hl 1 rfl) ?_
          refine lv_iconst (v := 1) hx hb dX11_readDeed_86 (by decide) ?_
          refine lv_bipush (v := 40) hx hb dX11_readDeed_87 (by decide) ?_
          have k_40 : (40 : Int32).toInt = 40 := by decide
          refine jn_i (wr := [(vmr, .inl (cy 0, 157, .inl f_86)), (vmrn, .inl (cy 1, 17, .inr (.inl vmrnf_29)))]) (rV (As := [.int 1, .int 40]) (rest := [.int z_99, .ref vo]) (ci := 12) ⟨hx, hb, hml, hown, hts⟩ (m_readNumber l dC dI cy _ vo voth vmt votp vosz volm voto_90 vofr_91 vokd_92 vonu_95 vosg_93 vofa_27 vopl_28 vowd_94 votd vmn vmr vmk vms vma vmm vmrn vmkn vmik vmon vosm vohp vmw vmf vmb vomb vmd vmc vocm voct vocy vmx votx vose vml vmwr voln vohw vmno vond voon vowi votop vmtf 1 40 r_vosz ⟨by omega, by omega⟩ r_votd ⟨by omega, by omega⟩ ⟨by omega, by omega⟩ p_vmtf) (cw_X11_178 hts rfl rfl ⟨Nat.le_of_ble_eq_true rfl, Nat.le_of_ble_eq_true rfl⟩) hP hD hK [2, 3] rfl rfl rfl rfl bl0 e0 rfl hl.1 rfl (Nat.le_of_ble_eq_true rfl) dX11_readDeed_89 ⟨Nat.le_of_ble_eq_true rfl, Nat.le_of_ble_eq_true rfl⟩) hP hD hS hA [2, 3] [0, 1] rfl rfl rfl (by decide) (fun r_100 u_102 H locs hp_101 hP hD hS => ?_)
          obtain ⟨voto_103, vofr_104, vokd_105, vosg_106, vowd_107, vonu_108, vofa_109, vopl_110, votd_111⟩ := u_102
          have hp_101 : ((r_100 = 0 ∧ (votd_111 : Int32).toInt = (votd : Int32).toInt) ∨ (r_100 = 1 ∧ (1 : Int32).toInt ≤ (votd_111 : Int32).toInt ∧ (votd_111 : Int32).toInt ≤ (40 : Int32).toInt ∧ ((vokd_105 : Int32).toInt = 0 ∨ (vokd_105 : Int32).toInt = 1 ∨ (voto_90 : Int32).toInt + 1 ≤ (voto_103 : Int32).toInt))) ∧ (0 ≤ (voto_103 : Int32).toInt ∧ (voto_103 : Int32).toInt ≤ 940) ∧ (-1 ≤ (votd_111 : Int32).toInt ∧ (votd_111 : Int32).toInt ≤ 999) ∧ ((voto_90 : Int32).toInt ≤ (voto_103 : Int32).toInt) := hp_101
          obtain ⟨q_112, q_113, q_114, q_115⟩ := hp_101
          have hP : va_P (dC, dI) vwCl [(vmr, .inl (cy 0, 157, .inl f_86)), (vmrn, .inl (cy 1, 17, .inr (.inl vmrnf_29))), (vo, .inr (12, [.int voth, .ref vmt, .int votp, .int vosz, .int volm, .int voto_103, .int vofr_104, .int vokd_105, .int vonu_108, .int vosg_106, .int vofa_109, .int vopl_110, .long vowd_107, .int votd_111, .ref vmn, .ref vmr, .ref vmk, .ref vms, .ref vma, .ref vmm, .ref vmrn, .ref vmkn, .ref vmik, .ref vmon, .int vosm, .int vohp, .ref vmw, .ref vmf, .ref vmb, .int vomb, .ref vmd, .ref vmc, .int vocm, .int voct, .int vocy, .ref vmx, .int votx, .int vose, .ref vml, .ref vmwr, .int voln, .int vohw, .ref vmno, .int vond, .int voon, .int vowi, .int votop])), (vmt, .inl (cy 0, 940, .inl vmtf))] H := hP
          have hD : va_D A [(vmr, .inl (cy 0, 157, .inl f_86)), (vmrn, .inl (cy 1, 17, .inr (.inl vmrnf_29))), (vo, .inr (12, [.int voth, .ref vmt, .int votp, .int vosz, .int volm, .int voto_103, .int vofr_104, .int vokd_105, .int vonu_108, .int vosg_106, .int vofa_109, .int vopl_110, .long vowd_107, .int votd_111, .ref vmn, .ref vmr, .ref vmk, .ref vms, .ref vma, .ref vmm, .ref vmrn, .ref vmkn, .ref vmik, .ref vmon, .int vosm, .int vohp, .ref vmw, .ref vmf, .ref vmb, .int vomb, .ref vmd, .ref vmc, .int vocm, .int voct, .int vocy, .ref vmx, .int votx, .int vose, .ref vml, .ref vmwr, .int voln, .int vohw, .ref vmno, .int vond, .int voon, .int vowi, .int votop])), (vmt, .inl (cy 0, 940, .inl vmtf))] := hD
          rcases q_112 with ⟨aq_112, f0q_112⟩ | ⟨aq_112, f0q_112, f1q_112, f2q_112⟩
          · skip
            refine as_i 0 aq_112 ?_
            refine jr_i (rVr (As := [.int z_99, .int 0]) (rest := []) (ci := 12) ⟨hx, hb, hml, hown, hts⟩ (m_put_0 l dC dI cy vo voth vmt votp vosz volm voto_103 vofr_104 vokd_105 vonu_108 vosg_106 vofa_109 vopl_110 vowd_107 votd_111 vmn vmr vmk vms vma vmm vmrn vmkn vmik vmon vosm vohp vmw vmf vmb vomb vmd vmc vocm voct vocy vmx votx vose vml vmwr voln vohw vmno vond voon vowi votop z_99 ) (cw_X11_181 hts rfl rfl ⟨Nat.le_of_ble_eq_true rfl, Nat.le_of_ble_eq_true rfl⟩) hP hK [2] rfl rfl rfl rfl hl.1 rfl (Nat.le_of_ble_eq_true rfl) dX11_readDeed_92 ⟨Nat.le_of_ble_eq_true rfl, Nat.le_of_ble_eq_true rfl⟩) hP hS (fun r_116 H locs hp_117 hP hS => ?_)
            have hp_117 : ((r_116 = 0)) := hp_117
            have q_118 := hp_117
            have aq_118 := q_118
            · skip
              refine as_i 0 aq_118 ?_
              refine lv_if_ne (tgt := 100) hx hb dX11_readDeed_95 (by decide) (fun c9 => absurd c9 (by decide)) (fun _ => ?_)
              refine lv_iconst (v := 0) hx hb dX11_readDeed_98 (by decide) ?_
              have k_0 : (0 : Int32).toInt = 0 := by decide
              rw [hQ9]
              exact re_z (voto_103, vofr_104, vokd_105, vosg_106, vowd_107, vonu_108, vofa_109, vopl_110, votd_111, f_86, vmrnf_29) hx hb hr hlocks (Or.inl rfl) ⟨(show ((0 : Int32) = 0) ∨ ((0 : Int32) = 1 ∧ ((vokd_105 : Int32).toInt = 0 ∨ (vokd_105 : Int32).toInt = 1 ∨ (voto : Int32).toInt + 1 ≤ (voto_103 : Int32).toInt)) from (Or.inl rfl)), (show 0 ≤ (voto_103 : Int32).toInt ∧ (voto_103 : Int32).toInt ≤ 940 from ⟨by omega, by omega⟩), (show -1 ≤ (votd_111 : Int32).toInt ∧ (votd_111 : Int32).toInt ≤ 999 from ⟨by omega, by omega⟩), (show RD f_86 from p_f_86), (show (voto : Int32).toInt ≤ (voto_103 : Int32).toInt from (by omega))⟩ (hP.sub [2, 3, 0, 1] rfl) (hD.sub [2, 3, 0, 1] rfl rfl) hS dX11_readDeed_99
          · skip
            refine as_i 1 aq_112 ?_
            refine jn_i (wr := [(vmrn, .inl (cy 1, 17, .inr (.inl vmrnf_29))), (vmt, .inl (cy 0, 940, .inl vmtf))]) (rV (As := [.int z_99, .int 1]) (rest := []) (ci := 12) ⟨hx, hb, hml, hown, hts⟩ (m_put_1 l dC dI cy _ vo voth vmt votp vosz volm voto_103 vofr_104 vokd_105 vonu_108 vosg_106 vofa_109 vopl_110 vowd_107 votd_111 vmn vmr vmk vms vma vmm vmrn vmkn vmik vmon vosm vohp vmw vmf vmb vomb vmd vmc vocm voct vocy vmx votx vose vml vmwr voln vohw vmno vond voon vowi votop f_86 z_99 ⟨by omega, by omega⟩ ⟨by omega, by omega⟩ p_f_86 (by omega)) (cw_X11_181 hts rfl rfl ⟨Nat.le_of_ble_eq_true rfl, Nat.le_of_ble_eq_true rfl⟩) hP hD hK [2, 0] rfl rfl rfl rfl bl0 e0 rfl hl.1 rfl (Nat.le_of_ble_eq_true rfl) dX11_readDeed_92 ⟨Nat.le_of_ble_eq_true rfl, Nat.le_of_ble_eq_true rfl⟩) hP hD hS hA [2, 0] [1, 3] rfl rfl rfl (by decide) (fun r_119 u_121 H locs hp_120 hP hD hS => ?_)
            obtain ⟨vmrf_122, rfl⟩ : ∃ z, z = u_121 := ⟨_, rfl⟩
            have hp_120 : ((r_119 = 1)) ∧ (RD vmrf_122) ∧ ((vmrf_122 0).toInt = (f_86 0).toInt) ∧ ((vmrf_122 1).toInt = (f_86 1).toInt) := hp_120
            obtain ⟨q_123, q_124, q_125, q_126⟩ := hp_120
            have hP : va_P (dC, dI) vwCl [(vmrn, .inl (cy 1, 17, .inr (.inl vmrnf_29))), (vmt, .inl (cy 0, 940, .inl vmtf)), (vo, .inr (12, [.int voth, .ref vmt, .int votp, .int vosz, .int volm, .int voto_103, .int vofr_104, .int vokd_105, .int vonu_108, .int vosg_106, .int vofa_109, .int vopl_110, .long vowd_107, .int votd_111, .ref vmn, .ref vmr, .ref vmk, .ref vms, .ref vma, .ref vmm, .ref vmrn, .ref vmkn, .ref vmik, .ref vmon, .int vosm, .int vohp, .ref vmw, .ref vmf, .ref vmb, .int vomb, .ref vmd, .ref vmc, .int vocm, .int voct, .int vocy, .ref vmx, .int votx, .int vose, .ref vml, .ref vmwr, .int voln, .int vohw, .ref vmno, .int vond, .int voon, .int vowi, .int votop])), (vmr, .inl (cy 0, 157, .inl vmrf_122))] H := hP
            have hD : va_D A [(vmrn, .inl (cy 1, 17, .inr (.inl vmrnf_29))), (vmt, .inl (cy 0, 940, .inl vmtf)), (vo, .inr (12, [.int voth, .ref vmt, .int votp, .int vosz, .int volm, .int voto_103, .int vofr_104, .int vokd_105, .int vonu_108, .int vosg_106, .int vofa_109, .int vopl_110, .long vowd_107, .int votd_111, .ref vmn, .ref vmr, .ref vmk, .ref vms, .ref vma, .ref vmm, .ref vmrn, .ref vmkn, .ref vmik, .ref vmon, .int vosm, .int vohp, .ref vmw, .ref vmf, .ref vmb, .int vomb, .ref vmd, .ref vmc, .int vocm, .int voct, .int vocy, .ref vmx, .int votx, .int vose, .ref vml, .ref vmwr, .int voln, .int vohw, .ref vmno, .int vond, .int voon, .int vowi, .int votop])), (vmr, .inl (cy 0, 157, .inl vmrf_122))] := hD
            have aq_123 := q_123
            · skip
              refine as_i 1 aq_123 ?_
              refine lv_if_ne (tgt := 100) hx hb dX11_readDeed_95 (by decide) (fun _ => ?_) (fun c9 => absurd c9 (by decide))
              refine lv_aload_n hx hb dX11_readDeed_100 rfl (lv_at hl 1 rfl) ?_
              refine gf_X11_101 hx hb hts hown hK hP 2 rfl rfl dX11_readDeed_101 ?_
              refine lv_iconst (v := 1) hx hb dX11_readDeed_104 (by decide) ?_
              refine lv_dup2_11 hx hb dX11_readDeed_105 rfl rfl ?_
              have hin_127 : vp_in (1 : Int32) 157 := vp_in_iff.mpr ⟨by omega, by omega⟩
              refine va_iald hx hb hK hP 3 0 rfl rfl hin_127 dX11_readDeed_106 ?_
              refine lv_topi (fun z_128 ez_128 => ?_)
              have bz_128 := q_124.a1 (x := 1) ⟨by omega, by omega⟩ ez_128
              have tz_128 : z_128.toInt = (vmrf_122 1).toInt := by rw [ez_128]; rfl
              refine lv_iconst (v := 1) hx hb dX11_readDeed_107 (by decide) ?_
              refine lv_iadd hx hb dX11_readDeed_108 ?_
              refine lv_topi (fun z_129 ez_129 => ?_)
              have bz_129 : z_129.toInt = z_128.toInt + (1 : Int32).toInt := i_add ez_129 (by omega) (by omega)
              have hin_130 : vp_in (1 : Int32) 157 := vp_in_iff.mpr ⟨by omega, by omega⟩
              refine va_iast hx hb hK hP hD hS 3 0 rfl rfl hin_130 dX11_readDeed_109 (fun H locs hP hD hS => ?_)
              obtain ⟨f_131, ef_131⟩ : ∃ z : Nat → Int32, z = upd vmrf_122 (Int32.toNatClampNeg 1) z_129 := ⟨_, rfl⟩
              have hP : va_P (dC, dI) vwCl [(vmrn, .inl (cy 1, 17, .inr (.inl vmrnf_29))), (vmt, .inl (cy 0, 940, .inl vmtf)), (vo, .inr (12, [.int voth, .ref vmt, .int votp, .int vosz, .int volm, .int voto_103, .int vofr_104, .int vokd_105, .int vonu_108, .int vosg_106, .int vofa_109, .int vopl_110, .long vowd_107, .int votd_111, .ref vmn, .ref vmr, .ref vmk, .ref vms, .ref vma, .ref vmm, .ref vmrn, .ref vmkn, .ref vmik, .ref vmon, .int vosm, .int vohp, .ref vmw, .ref vmf, .ref vmb, .int vomb, .ref vmd, .ref vmc, .int vocm, .int voct, .int vocy, .ref vmx, .int votx, .int vose, .ref vml, .ref vmwr, .int voln, .int vohw, .ref vmno, .int vond, .int voon, .int vowi, .int votop])), (vmr, .inl (cy 0, 157, .inl f_131))] H := by rw [ef_131]; exact hP
              have hD : va_D A [(vmrn, .inl (cy 1, 17, .inr (.inl vmrnf_29))), (vmt, .inl (cy 0, 940, .inl vmtf)), (vo, .inr (12, [.int voth, .ref vmt, .int votp, .int vosz, .int volm, .int voto_103, .int vofr_104, .int vokd_105, .int vonu_108, .int vosg_106, .int vofa_109, .int vopl_110, .long vowd_107, .int votd_111, .ref vmn, .ref vmr, .ref vmk, .ref vms, .ref vma, .ref vmm, .ref vmrn, .ref vmkn, .ref vmik, .ref vmon, .int vosm, .int vohp, .ref vmw, .ref vmf, .ref vmb, .int vomb, .ref vmd, .ref vmc, .int vocm, .int voct, .int vocy, .ref vmx, .int votx, .int vose, .ref vml, .ref vmwr, .int voln, .int vohw, .ref vmno, .int vond, .int voon, .int vowi, .int votop])), (vmr, .inl (cy 0, 157, .inl f_131))] := by rw [ef_131]; exact hD
              have p_f_131 : RD f_131 := by rw [ef_131]; exact q_124.upd ⟨by omega, by omega⟩
              refine lv_iconst (v := 1) hx hb dX11_readDeed_110 (by decide) ?_
              rw [hQ9]
              exact re_z (voto_103, vofr_104, vokd_105, vosg_106, vowd_107, vonu_108, vofa_109, vopl_110, votd_111, f_131, vmrnf_29) hx hb hr hlocks (Or.inr rfl) ⟨(show ((1 : Int32) = 0) ∨ ((1 : Int32) = 1 ∧ ((vokd_105 : Int32).toInt = 0 ∨ (vokd_105 : Int32).toInt = 1 ∨ (voto : Int32).toInt + 1 ≤ (voto_103 : Int32).toInt)) from (Or.inr (⟨rfl, by omega⟩))), (show 0 ≤ (voto_103 : Int32).toInt ∧ (voto_103 : Int32).toInt ≤ 940 from ⟨by omega, by omega⟩), (show -1 ≤ (votd_111 : Int32).toInt ∧ (votd_111 : Int32).toInt ≤ 999 from ⟨by omega, by omega⟩), (show RD f_131 from p_f_131), (show (voto : Int32).toInt ≤ (voto_103 : Int32).toInt from (by omega))⟩ (hP.sub [2, 1, 3, 0] rfl) (hD.sub [2, 1, 3, 0] rfl rfl) hS dX11_readDeed_111
      refine lv_aload_n hx hb dX11_readDeed_32 rfl (lv_at hl 1 rfl) ?_
      refine lv_iconst (v := 2) hx hb dX11_readDeed_33 (by decide) ?_
      have k_2 : (2 : Int32).toInt = 2 := by decide
      refine jr_i (rVr (As := [.int 2]) (rest := []) (ci := 12) ⟨hx, hb, hml, hown, hts⟩ (m_isWord l dC dI cy vo voth vmt votp vosz volm voto_21 vofr_22 vokd_23 vonu_26 vosg_24 vofa_27 vopl_28 vowd_25 votd vmn vmr vmk vms vma vmm vmrn vmkn vmik vmon vosm vohp vmw vmf vmb vomb vmd vmc vocm voct vocy vmx votx vose vml vmwr voln vohw vmno vond voon vowi votop 2 ) (cw_X11_185 hts rfl rfl ⟨Nat.le_of_ble_eq_true rfl, Nat.le_of_ble_eq_true rfl⟩) hP hK [0] rfl rfl rfl rfl hl.1 rfl (Nat.le_of_ble_eq_true rfl) dX11_readDeed_34 ⟨Nat.le_of_ble_eq_true rfl, Nat.le_of_ble_eq_true rfl⟩) hP hS (fun r_132 H locs hp_133 hP hS => ?_)
      have hp_133 : ((r_132 = 0) ∨ (r_132 = 1 ∧ (vokd_23 : Int32).toInt = 2)) := hp_133
      have q_134 := hp_133
      rcases q_134 with aq_134 | ⟨aq_134, f0q_134⟩
      · skip
        refine as_i 0 aq_134 ?_
        refine lv_if_ne (tgt := 54) hx hb dX11_readDeed_37 (by decide) (fun c9 => absurd c9 (by decide)) (fun _ => ?_)
        refine lv_aload_n hx hb dX11_readDeed_40 rfl (lv_at hl 1 rfl) ?_
        refine lv_iconst (v := 3) hx hb dX11_readDeed_41 (by decide) ?_
        have k_3 : (3 : Int32).toInt = 3 := by decide
        refine jr_i (rVr (As := [.int 3]) (rest := []) (ci := 12) ⟨hx, hb, hml, hown, hts⟩ (m_isWord l dC dI cy vo voth vmt votp vosz volm voto_21 vofr_22 vokd_23 vonu_26 vosg_24 vofa_27 vopl_28 vowd_25 votd vmn vmr vmk vms vma vmm vmrn vmkn vmik vmon vosm vohp vmw vmf vmb vomb vmd vmc vocm voct vocy vmx votx vose vml vmwr voln vohw vmno vond voon vowi votop 3 ) (cw_X11_185 hts rfl rfl ⟨Nat.le_of_ble_eq_true rfl, Nat.le_of_ble_eq_true rfl⟩) hP hK [0] rfl rfl rfl rfl hl.1 rfl (Nat.le_of_ble_eq_true rfl) dX11_readDeed_42 ⟨Nat.le_of_ble_eq_true rfl, Nat.le_of_ble_eq_true rfl⟩) hP hS (fun r_135 H locs hp_136 hP hS => ?_)
        have hp_136 : ((r_135 = 0) ∨ (r_135 = 1 ∧ (vokd_23 : Int32).toInt = 2)) := hp_136
        have q_137 := hp_136
        rcases q_137 with aq_137 | ⟨aq_137, f0q_137⟩
        · skip
          refine as_i 0 aq_137 ?_
          refine lv_if_ne (tgt := 54) hx hb dX11_readDeed_45 (by decide) (fun c9 => absurd c9 (by decide)) (fun _ => ?_)
          refine lv_aload_n hx hb dX11_readDeed_48 rfl (lv_at hl 1 rfl) ?_
          refine lv_iconst (v := 1) hx hb dX11_readDeed_49 (by decide) ?_
          refine jn_i (wr := [(vmt, .inl (cy 0, 940, .inl vmtf)), (vmr, .inl (cy 0, 157, .inl vmrf)), (vmrn, .inl (cy 1, 17, .inr (.inl vmrnf_29)))]) (rV (As := [.int 1]) (rest := []) (ci := 12) ⟨hx, hb, hml, hown, hts⟩ (m_bad l dC dI cy _ vo voth vmt votp vosz volm voto_21 vofr_22 vokd_23 vonu_26 vosg_24 vofa_27 vopl_28 vowd_25 votd vmn vmr vmk vms vma vmm vmrn vmkn vmik vmon vosm vohp vmw vmf vmb vomb vmd vmc vocm voct vocy vmx votx vose vml vmwr voln vohw vmno vond voon vowi votop 1 ) (cw_X11_72 hts rfl rfl ⟨Nat.le_of_ble_eq_true rfl, Nat.le_of_ble_eq_true rfl⟩) hP hD hK [0] rfl rfl rfl rfl bl0 e0 rfl hl.1 rfl (Nat.le_of_ble_eq_true rfl) dX11_readDeed_50 ⟨Nat.le_of_ble_eq_true rfl, Nat.le_of_ble_eq_true rfl⟩) hP hD hS hA [0] [1, 2, 3] rfl rfl rfl (by decide) (fun r_138 u_140 H locs hp_139 hP hD hS => ?_)
          obtain ⟨vofa_141, vopl_142⟩ := u_140
          have hp_139 : ((r_138 = 0)) := hp_139
          have q_143 := hp_139
          have hP : va_P (dC, dI) vwCl [(vmt, .inl (cy 0, 940, .inl vmtf)), (vmr, .inl (cy 0, 157, .inl vmrf)), (vmrn, .inl (cy 1, 17, .inr (.inl vmrnf_29))), (vo, .inr (12, [.int voth, .ref vmt, .int votp, .int vosz, .int volm, .int voto_21, .int vofr_22, .int vokd_23, .int vonu_26, .int vosg_24, .int vofa_141, .int vopl_142, .long vowd_25, .int votd, .ref vmn, .ref vmr, .ref vmk, .ref vms, .ref vma, .ref vmm, .ref vmrn, .ref vmkn, .ref vmik, .ref vmon, .int vosm, .int vohp, .ref vmw, .ref vmf, .ref vmb, .int vomb, .ref vmd, .ref vmc, .int vocm, .int voct, .int vocy, .ref vmx, .int votx, .int vose, .ref vml, .ref vmwr, .int voln, .int vohw, .ref vmno, .int vond, .int voon, .int vowi, .int votop]))] H := hP
          have hD : va_D A [(vmt, .inl (cy 0, 940, .inl vmtf)), (vmr, .inl (cy 0, 157, .inl vmrf)), (vmrn, .inl (cy 1, 17, .inr (.inl vmrnf_29))), (vo, .inr (12, [.int voth, .ref vmt, .int votp, .int vosz, .int volm, .int voto_21, .int vofr_22, .int vokd_23, .int vonu_26, .int vosg_24, .int vofa_141, .int vopl_142, .long vowd_25, .int votd, .ref vmn, .ref vmr, .ref vmk, .ref vms, .ref vma, .ref vmm, .ref vmrn, .ref vmkn, .ref vmik, .ref vmon, .int vosm, .int vohp, .ref vmw, .ref vmf, .ref vmb, .int vomb, .ref vmd, .ref vmc, .int vocm, .int voct, .int vocy, .ref vmx, .int votx, .int vose, .ref vml, .ref vmwr, .int voln, .int vohw, .ref vmno, .int vond, .int voon, .int vowi, .int votop]))] := hD
          have aq_143 := q_143
          · skip
            refine as_i 0 aq_143 ?_
            have k_0 : (0 : Int32).toInt = 0 := by decide
            rw [hQ9]
            exact re_z (voto_21, vofr_22, vokd_23, vosg_24, vowd_25, vonu_26, vofa_141, vopl_142, votd, vmrf, vmrnf_29) hx hb hr hlocks (Or.inl rfl) ⟨(show ((0 : Int32) = 0) ∨ ((0 : Int32) = 1 ∧ ((vokd_23 : Int32).toInt = 0 ∨ (vokd_23 : Int32).toInt = 1 ∨ (voto : Int32).toInt + 1 ≤ (voto_21 : Int32).toInt)) from (Or.inl rfl)), (show 0 ≤ (voto_21 : Int32).toInt ∧ (voto_21 : Int32).toInt ≤ 940 from ⟨by omega, by omega⟩), (show -1 ≤ (votd : Int32).toInt ∧ (votd : Int32).toInt ≤ 999 from ⟨by omega, by omega⟩), (show RD vmrf from p_vmrf), (show (voto : Int32).toInt ≤ (voto_21 : Int32).toInt from (by omega))⟩ (hP.sub [3, 0, 1, 2] rfl) (hD.sub [3, 0, 1, 2] rfl rfl) hS dX11_readDeed_53
        · skip
          refine as_i 1 aq_137 ?_
          refine lv_if_ne (tgt := 54) hx hb dX11_readDeed_45 (by decide) (fun _ => ?_) (fun c9 => absurd c9 (by decide))
          exact join33  _ _ (hP.sub [0, 1, 2, 3] rfl) (hD.sub [0, 1, 2, 3] rfl rfl) hS ls (lv_sub hl [0, 1] rfl)
      · skip
        refine as_i 1 aq_134 ?_
        refine lv_if_ne (tgt := 54) hx hb dX11_readDeed_37 (by decide) (fun _ => ?_) (fun c9 => absurd c9 (by decide))
        exact join33  _ _ (hP.sub [0, 1, 2, 3] rfl) (hD.sub [0, 1, 2, 3] rfl rfl) hS ls (lv_sub hl [0, 1] rfl)
abbrev cX11_readDid : ByteArray := prog_13_method_35_code
def yX11_readDid : MethodName := ⟨RX11, "readDid", "()Z"⟩
theorem t1667 : Cond.code yX11_readDid cX11_readDid 2 (some .boolean) ∈ GW := gw_mem 1781 (by decide +kernel) (by decide +kernel)
abbrev O_m_readDid (cy : Nat → ClassId) (vo : Nat) (voth : Int32) (vmt : Nat) (votp : Int32) (vosz : Int32) (volm : Int32) (voto : Int32) (vofr : Int32) (vokd : Int32) (vonu : Int32) (vosg : Int32) (vofa : Int32) (vopl : Int32) (vowd : Int64) (votd : Int32) (vmn : Nat) (vmr : Nat) (vmk : Nat) (vms : Nat) (vma : Nat) (vmm : Nat) (vmrn : Nat) (vmkn : Nat) (vmik : Nat) (vmon : Nat) (vosm : Int32) (vohp : Int32) (vmw : Nat) (vmf : Nat) (vmb : Nat) (vomb : Int32) (vmd : Nat) (vmc : Nat) (vocm : Int32) (voct : Int32) (vocy : Int32) (vmx : Nat) (votx : Int32) (vose : Int32) (vml : Nat) (vmwr : Nat) (voln : Int32) (vohw : Int32) (vmno : Nat) (vond : Int32) (voon : Int32) (vowi : Int32) (votop : Int32) (vmtf : Nat → Int32) (vmrf : Nat → Int32) (vmrnf : Nat → Int64) (u : Int32 × Int32 × Int32 × Int32 × Int64 × Int32 × Int32 × Int32 × Int32 × (Nat → Int32)) : va_W := [(vo, .inr (12, [.int voth, .ref vmt, .int votp, .int vosz, .int volm, .int u.1, .int u.2.1, .int u.2.2.1, .int u.2.2.2.2.2.1, .int u.2.2.2.1, .int u.2.2.2.2.2.2.1, .int u.2.2.2.2.2.2.2.1, .long u.2.2.2.2.1, .int u.2.2.2.2.2.2.2.2.1, .ref vmn, .ref vmr, .ref vmk, .ref vms, .ref vma, .ref vmm, .ref vmrn, .ref vmkn, .ref vmik, .ref vmon, .int vosm, .int vohp, .ref vmw, .ref vmf, .ref vmb, .int vomb, .ref vmd, .ref vmc, .int vocm, .int voct, .int vocy, .ref vmx, .int votx, .int vose, .ref vml, .ref vmwr, .int voln, .int vohw, .ref vmno, .int vond, .int voon, .int vowi, .int votop])), (vmt, .inl (cy 0, 940, .inl vmtf)), (vmr, .inl (cy 0, 157, .inl u.2.2.2.2.2.2.2.2.2)), (vmrn, .inl (cy 1, 17, .inr (.inl vmrnf)))]
theorem dX11_readDid_0 : decode cX11_readDid 0 = .ok (.aload_n 0, 1) := by decide +kernel
theorem dX11_readDid_1 : decode cX11_readDid 1 = .ok (.invokevirtual 82, 3) := by decide +kernel
theorem dX11_readDid_4 : decode cX11_readDid 4 = .ok (.aload_n 0, 1) := by decide +kernel
theorem dX11_readDid_5 : decode cX11_readDid 5 = .ok (.iconst 0, 1) := by decide +kernel
theorem dX11_readDid_6 : decode cX11_readDid 6 = .ok (.aload_n 0, 1) := by decide +kernel
theorem dX11_readDid_7 : decode cX11_readDid 7 = .ok (.getfield 101, 3) := by decide +kernel
theorem dX11_readDid_10 : decode cX11_readDid 10 = .ok (.iconst 0, 1) := by decide +kernel
theorem dX11_readDid_11 : decode cX11_readDid 11 = .ok (.iaload, 1) := by decide +kernel
theorem dX11_readDid_12 : decode cX11_readDid 12 = .ok (.invokevirtual 188, 3) := by decide +kernel
theorem t1668 : Cond.methodLink RX11 188 yX11_isOne ∈ GW := gw_mem 1782 (by decide +kernel) (by decide +kernel)
theorem t1670 : Cond.instanceMethod yX11_isOne ∈ GW := gw_mem 1784 (by decide +kernel) (by decide +kernel)
theorem s55 : Cond.selects RX11 yX11_isOne yX11_isOne ∈ GW := gw_mem 55 (by decide +kernel) (by decide +kernel)
theorem cw_X11_188 {R : Room} {s : State} {args : Array Value} {rm : Room} {mc ms : Nat} (hts : ∀ w ∈ GW, w.before args s = true) (hrc : rm.cells = mc) (hrs : rm.slots = ms) (hR : rm.frames + 1 ≤ R.frames ∧ 8 + (3 + 11) + rm.locals ≤ R.locals) : CallW R s args RX11 RX11 188 yX11_isOne cX11_isOne 3 (some .boolean) (wl yX11_isOne cX11_isOne 3 (some .boolean)) rm mc ms 2 := cwV 2 hts (gi_V t1668 t1670 s55 t18 t1671) rfl hrc hrs (by decide +kernel) hR
theorem dX11_readDid_15 : decode cX11_readDid 15 = .ok (.ifCond .ne 5, 3) := by decide +kernel
theorem dX11_readDid_18 : decode cX11_readDid 18 = .ok (.iconst 0, 1) := by decide +kernel
theorem dX11_readDid_19 : decode cX11_readDid 19 = .ok (.ireturn, 1) := by decide +kernel
theorem dX11_readDid_20 : decode cX11_readDid 20 = .ok (.bipush 31, 2) := by decide +kernel
theorem dX11_readDid_22 : decode cX11_readDid 22 = .ok (.bipush 10, 2) := by decide +kernel
theorem dX11_readDid_24 : decode cX11_readDid 24 = .ok (.aload_n 0, 1) := by decide +kernel
theorem dX11_readDid_25 : decode cX11_readDid 25 = .ok (.getfield 79, 3) := by decide +kernel
theorem dX11_readDid_28 : decode cX11_readDid 28 = .ok (.imul, 1) := by decide +kernel
theorem dX11_readDid_29 : decode cX11_readDid 29 = .ok (.iadd, 1) := by decide +kernel
theorem dX11_readDid_30 : decode cX11_readDid 30 = .ok (.istore_n 1, 1) := by decide +kernel
theorem dX11_readDid_31 : decode cX11_readDid 31 = .ok (.aload_n 0, 1) := by decide +kernel
theorem dX11_readDid_32 : decode cX11_readDid 32 = .ok (.invokevirtual 82, 3) := by decide +kernel
theorem dX11_readDid_35 : decode cX11_readDid 35 = .ok (.aload_n 0, 1) := by decide +kernel
theorem dX11_readDid_36 : decode cX11_readDid 36 = .ok (.bipush 7, 2) := by decide +kernel
theorem dX11_readDid_38 : decode cX11_readDid 38 = .ok (.aload_n 0, 1) := by decide +kernel
theorem dX11_readDid_39 : decode cX11_readDid 39 = .ok (.getfield 101, 3) := by decide +kernel
theorem dX11_readDid_42 : decode cX11_readDid 42 = .ok (.iconst 1, 1) := by decide +kernel
theorem dX11_readDid_43 : decode cX11_readDid 43 = .ok (.iaload, 1) := by decide +kernel
theorem dX11_readDid_44 : decode cX11_readDid 44 = .ok (.invokevirtual 188, 3) := by decide +kernel
theorem dX11_readDid_47 : decode cX11_readDid 47 = .ok (.ifCond .ne 5, 3) := by decide +kernel
theorem dX11_readDid_50 : decode cX11_readDid 50 = .ok (.iconst 0, 1) := by decide +kernel
theorem dX11_readDid_51 : decode cX11_readDid 51 = .ok (.ireturn, 1) := by decide +kernel
theorem dX11_readDid_52 : decode cX11_readDid 52 = .ok (.iload_n 1, 1) := by decide +kernel
theorem dX11_readDid_53 : decode cX11_readDid 53 = .ok (.aload_n 0, 1) := by decide +kernel
theorem dX11_readDid_54 : decode cX11_readDid 54 = .ok (.getfield 79, 3) := by decide +kernel
theorem dX11_readDid_57 : decode cX11_readDid 57 = .ok (.iadd, 1) := by decide +kernel
theorem dX11_readDid_58 : decode cX11_readDid 58 = .ok (.istore_n 1, 1) := by decide +kernel
theorem dX11_readDid_59 : decode cX11_readDid 59 = .ok (.aload_n 0, 1) := by decide +kernel
theorem dX11_readDid_60 : decode cX11_readDid 60 = .ok (.getfield 101, 3) := by decide +kernel
theorem dX11_readDid_63 : decode cX11_readDid 63 = .ok (.iload_n 1, 1) := by decide +kernel
theorem dX11_readDid_64 : decode cX11_readDid 64 = .ok (.iaload, 1) := by decide +kernel
theorem dX11_readDid_65 : decode cX11_readDid 65 = .ok (.ifCond .eq 9, 3) := by decide +kernel
theorem dX11_readDid_74 : decode cX11_readDid 74 = .ok (.aload_n 0, 1) := by decide +kernel
theorem dX11_readDid_75 : decode cX11_readDid 75 = .ok (.invokevirtual 82, 3) := by decide +kernel
theorem dX11_readDid_78 : decode cX11_readDid 78 = .ok (.aload_n 0, 1) := by decide +kernel
theorem dX11_readDid_79 : decode cX11_readDid 79 = .ok (.iload_n 1, 1) := by decide +kernel
theorem dX11_readDid_80 : decode cX11_readDid 80 = .ok (.aload_n 0, 1) := by decide +kernel
theorem dX11_readDid_81 : decode cX11_readDid 81 = .ok (.iconst 1, 1) := by decide +kernel
theorem dX11_readDid_82 : decode cX11_readDid 82 = .ok (.bipush 9, 2) := by decide +kernel
theorem dX11_readDid_84 : decode cX11_readDid 84 = .ok (.invokevirtual 178, 3) := by decide +kernel
theorem dX11_readDid_87 : decode cX11_readDid 87 = .ok (.invokevirtual 181, 3) := by decide +kernel
theorem dX11_readDid_90 : decode cX11_readDid 90 = .ok (.ireturn, 1) := by decide +kernel
theorem dX11_readDid_68 : decode cX11_readDid 68 = .ok (.aload_n 0, 1) := by decide +kernel
theorem dX11_readDid_69 : decode cX11_readDid 69 = .ok (.iconst 3, 1) := by decide +kernel
theorem dX11_readDid_70 : decode cX11_readDid 70 = .ok (.invokevirtual 72, 3) := by decide +kernel
theorem dX11_readDid_73 : decode cX11_readDid 73 = .ok (.ireturn, 1) := by decide +kernel
set_option maxHeartbeats 4000000 in
set_option maxRecDepth 100000 in
theorem m_readDid (l : Launch) (dC : Nat → ClassId) (dI : Nat → Nat → Nat) (cy : Nat → ClassId) (sz : Nat) (vo : Nat) (voth : Int32) (vmt : Nat) (votp : Int32) (vosz : Int32) (volm : Int32) (voto : Int32) (vofr : Int32) (vokd : Int32) (vonu : Int32) (vosg : Int32) (vofa : Int32) (vopl : Int32) (vowd : Int64) (votd : Int32) (vmn : Nat) (vmr : Nat) (vmk : Nat) (vms : Nat) (vma : Nat) (vmm : Nat) (vmrn : Nat) (vmkn : Nat) (vmik : Nat) (vmon : Nat) (vosm : Int32) (vohp : Int32) (vmw : Nat) (vmf : Nat) (vmb : Nat) (vomb : Int32) (vmd : Nat) (vmc : Nat) (vocm : Int32) (voct : Int32) (vocy : Int32) (vmx : Nat) (votx : Int32) (vose : Int32) (vml : Nat) (vmwr : Nat) (voln : Int32) (vohw : Int32) (vmno : Nat) (vond : Int32) (voon : Int32) (vowi : Int32) (votop : Int32) (vmtf : Nat → Int32) (vmrf : Nat → Int32) (vmrnf : Nat → Int64) (r_vosz : 0 ≤ (vosz : Int32).toInt ∧ (vosz : Int32).toInt ≤ 940) (r_voto : 0 ≤ (voto : Int32).toInt ∧ (voto : Int32).toInt ≤ 940) (r_votd : -1 ≤ (votd : Int32).toInt ∧ (votd : Int32).toInt ≤ 999) (p_vmtf : Rg vmtf 940 0 255) (p_vmrf : RD vmrf) : Met l yX11_readDid (wl yX11_readDid cX11_readDid 2 (some .boolean)) ({ frames := 4, cells := 0, slots := 0, locals := 256 }) (Pw (dC, dI) vwCl cy [(vo, .inr (12, [.int voth, .ref vmt, .int votp, .int vosz, .int volm, .int voto, .int vofr, .int vokd, .int vonu, .int vosg, .int vofa, .int vopl, .long vowd, .int votd, .ref vmn, .ref vmr, .ref vmk, .ref vms, .ref vma, .ref vmm, .ref vmrn, .ref vmkn, .ref vmik, .ref vmon, .int vosm, .int vohp, .ref vmw, .ref vmf, .ref vmb, .int vomb, .ref vmd, .ref vmc, .int vocm, .int voct, .int vocy, .ref vmx, .int votx, .int vose, .ref vml, .ref vmwr, .int voln, .int vohw, .ref vmno, .int vond, .int voon, .int vowi, .int votop])), (vmt, .inl (cy 0, 940, .inl vmtf)), (vmr, .inl (cy 0, 157, .inl vmrf)), (vmrn, .inl (cy 1, 17, .inr (.inl vmrnf)))] sz [.ref vo] nE) (Qi (dC, dI) vwCl (fun (r : Int32) (u : Int32 × Int32 × Int32 × Int32 × Int64 × Int32 × Int32 × Int32 × Int32 × (Nat → Int32)) => ((r = 0) ∨ (r = 1 ∧ ((u.2.2.1 : Int32).toInt = 0 ∨ (u.2.2.1 : Int32).toInt = 1 ∨ (voto : Int32).toInt + 1 ≤ (u.1 : Int32).toInt))) ∧ (0 ≤ (u.1 : Int32).toInt ∧ (u.1 : Int32).toInt ≤ 940) ∧ (-1 ≤ (u.2.2.2.2.2.2.2.2.1 : Int32).toInt ∧ (u.2.2.2.2.2.2.2.2.1 : Int32).toInt ≤ 999) ∧ (RD u.2.2.2.2.2.2.2.2.2) ∧ ((voto : Int32).toInt ≤ (u.1 : Int32).toInt)) (O_m_readDid cy vo voth vmt votp vosz volm voto vofr vokd vonu vosg vofa vopl vowd votd vmn vmr vmk vms vma vmm vmrn vmkn vmik vmon vosm vohp vmw vmf vmb vomb vmd vmc vocm voct vocy vmx votx vose vml vmwr voln vohw vmno vond voon vowi votop vmtf vmrf vmrnf) (va_A [(vo, .inr (12, [.int voth, .ref vmt, .int votp, .int vosz, .int volm, .int voto, .int vofr, .int vokd, .int vonu, .int vosg, .int vofa, .int vopl, .long vowd, .int votd, .ref vmn, .ref vmr, .ref vmk, .ref vms, .ref vma, .ref vmm, .ref vmrn, .ref vmkn, .ref vmik, .ref vmon, .int vosm, .int vohp, .ref vmw, .ref vmf, .ref vmb, .int vomb, .ref vmd, .ref vmc, .int vocm, .int voct, .int vocy, .ref vmx, .int votx, .int vose, .ref vml, .ref vmwr, .int voln, .int vohw, .ref vmno, .int vond, .int voon, .int vowi, .int votop])), (vmt, .inl (cy 0, 940, .inl vmtf)), (vmr, .inl (cy 0, 157, .inl vmrf)), (vmrn, .inl (cy 1, 17, .inr (.inl vmrnf)))] sz)) 0 0 (va_A [(vo, .inr (12, [.int voth, .ref vmt, .int votp, .int vosz, .int volm, .int voto, .int vofr, .int vokd, .int vonu, .int vosg, .int vofa, .int vopl, .long vowd, .int votd, .ref vmn, .ref vmr, .ref vmk, .ref vms, .ref vma, .ref vmm, .ref vmrn, .ref vmkn, .ref vmik, .ref vmon, .int vosm, .int vohp, .ref vmw, .ref vmf, .ref vmb, .int vomb, .ref vmd, .ref vmc, .int vocm, .int voct, .int vocy, .ref vmx, .int votx, .int vose, .ref vml, .ref vmwr, .int voln, .int vohw, .ref vmno, .int vond, .int voon, .int vowi, .int votop])), (vmt, .inl (cy 0, 940, .inl vmtf)), (vmr, .inl (cy 0, 157, .inl vmrf)), (vmrn, .inl (cy 1, 17, .inr (.inl vmrnf)))] sz) := by
  refine mw (Qc := Qi (dC, dI) vwCl (fun (r : Int32) (u : Int32 × Int32 × Int32 × Int32 × Int64 × Int32 × Int32 × Int32 × Int32 × (Nat → Int32)) => ((r = 0) ∨ (r = 1 ∧ ((u.2.2.1 : Int32).toInt = 0 ∨ (u.2.2.1 : Int32).toInt = 1 ∨ (voto : Int32).toInt + 1 ≤ (u.1 : Int32).toInt))) ∧ (0 ≤ (u.1 : Int32).toInt ∧ (u.1 : Int32).toInt ≤ 940) ∧ (-1 ≤ (u.2.2.2.2.2.2.2.2.1 : Int32).toInt ∧ (u.2.2.2.2.2.2.2.2.1 : Int32).toInt ≤ 999) ∧ (RD u.2.2.2.2.2.2.2.2.2) ∧ ((voto : Int32).toInt ≤ (u.1 : Int32).toInt)) (O_m_readDid cy vo voth vmt votp vosz volm voto vofr vokd vonu vosg vofa vopl vowd votd vmn vmr vmk vms vma vmm vmrn vmkn vmik vmon vosm vohp vmw vmf vmb vomb vmd vmc vocm voct vocy vmx votx vose vml vmwr voln vohw vmno vond voon vowi votop vmtf vmrf vmrnf)) RX11 rfl (by decide +kernel) (Nat.le_of_ble_eq_true rfl) ?_
  intro p e s m below meth c A hx hb hr hlocks av9 hav hts hown hnm hml hK hP hD hA hS hE hAe Q9 hQ9 ls hl
  have hl : lv_has ls 2 [(0, .ref vo)] := hl
  refine lv_aload_n hx hb dX11_readDid_0 rfl (lv_at hl 0 rfl) ?_
  refine jn_v (wr := [(vmr, .inl (cy 0, 157, .inl vmrf)), (vmrn, .inl (cy 1, 17, .inr (.inl vmrnf)))]) (rV (As := []) (rest := []) (ci := 12) ⟨hx, hb, hml, hown, hts⟩ (m_go l dC dI cy _ vo voth vmt votp vosz volm voto vofr vokd vonu vosg vofa vopl vowd votd vmn vmr vmk vms vma vmm vmrn vmkn vmik vmon vosm vohp vmw vmf vmb vomb vmd vmc vocm voct vocy vmx votx vose vml vmwr voln vohw vmno vond voon vowi votop vmtf r_vosz r_voto p_vmtf) (cw_X11_82 hts rfl rfl ⟨Nat.le_of_ble_eq_true rfl, Nat.le_of_ble_eq_true rfl⟩) hP hD hK [0, 1] rfl rfl rfl rfl bl0 e0 rfl hl.1 rfl (Nat.le_of_ble_eq_true rfl) dX11_readDid_1 ⟨Nat.le_of_ble_eq_true rfl, Nat.le_of_ble_eq_true rfl⟩) hP hD hS hA [0, 1] [2, 3] rfl rfl rfl (by decide) (fun u_3 H locs hp_2 hP hD hS => ?_)
  obtain ⟨voto_4, vofr_5, vokd_6, vosg_7, vowd_8, vonu_9⟩ := u_3
  have hp_2 : (0 ≤ (voto_4 : Int32).toInt ∧ (voto_4 : Int32).toInt ≤ 940) ∧ ((voto : Int32).toInt ≤ (voto_4 : Int32).toInt) ∧ (((vokd_6 : Int32).toInt = 0 ∨ (vokd_6 : Int32).toInt = 1 ∨ (voto : Int32).toInt + 1 ≤ (voto_4 : Int32).toInt)) := hp_2
  obtain ⟨q_10, q_11, q_12⟩ := hp_2
  have hP : va_P (dC, dI) vwCl [(vmr, .inl (cy 0, 157, .inl vmrf)), (vmrn, .inl (cy 1, 17, .inr (.inl vmrnf))), (vo, .inr (12, [.int voth, .ref vmt, .int votp, .int vosz, .int volm, .int voto_4, .int vofr_5, .int vokd_6, .int vonu_9, .int vosg_7, .int vofa, .int vopl, .long vowd_8, .int votd, .ref vmn, .ref vmr, .ref vmk, .ref vms, .ref vma, .ref vmm, .ref vmrn, .ref vmkn, .ref vmik, .ref vmon, .int vosm, .int vohp, .ref vmw, .ref vmf, .ref vmb, .int vomb, .ref vmd, .ref vmc, .int vocm, .int voct, .int vocy, .ref vmx, .int votx, .int vose, .ref vml, .ref vmwr, .int voln, .int vohw, .ref vmno, .int vond, .int voon, .int vowi, .int votop])), (vmt, .inl (cy 0, 940, .inl vmtf))] H := hP
  have hD : va_D A [(vmr, .inl (cy 0, 157, .inl vmrf)), (vmrn, .inl (cy 1, 17, .inr (.inl vmrnf))), (vo, .inr (12, [.int voth, .ref vmt, .int votp, .int vosz, .int volm, .int voto_4, .int vofr_5, .int vokd_6, .int vonu_9, .int vosg_7, .int vofa, .int vopl, .long vowd_8, .int votd, .ref vmn, .ref vmr, .ref vmk, .ref vms, .ref vma, .ref vmm, .ref vmrn, .ref vmkn, .ref vmik, .ref vmon, .int vosm, .int vohp, .ref vmw, .ref vmf, .ref vmb, .int vomb, .ref vmd, .ref vmc, .int vocm, .int voct, .int vocy, .ref vmx, .int votx, .int vose, .ref vml, .ref vmwr, .int voln, .int vohw, .ref vmno, .int vond, .int voon, .int vowi, .int votop])), (vmt, .inl (cy 0, 940, .inl vmtf))] := hD
  refine lv_aload_n hx hb dX11_readDid_4 rfl (lv_at hl 0 rfl) ?_
  refine lv_iconst (v := 0) hx hb dX11_readDid_5 (by decide) ?_
  refine lv_aload_n hx hb dX11_readDid_6 rfl (lv_at hl 0 rfl) ?_
  refine gf_X11_101 hx hb hts hown hK hP 2 rfl rfl dX11_readDid_7 ?_
  refine lv_iconst (v := 0) hx hb dX11_readDid_10 (by decide) ?_
  have k_0 : (0 : Int32).toInt = 0 := by decide
  have hin_13 : vp_in (0 : Int32) 157 := vp_in_iff.mpr ⟨by omega, by omega⟩
  refine va_iald hx hb hK hP 0 0 rfl rfl hin_13 dX11_readDid_11 ?_
  refine lv_topi (fun z_14 ez_14 => ?_)
  have bz_14 := p_vmrf.a0 (x := 0) ⟨by omega, by omega⟩ ez_14
  have tz_14 : z_14.toInt = (vmrf 0).toInt := by rw [ez_14]; rfl
  refine jn_i (wr := [(vmr, .inl (cy 0, 157, .inl vmrf)), (vmt, .inl (cy 0, 940, .inl vmtf))]) (rV (As := [.int 0, .int z_14]) (rest := []) (ci := 12) ⟨hx, hb, hml, hown, hts⟩ (m_isOne l dC dI cy _ vo voth vmt votp vosz volm voto_4 vofr_5 vokd_6 vonu_9 vosg_7 vofa vopl vowd_8 votd vmn vmr vmk vms vma vmm vmrn vmkn vmik vmon vosm vohp vmw vmf vmb vomb vmd vmc vocm voct vocy vmx votx vose vml vmwr voln vohw vmno vond voon vowi votop vmrnf 0 z_14 r_votd ⟨by omega, by omega⟩ ⟨by omega, by omega⟩ (by omega)) (cw_X11_188 hts rfl rfl ⟨Nat.le_of_ble_eq_true rfl, Nat.le_of_ble_eq_true rfl⟩) hP hD hK [2, 1] rfl rfl rfl rfl bl0 e0 rfl hl.1 rfl (Nat.le_of_ble_eq_true rfl) dX11_readDid_12 ⟨Nat.le_of_ble_eq_true rfl, Nat.le_of_ble_eq_true rfl⟩) hP hD hS hA [2, 1] [0, 3] rfl rfl rfl (by decide) (fun r_15 u_17 H locs hp_16 hP hD hS => ?_)
  obtain ⟨vofa_18, vopl_19, votd_20⟩ := u_17
  have hp_16 : ((r_15 = 0) ∨ (r_15 = 1 ∧ 0 ≤ (votd_20 : Int32).toInt ∧ (votd_20 : Int32).toInt < (z_14 : Int32).toInt)) ∧ (-1 ≤ (votd_20 : Int32).toInt ∧ (votd_20 : Int32).toInt ≤ 999) := hp_16
  obtain ⟨q_21, q_22⟩ := hp_16
  have hP : va_P (dC, dI) vwCl [(vmr, .inl (cy 0, 157, .inl vmrf)), (vmt, .inl (cy 0, 940, .inl vmtf)), (vo, .inr (12, [.int voth, .ref vmt, .int votp, .int vosz, .int volm, .int voto_4, .int vofr_5, .int vokd_6, .int vonu_9, .int vosg_7, .int vofa_18, .int vopl_19, .long vowd_8, .int votd_20, .ref vmn, .ref vmr, .ref vmk, .ref vms, .ref vma, .ref vmm, .ref vmrn, .ref vmkn, .ref vmik, .ref vmon, .int vosm, .int vohp, .ref vmw, .ref vmf, .ref vmb, .int vomb, .ref vmd, .ref vmc, .int vocm, .int voct, .int vocy, .ref vmx, .int votx, .int vose, .ref vml, .ref vmwr, .int voln, .int vohw, .ref vmno, .int vond, .int voon, .int vowi, .int votop])), (vmrn, .inl (cy 1, 17, .inr (.inl vmrnf)))] H := hP
  have hD : va_D A [(vmr, .inl (cy 0, 157, .inl vmrf)), (vmt, .inl (cy 0, 940, .inl vmtf)), (vo, .inr (12, [.int voth, .ref vmt, .int votp, .int vosz, .int volm, .int voto_4, .int vofr_5, .int vokd_6, .int vonu_9, .int vosg_7, .int vofa_18, .int vopl_19, .long vowd_8, .int votd_20, .ref vmn, .ref vmr, .ref vmk, .ref vms, .ref vma, .ref vmm, .ref vmrn, .ref vmkn, .ref vmik, .ref vmon, .int vosm, .int vohp, .ref vmw, .ref vmf, .ref vmb, .int vomb, .ref vmd, .ref vmc, .int vocm, .int voct, .int vocy, .ref vmx, .int votx, .int vose, .ref vml, .ref vmwr, .int voln, .int vohw, .ref vmno, .int vond, .int voon, .int vowi, .int votop])), (vmrn, .inl (cy 1, 17, .inr (.inl vmrnf)))] := hD
  rcases q_21 with aq_21 | ⟨aq_21, f0q_21, f1q_21⟩
  · skip
    refine as_i 0 aq_21 ?_
    refine lv_if_ne (tgt := 20) hx hb dX11_readDid_15 (by decide) (fun c9 => absurd c9 (by decide)) (fun _ => ?_)
    refine lv_iconst (v := 0) hx hb dX11_readDid_18 (by decide) ?_
    rw [hQ9]
    exact re_z (voto_4, vofr_5, vokd_6, vosg_7, vowd_8, vonu_9, vofa_18, vopl_19, votd_20, vmrf) hx hb hr hlocks (Or.inl rfl) ⟨(show ((0 : Int32) = 0) ∨ ((0 : Int32) = 1 ∧ ((vokd_6 : Int32).toInt = 0 ∨ (vokd_6 : Int32).toInt = 1 ∨ (voto : Int32).toInt + 1 ≤ (voto_4 : Int32).toInt)) from (Or.inl rfl)), (show 0 ≤ (voto_4 : Int32).toInt ∧ (voto_4 : Int32).toInt ≤ 940 from ⟨by omega, by omega⟩), (show -1 ≤ (votd_20 : Int32).toInt ∧ (votd_20 : Int32).toInt ≤ 999 from ⟨by omega, by omega⟩), (show RD vmrf from p_vmrf), (show (voto : Int32).toInt ≤ (voto_4 : Int32).toInt from q_11)⟩ (hP.sub [2, 1, 0, 3] rfl) (hD.sub [2, 1, 0, 3] rfl rfl) hS dX11_readDid_19
  · skip
    refine as_i 1 aq_21 ?_
    refine lv_if_ne (tgt := 20) hx hb dX11_readDid_15 (by decide) (fun _ => ?_) (fun c9 => absurd c9 (by decide))
    refine lv_bipush (v := 31) hx hb dX11_readDid_20 (by decide) ?_
    refine lv_bipush (v := 10) hx hb dX11_readDid_22 (by decide) ?_
    refine lv_aload_n hx hb dX11_readDid_24 rfl (lv_at hl 0 rfl) ?_
    refine gf_X11_79 hx hb hts hown hK hP 2 rfl rfl dX11_readDid_25 ?_
    refine lv_imul hx hb dX11_readDid_28 ?_
    refine lv_topi (fun z_23 ez_23 => ?_)
    have k_10 : (10 : Int32).toInt = 10 := by decide
    have bz_23 : z_23.toInt = votd_20.toInt * 10 := i_cmul k_10 ez_23 (by omega) (by omega)
    refine lv_iadd hx hb dX11_readDid_29 ?_
    refine lv_topi (fun z_24 ez_24 => ?_)
    have k_31 : (31 : Int32).toInt = 31 := by decide
    have bz_24 : z_24.toInt = (31 : Int32).toInt + z_23.toInt := i_add ez_24 (by omega) (by omega)
    refine lv_istore_n (lv' := [(1, .int z_24), (0, .ref vo)]) hx hb dX11_readDid_30 rfl hl (by decide) rfl (fun ls hl => ?_)
    refine lv_aload_n hx hb dX11_readDid_31 rfl (lv_at hl 1 rfl) ?_
    refine jn_v (wr := [(vmr, .inl (cy 0, 157, .inl vmrf)), (vmrn, .inl (cy 1, 17, .inr (.inl vmrnf)))]) (rV (As := []) (rest := []) (ci := 12) ⟨hx, hb, hml, hown, hts⟩ (m_go l dC dI cy _ vo voth vmt votp vosz volm voto_4 vofr_5 vokd_6 vonu_9 vosg_7 vofa_18 vopl_19 vowd_8 votd_20 vmn vmr vmk vms vma vmm vmrn vmkn vmik vmon vosm vohp vmw vmf vmb vomb vmd vmc vocm voct vocy vmx votx vose vml vmwr voln vohw vmno vond voon vowi votop vmtf r_vosz ⟨by omega, by omega⟩ p_vmtf) (cw_X11_82 hts rfl rfl ⟨Nat.le_of_ble_eq_true rfl, Nat.le_of_ble_eq_true rfl⟩) hP hD hK [2, 1] rfl rfl rfl rfl bl0 e0 rfl hl.1 rfl (Nat.le_of_ble_eq_true rfl) dX11_readDid_32 ⟨Nat.le_of_ble_eq_true rfl, Nat.le_of_ble_eq_true rfl⟩) hP hD hS hA [2, 1] [0, 3] rfl rfl rfl (by decide) (fun u_27 H locs hp_26 hP hD hS => ?_)
    obtain ⟨voto_28, vofr_29, vokd_30, vosg_31, vowd_32, vonu_33⟩ := u_27
    have hp_26 : (0 ≤ (voto_28 : Int32).toInt ∧ (voto_28 : Int32).toInt ≤ 940) ∧ ((voto_4 : Int32).toInt ≤ (voto_28 : Int32).toInt) ∧ (((vokd_30 : Int32).toInt = 0 ∨ (vokd_30 : Int32).toInt = 1 ∨ (voto_4 : Int32).toInt + 1 ≤ (voto_28 : Int32).toInt)) := hp_26
    obtain ⟨q_34, q_35, q_36⟩ := hp_26
    have hP : va_P (dC, dI) vwCl [(vmr, .inl (cy 0, 157, .inl vmrf)), (vmrn, .inl (cy 1, 17, .inr (.inl vmrnf))), (vo, .inr (12, [.int voth, .ref vmt, .int votp, .int vosz, .int volm, .int voto_28, .int vofr_29, .int vokd_30, .int vonu_33, .int vosg_31, .int vofa_18, .int vopl_19, .long vowd_32, .int votd_20, .ref vmn, .ref vmr, .ref vmk, .ref vms, .ref vma, .ref vmm, .ref vmrn, .ref vmkn, .ref vmik, .ref vmon, .int vosm, .int vohp, .ref vmw, .ref vmf, .ref vmb, .int vomb, .ref vmd, .ref vmc, .int vocm, .int voct, .int vocy, .ref vmx, .int votx, .int vose, .ref vml, .ref vmwr, .int voln, .int vohw, .ref vmno, .int vond, .int voon, .int vowi, .int votop])), (vmt, .inl (cy 0, 940, .inl vmtf))] H := hP
    have hD : va_D A [(vmr, .inl (cy 0, 157, .inl vmrf)), (vmrn, .inl (cy 1, 17, .inr (.inl vmrnf))), (vo, .inr (12, [.int voth, .ref vmt, .int votp, .int vosz, .int volm, .int voto_28, .int vofr_29, .int vokd_30, .int vonu_33, .int vosg_31, .int vofa_18, .int vopl_19, .long vowd_32, .int votd_20, .ref vmn, .ref vmr, .ref vmk, .ref vms, .ref vma, .ref vmm, .ref vmrn, .ref vmkn, .ref vmik, .ref vmon, .int vosm, .int vohp, .ref vmw, .ref vmf, .ref vmb, .int vomb, .ref vmd, .ref vmc, .int vocm, .int voct, .int vocy, .ref vmx, .int votx, .int vose, .ref vml, .ref vmwr, .int voln, .int vohw, .ref vmno, .int vond, .int voon, .int vowi, .int votop])), (vmt, .inl (cy 0, 940, .inl vmtf))] := hD
    refine lv_aload_n hx hb dX11_readDid_35 rfl (lv_at hl 1 rfl) ?_
    refine lv_bipush (v := 7) hx hb dX11_readDid_36 (by decide) ?_
    refine lv_aload_n hx hb dX11_readDid_38 rfl (lv_at hl 1 rfl) ?_
    refine gf_X11_101 hx hb hts hown hK hP 2 rfl rfl dX11_readDid_39 ?_
    refine lv_iconst (v := 1) hx hb dX11_readDid_42 (by decide) ?_
    have k_1 : (1 : Int32).toInt = 1 := by decide
    have hin_37 : vp_in (1 : Int32) 157 := vp_in_iff.mpr ⟨by omega, by omega⟩
    refine va_iald hx hb hK hP 0 0 rfl rfl hin_37 dX11_readDid_43 ?_
    refine lv_topi (fun z_38 ez_38 => ?_)
    have bz_38 := p_vmrf.a1 (x := 1) ⟨by omega, by omega⟩ ez_38
    have tz_38 : z_38.toInt = (vmrf 1).toInt := by rw [ez_38]; rfl
    have k_7 : (7 : Int32).toInt = 7 := by decide
    refine jn_i (wr := [(vmr, .inl (cy 0, 157, .inl vmrf)), (vmt, .inl (cy 0, 940, .inl vmtf))]) (rV (As := [.int 7, .int z_38]) (rest := []) (ci := 12) ⟨hx, hb, hml, hown, hts⟩ (m_isOne l dC dI cy _ vo voth vmt votp vosz volm voto_28 vofr_29 vokd_30 vonu_33 vosg_31 vofa_18 vopl_19 vowd_32 votd_20 vmn vmr vmk vms vma vmm vmrn vmkn vmik vmon vosm vohp vmw vmf vmb vomb vmd vmc vocm voct vocy vmx votx vose vml vmwr voln vohw vmno vond voon vowi votop vmrnf 7 z_38 ⟨by omega, by omega⟩ ⟨by omega, by omega⟩ ⟨by omega, by omega⟩ (by omega)) (cw_X11_188 hts rfl rfl ⟨Nat.le_of_ble_eq_true rfl, Nat.le_of_ble_eq_true rfl⟩) hP hD hK [2, 1] rfl rfl rfl rfl bl0 e0 rfl hl.1 rfl (Nat.le_of_ble_eq_true rfl) dX11_readDid_44 ⟨Nat.le_of_ble_eq_true rfl, Nat.le_of_ble_eq_true rfl⟩) hP hD hS hA [2, 1] [0, 3] rfl rfl rfl (by decide) (fun r_39 u_41 H locs hp_40 hP hD hS => ?_)
    obtain ⟨vofa_42, vopl_43, votd_44⟩ := u_41
    have hp_40 : ((r_39 = 0) ∨ (r_39 = 1 ∧ 0 ≤ (votd_44 : Int32).toInt ∧ (votd_44 : Int32).toInt < (z_38 : Int32).toInt)) ∧ (-1 ≤ (votd_44 : Int32).toInt ∧ (votd_44 : Int32).toInt ≤ 999) := hp_40
    obtain ⟨q_45, q_46⟩ := hp_40
    have hP : va_P (dC, dI) vwCl [(vmr, .inl (cy 0, 157, .inl vmrf)), (vmt, .inl (cy 0, 940, .inl vmtf)), (vo, .inr (12, [.int voth, .ref vmt, .int votp, .int vosz, .int volm, .int voto_28, .int vofr_29, .int vokd_30, .int vonu_33, .int vosg_31, .int vofa_42, .int vopl_43, .long vowd_32, .int votd_44, .ref vmn, .ref vmr, .ref vmk, .ref vms, .ref vma, .ref vmm, .ref vmrn, .ref vmkn, .ref vmik, .ref vmon, .int vosm, .int vohp, .ref vmw, .ref vmf, .ref vmb, .int vomb, .ref vmd, .ref vmc, .int vocm, .int voct, .int vocy, .ref vmx, .int votx, .int vose, .ref vml, .ref vmwr, .int voln, .int vohw, .ref vmno, .int vond, .int voon, .int vowi, .int votop])), (vmrn, .inl (cy 1, 17, .inr (.inl vmrnf)))] H := hP
    have hD : va_D A [(vmr, .inl (cy 0, 157, .inl vmrf)), (vmt, .inl (cy 0, 940, .inl vmtf)), (vo, .inr (12, [.int voth, .ref vmt, .int votp, .int vosz, .int volm, .int voto_28, .int vofr_29, .int vokd_30, .int vonu_33, .int vosg_31, .int vofa_42, .int vopl_43, .long vowd_32, .int votd_44, .ref vmn, .ref vmr, .ref vmk, .ref vms, .ref vma, .ref vmm, .ref vmrn, .ref vmkn, .ref vmik, .ref vmon, .int vosm, .int vohp, .ref vmw, .ref vmf, .ref vmb, .int vomb, .ref vmd, .ref vmc, .int vocm, .int voct, .int vocy, .ref vmx, .int votx, .int vose, .ref vml, .ref vmwr, .int voln, .int vohw, .ref vmno, .int vond, .int voon, .int vowi, .int votop])), (vmrn, .inl (cy 1, 17, .inr (.inl vmrnf)))] := hD
    rcases q_45 with aq_45 | ⟨aq_45, f0q_45, f1q_45⟩
    · skip
      refine as_i 0 aq_45 ?_
      refine lv_if_ne (tgt := 52) hx hb dX11_readDid_47 (by decide) (fun c9 => absurd c9 (by decide)) (fun _ => ?_)
      refine lv_iconst (v := 0) hx hb dX11_readDid_50 (by decide) ?_
      rw [hQ9]
      exact re_z (voto_28, vofr_29, vokd_30, vosg_31, vowd_32, vonu_33, vofa_42, vopl_43, votd_44, vmrf) hx hb hr hlocks (Or.inl rfl) ⟨(show ((0 : Int32) = 0) ∨ ((0 : Int32) = 1 ∧ ((vokd_30 : Int32).toInt = 0 ∨ (vokd_30 : Int32).toInt = 1 ∨ (voto : Int32).toInt + 1 ≤ (voto_28 : Int32).toInt)) from (Or.inl rfl)), (show 0 ≤ (voto_28 : Int32).toInt ∧ (voto_28 : Int32).toInt ≤ 940 from ⟨by omega, by omega⟩), (show -1 ≤ (votd_44 : Int32).toInt ∧ (votd_44 : Int32).toInt ≤ 999 from ⟨by omega, by omega⟩), (show RD vmrf from p_vmrf), (show (voto : Int32).toInt ≤ (voto_28 : Int32).toInt from (by omega))⟩ (hP.sub [2, 1, 0, 3] rfl) (hD.sub [2, 1, 0, 3] rfl rfl) hS dX11_readDid_51
    · skip
      refine as_i 1 aq_45 ?_
      refine lv_if_ne (tgt := 52) hx hb dX11_readDid_47 (by decide) (fun _ => ?_) (fun c9 => absurd c9 (by decide))
      refine lv_iload_n hx hb dX11_readDid_52 rfl (lv_at hl 0 rfl) ?_
      refine lv_aload_n hx hb dX11_readDid_53 rfl (lv_at hl 1 rfl) ?_
      refine gf_X11_79 hx hb hts hown hK hP 2 rfl rfl dX11_readDid_54 ?_
      refine lv_iadd hx hb dX11_readDid_57 ?_
      refine lv_topi (fun z_47 ez_47 => ?_)
      have bz_47 : z_47.toInt = z_24.toInt + votd_44.toInt := i_add ez_47 (by omega) (by omega)
      refine lv_istore_n (lv' := [(1, .int z_47), (0, .ref vo)]) hx hb dX11_readDid_58 rfl hl (by decide) rfl (fun ls hl => ?_)
      refine lv_aload_n hx hb dX11_readDid_59 rfl (lv_at hl 1 rfl) ?_
      refine gf_X11_101 hx hb hts hown hK hP 2 rfl rfl dX11_readDid_60 ?_
      refine lv_iload_n hx hb dX11_readDid_63 rfl (lv_at hl 0 rfl) ?_
      have hin_48 : vp_in z_47 157 := vp_in_iff.mpr ⟨by omega, by omega⟩
      refine va_iald hx hb hK hP 0 0 rfl rfl hin_48 dX11_readDid_64 ?_
      refine lv_topi (fun z_49 ez_49 => ?_)
      refine lv_if_eq (tgt := 74) hx hb dX11_readDid_65 (by decide) (fun c_50 => ?_) (fun c_50 => ?_)
      · skip
        have c_50 : z_49.toInt = (0 : Int32).toInt := i_eq.mp c_50
        refine lv_aload_n hx hb dX11_readDid_74 rfl (lv_at hl 1 rfl) ?_
        refine jn_v (wr := [(vmr, .inl (cy 0, 157, .inl vmrf)), (vmrn, .inl (cy 1, 17, .inr (.inl vmrnf)))]) (rV (As := []) (rest := []) (ci := 12) ⟨hx, hb, hml, hown, hts⟩ (m_go l dC dI cy _ vo voth vmt votp vosz volm voto_28 vofr_29 vokd_30 vonu_33 vosg_31 vofa_42 vopl_43 vowd_32 votd_44 vmn vmr vmk vms vma vmm vmrn vmkn vmik vmon vosm vohp vmw vmf vmb vomb vmd vmc vocm voct vocy vmx votx vose vml vmwr voln vohw vmno vond voon vowi votop vmtf r_vosz ⟨by omega, by omega⟩ p_vmtf) (cw_X11_82 hts rfl rfl ⟨Nat.le_of_ble_eq_true rfl, Nat.le_of_ble_eq_true rfl⟩) hP hD hK [2, 1] rfl rfl rfl rfl bl0 e0 rfl hl.1 rfl (Nat.le_of_ble_eq_true rfl) dX11_readDid_75 ⟨Nat.le_of_ble_eq_true rfl, Nat.le_of_ble_eq_true rfl⟩) hP hD hS hA [2, 1] [0, 3] rfl rfl rfl (by decide) (fun u_53 H locs hp_52 hP hD hS => ?_)
        obtain ⟨voto_54, vofr_55, vokd_56, vosg_57, vowd_58, vonu_59⟩ := u_53
        have hp_52 : (0 ≤ (voto_54 : Int32).toInt ∧ (voto_54 : Int32).toInt ≤ 940) ∧ ((voto_28 : Int32).toInt ≤ (voto_54 : Int32).toInt) ∧ (((vokd_56 : Int32).toInt = 0 ∨ (vokd_56 : Int32).toInt = 1 ∨ (voto_28 : Int32).toInt + 1 ≤ (voto_54 : Int32).toInt)) := hp_52
        obtain ⟨q_60, q_61, q_62⟩ := hp_52
        have hP : va_P (dC, dI) vwCl [(vmr, .inl (cy 0, 157, .inl vmrf)), (vmrn, .inl (cy 1, 17, .inr (.inl vmrnf))), (vo, .inr (12, [.int voth, .ref vmt, .int votp, .int vosz, .int volm, .int voto_54, .int vofr_55, .int vokd_56, .int vonu_59, .int vosg_57, .int vofa_42, .int vopl_43, .long vowd_58, .int votd_44, .ref vmn, .ref vmr, .ref vmk, .ref vms, .ref vma, .ref vmm, .ref vmrn, .ref vmkn, .ref vmik, .ref vmon, .int vosm, .int vohp, .ref vmw, .ref vmf, .ref vmb, .int vomb, .ref vmd, .ref vmc, .int vocm, .int voct, .int vocy, .ref vmx, .int votx, .int vose, .ref vml, .ref vmwr, .int voln, .int vohw, .ref vmno, .int vond, .int voon, .int vowi, .int votop])), (vmt, .inl (cy 0, 940, .inl vmtf))] H := hP
        have hD : va_D A [(vmr, .inl (cy 0, 157, .inl vmrf)), (vmrn, .inl (cy 1, 17, .inr (.inl vmrnf))), (vo, .inr (12, [.int voth, .ref vmt, .int votp, .int vosz, .int volm, .int voto_54, .int vofr_55, .int vokd_56, .int vonu_59, .int vosg_57, .int vofa_42, .int vopl_43, .long vowd_58, .int votd_44, .ref vmn, .ref vmr, .ref vmk, .ref vms, .ref vma, .ref vmm, .ref vmrn, .ref vmkn, .ref vmik, .ref vmon, .int vosm, .int vohp, .ref vmw, .ref vmf, .ref vmb, .int vomb, .ref vmd, .ref vmc, .int vocm, .int voct, .int vocy, .ref vmx, .int votx, .int vose, .ref vml, .ref vmwr, .int voln, .int vohw, .ref vmno, .int vond, .int voon, .int vowi, .int votop])), (vmt, .inl (cy 0, 940, .inl vmtf))] := hD
        refine lv_aload_n hx hb dX11_readDid_78 rfl (lv_at hl 1 rfl) ?_
        refine lv_iload_n hx hb dX11_readDid_79 rfl (lv_at hl 0 rfl) ?_
        refine lv_aload_n hx hb dX11_readDid_80 rfl (lv_at hl 1 rfl) ?_
        refine lv_iconst (v := 1) hx hb dX11_readDid_81 (by decide) ?_
        refine lv_bipush (v := 9) hx hb dX11_readDid_82 (by decide) ?_
        have k_9 : (9 : Int32).toInt = 9 := by decide
        refine jn_i (wr := [(vmr, .inl (cy 0, 157, .inl vmrf)), (vmrn, .inl (cy 1, 17, .inr (.inl vmrnf)))]) (rV (As := [.int 1, .int 9]) (rest := [.int z_47, .ref vo]) (ci := 12) ⟨hx, hb, hml, hown, hts⟩ (m_readNumber l dC dI cy _ vo voth vmt votp vosz volm voto_54 vofr_55 vokd_56 vonu_59 vosg_57 vofa_42 vopl_43 vowd_58 votd_44 vmn vmr vmk vms vma vmm vmrn vmkn vmik vmon vosm vohp vmw vmf vmb vomb vmd vmc vocm voct vocy vmx votx vose vml vmwr voln vohw vmno vond voon vowi votop vmtf 1 9 r_vosz ⟨by omega, by omega⟩ ⟨by omega, by omega⟩ ⟨by omega, by omega⟩ ⟨by omega, by omega⟩ p_vmtf) (cw_X11_178 hts rfl rfl ⟨Nat.le_of_ble_eq_true rfl, Nat.le_of_ble_eq_true rfl⟩) hP hD hK [2, 3] rfl rfl rfl rfl bl0 e0 rfl hl.1 rfl (Nat.le_of_ble_eq_true rfl) dX11_readDid_84 ⟨Nat.le_of_ble_eq_true rfl, Nat.le_of_ble_eq_true rfl⟩) hP hD hS hA [2, 3] [0, 1] rfl rfl rfl (by decide) (fun r_63 u_65 H locs hp_64 hP hD hS => ?_)
        obtain ⟨voto_66, vofr_67, vokd_68, vosg_69, vowd_70, vonu_71, vofa_72, vopl_73, votd_74⟩ := u_65
        have hp_64 : ((r_63 = 0 ∧ (votd_74 : Int32).toInt = (votd_44 : Int32).toInt) ∨ (r_63 = 1 ∧ (1 : Int32).toInt ≤ (votd_74 : Int32).toInt ∧ (votd_74 : Int32).toInt ≤ (9 : Int32).toInt ∧ ((vokd_68 : Int32).toInt = 0 ∨ (vokd_68 : Int32).toInt = 1 ∨ (voto_54 : Int32).toInt + 1 ≤ (voto_66 : Int32).toInt))) ∧ (0 ≤ (voto_66 : Int32).toInt ∧ (voto_66 : Int32).toInt ≤ 940) ∧ (-1 ≤ (votd_74 : Int32).toInt ∧ (votd_74 : Int32).toInt ≤ 999) ∧ ((voto_54 : Int32).toInt ≤ (voto_66 : Int32).toInt) := hp_64
        obtain ⟨q_75, q_76, q_77, q_78⟩ := hp_64
        have hP : va_P (dC, dI) vwCl [(vmr, .inl (cy 0, 157, .inl vmrf)), (vmrn, .inl (cy 1, 17, .inr (.inl vmrnf))), (vo, .inr (12, [.int voth, .ref vmt, .int votp, .int vosz, .int volm, .int voto_66, .int vofr_67, .int vokd_68, .int vonu_71, .int vosg_69, .int vofa_72, .int vopl_73, .long vowd_70, .int votd_74, .ref vmn, .ref vmr, .ref vmk, .ref vms, .ref vma, .ref vmm, .ref vmrn, .ref vmkn, .ref vmik, .ref vmon, .int vosm, .int vohp, .ref vmw, .ref vmf, .ref vmb, .int vomb, .ref vmd, .ref vmc, .int vocm, .int voct, .int vocy, .ref vmx, .int votx, .int vose, .ref vml, .ref vmwr, .int voln, .int vohw, .ref vmno, .int vond, .int voon, .int vowi, .int votop])), (vmt, .inl (cy 0, 940, .inl vmtf))] H := hP
        have hD : va_D A [(vmr, .inl (cy 0, 157, .inl vmrf)), (vmrn, .inl (cy 1, 17, .inr (.inl vmrnf))), (vo, .inr (12, [.int voth, .ref vmt, .int votp, .int vosz, .int volm, .int voto_66, .int vofr_67, .int vokd_68, .int vonu_71, .int vosg_69, .int vofa_72, .int vopl_73, .long vowd_70, .int votd_74, .ref vmn, .ref vmr, .ref vmk, .ref vms, .ref vma, .ref vmm, .ref vmrn, .ref vmkn, .ref vmik, .ref vmon, .int vosm, .int vohp, .ref vmw, .ref vmf, .ref vmb, .int vomb, .ref vmd, .ref vmc, .int vocm, .int voct, .int vocy, .ref vmx, .int votx, .int vose, .ref vml, .ref vmwr, .int voln, .int vohw, .ref vmno, .int vond, .int voon, .int vowi, .int votop])), (vmt, .inl (cy 0, 940, .inl vmtf))] := hD
        rcases q_75 with ⟨aq_75, f0q_75⟩ | ⟨aq_75, f0q_75, f1q_75, f2q_75⟩
        · skip
          refine as_i 0 aq_75 ?_
          refine jr_i (rVr (As := [.int z_47, .int 0]) (rest := []) (ci := 12) ⟨hx, hb, hml, hown, hts⟩ (m_put_0 l dC dI cy vo voth vmt votp vosz volm voto_66 vofr_67 vokd_68 vonu_71 vosg_69 vofa_72 vopl_73 vowd_70 votd_74 vmn vmr vmk vms vma vmm vmrn vmkn vmik vmon vosm vohp vmw vmf vmb vomb vmd vmc vocm voct vocy vmx votx vose vml vmwr voln vohw vmno vond voon vowi votop z_47 ) (cw_X11_181 hts rfl rfl ⟨Nat.le_of_ble_eq_true rfl, Nat.le_of_ble_eq_true rfl⟩) hP hK [2] rfl rfl rfl rfl hl.1 rfl (Nat.le_of_ble_eq_true rfl) dX11_readDid_87 ⟨Nat.le_of_ble_eq_true rfl, Nat.le_of_ble_eq_true rfl⟩) hP hS (fun r_79 H locs hp_80 hP hS => ?_)
          have hp_80 : ((r_79 = 0)) := hp_80
          have q_81 := hp_80
          have aq_81 := q_81
          · skip
            refine as_i 0 aq_81 ?_
            rw [hQ9]
            exact re_z (voto_66, vofr_67, vokd_68, vosg_69, vowd_70, vonu_71, vofa_72, vopl_73, votd_74, vmrf) hx hb hr hlocks (Or.inl rfl) ⟨(show ((0 : Int32) = 0) ∨ ((0 : Int32) = 1 ∧ ((vokd_68 : Int32).toInt = 0 ∨ (vokd_68 : Int32).toInt = 1 ∨ (voto : Int32).toInt + 1 ≤ (voto_66 : Int32).toInt)) from (Or.inl rfl)), (show 0 ≤ (voto_66 : Int32).toInt ∧ (voto_66 : Int32).toInt ≤ 940 from ⟨by omega, by omega⟩), (show -1 ≤ (votd_74 : Int32).toInt ∧ (votd_74 : Int32).toInt ≤ 999 from ⟨by omega, by omega⟩), (show RD vmrf from p_vmrf), (show (voto : Int32).toInt ≤ (voto_66 : Int32).toInt from (by omega))⟩ (hP.sub [2, 3, 0, 1] rfl) (hD.sub [2, 3, 0, 1] rfl rfl) hS dX11_readDid_90
        · skip
          refine as_i 1 aq_75 ?_
          refine jn_i (wr := [(vmrn, .inl (cy 1, 17, .inr (.inl vmrnf))), (vmt, .inl (cy 0, 940, .inl vmtf))]) (rV (As := [.int z_47, .int 1]) (rest := []) (ci := 12) ⟨hx, hb, hml, hown, hts⟩ (m_put_1 l dC dI cy _ vo voth vmt votp vosz volm voto_66 vofr_67 vokd_68 vonu_71 vosg_69 vofa_72 vopl_73 vowd_70 votd_74 vmn vmr vmk vms vma vmm vmrn vmkn vmik vmon vosm vohp vmw vmf vmb vomb vmd vmc vocm voct vocy vmx votx vose vml vmwr voln vohw vmno vond voon vowi votop vmrf z_47 ⟨by omega, by omega⟩ ⟨by omega, by omega⟩ p_vmrf (by omega)) (cw_X11_181 hts rfl rfl ⟨Nat.le_of_ble_eq_true rfl, Nat.le_of_ble_eq_true rfl⟩) hP hD hK [2, 0] rfl rfl rfl rfl bl0 e0 rfl hl.1 rfl (Nat.le_of_ble_eq_true rfl) dX11_readDid_87 ⟨Nat.le_of_ble_eq_true rfl, Nat.le_of_ble_eq_true rfl⟩) hP hD hS hA [2, 0] [1, 3] rfl rfl rfl (by decide) (fun r_82 u_84 H locs hp_83 hP hD hS => ?_)
          obtain ⟨vmrf_85, rfl⟩ : ∃ z, z = u_84 := ⟨_, rfl⟩
          have hp_83 : ((r_82 = 1)) ∧ (RD vmrf_85) ∧ ((vmrf_85 0).toInt = (vmrf 0).toInt) ∧ ((vmrf_85 1).toInt = (vmrf 1).toInt) := hp_83
          obtain ⟨q_86, q_87, q_88, q_89⟩ := hp_83
          have hP : va_P (dC, dI) vwCl [(vmrn, .inl (cy 1, 17, .inr (.inl vmrnf))), (vmt, .inl (cy 0, 940, .inl vmtf)), (vo, .inr (12, [.int voth, .ref vmt, .int votp, .int vosz, .int volm, .int voto_66, .int vofr_67, .int vokd_68, .int vonu_71, .int vosg_69, .int vofa_72, .int vopl_73, .long vowd_70, .int votd_74, .ref vmn, .ref vmr, .ref vmk, .ref vms, .ref vma, .ref vmm, .ref vmrn, .ref vmkn, .ref vmik, .ref vmon, .int vosm, .int vohp, .ref vmw, .ref vmf, .ref vmb, .int vomb, .ref vmd, .ref vmc, .int vocm, .int voct, .int vocy, .ref vmx, .int votx, .int vose, .ref vml, .ref vmwr, .int voln, .int vohw, .ref vmno, .int vond, .int voon, .int vowi, .int votop])), (vmr, .inl (cy 0, 157, .inl vmrf_85))] H := hP
          have hD : va_D A [(vmrn, .inl (cy 1, 17, .inr (.inl vmrnf))), (vmt, .inl (cy 0, 940, .inl vmtf)), (vo, .inr (12, [.int voth, .ref vmt, .int votp, .int vosz, .int volm, .int voto_66, .int vofr_67, .int vokd_68, .int vonu_71, .int vosg_69, .int vofa_72, .int vopl_73, .long vowd_70, .int votd_74, .ref vmn, .ref vmr, .ref vmk, .ref vms, .ref vma, .ref vmm, .ref vmrn, .ref vmkn, .ref vmik, .ref vmon, .int vosm, .int vohp, .ref vmw, .ref vmf, .ref vmb, .int vomb, .ref vmd, .ref vmc, .int vocm, .int voct, .int vocy, .ref vmx, .int votx, .int vose, .ref vml, .ref vmwr, .int voln, .int vohw, .ref vmno, .int vond, .int voon, .int vowi, .int votop])), (vmr, .inl (cy 0, 157, .inl vmrf_85))] := hD
          have aq_86 := q_86
          · skip
            refine as_i 1 aq_86 ?_
            rw [hQ9]
            exact re_z (voto_66, vofr_67, vokd_68, vosg_69, vowd_70, vonu_71, vofa_72, vopl_73, votd_74, vmrf_85) hx hb hr hlocks (Or.inr rfl) ⟨(show ((1 : Int32) = 0) ∨ ((1 : Int32) = 1 ∧ ((vokd_68 : Int32).toInt = 0 ∨ (vokd_68 : Int32).toInt = 1 ∨ (voto : Int32).toInt + 1 ≤ (voto_66 : Int32).toInt)) from (Or.inr (⟨rfl, by omega⟩))), (show 0 ≤ (voto_66 : Int32).toInt ∧ (voto_66 : Int32).toInt ≤ 940 from ⟨by omega, by omega⟩), (show -1 ≤ (votd_74 : Int32).toInt ∧ (votd_74 : Int32).toInt ≤ 999 from ⟨by omega, by omega⟩), (show RD vmrf_85 from q_87), (show (voto : Int32).toInt ≤ (voto_66 : Int32).toInt from (by omega))⟩ (hP.sub [2, 1, 3, 0] rfl) (hD.sub [2, 1, 3, 0] rfl rfl) hS dX11_readDid_90
      · skip
        have c_50 : ¬ (z_49.toInt = (0 : Int32).toInt) := fun h9 => c_50 (i_eq.mpr h9)
        refine lv_aload_n hx hb dX11_readDid_68 rfl (lv_at hl 1 rfl) ?_
        refine lv_iconst (v := 3) hx hb dX11_readDid_69 (by decide) ?_
        have k_3 : (3 : Int32).toInt = 3 := by decide
        refine jn_i (wr := [(vmr, .inl (cy 0, 157, .inl vmrf)), (vmt, .inl (cy 0, 940, .inl vmtf)), (vmrn, .inl (cy 1, 17, .inr (.inl vmrnf)))]) (rV (As := [.int 3]) (rest := []) (ci := 12) ⟨hx, hb, hml, hown, hts⟩ (m_bad l dC dI cy _ vo voth vmt votp vosz volm voto_28 vofr_29 vokd_30 vonu_33 vosg_31 vofa_42 vopl_43 vowd_32 votd_44 vmn vmr vmk vms vma vmm vmrn vmkn vmik vmon vosm vohp vmw vmf vmb vomb vmd vmc vocm voct vocy vmx votx vose vml vmwr voln vohw vmno vond voon vowi votop 3 ) (cw_X11_72 hts rfl rfl ⟨Nat.le_of_ble_eq_true rfl, Nat.le_of_ble_eq_true rfl⟩) hP hD hK [2] rfl rfl rfl rfl bl0 e0 rfl hl.1 rfl (Nat.le_of_ble_eq_true rfl) dX11_readDid_70 ⟨Nat.le_of_ble_eq_true rfl, Nat.le_of_ble_eq_true rfl⟩) hP hD hS hA [2] [0, 1, 3] rfl rfl rfl (by decide) (fun r_90 u_92 H locs hp_91 hP hD hS => ?_)
        obtain ⟨vofa_93, vopl_94⟩ := u_92
        have hp_91 : ((r_90 = 0)) := hp_91
        have q_95 := hp_91
        have hP : va_P (dC, dI) vwCl [(vmr, .inl (cy 0, 157, .inl vmrf)), (vmt, .inl (cy 0, 940, .inl vmtf)), (vmrn, .inl (cy 1, 17, .inr (.inl vmrnf))), (vo, .inr (12, [.int voth, .ref vmt, .int votp, .int vosz, .int volm, .int voto_28, .int vofr_29, .int vokd_30, .int vonu_33, .int vosg_31, .int vofa_93, .int vopl_94, .long vowd_32, .int votd_44, .ref vmn, .ref vmr, .ref vmk, .ref vms, .ref vma, .ref vmm, .ref vmrn, .ref vmkn, .ref vmik, .ref vmon, .int vosm, .int vohp, .ref vmw, .ref vmf, .ref vmb, .int vomb, .ref vmd, .ref vmc, .int vocm, .int voct, .int vocy, .ref vmx, .int votx, .int vose, .ref vml, .ref vmwr, .int voln, .int vohw, .ref vmno, .int vond, .int voon, .int vowi, .int votop]))] H := hP
        have hD : va_D A [(vmr, .inl (cy 0, 157, .inl vmrf)), (vmt, .inl (cy 0, 940, .inl vmtf)), (vmrn, .inl (cy 1, 17, .inr (.inl vmrnf))), (vo, .inr (12, [.int voth, .ref vmt, .int votp, .int vosz, .int volm, .int voto_28, .int vofr_29, .int vokd_30, .int vonu_33, .int vosg_31, .int vofa_93, .int vopl_94, .long vowd_32, .int votd_44, .ref vmn, .ref vmr, .ref vmk, .ref vms, .ref vma, .ref vmm, .ref vmrn, .ref vmkn, .ref vmik, .ref vmon, .int vosm, .int vohp, .ref vmw, .ref vmf, .ref vmb, .int vomb, .ref vmd, .ref vmc, .int vocm, .int voct, .int vocy, .ref vmx, .int votx, .int vose, .ref vml, .ref vmwr, .int voln, .int vohw, .ref vmno, .int vond, .int voon, .int vowi, .int votop]))] := hD
        have aq_95 := q_95
        · skip
          refine as_i 0 aq_95 ?_
          rw [hQ9]
          exact re_z (voto_28, vofr_29, vokd_30, vosg_31, vowd_32, vonu_33, vofa_93, vopl_94, votd_44, vmrf) hx hb hr hlocks (Or.inl rfl) ⟨(show ((0 : Int32) = 0) ∨ ((0 : Int32) = 1 ∧ ((vokd_30 : Int32).toInt = 0 ∨ (vokd_30 : Int32).toInt = 1 ∨ (voto : Int32).toInt + 1 ≤ (voto_28 : Int32).toInt)) from (Or.inl rfl)), (show 0 ≤ (voto_28 : Int32).toInt ∧ (voto_28 : Int32).toInt ≤ 940 from ⟨by omega, by omega⟩), (show -1 ≤ (votd_44 : Int32).toInt ∧ (votd_44 : Int32).toInt ≤ 999 from ⟨by omega, by omega⟩), (show RD vmrf from p_vmrf), (show (voto : Int32).toInt ≤ (voto_28 : Int32).toInt from (by omega))⟩ (hP.sub [3, 1, 0, 2] rfl) (hD.sub [3, 1, 0, 2] rfl rfl) hS dX11_readDid_73
abbrev cX11_readPair : ByteArray := prog_13_method_36_code
def yX11_readPair : MethodName := ⟨RX11, "readPair", "()I"⟩
theorem t1679 : Cond.code yX11_readPair cX11_readPair 2 (some .int) ∈ GW := gw_mem 1793 (by decide +kernel) (by decide +kernel)
abbrev O_m_readPair (cy : Nat → ClassId) (vo : Nat) (voth : Int32) (vmt : Nat) (votp : Int32) (vosz : Int32) (volm : Int32) (voto : Int32) (vofr : Int32) (vokd : Int32) (vonu : Int32) (vosg : Int32) (vofa : Int32) (vopl : Int32) (vowd : Int64) (votd : Int32) (vmn : Nat) (vmr : Nat) (vmk : Nat) (vms : Nat) (vma : Nat) (vmm : Nat) (vmrn : Nat) (vmkn : Nat) (vmik : Nat) (vmon : Nat) (vosm : Int32) (vohp : Int32) (vmw : Nat) (vmf : Nat) (vmb : Nat) (vomb : Int32) (vmd : Nat) (vmc : Nat) (vocm : Int32) (voct : Int32) (vocy : Int32) (vmx : Nat) (votx : Int32) (vose : Int32) (vml : Nat) (vmwr : Nat) (voln : Int32) (vohw : Int32) (vmno : Nat) (vond : Int32) (voon : Int32) (vowi : Int32) (votop : Int32) (vmtf : Nat → Int32) (vmrf : Nat → Int32) (vmrnf : Nat → Int64) (u : Int32 × Int32 × Int32 × Int32 × Int64 × Int32 × Int32 × Int32 × Int32) : va_W := [(vo, .inr (12, [.int voth, .ref vmt, .int votp, .int vosz, .int volm, .int u.1, .int u.2.1, .int u.2.2.1, .int u.2.2.2.2.2.1, .int u.2.2.2.1, .int u.2.2.2.2.2.2.1, .int u.2.2.2.2.2.2.2.1, .long u.2.2.2.2.1, .int u.2.2.2.2.2.2.2.2, .ref vmn, .ref vmr, .ref vmk, .ref vms, .ref vma, .ref vmm, .ref vmrn, .ref vmkn, .ref vmik, .ref vmon, .int vosm, .int vohp, .ref vmw, .ref vmf, .ref vmb, .int vomb, .ref vmd, .ref vmc, .int vocm, .int voct, .int vocy, .ref vmx, .int votx, .int vose, .ref vml, .ref vmwr, .int voln, .int vohw, .ref vmno, .int vond, .int voon, .int vowi, .int votop])), (vmt, .inl (cy 0, 940, .inl vmtf)), (vmr, .inl (cy 0, 157, .inl vmrf)), (vmrn, .inl (cy 1, 17, .inr (.inl vmrnf)))]
theorem dX11_readPair_0 : decode cX11_readPair 0 = .ok (.aload_n 0, 1) := by decide +kernel
theorem dX11_readPair_1 : decode cX11_readPair 1 = .ok (.invokevirtual 82, 3) := by decide +kernel
theorem dX11_readPair_4 : decode cX11_readPair 4 = .ok (.aload_n 0, 1) := by decide +kernel
theorem dX11_readPair_5 : decode cX11_readPair 5 = .ok (.iconst 0, 1) := by decide +kernel
theorem dX11_readPair_6 : decode cX11_readPair 6 = .ok (.aload_n 0, 1) := by decide +kernel
theorem dX11_readPair_7 : decode cX11_readPair 7 = .ok (.getfield 101, 3) := by decide +kernel
theorem dX11_readPair_10 : decode cX11_readPair 10 = .ok (.iconst 0, 1) := by decide +kernel
theorem dX11_readPair_11 : decode cX11_readPair 11 = .ok (.iaload, 1) := by decide +kernel
theorem dX11_readPair_12 : decode cX11_readPair 12 = .ok (.invokevirtual 188, 3) := by decide +kernel
theorem dX11_readPair_15 : decode cX11_readPair 15 = .ok (.ifCond .ne 5, 3) := by decide +kernel
theorem dX11_readPair_18 : decode cX11_readPair 18 = .ok (.iconst (-1), 1) := by decide +kernel
theorem dX11_readPair_19 : decode cX11_readPair 19 = .ok (.ireturn, 1) := by decide +kernel
theorem dX11_readPair_20 : decode cX11_readPair 20 = .ok (.aload_n 0, 1) := by decide +kernel
theorem dX11_readPair_21 : decode cX11_readPair 21 = .ok (.getfield 79, 3) := by decide +kernel
theorem dX11_readPair_24 : decode cX11_readPair 24 = .ok (.istore_n 1, 1) := by decide +kernel
theorem dX11_readPair_25 : decode cX11_readPair 25 = .ok (.aload_n 0, 1) := by decide +kernel
theorem dX11_readPair_26 : decode cX11_readPair 26 = .ok (.invokevirtual 82, 3) := by decide +kernel
theorem dX11_readPair_29 : decode cX11_readPair 29 = .ok (.aload_n 0, 1) := by decide +kernel
theorem dX11_readPair_30 : decode cX11_readPair 30 = .ok (.iconst 0, 1) := by decide +kernel
theorem dX11_readPair_31 : decode cX11_readPair 31 = .ok (.aload_n 0, 1) := by decide +kernel
theorem dX11_readPair_32 : decode cX11_readPair 32 = .ok (.getfield 101, 3) := by decide +kernel
theorem dX11_readPair_35 : decode cX11_readPair 35 = .ok (.iconst 0, 1) := by decide +kernel
theorem dX11_readPair_36 : decode cX11_readPair 36 = .ok (.iaload, 1) := by decide +kernel
theorem dX11_readPair_37 : decode cX11_readPair 37 = .ok (.invokevirtual 188, 3) := by decide +kernel
theorem dX11_readPair_40 : decode cX11_readPair 40 = .ok (.ifCond .ne 5, 3) := by decide +kernel
theorem dX11_readPair_43 : decode cX11_readPair 43 = .ok (.iconst (-1), 1) := by decide +kernel
theorem dX11_readPair_44 : decode cX11_readPair 44 = .ok (.ireturn, 1) := by decide +kernel
theorem dX11_readPair_45 : decode cX11_readPair 45 = .ok (.aload_n 0, 1) := by decide +kernel
theorem dX11_readPair_46 : decode cX11_readPair 46 = .ok (.getfield 79, 3) := by decide +kernel
theorem dX11_readPair_49 : decode cX11_readPair 49 = .ok (.iload_n 1, 1) := by decide +kernel
theorem dX11_readPair_50 : decode cX11_readPair 50 = .ok (.if_icmp .eq 5, 3) := by decide +kernel
theorem dX11_readPair_55 : decode cX11_readPair 55 = .ok (.aload_n 0, 1) := by decide +kernel
theorem dX11_readPair_56 : decode cX11_readPair 56 = .ok (.iconst 3, 1) := by decide +kernel
theorem dX11_readPair_57 : decode cX11_readPair 57 = .ok (.invokevirtual 72, 3) := by decide +kernel
theorem dX11_readPair_60 : decode cX11_readPair 60 = .ok (.pop, 1) := by decide +kernel
theorem dX11_readPair_61 : decode cX11_readPair 61 = .ok (.iconst (-1), 1) := by decide +kernel
theorem dX11_readPair_62 : decode cX11_readPair 62 = .ok (.ireturn, 1) := by decide +kernel
theorem dX11_readPair_53 : decode cX11_readPair 53 = .ok (.iload_n 1, 1) := by decide +kernel
theorem dX11_readPair_54 : decode cX11_readPair 54 = .ok (.ireturn, 1) := by decide +kernel
set_option maxHeartbeats 4000000 in
set_option maxRecDepth 100000 in
theorem m_readPair (l : Launch) (dC : Nat → ClassId) (dI : Nat → Nat → Nat) (cy : Nat → ClassId) (sz : Nat) (vo : Nat) (voth : Int32) (vmt : Nat) (votp : Int32) (vosz : Int32) (volm : Int32) (voto : Int32) (vofr : Int32) (vokd : Int32) (vonu : Int32) (vosg : Int32) (vofa : Int32) (vopl : Int32) (vowd : Int64) (votd : Int32) (vmn : Nat) (vmr : Nat) (vmk : Nat) (vms : Nat) (vma : Nat) (vmm : Nat) (vmrn : Nat) (vmkn : Nat) (vmik : Nat) (vmon : Nat) (vosm : Int32) (vohp : Int32) (vmw : Nat) (vmf : Nat) (vmb : Nat) (vomb : Int32) (vmd : Nat) (vmc : Nat) (vocm : Int32) (voct : Int32) (vocy : Int32) (vmx : Nat) (votx : Int32) (vose : Int32) (vml : Nat) (vmwr : Nat) (voln : Int32) (vohw : Int32) (vmno : Nat) (vond : Int32) (voon : Int32) (vowi : Int32) (votop : Int32) (vmtf : Nat → Int32) (vmrf : Nat → Int32) (vmrnf : Nat → Int64) (r_vosz : 0 ≤ (vosz : Int32).toInt ∧ (vosz : Int32).toInt ≤ 940) (r_voto : 0 ≤ (voto : Int32).toInt ∧ (voto : Int32).toInt ≤ 940) (r_votd : -1 ≤ (votd : Int32).toInt ∧ (votd : Int32).toInt ≤ 999) (p_vmtf : Rg vmtf 940 0 255) (p_vmrf : RD vmrf) : Met l yX11_readPair (wl yX11_readPair cX11_readPair 2 (some .int)) ({ frames := 4, cells := 0, slots := 0, locals := 256 }) (Pw (dC, dI) vwCl cy [(vo, .inr (12, [.int voth, .ref vmt, .int votp, .int vosz, .int volm, .int voto, .int vofr, .int vokd, .int vonu, .int vosg, .int vofa, .int vopl, .long vowd, .int votd, .ref vmn, .ref vmr, .ref vmk, .ref vms, .ref vma, .ref vmm, .ref vmrn, .ref vmkn, .ref vmik, .ref vmon, .int vosm, .int vohp, .ref vmw, .ref vmf, .ref vmb, .int vomb, .ref vmd, .ref vmc, .int vocm, .int voct, .int vocy, .ref vmx, .int votx, .int vose, .ref vml, .ref vmwr, .int voln, .int vohw, .ref vmno, .int vond, .int voon, .int vowi, .int votop])), (vmt, .inl (cy 0, 940, .inl vmtf)), (vmr, .inl (cy 0, 157, .inl vmrf)), (vmrn, .inl (cy 1, 17, .inr (.inl vmrnf)))] sz [.ref vo] nE) (Qi (dC, dI) vwCl (fun (r : Int32) (u : Int32 × Int32 × Int32 × Int32 × Int64 × Int32 × Int32 × Int32 × Int32) => (-1 ≤ (r : Int32).toInt ∧ (r : Int32).toInt ≤ 6) ∧ (0 ≤ (u.1 : Int32).toInt ∧ (u.1 : Int32).toInt ≤ 940) ∧ (-1 ≤ (u.2.2.2.2.2.2.2.2 : Int32).toInt ∧ (u.2.2.2.2.2.2.2.2 : Int32).toInt ≤ 999) ∧ ((voto : Int32).toInt ≤ (u.1 : Int32).toInt) ∧ (((r : Int32).toInt = -1) ∨ (0 ≤ (r : Int32).toInt ∧ 0 ≤ (u.2.2.2.2.2.2.2.2 : Int32).toInt ∧ (u.2.2.2.2.2.2.2.2 : Int32).toInt ≤ 6))) (O_m_readPair cy vo voth vmt votp vosz volm voto vofr vokd vonu vosg vofa vopl vowd votd vmn vmr vmk vms vma vmm vmrn vmkn vmik vmon vosm vohp vmw vmf vmb vomb vmd vmc vocm voct vocy vmx votx vose vml vmwr voln vohw vmno vond voon vowi votop vmtf vmrf vmrnf) (va_A [(vo, .inr (12, [.int voth, .ref vmt, .int votp, .int vosz, .int volm, .int voto, .int vofr, .int vokd, .int vonu, .int vosg, .int vofa, .int vopl, .long vowd, .int votd, .ref vmn, .ref vmr, .ref vmk, .ref vms, .ref vma, .ref vmm, .ref vmrn, .ref vmkn, .ref vmik, .ref vmon, .int vosm, .int vohp, .ref vmw, .ref vmf, .ref vmb, .int vomb, .ref vmd, .ref vmc, .int vocm, .int voct, .int vocy, .ref vmx, .int votx, .int vose, .ref vml, .ref vmwr, .int voln, .int vohw, .ref vmno, .int vond, .int voon, .int vowi, .int votop])), (vmt, .inl (cy 0, 940, .inl vmtf)), (vmr, .inl (cy 0, 157, .inl vmrf)), (vmrn, .inl (cy 1, 17, .inr (.inl vmrnf)))] sz)) 0 0 (va_A [(vo, .inr (12, [.int voth, .ref vmt, .int votp, .int vosz, .int volm, .int voto, .int vofr, .int vokd, .int vonu, .int vosg, .int vofa, .int vopl, .long vowd, .int votd, .ref vmn, .ref vmr, .ref vmk, .ref vms, .ref vma, .ref vmm, .ref vmrn, .ref vmkn, .ref vmik, .ref vmon, .int vosm, .int vohp, .ref vmw, .ref vmf, .ref vmb, .int vomb, .ref vmd, .ref vmc, .int vocm, .int voct, .int vocy, .ref vmx, .int votx, .int vose, .ref vml, .ref vmwr, .int voln, .int vohw, .ref vmno, .int vond, .int voon, .int vowi, .int votop])), (vmt, .inl (cy 0, 940, .inl vmtf)), (vmr, .inl (cy 0, 157, .inl vmrf)), (vmrn, .inl (cy 1, 17, .inr (.inl vmrnf)))] sz) := by
  refine mw (Qc := Qi (dC, dI) vwCl (fun (r : Int32) (u : Int32 × Int32 × Int32 × Int32 × Int64 × Int32 × Int32 × Int32 × Int32) => (-1 ≤ (r : Int32).toInt ∧ (r : Int32).toInt ≤ 6) ∧ (0 ≤ (u.1 : Int32).toInt ∧ (u.1 : Int32).toInt ≤ 940) ∧ (-1 ≤ (u.2.2.2.2.2.2.2.2 : Int32).toInt ∧ (u.2.2.2.2.2.2.2.2 : Int32).toInt ≤ 999) ∧ ((voto : Int32).toInt ≤ (u.1 : Int32).toInt) ∧ (((r : Int32).toInt = -1) ∨ (0 ≤ (r : Int32).toInt ∧ 0 ≤ (u.2.2.2.2.2.2.2.2 : Int32).toInt ∧ (u.2.2.2.2.2.2.2.2 : Int32).toInt ≤ 6))) (O_m_readPair cy vo voth vmt votp vosz volm voto vofr vokd vonu vosg vofa vopl vowd votd vmn vmr vmk vms vma vmm vmrn vmkn vmik vmon vosm vohp vmw vmf vmb vomb vmd vmc vocm voct vocy vmx votx vose vml vmwr voln vohw vmno vond voon vowi votop vmtf vmrf vmrnf)) RX11 rfl (by decide +kernel) (Nat.le_of_ble_eq_true rfl) ?_
  intro p e s m below meth c A hx hb hr hlocks av9 hav hts hown hnm hml hK hP hD hA hS hE hAe Q9 hQ9 ls hl
  have hl : lv_has ls 2 [(0, .ref vo)] := hl
  refine lv_aload_n hx hb dX11_readPair_0 rfl (lv_at hl 0 rfl) ?_
  refine jn_v (wr := [(vmr, .inl (cy 0, 157, .inl vmrf)), (vmrn, .inl (cy 1, 17, .inr (.inl vmrnf)))]) (rV (As := []) (rest := []) (ci := 12) ⟨hx, hb, hml, hown, hts⟩ (m_go l dC dI cy _ vo voth vmt votp vosz volm voto vofr vokd vonu vosg vofa vopl vowd votd vmn vmr vmk vms vma vmm vmrn vmkn vmik vmon vosm vohp vmw vmf vmb vomb vmd vmc vocm voct vocy vmx votx vose vml vmwr voln vohw vmno vond voon vowi votop vmtf r_vosz r_voto p_vmtf) (cw_X11_82 hts rfl rfl ⟨Nat.le_of_ble_eq_true rfl, Nat.le_of_ble_eq_true rfl⟩) hP hD hK [0, 1] rfl rfl rfl rfl bl0 e0 rfl hl.1 rfl (Nat.le_of_ble_eq_true rfl) dX11_readPair_1 ⟨Nat.le_of_ble_eq_true rfl, Nat.le_of_ble_eq_true rfl⟩) hP hD hS hA [0, 1] [2, 3] rfl rfl rfl (by decide) (fun u_3 H locs hp_2 hP hD hS => ?_)
  obtain ⟨voto_4, vofr_5, vokd_6, vosg_7, vowd_8, vonu_9⟩ := u_3
  have hp_2 : (0 ≤ (voto_4 : Int32).toInt ∧ (voto_4 : Int32).toInt ≤ 940) ∧ ((voto : Int32).toInt ≤ (voto_4 : Int32).toInt) ∧ (((vokd_6 : Int32).toInt = 0 ∨ (vokd_6 : Int32).toInt = 1 ∨ (voto : Int32).toInt + 1 ≤ (voto_4 : Int32).toInt)) := hp_2
  obtain ⟨q_10, q_11, q_12⟩ := hp_2
  have hP : va_P (dC, dI) vwCl [(vmr, .inl (cy 0, 157, .inl vmrf)), (vmrn, .inl (cy 1, 17, .inr (.inl vmrnf))), (vo, .inr (12, [.int voth, .ref vmt, .int votp, .int vosz, .int volm, .int voto_4, .int vofr_5, .int vokd_6, .int vonu_9, .int vosg_7, .int vofa, .int vopl, .long vowd_8, .int votd, .ref vmn, .ref vmr, .ref vmk, .ref vms, .ref vma, .ref vmm, .ref vmrn, .ref vmkn, .ref vmik, .ref vmon, .int vosm, .int vohp, .ref vmw, .ref vmf, .ref vmb, .int vomb, .ref vmd, .ref vmc, .int vocm, .int voct, .int vocy, .ref vmx, .int votx, .int vose, .ref vml, .ref vmwr, .int voln, .int vohw, .ref vmno, .int vond, .int voon, .int vowi, .int votop])), (vmt, .inl (cy 0, 940, .inl vmtf))] H := hP
  have hD : va_D A [(vmr, .inl (cy 0, 157, .inl vmrf)), (vmrn, .inl (cy 1, 17, .inr (.inl vmrnf))), (vo, .inr (12, [.int voth, .ref vmt, .int votp, .int vosz, .int volm, .int voto_4, .int vofr_5, .int vokd_6, .int vonu_9, .int vosg_7, .int vofa, .int vopl, .long vowd_8, .int votd, .ref vmn, .ref vmr, .ref vmk, .ref vms, .ref vma, .ref vmm, .ref vmrn, .ref vmkn, .ref vmik, .ref vmon, .int vosm, .int vohp, .ref vmw, .ref vmf, .ref vmb, .int vomb, .ref vmd, .ref vmc, .int vocm, .int voct, .int vocy, .ref vmx, .int votx, .int vose, .ref vml, .ref vmwr, .int voln, .int vohw, .ref vmno, .int vond, .int voon, .int vowi, .int votop])), (vmt, .inl (cy 0, 940, .inl vmtf))] := hD
  refine lv_aload_n hx hb dX11_readPair_4 rfl (lv_at hl 0 rfl) ?_
  refine lv_iconst (v := 0) hx hb dX11_readPair_5 (by decide) ?_
  refine lv_aload_n hx hb dX11_readPair_6 rfl (lv_at hl 0 rfl) ?_
  refine gf_X11_101 hx hb hts hown hK hP 2 rfl rfl dX11_readPair_7 ?_
  refine lv_iconst (v := 0) hx hb dX11_readPair_10 (by decide) ?_
  have k_0 : (0 : Int32).toInt = 0 := by decide
  have hin_13 : vp_in (0 : Int32) 157 := vp_in_iff.mpr ⟨by omega, by omega⟩
  refine va_iald hx hb hK hP 0 0 rfl rfl hin_13 dX11_readPair_11 ?_
  refine lv_topi (fun z_14 ez_14 => ?_)
  have bz_14 := p_vmrf.a0 (x := 0) ⟨by omega, by omega⟩ ez_14
  have tz_14 : z_14.toInt = (vmrf 0).toInt := by rw [ez_14]; rfl
  refine jn_i (wr := [(vmr, .inl (cy 0, 157, .inl vmrf)), (vmt, .inl (cy 0, 940, .inl vmtf))]) (rV (As := [.int 0, .int z_14]) (rest := []) (ci := 12) ⟨hx, hb, hml, hown, hts⟩ (m_isOne l dC dI cy _ vo voth vmt votp vosz volm voto_4 vofr_5 vokd_6 vonu_9 vosg_7 vofa vopl vowd_8 votd vmn vmr vmk vms vma vmm vmrn vmkn vmik vmon vosm vohp vmw vmf vmb vomb vmd vmc vocm voct vocy vmx votx vose vml vmwr voln vohw vmno vond voon vowi votop vmrnf 0 z_14 r_votd ⟨by omega, by omega⟩ ⟨by omega, by omega⟩ (by omega)) (cw_X11_188 hts rfl rfl ⟨Nat.le_of_ble_eq_true rfl, Nat.le_of_ble_eq_true rfl⟩) hP hD hK [2, 1] rfl rfl rfl rfl bl0 e0 rfl hl.1 rfl (Nat.le_of_ble_eq_true rfl) dX11_readPair_12 ⟨Nat.le_of_ble_eq_true rfl, Nat.le_of_ble_eq_true rfl⟩) hP hD hS hA [2, 1] [0, 3] rfl rfl rfl (by decide) (fun r_15 u_17 H locs hp_16 hP hD hS => ?_)
  obtain ⟨vofa_18, vopl_19, votd_20⟩ := u_17
  have hp_16 : ((r_15 = 0) ∨ (r_15 = 1 ∧ 0 ≤ (votd_20 : Int32).toInt ∧ (votd_20 : Int32).toInt < (z_14 : Int32).toInt)) ∧ (-1 ≤ (votd_20 : Int32).toInt ∧ (votd_20 : Int32).toInt ≤ 999) := hp_16
  obtain ⟨q_21, q_22⟩ := hp_16
  have hP : va_P (dC, dI) vwCl [(vmr, .inl (cy 0, 157, .inl vmrf)), (vmt, .inl (cy 0, 940, .inl vmtf)), (vo, .inr (12, [.int voth, .ref vmt, .int votp, .int vosz, .int volm, .int voto_4, .int vofr_5, .int vokd_6, .int vonu_9, .int vosg_7, .int vofa_18, .int vopl_19, .long vowd_8, .int votd_20, .ref vmn, .ref vmr, .ref vmk, .ref vms, .ref vma, .ref vmm, .ref vmrn, .ref vmkn, .ref vmik, .ref vmon, .int vosm, .int vohp, .ref vmw, .ref vmf, .ref vmb, .int vomb, .ref vmd, .ref vmc, .int vocm, .int voct, .int vocy, .ref vmx, .int votx, .int vose, .ref vml, .ref vmwr, .int voln, .int vohw, .ref vmno, .int vond, .int voon, .int vowi, .int votop])), (vmrn, .inl (cy 1, 17, .inr (.inl vmrnf)))] H := hP
  have hD : va_D A [(vmr, .inl (cy 0, 157, .inl vmrf)), (vmt, .inl (cy 0, 940, .inl vmtf)), (vo, .inr (12, [.int voth, .ref vmt, .int votp, .int vosz, .int volm, .int voto_4, .int vofr_5, .int vokd_6, .int vonu_9, .int vosg_7, .int vofa_18, .int vopl_19, .long vowd_8, .int votd_20, .ref vmn, .ref vmr, .ref vmk, .ref vms, .ref vma, .ref vmm, .ref vmrn, .ref vmkn, .ref vmik, .ref vmon, .int vosm, .int vohp, .ref vmw, .ref vmf, .ref vmb, .int vomb, .ref vmd, .ref vmc, .int vocm, .int voct, .int vocy, .ref vmx, .int votx, .int vose, .ref vml, .ref vmwr, .int voln, .int vohw, .ref vmno, .int vond, .int voon, .int vowi, .int votop])), (vmrn, .inl (cy 1, 17, .inr (.inl vmrnf)))] := hD
  rcases q_21 with aq_21 | ⟨aq_21, f0q_21, f1q_21⟩
  · skip
    refine as_i 0 aq_21 ?_
    refine lv_if_ne (tgt := 20) hx hb dX11_readPair_15 (by decide) (fun c9 => absurd c9 (by decide)) (fun _ => ?_)
    refine lv_iconst (v := (-1)) hx hb dX11_readPair_18 (by decide) ?_
    have k_m1 : ((-1) : Int32).toInt = (-1) := by decide
    rw [hQ9]
    exact re_i (voto_4, vofr_5, vokd_6, vosg_7, vowd_8, vonu_9, vofa_18, vopl_19, votd_20) hx hb hr hlocks ⟨(show -1 ≤ (((-1) : Int32) : Int32).toInt ∧ (((-1) : Int32) : Int32).toInt ≤ 6 from ⟨by omega, by omega⟩), (show 0 ≤ (voto_4 : Int32).toInt ∧ (voto_4 : Int32).toInt ≤ 940 from ⟨by omega, by omega⟩), (show -1 ≤ (votd_20 : Int32).toInt ∧ (votd_20 : Int32).toInt ≤ 999 from ⟨by omega, by omega⟩), (show (voto : Int32).toInt ≤ (voto_4 : Int32).toInt from q_11), (show ((((-1) : Int32) : Int32).toInt = -1) ∨ (0 ≤ (((-1) : Int32) : Int32).toInt ∧ 0 ≤ (votd_20 : Int32).toInt ∧ (votd_20 : Int32).toInt ≤ 6) from (by omega))⟩ (hP.sub [2, 1, 0, 3] rfl) (hD.sub [2, 1, 0, 3] rfl rfl) hS dX11_readPair_19
  · skip
    refine as_i 1 aq_21 ?_
    refine lv_if_ne (tgt := 20) hx hb dX11_readPair_15 (by decide) (fun _ => ?_) (fun c9 => absurd c9 (by decide))
    refine lv_aload_n hx hb dX11_readPair_20 rfl (lv_at hl 0 rfl) ?_
    refine gf_X11_79 hx hb hts hown hK hP 2 rfl rfl dX11_readPair_21 ?_
    refine lv_istore_n (lv' := [(1, .int votd_20), (0, .ref vo)]) hx hb dX11_readPair_24 rfl hl (by decide) rfl (fun ls hl => ?_)
    refine lv_aload_n hx hb dX11_readPair_25 rfl (lv_at hl 1 rfl) ?_
    refine jn_v (wr := [(vmr, .inl (cy 0, 157, .inl vmrf)), (vmrn, .inl (cy 1, 17, .inr (.inl vmrnf)))]) (rV (As := []) (rest := []) (ci := 12) ⟨hx, hb, hml, hown, hts⟩ (m_go l dC dI cy _ vo voth vmt votp vosz volm voto_4 vofr_5 vokd_6 vonu_9 vosg_7 vofa_18 vopl_19 vowd_8 votd_20 vmn vmr vmk vms vma vmm vmrn vmkn vmik vmon vosm vohp vmw vmf vmb vomb vmd vmc vocm voct vocy vmx votx vose vml vmwr voln vohw vmno vond voon vowi votop vmtf r_vosz ⟨by omega, by omega⟩ p_vmtf) (cw_X11_82 hts rfl rfl ⟨Nat.le_of_ble_eq_true rfl, Nat.le_of_ble_eq_true rfl⟩) hP hD hK [2, 1] rfl rfl rfl rfl bl0 e0 rfl hl.1 rfl (Nat.le_of_ble_eq_true rfl) dX11_readPair_26 ⟨Nat.le_of_ble_eq_true rfl, Nat.le_of_ble_eq_true rfl⟩) hP hD hS hA [2, 1] [0, 3] rfl rfl rfl (by decide) (fun u_25 H locs hp_24 hP hD hS => ?_)
    obtain ⟨voto_26, vofr_27, vokd_28, vosg_29, vowd_30, vonu_31⟩ := u_25
    have hp_24 : (0 ≤ (voto_26 : Int32).toInt ∧ (voto_26 : Int32).toInt ≤ 940) ∧ ((voto_4 : Int32).toInt ≤ (voto_26 : Int32).toInt) ∧ (((vokd_28 : Int32).toInt = 0 ∨ (vokd_28 : Int32).toInt = 1 ∨ (voto_4 : Int32).toInt + 1 ≤ (voto_26 : Int32).toInt)) := hp_24
    obtain ⟨q_32, q_33, q_34⟩ := hp_24
    have hP : va_P (dC, dI) vwCl [(vmr, .inl (cy 0, 157, .inl vmrf)), (vmrn, .inl (cy 1, 17, .inr (.inl vmrnf))), (vo, .inr (12, [.int voth, .ref vmt, .int votp, .int vosz, .int volm, .int voto_26, .int vofr_27, .int vokd_28, .int vonu_31, .int vosg_29, .int vofa_18, .int vopl_19, .long vowd_30, .int votd_20, .ref vmn, .ref vmr, .ref vmk, .ref vms, .ref vma, .ref vmm, .ref vmrn, .ref vmkn, .ref vmik, .ref vmon, .int vosm, .int vohp, .ref vmw, .ref vmf, .ref vmb, .int vomb, .ref vmd, .ref vmc, .int vocm, .int voct, .int vocy, .ref vmx, .int votx, .int vose, .ref vml, .ref vmwr, .int voln, .int vohw, .ref vmno, .int vond, .int voon, .int vowi, .int votop])), (vmt, .inl (cy 0, 940, .inl vmtf))] H := hP
    have hD : va_D A [(vmr, .inl (cy 0, 157, .inl vmrf)), (vmrn, .inl (cy 1, 17, .inr (.inl vmrnf))), (vo, .inr (12, [.int voth, .ref vmt, .int votp, .int vosz, .int volm, .int voto_26, .int vofr_27, .int vokd_28, .int vonu_31, .int vosg_29, .int vofa_18, .int vopl_19, .long vowd_30, .int votd_20, .ref vmn, .ref vmr, .ref vmk, .ref vms, .ref vma, .ref vmm, .ref vmrn, .ref vmkn, .ref vmik, .ref vmon, .int vosm, .int vohp, .ref vmw, .ref vmf, .ref vmb, .int vomb, .ref vmd, .ref vmc, .int vocm, .int voct, .int vocy, .ref vmx, .int votx, .int vose, .ref vml, .ref vmwr, .int voln, .int vohw, .ref vmno, .int vond, .int voon, .int vowi, .int votop])), (vmt, .inl (cy 0, 940, .inl vmtf))] := hD
    refine lv_aload_n hx hb dX11_readPair_29 rfl (lv_at hl 1 rfl) ?_
    refine lv_iconst (v := 0) hx hb dX11_readPair_30 (by decide) ?_
    refine lv_aload_n hx hb dX11_readPair_31 rfl (lv_at hl 1 rfl) ?_
    refine gf_X11_101 hx hb hts hown hK hP 2 rfl rfl dX11_readPair_32 ?_
    refine lv_iconst (v := 0) hx hb dX11_readPair_35 (by decide) ?_
    have hin_35 : vp_in (0 : Int32) 157 := vp_in_iff.mpr ⟨by omega, by omega⟩
    refine va_iald hx hb hK hP 0 0 rfl rfl hin_35 dX11_readPair_36 ?_
    refine lv_topi (fun z_36 ez_36 => ?_)
    have bz_36 := p_vmrf.a0 (x := 0) ⟨by omega, by omega⟩ ez_36
    have tz_36 : z_36.toInt = (vmrf 0).toInt := by rw [ez_36]; rfl
    refine jn_i (wr := [(vmr, .inl (cy 0, 157, .inl vmrf)), (vmt, .inl (cy 0, 940, .inl vmtf))]) (rV (As := [.int 0, .int z_36]) (rest := []) (ci := 12) ⟨hx, hb, hml, hown, hts⟩ (m_isOne l dC dI cy _ vo voth vmt votp vosz volm voto_26 vofr_27 vokd_28 vonu_31 vosg_29 vofa_18 vopl_19 vowd_30 votd_20 vmn vmr vmk vms vma vmm vmrn vmkn vmik vmon vosm vohp vmw vmf vmb vomb vmd vmc vocm voct vocy vmx votx vose vml vmwr voln vohw vmno vond voon vowi votop vmrnf 0 z_36 ⟨by omega, by omega⟩ ⟨by omega, by omega⟩ ⟨by omega, by omega⟩ (by omega)) (cw_X11_188 hts rfl rfl ⟨Nat.le_of_ble_eq_true rfl, Nat.le_of_ble_eq_true rfl⟩) hP hD hK [2, 1] rfl rfl rfl rfl bl0 e0 rfl hl.1 rfl (Nat.le_of_ble_eq_true rfl) dX11_readPair_37 ⟨Nat.le_of_ble_eq_true rfl, Nat.le_of_ble_eq_true rfl⟩) hP hD hS hA [2, 1] [0, 3] rfl rfl rfl (by decide) (fun r_37 u_39 H locs hp_38 hP hD hS => ?_)
    obtain ⟨vofa_40, vopl_41, votd_42⟩ := u_39
    have hp_38 : ((r_37 = 0) ∨ (r_37 = 1 ∧ 0 ≤ (votd_42 : Int32).toInt ∧ (votd_42 : Int32).toInt < (z_36 : Int32).toInt)) ∧ (-1 ≤ (votd_42 : Int32).toInt ∧ (votd_42 : Int32).toInt ≤ 999) := hp_38
    obtain ⟨q_43, q_44⟩ := hp_38
    have hP : va_P (dC, dI) vwCl [(vmr, .inl (cy 0, 157, .inl vmrf)), (vmt, .inl (cy 0, 940, .inl vmtf)), (vo, .inr (12, [.int voth, .ref vmt, .int votp, .int vosz, .int volm, .int voto_26, .int vofr_27, .int vokd_28, .int vonu_31, .int vosg_29, .int vofa_40, .int vopl_41, .long vowd_30, .int votd_42, .ref vmn, .ref vmr, .ref vmk, .ref vms, .ref vma, .ref vmm, .ref vmrn, .ref vmkn, .ref vmik, .ref vmon, .int vosm, .int vohp, .ref vmw, .ref vmf, .ref vmb, .int vomb, .ref vmd, .ref vmc, .int vocm, .int voct, .int vocy, .ref vmx, .int votx, .int vose, .ref vml, .ref vmwr, .int voln, .int vohw, .ref vmno, .int vond, .int voon, .int vowi, .int votop])), (vmrn, .inl (cy 1, 17, .inr (.inl vmrnf)))] H := hP
    have hD : va_D A [(vmr, .inl (cy 0, 157, .inl vmrf)), (vmt, .inl (cy 0, 940, .inl vmtf)), (vo, .inr (12, [.int voth, .ref vmt, .int votp, .int vosz, .int volm, .int voto_26, .int vofr_27, .int vokd_28, .int vonu_31, .int vosg_29, .int vofa_40, .int vopl_41, .long vowd_30, .int votd_42, .ref vmn, .ref vmr, .ref vmk, .ref vms, .ref vma, .ref vmm, .ref vmrn, .ref vmkn, .ref vmik, .ref vmon, .int vosm, .int vohp, .ref vmw, .ref vmf, .ref vmb, .int vomb, .ref vmd, .ref vmc, .int vocm, .int voct, .int vocy, .ref vmx, .int votx, .int vose, .ref vml, .ref vmwr, .int voln, .int vohw, .ref vmno, .int vond, .int voon, .int vowi, .int votop])), (vmrn, .inl (cy 1, 17, .inr (.inl vmrnf)))] := hD
    rcases q_43 with aq_43 | ⟨aq_43, f0q_43, f1q_43⟩
    · skip
      refine as_i 0 aq_43 ?_
      refine lv_if_ne (tgt := 45) hx hb dX11_readPair_40 (by decide) (fun c9 => absurd c9 (by decide)) (fun _ => ?_)
      refine lv_iconst (v := (-1)) hx hb dX11_readPair_43 (by decide) ?_
      have k_m1 : ((-1) : Int32).toInt = (-1) := by decide
      rw [hQ9]
      exact re_i (voto_26, vofr_27, vokd_28, vosg_29, vowd_30, vonu_31, vofa_40, vopl_41, votd_42) hx hb hr hlocks ⟨(show -1 ≤ (((-1) : Int32) : Int32).toInt ∧ (((-1) : Int32) : Int32).toInt ≤ 6 from ⟨by omega, by omega⟩), (show 0 ≤ (voto_26 : Int32).toInt ∧ (voto_26 : Int32).toInt ≤ 940 from ⟨by omega, by omega⟩), (show -1 ≤ (votd_42 : Int32).toInt ∧ (votd_42 : Int32).toInt ≤ 999 from ⟨by omega, by omega⟩), (show (voto : Int32).toInt ≤ (voto_26 : Int32).toInt from (by omega)), (show ((((-1) : Int32) : Int32).toInt = -1) ∨ (0 ≤ (((-1) : Int32) : Int32).toInt ∧ 0 ≤ (votd_42 : Int32).toInt ∧ (votd_42 : Int32).toInt ≤ 6) from (by omega))⟩ (hP.sub [2, 1, 0, 3] rfl) (hD.sub [2, 1, 0, 3] rfl rfl) hS dX11_readPair_44
    · skip
      refine as_i 1 aq_43 ?_
      refine lv_if_ne (tgt := 45) hx hb dX11_readPair_40 (by decide) (fun _ => ?_) (fun c9 => absurd c9 (by decide))
      refine lv_aload_n hx hb dX11_readPair_45 rfl (lv_at hl 1 rfl) ?_
      refine gf_X11_79 hx hb hts hown hK hP 2 rfl rfl dX11_readPair_46 ?_
      refine lv_iload_n hx hb dX11_readPair_49 rfl (lv_at hl 0 rfl) ?_
      refine lv_icmp_eq (tgt := 55) hx hb dX11_readPair_50 (by decide) (fun c_45 => ?_) (fun c_45 => ?_)
      · skip
        have c_45 : votd_42.toInt = votd_20.toInt := i_eq.mp c_45
        refine lv_aload_n hx hb dX11_readPair_55 rfl (lv_at hl 1 rfl) ?_
        refine lv_iconst (v := 3) hx hb dX11_readPair_56 (by decide) ?_
        have k_3 : (3 : Int32).toInt = 3 := by decide
        refine jn_i (wr := [(vmr, .inl (cy 0, 157, .inl vmrf)), (vmt, .inl (cy 0, 940, .inl vmtf)), (vmrn, .inl (cy 1, 17, .inr (.inl vmrnf)))]) (rV (As := [.int 3]) (rest := []) (ci := 12) ⟨hx, hb, hml, hown, hts⟩ (m_bad l dC dI cy _ vo voth vmt votp vosz volm voto_26 vofr_27 vokd_28 vonu_31 vosg_29 vofa_40 vopl_41 vowd_30 votd_42 vmn vmr vmk vms vma vmm vmrn vmkn vmik vmon vosm vohp vmw vmf vmb vomb vmd vmc vocm voct vocy vmx votx vose vml vmwr voln vohw vmno vond voon vowi votop 3 ) (cw_X11_72 hts rfl rfl ⟨Nat.le_of_ble_eq_true rfl, Nat.le_of_ble_eq_true rfl⟩) hP hD hK [2] rfl rfl rfl rfl bl0 e0 rfl hl.1 rfl (Nat.le_of_ble_eq_true rfl) dX11_readPair_57 ⟨Nat.le_of_ble_eq_true rfl, Nat.le_of_ble_eq_true rfl⟩) hP hD hS hA [2] [0, 1, 3] rfl rfl rfl (by decide) (fun r_46 u_48 H locs hp_47 hP hD hS => ?_)
        obtain ⟨vofa_49, vopl_50⟩ := u_48
        have hp_47 : ((r_46 = 0)) := hp_47
        have q_51 := hp_47
        have hP : va_P (dC, dI) vwCl [(vmr, .inl (cy 0, 157, .inl vmrf)), (vmt, .inl (cy 0, 940, .inl vmtf)), (vmrn, .inl (cy 1, 17, .inr (.inl vmrnf))), (vo, .inr (12, [.int voth, .ref vmt, .int votp, .int vosz, .int volm, .int voto_26, .int vofr_27, .int vokd_28, .int vonu_31, .int vosg_29, .int vofa_49, .int vopl_50, .long vowd_30, .int votd_42, .ref vmn, .ref vmr, .ref vmk, .ref vms, .ref vma, .ref vmm, .ref vmrn, .ref vmkn, .ref vmik, .ref vmon, .int vosm, .int vohp, .ref vmw, .ref vmf, .ref vmb, .int vomb, .ref vmd, .ref vmc, .int vocm, .int voct, .int vocy, .ref vmx, .int votx, .int vose, .ref vml, .ref vmwr, .int voln, .int vohw, .ref vmno, .int vond, .int voon, .int vowi, .int votop]))] H := hP
        have hD : va_D A [(vmr, .inl (cy 0, 157, .inl vmrf)), (vmt, .inl (cy 0, 940, .inl vmtf)), (vmrn, .inl (cy 1, 17, .inr (.inl vmrnf))), (vo, .inr (12, [.int voth, .ref vmt, .int votp, .int vosz, .int volm, .int voto_26, .int vofr_27, .int vokd_28, .int vonu_31, .int vosg_29, .int vofa_49, .int vopl_50, .long vowd_30, .int votd_42, .ref vmn, .ref vmr, .ref vmk, .ref vms, .ref vma, .ref vmm, .ref vmrn, .ref vmkn, .ref vmik, .ref vmon, .int vosm, .int vohp, .ref vmw, .ref vmf, .ref vmb, .int vomb, .ref vmd, .ref vmc, .int vocm, .int voct, .int vocy, .ref vmx, .int votx, .int vose, .ref vml, .ref vmwr, .int voln, .int vohw, .ref vmno, .int vond, .int voon, .int vowi, .int votop]))] := hD
        have aq_51 := q_51
        · skip
          refine as_i 0 aq_51 ?_
          refine lv_pop hx hb dX11_readPair_60 rfl ?_
          refine lv_iconst (v := (-1)) hx hb dX11_readPair_61 (by decide) ?_
          have k_m1 : ((-1) : Int32).toInt = (-1) := by decide
          rw [hQ9]
          exact re_i (voto_26, vofr_27, vokd_28, vosg_29, vowd_30, vonu_31, vofa_49, vopl_50, votd_42) hx hb hr hlocks ⟨(show -1 ≤ (((-1) : Int32) : Int32).toInt ∧ (((-1) : Int32) : Int32).toInt ≤ 6 from ⟨by omega, by omega⟩), (show 0 ≤ (voto_26 : Int32).toInt ∧ (voto_26 : Int32).toInt ≤ 940 from ⟨by omega, by omega⟩), (show -1 ≤ (votd_42 : Int32).toInt ∧ (votd_42 : Int32).toInt ≤ 999 from ⟨by omega, by omega⟩), (show (voto : Int32).toInt ≤ (voto_26 : Int32).toInt from (by omega)), (show ((((-1) : Int32) : Int32).toInt = -1) ∨ (0 ≤ (((-1) : Int32) : Int32).toInt ∧ 0 ≤ (votd_42 : Int32).toInt ∧ (votd_42 : Int32).toInt ≤ 6) from (by omega))⟩ (hP.sub [3, 1, 0, 2] rfl) (hD.sub [3, 1, 0, 2] rfl rfl) hS dX11_readPair_62
      · skip
        have c_45 : ¬ (votd_42.toInt = votd_20.toInt) := fun h9 => c_45 (i_eq.mpr h9)
        refine lv_iload_n hx hb dX11_readPair_53 rfl (lv_at hl 0 rfl) ?_
        rw [hQ9]
        exact re_i (voto_26, vofr_27, vokd_28, vosg_29, vowd_30, vonu_31, vofa_40, vopl_41, votd_42) hx hb hr hlocks ⟨(show -1 ≤ (votd_20 : Int32).toInt ∧ (votd_20 : Int32).toInt ≤ 6 from ⟨by omega, by omega⟩), (show 0 ≤ (voto_26 : Int32).toInt ∧ (voto_26 : Int32).toInt ≤ 940 from ⟨by omega, by omega⟩), (show -1 ≤ (votd_42 : Int32).toInt ∧ (votd_42 : Int32).toInt ≤ 999 from ⟨by omega, by omega⟩), (show (voto : Int32).toInt ≤ (voto_26 : Int32).toInt from (by omega)), (show ((votd_20 : Int32).toInt = -1) ∨ (0 ≤ (votd_20 : Int32).toInt ∧ 0 ≤ (votd_42 : Int32).toInt ∧ (votd_42 : Int32).toInt ≤ 6) from (by omega))⟩ (hP.sub [2, 1, 0, 3] rfl) (hD.sub [2, 1, 0, 3] rfl rfl) hS dX11_readPair_54
abbrev cX11_readKin : ByteArray := prog_13_method_37_code
def yX11_readKin : MethodName := ⟨RX11, "readKin", "()Z"⟩
theorem t1675 : Cond.code yX11_readKin cX11_readKin 2 (some .boolean) ∈ GW := gw_mem 1789 (by decide +kernel) (by decide +kernel)
abbrev O_m_readKin (cy : Nat → ClassId) (vo : Nat) (voth : Int32) (vmt : Nat) (votp : Int32) (vosz : Int32) (volm : Int32) (voto : Int32) (vofr : Int32) (vokd : Int32) (vonu : Int32) (vosg : Int32) (vofa : Int32) (vopl : Int32) (vowd : Int64) (votd : Int32) (vmn : Nat) (vmr : Nat) (vmk : Nat) (vms : Nat) (vma : Nat) (vmm : Nat) (vmrn : Nat) (vmkn : Nat) (vmik : Nat) (vmon : Nat) (vosm : Int32) (vohp : Int32) (vmw : Nat) (vmf : Nat) (vmb : Nat) (vomb : Int32) (vmd : Nat) (vmc : Nat) (vocm : Int32) (voct : Int32) (vocy : Int32) (vmx : Nat) (votx : Int32) (vose : Int32) (vml : Nat) (vmwr : Nat) (voln : Int32) (vohw : Int32) (vmno : Nat) (vond : Int32) (voon : Int32) (vowi : Int32) (votop : Int32) (vmtf : Nat → Int32) (vmrf : Nat → Int32) (vmrnf : Nat → Int64) (u : Int32 × Int32 × Int32 × Int32 × Int64 × Int32 × Int32 × Int32 × Int32 × (Nat → Int32)) : va_W := [(vo, .inr (12, [.int voth, .ref vmt, .int votp, .int vosz, .int volm, .int u.1, .int u.2.1, .int u.2.2.1, .int u.2.2.2.2.2.1, .int u.2.2.2.1, .int u.2.2.2.2.2.2.1, .int u.2.2.2.2.2.2.2.1, .long u.2.2.2.2.1, .int u.2.2.2.2.2.2.2.2.1, .ref vmn, .ref vmr, .ref vmk, .ref vms, .ref vma, .ref vmm, .ref vmrn, .ref vmkn, .ref vmik, .ref vmon, .int vosm, .int vohp, .ref vmw, .ref vmf, .ref vmb, .int vomb, .ref vmd, .ref vmc, .int vocm, .int voct, .int vocy, .ref vmx, .int votx, .int vose, .ref vml, .ref vmwr, .int voln, .int vohw, .ref vmno, .int vond, .int voon, .int vowi, .int votop])), (vmt, .inl (cy 0, 940, .inl vmtf)), (vmr, .inl (cy 0, 157, .inl u.2.2.2.2.2.2.2.2.2)), (vmrn, .inl (cy 1, 17, .inr (.inl vmrnf)))]
theorem dX11_readKin_0 : decode cX11_readKin 0 = .ok (.aload_n 0, 1) := by decide +kernel
theorem dX11_readKin_1 : decode cX11_readKin 1 = .ok (.invokevirtual 191, 3) := by decide +kernel
theorem t1676 : Cond.methodLink RX11 191 yX11_readPair ∈ GW := gw_mem 1790 (by decide +kernel) (by decide +kernel)
theorem t1678 : Cond.instanceMethod yX11_readPair ∈ GW := gw_mem 1792 (by decide +kernel) (by decide +kernel)
theorem s57 : Cond.selects RX11 yX11_readPair yX11_readPair ∈ GW := gw_mem 57 (by decide +kernel) (by decide +kernel)
theorem cw_X11_191 {R : Room} {s : State} {args : Array Value} {rm : Room} {mc ms : Nat} (hts : ∀ w ∈ GW, w.before args s = true) (hrc : rm.cells = mc) (hrs : rm.slots = ms) (hR : rm.frames + 1 ≤ R.frames ∧ 8 + (2 + 11) + rm.locals ≤ R.locals) : CallW R s args RX11 RX11 191 yX11_readPair cX11_readPair 2 (some .int) (wl yX11_readPair cX11_readPair 2 (some .int)) rm mc ms 0 := cwV 0 hts (gi_V t1676 t1678 s57 t18 t1679) rfl hrc hrs (by decide +kernel) hR
theorem dX11_readKin_4 : decode cX11_readKin 4 = .ok (.istore_n 1, 1) := by decide +kernel
theorem dX11_readKin_5 : decode cX11_readKin 5 = .ok (.iload_n 1, 1) := by decide +kernel
theorem dX11_readKin_6 : decode cX11_readKin 6 = .ok (.iconst (-1), 1) := by decide +kernel
theorem dX11_readKin_7 : decode cX11_readKin 7 = .ok (.if_icmp .ne 5, 3) := by decide +kernel
theorem dX11_readKin_12 : decode cX11_readKin 12 = .ok (.aload_n 0, 1) := by decide +kernel
theorem dX11_readKin_13 : decode cX11_readKin 13 = .ok (.getfield 101, 3) := by decide +kernel
theorem dX11_readKin_16 : decode cX11_readKin 16 = .ok (.bipush 101, 2) := by decide +kernel
theorem dX11_readKin_18 : decode cX11_readKin 18 = .ok (.iload_n 1, 1) := by decide +kernel
theorem dX11_readKin_19 : decode cX11_readKin 19 = .ok (.iadd, 1) := by decide +kernel
theorem dX11_readKin_20 : decode cX11_readKin 20 = .ok (.iaload, 1) := by decide +kernel
theorem dX11_readKin_21 : decode cX11_readKin 21 = .ok (.aload_n 0, 1) := by decide +kernel
theorem dX11_readKin_22 : decode cX11_readKin 22 = .ok (.getfield 79, 3) := by decide +kernel
theorem dX11_readKin_25 : decode cX11_readKin 25 = .ok (.invokestatic 194, 3) := by decide +kernel
theorem t1680 : Cond.methodLink RX11 194 yX11_has ∈ GW := gw_mem 1794 (by decide +kernel) (by decide +kernel)
theorem t1681 : Cond.static yX11_has ∈ GW := gw_mem 1795 (by decide +kernel) (by decide +kernel)
theorem cw_X11_194 {R : Room} {s : State} {args : Array Value} {rm : Room} {mc ms : Nat} (hts : ∀ w ∈ GW, w.before args s = true) (hrc : rm.cells = mc) (hrs : rm.slots = ms) (hR : rm.frames + 1 ≤ R.frames ∧ 8 + (2 + 11) + rm.locals ≤ R.locals) : CallB R s args RX11 194 yX11_has cX11_has 2 (some .boolean) (wl yX11_has cX11_has 2 (some .boolean)) rm mc ms 2 ∧ (Cond.static yX11_has).before args s = true := va_cwS 2 hts (gi_S t1680 t1681 t18 t1682) rfl hrc hrs (by decide +kernel) hR
theorem dX11_readKin_28 : decode cX11_readKin 28 = .ok (.ifCond .eq 9, 3) := by decide +kernel
theorem dX11_readKin_37 : decode cX11_readKin 37 = .ok (.aload_n 0, 1) := by decide +kernel
theorem dX11_readKin_38 : decode cX11_readKin 38 = .ok (.getfield 101, 3) := by decide +kernel
theorem dX11_readKin_41 : decode cX11_readKin 41 = .ok (.bipush 101, 2) := by decide +kernel
theorem dX11_readKin_43 : decode cX11_readKin 43 = .ok (.iload_n 1, 1) := by decide +kernel
theorem dX11_readKin_44 : decode cX11_readKin 44 = .ok (.iadd, 1) := by decide +kernel
theorem dX11_readKin_45 : decode cX11_readKin 45 = .ok (.dup2, 1) := by decide +kernel
theorem dX11_readKin_46 : decode cX11_readKin 46 = .ok (.iaload, 1) := by decide +kernel
theorem dX11_readKin_47 : decode cX11_readKin 47 = .ok (.iconst 1, 1) := by decide +kernel
theorem dX11_readKin_48 : decode cX11_readKin 48 = .ok (.aload_n 0, 1) := by decide +kernel
theorem dX11_readKin_49 : decode cX11_readKin 49 = .ok (.getfield 79, 3) := by decide +kernel
theorem dX11_readKin_52 : decode cX11_readKin 52 = .ok (.ishl, 1) := by decide +kernel
theorem dX11_readKin_53 : decode cX11_readKin 53 = .ok (.ior, 1) := by decide +kernel
theorem dX11_readKin_54 : decode cX11_readKin 54 = .ok (.iastore, 1) := by decide +kernel
theorem dX11_readKin_55 : decode cX11_readKin 55 = .ok (.aload_n 0, 1) := by decide +kernel
theorem dX11_readKin_56 : decode cX11_readKin 56 = .ok (.getfield 101, 3) := by decide +kernel
theorem dX11_readKin_59 : decode cX11_readKin 59 = .ok (.bipush 101, 2) := by decide +kernel
theorem dX11_readKin_61 : decode cX11_readKin 61 = .ok (.aload_n 0, 1) := by decide +kernel
theorem dX11_readKin_62 : decode cX11_readKin 62 = .ok (.getfield 79, 3) := by decide +kernel
theorem dX11_readKin_65 : decode cX11_readKin 65 = .ok (.iadd, 1) := by decide +kernel
theorem dX11_readKin_66 : decode cX11_readKin 66 = .ok (.dup2, 1) := by decide +kernel
theorem dX11_readKin_67 : decode cX11_readKin 67 = .ok (.iaload, 1) := by decide +kernel
theorem dX11_readKin_68 : decode cX11_readKin 68 = .ok (.iconst 1, 1) := by decide +kernel
theorem dX11_readKin_69 : decode cX11_readKin 69 = .ok (.iload_n 1, 1) := by decide +kernel
theorem dX11_readKin_70 : decode cX11_readKin 70 = .ok (.ishl, 1) := by decide +kernel
theorem dX11_readKin_71 : decode cX11_readKin 71 = .ok (.ior, 1) := by decide +kernel
theorem dX11_readKin_72 : decode cX11_readKin 72 = .ok (.iastore, 1) := by decide +kernel
theorem dX11_readKin_73 : decode cX11_readKin 73 = .ok (.aload_n 0, 1) := by decide +kernel
theorem dX11_readKin_74 : decode cX11_readKin 74 = .ok (.invokevirtual 82, 3) := by decide +kernel
theorem dX11_readKin_77 : decode cX11_readKin 77 = .ok (.iconst 1, 1) := by decide +kernel
theorem dX11_readKin_78 : decode cX11_readKin 78 = .ok (.ireturn, 1) := by decide +kernel
theorem dX11_readKin_31 : decode cX11_readKin 31 = .ok (.aload_n 0, 1) := by decide +kernel
theorem dX11_readKin_32 : decode cX11_readKin 32 = .ok (.iconst 3, 1) := by decide +kernel
theorem dX11_readKin_33 : decode cX11_readKin 33 = .ok (.invokevirtual 72, 3) := by decide +kernel
theorem dX11_readKin_36 : decode cX11_readKin 36 = .ok (.ireturn, 1) := by decide +kernel
theorem dX11_readKin_10 : decode cX11_readKin 10 = .ok (.iconst 0, 1) := by decide +kernel
theorem dX11_readKin_11 : decode cX11_readKin 11 = .ok (.ireturn, 1) := by decide +kernel
set_option maxHeartbeats 4000000 in
set_option maxRecDepth 100000 in
theorem m_readKin (l : Launch) (dC : Nat → ClassId) (dI : Nat → Nat → Nat) (cy : Nat → ClassId) (sz : Nat) (vo : Nat) (voth : Int32) (vmt : Nat) (votp : Int32) (vosz : Int32) (volm : Int32) (voto : Int32) (vofr : Int32) (vokd : Int32) (vonu : Int32) (vosg : Int32) (vofa : Int32) (vopl : Int32) (vowd : Int64) (votd : Int32) (vmn : Nat) (vmr : Nat) (vmk : Nat) (vms : Nat) (vma : Nat) (vmm : Nat) (vmrn : Nat) (vmkn : Nat) (vmik : Nat) (vmon : Nat) (vosm : Int32) (vohp : Int32) (vmw : Nat) (vmf : Nat) (vmb : Nat) (vomb : Int32) (vmd : Nat) (vmc : Nat) (vocm : Int32) (voct : Int32) (vocy : Int32) (vmx : Nat) (votx : Int32) (vose : Int32) (vml : Nat) (vmwr : Nat) (voln : Int32) (vohw : Int32) (vmno : Nat) (vond : Int32) (voon : Int32) (vowi : Int32) (votop : Int32) (vmtf : Nat → Int32) (vmrf : Nat → Int32) (vmrnf : Nat → Int64) (r_vosz : 0 ≤ (vosz : Int32).toInt ∧ (vosz : Int32).toInt ≤ 940) (r_voto : 0 ≤ (voto : Int32).toInt ∧ (voto : Int32).toInt ≤ 940) (r_votd : -1 ≤ (votd : Int32).toInt ∧ (votd : Int32).toInt ≤ 999) (p_vmtf : Rg vmtf 940 0 255) (p_vmrf : RD vmrf) : Met l yX11_readKin (wl yX11_readKin cX11_readKin 2 (some .boolean)) ({ frames := 5, cells := 0, slots := 0, locals := 320 }) (Pw (dC, dI) vwCl cy [(vo, .inr (12, [.int voth, .ref vmt, .int votp, .int vosz, .int volm, .int voto, .int vofr, .int vokd, .int vonu, .int vosg, .int vofa, .int vopl, .long vowd, .int votd, .ref vmn, .ref vmr, .ref vmk, .ref vms, .ref vma, .ref vmm, .ref vmrn, .ref vmkn, .ref vmik, .ref vmon, .int vosm, .int vohp, .ref vmw, .ref vmf, .ref vmb, .int vomb, .ref vmd, .ref vmc, .int vocm, .int voct, .int vocy, .ref vmx, .int votx, .int vose, .ref vml, .ref vmwr, .int voln, .int vohw, .ref vmno, .int vond, .int voon, .int vowi, .int votop])), (vmt, .inl (cy 0, 940, .inl vmtf)), (vmr, .inl (cy 0, 157, .inl vmrf)), (vmrn, .inl (cy 1, 17, .inr (.inl vmrnf)))] sz [.ref vo] nE) (Qi (dC, dI) vwCl (fun (r : Int32) (u : Int32 × Int32 × Int32 × Int32 × Int64 × Int32 × Int32 × Int32 × Int32 × (Nat → Int32)) => ((r = 0) ∨ (r = 1 ∧ ((u.2.2.1 : Int32).toInt = 0 ∨ (u.2.2.1 : Int32).toInt = 1 ∨ (voto : Int32).toInt + 1 ≤ (u.1 : Int32).toInt))) ∧ (0 ≤ (u.1 : Int32).toInt ∧ (u.1 : Int32).toInt ≤ 940) ∧ (-1 ≤ (u.2.2.2.2.2.2.2.2.1 : Int32).toInt ∧ (u.2.2.2.2.2.2.2.2.1 : Int32).toInt ≤ 999) ∧ (RD u.2.2.2.2.2.2.2.2.2) ∧ ((voto : Int32).toInt ≤ (u.1 : Int32).toInt)) (O_m_readKin cy vo voth vmt votp vosz volm voto vofr vokd vonu vosg vofa vopl vowd votd vmn vmr vmk vms vma vmm vmrn vmkn vmik vmon vosm vohp vmw vmf vmb vomb vmd vmc vocm voct vocy vmx votx vose vml vmwr voln vohw vmno vond voon vowi votop vmtf vmrf vmrnf) (va_A [(vo, .inr (12, [.int voth, .ref vmt, .int votp, .int vosz, .int volm, .int voto, .int vofr, .int vokd, .int vonu, .int vosg, .int vofa, .int vopl, .long vowd, .int votd, .ref vmn, .ref vmr, .ref vmk, .ref vms, .ref vma, .ref vmm, .ref vmrn, .ref vmkn, .ref vmik, .ref vmon, .int vosm, .int vohp, .ref vmw, .ref vmf, .ref vmb, .int vomb, .ref vmd, .ref vmc, .int vocm, .int voct, .int vocy, .ref vmx, .int votx, .int vose, .ref vml, .ref vmwr, .int voln, .int vohw, .ref vmno, .int vond, .int voon, .int vowi, .int votop])), (vmt, .inl (cy 0, 940, .inl vmtf)), (vmr, .inl (cy 0, 157, .inl vmrf)), (vmrn, .inl (cy 1, 17, .inr (.inl vmrnf)))] sz)) 0 0 (va_A [(vo, .inr (12, [.int voth, .ref vmt, .int votp, .int vosz, .int volm, .int voto, .int vofr, .int vokd, .int vonu, .int vosg, .int vofa, .int vopl, .long vowd, .int votd, .ref vmn, .ref vmr, .ref vmk, .ref vms, .ref vma, .ref vmm, .ref vmrn, .ref vmkn, .ref vmik, .ref vmon, .int vosm, .int vohp, .ref vmw, .ref vmf, .ref vmb, .int vomb, .ref vmd, .ref vmc, .int vocm, .int voct, .int vocy, .ref vmx, .int votx, .int vose, .ref vml, .ref vmwr, .int voln, .int vohw, .ref vmno, .int vond, .int voon, .int vowi, .int votop])), (vmt, .inl (cy 0, 940, .inl vmtf)), (vmr, .inl (cy 0, 157, .inl vmrf)), (vmrn, .inl (cy 1, 17, .inr (.inl vmrnf)))] sz) := by
  refine mw (Qc := Qi (dC, dI) vwCl (fun (r : Int32) (u : Int32 × Int32 × Int32 × Int32 × Int64 × Int32 × Int32 × Int32 × Int32 × (Nat → Int32)) => ((r = 0) ∨ (r = 1 ∧ ((u.2.2.1 : Int32).toInt = 0 ∨ (u.2.2.1 : Int32).toInt = 1 ∨ (voto : Int32).toInt + 1 ≤ (u.1 : Int32).toInt))) ∧ (0 ≤ (u.1 : Int32).toInt ∧ (u.1 : Int32).toInt ≤ 940) ∧ (-1 ≤ (u.2.2.2.2.2.2.2.2.1 : Int32).toInt ∧ (u.2.2.2.2.2.2.2.2.1 : Int32).toInt ≤ 999) ∧ (RD u.2.2.2.2.2.2.2.2.2) ∧ ((voto : Int32).toInt ≤ (u.1 : Int32).toInt)) (O_m_readKin cy vo voth vmt votp vosz volm voto vofr vokd vonu vosg vofa vopl vowd votd vmn vmr vmk vms vma vmm vmrn vmkn vmik vmon vosm vohp vmw vmf vmb vomb vmd vmc vocm voct vocy vmx votx vose vml vmwr voln vohw vmno vond voon vowi votop vmtf vmrf vmrnf)) RX11 rfl (by decide +kernel) (Nat.le_of_ble_eq_true rfl) ?_
  intro p e s m below meth c A hx hb hr hlocks av9 hav hts hown hnm hml hK hP hD hA hS hE hAe Q9 hQ9 ls hl
  have hl : lv_has ls 2 [(0, .ref vo)] := hl
  refine lv_aload_n hx hb dX11_readKin_0 rfl (lv_at hl 0 rfl) ?_
  refine jn_i (wr := []) (rV (As := []) (rest := []) (ci := 12) ⟨hx, hb, hml, hown, hts⟩ (m_readPair l dC dI cy _ vo voth vmt votp vosz volm voto vofr vokd vonu vosg vofa vopl vowd votd vmn vmr vmk vms vma vmm vmrn vmkn vmik vmon vosm vohp vmw vmf vmb vomb vmd vmc vocm voct vocy vmx votx vose vml vmwr voln vohw vmno vond voon vowi votop vmtf vmrf vmrnf r_vosz r_voto r_votd p_vmtf p_vmrf) (cw_X11_191 hts rfl rfl ⟨Nat.le_of_ble_eq_true rfl, Nat.le_of_ble_eq_true rfl⟩) hP hD hK [0, 1, 2, 3] rfl rfl rfl rfl bl0 e0 rfl hl.1 rfl (Nat.le_of_ble_eq_true rfl) dX11_readKin_1 ⟨Nat.le_of_ble_eq_true rfl, Nat.le_of_ble_eq_true rfl⟩) hP hD hS hA [0, 1, 2, 3] [] rfl rfl rfl (by decide) (fun r_1 u_3 H locs hp_2 hP hD hS => ?_)
  obtain ⟨voto_4, vofr_5, vokd_6, vosg_7, vowd_8, vonu_9, vofa_10, vopl_11, votd_12⟩ := u_3
  have hp_2 : (-1 ≤ (r_1 : Int32).toInt ∧ (r_1 : Int32).toInt ≤ 6) ∧ (0 ≤ (voto_4 : Int32).toInt ∧ (voto_4 : Int32).toInt ≤ 940) ∧ (-1 ≤ (votd_12 : Int32).toInt ∧ (votd_12 : Int32).toInt ≤ 999) ∧ ((voto : Int32).toInt ≤ (voto_4 : Int32).toInt) ∧ (((r_1 : Int32).toInt = -1) ∨ (0 ≤ (r_1 : Int32).toInt ∧ 0 ≤ (votd_12 : Int32).toInt ∧ (votd_12 : Int32).toInt ≤ 6)) := hp_2
  obtain ⟨q_13, q_14, q_15, q_16, q_17⟩ := hp_2
  have hP : va_P (dC, dI) vwCl [(vo, .inr (12, [.int voth, .ref vmt, .int votp, .int vosz, .int volm, .int voto_4, .int vofr_5, .int vokd_6, .int vonu_9, .int vosg_7, .int vofa_10, .int vopl_11, .long vowd_8, .int votd_12, .ref vmn, .ref vmr, .ref vmk, .ref vms, .ref vma, .ref vmm, .ref vmrn, .ref vmkn, .ref vmik, .ref vmon, .int vosm, .int vohp, .ref vmw, .ref vmf, .ref vmb, .int vomb, .ref vmd, .ref vmc, .int vocm, .int voct, .int vocy, .ref vmx, .int votx, .int vose, .ref vml, .ref vmwr, .int voln, .int vohw, .ref vmno, .int vond, .int voon, .int vowi, .int votop])), (vmt, .inl (cy 0, 940, .inl vmtf)), (vmr, .inl (cy 0, 157, .inl vmrf)), (vmrn, .inl (cy 1, 17, .inr (.inl vmrnf)))] H := hP
  have hD : va_D A [(vo, .inr (12, [.int voth, .ref vmt, .int votp, .int vosz, .int volm, .int voto_4, .int vofr_5, .int vokd_6, .int vonu_9, .int vosg_7, .int vofa_10, .int vopl_11, .long vowd_8, .int votd_12, .ref vmn, .ref vmr, .ref vmk, .ref vms, .ref vma, .ref vmm, .ref vmrn, .ref vmkn, .ref vmik, .ref vmon, .int vosm, .int vohp, .ref vmw, .ref vmf, .ref vmb, .int vomb, .ref vmd, .ref vmc, .int vocm, .int voct, .int vocy, .ref vmx, .int votx, .int vose, .ref vml, .ref vmwr, .int voln, .int vohw, .ref vmno, .int vond, .int voon, .int vowi, .int votop])), (vmt, .inl (cy 0, 940, .inl vmtf)), (vmr, .inl (cy 0, 157, .inl vmrf)), (vmrn, .inl (cy 1, 17, .inr (.inl vmrnf)))] := hD
  refine lv_istore_n (lv' := [(1, .int r_1), (0, .ref vo)]) hx hb dX11_readKin_4 rfl hl (by decide) rfl (fun ls hl => ?_)
  refine lv_iload_n hx hb dX11_readKin_5 rfl (lv_at hl 0 rfl) ?_
  refine lv_iconst (v := (-1)) hx hb dX11_readKin_6 (by decide) ?_
  have k_m1 : ((-1) : Int32).toInt = (-1) := by decide
  refine lv_icmp_ne (tgt := 12) hx hb dX11_readKin_7 (by decide) (fun c_18 => ?_) (fun c_18 => ?_)
  · skip
    have c_18 : ¬ (r_1.toInt = ((-1) : Int32).toInt) := fun h9 => c_18 (i_eq.mpr h9)
    refine lv_aload_n hx hb dX11_readKin_12 rfl (lv_at hl 1 rfl) ?_
    refine gf_X11_101 hx hb hts hown hK hP 0 rfl rfl dX11_readKin_13 ?_
    refine lv_bipush (v := 101) hx hb dX11_readKin_16 (by decide) ?_
    refine lv_iload_n hx hb dX11_readKin_18 rfl (lv_at hl 0 rfl) ?_
    refine lv_iadd hx hb dX11_readKin_19 ?_
    refine lv_topi (fun z_19 ez_19 => ?_)
    have k_101 : (101 : Int32).toInt = 101 := by decide
    have bz_19 : z_19.toInt = (101 : Int32).toInt + r_1.toInt := i_add ez_19 (by omega) (by omega)
    have hin_20 : vp_in z_19 157 := vp_in_iff.mpr ⟨by omega, by omega⟩
    refine va_iald hx hb hK hP 2 0 rfl rfl hin_20 dX11_readKin_20 ?_
    refine lv_topi (fun z_21 ez_21 => ?_)
    refine lv_aload_n hx hb dX11_readKin_21 rfl (lv_at hl 1 rfl) ?_
    refine gf_X11_79 hx hb hts hown hK hP 0 rfl rfl dX11_readKin_22 ?_
    refine jr_i (rSr (As := [.int z_21, .int votd_12]) (rest := []) ⟨hx, hb, hml, hown, hts⟩ (m_has l dC dI cy z_21 votd_12 ) (cw_X11_194 hts rfl rfl ⟨Nat.le_of_ble_eq_true rfl, Nat.le_of_ble_eq_true rfl⟩) hP hK [] rfl rfl hl.1 rfl (Nat.le_of_ble_eq_true rfl) dX11_readKin_25 ⟨Nat.le_of_ble_eq_true rfl, Nat.le_of_ble_eq_true rfl⟩) hP hS (fun r_22 H locs hp_23 hP hS => ?_)
    have hp_23 : ((r_22 = 0) ∨ (r_22 = 1)) := hp_23
    have q_24 := hp_23
    rcases q_24 with aq_24 | aq_24
    · skip
      refine as_i 0 aq_24 ?_
      refine lv_if_eq (tgt := 37) hx hb dX11_readKin_28 (by decide) (fun _ => ?_) (fun c9 => absurd (by decide) c9)
      refine lv_aload_n hx hb dX11_readKin_37 rfl (lv_at hl 1 rfl) ?_
      refine gf_X11_101 hx hb hts hown hK hP 0 rfl rfl dX11_readKin_38 ?_
      refine lv_bipush (v := 101) hx hb dX11_readKin_41 (by decide) ?_
      refine lv_iload_n hx hb dX11_readKin_43 rfl (lv_at hl 0 rfl) ?_
      refine lv_iadd hx hb dX11_readKin_44 ?_
      refine lv_topi (fun z_25 ez_25 => ?_)
      have bz_25 : z_25.toInt = (101 : Int32).toInt + r_1.toInt := i_add ez_25 (by omega) (by omega)
      refine lv_dup2_11 hx hb dX11_readKin_45 rfl rfl ?_
      have hin_26 : vp_in z_25 157 := vp_in_iff.mpr ⟨by omega, by omega⟩
      refine va_iald hx hb hK hP 2 0 rfl rfl hin_26 dX11_readKin_46 ?_
      refine lv_topi (fun z_27 ez_27 => ?_)
      refine lv_iconst (v := 1) hx hb dX11_readKin_47 (by decide) ?_
      refine lv_aload_n hx hb dX11_readKin_48 rfl (lv_at hl 1 rfl) ?_
      refine gf_X11_79 hx hb hts hown hK hP 0 rfl rfl dX11_readKin_49 ?_
      refine lv_ishl hx hb dX11_readKin_52 ?_
      refine lv_topi (fun z_28 ez_28 => ?_)
      refine lv_ior hx hb dX11_readKin_53 ?_
      refine lv_topi (fun z_29 ez_29 => ?_)
      have hin_30 : vp_in z_25 157 := vp_in_iff.mpr ⟨by omega, by omega⟩
      refine va_iast hx hb hK hP hD hS 2 0 rfl rfl hin_30 dX11_readKin_54 (fun H locs hP hD hS => ?_)
      obtain ⟨f_31, ef_31⟩ : ∃ z : Nat → Int32, z = upd vmrf (Int32.toNatClampNeg z_25) z_29 := ⟨_, rfl⟩
      have hP : va_P (dC, dI) vwCl [(vo, .inr (12, [.int voth, .ref vmt, .int votp, .int vosz, .int volm, .int voto_4, .int vofr_5, .int vokd_6, .int vonu_9, .int vosg_7, .int vofa_10, .int vopl_11, .long vowd_8, .int votd_12, .ref vmn, .ref vmr, .ref vmk, .ref vms, .ref vma, .ref vmm, .ref vmrn, .ref vmkn, .ref vmik, .ref vmon, .int vosm, .int vohp, .ref vmw, .ref vmf, .ref vmb, .int vomb, .ref vmd, .ref vmc, .int vocm, .int voct, .int vocy, .ref vmx, .int votx, .int vose, .ref vml, .ref vmwr, .int voln, .int vohw, .ref vmno, .int vond, .int voon, .int vowi, .int votop])), (vmt, .inl (cy 0, 940, .inl vmtf)), (vmr, .inl (cy 0, 157, .inl f_31)), (vmrn, .inl (cy 1, 17, .inr (.inl vmrnf)))] H := by rw [ef_31]; exact hP
      have hD : va_D A [(vo, .inr (12, [.int voth, .ref vmt, .int votp, .int vosz, .int volm, .int voto_4, .int vofr_5, .int vokd_6, .int vonu_9, .int vosg_7, .int vofa_10, .int vopl_11, .long vowd_8, .int votd_12, .ref vmn, .ref vmr, .ref vmk, .ref vms, .ref vma, .ref vmm, .ref vmrn, .ref vmkn, .ref vmik, .ref vmon, .int vosm, .int vohp, .ref vmw, .ref vmf, .ref vmb, .int vomb, .ref vmd, .ref vmc, .int vocm, .int voct, .int vocy, .ref vmx, .int votx, .int vose, .ref vml, .ref vmwr, .int voln, .int vohw, .ref vmno, .int vond, .int voon, .int vowi, .int votop])), (vmt, .inl (cy 0, 940, .inl vmtf)), (vmr, .inl (cy 0, 157, .inl f_31)), (vmrn, .inl (cy 1, 17, .inr (.inl vmrnf)))] := by rw [ef_31]; exact hD
      have p_f_31 : RD f_31 := by rw [ef_31]; exact p_vmrf.upd ⟨by omega, by omega⟩
      have q0_f_31 : (f_31 0).toInt = (vmrf 0).toInt := by rw [ef_31, pk_un (RDne0 (x := z_25) (by omega))]
      have q1_f_31 : (f_31 1).toInt = (vmrf 1).toInt := by rw [ef_31, pk_un (RDne1 (x := z_25) (by omega))]
      refine lv_aload_n hx hb dX11_readKin_55 rfl (lv_at hl 1 rfl) ?_
      refine gf_X11_101 hx hb hts hown hK hP 0 rfl rfl dX11_readKin_56 ?_
      refine lv_bipush (v := 101) hx hb dX11_readKin_59 (by decide) ?_
      refine lv_aload_n hx hb dX11_readKin_61 rfl (lv_at hl 1 rfl) ?_
      refine gf_X11_79 hx hb hts hown hK hP 0 rfl rfl dX11_readKin_62 ?_
      refine lv_iadd hx hb dX11_readKin_65 ?_
      refine lv_topi (fun z_32 ez_32 => ?_)
      have bz_32 : z_32.toInt = (101 : Int32).toInt + votd_12.toInt := i_add ez_32 (by omega) (by omega)
      refine lv_dup2_11 hx hb dX11_readKin_66 rfl rfl ?_
      have hin_33 : vp_in z_32 157 := vp_in_iff.mpr ⟨by omega, by omega⟩
      refine va_iald hx hb hK hP 2 0 rfl rfl hin_33 dX11_readKin_67 ?_
      refine lv_topi (fun z_34 ez_34 => ?_)
      refine lv_iconst (v := 1) hx hb dX11_readKin_68 (by decide) ?_
      refine lv_iload_n hx hb dX11_readKin_69 rfl (lv_at hl 0 rfl) ?_
      refine lv_ishl hx hb dX11_readKin_70 ?_
      refine lv_topi (fun z_35 ez_35 => ?_)
      have bz_35 : 1 ≤ z_35.toInt ∧ z_35.toInt ≤ 128 := i_shl7 ez_35 ⟨by omega, by omega⟩
      refine lv_ior hx hb dX11_readKin_71 ?_
      refine lv_topi (fun z_36 ez_36 => ?_)
      have hin_37 : vp_in z_32 157 := vp_in_iff.mpr ⟨by omega, by omega⟩
      refine va_iast hx hb hK hP hD hS 2 0 rfl rfl hin_37 dX11_readKin_72 (fun H locs hP hD hS => ?_)
      obtain ⟨f_38, ef_38⟩ : ∃ z : Nat → Int32, z = upd f_31 (Int32.toNatClampNeg z_32) z_36 := ⟨_, rfl⟩
      have hP : va_P (dC, dI) vwCl [(vo, .inr (12, [.int voth, .ref vmt, .int votp, .int vosz, .int volm, .int voto_4, .int vofr_5, .int vokd_6, .int vonu_9, .int vosg_7, .int vofa_10, .int vopl_11, .long vowd_8, .int votd_12, .ref vmn, .ref vmr, .ref vmk, .ref vms, .ref vma, .ref vmm, .ref vmrn, .ref vmkn, .ref vmik, .ref vmon, .int vosm, .int vohp, .ref vmw, .ref vmf, .ref vmb, .int vomb, .ref vmd, .ref vmc, .int vocm, .int voct, .int vocy, .ref vmx, .int votx, .int vose, .ref vml, .ref vmwr, .int voln, .int vohw, .ref vmno, .int vond, .int voon, .int vowi, .int votop])), (vmt, .inl (cy 0, 940, .inl vmtf)), (vmr, .inl (cy 0, 157, .inl f_38)), (vmrn, .inl (cy 1, 17, .inr (.inl vmrnf)))] H := by rw [ef_38]; exact hP
      have hD : va_D A [(vo, .inr (12, [.int voth, .ref vmt, .int votp, .int vosz, .int volm, .int voto_4, .int vofr_5, .int vokd_6, .int vonu_9, .int vosg_7, .int vofa_10, .int vopl_11, .long vowd_8, .int votd_12, .ref vmn, .ref vmr, .ref vmk, .ref vms, .ref vma, .ref vmm, .ref vmrn, .ref vmkn, .ref vmik, .ref vmon, .int vosm, .int vohp, .ref vmw, .ref vmf, .ref vmb, .int vomb, .ref vmd, .ref vmc, .int vocm, .int voct, .int vocy, .ref vmx, .int votx, .int vose, .ref vml, .ref vmwr, .int voln, .int vohw, .ref vmno, .int vond, .int voon, .int vowi, .int votop])), (vmt, .inl (cy 0, 940, .inl vmtf)), (vmr, .inl (cy 0, 157, .inl f_38)), (vmrn, .inl (cy 1, 17, .inr (.inl vmrnf)))] := by rw [ef_38]; exact hD
      have p_f_38 : RD f_38 := by rw [ef_38]; exact p_f_31.upd ⟨by omega, by omega⟩
      have q0_f_38 : (f_38 0).toInt = (f_31 0).toInt := by rw [ef_38, pk_un (RDne0 (x := z_32) (by omega))]
      have q1_f_38 : (f_38 1).toInt = (f_31 1).toInt := by rw [ef_38, pk_un (RDne1 (x := z_32) (by omega))]
      refine lv_aload_n hx hb dX11_readKin_73 rfl (lv_at hl 1 rfl) ?_
      refine jn_v (wr := [(vmr, .inl (cy 0, 157, .inl f_38)), (vmrn, .inl (cy 1, 17, .inr (.inl vmrnf)))]) (rV (As := []) (rest := []) (ci := 12) ⟨hx, hb, hml, hown, hts⟩ (m_go l dC dI cy _ vo voth vmt votp vosz volm voto_4 vofr_5 vokd_6 vonu_9 vosg_7 vofa_10 vopl_11 vowd_8 votd_12 vmn vmr vmk vms vma vmm vmrn vmkn vmik vmon vosm vohp vmw vmf vmb vomb vmd vmc vocm voct vocy vmx votx vose vml vmwr voln vohw vmno vond voon vowi votop vmtf r_vosz ⟨by omega, by omega⟩ p_vmtf) (cw_X11_82 hts rfl rfl ⟨Nat.le_of_ble_eq_true rfl, Nat.le_of_ble_eq_true rfl⟩) hP hD hK [0, 1] rfl rfl rfl rfl bl0 e0 rfl hl.1 rfl (Nat.le_of_ble_eq_true rfl) dX11_readKin_74 ⟨Nat.le_of_ble_eq_true rfl, Nat.le_of_ble_eq_true rfl⟩) hP hD hS hA [0, 1] [2, 3] rfl rfl rfl (by decide) (fun u_41 H locs hp_40 hP hD hS => ?_)
      obtain ⟨voto_42, vofr_43, vokd_44, vosg_45, vowd_46, vonu_47⟩ := u_41
      have hp_40 : (0 ≤ (voto_42 : Int32).toInt ∧ (voto_42 : Int32).toInt ≤ 940) ∧ ((voto_4 : Int32).toInt ≤ (voto_42 : Int32).toInt) ∧ (((vokd_44 : Int32).toInt = 0 ∨ (vokd_44 : Int32).toInt = 1 ∨ (voto_4 : Int32).toInt + 1 ≤ (voto_42 : Int32).toInt)) := hp_40
      obtain ⟨q_48, q_49, q_50⟩ := hp_40
      have hP : va_P (dC, dI) vwCl [(vmr, .inl (cy 0, 157, .inl f_38)), (vmrn, .inl (cy 1, 17, .inr (.inl vmrnf))), (vo, .inr (12, [.int voth, .ref vmt, .int votp, .int vosz, .int volm, .int voto_42, .int vofr_43, .int vokd_44, .int vonu_47, .int vosg_45, .int vofa_10, .int vopl_11, .long vowd_46, .int votd_12, .ref vmn, .ref vmr, .ref vmk, .ref vms, .ref vma, .ref vmm, .ref vmrn, .ref vmkn, .ref vmik, .ref vmon, .int vosm, .int vohp, .ref vmw, .ref vmf, .ref vmb, .int vomb, .ref vmd, .ref vmc, .int vocm, .int voct, .int vocy, .ref vmx, .int votx, .int vose, .ref vml, .ref vmwr, .int voln, .int vohw, .ref vmno, .int vond, .int voon, .int vowi, .int votop])), (vmt, .inl (cy 0, 940, .inl vmtf))] H := hP
      have hD : va_D A [(vmr, .inl (cy 0, 157, .inl f_38)), (vmrn, .inl (cy 1, 17, .inr (.inl vmrnf))), (vo, .inr (12, [.int voth, .ref vmt, .int votp, .int vosz, .int volm, .int voto_42, .int vofr_43, .int vokd_44, .int vonu_47, .int vosg_45, .int vofa_10, .int vopl_11, .long vowd_46, .int votd_12, .ref vmn, .ref vmr, .ref vmk, .ref vms, .ref vma, .ref vmm, .ref vmrn, .ref vmkn, .ref vmik, .ref vmon, .int vosm, .int vohp, .ref vmw, .ref vmf, .ref vmb, .int vomb, .ref vmd, .ref vmc, .int vocm, .int voct, .int vocy, .ref vmx, .int votx, .int vose, .ref vml, .ref vmwr, .int voln, .int vohw, .ref vmno, .int vond, .int voon, .int vowi, .int votop])), (vmt, .inl (cy 0, 940, .inl vmtf))] := hD
      refine lv_iconst (v := 1) hx hb dX11_readKin_77 (by decide) ?_
      have k_1 : (1 : Int32).toInt = 1 := by decide
      rw [hQ9]
      exact re_z (voto_42, vofr_43, vokd_44, vosg_45, vowd_46, vonu_47, vofa_10, vopl_11, votd_12, f_38) hx hb hr hlocks (Or.inr rfl) ⟨(show ((1 : Int32) = 0) ∨ ((1 : Int32) = 1 ∧ ((vokd_44 : Int32).toInt = 0 ∨ (vokd_44 : Int32).toInt = 1 ∨ (voto : Int32).toInt + 1 ≤ (voto_42 : Int32).toInt)) from (Or.inr (⟨rfl, by omega⟩))), (show 0 ≤ (voto_42 : Int32).toInt ∧ (voto_42 : Int32).toInt ≤ 940 from ⟨by omega, by omega⟩), (show -1 ≤ (votd_12 : Int32).toInt ∧ (votd_12 : Int32).toInt ≤ 999 from ⟨by omega, by omega⟩), (show RD f_38 from p_f_38), (show (voto : Int32).toInt ≤ (voto_42 : Int32).toInt from (by omega))⟩ (hP.sub [2, 3, 0, 1] rfl) (hD.sub [2, 3, 0, 1] rfl rfl) hS dX11_readKin_78
    · skip
      refine as_i 1 aq_24 ?_
      refine lv_if_eq (tgt := 37) hx hb dX11_readKin_28 (by decide) (fun c9 => absurd c9 (by decide)) (fun _ => ?_)
      refine lv_aload_n hx hb dX11_readKin_31 rfl (lv_at hl 1 rfl) ?_
      refine lv_iconst (v := 3) hx hb dX11_readKin_32 (by decide) ?_
      have k_3 : (3 : Int32).toInt = 3 := by decide
      refine jn_i (wr := [(vmt, .inl (cy 0, 940, .inl vmtf)), (vmr, .inl (cy 0, 157, .inl vmrf)), (vmrn, .inl (cy 1, 17, .inr (.inl vmrnf)))]) (rV (As := [.int 3]) (rest := []) (ci := 12) ⟨hx, hb, hml, hown, hts⟩ (m_bad l dC dI cy _ vo voth vmt votp vosz volm voto_4 vofr_5 vokd_6 vonu_9 vosg_7 vofa_10 vopl_11 vowd_8 votd_12 vmn vmr vmk vms vma vmm vmrn vmkn vmik vmon vosm vohp vmw vmf vmb vomb vmd vmc vocm voct vocy vmx votx vose vml vmwr voln vohw vmno vond voon vowi votop 3 ) (cw_X11_72 hts rfl rfl ⟨Nat.le_of_ble_eq_true rfl, Nat.le_of_ble_eq_true rfl⟩) hP hD hK [0] rfl rfl rfl rfl bl0 e0 rfl hl.1 rfl (Nat.le_of_ble_eq_true rfl) dX11_readKin_33 ⟨Nat.le_of_ble_eq_true rfl, Nat.le_of_ble_eq_true rfl⟩) hP hD hS hA [0] [1, 2, 3] rfl rfl rfl (by decide) (fun r_51 u_53 H locs hp_52 hP hD hS => ?_)
      obtain ⟨vofa_54, vopl_55⟩ := u_53
      have hp_52 : ((r_51 = 0)) := hp_52
      have q_56 := hp_52
      have hP : va_P (dC, dI) vwCl [(vmt, .inl (cy 0, 940, .inl vmtf)), (vmr, .inl (cy 0, 157, .inl vmrf)), (vmrn, .inl (cy 1, 17, .inr (.inl vmrnf))), (vo, .inr (12, [.int voth, .ref vmt, .int votp, .int vosz, .int volm, .int voto_4, .int vofr_5, .int vokd_6, .int vonu_9, .int vosg_7, .int vofa_54, .int vopl_55, .long vowd_8, .int votd_12, .ref vmn, .ref vmr, .ref vmk, .ref vms, .ref vma, .ref vmm, .ref vmrn, .ref vmkn, .ref vmik, .ref vmon, .int vosm, .int vohp, .ref vmw, .ref vmf, .ref vmb, .int vomb, .ref vmd, .ref vmc, .int vocm, .int voct, .int vocy, .ref vmx, .int votx, .int vose, .ref vml, .ref vmwr, .int voln, .int vohw, .ref vmno, .int vond, .int voon, .int vowi, .int votop]))] H := hP
      have hD : va_D A [(vmt, .inl (cy 0, 940, .inl vmtf)), (vmr, .inl (cy 0, 157, .inl vmrf)), (vmrn, .inl (cy 1, 17, .inr (.inl vmrnf))), (vo, .inr (12, [.int voth, .ref vmt, .int votp, .int vosz, .int volm, .int voto_4, .int vofr_5, .int vokd_6, .int vonu_9, .int vosg_7, .int vofa_54, .int vopl_55, .long vowd_8, .int votd_12, .ref vmn, .ref vmr, .ref vmk, .ref vms, .ref vma, .ref vmm, .ref vmrn, .ref vmkn, .ref vmik, .ref vmon, .int vosm, .int vohp, .ref vmw, .ref vmf, .ref vmb, .int vomb, .ref vmd, .ref vmc, .int vocm, .int voct, .int vocy, .ref vmx, .int votx, .int vose, .ref vml, .ref vmwr, .int voln, .int vohw, .ref vmno, .int vond, .int voon, .int vowi, .int votop]))] := hD
      have aq_56 := q_56
      · skip
        refine as_i 0 aq_56 ?_
        have k_0 : (0 : Int32).toInt = 0 := by decide
        rw [hQ9]
        exact re_z (voto_4, vofr_5, vokd_6, vosg_7, vowd_8, vonu_9, vofa_54, vopl_55, votd_12, vmrf) hx hb hr hlocks (Or.inl rfl) ⟨(show ((0 : Int32) = 0) ∨ ((0 : Int32) = 1 ∧ ((vokd_6 : Int32).toInt = 0 ∨ (vokd_6 : Int32).toInt = 1 ∨ (voto : Int32).toInt + 1 ≤ (voto_4 : Int32).toInt)) from (Or.inl rfl)), (show 0 ≤ (voto_4 : Int32).toInt ∧ (voto_4 : Int32).toInt ≤ 940 from ⟨by omega, by omega⟩), (show -1 ≤ (votd_12 : Int32).toInt ∧ (votd_12 : Int32).toInt ≤ 999 from ⟨by omega, by omega⟩), (show RD vmrf from p_vmrf), (show (voto : Int32).toInt ≤ (voto_4 : Int32).toInt from q_16)⟩ (hP.sub [3, 0, 1, 2] rfl) (hD.sub [3, 0, 1, 2] rfl rfl) hS dX11_readKin_36
  · skip
    have c_18 : r_1.toInt = ((-1) : Int32).toInt := i_eq.mp c_18
    refine lv_iconst (v := 0) hx hb dX11_readKin_10 (by decide) ?_
    have k_0 : (0 : Int32).toInt = 0 := by decide
    rw [hQ9]
    exact re_z (voto_4, vofr_5, vokd_6, vosg_7, vowd_8, vonu_9, vofa_10, vopl_11, votd_12, vmrf) hx hb hr hlocks (Or.inl rfl) ⟨(show ((0 : Int32) = 0) ∨ ((0 : Int32) = 1 ∧ ((vokd_6 : Int32).toInt = 0 ∨ (vokd_6 : Int32).toInt = 1 ∨ (voto : Int32).toInt + 1 ≤ (voto_4 : Int32).toInt)) from (Or.inl rfl)), (show 0 ≤ (voto_4 : Int32).toInt ∧ (voto_4 : Int32).toInt ≤ 940 from ⟨by omega, by omega⟩), (show -1 ≤ (votd_12 : Int32).toInt ∧ (votd_12 : Int32).toInt ≤ 999 from ⟨by omega, by omega⟩), (show RD vmrf from p_vmrf), (show (voto : Int32).toInt ≤ (voto_4 : Int32).toInt from q_16)⟩ (hP.sub [0, 1, 2, 3] rfl) (hD.sub [0, 1, 2, 3] rfl rfl) hS dX11_readKin_11
abbrev cX11_readOwes : ByteArray := prog_13_method_38_code
def yX11_readOwes : MethodName := ⟨RX11, "readOwes", "()Z"⟩
theorem t1686 : Cond.code yX11_readOwes cX11_readOwes 3 (some .boolean) ∈ GW := gw_mem 1800 (by decide +kernel) (by decide +kernel)
abbrev O_m_readOwes (cy : Nat → ClassId) (vo : Nat) (voth : Int32) (vmt : Nat) (votp : Int32) (vosz : Int32) (volm : Int32) (voto : Int32) (vofr : Int32) (vokd : Int32) (vonu : Int32) (vosg : Int32) (vofa : Int32) (vopl : Int32) (vowd : Int64) (votd : Int32) (vmn : Nat) (vmr : Nat) (vmk : Nat) (vms : Nat) (vma : Nat) (vmm : Nat) (vmrn : Nat) (vmkn : Nat) (vmik : Nat) (vmon : Nat) (vosm : Int32) (vohp : Int32) (vmw : Nat) (vmf : Nat) (vmb : Nat) (vomb : Int32) (vmd : Nat) (vmc : Nat) (vocm : Int32) (voct : Int32) (vocy : Int32) (vmx : Nat) (votx : Int32) (vose : Int32) (vml : Nat) (vmwr : Nat) (voln : Int32) (vohw : Int32) (vmno : Nat) (vond : Int32) (voon : Int32) (vowi : Int32) (votop : Int32) (vmtf : Nat → Int32) (vmrf : Nat → Int32) (vmrnf : Nat → Int64) (u : Int32 × Int32 × Int32 × Int32 × Int64 × Int32 × Int32 × Int32 × Int32 × (Nat → Int32)) : va_W := [(vo, .inr (12, [.int voth, .ref vmt, .int votp, .int vosz, .int volm, .int u.1, .int u.2.1, .int u.2.2.1, .int u.2.2.2.2.2.1, .int u.2.2.2.1, .int u.2.2.2.2.2.2.1, .int u.2.2.2.2.2.2.2.1, .long u.2.2.2.2.1, .int u.2.2.2.2.2.2.2.2.1, .ref vmn, .ref vmr, .ref vmk, .ref vms, .ref vma, .ref vmm, .ref vmrn, .ref vmkn, .ref vmik, .ref vmon, .int vosm, .int vohp, .ref vmw, .ref vmf, .ref vmb, .int vomb, .ref vmd, .ref vmc, .int vocm, .int voct, .int vocy, .ref vmx, .int votx, .int vose, .ref vml, .ref vmwr, .int voln, .int vohw, .ref vmno, .int vond, .int voon, .int vowi, .int votop])), (vmt, .inl (cy 0, 940, .inl vmtf)), (vmr, .inl (cy 0, 157, .inl u.2.2.2.2.2.2.2.2.2)), (vmrn, .inl (cy 1, 17, .inr (.inl vmrnf)))]
theorem dX11_readOwes_0 : decode cX11_readOwes 0 = .ok (.aload_n 0, 1) := by decide +kernel
theorem dX11_readOwes_1 : decode cX11_readOwes 1 = .ok (.invokevirtual 191, 3) := by decide +kernel
theorem dX11_readOwes_4 : decode cX11_readOwes 4 = .ok (.istore_n 1, 1) := by decide +kernel
theorem dX11_readOwes_5 : decode cX11_readOwes 5 = .ok (.iload_n 1, 1) := by decide +kernel
theorem dX11_readOwes_6 : decode cX11_readOwes 6 = .ok (.iconst (-1), 1) := by decide +kernel
theorem dX11_readOwes_7 : decode cX11_readOwes 7 = .ok (.if_icmp .ne 5, 3) := by decide +kernel
theorem dX11_readOwes_12 : decode cX11_readOwes 12 = .ok (.bipush 108, 2) := by decide +kernel
theorem dX11_readOwes_14 : decode cX11_readOwes 14 = .ok (.bipush 7, 2) := by decide +kernel
theorem dX11_readOwes_16 : decode cX11_readOwes 16 = .ok (.iload_n 1, 1) := by decide +kernel
theorem dX11_readOwes_17 : decode cX11_readOwes 17 = .ok (.imul, 1) := by decide +kernel
theorem dX11_readOwes_18 : decode cX11_readOwes 18 = .ok (.iadd, 1) := by decide +kernel
theorem dX11_readOwes_19 : decode cX11_readOwes 19 = .ok (.aload_n 0, 1) := by decide +kernel
theorem dX11_readOwes_20 : decode cX11_readOwes 20 = .ok (.getfield 79, 3) := by decide +kernel
theorem dX11_readOwes_23 : decode cX11_readOwes 23 = .ok (.iadd, 1) := by decide +kernel
theorem dX11_readOwes_24 : decode cX11_readOwes 24 = .ok (.istore_n 2, 1) := by decide +kernel
theorem dX11_readOwes_25 : decode cX11_readOwes 25 = .ok (.aload_n 0, 1) := by decide +kernel
theorem dX11_readOwes_26 : decode cX11_readOwes 26 = .ok (.getfield 101, 3) := by decide +kernel
theorem dX11_readOwes_29 : decode cX11_readOwes 29 = .ok (.iload_n 2, 1) := by decide +kernel
theorem dX11_readOwes_30 : decode cX11_readOwes 30 = .ok (.iaload, 1) := by decide +kernel
theorem dX11_readOwes_31 : decode cX11_readOwes 31 = .ok (.ifCond .eq 9, 3) := by decide +kernel
theorem dX11_readOwes_40 : decode cX11_readOwes 40 = .ok (.aload_n 0, 1) := by decide +kernel
theorem dX11_readOwes_41 : decode cX11_readOwes 41 = .ok (.invokevirtual 82, 3) := by decide +kernel
theorem dX11_readOwes_44 : decode cX11_readOwes 44 = .ok (.aload_n 0, 1) := by decide +kernel
theorem dX11_readOwes_45 : decode cX11_readOwes 45 = .ok (.iload_n 2, 1) := by decide +kernel
theorem dX11_readOwes_46 : decode cX11_readOwes 46 = .ok (.aload_n 0, 1) := by decide +kernel
theorem dX11_readOwes_47 : decode cX11_readOwes 47 = .ok (.iconst 1, 1) := by decide +kernel
theorem dX11_readOwes_48 : decode cX11_readOwes 48 = .ok (.bipush 40, 2) := by decide +kernel
theorem dX11_readOwes_50 : decode cX11_readOwes 50 = .ok (.invokevirtual 178, 3) := by decide +kernel
theorem dX11_readOwes_53 : decode cX11_readOwes 53 = .ok (.invokevirtual 181, 3) := by decide +kernel
theorem dX11_readOwes_56 : decode cX11_readOwes 56 = .ok (.ireturn, 1) := by decide +kernel
theorem dX11_readOwes_34 : decode cX11_readOwes 34 = .ok (.aload_n 0, 1) := by decide +kernel
theorem dX11_readOwes_35 : decode cX11_readOwes 35 = .ok (.iconst 3, 1) := by decide +kernel
theorem dX11_readOwes_36 : decode cX11_readOwes 36 = .ok (.invokevirtual 72, 3) := by decide +kernel
theorem dX11_readOwes_39 : decode cX11_readOwes 39 = .ok (.ireturn, 1) := by decide +kernel
theorem dX11_readOwes_10 : decode cX11_readOwes 10 = .ok (.iconst 0, 1) := by decide +kernel
theorem dX11_readOwes_11 : decode cX11_readOwes 11 = .ok (.ireturn, 1) := by decide +kernel
set_option maxHeartbeats 4000000 in
set_option maxRecDepth 100000 in
theorem m_readOwes (l : Launch) (dC : Nat → ClassId) (dI : Nat → Nat → Nat) (cy : Nat → ClassId) (sz : Nat) (vo : Nat) (voth : Int32) (vmt : Nat) (votp : Int32) (vosz : Int32) (volm : Int32) (voto : Int32) (vofr : Int32) (vokd : Int32) (vonu : Int32) (vosg : Int32) (vofa : Int32) (vopl : Int32) (vowd : Int64) (votd : Int32) (vmn : Nat) (vmr : Nat) (vmk : Nat) (vms : Nat) (vma : Nat) (vmm : Nat) (vmrn : Nat) (vmkn : Nat) (vmik : Nat) (vmon : Nat) (vosm : Int32) (vohp : Int32) (vmw : Nat) (vmf : Nat) (vmb : Nat) (vomb : Int32) (vmd : Nat) (vmc : Nat) (vocm : Int32) (voct : Int32) (vocy : Int32) (vmx : Nat) (votx : Int32) (vose : Int32) (vml : Nat) (vmwr : Nat) (voln : Int32) (vohw : Int32) (vmno : Nat) (vond : Int32) (voon : Int32) (vowi : Int32) (votop : Int32) (vmtf : Nat → Int32) (vmrf : Nat → Int32) (vmrnf : Nat → Int64) (r_vosz : 0 ≤ (vosz : Int32).toInt ∧ (vosz : Int32).toInt ≤ 940) (r_voto : 0 ≤ (voto : Int32).toInt ∧ (voto : Int32).toInt ≤ 940) (r_votd : -1 ≤ (votd : Int32).toInt ∧ (votd : Int32).toInt ≤ 999) (p_vmtf : Rg vmtf 940 0 255) (p_vmrf : RD vmrf) : Met l yX11_readOwes (wl yX11_readOwes cX11_readOwes 3 (some .boolean)) ({ frames := 5, cells := 0, slots := 0, locals := 320 }) (Pw (dC, dI) vwCl cy [(vo, .inr (12, [.int voth, .ref vmt, .int votp, .int vosz, .int volm, .int voto, .int vofr, .int vokd, .int vonu, .int vosg, .int vofa, .int vopl, .long vowd, .int votd, .ref vmn, .ref vmr, .ref vmk, .ref vms, .ref vma, .ref vmm, .ref vmrn, .ref vmkn, .ref vmik, .ref vmon, .int vosm, .int vohp, .ref vmw, .ref vmf, .ref vmb, .int vomb, .ref vmd, .ref vmc, .int vocm, .int voct, .int vocy, .ref vmx, .int votx, .int vose, .ref vml, .ref vmwr, .int voln, .int vohw, .ref vmno, .int vond, .int voon, .int vowi, .int votop])), (vmt, .inl (cy 0, 940, .inl vmtf)), (vmr, .inl (cy 0, 157, .inl vmrf)), (vmrn, .inl (cy 1, 17, .inr (.inl vmrnf)))] sz [.ref vo] nE) (Qi (dC, dI) vwCl (fun (r : Int32) (u : Int32 × Int32 × Int32 × Int32 × Int64 × Int32 × Int32 × Int32 × Int32 × (Nat → Int32)) => ((r = 0) ∨ (r = 1 ∧ ((u.2.2.1 : Int32).toInt = 0 ∨ (u.2.2.1 : Int32).toInt = 1 ∨ (voto : Int32).toInt + 1 ≤ (u.1 : Int32).toInt))) ∧ (0 ≤ (u.1 : Int32).toInt ∧ (u.1 : Int32).toInt ≤ 940) ∧ (-1 ≤ (u.2.2.2.2.2.2.2.2.1 : Int32).toInt ∧ (u.2.2.2.2.2.2.2.2.1 : Int32).toInt ≤ 999) ∧ (RD u.2.2.2.2.2.2.2.2.2) ∧ ((voto : Int32).toInt ≤ (u.1 : Int32).toInt)) (O_m_readOwes cy vo voth vmt votp vosz volm voto vofr vokd vonu vosg vofa vopl vowd votd vmn vmr vmk vms vma vmm vmrn vmkn vmik vmon vosm vohp vmw vmf vmb vomb vmd vmc vocm voct vocy vmx votx vose vml vmwr voln vohw vmno vond voon vowi votop vmtf vmrf vmrnf) (va_A [(vo, .inr (12, [.int voth, .ref vmt, .int votp, .int vosz, .int volm, .int voto, .int vofr, .int vokd, .int vonu, .int vosg, .int vofa, .int vopl, .long vowd, .int votd, .ref vmn, .ref vmr, .ref vmk, .ref vms, .ref vma, .ref vmm, .ref vmrn, .ref vmkn, .ref vmik, .ref vmon, .int vosm, .int vohp, .ref vmw, .ref vmf, .ref vmb, .int vomb, .ref vmd, .ref vmc, .int vocm, .int voct, .int vocy, .ref vmx, .int votx, .int vose, .ref vml, .ref vmwr, .int voln, .int vohw, .ref vmno, .int vond, .int voon, .int vowi, .int votop])), (vmt, .inl (cy 0, 940, .inl vmtf)), (vmr, .inl (cy 0, 157, .inl vmrf)), (vmrn, .inl (cy 1, 17, .inr (.inl vmrnf)))] sz)) 0 0 (va_A [(vo, .inr (12, [.int voth, .ref vmt, .int votp, .int vosz, .int volm, .int voto, .int vofr, .int vokd, .int vonu, .int vosg, .int vofa, .int vopl, .long vowd, .int votd, .ref vmn, .ref vmr, .ref vmk, .ref vms, .ref vma, .ref vmm, .ref vmrn, .ref vmkn, .ref vmik, .ref vmon, .int vosm, .int vohp, .ref vmw, .ref vmf, .ref vmb, .int vomb, .ref vmd, .ref vmc, .int vocm, .int voct, .int vocy, .ref vmx, .int votx, .int vose, .ref vml, .ref vmwr, .int voln, .int vohw, .ref vmno, .int vond, .int voon, .int vowi, .int votop])), (vmt, .inl (cy 0, 940, .inl vmtf)), (vmr, .inl (cy 0, 157, .inl vmrf)), (vmrn, .inl (cy 1, 17, .inr (.inl vmrnf)))] sz) := by
  refine mw (Qc := Qi (dC, dI) vwCl (fun (r : Int32) (u : Int32 × Int32 × Int32 × Int32 × Int64 × Int32 × Int32 × Int32 × Int32 × (Nat → Int32)) => ((r = 0) ∨ (r = 1 ∧ ((u.2.2.1 : Int32).toInt = 0 ∨ (u.2.2.1 : Int32).toInt = 1 ∨ (voto : Int32).toInt + 1 ≤ (u.1 : Int32).toInt))) ∧ (0 ≤ (u.1 : Int32).toInt ∧ (u.1 : Int32).toInt ≤ 940) ∧ (-1 ≤ (u.2.2.2.2.2.2.2.2.1 : Int32).toInt ∧ (u.2.2.2.2.2.2.2.2.1 : Int32).toInt ≤ 999) ∧ (RD u.2.2.2.2.2.2.2.2.2) ∧ ((voto : Int32).toInt ≤ (u.1 : Int32).toInt)) (O_m_readOwes cy vo voth vmt votp vosz volm voto vofr vokd vonu vosg vofa vopl vowd votd vmn vmr vmk vms vma vmm vmrn vmkn vmik vmon vosm vohp vmw vmf vmb vomb vmd vmc vocm voct vocy vmx votx vose vml vmwr voln vohw vmno vond voon vowi votop vmtf vmrf vmrnf)) RX11 rfl (by decide +kernel) (Nat.le_of_ble_eq_true rfl) ?_
  intro p e s m below meth c A hx hb hr hlocks av9 hav hts hown hnm hml hK hP hD hA hS hE hAe Q9 hQ9 ls hl
  have hl : lv_has ls 3 [(0, .ref vo)] := hl
  refine lv_aload_n hx hb dX11_readOwes_0 rfl (lv_at hl 0 rfl) ?_
  refine jn_i (wr := []) (rV (As := []) (rest := []) (ci := 12) ⟨hx, hb, hml, hown, hts⟩ (m_readPair l dC dI cy _ vo voth vmt votp vosz volm voto vofr vokd vonu vosg vofa vopl vowd votd vmn vmr vmk vms vma vmm vmrn vmkn vmik vmon vosm vohp vmw vmf vmb vomb vmd vmc vocm voct vocy vmx votx vose vml vmwr voln vohw vmno vond voon vowi votop vmtf vmrf vmrnf r_vosz r_voto r_votd p_vmtf p_vmrf) (cw_X11_191 hts rfl rfl ⟨Nat.le_of_ble_eq_true rfl, Nat.le_of_ble_eq_true rfl⟩) hP hD hK [0, 1, 2, 3] rfl rfl rfl rfl bl0 e0 rfl hl.1 rfl (Nat.le_of_ble_eq_true rfl) dX11_readOwes_1 ⟨Nat.le_of_ble_eq_true rfl, Nat.le_of_ble_eq_true rfl⟩) hP hD hS hA [0, 1, 2, 3] [] rfl rfl rfl (by decide) (fun r_1 u_3 H locs hp_2 hP hD hS => ?_)
  obtain ⟨voto_4, vofr_5, vokd_6, vosg_7, vowd_8, vonu_9, vofa_10, vopl_11, votd_12⟩ := u_3
  have hp_2 : (-1 ≤ (r_1 : Int32).toInt ∧ (r_1 : Int32).toInt ≤ 6) ∧ (0 ≤ (voto_4 : Int32).toInt ∧ (voto_4 : Int32).toInt ≤ 940) ∧ (-1 ≤ (votd_12 : Int32).toInt ∧ (votd_12 : Int32).toInt ≤ 999) ∧ ((voto : Int32).toInt ≤ (voto_4 : Int32).toInt) ∧ (((r_1 : Int32).toInt = -1) ∨ (0 ≤ (r_1 : Int32).toInt ∧ 0 ≤ (votd_12 : Int32).toInt ∧ (votd_12 : Int32).toInt ≤ 6)) := hp_2
  obtain ⟨q_13, q_14, q_15, q_16, q_17⟩ := hp_2
  have hP : va_P (dC, dI) vwCl [(vo, .inr (12, [.int voth, .ref vmt, .int votp, .int vosz, .int volm, .int voto_4, .int vofr_5, .int vokd_6, .int vonu_9, .int vosg_7, .int vofa_10, .int vopl_11, .long vowd_8, .int votd_12, .ref vmn, .ref vmr, .ref vmk, .ref vms, .ref vma, .ref vmm, .ref vmrn, .ref vmkn, .ref vmik, .ref vmon, .int vosm, .int vohp, .ref vmw, .ref vmf, .ref vmb, .int vomb, .ref vmd, .ref vmc, .int vocm, .int voct, .int vocy, .ref vmx, .int votx, .int vose, .ref vml, .ref vmwr, .int voln, .int vohw, .ref vmno, .int vond, .int voon, .int vowi, .int votop])), (vmt, .inl (cy 0, 940, .inl vmtf)), (vmr, .inl (cy 0, 157, .inl vmrf)), (vmrn, .inl (cy 1, 17, .inr (.inl vmrnf)))] H := hP
  have hD : va_D A [(vo, .inr (12, [.int voth, .ref vmt, .int votp, .int vosz, .int volm, .int voto_4, .int vofr_5, .int vokd_6, .int vonu_9, .int vosg_7, .int vofa_10, .int vopl_11, .long vowd_8, .int votd_12, .ref vmn, .ref vmr, .ref vmk, .ref vms, .ref vma, .ref vmm, .ref vmrn, .ref vmkn, .ref vmik, .ref vmon, .int vosm, .int vohp, .ref vmw, .ref vmf, .ref vmb, .int vomb, .ref vmd, .ref vmc, .int vocm, .int voct, .int vocy, .ref vmx, .int votx, .int vose, .ref vml, .ref vmwr, .int voln, .int vohw, .ref vmno, .int vond, .int voon, .int vowi, .int votop])), (vmt, .inl (cy 0, 940, .inl vmtf)), (vmr, .inl (cy 0, 157, .inl vmrf)), (vmrn, .inl (cy 1, 17, .inr (.inl vmrnf)))] := hD
  refine lv_istore_n (lv' := [(1, .int r_1), (0, .ref vo)]) hx hb dX11_readOwes_4 rfl hl (by decide) rfl (fun ls hl => ?_)
  refine lv_iload_n hx hb dX11_readOwes_5 rfl (lv_at hl 0 rfl) ?_
  refine lv_iconst (v := (-1)) hx hb dX11_readOwes_6 (by decide) ?_
  have k_m1 : ((-1) : Int32).toInt = (-1) := by decide
  refine lv_icmp_ne (tgt := 12) hx hb dX11_readOwes_7 (by decide) (fun c_18 => ?_) (fun c_18 => ?_)
  · skip
    have c_18 : ¬ (r_1.toInt = ((-1) : Int32).toInt) := fun h9 => c_18 (i_eq.mpr h9)
    refine lv_bipush (v := 108) hx hb dX11_readOwes_12 (by decide) ?_
    refine lv_bipush (v := 7) hx hb dX11_readOwes_14 (by decide) ?_
    refine lv_iload_n hx hb dX11_readOwes_16 rfl (lv_at hl 0 rfl) ?_
    refine lv_imul hx hb dX11_readOwes_17 ?_
    refine lv_topi (fun z_19 ez_19 => ?_)
    have k_7 : (7 : Int32).toInt = 7 := by decide
    have bz_19 : z_19.toInt = r_1.toInt * 7 := i_cmul k_7 ez_19 (by omega) (by omega)
    refine lv_iadd hx hb dX11_readOwes_18 ?_
    refine lv_topi (fun z_20 ez_20 => ?_)
    have k_108 : (108 : Int32).toInt = 108 := by decide
    have bz_20 : z_20.toInt = (108 : Int32).toInt + z_19.toInt := i_add ez_20 (by omega) (by omega)
    refine lv_aload_n hx hb dX11_readOwes_19 rfl (lv_at hl 1 rfl) ?_
    refine gf_X11_79 hx hb hts hown hK hP 0 rfl rfl dX11_readOwes_20 ?_
    refine lv_iadd hx hb dX11_readOwes_23 ?_
    refine lv_topi (fun z_21 ez_21 => ?_)
    have bz_21 : z_21.toInt = z_20.toInt + votd_12.toInt := i_add ez_21 (by omega) (by omega)
    refine lv_istore_n (lv' := [(2, .int z_21), (1, .int r_1), (0, .ref vo)]) hx hb dX11_readOwes_24 rfl hl (by decide) rfl (fun ls hl => ?_)
    refine lv_aload_n hx hb dX11_readOwes_25 rfl (lv_at hl 2 rfl) ?_
    refine gf_X11_101 hx hb hts hown hK hP 0 rfl rfl dX11_readOwes_26 ?_
    refine lv_iload_n hx hb dX11_readOwes_29 rfl (lv_at hl 0 rfl) ?_
    have hin_22 : vp_in z_21 157 := vp_in_iff.mpr ⟨by omega, by omega⟩
    refine va_iald hx hb hK hP 2 0 rfl rfl hin_22 dX11_readOwes_30 ?_
    refine lv_topi (fun z_23 ez_23 => ?_)
    have k_0 : (0 : Int32).toInt = 0 := by decide
    refine lv_if_eq (tgt := 40) hx hb dX11_readOwes_31 (by decide) (fun c_24 => ?_) (fun c_24 => ?_)
    · skip
      have c_24 : z_23.toInt = (0 : Int32).toInt := i_eq.mp c_24
      refine lv_aload_n hx hb dX11_readOwes_40 rfl (lv_at hl 2 rfl) ?_
      refine jn_v (wr := [(vmr, .inl (cy 0, 157, .inl vmrf)), (vmrn, .inl (cy 1, 17, .inr (.inl vmrnf)))]) (rV (As := []) (rest := []) (ci := 12) ⟨hx, hb, hml, hown, hts⟩ (m_go l dC dI cy _ vo voth vmt votp vosz volm voto_4 vofr_5 vokd_6 vonu_9 vosg_7 vofa_10 vopl_11 vowd_8 votd_12 vmn vmr vmk vms vma vmm vmrn vmkn vmik vmon vosm vohp vmw vmf vmb vomb vmd vmc vocm voct vocy vmx votx vose vml vmwr voln vohw vmno vond voon vowi votop vmtf r_vosz ⟨by omega, by omega⟩ p_vmtf) (cw_X11_82 hts rfl rfl ⟨Nat.le_of_ble_eq_true rfl, Nat.le_of_ble_eq_true rfl⟩) hP hD hK [0, 1] rfl rfl rfl rfl bl0 e0 rfl hl.1 rfl (Nat.le_of_ble_eq_true rfl) dX11_readOwes_41 ⟨Nat.le_of_ble_eq_true rfl, Nat.le_of_ble_eq_true rfl⟩) hP hD hS hA [0, 1] [2, 3] rfl rfl rfl (by decide) (fun u_27 H locs hp_26 hP hD hS => ?_)
      obtain ⟨voto_28, vofr_29, vokd_30, vosg_31, vowd_32, vonu_33⟩ := u_27
      have hp_26 : (0 ≤ (voto_28 : Int32).toInt ∧ (voto_28 : Int32).toInt ≤ 940) ∧ ((voto_4 : Int32).toInt ≤ (voto_28 : Int32).toInt) ∧ (((vokd_30 : Int32).toInt = 0 ∨ (vokd_30 : Int32).toInt = 1 ∨ (voto_4 : Int32).toInt + 1 ≤ (voto_28 : Int32).toInt)) := hp_26
      obtain ⟨q_34, q_35, q_36⟩ := hp_26
      have hP : va_P (dC, dI) vwCl [(vmr, .inl (cy 0, 157, .inl vmrf)), (vmrn, .inl (cy 1, 17, .inr (.inl vmrnf))), (vo, .inr (12, [.int voth, .ref vmt, .int votp, .int vosz, .int volm, .int voto_28, .int vofr_29, .int vokd_30, .int vonu_33, .int vosg_31, .int vofa_10, .int vopl_11, .long vowd_32, .int votd_12, .ref vmn, .ref vmr, .ref vmk, .ref vms, .ref vma, .ref vmm, .ref vmrn, .ref vmkn, .ref vmik, .ref vmon, .int vosm, .int vohp, .ref vmw, .ref vmf, .ref vmb, .int vomb, .ref vmd, .ref vmc, .int vocm, .int voct, .int vocy, .ref vmx, .int votx, .int vose, .ref vml, .ref vmwr, .int voln, .int vohw, .ref vmno, .int vond, .int voon, .int vowi, .int votop])), (vmt, .inl (cy 0, 940, .inl vmtf))] H := hP
      have hD : va_D A [(vmr, .inl (cy 0, 157, .inl vmrf)), (vmrn, .inl (cy 1, 17, .inr (.inl vmrnf))), (vo, .inr (12, [.int voth, .ref vmt, .int votp, .int vosz, .int volm, .int voto_28, .int vofr_29, .int vokd_30, .int vonu_33, .int vosg_31, .int vofa_10, .int vopl_11, .long vowd_32, .int votd_12, .ref vmn, .ref vmr, .ref vmk, .ref vms, .ref vma, .ref vmm, .ref vmrn, .ref vmkn, .ref vmik, .ref vmon, .int vosm, .int vohp, .ref vmw, .ref vmf, .ref vmb, .int vomb, .ref vmd, .ref vmc, .int vocm, .int voct, .int vocy, .ref vmx, .int votx, .int vose, .ref vml, .ref vmwr, .int voln, .int vohw, .ref vmno, .int vond, .int voon, .int vowi, .int votop])), (vmt, .inl (cy 0, 940, .inl vmtf))] := hD
      refine lv_aload_n hx hb dX11_readOwes_44 rfl (lv_at hl 2 rfl) ?_
      refine lv_iload_n hx hb dX11_readOwes_45 rfl (lv_at hl 0 rfl) ?_
      refine lv_aload_n hx hb dX11_readOwes_46 rfl (lv_at hl 2 rfl) ?_
      refine lv_iconst (v := 1) hx hb dX11_readOwes_47 (by decide) ?_
      refine lv_bipush (v := 40) hx hb dX11_readOwes_48 (by decide) ?_
      have k_1 : (1 : Int32).toInt = 1 := by decide
      have k_40 : (40 : Int32).toInt = 40 := by decide
      refine jn_i (wr := [(vmr, .inl (cy 0, 157, .inl vmrf)), (vmrn, .inl (cy 1, 17, .inr (.inl vmrnf)))]) (rV (As := [.int 1, .int 40]) (rest := [.int z_21, .ref vo]) (ci := 12) ⟨hx, hb, hml, hown, hts⟩ (m_readNumber l dC dI cy _ vo voth vmt votp vosz volm voto_28 vofr_29 vokd_30 vonu_33 vosg_31 vofa_10 vopl_11 vowd_32 votd_12 vmn vmr vmk vms vma vmm vmrn vmkn vmik vmon vosm vohp vmw vmf vmb vomb vmd vmc vocm voct vocy vmx votx vose vml vmwr voln vohw vmno vond voon vowi votop vmtf 1 40 r_vosz ⟨by omega, by omega⟩ ⟨by omega, by omega⟩ ⟨by omega, by omega⟩ ⟨by omega, by omega⟩ p_vmtf) (cw_X11_178 hts rfl rfl ⟨Nat.le_of_ble_eq_true rfl, Nat.le_of_ble_eq_true rfl⟩) hP hD hK [2, 3] rfl rfl rfl rfl bl0 e0 rfl hl.1 rfl (Nat.le_of_ble_eq_true rfl) dX11_readOwes_50 ⟨Nat.le_of_ble_eq_true rfl, Nat.le_of_ble_eq_true rfl⟩) hP hD hS hA [2, 3] [0, 1] rfl rfl rfl (by decide) (fun r_37 u_39 H locs hp_38 hP hD hS => ?_)
      obtain ⟨voto_40, vofr_41, vokd_42, vosg_43, vowd_44, vonu_45, vofa_46, vopl_47, votd_48⟩ := u_39
      have hp_38 : ((r_37 = 0 ∧ (votd_48 : Int32).toInt = (votd_12 : Int32).toInt) ∨ (r_37 = 1 ∧ (1 : Int32).toInt ≤ (votd_48 : Int32).toInt ∧ (votd_48 : Int32).toInt ≤ (40 : Int32).toInt ∧ ((vokd_42 : Int32).toInt = 0 ∨ (vokd_42 : Int32).toInt = 1 ∨ (voto_28 : Int32).toInt + 1 ≤ (voto_40 : Int32).toInt))) ∧ (0 ≤ (voto_40 : Int32).toInt ∧ (voto_40 : Int32).toInt ≤ 940) ∧ (-1 ≤ (votd_48 : Int32).toInt ∧ (votd_48 : Int32).toInt ≤ 999) ∧ ((voto_28 : Int32).toInt ≤ (voto_40 : Int32).toInt) := hp_38
      obtain ⟨q_49, q_50, q_51, q_52⟩ := hp_38
      have hP : va_P (dC, dI) vwCl [(vmr, .inl (cy 0, 157, .inl vmrf)), (vmrn, .inl (cy 1, 17, .inr (.inl vmrnf))), (vo, .inr (12, [.int voth, .ref vmt, .int votp, .int vosz, .int volm, .int voto_40, .int vofr_41, .int vokd_42, .int vonu_45, .int vosg_43, .int vofa_46, .int vopl_47, .long vowd_44, .int votd_48, .ref vmn, .ref vmr, .ref vmk, .ref vms, .ref vma, .ref vmm, .ref vmrn, .ref vmkn, .ref vmik, .ref vmon, .int vosm, .int vohp, .ref vmw, .ref vmf, .ref vmb, .int vomb, .ref vmd, .ref vmc, .int vocm, .int voct, .int vocy, .ref vmx, .int votx, .int vose, .ref vml, .ref vmwr, .int voln, .int vohw, .ref vmno, .int vond, .int voon, .int vowi, .int votop])), (vmt, .inl (cy 0, 940, .inl vmtf))] H := hP
      have hD : va_D A [(vmr, .inl (cy 0, 157, .inl vmrf)), (vmrn, .inl (cy 1, 17, .inr (.inl vmrnf))), (vo, .inr (12, [.int voth, .ref vmt, .int votp, .int vosz, .int volm, .int voto_40, .int vofr_41, .int vokd_42, .int vonu_45, .int vosg_43, .int vofa_46, .int vopl_47, .long vowd_44, .int votd_48, .ref vmn, .ref vmr, .ref vmk, .ref vms, .ref vma, .ref vmm, .ref vmrn, .ref vmkn, .ref vmik, .ref vmon, .int vosm, .int vohp, .ref vmw, .ref vmf, .ref vmb, .int vomb, .ref vmd, .ref vmc, .int vocm, .int voct, .int vocy, .ref vmx, .int votx, .int vose, .ref vml, .ref vmwr, .int voln, .int vohw, .ref vmno, .int vond, .int voon, .int vowi, .int votop])), (vmt, .inl (cy 0, 940, .inl vmtf))] := hD
      rcases q_49 with ⟨aq_49, f0q_49⟩ | ⟨aq_49, f0q_49, f1q_49, f2q_49⟩
      · skip
        refine as_i 0 aq_49 ?_
        refine jr_i (rVr (As := [.int z_21, .int 0]) (rest := []) (ci := 12) ⟨hx, hb, hml, hown, hts⟩ (m_put_0 l dC dI cy vo voth vmt votp vosz volm voto_40 vofr_41 vokd_42 vonu_45 vosg_43 vofa_46 vopl_47 vowd_44 votd_48 vmn vmr vmk vms vma vmm vmrn vmkn vmik vmon vosm vohp vmw vmf vmb vomb vmd vmc vocm voct vocy vmx votx vose vml vmwr voln vohw vmno vond voon vowi votop z_21 ) (cw_X11_181 hts rfl rfl ⟨Nat.le_of_ble_eq_true rfl, Nat.le_of_ble_eq_true rfl⟩) hP hK [2] rfl rfl rfl rfl hl.1 rfl (Nat.le_of_ble_eq_true rfl) dX11_readOwes_53 ⟨Nat.le_of_ble_eq_true rfl, Nat.le_of_ble_eq_true rfl⟩) hP hS (fun r_53 H locs hp_54 hP hS => ?_)
        have hp_54 : ((r_53 = 0)) := hp_54
        have q_55 := hp_54
        have aq_55 := q_55
        · skip
          refine as_i 0 aq_55 ?_
          rw [hQ9]
          exact re_z (voto_40, vofr_41, vokd_42, vosg_43, vowd_44, vonu_45, vofa_46, vopl_47, votd_48, vmrf) hx hb hr hlocks (Or.inl rfl) ⟨(show ((0 : Int32) = 0) ∨ ((0 : Int32) = 1 ∧ ((vokd_42 : Int32).toInt = 0 ∨ (vokd_42 : Int32).toInt = 1 ∨ (voto : Int32).toInt + 1 ≤ (voto_40 : Int32).toInt)) from (Or.inl rfl)), (show 0 ≤ (voto_40 : Int32).toInt ∧ (voto_40 : Int32).toInt ≤ 940 from ⟨by omega, by omega⟩), (show -1 ≤ (votd_48 : Int32).toInt ∧ (votd_48 : Int32).toInt ≤ 999 from ⟨by omega, by omega⟩), (show RD vmrf from p_vmrf), (show (voto : Int32).toInt ≤ (voto_40 : Int32).toInt from (by omega))⟩ (hP.sub [2, 3, 0, 1] rfl) (hD.sub [2, 3, 0, 1] rfl rfl) hS dX11_readOwes_56
      · skip
        refine as_i 1 aq_49 ?_
        refine jn_i (wr := [(vmrn, .inl (cy 1, 17, .inr (.inl vmrnf))), (vmt, .inl (cy 0, 940, .inl vmtf))]) (rV (As := [.int z_21, .int 1]) (rest := []) (ci := 12) ⟨hx, hb, hml, hown, hts⟩ (m_put_1 l dC dI cy _ vo voth vmt votp vosz volm voto_40 vofr_41 vokd_42 vonu_45 vosg_43 vofa_46 vopl_47 vowd_44 votd_48 vmn vmr vmk vms vma vmm vmrn vmkn vmik vmon vosm vohp vmw vmf vmb vomb vmd vmc vocm voct vocy vmx votx vose vml vmwr voln vohw vmno vond voon vowi votop vmrf z_21 ⟨by omega, by omega⟩ ⟨by omega, by omega⟩ p_vmrf (by omega)) (cw_X11_181 hts rfl rfl ⟨Nat.le_of_ble_eq_true rfl, Nat.le_of_ble_eq_true rfl⟩) hP hD hK [2, 0] rfl rfl rfl rfl bl0 e0 rfl hl.1 rfl (Nat.le_of_ble_eq_true rfl) dX11_readOwes_53 ⟨Nat.le_of_ble_eq_true rfl, Nat.le_of_ble_eq_true rfl⟩) hP hD hS hA [2, 0] [1, 3] rfl rfl rfl (by decide) (fun r_56 u_58 H locs hp_57 hP hD hS => ?_)
        obtain ⟨vmrf_59, rfl⟩ : ∃ z, z = u_58 := ⟨_, rfl⟩
        have hp_57 : ((r_56 = 1)) ∧ (RD vmrf_59) ∧ ((vmrf_59 0).toInt = (vmrf 0).toInt) ∧ ((vmrf_59 1).toInt = (vmrf 1).toInt) := hp_57
        obtain ⟨q_60, q_61, q_62, q_63⟩ := hp_57
        have hP : va_P (dC, dI) vwCl [(vmrn, .inl (cy 1, 17, .inr (.inl vmrnf))), (vmt, .inl (cy 0, 940, .inl vmtf)), (vo, .inr (12, [.int voth, .ref vmt, .int votp, .int vosz, .int volm, .int voto_40, .int vofr_41, .int vokd_42, .int vonu_45, .int vosg_43, .int vofa_46, .int vopl_47, .long vowd_44, .int votd_48, .ref vmn, .ref vmr, .ref vmk, .ref vms, .ref vma, .ref vmm, .ref vmrn, .ref vmkn, .ref vmik, .ref vmon, .int vosm, .int vohp, .ref vmw, .ref vmf, .ref vmb, .int vomb, .ref vmd, .ref vmc, .int vocm, .int voct, .int vocy, .ref vmx, .int votx, .int vose, .ref vml, .ref vmwr, .int voln, .int vohw, .ref vmno, .int vond, .int voon, .int vowi, .int votop])), (vmr, .inl (cy 0, 157, .inl vmrf_59))] H := hP
        have hD : va_D A [(vmrn, .inl (cy 1, 17, .inr (.inl vmrnf))), (vmt, .inl (cy 0, 940, .inl vmtf)), (vo, .inr (12, [.int voth, .ref vmt, .int votp, .int vosz, .int volm, .int voto_40, .int vofr_41, .int vokd_42, .int vonu_45, .int vosg_43, .int vofa_46, .int vopl_47, .long vowd_44, .int votd_48, .ref vmn, .ref vmr, .ref vmk, .ref vms, .ref vma, .ref vmm, .ref vmrn, .ref vmkn, .ref vmik, .ref vmon, .int vosm, .int vohp, .ref vmw, .ref vmf, .ref vmb, .int vomb, .ref vmd, .ref vmc, .int vocm, .int voct, .int vocy, .ref vmx, .int votx, .int vose, .ref vml, .ref vmwr, .int voln, .int vohw, .ref vmno, .int vond, .int voon, .int vowi, .int votop])), (vmr, .inl (cy 0, 157, .inl vmrf_59))] := hD
        have aq_60 := q_60
        · skip
          refine as_i 1 aq_60 ?_
          rw [hQ9]
          exact re_z (voto_40, vofr_41, vokd_42, vosg_43, vowd_44, vonu_45, vofa_46, vopl_47, votd_48, vmrf_59) hx hb hr hlocks (Or.inr rfl) ⟨(show ((1 : Int32) = 0) ∨ ((1 : Int32) = 1 ∧ ((vokd_42 : Int32).toInt = 0 ∨ (vokd_42 : Int32).toInt = 1 ∨ (voto : Int32).toInt + 1 ≤ (voto_40 : Int32).toInt)) from (Or.inr (⟨rfl, by omega⟩))), (show 0 ≤ (voto_40 : Int32).toInt ∧ (voto_40 : Int32).toInt ≤ 940 from ⟨by omega, by omega⟩), (show -1 ≤ (votd_48 : Int32).toInt ∧ (votd_48 : Int32).toInt ≤ 999 from ⟨by omega, by omega⟩), (show RD vmrf_59 from q_61), (show (voto : Int32).toInt ≤ (voto_40 : Int32).toInt from (by omega))⟩ (hP.sub [2, 1, 3, 0] rfl) (hD.sub [2, 1, 3, 0] rfl rfl) hS dX11_readOwes_56
    · skip
      have c_24 : ¬ (z_23.toInt = (0 : Int32).toInt) := fun h9 => c_24 (i_eq.mpr h9)
      refine lv_aload_n hx hb dX11_readOwes_34 rfl (lv_at hl 2 rfl) ?_
      refine lv_iconst (v := 3) hx hb dX11_readOwes_35 (by decide) ?_
      have k_3 : (3 : Int32).toInt = 3 := by decide
      refine jn_i (wr := [(vmt, .inl (cy 0, 940, .inl vmtf)), (vmr, .inl (cy 0, 157, .inl vmrf)), (vmrn, .inl (cy 1, 17, .inr (.inl vmrnf)))]) (rV (As := [.int 3]) (rest := []) (ci := 12) ⟨hx, hb, hml, hown, hts⟩ (m_bad l dC dI cy _ vo voth vmt votp vosz volm voto_4 vofr_5 vokd_6 vonu_9 vosg_7 vofa_10 vopl_11 vowd_8 votd_12 vmn vmr vmk vms vma vmm vmrn vmkn vmik vmon vosm vohp vmw vmf vmb vomb vmd vmc vocm voct vocy vmx votx vose vml vmwr voln vohw vmno vond voon vowi votop 3 ) (cw_X11_72 hts rfl rfl ⟨Nat.le_of_ble_eq_true rfl, Nat.le_of_ble_eq_true rfl⟩) hP hD hK [0] rfl rfl rfl rfl bl0 e0 rfl hl.1 rfl (Nat.le_of_ble_eq_true rfl) dX11_readOwes_36 ⟨Nat.le_of_ble_eq_true rfl, Nat.le_of_ble_eq_true rfl⟩) hP hD hS hA [0] [1, 2, 3] rfl rfl rfl (by decide) (fun r_64 u_66 H locs hp_65 hP hD hS => ?_)
      obtain ⟨vofa_67, vopl_68⟩ := u_66
      have hp_65 : ((r_64 = 0)) := hp_65
      have q_69 := hp_65
      have hP : va_P (dC, dI) vwCl [(vmt, .inl (cy 0, 940, .inl vmtf)), (vmr, .inl (cy 0, 157, .inl vmrf)), (vmrn, .inl (cy 1, 17, .inr (.inl vmrnf))), (vo, .inr (12, [.int voth, .ref vmt, .int votp, .int vosz, .int volm, .int voto_4, .int vofr_5, .int vokd_6, .int vonu_9, .int vosg_7, .int vofa_67, .int vopl_68, .long vowd_8, .int votd_12, .ref vmn, .ref vmr, .ref vmk, .ref vms, .ref vma, .ref vmm, .ref vmrn, .ref vmkn, .ref vmik, .ref vmon, .int vosm, .int vohp, .ref vmw, .ref vmf, .ref vmb, .int vomb, .ref vmd, .ref vmc, .int vocm, .int voct, .int vocy, .ref vmx, .int votx, .int vose, .ref vml, .ref vmwr, .int voln, .int vohw, .ref vmno, .int vond, .int voon, .int vowi, .int votop]))] H := hP
      have hD : va_D A [(vmt, .inl (cy 0, 940, .inl vmtf)), (vmr, .inl (cy 0, 157, .inl vmrf)), (vmrn, .inl (cy 1, 17, .inr (.inl vmrnf))), (vo, .inr (12, [.int voth, .ref vmt, .int votp, .int vosz, .int volm, .int voto_4, .int vofr_5, .int vokd_6, .int vonu_9, .int vosg_7, .int vofa_67, .int vopl_68, .long vowd_8, .int votd_12, .ref vmn, .ref vmr, .ref vmk, .ref vms, .ref vma, .ref vmm, .ref vmrn, .ref vmkn, .ref vmik, .ref vmon, .int vosm, .int vohp, .ref vmw, .ref vmf, .ref vmb, .int vomb, .ref vmd, .ref vmc, .int vocm, .int voct, .int vocy, .ref vmx, .int votx, .int vose, .ref vml, .ref vmwr, .int voln, .int vohw, .ref vmno, .int vond, .int voon, .int vowi, .int votop]))] := hD
      have aq_69 := q_69
      · skip
        refine as_i 0 aq_69 ?_
        rw [hQ9]
        exact re_z (voto_4, vofr_5, vokd_6, vosg_7, vowd_8, vonu_9, vofa_67, vopl_68, votd_12, vmrf) hx hb hr hlocks (Or.inl rfl) ⟨(show ((0 : Int32) = 0) ∨ ((0 : Int32) = 1 ∧ ((vokd_6 : Int32).toInt = 0 ∨ (vokd_6 : Int32).toInt = 1 ∨ (voto : Int32).toInt + 1 ≤ (voto_4 : Int32).toInt)) from (Or.inl rfl)), (show 0 ≤ (voto_4 : Int32).toInt ∧ (voto_4 : Int32).toInt ≤ 940 from ⟨by omega, by omega⟩), (show -1 ≤ (votd_12 : Int32).toInt ∧ (votd_12 : Int32).toInt ≤ 999 from ⟨by omega, by omega⟩), (show RD vmrf from p_vmrf), (show (voto : Int32).toInt ≤ (voto_4 : Int32).toInt from q_16)⟩ (hP.sub [3, 0, 1, 2] rfl) (hD.sub [3, 0, 1, 2] rfl rfl) hS dX11_readOwes_39
  · skip
    have c_18 : r_1.toInt = ((-1) : Int32).toInt := i_eq.mp c_18
    refine lv_iconst (v := 0) hx hb dX11_readOwes_10 (by decide) ?_
    have k_0 : (0 : Int32).toInt = 0 := by decide
    rw [hQ9]
    exact re_z (voto_4, vofr_5, vokd_6, vosg_7, vowd_8, vonu_9, vofa_10, vopl_11, votd_12, vmrf) hx hb hr hlocks (Or.inl rfl) ⟨(show ((0 : Int32) = 0) ∨ ((0 : Int32) = 1 ∧ ((vokd_6 : Int32).toInt = 0 ∨ (vokd_6 : Int32).toInt = 1 ∨ (voto : Int32).toInt + 1 ≤ (voto_4 : Int32).toInt)) from (Or.inl rfl)), (show 0 ≤ (voto_4 : Int32).toInt ∧ (voto_4 : Int32).toInt ≤ 940 from ⟨by omega, by omega⟩), (show -1 ≤ (votd_12 : Int32).toInt ∧ (votd_12 : Int32).toInt ≤ 999 from ⟨by omega, by omega⟩), (show RD vmrf from p_vmrf), (show (voto : Int32).toInt ≤ (voto_4 : Int32).toInt from q_16)⟩ (hP.sub [0, 1, 2, 3] rfl) (hD.sub [0, 1, 2, 3] rfl rfl) hS dX11_readOwes_11
abbrev cX11_readOnce : ByteArray := prog_13_method_39_code
def yX11_readOnce : MethodName := ⟨RX11, "readOnce", "(IIII)Z"⟩
theorem t1690 : Cond.code yX11_readOnce cX11_readOnce 5 (some .boolean) ∈ GW := gw_mem 1804 (by decide +kernel) (by decide +kernel)
abbrev O_m_readOnce (cy : Nat → ClassId) (vo : Nat) (voth : Int32) (vmt : Nat) (votp : Int32) (vosz : Int32) (volm : Int32) (voto : Int32) (vofr : Int32) (vokd : Int32) (vonu : Int32) (vosg : Int32) (vofa : Int32) (vopl : Int32) (vowd : Int64) (votd : Int32) (vmn : Nat) (vmr : Nat) (vmk : Nat) (vms : Nat) (vma : Nat) (vmm : Nat) (vmrn : Nat) (vmkn : Nat) (vmik : Nat) (vmon : Nat) (vosm : Int32) (vohp : Int32) (vmw : Nat) (vmf : Nat) (vmb : Nat) (vomb : Int32) (vmd : Nat) (vmc : Nat) (vocm : Int32) (voct : Int32) (vocy : Int32) (vmx : Nat) (votx : Int32) (vose : Int32) (vml : Nat) (vmwr : Nat) (voln : Int32) (vohw : Int32) (vmno : Nat) (vond : Int32) (voon : Int32) (vowi : Int32) (votop : Int32) (vmtf : Nat → Int32) (vmrf : Nat → Int32) (vmonf : Nat → Int32) (vk : Int32) (vat : Int32) (vlo : Int32) (vhi : Int32) (u : Int32 × Int32 × Int32 × Int32 × Int64 × Int32 × Int32 × Int32 × Int32 × (Nat → Int32) × (Nat → Int32)) : va_W := [(vo, .inr (12, [.int voth, .ref vmt, .int votp, .int vosz, .int volm, .int u.1, .int u.2.1, .int u.2.2.1, .int u.2.2.2.2.2.1, .int u.2.2.2.1, .int u.2.2.2.2.2.2.1, .int u.2.2.2.2.2.2.2.1, .long u.2.2.2.2.1, .int u.2.2.2.2.2.2.2.2.1, .ref vmn, .ref vmr, .ref vmk, .ref vms, .ref vma, .ref vmm, .ref vmrn, .ref vmkn, .ref vmik, .ref vmon, .int vosm, .int vohp, .ref vmw, .ref vmf, .ref vmb, .int vomb, .ref vmd, .ref vmc, .int vocm, .int voct, .int vocy, .ref vmx, .int votx, .int vose, .ref vml, .ref vmwr, .int voln, .int vohw, .ref vmno, .int vond, .int voon, .int vowi, .int votop])), (vmt, .inl (cy 0, 940, .inl vmtf)), (vmr, .inl (cy 0, 157, .inl u.2.2.2.2.2.2.2.2.2.1)), (vmon, .inl (cy 2, 2, .inl u.2.2.2.2.2.2.2.2.2.2))]
theorem dX11_readOnce_0 : decode cX11_readOnce 0 = .ok (.aload_n 0, 1) := by decide +kernel
theorem dX11_readOnce_1 : decode cX11_readOnce 1 = .ok (.getfield 127, 3) := by decide +kernel
theorem t1465 : Cond.fieldLink RX11 127 "LikenessPoundModel" "onces" "[Z" ∈ GW := gw_mem 1579 (by decide +kernel) (by decide +kernel)
theorem gf_X11_127 {p : Program} {l : Launch} {e : Env} {R : Room} {s : State} {m : MethodId} {args : Array Value} {below : List Frame} {meth : Method} {c : Code} {H : Heap} {locs : List Loc} {cells slots : Nat} {Q : State → Prop} {cc : ByteArray} {pc : Nat} {ls : Array Slot} {rest : List Value} {D : va_G} {a : Nat} {tys : List (ClassId × FieldType)} {ws : va_W} (hx : p.tables.exec = Jvm.exec) (hb : c.code = cc) (hts : ∀ w ∈ GW, w.before args s = true) (hown : s.vm.findClass RX11 = some m.cls) (hK : va_K D vwCl tys s) (hP : va_P D vwCl ws H) (q0 : Nat) {fs : List Value} (he : ws[q0]? = some (a, .inr (12, fs))) {v : Value} (hv : fs[23]? = some v) (hdg : decode cc pc = .ok (.getfield 127, 3)) (kk : W p l e R s m args below meth c H locs cells slots Q (F0 m (pc + 3) ls (v :: rest))) : W p l e R s m args below meth c H locs cells slots Q (F0 m pc ls (.ref a :: rest)) := va_get (C := RX11) (T := TX11) (N := 47) (ci := 12) hx hb hts inX11 hown hK hP q0 he rfl 23 (by decide) (hts _ t1465) (fun _ h => h) hv hdg kk
theorem dX11_readOnce_4 : decode cX11_readOnce 4 = .ok (.iload_n 1, 1) := by decide +kernel
theorem dX11_readOnce_5 : decode cX11_readOnce 5 = .ok (.baload, 1) := by decide +kernel
theorem dX11_readOnce_6 : decode cX11_readOnce 6 = .ok (.ifCond .eq 9, 3) := by decide +kernel
theorem dX11_readOnce_15 : decode cX11_readOnce 15 = .ok (.aload_n 0, 1) := by decide +kernel
theorem dX11_readOnce_16 : decode cX11_readOnce 16 = .ok (.getfield 127, 3) := by decide +kernel
theorem dX11_readOnce_19 : decode cX11_readOnce 19 = .ok (.iload_n 1, 1) := by decide +kernel
theorem dX11_readOnce_20 : decode cX11_readOnce 20 = .ok (.iconst 1, 1) := by decide +kernel
theorem dX11_readOnce_21 : decode cX11_readOnce 21 = .ok (.bastore, 1) := by decide +kernel
theorem dX11_readOnce_22 : decode cX11_readOnce 22 = .ok (.aload_n 0, 1) := by decide +kernel
theorem dX11_readOnce_23 : decode cX11_readOnce 23 = .ok (.invokevirtual 82, 3) := by decide +kernel
theorem dX11_readOnce_26 : decode cX11_readOnce 26 = .ok (.aload_n 0, 1) := by decide +kernel
theorem dX11_readOnce_27 : decode cX11_readOnce 27 = .ok (.iload_n 2, 1) := by decide +kernel
theorem dX11_readOnce_28 : decode cX11_readOnce 28 = .ok (.aload_n 0, 1) := by decide +kernel
theorem dX11_readOnce_29 : decode cX11_readOnce 29 = .ok (.iload_n 3, 1) := by decide +kernel
theorem dX11_readOnce_30 : decode cX11_readOnce 30 = .ok (.iload 4, 2) := by decide +kernel
theorem dX11_readOnce_32 : decode cX11_readOnce 32 = .ok (.invokevirtual 178, 3) := by decide +kernel
theorem dX11_readOnce_35 : decode cX11_readOnce 35 = .ok (.invokevirtual 181, 3) := by decide +kernel
theorem dX11_readOnce_38 : decode cX11_readOnce 38 = .ok (.ireturn, 1) := by decide +kernel
theorem dX11_readOnce_9 : decode cX11_readOnce 9 = .ok (.aload_n 0, 1) := by decide +kernel
theorem dX11_readOnce_10 : decode cX11_readOnce 10 = .ok (.iconst 3, 1) := by decide +kernel
theorem dX11_readOnce_11 : decode cX11_readOnce 11 = .ok (.invokevirtual 72, 3) := by decide +kernel
theorem dX11_readOnce_14 : decode cX11_readOnce 14 = .ok (.ireturn, 1) := by decide +kernel
set_option maxHeartbeats 4000000 in
set_option maxRecDepth 100000 in
theorem m_readOnce (l : Launch) (dC : Nat → ClassId) (dI : Nat → Nat → Nat) (cy : Nat → ClassId) (sz : Nat) (vo : Nat) (voth : Int32) (vmt : Nat) (votp : Int32) (vosz : Int32) (volm : Int32) (voto : Int32) (vofr : Int32) (vokd : Int32) (vonu : Int32) (vosg : Int32) (vofa : Int32) (vopl : Int32) (vowd : Int64) (votd : Int32) (vmn : Nat) (vmr : Nat) (vmk : Nat) (vms : Nat) (vma : Nat) (vmm : Nat) (vmrn : Nat) (vmkn : Nat) (vmik : Nat) (vmon : Nat) (vosm : Int32) (vohp : Int32) (vmw : Nat) (vmf : Nat) (vmb : Nat) (vomb : Int32) (vmd : Nat) (vmc : Nat) (vocm : Int32) (voct : Int32) (vocy : Int32) (vmx : Nat) (votx : Int32) (vose : Int32) (vml : Nat) (vmwr : Nat) (voln : Int32) (vohw : Int32) (vmno : Nat) (vond : Int32) (voon : Int32) (vowi : Int32) (votop : Int32) (vmtf : Nat → Int32) (vmrf : Nat → Int32) (vmonf : Nat → Int32) (vk : Int32) (vat : Int32) (vlo : Int32) (vhi : Int32) (r_vosz : 0 ≤ (vosz : Int32).toInt ∧ (vosz : Int32).toInt ≤ 940) (r_voto : 0 ≤ (voto : Int32).toInt ∧ (voto : Int32).toInt ≤ 940) (r_votd : -1 ≤ (votd : Int32).toInt ∧ (votd : Int32).toInt ≤ 999) (r_vk : 0 ≤ (vk : Int32).toInt ∧ (vk : Int32).toInt ≤ 1) (r_vat : 2 ≤ (vat : Int32).toInt ∧ (vat : Int32).toInt ≤ 3) (r_vlo : 0 ≤ (vlo : Int32).toInt ∧ (vlo : Int32).toInt ≤ 1) (r_vhi : 0 ≤ (vhi : Int32).toInt ∧ (vhi : Int32).toInt ≤ 999) (p_vmtf : Rg vmtf 940 0 255) (p_vmrf : RD vmrf) : Met l yX11_readOnce (wl yX11_readOnce cX11_readOnce 5 (some .boolean)) ({ frames := 4, cells := 0, slots := 0, locals := 256 }) (Pw (dC, dI) vwCl cy [(vo, .inr (12, [.int voth, .ref vmt, .int votp, .int vosz, .int volm, .int voto, .int vofr, .int vokd, .int vonu, .int vosg, .int vofa, .int vopl, .long vowd, .int votd, .ref vmn, .ref vmr, .ref vmk, .ref vms, .ref vma, .ref vmm, .ref vmrn, .ref vmkn, .ref vmik, .ref vmon, .int vosm, .int vohp, .ref vmw, .ref vmf, .ref vmb, .int vomb, .ref vmd, .ref vmc, .int vocm, .int voct, .int vocy, .ref vmx, .int votx, .int vose, .ref vml, .ref vmwr, .int voln, .int vohw, .ref vmno, .int vond, .int voon, .int vowi, .int votop])), (vmt, .inl (cy 0, 940, .inl vmtf)), (vmr, .inl (cy 0, 157, .inl vmrf)), (vmon, .inl (cy 2, 2, .inl vmonf))] sz [.ref vo, .int vk, .int vat, .int vlo, .int vhi] nE) (Qi (dC, dI) vwCl (fun (r : Int32) (u : Int32 × Int32 × Int32 × Int32 × Int64 × Int32 × Int32 × Int32 × Int32 × (Nat → Int32) × (Nat → Int32)) => ((r = 0) ∨ (r = 1 ∧ ((u.2.2.1 : Int32).toInt = 0 ∨ (u.2.2.1 : Int32).toInt = 1 ∨ (voto : Int32).toInt + 1 ≤ (u.1 : Int32).toInt))) ∧ (0 ≤ (u.1 : Int32).toInt ∧ (u.1 : Int32).toInt ≤ 940) ∧ (-1 ≤ (u.2.2.2.2.2.2.2.2.1 : Int32).toInt ∧ (u.2.2.2.2.2.2.2.2.1 : Int32).toInt ≤ 999) ∧ (RD u.2.2.2.2.2.2.2.2.2.1) ∧ ((voto : Int32).toInt ≤ (u.1 : Int32).toInt)) (O_m_readOnce cy vo voth vmt votp vosz volm voto vofr vokd vonu vosg vofa vopl vowd votd vmn vmr vmk vms vma vmm vmrn vmkn vmik vmon vosm vohp vmw vmf vmb vomb vmd vmc vocm voct vocy vmx votx vose vml vmwr voln vohw vmno vond voon vowi votop vmtf vmrf vmonf vk vat vlo vhi) (va_A [(vo, .inr (12, [.int voth, .ref vmt, .int votp, .int vosz, .int volm, .int voto, .int vofr, .int vokd, .int vonu, .int vosg, .int vofa, .int vopl, .long vowd, .int votd, .ref vmn, .ref vmr, .ref vmk, .ref vms, .ref vma, .ref vmm, .ref vmrn, .ref vmkn, .ref vmik, .ref vmon, .int vosm, .int vohp, .ref vmw, .ref vmf, .ref vmb, .int vomb, .ref vmd, .ref vmc, .int vocm, .int voct, .int vocy, .ref vmx, .int votx, .int vose, .ref vml, .ref vmwr, .int voln, .int vohw, .ref vmno, .int vond, .int voon, .int vowi, .int votop])), (vmt, .inl (cy 0, 940, .inl vmtf)), (vmr, .inl (cy 0, 157, .inl vmrf)), (vmon, .inl (cy 2, 2, .inl vmonf))] sz)) 0 0 (va_A [(vo, .inr (12, [.int voth, .ref vmt, .int votp, .int vosz, .int volm, .int voto, .int vofr, .int vokd, .int vonu, .int vosg, .int vofa, .int vopl, .long vowd, .int votd, .ref vmn, .ref vmr, .ref vmk, .ref vms, .ref vma, .ref vmm, .ref vmrn, .ref vmkn, .ref vmik, .ref vmon, .int vosm, .int vohp, .ref vmw, .ref vmf, .ref vmb, .int vomb, .ref vmd, .ref vmc, .int vocm, .int voct, .int vocy, .ref vmx, .int votx, .int vose, .ref vml, .ref vmwr, .int voln, .int vohw, .ref vmno, .int vond, .int voon, .int vowi, .int votop])), (vmt, .inl (cy 0, 940, .inl vmtf)), (vmr, .inl (cy 0, 157, .inl vmrf)), (vmon, .inl (cy 2, 2, .inl vmonf))] sz) := by
  refine mw (Qc := Qi (dC, dI) vwCl (fun (r : Int32) (u : Int32 × Int32 × Int32 × Int32 × Int64 × Int32 × Int32 × Int32 × Int32 × (Nat → Int32) × (Nat → Int32)) => ((r = 0) ∨ (r = 1 ∧ ((u.2.2.1 : Int32).toInt = 0 ∨ (u.2.2.1 : Int32).toInt = 1 ∨ (voto : Int32).toInt + 1 ≤ (u.1 : Int32).toInt))) ∧ (0 ≤ (u.1 : Int32).toInt ∧ (u.1 : Int32).toInt ≤ 940) ∧ (-1 ≤ (u.2.2.2.2.2.2.2.2.1 : Int32).toInt ∧ (u.2.2.2.2.2.2.2.2.1 : Int32).toInt ≤ 999) ∧ (RD u.2.2.2.2.2.2.2.2.2.1) ∧ ((voto : Int32).toInt ≤ (u.1 : Int32).toInt)) (O_m_readOnce cy vo voth vmt votp vosz volm voto vofr vokd vonu vosg vofa vopl vowd votd vmn vmr vmk vms vma vmm vmrn vmkn vmik vmon vosm vohp vmw vmf vmb vomb vmd vmc vocm voct vocy vmx votx vose vml vmwr voln vohw vmno vond voon vowi votop vmtf vmrf vmonf vk vat vlo vhi)) RX11 rfl (by decide +kernel) (Nat.le_of_ble_eq_true rfl) ?_
  intro p e s m below meth c A hx hb hr hlocks av9 hav hts hown hnm hml hK hP hD hA hS hE hAe Q9 hQ9 ls hl
  have hl : lv_has ls 5 [(0, .ref vo), (1, .int vk), (2, .int vat), (3, .int vlo), (4, .int vhi)] := hl
  refine lv_aload_n hx hb dX11_readOnce_0 rfl (lv_at hl 0 rfl) ?_
  refine gf_X11_127 hx hb hts hown hK hP 0 rfl rfl dX11_readOnce_1 ?_
  refine lv_iload_n hx hb dX11_readOnce_4 rfl (lv_at hl 1 rfl) ?_
  have hin_1 : vp_in vk 2 := vp_in_iff.mpr ⟨by omega, by omega⟩
  refine va_zald hx hb hK hP 3 2 rfl rfl hin_1 dX11_readOnce_5 ?_
  refine lv_topi (fun z_2 ez_2 => ?_)
  have k_0 : (0 : Int32).toInt = 0 := by decide
  refine lv_if_eq (tgt := 15) hx hb dX11_readOnce_6 (by decide) (fun c_3 => ?_) (fun c_3 => ?_)
  · skip
    have c_3 : z_2.toInt = (0 : Int32).toInt := i_eq.mp c_3
    refine lv_aload_n hx hb dX11_readOnce_15 rfl (lv_at hl 0 rfl) ?_
    refine gf_X11_127 hx hb hts hown hK hP 0 rfl rfl dX11_readOnce_16 ?_
    refine lv_iload_n hx hb dX11_readOnce_19 rfl (lv_at hl 1 rfl) ?_
    refine lv_iconst (v := 1) hx hb dX11_readOnce_20 (by decide) ?_
    have hin_4 : vp_in vk 2 := vp_in_iff.mpr ⟨by omega, by omega⟩
    refine va_zast hx hb hK hP hD hS 3 2 rfl rfl hin_4 dX11_readOnce_21 (fun H locs hP hD hS => ?_)
    obtain ⟨f_5, ef_5⟩ : ∃ z : Nat → Int32, z = upd vmonf (Int32.toNatClampNeg vk) (vp_nar .boolean 1) := ⟨_, rfl⟩
    have hP : va_P (dC, dI) vwCl [(vo, .inr (12, [.int voth, .ref vmt, .int votp, .int vosz, .int volm, .int voto, .int vofr, .int vokd, .int vonu, .int vosg, .int vofa, .int vopl, .long vowd, .int votd, .ref vmn, .ref vmr, .ref vmk, .ref vms, .ref vma, .ref vmm, .ref vmrn, .ref vmkn, .ref vmik, .ref vmon, .int vosm, .int vohp, .ref vmw, .ref vmf, .ref vmb, .int vomb, .ref vmd, .ref vmc, .int vocm, .int voct, .int vocy, .ref vmx, .int votx, .int vose, .ref vml, .ref vmwr, .int voln, .int vohw, .ref vmno, .int vond, .int voon, .int vowi, .int votop])), (vmt, .inl (cy 0, 940, .inl vmtf)), (vmr, .inl (cy 0, 157, .inl vmrf)), (vmon, .inl (cy 2, 2, .inl f_5))] H := by rw [ef_5]; exact hP
    have hD : va_D A [(vo, .inr (12, [.int voth, .ref vmt, .int votp, .int vosz, .int volm, .int voto, .int vofr, .int vokd, .int vonu, .int vosg, .int vofa, .int vopl, .long vowd, .int votd, .ref vmn, .ref vmr, .ref vmk, .ref vms, .ref vma, .ref vmm, .ref vmrn, .ref vmkn, .ref vmik, .ref vmon, .int vosm, .int vohp, .ref vmw, .ref vmf, .ref vmb, .int vomb, .ref vmd, .ref vmc, .int vocm, .int voct, .int vocy, .ref vmx, .int votx, .int vose, .ref vml, .ref vmwr, .int voln, .int vohw, .ref vmno, .int vond, .int voon, .int vowi, .int votop])), (vmt, .inl (cy 0, 940, .inl vmtf)), (vmr, .inl (cy 0, 157, .inl vmrf)), (vmon, .inl (cy 2, 2, .inl f_5))] := by rw [ef_5]; exact hD
    refine lv_aload_n hx hb dX11_readOnce_22 rfl (lv_at hl 0 rfl) ?_
    refine jn_v (wr := [(vmr, .inl (cy 0, 157, .inl vmrf)), (vmon, .inl (cy 2, 2, .inl f_5))]) (rV (As := []) (rest := []) (ci := 12) ⟨hx, hb, hml, hown, hts⟩ (m_go l dC dI cy _ vo voth vmt votp vosz volm voto vofr vokd vonu vosg vofa vopl vowd votd vmn vmr vmk vms vma vmm vmrn vmkn vmik vmon vosm vohp vmw vmf vmb vomb vmd vmc vocm voct vocy vmx votx vose vml vmwr voln vohw vmno vond voon vowi votop vmtf r_vosz r_voto p_vmtf) (cw_X11_82 hts rfl rfl ⟨Nat.le_of_ble_eq_true rfl, Nat.le_of_ble_eq_true rfl⟩) hP hD hK [0, 1] rfl rfl rfl rfl bl0 e0 rfl hl.1 rfl (Nat.le_of_ble_eq_true rfl) dX11_readOnce_23 ⟨Nat.le_of_ble_eq_true rfl, Nat.le_of_ble_eq_true rfl⟩) hP hD hS hA [0, 1] [2, 3] rfl rfl rfl (by decide) (fun u_8 H locs hp_7 hP hD hS => ?_)
    obtain ⟨voto_9, vofr_10, vokd_11, vosg_12, vowd_13, vonu_14⟩ := u_8
    have hp_7 : (0 ≤ (voto_9 : Int32).toInt ∧ (voto_9 : Int32).toInt ≤ 940) ∧ ((voto : Int32).toInt ≤ (voto_9 : Int32).toInt) ∧ (((vokd_11 : Int32).toInt = 0 ∨ (vokd_11 : Int32).toInt = 1 ∨ (voto : Int32).toInt + 1 ≤ (voto_9 : Int32).toInt)) := hp_7
    obtain ⟨q_15, q_16, q_17⟩ := hp_7
    have hP : va_P (dC, dI) vwCl [(vmr, .inl (cy 0, 157, .inl vmrf)), (vmon, .inl (cy 2, 2, .inl f_5)), (vo, .inr (12, [.int voth, .ref vmt, .int votp, .int vosz, .int volm, .int voto_9, .int vofr_10, .int vokd_11, .int vonu_14, .int vosg_12, .int vofa, .int vopl, .long vowd_13, .int votd, .ref vmn, .ref vmr, .ref vmk, .ref vms, .ref vma, .ref vmm, .ref vmrn, .ref vmkn, .ref vmik, .ref vmon, .int vosm, .int vohp, .ref vmw, .ref vmf, .ref vmb, .int vomb, .ref vmd, .ref vmc, .int vocm, .int voct, .int vocy, .ref vmx, .int votx, .int vose, .ref vml, .ref vmwr, .int voln, .int vohw, .ref vmno, .int vond, .int voon, .int vowi, .int votop])), (vmt, .inl (cy 0, 940, .inl vmtf))] H := hP
    have hD : va_D A [(vmr, .inl (cy 0, 157, .inl vmrf)), (vmon, .inl (cy 2, 2, .inl f_5)), (vo, .inr (12, [.int voth, .ref vmt, .int votp, .int vosz, .int volm, .int voto_9, .int vofr_10, .int vokd_11, .int vonu_14, .int vosg_12, .int vofa, .int vopl, .long vowd_13, .int votd, .ref vmn, .ref vmr, .ref vmk, .ref vms, .ref vma, .ref vmm, .ref vmrn, .ref vmkn, .ref vmik, .ref vmon, .int vosm, .int vohp, .ref vmw, .ref vmf, .ref vmb, .int vomb, .ref vmd, .ref vmc, .int vocm, .int voct, .int vocy, .ref vmx, .int votx, .int vose, .ref vml, .ref vmwr, .int voln, .int vohw, .ref vmno, .int vond, .int voon, .int vowi, .int votop])), (vmt, .inl (cy 0, 940, .inl vmtf))] := hD
    refine lv_aload_n hx hb dX11_readOnce_26 rfl (lv_at hl 0 rfl) ?_
    refine lv_iload_n hx hb dX11_readOnce_27 rfl (lv_at hl 2 rfl) ?_
    refine lv_aload_n hx hb dX11_readOnce_28 rfl (lv_at hl 0 rfl) ?_
    refine lv_iload_n hx hb dX11_readOnce_29 rfl (lv_at hl 3 rfl) ?_
    refine lv_iload hx hb dX11_readOnce_30 (lv_at hl 4 rfl) ?_
    refine jn_i (wr := [(vmr, .inl (cy 0, 157, .inl vmrf)), (vmon, .inl (cy 2, 2, .inl f_5))]) (rV (As := [.int vlo, .int vhi]) (rest := [.int vat, .ref vo]) (ci := 12) ⟨hx, hb, hml, hown, hts⟩ (m_readNumber l dC dI cy _ vo voth vmt votp vosz volm voto_9 vofr_10 vokd_11 vonu_14 vosg_12 vofa vopl vowd_13 votd vmn vmr vmk vms vma vmm vmrn vmkn vmik vmon vosm vohp vmw vmf vmb vomb vmd vmc vocm voct vocy vmx votx vose vml vmwr voln vohw vmno vond voon vowi votop vmtf vlo vhi r_vosz ⟨by omega, by omega⟩ r_votd r_vlo r_vhi p_vmtf) (cw_X11_178 hts rfl rfl ⟨Nat.le_of_ble_eq_true rfl, Nat.le_of_ble_eq_true rfl⟩) hP hD hK [2, 3] rfl rfl rfl rfl bl0 e0 rfl hl.1 rfl (Nat.le_of_ble_eq_true rfl) dX11_readOnce_32 ⟨Nat.le_of_ble_eq_true rfl, Nat.le_of_ble_eq_true rfl⟩) hP hD hS hA [2, 3] [0, 1] rfl rfl rfl (by decide) (fun r_18 u_20 H locs hp_19 hP hD hS => ?_)
    obtain ⟨voto_21, vofr_22, vokd_23, vosg_24, vowd_25, vonu_26, vofa_27, vopl_28, votd_29⟩ := u_20
    have hp_19 : ((r_18 = 0 ∧ (votd_29 : Int32).toInt = (votd : Int32).toInt) ∨ (r_18 = 1 ∧ (vlo : Int32).toInt ≤ (votd_29 : Int32).toInt ∧ (votd_29 : Int32).toInt ≤ (vhi : Int32).toInt ∧ ((vokd_23 : Int32).toInt = 0 ∨ (vokd_23 : Int32).toInt = 1 ∨ (voto_9 : Int32).toInt + 1 ≤ (voto_21 : Int32).toInt))) ∧ (0 ≤ (voto_21 : Int32).toInt ∧ (voto_21 : Int32).toInt ≤ 940) ∧ (-1 ≤ (votd_29 : Int32).toInt ∧ (votd_29 : Int32).toInt ≤ 999) ∧ ((voto_9 : Int32).toInt ≤ (voto_21 : Int32).toInt) := hp_19
    obtain ⟨q_30, q_31, q_32, q_33⟩ := hp_19
    have hP : va_P (dC, dI) vwCl [(vmr, .inl (cy 0, 157, .inl vmrf)), (vmon, .inl (cy 2, 2, .inl f_5)), (vo, .inr (12, [.int voth, .ref vmt, .int votp, .int vosz, .int volm, .int voto_21, .int vofr_22, .int vokd_23, .int vonu_26, .int vosg_24, .int vofa_27, .int vopl_28, .long vowd_25, .int votd_29, .ref vmn, .ref vmr, .ref vmk, .ref vms, .ref vma, .ref vmm, .ref vmrn, .ref vmkn, .ref vmik, .ref vmon, .int vosm, .int vohp, .ref vmw, .ref vmf, .ref vmb, .int vomb, .ref vmd, .ref vmc, .int vocm, .int voct, .int vocy, .ref vmx, .int votx, .int vose, .ref vml, .ref vmwr, .int voln, .int vohw, .ref vmno, .int vond, .int voon, .int vowi, .int votop])), (vmt, .inl (cy 0, 940, .inl vmtf))] H := hP
    have hD : va_D A [(vmr, .inl (cy 0, 157, .inl vmrf)), (vmon, .inl (cy 2, 2, .inl f_5)), (vo, .inr (12, [.int voth, .ref vmt, .int votp, .int vosz, .int volm, .int voto_21, .int vofr_22, .int vokd_23, .int vonu_26, .int vosg_24, .int vofa_27, .int vopl_28, .long vowd_25, .int votd_29, .ref vmn, .ref vmr, .ref vmk, .ref vms, .ref vma, .ref vmm, .ref vmrn, .ref vmkn, .ref vmik, .ref vmon, .int vosm, .int vohp, .ref vmw, .ref vmf, .ref vmb, .int vomb, .ref vmd, .ref vmc, .int vocm, .int voct, .int vocy, .ref vmx, .int votx, .int vose, .ref vml, .ref vmwr, .int voln, .int vohw, .ref vmno, .int vond, .int voon, .int vowi, .int votop])), (vmt, .inl (cy 0, 940, .inl vmtf))] := hD
    rcases q_30 with ⟨aq_30, f0q_30⟩ | ⟨aq_30, f0q_30, f1q_30, f2q_30⟩
    · skip
      refine as_i 0 aq_30 ?_
      refine jr_i (rVr (As := [.int vat, .int 0]) (rest := []) (ci := 12) ⟨hx, hb, hml, hown, hts⟩ (m_put_0 l dC dI cy vo voth vmt votp vosz volm voto_21 vofr_22 vokd_23 vonu_26 vosg_24 vofa_27 vopl_28 vowd_25 votd_29 vmn vmr vmk vms vma vmm vmrn vmkn vmik vmon vosm vohp vmw vmf vmb vomb vmd vmc vocm voct vocy vmx votx vose vml vmwr voln vohw vmno vond voon vowi votop vat ) (cw_X11_181 hts rfl rfl ⟨Nat.le_of_ble_eq_true rfl, Nat.le_of_ble_eq_true rfl⟩) hP hK [2] rfl rfl rfl rfl hl.1 rfl (Nat.le_of_ble_eq_true rfl) dX11_readOnce_35 ⟨Nat.le_of_ble_eq_true rfl, Nat.le_of_ble_eq_true rfl⟩) hP hS (fun r_34 H locs hp_35 hP hS => ?_)
      have hp_35 : ((r_34 = 0)) := hp_35
      have q_36 := hp_35
      have aq_36 := q_36
      · skip
        refine as_i 0 aq_36 ?_
        rw [hQ9]
        exact re_z (voto_21, vofr_22, vokd_23, vosg_24, vowd_25, vonu_26, vofa_27, vopl_28, votd_29, vmrf, f_5) hx hb hr hlocks (Or.inl rfl) ⟨(show ((0 : Int32) = 0) ∨ ((0 : Int32) = 1 ∧ ((vokd_23 : Int32).toInt = 0 ∨ (vokd_23 : Int32).toInt = 1 ∨ (voto : Int32).toInt + 1 ≤ (voto_21 : Int32).toInt)) from (Or.inl rfl)), (show 0 ≤ (voto_21 : Int32).toInt ∧ (voto_21 : Int32).toInt ≤ 940 from ⟨by omega, by omega⟩), (show -1 ≤ (votd_29 : Int32).toInt ∧ (votd_29 : Int32).toInt ≤ 999 from ⟨by omega, by omega⟩), (show RD vmrf from p_vmrf), (show (voto : Int32).toInt ≤ (voto_21 : Int32).toInt from (by omega))⟩ (hP.sub [2, 3, 0, 1] rfl) (hD.sub [2, 3, 0, 1] rfl rfl) hS dX11_readOnce_38
    · skip
      refine as_i 1 aq_30 ?_
      refine jn_i (wr := [(vmon, .inl (cy 2, 2, .inl f_5)), (vmt, .inl (cy 0, 940, .inl vmtf))]) (rV (As := [.int vat, .int 1]) (rest := []) (ci := 12) ⟨hx, hb, hml, hown, hts⟩ (m_put_1 l dC dI cy _ vo voth vmt votp vosz volm voto_21 vofr_22 vokd_23 vonu_26 vosg_24 vofa_27 vopl_28 vowd_25 votd_29 vmn vmr vmk vms vma vmm vmrn vmkn vmik vmon vosm vohp vmw vmf vmb vomb vmd vmc vocm voct vocy vmx votx vose vml vmwr voln vohw vmno vond voon vowi votop vmrf vat ⟨by omega, by omega⟩ ⟨by omega, by omega⟩ p_vmrf (by omega)) (cw_X11_181 hts rfl rfl ⟨Nat.le_of_ble_eq_true rfl, Nat.le_of_ble_eq_true rfl⟩) hP hD hK [2, 0] rfl rfl rfl rfl bl0 e0 rfl hl.1 rfl (Nat.le_of_ble_eq_true rfl) dX11_readOnce_35 ⟨Nat.le_of_ble_eq_true rfl, Nat.le_of_ble_eq_true rfl⟩) hP hD hS hA [2, 0] [1, 3] rfl rfl rfl (by decide) (fun r_37 u_39 H locs hp_38 hP hD hS => ?_)
      obtain ⟨vmrf_40, rfl⟩ : ∃ z, z = u_39 := ⟨_, rfl⟩
      have hp_38 : ((r_37 = 1)) ∧ (RD vmrf_40) ∧ ((vmrf_40 0).toInt = (vmrf 0).toInt) ∧ ((vmrf_40 1).toInt = (vmrf 1).toInt) := hp_38
      obtain ⟨q_41, q_42, q_43, q_44⟩ := hp_38
      have hP : va_P (dC, dI) vwCl [(vmon, .inl (cy 2, 2, .inl f_5)), (vmt, .inl (cy 0, 940, .inl vmtf)), (vo, .inr (12, [.int voth, .ref vmt, .int votp, .int vosz, .int volm, .int voto_21, .int vofr_22, .int vokd_23, .int vonu_26, .int vosg_24, .int vofa_27, .int vopl_28, .long vowd_25, .int votd_29, .ref vmn, .ref vmr, .ref vmk, .ref vms, .ref vma, .ref vmm, .ref vmrn, .ref vmkn, .ref vmik, .ref vmon, .int vosm, .int vohp, .ref vmw, .ref vmf, .ref vmb, .int vomb, .ref vmd, .ref vmc, .int vocm, .int voct, .int vocy, .ref vmx, .int votx, .int vose, .ref vml, .ref vmwr, .int voln, .int vohw, .ref vmno, .int vond, .int voon, .int vowi, .int votop])), (vmr, .inl (cy 0, 157, .inl vmrf_40))] H := hP
      have hD : va_D A [(vmon, .inl (cy 2, 2, .inl f_5)), (vmt, .inl (cy 0, 940, .inl vmtf)), (vo, .inr (12, [.int voth, .ref vmt, .int votp, .int vosz, .int volm, .int voto_21, .int vofr_22, .int vokd_23, .int vonu_26, .int vosg_24, .int vofa_27, .int vopl_28, .long vowd_25, .int votd_29, .ref vmn, .ref vmr, .ref vmk, .ref vms, .ref vma, .ref vmm, .ref vmrn, .ref vmkn, .ref vmik, .ref vmon, .int vosm, .int vohp, .ref vmw, .ref vmf, .ref vmb, .int vomb, .ref vmd, .ref vmc, .int vocm, .int voct, .int vocy, .ref vmx, .int votx, .int vose, .ref vml, .ref vmwr, .int voln, .int vohw, .ref vmno, .int vond, .int voon, .int vowi, .int votop])), (vmr, .inl (cy 0, 157, .inl vmrf_40))] := hD
      have aq_41 := q_41
      · skip
        refine as_i 1 aq_41 ?_
        have k_1 : (1 : Int32).toInt = 1 := by decide
        rw [hQ9]
        exact re_z (voto_21, vofr_22, vokd_23, vosg_24, vowd_25, vonu_26, vofa_27, vopl_28, votd_29, vmrf_40, f_5) hx hb hr hlocks (Or.inr rfl) ⟨(show ((1 : Int32) = 0) ∨ ((1 : Int32) = 1 ∧ ((vokd_23 : Int32).toInt = 0 ∨ (vokd_23 : Int32).toInt = 1 ∨ (voto : Int32).toInt + 1 ≤ (voto_21 : Int32).toInt)) from (Or.inr (⟨rfl, by omega⟩))), (show 0 ≤ (voto_21 : Int32).toInt ∧ (voto_21 : Int32).toInt ≤ 940 from ⟨by omega, by omega⟩), (show -1 ≤ (votd_29 : Int32).toInt ∧ (votd_29 : Int32).toInt ≤ 999 from ⟨by omega, by omega⟩), (show RD vmrf_40 from q_42), (show (voto : Int32).toInt ≤ (voto_21 : Int32).toInt from (by omega))⟩ (hP.sub [2, 1, 3, 0] rfl) (hD.sub [2, 1, 3, 0] rfl rfl) hS dX11_readOnce_38
  · skip
    have c_3 : ¬ (z_2.toInt = (0 : Int32).toInt) := fun h9 => c_3 (i_eq.mpr h9)
    refine lv_aload_n hx hb dX11_readOnce_9 rfl (lv_at hl 0 rfl) ?_
    refine lv_iconst (v := 3) hx hb dX11_readOnce_10 (by decide) ?_
    have k_3 : (3 : Int32).toInt = 3 := by decide
    refine jn_i (wr := [(vmt, .inl (cy 0, 940, .inl vmtf)), (vmr, .inl (cy 0, 157, .inl vmrf)), (vmon, .inl (cy 2, 2, .inl vmonf))]) (rV (As := [.int 3]) (rest := []) (ci := 12) ⟨hx, hb, hml, hown, hts⟩ (m_bad l dC dI cy _ vo voth vmt votp vosz volm voto vofr vokd vonu vosg vofa vopl vowd votd vmn vmr vmk vms vma vmm vmrn vmkn vmik vmon vosm vohp vmw vmf vmb vomb vmd vmc vocm voct vocy vmx votx vose vml vmwr voln vohw vmno vond voon vowi votop 3 ) (cw_X11_72 hts rfl rfl ⟨Nat.le_of_ble_eq_true rfl, Nat.le_of_ble_eq_true rfl⟩) hP hD hK [0] rfl rfl rfl rfl bl0 e0 rfl hl.1 rfl (Nat.le_of_ble_eq_true rfl) dX11_readOnce_11 ⟨Nat.le_of_ble_eq_true rfl, Nat.le_of_ble_eq_true rfl⟩) hP hD hS hA [0] [1, 2, 3] rfl rfl rfl (by decide) (fun r_45 u_47 H locs hp_46 hP hD hS => ?_)
    obtain ⟨vofa_48, vopl_49⟩ := u_47
    have hp_46 : ((r_45 = 0)) := hp_46
    have q_50 := hp_46
    have hP : va_P (dC, dI) vwCl [(vmt, .inl (cy 0, 940, .inl vmtf)), (vmr, .inl (cy 0, 157, .inl vmrf)), (vmon, .inl (cy 2, 2, .inl vmonf)), (vo, .inr (12, [.int voth, .ref vmt, .int votp, .int vosz, .int volm, .int voto, .int vofr, .int vokd, .int vonu, .int vosg, .int vofa_48, .int vopl_49, .long vowd, .int votd, .ref vmn, .ref vmr, .ref vmk, .ref vms, .ref vma, .ref vmm, .ref vmrn, .ref vmkn, .ref vmik, .ref vmon, .int vosm, .int vohp, .ref vmw, .ref vmf, .ref vmb, .int vomb, .ref vmd, .ref vmc, .int vocm, .int voct, .int vocy, .ref vmx, .int votx, .int vose, .ref vml, .ref vmwr, .int voln, .int vohw, .ref vmno, .int vond, .int voon, .int vowi, .int votop]))] H := hP
    have hD : va_D A [(vmt, .inl (cy 0, 940, .inl vmtf)), (vmr, .inl (cy 0, 157, .inl vmrf)), (vmon, .inl (cy 2, 2, .inl vmonf)), (vo, .inr (12, [.int voth, .ref vmt, .int votp, .int vosz, .int volm, .int voto, .int vofr, .int vokd, .int vonu, .int vosg, .int vofa_48, .int vopl_49, .long vowd, .int votd, .ref vmn, .ref vmr, .ref vmk, .ref vms, .ref vma, .ref vmm, .ref vmrn, .ref vmkn, .ref vmik, .ref vmon, .int vosm, .int vohp, .ref vmw, .ref vmf, .ref vmb, .int vomb, .ref vmd, .ref vmc, .int vocm, .int voct, .int vocy, .ref vmx, .int votx, .int vose, .ref vml, .ref vmwr, .int voln, .int vohw, .ref vmno, .int vond, .int voon, .int vowi, .int votop]))] := hD
    have aq_50 := q_50
    · skip
      refine as_i 0 aq_50 ?_
      rw [hQ9]
      exact re_z (voto, vofr, vokd, vosg, vowd, vonu, vofa_48, vopl_49, votd, vmrf, vmonf) hx hb hr hlocks (Or.inl rfl) ⟨(show ((0 : Int32) = 0) ∨ ((0 : Int32) = 1 ∧ ((vokd : Int32).toInt = 0 ∨ (vokd : Int32).toInt = 1 ∨ (voto : Int32).toInt + 1 ≤ (voto : Int32).toInt)) from (Or.inl rfl)), (show 0 ≤ (voto : Int32).toInt ∧ (voto : Int32).toInt ≤ 940 from ⟨by omega, by omega⟩), (show -1 ≤ (votd : Int32).toInt ∧ (votd : Int32).toInt ≤ 999 from ⟨by omega, by omega⟩), (show RD vmrf from p_vmrf), (show (voto : Int32).toInt ≤ (voto : Int32).toInt from (by omega))⟩ (hP.sub [3, 0, 1, 2] rfl) (hD.sub [3, 0, 1, 2] rfl rfl) hS dX11_readOnce_14
abbrev cX11_readLine : ByteArray := prog_13_method_40_code
def yX11_readLine : MethodName := ⟨RX11, "readLine", "()Z"⟩
theorem t1615 : Cond.code yX11_readLine cX11_readLine 1 (some .boolean) ∈ GW := gw_mem 1729 (by decide +kernel) (by decide +kernel)
abbrev O_m_readLine (cy : Nat → ClassId) (vo : Nat) (voth : Int32) (vmt : Nat) (votp : Int32) (vosz : Int32) (volm : Int32) (voto : Int32) (vofr : Int32) (vokd : Int32) (vonu : Int32) (vosg : Int32) (vofa : Int32) (vopl : Int32) (vowd : Int64) (votd : Int32) (vmn : Nat) (vmr : Nat) (vmk : Nat) (vms : Nat) (vma : Nat) (vmm : Nat) (vmrn : Nat) (vmkn : Nat) (vmik : Nat) (vmon : Nat) (vosm : Int32) (vohp : Int32) (vmw : Nat) (vmf : Nat) (vmb : Nat) (vomb : Int32) (vmd : Nat) (vmc : Nat) (vocm : Int32) (voct : Int32) (vocy : Int32) (vmx : Nat) (votx : Int32) (vose : Int32) (vml : Nat) (vmwr : Nat) (voln : Int32) (vohw : Int32) (vmno : Nat) (vond : Int32) (voon : Int32) (vowi : Int32) (votop : Int32) (vmtf : Nat → Int32) (vmrf : Nat → Int32) (vmrnf : Nat → Int64) (vmonf : Nat → Int32) (u : Int32 × Int32 × Int32 × Int32 × Int64 × Int32 × Int32 × Int32 × Int32 × (Nat → Int32) × (Nat → Int64) × (Nat → Int32)) : va_W := [(vo, .inr (12, [.int voth, .ref vmt, .int votp, .int vosz, .int volm, .int u.1, .int u.2.1, .int u.2.2.1, .int u.2.2.2.2.2.1, .int u.2.2.2.1, .int u.2.2.2.2.2.2.1, .int u.2.2.2.2.2.2.2.1, .long u.2.2.2.2.1, .int u.2.2.2.2.2.2.2.2.1, .ref vmn, .ref vmr, .ref vmk, .ref vms, .ref vma, .ref vmm, .ref vmrn, .ref vmkn, .ref vmik, .ref vmon, .int vosm, .int vohp, .ref vmw, .ref vmf, .ref vmb, .int vomb, .ref vmd, .ref vmc, .int vocm, .int voct, .int vocy, .ref vmx, .int votx, .int vose, .ref vml, .ref vmwr, .int voln, .int vohw, .ref vmno, .int vond, .int voon, .int vowi, .int votop])), (vmt, .inl (cy 0, 940, .inl vmtf)), (vmr, .inl (cy 0, 157, .inl u.2.2.2.2.2.2.2.2.2.1)), (vmrn, .inl (cy 1, 17, .inr (.inl u.2.2.2.2.2.2.2.2.2.2.1))), (vmon, .inl (cy 2, 2, .inl u.2.2.2.2.2.2.2.2.2.2.2))]
theorem dX11_readLine_0 : decode cX11_readLine 0 = .ok (.aload_n 0, 1) := by decide +kernel
theorem dX11_readLine_1 : decode cX11_readLine 1 = .ok (.iconst 0, 1) := by decide +kernel
theorem dX11_readLine_2 : decode cX11_readLine 2 = .ok (.invokevirtual 185, 3) := by decide +kernel
theorem dX11_readLine_5 : decode cX11_readLine 5 = .ok (.ifCond .eq 8, 3) := by decide +kernel
theorem dX11_readLine_13 : decode cX11_readLine 13 = .ok (.aload_n 0, 1) := by decide +kernel
theorem dX11_readLine_14 : decode cX11_readLine 14 = .ok (.iconst 1, 1) := by decide +kernel
theorem dX11_readLine_15 : decode cX11_readLine 15 = .ok (.invokevirtual 185, 3) := by decide +kernel
theorem dX11_readLine_18 : decode cX11_readLine 18 = .ok (.ifCond .eq 8, 3) := by decide +kernel
theorem dX11_readLine_26 : decode cX11_readLine 26 = .ok (.aload_n 0, 1) := by decide +kernel
theorem dX11_readLine_27 : decode cX11_readLine 27 = .ok (.iconst 4, 1) := by decide +kernel
theorem dX11_readLine_28 : decode cX11_readLine 28 = .ok (.invokevirtual 185, 3) := by decide +kernel
theorem dX11_readLine_31 : decode cX11_readLine 31 = .ok (.ifCond .eq 8, 3) := by decide +kernel
theorem dX11_readLine_39 : decode cX11_readLine 39 = .ok (.aload_n 0, 1) := by decide +kernel
theorem dX11_readLine_40 : decode cX11_readLine 40 = .ok (.iconst 5, 1) := by decide +kernel
theorem dX11_readLine_41 : decode cX11_readLine 41 = .ok (.invokevirtual 185, 3) := by decide +kernel
theorem dX11_readLine_44 : decode cX11_readLine 44 = .ok (.ifCond .eq 8, 3) := by decide +kernel
theorem dX11_readLine_52 : decode cX11_readLine 52 = .ok (.aload_n 0, 1) := by decide +kernel
theorem dX11_readLine_53 : decode cX11_readLine 53 = .ok (.bipush 6, 2) := by decide +kernel
theorem dX11_readLine_55 : decode cX11_readLine 55 = .ok (.invokevirtual 185, 3) := by decide +kernel
theorem dX11_readLine_58 : decode cX11_readLine 58 = .ok (.ifCond .eq 8, 3) := by decide +kernel
theorem dX11_readLine_66 : decode cX11_readLine 66 = .ok (.aload_n 0, 1) := by decide +kernel
theorem dX11_readLine_67 : decode cX11_readLine 67 = .ok (.bipush 7, 2) := by decide +kernel
theorem dX11_readLine_69 : decode cX11_readLine 69 = .ok (.invokevirtual 185, 3) := by decide +kernel
theorem dX11_readLine_72 : decode cX11_readLine 72 = .ok (.ifCond .eq 14, 3) := by decide +kernel
theorem dX11_readLine_86 : decode cX11_readLine 86 = .ok (.aload_n 0, 1) := by decide +kernel
theorem dX11_readLine_87 : decode cX11_readLine 87 = .ok (.bipush 19, 2) := by decide +kernel
theorem dX11_readLine_89 : decode cX11_readLine 89 = .ok (.invokevirtual 185, 3) := by decide +kernel
theorem dX11_readLine_92 : decode cX11_readLine 92 = .ok (.ifCond .eq 15, 3) := by decide +kernel
theorem dX11_readLine_107 : decode cX11_readLine 107 = .ok (.aload_n 0, 1) := by decide +kernel
theorem dX11_readLine_108 : decode cX11_readLine 108 = .ok (.iconst 1, 1) := by decide +kernel
theorem dX11_readLine_109 : decode cX11_readLine 109 = .ok (.invokevirtual 72, 3) := by decide +kernel
theorem dX11_readLine_112 : decode cX11_readLine 112 = .ok (.ireturn, 1) := by decide +kernel
theorem dX11_readLine_95 : decode cX11_readLine 95 = .ok (.aload_n 0, 1) := by decide +kernel
theorem dX11_readLine_96 : decode cX11_readLine 96 = .ok (.iconst 1, 1) := by decide +kernel
theorem dX11_readLine_97 : decode cX11_readLine 97 = .ok (.iconst 3, 1) := by decide +kernel
theorem dX11_readLine_98 : decode cX11_readLine 98 = .ok (.iconst 0, 1) := by decide +kernel
theorem dX11_readLine_99 : decode cX11_readLine 99 = .ok (.bipush 60, 2) := by decide +kernel
theorem dX11_readLine_101 : decode cX11_readLine 101 = .ok (.invokevirtual 212, 3) := by decide +kernel
theorem t1687 : Cond.methodLink RX11 212 yX11_readOnce ∈ GW := gw_mem 1801 (by decide +kernel) (by decide +kernel)
theorem t1689 : Cond.instanceMethod yX11_readOnce ∈ GW := gw_mem 1803 (by decide +kernel) (by decide +kernel)
theorem s59 : Cond.selects RX11 yX11_readOnce yX11_readOnce ∈ GW := gw_mem 59 (by decide +kernel) (by decide +kernel)
theorem cw_X11_212 {R : Room} {s : State} {args : Array Value} {rm : Room} {mc ms : Nat} (hts : ∀ w ∈ GW, w.before args s = true) (hrc : rm.cells = mc) (hrs : rm.slots = ms) (hR : rm.frames + 1 ≤ R.frames ∧ 8 + (5 + 11) + rm.locals ≤ R.locals) : CallW R s args RX11 RX11 212 yX11_readOnce cX11_readOnce 5 (some .boolean) (wl yX11_readOnce cX11_readOnce 5 (some .boolean)) rm mc ms 4 := cwV 4 hts (gi_V t1687 t1689 s59 t18 t1690) rfl hrc hrs (by decide +kernel) hR
theorem dX11_readLine_104 : decode cX11_readLine 104 = .ok (.goto 8, 3) := by decide +kernel
theorem dX11_readLine_75 : decode cX11_readLine 75 = .ok (.aload_n 0, 1) := by decide +kernel
theorem dX11_readLine_76 : decode cX11_readLine 76 = .ok (.iconst 0, 1) := by decide +kernel
theorem dX11_readLine_77 : decode cX11_readLine 77 = .ok (.iconst 2, 1) := by decide +kernel
theorem dX11_readLine_78 : decode cX11_readLine 78 = .ok (.iconst 1, 1) := by decide +kernel
theorem dX11_readLine_79 : decode cX11_readLine 79 = .ok (.sipush 200, 3) := by decide +kernel
theorem dX11_readLine_82 : decode cX11_readLine 82 = .ok (.invokevirtual 212, 3) := by decide +kernel
theorem dX11_readLine_85 : decode cX11_readLine 85 = .ok (.ireturn, 1) := by decide +kernel
theorem dX11_readLine_61 : decode cX11_readLine 61 = .ok (.aload_n 0, 1) := by decide +kernel
theorem dX11_readLine_62 : decode cX11_readLine 62 = .ok (.invokevirtual 209, 3) := by decide +kernel
theorem t1683 : Cond.methodLink RX11 209 yX11_readOwes ∈ GW := gw_mem 1797 (by decide +kernel) (by decide +kernel)
theorem t1685 : Cond.instanceMethod yX11_readOwes ∈ GW := gw_mem 1799 (by decide +kernel) (by decide +kernel)
theorem s58 : Cond.selects RX11 yX11_readOwes yX11_readOwes ∈ GW := gw_mem 58 (by decide +kernel) (by decide +kernel)
theorem cw_X11_209 {R : Room} {s : State} {args : Array Value} {rm : Room} {mc ms : Nat} (hts : ∀ w ∈ GW, w.before args s = true) (hrc : rm.cells = mc) (hrs : rm.slots = ms) (hR : rm.frames + 1 ≤ R.frames ∧ 8 + (3 + 11) + rm.locals ≤ R.locals) : CallW R s args RX11 RX11 209 yX11_readOwes cX11_readOwes 3 (some .boolean) (wl yX11_readOwes cX11_readOwes 3 (some .boolean)) rm mc ms 0 := cwV 0 hts (gi_V t1683 t1685 s58 t18 t1686) rfl hrc hrs (by decide +kernel) hR
theorem dX11_readLine_65 : decode cX11_readLine 65 = .ok (.ireturn, 1) := by decide +kernel
theorem dX11_readLine_47 : decode cX11_readLine 47 = .ok (.aload_n 0, 1) := by decide +kernel
theorem dX11_readLine_48 : decode cX11_readLine 48 = .ok (.invokevirtual 206, 3) := by decide +kernel
theorem t1672 : Cond.methodLink RX11 206 yX11_readKin ∈ GW := gw_mem 1786 (by decide +kernel) (by decide +kernel)
theorem t1674 : Cond.instanceMethod yX11_readKin ∈ GW := gw_mem 1788 (by decide +kernel) (by decide +kernel)
theorem s56 : Cond.selects RX11 yX11_readKin yX11_readKin ∈ GW := gw_mem 56 (by decide +kernel) (by decide +kernel)
theorem cw_X11_206 {R : Room} {s : State} {args : Array Value} {rm : Room} {mc ms : Nat} (hts : ∀ w ∈ GW, w.before args s = true) (hrc : rm.cells = mc) (hrs : rm.slots = ms) (hR : rm.frames + 1 ≤ R.frames ∧ 8 + (2 + 11) + rm.locals ≤ R.locals) : CallW R s args RX11 RX11 206 yX11_readKin cX11_readKin 2 (some .boolean) (wl yX11_readKin cX11_readKin 2 (some .boolean)) rm mc ms 0 := cwV 0 hts (gi_V t1672 t1674 s56 t18 t1675) rfl hrc hrs (by decide +kernel) hR
theorem dX11_readLine_51 : decode cX11_readLine 51 = .ok (.ireturn, 1) := by decide +kernel
theorem dX11_readLine_34 : decode cX11_readLine 34 = .ok (.aload_n 0, 1) := by decide +kernel
theorem dX11_readLine_35 : decode cX11_readLine 35 = .ok (.invokevirtual 203, 3) := by decide +kernel
theorem t1664 : Cond.methodLink RX11 203 yX11_readDid ∈ GW := gw_mem 1778 (by decide +kernel) (by decide +kernel)
theorem t1666 : Cond.instanceMethod yX11_readDid ∈ GW := gw_mem 1780 (by decide +kernel) (by decide +kernel)
theorem s54 : Cond.selects RX11 yX11_readDid yX11_readDid ∈ GW := gw_mem 54 (by decide +kernel) (by decide +kernel)
theorem cw_X11_203 {R : Room} {s : State} {args : Array Value} {rm : Room} {mc ms : Nat} (hts : ∀ w ∈ GW, w.before args s = true) (hrc : rm.cells = mc) (hrs : rm.slots = ms) (hR : rm.frames + 1 ≤ R.frames ∧ 8 + (2 + 11) + rm.locals ≤ R.locals) : CallW R s args RX11 RX11 203 yX11_readDid cX11_readDid 2 (some .boolean) (wl yX11_readDid cX11_readDid 2 (some .boolean)) rm mc ms 0 := cwV 0 hts (gi_V t1664 t1666 s54 t18 t1667) rfl hrc hrs (by decide +kernel) hR
theorem dX11_readLine_38 : decode cX11_readLine 38 = .ok (.ireturn, 1) := by decide +kernel
theorem dX11_readLine_21 : decode cX11_readLine 21 = .ok (.aload_n 0, 1) := by decide +kernel
theorem dX11_readLine_22 : decode cX11_readLine 22 = .ok (.invokevirtual 200, 3) := by decide +kernel
theorem t1660 : Cond.methodLink RX11 200 yX11_readDeed ∈ GW := gw_mem 1774 (by decide +kernel) (by decide +kernel)
theorem t1662 : Cond.instanceMethod yX11_readDeed ∈ GW := gw_mem 1776 (by decide +kernel) (by decide +kernel)
theorem s53 : Cond.selects RX11 yX11_readDeed yX11_readDeed ∈ GW := gw_mem 53 (by decide +kernel) (by decide +kernel)
theorem cw_X11_200 {R : Room} {s : State} {args : Array Value} {rm : Room} {mc ms : Nat} (hts : ∀ w ∈ GW, w.before args s = true) (hrc : rm.cells = mc) (hrs : rm.slots = ms) (hR : rm.frames + 1 ≤ R.frames ∧ 8 + (2 + 11) + rm.locals ≤ R.locals) : CallW R s args RX11 RX11 200 yX11_readDeed cX11_readDeed 2 (some .boolean) (wl yX11_readDeed cX11_readDeed 2 (some .boolean)) rm mc ms 0 := cwV 0 hts (gi_V t1660 t1662 s53 t18 t1663) rfl hrc hrs (by decide +kernel) hR
theorem dX11_readLine_25 : decode cX11_readLine 25 = .ok (.ireturn, 1) := by decide +kernel
theorem dX11_readLine_8 : decode cX11_readLine 8 = .ok (.aload_n 0, 1) := by decide +kernel
theorem dX11_readLine_9 : decode cX11_readLine 9 = .ok (.invokevirtual 197, 3) := by decide +kernel
theorem t1626 : Cond.methodLink RX11 197 yX11_readMan ∈ GW := gw_mem 1740 (by decide +kernel) (by decide +kernel)
theorem t1628 : Cond.instanceMethod yX11_readMan ∈ GW := gw_mem 1742 (by decide +kernel) (by decide +kernel)
theorem s46 : Cond.selects RX11 yX11_readMan yX11_readMan ∈ GW := gw_mem 46 (by decide +kernel) (by decide +kernel)
theorem cw_X11_197 {R : Room} {s : State} {args : Array Value} {rm : Room} {mc ms : Nat} (hts : ∀ w ∈ GW, w.before args s = true) (hrc : rm.cells = mc) (hrs : rm.slots = ms) (hR : rm.frames + 1 ≤ R.frames ∧ 8 + (2 + 11) + rm.locals ≤ R.locals) : CallW R s args RX11 RX11 197 yX11_readMan cX11_readMan 2 (some .boolean) (wl yX11_readMan cX11_readMan 2 (some .boolean)) rm mc ms 0 := cwV 0 hts (gi_V t1626 t1628 s46 t18 t1629) rfl hrc hrs (by decide +kernel) hR
theorem dX11_readLine_12 : decode cX11_readLine 12 = .ok (.ireturn, 1) := by decide +kernel
set_option maxHeartbeats 4000000 in
set_option maxRecDepth 100000 in
theorem m_readLine (l : Launch) (dC : Nat → ClassId) (dI : Nat → Nat → Nat) (cy : Nat → ClassId) (sz : Nat) (vo : Nat) (voth : Int32) (vmt : Nat) (votp : Int32) (vosz : Int32) (volm : Int32) (voto : Int32) (vofr : Int32) (vokd : Int32) (vonu : Int32) (vosg : Int32) (vofa : Int32) (vopl : Int32) (vowd : Int64) (votd : Int32) (vmn : Nat) (vmr : Nat) (vmk : Nat) (vms : Nat) (vma : Nat) (vmm : Nat) (vmrn : Nat) (vmkn : Nat) (vmik : Nat) (vmon : Nat) (vosm : Int32) (vohp : Int32) (vmw : Nat) (vmf : Nat) (vmb : Nat) (vomb : Int32) (vmd : Nat) (vmc : Nat) (vocm : Int32) (voct : Int32) (vocy : Int32) (vmx : Nat) (votx : Int32) (vose : Int32) (vml : Nat) (vmwr : Nat) (voln : Int32) (vohw : Int32) (vmno : Nat) (vond : Int32) (voon : Int32) (vowi : Int32) (votop : Int32) (vmtf : Nat → Int32) (vmrf : Nat → Int32) (vmrnf : Nat → Int64) (vmonf : Nat → Int32) (r_vosz : 0 ≤ (vosz : Int32).toInt ∧ (vosz : Int32).toInt ≤ 940) (r_voto : 0 ≤ (voto : Int32).toInt ∧ (voto : Int32).toInt ≤ 940) (r_votd : -1 ≤ (votd : Int32).toInt ∧ (votd : Int32).toInt ≤ 999) (p_vmtf : Rg vmtf 940 0 255) (p_vmrf : RD vmrf) : Met l yX11_readLine (wl yX11_readLine cX11_readLine 1 (some .boolean)) ({ frames := 6, cells := 0, slots := 0, locals := 384 }) (Pw (dC, dI) vwCl cy [(vo, .inr (12, [.int voth, .ref vmt, .int votp, .int vosz, .int volm, .int voto, .int vofr, .int vokd, .int vonu, .int vosg, .int vofa, .int vopl, .long vowd, .int votd, .ref vmn, .ref vmr, .ref vmk, .ref vms, .ref vma, .ref vmm, .ref vmrn, .ref vmkn, .ref vmik, .ref vmon, .int vosm, .int vohp, .ref vmw, .ref vmf, .ref vmb, .int vomb, .ref vmd, .ref vmc, .int vocm, .int voct, .int vocy, .ref vmx, .int votx, .int vose, .ref vml, .ref vmwr, .int voln, .int vohw, .ref vmno, .int vond, .int voon, .int vowi, .int votop])), (vmt, .inl (cy 0, 940, .inl vmtf)), (vmr, .inl (cy 0, 157, .inl vmrf)), (vmrn, .inl (cy 1, 17, .inr (.inl vmrnf))), (vmon, .inl (cy 2, 2, .inl vmonf))] sz [.ref vo] nE) (Qi (dC, dI) vwCl (fun (r : Int32) (u : Int32 × Int32 × Int32 × Int32 × Int64 × Int32 × Int32 × Int32 × Int32 × (Nat → Int32) × (Nat → Int64) × (Nat → Int32)) => ((r = 0) ∨ (r = 1 ∧ ((u.2.2.1 : Int32).toInt = 0 ∨ (u.2.2.1 : Int32).toInt = 1 ∨ (voto : Int32).toInt + 1 ≤ (u.1 : Int32).toInt))) ∧ (0 ≤ (u.1 : Int32).toInt ∧ (u.1 : Int32).toInt ≤ 940) ∧ (-1 ≤ (u.2.2.2.2.2.2.2.2.1 : Int32).toInt ∧ (u.2.2.2.2.2.2.2.2.1 : Int32).toInt ≤ 999) ∧ (RD u.2.2.2.2.2.2.2.2.2.1) ∧ ((voto : Int32).toInt ≤ (u.1 : Int32).toInt)) (O_m_readLine cy vo voth vmt votp vosz volm voto vofr vokd vonu vosg vofa vopl vowd votd vmn vmr vmk vms vma vmm vmrn vmkn vmik vmon vosm vohp vmw vmf vmb vomb vmd vmc vocm voct vocy vmx votx vose vml vmwr voln vohw vmno vond voon vowi votop vmtf vmrf vmrnf vmonf) (va_A [(vo, .inr (12, [.int voth, .ref vmt, .int votp, .int vosz, .int volm, .int voto, .int vofr, .int vokd, .int vonu, .int vosg, .int vofa, .int vopl, .long vowd, .int votd, .ref vmn, .ref vmr, .ref vmk, .ref vms, .ref vma, .ref vmm, .ref vmrn, .ref vmkn, .ref vmik, .ref vmon, .int vosm, .int vohp, .ref vmw, .ref vmf, .ref vmb, .int vomb, .ref vmd, .ref vmc, .int vocm, .int voct, .int vocy, .ref vmx, .int votx, .int vose, .ref vml, .ref vmwr, .int voln, .int vohw, .ref vmno, .int vond, .int voon, .int vowi, .int votop])), (vmt, .inl (cy 0, 940, .inl vmtf)), (vmr, .inl (cy 0, 157, .inl vmrf)), (vmrn, .inl (cy 1, 17, .inr (.inl vmrnf))), (vmon, .inl (cy 2, 2, .inl vmonf))] sz)) 0 0 (va_A [(vo, .inr (12, [.int voth, .ref vmt, .int votp, .int vosz, .int volm, .int voto, .int vofr, .int vokd, .int vonu, .int vosg, .int vofa, .int vopl, .long vowd, .int votd, .ref vmn, .ref vmr, .ref vmk, .ref vms, .ref vma, .ref vmm, .ref vmrn, .ref vmkn, .ref vmik, .ref vmon, .int vosm, .int vohp, .ref vmw, .ref vmf, .ref vmb, .int vomb, .ref vmd, .ref vmc, .int vocm, .int voct, .int vocy, .ref vmx, .int votx, .int vose, .ref vml, .ref vmwr, .int voln, .int vohw, .ref vmno, .int vond, .int voon, .int vowi, .int votop])), (vmt, .inl (cy 0, 940, .inl vmtf)), (vmr, .inl (cy 0, 157, .inl vmrf)), (vmrn, .inl (cy 1, 17, .inr (.inl vmrnf))), (vmon, .inl (cy 2, 2, .inl vmonf))] sz) := by
  refine mw (Qc := Qi (dC, dI) vwCl (fun (r : Int32) (u : Int32 × Int32 × Int32 × Int32 × Int64 × Int32 × Int32 × Int32 × Int32 × (Nat → Int32) × (Nat → Int64) × (Nat → Int32)) => ((r = 0) ∨ (r = 1 ∧ ((u.2.2.1 : Int32).toInt = 0 ∨ (u.2.2.1 : Int32).toInt = 1 ∨ (voto : Int32).toInt + 1 ≤ (u.1 : Int32).toInt))) ∧ (0 ≤ (u.1 : Int32).toInt ∧ (u.1 : Int32).toInt ≤ 940) ∧ (-1 ≤ (u.2.2.2.2.2.2.2.2.1 : Int32).toInt ∧ (u.2.2.2.2.2.2.2.2.1 : Int32).toInt ≤ 999) ∧ (RD u.2.2.2.2.2.2.2.2.2.1) ∧ ((voto : Int32).toInt ≤ (u.1 : Int32).toInt)) (O_m_readLine cy vo voth vmt votp vosz volm voto vofr vokd vonu vosg vofa vopl vowd votd vmn vmr vmk vms vma vmm vmrn vmkn vmik vmon vosm vohp vmw vmf vmb vomb vmd vmc vocm voct vocy vmx votx vose vml vmwr voln vohw vmno vond voon vowi votop vmtf vmrf vmrnf vmonf)) RX11 rfl (by decide +kernel) (Nat.le_of_ble_eq_true rfl) ?_
  intro p e s m below meth c A hx hb hr hlocks av9 hav hts hown hnm hml hK hP hD hA hS hE hAe Q9 hQ9 ls hl
  have hl : lv_has ls 1 [(0, .ref vo)] := hl
  refine lv_aload_n hx hb dX11_readLine_0 rfl (lv_at hl 0 rfl) ?_
  refine lv_iconst (v := 0) hx hb dX11_readLine_1 (by decide) ?_
  have k_0 : (0 : Int32).toInt = 0 := by decide
  refine jr_i (rVr (As := [.int 0]) (rest := []) (ci := 12) ⟨hx, hb, hml, hown, hts⟩ (m_isWord l dC dI cy vo voth vmt votp vosz volm voto vofr vokd vonu vosg vofa vopl vowd votd vmn vmr vmk vms vma vmm vmrn vmkn vmik vmon vosm vohp vmw vmf vmb vomb vmd vmc vocm voct vocy vmx votx vose vml vmwr voln vohw vmno vond voon vowi votop 0 ) (cw_X11_185 hts rfl rfl ⟨Nat.le_of_ble_eq_true rfl, Nat.le_of_ble_eq_true rfl⟩) hP hK [0] rfl rfl rfl rfl hl.1 rfl (Nat.le_of_ble_eq_true rfl) dX11_readLine_2 ⟨Nat.le_of_ble_eq_true rfl, Nat.le_of_ble_eq_true rfl⟩) hP hS (fun r_1 H locs hp_2 hP hS => ?_)
  have hp_2 : ((r_1 = 0) ∨ (r_1 = 1 ∧ (vokd : Int32).toInt = 2)) := hp_2
  have q_3 := hp_2
  rcases q_3 with aq_3 | ⟨aq_3, f0q_3⟩
  · skip
    refine as_i 0 aq_3 ?_
    refine lv_if_eq (tgt := 13) hx hb dX11_readLine_5 (by decide) (fun _ => ?_) (fun c9 => absurd (by decide) c9)
    refine lv_aload_n hx hb dX11_readLine_13 rfl (lv_at hl 0 rfl) ?_
    refine lv_iconst (v := 1) hx hb dX11_readLine_14 (by decide) ?_
    have k_1 : (1 : Int32).toInt = 1 := by decide
    refine jr_i (rVr (As := [.int 1]) (rest := []) (ci := 12) ⟨hx, hb, hml, hown, hts⟩ (m_isWord l dC dI cy vo voth vmt votp vosz volm voto vofr vokd vonu vosg vofa vopl vowd votd vmn vmr vmk vms vma vmm vmrn vmkn vmik vmon vosm vohp vmw vmf vmb vomb vmd vmc vocm voct vocy vmx votx vose vml vmwr voln vohw vmno vond voon vowi votop 1 ) (cw_X11_185 hts rfl rfl ⟨Nat.le_of_ble_eq_true rfl, Nat.le_of_ble_eq_true rfl⟩) hP hK [0] rfl rfl rfl rfl hl.1 rfl (Nat.le_of_ble_eq_true rfl) dX11_readLine_15 ⟨Nat.le_of_ble_eq_true rfl, Nat.le_of_ble_eq_true rfl⟩) hP hS (fun r_4 H locs hp_5 hP hS => ?_)
    have hp_5 : ((r_4 = 0) ∨ (r_4 = 1 ∧ (vokd : Int32).toInt = 2)) := hp_5
    have q_6 := hp_5
    rcases q_6 with aq_6 | ⟨aq_6, f0q_6⟩
    · skip
      refine as_i 0 aq_6 ?_
      refine lv_if_eq (tgt := 26) hx hb dX11_readLine_18 (by decide) (fun _ => ?_) (fun c9 => absurd (by decide) c9)
      refine lv_aload_n hx hb dX11_readLine_26 rfl (lv_at hl 0 rfl) ?_
      refine lv_iconst (v := 4) hx hb dX11_readLine_27 (by decide) ?_
      have k_4 : (4 : Int32).toInt = 4 := by decide
      refine jr_i (rVr (As := [.int 4]) (rest := []) (ci := 12) ⟨hx, hb, hml, hown, hts⟩ (m_isWord l dC dI cy vo voth vmt votp vosz volm voto vofr vokd vonu vosg vofa vopl vowd votd vmn vmr vmk vms vma vmm vmrn vmkn vmik vmon vosm vohp vmw vmf vmb vomb vmd vmc vocm voct vocy vmx votx vose vml vmwr voln vohw vmno vond voon vowi votop 4 ) (cw_X11_185 hts rfl rfl ⟨Nat.le_of_ble_eq_true rfl, Nat.le_of_ble_eq_true rfl⟩) hP hK [0] rfl rfl rfl rfl hl.1 rfl (Nat.le_of_ble_eq_true rfl) dX11_readLine_28 ⟨Nat.le_of_ble_eq_true rfl, Nat.le_of_ble_eq_true rfl⟩) hP hS (fun r_7 H locs hp_8 hP hS => ?_)
      have hp_8 : ((r_7 = 0) ∨ (r_7 = 1 ∧ (vokd : Int32).toInt = 2)) := hp_8
      have q_9 := hp_8
      rcases q_9 with aq_9 | ⟨aq_9, f0q_9⟩
      · skip
        refine as_i 0 aq_9 ?_
        refine lv_if_eq (tgt := 39) hx hb dX11_readLine_31 (by decide) (fun _ => ?_) (fun c9 => absurd (by decide) c9)
        refine lv_aload_n hx hb dX11_readLine_39 rfl (lv_at hl 0 rfl) ?_
        refine lv_iconst (v := 5) hx hb dX11_readLine_40 (by decide) ?_
        have k_5 : (5 : Int32).toInt = 5 := by decide
        refine jr_i (rVr (As := [.int 5]) (rest := []) (ci := 12) ⟨hx, hb, hml, hown, hts⟩ (m_isWord l dC dI cy vo voth vmt votp vosz volm voto vofr vokd vonu vosg vofa vopl vowd votd vmn vmr vmk vms vma vmm vmrn vmkn vmik vmon vosm vohp vmw vmf vmb vomb vmd vmc vocm voct vocy vmx votx vose vml vmwr voln vohw vmno vond voon vowi votop 5 ) (cw_X11_185 hts rfl rfl ⟨Nat.le_of_ble_eq_true rfl, Nat.le_of_ble_eq_true rfl⟩) hP hK [0] rfl rfl rfl rfl hl.1 rfl (Nat.le_of_ble_eq_true rfl) dX11_readLine_41 ⟨Nat.le_of_ble_eq_true rfl, Nat.le_of_ble_eq_true rfl⟩) hP hS (fun r_10 H locs hp_11 hP hS => ?_)
        have hp_11 : ((r_10 = 0) ∨ (r_10 = 1 ∧ (vokd : Int32).toInt = 2)) := hp_11
        have q_12 := hp_11
        rcases q_12 with aq_12 | ⟨aq_12, f0q_12⟩
        · skip
          refine as_i 0 aq_12 ?_
          refine lv_if_eq (tgt := 52) hx hb dX11_readLine_44 (by decide) (fun _ => ?_) (fun c9 => absurd (by decide) c9)
          refine lv_aload_n hx hb dX11_readLine_52 rfl (lv_at hl 0 rfl) ?_
          refine lv_bipush (v := 6) hx hb dX11_readLine_53 (by decide) ?_
          have k_6 : (6 : Int32).toInt = 6 := by decide
          refine jr_i (rVr (As := [.int 6]) (rest := []) (ci := 12) ⟨hx, hb, hml, hown, hts⟩ (m_isWord l dC dI cy vo voth vmt votp vosz volm voto vofr vokd vonu vosg vofa vopl vowd votd vmn vmr vmk vms vma vmm vmrn vmkn vmik vmon vosm vohp vmw vmf vmb vomb vmd vmc vocm voct vocy vmx votx vose vml vmwr voln vohw vmno vond voon vowi votop 6 ) (cw_X11_185 hts rfl rfl ⟨Nat.le_of_ble_eq_true rfl, Nat.le_of_ble_eq_true rfl⟩) hP hK [0] rfl rfl rfl rfl hl.1 rfl (Nat.le_of_ble_eq_true rfl) dX11_readLine_55 ⟨Nat.le_of_ble_eq_true rfl, Nat.le_of_ble_eq_true rfl⟩) hP hS (fun r_13 H locs hp_14 hP hS => ?_)
          have hp_14 : ((r_13 = 0) ∨ (r_13 = 1 ∧ (vokd : Int32).toInt = 2)) := hp_14
          have q_15 := hp_14
          rcases q_15 with aq_15 | ⟨aq_15, f0q_15⟩
          · skip
            refine as_i 0 aq_15 ?_
            refine lv_if_eq (tgt := 66) hx hb dX11_readLine_58 (by decide) (fun _ => ?_) (fun c9 => absurd (by decide) c9)
            refine lv_aload_n hx hb dX11_readLine_66 rfl (lv_at hl 0 rfl) ?_
            refine lv_bipush (v := 7) hx hb dX11_readLine_67 (by decide) ?_
            have k_7 : (7 : Int32).toInt = 7 := by decide
            refine jr_i (rVr (As := [.int 7]) (rest := []) (ci := 12) ⟨hx, hb, hml, hown, hts⟩ (m_isWord l dC dI cy vo voth vmt votp vosz volm voto vofr vokd vonu vosg vofa vopl vowd votd vmn vmr vmk vms vma vmm vmrn vmkn vmik vmon vosm vohp vmw vmf vmb vomb vmd vmc vocm voct vocy vmx votx vose vml vmwr voln vohw vmno vond voon vowi votop 7 ) (cw_X11_185 hts rfl rfl ⟨Nat.le_of_ble_eq_true rfl, Nat.le_of_ble_eq_true rfl⟩) hP hK [0] rfl rfl rfl rfl hl.1 rfl (Nat.le_of_ble_eq_true rfl) dX11_readLine_69 ⟨Nat.le_of_ble_eq_true rfl, Nat.le_of_ble_eq_true rfl⟩) hP hS (fun r_16 H locs hp_17 hP hS => ?_)
            have hp_17 : ((r_16 = 0) ∨ (r_16 = 1 ∧ (vokd : Int32).toInt = 2)) := hp_17
            have q_18 := hp_17
            rcases q_18 with aq_18 | ⟨aq_18, f0q_18⟩
            · skip
              refine as_i 0 aq_18 ?_
              refine lv_if_eq (tgt := 86) hx hb dX11_readLine_72 (by decide) (fun _ => ?_) (fun c9 => absurd (by decide) c9)
              refine lv_aload_n hx hb dX11_readLine_86 rfl (lv_at hl 0 rfl) ?_
              refine lv_bipush (v := 19) hx hb dX11_readLine_87 (by decide) ?_
              have k_19 : (19 : Int32).toInt = 19 := by decide
              refine jr_i (rVr (As := [.int 19]) (rest := []) (ci := 12) ⟨hx, hb, hml, hown, hts⟩ (m_isWord l dC dI cy vo voth vmt votp vosz volm voto vofr vokd vonu vosg vofa vopl vowd votd vmn vmr vmk vms vma vmm vmrn vmkn vmik vmon vosm vohp vmw vmf vmb vomb vmd vmc vocm voct vocy vmx votx vose vml vmwr voln vohw vmno vond voon vowi votop 19 ) (cw_X11_185 hts rfl rfl ⟨Nat.le_of_ble_eq_true rfl, Nat.le_of_ble_eq_true rfl⟩) hP hK [0] rfl rfl rfl rfl hl.1 rfl (Nat.le_of_ble_eq_true rfl) dX11_readLine_89 ⟨Nat.le_of_ble_eq_true rfl, Nat.le_of_ble_eq_true rfl⟩) hP hS (fun r_19 H locs hp_20 hP hS => ?_)
              have hp_20 : ((r_19 = 0) ∨ (r_19 = 1 ∧ (vokd : Int32).toInt = 2)) := hp_20
              have q_21 := hp_20
              rcases q_21 with aq_21 | ⟨aq_21, f0q_21⟩
              · skip
                refine as_i 0 aq_21 ?_
                refine lv_if_eq (tgt := 107) hx hb dX11_readLine_92 (by decide) (fun _ => ?_) (fun c9 => absurd (by decide) c9)
                refine lv_aload_n hx hb dX11_readLine_107 rfl (lv_at hl 0 rfl) ?_
                refine lv_iconst (v := 1) hx hb dX11_readLine_108 (by decide) ?_
                refine jn_i (wr := [(vmt, .inl (cy 0, 940, .inl vmtf)), (vmr, .inl (cy 0, 157, .inl vmrf)), (vmrn, .inl (cy 1, 17, .inr (.inl vmrnf))), (vmon, .inl (cy 2, 2, .inl vmonf))]) (rV (As := [.int 1]) (rest := []) (ci := 12) ⟨hx, hb, hml, hown, hts⟩ (m_bad l dC dI cy _ vo voth vmt votp vosz volm voto vofr vokd vonu vosg vofa vopl vowd votd vmn vmr vmk vms vma vmm vmrn vmkn vmik vmon vosm vohp vmw vmf vmb vomb vmd vmc vocm voct vocy vmx votx vose vml vmwr voln vohw vmno vond voon vowi votop 1 ) (cw_X11_72 hts rfl rfl ⟨Nat.le_of_ble_eq_true rfl, Nat.le_of_ble_eq_true rfl⟩) hP hD hK [0] rfl rfl rfl rfl bl0 e0 rfl hl.1 rfl (Nat.le_of_ble_eq_true rfl) dX11_readLine_109 ⟨Nat.le_of_ble_eq_true rfl, Nat.le_of_ble_eq_true rfl⟩) hP hD hS hA [0] [1, 2, 3, 4] rfl rfl rfl (by decide) (fun r_22 u_24 H locs hp_23 hP hD hS => ?_)
                obtain ⟨vofa_25, vopl_26⟩ := u_24
                have hp_23 : ((r_22 = 0)) := hp_23
                have q_27 := hp_23
                have hP : va_P (dC, dI) vwCl [(vmt, .inl (cy 0, 940, .inl vmtf)), (vmr, .inl (cy 0, 157, .inl vmrf)), (vmrn, .inl (cy 1, 17, .inr (.inl vmrnf))), (vmon, .inl (cy 2, 2, .inl vmonf)), (vo, .inr (12, [.int voth, .ref vmt, .int votp, .int vosz, .int volm, .int voto, .int vofr, .int vokd, .int vonu, .int vosg, .int vofa_25, .int vopl_26, .long vowd, .int votd, .ref vmn, .ref vmr, .ref vmk, .ref vms, .ref vma, .ref vmm, .ref vmrn, .ref vmkn, .ref vmik, .ref vmon, .int vosm, .int vohp, .ref vmw, .ref vmf, .ref vmb, .int vomb, .ref vmd, .ref vmc, .int vocm, .int voct, .int vocy, .ref vmx, .int votx, .int vose, .ref vml, .ref vmwr, .int voln, .int vohw, .ref vmno, .int vond, .int voon, .int vowi, .int votop]))] H := hP
                have hD : va_D A [(vmt, .inl (cy 0, 940, .inl vmtf)), (vmr, .inl (cy 0, 157, .inl vmrf)), (vmrn, .inl (cy 1, 17, .inr (.inl vmrnf))), (vmon, .inl (cy 2, 2, .inl vmonf)), (vo, .inr (12, [.int voth, .ref vmt, .int votp, .int vosz, .int volm, .int voto, .int vofr, .int vokd, .int vonu, .int vosg, .int vofa_25, .int vopl_26, .long vowd, .int votd, .ref vmn, .ref vmr, .ref vmk, .ref vms, .ref vma, .ref vmm, .ref vmrn, .ref vmkn, .ref vmik, .ref vmon, .int vosm, .int vohp, .ref vmw, .ref vmf, .ref vmb, .int vomb, .ref vmd, .ref vmc, .int vocm, .int voct, .int vocy, .ref vmx, .int votx, .int vose, .ref vml, .ref vmwr, .int voln, .int vohw, .ref vmno, .int vond, .int voon, .int vowi, .int votop]))] := hD
                have aq_27 := q_27
                · skip
                  refine as_i 0 aq_27 ?_
                  rw [hQ9]
                  exact re_z (voto, vofr, vokd, vosg, vowd, vonu, vofa_25, vopl_26, votd, vmrf, vmrnf, vmonf) hx hb hr hlocks (Or.inl rfl) ⟨(show ((0 : Int32) = 0) ∨ ((0 : Int32) = 1 ∧ ((vokd : Int32).toInt = 0 ∨ (vokd : Int32).toInt = 1 ∨ (voto : Int32).toInt + 1 ≤ (voto : Int32).toInt)) from (Or.inl rfl)), (show 0 ≤ (voto : Int32).toInt ∧ (voto : Int32).toInt ≤ 940 from ⟨by omega, by omega⟩), (show -1 ≤ (votd : Int32).toInt ∧ (votd : Int32).toInt ≤ 999 from ⟨by omega, by omega⟩), (show RD vmrf from p_vmrf), (show (voto : Int32).toInt ≤ (voto : Int32).toInt from (by omega))⟩ (hP.sub [4, 0, 1, 2, 3] rfl) (hD.sub [4, 0, 1, 2, 3] rfl rfl) hS dX11_readLine_112
              · skip
                refine as_i 1 aq_21 ?_
                refine lv_if_eq (tgt := 107) hx hb dX11_readLine_92 (by decide) (fun c9 => absurd c9 (by decide)) (fun _ => ?_)
                refine lv_aload_n hx hb dX11_readLine_95 rfl (lv_at hl 0 rfl) ?_
                refine lv_iconst (v := 1) hx hb dX11_readLine_96 (by decide) ?_
                refine lv_iconst (v := 3) hx hb dX11_readLine_97 (by decide) ?_
                refine lv_iconst (v := 0) hx hb dX11_readLine_98 (by decide) ?_
                refine lv_bipush (v := 60) hx hb dX11_readLine_99 (by decide) ?_
                have k_3 : (3 : Int32).toInt = 3 := by decide
                have k_60 : (60 : Int32).toInt = 60 := by decide
                refine jn_i (wr := [(vmrn, .inl (cy 1, 17, .inr (.inl vmrnf)))]) (rV (As := [.int 1, .int 3, .int 0, .int 60]) (rest := []) (ci := 12) ⟨hx, hb, hml, hown, hts⟩ (m_readOnce l dC dI cy _ vo voth vmt votp vosz volm voto vofr vokd vonu vosg vofa vopl vowd votd vmn vmr vmk vms vma vmm vmrn vmkn vmik vmon vosm vohp vmw vmf vmb vomb vmd vmc vocm voct vocy vmx votx vose vml vmwr voln vohw vmno vond voon vowi votop vmtf vmrf vmonf 1 3 0 60 r_vosz r_voto r_votd ⟨by omega, by omega⟩ ⟨by omega, by omega⟩ ⟨by omega, by omega⟩ ⟨by omega, by omega⟩ p_vmtf p_vmrf) (cw_X11_212 hts rfl rfl ⟨Nat.le_of_ble_eq_true rfl, Nat.le_of_ble_eq_true rfl⟩) hP hD hK [0, 1, 2, 4] rfl rfl rfl rfl bl0 e0 rfl hl.1 rfl (Nat.le_of_ble_eq_true rfl) dX11_readLine_101 ⟨Nat.le_of_ble_eq_true rfl, Nat.le_of_ble_eq_true rfl⟩) hP hD hS hA [0, 1, 2, 4] [3] rfl rfl rfl (by decide) (fun r_28 u_30 H locs hp_29 hP hD hS => ?_)
                obtain ⟨voto_31, vofr_32, vokd_33, vosg_34, vowd_35, vonu_36, vofa_37, vopl_38, votd_39, vmrf_40, vmonf_41⟩ := u_30
                have hp_29 : ((r_28 = 0) ∨ (r_28 = 1 ∧ ((vokd_33 : Int32).toInt = 0 ∨ (vokd_33 : Int32).toInt = 1 ∨ (voto : Int32).toInt + 1 ≤ (voto_31 : Int32).toInt))) ∧ (0 ≤ (voto_31 : Int32).toInt ∧ (voto_31 : Int32).toInt ≤ 940) ∧ (-1 ≤ (votd_39 : Int32).toInt ∧ (votd_39 : Int32).toInt ≤ 999) ∧ (RD vmrf_40) ∧ ((voto : Int32).toInt ≤ (voto_31 : Int32).toInt) := hp_29
                obtain ⟨q_42, q_43, q_44, q_45, q_46⟩ := hp_29
                have hP : va_P (dC, dI) vwCl [(vmrn, .inl (cy 1, 17, .inr (.inl vmrnf))), (vo, .inr (12, [.int voth, .ref vmt, .int votp, .int vosz, .int volm, .int voto_31, .int vofr_32, .int vokd_33, .int vonu_36, .int vosg_34, .int vofa_37, .int vopl_38, .long vowd_35, .int votd_39, .ref vmn, .ref vmr, .ref vmk, .ref vms, .ref vma, .ref vmm, .ref vmrn, .ref vmkn, .ref vmik, .ref vmon, .int vosm, .int vohp, .ref vmw, .ref vmf, .ref vmb, .int vomb, .ref vmd, .ref vmc, .int vocm, .int voct, .int vocy, .ref vmx, .int votx, .int vose, .ref vml, .ref vmwr, .int voln, .int vohw, .ref vmno, .int vond, .int voon, .int vowi, .int votop])), (vmt, .inl (cy 0, 940, .inl vmtf)), (vmr, .inl (cy 0, 157, .inl vmrf_40)), (vmon, .inl (cy 2, 2, .inl vmonf_41))] H := hP
                have hD : va_D A [(vmrn, .inl (cy 1, 17, .inr (.inl vmrnf))), (vo, .inr (12, [.int voth, .ref vmt, .int votp, .int vosz, .int volm, .int voto_31, .int vofr_32, .int vokd_33, .int vonu_36, .int vosg_34, .int vofa_37, .int vopl_38, .long vowd_35, .int votd_39, .ref vmn, .ref vmr, .ref vmk, .ref vms, .ref vma, .ref vmm, .ref vmrn, .ref vmkn, .ref vmik, .ref vmon, .int vosm, .int vohp, .ref vmw, .ref vmf, .ref vmb, .int vomb, .ref vmd, .ref vmc, .int vocm, .int voct, .int vocy, .ref vmx, .int votx, .int vose, .ref vml, .ref vmwr, .int voln, .int vohw, .ref vmno, .int vond, .int voon, .int vowi, .int votop])), (vmt, .inl (cy 0, 940, .inl vmtf)), (vmr, .inl (cy 0, 157, .inl vmrf_40)), (vmon, .inl (cy 2, 2, .inl vmonf_41))] := hD
                rcases q_42 with aq_42 | ⟨aq_42, f0q_42⟩
                · skip
                  refine as_i 0 aq_42 ?_
                  refine lv_goto (tgt := 112) hx hb dX11_readLine_104 (by decide) ?_
                  rw [hQ9]
                  exact re_z (voto_31, vofr_32, vokd_33, vosg_34, vowd_35, vonu_36, vofa_37, vopl_38, votd_39, vmrf_40, vmrnf, vmonf_41) hx hb hr hlocks (Or.inl rfl) ⟨(show ((0 : Int32) = 0) ∨ ((0 : Int32) = 1 ∧ ((vokd_33 : Int32).toInt = 0 ∨ (vokd_33 : Int32).toInt = 1 ∨ (voto : Int32).toInt + 1 ≤ (voto_31 : Int32).toInt)) from (Or.inl rfl)), (show 0 ≤ (voto_31 : Int32).toInt ∧ (voto_31 : Int32).toInt ≤ 940 from ⟨by omega, by omega⟩), (show -1 ≤ (votd_39 : Int32).toInt ∧ (votd_39 : Int32).toInt ≤ 999 from ⟨by omega, by omega⟩), (show RD vmrf_40 from q_45), (show (voto : Int32).toInt ≤ (voto_31 : Int32).toInt from q_46)⟩ (hP.sub [1, 2, 3, 0, 4] rfl) (hD.sub [1, 2, 3, 0, 4] rfl rfl) hS dX11_readLine_112
                · skip
                  refine as_i 1 aq_42 ?_
                  refine lv_goto (tgt := 112) hx hb dX11_readLine_104 (by decide) ?_
                  rw [hQ9]
                  exact re_z (voto_31, vofr_32, vokd_33, vosg_34, vowd_35, vonu_36, vofa_37, vopl_38, votd_39, vmrf_40, vmrnf, vmonf_41) hx hb hr hlocks (Or.inr rfl) ⟨(show ((1 : Int32) = 0) ∨ ((1 : Int32) = 1 ∧ ((vokd_33 : Int32).toInt = 0 ∨ (vokd_33 : Int32).toInt = 1 ∨ (voto : Int32).toInt + 1 ≤ (voto_31 : Int32).toInt)) from (Or.inr (⟨rfl, by omega⟩))), (show 0 ≤ (voto_31 : Int32).toInt ∧ (voto_31 : Int32).toInt ≤ 940 from ⟨by omega, by omega⟩), (show -1 ≤ (votd_39 : Int32).toInt ∧ (votd_39 : Int32).toInt ≤ 999 from ⟨by omega, by omega⟩), (show RD vmrf_40 from q_45), (show (voto : Int32).toInt ≤ (voto_31 : Int32).toInt from q_46)⟩ (hP.sub [1, 2, 3, 0, 4] rfl) (hD.sub [1, 2, 3, 0, 4] rfl rfl) hS dX11_readLine_112
            · skip
              refine as_i 1 aq_18 ?_
              refine lv_if_eq (tgt := 86) hx hb dX11_readLine_72 (by decide) (fun c9 => absurd c9 (by decide)) (fun _ => ?_)
              refine lv_aload_n hx hb dX11_readLine_75 rfl (lv_at hl 0 rfl) ?_
              refine lv_iconst (v := 0) hx hb dX11_readLine_76 (by decide) ?_
              refine lv_iconst (v := 2) hx hb dX11_readLine_77 (by decide) ?_
              refine lv_iconst (v := 1) hx hb dX11_readLine_78 (by decide) ?_
              refine lv_sipush (v := 200) hx hb dX11_readLine_79 (by decide) ?_
              have k_2 : (2 : Int32).toInt = 2 := by decide
              have k_200 : (200 : Int32).toInt = 200 := by decide
              refine jn_i (wr := [(vmrn, .inl (cy 1, 17, .inr (.inl vmrnf)))]) (rV (As := [.int 0, .int 2, .int 1, .int 200]) (rest := []) (ci := 12) ⟨hx, hb, hml, hown, hts⟩ (m_readOnce l dC dI cy _ vo voth vmt votp vosz volm voto vofr vokd vonu vosg vofa vopl vowd votd vmn vmr vmk vms vma vmm vmrn vmkn vmik vmon vosm vohp vmw vmf vmb vomb vmd vmc vocm voct vocy vmx votx vose vml vmwr voln vohw vmno vond voon vowi votop vmtf vmrf vmonf 0 2 1 200 r_vosz r_voto r_votd ⟨by omega, by omega⟩ ⟨by omega, by omega⟩ ⟨by omega, by omega⟩ ⟨by omega, by omega⟩ p_vmtf p_vmrf) (cw_X11_212 hts rfl rfl ⟨Nat.le_of_ble_eq_true rfl, Nat.le_of_ble_eq_true rfl⟩) hP hD hK [0, 1, 2, 4] rfl rfl rfl rfl bl0 e0 rfl hl.1 rfl (Nat.le_of_ble_eq_true rfl) dX11_readLine_82 ⟨Nat.le_of_ble_eq_true rfl, Nat.le_of_ble_eq_true rfl⟩) hP hD hS hA [0, 1, 2, 4] [3] rfl rfl rfl (by decide) (fun r_47 u_49 H locs hp_48 hP hD hS => ?_)
              obtain ⟨voto_50, vofr_51, vokd_52, vosg_53, vowd_54, vonu_55, vofa_56, vopl_57, votd_58, vmrf_59, vmonf_60⟩ := u_49
              have hp_48 : ((r_47 = 0) ∨ (r_47 = 1 ∧ ((vokd_52 : Int32).toInt = 0 ∨ (vokd_52 : Int32).toInt = 1 ∨ (voto : Int32).toInt + 1 ≤ (voto_50 : Int32).toInt))) ∧ (0 ≤ (voto_50 : Int32).toInt ∧ (voto_50 : Int32).toInt ≤ 940) ∧ (-1 ≤ (votd_58 : Int32).toInt ∧ (votd_58 : Int32).toInt ≤ 999) ∧ (RD vmrf_59) ∧ ((voto : Int32).toInt ≤ (voto_50 : Int32).toInt) := hp_48
              obtain ⟨q_61, q_62, q_63, q_64, q_65⟩ := hp_48
              have hP : va_P (dC, dI) vwCl [(vmrn, .inl (cy 1, 17, .inr (.inl vmrnf))), (vo, .inr (12, [.int voth, .ref vmt, .int votp, .int vosz, .int volm, .int voto_50, .int vofr_51, .int vokd_52, .int vonu_55, .int vosg_53, .int vofa_56, .int vopl_57, .long vowd_54, .int votd_58, .ref vmn, .ref vmr, .ref vmk, .ref vms, .ref vma, .ref vmm, .ref vmrn, .ref vmkn, .ref vmik, .ref vmon, .int vosm, .int vohp, .ref vmw, .ref vmf, .ref vmb, .int vomb, .ref vmd, .ref vmc, .int vocm, .int voct, .int vocy, .ref vmx, .int votx, .int vose, .ref vml, .ref vmwr, .int voln, .int vohw, .ref vmno, .int vond, .int voon, .int vowi, .int votop])), (vmt, .inl (cy 0, 940, .inl vmtf)), (vmr, .inl (cy 0, 157, .inl vmrf_59)), (vmon, .inl (cy 2, 2, .inl vmonf_60))] H := hP
              have hD : va_D A [(vmrn, .inl (cy 1, 17, .inr (.inl vmrnf))), (vo, .inr (12, [.int voth, .ref vmt, .int votp, .int vosz, .int volm, .int voto_50, .int vofr_51, .int vokd_52, .int vonu_55, .int vosg_53, .int vofa_56, .int vopl_57, .long vowd_54, .int votd_58, .ref vmn, .ref vmr, .ref vmk, .ref vms, .ref vma, .ref vmm, .ref vmrn, .ref vmkn, .ref vmik, .ref vmon, .int vosm, .int vohp, .ref vmw, .ref vmf, .ref vmb, .int vomb, .ref vmd, .ref vmc, .int vocm, .int voct, .int vocy, .ref vmx, .int votx, .int vose, .ref vml, .ref vmwr, .int voln, .int vohw, .ref vmno, .int vond, .int voon, .int vowi, .int votop])), (vmt, .inl (cy 0, 940, .inl vmtf)), (vmr, .inl (cy 0, 157, .inl vmrf_59)), (vmon, .inl (cy 2, 2, .inl vmonf_60))] := hD
              rcases q_61 with aq_61 | ⟨aq_61, f0q_61⟩
              · skip
                refine as_i 0 aq_61 ?_
                rw [hQ9]
                exact re_z (voto_50, vofr_51, vokd_52, vosg_53, vowd_54, vonu_55, vofa_56, vopl_57, votd_58, vmrf_59, vmrnf, vmonf_60) hx hb hr hlocks (Or.inl rfl) ⟨(show ((0 : Int32) = 0) ∨ ((0 : Int32) = 1 ∧ ((vokd_52 : Int32).toInt = 0 ∨ (vokd_52 : Int32).toInt = 1 ∨ (voto : Int32).toInt + 1 ≤ (voto_50 : Int32).toInt)) from (Or.inl rfl)), (show 0 ≤ (voto_50 : Int32).toInt ∧ (voto_50 : Int32).toInt ≤ 940 from ⟨by omega, by omega⟩), (show -1 ≤ (votd_58 : Int32).toInt ∧ (votd_58 : Int32).toInt ≤ 999 from ⟨by omega, by omega⟩), (show RD vmrf_59 from q_64), (show (voto : Int32).toInt ≤ (voto_50 : Int32).toInt from q_65)⟩ (hP.sub [1, 2, 3, 0, 4] rfl) (hD.sub [1, 2, 3, 0, 4] rfl rfl) hS dX11_readLine_85
              · skip
                refine as_i 1 aq_61 ?_
                rw [hQ9]
                exact re_z (voto_50, vofr_51, vokd_52, vosg_53, vowd_54, vonu_55, vofa_56, vopl_57, votd_58, vmrf_59, vmrnf, vmonf_60) hx hb hr hlocks (Or.inr rfl) ⟨(show ((1 : Int32) = 0) ∨ ((1 : Int32) = 1 ∧ ((vokd_52 : Int32).toInt = 0 ∨ (vokd_52 : Int32).toInt = 1 ∨ (voto : Int32).toInt + 1 ≤ (voto_50 : Int32).toInt)) from (Or.inr (⟨rfl, by omega⟩))), (show 0 ≤ (voto_50 : Int32).toInt ∧ (voto_50 : Int32).toInt ≤ 940 from ⟨by omega, by omega⟩), (show -1 ≤ (votd_58 : Int32).toInt ∧ (votd_58 : Int32).toInt ≤ 999 from ⟨by omega, by omega⟩), (show RD vmrf_59 from q_64), (show (voto : Int32).toInt ≤ (voto_50 : Int32).toInt from q_65)⟩ (hP.sub [1, 2, 3, 0, 4] rfl) (hD.sub [1, 2, 3, 0, 4] rfl rfl) hS dX11_readLine_85
          · skip
            refine as_i 1 aq_15 ?_
            refine lv_if_eq (tgt := 66) hx hb dX11_readLine_58 (by decide) (fun c9 => absurd c9 (by decide)) (fun _ => ?_)
            refine lv_aload_n hx hb dX11_readLine_61 rfl (lv_at hl 0 rfl) ?_
            refine jn_i (wr := [(vmon, .inl (cy 2, 2, .inl vmonf))]) (rV (As := []) (rest := []) (ci := 12) ⟨hx, hb, hml, hown, hts⟩ (m_readOwes l dC dI cy _ vo voth vmt votp vosz volm voto vofr vokd vonu vosg vofa vopl vowd votd vmn vmr vmk vms vma vmm vmrn vmkn vmik vmon vosm vohp vmw vmf vmb vomb vmd vmc vocm voct vocy vmx votx vose vml vmwr voln vohw vmno vond voon vowi votop vmtf vmrf vmrnf r_vosz r_voto r_votd p_vmtf p_vmrf) (cw_X11_209 hts rfl rfl ⟨Nat.le_of_ble_eq_true rfl, Nat.le_of_ble_eq_true rfl⟩) hP hD hK [0, 1, 2, 3] rfl rfl rfl rfl bl0 e0 rfl hl.1 rfl (Nat.le_of_ble_eq_true rfl) dX11_readLine_62 ⟨Nat.le_of_ble_eq_true rfl, Nat.le_of_ble_eq_true rfl⟩) hP hD hS hA [0, 1, 2, 3] [4] rfl rfl rfl (by decide) (fun r_66 u_68 H locs hp_67 hP hD hS => ?_)
            obtain ⟨voto_69, vofr_70, vokd_71, vosg_72, vowd_73, vonu_74, vofa_75, vopl_76, votd_77, vmrf_78⟩ := u_68
            have hp_67 : ((r_66 = 0) ∨ (r_66 = 1 ∧ ((vokd_71 : Int32).toInt = 0 ∨ (vokd_71 : Int32).toInt = 1 ∨ (voto : Int32).toInt + 1 ≤ (voto_69 : Int32).toInt))) ∧ (0 ≤ (voto_69 : Int32).toInt ∧ (voto_69 : Int32).toInt ≤ 940) ∧ (-1 ≤ (votd_77 : Int32).toInt ∧ (votd_77 : Int32).toInt ≤ 999) ∧ (RD vmrf_78) ∧ ((voto : Int32).toInt ≤ (voto_69 : Int32).toInt) := hp_67
            obtain ⟨q_79, q_80, q_81, q_82, q_83⟩ := hp_67
            have hP : va_P (dC, dI) vwCl [(vmon, .inl (cy 2, 2, .inl vmonf)), (vo, .inr (12, [.int voth, .ref vmt, .int votp, .int vosz, .int volm, .int voto_69, .int vofr_70, .int vokd_71, .int vonu_74, .int vosg_72, .int vofa_75, .int vopl_76, .long vowd_73, .int votd_77, .ref vmn, .ref vmr, .ref vmk, .ref vms, .ref vma, .ref vmm, .ref vmrn, .ref vmkn, .ref vmik, .ref vmon, .int vosm, .int vohp, .ref vmw, .ref vmf, .ref vmb, .int vomb, .ref vmd, .ref vmc, .int vocm, .int voct, .int vocy, .ref vmx, .int votx, .int vose, .ref vml, .ref vmwr, .int voln, .int vohw, .ref vmno, .int vond, .int voon, .int vowi, .int votop])), (vmt, .inl (cy 0, 940, .inl vmtf)), (vmr, .inl (cy 0, 157, .inl vmrf_78)), (vmrn, .inl (cy 1, 17, .inr (.inl vmrnf)))] H := hP
            have hD : va_D A [(vmon, .inl (cy 2, 2, .inl vmonf)), (vo, .inr (12, [.int voth, .ref vmt, .int votp, .int vosz, .int volm, .int voto_69, .int vofr_70, .int vokd_71, .int vonu_74, .int vosg_72, .int vofa_75, .int vopl_76, .long vowd_73, .int votd_77, .ref vmn, .ref vmr, .ref vmk, .ref vms, .ref vma, .ref vmm, .ref vmrn, .ref vmkn, .ref vmik, .ref vmon, .int vosm, .int vohp, .ref vmw, .ref vmf, .ref vmb, .int vomb, .ref vmd, .ref vmc, .int vocm, .int voct, .int vocy, .ref vmx, .int votx, .int vose, .ref vml, .ref vmwr, .int voln, .int vohw, .ref vmno, .int vond, .int voon, .int vowi, .int votop])), (vmt, .inl (cy 0, 940, .inl vmtf)), (vmr, .inl (cy 0, 157, .inl vmrf_78)), (vmrn, .inl (cy 1, 17, .inr (.inl vmrnf)))] := hD
            rcases q_79 with aq_79 | ⟨aq_79, f0q_79⟩
            · skip
              refine as_i 0 aq_79 ?_
              rw [hQ9]
              exact re_z (voto_69, vofr_70, vokd_71, vosg_72, vowd_73, vonu_74, vofa_75, vopl_76, votd_77, vmrf_78, vmrnf, vmonf) hx hb hr hlocks (Or.inl rfl) ⟨(show ((0 : Int32) = 0) ∨ ((0 : Int32) = 1 ∧ ((vokd_71 : Int32).toInt = 0 ∨ (vokd_71 : Int32).toInt = 1 ∨ (voto : Int32).toInt + 1 ≤ (voto_69 : Int32).toInt)) from (Or.inl rfl)), (show 0 ≤ (voto_69 : Int32).toInt ∧ (voto_69 : Int32).toInt ≤ 940 from ⟨by omega, by omega⟩), (show -1 ≤ (votd_77 : Int32).toInt ∧ (votd_77 : Int32).toInt ≤ 999 from ⟨by omega, by omega⟩), (show RD vmrf_78 from q_82), (show (voto : Int32).toInt ≤ (voto_69 : Int32).toInt from q_83)⟩ (hP.sub [1, 2, 3, 4, 0] rfl) (hD.sub [1, 2, 3, 4, 0] rfl rfl) hS dX11_readLine_65
            · skip
              refine as_i 1 aq_79 ?_
              rw [hQ9]
              exact re_z (voto_69, vofr_70, vokd_71, vosg_72, vowd_73, vonu_74, vofa_75, vopl_76, votd_77, vmrf_78, vmrnf, vmonf) hx hb hr hlocks (Or.inr rfl) ⟨(show ((1 : Int32) = 0) ∨ ((1 : Int32) = 1 ∧ ((vokd_71 : Int32).toInt = 0 ∨ (vokd_71 : Int32).toInt = 1 ∨ (voto : Int32).toInt + 1 ≤ (voto_69 : Int32).toInt)) from (Or.inr (⟨rfl, by omega⟩))), (show 0 ≤ (voto_69 : Int32).toInt ∧ (voto_69 : Int32).toInt ≤ 940 from ⟨by omega, by omega⟩), (show -1 ≤ (votd_77 : Int32).toInt ∧ (votd_77 : Int32).toInt ≤ 999 from ⟨by omega, by omega⟩), (show RD vmrf_78 from q_82), (show (voto : Int32).toInt ≤ (voto_69 : Int32).toInt from q_83)⟩ (hP.sub [1, 2, 3, 4, 0] rfl) (hD.sub [1, 2, 3, 4, 0] rfl rfl) hS dX11_readLine_65
        · skip
          refine as_i 1 aq_12 ?_
          refine lv_if_eq (tgt := 52) hx hb dX11_readLine_44 (by decide) (fun c9 => absurd c9 (by decide)) (fun _ => ?_)
          refine lv_aload_n hx hb dX11_readLine_47 rfl (lv_at hl 0 rfl) ?_
          refine jn_i (wr := [(vmon, .inl (cy 2, 2, .inl vmonf))]) (rV (As := []) (rest := []) (ci := 12) ⟨hx, hb, hml, hown, hts⟩ (m_readKin l dC dI cy _ vo voth vmt votp vosz volm voto vofr vokd vonu vosg vofa vopl vowd votd vmn vmr vmk vms vma vmm vmrn vmkn vmik vmon vosm vohp vmw vmf vmb vomb vmd vmc vocm voct vocy vmx votx vose vml vmwr voln vohw vmno vond voon vowi votop vmtf vmrf vmrnf r_vosz r_voto r_votd p_vmtf p_vmrf) (cw_X11_206 hts rfl rfl ⟨Nat.le_of_ble_eq_true rfl, Nat.le_of_ble_eq_true rfl⟩) hP hD hK [0, 1, 2, 3] rfl rfl rfl rfl bl0 e0 rfl hl.1 rfl (Nat.le_of_ble_eq_true rfl) dX11_readLine_48 ⟨Nat.le_of_ble_eq_true rfl, Nat.le_of_ble_eq_true rfl⟩) hP hD hS hA [0, 1, 2, 3] [4] rfl rfl rfl (by decide) (fun r_84 u_86 H locs hp_85 hP hD hS => ?_)
          obtain ⟨voto_87, vofr_88, vokd_89, vosg_90, vowd_91, vonu_92, vofa_93, vopl_94, votd_95, vmrf_96⟩ := u_86
          have hp_85 : ((r_84 = 0) ∨ (r_84 = 1 ∧ ((vokd_89 : Int32).toInt = 0 ∨ (vokd_89 : Int32).toInt = 1 ∨ (voto : Int32).toInt + 1 ≤ (voto_87 : Int32).toInt))) ∧ (0 ≤ (voto_87 : Int32).toInt ∧ (voto_87 : Int32).toInt ≤ 940) ∧ (-1 ≤ (votd_95 : Int32).toInt ∧ (votd_95 : Int32).toInt ≤ 999) ∧ (RD vmrf_96) ∧ ((voto : Int32).toInt ≤ (voto_87 : Int32).toInt) := hp_85
          obtain ⟨q_97, q_98, q_99, q_100, q_101⟩ := hp_85
          have hP : va_P (dC, dI) vwCl [(vmon, .inl (cy 2, 2, .inl vmonf)), (vo, .inr (12, [.int voth, .ref vmt, .int votp, .int vosz, .int volm, .int voto_87, .int vofr_88, .int vokd_89, .int vonu_92, .int vosg_90, .int vofa_93, .int vopl_94, .long vowd_91, .int votd_95, .ref vmn, .ref vmr, .ref vmk, .ref vms, .ref vma, .ref vmm, .ref vmrn, .ref vmkn, .ref vmik, .ref vmon, .int vosm, .int vohp, .ref vmw, .ref vmf, .ref vmb, .int vomb, .ref vmd, .ref vmc, .int vocm, .int voct, .int vocy, .ref vmx, .int votx, .int vose, .ref vml, .ref vmwr, .int voln, .int vohw, .ref vmno, .int vond, .int voon, .int vowi, .int votop])), (vmt, .inl (cy 0, 940, .inl vmtf)), (vmr, .inl (cy 0, 157, .inl vmrf_96)), (vmrn, .inl (cy 1, 17, .inr (.inl vmrnf)))] H := hP
          have hD : va_D A [(vmon, .inl (cy 2, 2, .inl vmonf)), (vo, .inr (12, [.int voth, .ref vmt, .int votp, .int vosz, .int volm, .int voto_87, .int vofr_88, .int vokd_89, .int vonu_92, .int vosg_90, .int vofa_93, .int vopl_94, .long vowd_91, .int votd_95, .ref vmn, .ref vmr, .ref vmk, .ref vms, .ref vma, .ref vmm, .ref vmrn, .ref vmkn, .ref vmik, .ref vmon, .int vosm, .int vohp, .ref vmw, .ref vmf, .ref vmb, .int vomb, .ref vmd, .ref vmc, .int vocm, .int voct, .int vocy, .ref vmx, .int votx, .int vose, .ref vml, .ref vmwr, .int voln, .int vohw, .ref vmno, .int vond, .int voon, .int vowi, .int votop])), (vmt, .inl (cy 0, 940, .inl vmtf)), (vmr, .inl (cy 0, 157, .inl vmrf_96)), (vmrn, .inl (cy 1, 17, .inr (.inl vmrnf)))] := hD
          rcases q_97 with aq_97 | ⟨aq_97, f0q_97⟩
          · skip
            refine as_i 0 aq_97 ?_
            rw [hQ9]
            exact re_z (voto_87, vofr_88, vokd_89, vosg_90, vowd_91, vonu_92, vofa_93, vopl_94, votd_95, vmrf_96, vmrnf, vmonf) hx hb hr hlocks (Or.inl rfl) ⟨(show ((0 : Int32) = 0) ∨ ((0 : Int32) = 1 ∧ ((vokd_89 : Int32).toInt = 0 ∨ (vokd_89 : Int32).toInt = 1 ∨ (voto : Int32).toInt + 1 ≤ (voto_87 : Int32).toInt)) from (Or.inl rfl)), (show 0 ≤ (voto_87 : Int32).toInt ∧ (voto_87 : Int32).toInt ≤ 940 from ⟨by omega, by omega⟩), (show -1 ≤ (votd_95 : Int32).toInt ∧ (votd_95 : Int32).toInt ≤ 999 from ⟨by omega, by omega⟩), (show RD vmrf_96 from q_100), (show (voto : Int32).toInt ≤ (voto_87 : Int32).toInt from q_101)⟩ (hP.sub [1, 2, 3, 4, 0] rfl) (hD.sub [1, 2, 3, 4, 0] rfl rfl) hS dX11_readLine_51
          · skip
            refine as_i 1 aq_97 ?_
            rw [hQ9]
            exact re_z (voto_87, vofr_88, vokd_89, vosg_90, vowd_91, vonu_92, vofa_93, vopl_94, votd_95, vmrf_96, vmrnf, vmonf) hx hb hr hlocks (Or.inr rfl) ⟨(show ((1 : Int32) = 0) ∨ ((1 : Int32) = 1 ∧ ((vokd_89 : Int32).toInt = 0 ∨ (vokd_89 : Int32).toInt = 1 ∨ (voto : Int32).toInt + 1 ≤ (voto_87 : Int32).toInt)) from (Or.inr (⟨rfl, by omega⟩))), (show 0 ≤ (voto_87 : Int32).toInt ∧ (voto_87 : Int32).toInt ≤ 940 from ⟨by omega, by omega⟩), (show -1 ≤ (votd_95 : Int32).toInt ∧ (votd_95 : Int32).toInt ≤ 999 from ⟨by omega, by omega⟩), (show RD vmrf_96 from q_100), (show (voto : Int32).toInt ≤ (voto_87 : Int32).toInt from q_101)⟩ (hP.sub [1, 2, 3, 4, 0] rfl) (hD.sub [1, 2, 3, 4, 0] rfl rfl) hS dX11_readLine_51
      · skip
        refine as_i 1 aq_9 ?_
        refine lv_if_eq (tgt := 39) hx hb dX11_readLine_31 (by decide) (fun c9 => absurd c9 (by decide)) (fun _ => ?_)
        refine lv_aload_n hx hb dX11_readLine_34 rfl (lv_at hl 0 rfl) ?_
        refine jn_i (wr := [(vmon, .inl (cy 2, 2, .inl vmonf))]) (rV (As := []) (rest := []) (ci := 12) ⟨hx, hb, hml, hown, hts⟩ (m_readDid l dC dI cy _ vo voth vmt votp vosz volm voto vofr vokd vonu vosg vofa vopl vowd votd vmn vmr vmk vms vma vmm vmrn vmkn vmik vmon vosm vohp vmw vmf vmb vomb vmd vmc vocm voct vocy vmx votx vose vml vmwr voln vohw vmno vond voon vowi votop vmtf vmrf vmrnf r_vosz r_voto r_votd p_vmtf p_vmrf) (cw_X11_203 hts rfl rfl ⟨Nat.le_of_ble_eq_true rfl, Nat.le_of_ble_eq_true rfl⟩) hP hD hK [0, 1, 2, 3] rfl rfl rfl rfl bl0 e0 rfl hl.1 rfl (Nat.le_of_ble_eq_true rfl) dX11_readLine_35 ⟨Nat.le_of_ble_eq_true rfl, Nat.le_of_ble_eq_true rfl⟩) hP hD hS hA [0, 1, 2, 3] [4] rfl rfl rfl (by decide) (fun r_102 u_104 H locs hp_103 hP hD hS => ?_)
        obtain ⟨voto_105, vofr_106, vokd_107, vosg_108, vowd_109, vonu_110, vofa_111, vopl_112, votd_113, vmrf_114⟩ := u_104
        have hp_103 : ((r_102 = 0) ∨ (r_102 = 1 ∧ ((vokd_107 : Int32).toInt = 0 ∨ (vokd_107 : Int32).toInt = 1 ∨ (voto : Int32).toInt + 1 ≤ (voto_105 : Int32).toInt))) ∧ (0 ≤ (voto_105 : Int32).toInt ∧ (voto_105 : Int32).toInt ≤ 940) ∧ (-1 ≤ (votd_113 : Int32).toInt ∧ (votd_113 : Int32).toInt ≤ 999) ∧ (RD vmrf_114) ∧ ((voto : Int32).toInt ≤ (voto_105 : Int32).toInt) := hp_103
        obtain ⟨q_115, q_116, q_117, q_118, q_119⟩ := hp_103
        have hP : va_P (dC, dI) vwCl [(vmon, .inl (cy 2, 2, .inl vmonf)), (vo, .inr (12, [.int voth, .ref vmt, .int votp, .int vosz, .int volm, .int voto_105, .int vofr_106, .int vokd_107, .int vonu_110, .int vosg_108, .int vofa_111, .int vopl_112, .long vowd_109, .int votd_113, .ref vmn, .ref vmr, .ref vmk, .ref vms, .ref vma, .ref vmm, .ref vmrn, .ref vmkn, .ref vmik, .ref vmon, .int vosm, .int vohp, .ref vmw, .ref vmf, .ref vmb, .int vomb, .ref vmd, .ref vmc, .int vocm, .int voct, .int vocy, .ref vmx, .int votx, .int vose, .ref vml, .ref vmwr, .int voln, .int vohw, .ref vmno, .int vond, .int voon, .int vowi, .int votop])), (vmt, .inl (cy 0, 940, .inl vmtf)), (vmr, .inl (cy 0, 157, .inl vmrf_114)), (vmrn, .inl (cy 1, 17, .inr (.inl vmrnf)))] H := hP
        have hD : va_D A [(vmon, .inl (cy 2, 2, .inl vmonf)), (vo, .inr (12, [.int voth, .ref vmt, .int votp, .int vosz, .int volm, .int voto_105, .int vofr_106, .int vokd_107, .int vonu_110, .int vosg_108, .int vofa_111, .int vopl_112, .long vowd_109, .int votd_113, .ref vmn, .ref vmr, .ref vmk, .ref vms, .ref vma, .ref vmm, .ref vmrn, .ref vmkn, .ref vmik, .ref vmon, .int vosm, .int vohp, .ref vmw, .ref vmf, .ref vmb, .int vomb, .ref vmd, .ref vmc, .int vocm, .int voct, .int vocy, .ref vmx, .int votx, .int vose, .ref vml, .ref vmwr, .int voln, .int vohw, .ref vmno, .int vond, .int voon, .int vowi, .int votop])), (vmt, .inl (cy 0, 940, .inl vmtf)), (vmr, .inl (cy 0, 157, .inl vmrf_114)), (vmrn, .inl (cy 1, 17, .inr (.inl vmrnf)))] := hD
        rcases q_115 with aq_115 | ⟨aq_115, f0q_115⟩
        · skip
          refine as_i 0 aq_115 ?_
          rw [hQ9]
          exact re_z (voto_105, vofr_106, vokd_107, vosg_108, vowd_109, vonu_110, vofa_111, vopl_112, votd_113, vmrf_114, vmrnf, vmonf) hx hb hr hlocks (Or.inl rfl) ⟨(show ((0 : Int32) = 0) ∨ ((0 : Int32) = 1 ∧ ((vokd_107 : Int32).toInt = 0 ∨ (vokd_107 : Int32).toInt = 1 ∨ (voto : Int32).toInt + 1 ≤ (voto_105 : Int32).toInt)) from (Or.inl rfl)), (show 0 ≤ (voto_105 : Int32).toInt ∧ (voto_105 : Int32).toInt ≤ 940 from ⟨by omega, by omega⟩), (show -1 ≤ (votd_113 : Int32).toInt ∧ (votd_113 : Int32).toInt ≤ 999 from ⟨by omega, by omega⟩), (show RD vmrf_114 from q_118), (show (voto : Int32).toInt ≤ (voto_105 : Int32).toInt from q_119)⟩ (hP.sub [1, 2, 3, 4, 0] rfl) (hD.sub [1, 2, 3, 4, 0] rfl rfl) hS dX11_readLine_38
        · skip
          refine as_i 1 aq_115 ?_
          rw [hQ9]
          exact re_z (voto_105, vofr_106, vokd_107, vosg_108, vowd_109, vonu_110, vofa_111, vopl_112, votd_113, vmrf_114, vmrnf, vmonf) hx hb hr hlocks (Or.inr rfl) ⟨(show ((1 : Int32) = 0) ∨ ((1 : Int32) = 1 ∧ ((vokd_107 : Int32).toInt = 0 ∨ (vokd_107 : Int32).toInt = 1 ∨ (voto : Int32).toInt + 1 ≤ (voto_105 : Int32).toInt)) from (Or.inr (⟨rfl, by omega⟩))), (show 0 ≤ (voto_105 : Int32).toInt ∧ (voto_105 : Int32).toInt ≤ 940 from ⟨by omega, by omega⟩), (show -1 ≤ (votd_113 : Int32).toInt ∧ (votd_113 : Int32).toInt ≤ 999 from ⟨by omega, by omega⟩), (show RD vmrf_114 from q_118), (show (voto : Int32).toInt ≤ (voto_105 : Int32).toInt from q_119)⟩ (hP.sub [1, 2, 3, 4, 0] rfl) (hD.sub [1, 2, 3, 4, 0] rfl rfl) hS dX11_readLine_38
    · skip
      refine as_i 1 aq_6 ?_
      refine lv_if_eq (tgt := 26) hx hb dX11_readLine_18 (by decide) (fun c9 => absurd c9 (by decide)) (fun _ => ?_)
      refine lv_aload_n hx hb dX11_readLine_21 rfl (lv_at hl 0 rfl) ?_
      refine jn_i (wr := [(vmon, .inl (cy 2, 2, .inl vmonf))]) (rV (As := []) (rest := []) (ci := 12) ⟨hx, hb, hml, hown, hts⟩ (m_readDeed l dC dI cy _ vo voth vmt votp vosz volm voto vofr vokd vonu vosg vofa vopl vowd votd vmn vmr vmk vms vma vmm vmrn vmkn vmik vmon vosm vohp vmw vmf vmb vomb vmd vmc vocm voct vocy vmx votx vose vml vmwr voln vohw vmno vond voon vowi votop vmtf vmrf vmrnf r_vosz r_voto r_votd p_vmtf p_vmrf) (cw_X11_200 hts rfl rfl ⟨Nat.le_of_ble_eq_true rfl, Nat.le_of_ble_eq_true rfl⟩) hP hD hK [0, 1, 2, 3] rfl rfl rfl rfl bl0 e0 rfl hl.1 rfl (Nat.le_of_ble_eq_true rfl) dX11_readLine_22 ⟨Nat.le_of_ble_eq_true rfl, Nat.le_of_ble_eq_true rfl⟩) hP hD hS hA [0, 1, 2, 3] [4] rfl rfl rfl (by decide) (fun r_120 u_122 H locs hp_121 hP hD hS => ?_)
      obtain ⟨voto_123, vofr_124, vokd_125, vosg_126, vowd_127, vonu_128, vofa_129, vopl_130, votd_131, vmrf_132, vmrnf_133⟩ := u_122
      have hp_121 : ((r_120 = 0) ∨ (r_120 = 1 ∧ ((vokd_125 : Int32).toInt = 0 ∨ (vokd_125 : Int32).toInt = 1 ∨ (voto : Int32).toInt + 1 ≤ (voto_123 : Int32).toInt))) ∧ (0 ≤ (voto_123 : Int32).toInt ∧ (voto_123 : Int32).toInt ≤ 940) ∧ (-1 ≤ (votd_131 : Int32).toInt ∧ (votd_131 : Int32).toInt ≤ 999) ∧ (RD vmrf_132) ∧ ((voto : Int32).toInt ≤ (voto_123 : Int32).toInt) := hp_121
      obtain ⟨q_134, q_135, q_136, q_137, q_138⟩ := hp_121
      have hP : va_P (dC, dI) vwCl [(vmon, .inl (cy 2, 2, .inl vmonf)), (vo, .inr (12, [.int voth, .ref vmt, .int votp, .int vosz, .int volm, .int voto_123, .int vofr_124, .int vokd_125, .int vonu_128, .int vosg_126, .int vofa_129, .int vopl_130, .long vowd_127, .int votd_131, .ref vmn, .ref vmr, .ref vmk, .ref vms, .ref vma, .ref vmm, .ref vmrn, .ref vmkn, .ref vmik, .ref vmon, .int vosm, .int vohp, .ref vmw, .ref vmf, .ref vmb, .int vomb, .ref vmd, .ref vmc, .int vocm, .int voct, .int vocy, .ref vmx, .int votx, .int vose, .ref vml, .ref vmwr, .int voln, .int vohw, .ref vmno, .int vond, .int voon, .int vowi, .int votop])), (vmt, .inl (cy 0, 940, .inl vmtf)), (vmr, .inl (cy 0, 157, .inl vmrf_132)), (vmrn, .inl (cy 1, 17, .inr (.inl vmrnf_133)))] H := hP
      have hD : va_D A [(vmon, .inl (cy 2, 2, .inl vmonf)), (vo, .inr (12, [.int voth, .ref vmt, .int votp, .int vosz, .int volm, .int voto_123, .int vofr_124, .int vokd_125, .int vonu_128, .int vosg_126, .int vofa_129, .int vopl_130, .long vowd_127, .int votd_131, .ref vmn, .ref vmr, .ref vmk, .ref vms, .ref vma, .ref vmm, .ref vmrn, .ref vmkn, .ref vmik, .ref vmon, .int vosm, .int vohp, .ref vmw, .ref vmf, .ref vmb, .int vomb, .ref vmd, .ref vmc, .int vocm, .int voct, .int vocy, .ref vmx, .int votx, .int vose, .ref vml, .ref vmwr, .int voln, .int vohw, .ref vmno, .int vond, .int voon, .int vowi, .int votop])), (vmt, .inl (cy 0, 940, .inl vmtf)), (vmr, .inl (cy 0, 157, .inl vmrf_132)), (vmrn, .inl (cy 1, 17, .inr (.inl vmrnf_133)))] := hD
      rcases q_134 with aq_134 | ⟨aq_134, f0q_134⟩
      · skip
        refine as_i 0 aq_134 ?_
        rw [hQ9]
        exact re_z (voto_123, vofr_124, vokd_125, vosg_126, vowd_127, vonu_128, vofa_129, vopl_130, votd_131, vmrf_132, vmrnf_133, vmonf) hx hb hr hlocks (Or.inl rfl) ⟨(show ((0 : Int32) = 0) ∨ ((0 : Int32) = 1 ∧ ((vokd_125 : Int32).toInt = 0 ∨ (vokd_125 : Int32).toInt = 1 ∨ (voto : Int32).toInt + 1 ≤ (voto_123 : Int32).toInt)) from (Or.inl rfl)), (show 0 ≤ (voto_123 : Int32).toInt ∧ (voto_123 : Int32).toInt ≤ 940 from ⟨by omega, by omega⟩), (show -1 ≤ (votd_131 : Int32).toInt ∧ (votd_131 : Int32).toInt ≤ 999 from ⟨by omega, by omega⟩), (show RD vmrf_132 from q_137), (show (voto : Int32).toInt ≤ (voto_123 : Int32).toInt from q_138)⟩ (hP.sub [1, 2, 3, 4, 0] rfl) (hD.sub [1, 2, 3, 4, 0] rfl rfl) hS dX11_readLine_25
      · skip
        refine as_i 1 aq_134 ?_
        rw [hQ9]
        exact re_z (voto_123, vofr_124, vokd_125, vosg_126, vowd_127, vonu_128, vofa_129, vopl_130, votd_131, vmrf_132, vmrnf_133, vmonf) hx hb hr hlocks (Or.inr rfl) ⟨(show ((1 : Int32) = 0) ∨ ((1 : Int32) = 1 ∧ ((vokd_125 : Int32).toInt = 0 ∨ (vokd_125 : Int32).toInt = 1 ∨ (voto : Int32).toInt + 1 ≤ (voto_123 : Int32).toInt)) from (Or.inr (⟨rfl, by omega⟩))), (show 0 ≤ (voto_123 : Int32).toInt ∧ (voto_123 : Int32).toInt ≤ 940 from ⟨by omega, by omega⟩), (show -1 ≤ (votd_131 : Int32).toInt ∧ (votd_131 : Int32).toInt ≤ 999 from ⟨by omega, by omega⟩), (show RD vmrf_132 from q_137), (show (voto : Int32).toInt ≤ (voto_123 : Int32).toInt from q_138)⟩ (hP.sub [1, 2, 3, 4, 0] rfl) (hD.sub [1, 2, 3, 4, 0] rfl rfl) hS dX11_readLine_25
  · skip
    refine as_i 1 aq_3 ?_
    refine lv_if_eq (tgt := 13) hx hb dX11_readLine_5 (by decide) (fun c9 => absurd c9 (by decide)) (fun _ => ?_)
    refine lv_aload_n hx hb dX11_readLine_8 rfl (lv_at hl 0 rfl) ?_
    refine jn_i (wr := [(vmon, .inl (cy 2, 2, .inl vmonf))]) (rV (As := []) (rest := []) (ci := 12) ⟨hx, hb, hml, hown, hts⟩ (m_readMan l dC dI cy _ vo voth vmt votp vosz volm voto vofr vokd vonu vosg vofa vopl vowd votd vmn vmr vmk vms vma vmm vmrn vmkn vmik vmon vosm vohp vmw vmf vmb vomb vmd vmc vocm voct vocy vmx votx vose vml vmwr voln vohw vmno vond voon vowi votop vmtf vmrf vmrnf r_vosz r_voto r_votd p_vmtf p_vmrf) (cw_X11_197 hts rfl rfl ⟨Nat.le_of_ble_eq_true rfl, Nat.le_of_ble_eq_true rfl⟩) hP hD hK [0, 1, 2, 3] rfl rfl rfl rfl bl0 e0 rfl hl.1 rfl (Nat.le_of_ble_eq_true rfl) dX11_readLine_9 ⟨Nat.le_of_ble_eq_true rfl, Nat.le_of_ble_eq_true rfl⟩) hP hD hS hA [0, 1, 2, 3] [4] rfl rfl rfl (by decide) (fun r_139 u_141 H locs hp_140 hP hD hS => ?_)
    obtain ⟨voto_142, vofr_143, vokd_144, vosg_145, vowd_146, vonu_147, vofa_148, vopl_149, votd_150, vmrf_151, vmrnf_152⟩ := u_141
    have hp_140 : ((r_139 = 0) ∨ (r_139 = 1 ∧ ((vokd_144 : Int32).toInt = 0 ∨ (vokd_144 : Int32).toInt = 1 ∨ (voto : Int32).toInt + 1 ≤ (voto_142 : Int32).toInt))) ∧ (0 ≤ (voto_142 : Int32).toInt ∧ (voto_142 : Int32).toInt ≤ 940) ∧ (-1 ≤ (votd_150 : Int32).toInt ∧ (votd_150 : Int32).toInt ≤ 999) ∧ (RD vmrf_151) ∧ ((voto : Int32).toInt ≤ (voto_142 : Int32).toInt) := hp_140
    obtain ⟨q_153, q_154, q_155, q_156, q_157⟩ := hp_140
    have hP : va_P (dC, dI) vwCl [(vmon, .inl (cy 2, 2, .inl vmonf)), (vo, .inr (12, [.int voth, .ref vmt, .int votp, .int vosz, .int volm, .int voto_142, .int vofr_143, .int vokd_144, .int vonu_147, .int vosg_145, .int vofa_148, .int vopl_149, .long vowd_146, .int votd_150, .ref vmn, .ref vmr, .ref vmk, .ref vms, .ref vma, .ref vmm, .ref vmrn, .ref vmkn, .ref vmik, .ref vmon, .int vosm, .int vohp, .ref vmw, .ref vmf, .ref vmb, .int vomb, .ref vmd, .ref vmc, .int vocm, .int voct, .int vocy, .ref vmx, .int votx, .int vose, .ref vml, .ref vmwr, .int voln, .int vohw, .ref vmno, .int vond, .int voon, .int vowi, .int votop])), (vmt, .inl (cy 0, 940, .inl vmtf)), (vmr, .inl (cy 0, 157, .inl vmrf_151)), (vmrn, .inl (cy 1, 17, .inr (.inl vmrnf_152)))] H := hP
    have hD : va_D A [(vmon, .inl (cy 2, 2, .inl vmonf)), (vo, .inr (12, [.int voth, .ref vmt, .int votp, .int vosz, .int volm, .int voto_142, .int vofr_143, .int vokd_144, .int vonu_147, .int vosg_145, .int vofa_148, .int vopl_149, .long vowd_146, .int votd_150, .ref vmn, .ref vmr, .ref vmk, .ref vms, .ref vma, .ref vmm, .ref vmrn, .ref vmkn, .ref vmik, .ref vmon, .int vosm, .int vohp, .ref vmw, .ref vmf, .ref vmb, .int vomb, .ref vmd, .ref vmc, .int vocm, .int voct, .int vocy, .ref vmx, .int votx, .int vose, .ref vml, .ref vmwr, .int voln, .int vohw, .ref vmno, .int vond, .int voon, .int vowi, .int votop])), (vmt, .inl (cy 0, 940, .inl vmtf)), (vmr, .inl (cy 0, 157, .inl vmrf_151)), (vmrn, .inl (cy 1, 17, .inr (.inl vmrnf_152)))] := hD
    rcases q_153 with aq_153 | ⟨aq_153, f0q_153⟩
    · skip
      refine as_i 0 aq_153 ?_
      rw [hQ9]
      exact re_z (voto_142, vofr_143, vokd_144, vosg_145, vowd_146, vonu_147, vofa_148, vopl_149, votd_150, vmrf_151, vmrnf_152, vmonf) hx hb hr hlocks (Or.inl rfl) ⟨(show ((0 : Int32) = 0) ∨ ((0 : Int32) = 1 ∧ ((vokd_144 : Int32).toInt = 0 ∨ (vokd_144 : Int32).toInt = 1 ∨ (voto : Int32).toInt + 1 ≤ (voto_142 : Int32).toInt)) from (Or.inl rfl)), (show 0 ≤ (voto_142 : Int32).toInt ∧ (voto_142 : Int32).toInt ≤ 940 from ⟨by omega, by omega⟩), (show -1 ≤ (votd_150 : Int32).toInt ∧ (votd_150 : Int32).toInt ≤ 999 from ⟨by omega, by omega⟩), (show RD vmrf_151 from q_156), (show (voto : Int32).toInt ≤ (voto_142 : Int32).toInt from q_157)⟩ (hP.sub [1, 2, 3, 4, 0] rfl) (hD.sub [1, 2, 3, 4, 0] rfl rfl) hS dX11_readLine_12
    · skip
      refine as_i 1 aq_153 ?_
      have k_1 : (1 : Int32).toInt = 1 := by decide
      rw [hQ9]
      exact re_z (voto_142, vofr_143, vokd_144, vosg_145, vowd_146, vonu_147, vofa_148, vopl_149, votd_150, vmrf_151, vmrnf_152, vmonf) hx hb hr hlocks (Or.inr rfl) ⟨(show ((1 : Int32) = 0) ∨ ((1 : Int32) = 1 ∧ ((vokd_144 : Int32).toInt = 0 ∨ (vokd_144 : Int32).toInt = 1 ∨ (voto : Int32).toInt + 1 ≤ (voto_142 : Int32).toInt)) from (Or.inr (⟨rfl, by omega⟩))), (show 0 ≤ (voto_142 : Int32).toInt ∧ (voto_142 : Int32).toInt ≤ 940 from ⟨by omega, by omega⟩), (show -1 ≤ (votd_150 : Int32).toInt ∧ (votd_150 : Int32).toInt ≤ 999 from ⟨by omega, by omega⟩), (show RD vmrf_151 from q_156), (show (voto : Int32).toInt ≤ (voto_142 : Int32).toInt from q_157)⟩ (hP.sub [1, 2, 3, 4, 0] rfl) (hD.sub [1, 2, 3, 4, 0] rfl rfl) hS dX11_readLine_12
