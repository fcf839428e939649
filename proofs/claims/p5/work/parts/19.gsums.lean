abbrev cX10_clearRow : ByteArray := prog_1_method_48_code
def yX10_clearRow : MethodName := ⟨RX10, "clearRow", "([I)V"⟩
theorem t923 : Cond.code yX10_clearRow cX10_clearRow 2 none ∈ GW := gw_mem 1037 (by decide +kernel) (by decide +kernel)
abbrev O_g_clearRow (cy : Nat → ClassId) (vq : Nat) (vqf : Nat → Int32) (u : (Nat → Int32)) : va_W := [(vq, .inl (cy 0, 10, .inl u))]
theorem dX10_clearRow_0 : decode cX10_clearRow 0 = .ok (.iconst 0, 1) := by decide +kernel
theorem dX10_clearRow_1 : decode cX10_clearRow 1 = .ok (.istore_n 1, 1) := by decide +kernel
theorem dX10_clearRow_2 : decode cX10_clearRow 2 = .ok (.iload_n 1, 1) := by decide +kernel
theorem dX10_clearRow_3 : decode cX10_clearRow 3 = .ok (.aload_n 0, 1) := by decide +kernel
theorem dX10_clearRow_4 : decode cX10_clearRow 4 = .ok (.arraylength, 1) := by decide +kernel
theorem dX10_clearRow_5 : decode cX10_clearRow 5 = .ok (.if_icmp .ge 13, 3) := by decide +kernel
theorem dX10_clearRow_18 : decode cX10_clearRow 18 = .ok (.return_, 1) := by decide +kernel
theorem dX10_clearRow_8 : decode cX10_clearRow 8 = .ok (.aload_n 0, 1) := by decide +kernel
theorem dX10_clearRow_9 : decode cX10_clearRow 9 = .ok (.iload_n 1, 1) := by decide +kernel
theorem dX10_clearRow_10 : decode cX10_clearRow 10 = .ok (.iconst 0, 1) := by decide +kernel
theorem dX10_clearRow_11 : decode cX10_clearRow 11 = .ok (.iastore, 1) := by decide +kernel
theorem dX10_clearRow_12 : decode cX10_clearRow 12 = .ok (.iinc 1 1, 3) := by decide +kernel
theorem dX10_clearRow_15 : decode cX10_clearRow 15 = .ok (.goto (-13), 3) := by decide +kernel
set_option maxHeartbeats 4000000 in
set_option maxRecDepth 100000 in
theorem g_clearRow (l : Launch) (dC : Nat → ClassId) (dI : Nat → Nat → Nat) (cy : Nat → ClassId) (sz : Nat) (vq : Nat) (vqf : Nat → Int32)  : Met l yX10_clearRow (wl yX10_clearRow cX10_clearRow 2 none) ({ frames := 0, cells := 0, slots := 0, locals := 0 }) (Pw (dC, dI) vwCl cy [(vq, .inl (cy 0, 10, .inl vqf))] sz [.ref vq] nE) (Qv (dC, dI) vwCl (fun (u : (Nat → Int32)) => True) (O_g_clearRow cy vq vqf) (va_A [(vq, .inl (cy 0, 10, .inl vqf))] sz)) 0 0 (va_A [(vq, .inl (cy 0, 10, .inl vqf))] sz) := by
  refine mw (Qc := Qv (dC, dI) vwCl (fun (u : (Nat → Int32)) => True) (O_g_clearRow cy vq vqf)) RX10 rfl (by decide +kernel) (Nat.le_of_ble_eq_true rfl) ?_
  intro p e s m below meth c A hx hb hr hlocks av9 hav hts hown hnm hml hK hP hD hA hS hE hAe Q9 hQ9 ls hl
  have hl : lv_has ls 2 [(0, .ref vq)] := hl
  refine lv_iconst (v := 0) hx hb dX10_clearRow_0 (by decide) ?_
  refine lv_istore_n (lv' := [(1, .int 0), (0, .ref vq)]) hx hb dX10_clearRow_1 rfl hl (by decide) rfl (fun ls hl => ?_)
  have loop1 : ∀ (n1 : Nat) (x_2 : Int32) (g_3 : Nat → Int32), (0 ≤ x_2.toInt ∧ x_2.toInt ≤ 10) → 10 - x_2.toInt < (n1 : Int) → ∀ (H : Heap) (locs : List Loc), va_P (dC, dI) vwCl [(vq, .inl (cy 0, 10, .inl g_3))] H → va_D A [(vq, .inl (cy 0, 10, .inl g_3))] → va_S A s.heap H locs → ∀ ls : Array Slot, lv_has ls 2 [(1, .int x_2), (0, .ref vq)] → W p l e ({ frames := 0, cells := 0, slots := 0, locals := 0 }) s m av9 below meth c H locs 0 0 Q9 (F0 m 2 ls []) := by
    intro n1
    induction n1 with
    | zero =>
      intro x_2 g_3 bx_2 hn1 H locs hP hD hS ls hl
      exfalso; omega
    | succ n1 ih1 =>
      intro x_2 g_3 bx_2 hn1 H locs hP hD hS ls hl
      refine lv_iload_n hx hb dX10_clearRow_2 rfl (lv_at hl 0 rfl) ?_
      refine lv_aload_n hx hb dX10_clearRow_3 rfl (lv_at hl 1 rfl) ?_
      refine va_alen (v := 10) hx hb hK hP 0 0 rfl rfl rfl dX10_clearRow_4 ?_
      have k_10 : (10 : Int32).toInt = 10 := by decide
      refine lv_icmp_ge (tgt := 18) hx hb dX10_clearRow_5 (by decide) (fun c_4 => ?_) (fun c_4 => ?_)
      · skip
        have c_4 : (10 : Int32).toInt ≤ x_2.toInt := i_le.mp c_4
        rw [hQ9]
        exact re_v g_3 hx hb hr hlocks trivial (hP.sub [0] rfl) (hD.sub [0] rfl rfl) hS dX10_clearRow_18
      · skip
        have c_4 : ¬ ((10 : Int32).toInt ≤ x_2.toInt) := fun h9 => c_4 (i_le.mpr h9)
        refine lv_aload_n hx hb dX10_clearRow_8 rfl (lv_at hl 1 rfl) ?_
        refine lv_iload_n hx hb dX10_clearRow_9 rfl (lv_at hl 0 rfl) ?_
        refine lv_iconst (v := 0) hx hb dX10_clearRow_10 (by decide) ?_
        have hin_5 : vp_in x_2 10 := vp_in_iff.mpr ⟨by omega, by omega⟩
        refine va_iast hx hb hK hP hD hS 0 0 rfl rfl hin_5 dX10_clearRow_11 (fun H locs hP hD hS => ?_)
        obtain ⟨f_6, ef_6⟩ : ∃ z : Nat → Int32, z = upd g_3 (Int32.toNatClampNeg x_2) 0 := ⟨_, rfl⟩
        have hP : va_P (dC, dI) vwCl [(vq, .inl (cy 0, 10, .inl f_6))] H := by rw [ef_6]; exact hP
        have hD : va_D A [(vq, .inl (cy 0, 10, .inl f_6))] := by rw [ef_6]; exact hD
        obtain ⟨z_7, ez_7⟩ : ∃ z : Int32, z = x_2 + 1 := ⟨_, rfl⟩
        have k_1 : (1 : Int32).toInt = 1 := by decide
        have bz_7 : z_7.toInt = x_2.toInt + (1 : Int32).toInt := i_add ez_7 (by omega) (by omega)
        refine lv_iinc (v := z_7) (lv' := [(1, .int z_7), (0, .ref vq)]) hx hb dX10_clearRow_12 hl (k := 0) rfl ez_7.symm (by decide) rfl (fun ls hl => ?_)
        refine lv_goto (tgt := 2) hx hb dX10_clearRow_15 (by decide) ?_
        exact ih1 z_7 f_6 ⟨by omega, by omega⟩ (by omega) _ _ (hP.sub [0] rfl) (hD.sub [0] rfl rfl) hS ls (lv_sub hl [0, 1] rfl)
  have k_0 : (0 : Int32).toInt = 0 := by decide
  exact loop1 ((10 - (0 : Int32).toInt).toNat + 1) 0 vqf ⟨by omega, by omega⟩ (by omega) _ _ hP hD hS ls (lv_sub hl [0, 1] rfl)
abbrev cX10_allowOnlySide : ByteArray := prog_1_method_49_code
def yX10_allowOnlySide : MethodName := ⟨RX10, "allowOnlySide", "(Z)V"⟩
theorem t911 : Cond.code yX10_allowOnlySide cX10_allowOnlySide 3 none ∈ GW := gw_mem 1025 (by decide +kernel) (by decide +kernel)
abbrev O_g_allowOnlySide (cy : Nat → ClassId) (vo : Nat) (vt : Nat) (vx : Nat) (vb : Nat) (va : Nat) (ve : Nat) (vs : Nat) (vg : Nat) (vmr : Nat) (vkr : Nat) (vim : Nat) (vik : Nat) (vw : Nat) (vdw : Nat) (volf : Int32) (volh : Int32) (vomd : Int32) (vocd : Int32) (vs1 : Nat) (vs2 : Nat) (vs3 : Nat) (vsm : Nat → Int32) (vwc : Nat) (vwl : Nat) (vws : Nat) (vwc1 : Nat) (vwc2 : Nat) (vwc3 : Nat) (vwc4 : Nat) (vwc5 : Nat) (vwcm : Int32) (vwcd : Int32) (vwcr : Int32) (vwcw : Int32) (vwcf4 : Nat → Int32) (vcr : Int32) (u : (Nat → Int32)) : va_W := [(vo, .inr (11, [.ref vt, .ref vx, .ref vb, .ref va, .ref ve, .ref vs, .ref vg, .ref vmr, .ref vkr, .ref vim, .ref vik, .ref vw, .ref vdw, .int volf, .int volh, .int vomd, .int vocd])), (vs, .inr (8, [.ref vs1, .ref vs2, .ref vs3])), (vs1, .inl (cy 0, 10, .inl u)), (vw, .inr (10, [.ref vwc, .ref vwl, .ref vws])), (vwc, .inr (2, [.ref vwc1, .ref vwc2, .ref vwc3, .ref vwc4, .ref vwc5, .int vwcm, .int vwcd, .int vwcr, .int vwcw])), (vwc4, .inl (cy 2, 10, .inl vwcf4))]
theorem dX10_allowOnlySide_0 : decode cX10_allowOnlySide 0 = .ok (.iconst 0, 1) := by decide +kernel
theorem dX10_allowOnlySide_1 : decode cX10_allowOnlySide 1 = .ok (.istore_n 2, 1) := by decide +kernel
theorem dX10_allowOnlySide_2 : decode cX10_allowOnlySide 2 = .ok (.iload_n 2, 1) := by decide +kernel
theorem dX10_allowOnlySide_3 : decode cX10_allowOnlySide 3 = .ok (.bipush 10, 2) := by decide +kernel
theorem dX10_allowOnlySide_5 : decode cX10_allowOnlySide 5 = .ok (.if_icmp .ge 40, 3) := by decide +kernel
theorem dX10_allowOnlySide_45 : decode cX10_allowOnlySide 45 = .ok (.return_, 1) := by decide +kernel
theorem dX10_allowOnlySide_8 : decode cX10_allowOnlySide 8 = .ok (.aload_n 0, 1) := by decide +kernel
theorem dX10_allowOnlySide_9 : decode cX10_allowOnlySide 9 = .ok (.getfield 47, 3) := by decide +kernel
theorem t482 : Cond.fieldLink RX10 47 "LikenessPound" "sums" "LLikenessPound$Sums;" ∈ GW := gw_mem 596 (by decide +kernel) (by decide +kernel)
theorem gf_X10_47 {p : Program} {l : Launch} {e : Env} {R : Room} {s : State} {m : MethodId} {args : Array Value} {below : List Frame} {meth : Method} {c : Code} {H : Heap} {locs : List Loc} {cells slots : Nat} {Q : State → Prop} {cc : ByteArray} {pc : Nat} {ls : Array Slot} {rest : List Value} {D : va_G} {a : Nat} {tys : List (ClassId × FieldType)} {ws : va_W} (hx : p.tables.exec = Jvm.exec) (hb : c.code = cc) (hts : ∀ w ∈ GW, w.before args s = true) (hown : s.vm.findClass RX10 = some m.cls) (hK : va_K D vwCl tys s) (hP : va_P D vwCl ws H) (q0 : Nat) {fs : List Value} (he : ws[q0]? = some (a, .inr (11, fs))) {v : Value} (hv : fs[5]? = some v) (hdg : decode cc pc = .ok (.getfield 47, 3)) (kk : W p l e R s m args below meth c H locs cells slots Q (F0 m (pc + 3) ls (v :: rest))) : W p l e R s m args below meth c H locs cells slots Q (F0 m pc ls (.ref a :: rest)) := va_get (C := RX10) (T := TX10) (N := 17) (ci := 11) hx hb hts inX10 hown hK hP q0 he rfl 5 (by decide) (hts _ t482) (fun _ h => h) hv hdg kk
theorem dX10_allowOnlySide_12 : decode cX10_allowOnlySide 12 = .ok (.getfield 304, 3) := by decide +kernel
theorem t320 : Cond.fieldLink RX10 304 "LikenessPound$Sums" "most" "[I" ∈ GW := gw_mem 434 (by decide +kernel) (by decide +kernel)
theorem gf_X10_304 {p : Program} {l : Launch} {e : Env} {R : Room} {s : State} {m : MethodId} {args : Array Value} {below : List Frame} {meth : Method} {c : Code} {H : Heap} {locs : List Loc} {cells slots : Nat} {Q : State → Prop} {cc : ByteArray} {pc : Nat} {ls : Array Slot} {rest : List Value} {D : va_G} {a : Nat} {tys : List (ClassId × FieldType)} {ws : va_W} (hx : p.tables.exec = Jvm.exec) (hb : c.code = cc) (hts : ∀ w ∈ GW, w.before args s = true) (hown : s.vm.findClass RX10 = some m.cls) (hK : va_K D vwCl tys s) (hP : va_P D vwCl ws H) (q0 : Nat) {fs : List Value} (he : ws[q0]? = some (a, .inr (8, fs))) {v : Value} (hv : fs[0]? = some v) (hdg : decode cc pc = .ok (.getfield 304, 3)) (kk : W p l e R s m args below meth c H locs cells slots Q (F0 m (pc + 3) ls (v :: rest))) : W p l e R s m args below meth c H locs cells slots Q (F0 m pc ls (.ref a :: rest)) := va_get (C := RX7) (T := TX7) (N := 3) (ci := 8) hx hb hts inX7 hown hK hP q0 he rfl 0 (by decide) (hts _ t320) (fun _ h => h) hv hdg kk
theorem dX10_allowOnlySide_15 : decode cX10_allowOnlySide 15 = .ok (.iload_n 2, 1) := by decide +kernel
theorem dX10_allowOnlySide_16 : decode cX10_allowOnlySide 16 = .ok (.aload_n 0, 1) := by decide +kernel
theorem dX10_allowOnlySide_17 : decode cX10_allowOnlySide 17 = .ok (.getfield 76, 3) := by decide +kernel
theorem dX10_allowOnlySide_20 : decode cX10_allowOnlySide 20 = .ok (.getfield 94, 3) := by decide +kernel
theorem dX10_allowOnlySide_23 : decode cX10_allowOnlySide 23 = .ok (.getfield 173, 3) := by decide +kernel
theorem dX10_allowOnlySide_26 : decode cX10_allowOnlySide 26 = .ok (.iload_n 2, 1) := by decide +kernel
theorem dX10_allowOnlySide_27 : decode cX10_allowOnlySide 27 = .ok (.baload, 1) := by decide +kernel
theorem dX10_allowOnlySide_28 : decode cX10_allowOnlySide 28 = .ok (.iload_n 1, 1) := by decide +kernel
theorem dX10_allowOnlySide_29 : decode cX10_allowOnlySide 29 = .ok (.if_icmp .ne 8, 3) := by decide +kernel
theorem dX10_allowOnlySide_37 : decode cX10_allowOnlySide 37 = .ok (.iconst 0, 1) := by decide +kernel
theorem dX10_allowOnlySide_38 : decode cX10_allowOnlySide 38 = .ok (.iastore, 1) := by decide +kernel
theorem dX10_allowOnlySide_39 : decode cX10_allowOnlySide 39 = .ok (.iinc 2 1, 3) := by decide +kernel
theorem dX10_allowOnlySide_42 : decode cX10_allowOnlySide 42 = .ok (.goto (-40), 3) := by decide +kernel
theorem dX10_allowOnlySide_32 : decode cX10_allowOnlySide 32 = .ok (.bipush 9, 2) := by decide +kernel
theorem dX10_allowOnlySide_34 : decode cX10_allowOnlySide 34 = .ok (.goto 4, 3) := by decide +kernel
set_option maxHeartbeats 4000000 in
set_option maxRecDepth 100000 in
theorem g_allowOnlySide (l : Launch) (dC : Nat → ClassId) (dI : Nat → Nat → Nat) (cy : Nat → ClassId) (sz : Nat) (vo : Nat) (vt : Nat) (vx : Nat) (vb : Nat) (va : Nat) (ve : Nat) (vs : Nat) (vg : Nat) (vmr : Nat) (vkr : Nat) (vim : Nat) (vik : Nat) (vw : Nat) (vdw : Nat) (volf : Int32) (volh : Int32) (vomd : Int32) (vocd : Int32) (vs1 : Nat) (vs2 : Nat) (vs3 : Nat) (vsm : Nat → Int32) (vwc : Nat) (vwl : Nat) (vws : Nat) (vwc1 : Nat) (vwc2 : Nat) (vwc3 : Nat) (vwc4 : Nat) (vwc5 : Nat) (vwcm : Int32) (vwcd : Int32) (vwcr : Int32) (vwcw : Int32) (vwcf4 : Nat → Int32) (vcr : Int32) (p_vsm : Rg vsm 10 0 9) : Met l yX10_allowOnlySide (wl yX10_allowOnlySide cX10_allowOnlySide 3 none) ({ frames := 0, cells := 0, slots := 0, locals := 0 }) (Pw (dC, dI) vwCl cy [(vo, .inr (11, [.ref vt, .ref vx, .ref vb, .ref va, .ref ve, .ref vs, .ref vg, .ref vmr, .ref vkr, .ref vim, .ref vik, .ref vw, .ref vdw, .int volf, .int volh, .int vomd, .int vocd])), (vs, .inr (8, [.ref vs1, .ref vs2, .ref vs3])), (vs1, .inl (cy 0, 10, .inl vsm)), (vw, .inr (10, [.ref vwc, .ref vwl, .ref vws])), (vwc, .inr (2, [.ref vwc1, .ref vwc2, .ref vwc3, .ref vwc4, .ref vwc5, .int vwcm, .int vwcd, .int vwcr, .int vwcw])), (vwc4, .inl (cy 2, 10, .inl vwcf4))] sz [.ref vo, .int vcr] nE) (Qv (dC, dI) vwCl (fun (u : (Nat → Int32)) => (Rg u 10 0 9)) (O_g_allowOnlySide cy vo vt vx vb va ve vs vg vmr vkr vim vik vw vdw volf volh vomd vocd vs1 vs2 vs3 vsm vwc vwl vws vwc1 vwc2 vwc3 vwc4 vwc5 vwcm vwcd vwcr vwcw vwcf4 vcr) (va_A [(vo, .inr (11, [.ref vt, .ref vx, .ref vb, .ref va, .ref ve, .ref vs, .ref vg, .ref vmr, .ref vkr, .ref vim, .ref vik, .ref vw, .ref vdw, .int volf, .int volh, .int vomd, .int vocd])), (vs, .inr (8, [.ref vs1, .ref vs2, .ref vs3])), (vs1, .inl (cy 0, 10, .inl vsm)), (vw, .inr (10, [.ref vwc, .ref vwl, .ref vws])), (vwc, .inr (2, [.ref vwc1, .ref vwc2, .ref vwc3, .ref vwc4, .ref vwc5, .int vwcm, .int vwcd, .int vwcr, .int vwcw])), (vwc4, .inl (cy 2, 10, .inl vwcf4))] sz)) 0 0 (va_A [(vo, .inr (11, [.ref vt, .ref vx, .ref vb, .ref va, .ref ve, .ref vs, .ref vg, .ref vmr, .ref vkr, .ref vim, .ref vik, .ref vw, .ref vdw, .int volf, .int volh, .int vomd, .int vocd])), (vs, .inr (8, [.ref vs1, .ref vs2, .ref vs3])), (vs1, .inl (cy 0, 10, .inl vsm)), (vw, .inr (10, [.ref vwc, .ref vwl, .ref vws])), (vwc, .inr (2, [.ref vwc1, .ref vwc2, .ref vwc3, .ref vwc4, .ref vwc5, .int vwcm, .int vwcd, .int vwcr, .int vwcw])), (vwc4, .inl (cy 2, 10, .inl vwcf4))] sz) := by
  refine mw (Qc := Qv (dC, dI) vwCl (fun (u : (Nat → Int32)) => (Rg u 10 0 9)) (O_g_allowOnlySide cy vo vt vx vb va ve vs vg vmr vkr vim vik vw vdw volf volh vomd vocd vs1 vs2 vs3 vsm vwc vwl vws vwc1 vwc2 vwc3 vwc4 vwc5 vwcm vwcd vwcr vwcw vwcf4 vcr)) RX10 rfl (by decide +kernel) (Nat.le_of_ble_eq_true rfl) ?_
  intro p e s m below meth c A hx hb hr hlocks av9 hav hts hown hnm hml hK hP hD hA hS hE hAe Q9 hQ9 ls hl
  have hl : lv_has ls 3 [(0, .ref vo), (1, .int vcr)] := hl
  refine lv_iconst (v := 0) hx hb dX10_allowOnlySide_0 (by decide) ?_
  refine lv_istore_n (lv' := [(2, .int 0), (0, .ref vo), (1, .int vcr)]) hx hb dX10_allowOnlySide_1 rfl hl (by decide) rfl (fun ls hl => ?_)
  have loop1 : ∀ (n1 : Nat) (x_2 : Int32) (g_3 : Nat → Int32), (0 ≤ x_2.toInt ∧ x_2.toInt ≤ 10) → Rg g_3 10 0 9 → 10 - x_2.toInt < (n1 : Int) → ∀ (H : Heap) (locs : List Loc), va_P (dC, dI) vwCl [(vo, .inr (11, [.ref vt, .ref vx, .ref vb, .ref va, .ref ve, .ref vs, .ref vg, .ref vmr, .ref vkr, .ref vim, .ref vik, .ref vw, .ref vdw, .int volf, .int volh, .int vomd, .int vocd])), (vs, .inr (8, [.ref vs1, .ref vs2, .ref vs3])), (vs1, .inl (cy 0, 10, .inl g_3)), (vw, .inr (10, [.ref vwc, .ref vwl, .ref vws])), (vwc, .inr (2, [.ref vwc1, .ref vwc2, .ref vwc3, .ref vwc4, .ref vwc5, .int vwcm, .int vwcd, .int vwcr, .int vwcw])), (vwc4, .inl (cy 2, 10, .inl vwcf4))] H → va_D A [(vo, .inr (11, [.ref vt, .ref vx, .ref vb, .ref va, .ref ve, .ref vs, .ref vg, .ref vmr, .ref vkr, .ref vim, .ref vik, .ref vw, .ref vdw, .int volf, .int volh, .int vomd, .int vocd])), (vs, .inr (8, [.ref vs1, .ref vs2, .ref vs3])), (vs1, .inl (cy 0, 10, .inl g_3)), (vw, .inr (10, [.ref vwc, .ref vwl, .ref vws])), (vwc, .inr (2, [.ref vwc1, .ref vwc2, .ref vwc3, .ref vwc4, .ref vwc5, .int vwcm, .int vwcd, .int vwcr, .int vwcw])), (vwc4, .inl (cy 2, 10, .inl vwcf4))] → va_S A s.heap H locs → ∀ ls : Array Slot, lv_has ls 3 [(2, .int x_2), (0, .ref vo), (1, .int vcr)] → W p l e ({ frames := 0, cells := 0, slots := 0, locals := 0 }) s m av9 below meth c H locs 0 0 Q9 (F0 m 2 ls []) := by
    intro n1
    induction n1 with
    | zero =>
      intro x_2 g_3 bx_2 p_g_3 hn1 H locs hP hD hS ls hl
      exfalso; omega
    | succ n1 ih1 =>
      intro x_2 g_3 bx_2 p_g_3 hn1 H locs hP hD hS ls hl
      refine lv_iload_n hx hb dX10_allowOnlySide_2 rfl (lv_at hl 0 rfl) ?_
      refine lv_bipush (v := 10) hx hb dX10_allowOnlySide_3 (by decide) ?_
      have k_10 : (10 : Int32).toInt = 10 := by decide
      refine lv_icmp_ge (tgt := 45) hx hb dX10_allowOnlySide_5 (by decide) (fun c_4 => ?_) (fun c_4 => ?_)
      · skip
        have c_4 : (10 : Int32).toInt ≤ x_2.toInt := i_le.mp c_4
        rw [hQ9]
        exact re_v g_3 hx hb hr hlocks (show Rg g_3 10 0 9 from p_g_3) (hP.sub [0, 1, 2, 3, 4, 5] rfl) (hD.sub [0, 1, 2, 3, 4, 5] rfl rfl) hS dX10_allowOnlySide_45
      · skip
        have c_4 : ¬ ((10 : Int32).toInt ≤ x_2.toInt) := fun h9 => c_4 (i_le.mpr h9)
        refine lv_aload_n hx hb dX10_allowOnlySide_8 rfl (lv_at hl 1 rfl) ?_
        refine gf_X10_47 hx hb hts hown hK hP 0 rfl rfl dX10_allowOnlySide_9 ?_
        refine gf_X10_304 hx hb hts hown hK hP 1 rfl rfl dX10_allowOnlySide_12 ?_
        refine lv_iload_n hx hb dX10_allowOnlySide_15 rfl (lv_at hl 0 rfl) ?_
        refine lv_aload_n hx hb dX10_allowOnlySide_16 rfl (lv_at hl 1 rfl) ?_
        refine gf_X10_76 hx hb hts hown hK hP 0 rfl rfl dX10_allowOnlySide_17 ?_
        refine gf_X10_94 hx hb hts hown hK hP 3 rfl rfl dX10_allowOnlySide_20 ?_
        refine gf_X10_173 hx hb hts hown hK hP 4 rfl rfl dX10_allowOnlySide_23 ?_
        refine lv_iload_n hx hb dX10_allowOnlySide_26 rfl (lv_at hl 0 rfl) ?_
        have hin_5 : vp_in x_2 10 := vp_in_iff.mpr ⟨by omega, by omega⟩
        refine va_zald hx hb hK hP 5 2 rfl rfl hin_5 dX10_allowOnlySide_27 ?_
        refine lv_topi (fun z_6 ez_6 => ?_)
        refine lv_iload_n hx hb dX10_allowOnlySide_28 rfl (lv_at hl 2 rfl) ?_
        refine lv_icmp_ne (tgt := 37) hx hb dX10_allowOnlySide_29 (by decide) (fun c_7 => ?_) (fun c_7 => ?_)
        · skip
          have c_7 : ¬ (z_6.toInt = vcr.toInt) := fun h9 => c_7 (i_eq.mpr h9)
          refine lv_iconst (v := 0) hx hb dX10_allowOnlySide_37 (by decide) ?_
          have hin_8 : vp_in x_2 10 := vp_in_iff.mpr ⟨by omega, by omega⟩
          refine va_iast hx hb hK hP hD hS 2 0 rfl rfl hin_8 dX10_allowOnlySide_38 (fun H locs hP hD hS => ?_)
          obtain ⟨f_9, ef_9⟩ : ∃ z : Nat → Int32, z = upd g_3 (Int32.toNatClampNeg x_2) 0 := ⟨_, rfl⟩
          have hP : va_P (dC, dI) vwCl [(vo, .inr (11, [.ref vt, .ref vx, .ref vb, .ref va, .ref ve, .ref vs, .ref vg, .ref vmr, .ref vkr, .ref vim, .ref vik, .ref vw, .ref vdw, .int volf, .int volh, .int vomd, .int vocd])), (vs, .inr (8, [.ref vs1, .ref vs2, .ref vs3])), (vs1, .inl (cy 0, 10, .inl f_9)), (vw, .inr (10, [.ref vwc, .ref vwl, .ref vws])), (vwc, .inr (2, [.ref vwc1, .ref vwc2, .ref vwc3, .ref vwc4, .ref vwc5, .int vwcm, .int vwcd, .int vwcr, .int vwcw])), (vwc4, .inl (cy 2, 10, .inl vwcf4))] H := by rw [ef_9]; exact hP
          have hD : va_D A [(vo, .inr (11, [.ref vt, .ref vx, .ref vb, .ref va, .ref ve, .ref vs, .ref vg, .ref vmr, .ref vkr, .ref vim, .ref vik, .ref vw, .ref vdw, .int volf, .int volh, .int vomd, .int vocd])), (vs, .inr (8, [.ref vs1, .ref vs2, .ref vs3])), (vs1, .inl (cy 0, 10, .inl f_9)), (vw, .inr (10, [.ref vwc, .ref vwl, .ref vws])), (vwc, .inr (2, [.ref vwc1, .ref vwc2, .ref vwc3, .ref vwc4, .ref vwc5, .int vwcm, .int vwcd, .int vwcr, .int vwcw])), (vwc4, .inl (cy 2, 10, .inl vwcf4))] := by rw [ef_9]; exact hD
          have k_0 : (0 : Int32).toInt = 0 := by decide
          have p_f_9 : Rg f_9 10 0 9 := by rw [ef_9]; exact p_g_3.upd ⟨by omega, by omega⟩
          obtain ⟨z_10, ez_10⟩ : ∃ z : Int32, z = x_2 + 1 := ⟨_, rfl⟩
          have k_1 : (1 : Int32).toInt = 1 := by decide
          have bz_10 : z_10.toInt = x_2.toInt + (1 : Int32).toInt := i_add ez_10 (by omega) (by omega)
          refine lv_iinc (v := z_10) (lv' := [(2, .int z_10), (0, .ref vo), (1, .int vcr)]) hx hb dX10_allowOnlySide_39 hl (k := 0) rfl ez_10.symm (by decide) rfl (fun ls hl => ?_)
          refine lv_goto (tgt := 2) hx hb dX10_allowOnlySide_42 (by decide) ?_
          exact ih1 z_10 f_9 ⟨by omega, by omega⟩ p_f_9 (by omega) _ _ (hP.sub [0, 1, 2, 3, 4, 5] rfl) (hD.sub [0, 1, 2, 3, 4, 5] rfl rfl) hS ls (lv_sub hl [0, 1, 2] rfl)
        · skip
          have c_7 : z_6.toInt = vcr.toInt := i_eq.mp c_7
          refine lv_bipush (v := 9) hx hb dX10_allowOnlySide_32 (by decide) ?_
          refine lv_goto (tgt := 38) hx hb dX10_allowOnlySide_34 (by decide) ?_
          have hin_11 : vp_in x_2 10 := vp_in_iff.mpr ⟨by omega, by omega⟩
          refine va_iast hx hb hK hP hD hS 2 0 rfl rfl hin_11 dX10_allowOnlySide_38 (fun H locs hP hD hS => ?_)
          obtain ⟨f_12, ef_12⟩ : ∃ z : Nat → Int32, z = upd g_3 (Int32.toNatClampNeg x_2) 9 := ⟨_, rfl⟩
          have hP : va_P (dC, dI) vwCl [(vo, .inr (11, [.ref vt, .ref vx, .ref vb, .ref va, .ref ve, .ref vs, .ref vg, .ref vmr, .ref vkr, .ref vim, .ref vik, .ref vw, .ref vdw, .int volf, .int volh, .int vomd, .int vocd])), (vs, .inr (8, [.ref vs1, .ref vs2, .ref vs3])), (vs1, .inl (cy 0, 10, .inl f_12)), (vw, .inr (10, [.ref vwc, .ref vwl, .ref vws])), (vwc, .inr (2, [.ref vwc1, .ref vwc2, .ref vwc3, .ref vwc4, .ref vwc5, .int vwcm, .int vwcd, .int vwcr, .int vwcw])), (vwc4, .inl (cy 2, 10, .inl vwcf4))] H := by rw [ef_12]; exact hP
          have hD : va_D A [(vo, .inr (11, [.ref vt, .ref vx, .ref vb, .ref va, .ref ve, .ref vs, .ref vg, .ref vmr, .ref vkr, .ref vim, .ref vik, .ref vw, .ref vdw, .int volf, .int volh, .int vomd, .int vocd])), (vs, .inr (8, [.ref vs1, .ref vs2, .ref vs3])), (vs1, .inl (cy 0, 10, .inl f_12)), (vw, .inr (10, [.ref vwc, .ref vwl, .ref vws])), (vwc, .inr (2, [.ref vwc1, .ref vwc2, .ref vwc3, .ref vwc4, .ref vwc5, .int vwcm, .int vwcd, .int vwcr, .int vwcw])), (vwc4, .inl (cy 2, 10, .inl vwcf4))] := by rw [ef_12]; exact hD
          have k_9 : (9 : Int32).toInt = 9 := by decide
          have p_f_12 : Rg f_12 10 0 9 := by rw [ef_12]; exact p_g_3.upd ⟨by omega, by omega⟩
          obtain ⟨z_13, ez_13⟩ : ∃ z : Int32, z = x_2 + 1 := ⟨_, rfl⟩
          have k_1 : (1 : Int32).toInt = 1 := by decide
          have bz_13 : z_13.toInt = x_2.toInt + (1 : Int32).toInt := i_add ez_13 (by omega) (by omega)
          refine lv_iinc (v := z_13) (lv' := [(2, .int z_13), (0, .ref vo), (1, .int vcr)]) hx hb dX10_allowOnlySide_39 hl (k := 0) rfl ez_13.symm (by decide) rfl (fun ls hl => ?_)
          refine lv_goto (tgt := 2) hx hb dX10_allowOnlySide_42 (by decide) ?_
          exact ih1 z_13 f_12 ⟨by omega, by omega⟩ p_f_12 (by omega) _ _ (hP.sub [0, 1, 2, 3, 4, 5] rfl) (hD.sub [0, 1, 2, 3, 4, 5] rfl rfl) hS ls (lv_sub hl [0, 1, 2] rfl)
  have k_0 : (0 : Int32).toInt = 0 := by decide
  exact loop1 ((10 - (0 : Int32).toInt).toNat + 1) 0 vsm ⟨by omega, by omega⟩ p_vsm (by omega) _ _ hP hD hS ls (lv_sub hl [0, 1, 2] rfl)
abbrev cX10_countSide : ByteArray := prog_1_method_50_code
def yX10_countSide : MethodName := ⟨RX10, "countSide", "(IZ)J"⟩
theorem t907 : Cond.code yX10_countSide cX10_countSide 3 (some .long) ∈ GW := gw_mem 1021 (by decide +kernel) (by decide +kernel)
abbrev O_g_countSide (cy : Nat → ClassId) (vo : Nat) (vt : Nat) (vx : Nat) (vb : Nat) (va : Nat) (ve : Nat) (vs : Nat) (vg : Nat) (vmr : Nat) (vkr : Nat) (vim : Nat) (vik : Nat) (vw : Nat) (vdw : Nat) (volf : Int32) (volh : Int32) (vomd : Int32) (vocd : Int32) (vs1 : Nat) (vs2 : Nat) (vs3 : Nat) (vsm : Nat → Int32) (vsw : Nat → Int64) (vwc : Nat) (vwl : Nat) (vws : Nat) (vwc1 : Nat) (vwc2 : Nat) (vwc3 : Nat) (vwc4 : Nat) (vwc5 : Nat) (vwcm : Int32) (vwcd : Int32) (vwcr : Int32) (vwcw : Int32) (vwcf3 : Nat → Int32) (vwcf4 : Nat → Int32) (vsu : Int32) (vcr : Int32) (u : (Nat → Int32) × (Nat → Int64)) : va_W := [(vo, .inr (11, [.ref vt, .ref vx, .ref vb, .ref va, .ref ve, .ref vs, .ref vg, .ref vmr, .ref vkr, .ref vim, .ref vik, .ref vw, .ref vdw, .int volf, .int volh, .int vomd, .int vocd])), (vs, .inr (8, [.ref vs1, .ref vs2, .ref vs3])), (vs1, .inl (cy 0, 10, .inl u.1)), (vs3, .inl (cy 1, 256, .inr (.inl u.2))), (vw, .inr (10, [.ref vwc, .ref vwl, .ref vws])), (vwc, .inr (2, [.ref vwc1, .ref vwc2, .ref vwc3, .ref vwc4, .ref vwc5, .int vwcm, .int vwcd, .int vwcr, .int vwcw])), (vwc3, .inl (cy 0, 10, .inl vwcf3)), (vwc4, .inl (cy 2, 10, .inl vwcf4))]
theorem dX10_countSide_0 : decode cX10_countSide 0 = .ok (.aload_n 0, 1) := by decide +kernel
theorem dX10_countSide_1 : decode cX10_countSide 1 = .ok (.iload_n 2, 1) := by decide +kernel
theorem dX10_countSide_2 : decode cX10_countSide 2 = .ok (.invokevirtual 406, 3) := by decide +kernel
theorem t908 : Cond.methodLink RX10 406 yX10_allowOnlySide ∈ GW := gw_mem 1022 (by decide +kernel) (by decide +kernel)
theorem t910 : Cond.instanceMethod yX10_allowOnlySide ∈ GW := gw_mem 1024 (by decide +kernel) (by decide +kernel)
theorem s15 : Cond.selects RX10 yX10_allowOnlySide yX10_allowOnlySide ∈ GW := gw_mem 15 (by decide +kernel) (by decide +kernel)
theorem cw_X10_406 {R : Room} {s : State} {args : Array Value} {rm : Room} {mc ms : Nat} (hts : ∀ w ∈ GW, w.before args s = true) (hrc : rm.cells = mc) (hrs : rm.slots = ms) (hR : rm.frames + 1 ≤ R.frames ∧ 8 + (3 + 11) + rm.locals ≤ R.locals) : CallW R s args RX10 RX10 406 yX10_allowOnlySide cX10_allowOnlySide 3 none (wl yX10_allowOnlySide cX10_allowOnlySide 3 none) rm mc ms 1 := cwV 1 hts (gi_V t908 t910 s15 t1 t911) rfl hrc hrs (by decide +kernel) hR
theorem dX10_countSide_5 : decode cX10_countSide 5 = .ok (.aload_n 0, 1) := by decide +kernel
theorem dX10_countSide_6 : decode cX10_countSide 6 = .ok (.getfield 47, 3) := by decide +kernel
theorem dX10_countSide_9 : decode cX10_countSide 9 = .ok (.aload_n 0, 1) := by decide +kernel
theorem dX10_countSide_10 : decode cX10_countSide 10 = .ok (.getfield 76, 3) := by decide +kernel
theorem dX10_countSide_13 : decode cX10_countSide 13 = .ok (.getfield 94, 3) := by decide +kernel
theorem dX10_countSide_16 : decode cX10_countSide 16 = .ok (.iload_n 1, 1) := by decide +kernel
theorem dX10_countSide_17 : decode cX10_countSide 17 = .ok (.invokevirtual 410, 3) := by decide +kernel
theorem t912 : Cond.methodLink RX10 410 yX7_countWays ∈ GW := gw_mem 1026 (by decide +kernel) (by decide +kernel)
theorem t913 : Cond.instanceMethod yX7_countWays ∈ GW := gw_mem 1027 (by decide +kernel) (by decide +kernel)
theorem t914 : Cond.selects RX7 yX7_countWays yX7_countWays ∈ GW := gw_mem 1028 (by decide +kernel) (by decide +kernel)
theorem cw_X10_410 {R : Room} {s : State} {args : Array Value} {rm : Room} {mc ms : Nat} (hts : ∀ w ∈ GW, w.before args s = true) (hrc : rm.cells = mc) (hrs : rm.slots = ms) (hR : rm.frames + 1 ≤ R.frames ∧ 8 + (4 + 11) + rm.locals ≤ R.locals) : CallW R s args RX10 RX7 410 yX7_countWays cX7_countWays 4 (some .long) (wl yX7_countWays cX7_countWays 4 (some .long)) rm mc ms 2 := cwV 2 hts (gi_V t912 t913 t914 t12 t915) rfl hrc hrs (by decide +kernel) hR
theorem dX10_countSide_20 : decode cX10_countSide 20 = .ok (.lreturn, 1) := by decide +kernel
set_option maxHeartbeats 4000000 in
set_option maxRecDepth 100000 in
theorem g_countSide (l : Launch) (dC : Nat → ClassId) (dI : Nat → Nat → Nat) (cy : Nat → ClassId) (sz : Nat) (vo : Nat) (vt : Nat) (vx : Nat) (vb : Nat) (va : Nat) (ve : Nat) (vs : Nat) (vg : Nat) (vmr : Nat) (vkr : Nat) (vim : Nat) (vik : Nat) (vw : Nat) (vdw : Nat) (volf : Int32) (volh : Int32) (vomd : Int32) (vocd : Int32) (vs1 : Nat) (vs2 : Nat) (vs3 : Nat) (vsm : Nat → Int32) (vsw : Nat → Int64) (vwc : Nat) (vwl : Nat) (vws : Nat) (vwc1 : Nat) (vwc2 : Nat) (vwc3 : Nat) (vwc4 : Nat) (vwc5 : Nat) (vwcm : Int32) (vwcd : Int32) (vwcr : Int32) (vwcw : Int32) (vwcf3 : Nat → Int32) (vwcf4 : Nat → Int32) (vsu : Int32) (vcr : Int32) (r_vwcm : 0 ≤ (vwcm : Int32).toInt ∧ (vwcm : Int32).toInt ≤ 7) (r_vwcd : 0 ≤ (vwcd : Int32).toInt ∧ (vwcd : Int32).toInt ≤ 10) (p_vsm : Rg vsm 10 0 9) (p_vwcf3 : Rg vwcf3 10 0 40) : Met l yX10_countSide (wl yX10_countSide cX10_countSide 3 (some .long)) ({ frames := 3, cells := 0, slots := 0, locals := 192 }) (Pw (dC, dI) vwCl cy [(vo, .inr (11, [.ref vt, .ref vx, .ref vb, .ref va, .ref ve, .ref vs, .ref vg, .ref vmr, .ref vkr, .ref vim, .ref vik, .ref vw, .ref vdw, .int volf, .int volh, .int vomd, .int vocd])), (vs, .inr (8, [.ref vs1, .ref vs2, .ref vs3])), (vs1, .inl (cy 0, 10, .inl vsm)), (vs3, .inl (cy 1, 256, .inr (.inl vsw))), (vw, .inr (10, [.ref vwc, .ref vwl, .ref vws])), (vwc, .inr (2, [.ref vwc1, .ref vwc2, .ref vwc3, .ref vwc4, .ref vwc5, .int vwcm, .int vwcd, .int vwcr, .int vwcw])), (vwc3, .inl (cy 0, 10, .inl vwcf3)), (vwc4, .inl (cy 2, 10, .inl vwcf4))] sz [.ref vo, .int vsu, .int vcr] nE) (Ql (dC, dI) vwCl (fun (r : Int64) (u : (Nat → Int32) × (Nat → Int64)) => (Rg u.1 10 0 9)) (O_g_countSide cy vo vt vx vb va ve vs vg vmr vkr vim vik vw vdw volf volh vomd vocd vs1 vs2 vs3 vsm vsw vwc vwl vws vwc1 vwc2 vwc3 vwc4 vwc5 vwcm vwcd vwcr vwcw vwcf3 vwcf4 vsu vcr) (va_A [(vo, .inr (11, [.ref vt, .ref vx, .ref vb, .ref va, .ref ve, .ref vs, .ref vg, .ref vmr, .ref vkr, .ref vim, .ref vik, .ref vw, .ref vdw, .int volf, .int volh, .int vomd, .int vocd])), (vs, .inr (8, [.ref vs1, .ref vs2, .ref vs3])), (vs1, .inl (cy 0, 10, .inl vsm)), (vs3, .inl (cy 1, 256, .inr (.inl vsw))), (vw, .inr (10, [.ref vwc, .ref vwl, .ref vws])), (vwc, .inr (2, [.ref vwc1, .ref vwc2, .ref vwc3, .ref vwc4, .ref vwc5, .int vwcm, .int vwcd, .int vwcr, .int vwcw])), (vwc3, .inl (cy 0, 10, .inl vwcf3)), (vwc4, .inl (cy 2, 10, .inl vwcf4))] sz)) 0 0 (va_A [(vo, .inr (11, [.ref vt, .ref vx, .ref vb, .ref va, .ref ve, .ref vs, .ref vg, .ref vmr, .ref vkr, .ref vim, .ref vik, .ref vw, .ref vdw, .int volf, .int volh, .int vomd, .int vocd])), (vs, .inr (8, [.ref vs1, .ref vs2, .ref vs3])), (vs1, .inl (cy 0, 10, .inl vsm)), (vs3, .inl (cy 1, 256, .inr (.inl vsw))), (vw, .inr (10, [.ref vwc, .ref vwl, .ref vws])), (vwc, .inr (2, [.ref vwc1, .ref vwc2, .ref vwc3, .ref vwc4, .ref vwc5, .int vwcm, .int vwcd, .int vwcr, .int vwcw])), (vwc3, .inl (cy 0, 10, .inl vwcf3)), (vwc4, .inl (cy 2, 10, .inl vwcf4))] sz) := by
  refine mw (Qc := Ql (dC, dI) vwCl (fun (r : Int64) (u : (Nat → Int32) × (Nat → Int64)) => (Rg u.1 10 0 9)) (O_g_countSide cy vo vt vx vb va ve vs vg vmr vkr vim vik vw vdw volf volh vomd vocd vs1 vs2 vs3 vsm vsw vwc vwl vws vwc1 vwc2 vwc3 vwc4 vwc5 vwcm vwcd vwcr vwcw vwcf3 vwcf4 vsu vcr)) RX10 rfl (by decide +kernel) (Nat.le_of_ble_eq_true rfl) ?_
  intro p e s m below meth c A hx hb hr hlocks av9 hav hts hown hnm hml hK hP hD hA hS hE hAe Q9 hQ9 ls hl
  have hl : lv_has ls 3 [(0, .ref vo), (1, .int vsu), (2, .int vcr)] := hl
  refine lv_aload_n hx hb dX10_countSide_0 rfl (lv_at hl 0 rfl) ?_
  refine lv_iload_n hx hb dX10_countSide_1 rfl (lv_at hl 2 rfl) ?_
  refine jn_v (wr := [(vs3, .inl (cy 1, 256, .inr (.inl vsw))), (vwc3, .inl (cy 0, 10, .inl vwcf3))]) (rV (As := [.int vcr]) (rest := []) (ci := 11) ⟨hx, hb, hml, hown, hts⟩ (g_allowOnlySide l dC dI cy _ vo vt vx vb va ve vs vg vmr vkr vim vik vw vdw volf volh vomd vocd vs1 vs2 vs3 vsm vwc vwl vws vwc1 vwc2 vwc3 vwc4 vwc5 vwcm vwcd vwcr vwcw vwcf4 vcr p_vsm) (cw_X10_406 hts rfl rfl ⟨Nat.le_of_ble_eq_true rfl, Nat.le_of_ble_eq_true rfl⟩) hP hD hK [0, 1, 2, 4, 5, 7] rfl rfl rfl rfl bl0 e0 rfl hl.1 rfl (Nat.le_of_ble_eq_true rfl) dX10_countSide_2 ⟨Nat.le_of_ble_eq_true rfl, Nat.le_of_ble_eq_true rfl⟩) hP hD hS hA [0, 1, 2, 4, 5, 7] [3, 6] rfl rfl rfl (by decide) (fun u_3 H locs hp_2 hP hD hS => ?_)
  obtain ⟨vsm_4, rfl⟩ : ∃ z, z = u_3 := ⟨_, rfl⟩
  have hp_2 : (Rg vsm_4 10 0 9) := hp_2
  have q_5 := hp_2
  have hP : va_P (dC, dI) vwCl [(vs3, .inl (cy 1, 256, .inr (.inl vsw))), (vwc3, .inl (cy 0, 10, .inl vwcf3)), (vo, .inr (11, [.ref vt, .ref vx, .ref vb, .ref va, .ref ve, .ref vs, .ref vg, .ref vmr, .ref vkr, .ref vim, .ref vik, .ref vw, .ref vdw, .int volf, .int volh, .int vomd, .int vocd])), (vs, .inr (8, [.ref vs1, .ref vs2, .ref vs3])), (vs1, .inl (cy 0, 10, .inl vsm_4)), (vw, .inr (10, [.ref vwc, .ref vwl, .ref vws])), (vwc, .inr (2, [.ref vwc1, .ref vwc2, .ref vwc3, .ref vwc4, .ref vwc5, .int vwcm, .int vwcd, .int vwcr, .int vwcw])), (vwc4, .inl (cy 2, 10, .inl vwcf4))] H := hP
  have hD : va_D A [(vs3, .inl (cy 1, 256, .inr (.inl vsw))), (vwc3, .inl (cy 0, 10, .inl vwcf3)), (vo, .inr (11, [.ref vt, .ref vx, .ref vb, .ref va, .ref ve, .ref vs, .ref vg, .ref vmr, .ref vkr, .ref vim, .ref vik, .ref vw, .ref vdw, .int volf, .int volh, .int vomd, .int vocd])), (vs, .inr (8, [.ref vs1, .ref vs2, .ref vs3])), (vs1, .inl (cy 0, 10, .inl vsm_4)), (vw, .inr (10, [.ref vwc, .ref vwl, .ref vws])), (vwc, .inr (2, [.ref vwc1, .ref vwc2, .ref vwc3, .ref vwc4, .ref vwc5, .int vwcm, .int vwcd, .int vwcr, .int vwcw])), (vwc4, .inl (cy 2, 10, .inl vwcf4))] := hD
  refine lv_aload_n hx hb dX10_countSide_5 rfl (lv_at hl 0 rfl) ?_
  refine gf_X10_47 hx hb hts hown hK hP 2 rfl rfl dX10_countSide_6 ?_
  refine lv_aload_n hx hb dX10_countSide_9 rfl (lv_at hl 0 rfl) ?_
  refine gf_X10_76 hx hb hts hown hK hP 2 rfl rfl dX10_countSide_10 ?_
  refine gf_X10_94 hx hb hts hown hK hP 5 rfl rfl dX10_countSide_13 ?_
  refine lv_iload_n hx hb dX10_countSide_16 rfl (lv_at hl 1 rfl) ?_
  refine jn_l (wr := [(vo, .inr (11, [.ref vt, .ref vx, .ref vb, .ref va, .ref ve, .ref vs, .ref vg, .ref vmr, .ref vkr, .ref vim, .ref vik, .ref vw, .ref vdw, .int volf, .int volh, .int vomd, .int vocd])), (vw, .inr (10, [.ref vwc, .ref vwl, .ref vws])), (vwc4, .inl (cy 2, 10, .inl vwcf4))]) (rV (As := [.ref vwc, .int vsu]) (rest := []) (ci := 8) ⟨hx, hb, hml, hown, hts⟩ (g_countWays l dC dI cy _ vs vs1 vs2 vs3 vsm_4 vsw vwc vwc1 vwc2 vwc3 vwc4 vwc5 vwcm vwcd vwcr vwcw vwcf3 vsu r_vwcm r_vwcd q_5 p_vwcf3) (cw_X10_410 hts rfl rfl ⟨Nat.le_of_ble_eq_true rfl, Nat.le_of_ble_eq_true rfl⟩) hP hD hK [3, 4, 0, 6, 1] rfl rfl rfl rfl bl0 e0 rfl hl.1 rfl (Nat.le_of_ble_eq_true rfl) dX10_countSide_17 ⟨Nat.le_of_ble_eq_true rfl, Nat.le_of_ble_eq_true rfl⟩) hP hD hS hA [3, 4, 0, 6, 1] [2, 5, 7] rfl rfl rfl (by decide) (fun r_6 u_8 H locs hp_7 hP hD hS => ?_)
  obtain ⟨vsw_9, rfl⟩ : ∃ z, z = u_8 := ⟨_, rfl⟩
  have hP : va_P (dC, dI) vwCl [(vo, .inr (11, [.ref vt, .ref vx, .ref vb, .ref va, .ref ve, .ref vs, .ref vg, .ref vmr, .ref vkr, .ref vim, .ref vik, .ref vw, .ref vdw, .int volf, .int volh, .int vomd, .int vocd])), (vw, .inr (10, [.ref vwc, .ref vwl, .ref vws])), (vwc4, .inl (cy 2, 10, .inl vwcf4)), (vs, .inr (8, [.ref vs1, .ref vs2, .ref vs3])), (vs1, .inl (cy 0, 10, .inl vsm_4)), (vs3, .inl (cy 1, 256, .inr (.inl vsw_9))), (vwc, .inr (2, [.ref vwc1, .ref vwc2, .ref vwc3, .ref vwc4, .ref vwc5, .int vwcm, .int vwcd, .int vwcr, .int vwcw])), (vwc3, .inl (cy 0, 10, .inl vwcf3))] H := hP
  have hD : va_D A [(vo, .inr (11, [.ref vt, .ref vx, .ref vb, .ref va, .ref ve, .ref vs, .ref vg, .ref vmr, .ref vkr, .ref vim, .ref vik, .ref vw, .ref vdw, .int volf, .int volh, .int vomd, .int vocd])), (vw, .inr (10, [.ref vwc, .ref vwl, .ref vws])), (vwc4, .inl (cy 2, 10, .inl vwcf4)), (vs, .inr (8, [.ref vs1, .ref vs2, .ref vs3])), (vs1, .inl (cy 0, 10, .inl vsm_4)), (vs3, .inl (cy 1, 256, .inr (.inl vsw_9))), (vwc, .inr (2, [.ref vwc1, .ref vwc2, .ref vwc3, .ref vwc4, .ref vwc5, .int vwcm, .int vwcd, .int vwcr, .int vwcw])), (vwc3, .inl (cy 0, 10, .inl vwcf3))] := hD
  rw [hQ9]
  exact re_l (vsm_4, vsw_9) hx hb hr hlocks (show Rg vsm_4 10 0 9 from q_5) (hP.sub [0, 3, 4, 5, 1, 6, 7, 2] rfl) (hD.sub [0, 3, 4, 5, 1, 6, 7, 2] rfl rfl) hS dX10_countSide_20
abbrev cX10_pickSide : ByteArray := prog_1_method_51_code
def yX10_pickSide : MethodName := ⟨RX10, "pickSide", "(IZ)V"⟩
theorem t927 : Cond.code yX10_pickSide cX10_pickSide 3 none ∈ GW := gw_mem 1041 (by decide +kernel) (by decide +kernel)
abbrev O_g_pickSide (cy : Nat → ClassId) (vo : Nat) (vt : Nat) (vx : Nat) (vb : Nat) (va : Nat) (ve : Nat) (vs : Nat) (vg : Nat) (vmr : Nat) (vkr : Nat) (vim : Nat) (vik : Nat) (vw : Nat) (vdw : Nat) (volf : Int32) (volh : Int32) (vomd : Int32) (vocd : Int32) (vs1 : Nat) (vs2 : Nat) (vs3 : Nat) (vsm : Nat → Int32) (vsf : Nat → Int32) (vwc : Nat) (vwl : Nat) (vws : Nat) (vwc1 : Nat) (vwc2 : Nat) (vwc3 : Nat) (vwc4 : Nat) (vwc5 : Nat) (vwcm : Int32) (vwcd : Int32) (vwcr : Int32) (vwcw : Int32) (vwcf3 : Nat → Int32) (vwcf4 : Nat → Int32) (vmrf : Nat → Int32) (vsu : Int32) (vcr : Int32) (u : (Nat → Int32) × (Nat → Int32) × (Nat → Int32)) : va_W := [(vo, .inr (11, [.ref vt, .ref vx, .ref vb, .ref va, .ref ve, .ref vs, .ref vg, .ref vmr, .ref vkr, .ref vim, .ref vik, .ref vw, .ref vdw, .int volf, .int volh, .int vomd, .int vocd])), (vs, .inr (8, [.ref vs1, .ref vs2, .ref vs3])), (vs1, .inl (cy 0, 10, .inl u.1)), (vs2, .inl (cy 0, 2816, .inl u.2.1)), (vw, .inr (10, [.ref vwc, .ref vwl, .ref vws])), (vwc, .inr (2, [.ref vwc1, .ref vwc2, .ref vwc3, .ref vwc4, .ref vwc5, .int vwcm, .int vwcd, .int vwcr, .int vwcw])), (vwc3, .inl (cy 0, 10, .inl vwcf3)), (vwc4, .inl (cy 2, 10, .inl vwcf4)), (vmr, .inl (cy 0, 10, .inl u.2.2))]
theorem dX10_pickSide_0 : decode cX10_pickSide 0 = .ok (.aload_n 0, 1) := by decide +kernel
theorem dX10_pickSide_1 : decode cX10_pickSide 1 = .ok (.iload_n 2, 1) := by decide +kernel
theorem dX10_pickSide_2 : decode cX10_pickSide 2 = .ok (.invokevirtual 406, 3) := by decide +kernel
theorem dX10_pickSide_5 : decode cX10_pickSide 5 = .ok (.aload_n 0, 1) := by decide +kernel
theorem dX10_pickSide_6 : decode cX10_pickSide 6 = .ok (.getfield 47, 3) := by decide +kernel
theorem dX10_pickSide_9 : decode cX10_pickSide 9 = .ok (.aload_n 0, 1) := by decide +kernel
theorem dX10_pickSide_10 : decode cX10_pickSide 10 = .ok (.getfield 76, 3) := by decide +kernel
theorem dX10_pickSide_13 : decode cX10_pickSide 13 = .ok (.getfield 94, 3) := by decide +kernel
theorem dX10_pickSide_16 : decode cX10_pickSide 16 = .ok (.iload_n 1, 1) := by decide +kernel
theorem dX10_pickSide_17 : decode cX10_pickSide 17 = .ok (.invokevirtual 307, 3) := by decide +kernel
theorem t928 : Cond.methodLink RX10 307 yX7_findFewest ∈ GW := gw_mem 1042 (by decide +kernel) (by decide +kernel)
theorem t929 : Cond.instanceMethod yX7_findFewest ∈ GW := gw_mem 1043 (by decide +kernel) (by decide +kernel)
theorem t930 : Cond.selects RX7 yX7_findFewest yX7_findFewest ∈ GW := gw_mem 1044 (by decide +kernel) (by decide +kernel)
theorem cw_X10_307 {R : Room} {s : State} {args : Array Value} {rm : Room} {mc ms : Nat} (hts : ∀ w ∈ GW, w.before args s = true) (hrc : rm.cells = mc) (hrs : rm.slots = ms) (hR : rm.frames + 1 ≤ R.frames ∧ 8 + (6 + 11) + rm.locals ≤ R.locals) : CallW R s args RX10 RX7 307 yX7_findFewest cX7_findFewest 6 none (wl yX7_findFewest cX7_findFewest 6 none) rm mc ms 2 := cwV 2 hts (gi_V t928 t929 t930 t12 t931) rfl hrc hrs (by decide +kernel) hR
theorem dX10_pickSide_20 : decode cX10_pickSide 20 = .ok (.aload_n 0, 1) := by decide +kernel
theorem dX10_pickSide_21 : decode cX10_pickSide 21 = .ok (.getfield 47, 3) := by decide +kernel
theorem dX10_pickSide_24 : decode cX10_pickSide 24 = .ok (.aload_n 0, 1) := by decide +kernel
theorem dX10_pickSide_25 : decode cX10_pickSide 25 = .ok (.getfield 76, 3) := by decide +kernel
theorem dX10_pickSide_28 : decode cX10_pickSide 28 = .ok (.getfield 94, 3) := by decide +kernel
theorem dX10_pickSide_31 : decode cX10_pickSide 31 = .ok (.iload_n 1, 1) := by decide +kernel
theorem dX10_pickSide_32 : decode cX10_pickSide 32 = .ok (.aload_n 0, 1) := by decide +kernel
theorem dX10_pickSide_33 : decode cX10_pickSide 33 = .ok (.getfield 58, 3) := by decide +kernel
theorem dX10_pickSide_36 : decode cX10_pickSide 36 = .ok (.invokevirtual 314, 3) := by decide +kernel
theorem t936 : Cond.methodLink RX10 314 yX7_addFirst ∈ GW := gw_mem 1050 (by decide +kernel) (by decide +kernel)
theorem t937 : Cond.instanceMethod yX7_addFirst ∈ GW := gw_mem 1051 (by decide +kernel) (by decide +kernel)
theorem t938 : Cond.selects RX7 yX7_addFirst yX7_addFirst ∈ GW := gw_mem 1052 (by decide +kernel) (by decide +kernel)
theorem cw_X10_314 {R : Room} {s : State} {args : Array Value} {rm : Room} {mc ms : Nat} (hts : ∀ w ∈ GW, w.before args s = true) (hrc : rm.cells = mc) (hrs : rm.slots = ms) (hR : rm.frames + 1 ≤ R.frames ∧ 8 + (7 + 11) + rm.locals ≤ R.locals) : CallW R s args RX10 RX7 314 yX7_addFirst cX7_addFirst 7 none (wl yX7_addFirst cX7_addFirst 7 none) rm mc ms 3 := cwV 3 hts (gi_V t936 t937 t938 t12 t939) rfl hrc hrs (by decide +kernel) hR
theorem dX10_pickSide_39 : decode cX10_pickSide 39 = .ok (.return_, 1) := by decide +kernel
set_option maxHeartbeats 4000000 in
set_option maxRecDepth 100000 in
theorem g_pickSide (l : Launch) (dC : Nat → ClassId) (dI : Nat → Nat → Nat) (cy : Nat → ClassId) (sz : Nat) (vo : Nat) (vt : Nat) (vx : Nat) (vb : Nat) (va : Nat) (ve : Nat) (vs : Nat) (vg : Nat) (vmr : Nat) (vkr : Nat) (vim : Nat) (vik : Nat) (vw : Nat) (vdw : Nat) (volf : Int32) (volh : Int32) (vomd : Int32) (vocd : Int32) (vs1 : Nat) (vs2 : Nat) (vs3 : Nat) (vsm : Nat → Int32) (vsf : Nat → Int32) (vwc : Nat) (vwl : Nat) (vws : Nat) (vwc1 : Nat) (vwc2 : Nat) (vwc3 : Nat) (vwc4 : Nat) (vwc5 : Nat) (vwcm : Int32) (vwcd : Int32) (vwcr : Int32) (vwcw : Int32) (vwcf3 : Nat → Int32) (vwcf4 : Nat → Int32) (vmrf : Nat → Int32) (vsu : Int32) (vcr : Int32) (r_vwcm : 0 ≤ (vwcm : Int32).toInt ∧ (vwcm : Int32).toInt ≤ 7) (r_vwcd : 0 ≤ (vwcd : Int32).toInt ∧ (vwcd : Int32).toInt ≤ 10) (r_vsu : 0 ≤ (vsu : Int32).toInt ∧ (vsu : Int32).toInt ≤ 255) (p_vsm : Rg vsm 10 0 9) (p_vwcf3 : Rg vwcf3 10 0 40) : Met l yX10_pickSide (wl yX10_pickSide cX10_pickSide 3 none) ({ frames := 3, cells := 0, slots := 0, locals := 192 }) (Pw (dC, dI) vwCl cy [(vo, .inr (11, [.ref vt, .ref vx, .ref vb, .ref va, .ref ve, .ref vs, .ref vg, .ref vmr, .ref vkr, .ref vim, .ref vik, .ref vw, .ref vdw, .int volf, .int volh, .int vomd, .int vocd])), (vs, .inr (8, [.ref vs1, .ref vs2, .ref vs3])), (vs1, .inl (cy 0, 10, .inl vsm)), (vs2, .inl (cy 0, 2816, .inl vsf)), (vw, .inr (10, [.ref vwc, .ref vwl, .ref vws])), (vwc, .inr (2, [.ref vwc1, .ref vwc2, .ref vwc3, .ref vwc4, .ref vwc5, .int vwcm, .int vwcd, .int vwcr, .int vwcw])), (vwc3, .inl (cy 0, 10, .inl vwcf3)), (vwc4, .inl (cy 2, 10, .inl vwcf4)), (vmr, .inl (cy 0, 10, .inl vmrf))] sz [.ref vo, .int vsu, .int vcr] nE) (Qv (dC, dI) vwCl (fun (u : (Nat → Int32) × (Nat → Int32) × (Nat → Int32)) => (Rg u.1 10 0 9)) (O_g_pickSide cy vo vt vx vb va ve vs vg vmr vkr vim vik vw vdw volf volh vomd vocd vs1 vs2 vs3 vsm vsf vwc vwl vws vwc1 vwc2 vwc3 vwc4 vwc5 vwcm vwcd vwcr vwcw vwcf3 vwcf4 vmrf vsu vcr) (va_A [(vo, .inr (11, [.ref vt, .ref vx, .ref vb, .ref va, .ref ve, .ref vs, .ref vg, .ref vmr, .ref vkr, .ref vim, .ref vik, .ref vw, .ref vdw, .int volf, .int volh, .int vomd, .int vocd])), (vs, .inr (8, [.ref vs1, .ref vs2, .ref vs3])), (vs1, .inl (cy 0, 10, .inl vsm)), (vs2, .inl (cy 0, 2816, .inl vsf)), (vw, .inr (10, [.ref vwc, .ref vwl, .ref vws])), (vwc, .inr (2, [.ref vwc1, .ref vwc2, .ref vwc3, .ref vwc4, .ref vwc5, .int vwcm, .int vwcd, .int vwcr, .int vwcw])), (vwc3, .inl (cy 0, 10, .inl vwcf3)), (vwc4, .inl (cy 2, 10, .inl vwcf4)), (vmr, .inl (cy 0, 10, .inl vmrf))] sz)) 0 0 (va_A [(vo, .inr (11, [.ref vt, .ref vx, .ref vb, .ref va, .ref ve, .ref vs, .ref vg, .ref vmr, .ref vkr, .ref vim, .ref vik, .ref vw, .ref vdw, .int volf, .int volh, .int vomd, .int vocd])), (vs, .inr (8, [.ref vs1, .ref vs2, .ref vs3])), (vs1, .inl (cy 0, 10, .inl vsm)), (vs2, .inl (cy 0, 2816, .inl vsf)), (vw, .inr (10, [.ref vwc, .ref vwl, .ref vws])), (vwc, .inr (2, [.ref vwc1, .ref vwc2, .ref vwc3, .ref vwc4, .ref vwc5, .int vwcm, .int vwcd, .int vwcr, .int vwcw])), (vwc3, .inl (cy 0, 10, .inl vwcf3)), (vwc4, .inl (cy 2, 10, .inl vwcf4)), (vmr, .inl (cy 0, 10, .inl vmrf))] sz) := by
  refine mw (Qc := Qv (dC, dI) vwCl (fun (u : (Nat → Int32) × (Nat → Int32) × (Nat → Int32)) => (Rg u.1 10 0 9)) (O_g_pickSide cy vo vt vx vb va ve vs vg vmr vkr vim vik vw vdw volf volh vomd vocd vs1 vs2 vs3 vsm vsf vwc vwl vws vwc1 vwc2 vwc3 vwc4 vwc5 vwcm vwcd vwcr vwcw vwcf3 vwcf4 vmrf vsu vcr)) RX10 rfl (by decide +kernel) (Nat.le_of_ble_eq_true rfl) ?_
  intro p e s m below meth c A hx hb hr hlocks av9 hav hts hown hnm hml hK hP hD hA hS hE hAe Q9 hQ9 ls hl
  have hl : lv_has ls 3 [(0, .ref vo), (1, .int vsu), (2, .int vcr)] := hl
  refine lv_aload_n hx hb dX10_pickSide_0 rfl (lv_at hl 0 rfl) ?_
  refine lv_iload_n hx hb dX10_pickSide_1 rfl (lv_at hl 2 rfl) ?_
  refine jn_v (wr := [(vs2, .inl (cy 0, 2816, .inl vsf)), (vwc3, .inl (cy 0, 10, .inl vwcf3)), (vmr, .inl (cy 0, 10, .inl vmrf))]) (rV (As := [.int vcr]) (rest := []) (ci := 11) ⟨hx, hb, hml, hown, hts⟩ (g_allowOnlySide l dC dI cy _ vo vt vx vb va ve vs vg vmr vkr vim vik vw vdw volf volh vomd vocd vs1 vs2 vs3 vsm vwc vwl vws vwc1 vwc2 vwc3 vwc4 vwc5 vwcm vwcd vwcr vwcw vwcf4 vcr p_vsm) (cw_X10_406 hts rfl rfl ⟨Nat.le_of_ble_eq_true rfl, Nat.le_of_ble_eq_true rfl⟩) hP hD hK [0, 1, 2, 4, 5, 7] rfl rfl rfl rfl bl0 e0 rfl hl.1 rfl (Nat.le_of_ble_eq_true rfl) dX10_pickSide_2 ⟨Nat.le_of_ble_eq_true rfl, Nat.le_of_ble_eq_true rfl⟩) hP hD hS hA [0, 1, 2, 4, 5, 7] [3, 6, 8] rfl rfl rfl (by decide) (fun u_3 H locs hp_2 hP hD hS => ?_)
  obtain ⟨vsm_4, rfl⟩ : ∃ z, z = u_3 := ⟨_, rfl⟩
  have hp_2 : (Rg vsm_4 10 0 9) := hp_2
  have q_5 := hp_2
  have hP : va_P (dC, dI) vwCl [(vs2, .inl (cy 0, 2816, .inl vsf)), (vwc3, .inl (cy 0, 10, .inl vwcf3)), (vmr, .inl (cy 0, 10, .inl vmrf)), (vo, .inr (11, [.ref vt, .ref vx, .ref vb, .ref va, .ref ve, .ref vs, .ref vg, .ref vmr, .ref vkr, .ref vim, .ref vik, .ref vw, .ref vdw, .int volf, .int volh, .int vomd, .int vocd])), (vs, .inr (8, [.ref vs1, .ref vs2, .ref vs3])), (vs1, .inl (cy 0, 10, .inl vsm_4)), (vw, .inr (10, [.ref vwc, .ref vwl, .ref vws])), (vwc, .inr (2, [.ref vwc1, .ref vwc2, .ref vwc3, .ref vwc4, .ref vwc5, .int vwcm, .int vwcd, .int vwcr, .int vwcw])), (vwc4, .inl (cy 2, 10, .inl vwcf4))] H := hP
  have hD : va_D A [(vs2, .inl (cy 0, 2816, .inl vsf)), (vwc3, .inl (cy 0, 10, .inl vwcf3)), (vmr, .inl (cy 0, 10, .inl vmrf)), (vo, .inr (11, [.ref vt, .ref vx, .ref vb, .ref va, .ref ve, .ref vs, .ref vg, .ref vmr, .ref vkr, .ref vim, .ref vik, .ref vw, .ref vdw, .int volf, .int volh, .int vomd, .int vocd])), (vs, .inr (8, [.ref vs1, .ref vs2, .ref vs3])), (vs1, .inl (cy 0, 10, .inl vsm_4)), (vw, .inr (10, [.ref vwc, .ref vwl, .ref vws])), (vwc, .inr (2, [.ref vwc1, .ref vwc2, .ref vwc3, .ref vwc4, .ref vwc5, .int vwcm, .int vwcd, .int vwcr, .int vwcw])), (vwc4, .inl (cy 2, 10, .inl vwcf4))] := hD
  refine lv_aload_n hx hb dX10_pickSide_5 rfl (lv_at hl 0 rfl) ?_
  refine gf_X10_47 hx hb hts hown hK hP 3 rfl rfl dX10_pickSide_6 ?_
  refine lv_aload_n hx hb dX10_pickSide_9 rfl (lv_at hl 0 rfl) ?_
  refine gf_X10_76 hx hb hts hown hK hP 3 rfl rfl dX10_pickSide_10 ?_
  refine gf_X10_94 hx hb hts hown hK hP 6 rfl rfl dX10_pickSide_13 ?_
  refine lv_iload_n hx hb dX10_pickSide_16 rfl (lv_at hl 1 rfl) ?_
  refine jn_v (wr := [(vmr, .inl (cy 0, 10, .inl vmrf)), (vo, .inr (11, [.ref vt, .ref vx, .ref vb, .ref va, .ref ve, .ref vs, .ref vg, .ref vmr, .ref vkr, .ref vim, .ref vik, .ref vw, .ref vdw, .int volf, .int volh, .int vomd, .int vocd])), (vw, .inr (10, [.ref vwc, .ref vwl, .ref vws])), (vwc4, .inl (cy 2, 10, .inl vwcf4))]) (rV (As := [.ref vwc, .int vsu]) (rest := []) (ci := 8) ⟨hx, hb, hml, hown, hts⟩ (g_findFewest l dC dI cy _ vs vs1 vs2 vs3 vsm_4 vsf vwc vwc1 vwc2 vwc3 vwc4 vwc5 vwcm vwcd vwcr vwcw vwcf3 vsu r_vwcm r_vwcd q_5 p_vwcf3) (cw_X10_307 hts rfl rfl ⟨Nat.le_of_ble_eq_true rfl, Nat.le_of_ble_eq_true rfl⟩) hP hD hK [4, 5, 0, 7, 1] rfl rfl rfl rfl bl0 e0 rfl hl.1 rfl (Nat.le_of_ble_eq_true rfl) dX10_pickSide_17 ⟨Nat.le_of_ble_eq_true rfl, Nat.le_of_ble_eq_true rfl⟩) hP hD hS hA [4, 5, 0, 7, 1] [2, 3, 6, 8] rfl rfl rfl (by decide) (fun u_8 H locs hp_7 hP hD hS => ?_)
  obtain ⟨vsf_9, rfl⟩ : ∃ z, z = u_8 := ⟨_, rfl⟩
  have hP : va_P (dC, dI) vwCl [(vmr, .inl (cy 0, 10, .inl vmrf)), (vo, .inr (11, [.ref vt, .ref vx, .ref vb, .ref va, .ref ve, .ref vs, .ref vg, .ref vmr, .ref vkr, .ref vim, .ref vik, .ref vw, .ref vdw, .int volf, .int volh, .int vomd, .int vocd])), (vw, .inr (10, [.ref vwc, .ref vwl, .ref vws])), (vwc4, .inl (cy 2, 10, .inl vwcf4)), (vs, .inr (8, [.ref vs1, .ref vs2, .ref vs3])), (vs1, .inl (cy 0, 10, .inl vsm_4)), (vs2, .inl (cy 0, 2816, .inl vsf_9)), (vwc, .inr (2, [.ref vwc1, .ref vwc2, .ref vwc3, .ref vwc4, .ref vwc5, .int vwcm, .int vwcd, .int vwcr, .int vwcw])), (vwc3, .inl (cy 0, 10, .inl vwcf3))] H := hP
  have hD : va_D A [(vmr, .inl (cy 0, 10, .inl vmrf)), (vo, .inr (11, [.ref vt, .ref vx, .ref vb, .ref va, .ref ve, .ref vs, .ref vg, .ref vmr, .ref vkr, .ref vim, .ref vik, .ref vw, .ref vdw, .int volf, .int volh, .int vomd, .int vocd])), (vw, .inr (10, [.ref vwc, .ref vwl, .ref vws])), (vwc4, .inl (cy 2, 10, .inl vwcf4)), (vs, .inr (8, [.ref vs1, .ref vs2, .ref vs3])), (vs1, .inl (cy 0, 10, .inl vsm_4)), (vs2, .inl (cy 0, 2816, .inl vsf_9)), (vwc, .inr (2, [.ref vwc1, .ref vwc2, .ref vwc3, .ref vwc4, .ref vwc5, .int vwcm, .int vwcd, .int vwcr, .int vwcw])), (vwc3, .inl (cy 0, 10, .inl vwcf3))] := hD
  refine lv_aload_n hx hb dX10_pickSide_20 rfl (lv_at hl 0 rfl) ?_
  refine gf_X10_47 hx hb hts hown hK hP 1 rfl rfl dX10_pickSide_21 ?_
  refine lv_aload_n hx hb dX10_pickSide_24 rfl (lv_at hl 0 rfl) ?_
  refine gf_X10_76 hx hb hts hown hK hP 1 rfl rfl dX10_pickSide_25 ?_
  refine gf_X10_94 hx hb hts hown hK hP 2 rfl rfl dX10_pickSide_28 ?_
  refine lv_iload_n hx hb dX10_pickSide_31 rfl (lv_at hl 1 rfl) ?_
  refine lv_aload_n hx hb dX10_pickSide_32 rfl (lv_at hl 0 rfl) ?_
  refine gf_X10_58 hx hb hts hown hK hP 1 rfl rfl dX10_pickSide_33 ?_
  refine jn_v (wr := [(vo, .inr (11, [.ref vt, .ref vx, .ref vb, .ref va, .ref ve, .ref vs, .ref vg, .ref vmr, .ref vkr, .ref vim, .ref vik, .ref vw, .ref vdw, .int volf, .int volh, .int vomd, .int vocd])), (vw, .inr (10, [.ref vwc, .ref vwl, .ref vws])), (vwc4, .inl (cy 2, 10, .inl vwcf4))]) (rV (As := [.ref vwc, .int vsu, .ref vmr]) (rest := []) (ci := 8) ⟨hx, hb, hml, hown, hts⟩ (g_addFirst l dC dI cy _ vs vs1 vs2 vs3 vsm_4 vsf_9 vwc vwc1 vwc2 vwc3 vwc4 vwc5 vwcm vwcd vwcr vwcw vwcf3 vmr vmrf vsu r_vwcm r_vwcd r_vsu q_5 p_vwcf3) (cw_X10_314 hts rfl rfl ⟨Nat.le_of_ble_eq_true rfl, Nat.le_of_ble_eq_true rfl⟩) hP hD hK [4, 5, 6, 7, 8, 0] rfl rfl rfl rfl bl0 e0 rfl hl.1 rfl (Nat.le_of_ble_eq_true rfl) dX10_pickSide_36 ⟨Nat.le_of_ble_eq_true rfl, Nat.le_of_ble_eq_true rfl⟩) hP hD hS hA [4, 5, 6, 7, 8, 0] [1, 2, 3] rfl rfl rfl (by decide) (fun u_12 H locs hp_11 hP hD hS => ?_)
  obtain ⟨vqf_13, rfl⟩ : ∃ z, z = u_12 := ⟨_, rfl⟩
  have hP : va_P (dC, dI) vwCl [(vo, .inr (11, [.ref vt, .ref vx, .ref vb, .ref va, .ref ve, .ref vs, .ref vg, .ref vmr, .ref vkr, .ref vim, .ref vik, .ref vw, .ref vdw, .int volf, .int volh, .int vomd, .int vocd])), (vw, .inr (10, [.ref vwc, .ref vwl, .ref vws])), (vwc4, .inl (cy 2, 10, .inl vwcf4)), (vs, .inr (8, [.ref vs1, .ref vs2, .ref vs3])), (vs1, .inl (cy 0, 10, .inl vsm_4)), (vs2, .inl (cy 0, 2816, .inl vsf_9)), (vwc, .inr (2, [.ref vwc1, .ref vwc2, .ref vwc3, .ref vwc4, .ref vwc5, .int vwcm, .int vwcd, .int vwcr, .int vwcw])), (vwc3, .inl (cy 0, 10, .inl vwcf3)), (vmr, .inl (cy 0, 10, .inl vqf_13))] H := hP
  have hD : va_D A [(vo, .inr (11, [.ref vt, .ref vx, .ref vb, .ref va, .ref ve, .ref vs, .ref vg, .ref vmr, .ref vkr, .ref vim, .ref vik, .ref vw, .ref vdw, .int volf, .int volh, .int vomd, .int vocd])), (vw, .inr (10, [.ref vwc, .ref vwl, .ref vws])), (vwc4, .inl (cy 2, 10, .inl vwcf4)), (vs, .inr (8, [.ref vs1, .ref vs2, .ref vs3])), (vs1, .inl (cy 0, 10, .inl vsm_4)), (vs2, .inl (cy 0, 2816, .inl vsf_9)), (vwc, .inr (2, [.ref vwc1, .ref vwc2, .ref vwc3, .ref vwc4, .ref vwc5, .int vwcm, .int vwcd, .int vwcr, .int vwcw])), (vwc3, .inl (cy 0, 10, .inl vwcf3)), (vmr, .inl (cy 0, 10, .inl vqf_13))] := hD
  rw [hQ9]
  exact re_v (vsm_4, vsf_9, vqf_13) hx hb hr hlocks (show Rg vsm_4 10 0 9 from q_5) (hP.sub [0, 3, 4, 5, 1, 6, 7, 2, 8] rfl) (hD.sub [0, 3, 4, 5, 1, 6, 7, 2, 8] rfl rfl) hS dX10_pickSide_39
abbrev cX10_may : ByteArray := prog_1_method_26_code
def yX10_may : MethodName := ⟨RX10, "may", "()J"⟩
theorem t902 : Cond.code yX10_may cX10_may 6 (some .long) ∈ GW := gw_mem 1016 (by decide +kernel) (by decide +kernel)
abbrev O_g_may (cy : Nat → ClassId) (vo : Nat) (vt : Nat) (vx : Nat) (vb : Nat) (va : Nat) (ve : Nat) (vs : Nat) (vg : Nat) (vmr : Nat) (vkr : Nat) (vim : Nat) (vik : Nat) (vw : Nat) (vdw : Nat) (volf : Int32) (volh : Int32) (vomd : Int32) (vocd : Int32) (vt1 : Nat) (vt2 : Nat) (vtL : Int32) (vtli : Int32) (vta : Int32) (vtk : Int32) (vtst : Int32) (vtw : Int32) (vtc : Int64) (vtn : Int32) (vtfk : Int32) (vtfp : Int32) (vtb : Nat → Int32) (vs1 : Nat) (vs2 : Nat) (vs3 : Nat) (vsm : Nat → Int32) (vsf : Nat → Int32) (vsw : Nat → Int64) (vwc : Nat) (vwl : Nat) (vws : Nat) (vwc1 : Nat) (vwc2 : Nat) (vwc3 : Nat) (vwc4 : Nat) (vwc5 : Nat) (vwcm : Int32) (vwcd : Int32) (vwcr : Int32) (vwcw : Int32) (vwcf3 : Nat → Int32) (vwcf4 : Nat → Int32) (vmrf : Nat → Int32) (u : Int32 × (Nat → Int32) × (Nat → Int32) × (Nat → Int64) × (Nat → Int32) × Int32) : va_W := [(vo, .inr (11, [.ref vt, .ref vx, .ref vb, .ref va, .ref ve, .ref vs, .ref vg, .ref vmr, .ref vkr, .ref vim, .ref vik, .ref vw, .ref vdw, .int volf, .int volh, .int u.2.2.2.2.2, .int vocd])), (vt, .inr (9, [.ref vt1, .ref vt2, .int u.1, .int vtli, .int vta, .int vtk, .int vtst, .int vtw, .long vtc, .int vtn, .int vtfk, .int vtfp])), (vt1, .inl (cy 0, 940, .inl vtb)), (vs, .inr (8, [.ref vs1, .ref vs2, .ref vs3])), (vs1, .inl (cy 0, 10, .inl u.2.1)), (vs2, .inl (cy 0, 2816, .inl u.2.2.1)), (vs3, .inl (cy 1, 256, .inr (.inl u.2.2.2.1))), (vw, .inr (10, [.ref vwc, .ref vwl, .ref vws])), (vwc, .inr (2, [.ref vwc1, .ref vwc2, .ref vwc3, .ref vwc4, .ref vwc5, .int vwcm, .int vwcd, .int vwcr, .int vwcw])), (vwc3, .inl (cy 0, 10, .inl vwcf3)), (vwc4, .inl (cy 2, 10, .inl vwcf4)), (vmr, .inl (cy 0, 10, .inl u.2.2.2.2.1))]
theorem dX10_may_0 : decode cX10_may 0 = .ok (.aload_n 0, 1) := by decide +kernel
theorem dX10_may_1 : decode cX10_may 1 = .ok (.getfield 10, 3) := by decide +kernel
theorem dX10_may_4 : decode cX10_may 4 = .ok (.getfield 87, 3) := by decide +kernel
theorem dX10_may_7 : decode cX10_may 7 = .ok (.iconst 2, 1) := by decide +kernel
theorem dX10_may_8 : decode cX10_may 8 = .ok (.if_icmp .ne 7, 3) := by decide +kernel
theorem dX10_may_15 : decode cX10_may 15 = .ok (.iconst 0, 1) := by decide +kernel
theorem dX10_may_16 : decode cX10_may 16 = .ok (.istore_n 1, 1) := by decide +kernel
theorem dX10_may_17 : decode cX10_may 17 = .ok (.aload_n 0, 1) := by decide +kernel
theorem dX10_may_18 : decode cX10_may 18 = .ok (.getfield 10, 3) := by decide +kernel
theorem dX10_may_21 : decode cX10_may 21 = .ok (.iconst 0, 1) := by decide +kernel
theorem dX10_may_22 : decode cX10_may 22 = .ok (.putfield 87, 3) := by decide +kernel
theorem dX10_may_25 : decode cX10_may 25 = .ok (.iload_n 1, 1) := by decide +kernel
theorem dX10_may_26 : decode cX10_may 26 = .ok (.ifCond .ne 7, 3) := by decide +kernel
theorem dX10_may_29 : decode cX10_may 29 = .ok (.ldc2_w 278, 3) := by decide +kernel
theorem t903 : Cond.constantLong RX10 278 (-1) ∈ GW := gw_mem 1017 (by decide +kernel) (by decide +kernel)
theorem dX10_may_32 : decode cX10_may 32 = .ok (.lreturn, 1) := by decide +kernel
theorem dX10_may_11 : decode cX10_may 11 = .ok (.iconst 1, 1) := by decide +kernel
theorem dX10_may_12 : decode cX10_may 12 = .ok (.goto 4, 3) := by decide +kernel
theorem dX10_may_33 : decode cX10_may 33 = .ok (.aload_n 0, 1) := by decide +kernel
theorem dX10_may_34 : decode cX10_may 34 = .ok (.getfield 10, 3) := by decide +kernel
theorem dX10_may_37 : decode cX10_may 37 = .ok (.getfield 280, 3) := by decide +kernel
theorem t94 : Cond.fieldLink RX10 280 "LikenessPound$Tape" "bytes" "[I" ∈ GW := gw_mem 208 (by decide +kernel) (by decide +kernel)
theorem gf_X10_280 {p : Program} {l : Launch} {e : Env} {R : Room} {s : State} {m : MethodId} {args : Array Value} {below : List Frame} {meth : Method} {c : Code} {H : Heap} {locs : List Loc} {cells slots : Nat} {Q : State → Prop} {cc : ByteArray} {pc : Nat} {ls : Array Slot} {rest : List Value} {D : va_G} {a : Nat} {tys : List (ClassId × FieldType)} {ws : va_W} (hx : p.tables.exec = Jvm.exec) (hb : c.code = cc) (hts : ∀ w ∈ GW, w.before args s = true) (hown : s.vm.findClass RX10 = some m.cls) (hK : va_K D vwCl tys s) (hP : va_P D vwCl ws H) (q0 : Nat) {fs : List Value} (he : ws[q0]? = some (a, .inr (9, fs))) {v : Value} (hv : fs[0]? = some v) (hdg : decode cc pc = .ok (.getfield 280, 3)) (kk : W p l e R s m args below meth c H locs cells slots Q (F0 m (pc + 3) ls (v :: rest))) : W p l e R s m args below meth c H locs cells slots Q (F0 m pc ls (.ref a :: rest)) := va_get (C := RX8) (T := TX8) (N := 12) (ci := 9) hx hb hts inX8 hown hK hP q0 he rfl 0 (by decide) (hts _ t94) (fun _ h => h) hv hdg kk
theorem dX10_may_40 : decode cX10_may 40 = .ok (.iconst 0, 1) := by decide +kernel
theorem dX10_may_41 : decode cX10_may 41 = .ok (.iaload, 1) := by decide +kernel
theorem dX10_may_42 : decode cX10_may 42 = .ok (.istore_n 2, 1) := by decide +kernel
theorem dX10_may_43 : decode cX10_may 43 = .ok (.aload_n 0, 1) := by decide +kernel
theorem dX10_may_44 : decode cX10_may 44 = .ok (.getfield 10, 3) := by decide +kernel
theorem dX10_may_47 : decode cX10_may 47 = .ok (.getfield 280, 3) := by decide +kernel
theorem dX10_may_50 : decode cX10_may 50 = .ok (.iconst 1, 1) := by decide +kernel
theorem dX10_may_51 : decode cX10_may 51 = .ok (.iaload, 1) := by decide +kernel
theorem dX10_may_52 : decode cX10_may 52 = .ok (.istore_n 3, 1) := by decide +kernel
theorem dX10_may_53 : decode cX10_may 53 = .ok (.aload_n 0, 1) := by decide +kernel
theorem dX10_may_54 : decode cX10_may 54 = .ok (.iload_n 2, 1) := by decide +kernel
theorem dX10_may_55 : decode cX10_may 55 = .ok (.iconst 0, 1) := by decide +kernel
theorem dX10_may_56 : decode cX10_may 56 = .ok (.invokevirtual 283, 3) := by decide +kernel
theorem t904 : Cond.methodLink RX10 283 yX10_countSide ∈ GW := gw_mem 1018 (by decide +kernel) (by decide +kernel)
theorem t906 : Cond.instanceMethod yX10_countSide ∈ GW := gw_mem 1020 (by decide +kernel) (by decide +kernel)
theorem s14 : Cond.selects RX10 yX10_countSide yX10_countSide ∈ GW := gw_mem 14 (by decide +kernel) (by decide +kernel)
theorem cw_X10_283 {R : Room} {s : State} {args : Array Value} {rm : Room} {mc ms : Nat} (hts : ∀ w ∈ GW, w.before args s = true) (hrc : rm.cells = mc) (hrs : rm.slots = ms) (hR : rm.frames + 1 ≤ R.frames ∧ 8 + (3 + 11) + rm.locals ≤ R.locals) : CallW R s args RX10 RX10 283 yX10_countSide cX10_countSide 3 (some .long) (wl yX10_countSide cX10_countSide 3 (some .long)) rm mc ms 2 := cwV 2 hts (gi_V t904 t906 s14 t1 t907) rfl hrc hrs (by decide +kernel) hR
theorem dX10_may_59 : decode cX10_may 59 = .ok (.aload_n 0, 1) := by decide +kernel
theorem dX10_may_60 : decode cX10_may 60 = .ok (.iload_n 3, 1) := by decide +kernel
theorem dX10_may_61 : decode cX10_may 61 = .ok (.iconst 1, 1) := by decide +kernel
theorem dX10_may_62 : decode cX10_may 62 = .ok (.invokevirtual 283, 3) := by decide +kernel
theorem dX10_may_65 : decode cX10_may 65 = .ok (.lmul, 1) := by decide +kernel
theorem dX10_may_66 : decode cX10_may 66 = .ok (.lstore 4, 2) := by decide +kernel
theorem dX10_may_68 : decode cX10_may 68 = .ok (.lload 4, 2) := by decide +kernel
theorem dX10_may_70 : decode cX10_may 70 = .ok (.lconst 0, 1) := by decide +kernel
theorem dX10_may_71 : decode cX10_may 71 = .ok (.lcmp, 1) := by decide +kernel
theorem dX10_may_72 : decode cX10_may 72 = .ok (.ifCond .le 36, 3) := by decide +kernel
theorem dX10_may_108 : decode cX10_may 108 = .ok (.lload 4, 2) := by decide +kernel
theorem dX10_may_110 : decode cX10_may 110 = .ok (.lreturn, 1) := by decide +kernel
theorem dX10_may_75 : decode cX10_may 75 = .ok (.aload_n 0, 1) := by decide +kernel
theorem dX10_may_76 : decode cX10_may 76 = .ok (.getfield 58, 3) := by decide +kernel
theorem dX10_may_79 : decode cX10_may 79 = .ok (.invokestatic 287, 3) := by decide +kernel
theorem t921 : Cond.methodLink RX10 287 yX10_clearRow ∈ GW := gw_mem 1035 (by decide +kernel) (by decide +kernel)
theorem t922 : Cond.static yX10_clearRow ∈ GW := gw_mem 1036 (by decide +kernel) (by decide +kernel)
theorem cw_X10_287 {R : Room} {s : State} {args : Array Value} {rm : Room} {mc ms : Nat} (hts : ∀ w ∈ GW, w.before args s = true) (hrc : rm.cells = mc) (hrs : rm.slots = ms) (hR : rm.frames + 1 ≤ R.frames ∧ 8 + (2 + 11) + rm.locals ≤ R.locals) : CallB R s args RX10 287 yX10_clearRow cX10_clearRow 2 none (wl yX10_clearRow cX10_clearRow 2 none) rm mc ms 1 ∧ (Cond.static yX10_clearRow).before args s = true := va_cwS 1 hts (gi_S t921 t922 t1 t923) rfl hrc hrs (by decide +kernel) hR
theorem dX10_may_82 : decode cX10_may 82 = .ok (.aload_n 0, 1) := by decide +kernel
theorem dX10_may_83 : decode cX10_may 83 = .ok (.iload_n 2, 1) := by decide +kernel
theorem dX10_may_84 : decode cX10_may 84 = .ok (.iconst 0, 1) := by decide +kernel
theorem dX10_may_85 : decode cX10_may 85 = .ok (.invokevirtual 291, 3) := by decide +kernel
theorem t924 : Cond.methodLink RX10 291 yX10_pickSide ∈ GW := gw_mem 1038 (by decide +kernel) (by decide +kernel)
theorem t926 : Cond.instanceMethod yX10_pickSide ∈ GW := gw_mem 1040 (by decide +kernel) (by decide +kernel)
theorem s17 : Cond.selects RX10 yX10_pickSide yX10_pickSide ∈ GW := gw_mem 17 (by decide +kernel) (by decide +kernel)
theorem cw_X10_291 {R : Room} {s : State} {args : Array Value} {rm : Room} {mc ms : Nat} (hts : ∀ w ∈ GW, w.before args s = true) (hrc : rm.cells = mc) (hrs : rm.slots = ms) (hR : rm.frames + 1 ≤ R.frames ∧ 8 + (3 + 11) + rm.locals ≤ R.locals) : CallW R s args RX10 RX10 291 yX10_pickSide cX10_pickSide 3 none (wl yX10_pickSide cX10_pickSide 3 none) rm mc ms 2 := cwV 2 hts (gi_V t924 t926 s17 t1 t927) rfl hrc hrs (by decide +kernel) hR
theorem dX10_may_88 : decode cX10_may 88 = .ok (.aload_n 0, 1) := by decide +kernel
theorem dX10_may_89 : decode cX10_may 89 = .ok (.iload_n 3, 1) := by decide +kernel
theorem dX10_may_90 : decode cX10_may 90 = .ok (.iconst 1, 1) := by decide +kernel
theorem dX10_may_91 : decode cX10_may 91 = .ok (.invokevirtual 291, 3) := by decide +kernel
theorem dX10_may_94 : decode cX10_may 94 = .ok (.aload_n 0, 1) := by decide +kernel
theorem dX10_may_95 : decode cX10_may 95 = .ok (.aload_n 0, 1) := by decide +kernel
theorem dX10_may_96 : decode cX10_may 96 = .ok (.getfield 76, 3) := by decide +kernel
theorem dX10_may_99 : decode cX10_may 99 = .ok (.getfield 94, 3) := by decide +kernel
theorem dX10_may_102 : decode cX10_may 102 = .ok (.getfield 295, 3) := by decide +kernel
theorem dX10_may_105 : decode cX10_may 105 = .ok (.putfield 298, 3) := by decide +kernel
theorem pf_X10_298 {p : Program} {l : Launch} {e : Env} {R : Room} {s : State} {m : MethodId} {args : Array Value} {below : List Frame} {meth : Method} {c : Code} {H : Heap} {locs : List Loc} {cells slots : Nat} {Q : State → Prop} {cc : ByteArray} {pc : Nat} {ls : Array Slot} {rest : List Value} {D : va_G} {A : Nat → Prop} {a : Nat} {tys : List (ClassId × FieldType)} {ws : va_W} {H0 : Heap} (hx : p.tables.exec = Jvm.exec) (hb : c.code = cc) (hts : ∀ w ∈ GW, w.before args s = true) (hown : s.vm.findClass RX10 = some m.cls) (hK : va_K D vwCl tys s) (hP : va_P D vwCl ws H) (hD : va_D A ws) (hS0 : va_S A H0 H locs) (q0 : Nat) {fs : List Value} (he : ws[q0]? = some (a, .inr (11, fs))) {v : Value} (hn : narrow (tyX10 15) v = v) (hfit : fits (tyX10 15) v = true) (hl : 15 < fs.length) (hdg : decode cc pc = .ok (.putfield 298, 3)) (kk : ∀ (H1 : Heap) (locs1 : List Loc), va_P D vwCl (ws.set q0 (a, .inr (11, fs.set 15 v))) H1 → va_D A (ws.set q0 (a, .inr (11, fs.set 15 v))) → va_S A H0 H1 locs1 → W p l e R s m args below meth c H1 locs1 cells slots Q (F0 m (pc + 3) ls rest)) : W p l e R s m args below meth c H locs cells slots Q (F0 m pc ls (v :: .ref a :: rest)) := va_put (C := RX10) (T := TX10) (N := 17) (ci := 11) hx hb hts inX10 tyX10 tkX10 nmX10 hown hK hP hD hS0 q0 he rfl 15 (by decide) (hts _ t492) (fun _ h => h) rfl (tkX10 15 (by decide)) hn hfit hl hdg kk
set_option maxHeartbeats 4000000 in
set_option maxRecDepth 100000 in
theorem g_may (l : Launch) (dC : Nat → ClassId) (dI : Nat → Nat → Nat) (cy : Nat → ClassId) (sz : Nat) (vo : Nat) (vt : Nat) (vx : Nat) (vb : Nat) (va : Nat) (ve : Nat) (vs : Nat) (vg : Nat) (vmr : Nat) (vkr : Nat) (vim : Nat) (vik : Nat) (vw : Nat) (vdw : Nat) (volf : Int32) (volh : Int32) (vomd : Int32) (vocd : Int32) (vt1 : Nat) (vt2 : Nat) (vtL : Int32) (vtli : Int32) (vta : Int32) (vtk : Int32) (vtst : Int32) (vtw : Int32) (vtc : Int64) (vtn : Int32) (vtfk : Int32) (vtfp : Int32) (vtb : Nat → Int32) (vs1 : Nat) (vs2 : Nat) (vs3 : Nat) (vsm : Nat → Int32) (vsf : Nat → Int32) (vsw : Nat → Int64) (vwc : Nat) (vwl : Nat) (vws : Nat) (vwc1 : Nat) (vwc2 : Nat) (vwc3 : Nat) (vwc4 : Nat) (vwc5 : Nat) (vwcm : Int32) (vwcd : Int32) (vwcr : Int32) (vwcw : Int32) (vwcf3 : Nat → Int32) (vwcf4 : Nat → Int32) (vmrf : Nat → Int32) (r_vomd : 0 ≤ (vomd : Int32).toInt ∧ (vomd : Int32).toInt ≤ 10) (r_vocd : 0 ≤ (vocd : Int32).toInt ∧ (vocd : Int32).toInt ≤ 10) (r_vtL : 0 ≤ (vtL : Int32).toInt ∧ (vtL : Int32).toInt ≤ 940) (r_vwcm : 0 ≤ (vwcm : Int32).toInt ∧ (vwcm : Int32).toInt ≤ 7) (r_vwcd : 0 ≤ (vwcd : Int32).toInt ∧ (vwcd : Int32).toInt ≤ 10) (p_vtb : Rg vtb 940 0 255) (p_vsm : Rg vsm 10 0 9) (p_vwcf3 : Rg vwcf3 10 0 40) : Met l yX10_may (wl yX10_may cX10_may 6 (some .long)) ({ frames := 4, cells := 0, slots := 0, locals := 256 }) (Pw (dC, dI) vwCl cy [(vo, .inr (11, [.ref vt, .ref vx, .ref vb, .ref va, .ref ve, .ref vs, .ref vg, .ref vmr, .ref vkr, .ref vim, .ref vik, .ref vw, .ref vdw, .int volf, .int volh, .int vomd, .int vocd])), (vt, .inr (9, [.ref vt1, .ref vt2, .int vtL, .int vtli, .int vta, .int vtk, .int vtst, .int vtw, .long vtc, .int vtn, .int vtfk, .int vtfp])), (vt1, .inl (cy 0, 940, .inl vtb)), (vs, .inr (8, [.ref vs1, .ref vs2, .ref vs3])), (vs1, .inl (cy 0, 10, .inl vsm)), (vs2, .inl (cy 0, 2816, .inl vsf)), (vs3, .inl (cy 1, 256, .inr (.inl vsw))), (vw, .inr (10, [.ref vwc, .ref vwl, .ref vws])), (vwc, .inr (2, [.ref vwc1, .ref vwc2, .ref vwc3, .ref vwc4, .ref vwc5, .int vwcm, .int vwcd, .int vwcr, .int vwcw])), (vwc3, .inl (cy 0, 10, .inl vwcf3)), (vwc4, .inl (cy 2, 10, .inl vwcf4)), (vmr, .inl (cy 0, 10, .inl vmrf))] sz [.ref vo] nE) (Ql (dC, dI) vwCl (fun (r : Int64) (u : Int32 × (Nat → Int32) × (Nat → Int32) × (Nat → Int64) × (Nat → Int32) × Int32) => (0 ≤ (u.1 : Int32).toInt ∧ (u.1 : Int32).toInt ≤ 940) ∧ (Rg u.2.1 10 0 9) ∧ (0 ≤ (u.2.2.2.2.2 : Int32).toInt ∧ (u.2.2.2.2.2 : Int32).toInt ≤ 10) ∧ ((u.1 : Int32).toInt = 0)) (O_g_may cy vo vt vx vb va ve vs vg vmr vkr vim vik vw vdw volf volh vomd vocd vt1 vt2 vtL vtli vta vtk vtst vtw vtc vtn vtfk vtfp vtb vs1 vs2 vs3 vsm vsf vsw vwc vwl vws vwc1 vwc2 vwc3 vwc4 vwc5 vwcm vwcd vwcr vwcw vwcf3 vwcf4 vmrf) (va_A [(vo, .inr (11, [.ref vt, .ref vx, .ref vb, .ref va, .ref ve, .ref vs, .ref vg, .ref vmr, .ref vkr, .ref vim, .ref vik, .ref vw, .ref vdw, .int volf, .int volh, .int vomd, .int vocd])), (vt, .inr (9, [.ref vt1, .ref vt2, .int vtL, .int vtli, .int vta, .int vtk, .int vtst, .int vtw, .long vtc, .int vtn, .int vtfk, .int vtfp])), (vt1, .inl (cy 0, 940, .inl vtb)), (vs, .inr (8, [.ref vs1, .ref vs2, .ref vs3])), (vs1, .inl (cy 0, 10, .inl vsm)), (vs2, .inl (cy 0, 2816, .inl vsf)), (vs3, .inl (cy 1, 256, .inr (.inl vsw))), (vw, .inr (10, [.ref vwc, .ref vwl, .ref vws])), (vwc, .inr (2, [.ref vwc1, .ref vwc2, .ref vwc3, .ref vwc4, .ref vwc5, .int vwcm, .int vwcd, .int vwcr, .int vwcw])), (vwc3, .inl (cy 0, 10, .inl vwcf3)), (vwc4, .inl (cy 2, 10, .inl vwcf4)), (vmr, .inl (cy 0, 10, .inl vmrf))] sz)) 0 0 (va_A [(vo, .inr (11, [.ref vt, .ref vx, .ref vb, .ref va, .ref ve, .ref vs, .ref vg, .ref vmr, .ref vkr, .ref vim, .ref vik, .ref vw, .ref vdw, .int volf, .int volh, .int vomd, .int vocd])), (vt, .inr (9, [.ref vt1, .ref vt2, .int vtL, .int vtli, .int vta, .int vtk, .int vtst, .int vtw, .long vtc, .int vtn, .int vtfk, .int vtfp])), (vt1, .inl (cy 0, 940, .inl vtb)), (vs, .inr (8, [.ref vs1, .ref vs2, .ref vs3])), (vs1, .inl (cy 0, 10, .inl vsm)), (vs2, .inl (cy 0, 2816, .inl vsf)), (vs3, .inl (cy 1, 256, .inr (.inl vsw))), (vw, .inr (10, [.ref vwc, .ref vwl, .ref vws])), (vwc, .inr (2, [.ref vwc1, .ref vwc2, .ref vwc3, .ref vwc4, .ref vwc5, .int vwcm, .int vwcd, .int vwcr, .int vwcw])), (vwc3, .inl (cy 0, 10, .inl vwcf3)), (vwc4, .inl (cy 2, 10, .inl vwcf4)), (vmr, .inl (cy 0, 10, .inl vmrf))] sz) := by
  refine mw (Qc := Ql (dC, dI) vwCl (fun (r : Int64) (u : Int32 × (Nat → Int32) × (Nat → Int32) × (Nat → Int64) × (Nat → Int32) × Int32) => (0 ≤ (u.1 : Int32).toInt ∧ (u.1 : Int32).toInt ≤ 940) ∧ (Rg u.2.1 10 0 9) ∧ (0 ≤ (u.2.2.2.2.2 : Int32).toInt ∧ (u.2.2.2.2.2 : Int32).toInt ≤ 10) ∧ ((u.1 : Int32).toInt = 0)) (O_g_may cy vo vt vx vb va ve vs vg vmr vkr vim vik vw vdw volf volh vomd vocd vt1 vt2 vtL vtli vta vtk vtst vtw vtc vtn vtfk vtfp vtb vs1 vs2 vs3 vsm vsf vsw vwc vwl vws vwc1 vwc2 vwc3 vwc4 vwc5 vwcm vwcd vwcr vwcw vwcf3 vwcf4 vmrf)) RX10 rfl (by decide +kernel) (Nat.le_of_ble_eq_true rfl) ?_
  intro p e s m below meth c A hx hb hr hlocks av9 hav hts hown hnm hml hK hP hD hA hS hE hAe Q9 hQ9 ls hl
  have hl : lv_has ls 6 [(0, .ref vo)] := hl
  refine lv_aload_n hx hb dX10_may_0 rfl (lv_at hl 0 rfl) ?_
  refine gf_X10_10 hx hb hts hown hK hP 0 rfl rfl dX10_may_1 ?_
  refine gf_X10_87 hx hb hts hown hK hP 1 rfl rfl dX10_may_4 ?_
  refine lv_iconst (v := 2) hx hb dX10_may_7 (by decide) ?_
  have k_2 : (2 : Int32).toInt = 2 := by decide
  refine lv_icmp_ne (tgt := 15) hx hb dX10_may_8 (by decide) (fun c_1 => ?_) (fun c_1 => ?_)
  · skip
    have c_1 : ¬ (vtL.toInt = (2 : Int32).toInt) := fun h9 => c_1 (i_eq.mpr h9)
    refine lv_iconst (v := 0) hx hb dX10_may_15 (by decide) ?_
    refine lv_istore_n (lv' := [(1, .int 0), (0, .ref vo)]) hx hb dX10_may_16 rfl hl (by decide) rfl (fun ls hl => ?_)
    refine lv_aload_n hx hb dX10_may_17 rfl (lv_at hl 1 rfl) ?_
    refine gf_X10_10 hx hb hts hown hK hP 0 rfl rfl dX10_may_18 ?_
    refine lv_iconst (v := 0) hx hb dX10_may_21 (by decide) ?_
    refine pf_X10_87 hx hb hts hown hK hP hD hS 1 rfl rfl rfl (Nat.le_of_ble_eq_true rfl) dX10_may_22 (fun H locs hP hD hS => ?_)
    have hP : va_P (dC, dI) vwCl [(vo, .inr (11, [.ref vt, .ref vx, .ref vb, .ref va, .ref ve, .ref vs, .ref vg, .ref vmr, .ref vkr, .ref vim, .ref vik, .ref vw, .ref vdw, .int volf, .int volh, .int vomd, .int vocd])), (vt, .inr (9, [.ref vt1, .ref vt2, .int 0, .int vtli, .int vta, .int vtk, .int vtst, .int vtw, .long vtc, .int vtn, .int vtfk, .int vtfp])), (vt1, .inl (cy 0, 940, .inl vtb)), (vs, .inr (8, [.ref vs1, .ref vs2, .ref vs3])), (vs1, .inl (cy 0, 10, .inl vsm)), (vs2, .inl (cy 0, 2816, .inl vsf)), (vs3, .inl (cy 1, 256, .inr (.inl vsw))), (vw, .inr (10, [.ref vwc, .ref vwl, .ref vws])), (vwc, .inr (2, [.ref vwc1, .ref vwc2, .ref vwc3, .ref vwc4, .ref vwc5, .int vwcm, .int vwcd, .int vwcr, .int vwcw])), (vwc3, .inl (cy 0, 10, .inl vwcf3)), (vwc4, .inl (cy 2, 10, .inl vwcf4)), (vmr, .inl (cy 0, 10, .inl vmrf))] H := hP
    have hD : va_D A [(vo, .inr (11, [.ref vt, .ref vx, .ref vb, .ref va, .ref ve, .ref vs, .ref vg, .ref vmr, .ref vkr, .ref vim, .ref vik, .ref vw, .ref vdw, .int volf, .int volh, .int vomd, .int vocd])), (vt, .inr (9, [.ref vt1, .ref vt2, .int 0, .int vtli, .int vta, .int vtk, .int vtst, .int vtw, .long vtc, .int vtn, .int vtfk, .int vtfp])), (vt1, .inl (cy 0, 940, .inl vtb)), (vs, .inr (8, [.ref vs1, .ref vs2, .ref vs3])), (vs1, .inl (cy 0, 10, .inl vsm)), (vs2, .inl (cy 0, 2816, .inl vsf)), (vs3, .inl (cy 1, 256, .inr (.inl vsw))), (vw, .inr (10, [.ref vwc, .ref vwl, .ref vws])), (vwc, .inr (2, [.ref vwc1, .ref vwc2, .ref vwc3, .ref vwc4, .ref vwc5, .int vwcm, .int vwcd, .int vwcr, .int vwcw])), (vwc3, .inl (cy 0, 10, .inl vwcf3)), (vwc4, .inl (cy 2, 10, .inl vwcf4)), (vmr, .inl (cy 0, 10, .inl vmrf))] := hD
    refine lv_iload_n hx hb dX10_may_25 rfl (lv_at hl 0 rfl) ?_
    refine lv_if_ne (tgt := 33) hx hb dX10_may_26 (by decide) (fun c9 => absurd c9 (by decide)) (fun _ => ?_)
    refine lv_ldc2 hx hb hown (hts _ t903) dX10_may_29 ?_
    have k_0 : (0 : Int32).toInt = 0 := by decide
    rw [hQ9]
    exact re_l ((0 : Int32), vsm, vsf, vsw, vmrf, vomd) hx hb hr hlocks ⟨(show 0 ≤ (0 : Int32).toInt ∧ (0 : Int32).toInt ≤ 940 from ⟨by omega, by omega⟩), (show Rg vsm 10 0 9 from p_vsm), (show 0 ≤ (vomd : Int32).toInt ∧ (vomd : Int32).toInt ≤ 10 from ⟨by omega, by omega⟩), (show (0 : Int32).toInt = 0 from (by omega))⟩ (hP.sub [0, 1, 2, 3, 4, 5, 6, 7, 8, 9, 10, 11] rfl) (hD.sub [0, 1, 2, 3, 4, 5, 6, 7, 8, 9, 10, 11] rfl rfl) hS dX10_may_32
  · skip
    have c_1 : vtL.toInt = (2 : Int32).toInt := i_eq.mp c_1
    refine lv_iconst (v := 1) hx hb dX10_may_11 (by decide) ?_
    refine lv_goto (tgt := 16) hx hb dX10_may_12 (by decide) ?_
    refine lv_istore_n (lv' := [(1, .int 1), (0, .ref vo)]) hx hb dX10_may_16 rfl hl (by decide) rfl (fun ls hl => ?_)
    refine lv_aload_n hx hb dX10_may_17 rfl (lv_at hl 1 rfl) ?_
    refine gf_X10_10 hx hb hts hown hK hP 0 rfl rfl dX10_may_18 ?_
    refine lv_iconst (v := 0) hx hb dX10_may_21 (by decide) ?_
    refine pf_X10_87 hx hb hts hown hK hP hD hS 1 rfl rfl rfl (Nat.le_of_ble_eq_true rfl) dX10_may_22 (fun H locs hP hD hS => ?_)
    have hP : va_P (dC, dI) vwCl [(vo, .inr (11, [.ref vt, .ref vx, .ref vb, .ref va, .ref ve, .ref vs, .ref vg, .ref vmr, .ref vkr, .ref vim, .ref vik, .ref vw, .ref vdw, .int volf, .int volh, .int vomd, .int vocd])), (vt, .inr (9, [.ref vt1, .ref vt2, .int 0, .int vtli, .int vta, .int vtk, .int vtst, .int vtw, .long vtc, .int vtn, .int vtfk, .int vtfp])), (vt1, .inl (cy 0, 940, .inl vtb)), (vs, .inr (8, [.ref vs1, .ref vs2, .ref vs3])), (vs1, .inl (cy 0, 10, .inl vsm)), (vs2, .inl (cy 0, 2816, .inl vsf)), (vs3, .inl (cy 1, 256, .inr (.inl vsw))), (vw, .inr (10, [.ref vwc, .ref vwl, .ref vws])), (vwc, .inr (2, [.ref vwc1, .ref vwc2, .ref vwc3, .ref vwc4, .ref vwc5, .int vwcm, .int vwcd, .int vwcr, .int vwcw])), (vwc3, .inl (cy 0, 10, .inl vwcf3)), (vwc4, .inl (cy 2, 10, .inl vwcf4)), (vmr, .inl (cy 0, 10, .inl vmrf))] H := hP
    have hD : va_D A [(vo, .inr (11, [.ref vt, .ref vx, .ref vb, .ref va, .ref ve, .ref vs, .ref vg, .ref vmr, .ref vkr, .ref vim, .ref vik, .ref vw, .ref vdw, .int volf, .int volh, .int vomd, .int vocd])), (vt, .inr (9, [.ref vt1, .ref vt2, .int 0, .int vtli, .int vta, .int vtk, .int vtst, .int vtw, .long vtc, .int vtn, .int vtfk, .int vtfp])), (vt1, .inl (cy 0, 940, .inl vtb)), (vs, .inr (8, [.ref vs1, .ref vs2, .ref vs3])), (vs1, .inl (cy 0, 10, .inl vsm)), (vs2, .inl (cy 0, 2816, .inl vsf)), (vs3, .inl (cy 1, 256, .inr (.inl vsw))), (vw, .inr (10, [.ref vwc, .ref vwl, .ref vws])), (vwc, .inr (2, [.ref vwc1, .ref vwc2, .ref vwc3, .ref vwc4, .ref vwc5, .int vwcm, .int vwcd, .int vwcr, .int vwcw])), (vwc3, .inl (cy 0, 10, .inl vwcf3)), (vwc4, .inl (cy 2, 10, .inl vwcf4)), (vmr, .inl (cy 0, 10, .inl vmrf))] := hD
    refine lv_iload_n hx hb dX10_may_25 rfl (lv_at hl 0 rfl) ?_
    refine lv_if_ne (tgt := 33) hx hb dX10_may_26 (by decide) (fun _ => ?_) (fun c9 => absurd c9 (by decide))
    refine lv_aload_n hx hb dX10_may_33 rfl (lv_at hl 1 rfl) ?_
    refine gf_X10_10 hx hb hts hown hK hP 0 rfl rfl dX10_may_34 ?_
    refine gf_X10_280 hx hb hts hown hK hP 1 rfl rfl dX10_may_37 ?_
    refine lv_iconst (v := 0) hx hb dX10_may_40 (by decide) ?_
    have k_0 : (0 : Int32).toInt = 0 := by decide
    have hin_2 : vp_in (0 : Int32) 940 := vp_in_iff.mpr ⟨by omega, by omega⟩
    refine va_iald hx hb hK hP 2 0 rfl rfl hin_2 dX10_may_41 ?_
    refine lv_topi (fun z_3 ez_3 => ?_)
    have bz_3 := p_vtb.at hin_2 ez_3
    refine lv_istore_n (lv' := [(2, .int z_3), (1, .int 1), (0, .ref vo)]) hx hb dX10_may_42 rfl hl (by decide) rfl (fun ls hl => ?_)
    refine lv_aload_n hx hb dX10_may_43 rfl (lv_at hl 2 rfl) ?_
    refine gf_X10_10 hx hb hts hown hK hP 0 rfl rfl dX10_may_44 ?_
    refine gf_X10_280 hx hb hts hown hK hP 1 rfl rfl dX10_may_47 ?_
    refine lv_iconst (v := 1) hx hb dX10_may_50 (by decide) ?_
    have k_1 : (1 : Int32).toInt = 1 := by decide
    have hin_4 : vp_in (1 : Int32) 940 := vp_in_iff.mpr ⟨by omega, by omega⟩
    refine va_iald hx hb hK hP 2 0 rfl rfl hin_4 dX10_may_51 ?_
    refine lv_topi (fun z_5 ez_5 => ?_)
    have bz_5 := p_vtb.at hin_4 ez_5
    refine lv_istore_n (lv' := [(3, .int z_5), (2, .int z_3), (1, .int 1), (0, .ref vo)]) hx hb dX10_may_52 rfl hl (by decide) rfl (fun ls hl => ?_)
    refine lv_aload_n hx hb dX10_may_53 rfl (lv_at hl 3 rfl) ?_
    refine lv_iload_n hx hb dX10_may_54 rfl (lv_at hl 1 rfl) ?_
    refine lv_iconst (v := 0) hx hb dX10_may_55 (by decide) ?_
    refine jn_l (wr := [(vt, .inr (9, [.ref vt1, .ref vt2, .int 0, .int vtli, .int vta, .int vtk, .int vtst, .int vtw, .long vtc, .int vtn, .int vtfk, .int vtfp])), (vt1, .inl (cy 0, 940, .inl vtb)), (vs2, .inl (cy 0, 2816, .inl vsf)), (vmr, .inl (cy 0, 10, .inl vmrf))]) (rV (As := [.int z_3, .int 0]) (rest := []) (ci := 11) ⟨hx, hb, hml, hown, hts⟩ (g_countSide l dC dI cy _ vo vt vx vb va ve vs vg vmr vkr vim vik vw vdw volf volh vomd vocd vs1 vs2 vs3 vsm vsw vwc vwl vws vwc1 vwc2 vwc3 vwc4 vwc5 vwcm vwcd vwcr vwcw vwcf3 vwcf4 z_3 0 r_vwcm r_vwcd p_vsm p_vwcf3) (cw_X10_283 hts rfl rfl ⟨Nat.le_of_ble_eq_true rfl, Nat.le_of_ble_eq_true rfl⟩) hP hD hK [0, 3, 4, 6, 7, 8, 9, 10] rfl rfl rfl rfl bl0 e0 rfl hl.1 rfl (Nat.le_of_ble_eq_true rfl) dX10_may_56 ⟨Nat.le_of_ble_eq_true rfl, Nat.le_of_ble_eq_true rfl⟩) hP hD hS hA [0, 3, 4, 6, 7, 8, 9, 10] [1, 2, 5, 11] rfl rfl rfl (by decide) (fun r_6 u_8 H locs hp_7 hP hD hS => ?_)
    obtain ⟨vsm_9, vsw_10⟩ := u_8
    have hp_7 : (Rg vsm_9 10 0 9) := hp_7
    have q_11 := hp_7
    have hP : va_P (dC, dI) vwCl [(vt, .inr (9, [.ref vt1, .ref vt2, .int 0, .int vtli, .int vta, .int vtk, .int vtst, .int vtw, .long vtc, .int vtn, .int vtfk, .int vtfp])), (vt1, .inl (cy 0, 940, .inl vtb)), (vs2, .inl (cy 0, 2816, .inl vsf)), (vmr, .inl (cy 0, 10, .inl vmrf)), (vo, .inr (11, [.ref vt, .ref vx, .ref vb, .ref va, .ref ve, .ref vs, .ref vg, .ref vmr, .ref vkr, .ref vim, .ref vik, .ref vw, .ref vdw, .int volf, .int volh, .int vomd, .int vocd])), (vs, .inr (8, [.ref vs1, .ref vs2, .ref vs3])), (vs1, .inl (cy 0, 10, .inl vsm_9)), (vs3, .inl (cy 1, 256, .inr (.inl vsw_10))), (vw, .inr (10, [.ref vwc, .ref vwl, .ref vws])), (vwc, .inr (2, [.ref vwc1, .ref vwc2, .ref vwc3, .ref vwc4, .ref vwc5, .int vwcm, .int vwcd, .int vwcr, .int vwcw])), (vwc3, .inl (cy 0, 10, .inl vwcf3)), (vwc4, .inl (cy 2, 10, .inl vwcf4))] H := hP
    have hD : va_D A [(vt, .inr (9, [.ref vt1, .ref vt2, .int 0, .int vtli, .int vta, .int vtk, .int vtst, .int vtw, .long vtc, .int vtn, .int vtfk, .int vtfp])), (vt1, .inl (cy 0, 940, .inl vtb)), (vs2, .inl (cy 0, 2816, .inl vsf)), (vmr, .inl (cy 0, 10, .inl vmrf)), (vo, .inr (11, [.ref vt, .ref vx, .ref vb, .ref va, .ref ve, .ref vs, .ref vg, .ref vmr, .ref vkr, .ref vim, .ref vik, .ref vw, .ref vdw, .int volf, .int volh, .int vomd, .int vocd])), (vs, .inr (8, [.ref vs1, .ref vs2, .ref vs3])), (vs1, .inl (cy 0, 10, .inl vsm_9)), (vs3, .inl (cy 1, 256, .inr (.inl vsw_10))), (vw, .inr (10, [.ref vwc, .ref vwl, .ref vws])), (vwc, .inr (2, [.ref vwc1, .ref vwc2, .ref vwc3, .ref vwc4, .ref vwc5, .int vwcm, .int vwcd, .int vwcr, .int vwcw])), (vwc3, .inl (cy 0, 10, .inl vwcf3)), (vwc4, .inl (cy 2, 10, .inl vwcf4))] := hD
    refine lv_aload_n hx hb dX10_may_59 rfl (lv_at hl 3 rfl) ?_
    refine lv_iload_n hx hb dX10_may_60 rfl (lv_at hl 0 rfl) ?_
    refine lv_iconst (v := 1) hx hb dX10_may_61 (by decide) ?_
    refine jn_l (wr := [(vt, .inr (9, [.ref vt1, .ref vt2, .int 0, .int vtli, .int vta, .int vtk, .int vtst, .int vtw, .long vtc, .int vtn, .int vtfk, .int vtfp])), (vt1, .inl (cy 0, 940, .inl vtb)), (vs2, .inl (cy 0, 2816, .inl vsf)), (vmr, .inl (cy 0, 10, .inl vmrf))]) (rV (As := [.int z_5, .int 1]) (rest := [.long r_6]) (ci := 11) ⟨hx, hb, hml, hown, hts⟩ (g_countSide l dC dI cy _ vo vt vx vb va ve vs vg vmr vkr vim vik vw vdw volf volh vomd vocd vs1 vs2 vs3 vsm_9 vsw_10 vwc vwl vws vwc1 vwc2 vwc3 vwc4 vwc5 vwcm vwcd vwcr vwcw vwcf3 vwcf4 z_5 1 r_vwcm r_vwcd q_11 p_vwcf3) (cw_X10_283 hts rfl rfl ⟨Nat.le_of_ble_eq_true rfl, Nat.le_of_ble_eq_true rfl⟩) hP hD hK [4, 5, 6, 7, 8, 9, 10, 11] rfl rfl rfl rfl bl0 e0 rfl hl.1 rfl (Nat.le_of_ble_eq_true rfl) dX10_may_62 ⟨Nat.le_of_ble_eq_true rfl, Nat.le_of_ble_eq_true rfl⟩) hP hD hS hA [4, 5, 6, 7, 8, 9, 10, 11] [0, 1, 2, 3] rfl rfl rfl (by decide) (fun r_12 u_14 H locs hp_13 hP hD hS => ?_)
    obtain ⟨vsm_15, vsw_16⟩ := u_14
    have hp_13 : (Rg vsm_15 10 0 9) := hp_13
    have q_17 := hp_13
    have hP : va_P (dC, dI) vwCl [(vt, .inr (9, [.ref vt1, .ref vt2, .int 0, .int vtli, .int vta, .int vtk, .int vtst, .int vtw, .long vtc, .int vtn, .int vtfk, .int vtfp])), (vt1, .inl (cy 0, 940, .inl vtb)), (vs2, .inl (cy 0, 2816, .inl vsf)), (vmr, .inl (cy 0, 10, .inl vmrf)), (vo, .inr (11, [.ref vt, .ref vx, .ref vb, .ref va, .ref ve, .ref vs, .ref vg, .ref vmr, .ref vkr, .ref vim, .ref vik, .ref vw, .ref vdw, .int volf, .int volh, .int vomd, .int vocd])), (vs, .inr (8, [.ref vs1, .ref vs2, .ref vs3])), (vs1, .inl (cy 0, 10, .inl vsm_15)), (vs3, .inl (cy 1, 256, .inr (.inl vsw_16))), (vw, .inr (10, [.ref vwc, .ref vwl, .ref vws])), (vwc, .inr (2, [.ref vwc1, .ref vwc2, .ref vwc3, .ref vwc4, .ref vwc5, .int vwcm, .int vwcd, .int vwcr, .int vwcw])), (vwc3, .inl (cy 0, 10, .inl vwcf3)), (vwc4, .inl (cy 2, 10, .inl vwcf4))] H := hP
    have hD : va_D A [(vt, .inr (9, [.ref vt1, .ref vt2, .int 0, .int vtli, .int vta, .int vtk, .int vtst, .int vtw, .long vtc, .int vtn, .int vtfk, .int vtfp])), (vt1, .inl (cy 0, 940, .inl vtb)), (vs2, .inl (cy 0, 2816, .inl vsf)), (vmr, .inl (cy 0, 10, .inl vmrf)), (vo, .inr (11, [.ref vt, .ref vx, .ref vb, .ref va, .ref ve, .ref vs, .ref vg, .ref vmr, .ref vkr, .ref vim, .ref vik, .ref vw, .ref vdw, .int volf, .int volh, .int vomd, .int vocd])), (vs, .inr (8, [.ref vs1, .ref vs2, .ref vs3])), (vs1, .inl (cy 0, 10, .inl vsm_15)), (vs3, .inl (cy 1, 256, .inr (.inl vsw_16))), (vw, .inr (10, [.ref vwc, .ref vwl, .ref vws])), (vwc, .inr (2, [.ref vwc1, .ref vwc2, .ref vwc3, .ref vwc4, .ref vwc5, .int vwcm, .int vwcd, .int vwcr, .int vwcw])), (vwc3, .inl (cy 0, 10, .inl vwcf3)), (vwc4, .inl (cy 2, 10, .inl vwcf4))] := hD
    refine lv_lmul hx hb dX10_may_65 ?_
    refine lv_topl (fun y_18 ey_18 => ?_)
    refine lv_lstore (lv' := [(4, .long y_18), (3, .int z_5), (2, .int z_3), (1, .int 1), (0, .ref vo)]) hx hb dX10_may_66 hl (by decide) rfl (fun ls hl => ?_)
    refine lv_lload hx hb dX10_may_68 (lv_at hl 0 rfl) ?_
    refine lv_lconst (v := 0) hx hb dX10_may_70 (by decide) ?_
    refine W.lcmp hx hb dX10_may_71 ?_
    refine lv_topi (fun z_19 ez_19 => ?_)
    refine lv_if_le (tgt := 108) hx hb dX10_may_72 (by decide) (fun c_20 => ?_) (fun c_20 => ?_)
    · skip
      have c_20 : z_19.toInt ≤ (0 : Int32).toInt := i_le.mp c_20
      refine lv_lload hx hb dX10_may_108 (lv_at hl 0 rfl) ?_
      rw [hQ9]
      exact re_l ((0 : Int32), vsm_15, vsf, vsw_16, vmrf, vomd) hx hb hr hlocks ⟨(show 0 ≤ (0 : Int32).toInt ∧ (0 : Int32).toInt ≤ 940 from ⟨by omega, by omega⟩), (show Rg vsm_15 10 0 9 from q_17), (show 0 ≤ (vomd : Int32).toInt ∧ (vomd : Int32).toInt ≤ 10 from ⟨by omega, by omega⟩), (show (0 : Int32).toInt = 0 from (by omega))⟩ (hP.sub [4, 0, 1, 5, 6, 2, 7, 8, 9, 10, 11, 3] rfl) (hD.sub [4, 0, 1, 5, 6, 2, 7, 8, 9, 10, 11, 3] rfl rfl) hS dX10_may_110
    · skip
      have c_20 : ¬ (z_19.toInt ≤ (0 : Int32).toInt) := fun h9 => c_20 (i_le.mpr h9)
      refine lv_aload_n hx hb dX10_may_75 rfl (lv_at hl 4 rfl) ?_
      refine gf_X10_58 hx hb hts hown hK hP 4 rfl rfl dX10_may_76 ?_
      refine jn_v (wr := [(vt, .inr (9, [.ref vt1, .ref vt2, .int 0, .int vtli, .int vta, .int vtk, .int vtst, .int vtw, .long vtc, .int vtn, .int vtfk, .int vtfp])), (vt1, .inl (cy 0, 940, .inl vtb)), (vs2, .inl (cy 0, 2816, .inl vsf)), (vo, .inr (11, [.ref vt, .ref vx, .ref vb, .ref va, .ref ve, .ref vs, .ref vg, .ref vmr, .ref vkr, .ref vim, .ref vik, .ref vw, .ref vdw, .int volf, .int volh, .int vomd, .int vocd])), (vs, .inr (8, [.ref vs1, .ref vs2, .ref vs3])), (vs1, .inl (cy 0, 10, .inl vsm_15)), (vs3, .inl (cy 1, 256, .inr (.inl vsw_16))), (vw, .inr (10, [.ref vwc, .ref vwl, .ref vws])), (vwc, .inr (2, [.ref vwc1, .ref vwc2, .ref vwc3, .ref vwc4, .ref vwc5, .int vwcm, .int vwcd, .int vwcr, .int vwcw])), (vwc3, .inl (cy 0, 10, .inl vwcf3)), (vwc4, .inl (cy 2, 10, .inl vwcf4))]) (rS (As := [.ref vmr]) (rest := []) ⟨hx, hb, hml, hown, hts⟩ (g_clearRow l dC dI cy _ vmr vmrf ) (cw_X10_287 hts rfl rfl ⟨Nat.le_of_ble_eq_true rfl, Nat.le_of_ble_eq_true rfl⟩) hP hD hK [3] rfl rfl bl0 e0 rfl hl.1 rfl (Nat.le_of_ble_eq_true rfl) dX10_may_79 ⟨Nat.le_of_ble_eq_true rfl, Nat.le_of_ble_eq_true rfl⟩) hP hD hS hA [3] [0, 1, 2, 4, 5, 6, 7, 8, 9, 10, 11] rfl rfl rfl (by decide) (fun u_23 H locs hp_22 hP hD hS => ?_)
      obtain ⟨vqf_24, rfl⟩ : ∃ z, z = u_23 := ⟨_, rfl⟩
      have hP : va_P (dC, dI) vwCl [(vt, .inr (9, [.ref vt1, .ref vt2, .int 0, .int vtli, .int vta, .int vtk, .int vtst, .int vtw, .long vtc, .int vtn, .int vtfk, .int vtfp])), (vt1, .inl (cy 0, 940, .inl vtb)), (vs2, .inl (cy 0, 2816, .inl vsf)), (vo, .inr (11, [.ref vt, .ref vx, .ref vb, .ref va, .ref ve, .ref vs, .ref vg, .ref vmr, .ref vkr, .ref vim, .ref vik, .ref vw, .ref vdw, .int volf, .int volh, .int vomd, .int vocd])), (vs, .inr (8, [.ref vs1, .ref vs2, .ref vs3])), (vs1, .inl (cy 0, 10, .inl vsm_15)), (vs3, .inl (cy 1, 256, .inr (.inl vsw_16))), (vw, .inr (10, [.ref vwc, .ref vwl, .ref vws])), (vwc, .inr (2, [.ref vwc1, .ref vwc2, .ref vwc3, .ref vwc4, .ref vwc5, .int vwcm, .int vwcd, .int vwcr, .int vwcw])), (vwc3, .inl (cy 0, 10, .inl vwcf3)), (vwc4, .inl (cy 2, 10, .inl vwcf4)), (vmr, .inl (cy 0, 10, .inl vqf_24))] H := hP
      have hD : va_D A [(vt, .inr (9, [.ref vt1, .ref vt2, .int 0, .int vtli, .int vta, .int vtk, .int vtst, .int vtw, .long vtc, .int vtn, .int vtfk, .int vtfp])), (vt1, .inl (cy 0, 940, .inl vtb)), (vs2, .inl (cy 0, 2816, .inl vsf)), (vo, .inr (11, [.ref vt, .ref vx, .ref vb, .ref va, .ref ve, .ref vs, .ref vg, .ref vmr, .ref vkr, .ref vim, .ref vik, .ref vw, .ref vdw, .int volf, .int volh, .int vomd, .int vocd])), (vs, .inr (8, [.ref vs1, .ref vs2, .ref vs3])), (vs1, .inl (cy 0, 10, .inl vsm_15)), (vs3, .inl (cy 1, 256, .inr (.inl vsw_16))), (vw, .inr (10, [.ref vwc, .ref vwl, .ref vws])), (vwc, .inr (2, [.ref vwc1, .ref vwc2, .ref vwc3, .ref vwc4, .ref vwc5, .int vwcm, .int vwcd, .int vwcr, .int vwcw])), (vwc3, .inl (cy 0, 10, .inl vwcf3)), (vwc4, .inl (cy 2, 10, .inl vwcf4)), (vmr, .inl (cy 0, 10, .inl vqf_24))] := hD
      refine lv_aload_n hx hb dX10_may_82 rfl (lv_at hl 4 rfl) ?_
      refine lv_iload_n hx hb dX10_may_83 rfl (lv_at hl 2 rfl) ?_
      refine lv_iconst (v := 0) hx hb dX10_may_84 (by decide) ?_
      refine jn_v (wr := [(vt, .inr (9, [.ref vt1, .ref vt2, .int 0, .int vtli, .int vta, .int vtk, .int vtst, .int vtw, .long vtc, .int vtn, .int vtfk, .int vtfp])), (vt1, .inl (cy 0, 940, .inl vtb)), (vs3, .inl (cy 1, 256, .inr (.inl vsw_16)))]) (rV (As := [.int z_3, .int 0]) (rest := []) (ci := 11) ⟨hx, hb, hml, hown, hts⟩ (g_pickSide l dC dI cy _ vo vt vx vb va ve vs vg vmr vkr vim vik vw vdw volf volh vomd vocd vs1 vs2 vs3 vsm_15 vsf vwc vwl vws vwc1 vwc2 vwc3 vwc4 vwc5 vwcm vwcd vwcr vwcw vwcf3 vwcf4 vqf_24 z_3 0 r_vwcm r_vwcd ⟨by omega, by omega⟩ q_17 p_vwcf3) (cw_X10_291 hts rfl rfl ⟨Nat.le_of_ble_eq_true rfl, Nat.le_of_ble_eq_true rfl⟩) hP hD hK [3, 4, 5, 2, 7, 8, 9, 10, 11] rfl rfl rfl rfl bl0 e0 rfl hl.1 rfl (Nat.le_of_ble_eq_true rfl) dX10_may_85 ⟨Nat.le_of_ble_eq_true rfl, Nat.le_of_ble_eq_true rfl⟩) hP hD hS hA [3, 4, 5, 2, 7, 8, 9, 10, 11] [0, 1, 6] rfl rfl rfl (by decide) (fun u_27 H locs hp_26 hP hD hS => ?_)
      obtain ⟨vsm_28, vsf_29, vmrf_30⟩ := u_27
      have hp_26 : (Rg vsm_28 10 0 9) := hp_26
      have q_31 := hp_26
      have hP : va_P (dC, dI) vwCl [(vt, .inr (9, [.ref vt1, .ref vt2, .int 0, .int vtli, .int vta, .int vtk, .int vtst, .int vtw, .long vtc, .int vtn, .int vtfk, .int vtfp])), (vt1, .inl (cy 0, 940, .inl vtb)), (vs3, .inl (cy 1, 256, .inr (.inl vsw_16))), (vo, .inr (11, [.ref vt, .ref vx, .ref vb, .ref va, .ref ve, .ref vs, .ref vg, .ref vmr, .ref vkr, .ref vim, .ref vik, .ref vw, .ref vdw, .int volf, .int volh, .int vomd, .int vocd])), (vs, .inr (8, [.ref vs1, .ref vs2, .ref vs3])), (vs1, .inl (cy 0, 10, .inl vsm_28)), (vs2, .inl (cy 0, 2816, .inl vsf_29)), (vw, .inr (10, [.ref vwc, .ref vwl, .ref vws])), (vwc, .inr (2, [.ref vwc1, .ref vwc2, .ref vwc3, .ref vwc4, .ref vwc5, .int vwcm, .int vwcd, .int vwcr, .int vwcw])), (vwc3, .inl (cy 0, 10, .inl vwcf3)), (vwc4, .inl (cy 2, 10, .inl vwcf4)), (vmr, .inl (cy 0, 10, .inl vmrf_30))] H := hP
      have hD : va_D A [(vt, .inr (9, [.ref vt1, .ref vt2, .int 0, .int vtli, .int vta, .int vtk, .int vtst, .int vtw, .long vtc, .int vtn, .int vtfk, .int vtfp])), (vt1, .inl (cy 0, 940, .inl vtb)), (vs3, .inl (cy 1, 256, .inr (.inl vsw_16))), (vo, .inr (11, [.ref vt, .ref vx, .ref vb, .ref va, .ref ve, .ref vs, .ref vg, .ref vmr, .ref vkr, .ref vim, .ref vik, .ref vw, .ref vdw, .int volf, .int volh, .int vomd, .int vocd])), (vs, .inr (8, [.ref vs1, .ref vs2, .ref vs3])), (vs1, .inl (cy 0, 10, .inl vsm_28)), (vs2, .inl (cy 0, 2816, .inl vsf_29)), (vw, .inr (10, [.ref vwc, .ref vwl, .ref vws])), (vwc, .inr (2, [.ref vwc1, .ref vwc2, .ref vwc3, .ref vwc4, .ref vwc5, .int vwcm, .int vwcd, .int vwcr, .int vwcw])), (vwc3, .inl (cy 0, 10, .inl vwcf3)), (vwc4, .inl (cy 2, 10, .inl vwcf4)), (vmr, .inl (cy 0, 10, .inl vmrf_30))] := hD
      refine lv_aload_n hx hb dX10_may_88 rfl (lv_at hl 4 rfl) ?_
      refine lv_iload_n hx hb dX10_may_89 rfl (lv_at hl 1 rfl) ?_
      refine lv_iconst (v := 1) hx hb dX10_may_90 (by decide) ?_
      refine jn_v (wr := [(vt, .inr (9, [.ref vt1, .ref vt2, .int 0, .int vtli, .int vta, .int vtk, .int vtst, .int vtw, .long vtc, .int vtn, .int vtfk, .int vtfp])), (vt1, .inl (cy 0, 940, .inl vtb)), (vs3, .inl (cy 1, 256, .inr (.inl vsw_16)))]) (rV (As := [.int z_5, .int 1]) (rest := []) (ci := 11) ⟨hx, hb, hml, hown, hts⟩ (g_pickSide l dC dI cy _ vo vt vx vb va ve vs vg vmr vkr vim vik vw vdw volf volh vomd vocd vs1 vs2 vs3 vsm_28 vsf_29 vwc vwl vws vwc1 vwc2 vwc3 vwc4 vwc5 vwcm vwcd vwcr vwcw vwcf3 vwcf4 vmrf_30 z_5 1 r_vwcm r_vwcd ⟨by omega, by omega⟩ q_31 p_vwcf3) (cw_X10_291 hts rfl rfl ⟨Nat.le_of_ble_eq_true rfl, Nat.le_of_ble_eq_true rfl⟩) hP hD hK [3, 4, 5, 6, 7, 8, 9, 10, 11] rfl rfl rfl rfl bl0 e0 rfl hl.1 rfl (Nat.le_of_ble_eq_true rfl) dX10_may_91 ⟨Nat.le_of_ble_eq_true rfl, Nat.le_of_ble_eq_true rfl⟩) hP hD hS hA [3, 4, 5, 6, 7, 8, 9, 10, 11] [0, 1, 2] rfl rfl rfl (by decide) (fun u_34 H locs hp_33 hP hD hS => ?_)
      obtain ⟨vsm_35, vsf_36, vmrf_37⟩ := u_34
      have hp_33 : (Rg vsm_35 10 0 9) := hp_33
      have q_38 := hp_33
      have hP : va_P (dC, dI) vwCl [(vt, .inr (9, [.ref vt1, .ref vt2, .int 0, .int vtli, .int vta, .int vtk, .int vtst, .int vtw, .long vtc, .int vtn, .int vtfk, .int vtfp])), (vt1, .inl (cy 0, 940, .inl vtb)), (vs3, .inl (cy 1, 256, .inr (.inl vsw_16))), (vo, .inr (11, [.ref vt, .ref vx, .ref vb, .ref va, .ref ve, .ref vs, .ref vg, .ref vmr, .ref vkr, .ref vim, .ref vik, .ref vw, .ref vdw, .int volf, .int volh, .int vomd, .int vocd])), (vs, .inr (8, [.ref vs1, .ref vs2, .ref vs3])), (vs1, .inl (cy 0, 10, .inl vsm_35)), (vs2, .inl (cy 0, 2816, .inl vsf_36)), (vw, .inr (10, [.ref vwc, .ref vwl, .ref vws])), (vwc, .inr (2, [.ref vwc1, .ref vwc2, .ref vwc3, .ref vwc4, .ref vwc5, .int vwcm, .int vwcd, .int vwcr, .int vwcw])), (vwc3, .inl (cy 0, 10, .inl vwcf3)), (vwc4, .inl (cy 2, 10, .inl vwcf4)), (vmr, .inl (cy 0, 10, .inl vmrf_37))] H := hP
      have hD : va_D A [(vt, .inr (9, [.ref vt1, .ref vt2, .int 0, .int vtli, .int vta, .int vtk, .int vtst, .int vtw, .long vtc, .int vtn, .int vtfk, .int vtfp])), (vt1, .inl (cy 0, 940, .inl vtb)), (vs3, .inl (cy 1, 256, .inr (.inl vsw_16))), (vo, .inr (11, [.ref vt, .ref vx, .ref vb, .ref va, .ref ve, .ref vs, .ref vg, .ref vmr, .ref vkr, .ref vim, .ref vik, .ref vw, .ref vdw, .int volf, .int volh, .int vomd, .int vocd])), (vs, .inr (8, [.ref vs1, .ref vs2, .ref vs3])), (vs1, .inl (cy 0, 10, .inl vsm_35)), (vs2, .inl (cy 0, 2816, .inl vsf_36)), (vw, .inr (10, [.ref vwc, .ref vwl, .ref vws])), (vwc, .inr (2, [.ref vwc1, .ref vwc2, .ref vwc3, .ref vwc4, .ref vwc5, .int vwcm, .int vwcd, .int vwcr, .int vwcw])), (vwc3, .inl (cy 0, 10, .inl vwcf3)), (vwc4, .inl (cy 2, 10, .inl vwcf4)), (vmr, .inl (cy 0, 10, .inl vmrf_37))] := hD
      refine lv_aload_n hx hb dX10_may_94 rfl (lv_at hl 4 rfl) ?_
      refine lv_aload_n hx hb dX10_may_95 rfl (lv_at hl 4 rfl) ?_
      refine gf_X10_76 hx hb hts hown hK hP 3 rfl rfl dX10_may_96 ?_
      refine gf_X10_94 hx hb hts hown hK hP 7 rfl rfl dX10_may_99 ?_
      refine gf_X10_295 hx hb hts hown hK hP 8 rfl rfl dX10_may_102 ?_
      refine pf_X10_298 hx hb hts hown hK hP hD hS 3 rfl rfl rfl (Nat.le_of_ble_eq_true rfl) dX10_may_105 (fun H locs hP hD hS => ?_)
      have hP : va_P (dC, dI) vwCl [(vt, .inr (9, [.ref vt1, .ref vt2, .int 0, .int vtli, .int vta, .int vtk, .int vtst, .int vtw, .long vtc, .int vtn, .int vtfk, .int vtfp])), (vt1, .inl (cy 0, 940, .inl vtb)), (vs3, .inl (cy 1, 256, .inr (.inl vsw_16))), (vo, .inr (11, [.ref vt, .ref vx, .ref vb, .ref va, .ref ve, .ref vs, .ref vg, .ref vmr, .ref vkr, .ref vim, .ref vik, .ref vw, .ref vdw, .int volf, .int volh, .int vwcd, .int vocd])), (vs, .inr (8, [.ref vs1, .ref vs2, .ref vs3])), (vs1, .inl (cy 0, 10, .inl vsm_35)), (vs2, .inl (cy 0, 2816, .inl vsf_36)), (vw, .inr (10, [.ref vwc, .ref vwl, .ref vws])), (vwc, .inr (2, [.ref vwc1, .ref vwc2, .ref vwc3, .ref vwc4, .ref vwc5, .int vwcm, .int vwcd, .int vwcr, .int vwcw])), (vwc3, .inl (cy 0, 10, .inl vwcf3)), (vwc4, .inl (cy 2, 10, .inl vwcf4)), (vmr, .inl (cy 0, 10, .inl vmrf_37))] H := hP
      have hD : va_D A [(vt, .inr (9, [.ref vt1, .ref vt2, .int 0, .int vtli, .int vta, .int vtk, .int vtst, .int vtw, .long vtc, .int vtn, .int vtfk, .int vtfp])), (vt1, .inl (cy 0, 940, .inl vtb)), (vs3, .inl (cy 1, 256, .inr (.inl vsw_16))), (vo, .inr (11, [.ref vt, .ref vx, .ref vb, .ref va, .ref ve, .ref vs, .ref vg, .ref vmr, .ref vkr, .ref vim, .ref vik, .ref vw, .ref vdw, .int volf, .int volh, .int vwcd, .int vocd])), (vs, .inr (8, [.ref vs1, .ref vs2, .ref vs3])), (vs1, .inl (cy 0, 10, .inl vsm_35)), (vs2, .inl (cy 0, 2816, .inl vsf_36)), (vw, .inr (10, [.ref vwc, .ref vwl, .ref vws])), (vwc, .inr (2, [.ref vwc1, .ref vwc2, .ref vwc3, .ref vwc4, .ref vwc5, .int vwcm, .int vwcd, .int vwcr, .int vwcw])), (vwc3, .inl (cy 0, 10, .inl vwcf3)), (vwc4, .inl (cy 2, 10, .inl vwcf4)), (vmr, .inl (cy 0, 10, .inl vmrf_37))] := hD
      refine lv_lload hx hb dX10_may_108 (lv_at hl 0 rfl) ?_
      rw [hQ9]
      exact re_l ((0 : Int32), vsm_35, vsf_36, vsw_16, vmrf_37, vwcd) hx hb hr hlocks ⟨(show 0 ≤ (0 : Int32).toInt ∧ (0 : Int32).toInt ≤ 940 from ⟨by omega, by omega⟩), (show Rg vsm_35 10 0 9 from q_38), (show 0 ≤ (vwcd : Int32).toInt ∧ (vwcd : Int32).toInt ≤ 10 from ⟨by omega, by omega⟩), (show (0 : Int32).toInt = 0 from (by omega))⟩ (hP.sub [3, 0, 1, 4, 5, 6, 2, 7, 8, 9, 10, 11] rfl) (hD.sub [3, 0, 1, 4, 5, 6, 2, 7, 8, 9, 10, 11] rfl rfl) hS dX10_may_110
abbrev cX10_career : ByteArray := prog_1_method_28_code
def yX10_career : MethodName := ⟨RX10, "career", "(II)I"⟩
theorem t951 : Cond.code yX10_career cX10_career 6 (some .int) ∈ GW := gw_mem 1065 (by decide +kernel) (by decide +kernel)
abbrev O_g_career (cy : Nat → ClassId) (vo : Nat) (vt : Nat) (vx : Nat) (vb : Nat) (va : Nat) (ve : Nat) (vs : Nat) (vg : Nat) (vmr : Nat) (vkr : Nat) (vim : Nat) (vik : Nat) (vw : Nat) (vdw : Nat) (volf : Int32) (volh : Int32) (vomd : Int32) (vocd : Int32) (vs1 : Nat) (vs2 : Nat) (vs3 : Nat) (vsm : Nat → Int32) (vsf : Nat → Int32) (vwc : Nat) (vwl : Nat) (vws : Nat) (vwc1 : Nat) (vwc2 : Nat) (vwc3 : Nat) (vwc4 : Nat) (vwc5 : Nat) (vwcm : Int32) (vwcd : Int32) (vwcr : Int32) (vwcw : Int32) (vwcf3 : Nat → Int32) (vwcf4 : Nat → Int32) (vwl1 : Nat) (vwl2 : Nat) (vwl3 : Nat) (vwl4 : Nat) (vwl5 : Nat) (vwl6 : Nat) (vwl7 : Nat) (vwl8 : Nat) (vwl9 : Nat) (vwl10 : Nat) (vwly : Int32) (vwlf2 : Nat → Int32) (vwlf3 : Nat → Int32) (vwlf4 : Nat → Int32) (vwlf5 : Nat → Int32) (vkrf : Nat → Int32) (vm : Int32) (vk : Int32) (u : (Nat → Int32) × (Nat → Int32) × (Nat → Int32) × Int32) : va_W := [(vo, .inr (11, [.ref vt, .ref vx, .ref vb, .ref va, .ref ve, .ref vs, .ref vg, .ref vmr, .ref vkr, .ref vim, .ref vik, .ref vw, .ref vdw, .int volf, .int volh, .int vomd, .int u.2.2.2])), (vs, .inr (8, [.ref vs1, .ref vs2, .ref vs3])), (vs1, .inl (cy 0, 10, .inl u.1)), (vs2, .inl (cy 0, 2816, .inl u.2.1)), (vw, .inr (10, [.ref vwc, .ref vwl, .ref vws])), (vwc, .inr (2, [.ref vwc1, .ref vwc2, .ref vwc3, .ref vwc4, .ref vwc5, .int vwcm, .int vwcd, .int vwcr, .int vwcw])), (vwc3, .inl (cy 0, 10, .inl vwcf3)), (vwc4, .inl (cy 2, 10, .inl vwcf4)), (vwl, .inr (5, [.ref vwl1, .ref vwl2, .ref vwl3, .ref vwl4, .ref vwl5, .ref vwl6, .ref vwl7, .ref vwl8, .ref vwl9, .ref vwl10, .int vwly])), (vwl2, .inl (cy 0, 70, .inl vwlf2)), (vwl3, .inl (cy 0, 49, .inl vwlf3)), (vwl4, .inl (cy 0, 7, .inl vwlf4)), (vwl5, .inl (cy 0, 7, .inl vwlf5)), (vkr, .inl (cy 0, 10, .inl u.2.2.1))]
theorem dX10_career_0 : decode cX10_career 0 = .ok (.aload_n 0, 1) := by decide +kernel
theorem dX10_career_1 : decode cX10_career 1 = .ok (.iload_n 1, 1) := by decide +kernel
theorem dX10_career_2 : decode cX10_career 2 = .ok (.invokevirtual 128, 3) := by decide +kernel
theorem dX10_career_5 : decode cX10_career 5 = .ok (.ifCond .eq 13, 3) := by decide +kernel
theorem dX10_career_18 : decode cX10_career 18 = .ok (.iconst (-1), 1) := by decide +kernel
theorem dX10_career_19 : decode cX10_career 19 = .ok (.ireturn, 1) := by decide +kernel
theorem dX10_career_8 : decode cX10_career 8 = .ok (.iload_n 2, 1) := by decide +kernel
theorem dX10_career_9 : decode cX10_career 9 = .ok (.ifCond .lt 9, 3) := by decide +kernel
theorem dX10_career_12 : decode cX10_career 12 = .ok (.iload_n 2, 1) := by decide +kernel
theorem dX10_career_13 : decode cX10_career 13 = .ok (.bipush 10, 2) := by decide +kernel
theorem dX10_career_15 : decode cX10_career 15 = .ok (.if_icmp .le 5, 3) := by decide +kernel
theorem dX10_career_20 : decode cX10_career 20 = .ok (.aload_n 0, 1) := by decide +kernel
theorem dX10_career_21 : decode cX10_career 21 = .ok (.getfield 76, 3) := by decide +kernel
theorem dX10_career_24 : decode cX10_career 24 = .ok (.iload_n 1, 1) := by decide +kernel
theorem dX10_career_25 : decode cX10_career 25 = .ok (.invokevirtual 301, 3) := by decide +kernel
theorem dX10_career_28 : decode cX10_career 28 = .ok (.istore_n 3, 1) := by decide +kernel
theorem dX10_career_29 : decode cX10_career 29 = .ok (.aload_n 0, 1) := by decide +kernel
theorem dX10_career_30 : decode cX10_career 30 = .ok (.getfield 76, 3) := by decide +kernel
theorem dX10_career_33 : decode cX10_career 33 = .ok (.getfield 94, 3) := by decide +kernel
theorem dX10_career_36 : decode cX10_career 36 = .ok (.getfield 185, 3) := by decide +kernel
theorem dX10_career_39 : decode cX10_career 39 = .ok (.iload_n 3, 1) := by decide +kernel
theorem dX10_career_40 : decode cX10_career 40 = .ok (.isub, 1) := by decide +kernel
theorem dX10_career_41 : decode cX10_career 41 = .ok (.istore 4, 2) := by decide +kernel
theorem dX10_career_43 : decode cX10_career 43 = .ok (.iload 4, 2) := by decide +kernel
theorem dX10_career_45 : decode cX10_career 45 = .ok (.ifCond .ge 5, 3) := by decide +kernel
theorem dX10_career_50 : decode cX10_career 50 = .ok (.iconst 0, 1) := by decide +kernel
theorem dX10_career_51 : decode cX10_career 51 = .ok (.istore 5, 2) := by decide +kernel
theorem dX10_career_53 : decode cX10_career 53 = .ok (.iload 5, 2) := by decide +kernel
theorem dX10_career_55 : decode cX10_career 55 = .ok (.bipush 10, 2) := by decide +kernel
theorem dX10_career_57 : decode cX10_career 57 = .ok (.if_icmp .ge 40, 3) := by decide +kernel
theorem dX10_career_97 : decode cX10_career 97 = .ok (.aload_n 0, 1) := by decide +kernel
theorem dX10_career_98 : decode cX10_career 98 = .ok (.getfield 47, 3) := by decide +kernel
theorem dX10_career_101 : decode cX10_career 101 = .ok (.aload_n 0, 1) := by decide +kernel
theorem dX10_career_102 : decode cX10_career 102 = .ok (.getfield 76, 3) := by decide +kernel
theorem dX10_career_105 : decode cX10_career 105 = .ok (.getfield 94, 3) := by decide +kernel
theorem dX10_career_108 : decode cX10_career 108 = .ok (.iload 4, 2) := by decide +kernel
theorem dX10_career_110 : decode cX10_career 110 = .ok (.invokevirtual 307, 3) := by decide +kernel
theorem dX10_career_113 : decode cX10_career 113 = .ok (.aload_n 0, 1) := by decide +kernel
theorem dX10_career_114 : decode cX10_career 114 = .ok (.getfield 47, 3) := by decide +kernel
theorem dX10_career_117 : decode cX10_career 117 = .ok (.iload 4, 2) := by decide +kernel
theorem dX10_career_119 : decode cX10_career 119 = .ok (.iload_n 2, 1) := by decide +kernel
theorem dX10_career_120 : decode cX10_career 120 = .ok (.invokevirtual 311, 3) := by decide +kernel
theorem t953 : Cond.methodLink RX10 311 yX7_highestWithin ∈ GW := gw_mem 1067 (by decide +kernel) (by decide +kernel)
theorem t954 : Cond.instanceMethod yX7_highestWithin ∈ GW := gw_mem 1068 (by decide +kernel) (by decide +kernel)
theorem t955 : Cond.selects RX7 yX7_highestWithin yX7_highestWithin ∈ GW := gw_mem 1069 (by decide +kernel) (by decide +kernel)
theorem cw_X10_311 {R : Room} {s : State} {args : Array Value} {rm : Room} {mc ms : Nat} (hts : ∀ w ∈ GW, w.before args s = true) (hrc : rm.cells = mc) (hrs : rm.slots = ms) (hR : rm.frames + 1 ≤ R.frames ∧ 8 + (4 + 11) + rm.locals ≤ R.locals) : CallW R s args RX10 RX7 311 yX7_highestWithin cX7_highestWithin 4 (some .int) (wl yX7_highestWithin cX7_highestWithin 4 (some .int)) rm mc ms 2 := cwV 2 hts (gi_V t953 t954 t955 t12 t956) rfl hrc hrs (by decide +kernel) hR
theorem dX10_career_123 : decode cX10_career 123 = .ok (.istore 5, 2) := by decide +kernel
theorem dX10_career_125 : decode cX10_career 125 = .ok (.aload_n 0, 1) := by decide +kernel
theorem dX10_career_126 : decode cX10_career 126 = .ok (.getfield 62, 3) := by decide +kernel
theorem dX10_career_129 : decode cX10_career 129 = .ok (.invokestatic 287, 3) := by decide +kernel
theorem dX10_career_132 : decode cX10_career 132 = .ok (.aload_n 0, 1) := by decide +kernel
theorem dX10_career_133 : decode cX10_career 133 = .ok (.getfield 47, 3) := by decide +kernel
theorem dX10_career_136 : decode cX10_career 136 = .ok (.aload_n 0, 1) := by decide +kernel
theorem dX10_career_137 : decode cX10_career 137 = .ok (.getfield 76, 3) := by decide +kernel
theorem dX10_career_140 : decode cX10_career 140 = .ok (.getfield 94, 3) := by decide +kernel
theorem dX10_career_143 : decode cX10_career 143 = .ok (.iload 5, 2) := by decide +kernel
theorem dX10_career_145 : decode cX10_career 145 = .ok (.aload_n 0, 1) := by decide +kernel
theorem dX10_career_146 : decode cX10_career 146 = .ok (.getfield 62, 3) := by decide +kernel
theorem dX10_career_149 : decode cX10_career 149 = .ok (.invokevirtual 314, 3) := by decide +kernel
theorem dX10_career_152 : decode cX10_career 152 = .ok (.aload_n 0, 1) := by decide +kernel
theorem dX10_career_153 : decode cX10_career 153 = .ok (.aload_n 0, 1) := by decide +kernel
theorem dX10_career_154 : decode cX10_career 154 = .ok (.getfield 76, 3) := by decide +kernel
theorem dX10_career_157 : decode cX10_career 157 = .ok (.getfield 94, 3) := by decide +kernel
theorem dX10_career_160 : decode cX10_career 160 = .ok (.getfield 295, 3) := by decide +kernel
theorem dX10_career_163 : decode cX10_career 163 = .ok (.putfield 318, 3) := by decide +kernel
theorem pf_X10_318 {p : Program} {l : Launch} {e : Env} {R : Room} {s : State} {m : MethodId} {args : Array Value} {below : List Frame} {meth : Method} {c : Code} {H : Heap} {locs : List Loc} {cells slots : Nat} {Q : State → Prop} {cc : ByteArray} {pc : Nat} {ls : Array Slot} {rest : List Value} {D : va_G} {A : Nat → Prop} {a : Nat} {tys : List (ClassId × FieldType)} {ws : va_W} {H0 : Heap} (hx : p.tables.exec = Jvm.exec) (hb : c.code = cc) (hts : ∀ w ∈ GW, w.before args s = true) (hown : s.vm.findClass RX10 = some m.cls) (hK : va_K D vwCl tys s) (hP : va_P D vwCl ws H) (hD : va_D A ws) (hS0 : va_S A H0 H locs) (q0 : Nat) {fs : List Value} (he : ws[q0]? = some (a, .inr (11, fs))) {v : Value} (hn : narrow (tyX10 16) v = v) (hfit : fits (tyX10 16) v = true) (hl : 16 < fs.length) (hdg : decode cc pc = .ok (.putfield 318, 3)) (kk : ∀ (H1 : Heap) (locs1 : List Loc), va_P D vwCl (ws.set q0 (a, .inr (11, fs.set 16 v))) H1 → va_D A (ws.set q0 (a, .inr (11, fs.set 16 v))) → va_S A H0 H1 locs1 → W p l e R s m args below meth c H1 locs1 cells slots Q (F0 m (pc + 3) ls rest)) : W p l e R s m args below meth c H locs cells slots Q (F0 m pc ls (v :: .ref a :: rest)) := va_put (C := RX10) (T := TX10) (N := 17) (ci := 11) hx hb hts inX10 tyX10 tkX10 nmX10 hown hK hP hD hS0 q0 he rfl 16 (by decide) (hts _ t493) (fun _ h => h) rfl (tkX10 16 (by decide)) hn hfit hl hdg kk
theorem dX10_career_166 : decode cX10_career 166 = .ok (.iload_n 3, 1) := by decide +kernel
theorem dX10_career_167 : decode cX10_career 167 = .ok (.iload 5, 2) := by decide +kernel
theorem dX10_career_169 : decode cX10_career 169 = .ok (.iadd, 1) := by decide +kernel
theorem dX10_career_170 : decode cX10_career 170 = .ok (.ireturn, 1) := by decide +kernel
theorem dX10_career_60 : decode cX10_career 60 = .ok (.aload_n 0, 1) := by decide +kernel
theorem dX10_career_61 : decode cX10_career 61 = .ok (.getfield 47, 3) := by decide +kernel
theorem dX10_career_64 : decode cX10_career 64 = .ok (.getfield 304, 3) := by decide +kernel
theorem dX10_career_67 : decode cX10_career 67 = .ok (.iload 5, 2) := by decide +kernel
theorem dX10_career_69 : decode cX10_career 69 = .ok (.bipush 9, 2) := by decide +kernel
theorem dX10_career_71 : decode cX10_career 71 = .ok (.aload_n 0, 1) := by decide +kernel
theorem dX10_career_72 : decode cX10_career 72 = .ok (.getfield 76, 3) := by decide +kernel
theorem dX10_career_75 : decode cX10_career 75 = .ok (.getfield 98, 3) := by decide +kernel
theorem dX10_career_78 : decode cX10_career 78 = .ok (.getfield 165, 3) := by decide +kernel
theorem dX10_career_81 : decode cX10_career 81 = .ok (.iload_n 1, 1) := by decide +kernel
theorem dX10_career_82 : decode cX10_career 82 = .ok (.bipush 10, 2) := by decide +kernel
theorem dX10_career_84 : decode cX10_career 84 = .ok (.imul, 1) := by decide +kernel
theorem dX10_career_85 : decode cX10_career 85 = .ok (.iload 5, 2) := by decide +kernel
theorem dX10_career_87 : decode cX10_career 87 = .ok (.iadd, 1) := by decide +kernel
theorem dX10_career_88 : decode cX10_career 88 = .ok (.iaload, 1) := by decide +kernel
theorem dX10_career_89 : decode cX10_career 89 = .ok (.isub, 1) := by decide +kernel
theorem dX10_career_90 : decode cX10_career 90 = .ok (.iastore, 1) := by decide +kernel
theorem dX10_career_91 : decode cX10_career 91 = .ok (.iinc 5 1, 3) := by decide +kernel
theorem dX10_career_94 : decode cX10_career 94 = .ok (.goto (-41), 3) := by decide +kernel
theorem dX10_career_48 : decode cX10_career 48 = .ok (.iconst (-1), 1) := by decide +kernel
theorem dX10_career_49 : decode cX10_career 49 = .ok (.ireturn, 1) := by decide +kernel
set_option maxHeartbeats 4000000 in
set_option maxRecDepth 100000 in
theorem g_career (l : Launch) (dC : Nat → ClassId) (dI : Nat → Nat → Nat) (cy : Nat → ClassId) (sz : Nat) (vo : Nat) (vt : Nat) (vx : Nat) (vb : Nat) (va : Nat) (ve : Nat) (vs : Nat) (vg : Nat) (vmr : Nat) (vkr : Nat) (vim : Nat) (vik : Nat) (vw : Nat) (vdw : Nat) (volf : Int32) (volh : Int32) (vomd : Int32) (vocd : Int32) (vs1 : Nat) (vs2 : Nat) (vs3 : Nat) (vsm : Nat → Int32) (vsf : Nat → Int32) (vwc : Nat) (vwl : Nat) (vws : Nat) (vwc1 : Nat) (vwc2 : Nat) (vwc3 : Nat) (vwc4 : Nat) (vwc5 : Nat) (vwcm : Int32) (vwcd : Int32) (vwcr : Int32) (vwcw : Int32) (vwcf3 : Nat → Int32) (vwcf4 : Nat → Int32) (vwl1 : Nat) (vwl2 : Nat) (vwl3 : Nat) (vwl4 : Nat) (vwl5 : Nat) (vwl6 : Nat) (vwl7 : Nat) (vwl8 : Nat) (vwl9 : Nat) (vwl10 : Nat) (vwly : Int32) (vwlf2 : Nat → Int32) (vwlf3 : Nat → Int32) (vwlf4 : Nat → Int32) (vwlf5 : Nat → Int32) (vkrf : Nat → Int32) (vm : Int32) (vk : Int32) (r_vomd : 0 ≤ (vomd : Int32).toInt ∧ (vomd : Int32).toInt ≤ 10) (r_vocd : 0 ≤ (vocd : Int32).toInt ∧ (vocd : Int32).toInt ≤ 10) (r_vwcm : 0 ≤ (vwcm : Int32).toInt ∧ (vwcm : Int32).toInt ≤ 7) (r_vwcd : 0 ≤ (vwcd : Int32).toInt ∧ (vwcd : Int32).toInt ≤ 10) (p_vsm : Rg vsm 10 0 9) (p_vwcf3 : Rg vwcf3 10 0 40) (p_vwlf2 : Rg vwlf2 70 0 9) (p_vwlf5 : Rg vwlf5 7 (-1) 9) : Met l yX10_career (wl yX10_career cX10_career 6 (some .int)) ({ frames := 4, cells := 0, slots := 0, locals := 256 }) (Pw (dC, dI) vwCl cy [(vo, .inr (11, [.ref vt, .ref vx, .ref vb, .ref va, .ref ve, .ref vs, .ref vg, .ref vmr, .ref vkr, .ref vim, .ref vik, .ref vw, .ref vdw, .int volf, .int volh, .int vomd, .int vocd])), (vs, .inr (8, [.ref vs1, .ref vs2, .ref vs3])), (vs1, .inl (cy 0, 10, .inl vsm)), (vs2, .inl (cy 0, 2816, .inl vsf)), (vw, .inr (10, [.ref vwc, .ref vwl, .ref vws])), (vwc, .inr (2, [.ref vwc1, .ref vwc2, .ref vwc3, .ref vwc4, .ref vwc5, .int vwcm, .int vwcd, .int vwcr, .int vwcw])), (vwc3, .inl (cy 0, 10, .inl vwcf3)), (vwc4, .inl (cy 2, 10, .inl vwcf4)), (vwl, .inr (5, [.ref vwl1, .ref vwl2, .ref vwl3, .ref vwl4, .ref vwl5, .ref vwl6, .ref vwl7, .ref vwl8, .ref vwl9, .ref vwl10, .int vwly])), (vwl2, .inl (cy 0, 70, .inl vwlf2)), (vwl3, .inl (cy 0, 49, .inl vwlf3)), (vwl4, .inl (cy 0, 7, .inl vwlf4)), (vwl5, .inl (cy 0, 7, .inl vwlf5)), (vkr, .inl (cy 0, 10, .inl vkrf))] sz [.ref vo, .int vm, .int vk] nE) (Qi (dC, dI) vwCl (fun (r : Int32) (u : (Nat → Int32) × (Nat → Int32) × (Nat → Int32) × Int32) => (Rg u.1 10 0 9) ∧ (0 ≤ (u.2.2.2 : Int32).toInt ∧ (u.2.2.2 : Int32).toInt ≤ 10)) (O_g_career cy vo vt vx vb va ve vs vg vmr vkr vim vik vw vdw volf volh vomd vocd vs1 vs2 vs3 vsm vsf vwc vwl vws vwc1 vwc2 vwc3 vwc4 vwc5 vwcm vwcd vwcr vwcw vwcf3 vwcf4 vwl1 vwl2 vwl3 vwl4 vwl5 vwl6 vwl7 vwl8 vwl9 vwl10 vwly vwlf2 vwlf3 vwlf4 vwlf5 vkrf vm vk) (va_A [(vo, .inr (11, [.ref vt, .ref vx, .ref vb, .ref va, .ref ve, .ref vs, .ref vg, .ref vmr, .ref vkr, .ref vim, .ref vik, .ref vw, .ref vdw, .int volf, .int volh, .int vomd, .int vocd])), (vs, .inr (8, [.ref vs1, .ref vs2, .ref vs3])), (vs1, .inl (cy 0, 10, .inl vsm)), (vs2, .inl (cy 0, 2816, .inl vsf)), (vw, .inr (10, [.ref vwc, .ref vwl, .ref vws])), (vwc, .inr (2, [.ref vwc1, .ref vwc2, .ref vwc3, .ref vwc4, .ref vwc5, .int vwcm, .int vwcd, .int vwcr, .int vwcw])), (vwc3, .inl (cy 0, 10, .inl vwcf3)), (vwc4, .inl (cy 2, 10, .inl vwcf4)), (vwl, .inr (5, [.ref vwl1, .ref vwl2, .ref vwl3, .ref vwl4, .ref vwl5, .ref vwl6, .ref vwl7, .ref vwl8, .ref vwl9, .ref vwl10, .int vwly])), (vwl2, .inl (cy 0, 70, .inl vwlf2)), (vwl3, .inl (cy 0, 49, .inl vwlf3)), (vwl4, .inl (cy 0, 7, .inl vwlf4)), (vwl5, .inl (cy 0, 7, .inl vwlf5)), (vkr, .inl (cy 0, 10, .inl vkrf))] sz)) 0 0 (va_A [(vo, .inr (11, [.ref vt, .ref vx, .ref vb, .ref va, .ref ve, .ref vs, .ref vg, .ref vmr, .ref vkr, .ref vim, .ref vik, .ref vw, .ref vdw, .int volf, .int volh, .int vomd, .int vocd])), (vs, .inr (8, [.ref vs1, .ref vs2, .ref vs3])), (vs1, .inl (cy 0, 10, .inl vsm)), (vs2, .inl (cy 0, 2816, .inl vsf)), (vw, .inr (10, [.ref vwc, .ref vwl, .ref vws])), (vwc, .inr (2, [.ref vwc1, .ref vwc2, .ref vwc3, .ref vwc4, .ref vwc5, .int vwcm, .int vwcd, .int vwcr, .int vwcw])), (vwc3, .inl (cy 0, 10, .inl vwcf3)), (vwc4, .inl (cy 2, 10, .inl vwcf4)), (vwl, .inr (5, [.ref vwl1, .ref vwl2, .ref vwl3, .ref vwl4, .ref vwl5, .ref vwl6, .ref vwl7, .ref vwl8, .ref vwl9, .ref vwl10, .int vwly])), (vwl2, .inl (cy 0, 70, .inl vwlf2)), (vwl3, .inl (cy 0, 49, .inl vwlf3)), (vwl4, .inl (cy 0, 7, .inl vwlf4)), (vwl5, .inl (cy 0, 7, .inl vwlf5)), (vkr, .inl (cy 0, 10, .inl vkrf))] sz) := by
  refine mw (Qc := Qi (dC, dI) vwCl (fun (r : Int32) (u : (Nat → Int32) × (Nat → Int32) × (Nat → Int32) × Int32) => (Rg u.1 10 0 9) ∧ (0 ≤ (u.2.2.2 : Int32).toInt ∧ (u.2.2.2 : Int32).toInt ≤ 10)) (O_g_career cy vo vt vx vb va ve vs vg vmr vkr vim vik vw vdw volf volh vomd vocd vs1 vs2 vs3 vsm vsf vwc vwl vws vwc1 vwc2 vwc3 vwc4 vwc5 vwcm vwcd vwcr vwcw vwcf3 vwcf4 vwl1 vwl2 vwl3 vwl4 vwl5 vwl6 vwl7 vwl8 vwl9 vwl10 vwly vwlf2 vwlf3 vwlf4 vwlf5 vkrf vm vk)) RX10 rfl (by decide +kernel) (Nat.le_of_ble_eq_true rfl) ?_
  intro p e s m below meth c A hx hb hr hlocks av9 hav hts hown hnm hml hK hP hD hA hS hE hAe Q9 hQ9 ls hl
  have hl : lv_has ls 6 [(0, .ref vo), (1, .int vm), (2, .int vk)] := hl
  refine lv_aload_n hx hb dX10_career_0 rfl (lv_at hl 0 rfl) ?_
  refine lv_iload_n hx hb dX10_career_1 rfl (lv_at hl 1 rfl) ?_
  refine jr_i (rVr (As := [.int vm]) (rest := []) (ci := 11) ⟨hx, hb, hml, hown, hts⟩ (g_isMan l dC dI cy vo vt vx vb va ve vs vg vmr vkr vim vik vw vdw volf volh vomd vocd vwc vwl vws vwc1 vwc2 vwc3 vwc4 vwc5 vwcm vwcd vwcr vwcw vm r_vwcm r_vwcd) (cw_X10_128 hts rfl rfl ⟨Nat.le_of_ble_eq_true rfl, Nat.le_of_ble_eq_true rfl⟩) hP hK [0, 4, 5] rfl rfl rfl rfl hl.1 rfl (Nat.le_of_ble_eq_true rfl) dX10_career_2 ⟨Nat.le_of_ble_eq_true rfl, Nat.le_of_ble_eq_true rfl⟩) hP hS (fun r_1 H locs hp_2 hP hS => ?_)
  have hp_2 : ((r_1 = 0 ∧ ((vm : Int32).toInt < 0 ∨ (vwcm : Int32).toInt ≤ (vm : Int32).toInt)) ∨ (r_1 = 1 ∧ 0 ≤ (vm : Int32).toInt ∧ (vm : Int32).toInt < (vwcm : Int32).toInt)) := hp_2
  have q_3 := hp_2
  rcases q_3 with ⟨aq_3, f0q_3⟩ | ⟨aq_3, f0q_3⟩
  · skip
    refine as_i 0 aq_3 ?_
    refine lv_if_eq (tgt := 18) hx hb dX10_career_5 (by decide) (fun _ => ?_) (fun c9 => absurd (by decide) c9)
    refine lv_iconst (v := (-1)) hx hb dX10_career_18 (by decide) ?_
    have k_m1 : ((-1) : Int32).toInt = (-1) := by decide
    rw [hQ9]
    exact re_i (vsm, vsf, vkrf, vocd) hx hb hr hlocks ⟨(show Rg vsm 10 0 9 from p_vsm), (show 0 ≤ (vocd : Int32).toInt ∧ (vocd : Int32).toInt ≤ 10 from ⟨by omega, by omega⟩)⟩ (hP.sub [0, 1, 2, 3, 4, 5, 6, 7, 8, 9, 10, 11, 12, 13] rfl) (hD.sub [0, 1, 2, 3, 4, 5, 6, 7, 8, 9, 10, 11, 12, 13] rfl rfl) hS dX10_career_19
  · skip
    refine as_i 1 aq_3 ?_
    refine lv_if_eq (tgt := 18) hx hb dX10_career_5 (by decide) (fun c9 => absurd c9 (by decide)) (fun _ => ?_)
    refine lv_iload_n hx hb dX10_career_8 rfl (lv_at hl 2 rfl) ?_
    have k_0 : (0 : Int32).toInt = 0 := by decide
    refine lv_if_lt (tgt := 18) hx hb dX10_career_9 (by decide) (fun c_4 => ?_) (fun c_4 => ?_)
    · skip
      have c_4 : vk.toInt < (0 : Int32).toInt := i_lt.mp c_4
      refine lv_iconst (v := (-1)) hx hb dX10_career_18 (by decide) ?_
      have k_m1 : ((-1) : Int32).toInt = (-1) := by decide
      rw [hQ9]
      exact re_i (vsm, vsf, vkrf, vocd) hx hb hr hlocks ⟨(show Rg vsm 10 0 9 from p_vsm), (show 0 ≤ (vocd : Int32).toInt ∧ (vocd : Int32).toInt ≤ 10 from ⟨by omega, by omega⟩)⟩ (hP.sub [0, 1, 2, 3, 4, 5, 6, 7, 8, 9, 10, 11, 12, 13] rfl) (hD.sub [0, 1, 2, 3, 4, 5, 6, 7, 8, 9, 10, 11, 12, 13] rfl rfl) hS dX10_career_19
    · skip
      have c_4 : ¬ (vk.toInt < (0 : Int32).toInt) := fun h9 => c_4 (i_lt.mpr h9)
      refine lv_iload_n hx hb dX10_career_12 rfl (lv_at hl 2 rfl) ?_
      refine lv_bipush (v := 10) hx hb dX10_career_13 (by decide) ?_
      have k_10 : (10 : Int32).toInt = 10 := by decide
      refine lv_icmp_le (tgt := 20) hx hb dX10_career_15 (by decide) (fun c_5 => ?_) (fun c_5 => ?_)
      · skip
        have c_5 : vk.toInt ≤ (10 : Int32).toInt := i_le.mp c_5
        refine lv_aload_n hx hb dX10_career_20 rfl (lv_at hl 0 rfl) ?_
        refine gf_X10_76 hx hb hts hown hK hP 0 rfl rfl dX10_career_21 ?_
        refine lv_iload_n hx hb dX10_career_24 rfl (lv_at hl 1 rfl) ?_
        refine jr_i (rVr (As := [.int vm]) (rest := []) (ci := 10) ⟨hx, hb, hml, hown, hts⟩ (g_weightOf l dC dI cy vw vwc vwl vws vwc1 vwc2 vwc3 vwc4 vwc5 vwcm vwcd vwcr vwcw vwcf3 vwcf4 vwl1 vwl2 vwl3 vwl4 vwl5 vwl6 vwl7 vwl8 vwl9 vwl10 vwly vwlf2 vwlf3 vwlf4 vwlf5 vm r_vwcm r_vwcd ⟨by omega, by omega⟩ p_vwcf3 p_vwlf2 p_vwlf5) (cw_X10_301 hts rfl rfl ⟨Nat.le_of_ble_eq_true rfl, Nat.le_of_ble_eq_true rfl⟩) hP hK [4, 5, 6, 7, 8, 9, 10, 11, 12] rfl rfl rfl rfl hl.1 rfl (Nat.le_of_ble_eq_true rfl) dX10_career_25 ⟨Nat.le_of_ble_eq_true rfl, Nat.le_of_ble_eq_true rfl⟩) hP hS (fun r_6 H locs hp_7 hP hS => ?_)
        refine lv_istore_n (lv' := [(3, .int r_6), (0, .ref vo), (1, .int vm), (2, .int vk)]) hx hb dX10_career_28 rfl hl (by decide) rfl (fun ls hl => ?_)
        refine lv_aload_n hx hb dX10_career_29 rfl (lv_at hl 1 rfl) ?_
        refine gf_X10_76 hx hb hts hown hK hP 0 rfl rfl dX10_career_30 ?_
        refine gf_X10_94 hx hb hts hown hK hP 4 rfl rfl dX10_career_33 ?_
        refine gf_X10_185 hx hb hts hown hK hP 5 rfl rfl dX10_career_36 ?_
        refine lv_iload_n hx hb dX10_career_39 rfl (lv_at hl 0 rfl) ?_
        refine lv_isub hx hb dX10_career_40 ?_
        refine lv_topi (fun z_8 ez_8 => ?_)
        refine lv_istore (lv' := [(4, .int z_8), (3, .int r_6), (0, .ref vo), (1, .int vm), (2, .int vk)]) hx hb dX10_career_41 hl (by decide) rfl (fun ls hl => ?_)
        refine lv_iload hx hb dX10_career_43 (lv_at hl 0 rfl) ?_
        refine lv_if_ge (tgt := 50) hx hb dX10_career_45 (by decide) (fun c_9 => ?_) (fun c_9 => ?_)
        · skip
          have c_9 : (0 : Int32).toInt ≤ z_8.toInt := i_le.mp c_9
          refine lv_iconst (v := 0) hx hb dX10_career_50 (by decide) ?_
          refine lv_istore (lv' := [(5, .int 0), (4, .int z_8), (3, .int r_6), (0, .ref vo), (1, .int vm), (2, .int vk)]) hx hb dX10_career_51 hl (by decide) rfl (fun ls hl => ?_)
          have loop10 : ∀ (n10 : Nat) (x_11 : Int32) (g_12 : Nat → Int32), (0 ≤ x_11.toInt ∧ x_11.toInt ≤ 10) → Rg g_12 10 0 9 → 10 - x_11.toInt < (n10 : Int) → ∀ (H : Heap) (locs : List Loc), va_P (dC, dI) vwCl [(vo, .inr (11, [.ref vt, .ref vx, .ref vb, .ref va, .ref ve, .ref vs, .ref vg, .ref vmr, .ref vkr, .ref vim, .ref vik, .ref vw, .ref vdw, .int volf, .int volh, .int vomd, .int vocd])), (vs, .inr (8, [.ref vs1, .ref vs2, .ref vs3])), (vs1, .inl (cy 0, 10, .inl g_12)), (vs2, .inl (cy 0, 2816, .inl vsf)), (vw, .inr (10, [.ref vwc, .ref vwl, .ref vws])), (vwc, .inr (2, [.ref vwc1, .ref vwc2, .ref vwc3, .ref vwc4, .ref vwc5, .int vwcm, .int vwcd, .int vwcr, .int vwcw])), (vwc3, .inl (cy 0, 10, .inl vwcf3)), (vwc4, .inl (cy 2, 10, .inl vwcf4)), (vwl, .inr (5, [.ref vwl1, .ref vwl2, .ref vwl3, .ref vwl4, .ref vwl5, .ref vwl6, .ref vwl7, .ref vwl8, .ref vwl9, .ref vwl10, .int vwly])), (vwl2, .inl (cy 0, 70, .inl vwlf2)), (vwl3, .inl (cy 0, 49, .inl vwlf3)), (vwl4, .inl (cy 0, 7, .inl vwlf4)), (vwl5, .inl (cy 0, 7, .inl vwlf5)), (vkr, .inl (cy 0, 10, .inl vkrf))] H → va_D A [(vo, .inr (11, [.ref vt, .ref vx, .ref vb, .ref va, .ref ve, .ref vs, .ref vg, .ref vmr, .ref vkr, .ref vim, .ref vik, .ref vw, .ref vdw, .int volf, .int volh, .int vomd, .int vocd])), (vs, .inr (8, [.ref vs1, .ref vs2, .ref vs3])), (vs1, .inl (cy 0, 10, .inl g_12)), (vs2, .inl (cy 0, 2816, .inl vsf)), (vw, .inr (10, [.ref vwc, .ref vwl, .ref vws])), (vwc, .inr (2, [.ref vwc1, .ref vwc2, .ref vwc3, .ref vwc4, .ref vwc5, .int vwcm, .int vwcd, .int vwcr, .int vwcw])), (vwc3, .inl (cy 0, 10, .inl vwcf3)), (vwc4, .inl (cy 2, 10, .inl vwcf4)), (vwl, .inr (5, [.ref vwl1, .ref vwl2, .ref vwl3, .ref vwl4, .ref vwl5, .ref vwl6, .ref vwl7, .ref vwl8, .ref vwl9, .ref vwl10, .int vwly])), (vwl2, .inl (cy 0, 70, .inl vwlf2)), (vwl3, .inl (cy 0, 49, .inl vwlf3)), (vwl4, .inl (cy 0, 7, .inl vwlf4)), (vwl5, .inl (cy 0, 7, .inl vwlf5)), (vkr, .inl (cy 0, 10, .inl vkrf))] → va_S A s.heap H locs → ∀ ls : Array Slot, lv_has ls 6 [(5, .int x_11), (4, .int z_8), (3, .int r_6), (0, .ref vo), (1, .int vm), (2, .int vk)] → W p l e ({ frames := 4, cells := 0, slots := 0, locals := 256 }) s m av9 below meth c H locs 0 0 Q9 (F0 m 53 ls []) := by
            intro n10
            induction n10 with
            | zero =>
              intro x_11 g_12 bx_11 p_g_12 hn10 H locs hP hD hS ls hl
              exfalso; omega
            | succ n10 ih10 =>
              intro x_11 g_12 bx_11 p_g_12 hn10 H locs hP hD hS ls hl
              refine lv_iload hx hb dX10_career_53 (lv_at hl 0 rfl) ?_
              refine lv_bipush (v := 10) hx hb dX10_career_55 (by decide) ?_
              refine lv_icmp_ge (tgt := 97) hx hb dX10_career_57 (by decide) (fun c_13 => ?_) (fun c_13 => ?_)
              · skip
                have c_13 : (10 : Int32).toInt ≤ x_11.toInt := i_le.mp c_13
                refine lv_aload_n hx hb dX10_career_97 rfl (lv_at hl 3 rfl) ?_
                refine gf_X10_47 hx hb hts hown hK hP 0 rfl rfl dX10_career_98 ?_
                refine lv_aload_n hx hb dX10_career_101 rfl (lv_at hl 3 rfl) ?_
                refine gf_X10_76 hx hb hts hown hK hP 0 rfl rfl dX10_career_102 ?_
                refine gf_X10_94 hx hb hts hown hK hP 4 rfl rfl dX10_career_105 ?_
                refine lv_iload hx hb dX10_career_108 (lv_at hl 1 rfl) ?_
                refine jn_v (wr := [(vo, .inr (11, [.ref vt, .ref vx, .ref vb, .ref va, .ref ve, .ref vs, .ref vg, .ref vmr, .ref vkr, .ref vim, .ref vik, .ref vw, .ref vdw, .int volf, .int volh, .int vomd, .int vocd])), (vw, .inr (10, [.ref vwc, .ref vwl, .ref vws])), (vwc4, .inl (cy 2, 10, .inl vwcf4)), (vwl, .inr (5, [.ref vwl1, .ref vwl2, .ref vwl3, .ref vwl4, .ref vwl5, .ref vwl6, .ref vwl7, .ref vwl8, .ref vwl9, .ref vwl10, .int vwly])), (vwl2, .inl (cy 0, 70, .inl vwlf2)), (vwl3, .inl (cy 0, 49, .inl vwlf3)), (vwl4, .inl (cy 0, 7, .inl vwlf4)), (vwl5, .inl (cy 0, 7, .inl vwlf5)), (vkr, .inl (cy 0, 10, .inl vkrf))]) (rV (As := [.ref vwc, .int z_8]) (rest := []) (ci := 8) ⟨hx, hb, hml, hown, hts⟩ (g_findFewest l dC dI cy _ vs vs1 vs2 vs3 g_12 vsf vwc vwc1 vwc2 vwc3 vwc4 vwc5 vwcm vwcd vwcr vwcw vwcf3 z_8 r_vwcm r_vwcd p_g_12 p_vwcf3) (cw_X10_307 hts rfl rfl ⟨Nat.le_of_ble_eq_true rfl, Nat.le_of_ble_eq_true rfl⟩) hP hD hK [1, 2, 3, 5, 6] rfl rfl rfl rfl bl0 e0 rfl hl.1 rfl (Nat.le_of_ble_eq_true rfl) dX10_career_110 ⟨Nat.le_of_ble_eq_true rfl, Nat.le_of_ble_eq_true rfl⟩) hP hD hS hA [1, 2, 3, 5, 6] [0, 4, 7, 8, 9, 10, 11, 12, 13] rfl rfl rfl (by decide) (fun u_16 H locs hp_15 hP hD hS => ?_)
                obtain ⟨vsf_17, rfl⟩ : ∃ z, z = u_16 := ⟨_, rfl⟩
                have hP : va_P (dC, dI) vwCl [(vo, .inr (11, [.ref vt, .ref vx, .ref vb, .ref va, .ref ve, .ref vs, .ref vg, .ref vmr, .ref vkr, .ref vim, .ref vik, .ref vw, .ref vdw, .int volf, .int volh, .int vomd, .int vocd])), (vw, .inr (10, [.ref vwc, .ref vwl, .ref vws])), (vwc4, .inl (cy 2, 10, .inl vwcf4)), (vwl, .inr (5, [.ref vwl1, .ref vwl2, .ref vwl3, .ref vwl4, .ref vwl5, .ref vwl6, .ref vwl7, .ref vwl8, .ref vwl9, .ref vwl10, .int vwly])), (vwl2, .inl (cy 0, 70, .inl vwlf2)), (vwl3, .inl (cy 0, 49, .inl vwlf3)), (vwl4, .inl (cy 0, 7, .inl vwlf4)), (vwl5, .inl (cy 0, 7, .inl vwlf5)), (vkr, .inl (cy 0, 10, .inl vkrf)), (vs, .inr (8, [.ref vs1, .ref vs2, .ref vs3])), (vs1, .inl (cy 0, 10, .inl g_12)), (vs2, .inl (cy 0, 2816, .inl vsf_17)), (vwc, .inr (2, [.ref vwc1, .ref vwc2, .ref vwc3, .ref vwc4, .ref vwc5, .int vwcm, .int vwcd, .int vwcr, .int vwcw])), (vwc3, .inl (cy 0, 10, .inl vwcf3))] H := hP
                have hD : va_D A [(vo, .inr (11, [.ref vt, .ref vx, .ref vb, .ref va, .ref ve, .ref vs, .ref vg, .ref vmr, .ref vkr, .ref vim, .ref vik, .ref vw, .ref vdw, .int volf, .int volh, .int vomd, .int vocd])), (vw, .inr (10, [.ref vwc, .ref vwl, .ref vws])), (vwc4, .inl (cy 2, 10, .inl vwcf4)), (vwl, .inr (5, [.ref vwl1, .ref vwl2, .ref vwl3, .ref vwl4, .ref vwl5, .ref vwl6, .ref vwl7, .ref vwl8, .ref vwl9, .ref vwl10, .int vwly])), (vwl2, .inl (cy 0, 70, .inl vwlf2)), (vwl3, .inl (cy 0, 49, .inl vwlf3)), (vwl4, .inl (cy 0, 7, .inl vwlf4)), (vwl5, .inl (cy 0, 7, .inl vwlf5)), (vkr, .inl (cy 0, 10, .inl vkrf)), (vs, .inr (8, [.ref vs1, .ref vs2, .ref vs3])), (vs1, .inl (cy 0, 10, .inl g_12)), (vs2, .inl (cy 0, 2816, .inl vsf_17)), (vwc, .inr (2, [.ref vwc1, .ref vwc2, .ref vwc3, .ref vwc4, .ref vwc5, .int vwcm, .int vwcd, .int vwcr, .int vwcw])), (vwc3, .inl (cy 0, 10, .inl vwcf3))] := hD
                refine lv_aload_n hx hb dX10_career_113 rfl (lv_at hl 3 rfl) ?_
                refine gf_X10_47 hx hb hts hown hK hP 0 rfl rfl dX10_career_114 ?_
                refine lv_iload hx hb dX10_career_117 (lv_at hl 1 rfl) ?_
                refine lv_iload_n hx hb dX10_career_119 rfl (lv_at hl 5 rfl) ?_
                refine jr_i (rVr (As := [.int z_8, .int vk]) (rest := []) (ci := 8) ⟨hx, hb, hml, hown, hts⟩ (g_highestWithin l dC dI cy vs vs1 vs2 vs3 vsf_17 z_8 vk ) (cw_X10_311 hts rfl rfl ⟨Nat.le_of_ble_eq_true rfl, Nat.le_of_ble_eq_true rfl⟩) hP hK [9, 11] rfl rfl rfl rfl hl.1 rfl (Nat.le_of_ble_eq_true rfl) dX10_career_120 ⟨Nat.le_of_ble_eq_true rfl, Nat.le_of_ble_eq_true rfl⟩) hP hS (fun r_18 H locs hp_19 hP hS => ?_)
                have hp_19 : (0 ≤ (r_18 : Int32).toInt ∧ (r_18 : Int32).toInt ≤ 255) := hp_19
                have q_20 := hp_19
                refine lv_istore (lv' := [(5, .int r_18), (4, .int z_8), (3, .int r_6), (0, .ref vo), (1, .int vm), (2, .int vk)]) hx hb dX10_career_123 hl (by decide) rfl (fun ls hl => ?_)
                refine lv_aload_n hx hb dX10_career_125 rfl (lv_at hl 3 rfl) ?_
                refine gf_X10_62 hx hb hts hown hK hP 0 rfl rfl dX10_career_126 ?_
                refine jn_v (wr := [(vo, .inr (11, [.ref vt, .ref vx, .ref vb, .ref va, .ref ve, .ref vs, .ref vg, .ref vmr, .ref vkr, .ref vim, .ref vik, .ref vw, .ref vdw, .int volf, .int volh, .int vomd, .int vocd])), (vw, .inr (10, [.ref vwc, .ref vwl, .ref vws])), (vwc4, .inl (cy 2, 10, .inl vwcf4)), (vwl, .inr (5, [.ref vwl1, .ref vwl2, .ref vwl3, .ref vwl4, .ref vwl5, .ref vwl6, .ref vwl7, .ref vwl8, .ref vwl9, .ref vwl10, .int vwly])), (vwl2, .inl (cy 0, 70, .inl vwlf2)), (vwl3, .inl (cy 0, 49, .inl vwlf3)), (vwl4, .inl (cy 0, 7, .inl vwlf4)), (vwl5, .inl (cy 0, 7, .inl vwlf5)), (vs, .inr (8, [.ref vs1, .ref vs2, .ref vs3])), (vs1, .inl (cy 0, 10, .inl g_12)), (vs2, .inl (cy 0, 2816, .inl vsf_17)), (vwc, .inr (2, [.ref vwc1, .ref vwc2, .ref vwc3, .ref vwc4, .ref vwc5, .int vwcm, .int vwcd, .int vwcr, .int vwcw])), (vwc3, .inl (cy 0, 10, .inl vwcf3))]) (rS (As := [.ref vkr]) (rest := []) ⟨hx, hb, hml, hown, hts⟩ (g_clearRow l dC dI cy _ vkr vkrf ) (cw_X10_287 hts rfl rfl ⟨Nat.le_of_ble_eq_true rfl, Nat.le_of_ble_eq_true rfl⟩) hP hD hK [8] rfl rfl bl0 e0 rfl hl.1 rfl (Nat.le_of_ble_eq_true rfl) dX10_career_129 ⟨Nat.le_of_ble_eq_true rfl, Nat.le_of_ble_eq_true rfl⟩) hP hD hS hA [8] [0, 1, 2, 3, 4, 5, 6, 7, 9, 10, 11, 12, 13] rfl rfl rfl (by decide) (fun u_23 H locs hp_22 hP hD hS => ?_)
                obtain ⟨vqf_24, rfl⟩ : ∃ z, z = u_23 := ⟨_, rfl⟩
                have hP : va_P (dC, dI) vwCl [(vo, .inr (11, [.ref vt, .ref vx, .ref vb, .ref va, .ref ve, .ref vs, .ref vg, .ref vmr, .ref vkr, .ref vim, .ref vik, .ref vw, .ref vdw, .int volf, .int volh, .int vomd, .int vocd])), (vw, .inr (10, [.ref vwc, .ref vwl, .ref vws])), (vwc4, .inl (cy 2, 10, .inl vwcf4)), (vwl, .inr (5, [.ref vwl1, .ref vwl2, .ref vwl3, .ref vwl4, .ref vwl5, .ref vwl6, .ref vwl7, .ref vwl8, .ref vwl9, .ref vwl10, .int vwly])), (vwl2, .inl (cy 0, 70, .inl vwlf2)), (vwl3, .inl (cy 0, 49, .inl vwlf3)), (vwl4, .inl (cy 0, 7, .inl vwlf4)), (vwl5, .inl (cy 0, 7, .inl vwlf5)), (vs, .inr (8, [.ref vs1, .ref vs2, .ref vs3])), (vs1, .inl (cy 0, 10, .inl g_12)), (vs2, .inl (cy 0, 2816, .inl vsf_17)), (vwc, .inr (2, [.ref vwc1, .ref vwc2, .ref vwc3, .ref vwc4, .ref vwc5, .int vwcm, .int vwcd, .int vwcr, .int vwcw])), (vwc3, .inl (cy 0, 10, .inl vwcf3)), (vkr, .inl (cy 0, 10, .inl vqf_24))] H := hP
                have hD : va_D A [(vo, .inr (11, [.ref vt, .ref vx, .ref vb, .ref va, .ref ve, .ref vs, .ref vg, .ref vmr, .ref vkr, .ref vim, .ref vik, .ref vw, .ref vdw, .int volf, .int volh, .int vomd, .int vocd])), (vw, .inr (10, [.ref vwc, .ref vwl, .ref vws])), (vwc4, .inl (cy 2, 10, .inl vwcf4)), (vwl, .inr (5, [.ref vwl1, .ref vwl2, .ref vwl3, .ref vwl4, .ref vwl5, .ref vwl6, .ref vwl7, .ref vwl8, .ref vwl9, .ref vwl10, .int vwly])), (vwl2, .inl (cy 0, 70, .inl vwlf2)), (vwl3, .inl (cy 0, 49, .inl vwlf3)), (vwl4, .inl (cy 0, 7, .inl vwlf4)), (vwl5, .inl (cy 0, 7, .inl vwlf5)), (vs, .inr (8, [.ref vs1, .ref vs2, .ref vs3])), (vs1, .inl (cy 0, 10, .inl g_12)), (vs2, .inl (cy 0, 2816, .inl vsf_17)), (vwc, .inr (2, [.ref vwc1, .ref vwc2, .ref vwc3, .ref vwc4, .ref vwc5, .int vwcm, .int vwcd, .int vwcr, .int vwcw])), (vwc3, .inl (cy 0, 10, .inl vwcf3)), (vkr, .inl (cy 0, 10, .inl vqf_24))] := hD
                refine lv_aload_n hx hb dX10_career_132 rfl (lv_at hl 3 rfl) ?_
                refine gf_X10_47 hx hb hts hown hK hP 0 rfl rfl dX10_career_133 ?_
                refine lv_aload_n hx hb dX10_career_136 rfl (lv_at hl 3 rfl) ?_
                refine gf_X10_76 hx hb hts hown hK hP 0 rfl rfl dX10_career_137 ?_
                refine gf_X10_94 hx hb hts hown hK hP 1 rfl rfl dX10_career_140 ?_
                refine lv_iload hx hb dX10_career_143 (lv_at hl 0 rfl) ?_
                refine lv_aload_n hx hb dX10_career_145 rfl (lv_at hl 3 rfl) ?_
                refine gf_X10_62 hx hb hts hown hK hP 0 rfl rfl dX10_career_146 ?_
                refine jn_v (wr := [(vo, .inr (11, [.ref vt, .ref vx, .ref vb, .ref va, .ref ve, .ref vs, .ref vg, .ref vmr, .ref vkr, .ref vim, .ref vik, .ref vw, .ref vdw, .int volf, .int volh, .int vomd, .int vocd])), (vw, .inr (10, [.ref vwc, .ref vwl, .ref vws])), (vwc4, .inl (cy 2, 10, .inl vwcf4)), (vwl, .inr (5, [.ref vwl1, .ref vwl2, .ref vwl3, .ref vwl4, .ref vwl5, .ref vwl6, .ref vwl7, .ref vwl8, .ref vwl9, .ref vwl10, .int vwly])), (vwl2, .inl (cy 0, 70, .inl vwlf2)), (vwl3, .inl (cy 0, 49, .inl vwlf3)), (vwl4, .inl (cy 0, 7, .inl vwlf4)), (vwl5, .inl (cy 0, 7, .inl vwlf5))]) (rV (As := [.ref vwc, .int r_18, .ref vkr]) (rest := []) (ci := 8) ⟨hx, hb, hml, hown, hts⟩ (g_addFirst l dC dI cy _ vs vs1 vs2 vs3 g_12 vsf_17 vwc vwc1 vwc2 vwc3 vwc4 vwc5 vwcm vwcd vwcr vwcw vwcf3 vkr vqf_24 r_18 r_vwcm r_vwcd ⟨by omega, by omega⟩ p_g_12 p_vwcf3) (cw_X10_314 hts rfl rfl ⟨Nat.le_of_ble_eq_true rfl, Nat.le_of_ble_eq_true rfl⟩) hP hD hK [8, 9, 10, 11, 12, 13] rfl rfl rfl rfl bl0 e0 rfl hl.1 rfl (Nat.le_of_ble_eq_true rfl) dX10_career_149 ⟨Nat.le_of_ble_eq_true rfl, Nat.le_of_ble_eq_true rfl⟩) hP hD hS hA [8, 9, 10, 11, 12, 13] [0, 1, 2, 3, 4, 5, 6, 7] rfl rfl rfl (by decide) (fun u_27 H locs hp_26 hP hD hS => ?_)
                obtain ⟨vqf_28, rfl⟩ : ∃ z, z = u_27 := ⟨_, rfl⟩
                have hP : va_P (dC, dI) vwCl [(vo, .inr (11, [.ref vt, .ref vx, .ref vb, .ref va, .ref ve, .ref vs, .ref vg, .ref vmr, .ref vkr, .ref vim, .ref vik, .ref vw, .ref vdw, .int volf, .int volh, .int vomd, .int vocd])), (vw, .inr (10, [.ref vwc, .ref vwl, .ref vws])), (vwc4, .inl (cy 2, 10, .inl vwcf4)), (vwl, .inr (5, [.ref vwl1, .ref vwl2, .ref vwl3, .ref vwl4, .ref vwl5, .ref vwl6, .ref vwl7, .ref vwl8, .ref vwl9, .ref vwl10, .int vwly])), (vwl2, .inl (cy 0, 70, .inl vwlf2)), (vwl3, .inl (cy 0, 49, .inl vwlf3)), (vwl4, .inl (cy 0, 7, .inl vwlf4)), (vwl5, .inl (cy 0, 7, .inl vwlf5)), (vs, .inr (8, [.ref vs1, .ref vs2, .ref vs3])), (vs1, .inl (cy 0, 10, .inl g_12)), (vs2, .inl (cy 0, 2816, .inl vsf_17)), (vwc, .inr (2, [.ref vwc1, .ref vwc2, .ref vwc3, .ref vwc4, .ref vwc5, .int vwcm, .int vwcd, .int vwcr, .int vwcw])), (vwc3, .inl (cy 0, 10, .inl vwcf3)), (vkr, .inl (cy 0, 10, .inl vqf_28))] H := hP
                have hD : va_D A [(vo, .inr (11, [.ref vt, .ref vx, .ref vb, .ref va, .ref ve, .ref vs, .ref vg, .ref vmr, .ref vkr, .ref vim, .ref vik, .ref vw, .ref vdw, .int volf, .int volh, .int vomd, .int vocd])), (vw, .inr (10, [.ref vwc, .ref vwl, .ref vws])), (vwc4, .inl (cy 2, 10, .inl vwcf4)), (vwl, .inr (5, [.ref vwl1, .ref vwl2, .ref vwl3, .ref vwl4, .ref vwl5, .ref vwl6, .ref vwl7, .ref vwl8, .ref vwl9, .ref vwl10, .int vwly])), (vwl2, .inl (cy 0, 70, .inl vwlf2)), (vwl3, .inl (cy 0, 49, .inl vwlf3)), (vwl4, .inl (cy 0, 7, .inl vwlf4)), (vwl5, .inl (cy 0, 7, .inl vwlf5)), (vs, .inr (8, [.ref vs1, .ref vs2, .ref vs3])), (vs1, .inl (cy 0, 10, .inl g_12)), (vs2, .inl (cy 0, 2816, .inl vsf_17)), (vwc, .inr (2, [.ref vwc1, .ref vwc2, .ref vwc3, .ref vwc4, .ref vwc5, .int vwcm, .int vwcd, .int vwcr, .int vwcw])), (vwc3, .inl (cy 0, 10, .inl vwcf3)), (vkr, .inl (cy 0, 10, .inl vqf_28))] := hD
                refine lv_aload_n hx hb dX10_career_152 rfl (lv_at hl 3 rfl) ?_
                refine lv_aload_n hx hb dX10_career_153 rfl (lv_at hl 3 rfl) ?_
                refine gf_X10_76 hx hb hts hown hK hP 0 rfl rfl dX10_career_154 ?_
                refine gf_X10_94 hx hb hts hown hK hP 1 rfl rfl dX10_career_157 ?_
                refine gf_X10_295 hx hb hts hown hK hP 11 rfl rfl dX10_career_160 ?_
                refine pf_X10_318 hx hb hts hown hK hP hD hS 0 rfl rfl rfl (Nat.le_of_ble_eq_true rfl) dX10_career_163 (fun H locs hP hD hS => ?_)
                have hP : va_P (dC, dI) vwCl [(vo, .inr (11, [.ref vt, .ref vx, .ref vb, .ref va, .ref ve, .ref vs, .ref vg, .ref vmr, .ref vkr, .ref vim, .ref vik, .ref vw, .ref vdw, .int volf, .int volh, .int vomd, .int vwcd])), (vw, .inr (10, [.ref vwc, .ref vwl, .ref vws])), (vwc4, .inl (cy 2, 10, .inl vwcf4)), (vwl, .inr (5, [.ref vwl1, .ref vwl2, .ref vwl3, .ref vwl4, .ref vwl5, .ref vwl6, .ref vwl7, .ref vwl8, .ref vwl9, .ref vwl10, .int vwly])), (vwl2, .inl (cy 0, 70, .inl vwlf2)), (vwl3, .inl (cy 0, 49, .inl vwlf3)), (vwl4, .inl (cy 0, 7, .inl vwlf4)), (vwl5, .inl (cy 0, 7, .inl vwlf5)), (vs, .inr (8, [.ref vs1, .ref vs2, .ref vs3])), (vs1, .inl (cy 0, 10, .inl g_12)), (vs2, .inl (cy 0, 2816, .inl vsf_17)), (vwc, .inr (2, [.ref vwc1, .ref vwc2, .ref vwc3, .ref vwc4, .ref vwc5, .int vwcm, .int vwcd, .int vwcr, .int vwcw])), (vwc3, .inl (cy 0, 10, .inl vwcf3)), (vkr, .inl (cy 0, 10, .inl vqf_28))] H := hP
                have hD : va_D A [(vo, .inr (11, [.ref vt, .ref vx, .ref vb, .ref va, .ref ve, .ref vs, .ref vg, .ref vmr, .ref vkr, .ref vim, .ref vik, .ref vw, .ref vdw, .int volf, .int volh, .int vomd, .int vwcd])), (vw, .inr (10, [.ref vwc, .ref vwl, .ref vws])), (vwc4, .inl (cy 2, 10, .inl vwcf4)), (vwl, .inr (5, [.ref vwl1, .ref vwl2, .ref vwl3, .ref vwl4, .ref vwl5, .ref vwl6, .ref vwl7, .ref vwl8, .ref vwl9, .ref vwl10, .int vwly])), (vwl2, .inl (cy 0, 70, .inl vwlf2)), (vwl3, .inl (cy 0, 49, .inl vwlf3)), (vwl4, .inl (cy 0, 7, .inl vwlf4)), (vwl5, .inl (cy 0, 7, .inl vwlf5)), (vs, .inr (8, [.ref vs1, .ref vs2, .ref vs3])), (vs1, .inl (cy 0, 10, .inl g_12)), (vs2, .inl (cy 0, 2816, .inl vsf_17)), (vwc, .inr (2, [.ref vwc1, .ref vwc2, .ref vwc3, .ref vwc4, .ref vwc5, .int vwcm, .int vwcd, .int vwcr, .int vwcw])), (vwc3, .inl (cy 0, 10, .inl vwcf3)), (vkr, .inl (cy 0, 10, .inl vqf_28))] := hD
                refine lv_iload_n hx hb dX10_career_166 rfl (lv_at hl 2 rfl) ?_
                refine lv_iload hx hb dX10_career_167 (lv_at hl 0 rfl) ?_
                refine lv_iadd hx hb dX10_career_169 ?_
                refine lv_topi (fun z_29 ez_29 => ?_)
                rw [hQ9]
                exact re_i (g_12, vsf_17, vqf_28, vwcd) hx hb hr hlocks ⟨(show Rg g_12 10 0 9 from p_g_12), (show 0 ≤ (vwcd : Int32).toInt ∧ (vwcd : Int32).toInt ≤ 10 from ⟨by omega, by omega⟩)⟩ (hP.sub [0, 8, 9, 10, 1, 11, 12, 2, 3, 4, 5, 6, 7, 13] rfl) (hD.sub [0, 8, 9, 10, 1, 11, 12, 2, 3, 4, 5, 6, 7, 13] rfl rfl) hS dX10_career_170
              · skip
                have c_13 : ¬ ((10 : Int32).toInt ≤ x_11.toInt) := fun h9 => c_13 (i_le.mpr h9)
                refine lv_aload_n hx hb dX10_career_60 rfl (lv_at hl 3 rfl) ?_
                refine gf_X10_47 hx hb hts hown hK hP 0 rfl rfl dX10_career_61 ?_
                refine gf_X10_304 hx hb hts hown hK hP 1 rfl rfl dX10_career_64 ?_
                refine lv_iload hx hb dX10_career_67 (lv_at hl 0 rfl) ?_
                refine lv_bipush (v := 9) hx hb dX10_career_69 (by decide) ?_
                refine lv_aload_n hx hb dX10_career_71 rfl (lv_at hl 3 rfl) ?_
                refine gf_X10_76 hx hb hts hown hK hP 0 rfl rfl dX10_career_72 ?_
                refine gf_X10_98 hx hb hts hown hK hP 4 rfl rfl dX10_career_75 ?_
                refine gf_X10_165 hx hb hts hown hK hP 8 rfl rfl dX10_career_78 ?_
                refine lv_iload_n hx hb dX10_career_81 rfl (lv_at hl 4 rfl) ?_
                refine lv_bipush (v := 10) hx hb dX10_career_82 (by decide) ?_
                refine lv_imul hx hb dX10_career_84 ?_
                refine lv_topi (fun z_30 ez_30 => ?_)
                have bz_30 : z_30.toInt = vm.toInt * 10 := i_mulc k_10 ez_30 (by omega) (by omega)
                refine lv_iload hx hb dX10_career_85 (lv_at hl 0 rfl) ?_
                refine lv_iadd hx hb dX10_career_87 ?_
                refine lv_topi (fun z_31 ez_31 => ?_)
                have bz_31 : z_31.toInt = z_30.toInt + x_11.toInt := i_add ez_31 (by omega) (by omega)
                have hin_32 : vp_in z_31 70 := vp_in_iff.mpr ⟨by omega, by omega⟩
                refine va_iald hx hb hK hP 9 0 rfl rfl hin_32 dX10_career_88 ?_
                refine lv_topi (fun z_33 ez_33 => ?_)
                have bz_33 := p_vwlf2.at hin_32 ez_33
                refine lv_isub hx hb dX10_career_89 ?_
                refine lv_topi (fun z_34 ez_34 => ?_)
                have k_9 : (9 : Int32).toInt = 9 := by decide
                have bz_34 : z_34.toInt = (9 : Int32).toInt - z_33.toInt := i_sub ez_34 (by omega) (by omega)
                have hin_35 : vp_in x_11 10 := vp_in_iff.mpr ⟨by omega, by omega⟩
                refine va_iast hx hb hK hP hD hS 2 0 rfl rfl hin_35 dX10_career_90 (fun H locs hP hD hS => ?_)
                obtain ⟨f_36, ef_36⟩ : ∃ z : Nat → Int32, z = upd g_12 (Int32.toNatClampNeg x_11) z_34 := ⟨_, rfl⟩
                have hP : va_P (dC, dI) vwCl [(vo, .inr (11, [.ref vt, .ref vx, .ref vb, .ref va, .ref ve, .ref vs, .ref vg, .ref vmr, .ref vkr, .ref vim, .ref vik, .ref vw, .ref vdw, .int volf, .int volh, .int vomd, .int vocd])), (vs, .inr (8, [.ref vs1, .ref vs2, .ref vs3])), (vs1, .inl (cy 0, 10, .inl f_36)), (vs2, .inl (cy 0, 2816, .inl vsf)), (vw, .inr (10, [.ref vwc, .ref vwl, .ref vws])), (vwc, .inr (2, [.ref vwc1, .ref vwc2, .ref vwc3, .ref vwc4, .ref vwc5, .int vwcm, .int vwcd, .int vwcr, .int vwcw])), (vwc3, .inl (cy 0, 10, .inl vwcf3)), (vwc4, .inl (cy 2, 10, .inl vwcf4)), (vwl, .inr (5, [.ref vwl1, .ref vwl2, .ref vwl3, .ref vwl4, .ref vwl5, .ref vwl6, .ref vwl7, .ref vwl8, .ref vwl9, .ref vwl10, .int vwly])), (vwl2, .inl (cy 0, 70, .inl vwlf2)), (vwl3, .inl (cy 0, 49, .inl vwlf3)), (vwl4, .inl (cy 0, 7, .inl vwlf4)), (vwl5, .inl (cy 0, 7, .inl vwlf5)), (vkr, .inl (cy 0, 10, .inl vkrf))] H := by rw [ef_36]; exact hP
                have hD : va_D A [(vo, .inr (11, [.ref vt, .ref vx, .ref vb, .ref va, .ref ve, .ref vs, .ref vg, .ref vmr, .ref vkr, .ref vim, .ref vik, .ref vw, .ref vdw, .int volf, .int volh, .int vomd, .int vocd])), (vs, .inr (8, [.ref vs1, .ref vs2, .ref vs3])), (vs1, .inl (cy 0, 10, .inl f_36)), (vs2, .inl (cy 0, 2816, .inl vsf)), (vw, .inr (10, [.ref vwc, .ref vwl, .ref vws])), (vwc, .inr (2, [.ref vwc1, .ref vwc2, .ref vwc3, .ref vwc4, .ref vwc5, .int vwcm, .int vwcd, .int vwcr, .int vwcw])), (vwc3, .inl (cy 0, 10, .inl vwcf3)), (vwc4, .inl (cy 2, 10, .inl vwcf4)), (vwl, .inr (5, [.ref vwl1, .ref vwl2, .ref vwl3, .ref vwl4, .ref vwl5, .ref vwl6, .ref vwl7, .ref vwl8, .ref vwl9, .ref vwl10, .int vwly])), (vwl2, .inl (cy 0, 70, .inl vwlf2)), (vwl3, .inl (cy 0, 49, .inl vwlf3)), (vwl4, .inl (cy 0, 7, .inl vwlf4)), (vwl5, .inl (cy 0, 7, .inl vwlf5)), (vkr, .inl (cy 0, 10, .inl vkrf))] := by rw [ef_36]; exact hD
                have p_f_36 : Rg f_36 10 0 9 := by rw [ef_36]; exact p_g_12.upd ⟨by omega, by omega⟩
                obtain ⟨z_37, ez_37⟩ : ∃ z : Int32, z = x_11 + 1 := ⟨_, rfl⟩
                have k_1 : (1 : Int32).toInt = 1 := by decide
                have bz_37 : z_37.toInt = x_11.toInt + (1 : Int32).toInt := i_add ez_37 (by omega) (by omega)
                refine lv_iinc (v := z_37) (lv' := [(5, .int z_37), (4, .int z_8), (3, .int r_6), (0, .ref vo), (1, .int vm), (2, .int vk)]) hx hb dX10_career_91 hl (k := 0) rfl ez_37.symm (by decide) rfl (fun ls hl => ?_)
                refine lv_goto (tgt := 53) hx hb dX10_career_94 (by decide) ?_
                exact ih10 z_37 f_36 ⟨by omega, by omega⟩ p_f_36 (by omega) _ _ (hP.sub [0, 1, 2, 3, 4, 5, 6, 7, 8, 9, 10, 11, 12, 13] rfl) (hD.sub [0, 1, 2, 3, 4, 5, 6, 7, 8, 9, 10, 11, 12, 13] rfl rfl) hS ls (lv_sub hl [0, 1, 2, 3, 4, 5] rfl)
          exact loop10 ((10 - (0 : Int32).toInt).toNat + 1) 0 vsm ⟨by omega, by omega⟩ p_vsm (by omega) _ _ hP hD hS ls (lv_sub hl [0, 1, 2, 3, 4, 5] rfl)
        · skip
          have c_9 : ¬ ((0 : Int32).toInt ≤ z_8.toInt) := fun h9 => c_9 (i_le.mpr h9)
          refine lv_iconst (v := (-1)) hx hb dX10_career_48 (by decide) ?_
          have k_m1 : ((-1) : Int32).toInt = (-1) := by decide
          rw [hQ9]
          exact re_i (vsm, vsf, vkrf, vocd) hx hb hr hlocks ⟨(show Rg vsm 10 0 9 from p_vsm), (show 0 ≤ (vocd : Int32).toInt ∧ (vocd : Int32).toInt ≤ 10 from ⟨by omega, by omega⟩)⟩ (hP.sub [0, 1, 2, 3, 4, 5, 6, 7, 8, 9, 10, 11, 12, 13] rfl) (hD.sub [0, 1, 2, 3, 4, 5, 6, 7, 8, 9, 10, 11, 12, 13] rfl rfl) hS dX10_career_49
      · skip
        have c_5 : ¬ (vk.toInt ≤ (10 : Int32).toInt) := fun h9 => c_5 (i_le.mpr h9)
        refine lv_iconst (v := (-1)) hx hb dX10_career_18 (by decide) ?_
        have k_m1 : ((-1) : Int32).toInt = (-1) := by decide
        rw [hQ9]
        exact re_i (vsm, vsf, vkrf, vocd) hx hb hr hlocks ⟨(show Rg vsm 10 0 9 from p_vsm), (show 0 ≤ (vocd : Int32).toInt ∧ (vocd : Int32).toInt ≤ 10 from ⟨by omega, by omega⟩)⟩ (hP.sub [0, 1, 2, 3, 4, 5, 6, 7, 8, 9, 10, 11, 12, 13] rfl) (hD.sub [0, 1, 2, 3, 4, 5, 6, 7, 8, 9, 10, 11, 12, 13] rfl rfl) hS dX10_career_19
