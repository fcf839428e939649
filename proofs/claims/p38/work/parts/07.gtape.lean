abbrev cX8_put : ByteArray := prog_10_method_2_code
def yX8_put : MethodName := ⟨RX8, "put", "(I)V"⟩
theorem t536 : Cond.code yX8_put cX8_put 3 none ∈ GW := gw_mem 650 (by decide +kernel) (by decide +kernel)
theorem dX8_put_0 : decode cX8_put 0 = .ok (.bipush 24, 2) := by decide +kernel
theorem dX8_put_2 : decode cX8_put 2 = .ok (.istore_n 2, 1) := by decide +kernel
theorem dX8_put_3 : decode cX8_put 3 = .ok (.iload_n 2, 1) := by decide +kernel
theorem dX8_put_4 : decode cX8_put 4 = .ok (.ifCond .lt 45, 3) := by decide +kernel
theorem dX8_put_49 : decode cX8_put 49 = .ok (.return_, 1) := by decide +kernel
theorem dX8_put_7 : decode cX8_put 7 = .ok (.aload_n 0, 1) := by decide +kernel
theorem dX8_put_8 : decode cX8_put 8 = .ok (.getfield 33, 3) := by decide +kernel
theorem dX8_put_11 : decode cX8_put 11 = .ok (.sipush 940, 3) := by decide +kernel
theorem dX8_put_14 : decode cX8_put 14 = .ok (.if_icmp .ge 35, 3) := by decide +kernel
theorem dX8_put_17 : decode cX8_put 17 = .ok (.aload_n 0, 1) := by decide +kernel
theorem dX8_put_18 : decode cX8_put 18 = .ok (.getfield 9, 3) := by decide +kernel
theorem dX8_put_21 : decode cX8_put 21 = .ok (.aload_n 0, 1) := by decide +kernel
theorem dX8_put_22 : decode cX8_put 22 = .ok (.getfield 33, 3) := by decide +kernel
theorem dX8_put_25 : decode cX8_put 25 = .ok (.iload_n 1, 1) := by decide +kernel
theorem dX8_put_26 : decode cX8_put 26 = .ok (.iload_n 2, 1) := by decide +kernel
theorem dX8_put_27 : decode cX8_put 27 = .ok (.iushr, 1) := by decide +kernel
theorem dX8_put_28 : decode cX8_put 28 = .ok (.sipush 255, 3) := by decide +kernel
theorem dX8_put_31 : decode cX8_put 31 = .ok (.iand, 1) := by decide +kernel
theorem dX8_put_32 : decode cX8_put 32 = .ok (.iastore, 1) := by decide +kernel
theorem dX8_put_33 : decode cX8_put 33 = .ok (.aload_n 0, 1) := by decide +kernel
theorem dX8_put_34 : decode cX8_put 34 = .ok (.dup, 1) := by decide +kernel
theorem dX8_put_35 : decode cX8_put 35 = .ok (.getfield 33, 3) := by decide +kernel
theorem dX8_put_38 : decode cX8_put 38 = .ok (.iconst 1, 1) := by decide +kernel
theorem dX8_put_39 : decode cX8_put 39 = .ok (.iadd, 1) := by decide +kernel
theorem dX8_put_40 : decode cX8_put 40 = .ok (.putfield 33, 3) := by decide +kernel
theorem pf_X8_33 {p : Program} {l : Launch} {e : Env} {R : Room} {s : State} {m : MethodId} {args : Array Value} {below : List Frame} {meth : Method} {c : Code} {H : Heap} {locs : List Loc} {cells slots : Nat} {Q : State → Prop} {cc : ByteArray} {pc : Nat} {ls : Array Slot} {rest : List Value} {D : va_G} {A : Nat → Prop} {a : Nat} {tys : List (ClassId × FieldType)} {ws : va_W} {H0 : Heap} (hx : p.tables.exec = Jvm.exec) (hb : c.code = cc) (hts : ∀ w ∈ GW, w.before args s = true) (hown : s.vm.findClass RX8 = some m.cls) (hK : va_K D vwCl tys s) (hP : va_P D vwCl ws H) (hD : va_D A ws) (hS0 : va_S A H0 H locs) (q0 : Nat) {fs : List Value} (he : ws[q0]? = some (a, .inr (9, fs))) {v : Value} (hn : narrow (tyX8 2) v = v) (hfit : fits (tyX8 2) v = true) (hl : 2 < fs.length) (hdg : decode cc pc = .ok (.putfield 33, 3)) (kk : ∀ (H1 : Heap) (locs1 : List Loc), va_P D vwCl (ws.set q0 (a, .inr (9, fs.set 2 v))) H1 → va_D A (ws.set q0 (a, .inr (9, fs.set 2 v))) → va_S A H0 H1 locs1 → W p l e R s m args below meth c H1 locs1 cells slots Q (F0 m (pc + 3) ls rest)) : W p l e R s m args below meth c H locs cells slots Q (F0 m pc ls (v :: .ref a :: rest)) := va_put (C := RX8) (T := TX8) (N := 12) (ci := 9) hx hb hts inX8 tyX8 tkX8 nmX8 hown hK hP hD hS0 q0 he rfl 2 (by decide) (hts _ t97) (fun _ h => h) rfl (tkX8 2 (by decide)) hn hfit hl hdg kk
theorem dX8_put_43 : decode cX8_put 43 = .ok (.iinc 2 (-8), 3) := by decide +kernel
theorem dX8_put_46 : decode cX8_put 46 = .ok (.goto (-43), 3) := by decide +kernel
set_option maxHeartbeats 4000000 in
set_option maxRecDepth 100000 in
theorem g_isOfRun (l : Launch) (dC : Nat → ClassId) (dI : Nat → Nat → Nat) (cy : Nat → ClassId) (vx : Int32)  : Met l yX8_isOfRun (wl yX8_isOfRun cX8_isOfRun 1 (some .boolean)) ({ frames := 0, cells := 0, slots := 0, locals := 0 }) (Pr (dC, dI) vwCl cy [] [.int vx]) (Ri (fun r => ((r = 0) ∨ (r = 1)))) 0 0 (fun _ => False) := by
  refine mr RX8 rfl (by decide +kernel) (Nat.le_of_ble_eq_true rfl) ?_
  intro p e s m below meth c hx hb hr hlocks av9 hav hts hown hml hK hP hS Q9 hQ9 ls hl
  have hl : lv_has ls 1 [(0, .int vx)] := hl
  refine lv_iload_n hx hb dX8_isOfRun_0 rfl (lv_at hl 0 rfl) ?_
  refine lv_bipush (v := 97) hx hb dX8_isOfRun_1 (by decide) ?_
  have k_97 : (97 : Int32).toInt = 97 := by decide
  refine lv_icmp_lt (tgt := 12) hx hb dX8_isOfRun_3 (by decide) (fun c_1 => ?_) (fun c_1 => ?_)
  · skip
    have c_1 : vx.toInt < (97 : Int32).toInt := i_lt.mp c_1
    refine lv_iload_n hx hb dX8_isOfRun_12 rfl (lv_at hl 0 rfl) ?_
    refine lv_bipush (v := 48) hx hb dX8_isOfRun_13 (by decide) ?_
    have k_48 : (48 : Int32).toInt = 48 := by decide
    refine lv_icmp_lt (tgt := 28) hx hb dX8_isOfRun_15 (by decide) (fun c_2 => ?_) (fun c_2 => ?_)
    · skip
      have c_2 : vx.toInt < (48 : Int32).toInt := i_lt.mp c_2
      refine lv_iconst (v := 0) hx hb dX8_isOfRun_28 (by decide) ?_
      have k_0 : (0 : Int32).toInt = 0 := by decide
      rw [hQ9]
      exact rr_z hx hb hr hlocks (Or.inl rfl) (show ((0 : Int32) = 0) ∨ ((0 : Int32) = 1) from (Or.inl rfl)) hS dX8_isOfRun_29
    · skip
      have c_2 : ¬ (vx.toInt < (48 : Int32).toInt) := fun h9 => c_2 (i_lt.mpr h9)
      refine lv_iload_n hx hb dX8_isOfRun_18 rfl (lv_at hl 0 rfl) ?_
      refine lv_bipush (v := 57) hx hb dX8_isOfRun_19 (by decide) ?_
      have k_57 : (57 : Int32).toInt = 57 := by decide
      refine lv_icmp_gt (tgt := 28) hx hb dX8_isOfRun_21 (by decide) (fun c_3 => ?_) (fun c_3 => ?_)
      · skip
        have c_3 : (57 : Int32).toInt < vx.toInt := i_lt.mp c_3
        refine lv_iconst (v := 0) hx hb dX8_isOfRun_28 (by decide) ?_
        have k_0 : (0 : Int32).toInt = 0 := by decide
        rw [hQ9]
        exact rr_z hx hb hr hlocks (Or.inl rfl) (show ((0 : Int32) = 0) ∨ ((0 : Int32) = 1) from (Or.inl rfl)) hS dX8_isOfRun_29
      · skip
        have c_3 : ¬ ((57 : Int32).toInt < vx.toInt) := fun h9 => c_3 (i_lt.mpr h9)
        refine lv_iconst (v := 1) hx hb dX8_isOfRun_24 (by decide) ?_
        refine lv_goto (tgt := 29) hx hb dX8_isOfRun_25 (by decide) ?_
        have k_1 : (1 : Int32).toInt = 1 := by decide
        rw [hQ9]
        exact rr_z hx hb hr hlocks (Or.inr rfl) (show ((1 : Int32) = 0) ∨ ((1 : Int32) = 1) from (Or.inr (rfl))) hS dX8_isOfRun_29
  · skip
    have c_1 : ¬ (vx.toInt < (97 : Int32).toInt) := fun h9 => c_1 (i_lt.mpr h9)
    refine lv_iload_n hx hb dX8_isOfRun_6 rfl (lv_at hl 0 rfl) ?_
    refine lv_bipush (v := 122) hx hb dX8_isOfRun_7 (by decide) ?_
    have k_122 : (122 : Int32).toInt = 122 := by decide
    refine lv_icmp_le (tgt := 24) hx hb dX8_isOfRun_9 (by decide) (fun c_4 => ?_) (fun c_4 => ?_)
    · skip
      have c_4 : vx.toInt ≤ (122 : Int32).toInt := i_le.mp c_4
      refine lv_iconst (v := 1) hx hb dX8_isOfRun_24 (by decide) ?_
      refine lv_goto (tgt := 29) hx hb dX8_isOfRun_25 (by decide) ?_
      have k_1 : (1 : Int32).toInt = 1 := by decide
      rw [hQ9]
      exact rr_z hx hb hr hlocks (Or.inr rfl) (show ((1 : Int32) = 0) ∨ ((1 : Int32) = 1) from (Or.inr (rfl))) hS dX8_isOfRun_29
    · skip
      have c_4 : ¬ (vx.toInt ≤ (122 : Int32).toInt) := fun h9 => c_4 (i_le.mpr h9)
      refine lv_iload_n hx hb dX8_isOfRun_12 rfl (lv_at hl 0 rfl) ?_
      refine lv_bipush (v := 48) hx hb dX8_isOfRun_13 (by decide) ?_
      have k_48 : (48 : Int32).toInt = 48 := by decide
      refine lv_icmp_lt (tgt := 28) hx hb dX8_isOfRun_15 (by decide) (fun c9 => absurd (i_lt.mp c9) (by omega)) (fun _ => ?_)
      refine lv_iload_n hx hb dX8_isOfRun_18 rfl (lv_at hl 0 rfl) ?_
      refine lv_bipush (v := 57) hx hb dX8_isOfRun_19 (by decide) ?_
      have k_57 : (57 : Int32).toInt = 57 := by decide
      refine lv_icmp_gt (tgt := 28) hx hb dX8_isOfRun_21 (by decide) (fun _ => ?_) (fun c9 => (c9 (i_lt.mpr (by omega))).elim)
      refine lv_iconst (v := 0) hx hb dX8_isOfRun_28 (by decide) ?_
      have k_0 : (0 : Int32).toInt = 0 := by decide
      rw [hQ9]
      exact rr_z hx hb hr hlocks (Or.inl rfl) (show ((0 : Int32) = 0) ∨ ((0 : Int32) = 1) from (Or.inl rfl)) hS dX8_isOfRun_29
set_option maxHeartbeats 4000000 in
set_option maxRecDepth 100000 in
theorem g_isSign (l : Launch) (dC : Nat → ClassId) (dI : Nat → Nat → Nat) (cy : Nat → ClassId) (vx : Int32)  : Met l yX8_isSign (wl yX8_isSign cX8_isSign 1 (some .boolean)) ({ frames := 0, cells := 0, slots := 0, locals := 0 }) (Pr (dC, dI) vwCl cy [] [.int vx]) (Ri (fun r => ((r = 0) ∨ (r = 1)))) 0 0 (fun _ => False) := by
  refine mr RX8 rfl (by decide +kernel) (Nat.le_of_ble_eq_true rfl) ?_
  intro p e s m below meth c hx hb hr hlocks av9 hav hts hown hml hK hP hS Q9 hQ9 ls hl
  have hl : lv_has ls 1 [(0, .int vx)] := hl
  refine lv_iload_n hx hb dX8_isSign_0 rfl (lv_at hl 0 rfl) ?_
  refine lv_bipush (v := 59) hx hb dX8_isSign_1 (by decide) ?_
  have k_59 : (59 : Int32).toInt = 59 := by decide
  refine lv_icmp_eq (tgt := 36) hx hb dX8_isSign_3 (by decide) (fun c_1 => ?_) (fun c_1 => ?_)
  · skip
    have c_1 : vx.toInt = (59 : Int32).toInt := i_eq.mp c_1
    refine lv_iconst (v := 1) hx hb dX8_isSign_36 (by decide) ?_
    refine lv_goto (tgt := 41) hx hb dX8_isSign_37 (by decide) ?_
    have k_1 : (1 : Int32).toInt = 1 := by decide
    rw [hQ9]
    exact rr_z hx hb hr hlocks (Or.inr rfl) (show ((1 : Int32) = 0) ∨ ((1 : Int32) = 1) from (Or.inr (rfl))) hS dX8_isSign_41
  · skip
    have c_1 : ¬ (vx.toInt = (59 : Int32).toInt) := fun h9 => c_1 (i_eq.mpr h9)
    refine lv_iload_n hx hb dX8_isSign_6 rfl (lv_at hl 0 rfl) ?_
    refine lv_bipush (v := 60) hx hb dX8_isSign_7 (by decide) ?_
    have k_60 : (60 : Int32).toInt = 60 := by decide
    refine lv_icmp_eq (tgt := 36) hx hb dX8_isSign_9 (by decide) (fun c_2 => ?_) (fun c_2 => ?_)
    · skip
      have c_2 : vx.toInt = (60 : Int32).toInt := i_eq.mp c_2
      refine lv_iconst (v := 1) hx hb dX8_isSign_36 (by decide) ?_
      refine lv_goto (tgt := 41) hx hb dX8_isSign_37 (by decide) ?_
      have k_1 : (1 : Int32).toInt = 1 := by decide
      rw [hQ9]
      exact rr_z hx hb hr hlocks (Or.inr rfl) (show ((1 : Int32) = 0) ∨ ((1 : Int32) = 1) from (Or.inr (rfl))) hS dX8_isSign_41
    · skip
      have c_2 : ¬ (vx.toInt = (60 : Int32).toInt) := fun h9 => c_2 (i_eq.mpr h9)
      refine lv_iload_n hx hb dX8_isSign_12 rfl (lv_at hl 0 rfl) ?_
      refine lv_bipush (v := 61) hx hb dX8_isSign_13 (by decide) ?_
      have k_61 : (61 : Int32).toInt = 61 := by decide
      refine lv_icmp_eq (tgt := 36) hx hb dX8_isSign_15 (by decide) (fun c_3 => ?_) (fun c_3 => ?_)
      · skip
        have c_3 : vx.toInt = (61 : Int32).toInt := i_eq.mp c_3
        refine lv_iconst (v := 1) hx hb dX8_isSign_36 (by decide) ?_
        refine lv_goto (tgt := 41) hx hb dX8_isSign_37 (by decide) ?_
        have k_1 : (1 : Int32).toInt = 1 := by decide
        rw [hQ9]
        exact rr_z hx hb hr hlocks (Or.inr rfl) (show ((1 : Int32) = 0) ∨ ((1 : Int32) = 1) from (Or.inr (rfl))) hS dX8_isSign_41
      · skip
        have c_3 : ¬ (vx.toInt = (61 : Int32).toInt) := fun h9 => c_3 (i_eq.mpr h9)
        refine lv_iload_n hx hb dX8_isSign_18 rfl (lv_at hl 0 rfl) ?_
        refine lv_bipush (v := 62) hx hb dX8_isSign_19 (by decide) ?_
        have k_62 : (62 : Int32).toInt = 62 := by decide
        refine lv_icmp_eq (tgt := 36) hx hb dX8_isSign_21 (by decide) (fun c_4 => ?_) (fun c_4 => ?_)
        · skip
          have c_4 : vx.toInt = (62 : Int32).toInt := i_eq.mp c_4
          refine lv_iconst (v := 1) hx hb dX8_isSign_36 (by decide) ?_
          refine lv_goto (tgt := 41) hx hb dX8_isSign_37 (by decide) ?_
          have k_1 : (1 : Int32).toInt = 1 := by decide
          rw [hQ9]
          exact rr_z hx hb hr hlocks (Or.inr rfl) (show ((1 : Int32) = 0) ∨ ((1 : Int32) = 1) from (Or.inr (rfl))) hS dX8_isSign_41
        · skip
          have c_4 : ¬ (vx.toInt = (62 : Int32).toInt) := fun h9 => c_4 (i_eq.mpr h9)
          refine lv_iload_n hx hb dX8_isSign_24 rfl (lv_at hl 0 rfl) ?_
          refine lv_bipush (v := 40) hx hb dX8_isSign_25 (by decide) ?_
          have k_40 : (40 : Int32).toInt = 40 := by decide
          refine lv_icmp_eq (tgt := 36) hx hb dX8_isSign_27 (by decide) (fun c_5 => ?_) (fun c_5 => ?_)
          · skip
            have c_5 : vx.toInt = (40 : Int32).toInt := i_eq.mp c_5
            refine lv_iconst (v := 1) hx hb dX8_isSign_36 (by decide) ?_
            refine lv_goto (tgt := 41) hx hb dX8_isSign_37 (by decide) ?_
            have k_1 : (1 : Int32).toInt = 1 := by decide
            rw [hQ9]
            exact rr_z hx hb hr hlocks (Or.inr rfl) (show ((1 : Int32) = 0) ∨ ((1 : Int32) = 1) from (Or.inr (rfl))) hS dX8_isSign_41
          · skip
            have c_5 : ¬ (vx.toInt = (40 : Int32).toInt) := fun h9 => c_5 (i_eq.mpr h9)
            refine lv_iload_n hx hb dX8_isSign_30 rfl (lv_at hl 0 rfl) ?_
            refine lv_bipush (v := 41) hx hb dX8_isSign_31 (by decide) ?_
            have k_41 : (41 : Int32).toInt = 41 := by decide
            refine lv_icmp_ne (tgt := 40) hx hb dX8_isSign_33 (by decide) (fun c_6 => ?_) (fun c_6 => ?_)
            · skip
              have c_6 : ¬ (vx.toInt = (41 : Int32).toInt) := fun h9 => c_6 (i_eq.mpr h9)
              refine lv_iconst (v := 0) hx hb dX8_isSign_40 (by decide) ?_
              have k_0 : (0 : Int32).toInt = 0 := by decide
              rw [hQ9]
              exact rr_z hx hb hr hlocks (Or.inl rfl) (show ((0 : Int32) = 0) ∨ ((0 : Int32) = 1) from (Or.inl rfl)) hS dX8_isSign_41
            · skip
              have c_6 : vx.toInt = (41 : Int32).toInt := i_eq.mp c_6
              refine lv_iconst (v := 1) hx hb dX8_isSign_36 (by decide) ?_
              refine lv_goto (tgt := 41) hx hb dX8_isSign_37 (by decide) ?_
              have k_1 : (1 : Int32).toInt = 1 := by decide
              rw [hQ9]
              exact rr_z hx hb hr hlocks (Or.inr rfl) (show ((1 : Int32) = 0) ∨ ((1 : Int32) = 1) from (Or.inr (rfl))) hS dX8_isSign_41
set_option maxHeartbeats 4000000 in
set_option maxRecDepth 100000 in
theorem g_findWord (l : Launch) (dC : Nat → ClassId) (dI : Nat → Nat → Nat) (cy : Nat → ClassId) (vt : Nat) (vt1 : Nat) (vt2 : Nat) (vtL : Int32) (vtli : Int32) (vta : Int32) (vtk : Int32) (vtst : Int32) (vtw : Int32) (vtc : Int64) (vtn : Int32) (vtfk : Int32) (vtfp : Int32) (vtco : Nat → Int64)  : Met l yX8_findWord (wl yX8_findWord cX8_findWord 2 (some .int)) ({ frames := 0, cells := 0, slots := 0, locals := 0 }) (Pr (dC, dI) vwCl cy [(vt, .inr (9, [.ref vt1, .ref vt2, .int vtL, .int vtli, .int vta, .int vtk, .int vtst, .int vtw, .long vtc, .int vtn, .int vtfk, .int vtfp])), (vt2, .inl (cy 1, 29, .inr (.inl vtco)))] [.ref vt]) (Ri (fun r => (-1 ≤ (r : Int32).toInt ∧ (r : Int32).toInt ≤ 28))) 0 0 (fun _ => False) := by
  refine mr RX8 rfl (by decide +kernel) (Nat.le_of_ble_eq_true rfl) ?_
  intro p e s m below meth c hx hb hr hlocks av9 hav hts hown hml hK hP hS Q9 hQ9 ls hl
  have hl : lv_has ls 2 [(0, .ref vt)] := hl
  refine lv_iconst (v := 0) hx hb dX8_findWord_0 (by decide) ?_
  refine lv_istore_n (lv' := [(1, .int 0), (0, .ref vt)]) hx hb dX8_findWord_1 rfl hl (by decide) rfl (fun ls hl => ?_)
  have loop1 : ∀ (n1 : Nat) (x_2 : Int32), (0 ≤ x_2.toInt ∧ x_2.toInt ≤ 29) → 29 - x_2.toInt < (n1 : Int) → ∀ (H : Heap) (locs : List Loc), va_P (dC, dI) vwCl [(vt, .inr (9, [.ref vt1, .ref vt2, .int vtL, .int vtli, .int vta, .int vtk, .int vtst, .int vtw, .long vtc, .int vtn, .int vtfk, .int vtfp])), (vt2, .inl (cy 1, 29, .inr (.inl vtco)))] H → va_S (fun _ => False) s.heap H locs → ∀ ls : Array Slot, lv_has ls 2 [(1, .int x_2), (0, .ref vt)] → W p l e ({ frames := 0, cells := 0, slots := 0, locals := 0 }) s m av9 below meth c H locs 0 0 Q9 (F0 m 2 ls []) := by
    intro n1
    induction n1 with
    | zero =>
      intro x_2 bx_2 hn1 H locs hP hS ls hl
      exfalso; omega
    | succ n1 ih1 =>
      intro x_2 bx_2 hn1 H locs hP hS ls hl
      refine lv_iload_n hx hb dX8_findWord_2 rfl (lv_at hl 0 rfl) ?_
      refine lv_bipush (v := 29) hx hb dX8_findWord_3 (by decide) ?_
      have k_29 : (29 : Int32).toInt = 29 := by decide
      refine lv_icmp_ge (tgt := 30) hx hb dX8_findWord_5 (by decide) (fun c_3 => ?_) (fun c_3 => ?_)
      · skip
        have c_3 : (29 : Int32).toInt ≤ x_2.toInt := i_le.mp c_3
        refine lv_iconst (v := (-1)) hx hb dX8_findWord_30 (by decide) ?_
        have k_m1 : ((-1) : Int32).toInt = (-1) := by decide
        rw [hQ9]
        exact rr_i hx hb hr hlocks (show -1 ≤ (((-1) : Int32) : Int32).toInt ∧ (((-1) : Int32) : Int32).toInt ≤ 28 from ⟨by omega, by omega⟩) hS dX8_findWord_31
      · skip
        have c_3 : ¬ ((29 : Int32).toInt ≤ x_2.toInt) := fun h9 => c_3 (i_le.mpr h9)
        refine lv_aload_n hx hb dX8_findWord_8 rfl (lv_at hl 1 rfl) ?_
        refine gf_X8_15 hx hb hts hown hK hP 0 rfl rfl dX8_findWord_9 ?_
        refine lv_iload_n hx hb dX8_findWord_12 rfl (lv_at hl 0 rfl) ?_
        have hin_4 : vp_in x_2 29 := vp_in_iff.mpr ⟨by omega, by omega⟩
        refine va_lald hx hb hK hP 1 1 rfl rfl hin_4 dX8_findWord_13 ?_
        refine lv_topl (fun y_5 ey_5 => ?_)
        refine lv_aload_n hx hb dX8_findWord_14 rfl (lv_at hl 1 rfl) ?_
        refine gf_X8_73 hx hb hts hown hK hP 0 rfl rfl dX8_findWord_15 ?_
        refine W.lcmp hx hb dX8_findWord_18 ?_
        refine lv_topi (fun z_6 ez_6 => ?_)
        have k_0 : (0 : Int32).toInt = 0 := by decide
        refine lv_if_ne (tgt := 24) hx hb dX8_findWord_19 (by decide) (fun c_7 => ?_) (fun c_7 => ?_)
        · skip
          have c_7 : ¬ (z_6.toInt = (0 : Int32).toInt) := fun h9 => c_7 (i_eq.mpr h9)
          obtain ⟨z_8, ez_8⟩ : ∃ z : Int32, z = x_2 + 1 := ⟨_, rfl⟩
          have k_1 : (1 : Int32).toInt = 1 := by decide
          have bz_8 : z_8.toInt = x_2.toInt + (1 : Int32).toInt := i_add ez_8 (by omega) (by omega)
          refine lv_iinc (v := z_8) (lv' := [(1, .int z_8), (0, .ref vt)]) hx hb dX8_findWord_24 hl (k := 0) rfl ez_8.symm (by decide) rfl (fun ls hl => ?_)
          refine lv_goto (tgt := 2) hx hb dX8_findWord_27 (by decide) ?_
          exact ih1 z_8 ⟨by omega, by omega⟩ (by omega) _ _ (hP.sub [0, 1] rfl) hS ls (lv_sub hl [0, 1] rfl)
        · skip
          have c_7 : z_6.toInt = (0 : Int32).toInt := i_eq.mp c_7
          refine lv_iload_n hx hb dX8_findWord_22 rfl (lv_at hl 0 rfl) ?_
          rw [hQ9]
          exact rr_i hx hb hr hlocks (show -1 ≤ (x_2 : Int32).toInt ∧ (x_2 : Int32).toInt ≤ 28 from ⟨by omega, by omega⟩) hS dX8_findWord_23
  have k_0 : (0 : Int32).toInt = 0 := by decide
  exact loop1 ((29 - (0 : Int32).toInt).toNat + 1) 0 ⟨by omega, by omega⟩ (by omega) _ _ hP hS ls (lv_sub hl [0, 1] rfl)
abbrev O_g_readRun (cy : Nat → ClassId) (vt : Nat) (vt1 : Nat) (vt2 : Nat) (vtL : Int32) (vtli : Int32) (vta : Int32) (vtk : Int32) (vtst : Int32) (vtw : Int32) (vtc : Int64) (vtn : Int32) (vtfk : Int32) (vtfp : Int32) (vtb : Nat → Int32) (u : Int32 × Int32 × Int64 × Int32) : va_W := [(vt, .inr (9, [.ref vt1, .ref vt2, .int vtL, .int vtli, .int u.1, .int u.2.1, .int vtst, .int vtw, .long u.2.2.1, .int u.2.2.2, .int vtfk, .int vtfp])), (vt1, .inl (cy 0, 940, .inl vtb))]
set_option maxHeartbeats 4000000 in
set_option maxRecDepth 100000 in
theorem g_readRun (l : Launch) (dC : Nat → ClassId) (dI : Nat → Nat → Nat) (cy : Nat → ClassId) (sz : Nat) (vt : Nat) (vt1 : Nat) (vt2 : Nat) (vtL : Int32) (vtli : Int32) (vta : Int32) (vtk : Int32) (vtst : Int32) (vtw : Int32) (vtc : Int64) (vtn : Int32) (vtfk : Int32) (vtfp : Int32) (vtb : Nat → Int32) (r_vtL : 0 ≤ (vtL : Int32).toInt ∧ (vtL : Int32).toInt ≤ 940) (r_vta : 0 ≤ (vta : Int32).toInt ∧ (vta : Int32).toInt ≤ 940) (p_vtb : Rg vtb 940 0 255) : Met l yX8_readRun (wl yX8_readRun cX8_readRun 4 none) ({ frames := 0, cells := 0, slots := 0, locals := 0 }) (Pw (dC, dI) vwCl cy [(vt, .inr (9, [.ref vt1, .ref vt2, .int vtL, .int vtli, .int vta, .int vtk, .int vtst, .int vtw, .long vtc, .int vtn, .int vtfk, .int vtfp])), (vt1, .inl (cy 0, 940, .inl vtb))] sz [.ref vt] nE) (Qv (dC, dI) vwCl (fun (u : Int32 × Int32 × Int64 × Int32) => (0 ≤ (u.1 : Int32).toInt ∧ (u.1 : Int32).toInt ≤ 940)) (O_g_readRun cy vt vt1 vt2 vtL vtli vta vtk vtst vtw vtc vtn vtfk vtfp vtb) (va_A [(vt, .inr (9, [.ref vt1, .ref vt2, .int vtL, .int vtli, .int vta, .int vtk, .int vtst, .int vtw, .long vtc, .int vtn, .int vtfk, .int vtfp])), (vt1, .inl (cy 0, 940, .inl vtb))] sz)) 0 0 (va_A [(vt, .inr (9, [.ref vt1, .ref vt2, .int vtL, .int vtli, .int vta, .int vtk, .int vtst, .int vtw, .long vtc, .int vtn, .int vtfk, .int vtfp])), (vt1, .inl (cy 0, 940, .inl vtb))] sz) := by
  refine mw (Qc := Qv (dC, dI) vwCl (fun (u : Int32 × Int32 × Int64 × Int32) => (0 ≤ (u.1 : Int32).toInt ∧ (u.1 : Int32).toInt ≤ 940)) (O_g_readRun cy vt vt1 vt2 vtL vtli vta vtk vtst vtw vtc vtn vtfk vtfp vtb)) RX8 rfl (by decide +kernel) (Nat.le_of_ble_eq_true rfl) ?_
  intro p e s m below meth c A hx hb hr hlocks av9 hav hts hown hnm hml hK hP hD hA hS hE hAe Q9 hQ9 ls hl
  have hl : lv_has ls 4 [(0, .ref vt)] := hl
  refine lv_iconst (v := 0) hx hb dX8_readRun_0 (by decide) ?_
  refine lv_istore_n (lv' := [(1, .int 0), (0, .ref vt)]) hx hb dX8_readRun_1 rfl hl (by decide) rfl (fun ls hl => ?_)
  refine lv_iconst (v := 0) hx hb dX8_readRun_2 (by decide) ?_
  refine lv_istore_n (lv' := [(2, .int 0), (1, .int 0), (0, .ref vt)]) hx hb dX8_readRun_3 rfl hl (by decide) rfl (fun ls hl => ?_)
  refine lv_aload_n hx hb dX8_readRun_4 rfl (lv_at hl 2 rfl) ?_
  refine lv_lconst (v := 0) hx hb dX8_readRun_5 (by decide) ?_
  refine pf_X8_73 hx hb hts hown hK hP hD hS 0 rfl rfl rfl (Nat.le_of_ble_eq_true rfl) dX8_readRun_6 (fun H locs hP hD hS => ?_)
  have hP : va_P (dC, dI) vwCl [(vt, .inr (9, [.ref vt1, .ref vt2, .int vtL, .int vtli, .int vta, .int vtk, .int vtst, .int vtw, .long 0, .int vtn, .int vtfk, .int vtfp])), (vt1, .inl (cy 0, 940, .inl vtb))] H := hP
  have hD : va_D A [(vt, .inr (9, [.ref vt1, .ref vt2, .int vtL, .int vtli, .int vta, .int vtk, .int vtst, .int vtw, .long 0, .int vtn, .int vtfk, .int vtfp])), (vt1, .inl (cy 0, 940, .inl vtb))] := hD
  refine lv_aload_n hx hb dX8_readRun_9 rfl (lv_at hl 2 rfl) ?_
  refine lv_iconst (v := 0) hx hb dX8_readRun_10 (by decide) ?_
  refine pf_X8_77 hx hb hts hown hK hP hD hS 0 rfl rfl rfl (Nat.le_of_ble_eq_true rfl) dX8_readRun_11 (fun H locs hP hD hS => ?_)
  have hP : va_P (dC, dI) vwCl [(vt, .inr (9, [.ref vt1, .ref vt2, .int vtL, .int vtli, .int vta, .int vtk, .int vtst, .int vtw, .long 0, .int 0, .int vtfk, .int vtfp])), (vt1, .inl (cy 0, 940, .inl vtb))] H := hP
  have hD : va_D A [(vt, .inr (9, [.ref vt1, .ref vt2, .int vtL, .int vtli, .int vta, .int vtk, .int vtst, .int vtw, .long 0, .int 0, .int vtfk, .int vtfp])), (vt1, .inl (cy 0, 940, .inl vtb))] := hD
  have loop1 : ∀ (n1 : Nat) (x_3 : Int32) (x_2 : Int32) (x_4 : Int32) (x_5 : Int64) (x_6 : Int32), (0 ≤ x_4.toInt ∧ x_4.toInt ≤ 940) → 940 - x_4.toInt < (n1 : Int) → ∀ (H : Heap) (locs : List Loc), va_P (dC, dI) vwCl [(vt, .inr (9, [.ref vt1, .ref vt2, .int vtL, .int vtli, .int x_4, .int vtk, .int vtst, .int vtw, .long x_5, .int x_6, .int vtfk, .int vtfp])), (vt1, .inl (cy 0, 940, .inl vtb))] H → va_D A [(vt, .inr (9, [.ref vt1, .ref vt2, .int vtL, .int vtli, .int x_4, .int vtk, .int vtst, .int vtw, .long x_5, .int x_6, .int vtfk, .int vtfp])), (vt1, .inl (cy 0, 940, .inl vtb))] → va_S A s.heap H locs → ∀ ls : Array Slot, lv_has ls 4 [(2, .int x_2), (1, .int x_3), (0, .ref vt)] → W p l e ({ frames := 0, cells := 0, slots := 0, locals := 0 }) s m av9 below meth c H locs 0 0 Q9 (F0 m 14 ls []) := by
    intro n1
    induction n1 with
    | zero =>
      intro x_3 x_2 x_4 x_5 x_6 bx_4 hn1 H locs hP hD hS ls hl
      exfalso; omega
    | succ n1 ih1 =>
      intro x_3 x_2 x_4 x_5 x_6 bx_4 hn1 H locs hP hD hS ls hl
      refine lv_aload_n hx hb dX8_readRun_14 rfl (lv_at hl 2 rfl) ?_
      refine gf_X8_39 hx hb hts hown hK hP 0 rfl rfl dX8_readRun_15 ?_
      refine lv_aload_n hx hb dX8_readRun_18 rfl (lv_at hl 2 rfl) ?_
      refine gf_X8_33 hx hb hts hown hK hP 0 rfl rfl dX8_readRun_19 ?_
      refine lv_icmp_ge (tgt := 117) hx hb dX8_readRun_22 (by decide) (fun c_7 => ?_) (fun c_7 => ?_)
      · skip
        have c_7 : vtL.toInt ≤ x_4.toInt := i_le.mp c_7
        refine lv_aload_n hx hb dX8_readRun_117 rfl (lv_at hl 2 rfl) ?_
        refine lv_iconst (v := 0) hx hb dX8_readRun_118 (by decide) ?_
        refine pf_X8_57 hx hb hts hown hK hP hD hS 0 rfl rfl rfl (Nat.le_of_ble_eq_true rfl) dX8_readRun_119 (fun H locs hP hD hS => ?_)
        have hP : va_P (dC, dI) vwCl [(vt, .inr (9, [.ref vt1, .ref vt2, .int vtL, .int vtli, .int x_4, .int 0, .int vtst, .int vtw, .long x_5, .int x_6, .int vtfk, .int vtfp])), (vt1, .inl (cy 0, 940, .inl vtb))] H := hP
        have hD : va_D A [(vt, .inr (9, [.ref vt1, .ref vt2, .int vtL, .int vtli, .int x_4, .int 0, .int vtst, .int vtw, .long x_5, .int x_6, .int vtfk, .int vtfp])), (vt1, .inl (cy 0, 940, .inl vtb))] := hD
        refine lv_iload_n hx hb dX8_readRun_122 rfl (lv_at hl 0 rfl) ?_
        have k_0 : (0 : Int32).toInt = 0 := by decide
        refine lv_if_ne (tgt := 140) hx hb dX8_readRun_123 (by decide) (fun c_8 => ?_) (fun c_8 => ?_)
        · skip
          have c_8 : ¬ (x_2.toInt = (0 : Int32).toInt) := fun h9 => c_8 (i_eq.mpr h9)
          refine lv_iload_n hx hb dX8_readRun_140 rfl (lv_at hl 1 rfl) ?_
          refine lv_if_ne (tgt := 154) hx hb dX8_readRun_141 (by decide) (fun c_9 => ?_) (fun c_9 => ?_)
          · skip
            have c_9 : ¬ (x_3.toInt = (0 : Int32).toInt) := fun h9 => c_9 (i_eq.mpr h9)
            rw [hQ9]
            exact re_v (x_4, (0 : Int32), x_5, x_6) hx hb hr hlocks (show 0 ≤ (x_4 : Int32).toInt ∧ (x_4 : Int32).toInt ≤ 940 from ⟨by omega, by omega⟩) (hP.sub [0, 1] rfl) (hD.sub [0, 1] rfl rfl) hS dX8_readRun_154
          · skip
            have c_9 : x_3.toInt = (0 : Int32).toInt := i_eq.mp c_9
            refine lv_iload_n hx hb dX8_readRun_144 rfl (lv_at hl 0 rfl) ?_
            refine lv_iconst (v := 3) hx hb dX8_readRun_145 (by decide) ?_
            have k_3 : (3 : Int32).toInt = 3 := by decide
            refine lv_icmp_gt (tgt := 154) hx hb dX8_readRun_146 (by decide) (fun c_10 => ?_) (fun c_10 => ?_)
            · skip
              have c_10 : (3 : Int32).toInt < x_2.toInt := i_lt.mp c_10
              rw [hQ9]
              exact re_v (x_4, (0 : Int32), x_5, x_6) hx hb hr hlocks (show 0 ≤ (x_4 : Int32).toInt ∧ (x_4 : Int32).toInt ≤ 940 from ⟨by omega, by omega⟩) (hP.sub [0, 1] rfl) (hD.sub [0, 1] rfl rfl) hS dX8_readRun_154
            · skip
              have c_10 : ¬ ((3 : Int32).toInt < x_2.toInt) := fun h9 => c_10 (i_lt.mpr h9)
              refine lv_aload_n hx hb dX8_readRun_149 rfl (lv_at hl 2 rfl) ?_
              refine lv_iconst (v := 2) hx hb dX8_readRun_150 (by decide) ?_
              refine pf_X8_57 hx hb hts hown hK hP hD hS 0 rfl rfl rfl (Nat.le_of_ble_eq_true rfl) dX8_readRun_151 (fun H locs hP hD hS => ?_)
              have hP : va_P (dC, dI) vwCl [(vt, .inr (9, [.ref vt1, .ref vt2, .int vtL, .int vtli, .int x_4, .int 2, .int vtst, .int vtw, .long x_5, .int x_6, .int vtfk, .int vtfp])), (vt1, .inl (cy 0, 940, .inl vtb))] H := hP
              have hD : va_D A [(vt, .inr (9, [.ref vt1, .ref vt2, .int vtL, .int vtli, .int x_4, .int 2, .int vtst, .int vtw, .long x_5, .int x_6, .int vtfk, .int vtfp])), (vt1, .inl (cy 0, 940, .inl vtb))] := hD
              have k_2 : (2 : Int32).toInt = 2 := by decide
              rw [hQ9]
              exact re_v (x_4, (2 : Int32), x_5, x_6) hx hb hr hlocks (show 0 ≤ (x_4 : Int32).toInt ∧ (x_4 : Int32).toInt ≤ 940 from ⟨by omega, by omega⟩) (hP.sub [0, 1] rfl) (hD.sub [0, 1] rfl rfl) hS dX8_readRun_154
        · skip
          have c_8 : x_2.toInt = (0 : Int32).toInt := i_eq.mp c_8
          refine lv_iload_n hx hb dX8_readRun_126 rfl (lv_at hl 1 rfl) ?_
          refine lv_bipush (v := 7) hx hb dX8_readRun_127 (by decide) ?_
          have k_7 : (7 : Int32).toInt = 7 := by decide
          refine lv_icmp_gt (tgt := 140) hx hb dX8_readRun_129 (by decide) (fun c_11 => ?_) (fun c_11 => ?_)
          · skip
            have c_11 : (7 : Int32).toInt < x_3.toInt := i_lt.mp c_11
            refine lv_iload_n hx hb dX8_readRun_140 rfl (lv_at hl 1 rfl) ?_
            refine lv_if_ne (tgt := 154) hx hb dX8_readRun_141 (by decide) (fun _ => ?_) (fun c9 => absurd (i_eq.mp c9) (by omega))
            rw [hQ9]
            exact re_v (x_4, (0 : Int32), x_5, x_6) hx hb hr hlocks (show 0 ≤ (x_4 : Int32).toInt ∧ (x_4 : Int32).toInt ≤ 940 from ⟨by omega, by omega⟩) (hP.sub [0, 1] rfl) (hD.sub [0, 1] rfl rfl) hS dX8_readRun_154
          · skip
            have c_11 : ¬ ((7 : Int32).toInt < x_3.toInt) := fun h9 => c_11 (i_lt.mpr h9)
            refine lv_aload_n hx hb dX8_readRun_132 rfl (lv_at hl 2 rfl) ?_
            refine lv_iconst (v := 1) hx hb dX8_readRun_133 (by decide) ?_
            refine pf_X8_57 hx hb hts hown hK hP hD hS 0 rfl rfl rfl (Nat.le_of_ble_eq_true rfl) dX8_readRun_134 (fun H locs hP hD hS => ?_)
            have hP : va_P (dC, dI) vwCl [(vt, .inr (9, [.ref vt1, .ref vt2, .int vtL, .int vtli, .int x_4, .int 1, .int vtst, .int vtw, .long x_5, .int x_6, .int vtfk, .int vtfp])), (vt1, .inl (cy 0, 940, .inl vtb))] H := hP
            have hD : va_D A [(vt, .inr (9, [.ref vt1, .ref vt2, .int vtL, .int vtli, .int x_4, .int 1, .int vtst, .int vtw, .long x_5, .int x_6, .int vtfk, .int vtfp])), (vt1, .inl (cy 0, 940, .inl vtb))] := hD
            refine lv_goto (tgt := 154) hx hb dX8_readRun_137 (by decide) ?_
            have k_1 : (1 : Int32).toInt = 1 := by decide
            rw [hQ9]
            exact re_v (x_4, (1 : Int32), x_5, x_6) hx hb hr hlocks (show 0 ≤ (x_4 : Int32).toInt ∧ (x_4 : Int32).toInt ≤ 940 from ⟨by omega, by omega⟩) (hP.sub [0, 1] rfl) (hD.sub [0, 1] rfl rfl) hS dX8_readRun_154
      · skip
        have c_7 : ¬ (vtL.toInt ≤ x_4.toInt) := fun h9 => c_7 (i_le.mpr h9)
        refine lv_aload_n hx hb dX8_readRun_25 rfl (lv_at hl 2 rfl) ?_
        refine gf_X8_9 hx hb hts hown hK hP 0 rfl rfl dX8_readRun_26 ?_
        refine lv_aload_n hx hb dX8_readRun_29 rfl (lv_at hl 2 rfl) ?_
        refine gf_X8_39 hx hb hts hown hK hP 0 rfl rfl dX8_readRun_30 ?_
        have hin_12 : vp_in x_4 940 := vp_in_iff.mpr ⟨by omega, by omega⟩
        refine va_iald hx hb hK hP 1 0 rfl rfl hin_12 dX8_readRun_33 ?_
        refine lv_topi (fun z_13 ez_13 => ?_)
        have bz_13 := p_vtb.at hin_12 ez_13
        refine lv_istore_n (lv' := [(3, .int z_13), (2, .int x_2), (1, .int x_3), (0, .ref vt)]) hx hb dX8_readRun_34 rfl hl (by decide) rfl (fun ls hl => ?_)
        refine lv_iload_n hx hb dX8_readRun_35 rfl (lv_at hl 0 rfl) ?_
        refine lv_bipush (v := 97) hx hb dX8_readRun_36 (by decide) ?_
        have k_97 : (97 : Int32).toInt = 97 := by decide
        refine lv_icmp_lt (tgt := 73) hx hb dX8_readRun_38 (by decide) (fun c_14 => ?_) (fun c_14 => ?_)
        · skip
          have c_14 : z_13.toInt < (97 : Int32).toInt := i_lt.mp c_14
          refine lv_iload_n hx hb dX8_readRun_73 rfl (lv_at hl 0 rfl) ?_
          refine lv_bipush (v := 48) hx hb dX8_readRun_74 (by decide) ?_
          have k_48 : (48 : Int32).toInt = 48 := by decide
          refine lv_icmp_lt (tgt := 117) hx hb dX8_readRun_76 (by decide) (fun c_15 => ?_) (fun c_15 => ?_)
          · skip
            have c_15 : z_13.toInt < (48 : Int32).toInt := i_lt.mp c_15
            refine lv_aload_n hx hb dX8_readRun_117 rfl (lv_at hl 3 rfl) ?_
            refine lv_iconst (v := 0) hx hb dX8_readRun_118 (by decide) ?_
            refine pf_X8_57 hx hb hts hown hK hP hD hS 0 rfl rfl rfl (Nat.le_of_ble_eq_true rfl) dX8_readRun_119 (fun H locs hP hD hS => ?_)
            have hP : va_P (dC, dI) vwCl [(vt, .inr (9, [.ref vt1, .ref vt2, .int vtL, .int vtli, .int x_4, .int 0, .int vtst, .int vtw, .long x_5, .int x_6, .int vtfk, .int vtfp])), (vt1, .inl (cy 0, 940, .inl vtb))] H := hP
            have hD : va_D A [(vt, .inr (9, [.ref vt1, .ref vt2, .int vtL, .int vtli, .int x_4, .int 0, .int vtst, .int vtw, .long x_5, .int x_6, .int vtfk, .int vtfp])), (vt1, .inl (cy 0, 940, .inl vtb))] := hD
            refine lv_iload_n hx hb dX8_readRun_122 rfl (lv_at hl 1 rfl) ?_
            have k_0 : (0 : Int32).toInt = 0 := by decide
            refine lv_if_ne (tgt := 140) hx hb dX8_readRun_123 (by decide) (fun c_16 => ?_) (fun c_16 => ?_)
            · skip
              have c_16 : ¬ (x_2.toInt = (0 : Int32).toInt) := fun h9 => c_16 (i_eq.mpr h9)
              refine lv_iload_n hx hb dX8_readRun_140 rfl (lv_at hl 2 rfl) ?_
              refine lv_if_ne (tgt := 154) hx hb dX8_readRun_141 (by decide) (fun c_17 => ?_) (fun c_17 => ?_)
              · skip
                have c_17 : ¬ (x_3.toInt = (0 : Int32).toInt) := fun h9 => c_17 (i_eq.mpr h9)
                rw [hQ9]
                exact re_v (x_4, (0 : Int32), x_5, x_6) hx hb hr hlocks (show 0 ≤ (x_4 : Int32).toInt ∧ (x_4 : Int32).toInt ≤ 940 from ⟨by omega, by omega⟩) (hP.sub [0, 1] rfl) (hD.sub [0, 1] rfl rfl) hS dX8_readRun_154
              · skip
                have c_17 : x_3.toInt = (0 : Int32).toInt := i_eq.mp c_17
                refine lv_iload_n hx hb dX8_readRun_144 rfl (lv_at hl 1 rfl) ?_
                refine lv_iconst (v := 3) hx hb dX8_readRun_145 (by decide) ?_
                have k_3 : (3 : Int32).toInt = 3 := by decide
                refine lv_icmp_gt (tgt := 154) hx hb dX8_readRun_146 (by decide) (fun c_18 => ?_) (fun c_18 => ?_)
                · skip
                  have c_18 : (3 : Int32).toInt < x_2.toInt := i_lt.mp c_18
                  rw [hQ9]
                  exact re_v (x_4, (0 : Int32), x_5, x_6) hx hb hr hlocks (show 0 ≤ (x_4 : Int32).toInt ∧ (x_4 : Int32).toInt ≤ 940 from ⟨by omega, by omega⟩) (hP.sub [0, 1] rfl) (hD.sub [0, 1] rfl rfl) hS dX8_readRun_154
                · skip
                  have c_18 : ¬ ((3 : Int32).toInt < x_2.toInt) := fun h9 => c_18 (i_lt.mpr h9)
                  refine lv_aload_n hx hb dX8_readRun_149 rfl (lv_at hl 3 rfl) ?_
                  refine lv_iconst (v := 2) hx hb dX8_readRun_150 (by decide) ?_
                  refine pf_X8_57 hx hb hts hown hK hP hD hS 0 rfl rfl rfl (Nat.le_of_ble_eq_true rfl) dX8_readRun_151 (fun H locs hP hD hS => ?_)
                  have hP : va_P (dC, dI) vwCl [(vt, .inr (9, [.ref vt1, .ref vt2, .int vtL, .int vtli, .int x_4, .int 2, .int vtst, .int vtw, .long x_5, .int x_6, .int vtfk, .int vtfp])), (vt1, .inl (cy 0, 940, .inl vtb))] H := hP
                  have hD : va_D A [(vt, .inr (9, [.ref vt1, .ref vt2, .int vtL, .int vtli, .int x_4, .int 2, .int vtst, .int vtw, .long x_5, .int x_6, .int vtfk, .int vtfp])), (vt1, .inl (cy 0, 940, .inl vtb))] := hD
                  have k_2 : (2 : Int32).toInt = 2 := by decide
                  rw [hQ9]
                  exact re_v (x_4, (2 : Int32), x_5, x_6) hx hb hr hlocks (show 0 ≤ (x_4 : Int32).toInt ∧ (x_4 : Int32).toInt ≤ 940 from ⟨by omega, by omega⟩) (hP.sub [0, 1] rfl) (hD.sub [0, 1] rfl rfl) hS dX8_readRun_154
            · skip
              have c_16 : x_2.toInt = (0 : Int32).toInt := i_eq.mp c_16
              refine lv_iload_n hx hb dX8_readRun_126 rfl (lv_at hl 2 rfl) ?_
              refine lv_bipush (v := 7) hx hb dX8_readRun_127 (by decide) ?_
              have k_7 : (7 : Int32).toInt = 7 := by decide
              refine lv_icmp_gt (tgt := 140) hx hb dX8_readRun_129 (by decide) (fun c_19 => ?_) (fun c_19 => ?_)
              · skip
                have c_19 : (7 : Int32).toInt < x_3.toInt := i_lt.mp c_19
                refine lv_iload_n hx hb dX8_readRun_140 rfl (lv_at hl 2 rfl) ?_
                refine lv_if_ne (tgt := 154) hx hb dX8_readRun_141 (by decide) (fun _ => ?_) (fun c9 => absurd (i_eq.mp c9) (by omega))
                rw [hQ9]
                exact re_v (x_4, (0 : Int32), x_5, x_6) hx hb hr hlocks (show 0 ≤ (x_4 : Int32).toInt ∧ (x_4 : Int32).toInt ≤ 940 from ⟨by omega, by omega⟩) (hP.sub [0, 1] rfl) (hD.sub [0, 1] rfl rfl) hS dX8_readRun_154
              · skip
                have c_19 : ¬ ((7 : Int32).toInt < x_3.toInt) := fun h9 => c_19 (i_lt.mpr h9)
                refine lv_aload_n hx hb dX8_readRun_132 rfl (lv_at hl 3 rfl) ?_
                refine lv_iconst (v := 1) hx hb dX8_readRun_133 (by decide) ?_
                refine pf_X8_57 hx hb hts hown hK hP hD hS 0 rfl rfl rfl (Nat.le_of_ble_eq_true rfl) dX8_readRun_134 (fun H locs hP hD hS => ?_)
                have hP : va_P (dC, dI) vwCl [(vt, .inr (9, [.ref vt1, .ref vt2, .int vtL, .int vtli, .int x_4, .int 1, .int vtst, .int vtw, .long x_5, .int x_6, .int vtfk, .int vtfp])), (vt1, .inl (cy 0, 940, .inl vtb))] H := hP
                have hD : va_D A [(vt, .inr (9, [.ref vt1, .ref vt2, .int vtL, .int vtli, .int x_4, .int 1, .int vtst, .int vtw, .long x_5, .int x_6, .int vtfk, .int vtfp])), (vt1, .inl (cy 0, 940, .inl vtb))] := hD
                refine lv_goto (tgt := 154) hx hb dX8_readRun_137 (by decide) ?_
                have k_1 : (1 : Int32).toInt = 1 := by decide
                rw [hQ9]
                exact re_v (x_4, (1 : Int32), x_5, x_6) hx hb hr hlocks (show 0 ≤ (x_4 : Int32).toInt ∧ (x_4 : Int32).toInt ≤ 940 from ⟨by omega, by omega⟩) (hP.sub [0, 1] rfl) (hD.sub [0, 1] rfl rfl) hS dX8_readRun_154
          · skip
            have c_15 : ¬ (z_13.toInt < (48 : Int32).toInt) := fun h9 => c_15 (i_lt.mpr h9)
            refine lv_iload_n hx hb dX8_readRun_79 rfl (lv_at hl 0 rfl) ?_
            refine lv_bipush (v := 57) hx hb dX8_readRun_80 (by decide) ?_
            have k_57 : (57 : Int32).toInt = 57 := by decide
            refine lv_icmp_gt (tgt := 117) hx hb dX8_readRun_82 (by decide) (fun c_20 => ?_) (fun c_20 => ?_)
            · skip
              have c_20 : (57 : Int32).toInt < z_13.toInt := i_lt.mp c_20
              refine lv_aload_n hx hb dX8_readRun_117 rfl (lv_at hl 3 rfl) ?_
              refine lv_iconst (v := 0) hx hb dX8_readRun_118 (by decide) ?_
              refine pf_X8_57 hx hb hts hown hK hP hD hS 0 rfl rfl rfl (Nat.le_of_ble_eq_true rfl) dX8_readRun_119 (fun H locs hP hD hS => ?_)
              have hP : va_P (dC, dI) vwCl [(vt, .inr (9, [.ref vt1, .ref vt2, .int vtL, .int vtli, .int x_4, .int 0, .int vtst, .int vtw, .long x_5, .int x_6, .int vtfk, .int vtfp])), (vt1, .inl (cy 0, 940, .inl vtb))] H := hP
              have hD : va_D A [(vt, .inr (9, [.ref vt1, .ref vt2, .int vtL, .int vtli, .int x_4, .int 0, .int vtst, .int vtw, .long x_5, .int x_6, .int vtfk, .int vtfp])), (vt1, .inl (cy 0, 940, .inl vtb))] := hD
              refine lv_iload_n hx hb dX8_readRun_122 rfl (lv_at hl 1 rfl) ?_
              have k_0 : (0 : Int32).toInt = 0 := by decide
              refine lv_if_ne (tgt := 140) hx hb dX8_readRun_123 (by decide) (fun c_21 => ?_) (fun c_21 => ?_)
              · skip
                have c_21 : ¬ (x_2.toInt = (0 : Int32).toInt) := fun h9 => c_21 (i_eq.mpr h9)
                refine lv_iload_n hx hb dX8_readRun_140 rfl (lv_at hl 2 rfl) ?_
                refine lv_if_ne (tgt := 154) hx hb dX8_readRun_141 (by decide) (fun c_22 => ?_) (fun c_22 => ?_)
                · skip
                  have c_22 : ¬ (x_3.toInt = (0 : Int32).toInt) := fun h9 => c_22 (i_eq.mpr h9)
                  rw [hQ9]
                  exact re_v (x_4, (0 : Int32), x_5, x_6) hx hb hr hlocks (show 0 ≤ (x_4 : Int32).toInt ∧ (x_4 : Int32).toInt ≤ 940 from ⟨by omega, by omega⟩) (hP.sub [0, 1] rfl) (hD.sub [0, 1] rfl rfl) hS dX8_readRun_154
                · skip
                  have c_22 : x_3.toInt = (0 : Int32).toInt := i_eq.mp c_22
                  refine lv_iload_n hx hb dX8_readRun_144 rfl (lv_at hl 1 rfl) ?_
                  refine lv_iconst (v := 3) hx hb dX8_readRun_145 (by decide) ?_
                  have k_3 : (3 : Int32).toInt = 3 := by decide
                  refine lv_icmp_gt (tgt := 154) hx hb dX8_readRun_146 (by decide) (fun c_23 => ?_) (fun c_23 => ?_)
                  · skip
                    have c_23 : (3 : Int32).toInt < x_2.toInt := i_lt.mp c_23
                    rw [hQ9]
                    exact re_v (x_4, (0 : Int32), x_5, x_6) hx hb hr hlocks (show 0 ≤ (x_4 : Int32).toInt ∧ (x_4 : Int32).toInt ≤ 940 from ⟨by omega, by omega⟩) (hP.sub [0, 1] rfl) (hD.sub [0, 1] rfl rfl) hS dX8_readRun_154
                  · skip
                    have c_23 : ¬ ((3 : Int32).toInt < x_2.toInt) := fun h9 => c_23 (i_lt.mpr h9)
                    refine lv_aload_n hx hb dX8_readRun_149 rfl (lv_at hl 3 rfl) ?_
                    refine lv_iconst (v := 2) hx hb dX8_readRun_150 (by decide) ?_
                    refine pf_X8_57 hx hb hts hown hK hP hD hS 0 rfl rfl rfl (Nat.le_of_ble_eq_true rfl) dX8_readRun_151 (fun H locs hP hD hS => ?_)
                    have hP : va_P (dC, dI) vwCl [(vt, .inr (9, [.ref vt1, .ref vt2, .int vtL, .int vtli, .int x_4, .int 2, .int vtst, .int vtw, .long x_5, .int x_6, .int vtfk, .int vtfp])), (vt1, .inl (cy 0, 940, .inl vtb))] H := hP
                    have hD : va_D A [(vt, .inr (9, [.ref vt1, .ref vt2, .int vtL, .int vtli, .int x_4, .int 2, .int vtst, .int vtw, .long x_5, .int x_6, .int vtfk, .int vtfp])), (vt1, .inl (cy 0, 940, .inl vtb))] := hD
                    have k_2 : (2 : Int32).toInt = 2 := by decide
                    rw [hQ9]
                    exact re_v (x_4, (2 : Int32), x_5, x_6) hx hb hr hlocks (show 0 ≤ (x_4 : Int32).toInt ∧ (x_4 : Int32).toInt ≤ 940 from ⟨by omega, by omega⟩) (hP.sub [0, 1] rfl) (hD.sub [0, 1] rfl rfl) hS dX8_readRun_154
              · skip
                have c_21 : x_2.toInt = (0 : Int32).toInt := i_eq.mp c_21
                refine lv_iload_n hx hb dX8_readRun_126 rfl (lv_at hl 2 rfl) ?_
                refine lv_bipush (v := 7) hx hb dX8_readRun_127 (by decide) ?_
                have k_7 : (7 : Int32).toInt = 7 := by decide
                refine lv_icmp_gt (tgt := 140) hx hb dX8_readRun_129 (by decide) (fun c_24 => ?_) (fun c_24 => ?_)
                · skip
                  have c_24 : (7 : Int32).toInt < x_3.toInt := i_lt.mp c_24
                  refine lv_iload_n hx hb dX8_readRun_140 rfl (lv_at hl 2 rfl) ?_
                  refine lv_if_ne (tgt := 154) hx hb dX8_readRun_141 (by decide) (fun _ => ?_) (fun c9 => absurd (i_eq.mp c9) (by omega))
                  rw [hQ9]
                  exact re_v (x_4, (0 : Int32), x_5, x_6) hx hb hr hlocks (show 0 ≤ (x_4 : Int32).toInt ∧ (x_4 : Int32).toInt ≤ 940 from ⟨by omega, by omega⟩) (hP.sub [0, 1] rfl) (hD.sub [0, 1] rfl rfl) hS dX8_readRun_154
                · skip
                  have c_24 : ¬ ((7 : Int32).toInt < x_3.toInt) := fun h9 => c_24 (i_lt.mpr h9)
                  refine lv_aload_n hx hb dX8_readRun_132 rfl (lv_at hl 3 rfl) ?_
                  refine lv_iconst (v := 1) hx hb dX8_readRun_133 (by decide) ?_
                  refine pf_X8_57 hx hb hts hown hK hP hD hS 0 rfl rfl rfl (Nat.le_of_ble_eq_true rfl) dX8_readRun_134 (fun H locs hP hD hS => ?_)
                  have hP : va_P (dC, dI) vwCl [(vt, .inr (9, [.ref vt1, .ref vt2, .int vtL, .int vtli, .int x_4, .int 1, .int vtst, .int vtw, .long x_5, .int x_6, .int vtfk, .int vtfp])), (vt1, .inl (cy 0, 940, .inl vtb))] H := hP
                  have hD : va_D A [(vt, .inr (9, [.ref vt1, .ref vt2, .int vtL, .int vtli, .int x_4, .int 1, .int vtst, .int vtw, .long x_5, .int x_6, .int vtfk, .int vtfp])), (vt1, .inl (cy 0, 940, .inl vtb))] := hD
                  refine lv_goto (tgt := 154) hx hb dX8_readRun_137 (by decide) ?_
                  have k_1 : (1 : Int32).toInt = 1 := by decide
                  rw [hQ9]
                  exact re_v (x_4, (1 : Int32), x_5, x_6) hx hb hr hlocks (show 0 ≤ (x_4 : Int32).toInt ∧ (x_4 : Int32).toInt ≤ 940 from ⟨by omega, by omega⟩) (hP.sub [0, 1] rfl) (hD.sub [0, 1] rfl rfl) hS dX8_readRun_154
            · skip
              have c_20 : ¬ ((57 : Int32).toInt < z_13.toInt) := fun h9 => c_20 (i_lt.mpr h9)
              refine lv_aload_n hx hb dX8_readRun_85 rfl (lv_at hl 3 rfl) ?_
              refine lv_aload_n hx hb dX8_readRun_86 rfl (lv_at hl 3 rfl) ?_
              refine gf_X8_77 hx hb hts hown hK hP 0 rfl rfl dX8_readRun_87 ?_
              refine lv_bipush (v := 10) hx hb dX8_readRun_90 (by decide) ?_
              refine lv_imul hx hb dX8_readRun_92 ?_
              refine lv_topi (fun z_25 ez_25 => ?_)
              refine lv_iload_n hx hb dX8_readRun_93 rfl (lv_at hl 0 rfl) ?_
              refine lv_bipush (v := 48) hx hb dX8_readRun_94 (by decide) ?_
              refine lv_isub hx hb dX8_readRun_96 ?_
              refine lv_topi (fun z_26 ez_26 => ?_)
              have bz_26 : z_26.toInt = z_13.toInt - (48 : Int32).toInt := i_sub ez_26 (by omega) (by omega)
              refine lv_iadd hx hb dX8_readRun_97 ?_
              refine lv_topi (fun z_27 ez_27 => ?_)
              refine pf_X8_77 hx hb hts hown hK hP hD hS 0 rfl rfl rfl (Nat.le_of_ble_eq_true rfl) dX8_readRun_98 (fun H locs hP hD hS => ?_)
              have hP : va_P (dC, dI) vwCl [(vt, .inr (9, [.ref vt1, .ref vt2, .int vtL, .int vtli, .int x_4, .int vtk, .int vtst, .int vtw, .long x_5, .int z_27, .int vtfk, .int vtfp])), (vt1, .inl (cy 0, 940, .inl vtb))] H := hP
              have hD : va_D A [(vt, .inr (9, [.ref vt1, .ref vt2, .int vtL, .int vtli, .int x_4, .int vtk, .int vtst, .int vtw, .long x_5, .int z_27, .int vtfk, .int vtfp])), (vt1, .inl (cy 0, 940, .inl vtb))] := hD
              obtain ⟨z_28, ez_28⟩ : ∃ z : Int32, z = x_2 + 1 := ⟨_, rfl⟩
              refine lv_iinc (v := z_28) (lv' := [(2, .int z_28), (3, .int z_13), (1, .int x_3), (0, .ref vt)]) hx hb dX8_readRun_101 hl (k := 1) rfl ez_28.symm (by decide) rfl (fun ls hl => ?_)
              refine lv_aload_n hx hb dX8_readRun_104 rfl (lv_at hl 3 rfl) ?_
              refine lv_dup hx hb dX8_readRun_105 rfl ?_
              refine gf_X8_39 hx hb hts hown hK hP 0 rfl rfl dX8_readRun_106 ?_
              refine lv_iconst (v := 1) hx hb dX8_readRun_109 (by decide) ?_
              refine lv_iadd hx hb dX8_readRun_110 ?_
              refine lv_topi (fun z_29 ez_29 => ?_)
              have k_1 : (1 : Int32).toInt = 1 := by decide
              have bz_29 : z_29.toInt = x_4.toInt + (1 : Int32).toInt := i_add ez_29 (by omega) (by omega)
              refine pf_X8_39 hx hb hts hown hK hP hD hS 0 rfl rfl rfl (Nat.le_of_ble_eq_true rfl) dX8_readRun_111 (fun H locs hP hD hS => ?_)
              have hP : va_P (dC, dI) vwCl [(vt, .inr (9, [.ref vt1, .ref vt2, .int vtL, .int vtli, .int z_29, .int vtk, .int vtst, .int vtw, .long x_5, .int z_27, .int vtfk, .int vtfp])), (vt1, .inl (cy 0, 940, .inl vtb))] H := hP
              have hD : va_D A [(vt, .inr (9, [.ref vt1, .ref vt2, .int vtL, .int vtli, .int z_29, .int vtk, .int vtst, .int vtw, .long x_5, .int z_27, .int vtfk, .int vtfp])), (vt1, .inl (cy 0, 940, .inl vtb))] := hD
              refine lv_goto (tgt := 14) hx hb dX8_readRun_114 (by decide) ?_
              exact ih1 x_3 z_28 z_29 x_5 z_27 ⟨by omega, by omega⟩ (by omega) _ _ (hP.sub [0, 1] rfl) (hD.sub [0, 1] rfl rfl) hS ls (lv_sub hl [0, 2, 3] rfl)
        · skip
          have c_14 : ¬ (z_13.toInt < (97 : Int32).toInt) := fun h9 => c_14 (i_lt.mpr h9)
          refine lv_iload_n hx hb dX8_readRun_41 rfl (lv_at hl 0 rfl) ?_
          refine lv_bipush (v := 122) hx hb dX8_readRun_42 (by decide) ?_
          have k_122 : (122 : Int32).toInt = 122 := by decide
          refine lv_icmp_gt (tgt := 73) hx hb dX8_readRun_44 (by decide) (fun c_30 => ?_) (fun c_30 => ?_)
          · skip
            have c_30 : (122 : Int32).toInt < z_13.toInt := i_lt.mp c_30
            refine lv_iload_n hx hb dX8_readRun_73 rfl (lv_at hl 0 rfl) ?_
            refine lv_bipush (v := 48) hx hb dX8_readRun_74 (by decide) ?_
            have k_48 : (48 : Int32).toInt = 48 := by decide
            refine lv_icmp_lt (tgt := 117) hx hb dX8_readRun_76 (by decide) (fun c9 => absurd (i_lt.mp c9) (by omega)) (fun _ => ?_)
            refine lv_iload_n hx hb dX8_readRun_79 rfl (lv_at hl 0 rfl) ?_
            refine lv_bipush (v := 57) hx hb dX8_readRun_80 (by decide) ?_
            have k_57 : (57 : Int32).toInt = 57 := by decide
            refine lv_icmp_gt (tgt := 117) hx hb dX8_readRun_82 (by decide) (fun _ => ?_) (fun c9 => (c9 (i_lt.mpr (by omega))).elim)
            refine lv_aload_n hx hb dX8_readRun_117 rfl (lv_at hl 3 rfl) ?_
            refine lv_iconst (v := 0) hx hb dX8_readRun_118 (by decide) ?_
            refine pf_X8_57 hx hb hts hown hK hP hD hS 0 rfl rfl rfl (Nat.le_of_ble_eq_true rfl) dX8_readRun_119 (fun H locs hP hD hS => ?_)
            have hP : va_P (dC, dI) vwCl [(vt, .inr (9, [.ref vt1, .ref vt2, .int vtL, .int vtli, .int x_4, .int 0, .int vtst, .int vtw, .long x_5, .int x_6, .int vtfk, .int vtfp])), (vt1, .inl (cy 0, 940, .inl vtb))] H := hP
            have hD : va_D A [(vt, .inr (9, [.ref vt1, .ref vt2, .int vtL, .int vtli, .int x_4, .int 0, .int vtst, .int vtw, .long x_5, .int x_6, .int vtfk, .int vtfp])), (vt1, .inl (cy 0, 940, .inl vtb))] := hD
            refine lv_iload_n hx hb dX8_readRun_122 rfl (lv_at hl 1 rfl) ?_
            have k_0 : (0 : Int32).toInt = 0 := by decide
            refine lv_if_ne (tgt := 140) hx hb dX8_readRun_123 (by decide) (fun c_31 => ?_) (fun c_31 => ?_)
            · skip
              have c_31 : ¬ (x_2.toInt = (0 : Int32).toInt) := fun h9 => c_31 (i_eq.mpr h9)
              refine lv_iload_n hx hb dX8_readRun_140 rfl (lv_at hl 2 rfl) ?_
              refine lv_if_ne (tgt := 154) hx hb dX8_readRun_141 (by decide) (fun c_32 => ?_) (fun c_32 => ?_)
              · skip
                have c_32 : ¬ (x_3.toInt = (0 : Int32).toInt) := fun h9 => c_32 (i_eq.mpr h9)
                rw [hQ9]
                exact re_v (x_4, (0 : Int32), x_5, x_6) hx hb hr hlocks (show 0 ≤ (x_4 : Int32).toInt ∧ (x_4 : Int32).toInt ≤ 940 from ⟨by omega, by omega⟩) (hP.sub [0, 1] rfl) (hD.sub [0, 1] rfl rfl) hS dX8_readRun_154
              · skip
                have c_32 : x_3.toInt = (0 : Int32).toInt := i_eq.mp c_32
                refine lv_iload_n hx hb dX8_readRun_144 rfl (lv_at hl 1 rfl) ?_
                refine lv_iconst (v := 3) hx hb dX8_readRun_145 (by decide) ?_
                have k_3 : (3 : Int32).toInt = 3 := by decide
                refine lv_icmp_gt (tgt := 154) hx hb dX8_readRun_146 (by decide) (fun c_33 => ?_) (fun c_33 => ?_)
                · skip
                  have c_33 : (3 : Int32).toInt < x_2.toInt := i_lt.mp c_33
                  rw [hQ9]
                  exact re_v (x_4, (0 : Int32), x_5, x_6) hx hb hr hlocks (show 0 ≤ (x_4 : Int32).toInt ∧ (x_4 : Int32).toInt ≤ 940 from ⟨by omega, by omega⟩) (hP.sub [0, 1] rfl) (hD.sub [0, 1] rfl rfl) hS dX8_readRun_154
                · skip
                  have c_33 : ¬ ((3 : Int32).toInt < x_2.toInt) := fun h9 => c_33 (i_lt.mpr h9)
                  refine lv_aload_n hx hb dX8_readRun_149 rfl (lv_at hl 3 rfl) ?_
                  refine lv_iconst (v := 2) hx hb dX8_readRun_150 (by decide) ?_
                  refine pf_X8_57 hx hb hts hown hK hP hD hS 0 rfl rfl rfl (Nat.le_of_ble_eq_true rfl) dX8_readRun_151 (fun H locs hP hD hS => ?_)
                  have hP : va_P (dC, dI) vwCl [(vt, .inr (9, [.ref vt1, .ref vt2, .int vtL, .int vtli, .int x_4, .int 2, .int vtst, .int vtw, .long x_5, .int x_6, .int vtfk, .int vtfp])), (vt1, .inl (cy 0, 940, .inl vtb))] H := hP
                  have hD : va_D A [(vt, .inr (9, [.ref vt1, .ref vt2, .int vtL, .int vtli, .int x_4, .int 2, .int vtst, .int vtw, .long x_5, .int x_6, .int vtfk, .int vtfp])), (vt1, .inl (cy 0, 940, .inl vtb))] := hD
                  have k_2 : (2 : Int32).toInt = 2 := by decide
                  rw [hQ9]
                  exact re_v (x_4, (2 : Int32), x_5, x_6) hx hb hr hlocks (show 0 ≤ (x_4 : Int32).toInt ∧ (x_4 : Int32).toInt ≤ 940 from ⟨by omega, by omega⟩) (hP.sub [0, 1] rfl) (hD.sub [0, 1] rfl rfl) hS dX8_readRun_154
            · skip
              have c_31 : x_2.toInt = (0 : Int32).toInt := i_eq.mp c_31
              refine lv_iload_n hx hb dX8_readRun_126 rfl (lv_at hl 2 rfl) ?_
              refine lv_bipush (v := 7) hx hb dX8_readRun_127 (by decide) ?_
              have k_7 : (7 : Int32).toInt = 7 := by decide
              refine lv_icmp_gt (tgt := 140) hx hb dX8_readRun_129 (by decide) (fun c_34 => ?_) (fun c_34 => ?_)
              · skip
                have c_34 : (7 : Int32).toInt < x_3.toInt := i_lt.mp c_34
                refine lv_iload_n hx hb dX8_readRun_140 rfl (lv_at hl 2 rfl) ?_
                refine lv_if_ne (tgt := 154) hx hb dX8_readRun_141 (by decide) (fun _ => ?_) (fun c9 => absurd (i_eq.mp c9) (by omega))
                rw [hQ9]
                exact re_v (x_4, (0 : Int32), x_5, x_6) hx hb hr hlocks (show 0 ≤ (x_4 : Int32).toInt ∧ (x_4 : Int32).toInt ≤ 940 from ⟨by omega, by omega⟩) (hP.sub [0, 1] rfl) (hD.sub [0, 1] rfl rfl) hS dX8_readRun_154
              · skip
                have c_34 : ¬ ((7 : Int32).toInt < x_3.toInt) := fun h9 => c_34 (i_lt.mpr h9)
                refine lv_aload_n hx hb dX8_readRun_132 rfl (lv_at hl 3 rfl) ?_
                refine lv_iconst (v := 1) hx hb dX8_readRun_133 (by decide) ?_
                refine pf_X8_57 hx hb hts hown hK hP hD hS 0 rfl rfl rfl (Nat.le_of_ble_eq_true rfl) dX8_readRun_134 (fun H locs hP hD hS => ?_)
                have hP : va_P (dC, dI) vwCl [(vt, .inr (9, [.ref vt1, .ref vt2, .int vtL, .int vtli, .int x_4, .int 1, .int vtst, .int vtw, .long x_5, .int x_6, .int vtfk, .int vtfp])), (vt1, .inl (cy 0, 940, .inl vtb))] H := hP
                have hD : va_D A [(vt, .inr (9, [.ref vt1, .ref vt2, .int vtL, .int vtli, .int x_4, .int 1, .int vtst, .int vtw, .long x_5, .int x_6, .int vtfk, .int vtfp])), (vt1, .inl (cy 0, 940, .inl vtb))] := hD
                refine lv_goto (tgt := 154) hx hb dX8_readRun_137 (by decide) ?_
                have k_1 : (1 : Int32).toInt = 1 := by decide
                rw [hQ9]
                exact re_v (x_4, (1 : Int32), x_5, x_6) hx hb hr hlocks (show 0 ≤ (x_4 : Int32).toInt ∧ (x_4 : Int32).toInt ≤ 940 from ⟨by omega, by omega⟩) (hP.sub [0, 1] rfl) (hD.sub [0, 1] rfl rfl) hS dX8_readRun_154
          · skip
            have c_30 : ¬ ((122 : Int32).toInt < z_13.toInt) := fun h9 => c_30 (i_lt.mpr h9)
            refine lv_aload_n hx hb dX8_readRun_47 rfl (lv_at hl 3 rfl) ?_
            refine lv_aload_n hx hb dX8_readRun_48 rfl (lv_at hl 3 rfl) ?_
            refine gf_X8_73 hx hb hts hown hK hP 0 rfl rfl dX8_readRun_49 ?_
            refine lv_ldc2 hx hb hown (hts _ t92) dX8_readRun_52 ?_
            refine lv_lmul hx hb dX8_readRun_55 ?_
            refine lv_topl (fun y_35 ey_35 => ?_)
            refine lv_iload_n hx hb dX8_readRun_56 rfl (lv_at hl 0 rfl) ?_
            refine lv_bipush (v := 97) hx hb dX8_readRun_57 (by decide) ?_
            refine lv_isub hx hb dX8_readRun_59 ?_
            refine lv_topi (fun z_36 ez_36 => ?_)
            have bz_36 : z_36.toInt = z_13.toInt - (97 : Int32).toInt := i_sub ez_36 (by omega) (by omega)
            refine lv_iconst (v := 1) hx hb dX8_readRun_60 (by decide) ?_
            refine lv_iadd hx hb dX8_readRun_61 ?_
            refine lv_topi (fun z_37 ez_37 => ?_)
            have k_1 : (1 : Int32).toInt = 1 := by decide
            have bz_37 : z_37.toInt = z_36.toInt + (1 : Int32).toInt := i_add ez_37 (by omega) (by omega)
            refine lv_i2l hx hb dX8_readRun_62 rfl ?_
            refine lv_topl (fun y_38 ey_38 => ?_)
            refine lv_ladd hx hb dX8_readRun_63 ?_
            refine lv_topl (fun y_39 ey_39 => ?_)
            refine pf_X8_73 hx hb hts hown hK hP hD hS 0 rfl rfl rfl (Nat.le_of_ble_eq_true rfl) dX8_readRun_64 (fun H locs hP hD hS => ?_)
            have hP : va_P (dC, dI) vwCl [(vt, .inr (9, [.ref vt1, .ref vt2, .int vtL, .int vtli, .int x_4, .int vtk, .int vtst, .int vtw, .long y_39, .int x_6, .int vtfk, .int vtfp])), (vt1, .inl (cy 0, 940, .inl vtb))] H := hP
            have hD : va_D A [(vt, .inr (9, [.ref vt1, .ref vt2, .int vtL, .int vtli, .int x_4, .int vtk, .int vtst, .int vtw, .long y_39, .int x_6, .int vtfk, .int vtfp])), (vt1, .inl (cy 0, 940, .inl vtb))] := hD
            obtain ⟨z_40, ez_40⟩ : ∃ z : Int32, z = x_3 + 1 := ⟨_, rfl⟩
            refine lv_iinc (v := z_40) (lv' := [(1, .int z_40), (3, .int z_13), (2, .int x_2), (0, .ref vt)]) hx hb dX8_readRun_67 hl (k := 2) rfl ez_40.symm (by decide) rfl (fun ls hl => ?_)
            refine lv_goto (tgt := 104) hx hb dX8_readRun_70 (by decide) ?_
            refine lv_aload_n hx hb dX8_readRun_104 rfl (lv_at hl 3 rfl) ?_
            refine lv_dup hx hb dX8_readRun_105 rfl ?_
            refine gf_X8_39 hx hb hts hown hK hP 0 rfl rfl dX8_readRun_106 ?_
            refine lv_iconst (v := 1) hx hb dX8_readRun_109 (by decide) ?_
            refine lv_iadd hx hb dX8_readRun_110 ?_
            refine lv_topi (fun z_41 ez_41 => ?_)
            have bz_41 : z_41.toInt = x_4.toInt + (1 : Int32).toInt := i_add ez_41 (by omega) (by omega)
            refine pf_X8_39 hx hb hts hown hK hP hD hS 0 rfl rfl rfl (Nat.le_of_ble_eq_true rfl) dX8_readRun_111 (fun H locs hP hD hS => ?_)
            have hP : va_P (dC, dI) vwCl [(vt, .inr (9, [.ref vt1, .ref vt2, .int vtL, .int vtli, .int z_41, .int vtk, .int vtst, .int vtw, .long y_39, .int x_6, .int vtfk, .int vtfp])), (vt1, .inl (cy 0, 940, .inl vtb))] H := hP
            have hD : va_D A [(vt, .inr (9, [.ref vt1, .ref vt2, .int vtL, .int vtli, .int z_41, .int vtk, .int vtst, .int vtw, .long y_39, .int x_6, .int vtfk, .int vtfp])), (vt1, .inl (cy 0, 940, .inl vtb))] := hD
            refine lv_goto (tgt := 14) hx hb dX8_readRun_114 (by decide) ?_
            exact ih1 z_40 x_2 z_41 y_39 x_6 ⟨by omega, by omega⟩ (by omega) _ _ (hP.sub [0, 1] rfl) (hD.sub [0, 1] rfl rfl) hS ls (lv_sub hl [2, 0, 3] rfl)
  have k_0 : (0 : Int32).toInt = 0 := by decide
  exact loop1 ((940 - vta.toInt).toNat + 1) 0 0 vta 0 0 ⟨by omega, by omega⟩ (by omega) _ _ hP hD hS ls (lv_sub hl [0, 1, 2] rfl)
abbrev O_g_advance (cy : Nat → ClassId) (vt : Nat) (vt1 : Nat) (vt2 : Nat) (vtL : Int32) (vtli : Int32) (vta : Int32) (vtk : Int32) (vtst : Int32) (vtw : Int32) (vtc : Int64) (vtn : Int32) (vtfk : Int32) (vtfp : Int32) (vtb : Nat → Int32) (vtco : Nat → Int64) (u : Int32 × Int32 × Int32 × Int32 × Int64 × Int32) : va_W := [(vt, .inr (9, [.ref vt1, .ref vt2, .int vtL, .int vtli, .int u.1, .int u.2.2.2.1, .int u.2.1, .int u.2.2.1, .long u.2.2.2.2.1, .int u.2.2.2.2.2, .int vtfk, .int vtfp])), (vt1, .inl (cy 0, 940, .inl vtb)), (vt2, .inl (cy 1, 29, .inr (.inl vtco)))]
set_option maxHeartbeats 4000000 in
set_option maxRecDepth 100000 in
theorem g_advance (l : Launch) (dC : Nat → ClassId) (dI : Nat → Nat → Nat) (cy : Nat → ClassId) (sz : Nat) (vt : Nat) (vt1 : Nat) (vt2 : Nat) (vtL : Int32) (vtli : Int32) (vta : Int32) (vtk : Int32) (vtst : Int32) (vtw : Int32) (vtc : Int64) (vtn : Int32) (vtfk : Int32) (vtfp : Int32) (vtb : Nat → Int32) (vtco : Nat → Int64) (r_vtL : 0 ≤ (vtL : Int32).toInt ∧ (vtL : Int32).toInt ≤ 940) (r_vta : 0 ≤ (vta : Int32).toInt ∧ (vta : Int32).toInt ≤ 940) (p_vtb : Rg vtb 940 0 255) : Met l yX8_advance (wl yX8_advance cX8_advance 1 none) ({ frames := 1, cells := 0, slots := 0, locals := 64 }) (Pw (dC, dI) vwCl cy [(vt, .inr (9, [.ref vt1, .ref vt2, .int vtL, .int vtli, .int vta, .int vtk, .int vtst, .int vtw, .long vtc, .int vtn, .int vtfk, .int vtfp])), (vt1, .inl (cy 0, 940, .inl vtb)), (vt2, .inl (cy 1, 29, .inr (.inl vtco)))] sz [.ref vt] nE) (Qv (dC, dI) vwCl (fun (u : Int32 × Int32 × Int32 × Int32 × Int64 × Int32) => (0 ≤ (u.1 : Int32).toInt ∧ (u.1 : Int32).toInt ≤ 940)) (O_g_advance cy vt vt1 vt2 vtL vtli vta vtk vtst vtw vtc vtn vtfk vtfp vtb vtco) (va_A [(vt, .inr (9, [.ref vt1, .ref vt2, .int vtL, .int vtli, .int vta, .int vtk, .int vtst, .int vtw, .long vtc, .int vtn, .int vtfk, .int vtfp])), (vt1, .inl (cy 0, 940, .inl vtb)), (vt2, .inl (cy 1, 29, .inr (.inl vtco)))] sz)) 0 0 (va_A [(vt, .inr (9, [.ref vt1, .ref vt2, .int vtL, .int vtli, .int vta, .int vtk, .int vtst, .int vtw, .long vtc, .int vtn, .int vtfk, .int vtfp])), (vt1, .inl (cy 0, 940, .inl vtb)), (vt2, .inl (cy 1, 29, .inr (.inl vtco)))] sz) := by
  refine mw (Qc := Qv (dC, dI) vwCl (fun (u : Int32 × Int32 × Int32 × Int32 × Int64 × Int32) => (0 ≤ (u.1 : Int32).toInt ∧ (u.1 : Int32).toInt ≤ 940)) (O_g_advance cy vt vt1 vt2 vtL vtli vta vtk vtst vtw vtc vtn vtfk vtfp vtb vtco)) RX8 rfl (by decide +kernel) (Nat.le_of_ble_eq_true rfl) ?_
  intro p e s m below meth c A hx hb hr hlocks av9 hav hts hown hnm hml hK hP hD hA hS hE hAe Q9 hQ9 ls hl
  have hl : lv_has ls 1 [(0, .ref vt)] := hl
  have loop1 : ∀ (n1 : Nat) (x_2 : Int32), (0 ≤ x_2.toInt ∧ x_2.toInt ≤ 940) → 940 - x_2.toInt < (n1 : Int) → ∀ (H : Heap) (locs : List Loc), va_P (dC, dI) vwCl [(vt, .inr (9, [.ref vt1, .ref vt2, .int vtL, .int vtli, .int x_2, .int vtk, .int vtst, .int vtw, .long vtc, .int vtn, .int vtfk, .int vtfp])), (vt1, .inl (cy 0, 940, .inl vtb)), (vt2, .inl (cy 1, 29, .inr (.inl vtco)))] H → va_D A [(vt, .inr (9, [.ref vt1, .ref vt2, .int vtL, .int vtli, .int x_2, .int vtk, .int vtst, .int vtw, .long vtc, .int vtn, .int vtfk, .int vtfp])), (vt1, .inl (cy 0, 940, .inl vtb)), (vt2, .inl (cy 1, 29, .inr (.inl vtco)))] → va_S A s.heap H locs → ∀ ls : Array Slot, lv_has ls 1 [(0, .ref vt)] → W p l e ({ frames := 1, cells := 0, slots := 0, locals := 64 }) s m av9 below meth c H locs 0 0 Q9 (F0 m 0 ls []) := by
    intro n1
    induction n1 with
    | zero =>
      intro x_2 bx_2 hn1 H locs hP hD hS ls hl
      exfalso; omega
    | succ n1 ih1 =>
      intro x_2 bx_2 hn1 H locs hP hD hS ls hl
      refine lv_aload_n hx hb dX8_advance_0 rfl (lv_at hl 0 rfl) ?_
      refine gf_X8_39 hx hb hts hown hK hP 0 rfl rfl dX8_advance_1 ?_
      refine lv_aload_n hx hb dX8_advance_4 rfl (lv_at hl 0 rfl) ?_
      refine gf_X8_33 hx hb hts hown hK hP 0 rfl rfl dX8_advance_5 ?_
      refine lv_icmp_ge (tgt := 52) hx hb dX8_advance_8 (by decide) (fun c_3 => ?_) (fun c_3 => ?_)
      · skip
        have c_3 : vtL.toInt ≤ x_2.toInt := i_le.mp c_3
        refine lv_aload_n hx hb dX8_advance_52 rfl (lv_at hl 0 rfl) ?_
        refine lv_aload_n hx hb dX8_advance_53 rfl (lv_at hl 0 rfl) ?_
        refine gf_X8_39 hx hb hts hown hK hP 0 rfl rfl dX8_advance_54 ?_
        refine pf_X8_51 hx hb hts hown hK hP hD hS 0 rfl rfl rfl (Nat.le_of_ble_eq_true rfl) dX8_advance_57 (fun H locs hP hD hS => ?_)
        have hP : va_P (dC, dI) vwCl [(vt, .inr (9, [.ref vt1, .ref vt2, .int vtL, .int vtli, .int x_2, .int vtk, .int x_2, .int vtw, .long vtc, .int vtn, .int vtfk, .int vtfp])), (vt1, .inl (cy 0, 940, .inl vtb)), (vt2, .inl (cy 1, 29, .inr (.inl vtco)))] H := hP
        have hD : va_D A [(vt, .inr (9, [.ref vt1, .ref vt2, .int vtL, .int vtli, .int x_2, .int vtk, .int x_2, .int vtw, .long vtc, .int vtn, .int vtfk, .int vtfp])), (vt1, .inl (cy 0, 940, .inl vtb)), (vt2, .inl (cy 1, 29, .inr (.inl vtco)))] := hD
        refine lv_aload_n hx hb dX8_advance_60 rfl (lv_at hl 0 rfl) ?_
        refine lv_iconst (v := (-1)) hx hb dX8_advance_61 (by decide) ?_
        refine pf_X8_54 hx hb hts hown hK hP hD hS 0 rfl rfl rfl (Nat.le_of_ble_eq_true rfl) dX8_advance_62 (fun H locs hP hD hS => ?_)
        have hP : va_P (dC, dI) vwCl [(vt, .inr (9, [.ref vt1, .ref vt2, .int vtL, .int vtli, .int x_2, .int vtk, .int x_2, .int (-1), .long vtc, .int vtn, .int vtfk, .int vtfp])), (vt1, .inl (cy 0, 940, .inl vtb)), (vt2, .inl (cy 1, 29, .inr (.inl vtco)))] H := hP
        have hD : va_D A [(vt, .inr (9, [.ref vt1, .ref vt2, .int vtL, .int vtli, .int x_2, .int vtk, .int x_2, .int (-1), .long vtc, .int vtn, .int vtfk, .int vtfp])), (vt1, .inl (cy 0, 940, .inl vtb)), (vt2, .inl (cy 1, 29, .inr (.inl vtco)))] := hD
        refine lv_aload_n hx hb dX8_advance_65 rfl (lv_at hl 0 rfl) ?_
        refine gf_X8_33 hx hb hts hown hK hP 0 rfl rfl dX8_advance_66 ?_
        refine lv_aload_n hx hb dX8_advance_69 rfl (lv_at hl 0 rfl) ?_
        refine gf_X8_36 hx hb hts hown hK hP 0 rfl rfl dX8_advance_70 ?_
        refine lv_icmp_le (tgt := 103) hx hb dX8_advance_73 (by decide) (fun c_4 => ?_) (fun c_4 => ?_)
        · skip
          have c_4 : vtL.toInt ≤ vtli.toInt := i_le.mp c_4
          refine lv_aload_n hx hb dX8_advance_103 rfl (lv_at hl 0 rfl) ?_
          refine gf_X8_39 hx hb hts hown hK hP 0 rfl rfl dX8_advance_104 ?_
          refine lv_aload_n hx hb dX8_advance_107 rfl (lv_at hl 0 rfl) ?_
          refine gf_X8_33 hx hb hts hown hK hP 0 rfl rfl dX8_advance_108 ?_
          refine lv_icmp_lt (tgt := 122) hx hb dX8_advance_111 (by decide) (fun c_5 => ?_) (fun c_5 => ?_)
          · skip
            have c_5 : x_2.toInt < vtL.toInt := i_lt.mp c_5
            refine lv_aload_n hx hb dX8_advance_122 rfl (lv_at hl 0 rfl) ?_
            refine gf_X8_9 hx hb hts hown hK hP 0 rfl rfl dX8_advance_123 ?_
            refine lv_aload_n hx hb dX8_advance_126 rfl (lv_at hl 0 rfl) ?_
            refine gf_X8_39 hx hb hts hown hK hP 0 rfl rfl dX8_advance_127 ?_
            have hin_6 : vp_in x_2 940 := vp_in_iff.mpr ⟨by omega, by omega⟩
            refine va_iald hx hb hK hP 1 0 rfl rfl hin_6 dX8_advance_130 ?_
            refine lv_topi (fun z_7 ez_7 => ?_)
            have bz_7 := p_vtb.at hin_6 ez_7
            refine jr_i (rSr (As := [.int z_7]) (rest := []) ⟨hx, hb, hml, hown, hts⟩ (g_isOfRun l dC dI cy z_7 ) (cw_X8_60 hts rfl rfl ⟨Nat.le_of_ble_eq_true rfl, Nat.le_of_ble_eq_true rfl⟩) hP hK [] rfl rfl hl.1 rfl (Nat.le_of_ble_eq_true rfl) dX8_advance_131 ⟨Nat.le_of_ble_eq_true rfl, Nat.le_of_ble_eq_true rfl⟩) hP hS (fun r_8 H locs hp_9 hP hS => ?_)
            have hp_9 : ((r_8 = 0) ∨ (r_8 = 1)) := hp_9
            have q_10 := hp_9
            rcases q_10 with aq_10 | aq_10
            · skip
              refine as_i 0 aq_10 ?_
              refine lv_if_eq (tgt := 164) hx hb dX8_advance_134 (by decide) (fun _ => ?_) (fun c9 => absurd (by decide) c9)
              refine lv_aload_n hx hb dX8_advance_164 rfl (lv_at hl 0 rfl) ?_
              refine lv_aload_n hx hb dX8_advance_165 rfl (lv_at hl 0 rfl) ?_
              refine gf_X8_9 hx hb hts hown hK hP 0 rfl rfl dX8_advance_166 ?_
              refine lv_aload_n hx hb dX8_advance_169 rfl (lv_at hl 0 rfl) ?_
              refine gf_X8_39 hx hb hts hown hK hP 0 rfl rfl dX8_advance_170 ?_
              have hin_11 : vp_in x_2 940 := vp_in_iff.mpr ⟨by omega, by omega⟩
              refine va_iald hx hb hK hP 1 0 rfl rfl hin_11 dX8_advance_173 ?_
              refine lv_topi (fun z_12 ez_12 => ?_)
              have bz_12 := p_vtb.at hin_11 ez_12
              refine jr_i (rSr (As := [.int z_12]) (rest := [.ref vt]) ⟨hx, hb, hml, hown, hts⟩ (g_isSign l dC dI cy z_12 ) (cw_X8_70 hts rfl rfl ⟨Nat.le_of_ble_eq_true rfl, Nat.le_of_ble_eq_true rfl⟩) hP hK [] rfl rfl hl.1 rfl (Nat.le_of_ble_eq_true rfl) dX8_advance_174 ⟨Nat.le_of_ble_eq_true rfl, Nat.le_of_ble_eq_true rfl⟩) hP hS (fun r_13 H locs hp_14 hP hS => ?_)
              have hp_14 : ((r_13 = 0) ∨ (r_13 = 1)) := hp_14
              have q_15 := hp_14
              rcases q_15 with aq_15 | aq_15
              · skip
                refine as_i 0 aq_15 ?_
                refine lv_if_eq (tgt := 192) hx hb dX8_advance_177 (by decide) (fun _ => ?_) (fun c9 => absurd (by decide) c9)
                refine lv_iconst (v := 0) hx hb dX8_advance_192 (by decide) ?_
                refine pf_X8_57 hx hb hts hown hK hP hD hS 0 rfl rfl rfl (Nat.le_of_ble_eq_true rfl) dX8_advance_193 (fun H locs hP hD hS => ?_)
                have hP : va_P (dC, dI) vwCl [(vt, .inr (9, [.ref vt1, .ref vt2, .int vtL, .int vtli, .int x_2, .int 0, .int x_2, .int (-1), .long vtc, .int vtn, .int vtfk, .int vtfp])), (vt1, .inl (cy 0, 940, .inl vtb)), (vt2, .inl (cy 1, 29, .inr (.inl vtco)))] H := hP
                have hD : va_D A [(vt, .inr (9, [.ref vt1, .ref vt2, .int vtL, .int vtli, .int x_2, .int 0, .int x_2, .int (-1), .long vtc, .int vtn, .int vtfk, .int vtfp])), (vt1, .inl (cy 0, 940, .inl vtb)), (vt2, .inl (cy 1, 29, .inr (.inl vtco)))] := hD
                refine lv_aload_n hx hb dX8_advance_196 rfl (lv_at hl 0 rfl) ?_
                refine lv_dup hx hb dX8_advance_197 rfl ?_
                refine gf_X8_39 hx hb hts hown hK hP 0 rfl rfl dX8_advance_198 ?_
                refine lv_iconst (v := 1) hx hb dX8_advance_201 (by decide) ?_
                refine lv_iadd hx hb dX8_advance_202 ?_
                refine lv_topi (fun z_16 ez_16 => ?_)
                have k_1 : (1 : Int32).toInt = 1 := by decide
                have bz_16 : z_16.toInt = x_2.toInt + (1 : Int32).toInt := i_add ez_16 (by omega) (by omega)
                refine pf_X8_39 hx hb hts hown hK hP hD hS 0 rfl rfl rfl (Nat.le_of_ble_eq_true rfl) dX8_advance_203 (fun H locs hP hD hS => ?_)
                have hP : va_P (dC, dI) vwCl [(vt, .inr (9, [.ref vt1, .ref vt2, .int vtL, .int vtli, .int z_16, .int 0, .int x_2, .int (-1), .long vtc, .int vtn, .int vtfk, .int vtfp])), (vt1, .inl (cy 0, 940, .inl vtb)), (vt2, .inl (cy 1, 29, .inr (.inl vtco)))] H := hP
                have hD : va_D A [(vt, .inr (9, [.ref vt1, .ref vt2, .int vtL, .int vtli, .int z_16, .int 0, .int x_2, .int (-1), .long vtc, .int vtn, .int vtfk, .int vtfp])), (vt1, .inl (cy 0, 940, .inl vtb)), (vt2, .inl (cy 1, 29, .inr (.inl vtco)))] := hD
                have k_m1 : ((-1) : Int32).toInt = (-1) := by decide
                have k_0 : (0 : Int32).toInt = 0 := by decide
                rw [hQ9]
                exact re_v (z_16, x_2, ((-1) : Int32), (0 : Int32), vtc, vtn) hx hb hr hlocks (show 0 ≤ (z_16 : Int32).toInt ∧ (z_16 : Int32).toInt ≤ 940 from ⟨by omega, by omega⟩) (hP.sub [0, 1, 2] rfl) (hD.sub [0, 1, 2] rfl rfl) hS dX8_advance_206
              · skip
                refine as_i 1 aq_15 ?_
                refine lv_if_eq (tgt := 192) hx hb dX8_advance_177 (by decide) (fun c9 => absurd c9 (by decide)) (fun _ => ?_)
                refine lv_aload_n hx hb dX8_advance_180 rfl (lv_at hl 0 rfl) ?_
                refine gf_X8_9 hx hb hts hown hK hP 0 rfl rfl dX8_advance_181 ?_
                refine lv_aload_n hx hb dX8_advance_184 rfl (lv_at hl 0 rfl) ?_
                refine gf_X8_39 hx hb hts hown hK hP 0 rfl rfl dX8_advance_185 ?_
                have hin_17 : vp_in x_2 940 := vp_in_iff.mpr ⟨by omega, by omega⟩
                refine va_iald hx hb hK hP 1 0 rfl rfl hin_17 dX8_advance_188 ?_
                refine lv_topi (fun z_18 ez_18 => ?_)
                have bz_18 := p_vtb.at hin_17 ez_18
                refine lv_goto (tgt := 193) hx hb dX8_advance_189 (by decide) ?_
                refine pf_X8_57 hx hb hts hown hK hP hD hS 0 rfl rfl rfl (Nat.le_of_ble_eq_true rfl) dX8_advance_193 (fun H locs hP hD hS => ?_)
                have hP : va_P (dC, dI) vwCl [(vt, .inr (9, [.ref vt1, .ref vt2, .int vtL, .int vtli, .int x_2, .int z_18, .int x_2, .int (-1), .long vtc, .int vtn, .int vtfk, .int vtfp])), (vt1, .inl (cy 0, 940, .inl vtb)), (vt2, .inl (cy 1, 29, .inr (.inl vtco)))] H := hP
                have hD : va_D A [(vt, .inr (9, [.ref vt1, .ref vt2, .int vtL, .int vtli, .int x_2, .int z_18, .int x_2, .int (-1), .long vtc, .int vtn, .int vtfk, .int vtfp])), (vt1, .inl (cy 0, 940, .inl vtb)), (vt2, .inl (cy 1, 29, .inr (.inl vtco)))] := hD
                refine lv_aload_n hx hb dX8_advance_196 rfl (lv_at hl 0 rfl) ?_
                refine lv_dup hx hb dX8_advance_197 rfl ?_
                refine gf_X8_39 hx hb hts hown hK hP 0 rfl rfl dX8_advance_198 ?_
                refine lv_iconst (v := 1) hx hb dX8_advance_201 (by decide) ?_
                refine lv_iadd hx hb dX8_advance_202 ?_
                refine lv_topi (fun z_19 ez_19 => ?_)
                have k_1 : (1 : Int32).toInt = 1 := by decide
                have bz_19 : z_19.toInt = x_2.toInt + (1 : Int32).toInt := i_add ez_19 (by omega) (by omega)
                refine pf_X8_39 hx hb hts hown hK hP hD hS 0 rfl rfl rfl (Nat.le_of_ble_eq_true rfl) dX8_advance_203 (fun H locs hP hD hS => ?_)
                have hP : va_P (dC, dI) vwCl [(vt, .inr (9, [.ref vt1, .ref vt2, .int vtL, .int vtli, .int z_19, .int z_18, .int x_2, .int (-1), .long vtc, .int vtn, .int vtfk, .int vtfp])), (vt1, .inl (cy 0, 940, .inl vtb)), (vt2, .inl (cy 1, 29, .inr (.inl vtco)))] H := hP
                have hD : va_D A [(vt, .inr (9, [.ref vt1, .ref vt2, .int vtL, .int vtli, .int z_19, .int z_18, .int x_2, .int (-1), .long vtc, .int vtn, .int vtfk, .int vtfp])), (vt1, .inl (cy 0, 940, .inl vtb)), (vt2, .inl (cy 1, 29, .inr (.inl vtco)))] := hD
                have k_m1 : ((-1) : Int32).toInt = (-1) := by decide
                rw [hQ9]
                exact re_v (z_19, x_2, ((-1) : Int32), z_18, vtc, vtn) hx hb hr hlocks (show 0 ≤ (z_19 : Int32).toInt ∧ (z_19 : Int32).toInt ≤ 940 from ⟨by omega, by omega⟩) (hP.sub [0, 1, 2] rfl) (hD.sub [0, 1, 2] rfl rfl) hS dX8_advance_206
            · skip
              refine as_i 1 aq_10 ?_
              refine lv_if_eq (tgt := 164) hx hb dX8_advance_134 (by decide) (fun c9 => absurd c9 (by decide)) (fun _ => ?_)
              refine lv_aload_n hx hb dX8_advance_137 rfl (lv_at hl 0 rfl) ?_
              have k_m1 : ((-1) : Int32).toInt = (-1) := by decide
              refine jn_v (wr := [(vt2, .inl (cy 1, 29, .inr (.inl vtco)))]) (rV (As := []) (rest := []) (ci := 9) ⟨hx, hb, hml, hown, hts⟩ (g_readRun l dC dI cy _ vt vt1 vt2 vtL vtli x_2 vtk x_2 (-1) vtc vtn vtfk vtfp vtb r_vtL ⟨by omega, by omega⟩ p_vtb) (cw_X8_64 hts rfl rfl ⟨Nat.le_of_ble_eq_true rfl, Nat.le_of_ble_eq_true rfl⟩) hP hD hK [0, 1] rfl rfl rfl rfl bl0 e0 rfl hl.1 rfl (Nat.le_of_ble_eq_true rfl) dX8_advance_138 ⟨Nat.le_of_ble_eq_true rfl, Nat.le_of_ble_eq_true rfl⟩) hP hD hS hA [0, 1] [2] rfl rfl rfl (by decide) (fun u_22 H locs hp_21 hP hD hS => ?_)
              obtain ⟨vta_23, vtk_24, vtc_25, vtn_26⟩ := u_22
              have hp_21 : (0 ≤ (vta_23 : Int32).toInt ∧ (vta_23 : Int32).toInt ≤ 940) := hp_21
              have q_27 := hp_21
              have hP : va_P (dC, dI) vwCl [(vt2, .inl (cy 1, 29, .inr (.inl vtco))), (vt, .inr (9, [.ref vt1, .ref vt2, .int vtL, .int vtli, .int vta_23, .int vtk_24, .int x_2, .int (-1), .long vtc_25, .int vtn_26, .int vtfk, .int vtfp])), (vt1, .inl (cy 0, 940, .inl vtb))] H := hP
              have hD : va_D A [(vt2, .inl (cy 1, 29, .inr (.inl vtco))), (vt, .inr (9, [.ref vt1, .ref vt2, .int vtL, .int vtli, .int vta_23, .int vtk_24, .int x_2, .int (-1), .long vtc_25, .int vtn_26, .int vtfk, .int vtfp])), (vt1, .inl (cy 0, 940, .inl vtb))] := hD
              refine lv_aload_n hx hb dX8_advance_141 rfl (lv_at hl 0 rfl) ?_
              refine lv_aload_n hx hb dX8_advance_142 rfl (lv_at hl 0 rfl) ?_
              refine gf_X8_57 hx hb hts hown hK hP 1 rfl rfl dX8_advance_143 ?_
              refine lv_iconst (v := 1) hx hb dX8_advance_146 (by decide) ?_
              have k_1 : (1 : Int32).toInt = 1 := by decide
              refine lv_icmp_ne (tgt := 157) hx hb dX8_advance_147 (by decide) (fun c_28 => ?_) (fun c_28 => ?_)
              · skip
                have c_28 : ¬ (vtk_24.toInt = (1 : Int32).toInt) := fun h9 => c_28 (i_eq.mpr h9)
                refine lv_iconst (v := (-1)) hx hb dX8_advance_157 (by decide) ?_
                refine pf_X8_54 hx hb hts hown hK hP hD hS 1 rfl rfl rfl (Nat.le_of_ble_eq_true rfl) dX8_advance_158 (fun H locs hP hD hS => ?_)
                have hP : va_P (dC, dI) vwCl [(vt2, .inl (cy 1, 29, .inr (.inl vtco))), (vt, .inr (9, [.ref vt1, .ref vt2, .int vtL, .int vtli, .int vta_23, .int vtk_24, .int x_2, .int (-1), .long vtc_25, .int vtn_26, .int vtfk, .int vtfp])), (vt1, .inl (cy 0, 940, .inl vtb))] H := hP
                have hD : va_D A [(vt2, .inl (cy 1, 29, .inr (.inl vtco))), (vt, .inr (9, [.ref vt1, .ref vt2, .int vtL, .int vtli, .int vta_23, .int vtk_24, .int x_2, .int (-1), .long vtc_25, .int vtn_26, .int vtfk, .int vtfp])), (vt1, .inl (cy 0, 940, .inl vtb))] := hD
                refine lv_goto (tgt := 206) hx hb dX8_advance_161 (by decide) ?_
                rw [hQ9]
                exact re_v (vta_23, x_2, ((-1) : Int32), vtk_24, vtc_25, vtn_26) hx hb hr hlocks (show 0 ≤ (vta_23 : Int32).toInt ∧ (vta_23 : Int32).toInt ≤ 940 from ⟨by omega, by omega⟩) (hP.sub [1, 2, 0] rfl) (hD.sub [1, 2, 0] rfl rfl) hS dX8_advance_206
              · skip
                have c_28 : vtk_24.toInt = (1 : Int32).toInt := i_eq.mp c_28
                refine lv_aload_n hx hb dX8_advance_150 rfl (lv_at hl 0 rfl) ?_
                refine jr_i (rVr (As := []) (rest := [.ref vt]) (ci := 9) ⟨hx, hb, hml, hown, hts⟩ (g_findWord l dC dI cy vt vt1 vt2 vtL vtli vta_23 vtk_24 x_2 (-1) vtc_25 vtn_26 vtfk vtfp vtco ) (cw_X8_67 hts rfl rfl ⟨Nat.le_of_ble_eq_true rfl, Nat.le_of_ble_eq_true rfl⟩) hP hK [1, 0] rfl rfl rfl rfl hl.1 rfl (Nat.le_of_ble_eq_true rfl) dX8_advance_151 ⟨Nat.le_of_ble_eq_true rfl, Nat.le_of_ble_eq_true rfl⟩) hP hS (fun r_29 H locs hp_30 hP hS => ?_)
                have hp_30 : (-1 ≤ (r_29 : Int32).toInt ∧ (r_29 : Int32).toInt ≤ 28) := hp_30
                have q_31 := hp_30
                refine lv_goto (tgt := 158) hx hb dX8_advance_154 (by decide) ?_
                refine pf_X8_54 hx hb hts hown hK hP hD hS 1 rfl rfl rfl (Nat.le_of_ble_eq_true rfl) dX8_advance_158 (fun H locs hP hD hS => ?_)
                have hP : va_P (dC, dI) vwCl [(vt2, .inl (cy 1, 29, .inr (.inl vtco))), (vt, .inr (9, [.ref vt1, .ref vt2, .int vtL, .int vtli, .int vta_23, .int vtk_24, .int x_2, .int r_29, .long vtc_25, .int vtn_26, .int vtfk, .int vtfp])), (vt1, .inl (cy 0, 940, .inl vtb))] H := hP
                have hD : va_D A [(vt2, .inl (cy 1, 29, .inr (.inl vtco))), (vt, .inr (9, [.ref vt1, .ref vt2, .int vtL, .int vtli, .int vta_23, .int vtk_24, .int x_2, .int r_29, .long vtc_25, .int vtn_26, .int vtfk, .int vtfp])), (vt1, .inl (cy 0, 940, .inl vtb))] := hD
                refine lv_goto (tgt := 206) hx hb dX8_advance_161 (by decide) ?_
                rw [hQ9]
                exact re_v (vta_23, x_2, r_29, vtk_24, vtc_25, vtn_26) hx hb hr hlocks (show 0 ≤ (vta_23 : Int32).toInt ∧ (vta_23 : Int32).toInt ≤ 940 from ⟨by omega, by omega⟩) (hP.sub [1, 2, 0] rfl) (hD.sub [1, 2, 0] rfl rfl) hS dX8_advance_206
          · skip
            have c_5 : ¬ (x_2.toInt < vtL.toInt) := fun h9 => c_5 (i_lt.mpr h9)
            refine lv_aload_n hx hb dX8_advance_114 rfl (lv_at hl 0 rfl) ?_
            refine lv_iconst (v := 3) hx hb dX8_advance_115 (by decide) ?_
            refine pf_X8_57 hx hb hts hown hK hP hD hS 0 rfl rfl rfl (Nat.le_of_ble_eq_true rfl) dX8_advance_116 (fun H locs hP hD hS => ?_)
            have hP : va_P (dC, dI) vwCl [(vt, .inr (9, [.ref vt1, .ref vt2, .int vtL, .int vtli, .int x_2, .int 3, .int x_2, .int (-1), .long vtc, .int vtn, .int vtfk, .int vtfp])), (vt1, .inl (cy 0, 940, .inl vtb)), (vt2, .inl (cy 1, 29, .inr (.inl vtco)))] H := hP
            have hD : va_D A [(vt, .inr (9, [.ref vt1, .ref vt2, .int vtL, .int vtli, .int x_2, .int 3, .int x_2, .int (-1), .long vtc, .int vtn, .int vtfk, .int vtfp])), (vt1, .inl (cy 0, 940, .inl vtb)), (vt2, .inl (cy 1, 29, .inr (.inl vtco)))] := hD
            refine lv_goto (tgt := 206) hx hb dX8_advance_119 (by decide) ?_
            have k_m1 : ((-1) : Int32).toInt = (-1) := by decide
            have k_3 : (3 : Int32).toInt = 3 := by decide
            rw [hQ9]
            exact re_v (x_2, x_2, ((-1) : Int32), (3 : Int32), vtc, vtn) hx hb hr hlocks (show 0 ≤ (x_2 : Int32).toInt ∧ (x_2 : Int32).toInt ≤ 940 from ⟨by omega, by omega⟩) (hP.sub [0, 1, 2] rfl) (hD.sub [0, 1, 2] rfl rfl) hS dX8_advance_206
        · skip
          have c_4 : ¬ (vtL.toInt ≤ vtli.toInt) := fun h9 => c_4 (i_le.mpr h9)
          refine lv_aload_n hx hb dX8_advance_76 rfl (lv_at hl 0 rfl) ?_
          refine gf_X8_39 hx hb hts hown hK hP 0 rfl rfl dX8_advance_77 ?_
          refine lv_aload_n hx hb dX8_advance_80 rfl (lv_at hl 0 rfl) ?_
          refine gf_X8_36 hx hb hts hown hK hP 0 rfl rfl dX8_advance_81 ?_
          refine lv_icmp_lt (tgt := 103) hx hb dX8_advance_84 (by decide) (fun c_32 => ?_) (fun c_32 => ?_)
          · skip
            have c_32 : x_2.toInt < vtli.toInt := i_lt.mp c_32
            refine lv_aload_n hx hb dX8_advance_103 rfl (lv_at hl 0 rfl) ?_
            refine gf_X8_39 hx hb hts hown hK hP 0 rfl rfl dX8_advance_104 ?_
            refine lv_aload_n hx hb dX8_advance_107 rfl (lv_at hl 0 rfl) ?_
            refine gf_X8_33 hx hb hts hown hK hP 0 rfl rfl dX8_advance_108 ?_
            refine lv_icmp_lt (tgt := 122) hx hb dX8_advance_111 (by decide) (fun c_33 => ?_) (fun c_33 => ?_)
            · skip
              have c_33 : x_2.toInt < vtL.toInt := i_lt.mp c_33
              refine lv_aload_n hx hb dX8_advance_122 rfl (lv_at hl 0 rfl) ?_
              refine gf_X8_9 hx hb hts hown hK hP 0 rfl rfl dX8_advance_123 ?_
              refine lv_aload_n hx hb dX8_advance_126 rfl (lv_at hl 0 rfl) ?_
              refine gf_X8_39 hx hb hts hown hK hP 0 rfl rfl dX8_advance_127 ?_
              have hin_34 : vp_in x_2 940 := vp_in_iff.mpr ⟨by omega, by omega⟩
              refine va_iald hx hb hK hP 1 0 rfl rfl hin_34 dX8_advance_130 ?_
              refine lv_topi (fun z_35 ez_35 => ?_)
              have bz_35 := p_vtb.at hin_34 ez_35
              refine jr_i (rSr (As := [.int z_35]) (rest := []) ⟨hx, hb, hml, hown, hts⟩ (g_isOfRun l dC dI cy z_35 ) (cw_X8_60 hts rfl rfl ⟨Nat.le_of_ble_eq_true rfl, Nat.le_of_ble_eq_true rfl⟩) hP hK [] rfl rfl hl.1 rfl (Nat.le_of_ble_eq_true rfl) dX8_advance_131 ⟨Nat.le_of_ble_eq_true rfl, Nat.le_of_ble_eq_true rfl⟩) hP hS (fun r_36 H locs hp_37 hP hS => ?_)
              have hp_37 : ((r_36 = 0) ∨ (r_36 = 1)) := hp_37
              have q_38 := hp_37
              rcases q_38 with aq_38 | aq_38
              · skip
                refine as_i 0 aq_38 ?_
                refine lv_if_eq (tgt := 164) hx hb dX8_advance_134 (by decide) (fun _ => ?_) (fun c9 => absurd (by decide) c9)
                refine lv_aload_n hx hb dX8_advance_164 rfl (lv_at hl 0 rfl) ?_
                refine lv_aload_n hx hb dX8_advance_165 rfl (lv_at hl 0 rfl) ?_
                refine gf_X8_9 hx hb hts hown hK hP 0 rfl rfl dX8_advance_166 ?_
                refine lv_aload_n hx hb dX8_advance_169 rfl (lv_at hl 0 rfl) ?_
                refine gf_X8_39 hx hb hts hown hK hP 0 rfl rfl dX8_advance_170 ?_
                have hin_39 : vp_in x_2 940 := vp_in_iff.mpr ⟨by omega, by omega⟩
                refine va_iald hx hb hK hP 1 0 rfl rfl hin_39 dX8_advance_173 ?_
                refine lv_topi (fun z_40 ez_40 => ?_)
                have bz_40 := p_vtb.at hin_39 ez_40
                refine jr_i (rSr (As := [.int z_40]) (rest := [.ref vt]) ⟨hx, hb, hml, hown, hts⟩ (g_isSign l dC dI cy z_40 ) (cw_X8_70 hts rfl rfl ⟨Nat.le_of_ble_eq_true rfl, Nat.le_of_ble_eq_true rfl⟩) hP hK [] rfl rfl hl.1 rfl (Nat.le_of_ble_eq_true rfl) dX8_advance_174 ⟨Nat.le_of_ble_eq_true rfl, Nat.le_of_ble_eq_true rfl⟩) hP hS (fun r_41 H locs hp_42 hP hS => ?_)
                have hp_42 : ((r_41 = 0) ∨ (r_41 = 1)) := hp_42
                have q_43 := hp_42
                rcases q_43 with aq_43 | aq_43
                · skip
                  refine as_i 0 aq_43 ?_
                  refine lv_if_eq (tgt := 192) hx hb dX8_advance_177 (by decide) (fun _ => ?_) (fun c9 => absurd (by decide) c9)
                  refine lv_iconst (v := 0) hx hb dX8_advance_192 (by decide) ?_
                  refine pf_X8_57 hx hb hts hown hK hP hD hS 0 rfl rfl rfl (Nat.le_of_ble_eq_true rfl) dX8_advance_193 (fun H locs hP hD hS => ?_)
                  have hP : va_P (dC, dI) vwCl [(vt, .inr (9, [.ref vt1, .ref vt2, .int vtL, .int vtli, .int x_2, .int 0, .int x_2, .int (-1), .long vtc, .int vtn, .int vtfk, .int vtfp])), (vt1, .inl (cy 0, 940, .inl vtb)), (vt2, .inl (cy 1, 29, .inr (.inl vtco)))] H := hP
                  have hD : va_D A [(vt, .inr (9, [.ref vt1, .ref vt2, .int vtL, .int vtli, .int x_2, .int 0, .int x_2, .int (-1), .long vtc, .int vtn, .int vtfk, .int vtfp])), (vt1, .inl (cy 0, 940, .inl vtb)), (vt2, .inl (cy 1, 29, .inr (.inl vtco)))] := hD
                  refine lv_aload_n hx hb dX8_advance_196 rfl (lv_at hl 0 rfl) ?_
                  refine lv_dup hx hb dX8_advance_197 rfl ?_
                  refine gf_X8_39 hx hb hts hown hK hP 0 rfl rfl dX8_advance_198 ?_
                  refine lv_iconst (v := 1) hx hb dX8_advance_201 (by decide) ?_
                  refine lv_iadd hx hb dX8_advance_202 ?_
                  refine lv_topi (fun z_44 ez_44 => ?_)
                  have k_1 : (1 : Int32).toInt = 1 := by decide
                  have bz_44 : z_44.toInt = x_2.toInt + (1 : Int32).toInt := i_add ez_44 (by omega) (by omega)
                  refine pf_X8_39 hx hb hts hown hK hP hD hS 0 rfl rfl rfl (Nat.le_of_ble_eq_true rfl) dX8_advance_203 (fun H locs hP hD hS => ?_)
                  have hP : va_P (dC, dI) vwCl [(vt, .inr (9, [.ref vt1, .ref vt2, .int vtL, .int vtli, .int z_44, .int 0, .int x_2, .int (-1), .long vtc, .int vtn, .int vtfk, .int vtfp])), (vt1, .inl (cy 0, 940, .inl vtb)), (vt2, .inl (cy 1, 29, .inr (.inl vtco)))] H := hP
                  have hD : va_D A [(vt, .inr (9, [.ref vt1, .ref vt2, .int vtL, .int vtli, .int z_44, .int 0, .int x_2, .int (-1), .long vtc, .int vtn, .int vtfk, .int vtfp])), (vt1, .inl (cy 0, 940, .inl vtb)), (vt2, .inl (cy 1, 29, .inr (.inl vtco)))] := hD
                  have k_m1 : ((-1) : Int32).toInt = (-1) := by decide
                  have k_0 : (0 : Int32).toInt = 0 := by decide
                  rw [hQ9]
                  exact re_v (z_44, x_2, ((-1) : Int32), (0 : Int32), vtc, vtn) hx hb hr hlocks (show 0 ≤ (z_44 : Int32).toInt ∧ (z_44 : Int32).toInt ≤ 940 from ⟨by omega, by omega⟩) (hP.sub [0, 1, 2] rfl) (hD.sub [0, 1, 2] rfl rfl) hS dX8_advance_206
                · skip
                  refine as_i 1 aq_43 ?_
                  refine lv_if_eq (tgt := 192) hx hb dX8_advance_177 (by decide) (fun c9 => absurd c9 (by decide)) (fun _ => ?_)
                  refine lv_aload_n hx hb dX8_advance_180 rfl (lv_at hl 0 rfl) ?_
                  refine gf_X8_9 hx hb hts hown hK hP 0 rfl rfl dX8_advance_181 ?_
                  refine lv_aload_n hx hb dX8_advance_184 rfl (lv_at hl 0 rfl) ?_
                  refine gf_X8_39 hx hb hts hown hK hP 0 rfl rfl dX8_advance_185 ?_
                  have hin_45 : vp_in x_2 940 := vp_in_iff.mpr ⟨by omega, by omega⟩
                  refine va_iald hx hb hK hP 1 0 rfl rfl hin_45 dX8_advance_188 ?_
                  refine lv_topi (fun z_46 ez_46 => ?_)
                  have bz_46 := p_vtb.at hin_45 ez_46
                  refine lv_goto (tgt := 193) hx hb dX8_advance_189 (by decide) ?_
                  refine pf_X8_57 hx hb hts hown hK hP hD hS 0 rfl rfl rfl (Nat.le_of_ble_eq_true rfl) dX8_advance_193 (fun H locs hP hD hS => ?_)
                  have hP : va_P (dC, dI) vwCl [(vt, .inr (9, [.ref vt1, .ref vt2, .int vtL, .int vtli, .int x_2, .int z_46, .int x_2, .int (-1), .long vtc, .int vtn, .int vtfk, .int vtfp])), (vt1, .inl (cy 0, 940, .inl vtb)), (vt2, .inl (cy 1, 29, .inr (.inl vtco)))] H := hP
                  have hD : va_D A [(vt, .inr (9, [.ref vt1, .ref vt2, .int vtL, .int vtli, .int x_2, .int z_46, .int x_2, .int (-1), .long vtc, .int vtn, .int vtfk, .int vtfp])), (vt1, .inl (cy 0, 940, .inl vtb)), (vt2, .inl (cy 1, 29, .inr (.inl vtco)))] := hD
                  refine lv_aload_n hx hb dX8_advance_196 rfl (lv_at hl 0 rfl) ?_
                  refine lv_dup hx hb dX8_advance_197 rfl ?_
                  refine gf_X8_39 hx hb hts hown hK hP 0 rfl rfl dX8_advance_198 ?_
                  refine lv_iconst (v := 1) hx hb dX8_advance_201 (by decide) ?_
                  refine lv_iadd hx hb dX8_advance_202 ?_
                  refine lv_topi (fun z_47 ez_47 => ?_)
                  have k_1 : (1 : Int32).toInt = 1 := by decide
                  have bz_47 : z_47.toInt = x_2.toInt + (1 : Int32).toInt := i_add ez_47 (by omega) (by omega)
                  refine pf_X8_39 hx hb hts hown hK hP hD hS 0 rfl rfl rfl (Nat.le_of_ble_eq_true rfl) dX8_advance_203 (fun H locs hP hD hS => ?_)
                  have hP : va_P (dC, dI) vwCl [(vt, .inr (9, [.ref vt1, .ref vt2, .int vtL, .int vtli, .int z_47, .int z_46, .int x_2, .int (-1), .long vtc, .int vtn, .int vtfk, .int vtfp])), (vt1, .inl (cy 0, 940, .inl vtb)), (vt2, .inl (cy 1, 29, .inr (.inl vtco)))] H := hP
                  have hD : va_D A [(vt, .inr (9, [.ref vt1, .ref vt2, .int vtL, .int vtli, .int z_47, .int z_46, .int x_2, .int (-1), .long vtc, .int vtn, .int vtfk, .int vtfp])), (vt1, .inl (cy 0, 940, .inl vtb)), (vt2, .inl (cy 1, 29, .inr (.inl vtco)))] := hD
                  have k_m1 : ((-1) : Int32).toInt = (-1) := by decide
                  rw [hQ9]
                  exact re_v (z_47, x_2, ((-1) : Int32), z_46, vtc, vtn) hx hb hr hlocks (show 0 ≤ (z_47 : Int32).toInt ∧ (z_47 : Int32).toInt ≤ 940 from ⟨by omega, by omega⟩) (hP.sub [0, 1, 2] rfl) (hD.sub [0, 1, 2] rfl rfl) hS dX8_advance_206
              · skip
                refine as_i 1 aq_38 ?_
                refine lv_if_eq (tgt := 164) hx hb dX8_advance_134 (by decide) (fun c9 => absurd c9 (by decide)) (fun _ => ?_)
                refine lv_aload_n hx hb dX8_advance_137 rfl (lv_at hl 0 rfl) ?_
                have k_m1 : ((-1) : Int32).toInt = (-1) := by decide
                refine jn_v (wr := [(vt2, .inl (cy 1, 29, .inr (.inl vtco)))]) (rV (As := []) (rest := []) (ci := 9) ⟨hx, hb, hml, hown, hts⟩ (g_readRun l dC dI cy _ vt vt1 vt2 vtL vtli x_2 vtk x_2 (-1) vtc vtn vtfk vtfp vtb r_vtL ⟨by omega, by omega⟩ p_vtb) (cw_X8_64 hts rfl rfl ⟨Nat.le_of_ble_eq_true rfl, Nat.le_of_ble_eq_true rfl⟩) hP hD hK [0, 1] rfl rfl rfl rfl bl0 e0 rfl hl.1 rfl (Nat.le_of_ble_eq_true rfl) dX8_advance_138 ⟨Nat.le_of_ble_eq_true rfl, Nat.le_of_ble_eq_true rfl⟩) hP hD hS hA [0, 1] [2] rfl rfl rfl (by decide) (fun u_50 H locs hp_49 hP hD hS => ?_)
                obtain ⟨vta_51, vtk_52, vtc_53, vtn_54⟩ := u_50
                have hp_49 : (0 ≤ (vta_51 : Int32).toInt ∧ (vta_51 : Int32).toInt ≤ 940) := hp_49
                have q_55 := hp_49
                have hP : va_P (dC, dI) vwCl [(vt2, .inl (cy 1, 29, .inr (.inl vtco))), (vt, .inr (9, [.ref vt1, .ref vt2, .int vtL, .int vtli, .int vta_51, .int vtk_52, .int x_2, .int (-1), .long vtc_53, .int vtn_54, .int vtfk, .int vtfp])), (vt1, .inl (cy 0, 940, .inl vtb))] H := hP
                have hD : va_D A [(vt2, .inl (cy 1, 29, .inr (.inl vtco))), (vt, .inr (9, [.ref vt1, .ref vt2, .int vtL, .int vtli, .int vta_51, .int vtk_52, .int x_2, .int (-1), .long vtc_53, .int vtn_54, .int vtfk, .int vtfp])), (vt1, .inl (cy 0, 940, .inl vtb))] := hD
                refine lv_aload_n hx hb dX8_advance_141 rfl (lv_at hl 0 rfl) ?_
                refine lv_aload_n hx hb dX8_advance_142 rfl (lv_at hl 0 rfl) ?_
                refine gf_X8_57 hx hb hts hown hK hP 1 rfl rfl dX8_advance_143 ?_
                refine lv_iconst (v := 1) hx hb dX8_advance_146 (by decide) ?_
                have k_1 : (1 : Int32).toInt = 1 := by decide
                refine lv_icmp_ne (tgt := 157) hx hb dX8_advance_147 (by decide) (fun c_56 => ?_) (fun c_56 => ?_)
                · skip
                  have c_56 : ¬ (vtk_52.toInt = (1 : Int32).toInt) := fun h9 => c_56 (i_eq.mpr h9)
                  refine lv_iconst (v := (-1)) hx hb dX8_advance_157 (by decide) ?_
                  refine pf_X8_54 hx hb hts hown hK hP hD hS 1 rfl rfl rfl (Nat.le_of_ble_eq_true rfl) dX8_advance_158 (fun H locs hP hD hS => ?_)
                  have hP : va_P (dC, dI) vwCl [(vt2, .inl (cy 1, 29, .inr (.inl vtco))), (vt, .inr (9, [.ref vt1, .ref vt2, .int vtL, .int vtli, .int vta_51, .int vtk_52, .int x_2, .int (-1), .long vtc_53, .int vtn_54, .int vtfk, .int vtfp])), (vt1, .inl (cy 0, 940, .inl vtb))] H := hP
                  have hD : va_D A [(vt2, .inl (cy 1, 29, .inr (.inl vtco))), (vt, .inr (9, [.ref vt1, .ref vt2, .int vtL, .int vtli, .int vta_51, .int vtk_52, .int x_2, .int (-1), .long vtc_53, .int vtn_54, .int vtfk, .int vtfp])), (vt1, .inl (cy 0, 940, .inl vtb))] := hD
                  refine lv_goto (tgt := 206) hx hb dX8_advance_161 (by decide) ?_
                  rw [hQ9]
                  exact re_v (vta_51, x_2, ((-1) : Int32), vtk_52, vtc_53, vtn_54) hx hb hr hlocks (show 0 ≤ (vta_51 : Int32).toInt ∧ (vta_51 : Int32).toInt ≤ 940 from ⟨by omega, by omega⟩) (hP.sub [1, 2, 0] rfl) (hD.sub [1, 2, 0] rfl rfl) hS dX8_advance_206
                · skip
                  have c_56 : vtk_52.toInt = (1 : Int32).toInt := i_eq.mp c_56
                  refine lv_aload_n hx hb dX8_advance_150 rfl (lv_at hl 0 rfl) ?_
                  refine jr_i (rVr (As := []) (rest := [.ref vt]) (ci := 9) ⟨hx, hb, hml, hown, hts⟩ (g_findWord l dC dI cy vt vt1 vt2 vtL vtli vta_51 vtk_52 x_2 (-1) vtc_53 vtn_54 vtfk vtfp vtco ) (cw_X8_67 hts rfl rfl ⟨Nat.le_of_ble_eq_true rfl, Nat.le_of_ble_eq_true rfl⟩) hP hK [1, 0] rfl rfl rfl rfl hl.1 rfl (Nat.le_of_ble_eq_true rfl) dX8_advance_151 ⟨Nat.le_of_ble_eq_true rfl, Nat.le_of_ble_eq_true rfl⟩) hP hS (fun r_57 H locs hp_58 hP hS => ?_)
                  have hp_58 : (-1 ≤ (r_57 : Int32).toInt ∧ (r_57 : Int32).toInt ≤ 28) := hp_58
                  have q_59 := hp_58
                  refine lv_goto (tgt := 158) hx hb dX8_advance_154 (by decide) ?_
                  refine pf_X8_54 hx hb hts hown hK hP hD hS 1 rfl rfl rfl (Nat.le_of_ble_eq_true rfl) dX8_advance_158 (fun H locs hP hD hS => ?_)
                  have hP : va_P (dC, dI) vwCl [(vt2, .inl (cy 1, 29, .inr (.inl vtco))), (vt, .inr (9, [.ref vt1, .ref vt2, .int vtL, .int vtli, .int vta_51, .int vtk_52, .int x_2, .int r_57, .long vtc_53, .int vtn_54, .int vtfk, .int vtfp])), (vt1, .inl (cy 0, 940, .inl vtb))] H := hP
                  have hD : va_D A [(vt2, .inl (cy 1, 29, .inr (.inl vtco))), (vt, .inr (9, [.ref vt1, .ref vt2, .int vtL, .int vtli, .int vta_51, .int vtk_52, .int x_2, .int r_57, .long vtc_53, .int vtn_54, .int vtfk, .int vtfp])), (vt1, .inl (cy 0, 940, .inl vtb))] := hD
                  refine lv_goto (tgt := 206) hx hb dX8_advance_161 (by decide) ?_
                  rw [hQ9]
                  exact re_v (vta_51, x_2, r_57, vtk_52, vtc_53, vtn_54) hx hb hr hlocks (show 0 ≤ (vta_51 : Int32).toInt ∧ (vta_51 : Int32).toInt ≤ 940 from ⟨by omega, by omega⟩) (hP.sub [1, 2, 0] rfl) (hD.sub [1, 2, 0] rfl rfl) hS dX8_advance_206
            · skip
              have c_33 : ¬ (x_2.toInt < vtL.toInt) := fun h9 => c_33 (i_lt.mpr h9)
              refine lv_aload_n hx hb dX8_advance_114 rfl (lv_at hl 0 rfl) ?_
              refine lv_iconst (v := 3) hx hb dX8_advance_115 (by decide) ?_
              refine pf_X8_57 hx hb hts hown hK hP hD hS 0 rfl rfl rfl (Nat.le_of_ble_eq_true rfl) dX8_advance_116 (fun H locs hP hD hS => ?_)
              have hP : va_P (dC, dI) vwCl [(vt, .inr (9, [.ref vt1, .ref vt2, .int vtL, .int vtli, .int x_2, .int 3, .int x_2, .int (-1), .long vtc, .int vtn, .int vtfk, .int vtfp])), (vt1, .inl (cy 0, 940, .inl vtb)), (vt2, .inl (cy 1, 29, .inr (.inl vtco)))] H := hP
              have hD : va_D A [(vt, .inr (9, [.ref vt1, .ref vt2, .int vtL, .int vtli, .int x_2, .int 3, .int x_2, .int (-1), .long vtc, .int vtn, .int vtfk, .int vtfp])), (vt1, .inl (cy 0, 940, .inl vtb)), (vt2, .inl (cy 1, 29, .inr (.inl vtco)))] := hD
              refine lv_goto (tgt := 206) hx hb dX8_advance_119 (by decide) ?_
              have k_m1 : ((-1) : Int32).toInt = (-1) := by decide
              have k_3 : (3 : Int32).toInt = 3 := by decide
              rw [hQ9]
              exact re_v (x_2, x_2, ((-1) : Int32), (3 : Int32), vtc, vtn) hx hb hr hlocks (show 0 ≤ (x_2 : Int32).toInt ∧ (x_2 : Int32).toInt ≤ 940 from ⟨by omega, by omega⟩) (hP.sub [0, 1, 2] rfl) (hD.sub [0, 1, 2] rfl rfl) hS dX8_advance_206
          · skip
            have c_32 : ¬ (x_2.toInt < vtli.toInt) := fun h9 => c_32 (i_lt.mpr h9)
            refine lv_aload_n hx hb dX8_advance_87 rfl (lv_at hl 0 rfl) ?_
            refine lv_iconst (v := 0) hx hb dX8_advance_88 (by decide) ?_
            refine pf_X8_57 hx hb hts hown hK hP hD hS 0 rfl rfl rfl (Nat.le_of_ble_eq_true rfl) dX8_advance_89 (fun H locs hP hD hS => ?_)
            have hP : va_P (dC, dI) vwCl [(vt, .inr (9, [.ref vt1, .ref vt2, .int vtL, .int vtli, .int x_2, .int 0, .int x_2, .int (-1), .long vtc, .int vtn, .int vtfk, .int vtfp])), (vt1, .inl (cy 0, 940, .inl vtb)), (vt2, .inl (cy 1, 29, .inr (.inl vtco)))] H := hP
            have hD : va_D A [(vt, .inr (9, [.ref vt1, .ref vt2, .int vtL, .int vtli, .int x_2, .int 0, .int x_2, .int (-1), .long vtc, .int vtn, .int vtfk, .int vtfp])), (vt1, .inl (cy 0, 940, .inl vtb)), (vt2, .inl (cy 1, 29, .inr (.inl vtco)))] := hD
            refine lv_aload_n hx hb dX8_advance_92 rfl (lv_at hl 0 rfl) ?_
            refine lv_aload_n hx hb dX8_advance_93 rfl (lv_at hl 0 rfl) ?_
            refine gf_X8_36 hx hb hts hown hK hP 0 rfl rfl dX8_advance_94 ?_
            refine pf_X8_51 hx hb hts hown hK hP hD hS 0 rfl rfl rfl (Nat.le_of_ble_eq_true rfl) dX8_advance_97 (fun H locs hP hD hS => ?_)
            have hP : va_P (dC, dI) vwCl [(vt, .inr (9, [.ref vt1, .ref vt2, .int vtL, .int vtli, .int x_2, .int 0, .int vtli, .int (-1), .long vtc, .int vtn, .int vtfk, .int vtfp])), (vt1, .inl (cy 0, 940, .inl vtb)), (vt2, .inl (cy 1, 29, .inr (.inl vtco)))] H := hP
            have hD : va_D A [(vt, .inr (9, [.ref vt1, .ref vt2, .int vtL, .int vtli, .int x_2, .int 0, .int vtli, .int (-1), .long vtc, .int vtn, .int vtfk, .int vtfp])), (vt1, .inl (cy 0, 940, .inl vtb)), (vt2, .inl (cy 1, 29, .inr (.inl vtco)))] := hD
            refine lv_goto (tgt := 206) hx hb dX8_advance_100 (by decide) ?_
            have k_m1 : ((-1) : Int32).toInt = (-1) := by decide
            have k_0 : (0 : Int32).toInt = 0 := by decide
            rw [hQ9]
            exact re_v (x_2, vtli, ((-1) : Int32), (0 : Int32), vtc, vtn) hx hb hr hlocks (show 0 ≤ (x_2 : Int32).toInt ∧ (x_2 : Int32).toInt ≤ 940 from ⟨by omega, by omega⟩) (hP.sub [0, 1, 2] rfl) (hD.sub [0, 1, 2] rfl rfl) hS dX8_advance_206
      · skip
        have c_3 : ¬ (vtL.toInt ≤ x_2.toInt) := fun h9 => c_3 (i_le.mpr h9)
        refine lv_aload_n hx hb dX8_advance_11 rfl (lv_at hl 0 rfl) ?_
        refine gf_X8_9 hx hb hts hown hK hP 0 rfl rfl dX8_advance_12 ?_
        refine lv_aload_n hx hb dX8_advance_15 rfl (lv_at hl 0 rfl) ?_
        refine gf_X8_39 hx hb hts hown hK hP 0 rfl rfl dX8_advance_16 ?_
        have hin_60 : vp_in x_2 940 := vp_in_iff.mpr ⟨by omega, by omega⟩
        refine va_iald hx hb hK hP 1 0 rfl rfl hin_60 dX8_advance_19 ?_
        refine lv_topi (fun z_61 ez_61 => ?_)
        have bz_61 := p_vtb.at hin_60 ez_61
        refine lv_bipush (v := 32) hx hb dX8_advance_20 (by decide) ?_
        have k_32 : (32 : Int32).toInt = 32 := by decide
        refine lv_icmp_eq (tgt := 39) hx hb dX8_advance_22 (by decide) (fun c_62 => ?_) (fun c_62 => ?_)
        · skip
          have c_62 : z_61.toInt = (32 : Int32).toInt := i_eq.mp c_62
          refine lv_aload_n hx hb dX8_advance_39 rfl (lv_at hl 0 rfl) ?_
          refine lv_dup hx hb dX8_advance_40 rfl ?_
          refine gf_X8_39 hx hb hts hown hK hP 0 rfl rfl dX8_advance_41 ?_
          refine lv_iconst (v := 1) hx hb dX8_advance_44 (by decide) ?_
          refine lv_iadd hx hb dX8_advance_45 ?_
          refine lv_topi (fun z_63 ez_63 => ?_)
          have k_1 : (1 : Int32).toInt = 1 := by decide
          have bz_63 : z_63.toInt = x_2.toInt + (1 : Int32).toInt := i_add ez_63 (by omega) (by omega)
          refine pf_X8_39 hx hb hts hown hK hP hD hS 0 rfl rfl rfl (Nat.le_of_ble_eq_true rfl) dX8_advance_46 (fun H locs hP hD hS => ?_)
          have hP : va_P (dC, dI) vwCl [(vt, .inr (9, [.ref vt1, .ref vt2, .int vtL, .int vtli, .int z_63, .int vtk, .int vtst, .int vtw, .long vtc, .int vtn, .int vtfk, .int vtfp])), (vt1, .inl (cy 0, 940, .inl vtb)), (vt2, .inl (cy 1, 29, .inr (.inl vtco)))] H := hP
          have hD : va_D A [(vt, .inr (9, [.ref vt1, .ref vt2, .int vtL, .int vtli, .int z_63, .int vtk, .int vtst, .int vtw, .long vtc, .int vtn, .int vtfk, .int vtfp])), (vt1, .inl (cy 0, 940, .inl vtb)), (vt2, .inl (cy 1, 29, .inr (.inl vtco)))] := hD
          refine lv_goto (tgt := 0) hx hb dX8_advance_49 (by decide) ?_
          exact ih1 z_63 ⟨by omega, by omega⟩ (by omega) _ _ (hP.sub [0, 1, 2] rfl) (hD.sub [0, 1, 2] rfl rfl) hS ls (lv_sub hl [0] rfl)
        · skip
          have c_62 : ¬ (z_61.toInt = (32 : Int32).toInt) := fun h9 => c_62 (i_eq.mpr h9)
          refine lv_aload_n hx hb dX8_advance_25 rfl (lv_at hl 0 rfl) ?_
          refine gf_X8_9 hx hb hts hown hK hP 0 rfl rfl dX8_advance_26 ?_
          refine lv_aload_n hx hb dX8_advance_29 rfl (lv_at hl 0 rfl) ?_
          refine gf_X8_39 hx hb hts hown hK hP 0 rfl rfl dX8_advance_30 ?_
          have hin_64 : vp_in x_2 940 := vp_in_iff.mpr ⟨by omega, by omega⟩
          refine va_iald hx hb hK hP 1 0 rfl rfl hin_64 dX8_advance_33 ?_
          refine lv_topi (fun z_65 ez_65 => ?_)
          have bz_65 := p_vtb.at hin_64 ez_65
          refine lv_bipush (v := 10) hx hb dX8_advance_34 (by decide) ?_
          have k_10 : (10 : Int32).toInt = 10 := by decide
          refine lv_icmp_ne (tgt := 52) hx hb dX8_advance_36 (by decide) (fun c_66 => ?_) (fun c_66 => ?_)
          · skip
            have c_66 : ¬ (z_65.toInt = (10 : Int32).toInt) := fun h9 => c_66 (i_eq.mpr h9)
            refine lv_aload_n hx hb dX8_advance_52 rfl (lv_at hl 0 rfl) ?_
            refine lv_aload_n hx hb dX8_advance_53 rfl (lv_at hl 0 rfl) ?_
            refine gf_X8_39 hx hb hts hown hK hP 0 rfl rfl dX8_advance_54 ?_
            refine pf_X8_51 hx hb hts hown hK hP hD hS 0 rfl rfl rfl (Nat.le_of_ble_eq_true rfl) dX8_advance_57 (fun H locs hP hD hS => ?_)
            have hP : va_P (dC, dI) vwCl [(vt, .inr (9, [.ref vt1, .ref vt2, .int vtL, .int vtli, .int x_2, .int vtk, .int x_2, .int vtw, .long vtc, .int vtn, .int vtfk, .int vtfp])), (vt1, .inl (cy 0, 940, .inl vtb)), (vt2, .inl (cy 1, 29, .inr (.inl vtco)))] H := hP
            have hD : va_D A [(vt, .inr (9, [.ref vt1, .ref vt2, .int vtL, .int vtli, .int x_2, .int vtk, .int x_2, .int vtw, .long vtc, .int vtn, .int vtfk, .int vtfp])), (vt1, .inl (cy 0, 940, .inl vtb)), (vt2, .inl (cy 1, 29, .inr (.inl vtco)))] := hD
            refine lv_aload_n hx hb dX8_advance_60 rfl (lv_at hl 0 rfl) ?_
            refine lv_iconst (v := (-1)) hx hb dX8_advance_61 (by decide) ?_
            refine pf_X8_54 hx hb hts hown hK hP hD hS 0 rfl rfl rfl (Nat.le_of_ble_eq_true rfl) dX8_advance_62 (fun H locs hP hD hS => ?_)
            have hP : va_P (dC, dI) vwCl [(vt, .inr (9, [.ref vt1, .ref vt2, .int vtL, .int vtli, .int x_2, .int vtk, .int x_2, .int (-1), .long vtc, .int vtn, .int vtfk, .int vtfp])), (vt1, .inl (cy 0, 940, .inl vtb)), (vt2, .inl (cy 1, 29, .inr (.inl vtco)))] H := hP
            have hD : va_D A [(vt, .inr (9, [.ref vt1, .ref vt2, .int vtL, .int vtli, .int x_2, .int vtk, .int x_2, .int (-1), .long vtc, .int vtn, .int vtfk, .int vtfp])), (vt1, .inl (cy 0, 940, .inl vtb)), (vt2, .inl (cy 1, 29, .inr (.inl vtco)))] := hD
            refine lv_aload_n hx hb dX8_advance_65 rfl (lv_at hl 0 rfl) ?_
            refine gf_X8_33 hx hb hts hown hK hP 0 rfl rfl dX8_advance_66 ?_
            refine lv_aload_n hx hb dX8_advance_69 rfl (lv_at hl 0 rfl) ?_
            refine gf_X8_36 hx hb hts hown hK hP 0 rfl rfl dX8_advance_70 ?_
            refine lv_icmp_le (tgt := 103) hx hb dX8_advance_73 (by decide) (fun c_67 => ?_) (fun c_67 => ?_)
            · skip
              have c_67 : vtL.toInt ≤ vtli.toInt := i_le.mp c_67
              refine lv_aload_n hx hb dX8_advance_103 rfl (lv_at hl 0 rfl) ?_
              refine gf_X8_39 hx hb hts hown hK hP 0 rfl rfl dX8_advance_104 ?_
              refine lv_aload_n hx hb dX8_advance_107 rfl (lv_at hl 0 rfl) ?_
              refine gf_X8_33 hx hb hts hown hK hP 0 rfl rfl dX8_advance_108 ?_
              refine lv_icmp_lt (tgt := 122) hx hb dX8_advance_111 (by decide) (fun c_68 => ?_) (fun c_68 => ?_)
              · skip
                have c_68 : x_2.toInt < vtL.toInt := i_lt.mp c_68
                refine lv_aload_n hx hb dX8_advance_122 rfl (lv_at hl 0 rfl) ?_
                refine gf_X8_9 hx hb hts hown hK hP 0 rfl rfl dX8_advance_123 ?_
                refine lv_aload_n hx hb dX8_advance_126 rfl (lv_at hl 0 rfl) ?_
                refine gf_X8_39 hx hb hts hown hK hP 0 rfl rfl dX8_advance_127 ?_
                have hin_69 : vp_in x_2 940 := vp_in_iff.mpr ⟨by omega, by omega⟩
                refine va_iald hx hb hK hP 1 0 rfl rfl hin_69 dX8_advance_130 ?_
                refine lv_topi (fun z_70 ez_70 => ?_)
                have bz_70 := p_vtb.at hin_69 ez_70
                refine jr_i (rSr (As := [.int z_70]) (rest := []) ⟨hx, hb, hml, hown, hts⟩ (g_isOfRun l dC dI cy z_70 ) (cw_X8_60 hts rfl rfl ⟨Nat.le_of_ble_eq_true rfl, Nat.le_of_ble_eq_true rfl⟩) hP hK [] rfl rfl hl.1 rfl (Nat.le_of_ble_eq_true rfl) dX8_advance_131 ⟨Nat.le_of_ble_eq_true rfl, Nat.le_of_ble_eq_true rfl⟩) hP hS (fun r_71 H locs hp_72 hP hS => ?_)
                have hp_72 : ((r_71 = 0) ∨ (r_71 = 1)) := hp_72
                have q_73 := hp_72
                rcases q_73 with aq_73 | aq_73
                · skip
                  refine as_i 0 aq_73 ?_
                  refine lv_if_eq (tgt := 164) hx hb dX8_advance_134 (by decide) (fun _ => ?_) (fun c9 => absurd (by decide) c9)
                  refine lv_aload_n hx hb dX8_advance_164 rfl (lv_at hl 0 rfl) ?_
                  refine lv_aload_n hx hb dX8_advance_165 rfl (lv_at hl 0 rfl) ?_
                  refine gf_X8_9 hx hb hts hown hK hP 0 rfl rfl dX8_advance_166 ?_
                  refine lv_aload_n hx hb dX8_advance_169 rfl (lv_at hl 0 rfl) ?_
                  refine gf_X8_39 hx hb hts hown hK hP 0 rfl rfl dX8_advance_170 ?_
                  have hin_74 : vp_in x_2 940 := vp_in_iff.mpr ⟨by omega, by omega⟩
                  refine va_iald hx hb hK hP 1 0 rfl rfl hin_74 dX8_advance_173 ?_
                  refine lv_topi (fun z_75 ez_75 => ?_)
                  have bz_75 := p_vtb.at hin_74 ez_75
                  refine jr_i (rSr (As := [.int z_75]) (rest := [.ref vt]) ⟨hx, hb, hml, hown, hts⟩ (g_isSign l dC dI cy z_75 ) (cw_X8_70 hts rfl rfl ⟨Nat.le_of_ble_eq_true rfl, Nat.le_of_ble_eq_true rfl⟩) hP hK [] rfl rfl hl.1 rfl (Nat.le_of_ble_eq_true rfl) dX8_advance_174 ⟨Nat.le_of_ble_eq_true rfl, Nat.le_of_ble_eq_true rfl⟩) hP hS (fun r_76 H locs hp_77 hP hS => ?_)
                  have hp_77 : ((r_76 = 0) ∨ (r_76 = 1)) := hp_77
                  have q_78 := hp_77
                  rcases q_78 with aq_78 | aq_78
                  · skip
                    refine as_i 0 aq_78 ?_
                    refine lv_if_eq (tgt := 192) hx hb dX8_advance_177 (by decide) (fun _ => ?_) (fun c9 => absurd (by decide) c9)
                    refine lv_iconst (v := 0) hx hb dX8_advance_192 (by decide) ?_
                    refine pf_X8_57 hx hb hts hown hK hP hD hS 0 rfl rfl rfl (Nat.le_of_ble_eq_true rfl) dX8_advance_193 (fun H locs hP hD hS => ?_)
                    have hP : va_P (dC, dI) vwCl [(vt, .inr (9, [.ref vt1, .ref vt2, .int vtL, .int vtli, .int x_2, .int 0, .int x_2, .int (-1), .long vtc, .int vtn, .int vtfk, .int vtfp])), (vt1, .inl (cy 0, 940, .inl vtb)), (vt2, .inl (cy 1, 29, .inr (.inl vtco)))] H := hP
                    have hD : va_D A [(vt, .inr (9, [.ref vt1, .ref vt2, .int vtL, .int vtli, .int x_2, .int 0, .int x_2, .int (-1), .long vtc, .int vtn, .int vtfk, .int vtfp])), (vt1, .inl (cy 0, 940, .inl vtb)), (vt2, .inl (cy 1, 29, .inr (.inl vtco)))] := hD
                    refine lv_aload_n hx hb dX8_advance_196 rfl (lv_at hl 0 rfl) ?_
                    refine lv_dup hx hb dX8_advance_197 rfl ?_
                    refine gf_X8_39 hx hb hts hown hK hP 0 rfl rfl dX8_advance_198 ?_
                    refine lv_iconst (v := 1) hx hb dX8_advance_201 (by decide) ?_
                    refine lv_iadd hx hb dX8_advance_202 ?_
                    refine lv_topi (fun z_79 ez_79 => ?_)
                    have k_1 : (1 : Int32).toInt = 1 := by decide
                    have bz_79 : z_79.toInt = x_2.toInt + (1 : Int32).toInt := i_add ez_79 (by omega) (by omega)
                    refine pf_X8_39 hx hb hts hown hK hP hD hS 0 rfl rfl rfl (Nat.le_of_ble_eq_true rfl) dX8_advance_203 (fun H locs hP hD hS => ?_)
                    have hP : va_P (dC, dI) vwCl [(vt, .inr (9, [.ref vt1, .ref vt2, .int vtL, .int vtli, .int z_79, .int 0, .int x_2, .int (-1), .long vtc, .int vtn, .int vtfk, .int vtfp])), (vt1, .inl (cy 0, 940, .inl vtb)), (vt2, .inl (cy 1, 29, .inr (.inl vtco)))] H := hP
                    have hD : va_D A [(vt, .inr (9, [.ref vt1, .ref vt2, .int vtL, .int vtli, .int z_79, .int 0, .int x_2, .int (-1), .long vtc, .int vtn, .int vtfk, .int vtfp])), (vt1, .inl (cy 0, 940, .inl vtb)), (vt2, .inl (cy 1, 29, .inr (.inl vtco)))] := hD
                    have k_m1 : ((-1) : Int32).toInt = (-1) := by decide
                    have k_0 : (0 : Int32).toInt = 0 := by decide
                    rw [hQ9]
                    exact re_v (z_79, x_2, ((-1) : Int32), (0 : Int32), vtc, vtn) hx hb hr hlocks (show 0 ≤ (z_79 : Int32).toInt ∧ (z_79 : Int32).toInt ≤ 940 from ⟨by omega, by omega⟩) (hP.sub [0, 1, 2] rfl) (hD.sub [0, 1, 2] rfl rfl) hS dX8_advance_206
                  · skip
                    refine as_i 1 aq_78 ?_
                    refine lv_if_eq (tgt := 192) hx hb dX8_advance_177 (by decide) (fun c9 => absurd c9 (by decide)) (fun _ => ?_)
                    refine lv_aload_n hx hb dX8_advance_180 rfl (lv_at hl 0 rfl) ?_
                    refine gf_X8_9 hx hb hts hown hK hP 0 rfl rfl dX8_advance_181 ?_
                    refine lv_aload_n hx hb dX8_advance_184 rfl (lv_at hl 0 rfl) ?_
                    refine gf_X8_39 hx hb hts hown hK hP 0 rfl rfl dX8_advance_185 ?_
                    have hin_80 : vp_in x_2 940 := vp_in_iff.mpr ⟨by omega, by omega⟩
                    refine va_iald hx hb hK hP 1 0 rfl rfl hin_80 dX8_advance_188 ?_
                    refine lv_topi (fun z_81 ez_81 => ?_)
                    have bz_81 := p_vtb.at hin_80 ez_81
                    refine lv_goto (tgt := 193) hx hb dX8_advance_189 (by decide) ?_
                    refine pf_X8_57 hx hb hts hown hK hP hD hS 0 rfl rfl rfl (Nat.le_of_ble_eq_true rfl) dX8_advance_193 (fun H locs hP hD hS => ?_)
                    have hP : va_P (dC, dI) vwCl [(vt, .inr (9, [.ref vt1, .ref vt2, .int vtL, .int vtli, .int x_2, .int z_81, .int x_2, .int (-1), .long vtc, .int vtn, .int vtfk, .int vtfp])), (vt1, .inl (cy 0, 940, .inl vtb)), (vt2, .inl (cy 1, 29, .inr (.inl vtco)))] H := hP
                    have hD : va_D A [(vt, .inr (9, [.ref vt1, .ref vt2, .int vtL, .int vtli, .int x_2, .int z_81, .int x_2, .int (-1), .long vtc, .int vtn, .int vtfk, .int vtfp])), (vt1, .inl (cy 0, 940, .inl vtb)), (vt2, .inl (cy 1, 29, .inr (.inl vtco)))] := hD
                    refine lv_aload_n hx hb dX8_advance_196 rfl (lv_at hl 0 rfl) ?_
                    refine lv_dup hx hb dX8_advance_197 rfl ?_
                    refine gf_X8_39 hx hb hts hown hK hP 0 rfl rfl dX8_advance_198 ?_
                    refine lv_iconst (v := 1) hx hb dX8_advance_201 (by decide) ?_
                    refine lv_iadd hx hb dX8_advance_202 ?_
                    refine lv_topi (fun z_82 ez_82 => ?_)
                    have k_1 : (1 : Int32).toInt = 1 := by decide
                    have bz_82 : z_82.toInt = x_2.toInt + (1 : Int32).toInt := i_add ez_82 (by omega) (by omega)
                    refine pf_X8_39 hx hb hts hown hK hP hD hS 0 rfl rfl rfl (Nat.le_of_ble_eq_true rfl) dX8_advance_203 (fun H locs hP hD hS => ?_)
                    have hP : va_P (dC, dI) vwCl [(vt, .inr (9, [.ref vt1, .ref vt2, .int vtL, .int vtli, .int z_82, .int z_81, .int x_2, .int (-1), .long vtc, .int vtn, .int vtfk, .int vtfp])), (vt1, .inl (cy 0, 940, .inl vtb)), (vt2, .inl (cy 1, 29, .inr (.inl vtco)))] H := hP
                    have hD : va_D A [(vt, .inr (9, [.ref vt1, .ref vt2, .int vtL, .int vtli, .int z_82, .int z_81, .int x_2, .int (-1), .long vtc, .int vtn, .int vtfk, .int vtfp])), (vt1, .inl (cy 0, 940, .inl vtb)), (vt2, .inl (cy 1, 29, .inr (.inl vtco)))] := hD
                    have k_m1 : ((-1) : Int32).toInt = (-1) := by decide
                    rw [hQ9]
                    exact re_v (z_82, x_2, ((-1) : Int32), z_81, vtc, vtn) hx hb hr hlocks (show 0 ≤ (z_82 : Int32).toInt ∧ (z_82 : Int32).toInt ≤ 940 from ⟨by omega, by omega⟩) (hP.sub [0, 1, 2] rfl) (hD.sub [0, 1, 2] rfl rfl) hS dX8_advance_206
                · skip
                  refine as_i 1 aq_73 ?_
                  refine lv_if_eq (tgt := 164) hx hb dX8_advance_134 (by decide) (fun c9 => absurd c9 (by decide)) (fun _ => ?_)
                  refine lv_aload_n hx hb dX8_advance_137 rfl (lv_at hl 0 rfl) ?_
                  have k_m1 : ((-1) : Int32).toInt = (-1) := by decide
                  refine jn_v (wr := [(vt2, .inl (cy 1, 29, .inr (.inl vtco)))]) (rV (As := []) (rest := []) (ci := 9) ⟨hx, hb, hml, hown, hts⟩ (g_readRun l dC dI cy _ vt vt1 vt2 vtL vtli x_2 vtk x_2 (-1) vtc vtn vtfk vtfp vtb r_vtL ⟨by omega, by omega⟩ p_vtb) (cw_X8_64 hts rfl rfl ⟨Nat.le_of_ble_eq_true rfl, Nat.le_of_ble_eq_true rfl⟩) hP hD hK [0, 1] rfl rfl rfl rfl bl0 e0 rfl hl.1 rfl (Nat.le_of_ble_eq_true rfl) dX8_advance_138 ⟨Nat.le_of_ble_eq_true rfl, Nat.le_of_ble_eq_true rfl⟩) hP hD hS hA [0, 1] [2] rfl rfl rfl (by decide) (fun u_85 H locs hp_84 hP hD hS => ?_)
                  obtain ⟨vta_86, vtk_87, vtc_88, vtn_89⟩ := u_85
                  have hp_84 : (0 ≤ (vta_86 : Int32).toInt ∧ (vta_86 : Int32).toInt ≤ 940) := hp_84
                  have q_90 := hp_84
                  have hP : va_P (dC, dI) vwCl [(vt2, .inl (cy 1, 29, .inr (.inl vtco))), (vt, .inr (9, [.ref vt1, .ref vt2, .int vtL, .int vtli, .int vta_86, .int vtk_87, .int x_2, .int (-1), .long vtc_88, .int vtn_89, .int vtfk, .int vtfp])), (vt1, .inl (cy 0, 940, .inl vtb))] H := hP
                  have hD : va_D A [(vt2, .inl (cy 1, 29, .inr (.inl vtco))), (vt, .inr (9, [.ref vt1, .ref vt2, .int vtL, .int vtli, .int vta_86, .int vtk_87, .int x_2, .int (-1), .long vtc_88, .int vtn_89, .int vtfk, .int vtfp])), (vt1, .inl (cy 0, 940, .inl vtb))] := hD
                  refine lv_aload_n hx hb dX8_advance_141 rfl (lv_at hl 0 rfl) ?_
                  refine lv_aload_n hx hb dX8_advance_142 rfl (lv_at hl 0 rfl) ?_
                  refine gf_X8_57 hx hb hts hown hK hP 1 rfl rfl dX8_advance_143 ?_
                  refine lv_iconst (v := 1) hx hb dX8_advance_146 (by decide) ?_
                  have k_1 : (1 : Int32).toInt = 1 := by decide
                  refine lv_icmp_ne (tgt := 157) hx hb dX8_advance_147 (by decide) (fun c_91 => ?_) (fun c_91 => ?_)
                  · skip
                    have c_91 : ¬ (vtk_87.toInt = (1 : Int32).toInt) := fun h9 => c_91 (i_eq.mpr h9)
                    refine lv_iconst (v := (-1)) hx hb dX8_advance_157 (by decide) ?_
                    refine pf_X8_54 hx hb hts hown hK hP hD hS 1 rfl rfl rfl (Nat.le_of_ble_eq_true rfl) dX8_advance_158 (fun H locs hP hD hS => ?_)
                    have hP : va_P (dC, dI) vwCl [(vt2, .inl (cy 1, 29, .inr (.inl vtco))), (vt, .inr (9, [.ref vt1, .ref vt2, .int vtL, .int vtli, .int vta_86, .int vtk_87, .int x_2, .int (-1), .long vtc_88, .int vtn_89, .int vtfk, .int vtfp])), (vt1, .inl (cy 0, 940, .inl vtb))] H := hP
                    have hD : va_D A [(vt2, .inl (cy 1, 29, .inr (.inl vtco))), (vt, .inr (9, [.ref vt1, .ref vt2, .int vtL, .int vtli, .int vta_86, .int vtk_87, .int x_2, .int (-1), .long vtc_88, .int vtn_89, .int vtfk, .int vtfp])), (vt1, .inl (cy 0, 940, .inl vtb))] := hD
                    refine lv_goto (tgt := 206) hx hb dX8_advance_161 (by decide) ?_
                    rw [hQ9]
                    exact re_v (vta_86, x_2, ((-1) : Int32), vtk_87, vtc_88, vtn_89) hx hb hr hlocks (show 0 ≤ (vta_86 : Int32).toInt ∧ (vta_86 : Int32).toInt ≤ 940 from ⟨by omega, by omega⟩) (hP.sub [1, 2, 0] rfl) (hD.sub [1, 2, 0] rfl rfl) hS dX8_advance_206
                  · skip
                    have c_91 : vtk_87.toInt = (1 : Int32).toInt := i_eq.mp c_91
                    refine lv_aload_n hx hb dX8_advance_150 rfl (lv_at hl 0 rfl) ?_
                    refine jr_i (rVr (As := []) (rest := [.ref vt]) (ci := 9) ⟨hx, hb, hml, hown, hts⟩ (g_findWord l dC dI cy vt vt1 vt2 vtL vtli vta_86 vtk_87 x_2 (-1) vtc_88 vtn_89 vtfk vtfp vtco ) (cw_X8_67 hts rfl rfl ⟨Nat.le_of_ble_eq_true rfl, Nat.le_of_ble_eq_true rfl⟩) hP hK [1, 0] rfl rfl rfl rfl hl.1 rfl (Nat.le_of_ble_eq_true rfl) dX8_advance_151 ⟨Nat.le_of_ble_eq_true rfl, Nat.le_of_ble_eq_true rfl⟩) hP hS (fun r_92 H locs hp_93 hP hS => ?_)
                    have hp_93 : (-1 ≤ (r_92 : Int32).toInt ∧ (r_92 : Int32).toInt ≤ 28) := hp_93
                    have q_94 := hp_93
                    refine lv_goto (tgt := 158) hx hb dX8_advance_154 (by decide) ?_
                    refine pf_X8_54 hx hb hts hown hK hP hD hS 1 rfl rfl rfl (Nat.le_of_ble_eq_true rfl) dX8_advance_158 (fun H locs hP hD hS => ?_)
                    have hP : va_P (dC, dI) vwCl [(vt2, .inl (cy 1, 29, .inr (.inl vtco))), (vt, .inr (9, [.ref vt1, .ref vt2, .int vtL, .int vtli, .int vta_86, .int vtk_87, .int x_2, .int r_92, .long vtc_88, .int vtn_89, .int vtfk, .int vtfp])), (vt1, .inl (cy 0, 940, .inl vtb))] H := hP
                    have hD : va_D A [(vt2, .inl (cy 1, 29, .inr (.inl vtco))), (vt, .inr (9, [.ref vt1, .ref vt2, .int vtL, .int vtli, .int vta_86, .int vtk_87, .int x_2, .int r_92, .long vtc_88, .int vtn_89, .int vtfk, .int vtfp])), (vt1, .inl (cy 0, 940, .inl vtb))] := hD
                    refine lv_goto (tgt := 206) hx hb dX8_advance_161 (by decide) ?_
                    rw [hQ9]
                    exact re_v (vta_86, x_2, r_92, vtk_87, vtc_88, vtn_89) hx hb hr hlocks (show 0 ≤ (vta_86 : Int32).toInt ∧ (vta_86 : Int32).toInt ≤ 940 from ⟨by omega, by omega⟩) (hP.sub [1, 2, 0] rfl) (hD.sub [1, 2, 0] rfl rfl) hS dX8_advance_206
              · skip
                have c_68 : ¬ (x_2.toInt < vtL.toInt) := fun h9 => c_68 (i_lt.mpr h9)
                refine lv_aload_n hx hb dX8_advance_114 rfl (lv_at hl 0 rfl) ?_
                refine lv_iconst (v := 3) hx hb dX8_advance_115 (by decide) ?_
                refine pf_X8_57 hx hb hts hown hK hP hD hS 0 rfl rfl rfl (Nat.le_of_ble_eq_true rfl) dX8_advance_116 (fun H locs hP hD hS => ?_)
                have hP : va_P (dC, dI) vwCl [(vt, .inr (9, [.ref vt1, .ref vt2, .int vtL, .int vtli, .int x_2, .int 3, .int x_2, .int (-1), .long vtc, .int vtn, .int vtfk, .int vtfp])), (vt1, .inl (cy 0, 940, .inl vtb)), (vt2, .inl (cy 1, 29, .inr (.inl vtco)))] H := hP
                have hD : va_D A [(vt, .inr (9, [.ref vt1, .ref vt2, .int vtL, .int vtli, .int x_2, .int 3, .int x_2, .int (-1), .long vtc, .int vtn, .int vtfk, .int vtfp])), (vt1, .inl (cy 0, 940, .inl vtb)), (vt2, .inl (cy 1, 29, .inr (.inl vtco)))] := hD
                refine lv_goto (tgt := 206) hx hb dX8_advance_119 (by decide) ?_
                have k_m1 : ((-1) : Int32).toInt = (-1) := by decide
                have k_3 : (3 : Int32).toInt = 3 := by decide
                rw [hQ9]
                exact re_v (x_2, x_2, ((-1) : Int32), (3 : Int32), vtc, vtn) hx hb hr hlocks (show 0 ≤ (x_2 : Int32).toInt ∧ (x_2 : Int32).toInt ≤ 940 from ⟨by omega, by omega⟩) (hP.sub [0, 1, 2] rfl) (hD.sub [0, 1, 2] rfl rfl) hS dX8_advance_206
            · skip
              have c_67 : ¬ (vtL.toInt ≤ vtli.toInt) := fun h9 => c_67 (i_le.mpr h9)
              refine lv_aload_n hx hb dX8_advance_76 rfl (lv_at hl 0 rfl) ?_
              refine gf_X8_39 hx hb hts hown hK hP 0 rfl rfl dX8_advance_77 ?_
              refine lv_aload_n hx hb dX8_advance_80 rfl (lv_at hl 0 rfl) ?_
              refine gf_X8_36 hx hb hts hown hK hP 0 rfl rfl dX8_advance_81 ?_
              refine lv_icmp_lt (tgt := 103) hx hb dX8_advance_84 (by decide) (fun c_95 => ?_) (fun c_95 => ?_)
              · skip
                have c_95 : x_2.toInt < vtli.toInt := i_lt.mp c_95
                refine lv_aload_n hx hb dX8_advance_103 rfl (lv_at hl 0 rfl) ?_
                refine gf_X8_39 hx hb hts hown hK hP 0 rfl rfl dX8_advance_104 ?_
                refine lv_aload_n hx hb dX8_advance_107 rfl (lv_at hl 0 rfl) ?_
                refine gf_X8_33 hx hb hts hown hK hP 0 rfl rfl dX8_advance_108 ?_
                refine lv_icmp_lt (tgt := 122) hx hb dX8_advance_111 (by decide) (fun c_96 => ?_) (fun c_96 => ?_)
                · skip
                  have c_96 : x_2.toInt < vtL.toInt := i_lt.mp c_96
                  refine lv_aload_n hx hb dX8_advance_122 rfl (lv_at hl 0 rfl) ?_
                  refine gf_X8_9 hx hb hts hown hK hP 0 rfl rfl dX8_advance_123 ?_
                  refine lv_aload_n hx hb dX8_advance_126 rfl (lv_at hl 0 rfl) ?_
                  refine gf_X8_39 hx hb hts hown hK hP 0 rfl rfl dX8_advance_127 ?_
                  have hin_97 : vp_in x_2 940 := vp_in_iff.mpr ⟨by omega, by omega⟩
                  refine va_iald hx hb hK hP 1 0 rfl rfl hin_97 dX8_advance_130 ?_
                  refine lv_topi (fun z_98 ez_98 => ?_)
                  have bz_98 := p_vtb.at hin_97 ez_98
                  refine jr_i (rSr (As := [.int z_98]) (rest := []) ⟨hx, hb, hml, hown, hts⟩ (g_isOfRun l dC dI cy z_98 ) (cw_X8_60 hts rfl rfl ⟨Nat.le_of_ble_eq_true rfl, Nat.le_of_ble_eq_true rfl⟩) hP hK [] rfl rfl hl.1 rfl (Nat.le_of_ble_eq_true rfl) dX8_advance_131 ⟨Nat.le_of_ble_eq_true rfl, Nat.le_of_ble_eq_true rfl⟩) hP hS (fun r_99 H locs hp_100 hP hS => ?_)
                  have hp_100 : ((r_99 = 0) ∨ (r_99 = 1)) := hp_100
                  have q_101 := hp_100
                  rcases q_101 with aq_101 | aq_101
                  · skip
                    refine as_i 0 aq_101 ?_
                    refine lv_if_eq (tgt := 164) hx hb dX8_advance_134 (by decide) (fun _ => ?_) (fun c9 => absurd (by decide) c9)
                    refine lv_aload_n hx hb dX8_advance_164 rfl (lv_at hl 0 rfl) ?_
                    refine lv_aload_n hx hb dX8_advance_165 rfl (lv_at hl 0 rfl) ?_
                    refine gf_X8_9 hx hb hts hown hK hP 0 rfl rfl dX8_advance_166 ?_
                    refine lv_aload_n hx hb dX8_advance_169 rfl (lv_at hl 0 rfl) ?_
                    refine gf_X8_39 hx hb hts hown hK hP 0 rfl rfl dX8_advance_170 ?_
                    have hin_102 : vp_in x_2 940 := vp_in_iff.mpr ⟨by omega, by omega⟩
                    refine va_iald hx hb hK hP 1 0 rfl rfl hin_102 dX8_advance_173 ?_
                    refine lv_topi (fun z_103 ez_103 => ?_)
                    have bz_103 := p_vtb.at hin_102 ez_103
                    refine jr_i (rSr (As := [.int z_103]) (rest := [.ref vt]) ⟨hx, hb, hml, hown, hts⟩ (g_isSign l dC dI cy z_103 ) (cw_X8_70 hts rfl rfl ⟨Nat.le_of_ble_eq_true rfl, Nat.le_of_ble_eq_true rfl⟩) hP hK [] rfl rfl hl.1 rfl (Nat.le_of_ble_eq_true rfl) dX8_advance_174 ⟨Nat.le_of_ble_eq_true rfl, Nat.le_of_ble_eq_true rfl⟩) hP hS (fun r_104 H locs hp_105 hP hS => ?_)
                    have hp_105 : ((r_104 = 0) ∨ (r_104 = 1)) := hp_105
                    have q_106 := hp_105
                    rcases q_106 with aq_106 | aq_106
                    · skip
                      refine as_i 0 aq_106 ?_
                      refine lv_if_eq (tgt := 192) hx hb dX8_advance_177 (by decide) (fun _ => ?_) (fun c9 => absurd (by decide) c9)
                      refine lv_iconst (v := 0) hx hb dX8_advance_192 (by decide) ?_
                      refine pf_X8_57 hx hb hts hown hK hP hD hS 0 rfl rfl rfl (Nat.le_of_ble_eq_true rfl) dX8_advance_193 (fun H locs hP hD hS => ?_)
                      have hP : va_P (dC, dI) vwCl [(vt, .inr (9, [.ref vt1, .ref vt2, .int vtL, .int vtli, .int x_2, .int 0, .int x_2, .int (-1), .long vtc, .int vtn, .int vtfk, .int vtfp])), (vt1, .inl (cy 0, 940, .inl vtb)), (vt2, .inl (cy 1, 29, .inr (.inl vtco)))] H := hP
                      have hD : va_D A [(vt, .inr (9, [.ref vt1, .ref vt2, .int vtL, .int vtli, .int x_2, .int 0, .int x_2, .int (-1), .long vtc, .int vtn, .int vtfk, .int vtfp])), (vt1, .inl (cy 0, 940, .inl vtb)), (vt2, .inl (cy 1, 29, .inr (.inl vtco)))] := hD
                      refine lv_aload_n hx hb dX8_advance_196 rfl (lv_at hl 0 rfl) ?_
                      refine lv_dup hx hb dX8_advance_197 rfl ?_
                      refine gf_X8_39 hx hb hts hown hK hP 0 rfl rfl dX8_advance_198 ?_
                      refine lv_iconst (v := 1) hx hb dX8_advance_201 (by decide) ?_
                      refine lv_iadd hx hb dX8_advance_202 ?_
                      refine lv_topi (fun z_107 ez_107 => ?_)
                      have k_1 : (1 : Int32).toInt = 1 := by decide
                      have bz_107 : z_107.toInt = x_2.toInt + (1 : Int32).toInt := i_add ez_107 (by omega) (by omega)
                      refine pf_X8_39 hx hb hts hown hK hP hD hS 0 rfl rfl rfl (Nat.le_of_ble_eq_true rfl) dX8_advance_203 (fun H locs hP hD hS => ?_)
                      have hP : va_P (dC, dI) vwCl [(vt, .inr (9, [.ref vt1, .ref vt2, .int vtL, .int vtli, .int z_107, .int 0, .int x_2, .int (-1), .long vtc, .int vtn, .int vtfk, .int vtfp])), (vt1, .inl (cy 0, 940, .inl vtb)), (vt2, .inl (cy 1, 29, .inr (.inl vtco)))] H := hP
                      have hD : va_D A [(vt, .inr (9, [.ref vt1, .ref vt2, .int vtL, .int vtli, .int z_107, .int 0, .int x_2, .int (-1), .long vtc, .int vtn, .int vtfk, .int vtfp])), (vt1, .inl (cy 0, 940, .inl vtb)), (vt2, .inl (cy 1, 29, .inr (.inl vtco)))] := hD
                      have k_m1 : ((-1) : Int32).toInt = (-1) := by decide
                      have k_0 : (0 : Int32).toInt = 0 := by decide
                      rw [hQ9]
                      exact re_v (z_107, x_2, ((-1) : Int32), (0 : Int32), vtc, vtn) hx hb hr hlocks (show 0 ≤ (z_107 : Int32).toInt ∧ (z_107 : Int32).toInt ≤ 940 from ⟨by omega, by omega⟩) (hP.sub [0, 1, 2] rfl) (hD.sub [0, 1, 2] rfl rfl) hS dX8_advance_206
                    · skip
                      refine as_i 1 aq_106 ?_
                      refine lv_if_eq (tgt := 192) hx hb dX8_advance_177 (by decide) (fun c9 => absurd c9 (by decide)) (fun _ => ?_)
                      refine lv_aload_n hx hb dX8_advance_180 rfl (lv_at hl 0 rfl) ?_
                      refine gf_X8_9 hx hb hts hown hK hP 0 rfl rfl dX8_advance_181 ?_
                      refine lv_aload_n hx hb dX8_advance_184 rfl (lv_at hl 0 rfl) ?_
                      refine gf_X8_39 hx hb hts hown hK hP 0 rfl rfl dX8_advance_185 ?_
                      have hin_108 : vp_in x_2 940 := vp_in_iff.mpr ⟨by omega, by omega⟩
                      refine va_iald hx hb hK hP 1 0 rfl rfl hin_108 dX8_advance_188 ?_
                      refine lv_topi (fun z_109 ez_109 => ?_)
                      have bz_109 := p_vtb.at hin_108 ez_109
                      refine lv_goto (tgt := 193) hx hb dX8_advance_189 (by decide) ?_
                      refine pf_X8_57 hx hb hts hown hK hP hD hS 0 rfl rfl rfl (Nat.le_of_ble_eq_true rfl) dX8_advance_193 (fun H locs hP hD hS => ?_)
                      have hP : va_P (dC, dI) vwCl [(vt, .inr (9, [.ref vt1, .ref vt2, .int vtL, .int vtli, .int x_2, .int z_109, .int x_2, .int (-1), .long vtc, .int vtn, .int vtfk, .int vtfp])), (vt1, .inl (cy 0, 940, .inl vtb)), (vt2, .inl (cy 1, 29, .inr (.inl vtco)))] H := hP
                      have hD : va_D A [(vt, .inr (9, [.ref vt1, .ref vt2, .int vtL, .int vtli, .int x_2, .int z_109, .int x_2, .int (-1), .long vtc, .int vtn, .int vtfk, .int vtfp])), (vt1, .inl (cy 0, 940, .inl vtb)), (vt2, .inl (cy 1, 29, .inr (.inl vtco)))] := hD
                      refine lv_aload_n hx hb dX8_advance_196 rfl (lv_at hl 0 rfl) ?_
                      refine lv_dup hx hb dX8_advance_197 rfl ?_
                      refine gf_X8_39 hx hb hts hown hK hP 0 rfl rfl dX8_advance_198 ?_
                      refine lv_iconst (v := 1) hx hb dX8_advance_201 (by decide) ?_
                      refine lv_iadd hx hb dX8_advance_202 ?_
                      refine lv_topi (fun z_110 ez_110 => ?_)
                      have k_1 : (1 : Int32).toInt = 1 := by decide
                      have bz_110 : z_110.toInt = x_2.toInt + (1 : Int32).toInt := i_add ez_110 (by omega) (by omega)
                      refine pf_X8_39 hx hb hts hown hK hP hD hS 0 rfl rfl rfl (Nat.le_of_ble_eq_true rfl) dX8_advance_203 (fun H locs hP hD hS => ?_)
                      have hP : va_P (dC, dI) vwCl [(vt, .inr (9, [.ref vt1, .ref vt2, .int vtL, .int vtli, .int z_110, .int z_109, .int x_2, .int (-1), .long vtc, .int vtn, .int vtfk, .int vtfp])), (vt1, .inl (cy 0, 940, .inl vtb)), (vt2, .inl (cy 1, 29, .inr (.inl vtco)))] H := hP
                      have hD : va_D A [(vt, .inr (9, [.ref vt1, .ref vt2, .int vtL, .int vtli, .int z_110, .int z_109, .int x_2, .int (-1), .long vtc, .int vtn, .int vtfk, .int vtfp])), (vt1, .inl (cy 0, 940, .inl vtb)), (vt2, .inl (cy 1, 29, .inr (.inl vtco)))] := hD
                      have k_m1 : ((-1) : Int32).toInt = (-1) := by decide
                      rw [hQ9]
                      exact re_v (z_110, x_2, ((-1) : Int32), z_109, vtc, vtn) hx hb hr hlocks (show 0 ≤ (z_110 : Int32).toInt ∧ (z_110 : Int32).toInt ≤ 940 from ⟨by omega, by omega⟩) (hP.sub [0, 1, 2] rfl) (hD.sub [0, 1, 2] rfl rfl) hS dX8_advance_206
                  · skip
                    refine as_i 1 aq_101 ?_
                    refine lv_if_eq (tgt := 164) hx hb dX8_advance_134 (by decide) (fun c9 => absurd c9 (by decide)) (fun _ => ?_)
                    refine lv_aload_n hx hb dX8_advance_137 rfl (lv_at hl 0 rfl) ?_
                    have k_m1 : ((-1) : Int32).toInt = (-1) := by decide
                    refine jn_v (wr := [(vt2, .inl (cy 1, 29, .inr (.inl vtco)))]) (rV (As := []) (rest := []) (ci := 9) ⟨hx, hb, hml, hown, hts⟩ (g_readRun l dC dI cy _ vt vt1 vt2 vtL vtli x_2 vtk x_2 (-1) vtc vtn vtfk vtfp vtb r_vtL ⟨by omega, by omega⟩ p_vtb) (cw_X8_64 hts rfl rfl ⟨Nat.le_of_ble_eq_true rfl, Nat.le_of_ble_eq_true rfl⟩) hP hD hK [0, 1] rfl rfl rfl rfl bl0 e0 rfl hl.1 rfl (Nat.le_of_ble_eq_true rfl) dX8_advance_138 ⟨Nat.le_of_ble_eq_true rfl, Nat.le_of_ble_eq_true rfl⟩) hP hD hS hA [0, 1] [2] rfl rfl rfl (by decide) (fun u_113 H locs hp_112 hP hD hS => ?_)
                    obtain ⟨vta_114, vtk_115, vtc_116, vtn_117⟩ := u_113
                    have hp_112 : (0 ≤ (vta_114 : Int32).toInt ∧ (vta_114 : Int32).toInt ≤ 940) := hp_112
                    have q_118 := hp_112
                    have hP : va_P (dC, dI) vwCl [(vt2, .inl (cy 1, 29, .inr (.inl vtco))), (vt, .inr (9, [.ref vt1, .ref vt2, .int vtL, .int vtli, .int vta_114, .int vtk_115, .int x_2, .int (-1), .long vtc_116, .int vtn_117, .int vtfk, .int vtfp])), (vt1, .inl (cy 0, 940, .inl vtb))] H := hP
                    have hD : va_D A [(vt2, .inl (cy 1, 29, .inr (.inl vtco))), (vt, .inr (9, [.ref vt1, .ref vt2, .int vtL, .int vtli, .int vta_114, .int vtk_115, .int x_2, .int (-1), .long vtc_116, .int vtn_117, .int vtfk, .int vtfp])), (vt1, .inl (cy 0, 940, .inl vtb))] := hD
                    refine lv_aload_n hx hb dX8_advance_141 rfl (lv_at hl 0 rfl) ?_
                    refine lv_aload_n hx hb dX8_advance_142 rfl (lv_at hl 0 rfl) ?_
                    refine gf_X8_57 hx hb hts hown hK hP 1 rfl rfl dX8_advance_143 ?_
                    refine lv_iconst (v := 1) hx hb dX8_advance_146 (by decide) ?_
                    have k_1 : (1 : Int32).toInt = 1 := by decide
                    refine lv_icmp_ne (tgt := 157) hx hb dX8_advance_147 (by decide) (fun c_119 => ?_) (fun c_119 => ?_)
                    · skip
                      have c_119 : ¬ (vtk_115.toInt = (1 : Int32).toInt) := fun h9 => c_119 (i_eq.mpr h9)
                      refine lv_iconst (v := (-1)) hx hb dX8_advance_157 (by decide) ?_
                      refine pf_X8_54 hx hb hts hown hK hP hD hS 1 rfl rfl rfl (Nat.le_of_ble_eq_true rfl) dX8_advance_158 (fun H locs hP hD hS => ?_)
                      have hP : va_P (dC, dI) vwCl [(vt2, .inl (cy 1, 29, .inr (.inl vtco))), (vt, .inr (9, [.ref vt1, .ref vt2, .int vtL, .int vtli, .int vta_114, .int vtk_115, .int x_2, .int (-1), .long vtc_116, .int vtn_117, .int vtfk, .int vtfp])), (vt1, .inl (cy 0, 940, .inl vtb))] H := hP
                      have hD : va_D A [(vt2, .inl (cy 1, 29, .inr (.inl vtco))), (vt, .inr (9, [.ref vt1, .ref vt2, .int vtL, .int vtli, .int vta_114, .int vtk_115, .int x_2, .int (-1), .long vtc_116, .int vtn_117, .int vtfk, .int vtfp])), (vt1, .inl (cy 0, 940, .inl vtb))] := hD
                      refine lv_goto (tgt := 206) hx hb dX8_advance_161 (by decide) ?_
                      rw [hQ9]
                      exact re_v (vta_114, x_2, ((-1) : Int32), vtk_115, vtc_116, vtn_117) hx hb hr hlocks (show 0 ≤ (vta_114 : Int32).toInt ∧ (vta_114 : Int32).toInt ≤ 940 from ⟨by omega, by omega⟩) (hP.sub [1, 2, 0] rfl) (hD.sub [1, 2, 0] rfl rfl) hS dX8_advance_206
                    · skip
                      have c_119 : vtk_115.toInt = (1 : Int32).toInt := i_eq.mp c_119
                      refine lv_aload_n hx hb dX8_advance_150 rfl (lv_at hl 0 rfl) ?_
                      refine jr_i (rVr (As := []) (rest := [.ref vt]) (ci := 9) ⟨hx, hb, hml, hown, hts⟩ (g_findWord l dC dI cy vt vt1 vt2 vtL vtli vta_114 vtk_115 x_2 (-1) vtc_116 vtn_117 vtfk vtfp vtco ) (cw_X8_67 hts rfl rfl ⟨Nat.le_of_ble_eq_true rfl, Nat.le_of_ble_eq_true rfl⟩) hP hK [1, 0] rfl rfl rfl rfl hl.1 rfl (Nat.le_of_ble_eq_true rfl) dX8_advance_151 ⟨Nat.le_of_ble_eq_true rfl, Nat.le_of_ble_eq_true rfl⟩) hP hS (fun r_120 H locs hp_121 hP hS => ?_)
                      have hp_121 : (-1 ≤ (r_120 : Int32).toInt ∧ (r_120 : Int32).toInt ≤ 28) := hp_121
                      have q_122 := hp_121
                      refine lv_goto (tgt := 158) hx hb dX8_advance_154 (by decide) ?_
                      refine pf_X8_54 hx hb hts hown hK hP hD hS 1 rfl rfl rfl (Nat.le_of_ble_eq_true rfl) dX8_advance_158 (fun H locs hP hD hS => ?_)
                      have hP : va_P (dC, dI) vwCl [(vt2, .inl (cy 1, 29, .inr (.inl vtco))), (vt, .inr (9, [.ref vt1, .ref vt2, .int vtL, .int vtli, .int vta_114, .int vtk_115, .int x_2, .int r_120, .long vtc_116, .int vtn_117, .int vtfk, .int vtfp])), (vt1, .inl (cy 0, 940, .inl vtb))] H := hP
                      have hD : va_D A [(vt2, .inl (cy 1, 29, .inr (.inl vtco))), (vt, .inr (9, [.ref vt1, .ref vt2, .int vtL, .int vtli, .int vta_114, .int vtk_115, .int x_2, .int r_120, .long vtc_116, .int vtn_117, .int vtfk, .int vtfp])), (vt1, .inl (cy 0, 940, .inl vtb))] := hD
                      refine lv_goto (tgt := 206) hx hb dX8_advance_161 (by decide) ?_
                      rw [hQ9]
                      exact re_v (vta_114, x_2, r_120, vtk_115, vtc_116, vtn_117) hx hb hr hlocks (show 0 ≤ (vta_114 : Int32).toInt ∧ (vta_114 : Int32).toInt ≤ 940 from ⟨by omega, by omega⟩) (hP.sub [1, 2, 0] rfl) (hD.sub [1, 2, 0] rfl rfl) hS dX8_advance_206
                · skip
                  have c_96 : ¬ (x_2.toInt < vtL.toInt) := fun h9 => c_96 (i_lt.mpr h9)
                  refine lv_aload_n hx hb dX8_advance_114 rfl (lv_at hl 0 rfl) ?_
                  refine lv_iconst (v := 3) hx hb dX8_advance_115 (by decide) ?_
                  refine pf_X8_57 hx hb hts hown hK hP hD hS 0 rfl rfl rfl (Nat.le_of_ble_eq_true rfl) dX8_advance_116 (fun H locs hP hD hS => ?_)
                  have hP : va_P (dC, dI) vwCl [(vt, .inr (9, [.ref vt1, .ref vt2, .int vtL, .int vtli, .int x_2, .int 3, .int x_2, .int (-1), .long vtc, .int vtn, .int vtfk, .int vtfp])), (vt1, .inl (cy 0, 940, .inl vtb)), (vt2, .inl (cy 1, 29, .inr (.inl vtco)))] H := hP
                  have hD : va_D A [(vt, .inr (9, [.ref vt1, .ref vt2, .int vtL, .int vtli, .int x_2, .int 3, .int x_2, .int (-1), .long vtc, .int vtn, .int vtfk, .int vtfp])), (vt1, .inl (cy 0, 940, .inl vtb)), (vt2, .inl (cy 1, 29, .inr (.inl vtco)))] := hD
                  refine lv_goto (tgt := 206) hx hb dX8_advance_119 (by decide) ?_
                  have k_m1 : ((-1) : Int32).toInt = (-1) := by decide
                  have k_3 : (3 : Int32).toInt = 3 := by decide
                  rw [hQ9]
                  exact re_v (x_2, x_2, ((-1) : Int32), (3 : Int32), vtc, vtn) hx hb hr hlocks (show 0 ≤ (x_2 : Int32).toInt ∧ (x_2 : Int32).toInt ≤ 940 from ⟨by omega, by omega⟩) (hP.sub [0, 1, 2] rfl) (hD.sub [0, 1, 2] rfl rfl) hS dX8_advance_206
              · skip
                have c_95 : ¬ (x_2.toInt < vtli.toInt) := fun h9 => c_95 (i_lt.mpr h9)
                refine lv_aload_n hx hb dX8_advance_87 rfl (lv_at hl 0 rfl) ?_
                refine lv_iconst (v := 0) hx hb dX8_advance_88 (by decide) ?_
                refine pf_X8_57 hx hb hts hown hK hP hD hS 0 rfl rfl rfl (Nat.le_of_ble_eq_true rfl) dX8_advance_89 (fun H locs hP hD hS => ?_)
                have hP : va_P (dC, dI) vwCl [(vt, .inr (9, [.ref vt1, .ref vt2, .int vtL, .int vtli, .int x_2, .int 0, .int x_2, .int (-1), .long vtc, .int vtn, .int vtfk, .int vtfp])), (vt1, .inl (cy 0, 940, .inl vtb)), (vt2, .inl (cy 1, 29, .inr (.inl vtco)))] H := hP
                have hD : va_D A [(vt, .inr (9, [.ref vt1, .ref vt2, .int vtL, .int vtli, .int x_2, .int 0, .int x_2, .int (-1), .long vtc, .int vtn, .int vtfk, .int vtfp])), (vt1, .inl (cy 0, 940, .inl vtb)), (vt2, .inl (cy 1, 29, .inr (.inl vtco)))] := hD
                refine lv_aload_n hx hb dX8_advance_92 rfl (lv_at hl 0 rfl) ?_
                refine lv_aload_n hx hb dX8_advance_93 rfl (lv_at hl 0 rfl) ?_
                refine gf_X8_36 hx hb hts hown hK hP 0 rfl rfl dX8_advance_94 ?_
                refine pf_X8_51 hx hb hts hown hK hP hD hS 0 rfl rfl rfl (Nat.le_of_ble_eq_true rfl) dX8_advance_97 (fun H locs hP hD hS => ?_)
                have hP : va_P (dC, dI) vwCl [(vt, .inr (9, [.ref vt1, .ref vt2, .int vtL, .int vtli, .int x_2, .int 0, .int vtli, .int (-1), .long vtc, .int vtn, .int vtfk, .int vtfp])), (vt1, .inl (cy 0, 940, .inl vtb)), (vt2, .inl (cy 1, 29, .inr (.inl vtco)))] H := hP
                have hD : va_D A [(vt, .inr (9, [.ref vt1, .ref vt2, .int vtL, .int vtli, .int x_2, .int 0, .int vtli, .int (-1), .long vtc, .int vtn, .int vtfk, .int vtfp])), (vt1, .inl (cy 0, 940, .inl vtb)), (vt2, .inl (cy 1, 29, .inr (.inl vtco)))] := hD
                refine lv_goto (tgt := 206) hx hb dX8_advance_100 (by decide) ?_
                have k_m1 : ((-1) : Int32).toInt = (-1) := by decide
                have k_0 : (0 : Int32).toInt = 0 := by decide
                rw [hQ9]
                exact re_v (x_2, vtli, ((-1) : Int32), (0 : Int32), vtc, vtn) hx hb hr hlocks (show 0 ≤ (x_2 : Int32).toInt ∧ (x_2 : Int32).toInt ≤ 940 from ⟨by omega, by omega⟩) (hP.sub [0, 1, 2] rfl) (hD.sub [0, 1, 2] rfl rfl) hS dX8_advance_206
          · skip
            have c_66 : z_65.toInt = (10 : Int32).toInt := i_eq.mp c_66
            refine lv_aload_n hx hb dX8_advance_39 rfl (lv_at hl 0 rfl) ?_
            refine lv_dup hx hb dX8_advance_40 rfl ?_
            refine gf_X8_39 hx hb hts hown hK hP 0 rfl rfl dX8_advance_41 ?_
            refine lv_iconst (v := 1) hx hb dX8_advance_44 (by decide) ?_
            refine lv_iadd hx hb dX8_advance_45 ?_
            refine lv_topi (fun z_123 ez_123 => ?_)
            have k_1 : (1 : Int32).toInt = 1 := by decide
            have bz_123 : z_123.toInt = x_2.toInt + (1 : Int32).toInt := i_add ez_123 (by omega) (by omega)
            refine pf_X8_39 hx hb hts hown hK hP hD hS 0 rfl rfl rfl (Nat.le_of_ble_eq_true rfl) dX8_advance_46 (fun H locs hP hD hS => ?_)
            have hP : va_P (dC, dI) vwCl [(vt, .inr (9, [.ref vt1, .ref vt2, .int vtL, .int vtli, .int z_123, .int vtk, .int vtst, .int vtw, .long vtc, .int vtn, .int vtfk, .int vtfp])), (vt1, .inl (cy 0, 940, .inl vtb)), (vt2, .inl (cy 1, 29, .inr (.inl vtco)))] H := hP
            have hD : va_D A [(vt, .inr (9, [.ref vt1, .ref vt2, .int vtL, .int vtli, .int z_123, .int vtk, .int vtst, .int vtw, .long vtc, .int vtn, .int vtfk, .int vtfp])), (vt1, .inl (cy 0, 940, .inl vtb)), (vt2, .inl (cy 1, 29, .inr (.inl vtco)))] := hD
            refine lv_goto (tgt := 0) hx hb dX8_advance_49 (by decide) ?_
            exact ih1 z_123 ⟨by omega, by omega⟩ (by omega) _ _ (hP.sub [0, 1, 2] rfl) (hD.sub [0, 1, 2] rfl rfl) hS ls (lv_sub hl [0] rfl)
  exact loop1 ((940 - vta.toInt).toNat + 1) vta ⟨by omega, by omega⟩ (by omega) _ _ hP hD hS ls (lv_sub hl [0] rfl)
abbrev O_g_open (cy : Nat → ClassId) (vt : Nat) (vt1 : Nat) (vt2 : Nat) (vtL : Int32) (vtli : Int32) (vta : Int32) (vtk : Int32) (vtst : Int32) (vtw : Int32) (vtc : Int64) (vtn : Int32) (vtfk : Int32) (vtfp : Int32) (vtb : Nat → Int32) (vtco : Nat → Int64) (vx : Int32) (u : Int32 × Int32 × Int32 × Int32 × Int64 × Int32 × Int32 × Int32 × Int32) : va_W := [(vt, .inr (9, [.ref vt1, .ref vt2, .int vtL, .int u.2.2.2.2.2.2.2.2, .int u.1, .int u.2.2.2.1, .int u.2.1, .int u.2.2.1, .long u.2.2.2.2.1, .int u.2.2.2.2.2.1, .int u.2.2.2.2.2.2.1, .int u.2.2.2.2.2.2.2.1])), (vt1, .inl (cy 0, 940, .inl vtb)), (vt2, .inl (cy 1, 29, .inr (.inl vtco)))]
set_option maxHeartbeats 4000000 in
set_option maxRecDepth 100000 in
theorem g_open (l : Launch) (dC : Nat → ClassId) (dI : Nat → Nat → Nat) (cy : Nat → ClassId) (sz : Nat) (vt : Nat) (vt1 : Nat) (vt2 : Nat) (vtL : Int32) (vtli : Int32) (vta : Int32) (vtk : Int32) (vtst : Int32) (vtw : Int32) (vtc : Int64) (vtn : Int32) (vtfk : Int32) (vtfp : Int32) (vtb : Nat → Int32) (vtco : Nat → Int64) (vx : Int32) (r_vtL : 0 ≤ (vtL : Int32).toInt ∧ (vtL : Int32).toInt ≤ 940) (p_vtb : Rg vtb 940 0 255) : Met l yX8_open (wl yX8_open cX8_open 2 none) ({ frames := 2, cells := 0, slots := 0, locals := 128 }) (Pw (dC, dI) vwCl cy [(vt, .inr (9, [.ref vt1, .ref vt2, .int vtL, .int vtli, .int vta, .int vtk, .int vtst, .int vtw, .long vtc, .int vtn, .int vtfk, .int vtfp])), (vt1, .inl (cy 0, 940, .inl vtb)), (vt2, .inl (cy 1, 29, .inr (.inl vtco)))] sz [.ref vt, .int vx] nE) (Qv (dC, dI) vwCl (fun (u : Int32 × Int32 × Int32 × Int32 × Int64 × Int32 × Int32 × Int32 × Int32) => (0 ≤ (u.1 : Int32).toInt ∧ (u.1 : Int32).toInt ≤ 940)) (O_g_open cy vt vt1 vt2 vtL vtli vta vtk vtst vtw vtc vtn vtfk vtfp vtb vtco vx) (va_A [(vt, .inr (9, [.ref vt1, .ref vt2, .int vtL, .int vtli, .int vta, .int vtk, .int vtst, .int vtw, .long vtc, .int vtn, .int vtfk, .int vtfp])), (vt1, .inl (cy 0, 940, .inl vtb)), (vt2, .inl (cy 1, 29, .inr (.inl vtco)))] sz)) 0 0 (va_A [(vt, .inr (9, [.ref vt1, .ref vt2, .int vtL, .int vtli, .int vta, .int vtk, .int vtst, .int vtw, .long vtc, .int vtn, .int vtfk, .int vtfp])), (vt1, .inl (cy 0, 940, .inl vtb)), (vt2, .inl (cy 1, 29, .inr (.inl vtco)))] sz) := by
  refine mw (Qc := Qv (dC, dI) vwCl (fun (u : Int32 × Int32 × Int32 × Int32 × Int64 × Int32 × Int32 × Int32 × Int32) => (0 ≤ (u.1 : Int32).toInt ∧ (u.1 : Int32).toInt ≤ 940)) (O_g_open cy vt vt1 vt2 vtL vtli vta vtk vtst vtw vtc vtn vtfk vtfp vtb vtco vx)) RX8 rfl (by decide +kernel) (Nat.le_of_ble_eq_true rfl) ?_
  intro p e s m below meth c A hx hb hr hlocks av9 hav hts hown hnm hml hK hP hD hA hS hE hAe Q9 hQ9 ls hl
  have hl : lv_has ls 2 [(0, .ref vt), (1, .int vx)] := hl
  refine lv_aload_n hx hb dX8_open_0 rfl (lv_at hl 0 rfl) ?_
  refine lv_iload_n hx hb dX8_open_1 rfl (lv_at hl 1 rfl) ?_
  refine pf_X8_36 hx hb hts hown hK hP hD hS 0 rfl rfl rfl (Nat.le_of_ble_eq_true rfl) dX8_open_2 (fun H locs hP hD hS => ?_)
  have hP : va_P (dC, dI) vwCl [(vt, .inr (9, [.ref vt1, .ref vt2, .int vtL, .int vx, .int vta, .int vtk, .int vtst, .int vtw, .long vtc, .int vtn, .int vtfk, .int vtfp])), (vt1, .inl (cy 0, 940, .inl vtb)), (vt2, .inl (cy 1, 29, .inr (.inl vtco)))] H := hP
  have hD : va_D A [(vt, .inr (9, [.ref vt1, .ref vt2, .int vtL, .int vx, .int vta, .int vtk, .int vtst, .int vtw, .long vtc, .int vtn, .int vtfk, .int vtfp])), (vt1, .inl (cy 0, 940, .inl vtb)), (vt2, .inl (cy 1, 29, .inr (.inl vtco)))] := hD
  refine lv_aload_n hx hb dX8_open_5 rfl (lv_at hl 0 rfl) ?_
  refine lv_iconst (v := 0) hx hb dX8_open_6 (by decide) ?_
  refine pf_X8_39 hx hb hts hown hK hP hD hS 0 rfl rfl rfl (Nat.le_of_ble_eq_true rfl) dX8_open_7 (fun H locs hP hD hS => ?_)
  have hP : va_P (dC, dI) vwCl [(vt, .inr (9, [.ref vt1, .ref vt2, .int vtL, .int vx, .int 0, .int vtk, .int vtst, .int vtw, .long vtc, .int vtn, .int vtfk, .int vtfp])), (vt1, .inl (cy 0, 940, .inl vtb)), (vt2, .inl (cy 1, 29, .inr (.inl vtco)))] H := hP
  have hD : va_D A [(vt, .inr (9, [.ref vt1, .ref vt2, .int vtL, .int vx, .int 0, .int vtk, .int vtst, .int vtw, .long vtc, .int vtn, .int vtfk, .int vtfp])), (vt1, .inl (cy 0, 940, .inl vtb)), (vt2, .inl (cy 1, 29, .inr (.inl vtco)))] := hD
  refine lv_aload_n hx hb dX8_open_10 rfl (lv_at hl 0 rfl) ?_
  refine lv_iconst (v := 0) hx hb dX8_open_11 (by decide) ?_
  refine pf_X8_42 hx hb hts hown hK hP hD hS 0 rfl rfl rfl (Nat.le_of_ble_eq_true rfl) dX8_open_12 (fun H locs hP hD hS => ?_)
  have hP : va_P (dC, dI) vwCl [(vt, .inr (9, [.ref vt1, .ref vt2, .int vtL, .int vx, .int 0, .int vtk, .int vtst, .int vtw, .long vtc, .int vtn, .int 0, .int vtfp])), (vt1, .inl (cy 0, 940, .inl vtb)), (vt2, .inl (cy 1, 29, .inr (.inl vtco)))] H := hP
  have hD : va_D A [(vt, .inr (9, [.ref vt1, .ref vt2, .int vtL, .int vx, .int 0, .int vtk, .int vtst, .int vtw, .long vtc, .int vtn, .int 0, .int vtfp])), (vt1, .inl (cy 0, 940, .inl vtb)), (vt2, .inl (cy 1, 29, .inr (.inl vtco)))] := hD
  refine lv_aload_n hx hb dX8_open_15 rfl (lv_at hl 0 rfl) ?_
  refine lv_iconst (v := 0) hx hb dX8_open_16 (by decide) ?_
  refine pf_X8_45 hx hb hts hown hK hP hD hS 0 rfl rfl rfl (Nat.le_of_ble_eq_true rfl) dX8_open_17 (fun H locs hP hD hS => ?_)
  have hP : va_P (dC, dI) vwCl [(vt, .inr (9, [.ref vt1, .ref vt2, .int vtL, .int vx, .int 0, .int vtk, .int vtst, .int vtw, .long vtc, .int vtn, .int 0, .int 0])), (vt1, .inl (cy 0, 940, .inl vtb)), (vt2, .inl (cy 1, 29, .inr (.inl vtco)))] H := hP
  have hD : va_D A [(vt, .inr (9, [.ref vt1, .ref vt2, .int vtL, .int vx, .int 0, .int vtk, .int vtst, .int vtw, .long vtc, .int vtn, .int 0, .int 0])), (vt1, .inl (cy 0, 940, .inl vtb)), (vt2, .inl (cy 1, 29, .inr (.inl vtco)))] := hD
  refine lv_aload_n hx hb dX8_open_20 rfl (lv_at hl 0 rfl) ?_
  have k_0 : (0 : Int32).toInt = 0 := by decide
  refine jn_v (wr := []) (rV (As := []) (rest := []) (ci := 9) ⟨hx, hb, hml, hown, hts⟩ (g_advance l dC dI cy _ vt vt1 vt2 vtL vx 0 vtk vtst vtw vtc vtn 0 0 vtb vtco r_vtL ⟨by omega, by omega⟩ p_vtb) (cw_X8_48 hts rfl rfl ⟨Nat.le_of_ble_eq_true rfl, Nat.le_of_ble_eq_true rfl⟩) hP hD hK [0, 1, 2] rfl rfl rfl rfl bl0 e0 rfl hl.1 rfl (Nat.le_of_ble_eq_true rfl) dX8_open_21 ⟨Nat.le_of_ble_eq_true rfl, Nat.le_of_ble_eq_true rfl⟩) hP hD hS hA [0, 1, 2] [] rfl rfl rfl (by decide) (fun u_3 H locs hp_2 hP hD hS => ?_)
  obtain ⟨vta_4, vtst_5, vtw_6, vtk_7, vtc_8, vtn_9⟩ := u_3
  have hp_2 : (0 ≤ (vta_4 : Int32).toInt ∧ (vta_4 : Int32).toInt ≤ 940) := hp_2
  have q_10 := hp_2
  have hP : va_P (dC, dI) vwCl [(vt, .inr (9, [.ref vt1, .ref vt2, .int vtL, .int vx, .int vta_4, .int vtk_7, .int vtst_5, .int vtw_6, .long vtc_8, .int vtn_9, .int 0, .int 0])), (vt1, .inl (cy 0, 940, .inl vtb)), (vt2, .inl (cy 1, 29, .inr (.inl vtco)))] H := hP
  have hD : va_D A [(vt, .inr (9, [.ref vt1, .ref vt2, .int vtL, .int vx, .int vta_4, .int vtk_7, .int vtst_5, .int vtw_6, .long vtc_8, .int vtn_9, .int 0, .int 0])), (vt1, .inl (cy 0, 940, .inl vtb)), (vt2, .inl (cy 1, 29, .inr (.inl vtco)))] := hD
  rw [hQ9]
  exact re_v (vta_4, vtst_5, vtw_6, vtk_7, vtc_8, vtn_9, (0 : Int32), (0 : Int32), vx) hx hb hr hlocks (show 0 ≤ (vta_4 : Int32).toInt ∧ (vta_4 : Int32).toInt ≤ 940 from ⟨by omega, by omega⟩) (hP.sub [0, 1, 2] rfl) (hD.sub [0, 1, 2] rfl rfl) hS dX8_open_24
set_option maxHeartbeats 4000000 in
set_option maxRecDepth 100000 in
theorem g_isName (l : Launch) (dC : Nat → ClassId) (dI : Nat → Nat → Nat) (cy : Nat → ClassId) (vt : Nat) (vt1 : Nat) (vt2 : Nat) (vtL : Int32) (vtli : Int32) (vta : Int32) (vtk : Int32) (vtst : Int32) (vtw : Int32) (vtc : Int64) (vtn : Int32) (vtfk : Int32) (vtfp : Int32)  : Met l yX8_isName (wl yX8_isName cX8_isName 1 (some .boolean)) ({ frames := 0, cells := 0, slots := 0, locals := 0 }) (Pr (dC, dI) vwCl cy [(vt, .inr (9, [.ref vt1, .ref vt2, .int vtL, .int vtli, .int vta, .int vtk, .int vtst, .int vtw, .long vtc, .int vtn, .int vtfk, .int vtfp]))] [.ref vt]) (Ri (fun r => ((r = 0) ∨ (r = 1)))) 0 0 (fun _ => False) := by
  refine mr RX8 rfl (by decide +kernel) (Nat.le_of_ble_eq_true rfl) ?_
  intro p e s m below meth c hx hb hr hlocks av9 hav hts hown hml hK hP hS Q9 hQ9 ls hl
  have hl : lv_has ls 1 [(0, .ref vt)] := hl
  refine lv_aload_n hx hb dX8_isName_0 rfl (lv_at hl 0 rfl) ?_
  refine gf_X8_57 hx hb hts hown hK hP 0 rfl rfl dX8_isName_1 ?_
  refine lv_iconst (v := 1) hx hb dX8_isName_4 (by decide) ?_
  have k_1 : (1 : Int32).toInt = 1 := by decide
  refine lv_icmp_ne (tgt := 20) hx hb dX8_isName_5 (by decide) (fun c_1 => ?_) (fun c_1 => ?_)
  · skip
    have c_1 : ¬ (vtk.toInt = (1 : Int32).toInt) := fun h9 => c_1 (i_eq.mpr h9)
    refine lv_iconst (v := 0) hx hb dX8_isName_20 (by decide) ?_
    have k_0 : (0 : Int32).toInt = 0 := by decide
    rw [hQ9]
    exact rr_z hx hb hr hlocks (Or.inl rfl) (show ((0 : Int32) = 0) ∨ ((0 : Int32) = 1) from (Or.inl rfl)) hS dX8_isName_21
  · skip
    have c_1 : vtk.toInt = (1 : Int32).toInt := i_eq.mp c_1
    refine lv_aload_n hx hb dX8_isName_8 rfl (lv_at hl 0 rfl) ?_
    refine gf_X8_54 hx hb hts hown hK hP 0 rfl rfl dX8_isName_9 ?_
    refine lv_iconst (v := (-1)) hx hb dX8_isName_12 (by decide) ?_
    have k_m1 : ((-1) : Int32).toInt = (-1) := by decide
    refine lv_icmp_ne (tgt := 20) hx hb dX8_isName_13 (by decide) (fun c_2 => ?_) (fun c_2 => ?_)
    · skip
      have c_2 : ¬ (vtw.toInt = ((-1) : Int32).toInt) := fun h9 => c_2 (i_eq.mpr h9)
      refine lv_iconst (v := 0) hx hb dX8_isName_20 (by decide) ?_
      have k_0 : (0 : Int32).toInt = 0 := by decide
      rw [hQ9]
      exact rr_z hx hb hr hlocks (Or.inl rfl) (show ((0 : Int32) = 0) ∨ ((0 : Int32) = 1) from (Or.inl rfl)) hS dX8_isName_21
    · skip
      have c_2 : vtw.toInt = ((-1) : Int32).toInt := i_eq.mp c_2
      refine lv_iconst (v := 1) hx hb dX8_isName_16 (by decide) ?_
      refine lv_goto (tgt := 21) hx hb dX8_isName_17 (by decide) ?_
      rw [hQ9]
      exact rr_z hx hb hr hlocks (Or.inr rfl) (show ((1 : Int32) = 0) ∨ ((1 : Int32) = 1) from (Or.inr (rfl))) hS dX8_isName_21
abbrev O_g_refuse (cy : Nat → ClassId) (vt : Nat) (vt1 : Nat) (vt2 : Nat) (vtL : Int32) (vtli : Int32) (vta : Int32) (vtk : Int32) (vtst : Int32) (vtw : Int32) (vtc : Int64) (vtn : Int32) (vtfk : Int32) (vtfp : Int32) (vx : Int32) (u : Int32 × Int32) : va_W := [(vt, .inr (9, [.ref vt1, .ref vt2, .int vtL, .int vtli, .int vta, .int vtk, .int vtst, .int vtw, .long vtc, .int vtn, .int u.1, .int u.2]))]
set_option maxHeartbeats 4000000 in
set_option maxRecDepth 100000 in
theorem g_refuse (l : Launch) (dC : Nat → ClassId) (dI : Nat → Nat → Nat) (cy : Nat → ClassId) (sz : Nat) (vt : Nat) (vt1 : Nat) (vt2 : Nat) (vtL : Int32) (vtli : Int32) (vta : Int32) (vtk : Int32) (vtst : Int32) (vtw : Int32) (vtc : Int64) (vtn : Int32) (vtfk : Int32) (vtfp : Int32) (vx : Int32)  : Met l yX8_refuse (wl yX8_refuse cX8_refuse 2 (some .boolean)) ({ frames := 0, cells := 0, slots := 0, locals := 0 }) (Pw (dC, dI) vwCl cy [(vt, .inr (9, [.ref vt1, .ref vt2, .int vtL, .int vtli, .int vta, .int vtk, .int vtst, .int vtw, .long vtc, .int vtn, .int vtfk, .int vtfp]))] sz [.ref vt, .int vx] nE) (Qi (dC, dI) vwCl (fun (r : Int32) (u : Int32 × Int32) => ((r = 0))) (O_g_refuse cy vt vt1 vt2 vtL vtli vta vtk vtst vtw vtc vtn vtfk vtfp vx) (va_A [(vt, .inr (9, [.ref vt1, .ref vt2, .int vtL, .int vtli, .int vta, .int vtk, .int vtst, .int vtw, .long vtc, .int vtn, .int vtfk, .int vtfp]))] sz)) 0 0 (va_A [(vt, .inr (9, [.ref vt1, .ref vt2, .int vtL, .int vtli, .int vta, .int vtk, .int vtst, .int vtw, .long vtc, .int vtn, .int vtfk, .int vtfp]))] sz) := by
  refine mw (Qc := Qi (dC, dI) vwCl (fun (r : Int32) (u : Int32 × Int32) => ((r = 0))) (O_g_refuse cy vt vt1 vt2 vtL vtli vta vtk vtst vtw vtc vtn vtfk vtfp vx)) RX8 rfl (by decide +kernel) (Nat.le_of_ble_eq_true rfl) ?_
  intro p e s m below meth c A hx hb hr hlocks av9 hav hts hown hnm hml hK hP hD hA hS hE hAe Q9 hQ9 ls hl
  have hl : lv_has ls 2 [(0, .ref vt), (1, .int vx)] := hl
  refine lv_aload_n hx hb dX8_refuse_0 rfl (lv_at hl 0 rfl) ?_
  refine lv_iload_n hx hb dX8_refuse_1 rfl (lv_at hl 1 rfl) ?_
  refine pf_X8_42 hx hb hts hown hK hP hD hS 0 rfl rfl rfl (Nat.le_of_ble_eq_true rfl) dX8_refuse_2 (fun H locs hP hD hS => ?_)
  have hP : va_P (dC, dI) vwCl [(vt, .inr (9, [.ref vt1, .ref vt2, .int vtL, .int vtli, .int vta, .int vtk, .int vtst, .int vtw, .long vtc, .int vtn, .int vx, .int vtfp]))] H := hP
  have hD : va_D A [(vt, .inr (9, [.ref vt1, .ref vt2, .int vtL, .int vtli, .int vta, .int vtk, .int vtst, .int vtw, .long vtc, .int vtn, .int vx, .int vtfp]))] := hD
  refine lv_aload_n hx hb dX8_refuse_5 rfl (lv_at hl 0 rfl) ?_
  refine lv_aload_n hx hb dX8_refuse_6 rfl (lv_at hl 0 rfl) ?_
  refine gf_X8_51 hx hb hts hown hK hP 0 rfl rfl dX8_refuse_7 ?_
  refine pf_X8_45 hx hb hts hown hK hP hD hS 0 rfl rfl rfl (Nat.le_of_ble_eq_true rfl) dX8_refuse_10 (fun H locs hP hD hS => ?_)
  have hP : va_P (dC, dI) vwCl [(vt, .inr (9, [.ref vt1, .ref vt2, .int vtL, .int vtli, .int vta, .int vtk, .int vtst, .int vtw, .long vtc, .int vtn, .int vx, .int vtst]))] H := hP
  have hD : va_D A [(vt, .inr (9, [.ref vt1, .ref vt2, .int vtL, .int vtli, .int vta, .int vtk, .int vtst, .int vtw, .long vtc, .int vtn, .int vx, .int vtst]))] := hD
  refine lv_iconst (v := 0) hx hb dX8_refuse_13 (by decide) ?_
  have k_0 : (0 : Int32).toInt = 0 := by decide
  rw [hQ9]
  exact re_z (vx, vtst) hx hb hr hlocks (Or.inl rfl) (show ((0 : Int32) = 0) from (rfl)) (hP.sub [0] rfl) (hD.sub [0] rfl rfl) hS dX8_refuse_14
abbrev O_g_takeSign (cy : Nat → ClassId) (vt : Nat) (vt1 : Nat) (vt2 : Nat) (vtL : Int32) (vtli : Int32) (vta : Int32) (vtk : Int32) (vtst : Int32) (vtw : Int32) (vtc : Int64) (vtn : Int32) (vtfk : Int32) (vtfp : Int32) (vtb : Nat → Int32) (vtco : Nat → Int64) (vx : Int32) (u : Int32 × Int32 × Int32 × Int32 × Int64 × Int32 × Int32 × Int32) : va_W := [(vt, .inr (9, [.ref vt1, .ref vt2, .int vtL, .int vtli, .int u.1, .int u.2.2.2.1, .int u.2.1, .int u.2.2.1, .long u.2.2.2.2.1, .int u.2.2.2.2.2.1, .int u.2.2.2.2.2.2.1, .int u.2.2.2.2.2.2.2])), (vt1, .inl (cy 0, 940, .inl vtb)), (vt2, .inl (cy 1, 29, .inr (.inl vtco)))]
set_option maxHeartbeats 4000000 in
set_option maxRecDepth 100000 in
theorem g_takeSign (l : Launch) (dC : Nat → ClassId) (dI : Nat → Nat → Nat) (cy : Nat → ClassId) (sz : Nat) (vt : Nat) (vt1 : Nat) (vt2 : Nat) (vtL : Int32) (vtli : Int32) (vta : Int32) (vtk : Int32) (vtst : Int32) (vtw : Int32) (vtc : Int64) (vtn : Int32) (vtfk : Int32) (vtfp : Int32) (vtb : Nat → Int32) (vtco : Nat → Int64) (vx : Int32) (r_vtL : 0 ≤ (vtL : Int32).toInt ∧ (vtL : Int32).toInt ≤ 940) (r_vta : 0 ≤ (vta : Int32).toInt ∧ (vta : Int32).toInt ≤ 940) (p_vtb : Rg vtb 940 0 255) : Met l yX8_takeSign (wl yX8_takeSign cX8_takeSign 2 (some .boolean)) ({ frames := 2, cells := 0, slots := 0, locals := 128 }) (Pw (dC, dI) vwCl cy [(vt, .inr (9, [.ref vt1, .ref vt2, .int vtL, .int vtli, .int vta, .int vtk, .int vtst, .int vtw, .long vtc, .int vtn, .int vtfk, .int vtfp])), (vt1, .inl (cy 0, 940, .inl vtb)), (vt2, .inl (cy 1, 29, .inr (.inl vtco)))] sz [.ref vt, .int vx] nE) (Qi (dC, dI) vwCl (fun (r : Int32) (u : Int32 × Int32 × Int32 × Int32 × Int64 × Int32 × Int32 × Int32) => ((r = 0) ∨ (r = 1)) ∧ (0 ≤ (u.1 : Int32).toInt ∧ (u.1 : Int32).toInt ≤ 940)) (O_g_takeSign cy vt vt1 vt2 vtL vtli vta vtk vtst vtw vtc vtn vtfk vtfp vtb vtco vx) (va_A [(vt, .inr (9, [.ref vt1, .ref vt2, .int vtL, .int vtli, .int vta, .int vtk, .int vtst, .int vtw, .long vtc, .int vtn, .int vtfk, .int vtfp])), (vt1, .inl (cy 0, 940, .inl vtb)), (vt2, .inl (cy 1, 29, .inr (.inl vtco)))] sz)) 0 0 (va_A [(vt, .inr (9, [.ref vt1, .ref vt2, .int vtL, .int vtli, .int vta, .int vtk, .int vtst, .int vtw, .long vtc, .int vtn, .int vtfk, .int vtfp])), (vt1, .inl (cy 0, 940, .inl vtb)), (vt2, .inl (cy 1, 29, .inr (.inl vtco)))] sz) := by
  refine mw (Qc := Qi (dC, dI) vwCl (fun (r : Int32) (u : Int32 × Int32 × Int32 × Int32 × Int64 × Int32 × Int32 × Int32) => ((r = 0) ∨ (r = 1)) ∧ (0 ≤ (u.1 : Int32).toInt ∧ (u.1 : Int32).toInt ≤ 940)) (O_g_takeSign cy vt vt1 vt2 vtL vtli vta vtk vtst vtw vtc vtn vtfk vtfp vtb vtco vx)) RX8 rfl (by decide +kernel) (Nat.le_of_ble_eq_true rfl) ?_
  intro p e s m below meth c A hx hb hr hlocks av9 hav hts hown hnm hml hK hP hD hA hS hE hAe Q9 hQ9 ls hl
  have hl : lv_has ls 2 [(0, .ref vt), (1, .int vx)] := hl
  refine lv_aload_n hx hb dX8_takeSign_0 rfl (lv_at hl 0 rfl) ?_
  refine gf_X8_57 hx hb hts hown hK hP 0 rfl rfl dX8_takeSign_1 ?_
  refine lv_iload_n hx hb dX8_takeSign_4 rfl (lv_at hl 1 rfl) ?_
  refine lv_icmp_eq (tgt := 14) hx hb dX8_takeSign_5 (by decide) (fun c_1 => ?_) (fun c_1 => ?_)
  · skip
    have c_1 : vtk.toInt = vx.toInt := i_eq.mp c_1
    refine lv_aload_n hx hb dX8_takeSign_14 rfl (lv_at hl 0 rfl) ?_
    refine jn_v (wr := []) (rV (As := []) (rest := []) (ci := 9) ⟨hx, hb, hml, hown, hts⟩ (g_advance l dC dI cy _ vt vt1 vt2 vtL vtli vta vtk vtst vtw vtc vtn vtfk vtfp vtb vtco r_vtL r_vta p_vtb) (cw_X8_48 hts rfl rfl ⟨Nat.le_of_ble_eq_true rfl, Nat.le_of_ble_eq_true rfl⟩) hP hD hK [0, 1, 2] rfl rfl rfl rfl bl0 e0 rfl hl.1 rfl (Nat.le_of_ble_eq_true rfl) dX8_takeSign_15 ⟨Nat.le_of_ble_eq_true rfl, Nat.le_of_ble_eq_true rfl⟩) hP hD hS hA [0, 1, 2] [] rfl rfl rfl (by decide) (fun u_4 H locs hp_3 hP hD hS => ?_)
    obtain ⟨vta_5, vtst_6, vtw_7, vtk_8, vtc_9, vtn_10⟩ := u_4
    have hp_3 : (0 ≤ (vta_5 : Int32).toInt ∧ (vta_5 : Int32).toInt ≤ 940) := hp_3
    have q_11 := hp_3
    have hP : va_P (dC, dI) vwCl [(vt, .inr (9, [.ref vt1, .ref vt2, .int vtL, .int vtli, .int vta_5, .int vtk_8, .int vtst_6, .int vtw_7, .long vtc_9, .int vtn_10, .int vtfk, .int vtfp])), (vt1, .inl (cy 0, 940, .inl vtb)), (vt2, .inl (cy 1, 29, .inr (.inl vtco)))] H := hP
    have hD : va_D A [(vt, .inr (9, [.ref vt1, .ref vt2, .int vtL, .int vtli, .int vta_5, .int vtk_8, .int vtst_6, .int vtw_7, .long vtc_9, .int vtn_10, .int vtfk, .int vtfp])), (vt1, .inl (cy 0, 940, .inl vtb)), (vt2, .inl (cy 1, 29, .inr (.inl vtco)))] := hD
    refine lv_iconst (v := 1) hx hb dX8_takeSign_18 (by decide) ?_
    have k_1 : (1 : Int32).toInt = 1 := by decide
    rw [hQ9]
    exact re_z (vta_5, vtst_6, vtw_7, vtk_8, vtc_9, vtn_10, vtfk, vtfp) hx hb hr hlocks (Or.inr rfl) ⟨(show ((1 : Int32) = 0) ∨ ((1 : Int32) = 1) from (Or.inr (rfl))), (show 0 ≤ (vta_5 : Int32).toInt ∧ (vta_5 : Int32).toInt ≤ 940 from ⟨by omega, by omega⟩)⟩ (hP.sub [0, 1, 2] rfl) (hD.sub [0, 1, 2] rfl rfl) hS dX8_takeSign_19
  · skip
    have c_1 : ¬ (vtk.toInt = vx.toInt) := fun h9 => c_1 (i_eq.mpr h9)
    refine lv_aload_n hx hb dX8_takeSign_8 rfl (lv_at hl 0 rfl) ?_
    refine lv_iconst (v := 1) hx hb dX8_takeSign_9 (by decide) ?_
    have k_1 : (1 : Int32).toInt = 1 := by decide
    refine jn_i (wr := [(vt1, .inl (cy 0, 940, .inl vtb)), (vt2, .inl (cy 1, 29, .inr (.inl vtco)))]) (rV (As := [.int 1]) (rest := []) (ci := 9) ⟨hx, hb, hml, hown, hts⟩ (g_refuse l dC dI cy _ vt vt1 vt2 vtL vtli vta vtk vtst vtw vtc vtn vtfk vtfp 1 ) (cw_X8_80 hts rfl rfl ⟨Nat.le_of_ble_eq_true rfl, Nat.le_of_ble_eq_true rfl⟩) hP hD hK [0] rfl rfl rfl rfl bl0 e0 rfl hl.1 rfl (Nat.le_of_ble_eq_true rfl) dX8_takeSign_10 ⟨Nat.le_of_ble_eq_true rfl, Nat.le_of_ble_eq_true rfl⟩) hP hD hS hA [0] [1, 2] rfl rfl rfl (by decide) (fun r_12 u_14 H locs hp_13 hP hD hS => ?_)
    obtain ⟨vtfk_15, vtfp_16⟩ := u_14
    have hp_13 : ((r_12 = 0)) := hp_13
    have q_17 := hp_13
    have hP : va_P (dC, dI) vwCl [(vt1, .inl (cy 0, 940, .inl vtb)), (vt2, .inl (cy 1, 29, .inr (.inl vtco))), (vt, .inr (9, [.ref vt1, .ref vt2, .int vtL, .int vtli, .int vta, .int vtk, .int vtst, .int vtw, .long vtc, .int vtn, .int vtfk_15, .int vtfp_16]))] H := hP
    have hD : va_D A [(vt1, .inl (cy 0, 940, .inl vtb)), (vt2, .inl (cy 1, 29, .inr (.inl vtco))), (vt, .inr (9, [.ref vt1, .ref vt2, .int vtL, .int vtli, .int vta, .int vtk, .int vtst, .int vtw, .long vtc, .int vtn, .int vtfk_15, .int vtfp_16]))] := hD
    have aq_17 := q_17
    · skip
      refine as_i 0 aq_17 ?_
      have k_0 : (0 : Int32).toInt = 0 := by decide
      rw [hQ9]
      exact re_z (vta, vtst, vtw, vtk, vtc, vtn, vtfk_15, vtfp_16) hx hb hr hlocks (Or.inl rfl) ⟨(show ((0 : Int32) = 0) ∨ ((0 : Int32) = 1) from (Or.inl rfl)), (show 0 ≤ (vta : Int32).toInt ∧ (vta : Int32).toInt ≤ 940 from ⟨by omega, by omega⟩)⟩ (hP.sub [2, 0, 1] rfl) (hD.sub [2, 0, 1] rfl rfl) hS dX8_takeSign_13
abbrev O_g_takeNumber (cy : Nat → ClassId) (vt : Nat) (vt1 : Nat) (vt2 : Nat) (vtL : Int32) (vtli : Int32) (vta : Int32) (vtk : Int32) (vtst : Int32) (vtw : Int32) (vtc : Int64) (vtn : Int32) (vtfk : Int32) (vtfp : Int32) (vtb : Nat → Int32) (vtco : Nat → Int64) (vlo : Int32) (vhi : Int32) (u : Int32 × Int32 × Int32 × Int32 × Int64 × Int32 × Int32 × Int32) : va_W := [(vt, .inr (9, [.ref vt1, .ref vt2, .int vtL, .int vtli, .int u.1, .int u.2.2.2.1, .int u.2.1, .int u.2.2.1, .long u.2.2.2.2.1, .int u.2.2.2.2.2.1, .int u.2.2.2.2.2.2.1, .int u.2.2.2.2.2.2.2])), (vt1, .inl (cy 0, 940, .inl vtb)), (vt2, .inl (cy 1, 29, .inr (.inl vtco)))]
set_option maxHeartbeats 4000000 in
set_option maxRecDepth 100000 in
theorem g_takeNumber (l : Launch) (dC : Nat → ClassId) (dI : Nat → Nat → Nat) (cy : Nat → ClassId) (sz : Nat) (vt : Nat) (vt1 : Nat) (vt2 : Nat) (vtL : Int32) (vtli : Int32) (vta : Int32) (vtk : Int32) (vtst : Int32) (vtw : Int32) (vtc : Int64) (vtn : Int32) (vtfk : Int32) (vtfp : Int32) (vtb : Nat → Int32) (vtco : Nat → Int64) (vlo : Int32) (vhi : Int32) (r_vtL : 0 ≤ (vtL : Int32).toInt ∧ (vtL : Int32).toInt ≤ 940) (r_vta : 0 ≤ (vta : Int32).toInt ∧ (vta : Int32).toInt ≤ 940) (p_vtb : Rg vtb 940 0 255) : Met l yX8_takeNumber (wl yX8_takeNumber cX8_takeNumber 4 (some .int)) ({ frames := 2, cells := 0, slots := 0, locals := 128 }) (Pw (dC, dI) vwCl cy [(vt, .inr (9, [.ref vt1, .ref vt2, .int vtL, .int vtli, .int vta, .int vtk, .int vtst, .int vtw, .long vtc, .int vtn, .int vtfk, .int vtfp])), (vt1, .inl (cy 0, 940, .inl vtb)), (vt2, .inl (cy 1, 29, .inr (.inl vtco)))] sz [.ref vt, .int vlo, .int vhi] nE) (Qi (dC, dI) vwCl (fun (r : Int32) (u : Int32 × Int32 × Int32 × Int32 × Int64 × Int32 × Int32 × Int32) => (0 ≤ (u.1 : Int32).toInt ∧ (u.1 : Int32).toInt ≤ 940) ∧ ((r : Int32).toInt = -1 ∨ ((vlo : Int32).toInt ≤ (r : Int32).toInt ∧ (r : Int32).toInt ≤ (vhi : Int32).toInt))) (O_g_takeNumber cy vt vt1 vt2 vtL vtli vta vtk vtst vtw vtc vtn vtfk vtfp vtb vtco vlo vhi) (va_A [(vt, .inr (9, [.ref vt1, .ref vt2, .int vtL, .int vtli, .int vta, .int vtk, .int vtst, .int vtw, .long vtc, .int vtn, .int vtfk, .int vtfp])), (vt1, .inl (cy 0, 940, .inl vtb)), (vt2, .inl (cy 1, 29, .inr (.inl vtco)))] sz)) 0 0 (va_A [(vt, .inr (9, [.ref vt1, .ref vt2, .int vtL, .int vtli, .int vta, .int vtk, .int vtst, .int vtw, .long vtc, .int vtn, .int vtfk, .int vtfp])), (vt1, .inl (cy 0, 940, .inl vtb)), (vt2, .inl (cy 1, 29, .inr (.inl vtco)))] sz) := by
  refine mw (Qc := Qi (dC, dI) vwCl (fun (r : Int32) (u : Int32 × Int32 × Int32 × Int32 × Int64 × Int32 × Int32 × Int32) => (0 ≤ (u.1 : Int32).toInt ∧ (u.1 : Int32).toInt ≤ 940) ∧ ((r : Int32).toInt = -1 ∨ ((vlo : Int32).toInt ≤ (r : Int32).toInt ∧ (r : Int32).toInt ≤ (vhi : Int32).toInt))) (O_g_takeNumber cy vt vt1 vt2 vtL vtli vta vtk vtst vtw vtc vtn vtfk vtfp vtb vtco vlo vhi)) RX8 rfl (by decide +kernel) (Nat.le_of_ble_eq_true rfl) ?_
  intro p e s m below meth c A hx hb hr hlocks av9 hav hts hown hnm hml hK hP hD hA hS hE hAe Q9 hQ9 ls hl
  have hl : lv_has ls 4 [(0, .ref vt), (1, .int vlo), (2, .int vhi)] := hl
  refine lv_aload_n hx hb dX8_takeNumber_0 rfl (lv_at hl 0 rfl) ?_
  refine gf_X8_57 hx hb hts hown hK hP 0 rfl rfl dX8_takeNumber_1 ?_
  refine lv_iconst (v := 2) hx hb dX8_takeNumber_4 (by decide) ?_
  have k_2 : (2 : Int32).toInt = 2 := by decide
  refine lv_icmp_eq (tgt := 16) hx hb dX8_takeNumber_5 (by decide) (fun c_1 => ?_) (fun c_1 => ?_)
  · skip
    have c_1 : vtk.toInt = (2 : Int32).toInt := i_eq.mp c_1
    refine lv_aload_n hx hb dX8_takeNumber_16 rfl (lv_at hl 0 rfl) ?_
    refine gf_X8_77 hx hb hts hown hK hP 0 rfl rfl dX8_takeNumber_17 ?_
    refine lv_iload_n hx hb dX8_takeNumber_20 rfl (lv_at hl 1 rfl) ?_
    refine lv_icmp_lt (tgt := 32) hx hb dX8_takeNumber_21 (by decide) (fun c_2 => ?_) (fun c_2 => ?_)
    · skip
      have c_2 : vtn.toInt < vlo.toInt := i_lt.mp c_2
      refine lv_aload_n hx hb dX8_takeNumber_32 rfl (lv_at hl 0 rfl) ?_
      refine lv_iconst (v := 2) hx hb dX8_takeNumber_33 (by decide) ?_
      refine jn_i (wr := [(vt1, .inl (cy 0, 940, .inl vtb)), (vt2, .inl (cy 1, 29, .inr (.inl vtco)))]) (rV (As := [.int 2]) (rest := []) (ci := 9) ⟨hx, hb, hml, hown, hts⟩ (g_refuse l dC dI cy _ vt vt1 vt2 vtL vtli vta vtk vtst vtw vtc vtn vtfk vtfp 2 ) (cw_X8_80 hts rfl rfl ⟨Nat.le_of_ble_eq_true rfl, Nat.le_of_ble_eq_true rfl⟩) hP hD hK [0] rfl rfl rfl rfl bl0 e0 rfl hl.1 rfl (Nat.le_of_ble_eq_true rfl) dX8_takeNumber_34 ⟨Nat.le_of_ble_eq_true rfl, Nat.le_of_ble_eq_true rfl⟩) hP hD hS hA [0] [1, 2] rfl rfl rfl (by decide) (fun r_3 u_5 H locs hp_4 hP hD hS => ?_)
      obtain ⟨vtfk_6, vtfp_7⟩ := u_5
      have hp_4 : ((r_3 = 0)) := hp_4
      have q_8 := hp_4
      have hP : va_P (dC, dI) vwCl [(vt1, .inl (cy 0, 940, .inl vtb)), (vt2, .inl (cy 1, 29, .inr (.inl vtco))), (vt, .inr (9, [.ref vt1, .ref vt2, .int vtL, .int vtli, .int vta, .int vtk, .int vtst, .int vtw, .long vtc, .int vtn, .int vtfk_6, .int vtfp_7]))] H := hP
      have hD : va_D A [(vt1, .inl (cy 0, 940, .inl vtb)), (vt2, .inl (cy 1, 29, .inr (.inl vtco))), (vt, .inr (9, [.ref vt1, .ref vt2, .int vtL, .int vtli, .int vta, .int vtk, .int vtst, .int vtw, .long vtc, .int vtn, .int vtfk_6, .int vtfp_7]))] := hD
      have aq_8 := q_8
      · skip
        refine as_i 0 aq_8 ?_
        refine lv_pop hx hb dX8_takeNumber_37 rfl ?_
        refine lv_iconst (v := (-1)) hx hb dX8_takeNumber_38 (by decide) ?_
        have k_m1 : ((-1) : Int32).toInt = (-1) := by decide
        rw [hQ9]
        exact re_i (vta, vtst, vtw, vtk, vtc, vtn, vtfk_6, vtfp_7) hx hb hr hlocks ⟨(show 0 ≤ (vta : Int32).toInt ∧ (vta : Int32).toInt ≤ 940 from ⟨by omega, by omega⟩), (show (((-1) : Int32) : Int32).toInt = -1 ∨ ((vlo : Int32).toInt ≤ (((-1) : Int32) : Int32).toInt ∧ (((-1) : Int32) : Int32).toInt ≤ (vhi : Int32).toInt) from (by omega))⟩ (hP.sub [2, 0, 1] rfl) (hD.sub [2, 0, 1] rfl rfl) hS dX8_takeNumber_39
    · skip
      have c_2 : ¬ (vtn.toInt < vlo.toInt) := fun h9 => c_2 (i_lt.mpr h9)
      refine lv_aload_n hx hb dX8_takeNumber_24 rfl (lv_at hl 0 rfl) ?_
      refine gf_X8_77 hx hb hts hown hK hP 0 rfl rfl dX8_takeNumber_25 ?_
      refine lv_iload_n hx hb dX8_takeNumber_28 rfl (lv_at hl 2 rfl) ?_
      refine lv_icmp_le (tgt := 40) hx hb dX8_takeNumber_29 (by decide) (fun c_9 => ?_) (fun c_9 => ?_)
      · skip
        have c_9 : vtn.toInt ≤ vhi.toInt := i_le.mp c_9
        refine lv_aload_n hx hb dX8_takeNumber_40 rfl (lv_at hl 0 rfl) ?_
        refine gf_X8_77 hx hb hts hown hK hP 0 rfl rfl dX8_takeNumber_41 ?_
        refine lv_istore_n (lv' := [(3, .int vtn), (0, .ref vt), (1, .int vlo), (2, .int vhi)]) hx hb dX8_takeNumber_44 rfl hl (by decide) rfl (fun ls hl => ?_)
        refine lv_aload_n hx hb dX8_takeNumber_45 rfl (lv_at hl 1 rfl) ?_
        refine jn_v (wr := []) (rV (As := []) (rest := []) (ci := 9) ⟨hx, hb, hml, hown, hts⟩ (g_advance l dC dI cy _ vt vt1 vt2 vtL vtli vta vtk vtst vtw vtc vtn vtfk vtfp vtb vtco r_vtL r_vta p_vtb) (cw_X8_48 hts rfl rfl ⟨Nat.le_of_ble_eq_true rfl, Nat.le_of_ble_eq_true rfl⟩) hP hD hK [0, 1, 2] rfl rfl rfl rfl bl0 e0 rfl hl.1 rfl (Nat.le_of_ble_eq_true rfl) dX8_takeNumber_46 ⟨Nat.le_of_ble_eq_true rfl, Nat.le_of_ble_eq_true rfl⟩) hP hD hS hA [0, 1, 2] [] rfl rfl rfl (by decide) (fun u_12 H locs hp_11 hP hD hS => ?_)
        obtain ⟨vta_13, vtst_14, vtw_15, vtk_16, vtc_17, vtn_18⟩ := u_12
        have hp_11 : (0 ≤ (vta_13 : Int32).toInt ∧ (vta_13 : Int32).toInt ≤ 940) := hp_11
        have q_19 := hp_11
        have hP : va_P (dC, dI) vwCl [(vt, .inr (9, [.ref vt1, .ref vt2, .int vtL, .int vtli, .int vta_13, .int vtk_16, .int vtst_14, .int vtw_15, .long vtc_17, .int vtn_18, .int vtfk, .int vtfp])), (vt1, .inl (cy 0, 940, .inl vtb)), (vt2, .inl (cy 1, 29, .inr (.inl vtco)))] H := hP
        have hD : va_D A [(vt, .inr (9, [.ref vt1, .ref vt2, .int vtL, .int vtli, .int vta_13, .int vtk_16, .int vtst_14, .int vtw_15, .long vtc_17, .int vtn_18, .int vtfk, .int vtfp])), (vt1, .inl (cy 0, 940, .inl vtb)), (vt2, .inl (cy 1, 29, .inr (.inl vtco)))] := hD
        refine lv_iload_n hx hb dX8_takeNumber_49 rfl (lv_at hl 0 rfl) ?_
        rw [hQ9]
        exact re_i (vta_13, vtst_14, vtw_15, vtk_16, vtc_17, vtn_18, vtfk, vtfp) hx hb hr hlocks ⟨(show 0 ≤ (vta_13 : Int32).toInt ∧ (vta_13 : Int32).toInt ≤ 940 from ⟨by omega, by omega⟩), (show (vtn : Int32).toInt = -1 ∨ ((vlo : Int32).toInt ≤ (vtn : Int32).toInt ∧ (vtn : Int32).toInt ≤ (vhi : Int32).toInt) from (by omega))⟩ (hP.sub [0, 1, 2] rfl) (hD.sub [0, 1, 2] rfl rfl) hS dX8_takeNumber_50
      · skip
        have c_9 : ¬ (vtn.toInt ≤ vhi.toInt) := fun h9 => c_9 (i_le.mpr h9)
        refine lv_aload_n hx hb dX8_takeNumber_32 rfl (lv_at hl 0 rfl) ?_
        refine lv_iconst (v := 2) hx hb dX8_takeNumber_33 (by decide) ?_
        refine jn_i (wr := [(vt1, .inl (cy 0, 940, .inl vtb)), (vt2, .inl (cy 1, 29, .inr (.inl vtco)))]) (rV (As := [.int 2]) (rest := []) (ci := 9) ⟨hx, hb, hml, hown, hts⟩ (g_refuse l dC dI cy _ vt vt1 vt2 vtL vtli vta vtk vtst vtw vtc vtn vtfk vtfp 2 ) (cw_X8_80 hts rfl rfl ⟨Nat.le_of_ble_eq_true rfl, Nat.le_of_ble_eq_true rfl⟩) hP hD hK [0] rfl rfl rfl rfl bl0 e0 rfl hl.1 rfl (Nat.le_of_ble_eq_true rfl) dX8_takeNumber_34 ⟨Nat.le_of_ble_eq_true rfl, Nat.le_of_ble_eq_true rfl⟩) hP hD hS hA [0] [1, 2] rfl rfl rfl (by decide) (fun r_20 u_22 H locs hp_21 hP hD hS => ?_)
        obtain ⟨vtfk_23, vtfp_24⟩ := u_22
        have hp_21 : ((r_20 = 0)) := hp_21
        have q_25 := hp_21
        have hP : va_P (dC, dI) vwCl [(vt1, .inl (cy 0, 940, .inl vtb)), (vt2, .inl (cy 1, 29, .inr (.inl vtco))), (vt, .inr (9, [.ref vt1, .ref vt2, .int vtL, .int vtli, .int vta, .int vtk, .int vtst, .int vtw, .long vtc, .int vtn, .int vtfk_23, .int vtfp_24]))] H := hP
        have hD : va_D A [(vt1, .inl (cy 0, 940, .inl vtb)), (vt2, .inl (cy 1, 29, .inr (.inl vtco))), (vt, .inr (9, [.ref vt1, .ref vt2, .int vtL, .int vtli, .int vta, .int vtk, .int vtst, .int vtw, .long vtc, .int vtn, .int vtfk_23, .int vtfp_24]))] := hD
        have aq_25 := q_25
        · skip
          refine as_i 0 aq_25 ?_
          refine lv_pop hx hb dX8_takeNumber_37 rfl ?_
          refine lv_iconst (v := (-1)) hx hb dX8_takeNumber_38 (by decide) ?_
          have k_m1 : ((-1) : Int32).toInt = (-1) := by decide
          rw [hQ9]
          exact re_i (vta, vtst, vtw, vtk, vtc, vtn, vtfk_23, vtfp_24) hx hb hr hlocks ⟨(show 0 ≤ (vta : Int32).toInt ∧ (vta : Int32).toInt ≤ 940 from ⟨by omega, by omega⟩), (show (((-1) : Int32) : Int32).toInt = -1 ∨ ((vlo : Int32).toInt ≤ (((-1) : Int32) : Int32).toInt ∧ (((-1) : Int32) : Int32).toInt ≤ (vhi : Int32).toInt) from (by omega))⟩ (hP.sub [2, 0, 1] rfl) (hD.sub [2, 0, 1] rfl rfl) hS dX8_takeNumber_39
  · skip
    have c_1 : ¬ (vtk.toInt = (2 : Int32).toInt) := fun h9 => c_1 (i_eq.mpr h9)
    refine lv_aload_n hx hb dX8_takeNumber_8 rfl (lv_at hl 0 rfl) ?_
    refine lv_iconst (v := 1) hx hb dX8_takeNumber_9 (by decide) ?_
    have k_1 : (1 : Int32).toInt = 1 := by decide
    refine jn_i (wr := [(vt1, .inl (cy 0, 940, .inl vtb)), (vt2, .inl (cy 1, 29, .inr (.inl vtco)))]) (rV (As := [.int 1]) (rest := []) (ci := 9) ⟨hx, hb, hml, hown, hts⟩ (g_refuse l dC dI cy _ vt vt1 vt2 vtL vtli vta vtk vtst vtw vtc vtn vtfk vtfp 1 ) (cw_X8_80 hts rfl rfl ⟨Nat.le_of_ble_eq_true rfl, Nat.le_of_ble_eq_true rfl⟩) hP hD hK [0] rfl rfl rfl rfl bl0 e0 rfl hl.1 rfl (Nat.le_of_ble_eq_true rfl) dX8_takeNumber_10 ⟨Nat.le_of_ble_eq_true rfl, Nat.le_of_ble_eq_true rfl⟩) hP hD hS hA [0] [1, 2] rfl rfl rfl (by decide) (fun r_26 u_28 H locs hp_27 hP hD hS => ?_)
    obtain ⟨vtfk_29, vtfp_30⟩ := u_28
    have hp_27 : ((r_26 = 0)) := hp_27
    have q_31 := hp_27
    have hP : va_P (dC, dI) vwCl [(vt1, .inl (cy 0, 940, .inl vtb)), (vt2, .inl (cy 1, 29, .inr (.inl vtco))), (vt, .inr (9, [.ref vt1, .ref vt2, .int vtL, .int vtli, .int vta, .int vtk, .int vtst, .int vtw, .long vtc, .int vtn, .int vtfk_29, .int vtfp_30]))] H := hP
    have hD : va_D A [(vt1, .inl (cy 0, 940, .inl vtb)), (vt2, .inl (cy 1, 29, .inr (.inl vtco))), (vt, .inr (9, [.ref vt1, .ref vt2, .int vtL, .int vtli, .int vta, .int vtk, .int vtst, .int vtw, .long vtc, .int vtn, .int vtfk_29, .int vtfp_30]))] := hD
    have aq_31 := q_31
    · skip
      refine as_i 0 aq_31 ?_
      refine lv_pop hx hb dX8_takeNumber_13 rfl ?_
      refine lv_iconst (v := (-1)) hx hb dX8_takeNumber_14 (by decide) ?_
      have k_m1 : ((-1) : Int32).toInt = (-1) := by decide
      rw [hQ9]
      exact re_i (vta, vtst, vtw, vtk, vtc, vtn, vtfk_29, vtfp_30) hx hb hr hlocks ⟨(show 0 ≤ (vta : Int32).toInt ∧ (vta : Int32).toInt ≤ 940 from ⟨by omega, by omega⟩), (show (((-1) : Int32) : Int32).toInt = -1 ∨ ((vlo : Int32).toInt ≤ (((-1) : Int32) : Int32).toInt ∧ (((-1) : Int32) : Int32).toInt ≤ (vhi : Int32).toInt) from (by omega))⟩ (hP.sub [2, 0, 1] rfl) (hD.sub [2, 0, 1] rfl rfl) hS dX8_takeNumber_15
abbrev O_g_namedAt (cy : Nat → ClassId) (vt : Nat) (vt1 : Nat) (vt2 : Nat) (vtL : Int32) (vtli : Int32) (vta : Int32) (vtk : Int32) (vtst : Int32) (vtw : Int32) (vtc : Int64) (vtn : Int32) (vtfk : Int32) (vtfp : Int32) (vf : Int32) (u : Int32 × Int32) : va_W := [(vt, .inr (9, [.ref vt1, .ref vt2, .int vtL, .int vtli, .int vta, .int vtk, .int vtst, .int vtw, .long vtc, .int vtn, .int u.1, .int u.2]))]
set_option maxHeartbeats 4000000 in
set_option maxRecDepth 100000 in
theorem g_namedAt (l : Launch) (dC : Nat → ClassId) (dI : Nat → Nat → Nat) (cy : Nat → ClassId) (sz : Nat) (vt : Nat) (vt1 : Nat) (vt2 : Nat) (vtL : Int32) (vtli : Int32) (vta : Int32) (vtk : Int32) (vtst : Int32) (vtw : Int32) (vtc : Int64) (vtn : Int32) (vtfk : Int32) (vtfp : Int32) (vf : Int32) (r_vf : -1 ≤ (vf : Int32).toInt ∧ (vf : Int32).toInt ≤ 9) : Met l yX1_namedAt (wl yX1_namedAt cX1_namedAt 2 (some .int)) ({ frames := 1, cells := 0, slots := 0, locals := 64 }) (Pw (dC, dI) vwCl cy [(vt, .inr (9, [.ref vt1, .ref vt2, .int vtL, .int vtli, .int vta, .int vtk, .int vtst, .int vtw, .long vtc, .int vtn, .int vtfk, .int vtfp]))] sz [.ref vt, .int vf] nE) (Qi (dC, dI) vwCl (fun (r : Int32) (u : Int32 × Int32) => (-1 ≤ (r : Int32).toInt ∧ (r : Int32).toInt ≤ 9) ∧ ((r : Int32).toInt = -1 ∨ (r : Int32).toInt = (vf : Int32).toInt)) (O_g_namedAt cy vt vt1 vt2 vtL vtli vta vtk vtst vtw vtc vtn vtfk vtfp vf) (va_A [(vt, .inr (9, [.ref vt1, .ref vt2, .int vtL, .int vtli, .int vta, .int vtk, .int vtst, .int vtw, .long vtc, .int vtn, .int vtfk, .int vtfp]))] sz)) 0 0 (va_A [(vt, .inr (9, [.ref vt1, .ref vt2, .int vtL, .int vtli, .int vta, .int vtk, .int vtst, .int vtw, .long vtc, .int vtn, .int vtfk, .int vtfp]))] sz) := by
  refine mw (Qc := Qi (dC, dI) vwCl (fun (r : Int32) (u : Int32 × Int32) => (-1 ≤ (r : Int32).toInt ∧ (r : Int32).toInt ≤ 9) ∧ ((r : Int32).toInt = -1 ∨ (r : Int32).toInt = (vf : Int32).toInt)) (O_g_namedAt cy vt vt1 vt2 vtL vtli vta vtk vtst vtw vtc vtn vtfk vtfp vf)) RX1 rfl (by decide +kernel) (Nat.le_of_ble_eq_true rfl) ?_
  intro p e s m below meth c A hx hb hr hlocks av9 hav hts hown hnm hml hK hP hD hA hS hE hAe Q9 hQ9 ls hl
  have hl : lv_has ls 2 [(0, .ref vt), (1, .int vf)] := hl
  refine lv_aload_n hx hb dX1_namedAt_0 rfl (lv_at hl 0 rfl) ?_
  refine jr_i (rVr (As := []) (rest := []) (ci := 9) ⟨hx, hb, hml, hown, hts⟩ (g_isName l dC dI cy vt vt1 vt2 vtL vtli vta vtk vtst vtw vtc vtn vtfk vtfp ) (cw_X1_67 hts rfl rfl ⟨Nat.le_of_ble_eq_true rfl, Nat.le_of_ble_eq_true rfl⟩) hP hK [0] rfl rfl rfl rfl hl.1 rfl (Nat.le_of_ble_eq_true rfl) dX1_namedAt_1 ⟨Nat.le_of_ble_eq_true rfl, Nat.le_of_ble_eq_true rfl⟩) hP hS (fun r_1 H locs hp_2 hP hS => ?_)
  have hp_2 : ((r_1 = 0) ∨ (r_1 = 1)) := hp_2
  have q_3 := hp_2
  rcases q_3 with aq_3 | aq_3
  · skip
    refine as_i 0 aq_3 ?_
    refine lv_if_ne (tgt := 15) hx hb dX1_namedAt_4 (by decide) (fun c9 => absurd c9 (by decide)) (fun _ => ?_)
    refine lv_aload_n hx hb dX1_namedAt_7 rfl (lv_at hl 0 rfl) ?_
    refine lv_iconst (v := 1) hx hb dX1_namedAt_8 (by decide) ?_
    have k_1 : (1 : Int32).toInt = 1 := by decide
    refine jn_i (wr := []) (rV (As := [.int 1]) (rest := []) (ci := 9) ⟨hx, hb, hml, hown, hts⟩ (g_refuse l dC dI cy _ vt vt1 vt2 vtL vtli vta vtk vtst vtw vtc vtn vtfk vtfp 1 ) (cw_X1_71 hts rfl rfl ⟨Nat.le_of_ble_eq_true rfl, Nat.le_of_ble_eq_true rfl⟩) hP hD hK [0] rfl rfl rfl rfl bl0 e0 rfl hl.1 rfl (Nat.le_of_ble_eq_true rfl) dX1_namedAt_9 ⟨Nat.le_of_ble_eq_true rfl, Nat.le_of_ble_eq_true rfl⟩) hP hD hS hA [0] [] rfl rfl rfl (by decide) (fun r_4 u_6 H locs hp_5 hP hD hS => ?_)
    obtain ⟨vtfk_7, vtfp_8⟩ := u_6
    have hp_5 : ((r_4 = 0)) := hp_5
    have q_9 := hp_5
    have hP : va_P (dC, dI) vwCl [(vt, .inr (9, [.ref vt1, .ref vt2, .int vtL, .int vtli, .int vta, .int vtk, .int vtst, .int vtw, .long vtc, .int vtn, .int vtfk_7, .int vtfp_8]))] H := hP
    have hD : va_D A [(vt, .inr (9, [.ref vt1, .ref vt2, .int vtL, .int vtli, .int vta, .int vtk, .int vtst, .int vtw, .long vtc, .int vtn, .int vtfk_7, .int vtfp_8]))] := hD
    have aq_9 := q_9
    · skip
      refine as_i 0 aq_9 ?_
      refine lv_pop hx hb dX1_namedAt_12 rfl ?_
      refine lv_iconst (v := (-1)) hx hb dX1_namedAt_13 (by decide) ?_
      have k_m1 : ((-1) : Int32).toInt = (-1) := by decide
      rw [hQ9]
      exact re_i (vtfk_7, vtfp_8) hx hb hr hlocks ⟨(show -1 ≤ (((-1) : Int32) : Int32).toInt ∧ (((-1) : Int32) : Int32).toInt ≤ 9 from ⟨by omega, by omega⟩), (show (((-1) : Int32) : Int32).toInt = -1 ∨ (((-1) : Int32) : Int32).toInt = (vf : Int32).toInt from (by omega))⟩ (hP.sub [0] rfl) (hD.sub [0] rfl rfl) hS dX1_namedAt_14
  · skip
    refine as_i 1 aq_3 ?_
    refine lv_if_ne (tgt := 15) hx hb dX1_namedAt_4 (by decide) (fun _ => ?_) (fun c9 => absurd c9 (by decide))
    refine lv_iload_n hx hb dX1_namedAt_15 rfl (lv_at hl 1 rfl) ?_
    refine lv_iconst (v := (-1)) hx hb dX1_namedAt_16 (by decide) ?_
    have k_m1 : ((-1) : Int32).toInt = (-1) := by decide
    refine lv_icmp_ne (tgt := 26) hx hb dX1_namedAt_17 (by decide) (fun c_10 => ?_) (fun c_10 => ?_)
    · skip
      have c_10 : ¬ (vf.toInt = ((-1) : Int32).toInt) := fun h9 => c_10 (i_eq.mpr h9)
      refine lv_iload_n hx hb dX1_namedAt_26 rfl (lv_at hl 1 rfl) ?_
      rw [hQ9]
      exact re_i (vtfk, vtfp) hx hb hr hlocks ⟨(show -1 ≤ (vf : Int32).toInt ∧ (vf : Int32).toInt ≤ 9 from ⟨by omega, by omega⟩), (show (vf : Int32).toInt = -1 ∨ (vf : Int32).toInt = (vf : Int32).toInt from (by omega))⟩ (hP.sub [0] rfl) (hD.sub [0] rfl rfl) hS dX1_namedAt_27
    · skip
      have c_10 : vf.toInt = ((-1) : Int32).toInt := i_eq.mp c_10
      refine lv_aload_n hx hb dX1_namedAt_20 rfl (lv_at hl 0 rfl) ?_
      refine lv_iconst (v := 3) hx hb dX1_namedAt_21 (by decide) ?_
      have k_3 : (3 : Int32).toInt = 3 := by decide
      refine jn_i (wr := []) (rV (As := [.int 3]) (rest := []) (ci := 9) ⟨hx, hb, hml, hown, hts⟩ (g_refuse l dC dI cy _ vt vt1 vt2 vtL vtli vta vtk vtst vtw vtc vtn vtfk vtfp 3 ) (cw_X1_71 hts rfl rfl ⟨Nat.le_of_ble_eq_true rfl, Nat.le_of_ble_eq_true rfl⟩) hP hD hK [0] rfl rfl rfl rfl bl0 e0 rfl hl.1 rfl (Nat.le_of_ble_eq_true rfl) dX1_namedAt_22 ⟨Nat.le_of_ble_eq_true rfl, Nat.le_of_ble_eq_true rfl⟩) hP hD hS hA [0] [] rfl rfl rfl (by decide) (fun r_11 u_13 H locs hp_12 hP hD hS => ?_)
      obtain ⟨vtfk_14, vtfp_15⟩ := u_13
      have hp_12 : ((r_11 = 0)) := hp_12
      have q_16 := hp_12
      have hP : va_P (dC, dI) vwCl [(vt, .inr (9, [.ref vt1, .ref vt2, .int vtL, .int vtli, .int vta, .int vtk, .int vtst, .int vtw, .long vtc, .int vtn, .int vtfk_14, .int vtfp_15]))] H := hP
      have hD : va_D A [(vt, .inr (9, [.ref vt1, .ref vt2, .int vtL, .int vtli, .int vta, .int vtk, .int vtst, .int vtw, .long vtc, .int vtn, .int vtfk_14, .int vtfp_15]))] := hD
      have aq_16 := q_16
      · skip
        refine as_i 0 aq_16 ?_
        refine lv_pop hx hb dX1_namedAt_25 rfl ?_
        refine lv_iload_n hx hb dX1_namedAt_26 rfl (lv_at hl 1 rfl) ?_
        rw [hQ9]
        exact re_i (vtfk_14, vtfp_15) hx hb hr hlocks ⟨(show -1 ≤ (vf : Int32).toInt ∧ (vf : Int32).toInt ≤ 9 from ⟨by omega, by omega⟩), (show (vf : Int32).toInt = -1 ∨ (vf : Int32).toInt = (vf : Int32).toInt from (by omega))⟩ (hP.sub [0] rfl) (hD.sub [0] rfl rfl) hS dX1_namedAt_27
abbrev O_g_manAt (cy : Nat → ClassId) (vc : Nat) (vc1 : Nat) (vc2 : Nat) (vc3 : Nat) (vc4 : Nat) (vc5 : Nat) (vcm : Int32) (vcd : Int32) (vcr : Int32) (vcw : Int32) (vcf1 : Nat → Int64) (vt : Nat) (vt1 : Nat) (vt2 : Nat) (vtL : Int32) (vtli : Int32) (vta : Int32) (vtk : Int32) (vtst : Int32) (vtw : Int32) (vtc : Int64) (vtn : Int32) (vtfk : Int32) (vtfp : Int32) (u : Int32 × Int32) : va_W := [(vc, .inr (2, [.ref vc1, .ref vc2, .ref vc3, .ref vc4, .ref vc5, .int vcm, .int vcd, .int vcr, .int vcw])), (vc1, .inl (cy 1, 7, .inr (.inl vcf1))), (vt, .inr (9, [.ref vt1, .ref vt2, .int vtL, .int vtli, .int vta, .int vtk, .int vtst, .int vtw, .long vtc, .int vtn, .int u.1, .int u.2]))]
set_option maxHeartbeats 4000000 in
set_option maxRecDepth 100000 in
theorem g_manAt (l : Launch) (dC : Nat → ClassId) (dI : Nat → Nat → Nat) (cy : Nat → ClassId) (sz : Nat) (vc : Nat) (vc1 : Nat) (vc2 : Nat) (vc3 : Nat) (vc4 : Nat) (vc5 : Nat) (vcm : Int32) (vcd : Int32) (vcr : Int32) (vcw : Int32) (vcf1 : Nat → Int64) (vt : Nat) (vt1 : Nat) (vt2 : Nat) (vtL : Int32) (vtli : Int32) (vta : Int32) (vtk : Int32) (vtst : Int32) (vtw : Int32) (vtc : Int64) (vtn : Int32) (vtfk : Int32) (vtfp : Int32) (r_vcm : 0 ≤ (vcm : Int32).toInt ∧ (vcm : Int32).toInt ≤ 7) (r_vcd : 0 ≤ (vcd : Int32).toInt ∧ (vcd : Int32).toInt ≤ 10) : Met l yX1_manAt (wl yX1_manAt cX1_manAt 2 (some .int)) ({ frames := 2, cells := 0, slots := 0, locals := 128 }) (Pw (dC, dI) vwCl cy [(vc, .inr (2, [.ref vc1, .ref vc2, .ref vc3, .ref vc4, .ref vc5, .int vcm, .int vcd, .int vcr, .int vcw])), (vc1, .inl (cy 1, 7, .inr (.inl vcf1))), (vt, .inr (9, [.ref vt1, .ref vt2, .int vtL, .int vtli, .int vta, .int vtk, .int vtst, .int vtw, .long vtc, .int vtn, .int vtfk, .int vtfp]))] sz [.ref vc, .ref vt] nE) (Qi (dC, dI) vwCl (fun (r : Int32) (u : Int32 × Int32) => (-1 ≤ (r : Int32).toInt ∧ (r : Int32).toInt ≤ 6) ∧ ((r : Int32).toInt < vcm.toInt)) (O_g_manAt cy vc vc1 vc2 vc3 vc4 vc5 vcm vcd vcr vcw vcf1 vt vt1 vt2 vtL vtli vta vtk vtst vtw vtc vtn vtfk vtfp) (va_A [(vc, .inr (2, [.ref vc1, .ref vc2, .ref vc3, .ref vc4, .ref vc5, .int vcm, .int vcd, .int vcr, .int vcw])), (vc1, .inl (cy 1, 7, .inr (.inl vcf1))), (vt, .inr (9, [.ref vt1, .ref vt2, .int vtL, .int vtli, .int vta, .int vtk, .int vtst, .int vtw, .long vtc, .int vtn, .int vtfk, .int vtfp]))] sz)) 0 0 (va_A [(vc, .inr (2, [.ref vc1, .ref vc2, .ref vc3, .ref vc4, .ref vc5, .int vcm, .int vcd, .int vcr, .int vcw])), (vc1, .inl (cy 1, 7, .inr (.inl vcf1))), (vt, .inr (9, [.ref vt1, .ref vt2, .int vtL, .int vtli, .int vta, .int vtk, .int vtst, .int vtw, .long vtc, .int vtn, .int vtfk, .int vtfp]))] sz) := by
  refine mw (Qc := Qi (dC, dI) vwCl (fun (r : Int32) (u : Int32 × Int32) => (-1 ≤ (r : Int32).toInt ∧ (r : Int32).toInt ≤ 6) ∧ ((r : Int32).toInt < vcm.toInt)) (O_g_manAt cy vc vc1 vc2 vc3 vc4 vc5 vcm vcd vcr vcw vcf1 vt vt1 vt2 vtL vtli vta vtk vtst vtw vtc vtn vtfk vtfp)) RX1 rfl (by decide +kernel) (Nat.le_of_ble_eq_true rfl) ?_
  intro p e s m below meth c A hx hb hr hlocks av9 hav hts hown hnm hml hK hP hD hA hS hE hAe Q9 hQ9 ls hl
  have hl : lv_has ls 2 [(0, .ref vc), (1, .ref vt)] := hl
  refine lv_aload_n hx hb dX1_manAt_0 rfl (lv_at hl 1 rfl) ?_
  refine lv_aload_n hx hb dX1_manAt_1 rfl (lv_at hl 0 rfl) ?_
  refine lv_aload_n hx hb dX1_manAt_2 rfl (lv_at hl 1 rfl) ?_
  refine gf_X1_50 hx hb hts hown hK hP 2 rfl rfl dX1_manAt_3 ?_
  refine jr_i (rVr (As := [.long vtc]) (rest := [.ref vt]) (ci := 2) ⟨hx, hb, hml, hown, hts⟩ (g_findMan l dC dI cy vc vc1 vc2 vc3 vc4 vc5 vcm vcd vcr vcw vcf1 vtc r_vcm r_vcd) (cw_X1_56 hts rfl rfl ⟨Nat.le_of_ble_eq_true rfl, Nat.le_of_ble_eq_true rfl⟩) hP hK [0, 1] rfl rfl rfl rfl hl.1 rfl (Nat.le_of_ble_eq_true rfl) dX1_manAt_6 ⟨Nat.le_of_ble_eq_true rfl, Nat.le_of_ble_eq_true rfl⟩) hP hS (fun r_1 H locs hp_2 hP hS => ?_)
  have hp_2 : (-1 ≤ (r_1 : Int32).toInt ∧ (r_1 : Int32).toInt ≤ 6) ∧ ((r_1 : Int32).toInt < vcm.toInt) := hp_2
  obtain ⟨q_3, q_4⟩ := hp_2
  refine jn_i (wr := [(vc, .inr (2, [.ref vc1, .ref vc2, .ref vc3, .ref vc4, .ref vc5, .int vcm, .int vcd, .int vcr, .int vcw])), (vc1, .inl (cy 1, 7, .inr (.inl vcf1)))]) (rS (As := [.ref vt, .int r_1]) (rest := []) ⟨hx, hb, hml, hown, hts⟩ (g_namedAt l dC dI cy _ vt vt1 vt2 vtL vtli vta vtk vtst vtw vtc vtn vtfk vtfp r_1 ⟨by omega, by omega⟩) (cw_X1_60 hts rfl rfl ⟨Nat.le_of_ble_eq_true rfl, Nat.le_of_ble_eq_true rfl⟩) hP hD hK [2] rfl rfl bl0 e0 rfl hl.1 rfl (Nat.le_of_ble_eq_true rfl) dX1_manAt_9 ⟨Nat.le_of_ble_eq_true rfl, Nat.le_of_ble_eq_true rfl⟩) hP hD hS hA [2] [0, 1] rfl rfl rfl (by decide) (fun r_5 u_7 H locs hp_6 hP hD hS => ?_)
  obtain ⟨vtfk_8, vtfp_9⟩ := u_7
  have hp_6 : (-1 ≤ (r_5 : Int32).toInt ∧ (r_5 : Int32).toInt ≤ 9) ∧ ((r_5 : Int32).toInt = -1 ∨ (r_5 : Int32).toInt = (r_1 : Int32).toInt) := hp_6
  obtain ⟨q_10, q_11⟩ := hp_6
  have hP : va_P (dC, dI) vwCl [(vc, .inr (2, [.ref vc1, .ref vc2, .ref vc3, .ref vc4, .ref vc5, .int vcm, .int vcd, .int vcr, .int vcw])), (vc1, .inl (cy 1, 7, .inr (.inl vcf1))), (vt, .inr (9, [.ref vt1, .ref vt2, .int vtL, .int vtli, .int vta, .int vtk, .int vtst, .int vtw, .long vtc, .int vtn, .int vtfk_8, .int vtfp_9]))] H := hP
  have hD : va_D A [(vc, .inr (2, [.ref vc1, .ref vc2, .ref vc3, .ref vc4, .ref vc5, .int vcm, .int vcd, .int vcr, .int vcw])), (vc1, .inl (cy 1, 7, .inr (.inl vcf1))), (vt, .inr (9, [.ref vt1, .ref vt2, .int vtL, .int vtli, .int vta, .int vtk, .int vtst, .int vtw, .long vtc, .int vtn, .int vtfk_8, .int vtfp_9]))] := hD
  rw [hQ9]
  exact re_i (vtfk_8, vtfp_9) hx hb hr hlocks ⟨(show -1 ≤ (r_5 : Int32).toInt ∧ (r_5 : Int32).toInt ≤ 6 from ⟨by omega, by omega⟩), (show (r_5 : Int32).toInt < vcm.toInt from (by omega))⟩ (hP.sub [0, 1, 2] rfl) (hD.sub [0, 1, 2] rfl rfl) hS dX1_manAt_12
abbrev O_g_deedAt (cy : Nat → ClassId) (vc : Nat) (vc1 : Nat) (vc2 : Nat) (vc3 : Nat) (vc4 : Nat) (vc5 : Nat) (vcm : Int32) (vcd : Int32) (vcr : Int32) (vcw : Int32) (vcf2 : Nat → Int64) (vt : Nat) (vt1 : Nat) (vt2 : Nat) (vtL : Int32) (vtli : Int32) (vta : Int32) (vtk : Int32) (vtst : Int32) (vtw : Int32) (vtc : Int64) (vtn : Int32) (vtfk : Int32) (vtfp : Int32) (u : Int32 × Int32) : va_W := [(vc, .inr (2, [.ref vc1, .ref vc2, .ref vc3, .ref vc4, .ref vc5, .int vcm, .int vcd, .int vcr, .int vcw])), (vc2, .inl (cy 1, 10, .inr (.inl vcf2))), (vt, .inr (9, [.ref vt1, .ref vt2, .int vtL, .int vtli, .int vta, .int vtk, .int vtst, .int vtw, .long vtc, .int vtn, .int u.1, .int u.2]))]
set_option maxHeartbeats 4000000 in
set_option maxRecDepth 100000 in
theorem g_deedAt (l : Launch) (dC : Nat → ClassId) (dI : Nat → Nat → Nat) (cy : Nat → ClassId) (sz : Nat) (vc : Nat) (vc1 : Nat) (vc2 : Nat) (vc3 : Nat) (vc4 : Nat) (vc5 : Nat) (vcm : Int32) (vcd : Int32) (vcr : Int32) (vcw : Int32) (vcf2 : Nat → Int64) (vt : Nat) (vt1 : Nat) (vt2 : Nat) (vtL : Int32) (vtli : Int32) (vta : Int32) (vtk : Int32) (vtst : Int32) (vtw : Int32) (vtc : Int64) (vtn : Int32) (vtfk : Int32) (vtfp : Int32) (r_vcm : 0 ≤ (vcm : Int32).toInt ∧ (vcm : Int32).toInt ≤ 7) (r_vcd : 0 ≤ (vcd : Int32).toInt ∧ (vcd : Int32).toInt ≤ 10) : Met l yX1_deedAt (wl yX1_deedAt cX1_deedAt 2 (some .int)) ({ frames := 2, cells := 0, slots := 0, locals := 128 }) (Pw (dC, dI) vwCl cy [(vc, .inr (2, [.ref vc1, .ref vc2, .ref vc3, .ref vc4, .ref vc5, .int vcm, .int vcd, .int vcr, .int vcw])), (vc2, .inl (cy 1, 10, .inr (.inl vcf2))), (vt, .inr (9, [.ref vt1, .ref vt2, .int vtL, .int vtli, .int vta, .int vtk, .int vtst, .int vtw, .long vtc, .int vtn, .int vtfk, .int vtfp]))] sz [.ref vc, .ref vt] nE) (Qi (dC, dI) vwCl (fun (r : Int32) (u : Int32 × Int32) => (-1 ≤ (r : Int32).toInt ∧ (r : Int32).toInt ≤ 9) ∧ ((r : Int32).toInt < vcd.toInt)) (O_g_deedAt cy vc vc1 vc2 vc3 vc4 vc5 vcm vcd vcr vcw vcf2 vt vt1 vt2 vtL vtli vta vtk vtst vtw vtc vtn vtfk vtfp) (va_A [(vc, .inr (2, [.ref vc1, .ref vc2, .ref vc3, .ref vc4, .ref vc5, .int vcm, .int vcd, .int vcr, .int vcw])), (vc2, .inl (cy 1, 10, .inr (.inl vcf2))), (vt, .inr (9, [.ref vt1, .ref vt2, .int vtL, .int vtli, .int vta, .int vtk, .int vtst, .int vtw, .long vtc, .int vtn, .int vtfk, .int vtfp]))] sz)) 0 0 (va_A [(vc, .inr (2, [.ref vc1, .ref vc2, .ref vc3, .ref vc4, .ref vc5, .int vcm, .int vcd, .int vcr, .int vcw])), (vc2, .inl (cy 1, 10, .inr (.inl vcf2))), (vt, .inr (9, [.ref vt1, .ref vt2, .int vtL, .int vtli, .int vta, .int vtk, .int vtst, .int vtw, .long vtc, .int vtn, .int vtfk, .int vtfp]))] sz) := by
  refine mw (Qc := Qi (dC, dI) vwCl (fun (r : Int32) (u : Int32 × Int32) => (-1 ≤ (r : Int32).toInt ∧ (r : Int32).toInt ≤ 9) ∧ ((r : Int32).toInt < vcd.toInt)) (O_g_deedAt cy vc vc1 vc2 vc3 vc4 vc5 vcm vcd vcr vcw vcf2 vt vt1 vt2 vtL vtli vta vtk vtst vtw vtc vtn vtfk vtfp)) RX1 rfl (by decide +kernel) (Nat.le_of_ble_eq_true rfl) ?_
  intro p e s m below meth c A hx hb hr hlocks av9 hav hts hown hnm hml hK hP hD hA hS hE hAe Q9 hQ9 ls hl
  have hl : lv_has ls 2 [(0, .ref vc), (1, .ref vt)] := hl
  refine lv_aload_n hx hb dX1_deedAt_0 rfl (lv_at hl 1 rfl) ?_
  refine lv_aload_n hx hb dX1_deedAt_1 rfl (lv_at hl 0 rfl) ?_
  refine lv_aload_n hx hb dX1_deedAt_2 rfl (lv_at hl 1 rfl) ?_
  refine gf_X1_50 hx hb hts hown hK hP 2 rfl rfl dX1_deedAt_3 ?_
  refine jr_i (rVr (As := [.long vtc]) (rest := [.ref vt]) (ci := 2) ⟨hx, hb, hml, hown, hts⟩ (g_findDeed l dC dI cy vc vc1 vc2 vc3 vc4 vc5 vcm vcd vcr vcw vcf2 vtc r_vcm r_vcd) (cw_X1_64 hts rfl rfl ⟨Nat.le_of_ble_eq_true rfl, Nat.le_of_ble_eq_true rfl⟩) hP hK [0, 1] rfl rfl rfl rfl hl.1 rfl (Nat.le_of_ble_eq_true rfl) dX1_deedAt_6 ⟨Nat.le_of_ble_eq_true rfl, Nat.le_of_ble_eq_true rfl⟩) hP hS (fun r_1 H locs hp_2 hP hS => ?_)
  have hp_2 : (-1 ≤ (r_1 : Int32).toInt ∧ (r_1 : Int32).toInt ≤ 9) ∧ ((r_1 : Int32).toInt < vcd.toInt) := hp_2
  obtain ⟨q_3, q_4⟩ := hp_2
  refine jn_i (wr := [(vc, .inr (2, [.ref vc1, .ref vc2, .ref vc3, .ref vc4, .ref vc5, .int vcm, .int vcd, .int vcr, .int vcw])), (vc2, .inl (cy 1, 10, .inr (.inl vcf2)))]) (rS (As := [.ref vt, .int r_1]) (rest := []) ⟨hx, hb, hml, hown, hts⟩ (g_namedAt l dC dI cy _ vt vt1 vt2 vtL vtli vta vtk vtst vtw vtc vtn vtfk vtfp r_1 ⟨by omega, by omega⟩) (cw_X1_60 hts rfl rfl ⟨Nat.le_of_ble_eq_true rfl, Nat.le_of_ble_eq_true rfl⟩) hP hD hK [2] rfl rfl bl0 e0 rfl hl.1 rfl (Nat.le_of_ble_eq_true rfl) dX1_deedAt_9 ⟨Nat.le_of_ble_eq_true rfl, Nat.le_of_ble_eq_true rfl⟩) hP hD hS hA [2] [0, 1] rfl rfl rfl (by decide) (fun r_5 u_7 H locs hp_6 hP hD hS => ?_)
  obtain ⟨vtfk_8, vtfp_9⟩ := u_7
  have hp_6 : (-1 ≤ (r_5 : Int32).toInt ∧ (r_5 : Int32).toInt ≤ 9) ∧ ((r_5 : Int32).toInt = -1 ∨ (r_5 : Int32).toInt = (r_1 : Int32).toInt) := hp_6
  obtain ⟨q_10, q_11⟩ := hp_6
  have hP : va_P (dC, dI) vwCl [(vc, .inr (2, [.ref vc1, .ref vc2, .ref vc3, .ref vc4, .ref vc5, .int vcm, .int vcd, .int vcr, .int vcw])), (vc2, .inl (cy 1, 10, .inr (.inl vcf2))), (vt, .inr (9, [.ref vt1, .ref vt2, .int vtL, .int vtli, .int vta, .int vtk, .int vtst, .int vtw, .long vtc, .int vtn, .int vtfk_8, .int vtfp_9]))] H := hP
  have hD : va_D A [(vc, .inr (2, [.ref vc1, .ref vc2, .ref vc3, .ref vc4, .ref vc5, .int vcm, .int vcd, .int vcr, .int vcw])), (vc2, .inl (cy 1, 10, .inr (.inl vcf2))), (vt, .inr (9, [.ref vt1, .ref vt2, .int vtL, .int vtli, .int vta, .int vtk, .int vtst, .int vtw, .long vtc, .int vtn, .int vtfk_8, .int vtfp_9]))] := hD
  rw [hQ9]
  exact re_i (vtfk_8, vtfp_9) hx hb hr hlocks ⟨(show -1 ≤ (r_5 : Int32).toInt ∧ (r_5 : Int32).toInt ≤ 9 from ⟨by omega, by omega⟩), (show (r_5 : Int32).toInt < vcd.toInt from (by omega))⟩ (hP.sub [0, 1, 2] rfl) (hD.sub [0, 1, 2] rfl rfl) hS dX1_deedAt_12
