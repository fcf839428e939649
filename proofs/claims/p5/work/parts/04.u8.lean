abbrev cX1_clear : ByteArray := prog_3_method_2_code
def yX1_clear : MethodName := ⟨RX1, "clear", "()V"⟩
theorem t552 : Cond.code yX1_clear cX1_clear 2 none ∈ GW := gw_mem 666 (by decide +kernel) (by decide +kernel)
abbrev O_t_Col_clear (cy : Nat → ClassId) (vc : Nat) (vc1 : Nat) (vc2 : Nat) (vc3 : Nat) (vc4 : Nat) (vc5 : Nat) (vcm : Int32) (vcd : Int32) (vcr : Int32) (vcw : Int32) (vcf5 : Nat → Int32) (u : Int32 × Int32 × Int32 × Int32 × (Nat → Int32)) : va_W := [(vc, .inr (2, [.ref vc1, .ref vc2, .ref vc3, .ref vc4, .ref vc5, .int u.1, .int u.2.1, .int u.2.2.1, .int u.2.2.2.1])), (vc5, .inl (cy 0, 7, .inl u.2.2.2.2))]
theorem dX1_clear_0 : decode cX1_clear 0 = .ok (.aload_n 0, 1) := by decide +kernel
theorem dX1_clear_1 : decode cX1_clear 1 = .ok (.iconst 0, 1) := by decide +kernel
theorem dX1_clear_2 : decode cX1_clear 2 = .ok (.putfield 36, 3) := by decide +kernel
theorem pf_X1_36 {p : Program} {l : Launch} {e : Env} {R : Room} {s : State} {m : MethodId} {args : Array Value} {below : List Frame} {meth : Method} {c : Code} {H : Heap} {locs : List Loc} {cells slots : Nat} {Q : State → Prop} {cc : ByteArray} {pc : Nat} {ls : Array Slot} {rest : List Value} {D : va_G} {A : Nat → Prop} {a : Nat} {tys : List (ClassId × FieldType)} {ws : va_W} {H0 : Heap} (hx : p.tables.exec = Jvm.exec) (hb : c.code = cc) (hts : ∀ w ∈ GW, w.before args s = true) (hown : s.vm.findClass RX1 = some m.cls) (hK : va_K D vwCl tys s) (hP : va_P D vwCl ws H) (hD : va_D A ws) (hS0 : va_S A H0 H locs) (q0 : Nat) {fs : List Value} (he : ws[q0]? = some (a, .inr (2, fs))) {v : Value} (hn : narrow (tyX1 5) v = v) (hfit : fits (tyX1 5) v = true) (hl : 5 < fs.length) (hdg : decode cc pc = .ok (.putfield 36, 3)) (kk : ∀ (H1 : Heap) (locs1 : List Loc), va_P D vwCl (ws.set q0 (a, .inr (2, fs.set 5 v))) H1 → va_D A (ws.set q0 (a, .inr (2, fs.set 5 v))) → va_S A H0 H1 locs1 → W p l e R s m args below meth c H1 locs1 cells slots Q (F0 m (pc + 3) ls rest)) : W p l e R s m args below meth c H locs cells slots Q (F0 m pc ls (v :: .ref a :: rest)) := va_put (C := RX1) (T := TX1) (N := 9) (ci := 2) hx hb hts inX1 tyX1 tkX1 nmX1 hown hK hP hD hS0 q0 he rfl 5 (by decide) (hts _ t390) (fun _ h => h) rfl (tkX1 5 (by decide)) hn hfit hl hdg kk
theorem dX1_clear_5 : decode cX1_clear 5 = .ok (.aload_n 0, 1) := by decide +kernel
theorem dX1_clear_6 : decode cX1_clear 6 = .ok (.iconst 0, 1) := by decide +kernel
theorem dX1_clear_7 : decode cX1_clear 7 = .ok (.putfield 39, 3) := by decide +kernel
theorem pf_X1_39 {p : Program} {l : Launch} {e : Env} {R : Room} {s : State} {m : MethodId} {args : Array Value} {below : List Frame} {meth : Method} {c : Code} {H : Heap} {locs : List Loc} {cells slots : Nat} {Q : State → Prop} {cc : ByteArray} {pc : Nat} {ls : Array Slot} {rest : List Value} {D : va_G} {A : Nat → Prop} {a : Nat} {tys : List (ClassId × FieldType)} {ws : va_W} {H0 : Heap} (hx : p.tables.exec = Jvm.exec) (hb : c.code = cc) (hts : ∀ w ∈ GW, w.before args s = true) (hown : s.vm.findClass RX1 = some m.cls) (hK : va_K D vwCl tys s) (hP : va_P D vwCl ws H) (hD : va_D A ws) (hS0 : va_S A H0 H locs) (q0 : Nat) {fs : List Value} (he : ws[q0]? = some (a, .inr (2, fs))) {v : Value} (hn : narrow (tyX1 6) v = v) (hfit : fits (tyX1 6) v = true) (hl : 6 < fs.length) (hdg : decode cc pc = .ok (.putfield 39, 3)) (kk : ∀ (H1 : Heap) (locs1 : List Loc), va_P D vwCl (ws.set q0 (a, .inr (2, fs.set 6 v))) H1 → va_D A (ws.set q0 (a, .inr (2, fs.set 6 v))) → va_S A H0 H1 locs1 → W p l e R s m args below meth c H1 locs1 cells slots Q (F0 m (pc + 3) ls rest)) : W p l e R s m args below meth c H locs cells slots Q (F0 m pc ls (v :: .ref a :: rest)) := va_put (C := RX1) (T := TX1) (N := 9) (ci := 2) hx hb hts inX1 tyX1 tkX1 nmX1 hown hK hP hD hS0 q0 he rfl 6 (by decide) (hts _ t396) (fun _ h => h) rfl (tkX1 6 (by decide)) hn hfit hl hdg kk
theorem dX1_clear_10 : decode cX1_clear 10 = .ok (.aload_n 0, 1) := by decide +kernel
theorem dX1_clear_11 : decode cX1_clear 11 = .ok (.bipush 60, 2) := by decide +kernel
theorem dX1_clear_13 : decode cX1_clear 13 = .ok (.putfield 29, 3) := by decide +kernel
theorem t402 : Cond.fieldLink RX1 29 "LikenessPound$Colony" "room" "I" ∈ GW := gw_mem 516 (by decide +kernel) (by decide +kernel)
theorem pf_X1_29 {p : Program} {l : Launch} {e : Env} {R : Room} {s : State} {m : MethodId} {args : Array Value} {below : List Frame} {meth : Method} {c : Code} {H : Heap} {locs : List Loc} {cells slots : Nat} {Q : State → Prop} {cc : ByteArray} {pc : Nat} {ls : Array Slot} {rest : List Value} {D : va_G} {A : Nat → Prop} {a : Nat} {tys : List (ClassId × FieldType)} {ws : va_W} {H0 : Heap} (hx : p.tables.exec = Jvm.exec) (hb : c.code = cc) (hts : ∀ w ∈ GW, w.before args s = true) (hown : s.vm.findClass RX1 = some m.cls) (hK : va_K D vwCl tys s) (hP : va_P D vwCl ws H) (hD : va_D A ws) (hS0 : va_S A H0 H locs) (q0 : Nat) {fs : List Value} (he : ws[q0]? = some (a, .inr (2, fs))) {v : Value} (hn : narrow (tyX1 7) v = v) (hfit : fits (tyX1 7) v = true) (hl : 7 < fs.length) (hdg : decode cc pc = .ok (.putfield 29, 3)) (kk : ∀ (H1 : Heap) (locs1 : List Loc), va_P D vwCl (ws.set q0 (a, .inr (2, fs.set 7 v))) H1 → va_D A (ws.set q0 (a, .inr (2, fs.set 7 v))) → va_S A H0 H1 locs1 → W p l e R s m args below meth c H1 locs1 cells slots Q (F0 m (pc + 3) ls rest)) : W p l e R s m args below meth c H locs cells slots Q (F0 m pc ls (v :: .ref a :: rest)) := va_put (C := RX1) (T := TX1) (N := 9) (ci := 2) hx hb hts inX1 tyX1 tkX1 nmX1 hown hK hP hD hS0 q0 he rfl 7 (by decide) (hts _ t402) (fun _ h => h) rfl (tkX1 7 (by decide)) hn hfit hl hdg kk
theorem dX1_clear_16 : decode cX1_clear 16 = .ok (.aload_n 0, 1) := by decide +kernel
theorem dX1_clear_17 : decode cX1_clear 17 = .ok (.bipush 10, 2) := by decide +kernel
theorem dX1_clear_19 : decode cX1_clear 19 = .ok (.putfield 33, 3) := by decide +kernel
theorem t406 : Cond.fieldLink RX1 33 "LikenessPound$Colony" "faint" "I" ∈ GW := gw_mem 520 (by decide +kernel) (by decide +kernel)
theorem pf_X1_33 {p : Program} {l : Launch} {e : Env} {R : Room} {s : State} {m : MethodId} {args : Array Value} {below : List Frame} {meth : Method} {c : Code} {H : Heap} {locs : List Loc} {cells slots : Nat} {Q : State → Prop} {cc : ByteArray} {pc : Nat} {ls : Array Slot} {rest : List Value} {D : va_G} {A : Nat → Prop} {a : Nat} {tys : List (ClassId × FieldType)} {ws : va_W} {H0 : Heap} (hx : p.tables.exec = Jvm.exec) (hb : c.code = cc) (hts : ∀ w ∈ GW, w.before args s = true) (hown : s.vm.findClass RX1 = some m.cls) (hK : va_K D vwCl tys s) (hP : va_P D vwCl ws H) (hD : va_D A ws) (hS0 : va_S A H0 H locs) (q0 : Nat) {fs : List Value} (he : ws[q0]? = some (a, .inr (2, fs))) {v : Value} (hn : narrow (tyX1 8) v = v) (hfit : fits (tyX1 8) v = true) (hl : 8 < fs.length) (hdg : decode cc pc = .ok (.putfield 33, 3)) (kk : ∀ (H1 : Heap) (locs1 : List Loc), va_P D vwCl (ws.set q0 (a, .inr (2, fs.set 8 v))) H1 → va_D A (ws.set q0 (a, .inr (2, fs.set 8 v))) → va_S A H0 H1 locs1 → W p l e R s m args below meth c H1 locs1 cells slots Q (F0 m (pc + 3) ls rest)) : W p l e R s m args below meth c H locs cells slots Q (F0 m pc ls (v :: .ref a :: rest)) := va_put (C := RX1) (T := TX1) (N := 9) (ci := 2) hx hb hts inX1 tyX1 tkX1 nmX1 hown hK hP hD hS0 q0 he rfl 8 (by decide) (hts _ t406) (fun _ h => h) rfl (tkX1 8 (by decide)) hn hfit hl hdg kk
theorem dX1_clear_22 : decode cX1_clear 22 = .ok (.iconst 0, 1) := by decide +kernel
theorem dX1_clear_23 : decode cX1_clear 23 = .ok (.istore_n 1, 1) := by decide +kernel
theorem dX1_clear_24 : decode cX1_clear 24 = .ok (.iload_n 1, 1) := by decide +kernel
theorem dX1_clear_25 : decode cX1_clear 25 = .ok (.bipush 7, 2) := by decide +kernel
theorem dX1_clear_27 : decode cX1_clear 27 = .ok (.if_icmp .ge 16, 3) := by decide +kernel
theorem dX1_clear_43 : decode cX1_clear 43 = .ok (.return_, 1) := by decide +kernel
theorem dX1_clear_30 : decode cX1_clear 30 = .ok (.aload_n 0, 1) := by decide +kernel
theorem dX1_clear_31 : decode cX1_clear 31 = .ok (.getfield 26, 3) := by decide +kernel
theorem dX1_clear_34 : decode cX1_clear 34 = .ok (.iload_n 1, 1) := by decide +kernel
theorem dX1_clear_35 : decode cX1_clear 35 = .ok (.iconst 0, 1) := by decide +kernel
theorem dX1_clear_36 : decode cX1_clear 36 = .ok (.iastore, 1) := by decide +kernel
theorem dX1_clear_37 : decode cX1_clear 37 = .ok (.iinc 1 1, 3) := by decide +kernel
theorem dX1_clear_40 : decode cX1_clear 40 = .ok (.goto (-16), 3) := by decide +kernel
set_option maxHeartbeats 4000000 in
set_option maxRecDepth 100000 in
theorem t_Col_clear (l : Launch) (dC : Nat → ClassId) (dI : Nat → Nat → Nat) (cy : Nat → ClassId) (sz : Nat) (vc : Nat) (vc1 : Nat) (vc2 : Nat) (vc3 : Nat) (vc4 : Nat) (vc5 : Nat) (vcm : Int32) (vcd : Int32) (vcr : Int32) (vcw : Int32) (vcf5 : Nat → Int32)  : Met l yX1_clear (wl yX1_clear cX1_clear 2 none) ({ frames := 0, cells := 0, slots := 0, locals := 0 }) (Pw (dC, dI) vwCl cy [(vc, .inr (2, [.ref vc1, .ref vc2, .ref vc3, .ref vc4, .ref vc5, .int vcm, .int vcd, .int vcr, .int vcw])), (vc5, .inl (cy 0, 7, .inl vcf5))] sz [.ref vc] nE) (Qv (dC, dI) vwCl (fun (u : Int32 × Int32 × Int32 × Int32 × (Nat → Int32)) => (0 ≤ (u.1 : Int32).toInt ∧ (u.1 : Int32).toInt ≤ 0) ∧ (0 ≤ (u.2.1 : Int32).toInt ∧ (u.2.1 : Int32).toInt ≤ 0) ∧ (u.2.2.1 = 60) ∧ (u.2.2.2.1 = 10) ∧ (tkZ u.2.2.2.2 7)) (O_t_Col_clear cy vc vc1 vc2 vc3 vc4 vc5 vcm vcd vcr vcw vcf5) (va_A [(vc, .inr (2, [.ref vc1, .ref vc2, .ref vc3, .ref vc4, .ref vc5, .int vcm, .int vcd, .int vcr, .int vcw])), (vc5, .inl (cy 0, 7, .inl vcf5))] sz)) 0 0 (va_A [(vc, .inr (2, [.ref vc1, .ref vc2, .ref vc3, .ref vc4, .ref vc5, .int vcm, .int vcd, .int vcr, .int vcw])), (vc5, .inl (cy 0, 7, .inl vcf5))] sz) := by
  refine mw (Qc := Qv (dC, dI) vwCl (fun (u : Int32 × Int32 × Int32 × Int32 × (Nat → Int32)) => (0 ≤ (u.1 : Int32).toInt ∧ (u.1 : Int32).toInt ≤ 0) ∧ (0 ≤ (u.2.1 : Int32).toInt ∧ (u.2.1 : Int32).toInt ≤ 0) ∧ (u.2.2.1 = 60) ∧ (u.2.2.2.1 = 10) ∧ (tkZ u.2.2.2.2 7)) (O_t_Col_clear cy vc vc1 vc2 vc3 vc4 vc5 vcm vcd vcr vcw vcf5)) RX1 rfl (by decide +kernel) (Nat.le_of_ble_eq_true rfl) ?_
  intro p e s m below meth c A hx hb hr hlocks av9 hav hts hown hnm hml hK hP hD hA hS hE hAe Q9 hQ9 ls hl
  have hl : lv_has ls 2 [(0, .ref vc)] := hl
  refine lv_aload_n hx hb dX1_clear_0 rfl (lv_at hl 0 rfl) ?_
  refine lv_iconst (v := 0) hx hb dX1_clear_1 (by decide) ?_
  refine pf_X1_36 hx hb hts hown hK hP hD hS 0 rfl rfl rfl (Nat.le_of_ble_eq_true rfl) dX1_clear_2 (fun H locs hP hD hS => ?_)
  have hP : va_P (dC, dI) vwCl [(vc, .inr (2, [.ref vc1, .ref vc2, .ref vc3, .ref vc4, .ref vc5, .int 0, .int vcd, .int vcr, .int vcw])), (vc5, .inl (cy 0, 7, .inl vcf5))] H := hP
  have hD : va_D A [(vc, .inr (2, [.ref vc1, .ref vc2, .ref vc3, .ref vc4, .ref vc5, .int 0, .int vcd, .int vcr, .int vcw])), (vc5, .inl (cy 0, 7, .inl vcf5))] := hD
  refine lv_aload_n hx hb dX1_clear_5 rfl (lv_at hl 0 rfl) ?_
  refine lv_iconst (v := 0) hx hb dX1_clear_6 (by decide) ?_
  refine pf_X1_39 hx hb hts hown hK hP hD hS 0 rfl rfl rfl (Nat.le_of_ble_eq_true rfl) dX1_clear_7 (fun H locs hP hD hS => ?_)
  have hP : va_P (dC, dI) vwCl [(vc, .inr (2, [.ref vc1, .ref vc2, .ref vc3, .ref vc4, .ref vc5, .int 0, .int 0, .int vcr, .int vcw])), (vc5, .inl (cy 0, 7, .inl vcf5))] H := hP
  have hD : va_D A [(vc, .inr (2, [.ref vc1, .ref vc2, .ref vc3, .ref vc4, .ref vc5, .int 0, .int 0, .int vcr, .int vcw])), (vc5, .inl (cy 0, 7, .inl vcf5))] := hD
  refine lv_aload_n hx hb dX1_clear_10 rfl (lv_at hl 0 rfl) ?_
  refine lv_bipush (v := 60) hx hb dX1_clear_11 (by decide) ?_
  refine pf_X1_29 hx hb hts hown hK hP hD hS 0 rfl rfl rfl (Nat.le_of_ble_eq_true rfl) dX1_clear_13 (fun H locs hP hD hS => ?_)
  have hP : va_P (dC, dI) vwCl [(vc, .inr (2, [.ref vc1, .ref vc2, .ref vc3, .ref vc4, .ref vc5, .int 0, .int 0, .int 60, .int vcw])), (vc5, .inl (cy 0, 7, .inl vcf5))] H := hP
  have hD : va_D A [(vc, .inr (2, [.ref vc1, .ref vc2, .ref vc3, .ref vc4, .ref vc5, .int 0, .int 0, .int 60, .int vcw])), (vc5, .inl (cy 0, 7, .inl vcf5))] := hD
  refine lv_aload_n hx hb dX1_clear_16 rfl (lv_at hl 0 rfl) ?_
  refine lv_bipush (v := 10) hx hb dX1_clear_17 (by decide) ?_
  refine pf_X1_33 hx hb hts hown hK hP hD hS 0 rfl rfl rfl (Nat.le_of_ble_eq_true rfl) dX1_clear_19 (fun H locs hP hD hS => ?_)
  have hP : va_P (dC, dI) vwCl [(vc, .inr (2, [.ref vc1, .ref vc2, .ref vc3, .ref vc4, .ref vc5, .int 0, .int 0, .int 60, .int 10])), (vc5, .inl (cy 0, 7, .inl vcf5))] H := hP
  have hD : va_D A [(vc, .inr (2, [.ref vc1, .ref vc2, .ref vc3, .ref vc4, .ref vc5, .int 0, .int 0, .int 60, .int 10])), (vc5, .inl (cy 0, 7, .inl vcf5))] := hD
  refine lv_iconst (v := 0) hx hb dX1_clear_22 (by decide) ?_
  refine lv_istore_n (lv' := [(1, .int 0), (0, .ref vc)]) hx hb dX1_clear_23 rfl hl (by decide) rfl (fun ls hl => ?_)
  have loop1 : ∀ (n1 : Nat) (x_2 : Int32) (g_3 : Nat → Int32), (0 ≤ x_2.toInt ∧ x_2.toInt ≤ 7) → (tkZ g_3 x_2.toInt) → 7 - x_2.toInt < (n1 : Int) → ∀ (H : Heap) (locs : List Loc), va_P (dC, dI) vwCl [(vc, .inr (2, [.ref vc1, .ref vc2, .ref vc3, .ref vc4, .ref vc5, .int 0, .int 0, .int 60, .int 10])), (vc5, .inl (cy 0, 7, .inl g_3))] H → va_D A [(vc, .inr (2, [.ref vc1, .ref vc2, .ref vc3, .ref vc4, .ref vc5, .int 0, .int 0, .int 60, .int 10])), (vc5, .inl (cy 0, 7, .inl g_3))] → va_S A s.heap H locs → ∀ ls : Array Slot, lv_has ls 2 [(1, .int x_2), (0, .ref vc)] → W p l e ({ frames := 0, cells := 0, slots := 0, locals := 0 }) s m av9 below meth c H locs 0 0 Q9 (F0 m 24 ls []) := by
    intro n1
    induction n1 with
    | zero =>
      intro x_2 g_3 bx_2 v1_0 hn1 H locs hP hD hS ls hl
      exfalso; omega
    | succ n1 ih1 =>
      intro x_2 g_3 bx_2 v1_0 hn1 H locs hP hD hS ls hl
      refine lv_iload_n hx hb dX1_clear_24 rfl (lv_at hl 0 rfl) ?_
      refine lv_bipush (v := 7) hx hb dX1_clear_25 (by decide) ?_
      have k_7 : (7 : Int32).toInt = 7 := by decide
      refine lv_icmp_ge (tgt := 43) hx hb dX1_clear_27 (by decide) (fun c_4 => ?_) (fun c_4 => ?_)
      · skip
        have c_4 : (7 : Int32).toInt ≤ x_2.toInt := i_le.mp c_4
        have k_0 : (0 : Int32).toInt = 0 := by decide
        have k_60 : (60 : Int32).toInt = 60 := by decide
        have k_10 : (10 : Int32).toInt = 10 := by decide
        rw [hQ9]
        exact re_v ((0 : Int32), (0 : Int32), (60 : Int32), (10 : Int32), g_3) hx hb hr hlocks ⟨(show 0 ≤ (0 : Int32).toInt ∧ (0 : Int32).toInt ≤ 0 from ⟨by omega, by omega⟩), (show 0 ≤ (0 : Int32).toInt ∧ (0 : Int32).toInt ≤ 0 from ⟨by omega, by omega⟩), (show 60 = 60 from rfl), (show 10 = 10 from rfl), (show tkZ g_3 7 from (fun j hj => v1_0 j (by omega)))⟩ (hP.sub [0, 1] rfl) (hD.sub [0, 1] rfl rfl) hS dX1_clear_43
      · skip
        have c_4 : ¬ ((7 : Int32).toInt ≤ x_2.toInt) := fun h9 => c_4 (i_le.mpr h9)
        refine lv_aload_n hx hb dX1_clear_30 rfl (lv_at hl 1 rfl) ?_
        refine gf_X1_26 hx hb hts hown hK hP 0 rfl rfl dX1_clear_31 ?_
        refine lv_iload_n hx hb dX1_clear_34 rfl (lv_at hl 0 rfl) ?_
        refine lv_iconst (v := 0) hx hb dX1_clear_35 (by decide) ?_
        have hin_5 : vp_in x_2 7 := vp_in_iff.mpr ⟨by omega, by omega⟩
        refine va_iast hx hb hK hP hD hS 1 0 rfl rfl hin_5 dX1_clear_36 (fun H locs hP hD hS => ?_)
        obtain ⟨f_6, ef_6⟩ : ∃ z : Nat → Int32, z = upd g_3 (Int32.toNatClampNeg x_2) 0 := ⟨_, rfl⟩
        have hP : va_P (dC, dI) vwCl [(vc, .inr (2, [.ref vc1, .ref vc2, .ref vc3, .ref vc4, .ref vc5, .int 0, .int 0, .int 60, .int 10])), (vc5, .inl (cy 0, 7, .inl f_6))] H := by rw [ef_6]; exact hP
        have hD : va_D A [(vc, .inr (2, [.ref vc1, .ref vc2, .ref vc3, .ref vc4, .ref vc5, .int 0, .int 0, .int 60, .int 10])), (vc5, .inl (cy 0, 7, .inl f_6))] := by rw [ef_6]; exact hD
        obtain ⟨z_7, ez_7⟩ : ∃ z : Int32, z = x_2 + 1 := ⟨_, rfl⟩
        have k_1 : (1 : Int32).toInt = 1 := by decide
        have bz_7 : z_7.toInt = x_2.toInt + (1 : Int32).toInt := i_add ez_7 (by omega) (by omega)
        refine lv_iinc (v := z_7) (lv' := [(1, .int z_7), (0, .ref vc)]) hx hb dX1_clear_37 hl (k := 0) rfl ez_7.symm (by decide) rfl (fun ls hl => ?_)
        refine lv_goto (tgt := 24) hx hb dX1_clear_40 (by decide) ?_
        exact ih1 z_7 f_6 ⟨by omega, by omega⟩ (tkZ_s v1_0 (by omega) (by omega) rfl ef_6) (by omega) _ _ (hP.sub [0, 1] rfl) (hD.sub [0, 1] rfl rfl) hS ls (lv_sub hl [0, 1] rfl)
  have k_0 : (0 : Int32).toInt = 0 := by decide
  exact loop1 ((7 - (0 : Int32).toInt).toNat + 1) 0 vcf5 ⟨by omega, by omega⟩ (tkZ_0 (by omega)) (by omega) _ _ hP hD hS ls (lv_sub hl [0, 1] rfl)
abbrev cX4_clear : ByteArray := prog_6_method_2_code
def yX4_clear : MethodName := ⟨RX4, "clear", "()V"⟩
theorem t227 : Cond.code yX4_clear cX4_clear 2 none ∈ GW := gw_mem 341 (by decide +kernel) (by decide +kernel)
abbrev O_t_Life_clear (cy : Nat → ClassId) (vl : Nat) (vl1 : Nat) (vl2 : Nat) (vl3 : Nat) (vl4 : Nat) (vl5 : Nat) (vl6 : Nat) (vl7 : Nat) (vl8 : Nat) (vl9 : Nat) (vl10 : Nat) (vly : Int32) (vlf1 : Nat → Int32) (vlf2 : Nat → Int32) (vlf3 : Nat → Int32) (vlf4 : Nat → Int32) (vlf5 : Nat → Int32) (vlf6 : Nat → Int32) (u : Int32 × (Nat → Int32) × (Nat → Int32) × (Nat → Int32) × (Nat → Int32) × (Nat → Int32) × (Nat → Int32)) : va_W := [(vl, .inr (5, [.ref vl1, .ref vl2, .ref vl3, .ref vl4, .ref vl5, .ref vl6, .ref vl7, .ref vl8, .ref vl9, .ref vl10, .int u.1])), (vl1, .inl (cy 0, 7, .inl u.2.1)), (vl2, .inl (cy 0, 70, .inl u.2.2.1)), (vl3, .inl (cy 0, 49, .inl u.2.2.2.1)), (vl4, .inl (cy 0, 7, .inl u.2.2.2.2.1)), (vl5, .inl (cy 0, 7, .inl u.2.2.2.2.2.1)), (vl6, .inl (cy 0, 7, .inl u.2.2.2.2.2.2))]
theorem dX4_clear_0 : decode cX4_clear 0 = .ok (.aload_n 0, 1) := by decide +kernel
theorem dX4_clear_1 : decode cX4_clear 1 = .ok (.iconst 0, 1) := by decide +kernel
theorem dX4_clear_2 : decode cX4_clear 2 = .ok (.putfield 45, 3) := by decide +kernel
theorem t266 : Cond.fieldLink RX4 45 "LikenessPound$Life" "year" "I" ∈ GW := gw_mem 380 (by decide +kernel) (by decide +kernel)
theorem pf_X4_45 {p : Program} {l : Launch} {e : Env} {R : Room} {s : State} {m : MethodId} {args : Array Value} {below : List Frame} {meth : Method} {c : Code} {H : Heap} {locs : List Loc} {cells slots : Nat} {Q : State → Prop} {cc : ByteArray} {pc : Nat} {ls : Array Slot} {rest : List Value} {D : va_G} {A : Nat → Prop} {a : Nat} {tys : List (ClassId × FieldType)} {ws : va_W} {H0 : Heap} (hx : p.tables.exec = Jvm.exec) (hb : c.code = cc) (hts : ∀ w ∈ GW, w.before args s = true) (hown : s.vm.findClass RX4 = some m.cls) (hK : va_K D vwCl tys s) (hP : va_P D vwCl ws H) (hD : va_D A ws) (hS0 : va_S A H0 H locs) (q0 : Nat) {fs : List Value} (he : ws[q0]? = some (a, .inr (5, fs))) {v : Value} (hn : narrow (tyX4 10) v = v) (hfit : fits (tyX4 10) v = true) (hl : 10 < fs.length) (hdg : decode cc pc = .ok (.putfield 45, 3)) (kk : ∀ (H1 : Heap) (locs1 : List Loc), va_P D vwCl (ws.set q0 (a, .inr (5, fs.set 10 v))) H1 → va_D A (ws.set q0 (a, .inr (5, fs.set 10 v))) → va_S A H0 H1 locs1 → W p l e R s m args below meth c H1 locs1 cells slots Q (F0 m (pc + 3) ls rest)) : W p l e R s m args below meth c H locs cells slots Q (F0 m pc ls (v :: .ref a :: rest)) := va_put (C := RX4) (T := TX4) (N := 11) (ci := 5) hx hb hts inX4 tyX4 tkX4 nmX4 hown hK hP hD hS0 q0 he rfl 10 (by decide) (hts _ t266) (fun _ h => h) rfl (tkX4 10 (by decide)) hn hfit hl hdg kk
theorem dX4_clear_5 : decode cX4_clear 5 = .ok (.iconst 0, 1) := by decide +kernel
theorem dX4_clear_6 : decode cX4_clear 6 = .ok (.istore_n 1, 1) := by decide +kernel
theorem dX4_clear_7 : decode cX4_clear 7 = .ok (.iload_n 1, 1) := by decide +kernel
theorem dX4_clear_8 : decode cX4_clear 8 = .ok (.bipush 7, 2) := by decide +kernel
theorem dX4_clear_10 : decode cX4_clear 10 = .ok (.if_icmp .ge 37, 3) := by decide +kernel
theorem dX4_clear_47 : decode cX4_clear 47 = .ok (.iconst 0, 1) := by decide +kernel
theorem dX4_clear_48 : decode cX4_clear 48 = .ok (.istore_n 1, 1) := by decide +kernel
theorem dX4_clear_49 : decode cX4_clear 49 = .ok (.iload_n 1, 1) := by decide +kernel
theorem dX4_clear_50 : decode cX4_clear 50 = .ok (.bipush 70, 2) := by decide +kernel
theorem dX4_clear_52 : decode cX4_clear 52 = .ok (.if_icmp .ge 16, 3) := by decide +kernel
theorem dX4_clear_68 : decode cX4_clear 68 = .ok (.iconst 0, 1) := by decide +kernel
theorem dX4_clear_69 : decode cX4_clear 69 = .ok (.istore_n 1, 1) := by decide +kernel
theorem dX4_clear_70 : decode cX4_clear 70 = .ok (.iload_n 1, 1) := by decide +kernel
theorem dX4_clear_71 : decode cX4_clear 71 = .ok (.bipush 49, 2) := by decide +kernel
theorem dX4_clear_73 : decode cX4_clear 73 = .ok (.if_icmp .ge 16, 3) := by decide +kernel
theorem dX4_clear_89 : decode cX4_clear 89 = .ok (.return_, 1) := by decide +kernel
theorem dX4_clear_76 : decode cX4_clear 76 = .ok (.aload_n 0, 1) := by decide +kernel
theorem dX4_clear_77 : decode cX4_clear 77 = .ok (.getfield 18, 3) := by decide +kernel
theorem t239 : Cond.fieldLink RX4 18 "LikenessPound$Life" "owed" "[I" ∈ GW := gw_mem 353 (by decide +kernel) (by decide +kernel)
theorem gf_X4_18 {p : Program} {l : Launch} {e : Env} {R : Room} {s : State} {m : MethodId} {args : Array Value} {below : List Frame} {meth : Method} {c : Code} {H : Heap} {locs : List Loc} {cells slots : Nat} {Q : State → Prop} {cc : ByteArray} {pc : Nat} {ls : Array Slot} {rest : List Value} {D : va_G} {a : Nat} {tys : List (ClassId × FieldType)} {ws : va_W} (hx : p.tables.exec = Jvm.exec) (hb : c.code = cc) (hts : ∀ w ∈ GW, w.before args s = true) (hown : s.vm.findClass RX4 = some m.cls) (hK : va_K D vwCl tys s) (hP : va_P D vwCl ws H) (q0 : Nat) {fs : List Value} (he : ws[q0]? = some (a, .inr (5, fs))) {v : Value} (hv : fs[2]? = some v) (hdg : decode cc pc = .ok (.getfield 18, 3)) (kk : W p l e R s m args below meth c H locs cells slots Q (F0 m (pc + 3) ls (v :: rest))) : W p l e R s m args below meth c H locs cells slots Q (F0 m pc ls (.ref a :: rest)) := va_get (C := RX4) (T := TX4) (N := 11) (ci := 5) hx hb hts inX4 hown hK hP q0 he rfl 2 (by decide) (hts _ t239) (fun _ h => h) hv hdg kk
theorem dX4_clear_80 : decode cX4_clear 80 = .ok (.iload_n 1, 1) := by decide +kernel
theorem dX4_clear_81 : decode cX4_clear 81 = .ok (.iconst 0, 1) := by decide +kernel
theorem dX4_clear_82 : decode cX4_clear 82 = .ok (.iastore, 1) := by decide +kernel
theorem dX4_clear_83 : decode cX4_clear 83 = .ok (.iinc 1 1, 3) := by decide +kernel
theorem dX4_clear_86 : decode cX4_clear 86 = .ok (.goto (-16), 3) := by decide +kernel
theorem dX4_clear_55 : decode cX4_clear 55 = .ok (.aload_n 0, 1) := by decide +kernel
theorem dX4_clear_56 : decode cX4_clear 56 = .ok (.getfield 15, 3) := by decide +kernel
theorem t233 : Cond.fieldLink RX4 15 "LikenessPound$Life" "did" "[I" ∈ GW := gw_mem 347 (by decide +kernel) (by decide +kernel)
theorem gf_X4_15 {p : Program} {l : Launch} {e : Env} {R : Room} {s : State} {m : MethodId} {args : Array Value} {below : List Frame} {meth : Method} {c : Code} {H : Heap} {locs : List Loc} {cells slots : Nat} {Q : State → Prop} {cc : ByteArray} {pc : Nat} {ls : Array Slot} {rest : List Value} {D : va_G} {a : Nat} {tys : List (ClassId × FieldType)} {ws : va_W} (hx : p.tables.exec = Jvm.exec) (hb : c.code = cc) (hts : ∀ w ∈ GW, w.before args s = true) (hown : s.vm.findClass RX4 = some m.cls) (hK : va_K D vwCl tys s) (hP : va_P D vwCl ws H) (q0 : Nat) {fs : List Value} (he : ws[q0]? = some (a, .inr (5, fs))) {v : Value} (hv : fs[1]? = some v) (hdg : decode cc pc = .ok (.getfield 15, 3)) (kk : W p l e R s m args below meth c H locs cells slots Q (F0 m (pc + 3) ls (v :: rest))) : W p l e R s m args below meth c H locs cells slots Q (F0 m pc ls (.ref a :: rest)) := va_get (C := RX4) (T := TX4) (N := 11) (ci := 5) hx hb hts inX4 hown hK hP q0 he rfl 1 (by decide) (hts _ t233) (fun _ h => h) hv hdg kk
theorem dX4_clear_59 : decode cX4_clear 59 = .ok (.iload_n 1, 1) := by decide +kernel
theorem dX4_clear_60 : decode cX4_clear 60 = .ok (.iconst 0, 1) := by decide +kernel
theorem dX4_clear_61 : decode cX4_clear 61 = .ok (.iastore, 1) := by decide +kernel
theorem dX4_clear_62 : decode cX4_clear 62 = .ok (.iinc 1 1, 3) := by decide +kernel
theorem dX4_clear_65 : decode cX4_clear 65 = .ok (.goto (-16), 3) := by decide +kernel
theorem dX4_clear_13 : decode cX4_clear 13 = .ok (.aload_n 0, 1) := by decide +kernel
theorem dX4_clear_14 : decode cX4_clear 14 = .ok (.getfield 9, 3) := by decide +kernel
theorem t228 : Cond.fieldLink RX4 9 "LikenessPound$Life" "age" "[I" ∈ GW := gw_mem 342 (by decide +kernel) (by decide +kernel)
theorem gf_X4_9 {p : Program} {l : Launch} {e : Env} {R : Room} {s : State} {m : MethodId} {args : Array Value} {below : List Frame} {meth : Method} {c : Code} {H : Heap} {locs : List Loc} {cells slots : Nat} {Q : State → Prop} {cc : ByteArray} {pc : Nat} {ls : Array Slot} {rest : List Value} {D : va_G} {a : Nat} {tys : List (ClassId × FieldType)} {ws : va_W} (hx : p.tables.exec = Jvm.exec) (hb : c.code = cc) (hts : ∀ w ∈ GW, w.before args s = true) (hown : s.vm.findClass RX4 = some m.cls) (hK : va_K D vwCl tys s) (hP : va_P D vwCl ws H) (q0 : Nat) {fs : List Value} (he : ws[q0]? = some (a, .inr (5, fs))) {v : Value} (hv : fs[0]? = some v) (hdg : decode cc pc = .ok (.getfield 9, 3)) (kk : W p l e R s m args below meth c H locs cells slots Q (F0 m (pc + 3) ls (v :: rest))) : W p l e R s m args below meth c H locs cells slots Q (F0 m pc ls (.ref a :: rest)) := va_get (C := RX4) (T := TX4) (N := 11) (ci := 5) hx hb hts inX4 hown hK hP q0 he rfl 0 (by decide) (hts _ t228) (fun _ h => h) hv hdg kk
theorem dX4_clear_17 : decode cX4_clear 17 = .ok (.iload_n 1, 1) := by decide +kernel
theorem dX4_clear_18 : decode cX4_clear 18 = .ok (.iconst 0, 1) := by decide +kernel
theorem dX4_clear_19 : decode cX4_clear 19 = .ok (.iastore, 1) := by decide +kernel
theorem dX4_clear_20 : decode cX4_clear 20 = .ok (.aload_n 0, 1) := by decide +kernel
theorem dX4_clear_21 : decode cX4_clear 21 = .ok (.getfield 21, 3) := by decide +kernel
theorem t242 : Cond.fieldLink RX4 21 "LikenessPound$Life" "lentTo" "[I" ∈ GW := gw_mem 356 (by decide +kernel) (by decide +kernel)
theorem gf_X4_21 {p : Program} {l : Launch} {e : Env} {R : Room} {s : State} {m : MethodId} {args : Array Value} {below : List Frame} {meth : Method} {c : Code} {H : Heap} {locs : List Loc} {cells slots : Nat} {Q : State → Prop} {cc : ByteArray} {pc : Nat} {ls : Array Slot} {rest : List Value} {D : va_G} {a : Nat} {tys : List (ClassId × FieldType)} {ws : va_W} (hx : p.tables.exec = Jvm.exec) (hb : c.code = cc) (hts : ∀ w ∈ GW, w.before args s = true) (hown : s.vm.findClass RX4 = some m.cls) (hK : va_K D vwCl tys s) (hP : va_P D vwCl ws H) (q0 : Nat) {fs : List Value} (he : ws[q0]? = some (a, .inr (5, fs))) {v : Value} (hv : fs[3]? = some v) (hdg : decode cc pc = .ok (.getfield 21, 3)) (kk : W p l e R s m args below meth c H locs cells slots Q (F0 m (pc + 3) ls (v :: rest))) : W p l e R s m args below meth c H locs cells slots Q (F0 m pc ls (.ref a :: rest)) := va_get (C := RX4) (T := TX4) (N := 11) (ci := 5) hx hb hts inX4 hown hK hP q0 he rfl 3 (by decide) (hts _ t242) (fun _ h => h) hv hdg kk
theorem dX4_clear_24 : decode cX4_clear 24 = .ok (.iload_n 1, 1) := by decide +kernel
theorem dX4_clear_25 : decode cX4_clear 25 = .ok (.iconst (-1), 1) := by decide +kernel
theorem dX4_clear_26 : decode cX4_clear 26 = .ok (.iastore, 1) := by decide +kernel
theorem dX4_clear_27 : decode cX4_clear 27 = .ok (.aload_n 0, 1) := by decide +kernel
theorem dX4_clear_28 : decode cX4_clear 28 = .ok (.getfield 24, 3) := by decide +kernel
theorem t247 : Cond.fieldLink RX4 24 "LikenessPound$Life" "lentDeed" "[I" ∈ GW := gw_mem 361 (by decide +kernel) (by decide +kernel)
theorem gf_X4_24 {p : Program} {l : Launch} {e : Env} {R : Room} {s : State} {m : MethodId} {args : Array Value} {below : List Frame} {meth : Method} {c : Code} {H : Heap} {locs : List Loc} {cells slots : Nat} {Q : State → Prop} {cc : ByteArray} {pc : Nat} {ls : Array Slot} {rest : List Value} {D : va_G} {a : Nat} {tys : List (ClassId × FieldType)} {ws : va_W} (hx : p.tables.exec = Jvm.exec) (hb : c.code = cc) (hts : ∀ w ∈ GW, w.before args s = true) (hown : s.vm.findClass RX4 = some m.cls) (hK : va_K D vwCl tys s) (hP : va_P D vwCl ws H) (q0 : Nat) {fs : List Value} (he : ws[q0]? = some (a, .inr (5, fs))) {v : Value} (hv : fs[4]? = some v) (hdg : decode cc pc = .ok (.getfield 24, 3)) (kk : W p l e R s m args below meth c H locs cells slots Q (F0 m (pc + 3) ls (v :: rest))) : W p l e R s m args below meth c H locs cells slots Q (F0 m pc ls (.ref a :: rest)) := va_get (C := RX4) (T := TX4) (N := 11) (ci := 5) hx hb hts inX4 hown hK hP q0 he rfl 4 (by decide) (hts _ t247) (fun _ h => h) hv hdg kk
theorem dX4_clear_31 : decode cX4_clear 31 = .ok (.iload_n 1, 1) := by decide +kernel
theorem dX4_clear_32 : decode cX4_clear 32 = .ok (.iconst (-1), 1) := by decide +kernel
theorem dX4_clear_33 : decode cX4_clear 33 = .ok (.iastore, 1) := by decide +kernel
theorem dX4_clear_34 : decode cX4_clear 34 = .ok (.aload_n 0, 1) := by decide +kernel
theorem dX4_clear_35 : decode cX4_clear 35 = .ok (.getfield 27, 3) := by decide +kernel
theorem t250 : Cond.fieldLink RX4 27 "LikenessPound$Life" "sat" "[I" ∈ GW := gw_mem 364 (by decide +kernel) (by decide +kernel)
theorem gf_X4_27 {p : Program} {l : Launch} {e : Env} {R : Room} {s : State} {m : MethodId} {args : Array Value} {below : List Frame} {meth : Method} {c : Code} {H : Heap} {locs : List Loc} {cells slots : Nat} {Q : State → Prop} {cc : ByteArray} {pc : Nat} {ls : Array Slot} {rest : List Value} {D : va_G} {a : Nat} {tys : List (ClassId × FieldType)} {ws : va_W} (hx : p.tables.exec = Jvm.exec) (hb : c.code = cc) (hts : ∀ w ∈ GW, w.before args s = true) (hown : s.vm.findClass RX4 = some m.cls) (hK : va_K D vwCl tys s) (hP : va_P D vwCl ws H) (q0 : Nat) {fs : List Value} (he : ws[q0]? = some (a, .inr (5, fs))) {v : Value} (hv : fs[5]? = some v) (hdg : decode cc pc = .ok (.getfield 27, 3)) (kk : W p l e R s m args below meth c H locs cells slots Q (F0 m (pc + 3) ls (v :: rest))) : W p l e R s m args below meth c H locs cells slots Q (F0 m pc ls (.ref a :: rest)) := va_get (C := RX4) (T := TX4) (N := 11) (ci := 5) hx hb hts inX4 hown hK hP q0 he rfl 5 (by decide) (hts _ t250) (fun _ h => h) hv hdg kk
theorem dX4_clear_38 : decode cX4_clear 38 = .ok (.iload_n 1, 1) := by decide +kernel
theorem dX4_clear_39 : decode cX4_clear 39 = .ok (.iconst 0, 1) := by decide +kernel
theorem dX4_clear_40 : decode cX4_clear 40 = .ok (.iastore, 1) := by decide +kernel
theorem dX4_clear_41 : decode cX4_clear 41 = .ok (.iinc 1 1, 3) := by decide +kernel
theorem dX4_clear_44 : decode cX4_clear 44 = .ok (.goto (-37), 3) := by decide +kernel
set_option maxHeartbeats 4000000 in
set_option maxRecDepth 100000 in
theorem t_Life_clear (l : Launch) (dC : Nat → ClassId) (dI : Nat → Nat → Nat) (cy : Nat → ClassId) (sz : Nat) (vl : Nat) (vl1 : Nat) (vl2 : Nat) (vl3 : Nat) (vl4 : Nat) (vl5 : Nat) (vl6 : Nat) (vl7 : Nat) (vl8 : Nat) (vl9 : Nat) (vl10 : Nat) (vly : Int32) (vlf1 : Nat → Int32) (vlf2 : Nat → Int32) (vlf3 : Nat → Int32) (vlf4 : Nat → Int32) (vlf5 : Nat → Int32) (vlf6 : Nat → Int32) (p_vlf2 : Rg vlf2 70 0 9) (p_vlf5 : Rg vlf5 7 (-1) 9) : Met l yX4_clear (wl yX4_clear cX4_clear 2 none) ({ frames := 0, cells := 0, slots := 0, locals := 0 }) (Pw (dC, dI) vwCl cy [(vl, .inr (5, [.ref vl1, .ref vl2, .ref vl3, .ref vl4, .ref vl5, .ref vl6, .ref vl7, .ref vl8, .ref vl9, .ref vl10, .int vly])), (vl1, .inl (cy 0, 7, .inl vlf1)), (vl2, .inl (cy 0, 70, .inl vlf2)), (vl3, .inl (cy 0, 49, .inl vlf3)), (vl4, .inl (cy 0, 7, .inl vlf4)), (vl5, .inl (cy 0, 7, .inl vlf5)), (vl6, .inl (cy 0, 7, .inl vlf6))] sz [.ref vl] nE) (Qv (dC, dI) vwCl (fun (u : Int32 × (Nat → Int32) × (Nat → Int32) × (Nat → Int32) × (Nat → Int32) × (Nat → Int32) × (Nat → Int32)) => (Rg u.2.2.1 70 0 9) ∧ (Rg u.2.2.2.2.2.1 7 (-1) 9) ∧ (tkZ u.2.2.1 70) ∧ (tkZ u.2.2.2.1 49)) (O_t_Life_clear cy vl vl1 vl2 vl3 vl4 vl5 vl6 vl7 vl8 vl9 vl10 vly vlf1 vlf2 vlf3 vlf4 vlf5 vlf6) (va_A [(vl, .inr (5, [.ref vl1, .ref vl2, .ref vl3, .ref vl4, .ref vl5, .ref vl6, .ref vl7, .ref vl8, .ref vl9, .ref vl10, .int vly])), (vl1, .inl (cy 0, 7, .inl vlf1)), (vl2, .inl (cy 0, 70, .inl vlf2)), (vl3, .inl (cy 0, 49, .inl vlf3)), (vl4, .inl (cy 0, 7, .inl vlf4)), (vl5, .inl (cy 0, 7, .inl vlf5)), (vl6, .inl (cy 0, 7, .inl vlf6))] sz)) 0 0 (va_A [(vl, .inr (5, [.ref vl1, .ref vl2, .ref vl3, .ref vl4, .ref vl5, .ref vl6, .ref vl7, .ref vl8, .ref vl9, .ref vl10, .int vly])), (vl1, .inl (cy 0, 7, .inl vlf1)), (vl2, .inl (cy 0, 70, .inl vlf2)), (vl3, .inl (cy 0, 49, .inl vlf3)), (vl4, .inl (cy 0, 7, .inl vlf4)), (vl5, .inl (cy 0, 7, .inl vlf5)), (vl6, .inl (cy 0, 7, .inl vlf6))] sz) := by
  refine mw (Qc := Qv (dC, dI) vwCl (fun (u : Int32 × (Nat → Int32) × (Nat → Int32) × (Nat → Int32) × (Nat → Int32) × (Nat → Int32) × (Nat → Int32)) => (Rg u.2.2.1 70 0 9) ∧ (Rg u.2.2.2.2.2.1 7 (-1) 9) ∧ (tkZ u.2.2.1 70) ∧ (tkZ u.2.2.2.1 49)) (O_t_Life_clear cy vl vl1 vl2 vl3 vl4 vl5 vl6 vl7 vl8 vl9 vl10 vly vlf1 vlf2 vlf3 vlf4 vlf5 vlf6)) RX4 rfl (by decide +kernel) (Nat.le_of_ble_eq_true rfl) ?_
  intro p e s m below meth c A hx hb hr hlocks av9 hav hts hown hnm hml hK hP hD hA hS hE hAe Q9 hQ9 ls hl
  have hl : lv_has ls 2 [(0, .ref vl)] := hl
  refine lv_aload_n hx hb dX4_clear_0 rfl (lv_at hl 0 rfl) ?_
  refine lv_iconst (v := 0) hx hb dX4_clear_1 (by decide) ?_
  refine pf_X4_45 hx hb hts hown hK hP hD hS 0 rfl rfl rfl (Nat.le_of_ble_eq_true rfl) dX4_clear_2 (fun H locs hP hD hS => ?_)
  have hP : va_P (dC, dI) vwCl [(vl, .inr (5, [.ref vl1, .ref vl2, .ref vl3, .ref vl4, .ref vl5, .ref vl6, .ref vl7, .ref vl8, .ref vl9, .ref vl10, .int 0])), (vl1, .inl (cy 0, 7, .inl vlf1)), (vl2, .inl (cy 0, 70, .inl vlf2)), (vl3, .inl (cy 0, 49, .inl vlf3)), (vl4, .inl (cy 0, 7, .inl vlf4)), (vl5, .inl (cy 0, 7, .inl vlf5)), (vl6, .inl (cy 0, 7, .inl vlf6))] H := hP
  have hD : va_D A [(vl, .inr (5, [.ref vl1, .ref vl2, .ref vl3, .ref vl4, .ref vl5, .ref vl6, .ref vl7, .ref vl8, .ref vl9, .ref vl10, .int 0])), (vl1, .inl (cy 0, 7, .inl vlf1)), (vl2, .inl (cy 0, 70, .inl vlf2)), (vl3, .inl (cy 0, 49, .inl vlf3)), (vl4, .inl (cy 0, 7, .inl vlf4)), (vl5, .inl (cy 0, 7, .inl vlf5)), (vl6, .inl (cy 0, 7, .inl vlf6))] := hD
  refine lv_iconst (v := 0) hx hb dX4_clear_5 (by decide) ?_
  refine lv_istore_n (lv' := [(1, .int 0), (0, .ref vl)]) hx hb dX4_clear_6 rfl hl (by decide) rfl (fun ls hl => ?_)
  have loop1 : ∀ (n1 : Nat) (x_2 : Int32) (g_3 : Nat → Int32) (g_4 : Nat → Int32) (g_5 : Nat → Int32) (g_6 : Nat → Int32), (0 ≤ x_2.toInt ∧ x_2.toInt ≤ 7) → Rg g_5 7 (-1) 9 → 7 - x_2.toInt < (n1 : Int) → ∀ (H : Heap) (locs : List Loc), va_P (dC, dI) vwCl [(vl, .inr (5, [.ref vl1, .ref vl2, .ref vl3, .ref vl4, .ref vl5, .ref vl6, .ref vl7, .ref vl8, .ref vl9, .ref vl10, .int 0])), (vl1, .inl (cy 0, 7, .inl g_3)), (vl2, .inl (cy 0, 70, .inl vlf2)), (vl3, .inl (cy 0, 49, .inl vlf3)), (vl4, .inl (cy 0, 7, .inl g_4)), (vl5, .inl (cy 0, 7, .inl g_5)), (vl6, .inl (cy 0, 7, .inl g_6))] H → va_D A [(vl, .inr (5, [.ref vl1, .ref vl2, .ref vl3, .ref vl4, .ref vl5, .ref vl6, .ref vl7, .ref vl8, .ref vl9, .ref vl10, .int 0])), (vl1, .inl (cy 0, 7, .inl g_3)), (vl2, .inl (cy 0, 70, .inl vlf2)), (vl3, .inl (cy 0, 49, .inl vlf3)), (vl4, .inl (cy 0, 7, .inl g_4)), (vl5, .inl (cy 0, 7, .inl g_5)), (vl6, .inl (cy 0, 7, .inl g_6))] → va_S A s.heap H locs → ∀ ls : Array Slot, lv_has ls 2 [(1, .int x_2), (0, .ref vl)] → W p l e ({ frames := 0, cells := 0, slots := 0, locals := 0 }) s m av9 below meth c H locs 0 0 Q9 (F0 m 7 ls []) := by
    intro n1
    induction n1 with
    | zero =>
      intro x_2 g_3 g_4 g_5 g_6 bx_2 p_g_5 hn1 H locs hP hD hS ls hl
      exfalso; omega
    | succ n1 ih1 =>
      intro x_2 g_3 g_4 g_5 g_6 bx_2 p_g_5 hn1 H locs hP hD hS ls hl
      refine lv_iload_n hx hb dX4_clear_7 rfl (lv_at hl 0 rfl) ?_
      refine lv_bipush (v := 7) hx hb dX4_clear_8 (by decide) ?_
      have k_7 : (7 : Int32).toInt = 7 := by decide
      refine lv_icmp_ge (tgt := 47) hx hb dX4_clear_10 (by decide) (fun c_7 => ?_) (fun c_7 => ?_)
      · skip
        have c_7 : (7 : Int32).toInt ≤ x_2.toInt := i_le.mp c_7
        refine lv_iconst (v := 0) hx hb dX4_clear_47 (by decide) ?_
        refine lv_istore_n (lv' := [(1, .int 0), (0, .ref vl)]) hx hb dX4_clear_48 rfl hl (by decide) rfl (fun ls hl => ?_)
        have loop8 : ∀ (n8 : Nat) (x_9 : Int32) (g_10 : Nat → Int32), (0 ≤ x_9.toInt ∧ x_9.toInt ≤ 70) → Rg g_10 70 0 9 → (tkZ g_10 x_9.toInt) → 70 - x_9.toInt < (n8 : Int) → ∀ (H : Heap) (locs : List Loc), va_P (dC, dI) vwCl [(vl, .inr (5, [.ref vl1, .ref vl2, .ref vl3, .ref vl4, .ref vl5, .ref vl6, .ref vl7, .ref vl8, .ref vl9, .ref vl10, .int 0])), (vl1, .inl (cy 0, 7, .inl g_3)), (vl2, .inl (cy 0, 70, .inl g_10)), (vl3, .inl (cy 0, 49, .inl vlf3)), (vl4, .inl (cy 0, 7, .inl g_4)), (vl5, .inl (cy 0, 7, .inl g_5)), (vl6, .inl (cy 0, 7, .inl g_6))] H → va_D A [(vl, .inr (5, [.ref vl1, .ref vl2, .ref vl3, .ref vl4, .ref vl5, .ref vl6, .ref vl7, .ref vl8, .ref vl9, .ref vl10, .int 0])), (vl1, .inl (cy 0, 7, .inl g_3)), (vl2, .inl (cy 0, 70, .inl g_10)), (vl3, .inl (cy 0, 49, .inl vlf3)), (vl4, .inl (cy 0, 7, .inl g_4)), (vl5, .inl (cy 0, 7, .inl g_5)), (vl6, .inl (cy 0, 7, .inl g_6))] → va_S A s.heap H locs → ∀ ls : Array Slot, lv_has ls 2 [(1, .int x_9), (0, .ref vl)] → W p l e ({ frames := 0, cells := 0, slots := 0, locals := 0 }) s m av9 below meth c H locs 0 0 Q9 (F0 m 49 ls []) := by
          intro n8
          induction n8 with
          | zero =>
            intro x_9 g_10 bx_9 p_g_10 v8_0 hn8 H locs hP hD hS ls hl
            exfalso; omega
          | succ n8 ih8 =>
            intro x_9 g_10 bx_9 p_g_10 v8_0 hn8 H locs hP hD hS ls hl
            refine lv_iload_n hx hb dX4_clear_49 rfl (lv_at hl 0 rfl) ?_
            refine lv_bipush (v := 70) hx hb dX4_clear_50 (by decide) ?_
            have k_70 : (70 : Int32).toInt = 70 := by decide
            refine lv_icmp_ge (tgt := 68) hx hb dX4_clear_52 (by decide) (fun c_11 => ?_) (fun c_11 => ?_)
            · skip
              have c_11 : (70 : Int32).toInt ≤ x_9.toInt := i_le.mp c_11
              have hz2 : tkZ g_10 70 := fun j hj => v8_0 j (by omega)
              refine lv_iconst (v := 0) hx hb dX4_clear_68 (by decide) ?_
              refine lv_istore_n (lv' := [(1, .int 0), (0, .ref vl)]) hx hb dX4_clear_69 rfl hl (by decide) rfl (fun ls hl => ?_)
              have loop12 : ∀ (n12 : Nat) (x_13 : Int32) (g_14 : Nat → Int32), (0 ≤ x_13.toInt ∧ x_13.toInt ≤ 49) → (tkZ g_14 x_13.toInt) → 49 - x_13.toInt < (n12 : Int) → ∀ (H : Heap) (locs : List Loc), va_P (dC, dI) vwCl [(vl, .inr (5, [.ref vl1, .ref vl2, .ref vl3, .ref vl4, .ref vl5, .ref vl6, .ref vl7, .ref vl8, .ref vl9, .ref vl10, .int 0])), (vl1, .inl (cy 0, 7, .inl g_3)), (vl2, .inl (cy 0, 70, .inl g_10)), (vl3, .inl (cy 0, 49, .inl g_14)), (vl4, .inl (cy 0, 7, .inl g_4)), (vl5, .inl (cy 0, 7, .inl g_5)), (vl6, .inl (cy 0, 7, .inl g_6))] H → va_D A [(vl, .inr (5, [.ref vl1, .ref vl2, .ref vl3, .ref vl4, .ref vl5, .ref vl6, .ref vl7, .ref vl8, .ref vl9, .ref vl10, .int 0])), (vl1, .inl (cy 0, 7, .inl g_3)), (vl2, .inl (cy 0, 70, .inl g_10)), (vl3, .inl (cy 0, 49, .inl g_14)), (vl4, .inl (cy 0, 7, .inl g_4)), (vl5, .inl (cy 0, 7, .inl g_5)), (vl6, .inl (cy 0, 7, .inl g_6))] → va_S A s.heap H locs → ∀ ls : Array Slot, lv_has ls 2 [(1, .int x_13), (0, .ref vl)] → W p l e ({ frames := 0, cells := 0, slots := 0, locals := 0 }) s m av9 below meth c H locs 0 0 Q9 (F0 m 70 ls []) := by
                intro n12
                induction n12 with
                | zero =>
                  intro x_13 g_14 bx_13 v12_0 hn12 H locs hP hD hS ls hl
                  exfalso; omega
                | succ n12 ih12 =>
                  intro x_13 g_14 bx_13 v12_0 hn12 H locs hP hD hS ls hl
                  refine lv_iload_n hx hb dX4_clear_70 rfl (lv_at hl 0 rfl) ?_
                  refine lv_bipush (v := 49) hx hb dX4_clear_71 (by decide) ?_
                  have k_49 : (49 : Int32).toInt = 49 := by decide
                  refine lv_icmp_ge (tgt := 89) hx hb dX4_clear_73 (by decide) (fun c_15 => ?_) (fun c_15 => ?_)
                  · skip
                    have c_15 : (49 : Int32).toInt ≤ x_13.toInt := i_le.mp c_15
                    have k_0 : (0 : Int32).toInt = 0 := by decide
                    rw [hQ9]
                    exact re_v ((0 : Int32), g_3, g_10, g_14, g_4, g_5, g_6) hx hb hr hlocks ⟨(show Rg g_10 70 0 9 from p_g_10), (show Rg g_5 7 (-1) 9 from p_g_5), (show tkZ g_10 70 from hz2), (show tkZ g_14 49 from (fun j hj => v12_0 j (by omega)))⟩ (hP.sub [0, 1, 2, 3, 4, 5, 6] rfl) (hD.sub [0, 1, 2, 3, 4, 5, 6] rfl rfl) hS dX4_clear_89
                  · skip
                    have c_15 : ¬ ((49 : Int32).toInt ≤ x_13.toInt) := fun h9 => c_15 (i_le.mpr h9)
                    refine lv_aload_n hx hb dX4_clear_76 rfl (lv_at hl 1 rfl) ?_
                    refine gf_X4_18 hx hb hts hown hK hP 0 rfl rfl dX4_clear_77 ?_
                    refine lv_iload_n hx hb dX4_clear_80 rfl (lv_at hl 0 rfl) ?_
                    refine lv_iconst (v := 0) hx hb dX4_clear_81 (by decide) ?_
                    have hin_16 : vp_in x_13 49 := vp_in_iff.mpr ⟨by omega, by omega⟩
                    refine va_iast hx hb hK hP hD hS 3 0 rfl rfl hin_16 dX4_clear_82 (fun H locs hP hD hS => ?_)
                    obtain ⟨f_17, ef_17⟩ : ∃ z : Nat → Int32, z = upd g_14 (Int32.toNatClampNeg x_13) 0 := ⟨_, rfl⟩
                    have hP : va_P (dC, dI) vwCl [(vl, .inr (5, [.ref vl1, .ref vl2, .ref vl3, .ref vl4, .ref vl5, .ref vl6, .ref vl7, .ref vl8, .ref vl9, .ref vl10, .int 0])), (vl1, .inl (cy 0, 7, .inl g_3)), (vl2, .inl (cy 0, 70, .inl g_10)), (vl3, .inl (cy 0, 49, .inl f_17)), (vl4, .inl (cy 0, 7, .inl g_4)), (vl5, .inl (cy 0, 7, .inl g_5)), (vl6, .inl (cy 0, 7, .inl g_6))] H := by rw [ef_17]; exact hP
                    have hD : va_D A [(vl, .inr (5, [.ref vl1, .ref vl2, .ref vl3, .ref vl4, .ref vl5, .ref vl6, .ref vl7, .ref vl8, .ref vl9, .ref vl10, .int 0])), (vl1, .inl (cy 0, 7, .inl g_3)), (vl2, .inl (cy 0, 70, .inl g_10)), (vl3, .inl (cy 0, 49, .inl f_17)), (vl4, .inl (cy 0, 7, .inl g_4)), (vl5, .inl (cy 0, 7, .inl g_5)), (vl6, .inl (cy 0, 7, .inl g_6))] := by rw [ef_17]; exact hD
                    obtain ⟨z_18, ez_18⟩ : ∃ z : Int32, z = x_13 + 1 := ⟨_, rfl⟩
                    have k_1 : (1 : Int32).toInt = 1 := by decide
                    have bz_18 : z_18.toInt = x_13.toInt + (1 : Int32).toInt := i_add ez_18 (by omega) (by omega)
                    refine lv_iinc (v := z_18) (lv' := [(1, .int z_18), (0, .ref vl)]) hx hb dX4_clear_83 hl (k := 0) rfl ez_18.symm (by decide) rfl (fun ls hl => ?_)
                    refine lv_goto (tgt := 70) hx hb dX4_clear_86 (by decide) ?_
                    exact ih12 z_18 f_17 ⟨by omega, by omega⟩ (tkZ_s v12_0 (by omega) (by omega) rfl ef_17) (by omega) _ _ (hP.sub [0, 1, 2, 3, 4, 5, 6] rfl) (hD.sub [0, 1, 2, 3, 4, 5, 6] rfl rfl) hS ls (lv_sub hl [0, 1] rfl)
              have k_0 : (0 : Int32).toInt = 0 := by decide
              exact loop12 ((49 - (0 : Int32).toInt).toNat + 1) 0 vlf3 ⟨by omega, by omega⟩ (tkZ_0 (by omega)) (by omega) _ _ hP hD hS ls (lv_sub hl [0, 1] rfl)
            · skip
              have c_11 : ¬ ((70 : Int32).toInt ≤ x_9.toInt) := fun h9 => c_11 (i_le.mpr h9)
              refine lv_aload_n hx hb dX4_clear_55 rfl (lv_at hl 1 rfl) ?_
              refine gf_X4_15 hx hb hts hown hK hP 0 rfl rfl dX4_clear_56 ?_
              refine lv_iload_n hx hb dX4_clear_59 rfl (lv_at hl 0 rfl) ?_
              refine lv_iconst (v := 0) hx hb dX4_clear_60 (by decide) ?_
              have hin_19 : vp_in x_9 70 := vp_in_iff.mpr ⟨by omega, by omega⟩
              refine va_iast hx hb hK hP hD hS 2 0 rfl rfl hin_19 dX4_clear_61 (fun H locs hP hD hS => ?_)
              obtain ⟨f_20, ef_20⟩ : ∃ z : Nat → Int32, z = upd g_10 (Int32.toNatClampNeg x_9) 0 := ⟨_, rfl⟩
              have hP : va_P (dC, dI) vwCl [(vl, .inr (5, [.ref vl1, .ref vl2, .ref vl3, .ref vl4, .ref vl5, .ref vl6, .ref vl7, .ref vl8, .ref vl9, .ref vl10, .int 0])), (vl1, .inl (cy 0, 7, .inl g_3)), (vl2, .inl (cy 0, 70, .inl f_20)), (vl3, .inl (cy 0, 49, .inl vlf3)), (vl4, .inl (cy 0, 7, .inl g_4)), (vl5, .inl (cy 0, 7, .inl g_5)), (vl6, .inl (cy 0, 7, .inl g_6))] H := by rw [ef_20]; exact hP
              have hD : va_D A [(vl, .inr (5, [.ref vl1, .ref vl2, .ref vl3, .ref vl4, .ref vl5, .ref vl6, .ref vl7, .ref vl8, .ref vl9, .ref vl10, .int 0])), (vl1, .inl (cy 0, 7, .inl g_3)), (vl2, .inl (cy 0, 70, .inl f_20)), (vl3, .inl (cy 0, 49, .inl vlf3)), (vl4, .inl (cy 0, 7, .inl g_4)), (vl5, .inl (cy 0, 7, .inl g_5)), (vl6, .inl (cy 0, 7, .inl g_6))] := by rw [ef_20]; exact hD
              have k_0 : (0 : Int32).toInt = 0 := by decide
              have p_f_20 : Rg f_20 70 0 9 := by rw [ef_20]; exact p_g_10.upd ⟨by omega, by omega⟩
              obtain ⟨z_21, ez_21⟩ : ∃ z : Int32, z = x_9 + 1 := ⟨_, rfl⟩
              have k_1 : (1 : Int32).toInt = 1 := by decide
              have bz_21 : z_21.toInt = x_9.toInt + (1 : Int32).toInt := i_add ez_21 (by omega) (by omega)
              refine lv_iinc (v := z_21) (lv' := [(1, .int z_21), (0, .ref vl)]) hx hb dX4_clear_62 hl (k := 0) rfl ez_21.symm (by decide) rfl (fun ls hl => ?_)
              refine lv_goto (tgt := 49) hx hb dX4_clear_65 (by decide) ?_
              exact ih8 z_21 f_20 ⟨by omega, by omega⟩ p_f_20 (tkZ_s v8_0 (by omega) (by omega) rfl ef_20) (by omega) _ _ (hP.sub [0, 1, 2, 3, 4, 5, 6] rfl) (hD.sub [0, 1, 2, 3, 4, 5, 6] rfl rfl) hS ls (lv_sub hl [0, 1] rfl)
        have k_0 : (0 : Int32).toInt = 0 := by decide
        exact loop8 ((70 - (0 : Int32).toInt).toNat + 1) 0 vlf2 ⟨by omega, by omega⟩ p_vlf2 (tkZ_0 (by omega)) (by omega) _ _ hP hD hS ls (lv_sub hl [0, 1] rfl)
      · skip
        have c_7 : ¬ ((7 : Int32).toInt ≤ x_2.toInt) := fun h9 => c_7 (i_le.mpr h9)
        refine lv_aload_n hx hb dX4_clear_13 rfl (lv_at hl 1 rfl) ?_
        refine gf_X4_9 hx hb hts hown hK hP 0 rfl rfl dX4_clear_14 ?_
        refine lv_iload_n hx hb dX4_clear_17 rfl (lv_at hl 0 rfl) ?_
        refine lv_iconst (v := 0) hx hb dX4_clear_18 (by decide) ?_
        have hin_22 : vp_in x_2 7 := vp_in_iff.mpr ⟨by omega, by omega⟩
        refine va_iast hx hb hK hP hD hS 1 0 rfl rfl hin_22 dX4_clear_19 (fun H locs hP hD hS => ?_)
        obtain ⟨f_23, ef_23⟩ : ∃ z : Nat → Int32, z = upd g_3 (Int32.toNatClampNeg x_2) 0 := ⟨_, rfl⟩
        have hP : va_P (dC, dI) vwCl [(vl, .inr (5, [.ref vl1, .ref vl2, .ref vl3, .ref vl4, .ref vl5, .ref vl6, .ref vl7, .ref vl8, .ref vl9, .ref vl10, .int 0])), (vl1, .inl (cy 0, 7, .inl f_23)), (vl2, .inl (cy 0, 70, .inl vlf2)), (vl3, .inl (cy 0, 49, .inl vlf3)), (vl4, .inl (cy 0, 7, .inl g_4)), (vl5, .inl (cy 0, 7, .inl g_5)), (vl6, .inl (cy 0, 7, .inl g_6))] H := by rw [ef_23]; exact hP
        have hD : va_D A [(vl, .inr (5, [.ref vl1, .ref vl2, .ref vl3, .ref vl4, .ref vl5, .ref vl6, .ref vl7, .ref vl8, .ref vl9, .ref vl10, .int 0])), (vl1, .inl (cy 0, 7, .inl f_23)), (vl2, .inl (cy 0, 70, .inl vlf2)), (vl3, .inl (cy 0, 49, .inl vlf3)), (vl4, .inl (cy 0, 7, .inl g_4)), (vl5, .inl (cy 0, 7, .inl g_5)), (vl6, .inl (cy 0, 7, .inl g_6))] := by rw [ef_23]; exact hD
        refine lv_aload_n hx hb dX4_clear_20 rfl (lv_at hl 1 rfl) ?_
        refine gf_X4_21 hx hb hts hown hK hP 0 rfl rfl dX4_clear_21 ?_
        refine lv_iload_n hx hb dX4_clear_24 rfl (lv_at hl 0 rfl) ?_
        refine lv_iconst (v := (-1)) hx hb dX4_clear_25 (by decide) ?_
        have hin_24 : vp_in x_2 7 := vp_in_iff.mpr ⟨by omega, by omega⟩
        refine va_iast hx hb hK hP hD hS 4 0 rfl rfl hin_24 dX4_clear_26 (fun H locs hP hD hS => ?_)
        obtain ⟨f_25, ef_25⟩ : ∃ z : Nat → Int32, z = upd g_4 (Int32.toNatClampNeg x_2) (-1) := ⟨_, rfl⟩
        have hP : va_P (dC, dI) vwCl [(vl, .inr (5, [.ref vl1, .ref vl2, .ref vl3, .ref vl4, .ref vl5, .ref vl6, .ref vl7, .ref vl8, .ref vl9, .ref vl10, .int 0])), (vl1, .inl (cy 0, 7, .inl f_23)), (vl2, .inl (cy 0, 70, .inl vlf2)), (vl3, .inl (cy 0, 49, .inl vlf3)), (vl4, .inl (cy 0, 7, .inl f_25)), (vl5, .inl (cy 0, 7, .inl g_5)), (vl6, .inl (cy 0, 7, .inl g_6))] H := by rw [ef_25]; exact hP
        have hD : va_D A [(vl, .inr (5, [.ref vl1, .ref vl2, .ref vl3, .ref vl4, .ref vl5, .ref vl6, .ref vl7, .ref vl8, .ref vl9, .ref vl10, .int 0])), (vl1, .inl (cy 0, 7, .inl f_23)), (vl2, .inl (cy 0, 70, .inl vlf2)), (vl3, .inl (cy 0, 49, .inl vlf3)), (vl4, .inl (cy 0, 7, .inl f_25)), (vl5, .inl (cy 0, 7, .inl g_5)), (vl6, .inl (cy 0, 7, .inl g_6))] := by rw [ef_25]; exact hD
        refine lv_aload_n hx hb dX4_clear_27 rfl (lv_at hl 1 rfl) ?_
        refine gf_X4_24 hx hb hts hown hK hP 0 rfl rfl dX4_clear_28 ?_
        refine lv_iload_n hx hb dX4_clear_31 rfl (lv_at hl 0 rfl) ?_
        refine lv_iconst (v := (-1)) hx hb dX4_clear_32 (by decide) ?_
        have hin_26 : vp_in x_2 7 := vp_in_iff.mpr ⟨by omega, by omega⟩
        refine va_iast hx hb hK hP hD hS 5 0 rfl rfl hin_26 dX4_clear_33 (fun H locs hP hD hS => ?_)
        obtain ⟨f_27, ef_27⟩ : ∃ z : Nat → Int32, z = upd g_5 (Int32.toNatClampNeg x_2) (-1) := ⟨_, rfl⟩
        have hP : va_P (dC, dI) vwCl [(vl, .inr (5, [.ref vl1, .ref vl2, .ref vl3, .ref vl4, .ref vl5, .ref vl6, .ref vl7, .ref vl8, .ref vl9, .ref vl10, .int 0])), (vl1, .inl (cy 0, 7, .inl f_23)), (vl2, .inl (cy 0, 70, .inl vlf2)), (vl3, .inl (cy 0, 49, .inl vlf3)), (vl4, .inl (cy 0, 7, .inl f_25)), (vl5, .inl (cy 0, 7, .inl f_27)), (vl6, .inl (cy 0, 7, .inl g_6))] H := by rw [ef_27]; exact hP
        have hD : va_D A [(vl, .inr (5, [.ref vl1, .ref vl2, .ref vl3, .ref vl4, .ref vl5, .ref vl6, .ref vl7, .ref vl8, .ref vl9, .ref vl10, .int 0])), (vl1, .inl (cy 0, 7, .inl f_23)), (vl2, .inl (cy 0, 70, .inl vlf2)), (vl3, .inl (cy 0, 49, .inl vlf3)), (vl4, .inl (cy 0, 7, .inl f_25)), (vl5, .inl (cy 0, 7, .inl f_27)), (vl6, .inl (cy 0, 7, .inl g_6))] := by rw [ef_27]; exact hD
        have k_m1 : ((-1) : Int32).toInt = (-1) := by decide
        have p_f_27 : Rg f_27 7 (-1) 9 := by rw [ef_27]; exact p_g_5.upd ⟨by omega, by omega⟩
        refine lv_aload_n hx hb dX4_clear_34 rfl (lv_at hl 1 rfl) ?_
        refine gf_X4_27 hx hb hts hown hK hP 0 rfl rfl dX4_clear_35 ?_
        refine lv_iload_n hx hb dX4_clear_38 rfl (lv_at hl 0 rfl) ?_
        refine lv_iconst (v := 0) hx hb dX4_clear_39 (by decide) ?_
        have hin_28 : vp_in x_2 7 := vp_in_iff.mpr ⟨by omega, by omega⟩
        refine va_iast hx hb hK hP hD hS 6 0 rfl rfl hin_28 dX4_clear_40 (fun H locs hP hD hS => ?_)
        obtain ⟨f_29, ef_29⟩ : ∃ z : Nat → Int32, z = upd g_6 (Int32.toNatClampNeg x_2) 0 := ⟨_, rfl⟩
        have hP : va_P (dC, dI) vwCl [(vl, .inr (5, [.ref vl1, .ref vl2, .ref vl3, .ref vl4, .ref vl5, .ref vl6, .ref vl7, .ref vl8, .ref vl9, .ref vl10, .int 0])), (vl1, .inl (cy 0, 7, .inl f_23)), (vl2, .inl (cy 0, 70, .inl vlf2)), (vl3, .inl (cy 0, 49, .inl vlf3)), (vl4, .inl (cy 0, 7, .inl f_25)), (vl5, .inl (cy 0, 7, .inl f_27)), (vl6, .inl (cy 0, 7, .inl f_29))] H := by rw [ef_29]; exact hP
        have hD : va_D A [(vl, .inr (5, [.ref vl1, .ref vl2, .ref vl3, .ref vl4, .ref vl5, .ref vl6, .ref vl7, .ref vl8, .ref vl9, .ref vl10, .int 0])), (vl1, .inl (cy 0, 7, .inl f_23)), (vl2, .inl (cy 0, 70, .inl vlf2)), (vl3, .inl (cy 0, 49, .inl vlf3)), (vl4, .inl (cy 0, 7, .inl f_25)), (vl5, .inl (cy 0, 7, .inl f_27)), (vl6, .inl (cy 0, 7, .inl f_29))] := by rw [ef_29]; exact hD
        obtain ⟨z_30, ez_30⟩ : ∃ z : Int32, z = x_2 + 1 := ⟨_, rfl⟩
        have k_1 : (1 : Int32).toInt = 1 := by decide
        have bz_30 : z_30.toInt = x_2.toInt + (1 : Int32).toInt := i_add ez_30 (by omega) (by omega)
        refine lv_iinc (v := z_30) (lv' := [(1, .int z_30), (0, .ref vl)]) hx hb dX4_clear_41 hl (k := 0) rfl ez_30.symm (by decide) rfl (fun ls hl => ?_)
        refine lv_goto (tgt := 7) hx hb dX4_clear_44 (by decide) ?_
        exact ih1 z_30 f_23 f_25 f_27 f_29 ⟨by omega, by omega⟩ p_f_27 (by omega) _ _ (hP.sub [0, 1, 2, 3, 4, 5, 6] rfl) (hD.sub [0, 1, 2, 3, 4, 5, 6] rfl rfl) hS ls (lv_sub hl [0, 1] rfl)
  have k_0 : (0 : Int32).toInt = 0 := by decide
  exact loop1 ((7 - (0 : Int32).toInt).toNat + 1) 0 vlf1 vlf4 vlf5 vlf6 ⟨by omega, by omega⟩ p_vlf5 (by omega) _ _ hP hD hS ls (lv_sub hl [0, 1] rfl)
