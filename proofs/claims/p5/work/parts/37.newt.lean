def tkTw : Nat → Nat
  | 0 => 0
  | i + 1 => if strB.getD i 0 &&& 255 = 32 then tkTw i + 1 else tkTw i
def tkTc : Nat → Nat → Int64
  | 0, _ => 0
  | i + 1, j => if strB.getD i 0 &&& 255 = 32 then tkTc i j else if j = tkTw i then tkTc i j * 32 + Int32.toInt64 ((strB.getD i 0 &&& 255) - 97 + 1) else tkTc i j
def tkTQ (i w : Nat) (g : Nat → Int64) : Prop := w = tkTw i ∧ ∀ j : Nat, j < 29 → g j = tkTc i j
theorem tkTQ_sp {i w : Nat} {g : Nat → Int64} (h : tkTQ i w g) (hc : strB.getD i 0 &&& 255 = 32) : tkTQ (i + 1) (w + 1) g := by
  refine ⟨?_, fun j hj => ?_⟩
  · show w + 1 = if strB.getD i 0 &&& 255 = 32 then tkTw i + 1 else tkTw i
    rw [if_pos hc, h.1]
  · show g j = if strB.getD i 0 &&& 255 = 32 then tkTc i j else _
    rw [if_pos hc]; exact h.2 j hj
theorem tkTQ_let {i w : Nat} {g g1 : Nat → Int64} {v : Int64} (h : tkTQ i w g) (hc : ¬ (strB.getD i 0 &&& 255 = 32)) (e : g1 = vp_updL g w v) (hv : v = g w * 32 + Int32.toInt64 ((strB.getD i 0 &&& 255) - 97 + 1)) (hw : w < 29 := by omega) : tkTQ (i + 1) w g1 := by
  refine ⟨?_, fun j hj => ?_⟩
  · show w = if strB.getD i 0 &&& 255 = 32 then tkTw i + 1 else tkTw i
    rw [if_neg hc]; exact h.1
  · show g1 j = if strB.getD i 0 &&& 255 = 32 then _ else if j = tkTw i then tkTc i j * 32 + Int32.toInt64 ((strB.getD i 0 &&& 255) - 97 + 1) else tkTc i j
    rw [if_neg hc, e]
    by_cases c : j = w
    · rw [c, pk_uLs, hv, if_pos h.1, h.2 w hw]
    · rw [pk_uLn c, if_neg (fun z => c (z.trans h.1.symm))]; exact h.2 j hj
theorem tkTw_lt : ∀ i : Nat, i < 153 → tkTw i < 29 := by decide +kernel
theorem tkTc_all : ∀ j : Nat, j < 29 → tkTc 153 j = tkWT j := by decide +kernel
theorem tkTQ_end {w : Nat} {g : Nat → Int64} (h : tkTQ 153 w g) : tkWC g := fun j hj => (h.2 j hj).trans (tkTc_all j hj)
theorem tkTQ_no {i w : Nat} {g f : Nat → Int64} (h : tkTQ i w g) (hi : i < 153) (hc : w < 29 → False) : tkWC f := (hc (by rw [h.1]; exact tkTw_lt i hi)).elim
abbrev cX8_init : ByteArray := prog_10_method_1_code
def yX8_init : MethodName := ⟨RX8, "<init>", "()V"⟩
theorem t41 : Cond.code yX8_init cX8_init 4 none ∈ GW := gw_mem 155 (by decide +kernel) (by decide +kernel)
abbrev O_n_Tape (cy : Nat → ClassId) (h0 : Nat) (u : Nat × Nat × (Nat → Int64)) : va_W := [(h0, .inr (9, [.ref u.1, .ref u.2.1, .int 0, .int 0, .int 0, .int 0, .int 0, .int 0, .long 0, .int 0, .int 0, .int 0])), (u.1, .inl (cy 0, 940, .inl (fun _ => 0))), (u.2.1, .inl (cy 1, 29, .inr (.inl u.2.2)))]
theorem dX8_init_0 : decode cX8_init 0 = .ok (.aload_n 0, 1) := by decide +kernel
theorem dX8_init_1 : decode cX8_init 1 = .ok (.invokespecial 3, 3) := by decide +kernel
theorem t42 : Cond.methodLink RX8 3 objectInit ∈ GW := gw_mem 156 (by decide +kernel) (by decide +kernel)
theorem dX8_init_4 : decode cX8_init 4 = .ok (.aload_n 0, 1) := by decide +kernel
theorem dX8_init_5 : decode cX8_init 5 = .ok (.sipush 940, 3) := by decide +kernel
theorem dX8_init_8 : decode cX8_init 8 = .ok (.newarray .int, 2) := by decide +kernel
theorem dX8_init_10 : decode cX8_init 10 = .ok (.putfield 9, 3) := by decide +kernel
theorem pf_X8_9 {p : Program} {l : Launch} {e : Env} {R : Room} {s : State} {m : MethodId} {args : Array Value} {below : List Frame} {meth : Method} {c : Code} {H : Heap} {locs : List Loc} {cells slots : Nat} {Q : State → Prop} {cc : ByteArray} {pc : Nat} {ls : Array Slot} {rest : List Value} {D : va_G} {A : Nat → Prop} {a : Nat} {tys : List (ClassId × FieldType)} {ws : va_W} {H0 : Heap} (hx : p.tables.exec = Jvm.exec) (hb : c.code = cc) (hts : ∀ w ∈ GW, w.before args s = true) (hown : s.vm.findClass RX8 = some m.cls) (hin2 : meth.name = "<init>") (hK : va_K D vwCl tys s) (hP : va_P D vwCl ws H) (hD : va_D A ws) (hS0 : va_S A H0 H locs) (q0 : Nat) {fs : List Value} (he : ws[q0]? = some (a, .inr (9, fs))) {v : Value} (hn : narrow (tyX8 0) v = v) (hfit : fits (tyX8 0) v = true) (hl : 0 < fs.length) (hdg : decode cc pc = .ok (.putfield 9, 3)) (kk : ∀ (H1 : Heap) (locs1 : List Loc), va_P D vwCl (ws.set q0 (a, .inr (9, fs.set 0 v))) H1 → va_D A (ws.set q0 (a, .inr (9, fs.set 0 v))) → va_S A H0 H1 locs1 → W p l e R s m args below meth c H1 locs1 cells slots Q (F0 m (pc + 3) ls rest)) : W p l e R s m args below meth c H locs cells slots Q (F0 m pc ls (v :: .ref a :: rest)) := va_putF (C := RX8) (T := TX8) (N := 12) (ci := 9) hx hb hts inX8 tyX8 tkX8 nmX8 hown hK hP hD hS0 q0 he rfl 0 (by decide) (hts _ t93) (fun _ h => h) rfl hin2 rfl (tkX8 0 (by decide)) hn hfit hl hdg kk
theorem dX8_init_13 : decode cX8_init 13 = .ok (.aload_n 0, 1) := by decide +kernel
theorem dX8_init_14 : decode cX8_init 14 = .ok (.bipush 29, 2) := by decide +kernel
theorem dX8_init_16 : decode cX8_init 16 = .ok (.newarray .long, 2) := by decide +kernel
theorem dX8_init_18 : decode cX8_init 18 = .ok (.putfield 15, 3) := by decide +kernel
theorem pf_X8_15 {p : Program} {l : Launch} {e : Env} {R : Room} {s : State} {m : MethodId} {args : Array Value} {below : List Frame} {meth : Method} {c : Code} {H : Heap} {locs : List Loc} {cells slots : Nat} {Q : State → Prop} {cc : ByteArray} {pc : Nat} {ls : Array Slot} {rest : List Value} {D : va_G} {A : Nat → Prop} {a : Nat} {tys : List (ClassId × FieldType)} {ws : va_W} {H0 : Heap} (hx : p.tables.exec = Jvm.exec) (hb : c.code = cc) (hts : ∀ w ∈ GW, w.before args s = true) (hown : s.vm.findClass RX8 = some m.cls) (hin2 : meth.name = "<init>") (hK : va_K D vwCl tys s) (hP : va_P D vwCl ws H) (hD : va_D A ws) (hS0 : va_S A H0 H locs) (q0 : Nat) {fs : List Value} (he : ws[q0]? = some (a, .inr (9, fs))) {v : Value} (hn : narrow (tyX8 1) v = v) (hfit : fits (tyX8 1) v = true) (hl : 1 < fs.length) (hdg : decode cc pc = .ok (.putfield 15, 3)) (kk : ∀ (H1 : Heap) (locs1 : List Loc), va_P D vwCl (ws.set q0 (a, .inr (9, fs.set 1 v))) H1 → va_D A (ws.set q0 (a, .inr (9, fs.set 1 v))) → va_S A H0 H1 locs1 → W p l e R s m args below meth c H1 locs1 cells slots Q (F0 m (pc + 3) ls rest)) : W p l e R s m args below meth c H locs cells slots Q (F0 m pc ls (v :: .ref a :: rest)) := va_putF (C := RX8) (T := TX8) (N := 12) (ci := 9) hx hb hts inX8 tyX8 tkX8 nmX8 hown hK hP hD hS0 q0 he rfl 1 (by decide) (hts _ t95) (fun _ h => h) rfl hin2 rfl (tkX8 1 (by decide)) hn hfit hl hdg kk
theorem dX8_init_21 : decode cX8_init 21 = .ok (.iconst 0, 1) := by decide +kernel
theorem dX8_init_22 : decode cX8_init 22 = .ok (.istore_n 1, 1) := by decide +kernel
theorem dX8_init_23 : decode cX8_init 23 = .ok (.iconst 0, 1) := by decide +kernel
theorem dX8_init_24 : decode cX8_init 24 = .ok (.istore_n 2, 1) := by decide +kernel
theorem dX8_init_25 : decode cX8_init 25 = .ok (.iload_n 2, 1) := by decide +kernel
theorem dX8_init_26 : decode cX8_init 26 = .ok (.ldc 19, 2) := by decide +kernel
theorem dX8_init_28 : decode cX8_init 28 = .ok (.invokevirtual 21, 3) := by decide +kernel
theorem t44 : Cond.methodLink RX8 21 yJ0_length_8abf5 ∈ GW := gw_mem 158 (by decide +kernel) (by decide +kernel)
theorem t45 : Cond.instanceMethod yJ0_length_8abf5 ∈ GW := gw_mem 159 (by decide +kernel) (by decide +kernel)
theorem t46 : Cond.selects RJ0 yJ0_length_8abf5 yJ0_length_8abf5 ∈ GW := gw_mem 160 (by decide +kernel) (by decide +kernel)
theorem cw_X8_21 {R : Room} {s : State} {args : Array Value} {rm : Room} {mc ms : Nat} (hts : ∀ w ∈ GW, w.before args s = true) (hrc : rm.cells = mc) (hrs : rm.slots = ms) (hR : rm.frames + 1 ≤ R.frames ∧ 8 + (1 + 11) + rm.locals ≤ R.locals) : CallW R s args RX8 RJ0 21 yJ0_length_8abf5 cJ0_length_8abf5 1 (some .int) (wl yJ0_length_8abf5 cJ0_length_8abf5 1 (some .int)) rm mc ms 0 := cwV 0 hts (gi_V t44 t45 t46 t3 t47) rfl hrc hrs (by decide +kernel) hR
theorem dX8_init_31 : decode cX8_init 31 = .ok (.if_icmp .ge 58, 3) := by decide +kernel
theorem dX8_init_89 : decode cX8_init 89 = .ok (.return_, 1) := by decide +kernel
theorem dX8_init_34 : decode cX8_init 34 = .ok (.iload_n 1, 1) := by decide +kernel
theorem dX8_init_35 : decode cX8_init 35 = .ok (.bipush 29, 2) := by decide +kernel
theorem dX8_init_37 : decode cX8_init 37 = .ok (.if_icmp .ge 52, 3) := by decide +kernel
theorem dX8_init_40 : decode cX8_init 40 = .ok (.ldc 19, 2) := by decide +kernel
theorem dX8_init_42 : decode cX8_init 42 = .ok (.iload_n 2, 1) := by decide +kernel
theorem dX8_init_43 : decode cX8_init 43 = .ok (.invokevirtual 27, 3) := by decide +kernel
theorem t54 : Cond.methodLink RX8 27 yJ0_charAt_5068e ∈ GW := gw_mem 168 (by decide +kernel) (by decide +kernel)
theorem t55 : Cond.instanceMethod yJ0_charAt_5068e ∈ GW := gw_mem 169 (by decide +kernel) (by decide +kernel)
theorem t56 : Cond.selects RJ0 yJ0_charAt_5068e yJ0_charAt_5068e ∈ GW := gw_mem 170 (by decide +kernel) (by decide +kernel)
theorem cw_X8_27 {R : Room} {s : State} {args : Array Value} {rm : Room} {mc ms : Nat} (hts : ∀ w ∈ GW, w.before args s = true) (hrc : rm.cells = mc) (hrs : rm.slots = ms) (hR : rm.frames + 1 ≤ R.frames ∧ 8 + (2 + 11) + rm.locals ≤ R.locals) : CallW R s args RX8 RJ0 27 yJ0_charAt_5068e cJ0_charAt_5068e 2 (some .char) (wl yJ0_charAt_5068e cJ0_charAt_5068e 2 (some .char)) rm mc ms 1 := cwV 1 hts (gi_V t54 t55 t56 t3 t57) rfl hrc hrs (by decide +kernel) hR
theorem dX8_init_46 : decode cX8_init 46 = .ok (.istore_n 3, 1) := by decide +kernel
theorem dX8_init_47 : decode cX8_init 47 = .ok (.iload_n 3, 1) := by decide +kernel
theorem dX8_init_48 : decode cX8_init 48 = .ok (.bipush 32, 2) := by decide +kernel
theorem dX8_init_50 : decode cX8_init 50 = .ok (.if_icmp .ne 9, 3) := by decide +kernel
theorem dX8_init_59 : decode cX8_init 59 = .ok (.aload_n 0, 1) := by decide +kernel
theorem dX8_init_60 : decode cX8_init 60 = .ok (.getfield 15, 3) := by decide +kernel
theorem dX8_init_63 : decode cX8_init 63 = .ok (.iload_n 1, 1) := by decide +kernel
theorem dX8_init_64 : decode cX8_init 64 = .ok (.aload_n 0, 1) := by decide +kernel
theorem dX8_init_65 : decode cX8_init 65 = .ok (.getfield 15, 3) := by decide +kernel
theorem dX8_init_68 : decode cX8_init 68 = .ok (.iload_n 1, 1) := by decide +kernel
theorem dX8_init_69 : decode cX8_init 69 = .ok (.laload, 1) := by decide +kernel
theorem dX8_init_70 : decode cX8_init 70 = .ok (.ldc2_w 31, 3) := by decide +kernel
theorem dX8_init_73 : decode cX8_init 73 = .ok (.lmul, 1) := by decide +kernel
theorem dX8_init_74 : decode cX8_init 74 = .ok (.iload_n 3, 1) := by decide +kernel
theorem dX8_init_75 : decode cX8_init 75 = .ok (.bipush 97, 2) := by decide +kernel
theorem dX8_init_77 : decode cX8_init 77 = .ok (.isub, 1) := by decide +kernel
theorem dX8_init_78 : decode cX8_init 78 = .ok (.iconst 1, 1) := by decide +kernel
theorem dX8_init_79 : decode cX8_init 79 = .ok (.iadd, 1) := by decide +kernel
theorem dX8_init_80 : decode cX8_init 80 = .ok (.i2l, 1) := by decide +kernel
theorem dX8_init_81 : decode cX8_init 81 = .ok (.ladd, 1) := by decide +kernel
theorem dX8_init_82 : decode cX8_init 82 = .ok (.lastore, 1) := by decide +kernel
theorem dX8_init_83 : decode cX8_init 83 = .ok (.iinc 2 1, 3) := by decide +kernel
theorem dX8_init_86 : decode cX8_init 86 = .ok (.goto (-61), 3) := by decide +kernel
theorem dX8_init_53 : decode cX8_init 53 = .ok (.iinc 1 1, 3) := by decide +kernel
theorem dX8_init_56 : decode cX8_init 56 = .ok (.goto 27, 3) := by decide +kernel
set_option maxHeartbeats 4000000 in
set_option maxRecDepth 100000 in
theorem n_Tape (l : Launch) (dC : Nat → ClassId) (dI : Nat → Nat → Nat) (cy : Nat → ClassId) (sz : Nat) (B : Nat → Prop) (kS vS : Nat → Nat) (h0 : Nat)  (hB : ∀ q : Nat, va_A [(h0, .inr (9, [.null, .null, .int 0, .int 0, .int 0, .int 0, .int 0, .int 0, .long 0, .int 0, .int 0, .int 0]))] sz q → B q) : Met l yX8_init (wl yX8_init cX8_init 4 none) ({ frames := 4, cells := 2, slots := 969, locals := 256 }) (Pw (dC, dI) vwCl cy [(h0, .inr (9, [.null, .null, .int 0, .int 0, .int 0, .int 0, .int 0, .int 0, .long 0, .int 0, .int 0, .int 0]))] sz [.ref h0] (EnvC B kS vS)) (Qv (dC, dI) vwCl (fun (u : Nat × Nat × (Nat → Int64)) => tkWC u.2.2) (O_n_Tape cy h0) (va_A [(h0, .inr (9, [.null, .null, .int 0, .int 0, .int 0, .int 0, .int 0, .int 0, .long 0, .int 0, .int 0, .int 0]))] sz)) 2 969 (va_A [(h0, .inr (9, [.null, .null, .int 0, .int 0, .int 0, .int 0, .int 0, .int 0, .long 0, .int 0, .int 0, .int 0]))] sz) := by
  refine mw (Qc := Qv (dC, dI) vwCl (fun (u : Nat × Nat × (Nat → Int64)) => tkWC u.2.2) (O_n_Tape cy h0)) RX8 rfl (by decide +kernel) (Nat.le_of_ble_eq_true rfl) ?_
  intro p e s m below meth c A hx hb hr hlocks av9 hav hts hown hnm hml hK hP hD hA hS hE hAe Q9 hQ9 ls hl
  have hAB : ∀ q : Nat, A q → B q := by rw [hAe]; exact hB
  have hEA := hE.narrow hAB
  have hl : lv_has ls 4 [(0, .ref h0)] := hl
  refine lv_aload_n hx hb dX8_init_0 rfl (lv_at hl 0 rfl) ?_
  refine W.objInit hx hb hown (hts _ t42) (hts _ t35) (hts _ t36) rfl (by rw [hml]; exact hl.1) rfl dX8_init_1 (Nat.le_of_ble_eq_true rfl) (Nat.le_of_ble_eq_true rfl) ?_
  refine W.eq (g2 := F0 m 4 ls []) rfl ?_
  refine lv_aload_n hx hb dX8_init_4 rfl (lv_at hl 0 rfl) ?_
  refine lv_sipush (v := 940) hx hb dX8_init_5 (by decide) ?_
  refine na_x (atype := .int) (a0 := (940, .inl (fun _ => 0))) (ty := .int) hx hb (hts _ t143) rfl 0 rfl hK hP hD hS hA (fun _ => rfl) (by decide) (N' := 940) rfl (Nat.le_of_ble_eq_true rfl) (Nat.le_of_ble_eq_true rfl) (Nat.le_of_ble_eq_true rfl) dX8_init_8 (fun q_1 H hP hD hS => ?_)
  have hP : va_P (dC, dI) vwCl [(h0, .inr (9, [.null, .null, .int 0, .int 0, .int 0, .int 0, .int 0, .int 0, .long 0, .int 0, .int 0, .int 0])), (q_1, .inl (cy 0, 940, .inl (fun _ => 0)))] H := hP
  have hD : va_D A [(h0, .inr (9, [.null, .null, .int 0, .int 0, .int 0, .int 0, .int 0, .int 0, .long 0, .int 0, .int 0, .int 0])), (q_1, .inl (cy 0, 940, .inl (fun _ => 0)))] := hD
  refine W.widen (k := 1) (n := 940) (by decide) (by decide) ?_
  refine pf_X8_9 hx hb hts hown hnm hK hP hD hS 0 rfl rfl rfl (Nat.le_of_ble_eq_true rfl) dX8_init_10 (fun H locs hP hD hS => ?_)
  have hP : va_P (dC, dI) vwCl [(h0, .inr (9, [.ref q_1, .null, .int 0, .int 0, .int 0, .int 0, .int 0, .int 0, .long 0, .int 0, .int 0, .int 0])), (q_1, .inl (cy 0, 940, .inl (fun _ => 0)))] H := hP
  have hD : va_D A [(h0, .inr (9, [.ref q_1, .null, .int 0, .int 0, .int 0, .int 0, .int 0, .int 0, .long 0, .int 0, .int 0, .int 0])), (q_1, .inl (cy 0, 940, .inl (fun _ => 0)))] := hD
  refine lv_aload_n hx hb dX8_init_13 rfl (lv_at hl 0 rfl) ?_
  refine lv_bipush (v := 29) hx hb dX8_init_14 (by decide) ?_
  refine na_x (atype := .long) (a0 := (29, .inr (.inl (fun _ => 0)))) (ty := .long) hx hb (hts _ t144) rfl 1 rfl hK hP hD hS hA (fun _ => rfl) (by decide) (N' := 29) rfl (Nat.le_of_ble_eq_true rfl) (Nat.le_of_ble_eq_true rfl) (Nat.le_of_ble_eq_true rfl) dX8_init_16 (fun q_2 H hP hD hS => ?_)
  have hP : va_P (dC, dI) vwCl [(h0, .inr (9, [.ref q_1, .null, .int 0, .int 0, .int 0, .int 0, .int 0, .int 0, .long 0, .int 0, .int 0, .int 0])), (q_1, .inl (cy 0, 940, .inl (fun _ => 0))), (q_2, .inl (cy 1, 29, .inr (.inl (fun _ => 0))))] H := hP
  have hD : va_D A [(h0, .inr (9, [.ref q_1, .null, .int 0, .int 0, .int 0, .int 0, .int 0, .int 0, .long 0, .int 0, .int 0, .int 0])), (q_1, .inl (cy 0, 940, .inl (fun _ => 0))), (q_2, .inl (cy 1, 29, .inr (.inl (fun _ => 0))))] := hD
  refine W.widen (k := 2) (n := 969) (by decide) (by decide) ?_
  refine pf_X8_15 hx hb hts hown hnm hK hP hD hS 0 rfl rfl rfl (Nat.le_of_ble_eq_true rfl) dX8_init_18 (fun H locs hP hD hS => ?_)
  have hP : va_P (dC, dI) vwCl [(h0, .inr (9, [.ref q_1, .ref q_2, .int 0, .int 0, .int 0, .int 0, .int 0, .int 0, .long 0, .int 0, .int 0, .int 0])), (q_1, .inl (cy 0, 940, .inl (fun _ => 0))), (q_2, .inl (cy 1, 29, .inr (.inl (fun _ => 0))))] H := hP
  have hD : va_D A [(h0, .inr (9, [.ref q_1, .ref q_2, .int 0, .int 0, .int 0, .int 0, .int 0, .int 0, .long 0, .int 0, .int 0, .int 0])), (q_1, .inl (cy 0, 940, .inl (fun _ => 0))), (q_2, .inl (cy 1, 29, .inr (.inl (fun _ => 0))))] := hD
  refine lv_iconst (v := 0) hx hb dX8_init_21 (by decide) ?_
  refine lv_istore_n (lv' := [(1, .int 0), (0, .ref h0)]) hx hb dX8_init_22 rfl hl (by decide) rfl (fun ls hl => ?_)
  refine lv_iconst (v := 0) hx hb dX8_init_23 (by decide) ?_
  refine lv_istore_n (lv' := [(2, .int 0), (1, .int 0), (0, .ref h0)]) hx hb dX8_init_24 rfl hl (by decide) rfl (fun ls hl => ?_)
  have loop3 : ∀ (n3_ i3 : Nat) (w9 : Nat) (g_4 : Nat → Int64) (hw9 : w9 ≤ 29) (hq9 : tkTQ i3 w9 g_4), i3 + n3_ = 153 → ∀ (H : Heap) (locs : List Loc), va_P (dC, dI) vwCl [(h0, .inr (9, [.ref q_1, .ref q_2, .int 0, .int 0, .int 0, .int 0, .int 0, .int 0, .long 0, .int 0, .int 0, .int 0])), (q_1, .inl (cy 0, 940, .inl (fun _ => 0))), (q_2, .inl (cy 1, 29, .inr (.inl g_4)))] H → va_D A [(h0, .inr (9, [.ref q_1, .ref q_2, .int 0, .int 0, .int 0, .int 0, .int 0, .int 0, .long 0, .int 0, .int 0, .int 0])), (q_1, .inl (cy 0, 940, .inl (fun _ => 0))), (q_2, .inl (cy 1, 29, .inr (.inl g_4)))] → va_S A s.heap H locs → ∀ ls : Array Slot, lv_has ls 4 [(0, .ref h0), (1, .int (nI w9)), (2, .int (nI i3))] → W p l e ({ frames := 4, cells := 2, slots := 969, locals := 256 }) s m av9 below meth c H locs 2 969 Q9 (F0 m 25 ls []) := by
    intro n3_
    induction n3_ with
    | zero =>
      intro i3 w9 g_4 hw9 hq9 hn3 H locs hP hD hS ls hl
      obtain rfl : i3 = 153 := by omega
      have hl : lv_has ls 4 [(0, .ref h0), (1, .int (nI w9)), (2, .int 153)] := hl
      have hP : va_P (dC, dI) vwCl [(h0, .inr (9, [.ref q_1, .ref q_2, .int 0, .int 0, .int 0, .int 0, .int 0, .int 0, .long 0, .int 0, .int 0, .int 0])), (q_1, .inl (cy 0, 940, .inl (fun _ => 0))), (q_2, .inl (cy 1, 29, .inr (.inl g_4)))] H := hP
      have hD : va_D A [(h0, .inr (9, [.ref q_1, .ref q_2, .int 0, .int 0, .int 0, .int 0, .int 0, .int 0, .long 0, .int 0, .int 0, .int 0])), (q_1, .inl (cy 0, 940, .inl (fun _ => 0))), (q_2, .inl (cy 1, 29, .inr (.inl g_4)))] := hD
      refine lv_iload_n hx hb dX8_init_25 rfl (lv_at hl 2 rfl) ?_
      refine va_ldcS (own := "LikenessPound$Tape") (index := 19) (tx := strT) (q := kS 0) hx hb hown hEA.1 dX8_init_26 ?_
      refine jr_i (rVe (As := []) (rest := [.int 153]) ⟨hx, hb, hml, hown, hts⟩ (j_length l kS vS  ) (cw_X8_21 hts rfl rfl ⟨Nat.le_of_ble_eq_true rfl, Nat.le_of_ble_eq_true rfl⟩) (vk_recv (i := 0) hEA.2.1 (by decide) hS) (EnvC.at hE hS hAB (fun _ h => h.elim)) rfl hl.1 rfl (Nat.le_of_ble_eq_true rfl) dX8_init_28 ⟨Nat.le_of_ble_eq_true rfl, Nat.le_of_ble_eq_true rfl⟩) hP hS (fun r_5 H locs hp_6 hP hS => ?_)
      refine as_i 153 hp_6 ?_
      refine lv_icmp_ge (tgt := 89) hx hb dX8_init_31 (by decide) (fun _ => ?_) (fun c9 => absurd (by decide) c9)
      refine W.widen (k := 2) (n := 969) (by decide) (by decide) ?_
      rw [hQ9]
      exact re_v (q_1, q_2, g_4) hx hb hr hlocks (tkTQ_end hq9) (hP.sub [0, 1, 2] rfl) (hD.sub [0, 1, 2] rfl rfl) hS dX8_init_89
    | succ n3_ ih3 =>
      intro i3 w9 g_4 hw9 hq9 hn3 H locs hP hD hS ls hl
      refine lv_iload_n hx hb dX8_init_25 rfl (lv_at hl 2 rfl) ?_
      refine va_ldcS (own := "LikenessPound$Tape") (index := 19) (tx := strT) (q := kS 0) hx hb hown hEA.1 dX8_init_26 ?_
      refine jr_i (rVe (As := []) (rest := [.int (nI i3)]) ⟨hx, hb, hml, hown, hts⟩ (j_length l kS vS  ) (cw_X8_21 hts rfl rfl ⟨Nat.le_of_ble_eq_true rfl, Nat.le_of_ble_eq_true rfl⟩) (vk_recv (i := 0) hEA.2.1 (by decide) hS) (EnvC.at hE hS hAB (fun _ h => h.elim)) rfl hl.1 rfl (Nat.le_of_ble_eq_true rfl) dX8_init_28 ⟨Nat.le_of_ble_eq_true rfl, Nat.le_of_ble_eq_true rfl⟩) hP hS (fun r_7 H locs hp_8 hP hS => ?_)
      refine as_i 153 hp_8 ?_
      refine lv_icmp_ge (tgt := 89) hx hb dX8_init_31 (by decide) (fun c9 => absurd c9 (nI_ge (a := i3) (b := 153) (by omega) (by omega))) (fun _ => ?_)
      refine lv_iload_n hx hb dX8_init_34 rfl (lv_at hl 1 rfl) ?_
      refine lv_bipush (v := 29) hx hb dX8_init_35 (by decide) ?_
      refine lv_icmp_ge (tgt := 89) hx hb dX8_init_37 (by decide) (fun c_9 => ?_) (fun c_9 => ?_)
      · skip
        refine W.widen (k := 2) (n := 969) (by decide) (by decide) ?_
        rw [hQ9]
        exact re_v (q_1, q_2, g_4) hx hb hr hlocks (tkTQ_no hq9 (by omega) (fun hw => absurd c_9 (nI_ge (a := w9) (b := 29) hw (by decide)))) (hP.sub [0, 1, 2] rfl) (hD.sub [0, 1, 2] rfl rfl) hS dX8_init_89
      · skip
        have hw : w9 < 29 := by
          rcases Nat.lt_or_ge w9 29 with h | h
          · exact h
          · exact absurd (nI_le (a := 29) h (by omega)) c_9
        refine va_ldcS (own := "LikenessPound$Tape") (index := 19) (tx := strT) (q := kS 0) hx hb hown hEA.1 dX8_init_40 ?_
        refine lv_iload_n hx hb dX8_init_42 rfl (lv_at hl 2 rfl) ?_
        refine jr_i (rVe (As := [.int (nI i3)]) (rest := []) ⟨hx, hb, hml, hown, hts⟩ (j_charAt l kS vS i3 (by omega)) (cw_X8_27 hts rfl rfl ⟨Nat.le_of_ble_eq_true rfl, Nat.le_of_ble_eq_true rfl⟩) (vk_recv (i := 0) hEA.2.1 (by decide) hS) (EnvC.at hE hS hAB (fun _ h => h.elim)) rfl hl.1 rfl (Nat.le_of_ble_eq_true rfl) dX8_init_43 ⟨Nat.le_of_ble_eq_true rfl, Nat.le_of_ble_eq_true rfl⟩) hP hS (fun r_10 H locs hp_11 hP hS => ?_)
        refine as_i (strB.getD i3 0 &&& 255) hp_11 ?_
        refine lv_istore_n (lv' := [(3, .int (strB.getD i3 0 &&& 255)), (0, .ref h0), (1, .int (nI w9)), (2, .int (nI i3))]) hx hb dX8_init_46 rfl hl (by decide) rfl (fun ls hl => ?_)
        refine lv_iload_n hx hb dX8_init_47 rfl (lv_at hl 0 rfl) ?_
        refine lv_bipush (v := 32) hx hb dX8_init_48 (by decide) ?_
        refine lv_icmp_ne (tgt := 59) hx hb dX8_init_50 (by decide) (fun c_12 => ?_) (fun c_12 => ?_)
        · skip
          refine lv_aload_n hx hb dX8_init_59 rfl (lv_at hl 1 rfl) ?_
          refine gf_X8_15 hx hb hts hown hK hP 0 rfl rfl dX8_init_60 ?_
          refine lv_iload_n hx hb dX8_init_63 rfl (lv_at hl 2 rfl) ?_
          refine lv_aload_n hx hb dX8_init_64 rfl (lv_at hl 1 rfl) ?_
          refine gf_X8_15 hx hb hts hown hK hP 0 rfl rfl dX8_init_65 ?_
          refine lv_iload_n hx hb dX8_init_68 rfl (lv_at hl 2 rfl) ?_
          refine va_lald hx hb hK hP 2 1 rfl rfl (vp_in_nI (n := w9) (N := 29) (by omega) (by omega)) dX8_init_69 ?_
          refine as_l (g_4 w9) (congrArg g_4 (nI_clamp (n := w9) (by omega))) ?_
          refine lv_ldc2 hx hb hown (hts _ t92) dX8_init_70 ?_
          refine lv_lmul hx hb dX8_init_73 ?_
          refine lv_iload_n hx hb dX8_init_74 rfl (lv_at hl 0 rfl) ?_
          refine lv_bipush (v := 97) hx hb dX8_init_75 (by decide) ?_
          refine lv_isub hx hb dX8_init_77 ?_
          refine lv_iconst (v := 1) hx hb dX8_init_78 (by decide) ?_
          refine lv_iadd hx hb dX8_init_79 ?_
          refine lv_i2l hx hb dX8_init_80 rfl ?_
          refine lv_ladd hx hb dX8_init_81 ?_
          refine va_last hx hb hK hP hD hS 2 1 rfl rfl (vp_in_nI (n := w9) (N := 29) (by omega) (by omega)) dX8_init_82 (fun H locs hP hD hS => ?_)
          obtain ⟨f_13, ef_13⟩ : ∃ z : Nat → Int64, z = vp_updL g_4 (Int32.toNatClampNeg (nI w9)) (((g_4 w9) * 32) + (Int32.toInt64 (((strB.getD i3 0 &&& 255) - 97) + 1))) := ⟨_, rfl⟩
          have hP : va_P (dC, dI) vwCl [(h0, .inr (9, [.ref q_1, .ref q_2, .int 0, .int 0, .int 0, .int 0, .int 0, .int 0, .long 0, .int 0, .int 0, .int 0])), (q_1, .inl (cy 0, 940, .inl (fun _ => 0))), (q_2, .inl (cy 1, 29, .inr (.inl f_13)))] H := by rw [ef_13]; exact hP
          have hD : va_D A [(h0, .inr (9, [.ref q_1, .ref q_2, .int 0, .int 0, .int 0, .int 0, .int 0, .int 0, .long 0, .int 0, .int 0, .int 0])), (q_1, .inl (cy 0, 940, .inl (fun _ => 0))), (q_2, .inl (cy 1, 29, .inr (.inl f_13)))] := by rw [ef_13]; exact hD
          rw [(nI_clamp (n := w9) (by omega))] at ef_13
          refine lv_iinc (v := nI (i3 + 1)) (lv' := [(2, .int (nI (i3 + 1))), (3, .int (strB.getD i3 0 &&& 255)), (0, .ref h0), (1, .int (nI w9))]) hx hb dX8_init_83 hl (k := 3) rfl (nI_add i3 1) (by decide) rfl (fun ls hl => ?_)
          refine lv_goto (tgt := 25) hx hb dX8_init_86 (by decide) ?_
          exact ih3 (i3 + 1) w9 f_13 (by omega) (tkTQ_let hq9 c_12 ef_13 rfl) (by omega) _ _ (hP.sub [0, 1, 2] rfl) (hD.sub [0, 1, 2] rfl rfl) hS ls (lv_sub hl [2, 3, 0] rfl)
        · skip
          refine lv_iinc (v := nI (w9 + 1)) (lv' := [(1, .int (nI (w9 + 1))), (3, .int (strB.getD i3 0 &&& 255)), (0, .ref h0), (2, .int (nI i3))]) hx hb dX8_init_53 hl (k := 2) rfl (nI_add w9 1) (by decide) rfl (fun ls hl => ?_)
          refine lv_goto (tgt := 83) hx hb dX8_init_56 (by decide) ?_
          refine lv_iinc (v := nI (i3 + 1)) (lv' := [(2, .int (nI (i3 + 1))), (1, .int (nI (w9 + 1))), (3, .int (strB.getD i3 0 &&& 255)), (0, .ref h0)]) hx hb dX8_init_83 hl (k := 3) rfl (nI_add i3 1) (by decide) rfl (fun ls hl => ?_)
          refine lv_goto (tgt := 25) hx hb dX8_init_86 (by decide) ?_
          exact ih3 (i3 + 1) (w9 + 1) g_4 (by omega) (tkTQ_sp hq9 c_12) (by omega) _ _ (hP.sub [0, 1, 2] rfl) (hD.sub [0, 1, 2] rfl rfl) hS ls (lv_sub hl [3, 1, 0] rfl)
  exact loop3 153 0 0 (fun _ => 0) (by decide) ⟨rfl, fun _ _ => rfl⟩ (by omega) _ _ hP hD hS ls (lv_sub hl [2, 1, 0] rfl)
def RJ5 : String := "java/lang/AbstractStringBuilder"
abbrev cJ5_init_d00df : ByteArray := prog_15_method_2_code
def yJ5_init_d00df : MethodName := ⟨RJ5, "<init>", "(I)V"⟩
theorem t337 : Cond.code yJ5_init_d00df cJ5_init_d00df 2 none ∈ GW := gw_mem 451 (by decide +kernel) (by decide +kernel)
abbrev O_n_J5 (cy : Nat → ClassId) (h0 : Nat) (u : Nat) : va_W := [(h0, .inr (0, [.ref u, .int 0, .int 0, .int 0])), (u, .inl (cy 3, 16, .inl (fun _ => 0)))]
theorem dJ5_init_d00df_0 : decode cJ5_init_d00df 0 = .ok (.aload_n 0, 1) := by decide +kernel
theorem dJ5_init_d00df_1 : decode cJ5_init_d00df 1 = .ok (.invokespecial 3, 3) := by decide +kernel
theorem t338 : Cond.methodLink RJ5 3 objectInit ∈ GW := gw_mem 452 (by decide +kernel) (by decide +kernel)
theorem dJ5_init_d00df_4 : decode cJ5_init_d00df 4 = .ok (.getstatic 18, 3) := by decide +kernel
theorem t339 : Cond.fieldLink RJ5 18 "java/lang/String" "COMPACT_STRINGS" "Z" ∈ GW := gw_mem 453 (by decide +kernel) (by decide +kernel)
theorem dJ5_init_d00df_7 : decode cJ5_init_d00df 7 = .ok (.ifCond .eq 18, 3) := by decide +kernel
theorem dJ5_init_d00df_10 : decode cJ5_init_d00df 10 = .ok (.aload_n 0, 1) := by decide +kernel
theorem dJ5_init_d00df_11 : decode cJ5_init_d00df 11 = .ok (.iload_n 1, 1) := by decide +kernel
theorem dJ5_init_d00df_12 : decode cJ5_init_d00df 12 = .ok (.newarray .byte, 2) := by decide +kernel
theorem t145 : Cond.arrayClass .byte ∈ GW := gw_mem 259 (by decide +kernel) (by decide +kernel)
theorem dJ5_init_d00df_14 : decode cJ5_init_d00df 14 = .ok (.putfield 15, 3) := by decide +kernel
theorem t347 : Cond.fieldLink RJ5 15 "java/lang/AbstractStringBuilder" "value" "[B" ∈ GW := gw_mem 461 (by decide +kernel) (by decide +kernel)
theorem pf_J5_15 {p : Program} {l : Launch} {e : Env} {R : Room} {s : State} {m : MethodId} {args : Array Value} {below : List Frame} {meth : Method} {c : Code} {H : Heap} {locs : List Loc} {cells slots : Nat} {Q : State → Prop} {cc : ByteArray} {pc : Nat} {ls : Array Slot} {rest : List Value} {D : va_G} {A : Nat → Prop} {a : Nat} {tys : List (ClassId × FieldType)} {ws : va_W} {H0 : Heap} (hx : p.tables.exec = Jvm.exec) (hb : c.code = cc) (hts : ∀ w ∈ GW, w.before args s = true) (hown : s.vm.findClass RJ5 = some m.cls) (hK : va_K D vwCl tys s) (hP : va_P D vwCl ws H) (hD : va_D A ws) (hS0 : va_S A H0 H locs) (q0 : Nat) {fs : List Value} (he : ws[q0]? = some (a, .inr (0, fs))) {v : Value} (hn : narrow (tyJ4 0) v = v) (hfit : fits (tyJ4 0) v = true) (hl : 0 < fs.length) (hdg : decode cc pc = .ok (.putfield 15, 3)) (kk : ∀ (H1 : Heap) (locs1 : List Loc), va_P D vwCl (ws.set q0 (a, .inr (0, fs.set 0 v))) H1 → va_D A (ws.set q0 (a, .inr (0, fs.set 0 v))) → va_S A H0 H1 locs1 → W p l e R s m args below meth c H1 locs1 cells slots Q (F0 m (pc + 3) ls rest)) : W p l e R s m args below meth c H locs cells slots Q (F0 m pc ls (v :: .ref a :: rest)) := va_put (C := RJ4) (T := TJ4) (N := 4) (ci := 0) hx hb hts inJ4 tyJ4 tkJ4 nmJ4 hown hK hP hD hS0 q0 he rfl 0 (by decide) (hts _ t347) (fun _ h => h) rfl (tkJ4 0 (by decide)) hn hfit hl hdg kk
theorem dJ5_init_d00df_17 : decode cJ5_init_d00df 17 = .ok (.aload_n 0, 1) := by decide +kernel
theorem dJ5_init_d00df_18 : decode cJ5_init_d00df 18 = .ok (.iconst 0, 1) := by decide +kernel
theorem dJ5_init_d00df_19 : decode cJ5_init_d00df 19 = .ok (.putfield 22, 3) := by decide +kernel
theorem t348 : Cond.fieldLink RJ5 22 "java/lang/AbstractStringBuilder" "coder" "B" ∈ GW := gw_mem 462 (by decide +kernel) (by decide +kernel)
theorem pf_J5_22 {p : Program} {l : Launch} {e : Env} {R : Room} {s : State} {m : MethodId} {args : Array Value} {below : List Frame} {meth : Method} {c : Code} {H : Heap} {locs : List Loc} {cells slots : Nat} {Q : State → Prop} {cc : ByteArray} {pc : Nat} {ls : Array Slot} {rest : List Value} {D : va_G} {A : Nat → Prop} {a : Nat} {tys : List (ClassId × FieldType)} {ws : va_W} {H0 : Heap} (hx : p.tables.exec = Jvm.exec) (hb : c.code = cc) (hts : ∀ w ∈ GW, w.before args s = true) (hown : s.vm.findClass RJ5 = some m.cls) (hK : va_K D vwCl tys s) (hP : va_P D vwCl ws H) (hD : va_D A ws) (hS0 : va_S A H0 H locs) (q0 : Nat) {fs : List Value} (he : ws[q0]? = some (a, .inr (0, fs))) {v : Value} (hn : narrow (tyJ4 1) v = v) (hfit : fits (tyJ4 1) v = true) (hl : 1 < fs.length) (hdg : decode cc pc = .ok (.putfield 22, 3)) (kk : ∀ (H1 : Heap) (locs1 : List Loc), va_P D vwCl (ws.set q0 (a, .inr (0, fs.set 1 v))) H1 → va_D A (ws.set q0 (a, .inr (0, fs.set 1 v))) → va_S A H0 H1 locs1 → W p l e R s m args below meth c H1 locs1 cells slots Q (F0 m (pc + 3) ls rest)) : W p l e R s m args below meth c H locs cells slots Q (F0 m pc ls (v :: .ref a :: rest)) := va_put (C := RJ4) (T := TJ4) (N := 4) (ci := 0) hx hb hts inJ4 tyJ4 tkJ4 nmJ4 hown hK hP hD hS0 q0 he rfl 1 (by decide) (hts _ t348) (fun _ h => h) rfl (tkJ4 1 (by decide)) hn hfit hl hdg kk
theorem dJ5_init_d00df_22 : decode cJ5_init_d00df 22 = .ok (.goto 16, 3) := by decide +kernel
theorem dJ5_init_d00df_38 : decode cJ5_init_d00df 38 = .ok (.return_, 1) := by decide +kernel
set_option maxHeartbeats 4000000 in
set_option maxRecDepth 100000 in
theorem n_J5 (l : Launch) (dC : Nat → ClassId) (dI : Nat → Nat → Nat) (cy : Nat → ClassId) (sz : Nat) (B : Nat → Prop) (kS vS : Nat → Nat) (h0 : Nat)  (hB : ∀ q : Nat, va_A [(h0, .inr (0, [.null, .int 0, .int 0, .int 0]))] sz q → B q) : Met l yJ5_init_d00df (wl yJ5_init_d00df cJ5_init_d00df 2 none) ({ frames := 1, cells := 1, slots := 16, locals := 64 }) (Pw (dC, dI) vwCl cy [(h0, .inr (0, [.null, .int 0, .int 0, .int 0]))] sz [.ref h0, .int 16] (EnvC B kS vS)) (Qv (dC, dI) vwCl (fun (u : Nat) => True) (O_n_J5 cy h0) (va_A [(h0, .inr (0, [.null, .int 0, .int 0, .int 0]))] sz)) 1 16 (va_A [(h0, .inr (0, [.null, .int 0, .int 0, .int 0]))] sz) := by
  refine mw (Qc := Qv (dC, dI) vwCl (fun (u : Nat) => True) (O_n_J5 cy h0)) RJ5 rfl (by decide +kernel) (Nat.le_of_ble_eq_true rfl) ?_
  intro p e s m below meth c A hx hb hr hlocks av9 hav hts hown hnm hml hK hP hD hA hS hE hAe Q9 hQ9 ls hl
  have hAB : ∀ q : Nat, A q → B q := by rw [hAe]; exact hB
  have hEA := hE.narrow hAB
  have hl : lv_has ls 2 [(0, .ref h0), (1, .int 16)] := hl
  refine lv_aload_n hx hb dJ5_init_d00df_0 rfl (lv_at hl 0 rfl) ?_
  refine W.objInit hx hb hown (hts _ t338) (hts _ t35) (hts _ t36) rfl (by rw [hml]; exact hl.1) rfl dJ5_init_d00df_1 (Nat.le_of_ble_eq_true rfl) (Nat.le_of_ble_eq_true rfl) ?_
  refine W.eq (g2 := F0 m 4 ls []) rfl ?_
  refine va_gets hx hb hEA.2.2.1 hS hown (hts _ t339) (fun _ h => h) dJ5_init_d00df_4 ?_
  refine lv_if_eq (tgt := 25) hx hb dJ5_init_d00df_7 (by decide) (fun c9 => absurd c9 (by decide)) (fun _ => ?_)
  refine lv_aload_n hx hb dJ5_init_d00df_10 rfl (lv_at hl 0 rfl) ?_
  refine lv_iload_n hx hb dJ5_init_d00df_11 rfl (lv_at hl 1 rfl) ?_
  refine na_x (atype := .byte) (a0 := (16, .inl (fun _ => 0))) (ty := .byte) hx hb (hts _ t145) rfl 3 rfl hK hP hD hS hA (fun _ => rfl) (by decide) (N' := 16) rfl (Nat.le_of_ble_eq_true rfl) (Nat.le_of_ble_eq_true rfl) (Nat.le_of_ble_eq_true rfl) dJ5_init_d00df_12 (fun q_1 H hP hD hS => ?_)
  have hP : va_P (dC, dI) vwCl [(h0, .inr (0, [.null, .int 0, .int 0, .int 0])), (q_1, .inl (cy 3, 16, .inl (fun _ => 0)))] H := hP
  have hD : va_D A [(h0, .inr (0, [.null, .int 0, .int 0, .int 0])), (q_1, .inl (cy 3, 16, .inl (fun _ => 0)))] := hD
  refine W.widen (k := 1) (n := 16) (by decide) (by decide) ?_
  refine pf_J5_15 hx hb hts hown hK hP hD hS 0 rfl rfl rfl (Nat.le_of_ble_eq_true rfl) dJ5_init_d00df_14 (fun H locs hP hD hS => ?_)
  have hP : va_P (dC, dI) vwCl [(h0, .inr (0, [.ref q_1, .int 0, .int 0, .int 0])), (q_1, .inl (cy 3, 16, .inl (fun _ => 0)))] H := hP
  have hD : va_D A [(h0, .inr (0, [.ref q_1, .int 0, .int 0, .int 0])), (q_1, .inl (cy 3, 16, .inl (fun _ => 0)))] := hD
  refine lv_aload_n hx hb dJ5_init_d00df_17 rfl (lv_at hl 0 rfl) ?_
  refine lv_iconst (v := 0) hx hb dJ5_init_d00df_18 (by decide) ?_
  refine pf_J5_22 hx hb hts hown hK hP hD hS 0 rfl rfl rfl (Nat.le_of_ble_eq_true rfl) dJ5_init_d00df_19 (fun H locs hP hD hS => ?_)
  have hP : va_P (dC, dI) vwCl [(h0, .inr (0, [.ref q_1, .int 0, .int 0, .int 0])), (q_1, .inl (cy 3, 16, .inl (fun _ => 0)))] H := hP
  have hD : va_D A [(h0, .inr (0, [.ref q_1, .int 0, .int 0, .int 0])), (q_1, .inl (cy 3, 16, .inl (fun _ => 0)))] := hD
  refine lv_goto (tgt := 38) hx hb dJ5_init_d00df_22 (by decide) ?_
  refine W.widen (k := 1) (n := 16) (by decide) (by decide) ?_
  rw [hQ9]
  exact re_v q_1 hx hb hr hlocks trivial (hP.sub [0, 1] rfl) (hD.sub [0, 1] rfl rfl) hS dJ5_init_d00df_38
abbrev cJ4_init_da8c8 : ByteArray := prog_26_method_1_code
def yJ4_init_da8c8 : MethodName := ⟨RJ4, "<init>", "()V"⟩
theorem t334 : Cond.code yJ4_init_da8c8 cJ4_init_da8c8 1 none ∈ GW := gw_mem 448 (by decide +kernel) (by decide +kernel)
abbrev O_n_J4 (cy : Nat → ClassId) (h0 : Nat) (u : Nat) : va_W := [(h0, .inr (0, [.ref u, .int 0, .int 0, .int 0])), (u, .inl (cy 3, 16, .inl (fun _ => 0)))]
theorem dJ4_init_da8c8_0 : decode cJ4_init_da8c8 0 = .ok (.aload_n 0, 1) := by decide +kernel
theorem dJ4_init_da8c8_1 : decode cJ4_init_da8c8 1 = .ok (.bipush 16, 2) := by decide +kernel
theorem dJ4_init_da8c8_3 : decode cJ4_init_da8c8 3 = .ok (.invokespecial 1, 3) := by decide +kernel
theorem t335 : Cond.methodLink RJ4 1 yJ5_init_d00df ∈ GW := gw_mem 449 (by decide +kernel) (by decide +kernel)
theorem t13 : Cond.initialized RJ5 ∈ GW := gw_mem 127 (by decide +kernel) (by decide +kernel)
theorem t336 : Cond.instanceMethod yJ5_init_d00df ∈ GW := gw_mem 450 (by decide +kernel) (by decide +kernel)
theorem cw_J4_1 {R : Room} {s : State} {args : Array Value} {rm : Room} {mc ms : Nat} (hts : ∀ w ∈ GW, w.before args s = true) (hrc : rm.cells = mc) (hrs : rm.slots = ms) (hR : rm.frames + 1 ≤ R.frames ∧ 8 + (2 + 11) + rm.locals ≤ R.locals) : CallB R s args RJ4 1 yJ5_init_d00df cJ5_init_d00df 2 none (wl yJ5_init_d00df cJ5_init_d00df 2 none) rm mc ms 1 ∧ yJ5_init_d00df.name = "<init>" ∧ (Cond.instanceMethod yJ5_init_d00df).before args s = true := cwI 1 hts (gi_of t337) rfl hrc hrs (hts _ t13) (hts _ t335) (hts _ t336) rfl (by decide +kernel) hR
theorem dJ4_init_da8c8_6 : decode cJ4_init_da8c8 6 = .ok (.return_, 1) := by decide +kernel
set_option maxHeartbeats 4000000 in
set_option maxRecDepth 100000 in
theorem n_J4 (l : Launch) (dC : Nat → ClassId) (dI : Nat → Nat → Nat) (cy : Nat → ClassId) (sz : Nat) (B : Nat → Prop) (kS vS : Nat → Nat) (h0 : Nat)  (hB : ∀ q : Nat, va_A [(h0, .inr (0, [.null, .int 0, .int 0, .int 0]))] sz q → B q) : Met l yJ4_init_da8c8 (wl yJ4_init_da8c8 cJ4_init_da8c8 1 none) ({ frames := 2, cells := 1, slots := 16, locals := 128 }) (Pw (dC, dI) vwCl cy [(h0, .inr (0, [.null, .int 0, .int 0, .int 0]))] sz [.ref h0] (EnvC B kS vS)) (Qv (dC, dI) vwCl (fun (u : Nat) => True) (O_n_J4 cy h0) (va_A [(h0, .inr (0, [.null, .int 0, .int 0, .int 0]))] sz)) 1 16 (va_A [(h0, .inr (0, [.null, .int 0, .int 0, .int 0]))] sz) := by
  refine mw (Qc := Qv (dC, dI) vwCl (fun (u : Nat) => True) (O_n_J4 cy h0)) RJ4 rfl (by decide +kernel) (Nat.le_of_ble_eq_true rfl) ?_
  intro p e s m below meth c A hx hb hr hlocks av9 hav hts hown hnm hml hK hP hD hA hS hE hAe Q9 hQ9 ls hl
  have hAB : ∀ q : Nat, A q → B q := by rw [hAe]; exact hB
  have hEA := hE.narrow hAB
  have hl : lv_has ls 1 [(0, .ref h0)] := hl
  refine lv_aload_n hx hb dJ4_init_da8c8_0 rfl (lv_at hl 0 rfl) ?_
  refine lv_bipush (v := 16) hx hb dJ4_init_da8c8_1 (by decide) ?_
  refine jn_v (wr := []) (rI (As := [.int 16]) (rest := []) ⟨hx, hb, hml, hown, hts⟩ (n_J5 l dC dI cy _ B kS vS h0  (fun q hq => hAB q (va_free hD hS hA [0] rfl q hq))) (cw_J4_1 hts rfl rfl ⟨Nat.le_of_ble_eq_true rfl, Nat.le_of_ble_eq_true rfl⟩) hP hD hK [0] rfl rfl EnvC.calling (EnvC.at hE hS hAB (fun _ h => h)) rfl hl.1 rfl (Nat.le_of_ble_eq_true rfl) dJ4_init_da8c8_3 ⟨Nat.le_of_ble_eq_true rfl, Nat.le_of_ble_eq_true rfl⟩) hP hD hS hA [0] [] rfl rfl rfl (by decide) (fun u_3 H locs hp_2 hP hD hS => ?_)
  obtain ⟨bv_4, rfl⟩ : ∃ z, z = u_3 := ⟨_, rfl⟩
  have hp_2 : True := hp_2
  have hP : va_P (dC, dI) vwCl [(h0, .inr (0, [.ref bv_4, .int 0, .int 0, .int 0])), (bv_4, .inl (cy 3, 16, .inl (fun _ => 0)))] H := hP
  have hD : va_D A [(h0, .inr (0, [.ref bv_4, .int 0, .int 0, .int 0])), (bv_4, .inl (cy 3, 16, .inl (fun _ => 0)))] := hD
  refine W.widen (k := 1) (n := 16) (by decide) (by decide) ?_
  refine W.widen (k := 1) (n := 16) (by decide) (by decide) ?_
  rw [hQ9]
  exact re_v bv_4 hx hb hr hlocks trivial (hP.sub [0, 1] rfl) (hD.sub [0, 1] rfl rfl) hS dJ4_init_da8c8_6
